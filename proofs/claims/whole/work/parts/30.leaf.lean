theorem k_X11_isSource (l : Launch) (E : AX) (b : Bool) (I L : Nat → Nat → Int) (x : Int) : Con l E 1 90 [vI x] (MW b I L) 0 0 (fun rt w => ((0 ≤ x ∧ x ≤ 5) ∧ rt = some (vI 1) ∧ w = MW b I L) ∨ ((¬ (0 ≤ x ∧ x ≤ 5)) ∧ rt = some (vI 0) ∧ w = MW b I L)) := by
  refine con_intro (by decide) (Nat.le_of_ble_eq_true rfl) ?_
  show Rch l E 1 90 _ _ _ _ (0, [some (vI x)], [], MW b I L)
  refine rch_run rfl (by decide) 1 (t' := (1, [some (vI x)], [vI x], MW b I L)) (ps := []) rfl trivial ?_
  refine rch_br rfl (cd := x < 0) (t1 := (14, [some (vI x)], [], MW b I L)) (t2 := (4, [some (vI x)], [], MW b I L)) rfl (fun c1_1 => ?_) (fun c1_1 => ?_)
  · refine rch_run rfl (by decide) 1 (t' := (15, [some (vI x)], [vI 0], MW b I L)) (ps := []) rfl trivial ?_
    refine rch_ret rfl (rt := some (vI 0)) rfl (Or.inl rfl) mw_c ?_
    first | exact Or.inl ⟨by omega, rfl, rfl⟩ | exact Or.inr (⟨by omega, rfl, rfl⟩) | (exfalso; omega)
  · refine rch_run rfl (by decide) 2 (t' := (7, [some (vI x)], [vI 6, vI x], MW b I L)) (ps := []) rfl trivial ?_
    refine rch_br rfl (cd := (6 : Int) ≤ x) (t1 := (14, [some (vI x)], [], MW b I L)) (t2 := (10, [some (vI x)], [], MW b I L)) rfl (fun c7_2 => ?_) (fun c7_2 => ?_)
    · refine rch_run rfl (by decide) 1 (t' := (15, [some (vI x)], [vI 0], MW b I L)) (ps := []) rfl trivial ?_
      refine rch_ret rfl (rt := some (vI 0)) rfl (Or.inl rfl) mw_c ?_
      first | exact Or.inl ⟨by omega, rfl, rfl⟩ | exact Or.inr (⟨by omega, rfl, rfl⟩) | (exfalso; omega)
    · refine rch_run rfl (by decide) 2 (t' := (15, [some (vI x)], [vI 1], MW b I L)) (ps := []) rfl trivial ?_
      refine rch_ret rfl (rt := some (vI 1)) rfl (Or.inr rfl) mw_c ?_
      first | exact Or.inl ⟨by omega, rfl, rfl⟩ | exact Or.inr (⟨by omega, rfl, rfl⟩) | (exfalso; omega)

theorem k_X11_isField (l : Launch) (E : AX) (b : Bool) (I L : Nat → Nat → Int) (x : Int) : Con l E 1 91 [vI x] (MW b I L) 0 0 (fun rt w => ((0 ≤ x ∧ x ≤ 5) ∧ rt = some (vI 1) ∧ w = MW b I L) ∨ ((¬ (0 ≤ x ∧ x ≤ 5)) ∧ rt = some (vI 0) ∧ w = MW b I L)) := by
  refine con_intro (by decide) (Nat.le_of_ble_eq_true rfl) ?_
  show Rch l E 1 91 _ _ _ _ (0, [some (vI x)], [], MW b I L)
  refine rch_run rfl (by decide) 1 (t' := (1, [some (vI x)], [vI x], MW b I L)) (ps := []) rfl trivial ?_
  refine rch_br rfl (cd := x < 0) (t1 := (14, [some (vI x)], [], MW b I L)) (t2 := (4, [some (vI x)], [], MW b I L)) rfl (fun c1_1 => ?_) (fun c1_1 => ?_)
  · refine rch_run rfl (by decide) 1 (t' := (15, [some (vI x)], [vI 0], MW b I L)) (ps := []) rfl trivial ?_
    refine rch_ret rfl (rt := some (vI 0)) rfl (Or.inl rfl) mw_c ?_
    first | exact Or.inl ⟨by omega, rfl, rfl⟩ | exact Or.inr (⟨by omega, rfl, rfl⟩) | (exfalso; omega)
  · refine rch_run rfl (by decide) 2 (t' := (7, [some (vI x)], [vI 6, vI x], MW b I L)) (ps := []) rfl trivial ?_
    refine rch_br rfl (cd := (6 : Int) ≤ x) (t1 := (14, [some (vI x)], [], MW b I L)) (t2 := (10, [some (vI x)], [], MW b I L)) rfl (fun c7_2 => ?_) (fun c7_2 => ?_)
    · refine rch_run rfl (by decide) 1 (t' := (15, [some (vI x)], [vI 0], MW b I L)) (ps := []) rfl trivial ?_
      refine rch_ret rfl (rt := some (vI 0)) rfl (Or.inl rfl) mw_c ?_
      first | exact Or.inl ⟨by omega, rfl, rfl⟩ | exact Or.inr (⟨by omega, rfl, rfl⟩) | (exfalso; omega)
    · refine rch_run rfl (by decide) 2 (t' := (15, [some (vI x)], [vI 1], MW b I L)) (ps := []) rfl trivial ?_
      refine rch_ret rfl (rt := some (vI 1)) rfl (Or.inr rfl) mw_c ?_
      first | exact Or.inl ⟨by omega, rfl, rfl⟩ | exact Or.inr (⟨by omega, rfl, rfl⟩) | (exfalso; omega)

theorem k_X11_isValue (l : Launch) (E : AX) (b : Bool) (I L : Nat → Nat → Int) (x : Int) : Con l E 1 92 [vI x] (MW b I L) 0 0 (fun rt w => ((0 ≤ x ∧ x ≤ 999999) ∧ rt = some (vI 1) ∧ w = MW b I L) ∨ ((¬ (0 ≤ x ∧ x ≤ 999999)) ∧ rt = some (vI 0) ∧ w = MW b I L)) := by
  refine con_intro (by decide) (Nat.le_of_ble_eq_true rfl) ?_
  show Rch l E 1 92 _ _ _ _ (0, [some (vI x)], [], MW b I L)
  refine rch_run rfl (by decide) 1 (t' := (1, [some (vI x)], [vI x], MW b I L)) (ps := []) rfl trivial ?_
  refine rch_br rfl (cd := x < 0) (t1 := (14, [some (vI x)], [], MW b I L)) (t2 := (4, [some (vI x)], [], MW b I L)) rfl (fun c1_1 => ?_) (fun c1_1 => ?_)
  · refine rch_run rfl (by decide) 1 (t' := (15, [some (vI x)], [vI 0], MW b I L)) (ps := []) rfl trivial ?_
    refine rch_ret rfl (rt := some (vI 0)) rfl (Or.inl rfl) mw_c ?_
    first | exact Or.inl ⟨by omega, rfl, rfl⟩ | exact Or.inr (⟨by omega, rfl, rfl⟩) | (exfalso; omega)
  · refine rch_run rfl (by decide) 2 (t' := (7, [some (vI x)], [vI 999999, vI x], MW b I L)) (ps := []) rfl trivial ?_
    refine rch_br rfl (cd := (999999 : Int) < x) (t1 := (14, [some (vI x)], [], MW b I L)) (t2 := (10, [some (vI x)], [], MW b I L)) rfl (fun c7_2 => ?_) (fun c7_2 => ?_)
    · refine rch_run rfl (by decide) 1 (t' := (15, [some (vI x)], [vI 0], MW b I L)) (ps := []) rfl trivial ?_
      refine rch_ret rfl (rt := some (vI 0)) rfl (Or.inl rfl) mw_c ?_
      first | exact Or.inl ⟨by omega, rfl, rfl⟩ | exact Or.inr (⟨by omega, rfl, rfl⟩) | (exfalso; omega)
    · refine rch_run rfl (by decide) 2 (t' := (15, [some (vI x)], [vI 1], MW b I L)) (ps := []) rfl trivial ?_
      refine rch_ret rfl (rt := some (vI 1)) rfl (Or.inr rfl) mw_c ?_
      first | exact Or.inl ⟨by omega, rfl, rfl⟩ | exact Or.inr (⟨by omega, rfl, rfl⟩) | (exfalso; omega)

theorem k_X12_isSource (l : Launch) (E : AX) (b : Bool) (I L : Nat → Nat → Int) (x : Int) : Con l E 1 103 [vI x] (MW b I L) 0 0 (fun rt w => ((0 ≤ x ∧ x ≤ 5) ∧ rt = some (vI 1) ∧ w = MW b I L) ∨ ((¬ (0 ≤ x ∧ x ≤ 5)) ∧ rt = some (vI 0) ∧ w = MW b I L)) := by
  refine con_intro (by decide) (Nat.le_of_ble_eq_true rfl) ?_
  show Rch l E 1 103 _ _ _ _ (0, [some (vI x)], [], MW b I L)
  refine rch_run rfl (by decide) 1 (t' := (1, [some (vI x)], [vI x], MW b I L)) (ps := []) rfl trivial ?_
  refine rch_br rfl (cd := x < 0) (t1 := (14, [some (vI x)], [], MW b I L)) (t2 := (4, [some (vI x)], [], MW b I L)) rfl (fun c1_1 => ?_) (fun c1_1 => ?_)
  · refine rch_run rfl (by decide) 1 (t' := (15, [some (vI x)], [vI 0], MW b I L)) (ps := []) rfl trivial ?_
    refine rch_ret rfl (rt := some (vI 0)) rfl (Or.inl rfl) mw_c ?_
    first | exact Or.inl ⟨by omega, rfl, rfl⟩ | exact Or.inr (⟨by omega, rfl, rfl⟩) | (exfalso; omega)
  · refine rch_run rfl (by decide) 2 (t' := (7, [some (vI x)], [vI 6, vI x], MW b I L)) (ps := []) rfl trivial ?_
    refine rch_br rfl (cd := (6 : Int) ≤ x) (t1 := (14, [some (vI x)], [], MW b I L)) (t2 := (10, [some (vI x)], [], MW b I L)) rfl (fun c7_2 => ?_) (fun c7_2 => ?_)
    · refine rch_run rfl (by decide) 1 (t' := (15, [some (vI x)], [vI 0], MW b I L)) (ps := []) rfl trivial ?_
      refine rch_ret rfl (rt := some (vI 0)) rfl (Or.inl rfl) mw_c ?_
      first | exact Or.inl ⟨by omega, rfl, rfl⟩ | exact Or.inr (⟨by omega, rfl, rfl⟩) | (exfalso; omega)
    · refine rch_run rfl (by decide) 2 (t' := (15, [some (vI x)], [vI 1], MW b I L)) (ps := []) rfl trivial ?_
      refine rch_ret rfl (rt := some (vI 1)) rfl (Or.inr rfl) mw_c ?_
      first | exact Or.inl ⟨by omega, rfl, rfl⟩ | exact Or.inr (⟨by omega, rfl, rfl⟩) | (exfalso; omega)

theorem k_X12_isField (l : Launch) (E : AX) (b : Bool) (I L : Nat → Nat → Int) (x : Int) : Con l E 1 104 [vI x] (MW b I L) 0 0 (fun rt w => ((0 ≤ x ∧ x ≤ 5) ∧ rt = some (vI 1) ∧ w = MW b I L) ∨ ((¬ (0 ≤ x ∧ x ≤ 5)) ∧ rt = some (vI 0) ∧ w = MW b I L)) := by
  refine con_intro (by decide) (Nat.le_of_ble_eq_true rfl) ?_
  show Rch l E 1 104 _ _ _ _ (0, [some (vI x)], [], MW b I L)
  refine rch_run rfl (by decide) 1 (t' := (1, [some (vI x)], [vI x], MW b I L)) (ps := []) rfl trivial ?_
  refine rch_br rfl (cd := x < 0) (t1 := (14, [some (vI x)], [], MW b I L)) (t2 := (4, [some (vI x)], [], MW b I L)) rfl (fun c1_1 => ?_) (fun c1_1 => ?_)
  · refine rch_run rfl (by decide) 1 (t' := (15, [some (vI x)], [vI 0], MW b I L)) (ps := []) rfl trivial ?_
    refine rch_ret rfl (rt := some (vI 0)) rfl (Or.inl rfl) mw_c ?_
    first | exact Or.inl ⟨by omega, rfl, rfl⟩ | exact Or.inr (⟨by omega, rfl, rfl⟩) | (exfalso; omega)
  · refine rch_run rfl (by decide) 2 (t' := (7, [some (vI x)], [vI 6, vI x], MW b I L)) (ps := []) rfl trivial ?_
    refine rch_br rfl (cd := (6 : Int) ≤ x) (t1 := (14, [some (vI x)], [], MW b I L)) (t2 := (10, [some (vI x)], [], MW b I L)) rfl (fun c7_2 => ?_) (fun c7_2 => ?_)
    · refine rch_run rfl (by decide) 1 (t' := (15, [some (vI x)], [vI 0], MW b I L)) (ps := []) rfl trivial ?_
      refine rch_ret rfl (rt := some (vI 0)) rfl (Or.inl rfl) mw_c ?_
      first | exact Or.inl ⟨by omega, rfl, rfl⟩ | exact Or.inr (⟨by omega, rfl, rfl⟩) | (exfalso; omega)
    · refine rch_run rfl (by decide) 2 (t' := (15, [some (vI x)], [vI 1], MW b I L)) (ps := []) rfl trivial ?_
      refine rch_ret rfl (rt := some (vI 1)) rfl (Or.inr rfl) mw_c ?_
      first | exact Or.inl ⟨by omega, rfl, rfl⟩ | exact Or.inr (⟨by omega, rfl, rfl⟩) | (exfalso; omega)

theorem k_X12_isValue (l : Launch) (E : AX) (b : Bool) (I L : Nat → Nat → Int) (x : Int) : Con l E 1 111 [vI x] (MW b I L) 0 0 (fun rt w => ((0 ≤ x ∧ x ≤ 999999) ∧ rt = some (vI 1) ∧ w = MW b I L) ∨ ((¬ (0 ≤ x ∧ x ≤ 999999)) ∧ rt = some (vI 0) ∧ w = MW b I L)) := by
  refine con_intro (by decide) (Nat.le_of_ble_eq_true rfl) ?_
  show Rch l E 1 111 _ _ _ _ (0, [some (vI x)], [], MW b I L)
  refine rch_run rfl (by decide) 1 (t' := (1, [some (vI x)], [vI x], MW b I L)) (ps := []) rfl trivial ?_
  refine rch_br rfl (cd := x < 0) (t1 := (14, [some (vI x)], [], MW b I L)) (t2 := (4, [some (vI x)], [], MW b I L)) rfl (fun c1_1 => ?_) (fun c1_1 => ?_)
  · refine rch_run rfl (by decide) 1 (t' := (15, [some (vI x)], [vI 0], MW b I L)) (ps := []) rfl trivial ?_
    refine rch_ret rfl (rt := some (vI 0)) rfl (Or.inl rfl) mw_c ?_
    first | exact Or.inl ⟨by omega, rfl, rfl⟩ | exact Or.inr (⟨by omega, rfl, rfl⟩) | (exfalso; omega)
  · refine rch_run rfl (by decide) 2 (t' := (7, [some (vI x)], [vI 999999, vI x], MW b I L)) (ps := []) rfl trivial ?_
    refine rch_br rfl (cd := (999999 : Int) < x) (t1 := (14, [some (vI x)], [], MW b I L)) (t2 := (10, [some (vI x)], [], MW b I L)) rfl (fun c7_2 => ?_) (fun c7_2 => ?_)
    · refine rch_run rfl (by decide) 1 (t' := (15, [some (vI x)], [vI 0], MW b I L)) (ps := []) rfl trivial ?_
      refine rch_ret rfl (rt := some (vI 0)) rfl (Or.inl rfl) mw_c ?_
      first | exact Or.inl ⟨by omega, rfl, rfl⟩ | exact Or.inr (⟨by omega, rfl, rfl⟩) | (exfalso; omega)
    · refine rch_run rfl (by decide) 2 (t' := (15, [some (vI x)], [vI 1], MW b I L)) (ps := []) rfl trivial ?_
      refine rch_ret rfl (rt := some (vI 1)) rfl (Or.inr rfl) mw_c ?_
      first | exact Or.inl ⟨by omega, rfl, rfl⟩ | exact Or.inr (⟨by omega, rfl, rfl⟩) | (exfalso; omega)

theorem k_X4_isAlive (l : Launch) (E : AX) (b : Bool) (I L : Nat → Nat → Int) (x : Int) (hn : I 17 0 ≤ 10) : Con l E 1 32 [vR 17, vI x] (MW b I L) 0 0 (fun rt w => ((0 ≤ x ∧ x < I 17 0 ∧ I 20 x.toNat = 0) ∧ rt = some (vI 1) ∧ w = MW b I L) ∨ ((¬ (0 ≤ x ∧ x < I 17 0 ∧ I 20 x.toNat = 0)) ∧ rt = some (vI 0) ∧ w = MW b I L)) := by
  refine con_intro (by decide) (Nat.le_of_ble_eq_true rfl) ?_
  show Rch l E 1 32 _ _ _ _ (0, [some (vR 17), some (vI x)], [], MW b I L)
  refine rch_run rfl (by decide) 1 (t' := (1, [some (vR 17), some (vI x)], [vI x], MW b I L)) (ps := []) rfl trivial ?_
  refine rch_br rfl (cd := x < 0) (t1 := (25, [some (vR 17), some (vI x)], [], MW b I L)) (t2 := (4, [some (vR 17), some (vI x)], [], MW b I L)) rfl (fun c1_1 => ?_) (fun c1_1 => ?_)
  · refine rch_run rfl (by decide) 1 (t' := (26, [some (vR 17), some (vI x)], [vI 0], MW b I L)) (ps := []) rfl trivial ?_
    refine rch_ret rfl (rt := some (vI 0)) rfl (Or.inl rfl) mw_c ?_
    first | exact Or.inl ⟨by omega, rfl, rfl⟩ | exact Or.inr (⟨by omega, rfl, rfl⟩) | (exfalso; omega)
  · refine rch_run rfl (by decide) 3 (t' := (9, [some (vR 17), some (vI x)], [vI (I 17 0), vI x], MW b I L)) (ps := []) rfl trivial ?_
    refine rch_br rfl (cd := I 17 0 ≤ x) (t1 := (25, [some (vR 17), some (vI x)], [], MW b I L)) (t2 := (12, [some (vR 17), some (vI x)], [], MW b I L)) rfl (fun c9_2 => ?_) (fun c9_2 => ?_)
    · refine rch_run rfl (by decide) 1 (t' := (26, [some (vR 17), some (vI x)], [vI 0], MW b I L)) (ps := []) rfl trivial ?_
      refine rch_ret rfl (rt := some (vI 0)) rfl (Or.inl rfl) mw_c ?_
      first | exact Or.inl ⟨by omega, rfl, rfl⟩ | exact Or.inr (⟨by omega, rfl, rfl⟩) | (exfalso; omega)
    · refine rch_run rfl (by decide) 4 (t' := (18, [some (vR 17), some (vI x)], [vI (I 20 x.toNat)], MW b I L)) (ps := [0 ≤ x ∧ x < ((10 : Nat) : Int)]) rfl (by simp only [all_, i32, i64]; first | omega | (simp; done) | (simp; omega)) ?_
      refine rch_br rfl (cd := I 20 x.toNat ≠ 0) (t1 := (25, [some (vR 17), some (vI x)], [], MW b I L)) (t2 := (21, [some (vR 17), some (vI x)], [], MW b I L)) rfl (fun c18_3 => ?_) (fun c18_3 => ?_)
      · refine rch_run rfl (by decide) 1 (t' := (26, [some (vR 17), some (vI x)], [vI 0], MW b I L)) (ps := []) rfl trivial ?_
        refine rch_ret rfl (rt := some (vI 0)) rfl (Or.inl rfl) mw_c ?_
        first | exact Or.inl ⟨by omega, rfl, rfl⟩ | exact Or.inr (⟨by omega, rfl, rfl⟩) | (exfalso; omega)
      · refine rch_run rfl (by decide) 2 (t' := (26, [some (vR 17), some (vI x)], [vI 1], MW b I L)) (ps := []) rfl trivial ?_
        refine rch_ret rfl (rt := some (vI 1)) rfl (Or.inr rfl) mw_c ?_
        first | exact Or.inl ⟨by omega, rfl, rfl⟩ | exact Or.inr (⟨by omega, rfl, rfl⟩) | (exfalso; omega)

theorem k_X12_isRow (l : Launch) (E : AX) (b : Bool) (I L : Nat → Nat → Int) (x : Int) (hn : I 74 4 ≤ 10) : Con l E 1 109 [vR 74, vI x] (MW b I L) 0 0 (fun rt w => ((0 ≤ x ∧ x < I 74 4 ∧ I 80 x.toNat = 0) ∧ rt = some (vI 1) ∧ w = MW b I L) ∨ ((¬ (0 ≤ x ∧ x < I 74 4 ∧ I 80 x.toNat = 0)) ∧ rt = some (vI 0) ∧ w = MW b I L)) := by
  refine con_intro (by decide) (Nat.le_of_ble_eq_true rfl) ?_
  show Rch l E 1 109 _ _ _ _ (0, [some (vR 74), some (vI x)], [], MW b I L)
  refine rch_run rfl (by decide) 1 (t' := (1, [some (vR 74), some (vI x)], [vI x], MW b I L)) (ps := []) rfl trivial ?_
  refine rch_br rfl (cd := x < 0) (t1 := (25, [some (vR 74), some (vI x)], [], MW b I L)) (t2 := (4, [some (vR 74), some (vI x)], [], MW b I L)) rfl (fun c1_1 => ?_) (fun c1_1 => ?_)
  · refine rch_run rfl (by decide) 1 (t' := (26, [some (vR 74), some (vI x)], [vI 0], MW b I L)) (ps := []) rfl trivial ?_
    refine rch_ret rfl (rt := some (vI 0)) rfl (Or.inl rfl) mw_c ?_
    first | exact Or.inl ⟨by omega, rfl, rfl⟩ | exact Or.inr (⟨by omega, rfl, rfl⟩) | (exfalso; omega)
  · refine rch_run rfl (by decide) 3 (t' := (9, [some (vR 74), some (vI x)], [vI (I 74 4), vI x], MW b I L)) (ps := []) rfl trivial ?_
    refine rch_br rfl (cd := I 74 4 ≤ x) (t1 := (25, [some (vR 74), some (vI x)], [], MW b I L)) (t2 := (12, [some (vR 74), some (vI x)], [], MW b I L)) rfl (fun c9_2 => ?_) (fun c9_2 => ?_)
    · refine rch_run rfl (by decide) 1 (t' := (26, [some (vR 74), some (vI x)], [vI 0], MW b I L)) (ps := []) rfl trivial ?_
      refine rch_ret rfl (rt := some (vI 0)) rfl (Or.inl rfl) mw_c ?_
      first | exact Or.inl ⟨by omega, rfl, rfl⟩ | exact Or.inr (⟨by omega, rfl, rfl⟩) | (exfalso; omega)
    · refine rch_run rfl (by decide) 4 (t' := (18, [some (vR 74), some (vI x)], [vI (I 80 x.toNat)], MW b I L)) (ps := [0 ≤ x ∧ x < ((10 : Nat) : Int)]) rfl (by simp only [all_, i32, i64]; first | omega | (simp; done) | (simp; omega)) ?_
      refine rch_br rfl (cd := I 80 x.toNat ≠ 0) (t1 := (25, [some (vR 74), some (vI x)], [], MW b I L)) (t2 := (21, [some (vR 74), some (vI x)], [], MW b I L)) rfl (fun c18_3 => ?_) (fun c18_3 => ?_)
      · refine rch_run rfl (by decide) 1 (t' := (26, [some (vR 74), some (vI x)], [vI 0], MW b I L)) (ps := []) rfl trivial ?_
        refine rch_ret rfl (rt := some (vI 0)) rfl (Or.inl rfl) mw_c ?_
        first | exact Or.inl ⟨by omega, rfl, rfl⟩ | exact Or.inr (⟨by omega, rfl, rfl⟩) | (exfalso; omega)
      · refine rch_run rfl (by decide) 2 (t' := (26, [some (vR 74), some (vI x)], [vI 1], MW b I L)) (ps := []) rfl trivial ?_
        refine rch_ret rfl (rt := some (vI 1)) rfl (Or.inr rfl) mw_c ?_
        first | exact Or.inl ⟨by omega, rfl, rfl⟩ | exact Or.inr (⟨by omega, rfl, rfl⟩) | (exfalso; omega)
