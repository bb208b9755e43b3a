theorem k_hands_tell (l : Launch) (E : AX) (b : Bool) (I L : Nat → Nat → Int) (r : Int) (a : Int) (x : Int) (t : Int) (hn : 0 ≤ I 32 0 ∧ I 32 0 ≤ 20) : Con l E 1 8 [vR 32, vI r, vI a, vI x, vI t] (MW b I L) 0 0 (fun rt w => ((I 32 0 < 20) ∧ rt = some (vI (I 32 0)) ∧ w = MW b (upI (upI (upI (upI (upI (upI I 33 (I 32 0).toNat r) 34 (I 32 0).toNat a) 35 (I 32 0).toNat x) 36 (I 32 0).toNat t) 37 (I 32 0).toNat (-1)) 32 0 ((I 32 0) + 1)) L) ∨ ((¬ (I 32 0 < 20)) ∧ rt = some (vI (-1)) ∧ w = MW b I L)) := by
  refine con_intro (by decide) (Nat.le_of_ble_eq_true rfl) ?_
  show Rch l E 1 8 _ _ _ _ (0, [some (vR 32), some (vI r), some (vI a), some (vI x), some (vI t), none], [], MW b I L)
  refine rch_run rfl (by decide) 7 (t' := (13, [some (vR 32), some (vI r), some (vI a), some (vI x), some (vI t), some (vI (I 32 0))], [vI ((20 : Nat) : Int), vI (I 32 0)], MW b I L)) (ps := []) rfl trivial ?_
  refine rch_br rfl (cd := I 32 0 < ((20 : Nat) : Int)) (t1 := (18, [some (vR 32), some (vI r), some (vI a), some (vI x), some (vI t), some (vI (I 32 0))], [], MW b I L)) (t2 := (16, [some (vR 32), some (vI r), some (vI a), some (vI x), some (vI t), some (vI (I 32 0))], [], MW b I L)) rfl (fun c13_1 => ?_) (fun c13_1 => ?_)
  · refine rch_run rfl (by decide) 25 (t' := (59, [some (vR 32), some (vI r), some (vI a), some (vI x), some (vI t), some (vI (I 32 0))], [], MW b (upI (upI (upI (upI (upI I 33 (I 32 0).toNat r) 34 (I 32 0).toNat a) 35 (I 32 0).toNat x) 36 (I 32 0).toNat t) 37 (I 32 0).toNat (-1)) L)) (ps := [0 ≤ I 32 0 ∧ I 32 0 < ((20 : Nat) : Int), 0 ≤ I 32 0 ∧ I 32 0 < ((20 : Nat) : Int), 0 ≤ I 32 0 ∧ I 32 0 < ((20 : Nat) : Int), 0 ≤ I 32 0 ∧ I 32 0 < ((20 : Nat) : Int), 0 ≤ I 32 0 ∧ I 32 0 < ((20 : Nat) : Int)]) rfl (by simp only [all_, i32, i64]; first | omega | (simp; done) | (simp; omega)) ?_
    refine rch_run rfl (by decide) 7 (t' := (71, [some (vR 32), some (vI r), some (vI a), some (vI x), some (vI t), some (vI (I 32 0))], [vI (I 32 0)], MW b (upI (upI (upI (upI (upI (upI I 33 (I 32 0).toNat r) 34 (I 32 0).toNat a) 35 (I 32 0).toNat x) 36 (I 32 0).toNat t) 37 (I 32 0).toNat (-1)) 32 0 ((I 32 0) + 1)) L)) (ps := [i32 ((I 32 0) + 1)]) rfl (by simp only [all_, i32, i64]; first | omega | (simp; done) | (simp; omega)) ?_
    refine rch_ret rfl (rt := some (vI (I 32 0))) rfl trivial mw_c ?_
    first | exact Or.inl ⟨by omega, rfl, rfl⟩ | exact Or.inr (⟨by omega, rfl, rfl⟩) | (exfalso; omega)
  · refine rch_run rfl (by decide) 1 (t' := (17, [some (vR 32), some (vI r), some (vI a), some (vI x), some (vI t), some (vI (I 32 0))], [vI (-1)], MW b I L)) (ps := []) rfl trivial ?_
    refine rch_ret rfl (rt := some (vI (-1))) rfl trivial mw_c ?_
    first | exact Or.inl ⟨by omega, rfl, rfl⟩ | exact Or.inr (⟨by omega, rfl, rfl⟩) | (exfalso; omega)

theorem k_hands_untell (l : Launch) (E : AX) (b : Bool) (I L : Nat → Nat → Int) (i : Int) (t : Int) (hn : 0 ≤ I 32 0 ∧ I 32 0 ≤ 20) : Con l E 1 9 [vR 32, vI i, vI t] (MW b I L) 0 0 (fun rt w => ((0 ≤ i ∧ i < I 32 0 ∧ I 37 i.toNat = -1) ∧ rt = some (vI 1) ∧ w = MW b (upI I 37 i.toNat t) L) ∨ ((¬ (0 ≤ i ∧ i < I 32 0 ∧ I 37 i.toNat = -1)) ∧ rt = some (vI 0) ∧ w = MW b I L)) := by
  refine con_intro (by decide) (Nat.le_of_ble_eq_true rfl) ?_
  show Rch l E 1 9 _ _ _ _ (0, [some (vR 32), some (vI i), some (vI t)], [], MW b I L)
  refine rch_run rfl (by decide) 1 (t' := (1, [some (vR 32), some (vI i), some (vI t)], [vI i], MW b I L)) (ps := []) rfl trivial ?_
  refine rch_br rfl (cd := i < 0) (t1 := (22, [some (vR 32), some (vI i), some (vI t)], [], MW b I L)) (t2 := (4, [some (vR 32), some (vI i), some (vI t)], [], MW b I L)) rfl (fun c1_1 => ?_) (fun c1_1 => ?_)
  · refine rch_run rfl (by decide) 1 (t' := (23, [some (vR 32), some (vI i), some (vI t)], [vI 0], MW b I L)) (ps := []) rfl trivial ?_
    refine rch_ret rfl (rt := some (vI 0)) rfl (Or.inl rfl) mw_c ?_
    first | exact Or.inl ⟨by omega, rfl, rfl⟩ | exact Or.inr (⟨by omega, rfl, rfl⟩) | (exfalso; omega)
  · refine rch_run rfl (by decide) 3 (t' := (9, [some (vR 32), some (vI i), some (vI t)], [vI (I 32 0), vI i], MW b I L)) (ps := []) rfl trivial ?_
    refine rch_br rfl (cd := I 32 0 ≤ i) (t1 := (22, [some (vR 32), some (vI i), some (vI t)], [], MW b I L)) (t2 := (12, [some (vR 32), some (vI i), some (vI t)], [], MW b I L)) rfl (fun c9_2 => ?_) (fun c9_2 => ?_)
    · refine rch_run rfl (by decide) 1 (t' := (23, [some (vR 32), some (vI i), some (vI t)], [vI 0], MW b I L)) (ps := []) rfl trivial ?_
      refine rch_ret rfl (rt := some (vI 0)) rfl (Or.inl rfl) mw_c ?_
      first | exact Or.inl ⟨by omega, rfl, rfl⟩ | exact Or.inr (⟨by omega, rfl, rfl⟩) | (exfalso; omega)
    · refine rch_run rfl (by decide) 5 (t' := (19, [some (vR 32), some (vI i), some (vI t)], [vI (-1), vI (I 37 i.toNat)], MW b I L)) (ps := [0 ≤ i ∧ i < ((20 : Nat) : Int)]) rfl (by simp only [all_, i32, i64]; first | omega | (simp; done) | (simp; omega)) ?_
      refine rch_br rfl (cd := I 37 i.toNat = ((-1) : Int)) (t1 := (24, [some (vR 32), some (vI i), some (vI t)], [], MW b I L)) (t2 := (22, [some (vR 32), some (vI i), some (vI t)], [], MW b I L)) rfl (fun c19_3 => ?_) (fun c19_3 => ?_)
      · refine rch_run rfl (by decide) 6 (t' := (32, [some (vR 32), some (vI i), some (vI t)], [vI 1], MW b (upI I 37 i.toNat t) L)) (ps := [0 ≤ i ∧ i < ((20 : Nat) : Int)]) rfl (by simp only [all_, i32, i64]; first | omega | (simp; done) | (simp; omega)) ?_
        refine rch_ret rfl (rt := some (vI 1)) rfl (Or.inr rfl) mw_c ?_
        first | exact Or.inl ⟨by omega, rfl, rfl⟩ | exact Or.inr (⟨by omega, rfl, rfl⟩) | (exfalso; omega)
      · refine rch_run rfl (by decide) 1 (t' := (23, [some (vR 32), some (vI i), some (vI t)], [vI 0], MW b I L)) (ps := []) rfl trivial ?_
        refine rch_ret rfl (rt := some (vI 0)) rfl (Or.inl rfl) mw_c ?_
        first | exact Or.inl ⟨by omega, rfl, rfl⟩ | exact Or.inr (⟨by omega, rfl, rfl⟩) | (exfalso; omega)

theorem k_hands_isHeld (l : Launch) (E : AX) (b : Bool) (I L : Nat → Nat → Int) (i : Int) (k : Int) (hn : 0 ≤ I 32 0 ∧ I 32 0 ≤ 20) : Con l E 1 10 [vR 32, vI i, vI k] (MW b I L) 0 0 (fun rt w => (((0 ≤ i ∧ i < I 32 0) ∧ I 36 i.toNat ≤ k ∧ (I 37 i.toNat = -1 ∨ k < I 37 i.toNat)) ∧ rt = some (vI 1) ∧ w = MW b I L) ∨ ((¬ ((0 ≤ i ∧ i < I 32 0) ∧ I 36 i.toNat ≤ k ∧ (I 37 i.toNat = -1 ∨ k < I 37 i.toNat))) ∧ rt = some (vI 0) ∧ w = MW b I L)) := by
  refine con_intro (by decide) (Nat.le_of_ble_eq_true rfl) ?_
  show Rch l E 1 10 _ _ _ _ (0, [some (vR 32), some (vI i), some (vI k)], [], MW b I L)
  refine rch_run rfl (by decide) 1 (t' := (1, [some (vR 32), some (vI i), some (vI k)], [vI i], MW b I L)) (ps := []) rfl trivial ?_
  refine rch_br rfl (cd := i < 0) (t1 := (12, [some (vR 32), some (vI i), some (vI k)], [], MW b I L)) (t2 := (4, [some (vR 32), some (vI i), some (vI k)], [], MW b I L)) rfl (fun c1_1 => ?_) (fun c1_1 => ?_)
  · refine rch_run rfl (by decide) 1 (t' := (13, [some (vR 32), some (vI i), some (vI k)], [vI 0], MW b I L)) (ps := []) rfl trivial ?_
    refine rch_ret rfl (rt := some (vI 0)) rfl (Or.inl rfl) mw_c ?_
    first | exact Or.inl ⟨by omega, rfl, rfl⟩ | exact Or.inr (⟨by omega, rfl, rfl⟩) | (exfalso; omega)
  · refine rch_run rfl (by decide) 3 (t' := (9, [some (vR 32), some (vI i), some (vI k)], [vI (I 32 0), vI i], MW b I L)) (ps := []) rfl trivial ?_
    refine rch_br rfl (cd := i < I 32 0) (t1 := (14, [some (vR 32), some (vI i), some (vI k)], [], MW b I L)) (t2 := (12, [some (vR 32), some (vI i), some (vI k)], [], MW b I L)) rfl (fun c9_2 => ?_) (fun c9_2 => ?_)
    · refine rch_run rfl (by decide) 5 (t' := (21, [some (vR 32), some (vI i), some (vI k)], [vI k, vI (I 36 i.toNat)], MW b I L)) (ps := [0 ≤ i ∧ i < ((20 : Nat) : Int)]) rfl (by simp only [all_, i32, i64]; first | omega | (simp; done) | (simp; omega)) ?_
      refine rch_br rfl (cd := k < I 36 i.toNat) (t1 := (48, [some (vR 32), some (vI i), some (vI k)], [], MW b I L)) (t2 := (24, [some (vR 32), some (vI i), some (vI k)], [], MW b I L)) rfl (fun c21_3 => ?_) (fun c21_3 => ?_)
      · refine rch_run rfl (by decide) 1 (t' := (49, [some (vR 32), some (vI i), some (vI k)], [vI 0], MW b I L)) (ps := []) rfl trivial ?_
        refine rch_ret rfl (rt := some (vI 0)) rfl (Or.inl rfl) mw_c ?_
        first | exact Or.inl ⟨by omega, rfl, rfl⟩ | exact Or.inr (⟨by omega, rfl, rfl⟩) | (exfalso; omega)
      · refine rch_run rfl (by decide) 5 (t' := (31, [some (vR 32), some (vI i), some (vI k)], [vI (-1), vI (I 37 i.toNat)], MW b I L)) (ps := [0 ≤ i ∧ i < ((20 : Nat) : Int)]) rfl (by simp only [all_, i32, i64]; first | omega | (simp; done) | (simp; omega)) ?_
        refine rch_br rfl (cd := I 37 i.toNat = ((-1) : Int)) (t1 := (44, [some (vR 32), some (vI i), some (vI k)], [], MW b I L)) (t2 := (34, [some (vR 32), some (vI i), some (vI k)], [], MW b I L)) rfl (fun c31_4 => ?_) (fun c31_4 => ?_)
        · refine rch_run rfl (by decide) 2 (t' := (49, [some (vR 32), some (vI i), some (vI k)], [vI 1], MW b I L)) (ps := []) rfl trivial ?_
          refine rch_ret rfl (rt := some (vI 1)) rfl (Or.inr rfl) mw_c ?_
          first | exact Or.inl ⟨by omega, rfl, rfl⟩ | exact Or.inr (⟨by omega, rfl, rfl⟩) | (exfalso; omega)
        · refine rch_run rfl (by decide) 5 (t' := (41, [some (vR 32), some (vI i), some (vI k)], [vI k, vI (I 37 i.toNat)], MW b I L)) (ps := [0 ≤ i ∧ i < ((20 : Nat) : Int)]) rfl (by simp only [all_, i32, i64]; first | omega | (simp; done) | (simp; omega)) ?_
          refine rch_br rfl (cd := I 37 i.toNat ≤ k) (t1 := (48, [some (vR 32), some (vI i), some (vI k)], [], MW b I L)) (t2 := (44, [some (vR 32), some (vI i), some (vI k)], [], MW b I L)) rfl (fun c41_5 => ?_) (fun c41_5 => ?_)
          · refine rch_run rfl (by decide) 1 (t' := (49, [some (vR 32), some (vI i), some (vI k)], [vI 0], MW b I L)) (ps := []) rfl trivial ?_
            refine rch_ret rfl (rt := some (vI 0)) rfl (Or.inl rfl) mw_c ?_
            first | exact Or.inl ⟨by omega, rfl, rfl⟩ | exact Or.inr (⟨by omega, rfl, rfl⟩) | (exfalso; omega)
          · refine rch_run rfl (by decide) 2 (t' := (49, [some (vR 32), some (vI i), some (vI k)], [vI 1], MW b I L)) (ps := []) rfl trivial ?_
            refine rch_ret rfl (rt := some (vI 1)) rfl (Or.inr rfl) mw_c ?_
            first | exact Or.inl ⟨by omega, rfl, rfl⟩ | exact Or.inr (⟨by omega, rfl, rfl⟩) | (exfalso; omega)
    · refine rch_run rfl (by decide) 1 (t' := (13, [some (vR 32), some (vI i), some (vI k)], [vI 0], MW b I L)) (ps := []) rfl trivial ?_
      refine rch_ret rfl (rt := some (vI 0)) rfl (Or.inl rfl) mw_c ?_
      first | exact Or.inl ⟨by omega, rfl, rfl⟩ | exact Or.inr (⟨by omega, rfl, rfl⟩) | (exfalso; omega)

theorem k_fixes_tell (l : Launch) (E : AX) (b : Bool) (I L : Nat → Nat → Int) (r : Int) (a : Int) (x : Int) (t : Int) (hn : 0 ≤ I 38 0 ∧ I 38 0 ≤ 20) : Con l E 1 8 [vR 38, vI r, vI a, vI x, vI t] (MW b I L) 0 0 (fun rt w => ((I 38 0 < 20) ∧ rt = some (vI (I 38 0)) ∧ w = MW b (upI (upI (upI (upI (upI (upI I 39 (I 38 0).toNat r) 40 (I 38 0).toNat a) 41 (I 38 0).toNat x) 42 (I 38 0).toNat t) 43 (I 38 0).toNat (-1)) 38 0 ((I 38 0) + 1)) L) ∨ ((¬ (I 38 0 < 20)) ∧ rt = some (vI (-1)) ∧ w = MW b I L)) := by
  refine con_intro (by decide) (Nat.le_of_ble_eq_true rfl) ?_
  show Rch l E 1 8 _ _ _ _ (0, [some (vR 38), some (vI r), some (vI a), some (vI x), some (vI t), none], [], MW b I L)
  refine rch_run rfl (by decide) 7 (t' := (13, [some (vR 38), some (vI r), some (vI a), some (vI x), some (vI t), some (vI (I 38 0))], [vI ((20 : Nat) : Int), vI (I 38 0)], MW b I L)) (ps := []) rfl trivial ?_
  refine rch_br rfl (cd := I 38 0 < ((20 : Nat) : Int)) (t1 := (18, [some (vR 38), some (vI r), some (vI a), some (vI x), some (vI t), some (vI (I 38 0))], [], MW b I L)) (t2 := (16, [some (vR 38), some (vI r), some (vI a), some (vI x), some (vI t), some (vI (I 38 0))], [], MW b I L)) rfl (fun c13_1 => ?_) (fun c13_1 => ?_)
  · refine rch_run rfl (by decide) 25 (t' := (59, [some (vR 38), some (vI r), some (vI a), some (vI x), some (vI t), some (vI (I 38 0))], [], MW b (upI (upI (upI (upI (upI I 39 (I 38 0).toNat r) 40 (I 38 0).toNat a) 41 (I 38 0).toNat x) 42 (I 38 0).toNat t) 43 (I 38 0).toNat (-1)) L)) (ps := [0 ≤ I 38 0 ∧ I 38 0 < ((20 : Nat) : Int), 0 ≤ I 38 0 ∧ I 38 0 < ((20 : Nat) : Int), 0 ≤ I 38 0 ∧ I 38 0 < ((20 : Nat) : Int), 0 ≤ I 38 0 ∧ I 38 0 < ((20 : Nat) : Int), 0 ≤ I 38 0 ∧ I 38 0 < ((20 : Nat) : Int)]) rfl (by simp only [all_, i32, i64]; first | omega | (simp; done) | (simp; omega)) ?_
    refine rch_run rfl (by decide) 7 (t' := (71, [some (vR 38), some (vI r), some (vI a), some (vI x), some (vI t), some (vI (I 38 0))], [vI (I 38 0)], MW b (upI (upI (upI (upI (upI (upI I 39 (I 38 0).toNat r) 40 (I 38 0).toNat a) 41 (I 38 0).toNat x) 42 (I 38 0).toNat t) 43 (I 38 0).toNat (-1)) 38 0 ((I 38 0) + 1)) L)) (ps := [i32 ((I 38 0) + 1)]) rfl (by simp only [all_, i32, i64]; first | omega | (simp; done) | (simp; omega)) ?_
    refine rch_ret rfl (rt := some (vI (I 38 0))) rfl trivial mw_c ?_
    first | exact Or.inl ⟨by omega, rfl, rfl⟩ | exact Or.inr (⟨by omega, rfl, rfl⟩) | (exfalso; omega)
  · refine rch_run rfl (by decide) 1 (t' := (17, [some (vR 38), some (vI r), some (vI a), some (vI x), some (vI t), some (vI (I 38 0))], [vI (-1)], MW b I L)) (ps := []) rfl trivial ?_
    refine rch_ret rfl (rt := some (vI (-1))) rfl trivial mw_c ?_
    first | exact Or.inl ⟨by omega, rfl, rfl⟩ | exact Or.inr (⟨by omega, rfl, rfl⟩) | (exfalso; omega)

theorem k_fixes_untell (l : Launch) (E : AX) (b : Bool) (I L : Nat → Nat → Int) (i : Int) (t : Int) (hn : 0 ≤ I 38 0 ∧ I 38 0 ≤ 20) : Con l E 1 9 [vR 38, vI i, vI t] (MW b I L) 0 0 (fun rt w => ((0 ≤ i ∧ i < I 38 0 ∧ I 43 i.toNat = -1) ∧ rt = some (vI 1) ∧ w = MW b (upI I 43 i.toNat t) L) ∨ ((¬ (0 ≤ i ∧ i < I 38 0 ∧ I 43 i.toNat = -1)) ∧ rt = some (vI 0) ∧ w = MW b I L)) := by
  refine con_intro (by decide) (Nat.le_of_ble_eq_true rfl) ?_
  show Rch l E 1 9 _ _ _ _ (0, [some (vR 38), some (vI i), some (vI t)], [], MW b I L)
  refine rch_run rfl (by decide) 1 (t' := (1, [some (vR 38), some (vI i), some (vI t)], [vI i], MW b I L)) (ps := []) rfl trivial ?_
  refine rch_br rfl (cd := i < 0) (t1 := (22, [some (vR 38), some (vI i), some (vI t)], [], MW b I L)) (t2 := (4, [some (vR 38), some (vI i), some (vI t)], [], MW b I L)) rfl (fun c1_1 => ?_) (fun c1_1 => ?_)
  · refine rch_run rfl (by decide) 1 (t' := (23, [some (vR 38), some (vI i), some (vI t)], [vI 0], MW b I L)) (ps := []) rfl trivial ?_
    refine rch_ret rfl (rt := some (vI 0)) rfl (Or.inl rfl) mw_c ?_
    first | exact Or.inl ⟨by omega, rfl, rfl⟩ | exact Or.inr (⟨by omega, rfl, rfl⟩) | (exfalso; omega)
  · refine rch_run rfl (by decide) 3 (t' := (9, [some (vR 38), some (vI i), some (vI t)], [vI (I 38 0), vI i], MW b I L)) (ps := []) rfl trivial ?_
    refine rch_br rfl (cd := I 38 0 ≤ i) (t1 := (22, [some (vR 38), some (vI i), some (vI t)], [], MW b I L)) (t2 := (12, [some (vR 38), some (vI i), some (vI t)], [], MW b I L)) rfl (fun c9_2 => ?_) (fun c9_2 => ?_)
    · refine rch_run rfl (by decide) 1 (t' := (23, [some (vR 38), some (vI i), some (vI t)], [vI 0], MW b I L)) (ps := []) rfl trivial ?_
      refine rch_ret rfl (rt := some (vI 0)) rfl (Or.inl rfl) mw_c ?_
      first | exact Or.inl ⟨by omega, rfl, rfl⟩ | exact Or.inr (⟨by omega, rfl, rfl⟩) | (exfalso; omega)
    · refine rch_run rfl (by decide) 5 (t' := (19, [some (vR 38), some (vI i), some (vI t)], [vI (-1), vI (I 43 i.toNat)], MW b I L)) (ps := [0 ≤ i ∧ i < ((20 : Nat) : Int)]) rfl (by simp only [all_, i32, i64]; first | omega | (simp; done) | (simp; omega)) ?_
      refine rch_br rfl (cd := I 43 i.toNat = ((-1) : Int)) (t1 := (24, [some (vR 38), some (vI i), some (vI t)], [], MW b I L)) (t2 := (22, [some (vR 38), some (vI i), some (vI t)], [], MW b I L)) rfl (fun c19_3 => ?_) (fun c19_3 => ?_)
      · refine rch_run rfl (by decide) 6 (t' := (32, [some (vR 38), some (vI i), some (vI t)], [vI 1], MW b (upI I 43 i.toNat t) L)) (ps := [0 ≤ i ∧ i < ((20 : Nat) : Int)]) rfl (by simp only [all_, i32, i64]; first | omega | (simp; done) | (simp; omega)) ?_
        refine rch_ret rfl (rt := some (vI 1)) rfl (Or.inr rfl) mw_c ?_
        first | exact Or.inl ⟨by omega, rfl, rfl⟩ | exact Or.inr (⟨by omega, rfl, rfl⟩) | (exfalso; omega)
      · refine rch_run rfl (by decide) 1 (t' := (23, [some (vR 38), some (vI i), some (vI t)], [vI 0], MW b I L)) (ps := []) rfl trivial ?_
        refine rch_ret rfl (rt := some (vI 0)) rfl (Or.inl rfl) mw_c ?_
        first | exact Or.inl ⟨by omega, rfl, rfl⟩ | exact Or.inr (⟨by omega, rfl, rfl⟩) | (exfalso; omega)

theorem k_fixes_isHeld (l : Launch) (E : AX) (b : Bool) (I L : Nat → Nat → Int) (i : Int) (k : Int) (hn : 0 ≤ I 38 0 ∧ I 38 0 ≤ 20) : Con l E 1 10 [vR 38, vI i, vI k] (MW b I L) 0 0 (fun rt w => (((0 ≤ i ∧ i < I 38 0) ∧ I 42 i.toNat ≤ k ∧ (I 43 i.toNat = -1 ∨ k < I 43 i.toNat)) ∧ rt = some (vI 1) ∧ w = MW b I L) ∨ ((¬ ((0 ≤ i ∧ i < I 38 0) ∧ I 42 i.toNat ≤ k ∧ (I 43 i.toNat = -1 ∨ k < I 43 i.toNat))) ∧ rt = some (vI 0) ∧ w = MW b I L)) := by
  refine con_intro (by decide) (Nat.le_of_ble_eq_true rfl) ?_
  show Rch l E 1 10 _ _ _ _ (0, [some (vR 38), some (vI i), some (vI k)], [], MW b I L)
  refine rch_run rfl (by decide) 1 (t' := (1, [some (vR 38), some (vI i), some (vI k)], [vI i], MW b I L)) (ps := []) rfl trivial ?_
  refine rch_br rfl (cd := i < 0) (t1 := (12, [some (vR 38), some (vI i), some (vI k)], [], MW b I L)) (t2 := (4, [some (vR 38), some (vI i), some (vI k)], [], MW b I L)) rfl (fun c1_1 => ?_) (fun c1_1 => ?_)
  · refine rch_run rfl (by decide) 1 (t' := (13, [some (vR 38), some (vI i), some (vI k)], [vI 0], MW b I L)) (ps := []) rfl trivial ?_
    refine rch_ret rfl (rt := some (vI 0)) rfl (Or.inl rfl) mw_c ?_
    first | exact Or.inl ⟨by omega, rfl, rfl⟩ | exact Or.inr (⟨by omega, rfl, rfl⟩) | (exfalso; omega)
  · refine rch_run rfl (by decide) 3 (t' := (9, [some (vR 38), some (vI i), some (vI k)], [vI (I 38 0), vI i], MW b I L)) (ps := []) rfl trivial ?_
    refine rch_br rfl (cd := i < I 38 0) (t1 := (14, [some (vR 38), some (vI i), some (vI k)], [], MW b I L)) (t2 := (12, [some (vR 38), some (vI i), some (vI k)], [], MW b I L)) rfl (fun c9_2 => ?_) (fun c9_2 => ?_)
    · refine rch_run rfl (by decide) 5 (t' := (21, [some (vR 38), some (vI i), some (vI k)], [vI k, vI (I 42 i.toNat)], MW b I L)) (ps := [0 ≤ i ∧ i < ((20 : Nat) : Int)]) rfl (by simp only [all_, i32, i64]; first | omega | (simp; done) | (simp; omega)) ?_
      refine rch_br rfl (cd := k < I 42 i.toNat) (t1 := (48, [some (vR 38), some (vI i), some (vI k)], [], MW b I L)) (t2 := (24, [some (vR 38), some (vI i), some (vI k)], [], MW b I L)) rfl (fun c21_3 => ?_) (fun c21_3 => ?_)
      · refine rch_run rfl (by decide) 1 (t' := (49, [some (vR 38), some (vI i), some (vI k)], [vI 0], MW b I L)) (ps := []) rfl trivial ?_
        refine rch_ret rfl (rt := some (vI 0)) rfl (Or.inl rfl) mw_c ?_
        first | exact Or.inl ⟨by omega, rfl, rfl⟩ | exact Or.inr (⟨by omega, rfl, rfl⟩) | (exfalso; omega)
      · refine rch_run rfl (by decide) 5 (t' := (31, [some (vR 38), some (vI i), some (vI k)], [vI (-1), vI (I 43 i.toNat)], MW b I L)) (ps := [0 ≤ i ∧ i < ((20 : Nat) : Int)]) rfl (by simp only [all_, i32, i64]; first | omega | (simp; done) | (simp; omega)) ?_
        refine rch_br rfl (cd := I 43 i.toNat = ((-1) : Int)) (t1 := (44, [some (vR 38), some (vI i), some (vI k)], [], MW b I L)) (t2 := (34, [some (vR 38), some (vI i), some (vI k)], [], MW b I L)) rfl (fun c31_4 => ?_) (fun c31_4 => ?_)
        · refine rch_run rfl (by decide) 2 (t' := (49, [some (vR 38), some (vI i), some (vI k)], [vI 1], MW b I L)) (ps := []) rfl trivial ?_
          refine rch_ret rfl (rt := some (vI 1)) rfl (Or.inr rfl) mw_c ?_
          first | exact Or.inl ⟨by omega, rfl, rfl⟩ | exact Or.inr (⟨by omega, rfl, rfl⟩) | (exfalso; omega)
        · refine rch_run rfl (by decide) 5 (t' := (41, [some (vR 38), some (vI i), some (vI k)], [vI k, vI (I 43 i.toNat)], MW b I L)) (ps := [0 ≤ i ∧ i < ((20 : Nat) : Int)]) rfl (by simp only [all_, i32, i64]; first | omega | (simp; done) | (simp; omega)) ?_
          refine rch_br rfl (cd := I 43 i.toNat ≤ k) (t1 := (48, [some (vR 38), some (vI i), some (vI k)], [], MW b I L)) (t2 := (44, [some (vR 38), some (vI i), some (vI k)], [], MW b I L)) rfl (fun c41_5 => ?_) (fun c41_5 => ?_)
          · refine rch_run rfl (by decide) 1 (t' := (49, [some (vR 38), some (vI i), some (vI k)], [vI 0], MW b I L)) (ps := []) rfl trivial ?_
            refine rch_ret rfl (rt := some (vI 0)) rfl (Or.inl rfl) mw_c ?_
            first | exact Or.inl ⟨by omega, rfl, rfl⟩ | exact Or.inr (⟨by omega, rfl, rfl⟩) | (exfalso; omega)
          · refine rch_run rfl (by decide) 2 (t' := (49, [some (vR 38), some (vI i), some (vI k)], [vI 1], MW b I L)) (ps := []) rfl trivial ?_
            refine rch_ret rfl (rt := some (vI 1)) rfl (Or.inr rfl) mw_c ?_
            first | exact Or.inl ⟨by omega, rfl, rfl⟩ | exact Or.inr (⟨by omega, rfl, rfl⟩) | (exfalso; omega)
    · refine rch_run rfl (by decide) 1 (t' := (13, [some (vR 38), some (vI i), some (vI k)], [vI 0], MW b I L)) (ps := []) rfl trivial ?_
      refine rch_ret rfl (rt := some (vI 0)) rfl (Or.inl rfl) mw_c ?_
      first | exact Or.inl ⟨by omega, rfl, rfl⟩ | exact Or.inr (⟨by omega, rfl, rfl⟩) | (exfalso; omega)

theorem k_X11_hand (l : Launch) (E : AX) (b : Bool) (I L : Nat → Nat → Int) (x : Int) (y : Int) (m : Int) (hn : I 17 0 ≤ 10) (hh : 0 ≤ I 32 0 ∧ I 32 0 ≤ 20) : Con l E 2 75 [vR 0, vI x, vI y, vI m] (MW b I L) 0 0 (fun rt w => (((x ≠ y ∧ (0 ≤ x ∧ x < I 17 0 ∧ I 20 x.toNat = 0) ∧ (0 ≤ y ∧ y < I 17 0 ∧ I 20 y.toNat = 0)) ∧ I 32 0 < 20 ∧ m ≠ 0) ∧ rt = some (vI (I 32 0)) ∧ w = MW b (upI (upI (upI (upI (upI (upI (upI I 0 1 0) 33 (I 32 0).toNat x) 34 (I 32 0).toNat y) 35 (I 32 0).toNat 1) 36 (I 32 0).toNat (I 0 0)) 37 (I 32 0).toNat (-1)) 32 0 ((I 32 0) + 1)) L) ∨ (((x ≠ y ∧ (0 ≤ x ∧ x < I 17 0 ∧ I 20 x.toNat = 0) ∧ (0 ≤ y ∧ y < I 17 0 ∧ I 20 y.toNat = 0)) ∧ I 32 0 < 20 ∧ m = 0) ∧ rt = some (vI (I 32 0)) ∧ w = MW b (upI (upI (upI (upI (upI (upI (upI I 0 1 0) 33 (I 32 0).toNat x) 34 (I 32 0).toNat y) 35 (I 32 0).toNat 0) 36 (I 32 0).toNat (I 0 0)) 37 (I 32 0).toNat (-1)) 32 0 ((I 32 0) + 1)) L) ∨ (((x ≠ y ∧ (0 ≤ x ∧ x < I 17 0 ∧ I 20 x.toNat = 0) ∧ (0 ≤ y ∧ y < I 17 0 ∧ I 20 y.toNat = 0)) ∧ ¬ I 32 0 < 20) ∧ rt = some (vI (-1)) ∧ w = MW b (upI I 0 1 0) L) ∨ ((¬ (x ≠ y ∧ (0 ≤ x ∧ x < I 17 0 ∧ I 20 x.toNat = 0) ∧ (0 ≤ y ∧ y < I 17 0 ∧ I 20 y.toNat = 0))) ∧ rt = some (vI (-1)) ∧ w = MW b I L)) := by
  refine con_intro (by decide) (Nat.le_of_ble_eq_true rfl) ?_
  show Rch l E 2 75 _ _ _ _ (0, [some (vR 0), some (vI x), some (vI y), some (vI m)], [], MW b I L)
  refine rch_run rfl (by decide) 2 (t' := (2, [some (vR 0), some (vI x), some (vI y), some (vI m)], [vI y, vI x], MW b I L)) (ps := []) rfl trivial ?_
  refine rch_br rfl (cd := x = y) (t1 := (27, [some (vR 0), some (vI x), some (vI y), some (vI m)], [], MW b I L)) (t2 := (5, [some (vR 0), some (vI x), some (vI y), some (vI m)], [], MW b I L)) rfl (fun c2_1 => ?_) (fun c2_1 => ?_)
  · refine rch_run rfl (by decide) 1 (t' := (28, [some (vR 0), some (vI x), some (vI y), some (vI m)], [vI (-1)], MW b I L)) (ps := []) rfl trivial ?_
    refine rch_ret rfl (rt := some (vI (-1))) rfl trivial mw_c ?_
    first | exact Or.inl ⟨by omega, rfl, rfl⟩ | exact Or.inr (Or.inl ⟨by omega, rfl, rfl⟩) | exact Or.inr (Or.inr (Or.inl ⟨by omega, rfl, rfl⟩)) | exact Or.inr (Or.inr (Or.inr (⟨by omega, rfl, rfl⟩))) | (exfalso; omega)
  · refine rch_run rfl (by decide) 3 (t' := (10, [some (vR 0), some (vI x), some (vI y), some (vI m)], [vI x, vR 17], MW b I L)) (ps := []) rfl trivial ?_
    refine rch_call (h' := 1) (k' := 32) (as := [vR 17, vI x]) (t1 := (13, [some (vR 0), some (vI x), some (vI y), some (vI m)], [], MW b I L)) rfl rfl (k_X4_isAlive l E b I L x (by show I 17 0 ≤ 10; omega)) (by decide) mw_le ?_
    rintro rt9 w9 (⟨k22, rfl, rfl⟩ | ⟨k22, rfl, rfl⟩) _ _
    · show Rch l E 2 75 _ _ _ _ (13, [some (vR 0), some (vI x), some (vI y), some (vI m)], [vI 1], MW b I L)
      have k22 : 0 ≤ x ∧ x < I 17 0 ∧ I 20 x.toNat = 0 := k22
      refine rch_br rfl (cd := (1 : Int) = 0) (t1 := (27, [some (vR 0), some (vI x), some (vI y), some (vI m)], [], MW b I L)) (t2 := (16, [some (vR 0), some (vI x), some (vI y), some (vI m)], [], MW b I L)) rfl (fun c9 => absurd c9 (by decide)) (fun _ => ?_)
      refine rch_run rfl (by decide) 3 (t' := (21, [some (vR 0), some (vI x), some (vI y), some (vI m)], [vI y, vR 17], MW b I L)) (ps := []) rfl trivial ?_
      refine rch_call (h' := 1) (k' := 32) (as := [vR 17, vI y]) (t1 := (24, [some (vR 0), some (vI x), some (vI y), some (vI m)], [], MW b I L)) rfl rfl (k_X4_isAlive l E b I L y (by show I 17 0 ≤ 10; omega)) (by decide) mw_le ?_
      rintro rt9 w9 (⟨k23, rfl, rfl⟩ | ⟨k23, rfl, rfl⟩) _ _
      · show Rch l E 2 75 _ _ _ _ (24, [some (vR 0), some (vI x), some (vI y), some (vI m)], [vI 1], MW b I L)
        have k23 : 0 ≤ y ∧ y < I 17 0 ∧ I 20 y.toNat = 0 := k23
        refine rch_br rfl (cd := (1 : Int) ≠ 0) (t1 := (29, [some (vR 0), some (vI x), some (vI y), some (vI m)], [], MW b I L)) (t2 := (27, [some (vR 0), some (vI x), some (vI y), some (vI m)], [], MW b I L)) rfl (fun _ => ?_) (fun c9 => absurd (by decide) c9)
        refine rch_run rfl (by decide) 8 (t' := (41, [some (vR 0), some (vI x), some (vI y), some (vI m)], [vI m, vI y, vI x, vR 32], MW b (upI I 0 1 0) L)) (ps := [(0 : Int) = 0 ∨ (0 : Int) = 1]) rfl (by simp only [all_, i32, i64]; first | omega | (simp; done) | (simp; omega)) ?_
        refine rch_br rfl (cd := m = 0) (t1 := (48, [some (vR 0), some (vI x), some (vI y), some (vI m)], [vI y, vI x, vR 32], MW b (upI I 0 1 0) L)) (t2 := (44, [some (vR 0), some (vI x), some (vI y), some (vI m)], [vI y, vI x, vR 32], MW b (upI I 0 1 0) L)) rfl (fun c41_4 => ?_) (fun c41_4 => ?_)
        · refine rch_run rfl (by decide) 3 (t' := (53, [some (vR 0), some (vI x), some (vI y), some (vI m)], [vI (I 0 0), vI 0, vI y, vI x, vR 32], MW b (upI I 0 1 0) L)) (ps := []) rfl trivial ?_
          refine rch_call (h' := 1) (k' := 8) (as := [vR 32, vI x, vI y, vI 0, vI (I 0 0)]) (t1 := (56, [some (vR 0), some (vI x), some (vI y), some (vI m)], [], MW b (upI I 0 1 0) L)) rfl rfl (k_hands_tell l E b (upI I 0 1 0) L x y 0 (I 0 0) (by show 0 ≤ I 32 0 ∧ I 32 0 ≤ 20; omega)) (by decide) mw_le ?_
          rintro rt9 w9 (⟨k24, rfl, rfl⟩ | ⟨k24, rfl, rfl⟩) _ _
          · show Rch l E 2 75 _ _ _ _ (56, [some (vR 0), some (vI x), some (vI y), some (vI m)], [vI (I 32 0)], MW b (upI (upI (upI (upI (upI (upI (upI I 0 1 0) 33 (I 32 0).toNat x) 34 (I 32 0).toNat y) 35 (I 32 0).toNat 0) 36 (I 32 0).toNat (I 0 0)) 37 (I 32 0).toNat (-1)) 32 0 ((I 32 0) + 1)) L)
            have k24 : I 32 0 < 20 := k24
            refine rch_ret rfl (rt := some (vI (I 32 0))) rfl trivial mw_c ?_
            first | exact Or.inl ⟨by omega, rfl, rfl⟩ | exact Or.inr (Or.inl ⟨by omega, rfl, rfl⟩) | exact Or.inr (Or.inr (Or.inl ⟨by omega, rfl, rfl⟩)) | exact Or.inr (Or.inr (Or.inr (⟨by omega, rfl, rfl⟩))) | (exfalso; omega)
          · show Rch l E 2 75 _ _ _ _ (56, [some (vR 0), some (vI x), some (vI y), some (vI m)], [vI (-1)], MW b (upI I 0 1 0) L)
            have k24 : ¬ (I 32 0 < 20) := k24
            refine rch_ret rfl (rt := some (vI (-1))) rfl trivial mw_c ?_
            first | exact Or.inl ⟨by omega, rfl, rfl⟩ | exact Or.inr (Or.inl ⟨by omega, rfl, rfl⟩) | exact Or.inr (Or.inr (Or.inl ⟨by omega, rfl, rfl⟩)) | exact Or.inr (Or.inr (Or.inr (⟨by omega, rfl, rfl⟩))) | (exfalso; omega)
        · refine rch_run rfl (by decide) 4 (t' := (53, [some (vR 0), some (vI x), some (vI y), some (vI m)], [vI (I 0 0), vI 1, vI y, vI x, vR 32], MW b (upI I 0 1 0) L)) (ps := []) rfl trivial ?_
          refine rch_call (h' := 1) (k' := 8) (as := [vR 32, vI x, vI y, vI 1, vI (I 0 0)]) (t1 := (56, [some (vR 0), some (vI x), some (vI y), some (vI m)], [], MW b (upI I 0 1 0) L)) rfl rfl (k_hands_tell l E b (upI I 0 1 0) L x y 1 (I 0 0) (by show 0 ≤ I 32 0 ∧ I 32 0 ≤ 20; omega)) (by decide) mw_le ?_
          rintro rt9 w9 (⟨k25, rfl, rfl⟩ | ⟨k25, rfl, rfl⟩) _ _
          · show Rch l E 2 75 _ _ _ _ (56, [some (vR 0), some (vI x), some (vI y), some (vI m)], [vI (I 32 0)], MW b (upI (upI (upI (upI (upI (upI (upI I 0 1 0) 33 (I 32 0).toNat x) 34 (I 32 0).toNat y) 35 (I 32 0).toNat 1) 36 (I 32 0).toNat (I 0 0)) 37 (I 32 0).toNat (-1)) 32 0 ((I 32 0) + 1)) L)
            have k25 : I 32 0 < 20 := k25
            refine rch_ret rfl (rt := some (vI (I 32 0))) rfl trivial mw_c ?_
            first | exact Or.inl ⟨by omega, rfl, rfl⟩ | exact Or.inr (Or.inl ⟨by omega, rfl, rfl⟩) | exact Or.inr (Or.inr (Or.inl ⟨by omega, rfl, rfl⟩)) | exact Or.inr (Or.inr (Or.inr (⟨by omega, rfl, rfl⟩))) | (exfalso; omega)
          · show Rch l E 2 75 _ _ _ _ (56, [some (vR 0), some (vI x), some (vI y), some (vI m)], [vI (-1)], MW b (upI I 0 1 0) L)
            have k25 : ¬ (I 32 0 < 20) := k25
            refine rch_ret rfl (rt := some (vI (-1))) rfl trivial mw_c ?_
            first | exact Or.inl ⟨by omega, rfl, rfl⟩ | exact Or.inr (Or.inl ⟨by omega, rfl, rfl⟩) | exact Or.inr (Or.inr (Or.inl ⟨by omega, rfl, rfl⟩)) | exact Or.inr (Or.inr (Or.inr (⟨by omega, rfl, rfl⟩))) | (exfalso; omega)
      · show Rch l E 2 75 _ _ _ _ (24, [some (vR 0), some (vI x), some (vI y), some (vI m)], [vI 0], MW b I L)
        have k23 : ¬ (0 ≤ y ∧ y < I 17 0 ∧ I 20 y.toNat = 0) := k23
        refine rch_br rfl (cd := (0 : Int) ≠ 0) (t1 := (29, [some (vR 0), some (vI x), some (vI y), some (vI m)], [], MW b I L)) (t2 := (27, [some (vR 0), some (vI x), some (vI y), some (vI m)], [], MW b I L)) rfl (fun c9 => absurd c9 (by decide)) (fun _ => ?_)
        refine rch_run rfl (by decide) 1 (t' := (28, [some (vR 0), some (vI x), some (vI y), some (vI m)], [vI (-1)], MW b I L)) (ps := []) rfl trivial ?_
        refine rch_ret rfl (rt := some (vI (-1))) rfl trivial mw_c ?_
        first | exact Or.inl ⟨by omega, rfl, rfl⟩ | exact Or.inr (Or.inl ⟨by omega, rfl, rfl⟩) | exact Or.inr (Or.inr (Or.inl ⟨by omega, rfl, rfl⟩)) | exact Or.inr (Or.inr (Or.inr (⟨by omega, rfl, rfl⟩))) | (exfalso; omega)
    · show Rch l E 2 75 _ _ _ _ (13, [some (vR 0), some (vI x), some (vI y), some (vI m)], [vI 0], MW b I L)
      have k22 : ¬ (0 ≤ x ∧ x < I 17 0 ∧ I 20 x.toNat = 0) := k22
      refine rch_br rfl (cd := (0 : Int) = 0) (t1 := (27, [some (vR 0), some (vI x), some (vI y), some (vI m)], [], MW b I L)) (t2 := (16, [some (vR 0), some (vI x), some (vI y), some (vI m)], [], MW b I L)) rfl (fun _ => ?_) (fun c9 => absurd (by decide) c9)
      refine rch_run rfl (by decide) 1 (t' := (28, [some (vR 0), some (vI x), some (vI y), some (vI m)], [vI (-1)], MW b I L)) (ps := []) rfl trivial ?_
      refine rch_ret rfl (rt := some (vI (-1))) rfl trivial mw_c ?_
      first | exact Or.inl ⟨by omega, rfl, rfl⟩ | exact Or.inr (Or.inl ⟨by omega, rfl, rfl⟩) | exact Or.inr (Or.inr (Or.inl ⟨by omega, rfl, rfl⟩)) | exact Or.inr (Or.inr (Or.inr (⟨by omega, rfl, rfl⟩))) | (exfalso; omega)

theorem k_X11_unhand (l : Launch) (E : AX) (b : Bool) (I L : Nat → Nat → Int) (i : Int) (hn : 0 ≤ I 32 0 ∧ I 32 0 ≤ 20) : Con l E 2 76 [vR 0, vI i] (MW b I L) 0 0 (fun rt w => ((0 ≤ i ∧ i < I 32 0 ∧ I 37 i.toNat = -1) ∧ rt = some (vI 1) ∧ w = MW b (upI (upI I 0 1 0) 37 i.toNat (I 0 0)) L) ∨ ((¬ (0 ≤ i ∧ i < I 32 0 ∧ I 37 i.toNat = -1)) ∧ rt = some (vI 0) ∧ w = MW b (upI I 0 1 0) L)) := by
  refine con_intro (by decide) (Nat.le_of_ble_eq_true rfl) ?_
  show Rch l E 2 76 _ _ _ _ (0, [some (vR 0), some (vI i)], [], MW b I L)
  refine rch_run rfl (by decide) 8 (t' := (14, [some (vR 0), some (vI i)], [vI (I 0 0), vI i, vR 32], MW b (upI I 0 1 0) L)) (ps := [(0 : Int) = 0 ∨ (0 : Int) = 1]) rfl (by simp only [all_, i32, i64]; first | omega | (simp; done) | (simp; omega)) ?_
  refine rch_call (h' := 1) (k' := 9) (as := [vR 32, vI i, vI (I 0 0)]) (t1 := (17, [some (vR 0), some (vI i)], [], MW b (upI I 0 1 0) L)) rfl rfl (k_hands_untell l E b (upI I 0 1 0) L i (I 0 0) (by show 0 ≤ I 32 0 ∧ I 32 0 ≤ 20; omega)) (by decide) mw_le ?_
  rintro rt9 w9 (⟨k26, rfl, rfl⟩ | ⟨k26, rfl, rfl⟩) _ _
  · show Rch l E 2 76 _ _ _ _ (17, [some (vR 0), some (vI i)], [vI 1], MW b (upI (upI I 0 1 0) 37 i.toNat (I 0 0)) L)
    have k26 : 0 ≤ i ∧ i < I 32 0 ∧ I 37 i.toNat = -1 := k26
    refine rch_ret rfl (rt := some (vI 1)) rfl (Or.inr rfl) mw_c ?_
    first | exact Or.inl ⟨by omega, rfl, rfl⟩ | exact Or.inr (⟨by omega, rfl, rfl⟩) | (exfalso; omega)
  · show Rch l E 2 76 _ _ _ _ (17, [some (vR 0), some (vI i)], [vI 0], MW b (upI I 0 1 0) L)
    have k26 : ¬ (0 ≤ i ∧ i < I 32 0 ∧ I 37 i.toNat = -1) := k26
    refine rch_ret rfl (rt := some (vI 0)) rfl (Or.inl rfl) mw_c ?_
    first | exact Or.inl ⟨by omega, rfl, rfl⟩ | exact Or.inr (⟨by omega, rfl, rfl⟩) | (exfalso; omega)

theorem k_X11_fix (l : Launch) (E : AX) (b : Bool) (I L : Nat → Nat → Int) (r : Int) (f : Int) (x : Int) (hn : I 17 0 ≤ 10) (hh : 0 ≤ I 38 0 ∧ I 38 0 ≤ 20) : Con l E 2 83 [vR 0, vI r, vI f, vI x] (MW b I L) 0 0 (fun rt w => ((((0 ≤ r ∧ r < I 17 0 ∧ I 20 r.toNat = 0) ∧ (0 ≤ f ∧ f ≤ 5) ∧ 0 ≤ x ∧ x ≤ 999999) ∧ I 38 0 < 20) ∧ rt = some (vI (I 38 0)) ∧ w = MW b (upI (upI (upI (upI (upI (upI I 39 (I 38 0).toNat r) 40 (I 38 0).toNat f) 41 (I 38 0).toNat x) 42 (I 38 0).toNat (I 0 0)) 43 (I 38 0).toNat (-1)) 38 0 ((I 38 0) + 1)) L) ∨ ((¬ (((0 ≤ r ∧ r < I 17 0 ∧ I 20 r.toNat = 0) ∧ (0 ≤ f ∧ f ≤ 5) ∧ 0 ≤ x ∧ x ≤ 999999) ∧ I 38 0 < 20)) ∧ rt = some (vI (-1)) ∧ w = MW b I L)) := by
  refine con_intro (by decide) (Nat.le_of_ble_eq_true rfl) ?_
  show Rch l E 2 83 _ _ _ _ (0, [some (vR 0), some (vI r), some (vI f), some (vI x)], [], MW b I L)
  refine rch_run rfl (by decide) 3 (t' := (5, [some (vR 0), some (vI r), some (vI f), some (vI x)], [vI r, vR 17], MW b I L)) (ps := []) rfl trivial ?_
  refine rch_call (h' := 1) (k' := 32) (as := [vR 17, vI r]) (t1 := (8, [some (vR 0), some (vI r), some (vI f), some (vI x)], [], MW b I L)) rfl rfl (k_X4_isAlive l E b I L r (by show I 17 0 ≤ 10; omega)) (by decide) mw_le ?_
  rintro rt9 w9 (⟨k27, rfl, rfl⟩ | ⟨k27, rfl, rfl⟩) _ _
  · show Rch l E 2 83 _ _ _ _ (8, [some (vR 0), some (vI r), some (vI f), some (vI x)], [vI 1], MW b I L)
    have k27 : 0 ≤ r ∧ r < I 17 0 ∧ I 20 r.toNat = 0 := k27
    refine rch_br rfl (cd := (1 : Int) = 0) (t1 := (25, [some (vR 0), some (vI r), some (vI f), some (vI x)], [], MW b I L)) (t2 := (11, [some (vR 0), some (vI r), some (vI f), some (vI x)], [], MW b I L)) rfl (fun c9 => absurd c9 (by decide)) (fun _ => ?_)
    refine rch_run rfl (by decide) 1 (t' := (12, [some (vR 0), some (vI r), some (vI f), some (vI x)], [vI f], MW b I L)) (ps := []) rfl trivial ?_
    refine rch_call (h' := 1) (k' := 91) (as := [vI f]) (t1 := (15, [some (vR 0), some (vI r), some (vI f), some (vI x)], [], MW b I L)) rfl rfl (k_X11_isField l E b I L f ) (by decide) mw_le ?_
    rintro rt9 w9 (⟨k28, rfl, rfl⟩ | ⟨k28, rfl, rfl⟩) _ _
    · show Rch l E 2 83 _ _ _ _ (15, [some (vR 0), some (vI r), some (vI f), some (vI x)], [vI 1], MW b I L)
      have k28 : 0 ≤ f ∧ f ≤ 5 := k28
      refine rch_br rfl (cd := (1 : Int) = 0) (t1 := (25, [some (vR 0), some (vI r), some (vI f), some (vI x)], [], MW b I L)) (t2 := (18, [some (vR 0), some (vI r), some (vI f), some (vI x)], [], MW b I L)) rfl (fun c9 => absurd c9 (by decide)) (fun _ => ?_)
      refine rch_run rfl (by decide) 1 (t' := (19, [some (vR 0), some (vI r), some (vI f), some (vI x)], [vI x], MW b I L)) (ps := []) rfl trivial ?_
      refine rch_call (h' := 1) (k' := 92) (as := [vI x]) (t1 := (22, [some (vR 0), some (vI r), some (vI f), some (vI x)], [], MW b I L)) rfl rfl (k_X11_isValue l E b I L x ) (by decide) mw_le ?_
      rintro rt9 w9 (⟨k29, rfl, rfl⟩ | ⟨k29, rfl, rfl⟩) _ _
      · show Rch l E 2 83 _ _ _ _ (22, [some (vR 0), some (vI r), some (vI f), some (vI x)], [vI 1], MW b I L)
        have k29 : 0 ≤ x ∧ x ≤ 999999 := k29
        refine rch_br rfl (cd := (1 : Int) ≠ 0) (t1 := (27, [some (vR 0), some (vI r), some (vI f), some (vI x)], [], MW b I L)) (t2 := (25, [some (vR 0), some (vI r), some (vI f), some (vI x)], [], MW b I L)) rfl (fun _ => ?_) (fun c9 => absurd (by decide) c9)
        refine rch_run rfl (by decide) 7 (t' := (38, [some (vR 0), some (vI r), some (vI f), some (vI x)], [vI (I 0 0), vI x, vI f, vI r, vR 38], MW b I L)) (ps := []) rfl trivial ?_
        refine rch_call (h' := 1) (k' := 8) (as := [vR 38, vI r, vI f, vI x, vI (I 0 0)]) (t1 := (41, [some (vR 0), some (vI r), some (vI f), some (vI x)], [], MW b I L)) rfl rfl (k_fixes_tell l E b I L r f x (I 0 0) (by show 0 ≤ I 38 0 ∧ I 38 0 ≤ 20; omega)) (by decide) mw_le ?_
        rintro rt9 w9 (⟨k30, rfl, rfl⟩ | ⟨k30, rfl, rfl⟩) _ _
        · show Rch l E 2 83 _ _ _ _ (41, [some (vR 0), some (vI r), some (vI f), some (vI x)], [vI (I 38 0)], MW b (upI (upI (upI (upI (upI (upI I 39 (I 38 0).toNat r) 40 (I 38 0).toNat f) 41 (I 38 0).toNat x) 42 (I 38 0).toNat (I 0 0)) 43 (I 38 0).toNat (-1)) 38 0 ((I 38 0) + 1)) L)
          have k30 : I 38 0 < 20 := k30
          refine rch_ret rfl (rt := some (vI (I 38 0))) rfl trivial mw_c ?_
          first | exact Or.inl ⟨by omega, rfl, rfl⟩ | exact Or.inr (⟨by omega, rfl, rfl⟩) | (exfalso; omega)
        · show Rch l E 2 83 _ _ _ _ (41, [some (vR 0), some (vI r), some (vI f), some (vI x)], [vI (-1)], MW b I L)
          have k30 : ¬ (I 38 0 < 20) := k30
          refine rch_ret rfl (rt := some (vI (-1))) rfl trivial mw_c ?_
          first | exact Or.inl ⟨by omega, rfl, rfl⟩ | exact Or.inr (⟨by omega, rfl, rfl⟩) | (exfalso; omega)
      · show Rch l E 2 83 _ _ _ _ (22, [some (vR 0), some (vI r), some (vI f), some (vI x)], [vI 0], MW b I L)
        have k29 : ¬ (0 ≤ x ∧ x ≤ 999999) := k29
        refine rch_br rfl (cd := (0 : Int) ≠ 0) (t1 := (27, [some (vR 0), some (vI r), some (vI f), some (vI x)], [], MW b I L)) (t2 := (25, [some (vR 0), some (vI r), some (vI f), some (vI x)], [], MW b I L)) rfl (fun c9 => absurd c9 (by decide)) (fun _ => ?_)
        refine rch_run rfl (by decide) 1 (t' := (26, [some (vR 0), some (vI r), some (vI f), some (vI x)], [vI (-1)], MW b I L)) (ps := []) rfl trivial ?_
        refine rch_ret rfl (rt := some (vI (-1))) rfl trivial mw_c ?_
        first | exact Or.inl ⟨by omega, rfl, rfl⟩ | exact Or.inr (⟨by omega, rfl, rfl⟩) | (exfalso; omega)
    · show Rch l E 2 83 _ _ _ _ (15, [some (vR 0), some (vI r), some (vI f), some (vI x)], [vI 0], MW b I L)
      have k28 : ¬ (0 ≤ f ∧ f ≤ 5) := k28
      refine rch_br rfl (cd := (0 : Int) = 0) (t1 := (25, [some (vR 0), some (vI r), some (vI f), some (vI x)], [], MW b I L)) (t2 := (18, [some (vR 0), some (vI r), some (vI f), some (vI x)], [], MW b I L)) rfl (fun _ => ?_) (fun c9 => absurd (by decide) c9)
      refine rch_run rfl (by decide) 1 (t' := (26, [some (vR 0), some (vI r), some (vI f), some (vI x)], [vI (-1)], MW b I L)) (ps := []) rfl trivial ?_
      refine rch_ret rfl (rt := some (vI (-1))) rfl trivial mw_c ?_
      first | exact Or.inl ⟨by omega, rfl, rfl⟩ | exact Or.inr (⟨by omega, rfl, rfl⟩) | (exfalso; omega)
  · show Rch l E 2 83 _ _ _ _ (8, [some (vR 0), some (vI r), some (vI f), some (vI x)], [vI 0], MW b I L)
    have k27 : ¬ (0 ≤ r ∧ r < I 17 0 ∧ I 20 r.toNat = 0) := k27
    refine rch_br rfl (cd := (0 : Int) = 0) (t1 := (25, [some (vR 0), some (vI r), some (vI f), some (vI x)], [], MW b I L)) (t2 := (11, [some (vR 0), some (vI r), some (vI f), some (vI x)], [], MW b I L)) rfl (fun _ => ?_) (fun c9 => absurd (by decide) c9)
    refine rch_run rfl (by decide) 1 (t' := (26, [some (vR 0), some (vI r), some (vI f), some (vI x)], [vI (-1)], MW b I L)) (ps := []) rfl trivial ?_
    refine rch_ret rfl (rt := some (vI (-1))) rfl trivial mw_c ?_
    first | exact Or.inl ⟨by omega, rfl, rfl⟩ | exact Or.inr (⟨by omega, rfl, rfl⟩) | (exfalso; omega)

theorem k_X11_unfix (l : Launch) (E : AX) (b : Bool) (I L : Nat → Nat → Int) (i : Int) (hn : 0 ≤ I 38 0 ∧ I 38 0 ≤ 20) : Con l E 2 84 [vR 0, vI i] (MW b I L) 0 0 (fun rt w => ((0 ≤ i ∧ i < I 38 0 ∧ I 43 i.toNat = -1) ∧ rt = some (vI 1) ∧ w = MW b (upI I 43 i.toNat (I 0 0)) L) ∨ ((¬ (0 ≤ i ∧ i < I 38 0 ∧ I 43 i.toNat = -1)) ∧ rt = some (vI 0) ∧ w = MW b I L)) := by
  refine con_intro (by decide) (Nat.le_of_ble_eq_true rfl) ?_
  show Rch l E 2 84 _ _ _ _ (0, [some (vR 0), some (vI i)], [], MW b I L)
  refine rch_run rfl (by decide) 5 (t' := (9, [some (vR 0), some (vI i)], [vI (I 0 0), vI i, vR 38], MW b I L)) (ps := []) rfl trivial ?_
  refine rch_call (h' := 1) (k' := 9) (as := [vR 38, vI i, vI (I 0 0)]) (t1 := (12, [some (vR 0), some (vI i)], [], MW b I L)) rfl rfl (k_fixes_untell l E b I L i (I 0 0) (by show 0 ≤ I 38 0 ∧ I 38 0 ≤ 20; omega)) (by decide) mw_le ?_
  rintro rt9 w9 (⟨k31, rfl, rfl⟩ | ⟨k31, rfl, rfl⟩) _ _
  · show Rch l E 2 84 _ _ _ _ (12, [some (vR 0), some (vI i)], [vI 1], MW b (upI I 43 i.toNat (I 0 0)) L)
    have k31 : 0 ≤ i ∧ i < I 38 0 ∧ I 43 i.toNat = -1 := k31
    refine rch_ret rfl (rt := some (vI 1)) rfl (Or.inr rfl) mw_c ?_
    first | exact Or.inl ⟨by omega, rfl, rfl⟩ | exact Or.inr (⟨by omega, rfl, rfl⟩) | (exfalso; omega)
  · show Rch l E 2 84 _ _ _ _ (12, [some (vR 0), some (vI i)], [vI 0], MW b I L)
    have k31 : ¬ (0 ≤ i ∧ i < I 38 0 ∧ I 43 i.toNat = -1) := k31
    refine rch_ret rfl (rt := some (vI 0)) rfl (Or.inl rfl) mw_c ?_
    first | exact Or.inl ⟨by omega, rfl, rfl⟩ | exact Or.inr (⟨by omega, rfl, rfl⟩) | (exfalso; omega)

theorem k_X12_hand (l : Launch) (E : AX) (b : Bool) (I L : Nat → Nat → Int) (x : Int) (y : Int) (m : Int) (hn : I 74 4 ≤ 10) (hh : 0 ≤ I 74 43 ∧ I 74 43 ≤ 20) (hm : m = 0 ∨ m = 1) : Con l E 2 143 [vR 74, vI x, vI y, vI m] (MW b I L) 0 0 (fun rt w => ((I 74 43 ≠ 20 ∧ (0 ≤ x ∧ x < I 74 4 ∧ I 80 x.toNat = 0) ∧ (0 ≤ y ∧ y < I 74 4 ∧ I 80 y.toNat = 0) ∧ x ≠ y) ∧ rt = some (vI (((I 74 43) + 1) - 1)) ∧ w = MW b (upI (upI (upI (upI (upI (upI I 100 (I 74 43).toNat x) 101 (I 74 43).toNat y) 104 (I 74 43).toNat m) 102 (I 74 43).toNat (I 74 0)) 103 (I 74 43).toNat (-1)) 74 43 ((I 74 43) + 1)) L) ∨ ((¬ (I 74 43 ≠ 20 ∧ (0 ≤ x ∧ x < I 74 4 ∧ I 80 x.toNat = 0) ∧ (0 ≤ y ∧ y < I 74 4 ∧ I 80 y.toNat = 0) ∧ x ≠ y)) ∧ rt = some (vI (-1)) ∧ w = MW b I L)) := by
  refine con_intro (by decide) (Nat.le_of_ble_eq_true rfl) ?_
  show Rch l E 2 143 _ _ _ _ (0, [some (vR 74), some (vI x), some (vI y), some (vI m)], [], MW b I L)
  refine rch_run rfl (by decide) 3 (t' := (6, [some (vR 74), some (vI x), some (vI y), some (vI m)], [vI 20, vI (I 74 43)], MW b I L)) (ps := []) rfl trivial ?_
  refine rch_br rfl (cd := I 74 43 = (20 : Int)) (t1 := (30, [some (vR 74), some (vI x), some (vI y), some (vI m)], [], MW b I L)) (t2 := (9, [some (vR 74), some (vI x), some (vI y), some (vI m)], [], MW b I L)) rfl (fun c6_1 => ?_) (fun c6_1 => ?_)
  · refine rch_run rfl (by decide) 1 (t' := (31, [some (vR 74), some (vI x), some (vI y), some (vI m)], [vI (-1)], MW b I L)) (ps := []) rfl trivial ?_
    refine rch_ret rfl (rt := some (vI (-1))) rfl trivial mw_c ?_
    first | exact Or.inl ⟨by omega, rfl, rfl⟩ | exact Or.inr (⟨by omega, rfl, rfl⟩) | (exfalso; omega)
  · refine rch_run rfl (by decide) 2 (t' := (11, [some (vR 74), some (vI x), some (vI y), some (vI m)], [vI x, vR 74], MW b I L)) (ps := []) rfl trivial ?_
    refine rch_call (h' := 1) (k' := 109) (as := [vR 74, vI x]) (t1 := (14, [some (vR 74), some (vI x), some (vI y), some (vI m)], [], MW b I L)) rfl rfl (k_X12_isRow l E b I L x (by show I 74 4 ≤ 10; omega)) (by decide) mw_le ?_
    rintro rt9 w9 (⟨k32, rfl, rfl⟩ | ⟨k32, rfl, rfl⟩) _ _
    · show Rch l E 2 143 _ _ _ _ (14, [some (vR 74), some (vI x), some (vI y), some (vI m)], [vI 1], MW b I L)
      have k32 : 0 ≤ x ∧ x < I 74 4 ∧ I 80 x.toNat = 0 := k32
      refine rch_br rfl (cd := (1 : Int) = 0) (t1 := (30, [some (vR 74), some (vI x), some (vI y), some (vI m)], [], MW b I L)) (t2 := (17, [some (vR 74), some (vI x), some (vI y), some (vI m)], [], MW b I L)) rfl (fun c9 => absurd c9 (by decide)) (fun _ => ?_)
      refine rch_run rfl (by decide) 2 (t' := (19, [some (vR 74), some (vI x), some (vI y), some (vI m)], [vI y, vR 74], MW b I L)) (ps := []) rfl trivial ?_
      refine rch_call (h' := 1) (k' := 109) (as := [vR 74, vI y]) (t1 := (22, [some (vR 74), some (vI x), some (vI y), some (vI m)], [], MW b I L)) rfl rfl (k_X12_isRow l E b I L y (by show I 74 4 ≤ 10; omega)) (by decide) mw_le ?_
      rintro rt9 w9 (⟨k33, rfl, rfl⟩ | ⟨k33, rfl, rfl⟩) _ _
      · show Rch l E 2 143 _ _ _ _ (22, [some (vR 74), some (vI x), some (vI y), some (vI m)], [vI 1], MW b I L)
        have k33 : 0 ≤ y ∧ y < I 74 4 ∧ I 80 y.toNat = 0 := k33
        refine rch_br rfl (cd := (1 : Int) = 0) (t1 := (30, [some (vR 74), some (vI x), some (vI y), some (vI m)], [], MW b I L)) (t2 := (25, [some (vR 74), some (vI x), some (vI y), some (vI m)], [], MW b I L)) rfl (fun c9 => absurd c9 (by decide)) (fun _ => ?_)
        refine rch_run rfl (by decide) 2 (t' := (27, [some (vR 74), some (vI x), some (vI y), some (vI m)], [vI y, vI x], MW b I L)) (ps := []) rfl trivial ?_
        refine rch_br rfl (cd := x ≠ y) (t1 := (32, [some (vR 74), some (vI x), some (vI y), some (vI m)], [], MW b I L)) (t2 := (30, [some (vR 74), some (vI x), some (vI y), some (vI m)], [], MW b I L)) rfl (fun c27_4 => ?_) (fun c27_4 => ?_)
        · refine rch_run rfl (by decide) 25 (t' := (75, [some (vR 74), some (vI x), some (vI y), some (vI m)], [], MW b (upI (upI (upI (upI I 100 (I 74 43).toNat x) 101 (I 74 43).toNat y) 104 (I 74 43).toNat m) 102 (I 74 43).toNat (I 74 0)) L)) (ps := [0 ≤ I 74 43 ∧ I 74 43 < ((20 : Nat) : Int), 0 ≤ I 74 43 ∧ I 74 43 < ((20 : Nat) : Int), 0 ≤ I 74 43 ∧ I 74 43 < ((20 : Nat) : Int), m = 0 ∨ m = 1, 0 ≤ I 74 43 ∧ I 74 43 < ((20 : Nat) : Int)]) rfl (by simp only [all_, i32, i64]; first | omega | (simp; done) | (simp; omega)) ?_
          refine rch_run rfl (by decide) 16 (t' := (101, [some (vR 74), some (vI x), some (vI y), some (vI m)], [vI (((I 74 43) + 1) - 1)], MW b (upI (upI (upI (upI (upI (upI I 100 (I 74 43).toNat x) 101 (I 74 43).toNat y) 104 (I 74 43).toNat m) 102 (I 74 43).toNat (I 74 0)) 103 (I 74 43).toNat (-1)) 74 43 ((I 74 43) + 1)) L)) (ps := [0 ≤ I 74 43 ∧ I 74 43 < ((20 : Nat) : Int), i32 ((I 74 43) + 1), i32 (((I 74 43) + 1) - 1)]) rfl (by simp only [all_, i32, i64]; first | omega | (simp; done) | (simp; omega)) ?_
          refine rch_ret rfl (rt := some (vI (((I 74 43) + 1) - 1))) rfl trivial mw_c ?_
          first | exact Or.inl ⟨by omega, rfl, rfl⟩ | exact Or.inr (⟨by omega, rfl, rfl⟩) | (exfalso; omega)
        · refine rch_run rfl (by decide) 1 (t' := (31, [some (vR 74), some (vI x), some (vI y), some (vI m)], [vI (-1)], MW b I L)) (ps := []) rfl trivial ?_
          refine rch_ret rfl (rt := some (vI (-1))) rfl trivial mw_c ?_
          first | exact Or.inl ⟨by omega, rfl, rfl⟩ | exact Or.inr (⟨by omega, rfl, rfl⟩) | (exfalso; omega)
      · show Rch l E 2 143 _ _ _ _ (22, [some (vR 74), some (vI x), some (vI y), some (vI m)], [vI 0], MW b I L)
        have k33 : ¬ (0 ≤ y ∧ y < I 74 4 ∧ I 80 y.toNat = 0) := k33
        refine rch_br rfl (cd := (0 : Int) = 0) (t1 := (30, [some (vR 74), some (vI x), some (vI y), some (vI m)], [], MW b I L)) (t2 := (25, [some (vR 74), some (vI x), some (vI y), some (vI m)], [], MW b I L)) rfl (fun _ => ?_) (fun c9 => absurd (by decide) c9)
        refine rch_run rfl (by decide) 1 (t' := (31, [some (vR 74), some (vI x), some (vI y), some (vI m)], [vI (-1)], MW b I L)) (ps := []) rfl trivial ?_
        refine rch_ret rfl (rt := some (vI (-1))) rfl trivial mw_c ?_
        first | exact Or.inl ⟨by omega, rfl, rfl⟩ | exact Or.inr (⟨by omega, rfl, rfl⟩) | (exfalso; omega)
    · show Rch l E 2 143 _ _ _ _ (14, [some (vR 74), some (vI x), some (vI y), some (vI m)], [vI 0], MW b I L)
      have k32 : ¬ (0 ≤ x ∧ x < I 74 4 ∧ I 80 x.toNat = 0) := k32
      refine rch_br rfl (cd := (0 : Int) = 0) (t1 := (30, [some (vR 74), some (vI x), some (vI y), some (vI m)], [], MW b I L)) (t2 := (17, [some (vR 74), some (vI x), some (vI y), some (vI m)], [], MW b I L)) rfl (fun _ => ?_) (fun c9 => absurd (by decide) c9)
      refine rch_run rfl (by decide) 1 (t' := (31, [some (vR 74), some (vI x), some (vI y), some (vI m)], [vI (-1)], MW b I L)) (ps := []) rfl trivial ?_
      refine rch_ret rfl (rt := some (vI (-1))) rfl trivial mw_c ?_
      first | exact Or.inl ⟨by omega, rfl, rfl⟩ | exact Or.inr (⟨by omega, rfl, rfl⟩) | (exfalso; omega)

theorem k_X12_unhand (l : Launch) (E : AX) (b : Bool) (I L : Nat → Nat → Int) (i : Int) (hn : 0 ≤ I 74 43 ∧ I 74 43 ≤ 20) : Con l E 1 144 [vR 74, vI i] (MW b I L) 0 0 (fun rt w => ((0 ≤ i ∧ i < I 74 43 ∧ I 103 i.toNat < 0) ∧ rt = some (vI 1) ∧ w = MW b (upI I 103 i.toNat (I 74 0)) L) ∨ ((¬ (0 ≤ i ∧ i < I 74 43 ∧ I 103 i.toNat < 0)) ∧ rt = some (vI 0) ∧ w = MW b I L)) := by
  refine con_intro (by decide) (Nat.le_of_ble_eq_true rfl) ?_
  show Rch l E 1 144 _ _ _ _ (0, [some (vR 74), some (vI i)], [], MW b I L)
  refine rch_run rfl (by decide) 1 (t' := (1, [some (vR 74), some (vI i)], [vI i], MW b I L)) (ps := []) rfl trivial ?_
  refine rch_br rfl (cd := i < 0) (t1 := (21, [some (vR 74), some (vI i)], [], MW b I L)) (t2 := (4, [some (vR 74), some (vI i)], [], MW b I L)) rfl (fun c1_1 => ?_) (fun c1_1 => ?_)
  · refine rch_run rfl (by decide) 1 (t' := (22, [some (vR 74), some (vI i)], [vI 0], MW b I L)) (ps := []) rfl trivial ?_
    refine rch_ret rfl (rt := some (vI 0)) rfl (Or.inl rfl) mw_c ?_
    first | exact Or.inl ⟨by omega, rfl, rfl⟩ | exact Or.inr (⟨by omega, rfl, rfl⟩) | (exfalso; omega)
  · refine rch_run rfl (by decide) 3 (t' := (9, [some (vR 74), some (vI i)], [vI (I 74 43), vI i], MW b I L)) (ps := []) rfl trivial ?_
    refine rch_br rfl (cd := I 74 43 ≤ i) (t1 := (21, [some (vR 74), some (vI i)], [], MW b I L)) (t2 := (12, [some (vR 74), some (vI i)], [], MW b I L)) rfl (fun c9_2 => ?_) (fun c9_2 => ?_)
    · refine rch_run rfl (by decide) 1 (t' := (22, [some (vR 74), some (vI i)], [vI 0], MW b I L)) (ps := []) rfl trivial ?_
      refine rch_ret rfl (rt := some (vI 0)) rfl (Or.inl rfl) mw_c ?_
      first | exact Or.inl ⟨by omega, rfl, rfl⟩ | exact Or.inr (⟨by omega, rfl, rfl⟩) | (exfalso; omega)
    · refine rch_run rfl (by decide) 4 (t' := (18, [some (vR 74), some (vI i)], [vI (I 103 i.toNat)], MW b I L)) (ps := [0 ≤ i ∧ i < ((20 : Nat) : Int)]) rfl (by simp only [all_, i32, i64]; first | omega | (simp; done) | (simp; omega)) ?_
      refine rch_br rfl (cd := I 103 i.toNat < 0) (t1 := (23, [some (vR 74), some (vI i)], [], MW b I L)) (t2 := (21, [some (vR 74), some (vI i)], [], MW b I L)) rfl (fun c18_3 => ?_) (fun c18_3 => ?_)
      · refine rch_run rfl (by decide) 7 (t' := (34, [some (vR 74), some (vI i)], [vI 1], MW b (upI I 103 i.toNat (I 74 0)) L)) (ps := [0 ≤ i ∧ i < ((20 : Nat) : Int)]) rfl (by simp only [all_, i32, i64]; first | omega | (simp; done) | (simp; omega)) ?_
        refine rch_ret rfl (rt := some (vI 1)) rfl (Or.inr rfl) mw_c ?_
        first | exact Or.inl ⟨by omega, rfl, rfl⟩ | exact Or.inr (⟨by omega, rfl, rfl⟩) | (exfalso; omega)
      · refine rch_run rfl (by decide) 1 (t' := (22, [some (vR 74), some (vI i)], [vI 0], MW b I L)) (ps := []) rfl trivial ?_
        refine rch_ret rfl (rt := some (vI 0)) rfl (Or.inl rfl) mw_c ?_
        first | exact Or.inl ⟨by omega, rfl, rfl⟩ | exact Or.inr (⟨by omega, rfl, rfl⟩) | (exfalso; omega)

theorem k_X12_unfix (l : Launch) (E : AX) (b : Bool) (I L : Nat → Nat → Int) (i : Int) (hn : 0 ≤ I 74 44 ∧ I 74 44 ≤ 20) : Con l E 1 146 [vR 74, vI i] (MW b I L) 0 0 (fun rt w => ((0 ≤ i ∧ i < I 74 44 ∧ I 109 i.toNat < 0) ∧ rt = some (vI 1) ∧ w = MW b (upI I 109 i.toNat (I 74 0)) L) ∨ ((¬ (0 ≤ i ∧ i < I 74 44 ∧ I 109 i.toNat < 0)) ∧ rt = some (vI 0) ∧ w = MW b I L)) := by
  refine con_intro (by decide) (Nat.le_of_ble_eq_true rfl) ?_
  show Rch l E 1 146 _ _ _ _ (0, [some (vR 74), some (vI i)], [], MW b I L)
  refine rch_run rfl (by decide) 1 (t' := (1, [some (vR 74), some (vI i)], [vI i], MW b I L)) (ps := []) rfl trivial ?_
  refine rch_br rfl (cd := i < 0) (t1 := (21, [some (vR 74), some (vI i)], [], MW b I L)) (t2 := (4, [some (vR 74), some (vI i)], [], MW b I L)) rfl (fun c1_1 => ?_) (fun c1_1 => ?_)
  · refine rch_run rfl (by decide) 1 (t' := (22, [some (vR 74), some (vI i)], [vI 0], MW b I L)) (ps := []) rfl trivial ?_
    refine rch_ret rfl (rt := some (vI 0)) rfl (Or.inl rfl) mw_c ?_
    first | exact Or.inl ⟨by omega, rfl, rfl⟩ | exact Or.inr (⟨by omega, rfl, rfl⟩) | (exfalso; omega)
  · refine rch_run rfl (by decide) 3 (t' := (9, [some (vR 74), some (vI i)], [vI (I 74 44), vI i], MW b I L)) (ps := []) rfl trivial ?_
    refine rch_br rfl (cd := I 74 44 ≤ i) (t1 := (21, [some (vR 74), some (vI i)], [], MW b I L)) (t2 := (12, [some (vR 74), some (vI i)], [], MW b I L)) rfl (fun c9_2 => ?_) (fun c9_2 => ?_)
    · refine rch_run rfl (by decide) 1 (t' := (22, [some (vR 74), some (vI i)], [vI 0], MW b I L)) (ps := []) rfl trivial ?_
      refine rch_ret rfl (rt := some (vI 0)) rfl (Or.inl rfl) mw_c ?_
      first | exact Or.inl ⟨by omega, rfl, rfl⟩ | exact Or.inr (⟨by omega, rfl, rfl⟩) | (exfalso; omega)
    · refine rch_run rfl (by decide) 4 (t' := (18, [some (vR 74), some (vI i)], [vI (I 109 i.toNat)], MW b I L)) (ps := [0 ≤ i ∧ i < ((20 : Nat) : Int)]) rfl (by simp only [all_, i32, i64]; first | omega | (simp; done) | (simp; omega)) ?_
      refine rch_br rfl (cd := I 109 i.toNat < 0) (t1 := (23, [some (vR 74), some (vI i)], [], MW b I L)) (t2 := (21, [some (vR 74), some (vI i)], [], MW b I L)) rfl (fun c18_3 => ?_) (fun c18_3 => ?_)
      · refine rch_run rfl (by decide) 7 (t' := (34, [some (vR 74), some (vI i)], [vI 1], MW b (upI I 109 i.toNat (I 74 0)) L)) (ps := [0 ≤ i ∧ i < ((20 : Nat) : Int)]) rfl (by simp only [all_, i32, i64]; first | omega | (simp; done) | (simp; omega)) ?_
        refine rch_ret rfl (rt := some (vI 1)) rfl (Or.inr rfl) mw_c ?_
        first | exact Or.inl ⟨by omega, rfl, rfl⟩ | exact Or.inr (⟨by omega, rfl, rfl⟩) | (exfalso; omega)
      · refine rch_run rfl (by decide) 1 (t' := (22, [some (vR 74), some (vI i)], [vI 0], MW b I L)) (ps := []) rfl trivial ?_
        refine rch_ret rfl (rt := some (vI 0)) rfl (Or.inl rfl) mw_c ?_
        first | exact Or.inl ⟨by omega, rfl, rfl⟩ | exact Or.inr (⟨by omega, rfl, rfl⟩) | (exfalso; omega)

theorem k_X12_fix (l : Launch) (E : AX) (b : Bool) (I L : Nat → Nat → Int) (r : Int) (f : Int) (x : Int) (hn : I 74 4 ≤ 10) (hh : 0 ≤ I 74 44 ∧ I 74 44 ≤ 20) : Con l E 2 145 [vR 74, vI r, vI f, vI x] (MW b I L) 0 0 (fun rt w => ((I 74 44 ≠ 20 ∧ (0 ≤ r ∧ r < I 74 4 ∧ I 80 r.toNat = 0) ∧ (0 ≤ f ∧ f ≤ 5) ∧ 0 ≤ x ∧ x ≤ 999999) ∧ rt = some (vI (((I 74 44) + 1) - 1)) ∧ w = MW b (upI (upI (upI (upI (upI (upI I 105 (I 74 44).toNat r) 106 (I 74 44).toNat f) 107 (I 74 44).toNat x) 108 (I 74 44).toNat (I 74 0)) 109 (I 74 44).toNat (-1)) 74 44 ((I 74 44) + 1)) L) ∨ ((¬ (I 74 44 ≠ 20 ∧ (0 ≤ r ∧ r < I 74 4 ∧ I 80 r.toNat = 0) ∧ (0 ≤ f ∧ f ≤ 5) ∧ 0 ≤ x ∧ x ≤ 999999)) ∧ rt = some (vI (-1)) ∧ w = MW b I L)) := by
  refine con_intro (by decide) (Nat.le_of_ble_eq_true rfl) ?_
  show Rch l E 2 145 _ _ _ _ (0, [some (vR 74), some (vI r), some (vI f), some (vI x)], [], MW b I L)
  refine rch_run rfl (by decide) 3 (t' := (6, [some (vR 74), some (vI r), some (vI f), some (vI x)], [vI 20, vI (I 74 44)], MW b I L)) (ps := []) rfl trivial ?_
  refine rch_br rfl (cd := I 74 44 = (20 : Int)) (t1 := (31, [some (vR 74), some (vI r), some (vI f), some (vI x)], [], MW b I L)) (t2 := (9, [some (vR 74), some (vI r), some (vI f), some (vI x)], [], MW b I L)) rfl (fun c6_1 => ?_) (fun c6_1 => ?_)
  · refine rch_run rfl (by decide) 1 (t' := (32, [some (vR 74), some (vI r), some (vI f), some (vI x)], [vI (-1)], MW b I L)) (ps := []) rfl trivial ?_
    refine rch_ret rfl (rt := some (vI (-1))) rfl trivial mw_c ?_
    first | exact Or.inl ⟨by omega, rfl, rfl⟩ | exact Or.inr (⟨by omega, rfl, rfl⟩) | (exfalso; omega)
  · refine rch_run rfl (by decide) 2 (t' := (11, [some (vR 74), some (vI r), some (vI f), some (vI x)], [vI r, vR 74], MW b I L)) (ps := []) rfl trivial ?_
    refine rch_call (h' := 1) (k' := 109) (as := [vR 74, vI r]) (t1 := (14, [some (vR 74), some (vI r), some (vI f), some (vI x)], [], MW b I L)) rfl rfl (k_X12_isRow l E b I L r (by show I 74 4 ≤ 10; omega)) (by decide) mw_le ?_
    rintro rt9 w9 (⟨k34, rfl, rfl⟩ | ⟨k34, rfl, rfl⟩) _ _
    · show Rch l E 2 145 _ _ _ _ (14, [some (vR 74), some (vI r), some (vI f), some (vI x)], [vI 1], MW b I L)
      have k34 : 0 ≤ r ∧ r < I 74 4 ∧ I 80 r.toNat = 0 := k34
      refine rch_br rfl (cd := (1 : Int) = 0) (t1 := (31, [some (vR 74), some (vI r), some (vI f), some (vI x)], [], MW b I L)) (t2 := (17, [some (vR 74), some (vI r), some (vI f), some (vI x)], [], MW b I L)) rfl (fun c9 => absurd c9 (by decide)) (fun _ => ?_)
      refine rch_run rfl (by decide) 1 (t' := (18, [some (vR 74), some (vI r), some (vI f), some (vI x)], [vI f], MW b I L)) (ps := []) rfl trivial ?_
      refine rch_call (h' := 1) (k' := 104) (as := [vI f]) (t1 := (21, [some (vR 74), some (vI r), some (vI f), some (vI x)], [], MW b I L)) rfl rfl (k_X12_isField l E b I L f ) (by decide) mw_le ?_
      rintro rt9 w9 (⟨k35, rfl, rfl⟩ | ⟨k35, rfl, rfl⟩) _ _
      · show Rch l E 2 145 _ _ _ _ (21, [some (vR 74), some (vI r), some (vI f), some (vI x)], [vI 1], MW b I L)
        have k35 : 0 ≤ f ∧ f ≤ 5 := k35
        refine rch_br rfl (cd := (1 : Int) = 0) (t1 := (31, [some (vR 74), some (vI r), some (vI f), some (vI x)], [], MW b I L)) (t2 := (24, [some (vR 74), some (vI r), some (vI f), some (vI x)], [], MW b I L)) rfl (fun c9 => absurd c9 (by decide)) (fun _ => ?_)
        refine rch_run rfl (by decide) 1 (t' := (25, [some (vR 74), some (vI r), some (vI f), some (vI x)], [vI x], MW b I L)) (ps := []) rfl trivial ?_
        refine rch_call (h' := 1) (k' := 111) (as := [vI x]) (t1 := (28, [some (vR 74), some (vI r), some (vI f), some (vI x)], [], MW b I L)) rfl rfl (k_X12_isValue l E b I L x ) (by decide) mw_le ?_
        rintro rt9 w9 (⟨k36, rfl, rfl⟩ | ⟨k36, rfl, rfl⟩) _ _
        · show Rch l E 2 145 _ _ _ _ (28, [some (vR 74), some (vI r), some (vI f), some (vI x)], [vI 1], MW b I L)
          have k36 : 0 ≤ x ∧ x ≤ 999999 := k36
          refine rch_br rfl (cd := (1 : Int) ≠ 0) (t1 := (33, [some (vR 74), some (vI r), some (vI f), some (vI x)], [], MW b I L)) (t2 := (31, [some (vR 74), some (vI r), some (vI f), some (vI x)], [], MW b I L)) rfl (fun _ => ?_) (fun c9 => absurd (by decide) c9)
          refine rch_run rfl (by decide) 25 (t' := (76, [some (vR 74), some (vI r), some (vI f), some (vI x)], [], MW b (upI (upI (upI (upI I 105 (I 74 44).toNat r) 106 (I 74 44).toNat f) 107 (I 74 44).toNat x) 108 (I 74 44).toNat (I 74 0)) L)) (ps := [0 ≤ I 74 44 ∧ I 74 44 < ((20 : Nat) : Int), 0 ≤ I 74 44 ∧ I 74 44 < ((20 : Nat) : Int), 0 ≤ I 74 44 ∧ I 74 44 < ((20 : Nat) : Int), 0 ≤ I 74 44 ∧ I 74 44 < ((20 : Nat) : Int)]) rfl (by simp only [all_, i32, i64]; first | omega | (simp; done) | (simp; omega)) ?_
          refine rch_run rfl (by decide) 16 (t' := (102, [some (vR 74), some (vI r), some (vI f), some (vI x)], [vI (((I 74 44) + 1) - 1)], MW b (upI (upI (upI (upI (upI (upI I 105 (I 74 44).toNat r) 106 (I 74 44).toNat f) 107 (I 74 44).toNat x) 108 (I 74 44).toNat (I 74 0)) 109 (I 74 44).toNat (-1)) 74 44 ((I 74 44) + 1)) L)) (ps := [0 ≤ I 74 44 ∧ I 74 44 < ((20 : Nat) : Int), i32 ((I 74 44) + 1), i32 (((I 74 44) + 1) - 1)]) rfl (by simp only [all_, i32, i64]; first | omega | (simp; done) | (simp; omega)) ?_
          refine rch_ret rfl (rt := some (vI (((I 74 44) + 1) - 1))) rfl trivial mw_c ?_
          first | exact Or.inl ⟨by omega, rfl, rfl⟩ | exact Or.inr (⟨by omega, rfl, rfl⟩) | (exfalso; omega)
        · show Rch l E 2 145 _ _ _ _ (28, [some (vR 74), some (vI r), some (vI f), some (vI x)], [vI 0], MW b I L)
          have k36 : ¬ (0 ≤ x ∧ x ≤ 999999) := k36
          refine rch_br rfl (cd := (0 : Int) ≠ 0) (t1 := (33, [some (vR 74), some (vI r), some (vI f), some (vI x)], [], MW b I L)) (t2 := (31, [some (vR 74), some (vI r), some (vI f), some (vI x)], [], MW b I L)) rfl (fun c9 => absurd c9 (by decide)) (fun _ => ?_)
          refine rch_run rfl (by decide) 1 (t' := (32, [some (vR 74), some (vI r), some (vI f), some (vI x)], [vI (-1)], MW b I L)) (ps := []) rfl trivial ?_
          refine rch_ret rfl (rt := some (vI (-1))) rfl trivial mw_c ?_
          first | exact Or.inl ⟨by omega, rfl, rfl⟩ | exact Or.inr (⟨by omega, rfl, rfl⟩) | (exfalso; omega)
      · show Rch l E 2 145 _ _ _ _ (21, [some (vR 74), some (vI r), some (vI f), some (vI x)], [vI 0], MW b I L)
        have k35 : ¬ (0 ≤ f ∧ f ≤ 5) := k35
        refine rch_br rfl (cd := (0 : Int) = 0) (t1 := (31, [some (vR 74), some (vI r), some (vI f), some (vI x)], [], MW b I L)) (t2 := (24, [some (vR 74), some (vI r), some (vI f), some (vI x)], [], MW b I L)) rfl (fun _ => ?_) (fun c9 => absurd (by decide) c9)
        refine rch_run rfl (by decide) 1 (t' := (32, [some (vR 74), some (vI r), some (vI f), some (vI x)], [vI (-1)], MW b I L)) (ps := []) rfl trivial ?_
        refine rch_ret rfl (rt := some (vI (-1))) rfl trivial mw_c ?_
        first | exact Or.inl ⟨by omega, rfl, rfl⟩ | exact Or.inr (⟨by omega, rfl, rfl⟩) | (exfalso; omega)
    · show Rch l E 2 145 _ _ _ _ (14, [some (vR 74), some (vI r), some (vI f), some (vI x)], [vI 0], MW b I L)
      have k34 : ¬ (0 ≤ r ∧ r < I 74 4 ∧ I 80 r.toNat = 0) := k34
      refine rch_br rfl (cd := (0 : Int) = 0) (t1 := (31, [some (vR 74), some (vI r), some (vI f), some (vI x)], [], MW b I L)) (t2 := (17, [some (vR 74), some (vI r), some (vI f), some (vI x)], [], MW b I L)) rfl (fun _ => ?_) (fun c9 => absurd (by decide) c9)
      refine rch_run rfl (by decide) 1 (t' := (32, [some (vR 74), some (vI r), some (vI f), some (vI x)], [vI (-1)], MW b I L)) (ps := []) rfl trivial ?_
      refine rch_ret rfl (rt := some (vI (-1))) rfl trivial mw_c ?_
      first | exact Or.inl ⟨by omega, rfl, rfl⟩ | exact Or.inr (⟨by omega, rfl, rfl⟩) | (exfalso; omega)

theorem k_X12_isKnown (l : Launch) (E : AX) (b : Bool) (I L : Nat → Nat → Int) (t : Int) (u : Int) (k : Int) : Con l E 1 142 [vI t, vI u, vI k] (MW b I L) 0 0 (fun rt w => ((t ≤ k ∧ ¬ (0 ≤ u ∧ u ≤ k)) ∧ rt = some (vI 1) ∧ w = MW b I L) ∨ ((¬ (t ≤ k ∧ ¬ (0 ≤ u ∧ u ≤ k))) ∧ rt = some (vI 0) ∧ w = MW b I L)) := by
  refine con_intro (by decide) (Nat.le_of_ble_eq_true rfl) ?_
  show Rch l E 1 142 _ _ _ _ (0, [some (vI t), some (vI u), some (vI k)], [], MW b I L)
  refine rch_run rfl (by decide) 2 (t' := (2, [some (vI t), some (vI u), some (vI k)], [vI k, vI t], MW b I L)) (ps := []) rfl trivial ?_
  refine rch_br rfl (cd := k < t) (t1 := (18, [some (vI t), some (vI u), some (vI k)], [], MW b I L)) (t2 := (5, [some (vI t), some (vI u), some (vI k)], [], MW b I L)) rfl (fun c2_1 => ?_) (fun c2_1 => ?_)
  · refine rch_run rfl (by decide) 1 (t' := (19, [some (vI t), some (vI u), some (vI k)], [vI 0], MW b I L)) (ps := []) rfl trivial ?_
    refine rch_ret rfl (rt := some (vI 0)) rfl (Or.inl rfl) mw_c ?_
    first | exact Or.inl ⟨by omega, rfl, rfl⟩ | exact Or.inr (⟨by omega, rfl, rfl⟩) | (exfalso; omega)
  · refine rch_run rfl (by decide) 1 (t' := (6, [some (vI t), some (vI u), some (vI k)], [vI u], MW b I L)) (ps := []) rfl trivial ?_
    refine rch_br rfl (cd := u < 0) (t1 := (14, [some (vI t), some (vI u), some (vI k)], [], MW b I L)) (t2 := (9, [some (vI t), some (vI u), some (vI k)], [], MW b I L)) rfl (fun c6_2 => ?_) (fun c6_2 => ?_)
    · refine rch_run rfl (by decide) 2 (t' := (19, [some (vI t), some (vI u), some (vI k)], [vI 1], MW b I L)) (ps := []) rfl trivial ?_
      refine rch_ret rfl (rt := some (vI 1)) rfl (Or.inr rfl) mw_c ?_
      first | exact Or.inl ⟨by omega, rfl, rfl⟩ | exact Or.inr (⟨by omega, rfl, rfl⟩) | (exfalso; omega)
    · refine rch_run rfl (by decide) 2 (t' := (11, [some (vI t), some (vI u), some (vI k)], [vI k, vI u], MW b I L)) (ps := []) rfl trivial ?_
      refine rch_br rfl (cd := u ≤ k) (t1 := (18, [some (vI t), some (vI u), some (vI k)], [], MW b I L)) (t2 := (14, [some (vI t), some (vI u), some (vI k)], [], MW b I L)) rfl (fun c11_3 => ?_) (fun c11_3 => ?_)
      · refine rch_run rfl (by decide) 1 (t' := (19, [some (vI t), some (vI u), some (vI k)], [vI 0], MW b I L)) (ps := []) rfl trivial ?_
        refine rch_ret rfl (rt := some (vI 0)) rfl (Or.inl rfl) mw_c ?_
        first | exact Or.inl ⟨by omega, rfl, rfl⟩ | exact Or.inr (⟨by omega, rfl, rfl⟩) | (exfalso; omega)
      · refine rch_run rfl (by decide) 2 (t' := (19, [some (vI t), some (vI u), some (vI k)], [vI 1], MW b I L)) (ps := []) rfl trivial ?_
        refine rch_ret rfl (rt := some (vI 1)) rfl (Or.inr rfl) mw_c ?_
        first | exact Or.inl ⟨by omega, rfl, rfl⟩ | exact Or.inr (⟨by omega, rfl, rfl⟩) | (exfalso; omega)

theorem k_X12_isThere (l : Launch) (E : AX) (b : Bool) (I L : Nat → Nat → Int) (r : Int) (k : Int) (hn : I 74 4 ≤ 10) : Con l E 2 110 [vR 74, vI r, vI k] (MW b I L) 0 0 (fun rt w => (((0 ≤ r ∧ r < I 74 4 ∧ I 80 r.toNat = 0) ∧ I 79 r.toNat ≤ k) ∧ rt = some (vI 1) ∧ w = MW b I L) ∨ ((¬ ((0 ≤ r ∧ r < I 74 4 ∧ I 80 r.toNat = 0) ∧ I 79 r.toNat ≤ k)) ∧ rt = some (vI 0) ∧ w = MW b I L)) := by
  refine con_intro (by decide) (Nat.le_of_ble_eq_true rfl) ?_
  show Rch l E 2 110 _ _ _ _ (0, [some (vR 74), some (vI r), some (vI k)], [], MW b I L)
  refine rch_run rfl (by decide) 2 (t' := (2, [some (vR 74), some (vI r), some (vI k)], [vI r, vR 74], MW b I L)) (ps := []) rfl trivial ?_
  refine rch_call (h' := 1) (k' := 109) (as := [vR 74, vI r]) (t1 := (5, [some (vR 74), some (vI r), some (vI k)], [], MW b I L)) rfl rfl (k_X12_isRow l E b I L r (by show I 74 4 ≤ 10; omega)) (by decide) mw_le ?_
  rintro rt9 w9 (⟨k37, rfl, rfl⟩ | ⟨k37, rfl, rfl⟩) _ _
  · show Rch l E 2 110 _ _ _ _ (5, [some (vR 74), some (vI r), some (vI k)], [vI 1], MW b I L)
    have k37 : 0 ≤ r ∧ r < I 74 4 ∧ I 80 r.toNat = 0 := k37
    refine rch_br rfl (cd := (1 : Int) = 0) (t1 := (22, [some (vR 74), some (vI r), some (vI k)], [], MW b I L)) (t2 := (8, [some (vR 74), some (vI r), some (vI k)], [], MW b I L)) rfl (fun c9 => absurd c9 (by decide)) (fun _ => ?_)
    refine rch_run rfl (by decide) 5 (t' := (15, [some (vR 74), some (vI r), some (vI k)], [vI k, vI (I 79 r.toNat)], MW b I L)) (ps := [0 ≤ r ∧ r < ((10 : Nat) : Int)]) rfl (by simp only [all_, i32, i64]; first | omega | (simp; done) | (simp; omega)) ?_
    refine rch_br rfl (cd := k < I 79 r.toNat) (t1 := (22, [some (vR 74), some (vI r), some (vI k)], [], MW b I L)) (t2 := (18, [some (vR 74), some (vI r), some (vI k)], [], MW b I L)) rfl (fun c15_2 => ?_) (fun c15_2 => ?_)
    · refine rch_run rfl (by decide) 1 (t' := (23, [some (vR 74), some (vI r), some (vI k)], [vI 0], MW b I L)) (ps := []) rfl trivial ?_
      refine rch_ret rfl (rt := some (vI 0)) rfl (Or.inl rfl) mw_c ?_
      first | exact Or.inl ⟨by omega, rfl, rfl⟩ | exact Or.inr (⟨by omega, rfl, rfl⟩) | (exfalso; omega)
    · refine rch_run rfl (by decide) 2 (t' := (23, [some (vR 74), some (vI r), some (vI k)], [vI 1], MW b I L)) (ps := []) rfl trivial ?_
      refine rch_ret rfl (rt := some (vI 1)) rfl (Or.inr rfl) mw_c ?_
      first | exact Or.inl ⟨by omega, rfl, rfl⟩ | exact Or.inr (⟨by omega, rfl, rfl⟩) | (exfalso; omega)
  · show Rch l E 2 110 _ _ _ _ (5, [some (vR 74), some (vI r), some (vI k)], [vI 0], MW b I L)
    have k37 : ¬ (0 ≤ r ∧ r < I 74 4 ∧ I 80 r.toNat = 0) := k37
    refine rch_br rfl (cd := (0 : Int) = 0) (t1 := (22, [some (vR 74), some (vI r), some (vI k)], [], MW b I L)) (t2 := (8, [some (vR 74), some (vI r), some (vI k)], [], MW b I L)) rfl (fun _ => ?_) (fun c9 => absurd (by decide) c9)
    refine rch_run rfl (by decide) 1 (t' := (23, [some (vR 74), some (vI r), some (vI k)], [vI 0], MW b I L)) (ps := []) rfl trivial ?_
    refine rch_ret rfl (rt := some (vI 0)) rfl (Or.inl rfl) mw_c ?_
    first | exact Or.inl ⟨by omega, rfl, rfl⟩ | exact Or.inr (⟨by omega, rfl, rfl⟩) | (exfalso; omega)

theorem k_X5_isThere (l : Launch) (E : AX) (b : Bool) (I L : Nat → Nat → Int) (r : Int) : Con l E 1 36 [vR 44, vI r] (MW b I L) 0 0 (fun rt w => ((0 ≤ r ∧ r < 10 ∧ I 45 r.toNat ≠ 0) ∧ rt = some (vI 1) ∧ w = MW b I L) ∨ ((¬ (0 ≤ r ∧ r < 10 ∧ I 45 r.toNat ≠ 0)) ∧ rt = some (vI 0) ∧ w = MW b I L)) := by
  refine con_intro (by decide) (Nat.le_of_ble_eq_true rfl) ?_
  show Rch l E 1 36 _ _ _ _ (0, [some (vR 44), some (vI r)], [], MW b I L)
  refine rch_run rfl (by decide) 1 (t' := (1, [some (vR 44), some (vI r)], [vI r], MW b I L)) (ps := []) rfl trivial ?_
  refine rch_br rfl (cd := r < 0) (t1 := (23, [some (vR 44), some (vI r)], [], MW b I L)) (t2 := (4, [some (vR 44), some (vI r)], [], MW b I L)) rfl (fun c1_1 => ?_) (fun c1_1 => ?_)
  · refine rch_run rfl (by decide) 1 (t' := (24, [some (vR 44), some (vI r)], [vI 0], MW b I L)) (ps := []) rfl trivial ?_
    refine rch_ret rfl (rt := some (vI 0)) rfl (Or.inl rfl) mw_c ?_
    first | exact Or.inl ⟨by omega, rfl, rfl⟩ | exact Or.inr (⟨by omega, rfl, rfl⟩) | (exfalso; omega)
  · refine rch_run rfl (by decide) 2 (t' := (7, [some (vR 44), some (vI r)], [vI 10, vI r], MW b I L)) (ps := []) rfl trivial ?_
    refine rch_br rfl (cd := (10 : Int) ≤ r) (t1 := (23, [some (vR 44), some (vI r)], [], MW b I L)) (t2 := (10, [some (vR 44), some (vI r)], [], MW b I L)) rfl (fun c7_2 => ?_) (fun c7_2 => ?_)
    · refine rch_run rfl (by decide) 1 (t' := (24, [some (vR 44), some (vI r)], [vI 0], MW b I L)) (ps := []) rfl trivial ?_
      refine rch_ret rfl (rt := some (vI 0)) rfl (Or.inl rfl) mw_c ?_
      first | exact Or.inl ⟨by omega, rfl, rfl⟩ | exact Or.inr (⟨by omega, rfl, rfl⟩) | (exfalso; omega)
    · refine rch_run rfl (by decide) 4 (t' := (16, [some (vR 44), some (vI r)], [vI (I 45 r.toNat)], MW b I L)) (ps := [0 ≤ r ∧ r < ((10 : Nat) : Int)]) rfl (by simp only [all_, i32, i64]; first | omega | (simp; done) | (simp; omega)) ?_
      refine rch_br rfl (cd := I 45 r.toNat = 0) (t1 := (23, [some (vR 44), some (vI r)], [], MW b I L)) (t2 := (19, [some (vR 44), some (vI r)], [], MW b I L)) rfl (fun c16_3 => ?_) (fun c16_3 => ?_)
      · refine rch_run rfl (by decide) 1 (t' := (24, [some (vR 44), some (vI r)], [vI 0], MW b I L)) (ps := []) rfl trivial ?_
        refine rch_ret rfl (rt := some (vI 0)) rfl (Or.inl rfl) mw_c ?_
        first | exact Or.inl ⟨by omega, rfl, rfl⟩ | exact Or.inr (⟨by omega, rfl, rfl⟩) | (exfalso; omega)
      · refine rch_run rfl (by decide) 2 (t' := (24, [some (vR 44), some (vI r)], [vI 1], MW b I L)) (ps := []) rfl trivial ?_
        refine rch_ret rfl (rt := some (vI 1)) rfl (Or.inr rfl) mw_c ?_
        first | exact Or.inl ⟨by omega, rfl, rfl⟩ | exact Or.inr (⟨by omega, rfl, rfl⟩) | (exfalso; omega)

theorem k_X5_valueOf (l : Launch) (E : AX) (b : Bool) (I L : Nat → Nat → Int) (r : Int) (f : Int) : Con l E 2 37 [vR 44, vI r, vI f] (MW b I L) 0 0 (fun rt w => (((0 ≤ r ∧ r < 10 ∧ I 45 r.toNat ≠ 0) ∧ 0 ≤ f ∧ f ≤ 5) ∧ rt = some (vI (I 46 ((r * 6) + f).toNat)) ∧ w = MW b I L) ∨ ((¬ ((0 ≤ r ∧ r < 10 ∧ I 45 r.toNat ≠ 0) ∧ 0 ≤ f ∧ f ≤ 5)) ∧ rt = some (vI (-1)) ∧ w = MW b I L)) := by
  refine con_intro (by decide) (Nat.le_of_ble_eq_true rfl) ?_
  show Rch l E 2 37 _ _ _ _ (0, [some (vR 44), some (vI r), some (vI f)], [], MW b I L)
  refine rch_run rfl (by decide) 2 (t' := (2, [some (vR 44), some (vI r), some (vI f)], [vI r, vR 44], MW b I L)) (ps := []) rfl trivial ?_
  refine rch_call (h' := 1) (k' := 36) (as := [vR 44, vI r]) (t1 := (5, [some (vR 44), some (vI r), some (vI f)], [], MW b I L)) rfl rfl (k_X5_isThere l E b I L r ) (by decide) mw_le ?_
  rintro rt9 w9 (⟨k38, rfl, rfl⟩ | ⟨k38, rfl, rfl⟩) _ _
  · show Rch l E 2 37 _ _ _ _ (5, [some (vR 44), some (vI r), some (vI f)], [vI 1], MW b I L)
    have k38 : 0 ≤ r ∧ r < 10 ∧ I 45 r.toNat ≠ 0 := k38
    refine rch_br rfl (cd := (1 : Int) = 0) (t1 := (29, [some (vR 44), some (vI r), some (vI f)], [], MW b I L)) (t2 := (8, [some (vR 44), some (vI r), some (vI f)], [], MW b I L)) rfl (fun c9 => absurd c9 (by decide)) (fun _ => ?_)
    refine rch_run rfl (by decide) 1 (t' := (9, [some (vR 44), some (vI r), some (vI f)], [vI f], MW b I L)) (ps := []) rfl trivial ?_
    refine rch_call (h' := 1) (k' := 91) (as := [vI f]) (t1 := (12, [some (vR 44), some (vI r), some (vI f)], [], MW b I L)) rfl rfl (k_X11_isField l E b I L f ) (by decide) mw_le ?_
    rintro rt9 w9 (⟨k39, rfl, rfl⟩ | ⟨k39, rfl, rfl⟩) _ _
    · show Rch l E 2 37 _ _ _ _ (12, [some (vR 44), some (vI r), some (vI f)], [vI 1], MW b I L)
      have k39 : 0 ≤ f ∧ f ≤ 5 := k39
      refine rch_br rfl (cd := (1 : Int) = 0) (t1 := (29, [some (vR 44), some (vI r), some (vI f)], [], MW b I L)) (t2 := (15, [some (vR 44), some (vI r), some (vI f)], [], MW b I L)) rfl (fun c9 => absurd c9 (by decide)) (fun _ => ?_)
      refine rch_run rfl (by decide) 9 (t' := (30, [some (vR 44), some (vI r), some (vI f)], [vI (I 46 ((r * 6) + f).toNat)], MW b I L)) (ps := [i32 (r * 6), i32 ((r * 6) + f), 0 ≤ (r * 6) + f ∧ (r * 6) + f < ((60 : Nat) : Int)]) rfl (by simp only [all_, i32, i64]; first | omega | (simp; done) | (simp; omega)) ?_
      refine rch_ret rfl (rt := some (vI (I 46 ((r * 6) + f).toNat))) rfl trivial mw_c ?_
      first | exact Or.inl ⟨by omega, rfl, rfl⟩ | exact Or.inr (⟨by omega, rfl, rfl⟩) | (exfalso; omega)
    · show Rch l E 2 37 _ _ _ _ (12, [some (vR 44), some (vI r), some (vI f)], [vI 0], MW b I L)
      have k39 : ¬ (0 ≤ f ∧ f ≤ 5) := k39
      refine rch_br rfl (cd := (0 : Int) = 0) (t1 := (29, [some (vR 44), some (vI r), some (vI f)], [], MW b I L)) (t2 := (15, [some (vR 44), some (vI r), some (vI f)], [], MW b I L)) rfl (fun _ => ?_) (fun c9 => absurd (by decide) c9)
      refine rch_run rfl (by decide) 1 (t' := (30, [some (vR 44), some (vI r), some (vI f)], [vI (-1)], MW b I L)) (ps := []) rfl trivial ?_
      refine rch_ret rfl (rt := some (vI (-1))) rfl trivial mw_c ?_
      first | exact Or.inl ⟨by omega, rfl, rfl⟩ | exact Or.inr (⟨by omega, rfl, rfl⟩) | (exfalso; omega)
  · show Rch l E 2 37 _ _ _ _ (5, [some (vR 44), some (vI r), some (vI f)], [vI 0], MW b I L)
    have k38 : ¬ (0 ≤ r ∧ r < 10 ∧ I 45 r.toNat ≠ 0) := k38
    refine rch_br rfl (cd := (0 : Int) = 0) (t1 := (29, [some (vR 44), some (vI r), some (vI f)], [], MW b I L)) (t2 := (8, [some (vR 44), some (vI r), some (vI f)], [], MW b I L)) rfl (fun _ => ?_) (fun c9 => absurd (by decide) c9)
    refine rch_run rfl (by decide) 1 (t' := (30, [some (vR 44), some (vI r), some (vI f)], [vI (-1)], MW b I L)) (ps := []) rfl trivial ?_
    refine rch_ret rfl (rt := some (vI (-1))) rfl trivial mw_c ?_
    first | exact Or.inl ⟨by omega, rfl, rfl⟩ | exact Or.inr (⟨by omega, rfl, rfl⟩) | (exfalso; omega)

theorem k_X3_personOf (l : Launch) (E : AX) (b : Bool) (I L : Nat → Nat → Int) (r : Int) : Con l E 1 20 [vR 49, vI r] (MW b I L) 0 0 (fun rt w => ((0 ≤ r ∧ r < 10) ∧ rt = some (vI (I 50 r.toNat)) ∧ w = MW b I L) ∨ ((¬ (0 ≤ r ∧ r < 10)) ∧ rt = some (vI (-1)) ∧ w = MW b I L)) := by
  refine con_intro (by decide) (Nat.le_of_ble_eq_true rfl) ?_
  show Rch l E 1 20 _ _ _ _ (0, [some (vR 49), some (vI r)], [], MW b I L)
  refine rch_run rfl (by decide) 1 (t' := (1, [some (vR 49), some (vI r)], [vI r], MW b I L)) (ps := []) rfl trivial ?_
  refine rch_br rfl (cd := r < 0) (t1 := (19, [some (vR 49), some (vI r)], [], MW b I L)) (t2 := (4, [some (vR 49), some (vI r)], [], MW b I L)) rfl (fun c1_1 => ?_) (fun c1_1 => ?_)
  · refine rch_run rfl (by decide) 1 (t' := (20, [some (vR 49), some (vI r)], [vI (-1)], MW b I L)) (ps := []) rfl trivial ?_
    refine rch_ret rfl (rt := some (vI (-1))) rfl trivial mw_c ?_
    first | exact Or.inl ⟨by omega, rfl, rfl⟩ | exact Or.inr (⟨by omega, rfl, rfl⟩) | (exfalso; omega)
  · refine rch_run rfl (by decide) 2 (t' := (7, [some (vR 49), some (vI r)], [vI 10, vI r], MW b I L)) (ps := []) rfl trivial ?_
    refine rch_br rfl (cd := (10 : Int) ≤ r) (t1 := (19, [some (vR 49), some (vI r)], [], MW b I L)) (t2 := (10, [some (vR 49), some (vI r)], [], MW b I L)) rfl (fun c7_2 => ?_) (fun c7_2 => ?_)
    · refine rch_run rfl (by decide) 1 (t' := (20, [some (vR 49), some (vI r)], [vI (-1)], MW b I L)) (ps := []) rfl trivial ?_
      refine rch_ret rfl (rt := some (vI (-1))) rfl trivial mw_c ?_
      first | exact Or.inl ⟨by omega, rfl, rfl⟩ | exact Or.inr (⟨by omega, rfl, rfl⟩) | (exfalso; omega)
    · refine rch_run rfl (by decide) 5 (t' := (20, [some (vR 49), some (vI r)], [vI (I 50 r.toNat)], MW b I L)) (ps := [0 ≤ r ∧ r < ((10 : Nat) : Int)]) rfl (by simp only [all_, i32, i64]; first | omega | (simp; done) | (simp; omega)) ?_
      refine rch_ret rfl (rt := some (vI (I 50 r.toNat))) rfl trivial mw_c ?_
      first | exact Or.inl ⟨by omega, rfl, rfl⟩ | exact Or.inr (⟨by omega, rfl, rfl⟩) | (exfalso; omega)

theorem k_refused_add (l : Launch) (E : AX) (b : Bool) (I L : Nat → Nat → Int) (r : Int) (f : Int) (x : Int) (hn : 0 ≤ I 66 0 ∧ I 66 0 ≤ 60) : Con l E 1 59 [vR 66, vI r, vI f, vI x] (MW b I L) 0 0 (fun rt w => ((I 66 0 < 60) ∧ rt = none ∧ w = MW b (upI (upI (upI (upI I 67 (I 66 0).toNat r) 68 (I 66 0).toNat f) 69 (I 66 0).toNat x) 66 0 ((I 66 0) + 1)) L) ∨ ((¬ (I 66 0 < 60)) ∧ rt = none ∧ w = MW b I L)) := by
  refine con_intro (by decide) (Nat.le_of_ble_eq_true rfl) ?_
  show Rch l E 1 59 _ _ _ _ (0, [some (vR 66), some (vI r), some (vI f), some (vI x)], [], MW b I L)
  refine rch_run rfl (by decide) 5 (t' := (9, [some (vR 66), some (vI r), some (vI f), some (vI x)], [vI ((60 : Nat) : Int), vI (I 66 0)], MW b I L)) (ps := []) rfl trivial ?_
  refine rch_br rfl (cd := I 66 0 < ((60 : Nat) : Int)) (t1 := (13, [some (vR 66), some (vI r), some (vI f), some (vI x)], [], MW b I L)) (t2 := (12, [some (vR 66), some (vI r), some (vI f), some (vI x)], [], MW b I L)) rfl (fun c9_1 => ?_) (fun c9_1 => ?_)
  · refine rch_run rfl (by decide) 24 (t' := (53, [some (vR 66), some (vI r), some (vI f), some (vI x)], [], MW b (upI (upI (upI (upI I 67 (I 66 0).toNat r) 68 (I 66 0).toNat f) 69 (I 66 0).toNat x) 66 0 ((I 66 0) + 1)) L)) (ps := [0 ≤ I 66 0 ∧ I 66 0 < ((60 : Nat) : Int), 0 ≤ I 66 0 ∧ I 66 0 < ((60 : Nat) : Int), 0 ≤ I 66 0 ∧ I 66 0 < ((60 : Nat) : Int), i32 ((I 66 0) + 1)]) rfl (by simp only [all_, i32, i64]; first | omega | (simp; done) | (simp; omega)) ?_
    refine rch_ret rfl (rt := none) rfl trivial mw_c ?_
    first | exact Or.inl ⟨by omega, rfl, rfl⟩ | exact Or.inr (⟨by omega, rfl, rfl⟩) | (exfalso; omega)
  · refine rch_ret rfl (rt := none) rfl trivial mw_c ?_
    first | exact Or.inl ⟨by omega, rfl, rfl⟩ | exact Or.inr (⟨by omega, rfl, rfl⟩) | (exfalso; omega)

theorem k_wishes_add (l : Launch) (E : AX) (b : Bool) (I L : Nat → Nat → Int) (r : Int) (f : Int) (x : Int) (hn : 0 ≤ I 70 0 ∧ I 70 0 ≤ 60) : Con l E 1 59 [vR 70, vI r, vI f, vI x] (MW b I L) 0 0 (fun rt w => ((I 70 0 < 60) ∧ rt = none ∧ w = MW b (upI (upI (upI (upI I 71 (I 70 0).toNat r) 72 (I 70 0).toNat f) 73 (I 70 0).toNat x) 70 0 ((I 70 0) + 1)) L) ∨ ((¬ (I 70 0 < 60)) ∧ rt = none ∧ w = MW b I L)) := by
  refine con_intro (by decide) (Nat.le_of_ble_eq_true rfl) ?_
  show Rch l E 1 59 _ _ _ _ (0, [some (vR 70), some (vI r), some (vI f), some (vI x)], [], MW b I L)
  refine rch_run rfl (by decide) 5 (t' := (9, [some (vR 70), some (vI r), some (vI f), some (vI x)], [vI ((60 : Nat) : Int), vI (I 70 0)], MW b I L)) (ps := []) rfl trivial ?_
  refine rch_br rfl (cd := I 70 0 < ((60 : Nat) : Int)) (t1 := (13, [some (vR 70), some (vI r), some (vI f), some (vI x)], [], MW b I L)) (t2 := (12, [some (vR 70), some (vI r), some (vI f), some (vI x)], [], MW b I L)) rfl (fun c9_1 => ?_) (fun c9_1 => ?_)
  · refine rch_run rfl (by decide) 24 (t' := (53, [some (vR 70), some (vI r), some (vI f), some (vI x)], [], MW b (upI (upI (upI (upI I 71 (I 70 0).toNat r) 72 (I 70 0).toNat f) 73 (I 70 0).toNat x) 70 0 ((I 70 0) + 1)) L)) (ps := [0 ≤ I 70 0 ∧ I 70 0 < ((60 : Nat) : Int), 0 ≤ I 70 0 ∧ I 70 0 < ((60 : Nat) : Int), 0 ≤ I 70 0 ∧ I 70 0 < ((60 : Nat) : Int), i32 ((I 70 0) + 1)]) rfl (by simp only [all_, i32, i64]; first | omega | (simp; done) | (simp; omega)) ?_
    refine rch_ret rfl (rt := none) rfl trivial mw_c ?_
    first | exact Or.inl ⟨by omega, rfl, rfl⟩ | exact Or.inr (⟨by omega, rfl, rfl⟩) | (exfalso; omega)
  · refine rch_ret rfl (rt := none) rfl trivial mw_c ?_
    first | exact Or.inl ⟨by omega, rfl, rfl⟩ | exact Or.inr (⟨by omega, rfl, rfl⟩) | (exfalso; omega)
