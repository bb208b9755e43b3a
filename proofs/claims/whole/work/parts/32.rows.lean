theorem k_X4_add (l : Launch) (E : AX) (b : Bool) (I L : Nat → Nat → Int) (s : Int) (d : Int) (hn : 0 ≤ I 17 0 ∧ I 17 0 ≤ 10) : Con l E 1 31 [vR 17, vI s, vI d] (MW b I L) 0 0 (fun rt w => ((I 17 0 < 10) ∧ rt = some (vI (I 17 0)) ∧ w = MW b (upI (upI (upI I 18 (I 17 0).toNat s) 19 (I 17 0).toNat d) 17 0 ((I 17 0) + 1)) L) ∨ ((¬ (I 17 0 < 10)) ∧ rt = some (vI (-1)) ∧ w = MW b I L)) := by
  refine con_intro (by decide) (Nat.le_of_ble_eq_true rfl) ?_
  show Rch l E 1 31 _ _ _ _ (0, [some (vR 17), some (vI s), some (vI d), none], [], MW b I L)
  refine rch_run rfl (by decide) 5 (t' := (8, [some (vR 17), some (vI s), some (vI d), some (vI (I 17 0))], [vI 10, vI (I 17 0)], MW b I L)) (ps := []) rfl trivial ?_
  refine rch_br rfl (cd := I 17 0 < (10 : Int)) (t1 := (13, [some (vR 17), some (vI s), some (vI d), some (vI (I 17 0))], [], MW b I L)) (t2 := (11, [some (vR 17), some (vI s), some (vI d), some (vI (I 17 0))], [], MW b I L)) rfl (fun c8_1 => ?_) (fun c8_1 => ?_)
  · refine rch_run rfl (by decide) 17 (t' := (38, [some (vR 17), some (vI s), some (vI d), some (vI (I 17 0))], [vI (I 17 0)], MW b (upI (upI (upI I 18 (I 17 0).toNat s) 19 (I 17 0).toNat d) 17 0 ((I 17 0) + 1)) L)) (ps := [0 ≤ I 17 0 ∧ I 17 0 < ((10 : Nat) : Int), 0 ≤ I 17 0 ∧ I 17 0 < ((10 : Nat) : Int), i32 ((I 17 0) + 1)]) rfl (by simp only [all_, i32, i64]; first | omega | (simp; done) | (simp; omega)) ?_
    refine rch_ret rfl (rt := some (vI (I 17 0))) rfl trivial mw_c ?_
    first | exact Or.inl ⟨by omega, rfl, rfl⟩ | exact Or.inr (⟨by omega, rfl, rfl⟩) | (exfalso; omega)
  · refine rch_run rfl (by decide) 1 (t' := (12, [some (vR 17), some (vI s), some (vI d), some (vI (I 17 0))], [vI (-1)], MW b I L)) (ps := []) rfl trivial ?_
    refine rch_ret rfl (rt := some (vI (-1))) rfl trivial mw_c ?_
    first | exact Or.inl ⟨by omega, rfl, rfl⟩ | exact Or.inr (⟨by omega, rfl, rfl⟩) | (exfalso; omega)

theorem k_X11_row (l : Launch) (E : AX) (b : Bool) (I L : Nat → Nat → Int) (s : Int) (hn : 0 ≤ I 17 0 ∧ I 17 0 ≤ 10) : Con l E 2 65 [vR 0, vI s] (MW b I L) 0 0 (fun rt w => (((0 ≤ s ∧ s ≤ 5) ∧ I 17 0 < 10) ∧ rt = some (vI (I 17 0)) ∧ w = MW b (upI (upI (upI (upI I 0 1 0) 18 (I 17 0).toNat s) 19 (I 17 0).toNat (I 0 0)) 17 0 ((I 17 0) + 1)) L) ∨ (((0 ≤ s ∧ s ≤ 5) ∧ ¬ I 17 0 < 10) ∧ rt = some (vI (-1)) ∧ w = MW b (upI I 0 1 0) L) ∨ ((¬ (0 ≤ s ∧ s ≤ 5)) ∧ rt = some (vI (-1)) ∧ w = MW b I L)) := by
  refine con_intro (by decide) (Nat.le_of_ble_eq_true rfl) ?_
  show Rch l E 2 65 _ _ _ _ (0, [some (vR 0), some (vI s)], [], MW b I L)
  refine rch_run rfl (by decide) 1 (t' := (1, [some (vR 0), some (vI s)], [vI s], MW b I L)) (ps := []) rfl trivial ?_
  refine rch_call (h' := 1) (k' := 90) (as := [vI s]) (t1 := (4, [some (vR 0), some (vI s)], [], MW b I L)) rfl rfl (k_X11_isSource l E b I L s ) (by decide) mw_le ?_
  rintro rt9 w9 (⟨k9, rfl, rfl⟩ | ⟨k9, rfl, rfl⟩) _ _
  · show Rch l E 2 65 _ _ _ _ (4, [some (vR 0), some (vI s)], [vI 1], MW b I L)
    have k9 : 0 ≤ s ∧ s ≤ 5 := k9
    refine rch_br rfl (cd := (1 : Int) ≠ 0) (t1 := (9, [some (vR 0), some (vI s)], [], MW b I L)) (t2 := (7, [some (vR 0), some (vI s)], [], MW b I L)) rfl (fun _ => ?_) (fun c9 => absurd (by decide) c9)
    refine rch_run rfl (by decide) 8 (t' := (23, [some (vR 0), some (vI s)], [vI (I 0 0), vI s, vR 17], MW b (upI I 0 1 0) L)) (ps := [(0 : Int) = 0 ∨ (0 : Int) = 1]) rfl (by simp only [all_, i32, i64]; first | omega | (simp; done) | (simp; omega)) ?_
    refine rch_call (h' := 1) (k' := 31) (as := [vR 17, vI s, vI (I 0 0)]) (t1 := (26, [some (vR 0), some (vI s)], [], MW b (upI I 0 1 0) L)) rfl rfl (k_X4_add l E b (upI I 0 1 0) L s (I 0 0) (by show 0 ≤ I 17 0 ∧ I 17 0 ≤ 10; omega)) (by decide) mw_le ?_
    rintro rt9 w9 (⟨k10, rfl, rfl⟩ | ⟨k10, rfl, rfl⟩) _ _
    · show Rch l E 2 65 _ _ _ _ (26, [some (vR 0), some (vI s)], [vI (I 17 0)], MW b (upI (upI (upI (upI I 0 1 0) 18 (I 17 0).toNat s) 19 (I 17 0).toNat (I 0 0)) 17 0 ((I 17 0) + 1)) L)
      have k10 : I 17 0 < 10 := k10
      refine rch_ret rfl (rt := some (vI (I 17 0))) rfl trivial mw_c ?_
      first | exact Or.inl ⟨by omega, rfl, rfl⟩ | exact Or.inr (Or.inl ⟨by omega, rfl, rfl⟩) | exact Or.inr (Or.inr (⟨by omega, rfl, rfl⟩)) | (exfalso; omega)
    · show Rch l E 2 65 _ _ _ _ (26, [some (vR 0), some (vI s)], [vI (-1)], MW b (upI I 0 1 0) L)
      have k10 : ¬ (I 17 0 < 10) := k10
      refine rch_ret rfl (rt := some (vI (-1))) rfl trivial mw_c ?_
      first | exact Or.inl ⟨by omega, rfl, rfl⟩ | exact Or.inr (Or.inl ⟨by omega, rfl, rfl⟩) | exact Or.inr (Or.inr (⟨by omega, rfl, rfl⟩)) | (exfalso; omega)
  · show Rch l E 2 65 _ _ _ _ (4, [some (vR 0), some (vI s)], [vI 0], MW b I L)
    have k9 : ¬ (0 ≤ s ∧ s ≤ 5) := k9
    refine rch_br rfl (cd := (0 : Int) ≠ 0) (t1 := (9, [some (vR 0), some (vI s)], [], MW b I L)) (t2 := (7, [some (vR 0), some (vI s)], [], MW b I L)) rfl (fun c9 => absurd c9 (by decide)) (fun _ => ?_)
    refine rch_run rfl (by decide) 1 (t' := (8, [some (vR 0), some (vI s)], [vI (-1)], MW b I L)) (ps := []) rfl trivial ?_
    refine rch_ret rfl (rt := some (vI (-1))) rfl trivial mw_c ?_
    first | exact Or.inl ⟨by omega, rfl, rfl⟩ | exact Or.inr (Or.inl ⟨by omega, rfl, rfl⟩) | exact Or.inr (Or.inr (⟨by omega, rfl, rfl⟩)) | (exfalso; omega)

theorem k_X12_row (l : Launch) (E : AX) (b : Bool) (I L : Nat → Nat → Int) (s : Int) (hn : 0 ≤ I 74 4 ∧ I 74 4 ≤ 10) : Con l E 2 108 [vR 74, vI s] (MW b I L) 0 0 (fun rt w => ((I 74 4 ≠ 10 ∧ 0 ≤ s ∧ s ≤ 5) ∧ rt = some (vI (((I 74 4) + 1) - 1)) ∧ w = MW b (upI (upI (upI I 78 (I 74 4).toNat s) 79 (I 74 4).toNat (I 74 0)) 74 4 ((I 74 4) + 1)) L) ∨ ((¬ (I 74 4 ≠ 10 ∧ 0 ≤ s ∧ s ≤ 5)) ∧ rt = some (vI (-1)) ∧ w = MW b I L)) := by
  refine con_intro (by decide) (Nat.le_of_ble_eq_true rfl) ?_
  show Rch l E 2 108 _ _ _ _ (0, [some (vR 74), some (vI s)], [], MW b I L)
  refine rch_run rfl (by decide) 3 (t' := (6, [some (vR 74), some (vI s)], [vI 10, vI (I 74 4)], MW b I L)) (ps := []) rfl trivial ?_
  refine rch_br rfl (cd := I 74 4 = (10 : Int)) (t1 := (16, [some (vR 74), some (vI s)], [], MW b I L)) (t2 := (9, [some (vR 74), some (vI s)], [], MW b I L)) rfl (fun c6_1 => ?_) (fun c6_1 => ?_)
  · refine rch_run rfl (by decide) 1 (t' := (17, [some (vR 74), some (vI s)], [vI (-1)], MW b I L)) (ps := []) rfl trivial ?_
    refine rch_ret rfl (rt := some (vI (-1))) rfl trivial mw_c ?_
    first | exact Or.inl ⟨by omega, rfl, rfl⟩ | exact Or.inr (⟨by omega, rfl, rfl⟩) | (exfalso; omega)
  · refine rch_run rfl (by decide) 1 (t' := (10, [some (vR 74), some (vI s)], [vI s], MW b I L)) (ps := []) rfl trivial ?_
    refine rch_call (h' := 1) (k' := 103) (as := [vI s]) (t1 := (13, [some (vR 74), some (vI s)], [], MW b I L)) rfl rfl (k_X12_isSource l E b I L s ) (by decide) mw_le ?_
    rintro rt9 w9 (⟨k11, rfl, rfl⟩ | ⟨k11, rfl, rfl⟩) _ _
    · show Rch l E 2 108 _ _ _ _ (13, [some (vR 74), some (vI s)], [vI 1], MW b I L)
      have k11 : 0 ≤ s ∧ s ≤ 5 := k11
      refine rch_br rfl (cd := (1 : Int) ≠ 0) (t1 := (18, [some (vR 74), some (vI s)], [], MW b I L)) (t2 := (16, [some (vR 74), some (vI s)], [], MW b I L)) rfl (fun _ => ?_) (fun c9 => absurd (by decide) c9)
      refine rch_run rfl (by decide) 23 (t' := (57, [some (vR 74), some (vI s)], [vI (((I 74 4) + 1) - 1)], MW b (upI (upI (upI I 78 (I 74 4).toNat s) 79 (I 74 4).toNat (I 74 0)) 74 4 ((I 74 4) + 1)) L)) (ps := [0 ≤ I 74 4 ∧ I 74 4 < ((10 : Nat) : Int), 0 ≤ I 74 4 ∧ I 74 4 < ((10 : Nat) : Int), i32 ((I 74 4) + 1), i32 (((I 74 4) + 1) - 1)]) rfl (by simp only [all_, i32, i64]; first | omega | (simp; done) | (simp; omega)) ?_
      refine rch_ret rfl (rt := some (vI (((I 74 4) + 1) - 1))) rfl trivial mw_c ?_
      first | exact Or.inl ⟨by omega, rfl, rfl⟩ | exact Or.inr (⟨by omega, rfl, rfl⟩) | (exfalso; omega)
    · show Rch l E 2 108 _ _ _ _ (13, [some (vR 74), some (vI s)], [vI 0], MW b I L)
      have k11 : ¬ (0 ≤ s ∧ s ≤ 5) := k11
      refine rch_br rfl (cd := (0 : Int) ≠ 0) (t1 := (18, [some (vR 74), some (vI s)], [], MW b I L)) (t2 := (16, [some (vR 74), some (vI s)], [], MW b I L)) rfl (fun c9 => absurd c9 (by decide)) (fun _ => ?_)
      refine rch_run rfl (by decide) 1 (t' := (17, [some (vR 74), some (vI s)], [vI (-1)], MW b I L)) (ps := []) rfl trivial ?_
      refine rch_ret rfl (rt := some (vI (-1))) rfl trivial mw_c ?_
      first | exact Or.inl ⟨by omega, rfl, rfl⟩ | exact Or.inr (⟨by omega, rfl, rfl⟩) | (exfalso; omega)

theorem k_X7_add (l : Launch) (E : AX) (b : Bool) (I L : Nat → Nat → Int) (r : Int) (f : Int) (x : Int) (d : Int) (t : Int) (e : Int) (hn : 0 ≤ I 21 0 ∧ I 21 0 ≤ 150) (he : e = 0 ∨ e = 1) : Con l E 1 47 [vR 21, vI r, vI f, vI x, vI d, vI t, vI e] (MW b I L) 0 0 (fun rt w => ((I 21 0 < 150) ∧ rt = none ∧ w = MW b (upI (upI (upI (upI (upI (upI (upI I 22 (I 21 0).toNat r) 23 (I 21 0).toNat f) 24 (I 21 0).toNat x) 25 (I 21 0).toNat d) 26 (I 21 0).toNat t) 27 (I 21 0).toNat e) 21 0 ((I 21 0) + 1)) L) ∨ ((¬ (I 21 0 < 150)) ∧ rt = none ∧ w = MW b I L)) := by
  refine con_intro (by decide) (Nat.le_of_ble_eq_true rfl) ?_
  show Rch l E 1 47 _ _ _ _ (0, [some (vR 21), some (vI r), some (vI f), some (vI x), some (vI d), some (vI t), some (vI e)], [], MW b I L)
  refine rch_run rfl (by decide) 3 (t' := (7, [some (vR 21), some (vI r), some (vI f), some (vI x), some (vI d), some (vI t), some (vI e)], [vI 150, vI (I 21 0)], MW b I L)) (ps := []) rfl trivial ?_
  refine rch_br rfl (cd := I 21 0 < (150 : Int)) (t1 := (11, [some (vR 21), some (vI r), some (vI f), some (vI x), some (vI d), some (vI t), some (vI e)], [], MW b I L)) (t2 := (10, [some (vR 21), some (vI r), some (vI f), some (vI x), some (vI d), some (vI t), some (vI e)], [], MW b I L)) rfl (fun c7_1 => ?_) (fun c7_1 => ?_)
  · refine rch_run rfl (by decide) 25 (t' := (53, [some (vR 21), some (vI r), some (vI f), some (vI x), some (vI d), some (vI t), some (vI e)], [vR 21], MW b (upI (upI (upI (upI I 22 (I 21 0).toNat r) 23 (I 21 0).toNat f) 24 (I 21 0).toNat x) 25 (I 21 0).toNat d) L)) (ps := [0 ≤ I 21 0 ∧ I 21 0 < ((150 : Nat) : Int), 0 ≤ I 21 0 ∧ I 21 0 < ((150 : Nat) : Int), 0 ≤ I 21 0 ∧ I 21 0 < ((150 : Nat) : Int), 0 ≤ I 21 0 ∧ I 21 0 < ((150 : Nat) : Int)]) rfl (by simp only [all_, i32, i64]; first | omega | (simp; done) | (simp; omega)) ?_
    refine rch_run rfl (by decide) 17 (t' := (84, [some (vR 21), some (vI r), some (vI f), some (vI x), some (vI d), some (vI t), some (vI e)], [], MW b (upI (upI (upI (upI (upI (upI (upI I 22 (I 21 0).toNat r) 23 (I 21 0).toNat f) 24 (I 21 0).toNat x) 25 (I 21 0).toNat d) 26 (I 21 0).toNat t) 27 (I 21 0).toNat e) 21 0 ((I 21 0) + 1)) L)) (ps := [0 ≤ I 21 0 ∧ I 21 0 < ((150 : Nat) : Int), 0 ≤ I 21 0 ∧ I 21 0 < ((150 : Nat) : Int), e = 0 ∨ e = 1, i32 ((I 21 0) + 1)]) rfl (by simp only [all_, i32, i64]; first | omega | (simp; done) | (simp; omega)) ?_
    refine rch_ret rfl (rt := none) rfl trivial mw_c ?_
    first | exact Or.inl ⟨by omega, rfl, rfl⟩ | exact Or.inr (⟨by omega, rfl, rfl⟩) | (exfalso; omega)
  · refine rch_ret rfl (rt := none) rfl trivial mw_c ?_
    first | exact Or.inl ⟨by omega, rfl, rfl⟩ | exact Or.inr (⟨by omega, rfl, rfl⟩) | (exfalso; omega)

theorem k_X12_tell (l : Launch) (E : AX) (b : Bool) (I L : Nat → Nat → Int) (r : Int) (f : Int) (x : Int) (d : Int) (e : Int) (hn : 0 ≤ I 74 5 ∧ I 74 5 < 150) (he : e = 0 ∨ e = 1) : Con l E 1 112 [vR 74, vI r, vI f, vI x, vI d, vI e] (MW b I L) 0 0 (fun rt w => ((True) ∧ rt = none ∧ w = MW b (upI (upI (upI (upI (upI (upI (upI I 81 (I 74 5).toNat r) 82 (I 74 5).toNat f) 83 (I 74 5).toNat x) 84 (I 74 5).toNat d) 85 (I 74 5).toNat (I 74 0)) 86 (I 74 5).toNat e) 74 5 ((I 74 5) + 1)) L)) := by
  refine con_intro (by decide) (Nat.le_of_ble_eq_true rfl) ?_
  show Rch l E 1 112 _ _ _ _ (0, [some (vR 74), some (vI r), some (vI f), some (vI x), some (vI d), some (vI e)], [], MW b I L)
  refine rch_run rfl (by decide) 25 (t' := (42, [some (vR 74), some (vI r), some (vI f), some (vI x), some (vI d), some (vI e)], [vR 74], MW b (upI (upI (upI (upI I 81 (I 74 5).toNat r) 82 (I 74 5).toNat f) 83 (I 74 5).toNat x) 84 (I 74 5).toNat d) L)) (ps := [0 ≤ I 74 5 ∧ I 74 5 < ((150 : Nat) : Int), 0 ≤ I 74 5 ∧ I 74 5 < ((150 : Nat) : Int), 0 ≤ I 74 5 ∧ I 74 5 < ((150 : Nat) : Int), 0 ≤ I 74 5 ∧ I 74 5 < ((150 : Nat) : Int)]) rfl (by simp only [all_, i32, i64]; first | omega | (simp; done) | (simp; omega)) ?_
  refine rch_run rfl (by decide) 18 (t' := (75, [some (vR 74), some (vI r), some (vI f), some (vI x), some (vI d), some (vI e)], [], MW b (upI (upI (upI (upI (upI (upI (upI I 81 (I 74 5).toNat r) 82 (I 74 5).toNat f) 83 (I 74 5).toNat x) 84 (I 74 5).toNat d) 85 (I 74 5).toNat (I 74 0)) 86 (I 74 5).toNat e) 74 5 ((I 74 5) + 1)) L)) (ps := [0 ≤ I 74 5 ∧ I 74 5 < ((150 : Nat) : Int), 0 ≤ I 74 5 ∧ I 74 5 < ((150 : Nat) : Int), e = 0 ∨ e = 1, i32 ((I 74 5) + 1)]) rfl (by simp only [all_, i32, i64]; first | omega | (simp; done) | (simp; omega)) ?_
  refine rch_ret rfl (rt := none) rfl trivial mw_c ?_
  first | exact ⟨by first | trivial | omega, rfl, rfl⟩ | (exfalso; omega)

theorem k_X11_set (l : Launch) (E : AX) (b : Bool) (I L : Nat → Nat → Int) (r : Int) (f : Int) (x : Int) (d : Int) (hn : I 17 0 ≤ 10) (hv : 0 ≤ I 21 0 ∧ I 21 0 ≤ 150) : Con l E 2 66 [vR 0, vI r, vI f, vI x, vI d] (MW b I L) 0 0 (fun rt w => (((0 ≤ r ∧ r < I 17 0 ∧ I 20 r.toNat = 0) ∧ (0 ≤ f ∧ f ≤ 5) ∧ (0 ≤ x ∧ x ≤ 999999) ∧ 0 ≤ d ∧ d ≤ 100000 ∧ I 21 0 < 150) ∧ rt = some (vI ((I 21 0) + 1)) ∧ w = MW b (upI (upI (upI (upI (upI (upI (upI (upI I 0 1 0) 22 (I 21 0).toNat r) 23 (I 21 0).toNat f) 24 (I 21 0).toNat x) 25 (I 21 0).toNat d) 26 (I 21 0).toNat (I 0 0)) 27 (I 21 0).toNat 0) 21 0 ((I 21 0) + 1)) L) ∨ ((¬ ((0 ≤ r ∧ r < I 17 0 ∧ I 20 r.toNat = 0) ∧ (0 ≤ f ∧ f ≤ 5) ∧ (0 ≤ x ∧ x ≤ 999999) ∧ 0 ≤ d ∧ d ≤ 100000 ∧ I 21 0 < 150)) ∧ rt = some (vI (-1)) ∧ w = MW b I L)) := by
  refine con_intro (by decide) (Nat.le_of_ble_eq_true rfl) ?_
  show Rch l E 2 66 _ _ _ _ (0, [some (vR 0), some (vI r), some (vI f), some (vI x), some (vI d)], [], MW b I L)
  refine rch_run rfl (by decide) 3 (t' := (5, [some (vR 0), some (vI r), some (vI f), some (vI x), some (vI d)], [vI r, vR 17], MW b I L)) (ps := []) rfl trivial ?_
  refine rch_call (h' := 1) (k' := 32) (as := [vR 17, vI r]) (t1 := (8, [some (vR 0), some (vI r), some (vI f), some (vI x), some (vI d)], [], MW b I L)) rfl rfl (k_X4_isAlive l E b I L r (by show I 17 0 ≤ 10; omega)) (by decide) mw_le ?_
  rintro rt9 w9 (⟨k12, rfl, rfl⟩ | ⟨k12, rfl, rfl⟩) _ _
  · show Rch l E 2 66 _ _ _ _ (8, [some (vR 0), some (vI r), some (vI f), some (vI x), some (vI d)], [vI 1], MW b I L)
    have k12 : 0 ≤ r ∧ r < I 17 0 ∧ I 20 r.toNat = 0 := k12
    refine rch_br rfl (cd := (1 : Int) = 0) (t1 := (37, [some (vR 0), some (vI r), some (vI f), some (vI x), some (vI d)], [], MW b I L)) (t2 := (11, [some (vR 0), some (vI r), some (vI f), some (vI x), some (vI d)], [], MW b I L)) rfl (fun c9 => absurd c9 (by decide)) (fun _ => ?_)
    refine rch_run rfl (by decide) 1 (t' := (12, [some (vR 0), some (vI r), some (vI f), some (vI x), some (vI d)], [vI f], MW b I L)) (ps := []) rfl trivial ?_
    refine rch_call (h' := 1) (k' := 91) (as := [vI f]) (t1 := (15, [some (vR 0), some (vI r), some (vI f), some (vI x), some (vI d)], [], MW b I L)) rfl rfl (k_X11_isField l E b I L f ) (by decide) mw_le ?_
    rintro rt9 w9 (⟨k13, rfl, rfl⟩ | ⟨k13, rfl, rfl⟩) _ _
    · show Rch l E 2 66 _ _ _ _ (15, [some (vR 0), some (vI r), some (vI f), some (vI x), some (vI d)], [vI 1], MW b I L)
      have k13 : 0 ≤ f ∧ f ≤ 5 := k13
      refine rch_br rfl (cd := (1 : Int) = 0) (t1 := (37, [some (vR 0), some (vI r), some (vI f), some (vI x), some (vI d)], [], MW b I L)) (t2 := (18, [some (vR 0), some (vI r), some (vI f), some (vI x), some (vI d)], [], MW b I L)) rfl (fun c9 => absurd c9 (by decide)) (fun _ => ?_)
      refine rch_run rfl (by decide) 1 (t' := (19, [some (vR 0), some (vI r), some (vI f), some (vI x), some (vI d)], [vI x], MW b I L)) (ps := []) rfl trivial ?_
      refine rch_call (h' := 1) (k' := 92) (as := [vI x]) (t1 := (22, [some (vR 0), some (vI r), some (vI f), some (vI x), some (vI d)], [], MW b I L)) rfl rfl (k_X11_isValue l E b I L x ) (by decide) mw_le ?_
      rintro rt9 w9 (⟨k14, rfl, rfl⟩ | ⟨k14, rfl, rfl⟩) _ _
      · show Rch l E 2 66 _ _ _ _ (22, [some (vR 0), some (vI r), some (vI f), some (vI x), some (vI d)], [vI 1], MW b I L)
        have k14 : 0 ≤ x ∧ x ≤ 999999 := k14
        refine rch_br rfl (cd := (1 : Int) = 0) (t1 := (37, [some (vR 0), some (vI r), some (vI f), some (vI x), some (vI d)], [], MW b I L)) (t2 := (25, [some (vR 0), some (vI r), some (vI f), some (vI x), some (vI d)], [], MW b I L)) rfl (fun c9 => absurd c9 (by decide)) (fun _ => ?_)
        refine rch_run rfl (by decide) 1 (t' := (27, [some (vR 0), some (vI r), some (vI f), some (vI x), some (vI d)], [vI d], MW b I L)) (ps := []) rfl trivial ?_
        refine rch_br rfl (cd := d < 0) (t1 := (37, [some (vR 0), some (vI r), some (vI f), some (vI x), some (vI d)], [], MW b I L)) (t2 := (30, [some (vR 0), some (vI r), some (vI f), some (vI x), some (vI d)], [], MW b I L)) rfl (fun c27_4 => ?_) (fun c27_4 => ?_)
        · refine rch_run rfl (by decide) 1 (t' := (38, [some (vR 0), some (vI r), some (vI f), some (vI x), some (vI d)], [vI (-1)], MW b I L)) (ps := []) rfl trivial ?_
          refine rch_ret rfl (rt := some (vI (-1))) rfl trivial mw_c ?_
          first | exact Or.inl ⟨by omega, rfl, rfl⟩ | exact Or.inr (⟨by omega, rfl, rfl⟩) | (exfalso; omega)
        · refine rch_run rfl (by decide) 2 (t' := (34, [some (vR 0), some (vI r), some (vI f), some (vI x), some (vI d)], [vI 100000, vI d], MW b I L)) (ps := []) rfl trivial ?_
          refine rch_br rfl (cd := d ≤ (100000 : Int)) (t1 := (39, [some (vR 0), some (vI r), some (vI f), some (vI x), some (vI d)], [], MW b I L)) (t2 := (37, [some (vR 0), some (vI r), some (vI f), some (vI x), some (vI d)], [], MW b I L)) rfl (fun c34_5 => ?_) (fun c34_5 => ?_)
          · refine rch_run rfl (by decide) 4 (t' := (49, [some (vR 0), some (vI r), some (vI f), some (vI x), some (vI d)], [vI 150, vI (I 21 0)], MW b I L)) (ps := []) rfl trivial ?_
            refine rch_br rfl (cd := I 21 0 < (150 : Int)) (t1 := (54, [some (vR 0), some (vI r), some (vI f), some (vI x), some (vI d)], [], MW b I L)) (t2 := (52, [some (vR 0), some (vI r), some (vI f), some (vI x), some (vI d)], [], MW b I L)) rfl (fun c49_6 => ?_) (fun c49_6 => ?_)
            · refine rch_run rfl (by decide) 12 (t' := (73, [some (vR 0), some (vI r), some (vI f), some (vI x), some (vI d)], [vI 0, vI (I 0 0), vI d, vI x, vI f, vI r, vR 21], MW b (upI I 0 1 0) L)) (ps := [(0 : Int) = 0 ∨ (0 : Int) = 1]) rfl (by simp only [all_, i32, i64]; first | omega | (simp; done) | (simp; omega)) ?_
              refine rch_call (h' := 1) (k' := 47) (as := [vR 21, vI r, vI f, vI x, vI d, vI (I 0 0), vI 0]) (t1 := (76, [some (vR 0), some (vI r), some (vI f), some (vI x), some (vI d)], [], MW b (upI I 0 1 0) L)) rfl rfl (k_X7_add l E b (upI I 0 1 0) L r f x d (I 0 0) 0 (by show 0 ≤ I 21 0 ∧ I 21 0 ≤ 150; omega) (by show 0 = 0 ∨ 0 = 1; omega)) (by decide) mw_le ?_
              rintro rt9 w9 (⟨k15, rfl, rfl⟩ | ⟨k15, rfl, rfl⟩) _ _
              · show Rch l E 2 66 _ _ _ _ (76, [some (vR 0), some (vI r), some (vI f), some (vI x), some (vI d)], [], MW b (upI (upI (upI (upI (upI (upI (upI (upI I 0 1 0) 22 (I 21 0).toNat r) 23 (I 21 0).toNat f) 24 (I 21 0).toNat x) 25 (I 21 0).toNat d) 26 (I 21 0).toNat (I 0 0)) 27 (I 21 0).toNat 0) 21 0 ((I 21 0) + 1)) L)
                have k15 : I 21 0 < 150 := k15
                refine rch_run rfl (by decide) 3 (t' := (83, [some (vR 0), some (vI r), some (vI f), some (vI x), some (vI d)], [vI ((I 21 0) + 1)], MW b (upI (upI (upI (upI (upI (upI (upI (upI I 0 1 0) 22 (I 21 0).toNat r) 23 (I 21 0).toNat f) 24 (I 21 0).toNat x) 25 (I 21 0).toNat d) 26 (I 21 0).toNat (I 0 0)) 27 (I 21 0).toNat 0) 21 0 ((I 21 0) + 1)) L)) (ps := []) rfl trivial ?_
                refine rch_ret rfl (rt := some (vI ((I 21 0) + 1))) rfl trivial mw_c ?_
                first | exact Or.inl ⟨by omega, rfl, rfl⟩ | exact Or.inr (⟨by omega, rfl, rfl⟩) | (exfalso; omega)
              · show Rch l E 2 66 _ _ _ _ (76, [some (vR 0), some (vI r), some (vI f), some (vI x), some (vI d)], [], MW b (upI I 0 1 0) L)
                have k15 : ¬ (I 21 0 < 150) := k15
                refine rch_run rfl (by decide) 3 (t' := (83, [some (vR 0), some (vI r), some (vI f), some (vI x), some (vI d)], [vI (I 21 0)], MW b (upI I 0 1 0) L)) (ps := []) rfl trivial ?_
                refine rch_ret rfl (rt := some (vI (I 21 0))) rfl trivial mw_c ?_
                first | exact Or.inl ⟨by omega, rfl, rfl⟩ | exact Or.inr (⟨by omega, rfl, rfl⟩) | (exfalso; omega)
            · refine rch_run rfl (by decide) 1 (t' := (53, [some (vR 0), some (vI r), some (vI f), some (vI x), some (vI d)], [vI (-1)], MW b I L)) (ps := []) rfl trivial ?_
              refine rch_ret rfl (rt := some (vI (-1))) rfl trivial mw_c ?_
              first | exact Or.inl ⟨by omega, rfl, rfl⟩ | exact Or.inr (⟨by omega, rfl, rfl⟩) | (exfalso; omega)
          · refine rch_run rfl (by decide) 1 (t' := (38, [some (vR 0), some (vI r), some (vI f), some (vI x), some (vI d)], [vI (-1)], MW b I L)) (ps := []) rfl trivial ?_
            refine rch_ret rfl (rt := some (vI (-1))) rfl trivial mw_c ?_
            first | exact Or.inl ⟨by omega, rfl, rfl⟩ | exact Or.inr (⟨by omega, rfl, rfl⟩) | (exfalso; omega)
      · show Rch l E 2 66 _ _ _ _ (22, [some (vR 0), some (vI r), some (vI f), some (vI x), some (vI d)], [vI 0], MW b I L)
        have k14 : ¬ (0 ≤ x ∧ x ≤ 999999) := k14
        refine rch_br rfl (cd := (0 : Int) = 0) (t1 := (37, [some (vR 0), some (vI r), some (vI f), some (vI x), some (vI d)], [], MW b I L)) (t2 := (25, [some (vR 0), some (vI r), some (vI f), some (vI x), some (vI d)], [], MW b I L)) rfl (fun _ => ?_) (fun c9 => absurd (by decide) c9)
        refine rch_run rfl (by decide) 1 (t' := (38, [some (vR 0), some (vI r), some (vI f), some (vI x), some (vI d)], [vI (-1)], MW b I L)) (ps := []) rfl trivial ?_
        refine rch_ret rfl (rt := some (vI (-1))) rfl trivial mw_c ?_
        first | exact Or.inl ⟨by omega, rfl, rfl⟩ | exact Or.inr (⟨by omega, rfl, rfl⟩) | (exfalso; omega)
    · show Rch l E 2 66 _ _ _ _ (15, [some (vR 0), some (vI r), some (vI f), some (vI x), some (vI d)], [vI 0], MW b I L)
      have k13 : ¬ (0 ≤ f ∧ f ≤ 5) := k13
      refine rch_br rfl (cd := (0 : Int) = 0) (t1 := (37, [some (vR 0), some (vI r), some (vI f), some (vI x), some (vI d)], [], MW b I L)) (t2 := (18, [some (vR 0), some (vI r), some (vI f), some (vI x), some (vI d)], [], MW b I L)) rfl (fun _ => ?_) (fun c9 => absurd (by decide) c9)
      refine rch_run rfl (by decide) 1 (t' := (38, [some (vR 0), some (vI r), some (vI f), some (vI x), some (vI d)], [vI (-1)], MW b I L)) (ps := []) rfl trivial ?_
      refine rch_ret rfl (rt := some (vI (-1))) rfl trivial mw_c ?_
      first | exact Or.inl ⟨by omega, rfl, rfl⟩ | exact Or.inr (⟨by omega, rfl, rfl⟩) | (exfalso; omega)
  · show Rch l E 2 66 _ _ _ _ (8, [some (vR 0), some (vI r), some (vI f), some (vI x), some (vI d)], [vI 0], MW b I L)
    have k12 : ¬ (0 ≤ r ∧ r < I 17 0 ∧ I 20 r.toNat = 0) := k12
    refine rch_br rfl (cd := (0 : Int) = 0) (t1 := (37, [some (vR 0), some (vI r), some (vI f), some (vI x), some (vI d)], [], MW b I L)) (t2 := (11, [some (vR 0), some (vI r), some (vI f), some (vI x), some (vI d)], [], MW b I L)) rfl (fun _ => ?_) (fun c9 => absurd (by decide) c9)
    refine rch_run rfl (by decide) 1 (t' := (38, [some (vR 0), some (vI r), some (vI f), some (vI x), some (vI d)], [vI (-1)], MW b I L)) (ps := []) rfl trivial ?_
    refine rch_ret rfl (rt := some (vI (-1))) rfl trivial mw_c ?_
    first | exact Or.inl ⟨by omega, rfl, rfl⟩ | exact Or.inr (⟨by omega, rfl, rfl⟩) | (exfalso; omega)

theorem k_X12_set (l : Launch) (E : AX) (b : Bool) (I L : Nat → Nat → Int) (r : Int) (f : Int) (x : Int) (d : Int) (hn : I 74 4 ≤ 10) (hv : 0 ≤ I 74 5 ∧ I 74 5 ≤ 150) : Con l E 2 113 [vR 74, vI r, vI f, vI x, vI d] (MW b I L) 0 0 (fun rt w => ((I 74 5 ≠ 150 ∧ (0 ≤ r ∧ r < I 74 4 ∧ I 80 r.toNat = 0) ∧ (0 ≤ f ∧ f ≤ 5) ∧ (0 ≤ x ∧ x ≤ 999999) ∧ 0 ≤ d ∧ d ≤ 100000) ∧ rt = some (vI ((I 74 5) + 1)) ∧ w = MW b (upI (upI (upI (upI (upI (upI (upI I 81 (I 74 5).toNat r) 82 (I 74 5).toNat f) 83 (I 74 5).toNat x) 84 (I 74 5).toNat d) 85 (I 74 5).toNat (I 74 0)) 86 (I 74 5).toNat 0) 74 5 ((I 74 5) + 1)) L) ∨ ((¬ (I 74 5 ≠ 150 ∧ (0 ≤ r ∧ r < I 74 4 ∧ I 80 r.toNat = 0) ∧ (0 ≤ f ∧ f ≤ 5) ∧ (0 ≤ x ∧ x ≤ 999999) ∧ 0 ≤ d ∧ d ≤ 100000)) ∧ rt = some (vI (-1)) ∧ w = MW b I L)) := by
  refine con_intro (by decide) (Nat.le_of_ble_eq_true rfl) ?_
  show Rch l E 2 113 _ _ _ _ (0, [some (vR 74), some (vI r), some (vI f), some (vI x), some (vI d)], [], MW b I L)
  refine rch_run rfl (by decide) 3 (t' := (7, [some (vR 74), some (vI r), some (vI f), some (vI x), some (vI d)], [vI 150, vI (I 74 5)], MW b I L)) (ps := []) rfl trivial ?_
  refine rch_br rfl (cd := I 74 5 = (150 : Int)) (t1 := (44, [some (vR 74), some (vI r), some (vI f), some (vI x), some (vI d)], [], MW b I L)) (t2 := (10, [some (vR 74), some (vI r), some (vI f), some (vI x), some (vI d)], [], MW b I L)) rfl (fun c7_1 => ?_) (fun c7_1 => ?_)
  · refine rch_run rfl (by decide) 1 (t' := (45, [some (vR 74), some (vI r), some (vI f), some (vI x), some (vI d)], [vI (-1)], MW b I L)) (ps := []) rfl trivial ?_
    refine rch_ret rfl (rt := some (vI (-1))) rfl trivial mw_c ?_
    first | exact Or.inl ⟨by omega, rfl, rfl⟩ | exact Or.inr (⟨by omega, rfl, rfl⟩) | (exfalso; omega)
  · refine rch_run rfl (by decide) 2 (t' := (12, [some (vR 74), some (vI r), some (vI f), some (vI x), some (vI d)], [vI r, vR 74], MW b I L)) (ps := []) rfl trivial ?_
    refine rch_call (h' := 1) (k' := 109) (as := [vR 74, vI r]) (t1 := (15, [some (vR 74), some (vI r), some (vI f), some (vI x), some (vI d)], [], MW b I L)) rfl rfl (k_X12_isRow l E b I L r (by show I 74 4 ≤ 10; omega)) (by decide) mw_le ?_
    rintro rt9 w9 (⟨k16, rfl, rfl⟩ | ⟨k16, rfl, rfl⟩) _ _
    · show Rch l E 2 113 _ _ _ _ (15, [some (vR 74), some (vI r), some (vI f), some (vI x), some (vI d)], [vI 1], MW b I L)
      have k16 : 0 ≤ r ∧ r < I 74 4 ∧ I 80 r.toNat = 0 := k16
      refine rch_br rfl (cd := (1 : Int) = 0) (t1 := (44, [some (vR 74), some (vI r), some (vI f), some (vI x), some (vI d)], [], MW b I L)) (t2 := (18, [some (vR 74), some (vI r), some (vI f), some (vI x), some (vI d)], [], MW b I L)) rfl (fun c9 => absurd c9 (by decide)) (fun _ => ?_)
      refine rch_run rfl (by decide) 1 (t' := (19, [some (vR 74), some (vI r), some (vI f), some (vI x), some (vI d)], [vI f], MW b I L)) (ps := []) rfl trivial ?_
      refine rch_call (h' := 1) (k' := 104) (as := [vI f]) (t1 := (22, [some (vR 74), some (vI r), some (vI f), some (vI x), some (vI d)], [], MW b I L)) rfl rfl (k_X12_isField l E b I L f ) (by decide) mw_le ?_
      rintro rt9 w9 (⟨k17, rfl, rfl⟩ | ⟨k17, rfl, rfl⟩) _ _
      · show Rch l E 2 113 _ _ _ _ (22, [some (vR 74), some (vI r), some (vI f), some (vI x), some (vI d)], [vI 1], MW b I L)
        have k17 : 0 ≤ f ∧ f ≤ 5 := k17
        refine rch_br rfl (cd := (1 : Int) = 0) (t1 := (44, [some (vR 74), some (vI r), some (vI f), some (vI x), some (vI d)], [], MW b I L)) (t2 := (25, [some (vR 74), some (vI r), some (vI f), some (vI x), some (vI d)], [], MW b I L)) rfl (fun c9 => absurd c9 (by decide)) (fun _ => ?_)
        refine rch_run rfl (by decide) 1 (t' := (26, [some (vR 74), some (vI r), some (vI f), some (vI x), some (vI d)], [vI x], MW b I L)) (ps := []) rfl trivial ?_
        refine rch_call (h' := 1) (k' := 111) (as := [vI x]) (t1 := (29, [some (vR 74), some (vI r), some (vI f), some (vI x), some (vI d)], [], MW b I L)) rfl rfl (k_X12_isValue l E b I L x ) (by decide) mw_le ?_
        rintro rt9 w9 (⟨k18, rfl, rfl⟩ | ⟨k18, rfl, rfl⟩) _ _
        · show Rch l E 2 113 _ _ _ _ (29, [some (vR 74), some (vI r), some (vI f), some (vI x), some (vI d)], [vI 1], MW b I L)
          have k18 : 0 ≤ x ∧ x ≤ 999999 := k18
          refine rch_br rfl (cd := (1 : Int) = 0) (t1 := (44, [some (vR 74), some (vI r), some (vI f), some (vI x), some (vI d)], [], MW b I L)) (t2 := (32, [some (vR 74), some (vI r), some (vI f), some (vI x), some (vI d)], [], MW b I L)) rfl (fun c9 => absurd c9 (by decide)) (fun _ => ?_)
          refine rch_run rfl (by decide) 1 (t' := (34, [some (vR 74), some (vI r), some (vI f), some (vI x), some (vI d)], [vI d], MW b I L)) (ps := []) rfl trivial ?_
          refine rch_br rfl (cd := d < 0) (t1 := (44, [some (vR 74), some (vI r), some (vI f), some (vI x), some (vI d)], [], MW b I L)) (t2 := (37, [some (vR 74), some (vI r), some (vI f), some (vI x), some (vI d)], [], MW b I L)) rfl (fun c34_5 => ?_) (fun c34_5 => ?_)
          · refine rch_run rfl (by decide) 1 (t' := (45, [some (vR 74), some (vI r), some (vI f), some (vI x), some (vI d)], [vI (-1)], MW b I L)) (ps := []) rfl trivial ?_
            refine rch_ret rfl (rt := some (vI (-1))) rfl trivial mw_c ?_
            first | exact Or.inl ⟨by omega, rfl, rfl⟩ | exact Or.inr (⟨by omega, rfl, rfl⟩) | (exfalso; omega)
          · refine rch_run rfl (by decide) 2 (t' := (41, [some (vR 74), some (vI r), some (vI f), some (vI x), some (vI d)], [vI 100000, vI d], MW b I L)) (ps := []) rfl trivial ?_
            refine rch_br rfl (cd := d ≤ (100000 : Int)) (t1 := (46, [some (vR 74), some (vI r), some (vI f), some (vI x), some (vI d)], [], MW b I L)) (t2 := (44, [some (vR 74), some (vI r), some (vI f), some (vI x), some (vI d)], [], MW b I L)) rfl (fun c41_6 => ?_) (fun c41_6 => ?_)
            · refine rch_run rfl (by decide) 6 (t' := (53, [some (vR 74), some (vI r), some (vI f), some (vI x), some (vI d)], [vI 0, vI d, vI x, vI f, vI r, vR 74], MW b I L)) (ps := []) rfl trivial ?_
              refine rch_call (h' := 1) (k' := 112) (as := [vR 74, vI r, vI f, vI x, vI d, vI 0]) (t1 := (56, [some (vR 74), some (vI r), some (vI f), some (vI x), some (vI d)], [], MW b I L)) rfl rfl (k_X12_tell l E b I L r f x d 0 (by show 0 ≤ I 74 5 ∧ I 74 5 < 150; omega) (by show 0 = 0 ∨ 0 = 1; omega)) (by decide) mw_le ?_
              rintro rt9 w9 (⟨k19, rfl, rfl⟩) _ _
              show Rch l E 2 113 _ _ _ _ (56, [some (vR 74), some (vI r), some (vI f), some (vI x), some (vI d)], [], MW b (upI (upI (upI (upI (upI (upI (upI I 81 (I 74 5).toNat r) 82 (I 74 5).toNat f) 83 (I 74 5).toNat x) 84 (I 74 5).toNat d) 85 (I 74 5).toNat (I 74 0)) 86 (I 74 5).toNat 0) 74 5 ((I 74 5) + 1)) L)
              refine rch_run rfl (by decide) 2 (t' := (60, [some (vR 74), some (vI r), some (vI f), some (vI x), some (vI d)], [vI ((I 74 5) + 1)], MW b (upI (upI (upI (upI (upI (upI (upI I 81 (I 74 5).toNat r) 82 (I 74 5).toNat f) 83 (I 74 5).toNat x) 84 (I 74 5).toNat d) 85 (I 74 5).toNat (I 74 0)) 86 (I 74 5).toNat 0) 74 5 ((I 74 5) + 1)) L)) (ps := []) rfl trivial ?_
              refine rch_ret rfl (rt := some (vI ((I 74 5) + 1))) rfl trivial mw_c ?_
              first | exact Or.inl ⟨by omega, rfl, rfl⟩ | exact Or.inr (⟨by omega, rfl, rfl⟩) | (exfalso; omega)
            · refine rch_run rfl (by decide) 1 (t' := (45, [some (vR 74), some (vI r), some (vI f), some (vI x), some (vI d)], [vI (-1)], MW b I L)) (ps := []) rfl trivial ?_
              refine rch_ret rfl (rt := some (vI (-1))) rfl trivial mw_c ?_
              first | exact Or.inl ⟨by omega, rfl, rfl⟩ | exact Or.inr (⟨by omega, rfl, rfl⟩) | (exfalso; omega)
        · show Rch l E 2 113 _ _ _ _ (29, [some (vR 74), some (vI r), some (vI f), some (vI x), some (vI d)], [vI 0], MW b I L)
          have k18 : ¬ (0 ≤ x ∧ x ≤ 999999) := k18
          refine rch_br rfl (cd := (0 : Int) = 0) (t1 := (44, [some (vR 74), some (vI r), some (vI f), some (vI x), some (vI d)], [], MW b I L)) (t2 := (32, [some (vR 74), some (vI r), some (vI f), some (vI x), some (vI d)], [], MW b I L)) rfl (fun _ => ?_) (fun c9 => absurd (by decide) c9)
          refine rch_run rfl (by decide) 1 (t' := (45, [some (vR 74), some (vI r), some (vI f), some (vI x), some (vI d)], [vI (-1)], MW b I L)) (ps := []) rfl trivial ?_
          refine rch_ret rfl (rt := some (vI (-1))) rfl trivial mw_c ?_
          first | exact Or.inl ⟨by omega, rfl, rfl⟩ | exact Or.inr (⟨by omega, rfl, rfl⟩) | (exfalso; omega)
      · show Rch l E 2 113 _ _ _ _ (22, [some (vR 74), some (vI r), some (vI f), some (vI x), some (vI d)], [vI 0], MW b I L)
        have k17 : ¬ (0 ≤ f ∧ f ≤ 5) := k17
        refine rch_br rfl (cd := (0 : Int) = 0) (t1 := (44, [some (vR 74), some (vI r), some (vI f), some (vI x), some (vI d)], [], MW b I L)) (t2 := (25, [some (vR 74), some (vI r), some (vI f), some (vI x), some (vI d)], [], MW b I L)) rfl (fun _ => ?_) (fun c9 => absurd (by decide) c9)
        refine rch_run rfl (by decide) 1 (t' := (45, [some (vR 74), some (vI r), some (vI f), some (vI x), some (vI d)], [vI (-1)], MW b I L)) (ps := []) rfl trivial ?_
        refine rch_ret rfl (rt := some (vI (-1))) rfl trivial mw_c ?_
        first | exact Or.inl ⟨by omega, rfl, rfl⟩ | exact Or.inr (⟨by omega, rfl, rfl⟩) | (exfalso; omega)
    · show Rch l E 2 113 _ _ _ _ (15, [some (vR 74), some (vI r), some (vI f), some (vI x), some (vI d)], [vI 0], MW b I L)
      have k16 : ¬ (0 ≤ r ∧ r < I 74 4 ∧ I 80 r.toNat = 0) := k16
      refine rch_br rfl (cd := (0 : Int) = 0) (t1 := (44, [some (vR 74), some (vI r), some (vI f), some (vI x), some (vI d)], [], MW b I L)) (t2 := (18, [some (vR 74), some (vI r), some (vI f), some (vI x), some (vI d)], [], MW b I L)) rfl (fun _ => ?_) (fun c9 => absurd (by decide) c9)
      refine rch_run rfl (by decide) 1 (t' := (45, [some (vR 74), some (vI r), some (vI f), some (vI x), some (vI d)], [vI (-1)], MW b I L)) (ps := []) rfl trivial ?_
      refine rch_ret rfl (rt := some (vI (-1))) rfl trivial mw_c ?_
      first | exact Or.inl ⟨by omega, rfl, rfl⟩ | exact Or.inr (⟨by omega, rfl, rfl⟩) | (exfalso; omega)

theorem k_X11_forget (l : Launch) (E : AX) (b : Bool) (I L : Nat → Nat → Int) (r : Int) (hn : I 17 0 ≤ 10) : Con l E 2 68 [vR 0, vI r] (MW b I L) 0 0 (fun rt w => ((0 ≤ r ∧ r < I 17 0 ∧ I 20 r.toNat = 0) ∧ rt = some (vI 1) ∧ w = MW b (upI (upI I 0 1 0) 20 r.toNat 1) L) ∨ ((¬ (0 ≤ r ∧ r < I 17 0 ∧ I 20 r.toNat = 0)) ∧ rt = some (vI 0) ∧ w = MW b I L)) := by
  refine con_intro (by decide) (Nat.le_of_ble_eq_true rfl) ?_
  show Rch l E 2 68 _ _ _ _ (0, [some (vR 0), some (vI r)], [], MW b I L)
  refine rch_run rfl (by decide) 3 (t' := (5, [some (vR 0), some (vI r)], [vI r, vR 17], MW b I L)) (ps := []) rfl trivial ?_
  refine rch_call (h' := 1) (k' := 32) (as := [vR 17, vI r]) (t1 := (8, [some (vR 0), some (vI r)], [], MW b I L)) rfl rfl (k_X4_isAlive l E b I L r (by show I 17 0 ≤ 10; omega)) (by decide) mw_le ?_
  rintro rt9 w9 (⟨k20, rfl, rfl⟩ | ⟨k20, rfl, rfl⟩) _ _
  · show Rch l E 2 68 _ _ _ _ (8, [some (vR 0), some (vI r)], [vI 1], MW b I L)
    have k20 : 0 ≤ r ∧ r < I 17 0 ∧ I 20 r.toNat = 0 := k20
    refine rch_br rfl (cd := (1 : Int) ≠ 0) (t1 := (13, [some (vR 0), some (vI r)], [], MW b I L)) (t2 := (11, [some (vR 0), some (vI r)], [], MW b I L)) rfl (fun _ => ?_) (fun c9 => absurd (by decide) c9)
    refine rch_run rfl (by decide) 10 (t' := (29, [some (vR 0), some (vI r)], [vI 1], MW b (upI (upI I 0 1 0) 20 r.toNat 1) L)) (ps := [(0 : Int) = 0 ∨ (0 : Int) = 1, 0 ≤ r ∧ r < ((10 : Nat) : Int), (1 : Int) = 0 ∨ (1 : Int) = 1]) rfl (by simp only [all_, i32, i64]; first | omega | (simp; done) | (simp; omega)) ?_
    refine rch_ret rfl (rt := some (vI 1)) rfl (Or.inr rfl) mw_c ?_
    first | exact Or.inl ⟨by omega, rfl, rfl⟩ | exact Or.inr (⟨by omega, rfl, rfl⟩) | (exfalso; omega)
  · show Rch l E 2 68 _ _ _ _ (8, [some (vR 0), some (vI r)], [vI 0], MW b I L)
    have k20 : ¬ (0 ≤ r ∧ r < I 17 0 ∧ I 20 r.toNat = 0) := k20
    refine rch_br rfl (cd := (0 : Int) ≠ 0) (t1 := (13, [some (vR 0), some (vI r)], [], MW b I L)) (t2 := (11, [some (vR 0), some (vI r)], [], MW b I L)) rfl (fun c9 => absurd c9 (by decide)) (fun _ => ?_)
    refine rch_run rfl (by decide) 1 (t' := (12, [some (vR 0), some (vI r)], [vI 0], MW b I L)) (ps := []) rfl trivial ?_
    refine rch_ret rfl (rt := some (vI 0)) rfl (Or.inl rfl) mw_c ?_
    first | exact Or.inl ⟨by omega, rfl, rfl⟩ | exact Or.inr (⟨by omega, rfl, rfl⟩) | (exfalso; omega)

theorem k_X12_forget (l : Launch) (E : AX) (b : Bool) (I L : Nat → Nat → Int) (r : Int) (hn : I 74 4 ≤ 10) : Con l E 2 117 [vR 74, vI r] (MW b I L) 0 0 (fun rt w => ((0 ≤ r ∧ r < I 74 4 ∧ I 80 r.toNat = 0) ∧ rt = some (vI 1) ∧ w = MW b (upI I 80 r.toNat 1) L) ∨ ((¬ (0 ≤ r ∧ r < I 74 4 ∧ I 80 r.toNat = 0)) ∧ rt = some (vI 0) ∧ w = MW b I L)) := by
  refine con_intro (by decide) (Nat.le_of_ble_eq_true rfl) ?_
  show Rch l E 2 117 _ _ _ _ (0, [some (vR 74), some (vI r)], [], MW b I L)
  refine rch_run rfl (by decide) 2 (t' := (2, [some (vR 74), some (vI r)], [vI r, vR 74], MW b I L)) (ps := []) rfl trivial ?_
  refine rch_call (h' := 1) (k' := 109) (as := [vR 74, vI r]) (t1 := (5, [some (vR 74), some (vI r)], [], MW b I L)) rfl rfl (k_X12_isRow l E b I L r (by show I 74 4 ≤ 10; omega)) (by decide) mw_le ?_
  rintro rt9 w9 (⟨k21, rfl, rfl⟩ | ⟨k21, rfl, rfl⟩) _ _
  · show Rch l E 2 117 _ _ _ _ (5, [some (vR 74), some (vI r)], [vI 1], MW b I L)
    have k21 : 0 ≤ r ∧ r < I 74 4 ∧ I 80 r.toNat = 0 := k21
    refine rch_br rfl (cd := (1 : Int) ≠ 0) (t1 := (10, [some (vR 74), some (vI r)], [], MW b I L)) (t2 := (8, [some (vR 74), some (vI r)], [], MW b I L)) rfl (fun _ => ?_) (fun c9 => absurd (by decide) c9)
    refine rch_run rfl (by decide) 6 (t' := (18, [some (vR 74), some (vI r)], [vI 1], MW b (upI I 80 r.toNat 1) L)) (ps := [0 ≤ r ∧ r < ((10 : Nat) : Int), (1 : Int) = 0 ∨ (1 : Int) = 1]) rfl (by simp only [all_, i32, i64]; first | omega | (simp; done) | (simp; omega)) ?_
    refine rch_ret rfl (rt := some (vI 1)) rfl (Or.inr rfl) mw_c ?_
    first | exact Or.inl ⟨by omega, rfl, rfl⟩ | exact Or.inr (⟨by omega, rfl, rfl⟩) | (exfalso; omega)
  · show Rch l E 2 117 _ _ _ _ (5, [some (vR 74), some (vI r)], [vI 0], MW b I L)
    have k21 : ¬ (0 ≤ r ∧ r < I 74 4 ∧ I 80 r.toNat = 0) := k21
    refine rch_br rfl (cd := (0 : Int) ≠ 0) (t1 := (10, [some (vR 74), some (vI r)], [], MW b I L)) (t2 := (8, [some (vR 74), some (vI r)], [], MW b I L)) rfl (fun c9 => absurd c9 (by decide)) (fun _ => ?_)
    refine rch_run rfl (by decide) 1 (t' := (9, [some (vR 74), some (vI r)], [vI 0], MW b I L)) (ps := []) rfl trivial ?_
    refine rch_ret rfl (rt := some (vI 0)) rfl (Or.inl rfl) mw_c ?_
    first | exact Or.inl ⟨by omega, rfl, rfl⟩ | exact Or.inr (⟨by omega, rfl, rfl⟩) | (exfalso; omega)
