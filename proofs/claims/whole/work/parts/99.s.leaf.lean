theorem k_addStep_1 (l : Launch) (E : AX) (b : Bool) (I L : Nat → Nat → Int) (c : Int) (f : Int) (r : Int) (hn : 0 ≤ I 1 2 ∧ I 1 2 ≤ 250) : Con l E 1 2 [vR 1, vI c, vI f, vI r] (MW b I L) 0 0 (fun rt w => ((I 1 2 < 250) ∧ rt = none ∧ w = MW b (upI (upI (upI (upI I 4 (I 1 2).toNat c) 5 (I 1 2).toNat f) 6 (I 1 2).toNat r) 1 2 ((I 1 2) + 1)) L) ∨ ((¬ (I 1 2 < 250)) ∧ rt = none ∧ w = MW b I L)) := by
  refine con_intro (by decide) (Nat.le_of_ble_eq_true rfl) ?_
  show Rch l E 1 2 _ _ _ _ (0, [some (vR 1), some (vI c), some (vI f), some (vI r)], [], MW b I L)
  refine rch_run cdK2 (by decide) 3 (t' := (7, [some (vR 1), some (vI c), some (vI f), some (vI r)], [vI 250, vI (I 1 2)], MW b I L)) (ps := []) rfl trivial ?_
  refine rch_br cdK2 (cd := (250 : Int) ≤ I 1 2) (t1 := (50, [some (vR 1), some (vI c), some (vI f), some (vI r)], [], MW b I L)) (t2 := (10, [some (vR 1), some (vI c), some (vI f), some (vI r)], [], MW b I L)) rfl (fun c7_1 => ?_) (fun c7_1 => ?_)
  · refine rch_ret cdK2 (rt := none) rfl trivial mw_c ?_
    first | exact Or.inl ⟨by omega, rfl, rfl⟩ | exact Or.inr (⟨by omega, rfl, rfl⟩) | (exfalso; omega)
  · refine rch_run cdK2 (by decide) 24 (t' := (50, [some (vR 1), some (vI c), some (vI f), some (vI r)], [], MW b (upI (upI (upI (upI I 4 (I 1 2).toNat c) 5 (I 1 2).toNat f) 6 (I 1 2).toNat r) 1 2 ((I 1 2) + 1)) L)) (ps := [0 ≤ I 1 2 ∧ I 1 2 < ((250 : Nat) : Int), 0 ≤ I 1 2 ∧ I 1 2 < ((250 : Nat) : Int), 0 ≤ I 1 2 ∧ I 1 2 < ((250 : Nat) : Int), i32 ((I 1 2) + 1)]) rfl (by simp only [all_, i32, i64]; first | omega | (simp; done) | (simp; omega)) ?_
    refine rch_ret cdK2 (rt := none) rfl trivial mw_c ?_
    first | exact Or.inl ⟨by omega, rfl, rfl⟩ | exact Or.inr (⟨by omega, rfl, rfl⟩) | (exfalso; omega)

theorem k_closeLine_1 (l : Launch) (E : AX) (b : Bool) (I L : Nat → Nat → Int) (x : Int) (hn : 0 ≤ I 1 0 ∧ I 1 0 ≤ 10) : Con l E 1 3 [vR 1, vI x] (MW b I L) 0 0 (fun rt w => ((I 1 0 < 10) ∧ rt = none ∧ w = MW b (upI (upI (upI I 2 (I 1 0).toNat x) 3 (I 1 0).toNat (I 1 2)) 1 0 ((I 1 0) + 1)) L) ∨ ((¬ (I 1 0 < 10)) ∧ rt = none ∧ w = MW b I L)) := by
  refine con_intro (by decide) (Nat.le_of_ble_eq_true rfl) ?_
  show Rch l E 1 3 _ _ _ _ (0, [some (vR 1), some (vI x)], [], MW b I L)
  refine rch_run cdK3 (by decide) 3 (t' := (6, [some (vR 1), some (vI x)], [vI 10, vI (I 1 0)], MW b I L)) (ps := []) rfl trivial ?_
  refine rch_br cdK3 (cd := (10 : Int) ≤ I 1 0) (t1 := (42, [some (vR 1), some (vI x)], [], MW b I L)) (t2 := (9, [some (vR 1), some (vI x)], [], MW b I L)) rfl (fun c6_1 => ?_) (fun c6_1 => ?_)
  · refine rch_ret cdK3 (rt := none) rfl trivial mw_c ?_
    first | exact Or.inl ⟨by omega, rfl, rfl⟩ | exact Or.inr (⟨by omega, rfl, rfl⟩) | (exfalso; omega)
  · refine rch_run cdK3 (by decide) 19 (t' := (42, [some (vR 1), some (vI x)], [], MW b (upI (upI (upI I 2 (I 1 0).toNat x) 3 (I 1 0).toNat (I 1 2)) 1 0 ((I 1 0) + 1)) L)) (ps := [0 ≤ I 1 0 ∧ I 1 0 < ((10 : Nat) : Int), 0 ≤ I 1 0 ∧ I 1 0 < ((10 : Nat) : Int), i32 ((I 1 0) + 1)]) rfl (by simp only [all_, i32, i64]; first | omega | (simp; done) | (simp; omega)) ?_
    refine rch_ret cdK3 (rt := none) rfl trivial mw_c ?_
    first | exact Or.inl ⟨by omega, rfl, rfl⟩ | exact Or.inr (⟨by omega, rfl, rfl⟩) | (exfalso; omega)

theorem k_clear_1 (l : Launch) (E : AX) (b : Bool) (I L : Nat → Nat → Int)  : Con l E 1 1 [vR 1] (MW b I L) 0 0 (fun rt w => ((True) ∧ rt = none ∧ w = MW b (upI (upI (upI I 1 0 0) 1 1 0) 1 2 0) L)) := by
  refine con_intro (by decide) (Nat.le_of_ble_eq_true rfl) ?_
  show Rch l E 1 1 _ _ _ _ (0, [some (vR 1)], [], MW b I L)
  refine rch_run cdK1 (by decide) 9 (t' := (15, [some (vR 1)], [], MW b (upI (upI (upI I 1 0 0) 1 1 0) 1 2 0) L)) (ps := []) rfl trivial ?_
  refine rch_ret cdK1 (rt := none) rfl trivial mw_c ?_
  first | exact ⟨by trivial, rfl, rfl⟩ | (exfalso; omega)

theorem k_addStep_7 (l : Launch) (E : AX) (b : Bool) (I L : Nat → Nat → Int) (c : Int) (f : Int) (r : Int) (hn : 0 ≤ I 7 2 ∧ I 7 2 ≤ 250) : Con l E 1 2 [vR 7, vI c, vI f, vI r] (MW b I L) 0 0 (fun rt w => ((I 7 2 < 250) ∧ rt = none ∧ w = MW b (upI (upI (upI (upI I 10 (I 7 2).toNat c) 11 (I 7 2).toNat f) 12 (I 7 2).toNat r) 7 2 ((I 7 2) + 1)) L) ∨ ((¬ (I 7 2 < 250)) ∧ rt = none ∧ w = MW b I L)) := by
  refine con_intro (by decide) (Nat.le_of_ble_eq_true rfl) ?_
  show Rch l E 1 2 _ _ _ _ (0, [some (vR 7), some (vI c), some (vI f), some (vI r)], [], MW b I L)
  refine rch_run cdK2 (by decide) 3 (t' := (7, [some (vR 7), some (vI c), some (vI f), some (vI r)], [vI 250, vI (I 7 2)], MW b I L)) (ps := []) rfl trivial ?_
  refine rch_br cdK2 (cd := (250 : Int) ≤ I 7 2) (t1 := (50, [some (vR 7), some (vI c), some (vI f), some (vI r)], [], MW b I L)) (t2 := (10, [some (vR 7), some (vI c), some (vI f), some (vI r)], [], MW b I L)) rfl (fun c7_1 => ?_) (fun c7_1 => ?_)
  · refine rch_ret cdK2 (rt := none) rfl trivial mw_c ?_
    first | exact Or.inl ⟨by omega, rfl, rfl⟩ | exact Or.inr (⟨by omega, rfl, rfl⟩) | (exfalso; omega)
  · refine rch_run cdK2 (by decide) 24 (t' := (50, [some (vR 7), some (vI c), some (vI f), some (vI r)], [], MW b (upI (upI (upI (upI I 10 (I 7 2).toNat c) 11 (I 7 2).toNat f) 12 (I 7 2).toNat r) 7 2 ((I 7 2) + 1)) L)) (ps := [0 ≤ I 7 2 ∧ I 7 2 < ((250 : Nat) : Int), 0 ≤ I 7 2 ∧ I 7 2 < ((250 : Nat) : Int), 0 ≤ I 7 2 ∧ I 7 2 < ((250 : Nat) : Int), i32 ((I 7 2) + 1)]) rfl (by simp only [all_, i32, i64]; first | omega | (simp; done) | (simp; omega)) ?_
    refine rch_ret cdK2 (rt := none) rfl trivial mw_c ?_
    first | exact Or.inl ⟨by omega, rfl, rfl⟩ | exact Or.inr (⟨by omega, rfl, rfl⟩) | (exfalso; omega)

theorem k_closeLine_7 (l : Launch) (E : AX) (b : Bool) (I L : Nat → Nat → Int) (x : Int) (hn : 0 ≤ I 7 0 ∧ I 7 0 ≤ 10) : Con l E 1 3 [vR 7, vI x] (MW b I L) 0 0 (fun rt w => ((I 7 0 < 10) ∧ rt = none ∧ w = MW b (upI (upI (upI I 8 (I 7 0).toNat x) 9 (I 7 0).toNat (I 7 2)) 7 0 ((I 7 0) + 1)) L) ∨ ((¬ (I 7 0 < 10)) ∧ rt = none ∧ w = MW b I L)) := by
  refine con_intro (by decide) (Nat.le_of_ble_eq_true rfl) ?_
  show Rch l E 1 3 _ _ _ _ (0, [some (vR 7), some (vI x)], [], MW b I L)
  refine rch_run cdK3 (by decide) 3 (t' := (6, [some (vR 7), some (vI x)], [vI 10, vI (I 7 0)], MW b I L)) (ps := []) rfl trivial ?_
  refine rch_br cdK3 (cd := (10 : Int) ≤ I 7 0) (t1 := (42, [some (vR 7), some (vI x)], [], MW b I L)) (t2 := (9, [some (vR 7), some (vI x)], [], MW b I L)) rfl (fun c6_1 => ?_) (fun c6_1 => ?_)
  · refine rch_ret cdK3 (rt := none) rfl trivial mw_c ?_
    first | exact Or.inl ⟨by omega, rfl, rfl⟩ | exact Or.inr (⟨by omega, rfl, rfl⟩) | (exfalso; omega)
  · refine rch_run cdK3 (by decide) 19 (t' := (42, [some (vR 7), some (vI x)], [], MW b (upI (upI (upI I 8 (I 7 0).toNat x) 9 (I 7 0).toNat (I 7 2)) 7 0 ((I 7 0) + 1)) L)) (ps := [0 ≤ I 7 0 ∧ I 7 0 < ((10 : Nat) : Int), 0 ≤ I 7 0 ∧ I 7 0 < ((10 : Nat) : Int), i32 ((I 7 0) + 1)]) rfl (by simp only [all_, i32, i64]; first | omega | (simp; done) | (simp; omega)) ?_
    refine rch_ret cdK3 (rt := none) rfl trivial mw_c ?_
    first | exact Or.inl ⟨by omega, rfl, rfl⟩ | exact Or.inr (⟨by omega, rfl, rfl⟩) | (exfalso; omega)

theorem k_clear_7 (l : Launch) (E : AX) (b : Bool) (I L : Nat → Nat → Int)  : Con l E 1 1 [vR 7] (MW b I L) 0 0 (fun rt w => ((True) ∧ rt = none ∧ w = MW b (upI (upI (upI I 7 0 0) 7 1 0) 7 2 0) L)) := by
  refine con_intro (by decide) (Nat.le_of_ble_eq_true rfl) ?_
  show Rch l E 1 1 _ _ _ _ (0, [some (vR 7)], [], MW b I L)
  refine rch_run cdK1 (by decide) 9 (t' := (15, [some (vR 7)], [], MW b (upI (upI (upI I 7 0 0) 7 1 0) 7 2 0) L)) (ps := []) rfl trivial ?_
  refine rch_ret cdK1 (rt := none) rfl trivial mw_c ?_
  first | exact ⟨by trivial, rfl, rfl⟩ | (exfalso; omega)

theorem k_stop (l : Launch) (E : AX) (b : Bool) (I L : Nat → Nat → Int) (k : Int) : Con l E 1 13 [vR 31, vR 28, vI k] (MW b I L) 0 0 (fun rt w => ((I 28 1 = 1) ∧ rt = some (vI 0) ∧ w = MW b (upI (upI I 31 0 1) 31 1 (I 28 2)) L) ∨ ((¬ (I 28 1 = 1)) ∧ rt = some (vI 0) ∧ w = MW b (upI (upI I 31 0 k) 31 1 (I 28 2)) L)) := by
  refine con_intro (by decide) (Nat.le_of_ble_eq_true rfl) ?_
  show Rch l E 1 13 _ _ _ _ (0, [some (vR 31), some (vR 28), some (vI k)], [], MW b I L)
  refine rch_run cdK13 (by decide) 4 (t' := (6, [some (vR 31), some (vR 28), some (vI k)], [vI 1, vI (I 28 1), vR 31], MW b I L)) (ps := []) rfl trivial ?_
  refine rch_br cdK13 (cd := I 28 1 ≠ (1 : Int)) (t1 := (13, [some (vR 31), some (vR 28), some (vI k)], [vR 31], MW b I L)) (t2 := (9, [some (vR 31), some (vR 28), some (vI k)], [vR 31], MW b I L)) rfl (fun c6_1 => ?_) (fun c6_1 => ?_)
  · refine rch_run cdK13 (by decide) 7 (t' := (26, [some (vR 31), some (vR 28), some (vI k)], [vI 0], MW b (upI (upI I 31 0 k) 31 1 (I 28 2)) L)) (ps := []) rfl trivial ?_
    refine rch_ret cdK13 (rt := some (vI 0)) rfl (Or.inl rfl) mw_c ?_
    first | exact Or.inl ⟨by omega, rfl, rfl⟩ | exact Or.inr (⟨by omega, rfl, rfl⟩) | (exfalso; omega)
  · refine rch_run cdK13 (by decide) 8 (t' := (26, [some (vR 31), some (vR 28), some (vI k)], [vI 0], MW b (upI (upI I 31 0 1) 31 1 (I 28 2)) L)) (ps := []) rfl trivial ?_
    refine rch_ret cdK13 (rt := some (vI 0)) rfl (Or.inl rfl) mw_c ?_
    first | exact Or.inl ⟨by omega, rfl, rfl⟩ | exact Or.inr (⟨by omega, rfl, rfl⟩) | (exfalso; omega)

theorem k_readNumber_1 (l : Launch) (E : AX) (b : Bool) (I J L : Nat → Nat → Int) (s : Nat × Int × List (Int × Int × Int)) (lo hi : Int) (h0 : Tp0 I) (hs : PSt 1 I J s) : Con l E 2 15 [vR 31, vR 28, vI lo, vI hi] (MW b J L) 0 0 (fun rt w => ∃ J2, w = MW b J2 L ∧ ((pNum (I 29) (nTp I) s.1 lo hi = none ∧ rt = some (vI 1) ∧ J2 = J) ∨ (∃ f, pNum (I 29) (nTp I) s.1 lo hi = some f ∧ rt = some (vI 0) ∧ FlR 1 I J2 f))) := by
  refine con_ok (fun hw9 hs9 => ?_)
  refine con_intro (by decide) (Nat.le_of_ble_eq_true rfl) ?_
  have t1 := hs.2.1.2.1
  have t3 : J 28 1 = 3 → J 28 3 = tV (I 29) (nTp I) s.1 := fun z => hs.2.1.2.2.2 (by omega)
  show Rch l E 2 15 _ _ _ _ (0, [some (vR 31), some (vR 28), some (vI lo), some (vI hi)], [], MW b J L)
  refine rch_run cdK15 (by decide) 3 (t' := (5, [some (vR 31), some (vR 28), some (vI lo), some (vI hi)], [vI 3, vI (J 28 1)], MW b J L)) (ps := []) rfl trivial ?_
  refine rch_br cdK15 (cd := J 28 1 = (3 : Int)) (t1 := (15, [some (vR 31), some (vR 28), some (vI lo), some (vI hi)], [], MW b J L)) (t2 := (8, [some (vR 31), some (vR 28), some (vI lo), some (vI hi)], [], MW b J L)) rfl (fun c5_1 => ?_) (fun c5_1 => ?_)
  · refine rch_run cdK15 (by decide) 3 (t' := (20, [some (vR 31), some (vR 28), some (vI lo), some (vI hi)], [vI lo, vI (J 28 3)], MW b J L)) (ps := []) rfl trivial ?_
    refine rch_br cdK15 (cd := J 28 3 < lo) (t1 := (31, [some (vR 31), some (vR 28), some (vI lo), some (vI hi)], [], MW b J L)) (t2 := (23, [some (vR 31), some (vR 28), some (vI lo), some (vI hi)], [], MW b J L)) rfl (fun c20_2 => ?_) (fun c20_2 => ?_)
    · refine rch_run cdK15 (by decide) 3 (t' := (34, [some (vR 31), some (vR 28), some (vI lo), some (vI hi)], [vI 3, vR 28, vR 31], MW b J L)) (ps := []) rfl trivial ?_
      refine rch_call (h' := 1) (k' := 13) (as := [vR 31, vR 28, vI 3]) (t1 := (37, [some (vR 31), some (vR 28), some (vI lo), some (vI hi)], [], MW b J L)) cdK15 rfl (k_stop l E b J L 3 ) (by decide) mw_le ?_
      rintro rt9 w9 (⟨k110, rfl, rfl⟩ | ⟨k110, rfl, rfl⟩) _ _
      · show Rch l E 2 15 _ _ _ _ (37, [some (vR 31), some (vR 28), some (vI lo), some (vI hi)], [vI 0], MW b (upI (upI J 31 0 1) 31 1 (J 28 2)) L)
        have k110 : J 28 1 = 1 := k110
        refine rch_ret cdK15 (rt := some (vI 0)) rfl (Or.inl rfl) mw_c ?_
        first | (have := t3 (by omega); exact ⟨_, rfl, Or.inr ⟨flt (I 29) (nTp I) s.1 3, by unfold pNum; rw [if_neg (by omega), if_pos (by omega)], rfl, PSt_stop hs (by omega) rfl (by omega)⟩⟩) | exact ⟨_, rfl, Or.inr ⟨flt (I 29) (nTp I) s.1 2, by unfold pNum; rw [if_pos (by omega)], rfl, PSt_stop hs (by omega) rfl (by omega)⟩⟩
      · show Rch l E 2 15 _ _ _ _ (37, [some (vR 31), some (vR 28), some (vI lo), some (vI hi)], [vI 0], MW b (upI (upI J 31 0 3) 31 1 (J 28 2)) L)
        have k110 : ¬ (J 28 1 = 1) := k110
        refine rch_ret cdK15 (rt := some (vI 0)) rfl (Or.inl rfl) mw_c ?_
        first | (have := t3 (by omega); exact ⟨_, rfl, Or.inr ⟨flt (I 29) (nTp I) s.1 3, by unfold pNum; rw [if_neg (by omega), if_pos (by omega)], rfl, PSt_stop hs (by omega) rfl (by omega)⟩⟩) | exact ⟨_, rfl, Or.inr ⟨flt (I 29) (nTp I) s.1 2, by unfold pNum; rw [if_pos (by omega)], rfl, PSt_stop hs (by omega) rfl (by omega)⟩⟩
    · refine rch_run cdK15 (by decide) 3 (t' := (28, [some (vR 31), some (vR 28), some (vI lo), some (vI hi)], [vI hi, vI (J 28 3)], MW b J L)) (ps := []) rfl trivial ?_
      refine rch_br cdK15 (cd := J 28 3 ≤ hi) (t1 := (38, [some (vR 31), some (vR 28), some (vI lo), some (vI hi)], [], MW b J L)) (t2 := (31, [some (vR 31), some (vR 28), some (vI lo), some (vI hi)], [], MW b J L)) rfl (fun c28_3 => ?_) (fun c28_3 => ?_)
      · refine rch_run cdK15 (by decide) 1 (t' := (39, [some (vR 31), some (vR 28), some (vI lo), some (vI hi)], [vI 1], MW b J L)) (ps := []) rfl trivial ?_
        refine rch_ret cdK15 (rt := some (vI 1)) rfl (Or.inr rfl) mw_c ?_
        exact ⟨J, rfl, Or.inl ⟨by have := t3 (by omega); unfold pNum; rw [if_neg (by omega), if_neg (by omega)], rfl, rfl⟩⟩
      · refine rch_run cdK15 (by decide) 3 (t' := (34, [some (vR 31), some (vR 28), some (vI lo), some (vI hi)], [vI 3, vR 28, vR 31], MW b J L)) (ps := []) rfl trivial ?_
        refine rch_call (h' := 1) (k' := 13) (as := [vR 31, vR 28, vI 3]) (t1 := (37, [some (vR 31), some (vR 28), some (vI lo), some (vI hi)], [], MW b J L)) cdK15 rfl (k_stop l E b J L 3 ) (by decide) mw_le ?_
        rintro rt9 w9 (⟨k111, rfl, rfl⟩ | ⟨k111, rfl, rfl⟩) _ _
        · show Rch l E 2 15 _ _ _ _ (37, [some (vR 31), some (vR 28), some (vI lo), some (vI hi)], [vI 0], MW b (upI (upI J 31 0 1) 31 1 (J 28 2)) L)
          have k111 : J 28 1 = 1 := k111
          refine rch_ret cdK15 (rt := some (vI 0)) rfl (Or.inl rfl) mw_c ?_
          first | (have := t3 (by omega); exact ⟨_, rfl, Or.inr ⟨flt (I 29) (nTp I) s.1 3, by unfold pNum; rw [if_neg (by omega), if_pos (by omega)], rfl, PSt_stop hs (by omega) rfl (by omega)⟩⟩) | exact ⟨_, rfl, Or.inr ⟨flt (I 29) (nTp I) s.1 2, by unfold pNum; rw [if_pos (by omega)], rfl, PSt_stop hs (by omega) rfl (by omega)⟩⟩
        · show Rch l E 2 15 _ _ _ _ (37, [some (vR 31), some (vR 28), some (vI lo), some (vI hi)], [vI 0], MW b (upI (upI J 31 0 3) 31 1 (J 28 2)) L)
          have k111 : ¬ (J 28 1 = 1) := k111
          refine rch_ret cdK15 (rt := some (vI 0)) rfl (Or.inl rfl) mw_c ?_
          first | (have := t3 (by omega); exact ⟨_, rfl, Or.inr ⟨flt (I 29) (nTp I) s.1 3, by unfold pNum; rw [if_neg (by omega), if_pos (by omega)], rfl, PSt_stop hs (by omega) rfl (by omega)⟩⟩) | exact ⟨_, rfl, Or.inr ⟨flt (I 29) (nTp I) s.1 2, by unfold pNum; rw [if_pos (by omega)], rfl, PSt_stop hs (by omega) rfl (by omega)⟩⟩
  · refine rch_run cdK15 (by decide) 3 (t' := (11, [some (vR 31), some (vR 28), some (vI lo), some (vI hi)], [vI 2, vR 28, vR 31], MW b J L)) (ps := []) rfl trivial ?_
    refine rch_call (h' := 1) (k' := 13) (as := [vR 31, vR 28, vI 2]) (t1 := (14, [some (vR 31), some (vR 28), some (vI lo), some (vI hi)], [], MW b J L)) cdK15 rfl (k_stop l E b J L 2 ) (by decide) mw_le ?_
    rintro rt9 w9 (⟨k112, rfl, rfl⟩ | ⟨k112, rfl, rfl⟩) _ _
    · show Rch l E 2 15 _ _ _ _ (14, [some (vR 31), some (vR 28), some (vI lo), some (vI hi)], [vI 0], MW b (upI (upI J 31 0 1) 31 1 (J 28 2)) L)
      have k112 : J 28 1 = 1 := k112
      refine rch_ret cdK15 (rt := some (vI 0)) rfl (Or.inl rfl) mw_c ?_
      first | (have := t3 (by omega); exact ⟨_, rfl, Or.inr ⟨flt (I 29) (nTp I) s.1 3, by unfold pNum; rw [if_neg (by omega), if_pos (by omega)], rfl, PSt_stop hs (by omega) rfl (by omega)⟩⟩) | exact ⟨_, rfl, Or.inr ⟨flt (I 29) (nTp I) s.1 2, by unfold pNum; rw [if_pos (by omega)], rfl, PSt_stop hs (by omega) rfl (by omega)⟩⟩
    · show Rch l E 2 15 _ _ _ _ (14, [some (vR 31), some (vR 28), some (vI lo), some (vI hi)], [vI 0], MW b (upI (upI J 31 0 2) 31 1 (J 28 2)) L)
      have k112 : ¬ (J 28 1 = 1) := k112
      refine rch_ret cdK15 (rt := some (vI 0)) rfl (Or.inl rfl) mw_c ?_
      first | (have := t3 (by omega); exact ⟨_, rfl, Or.inr ⟨flt (I 29) (nTp I) s.1 3, by unfold pNum; rw [if_neg (by omega), if_pos (by omega)], rfl, PSt_stop hs (by omega) rfl (by omega)⟩⟩) | exact ⟨_, rfl, Or.inr ⟨flt (I 29) (nTp I) s.1 2, by unfold pNum; rw [if_pos (by omega)], rfl, PSt_stop hs (by omega) rfl (by omega)⟩⟩

theorem k_readNumber_7 (l : Launch) (E : AX) (b : Bool) (I J L : Nat → Nat → Int) (s : Nat × Int × List (Int × Int × Int)) (lo hi : Int) (h0 : Tp0 I) (hs : PSt 7 I J s) : Con l E 2 15 [vR 31, vR 28, vI lo, vI hi] (MW b J L) 0 0 (fun rt w => ∃ J2, w = MW b J2 L ∧ ((pNum (I 29) (nTp I) s.1 lo hi = none ∧ rt = some (vI 1) ∧ J2 = J) ∨ (∃ f, pNum (I 29) (nTp I) s.1 lo hi = some f ∧ rt = some (vI 0) ∧ FlR 7 I J2 f))) := by
  refine con_ok (fun hw9 hs9 => ?_)
  refine con_intro (by decide) (Nat.le_of_ble_eq_true rfl) ?_
  have t1 := hs.2.1.2.1
  have t3 : J 28 1 = 3 → J 28 3 = tV (I 29) (nTp I) s.1 := fun z => hs.2.1.2.2.2 (by omega)
  show Rch l E 2 15 _ _ _ _ (0, [some (vR 31), some (vR 28), some (vI lo), some (vI hi)], [], MW b J L)
  refine rch_run cdK15 (by decide) 3 (t' := (5, [some (vR 31), some (vR 28), some (vI lo), some (vI hi)], [vI 3, vI (J 28 1)], MW b J L)) (ps := []) rfl trivial ?_
  refine rch_br cdK15 (cd := J 28 1 = (3 : Int)) (t1 := (15, [some (vR 31), some (vR 28), some (vI lo), some (vI hi)], [], MW b J L)) (t2 := (8, [some (vR 31), some (vR 28), some (vI lo), some (vI hi)], [], MW b J L)) rfl (fun c5_1 => ?_) (fun c5_1 => ?_)
  · refine rch_run cdK15 (by decide) 3 (t' := (20, [some (vR 31), some (vR 28), some (vI lo), some (vI hi)], [vI lo, vI (J 28 3)], MW b J L)) (ps := []) rfl trivial ?_
    refine rch_br cdK15 (cd := J 28 3 < lo) (t1 := (31, [some (vR 31), some (vR 28), some (vI lo), some (vI hi)], [], MW b J L)) (t2 := (23, [some (vR 31), some (vR 28), some (vI lo), some (vI hi)], [], MW b J L)) rfl (fun c20_2 => ?_) (fun c20_2 => ?_)
    · refine rch_run cdK15 (by decide) 3 (t' := (34, [some (vR 31), some (vR 28), some (vI lo), some (vI hi)], [vI 3, vR 28, vR 31], MW b J L)) (ps := []) rfl trivial ?_
      refine rch_call (h' := 1) (k' := 13) (as := [vR 31, vR 28, vI 3]) (t1 := (37, [some (vR 31), some (vR 28), some (vI lo), some (vI hi)], [], MW b J L)) cdK15 rfl (k_stop l E b J L 3 ) (by decide) mw_le ?_
      rintro rt9 w9 (⟨k113, rfl, rfl⟩ | ⟨k113, rfl, rfl⟩) _ _
      · show Rch l E 2 15 _ _ _ _ (37, [some (vR 31), some (vR 28), some (vI lo), some (vI hi)], [vI 0], MW b (upI (upI J 31 0 1) 31 1 (J 28 2)) L)
        have k113 : J 28 1 = 1 := k113
        refine rch_ret cdK15 (rt := some (vI 0)) rfl (Or.inl rfl) mw_c ?_
        first | (have := t3 (by omega); exact ⟨_, rfl, Or.inr ⟨flt (I 29) (nTp I) s.1 3, by unfold pNum; rw [if_neg (by omega), if_pos (by omega)], rfl, PSt_stop hs (by omega) rfl (by omega)⟩⟩) | exact ⟨_, rfl, Or.inr ⟨flt (I 29) (nTp I) s.1 2, by unfold pNum; rw [if_pos (by omega)], rfl, PSt_stop hs (by omega) rfl (by omega)⟩⟩
      · show Rch l E 2 15 _ _ _ _ (37, [some (vR 31), some (vR 28), some (vI lo), some (vI hi)], [vI 0], MW b (upI (upI J 31 0 3) 31 1 (J 28 2)) L)
        have k113 : ¬ (J 28 1 = 1) := k113
        refine rch_ret cdK15 (rt := some (vI 0)) rfl (Or.inl rfl) mw_c ?_
        first | (have := t3 (by omega); exact ⟨_, rfl, Or.inr ⟨flt (I 29) (nTp I) s.1 3, by unfold pNum; rw [if_neg (by omega), if_pos (by omega)], rfl, PSt_stop hs (by omega) rfl (by omega)⟩⟩) | exact ⟨_, rfl, Or.inr ⟨flt (I 29) (nTp I) s.1 2, by unfold pNum; rw [if_pos (by omega)], rfl, PSt_stop hs (by omega) rfl (by omega)⟩⟩
    · refine rch_run cdK15 (by decide) 3 (t' := (28, [some (vR 31), some (vR 28), some (vI lo), some (vI hi)], [vI hi, vI (J 28 3)], MW b J L)) (ps := []) rfl trivial ?_
      refine rch_br cdK15 (cd := J 28 3 ≤ hi) (t1 := (38, [some (vR 31), some (vR 28), some (vI lo), some (vI hi)], [], MW b J L)) (t2 := (31, [some (vR 31), some (vR 28), some (vI lo), some (vI hi)], [], MW b J L)) rfl (fun c28_3 => ?_) (fun c28_3 => ?_)
      · refine rch_run cdK15 (by decide) 1 (t' := (39, [some (vR 31), some (vR 28), some (vI lo), some (vI hi)], [vI 1], MW b J L)) (ps := []) rfl trivial ?_
        refine rch_ret cdK15 (rt := some (vI 1)) rfl (Or.inr rfl) mw_c ?_
        exact ⟨J, rfl, Or.inl ⟨by have := t3 (by omega); unfold pNum; rw [if_neg (by omega), if_neg (by omega)], rfl, rfl⟩⟩
      · refine rch_run cdK15 (by decide) 3 (t' := (34, [some (vR 31), some (vR 28), some (vI lo), some (vI hi)], [vI 3, vR 28, vR 31], MW b J L)) (ps := []) rfl trivial ?_
        refine rch_call (h' := 1) (k' := 13) (as := [vR 31, vR 28, vI 3]) (t1 := (37, [some (vR 31), some (vR 28), some (vI lo), some (vI hi)], [], MW b J L)) cdK15 rfl (k_stop l E b J L 3 ) (by decide) mw_le ?_
        rintro rt9 w9 (⟨k114, rfl, rfl⟩ | ⟨k114, rfl, rfl⟩) _ _
        · show Rch l E 2 15 _ _ _ _ (37, [some (vR 31), some (vR 28), some (vI lo), some (vI hi)], [vI 0], MW b (upI (upI J 31 0 1) 31 1 (J 28 2)) L)
          have k114 : J 28 1 = 1 := k114
          refine rch_ret cdK15 (rt := some (vI 0)) rfl (Or.inl rfl) mw_c ?_
          first | (have := t3 (by omega); exact ⟨_, rfl, Or.inr ⟨flt (I 29) (nTp I) s.1 3, by unfold pNum; rw [if_neg (by omega), if_pos (by omega)], rfl, PSt_stop hs (by omega) rfl (by omega)⟩⟩) | exact ⟨_, rfl, Or.inr ⟨flt (I 29) (nTp I) s.1 2, by unfold pNum; rw [if_pos (by omega)], rfl, PSt_stop hs (by omega) rfl (by omega)⟩⟩
        · show Rch l E 2 15 _ _ _ _ (37, [some (vR 31), some (vR 28), some (vI lo), some (vI hi)], [vI 0], MW b (upI (upI J 31 0 3) 31 1 (J 28 2)) L)
          have k114 : ¬ (J 28 1 = 1) := k114
          refine rch_ret cdK15 (rt := some (vI 0)) rfl (Or.inl rfl) mw_c ?_
          first | (have := t3 (by omega); exact ⟨_, rfl, Or.inr ⟨flt (I 29) (nTp I) s.1 3, by unfold pNum; rw [if_neg (by omega), if_pos (by omega)], rfl, PSt_stop hs (by omega) rfl (by omega)⟩⟩) | exact ⟨_, rfl, Or.inr ⟨flt (I 29) (nTp I) s.1 2, by unfold pNum; rw [if_pos (by omega)], rfl, PSt_stop hs (by omega) rfl (by omega)⟩⟩
  · refine rch_run cdK15 (by decide) 3 (t' := (11, [some (vR 31), some (vR 28), some (vI lo), some (vI hi)], [vI 2, vR 28, vR 31], MW b J L)) (ps := []) rfl trivial ?_
    refine rch_call (h' := 1) (k' := 13) (as := [vR 31, vR 28, vI 2]) (t1 := (14, [some (vR 31), some (vR 28), some (vI lo), some (vI hi)], [], MW b J L)) cdK15 rfl (k_stop l E b J L 2 ) (by decide) mw_le ?_
    rintro rt9 w9 (⟨k115, rfl, rfl⟩ | ⟨k115, rfl, rfl⟩) _ _
    · show Rch l E 2 15 _ _ _ _ (14, [some (vR 31), some (vR 28), some (vI lo), some (vI hi)], [vI 0], MW b (upI (upI J 31 0 1) 31 1 (J 28 2)) L)
      have k115 : J 28 1 = 1 := k115
      refine rch_ret cdK15 (rt := some (vI 0)) rfl (Or.inl rfl) mw_c ?_
      first | (have := t3 (by omega); exact ⟨_, rfl, Or.inr ⟨flt (I 29) (nTp I) s.1 3, by unfold pNum; rw [if_neg (by omega), if_pos (by omega)], rfl, PSt_stop hs (by omega) rfl (by omega)⟩⟩) | exact ⟨_, rfl, Or.inr ⟨flt (I 29) (nTp I) s.1 2, by unfold pNum; rw [if_pos (by omega)], rfl, PSt_stop hs (by omega) rfl (by omega)⟩⟩
    · show Rch l E 2 15 _ _ _ _ (14, [some (vR 31), some (vR 28), some (vI lo), some (vI hi)], [vI 0], MW b (upI (upI J 31 0 2) 31 1 (J 28 2)) L)
      have k115 : ¬ (J 28 1 = 1) := k115
      refine rch_ret cdK15 (rt := some (vI 0)) rfl (Or.inl rfl) mw_c ?_
      first | (have := t3 (by omega); exact ⟨_, rfl, Or.inr ⟨flt (I 29) (nTp I) s.1 3, by unfold pNum; rw [if_neg (by omega), if_pos (by omega)], rfl, PSt_stop hs (by omega) rfl (by omega)⟩⟩) | exact ⟨_, rfl, Or.inr ⟨flt (I 29) (nTp I) s.1 2, by unfold pNum; rw [if_pos (by omega)], rfl, PSt_stop hs (by omega) rfl (by omega)⟩⟩
