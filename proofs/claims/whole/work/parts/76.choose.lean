theorem k_choose (l : Launch) (E : AX) (b : Bool) (I L : Nat → Nat → Int) (hC : COK I) : Con l E 4 24 [vR 49] (MW b I L) 0 0 (fun rt w => ∃ J M, rt = none ∧ w = MW b J M ∧ (∀ a j, ¬ (a = 59 ∨ a = 60) → M a j = L a j) ∧ Chs I J) := by
  refine con_ok (fun hw9 hs9 => ?_)
  refine con_intro (by decide) (Nat.le_of_ble_eq_true rfl) ?_
  have hn8 := hC.1
  show Rch l E 4 24 _ _ _ _ (0, [some (vR 49), none, none, none], [], MW b I L)
  refine rch_run rfl (by decide) 11 (t' := (19, [some (vR 49), none, none, none], [vI (I 49 3)], MW b (upI (upI (upI I 49 0 1) 49 1 0) 49 2 0) L)) (ps := [(1 : Int) = 0 ∨ (1 : Int) = 1]) rfl (by simp only [all_, i32, i64]; first | omega | (simp; done) | (simp; omega)) ?_
  refine rch_br rfl (cd := I 49 3 ≠ 0) (t1 := (23, [some (vR 49), none, none, none], [], MW b (upI (upI (upI I 49 0 1) 49 1 0) 49 2 0) L)) (t2 := (22, [some (vR 49), none, none, none], [], MW b (upI (upI (upI I 49 0 1) 49 1 0) 49 2 0) L)) rfl (fun c19_1 => ?_) (fun c19_1 => ?_)
  · refine rch_run rfl (by decide) 1 (t' := (24, [some (vR 49), none, none, none], [vR 49], MW b (upI (upI (upI I 49 0 1) 49 1 0) 49 2 0) L)) (ps := []) rfl trivial ?_
    refine rch_call (h' := 2) (k' := 25) (as := [vR 49]) (t1 := (27, [some (vR 49), none, none, none], [], MW b (upI (upI (upI I 49 0 1) 49 1 0) 49 2 0) L)) rfl rfl (k_weighSets l E b (I1c I) L (by rw [I1c_f I 49 3 (by omega)]; exact hC.1) (by rw [I1c_f I 49 3 (by omega)]; exact sR_c hC.2.1 (fun j => I1c_f I 53 j (by omega))) (fun i hi => by rw [I1c_f I 49 3 (by omega)] at hi; rw [I1c_f I 54 i (by omega), I1c_f I 55 i (by omega)]; exact hC.2.2.1 i hi)) (by decide) mw_le ?_
    rintro rt9 w9 (⟨J2, rfl, rfl, f2, t2⟩) _ _
    show Rch l E 4 24 _ _ _ _ (27, [some (vR 49), none, none, none], [], MW b J2 L)
    rw [I1c_f I 49 3 (by omega), sI_c (fun j => I1c_f I 53 j (by omega)), wtI_c (fun j => I1c_f I 54 j (by omega)), woI_c (fun j => I1c_f I 55 j (by omega))] at t2
    have q49 : J2 49 3 = I 49 3 := by rw [f2 49 3 (by omega)]; exact I1c_f I 49 3 (by omega)
    have hn9 := hC.1
    refine rch_run rfl (by decide) 1 (t' := (28, [some (vR 49), none, none, none], [vR 49], MW b J2 L)) (ps := []) rfl trivial ?_
    refine rch_call (h' := 3) (k' := 27) (as := [vR 49]) (t1 := (31, [some (vR 49), none, none, none], [], MW b J2 L)) rfl rfl (k_chooseTails l E b J2 L (sI I) (wtI I) (woI I) (by omega) (by rw [q49]; exact hC.2.1) (by rw [q49]; exact t2)) (by decide) mw_le ?_
    rintro rt9 w9 (⟨M2, rfl, rfl, g2, u2⟩) _ _
    show Rch l E 4 24 _ _ _ _ (31, [some (vR 49), none, none, none], [], MW b J2 M2)
    rw [q49] at u2
    have hp9 : 2 ^ ((I 49 3).toNat - 1) ≤ 512 := pow9 (by omega)
    have hp8 : 0 < 2 ^ ((I 49 3).toNat - 1) := Nat.pow_pos (by decide)
    have hb9 : bShl 1 ((J2 49 3) - 1) = ((2 ^ ((I 49 3).toNat - 1) : Nat) : Int) := by rw [bShl_i (by omega) (by omega), show ((J2 49 3) - 1).toNat = (I 49 3).toNat - 1 by omega]
    refine rch_run rfl (by decide) 12 (t' := (45, [some (vR 49), some (vI (bShl 1 ((J2 49 3) - 1))), none, none], [vI ((bShl 1 ((J2 49 3) - 1)) - 1), vI (bShl 1 ((J2 49 3) - 1)), vR 49], MW b J2 M2)) (ps := [i32 ((J2 49 3) - 1), i32 ((bShl 1 ((J2 49 3) - 1)) - 1)]) rfl (by simp only [all_, i32, i64]; first | omega | (simp; done) | (simp; omega)) ?_
    refine rch_call (h' := 2) (k' := 28) (as := [vR 49, vI (bShl 1 ((J2 49 3) - 1)), vI ((bShl 1 ((J2 49 3) - 1)) - 1)]) (t1 := (48, [some (vR 49), some (vI (bShl 1 ((J2 49 3) - 1))), none, none], [], MW b J2 M2)) rfl rfl (k_greatestKey l E b J2 M2 (I 49 3).toNat ((I 49 3).toNat - 1) (sI I) (wtI I) (woI I) (bShl 1 ((J2 49 3) - 1)) ((bShl 1 ((J2 49 3) - 1)) - 1) (by omega) (by omega) hb9 (by rw [hb9]; omega) hC.2.1 (fun m hm => (u2 m hm).1) t2) (by decide) mw_le ?_
    rintro rt9 w9 (⟨G9, rfl, rfl, hG⟩) _ _
    show Rch l E 4 24 _ _ _ _ (48, [some (vR 49), some (vI (bShl 1 ((J2 49 3) - 1))), none, none], [vL G9], MW b J2 M2)
    have hz9 := lcmp0 G9 (-9223372036854775808)
    rw [hb9, show ((((2 ^ ((I 49 3).toNat - 1) : Nat) : Int) - 1).toNat) = 2 ^ ((I 49 3).toNat - 1) - 1 by omega, pow_pred (by omega)] at hG
    have hlt : 2 ^ (I 49 3).toNat - 1 < 2 ^ (I 49 3).toNat := by have : 0 < 2 ^ (I 49 3).toNat := Nat.pow_pos (by decide); omega
    have hr9 : G9 ≠ -9223372036854775808 → _ := fun z => Bst_rg (by omega) hC.2.1 hlt hG z
    refine rch_run rfl (by decide) 5 (t' := (55, [some (vR 49), some (vI (bShl 1 ((J2 49 3) - 1))), some (vL G9), none], [vI (lCmp G9 (-9223372036854775808)), vR 49], MW b J2 M2)) (ps := []) rfl trivial ?_
    refine rch_br rfl (cd := lCmp G9 (-9223372036854775808) = 0) (t1 := (62, [some (vR 49), some (vI (bShl 1 ((J2 49 3) - 1))), some (vL G9), none], [vR 49], MW b J2 M2)) (t2 := (58, [some (vR 49), some (vI (bShl 1 ((J2 49 3) - 1))), some (vL G9), none], [vR 49], MW b J2 M2)) rfl (fun c55_2 => ?_) (fun c55_2 => ?_)
    · refine rch_run rfl (by decide) 4 (t' := (70, [some (vR 49), some (vI (bShl 1 ((J2 49 3) - 1))), some (vL G9), none], [vI 0], MW b (upI J2 49 0 0) M2)) (ps := [(0 : Int) = 0 ∨ (0 : Int) = 1]) rfl (by simp only [all_, i32, i64]; first | omega | (simp; done) | (simp; omega)) ?_
      refine rch_br rfl (cd := (0 : Int) = 0) (t1 := (78, [some (vR 49), some (vI (bShl 1 ((J2 49 3) - 1))), some (vL G9), none], [], MW b (upI J2 49 0 0) M2)) (t2 := (73, [some (vR 49), some (vI (bShl 1 ((J2 49 3) - 1))), some (vL G9), none], [], MW b (upI J2 49 0 0) M2)) rfl (fun _ => ?_) (fun c9 => absurd (by decide) c9)
      refine rch_ret rfl (rt := none) rfl trivial mw_c ?_
      exact ⟨_, M2, rfl, rfl, g2, Chs_no (by have := hC.1; omega) f2 hG (by unfold NV; omega)⟩
    · refine rch_run rfl (by decide) 5 (t' := (70, [some (vR 49), some (vI (bShl 1 ((J2 49 3) - 1))), some (vL G9), none], [vI 1], MW b (upI J2 49 0 1) M2)) (ps := [(1 : Int) = 0 ∨ (1 : Int) = 1]) rfl (by simp only [all_, i32, i64]; first | omega | (simp; done) | (simp; omega)) ?_
      refine rch_br rfl (cd := (1 : Int) = 0) (t1 := (78, [some (vR 49), some (vI (bShl 1 ((J2 49 3) - 1))), some (vL G9), none], [], MW b (upI J2 49 0 1) M2)) (t2 := (73, [some (vR 49), some (vI (bShl 1 ((J2 49 3) - 1))), some (vL G9), none], [], MW b (upI J2 49 0 1) M2)) rfl (fun c9 => absurd c9 (by decide)) (fun _ => ?_)
      refine rch_run rfl (by decide) 2 (t' := (75, [some (vR 49), some (vI (bShl 1 ((J2 49 3) - 1))), some (vL G9), none], [vL G9, vR 49], MW b (upI J2 49 0 1) M2)) (ps := []) rfl trivial ?_
      refine rch_call (h' := 1) (k' := 29) (as := [vR 49, vL G9]) (t1 := (78, [some (vR 49), some (vI (bShl 1 ((J2 49 3) - 1))), some (vL G9), none], [], MW b (upI J2 49 0 1) M2)) rfl rfl (k_readKey l E b (upI J2 49 0 1) M2 G9 (by rw [upI_ne (by omega), q49]; exact hC.1) (by have := hr9 (by omega); unfold i64; omega) (fun i hi => by rw [upI_ne (by omega), q49] at hi; rw [upI_ne (by omega), f2 51 i (by omega), I1c_f I 51 i (by omega)]; exact hC.2.2.2.1 i hi) (fun i j hi hj he => by rw [upI_ne (by omega), q49] at hi hj; rw [upI_ne (by omega), upI_ne (by omega), f2 51 i (by omega), f2 51 j (by omega), I1c_f I 51 i (by omega), I1c_f I 51 j (by omega)] at he; exact hC.2.2.2.2 i j hi hj he)) (by decide) mw_le ?_
      rintro rt9 w9 (⟨J3, rfl, rfl, hR⟩) _ _
      show Rch l E 4 24 _ _ _ _ (78, [some (vR 49), some (vI (bShl 1 ((J2 49 3) - 1))), some (vL G9), none], [], MW b J3 M2)
      refine rch_ret rfl (rt := none) rfl trivial mw_c ?_
      exact ⟨J3, M2, rfl, rfl, g2, Chs_yes hC (by have := hC.1; omega) f2 hG (by unfold NV; omega) hR⟩
  · refine rch_ret rfl (rt := none) rfl trivial mw_c ?_
    exact ⟨_, L, rfl, rfl, fun _ _ _ => rfl, Chs_0 (by have : (I1c I) 49 3 = I 49 3 := I1c_f I 49 3 (by omega); omega)⟩
