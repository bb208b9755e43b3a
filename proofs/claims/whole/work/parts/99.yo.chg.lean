-- PAIRS of changes
theorem kb_changes (l : Launch) (E : AX) (b : Bool) (I L : Nat → Nat → Int) (s : Int) (hP : POK (bkb b) I) (hG : GOK I) (hd : I 0 0 ≤ 100000) (h66 : 0 ≤ I 66 0 ∧ I 66 0 ≤ 60) : Con l E 7 85 [vR 0, vI s] (MW b I L) 0 0 (fun rt w => ((0 ≤ s ∧ s < 6) ∧ ∃ J M, LWR (bkb b) I L J M s ∧ rt = some (vI (J 70 0)) ∧ w = MW b J M) ∨ (¬ (0 ≤ s ∧ s < 6) ∧ rt = some (vI (-1)) ∧ w = MW b I L)) := by
  cases b
  · exact k_changes_f l E I L s hP hG hd h66
  · exact k_changes_t l E I L s hP hG hd h66
theorem kb_change (l : Launch) (E : AX) (b : Bool) (I L : Nat → Nat → Int) (s k q : Int) (hP : POK (bkb b) I) (hG : GOK I) (hd : I 0 0 ≤ 100000) (h66 : 0 ≤ I 66 0 ∧ I 66 0 ≤ 60) : Con l E 8 86 [vR 0, vI s, vI k, vI q] (MW b I L) 0 0 (fun rt w => ((0 ≤ s ∧ s < 6) ∧ ∃ J M, LWR (bkb b) I L J M s ∧ (0 ≤ k ∧ k < J 70 0) ∧ rt = some (vI (whC J k q)) ∧ w = MW b J M) ∨ ((0 ≤ s ∧ s < 6) ∧ ∃ J M, LWR (bkb b) I L J M s ∧ ¬ (0 ≤ k ∧ k < J 70 0) ∧ rt = some (vI (-1)) ∧ w = MW b J M) ∨ (¬ (0 ≤ s ∧ s < 6) ∧ rt = some (vI (-1)) ∧ w = MW b I L)) := by
  cases b
  · exact k_change_f l E I L s k q hP hG hd h66
  · exact k_change_t l E I L s k q hP hG hd h66
theorem kb_accept (l : Launch) (E : AX) (b : Bool) (I L : Nat → Nat → Int) (s k : Int) (hP : POK (bkb b) I) (hG : GOK I) (hd : I 0 0 ≤ 100000) (h66 : 0 ≤ I 66 0 ∧ I 66 0 ≤ 60) : Con l E 8 87 [vR 0, vI s, vI k] (MW b I L) 0 0 (fun rt w => ((0 ≤ s ∧ s < 6) ∧ ∃ J M, LWR (bkb b) I L J M s ∧ ((((0 ≤ k ∧ k < J 70 0) ∧ J 21 0 < 150) ∧ rt = some (vI 1) ∧ w = MW b (upI (upI (upI (upI (upI (upI (upI (upI J 0 1 0) 22 (J 21 0).toNat (J 71 k.toNat)) 23 (J 21 0).toNat (J 72 k.toNat)) 24 (J 21 0).toNat (J 73 k.toNat)) 25 (J 21 0).toNat (J 0 0)) 26 (J 21 0).toNat (J 0 0)) 27 (J 21 0).toNat 1) 21 0 ((J 21 0) + 1)) M) ∨ (¬ ((0 ≤ k ∧ k < J 70 0) ∧ J 21 0 < 150) ∧ rt = some (vI 0) ∧ w = MW b J M))) ∨ (¬ (0 ≤ s ∧ s < 6) ∧ rt = some (vI (0)) ∧ w = MW b I L)) := by
  cases b
  · exact k_accept_f l E I L s k hP hG hd h66
  · exact k_accept_t l E I L s k hP hG hd h66
theorem kb_refuse (l : Launch) (E : AX) (b : Bool) (I L : Nat → Nat → Int) (s k : Int) (hP : POK (bkb b) I) (hG : GOK I) (hd : I 0 0 ≤ 100000) (h66 : 0 ≤ I 66 0 ∧ I 66 0 ≤ 60) : Con l E 8 88 [vR 0, vI s, vI k] (MW b I L) 0 0 (fun rt w => ((0 ≤ s ∧ s < 6) ∧ ∃ J M, LWR (bkb b) I L J M s ∧ ((((0 ≤ k ∧ k < J 70 0) ∧ J 66 0 < 60) ∧ rt = some (vI 1) ∧ w = MW b (upI (upI (upI (upI J 67 (J 66 0).toNat (J 71 k.toNat)) 68 (J 66 0).toNat (J 72 k.toNat)) 69 (J 66 0).toNat (J 73 k.toNat)) 66 0 ((J 66 0) + 1)) M) ∨ (¬ ((0 ≤ k ∧ k < J 70 0) ∧ J 66 0 < 60) ∧ rt = some (vI 0) ∧ w = MW b J M))) ∨ (¬ (0 ≤ s ∧ s < 6) ∧ rt = some (vI (0)) ∧ w = MW b I L)) := by
  cases b
  · exact k_refuse_f l E I L s k hP hG hd h66
  · exact k_refuse_t l E I L s k hP hG hd h66
theorem pr_changes (l : Launch) (E : AX) (b : Bool) (I L : Nat → Nat → Int) (s : Int) (hI : Inv (bkb b) I) : Pair l E b I L 7 85 7 160 [vI s] := by
  have hbk := bk_b b
  refine con_imp (kb_changes l E b I L s (POK_of hI) (GOK_of hI) (by have := hI.1.2; omega) hI.2.2.2.2.2.2.1.2.1) ?_
  rintro rt w (⟨c, J, M, hl, e, h1⟩ | ⟨c, e, h1⟩)
  · have hJ := (lwr_inv hbk hI hl).1
    refine ⟨b, J, M, _, e, h1, con_imp (k_changesM l E b J M s (PMk_of hJ) (fun f f0 f5 => GMk_of hJ ⟨f0, f5⟩ (by have h9 := hJ.1; unfold A1 at h9; omega)) (by rw [← hJ.2.2.2.2.2.2.1.1]; exact hJ.2.2.2.2.2.2.1.2.1)) ?_⟩
    rintro rt w (⟨_, J2, M2, hk, e2, h2⟩ | ⟨c2, _⟩)
    · obtain ⟨_, hJ2, hw, _⟩ := wish_eq hbk hI hl hk c
      exact ⟨J2, M2, by rw [e2, hw.1], h2, hJ2⟩
    · exact absurd c c2
  · refine ⟨b, I, L, _, e, h1, con_imp (k_changesM l E b I L s (PMk_of hI) (fun f f0 f5 => GMk_of hI ⟨f0, f5⟩ (by have h9 := hI.1; unfold A1 at h9; omega)) (by rw [← hI.2.2.2.2.2.2.1.1]; exact hI.2.2.2.2.2.2.1.2.1)) ?_⟩
    rintro rt w (⟨c2, _⟩ | ⟨_, e2, h2⟩)
    · exact absurd c2 c
    · exact ⟨I, L, e2, h2, hI⟩
theorem pr_change (l : Launch) (E : AX) (b : Bool) (I L : Nat → Nat → Int) (s k q : Int) (hI : Inv (bkb b) I) : Pair l E b I L 8 86 8 162 [vI s, vI k, vI q] := by
  have hbk := bk_b b
  refine con_imp (kb_change l E b I L s k q (POK_of hI) (GOK_of hI) (by have := hI.1.2; omega) hI.2.2.2.2.2.2.1.2.1) ?_
  rintro rt w (⟨c, J, M, hl, ck, e, h1⟩ | ⟨c, J, M, hl, ck, e, h1⟩ | ⟨c, e, h1⟩)
  · have hJ := (lwr_inv hbk hI hl).1
    refine ⟨b, J, M, _, e, h1, con_imp (k_changeM l E b J M s k q (PMk_of hJ) (fun f f0 f5 => GMk_of hJ ⟨f0, f5⟩ (by have h9 := hJ.1; unfold A1 at h9; omega)) (by rw [← hJ.2.2.2.2.2.2.1.1]; exact hJ.2.2.2.2.2.2.1.2.1)) ?_⟩
    rintro rt w (⟨_, J2, M2, hk, ck2, e2, h2⟩ | ⟨_, J2, M2, hk, ck2, e2, h2⟩ | ⟨c2, _⟩)
    · obtain ⟨_, hJ2, hw, _⟩ := wish_eq hbk hI hl hk c
      have w2 := hw.2 k.toNat (by omega)
      exact ⟨J2, M2, by rw [e2]; unfold whC whM; rw [w2.1, w2.2.1, w2.2.2.1], h2, hJ2⟩
    · obtain ⟨_, hJ2, hw, _⟩ := wish_eq hbk hI hl hk c
      exact absurd ck.2 (by rw [hw.1]; exact ck2)
    · exact absurd ⟨c, ck.1⟩ c2
  · have hJ := (lwr_inv hbk hI hl).1
    refine ⟨b, J, M, _, e, h1, con_imp (k_changeM l E b J M s k q (PMk_of hJ) (fun f f0 f5 => GMk_of hJ ⟨f0, f5⟩ (by have h9 := hJ.1; unfold A1 at h9; omega)) (by rw [← hJ.2.2.2.2.2.2.1.1]; exact hJ.2.2.2.2.2.2.1.2.1)) ?_⟩
    rintro rt w (⟨c3, J2, M2, hk, ck2, e2, h2⟩ | ⟨_, J2, M2, hk, ck2, e2, h2⟩ | ⟨c2, e2, h2⟩)
    · obtain ⟨_, hJ2, hw, _⟩ := wish_eq hbk hI hl hk c
      exact absurd ⟨c3.2, by rw [hw.1]; exact ck2⟩ ck
    · obtain ⟨_, hJ2, hw, _⟩ := wish_eq hbk hI hl hk c
      exact ⟨J2, M2, e2, h2, hJ2⟩
    · exact ⟨J, M, e2, h2, hJ⟩
  · refine ⟨b, I, L, _, e, h1, con_imp (k_changeM l E b I L s k q (PMk_of hI) (fun f f0 f5 => GMk_of hI ⟨f0, f5⟩ (by have h9 := hI.1; unfold A1 at h9; omega)) (by rw [← hI.2.2.2.2.2.2.1.1]; exact hI.2.2.2.2.2.2.1.2.1)) ?_⟩
    rintro rt w (⟨c2, _⟩ | ⟨c2, _⟩ | ⟨_, e2, h2⟩)
    · exact absurd c2.1 c
    · exact absurd c2.1 c
    · exact ⟨I, L, e2, h2, hI⟩
