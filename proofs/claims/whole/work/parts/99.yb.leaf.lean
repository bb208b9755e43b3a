theorem wdq_2 {B : Nat → Int} {n a i : Nat} (h : wdq B n a i = true) : tK B n a = 2 := (of_decide_eq_true h).1
theorem k_told (l : Launch) (E : AX) (b : Bool) (I L J M : Nat → Nat → Int) {s : Pst} {W : Option (List Int)} (lo hi : Int) (h0 : Mp0 I) (hs : MSt I L J M s W) : Con l E 4 129 [vR 74, vI lo, vI hi] (MW b J M) 0 0 (fun rt w => (pNum (I 97) (nM I) s.1 lo hi = none ∧ ∃ J2 M2, rt = some (vI (tV (I 97) (nM I) s.1)) ∧ w = MW b J2 M2 ∧ MSt I L J2 M2 (tN (I 97) (nM I) s.1, s.2) W) ∨ (∃ J2 M2 f x, pNum (I 97) (nM I) s.1 lo hi = some f ∧ rt = some (vI x) ∧ w = MW b J2 M2 ∧ FlM I L J2 M2 f)) := by
  refine con_ok (fun hw9 hs9 => ?_)
  refine con_intro (by decide) (Nat.le_of_ble_eq_true rfl) ?_
  have hk3 := (sr_1 (tK (I 97) (nM I) s.1)).2.2.1
  obtain ⟨r1, r2, hz, r4, r5, r6, r7⟩ := MSt_r h0 hs
  have hv := hs.2.1.2.2.2.1
  rw [← r7] at hk3
  show Rch l E 4 129 _ _ _ _ (0, [some (vR 74), some (vI lo), some (vI hi), none], [], MW b J M)
  refine rch_run cdK129 (by decide) 3 (t' := (5, [some (vR 74), some (vI lo), some (vI hi), none], [vI 2, vI (J 74 35)], MW b J M)) (ps := []) rfl trivial ?_
  refine rch_br cdK129 (cd := J 74 35 = (2 : Int)) (t1 := (16, [some (vR 74), some (vI lo), some (vI hi), none], [], MW b J M)) (t2 := (8, [some (vR 74), some (vI lo), some (vI hi), none], [], MW b J M)) rfl (fun c5_1 => ?_) (fun c5_1 => ?_)
  · refine rch_run cdK129 (by decide) 3 (t' := (21, [some (vR 74), some (vI lo), some (vI hi), none], [vI lo, vI (J 74 37)], MW b J M)) (ps := []) rfl trivial ?_
    refine rch_br cdK129 (cd := J 74 37 < lo) (t1 := (32, [some (vR 74), some (vI lo), some (vI hi), none], [], MW b J M)) (t2 := (24, [some (vR 74), some (vI lo), some (vI hi), none], [], MW b J M)) rfl (fun c21_2 => ?_) (fun c21_2 => ?_)
    · refine rch_run cdK129 (by decide) 2 (t' := (34, [some (vR 74), some (vI lo), some (vI hi), none], [vI 3, vR 74], MW b J M)) (ps := []) rfl trivial ?_
      refine rch_call (h' := 1) (k' := 126) (as := [vR 74, vI 3]) (t1 := (37, [some (vR 74), some (vI lo), some (vI hi), none], [], MW b J M)) cdK129 rfl (k_wrg l E b I L J M 3 (by omega) h0 hs) (by decide) mw_le ?_
      rintro rt9 w9 (⟨J132, rfl, rfl, hf⟩) _ _
      show Rch l E 4 129 _ _ _ _ (37, [some (vR 74), some (vI lo), some (vI hi), none], [], MW b J132 M)
      have hf1 := hf.2.2.1
      have hf2 := hf.2.2.2.2
      refine rch_run cdK129 (by decide) 5 (t' := (46, [some (vR 74), some (vI lo), some (vI hi), some (vI (J132 74 37))], [vI (J132 74 31)], MW b J132 M)) (ps := []) rfl trivial ?_
      refine rch_br cdK129 (cd := J132 74 31 ≠ 0) (t1 := (53, [some (vR 74), some (vI lo), some (vI hi), some (vI (J132 74 37))], [], MW b J132 M)) (t2 := (49, [some (vR 74), some (vI lo), some (vI hi), some (vI (J132 74 37))], [], MW b J132 M)) rfl (fun c46_3 => ?_) (fun c9 => by exfalso; omega)
      refine rch_run cdK129 (by decide) 1 (t' := (54, [some (vR 74), some (vI lo), some (vI hi), some (vI (J132 74 37))], [vI (J132 74 37)], MW b J132 M)) (ps := []) rfl trivial ?_
      refine rch_ret cdK129 (rt := some (vI (J132 74 37))) rfl trivial mw_c ?_
      first | exact Or.inr ⟨_, _, _, _, (show pNum (I 97) (nM I) s.1 lo hi = some (flt (I 97) (nM I) s.1 2) by unfold pNum; rw [if_pos (by omega)]), rfl, rfl, hf⟩ | (have := hv (by omega); exact Or.inr ⟨_, _, _, _, (show pNum (I 97) (nM I) s.1 lo hi = some (flt (I 97) (nM I) s.1 3) by unfold pNum; rw [if_neg (by omega), if_pos (by omega)]), rfl, rfl, hf⟩)
    · refine rch_run cdK129 (by decide) 3 (t' := (29, [some (vR 74), some (vI lo), some (vI hi), none], [vI hi, vI (J 74 37)], MW b J M)) (ps := []) rfl trivial ?_
      refine rch_br cdK129 (cd := J 74 37 ≤ hi) (t1 := (37, [some (vR 74), some (vI lo), some (vI hi), none], [], MW b J M)) (t2 := (32, [some (vR 74), some (vI lo), some (vI hi), none], [], MW b J M)) rfl (fun c29_4 => ?_) (fun c29_4 => ?_)
      · refine rch_run cdK129 (by decide) 5 (t' := (46, [some (vR 74), some (vI lo), some (vI hi), some (vI (J 74 37))], [vI (J 74 31)], MW b J M)) (ps := []) rfl trivial ?_
        refine rch_br cdK129 (cd := J 74 31 ≠ 0) (t1 := (53, [some (vR 74), some (vI lo), some (vI hi), some (vI (J 74 37))], [], MW b J M)) (t2 := (49, [some (vR 74), some (vI lo), some (vI hi), some (vI (J 74 37))], [], MW b J M)) rfl (fun c9 => by exfalso; omega) (fun c46_5 => ?_)
        refine rch_run cdK129 (by decide) 1 (t' := (50, [some (vR 74), some (vI lo), some (vI hi), some (vI (J 74 37))], [vR 74], MW b J M)) (ps := []) rfl trivial ?_
        refine rch_call (h' := 3) (k' := 125) (as := [vR 74]) (t1 := (53, [some (vR 74), some (vI lo), some (vI hi), some (vI (J 74 37))], [], MW b J M)) cdK129 rfl (k_nxt l E b I L J M h0 hs (by omega)) (by decide) mw_le ?_
        rintro rt9 w9 (⟨J133, M133, rfl, rfl, hs⟩) _ _
        show Rch l E 4 129 _ _ _ _ (53, [some (vR 74), some (vI lo), some (vI hi), some (vI (J 74 37))], [], MW b J133 M133)
        have hz := (MSt_r h0 hs).2.2.1
        refine rch_run cdK129 (by decide) 1 (t' := (54, [some (vR 74), some (vI lo), some (vI hi), some (vI (J 74 37))], [vI (J 74 37)], MW b J133 M133)) (ps := []) rfl trivial ?_
        refine rch_ret cdK129 (rt := some (vI (J 74 37))) rfl trivial mw_c ?_
        have hv1 := hv (by omega)
        exact Or.inl ⟨by unfold pNum; rw [if_neg (by omega), if_neg (by omega)], _, _, (by rw [hv1]), rfl, hs⟩
      · refine rch_run cdK129 (by decide) 2 (t' := (34, [some (vR 74), some (vI lo), some (vI hi), none], [vI 3, vR 74], MW b J M)) (ps := []) rfl trivial ?_
        refine rch_call (h' := 1) (k' := 126) (as := [vR 74, vI 3]) (t1 := (37, [some (vR 74), some (vI lo), some (vI hi), none], [], MW b J M)) cdK129 rfl (k_wrg l E b I L J M 3 (by omega) h0 hs) (by decide) mw_le ?_
        rintro rt9 w9 (⟨J134, rfl, rfl, hf⟩) _ _
        show Rch l E 4 129 _ _ _ _ (37, [some (vR 74), some (vI lo), some (vI hi), none], [], MW b J134 M)
        have hf1 := hf.2.2.1
        have hf2 := hf.2.2.2.2
        refine rch_run cdK129 (by decide) 5 (t' := (46, [some (vR 74), some (vI lo), some (vI hi), some (vI (J134 74 37))], [vI (J134 74 31)], MW b J134 M)) (ps := []) rfl trivial ?_
        refine rch_br cdK129 (cd := J134 74 31 ≠ 0) (t1 := (53, [some (vR 74), some (vI lo), some (vI hi), some (vI (J134 74 37))], [], MW b J134 M)) (t2 := (49, [some (vR 74), some (vI lo), some (vI hi), some (vI (J134 74 37))], [], MW b J134 M)) rfl (fun c46_6 => ?_) (fun c9 => by exfalso; omega)
        refine rch_run cdK129 (by decide) 1 (t' := (54, [some (vR 74), some (vI lo), some (vI hi), some (vI (J134 74 37))], [vI (J134 74 37)], MW b J134 M)) (ps := []) rfl trivial ?_
        refine rch_ret cdK129 (rt := some (vI (J134 74 37))) rfl trivial mw_c ?_
        first | exact Or.inr ⟨_, _, _, _, (show pNum (I 97) (nM I) s.1 lo hi = some (flt (I 97) (nM I) s.1 2) by unfold pNum; rw [if_pos (by omega)]), rfl, rfl, hf⟩ | (have := hv (by omega); exact Or.inr ⟨_, _, _, _, (show pNum (I 97) (nM I) s.1 lo hi = some (flt (I 97) (nM I) s.1 3) by unfold pNum; rw [if_neg (by omega), if_pos (by omega)]), rfl, rfl, hf⟩)
  · refine rch_run cdK129 (by decide) 2 (t' := (10, [some (vR 74), some (vI lo), some (vI hi), none], [vI 2, vR 74], MW b J M)) (ps := []) rfl trivial ?_
    refine rch_call (h' := 1) (k' := 126) (as := [vR 74, vI 2]) (t1 := (13, [some (vR 74), some (vI lo), some (vI hi), none], [], MW b J M)) cdK129 rfl (k_wrg l E b I L J M 2 (by omega) h0 hs) (by decide) mw_le ?_
    rintro rt9 w9 (⟨J135, rfl, rfl, hf⟩) _ _
    show Rch l E 4 129 _ _ _ _ (13, [some (vR 74), some (vI lo), some (vI hi), none], [], MW b J135 M)
    have hf1 := hf.2.2.1
    have hf2 := hf.2.2.2.2
    refine rch_run cdK129 (by decide) 6 (t' := (46, [some (vR 74), some (vI lo), some (vI hi), some (vI (J135 74 37))], [vI (J135 74 31)], MW b J135 M)) (ps := []) rfl trivial ?_
    refine rch_br cdK129 (cd := J135 74 31 ≠ 0) (t1 := (53, [some (vR 74), some (vI lo), some (vI hi), some (vI (J135 74 37))], [], MW b J135 M)) (t2 := (49, [some (vR 74), some (vI lo), some (vI hi), some (vI (J135 74 37))], [], MW b J135 M)) rfl (fun c46_7 => ?_) (fun c9 => by exfalso; omega)
    refine rch_run cdK129 (by decide) 1 (t' := (54, [some (vR 74), some (vI lo), some (vI hi), some (vI (J135 74 37))], [vI (J135 74 37)], MW b J135 M)) (ps := []) rfl trivial ?_
    refine rch_ret cdK129 (rt := some (vI (J135 74 37))) rfl trivial mw_c ?_
    first | exact Or.inr ⟨_, _, _, _, (show pNum (I 97) (nM I) s.1 lo hi = some (flt (I 97) (nM I) s.1 2) by unfold pNum; rw [if_pos (by omega)]), rfl, rfl, hf⟩ | (have := hv (by omega); exact Or.inr ⟨_, _, _, _, (show pNum (I 97) (nM I) s.1 lo hi = some (flt (I 97) (nM I) s.1 3) by unfold pNum; rw [if_neg (by omega), if_pos (by omega)]), rfl, rfl, hf⟩)

theorem dpw_rg : ∀ W : List Int, 0 ≤ dpw W ∧ dpw W ≤ (W.length : Int)
  | [] => ⟨Int.le_refl _, Int.le_refl _⟩
  | c :: W => by
    have ih := dpw_rg W
    show 0 ≤ (if c = 5 ∨ c = 8 then 1 else 0) + dpw W ∧ (if c = 5 ∨ c = 8 then 1 else 0) + dpw W ≤ ((W.length + 1 : Nat) : Int)
    split <;> omega
theorem k_hold (l : Launch) (E : AX) (b : Bool) (I L J M : Nat → Nat → Int) {s : Pst} {W : List Int} (c : Int) (hs : MSt I L J M s (some W)) (hW : W.length ≤ 99) : Con l E 1 130 [vR 74, vI c] (MW b J M) 0 0 (fun rt w => ∃ J2, rt = none ∧ w = MW b J2 M ∧ MSt I L J2 M s (some (c :: W))) := by
  refine con_ok (fun hw9 hs9 => ?_)
  refine con_intro (by decide) (Nat.le_of_ble_eq_true rfl) ?_
  have hw : J 74 40 = (W.length : Int) := hs.2.2.2.2.2.1.1
  have hd : J 74 41 = dpw W := hs.2.2.2.2.2.2
  have hd2 := dpw_rg W
  show Rch l E 1 130 _ _ _ _ (0, [some (vR 74), some (vI c)], [], MW b J M)
  refine rch_run cdK130 (by decide) 14 (t' := (23, [some (vR 74), some (vI c)], [vI 8, vI c], MW b (upI (upI J 98 (J 74 40).toNat c) 74 40 ((J 74 40) + 1)) M)) (ps := [0 ≤ J 74 40 ∧ J 74 40 < ((300 : Nat) : Int), i32 ((J 74 40) + 1)]) rfl (by simp only [all_, i32, i64]; first | omega | (simp; done) | (simp; omega)) ?_
  refine rch_br cdK130 (cd := c = (8 : Int)) (t1 := (31, [some (vR 74), some (vI c)], [], MW b (upI (upI J 98 (J 74 40).toNat c) 74 40 ((J 74 40) + 1)) M)) (t2 := (26, [some (vR 74), some (vI c)], [], MW b (upI (upI J 98 (J 74 40).toNat c) 74 40 ((J 74 40) + 1)) M)) rfl (fun c23_1 => ?_) (fun c23_1 => ?_)
  · refine rch_run cdK130 (by decide) 6 (t' := (41, [some (vR 74), some (vI c)], [], MW b (upI (upI (upI J 98 (J 74 40).toNat c) 74 40 ((J 74 40) + 1)) 74 41 ((J 74 41) + 1)) M)) (ps := [i32 ((J 74 41) + 1)]) rfl (by simp only [all_, i32, i64]; first | omega | (simp; done) | (simp; omega)) ?_
    refine rch_ret cdK130 (rt := none) rfl trivial mw_c ?_
    first | exact ⟨_, rfl, rfl, MSt_hold hs hW (fun a j ha => by rw [upI_ne (by omega), upI_ne (by omega), upI_ne (by omega)]) (by rw [upI_ne (by omega), upI_ne (by omega), upI_eq rfl (by omega)]) (by rw [upI_ne (by omega), upI_eq rfl rfl]) (by rw [upI_eq rfl rfl, if_pos (by omega)]; omega)⟩ | exact ⟨_, rfl, rfl, MSt_hold hs hW (fun a j ha => by rw [upI_ne (by omega), upI_ne (by omega)]) (by rw [upI_ne (by omega), upI_eq rfl (by omega)]) (by rw [upI_eq rfl rfl]) (by rw [upI_ne (by omega), upI_ne (by omega), if_neg (by omega)]; omega)⟩
  · refine rch_run cdK130 (by decide) 2 (t' := (28, [some (vR 74), some (vI c)], [vI 5, vI c], MW b (upI (upI J 98 (J 74 40).toNat c) 74 40 ((J 74 40) + 1)) M)) (ps := []) rfl trivial ?_
    refine rch_br cdK130 (cd := c ≠ (5 : Int)) (t1 := (41, [some (vR 74), some (vI c)], [], MW b (upI (upI J 98 (J 74 40).toNat c) 74 40 ((J 74 40) + 1)) M)) (t2 := (31, [some (vR 74), some (vI c)], [], MW b (upI (upI J 98 (J 74 40).toNat c) 74 40 ((J 74 40) + 1)) M)) rfl (fun c28_2 => ?_) (fun c28_2 => ?_)
    · refine rch_ret cdK130 (rt := none) rfl trivial mw_c ?_
      first | exact ⟨_, rfl, rfl, MSt_hold hs hW (fun a j ha => by rw [upI_ne (by omega), upI_ne (by omega), upI_ne (by omega)]) (by rw [upI_ne (by omega), upI_ne (by omega), upI_eq rfl (by omega)]) (by rw [upI_ne (by omega), upI_eq rfl rfl]) (by rw [upI_eq rfl rfl, if_pos (by omega)]; omega)⟩ | exact ⟨_, rfl, rfl, MSt_hold hs hW (fun a j ha => by rw [upI_ne (by omega), upI_ne (by omega)]) (by rw [upI_ne (by omega), upI_eq rfl (by omega)]) (by rw [upI_eq rfl rfl]) (by rw [upI_ne (by omega), upI_ne (by omega), if_neg (by omega)]; omega)⟩
    · refine rch_run cdK130 (by decide) 6 (t' := (41, [some (vR 74), some (vI c)], [], MW b (upI (upI (upI J 98 (J 74 40).toNat c) 74 40 ((J 74 40) + 1)) 74 41 ((J 74 41) + 1)) M)) (ps := [i32 ((J 74 41) + 1)]) rfl (by simp only [all_, i32, i64]; first | omega | (simp; done) | (simp; omega)) ?_
      refine rch_ret cdK130 (rt := none) rfl trivial mw_c ?_
      first | exact ⟨_, rfl, rfl, MSt_hold hs hW (fun a j ha => by rw [upI_ne (by omega), upI_ne (by omega), upI_ne (by omega)]) (by rw [upI_ne (by omega), upI_ne (by omega), upI_eq rfl (by omega)]) (by rw [upI_ne (by omega), upI_eq rfl rfl]) (by rw [upI_eq rfl rfl, if_pos (by omega)]; omega)⟩ | exact ⟨_, rfl, rfl, MSt_hold hs hW (fun a j ha => by rw [upI_ne (by omega), upI_ne (by omega)]) (by rw [upI_ne (by omega), upI_eq rfl (by omega)]) (by rw [upI_eq rfl rfl]) (by rw [upI_ne (by omega), upI_ne (by omega), if_neg (by omega)]; omega)⟩

theorem top_c {J : Nat → Nat → Int} {c : Int} {W : List Int} (h : Wts J (c :: W)) : J 98 ((J 74 40) - 1).toNat = c := by
  have h1 := h.1
  have h2 := h.2.2 0 (by rw [List.length_cons]; omega)
  rw [List.length_cons] at h1 h2
  rw [show ((J 74 40) - 1).toNat = W.length + 1 - 1 - 0 by omega]
  exact h2
theorem k_pop (l : Launch) (E : AX) (b : Bool) (I L J M : Nat → Nat → Int) {s : Pst} {W : List Int} {c : Int} (hs : MSt I L J M s (some (c :: W))) (hc : c ≠ 8) (hb : s.2.2.length < 500) : Con l E 2 131 [vR 74] (MW b J M) 0 0 (fun rt w => ∃ J2, rt = none ∧ w = MW b J2 M ∧ MSt I L J2 M (psh s c) (some W)) := by
  refine con_ok (fun hw9 hs9 => ?_)
  refine con_intro (by decide) (Nat.le_of_ble_eq_true rfl) ?_
  have hw : J 74 40 = ((W.length + 1 : Nat) : Int) := hs.2.2.2.2.2.1.1
  have hwl : W.length + 1 ≤ 100 := hs.2.2.2.2.2.1.2.1
  have hd : J 74 41 = (if c = 5 ∨ c = 8 then 1 else 0) + dpw W := hs.2.2.2.2.2.2
  have hd2 := dpw_rg W
  have hx := top_c hs.2.2.2.2.2.1
  have hd3 : 0 ≤ J 74 41 ∧ J 74 41 ≤ 101 := by rw [hd]; split <;> omega
  have hd4 : c = 5 → 1 ≤ J 74 41 := fun z => by rw [hd, if_pos (by omega)]; omega
  show Rch l E 2 131 _ _ _ _ (0, [some (vR 74)], [], MW b J M)
  refine rch_run cdK131 (by decide) 12 (t' := (20, [some (vR 74)], [vI 5, vI (J 98 ((J 74 40) - 1).toNat)], MW b (upI J 74 40 ((J 74 40) - 1)) M)) (ps := [i32 ((J 74 40) - 1), 0 ≤ (J 74 40) - 1 ∧ (J 74 40) - 1 < ((300 : Nat) : Int)]) rfl (by simp only [all_, i32, i64]; first | omega | (simp; done) | (simp; omega)) ?_
  refine rch_br cdK131 (cd := J 98 ((J 74 40) - 1).toNat ≠ (5 : Int)) (t1 := (33, [some (vR 74)], [], MW b (upI J 74 40 ((J 74 40) - 1)) M)) (t2 := (23, [some (vR 74)], [], MW b (upI J 74 40 ((J 74 40) - 1)) M)) rfl (fun c20_1 => ?_) (fun c20_1 => ?_)
  · refine rch_run cdK131 (by decide) 8 (t' := (45, [some (vR 74)], [vI 0, vI 0, vI (J 98 ((J 74 40) - 1).toNat), vR 74], MW b (upI J 74 40 ((J 74 40) - 1)) M)) (ps := [0 ≤ (J 74 40) - 1 ∧ (J 74 40) - 1 < ((300 : Nat) : Int)]) rfl (by simp only [all_, i32, i64]; first | omega | (simp; done) | (simp; omega)) ?_
    have hs := MSt_drop (J2 := (upI J 74 40 ((J 74 40) - 1))) hs (fun a j ha => by rw [upI_ne (by omega)]) (by rw [upI_eq rfl rfl]) (by rw [upI_ne (by omega), if_neg (by omega)]; omega)
    refine rch_call (h' := 1) (k' := 128) (as := [vR 74, vI (J 98 ((J 74 40) - 1).toNat), vI 0, vI 0]) (t1 := (48, [some (vR 74)], [], MW b (upI J 74 40 ((J 74 40) - 1)) M)) cdK131 rfl (k_stM l E b I L (upI J 74 40 ((J 74 40) - 1)) M hs rfl rfl hb) (by decide) mw_le ?_
    rintro rt9 w9 (⟨J136, rfl, rfl, hs⟩) _ _
    show Rch l E 2 131 _ _ _ _ (48, [some (vR 74)], [], MW b J136 M)
    refine rch_ret cdK131 (rt := none) rfl trivial mw_c ?_
    exact ⟨_, rfl, rfl, by unfold psh; rw [← hx]; exact hs⟩
  · refine rch_run cdK131 (by decide) 14 (t' := (45, [some (vR 74)], [vI 0, vI 0, vI (J 98 ((J 74 40) - 1).toNat), vR 74], MW b (upI (upI J 74 40 ((J 74 40) - 1)) 74 41 ((J 74 41) - 1)) M)) (ps := [i32 ((J 74 41) - 1), 0 ≤ (J 74 40) - 1 ∧ (J 74 40) - 1 < ((300 : Nat) : Int)]) rfl (by simp only [all_, i32, i64]; first | omega | (simp; done) | (simp; omega)) ?_
    have hs := MSt_drop (J2 := (upI (upI J 74 40 ((J 74 40) - 1)) 74 41 ((J 74 41) - 1))) hs (fun a j ha => by rw [upI_ne (by omega), upI_ne (by omega)]) (by rw [upI_ne (by omega), upI_eq rfl rfl]) (by rw [upI_eq rfl rfl, if_pos (by omega)])
    refine rch_call (h' := 1) (k' := 128) (as := [vR 74, vI (J 98 ((J 74 40) - 1).toNat), vI 0, vI 0]) (t1 := (48, [some (vR 74)], [], MW b (upI (upI J 74 40 ((J 74 40) - 1)) 74 41 ((J 74 41) - 1)) M)) cdK131 rfl (k_stM l E b I L (upI (upI J 74 40 ((J 74 40) - 1)) 74 41 ((J 74 41) - 1)) M hs rfl rfl hb) (by decide) mw_le ?_
    rintro rt9 w9 (⟨J137, rfl, rfl, hs⟩) _ _
    show Rch l E 2 131 _ _ _ _ (48, [some (vR 74)], [], MW b J137 M)
    refine rch_ret cdK131 (rt := none) rfl trivial mw_c ?_
    exact ⟨_, rfl, rfl, by unfold psh; rw [← hx]; exact hs⟩

def stpc (an c : Int) : Prop := c = 8 ∨ (an ≠ 0 ∧ c = 6)
def flush (X : List Int) (s : Pst) : Pst := X.foldl psh s
theorem flush_c (c : Int) (X : List Int) (s : Pst) : flush (c :: X) s = flush X (psh s c) := rfl
theorem flush_a (X Y : List Int) (s : Pst) : flush (X ++ Y) s = flush Y (flush X s) := List.foldl_append
theorem flush_l : ∀ (X : List Int) (s : Pst), (flush X s).1 = s.1 ∧ (flush X s).2.1 = s.2.1 ∧ (flush X s).2.2.length = s.2.2.length + X.length
  | [], s => ⟨rfl, rfl, rfl⟩
  | c :: X, s => by
    have ih := flush_l X (psh s c)
    have hp := psh_l s c
    rw [flush_c]
    exact ⟨ih.1.trans hp.1, ih.2.1.trans hp.2.1, by rw [ih.2.2, hp.2.2, List.length_cons]; omega⟩
theorem top_h {J : Nat → Nat → Int} {W : List Int} (h : Wts J W) (h1 : 0 < W.length) : J 98 ((J 74 40) - 1).toNat = W.headD 8 := by
  cases W with
  | nil => exact absurd h1 (by simp)
  | cons c W => exact top_c h
theorem st_pop {an : Int} {X Z : List Int} (hZ : stpc an (Z.headD 8)) (h : ¬ stpc an ((X ++ Z).headD 8)) : ∃ c X2, X = c :: X2 := by
  cases X with
  | nil => exact absurd hZ h
  | cons c X => exact ⟨c, X, rfl⟩
theorem st_end {an : Int} {X Z : List Int} (hX : ∀ c ∈ X, ¬ stpc an c) (h : stpc an ((X ++ Z).headD 8)) : X = [] := by
  cases X with
  | nil => rfl
  | cons c X => exact absurd h (hX c List.mem_cons_self)
theorem lp_settle (l : Launch) (E : AX) (b : Bool) (I L M : Nat → Nat → Int) (an : Int) (sT : Pst) (Z : List Int) (hZ : stpc an (Z.headD 8)) (J0 : Nat → Nat → Int) : ∀ (n9 : Nat) (zz : Int) (J : Nat → Nat → Int) (s : Pst) (X : List Int), MSt I L J M s (some (X ++ Z)) → (∀ c ∈ X, ¬ stpc an c) → flush X s = sT → s.2.2.length + X.length ≤ 500 → (X.length : Int) < (n9 : Int) → Rch l E 3 132 (MW b J0 M) 0 0 (fun rt w => ∃ J2, rt = none ∧ w = MW b J2 M ∧ MSt I L J2 M sT (some Z)) (2, [some (vR 74), some (vI an), some (vI 1), none], [], MW b J M) := by
  intro n9
  induction n9 with
  | zero =>
    intro zz J s X h1 h2 h3 h4 hm
    exfalso; omega
  | succ n9 ih =>
    intro zz J s X h1 h2 h3 h4 hm
    have hw : J 74 40 = ((X ++ Z).length : Int) := h1.2.2.2.2.2.1.1
    have hwl : (X ++ Z).length ≤ 100 := h1.2.2.2.2.2.1.2.1
    have ht := top_h h1.2.2.2.2.2.1
    have ht0 : (X ++ Z).length = 0 → (X ++ Z).headD 8 = 8 := fun z => by rw [List.eq_nil_of_length_eq_zero z]; rfl
    refine rch_run cdK132 (by decide) 1 (t' := (3, [some (vR 74), some (vI an), some (vI 1), none], [vI 1], MW b J M)) (ps := []) rfl trivial ?_
    refine rch_br cdK132 (cd := (1 : Int) = 0) (t1 := (63, [some (vR 74), some (vI an), some (vI 1), none], [], MW b J M)) (t2 := (6, [some (vR 74), some (vI an), some (vI 1), none], [], MW b J M)) rfl (fun c9 => absurd c9 (by decide)) (fun _ => ?_)
    refine rch_run cdK132 (by decide) 2 (t' := (10, [some (vR 74), some (vI an), some (vI 1), none], [vI (J 74 40)], MW b J M)) (ps := []) rfl trivial ?_
    refine rch_br cdK132 (cd := J 74 40 ≠ 0) (t1 := (18, [some (vR 74), some (vI an), some (vI 1), none], [], MW b J M)) (t2 := (13, [some (vR 74), some (vI an), some (vI 1), none], [], MW b J M)) rfl (fun c10_2 => ?_) (fun c10_2 => ?_)
    · refine rch_run cdK132 (by decide) 10 (t' := (33, [some (vR 74), some (vI an), some (vI 1), some (vI (J 98 ((J 74 40) - 1).toNat))], [vI 8, vI (J 98 ((J 74 40) - 1).toNat)], MW b J M)) (ps := [i32 ((J 74 40) - 1), 0 ≤ (J 74 40) - 1 ∧ (J 74 40) - 1 < ((300 : Nat) : Int)]) rfl (by simp only [all_, i32, i64]; first | omega | (simp; done) | (simp; omega)) ?_
      refine rch_br cdK132 (cd := J 98 ((J 74 40) - 1).toNat = (8 : Int)) (t1 := (50, [some (vR 74), some (vI an), some (vI 1), some (vI (J 98 ((J 74 40) - 1).toNat))], [], MW b J M)) (t2 := (36, [some (vR 74), some (vI an), some (vI 1), some (vI (J 98 ((J 74 40) - 1).toNat))], [], MW b J M)) rfl (fun c33_3 => ?_) (fun c33_3 => ?_)
      · refine rch_run cdK132 (by decide) 3 (t' := (53, [some (vR 74), some (vI an), some (vI 0), some (vI (J 98 ((J 74 40) - 1).toNat))], [vI 0], MW b J M)) (ps := []) rfl trivial ?_
        refine rch_br cdK132 (cd := (0 : Int) = 0) (t1 := (60, [some (vR 74), some (vI an), some (vI 0), some (vI (J 98 ((J 74 40) - 1).toNat))], [], MW b J M)) (t2 := (56, [some (vR 74), some (vI an), some (vI 0), some (vI (J 98 ((J 74 40) - 1).toNat))], [], MW b J M)) rfl (fun _ => ?_) (fun c9 => absurd (by decide) c9)
        refine rch_run cdK132 (by decide) 1 (t' := (2, [some (vR 74), some (vI an), some (vI 0), some (vI (J 98 ((J 74 40) - 1).toNat))], [], MW b J M)) (ps := []) rfl trivial ?_
        refine rch_run cdK132 (by decide) 1 (t' := (3, [some (vR 74), some (vI an), some (vI 0), some (vI (J 98 ((J 74 40) - 1).toNat))], [vI 0], MW b J M)) (ps := []) rfl trivial ?_
        refine rch_br cdK132 (cd := (0 : Int) = 0) (t1 := (63, [some (vR 74), some (vI an), some (vI 0), some (vI (J 98 ((J 74 40) - 1).toNat))], [], MW b J M)) (t2 := (6, [some (vR 74), some (vI an), some (vI 0), some (vI (J 98 ((J 74 40) - 1).toNat))], [], MW b J M)) rfl (fun _ => ?_) (fun c9 => absurd (by decide) c9)
        refine rch_ret cdK132 (rt := none) rfl trivial mw_c ?_
        have hst : stpc an ((X ++ Z).headD 8) := by unfold stpc; first | (rw [ht0 (by omega)]; exact Or.inl rfl) | (have ht9 := ht (by omega); omega)
        have hX0 := st_end h2 hst
        subst hX0
        exact ⟨_, rfl, rfl, by rw [← h3]; exact h1⟩
      · refine rch_run cdK132 (by decide) 1 (t' := (37, [some (vR 74), some (vI an), some (vI 1), some (vI (J 98 ((J 74 40) - 1).toNat))], [vI an], MW b J M)) (ps := []) rfl trivial ?_
        refine rch_br cdK132 (cd := an = 0) (t1 := (46, [some (vR 74), some (vI an), some (vI 1), some (vI (J 98 ((J 74 40) - 1).toNat))], [], MW b J M)) (t2 := (40, [some (vR 74), some (vI an), some (vI 1), some (vI (J 98 ((J 74 40) - 1).toNat))], [], MW b J M)) rfl (fun c37_5 => ?_) (fun c37_5 => ?_)
        · refine rch_run cdK132 (by decide) 4 (t' := (53, [some (vR 74), some (vI an), some (vI 1), some (vI (J 98 ((J 74 40) - 1).toNat))], [vI 1], MW b J M)) (ps := []) rfl trivial ?_
          refine rch_br cdK132 (cd := (1 : Int) = 0) (t1 := (60, [some (vR 74), some (vI an), some (vI 1), some (vI (J 98 ((J 74 40) - 1).toNat))], [], MW b J M)) (t2 := (56, [some (vR 74), some (vI an), some (vI 1), some (vI (J 98 ((J 74 40) - 1).toNat))], [], MW b J M)) rfl (fun c9 => absurd c9 (by decide)) (fun _ => ?_)
          refine rch_run cdK132 (by decide) 1 (t' := (57, [some (vR 74), some (vI an), some (vI 1), some (vI (J 98 ((J 74 40) - 1).toNat))], [vR 74], MW b J M)) (ps := []) rfl trivial ?_
          have hns : ¬ stpc an ((X ++ Z).headD 8) := by have ht9 := ht (by omega); unfold stpc; omega
          obtain ⟨c9, X9, rfl⟩ := st_pop hZ hns
          refine rch_call (h' := 2) (k' := 131) (as := [vR 74]) (t1 := (60, [some (vR 74), some (vI an), some (vI 1), some (vI (J 98 ((J 74 40) - 1).toNat))], [], MW b J M)) cdK132 rfl (k_pop l E b I L J M (W := X9 ++ Z) h1 (fun z => h2 c9 List.mem_cons_self (Or.inl z)) (by rw [List.length_cons] at h4; omega)) (by decide) mw_le ?_
          rintro rt9 w9 (⟨J138, rfl, rfl, hs⟩) _ _
          show Rch l E 3 132 _ _ _ _ (60, [some (vR 74), some (vI an), some (vI 1), some (vI (J 98 ((J 74 40) - 1).toNat))], [], MW b J138 M)
          refine rch_run cdK132 (by decide) 1 (t' := (2, [some (vR 74), some (vI an), some (vI 1), some (vI (J 98 ((J 74 40) - 1).toNat))], [], MW b J138 M)) (ps := []) rfl trivial ?_
          refine rch_forget [3] ?_
          exact ih 0 _ _ X9 hs (fun c hc => h2 c (List.mem_cons_of_mem _ hc)) (by rw [← h3, flush_c]) (by have := psh_l s c9; rw [List.length_cons] at h4; omega) (by rw [List.length_cons] at hm; omega)
        · refine rch_run cdK132 (by decide) 2 (t' := (43, [some (vR 74), some (vI an), some (vI 1), some (vI (J 98 ((J 74 40) - 1).toNat))], [vI 6, vI (J 98 ((J 74 40) - 1).toNat)], MW b J M)) (ps := []) rfl trivial ?_
          refine rch_br cdK132 (cd := J 98 ((J 74 40) - 1).toNat = (6 : Int)) (t1 := (50, [some (vR 74), some (vI an), some (vI 1), some (vI (J 98 ((J 74 40) - 1).toNat))], [], MW b J M)) (t2 := (46, [some (vR 74), some (vI an), some (vI 1), some (vI (J 98 ((J 74 40) - 1).toNat))], [], MW b J M)) rfl (fun c43_7 => ?_) (fun c43_7 => ?_)
          · refine rch_run cdK132 (by decide) 3 (t' := (53, [some (vR 74), some (vI an), some (vI 0), some (vI (J 98 ((J 74 40) - 1).toNat))], [vI 0], MW b J M)) (ps := []) rfl trivial ?_
            refine rch_br cdK132 (cd := (0 : Int) = 0) (t1 := (60, [some (vR 74), some (vI an), some (vI 0), some (vI (J 98 ((J 74 40) - 1).toNat))], [], MW b J M)) (t2 := (56, [some (vR 74), some (vI an), some (vI 0), some (vI (J 98 ((J 74 40) - 1).toNat))], [], MW b J M)) rfl (fun _ => ?_) (fun c9 => absurd (by decide) c9)
            refine rch_run cdK132 (by decide) 1 (t' := (2, [some (vR 74), some (vI an), some (vI 0), some (vI (J 98 ((J 74 40) - 1).toNat))], [], MW b J M)) (ps := []) rfl trivial ?_
            refine rch_run cdK132 (by decide) 1 (t' := (3, [some (vR 74), some (vI an), some (vI 0), some (vI (J 98 ((J 74 40) - 1).toNat))], [vI 0], MW b J M)) (ps := []) rfl trivial ?_
            refine rch_br cdK132 (cd := (0 : Int) = 0) (t1 := (63, [some (vR 74), some (vI an), some (vI 0), some (vI (J 98 ((J 74 40) - 1).toNat))], [], MW b J M)) (t2 := (6, [some (vR 74), some (vI an), some (vI 0), some (vI (J 98 ((J 74 40) - 1).toNat))], [], MW b J M)) rfl (fun _ => ?_) (fun c9 => absurd (by decide) c9)
            refine rch_ret cdK132 (rt := none) rfl trivial mw_c ?_
            have hst : stpc an ((X ++ Z).headD 8) := by unfold stpc; first | (rw [ht0 (by omega)]; exact Or.inl rfl) | (have ht9 := ht (by omega); omega)
            have hX0 := st_end h2 hst
            subst hX0
            exact ⟨_, rfl, rfl, by rw [← h3]; exact h1⟩
          · refine rch_run cdK132 (by decide) 4 (t' := (53, [some (vR 74), some (vI an), some (vI 1), some (vI (J 98 ((J 74 40) - 1).toNat))], [vI 1], MW b J M)) (ps := []) rfl trivial ?_
            refine rch_br cdK132 (cd := (1 : Int) = 0) (t1 := (60, [some (vR 74), some (vI an), some (vI 1), some (vI (J 98 ((J 74 40) - 1).toNat))], [], MW b J M)) (t2 := (56, [some (vR 74), some (vI an), some (vI 1), some (vI (J 98 ((J 74 40) - 1).toNat))], [], MW b J M)) rfl (fun c9 => absurd c9 (by decide)) (fun _ => ?_)
            refine rch_run cdK132 (by decide) 1 (t' := (57, [some (vR 74), some (vI an), some (vI 1), some (vI (J 98 ((J 74 40) - 1).toNat))], [vR 74], MW b J M)) (ps := []) rfl trivial ?_
            have hns : ¬ stpc an ((X ++ Z).headD 8) := by have ht9 := ht (by omega); unfold stpc; omega
            obtain ⟨c9, X9, rfl⟩ := st_pop hZ hns
            refine rch_call (h' := 2) (k' := 131) (as := [vR 74]) (t1 := (60, [some (vR 74), some (vI an), some (vI 1), some (vI (J 98 ((J 74 40) - 1).toNat))], [], MW b J M)) cdK132 rfl (k_pop l E b I L J M (W := X9 ++ Z) h1 (fun z => h2 c9 List.mem_cons_self (Or.inl z)) (by rw [List.length_cons] at h4; omega)) (by decide) mw_le ?_
            rintro rt9 w9 (⟨J139, rfl, rfl, hs⟩) _ _
            show Rch l E 3 132 _ _ _ _ (60, [some (vR 74), some (vI an), some (vI 1), some (vI (J 98 ((J 74 40) - 1).toNat))], [], MW b J139 M)
            refine rch_run cdK132 (by decide) 1 (t' := (2, [some (vR 74), some (vI an), some (vI 1), some (vI (J 98 ((J 74 40) - 1).toNat))], [], MW b J139 M)) (ps := []) rfl trivial ?_
            refine rch_forget [3] ?_
            exact ih 0 _ _ X9 hs (fun c hc => h2 c (List.mem_cons_of_mem _ hc)) (by rw [← h3, flush_c]) (by have := psh_l s c9; rw [List.length_cons] at h4; omega) (by rw [List.length_cons] at hm; omega)
    · refine rch_run cdK132 (by decide) 5 (t' := (33, [some (vR 74), some (vI an), some (vI 1), some (vI 8)], [vI 8, vI 8], MW b J M)) (ps := []) rfl trivial ?_
      refine rch_br cdK132 (cd := (8 : Int) = (8 : Int)) (t1 := (50, [some (vR 74), some (vI an), some (vI 1), some (vI 8)], [], MW b J M)) (t2 := (36, [some (vR 74), some (vI an), some (vI 1), some (vI 8)], [], MW b J M)) rfl (fun _ => ?_) (fun c9 => absurd (by decide) c9)
      refine rch_run cdK132 (by decide) 3 (t' := (53, [some (vR 74), some (vI an), some (vI 0), some (vI 8)], [vI 0], MW b J M)) (ps := []) rfl trivial ?_
      refine rch_br cdK132 (cd := (0 : Int) = 0) (t1 := (60, [some (vR 74), some (vI an), some (vI 0), some (vI 8)], [], MW b J M)) (t2 := (56, [some (vR 74), some (vI an), some (vI 0), some (vI 8)], [], MW b J M)) rfl (fun _ => ?_) (fun c9 => absurd (by decide) c9)
      refine rch_run cdK132 (by decide) 1 (t' := (2, [some (vR 74), some (vI an), some (vI 0), some (vI 8)], [], MW b J M)) (ps := []) rfl trivial ?_
      refine rch_run cdK132 (by decide) 1 (t' := (3, [some (vR 74), some (vI an), some (vI 0), some (vI 8)], [vI 0], MW b J M)) (ps := []) rfl trivial ?_
      refine rch_br cdK132 (cd := (0 : Int) = 0) (t1 := (63, [some (vR 74), some (vI an), some (vI 0), some (vI 8)], [], MW b J M)) (t2 := (6, [some (vR 74), some (vI an), some (vI 0), some (vI 8)], [], MW b J M)) rfl (fun _ => ?_) (fun c9 => absurd (by decide) c9)
      refine rch_ret cdK132 (rt := none) rfl trivial mw_c ?_
      have hst : stpc an ((X ++ Z).headD 8) := by unfold stpc; first | (rw [ht0 (by omega)]; exact Or.inl rfl) | (have ht9 := ht (by omega); omega)
      have hX0 := st_end h2 hst
      subst hX0
      exact ⟨_, rfl, rfl, by rw [← h3]; exact h1⟩

theorem k_settle (l : Launch) (E : AX) (b : Bool) (I L J M : Nat → Nat → Int) {s : Pst} (an : Int) (X Z : List Int) (hs : MSt I L J M s (some (X ++ Z))) (hX : ∀ c ∈ X, ¬ stpc an c) (hZ : stpc an (Z.headD 8)) (hb : s.2.2.length + X.length ≤ 500) : Con l E 3 132 [vR 74, vI an] (MW b J M) 0 0 (fun rt w => ∃ J2, rt = none ∧ w = MW b J2 M ∧ MSt I L J2 M (flush X s) (some Z)) := by
  refine con_ok (fun hw9 hs9 => ?_)
  refine con_intro (by decide) (Nat.le_of_ble_eq_true rfl) ?_
  show Rch l E 3 132 _ _ _ _ (0, [some (vR 74), some (vI an), none, none], [], MW b J M)
  refine rch_run cdK132 (by decide) 2 (t' := (2, [some (vR 74), some (vI an), some (vI 1), none], [], MW b J M)) (ps := []) rfl trivial ?_
  exact lp_settle l E b I L M an (flush X s) Z hZ J (X.length + 1) 0 J s X hs hX rfl hb (by omega)

theorem wts_8 {J : Nat → Nat → Int} {W : List Int} (h : Wts J W) : 8 ∈ W ↔ ∃ j : Nat, j < W.length ∧ J 98 j = 8 := by
  constructor
  · intro hm
    obtain ⟨i, hi⟩ := List.getElem?_of_mem hm
    have hl : i < W.length := (List.getElem?_eq_some_iff.mp hi).1
    refine ⟨W.length - 1 - i, by omega, ?_⟩
    rw [h.2.2 i hl, List.getD_eq_getElem?_getD, hi]
    rfl
  · rintro ⟨j, hj, h8⟩
    have h1 := h.2.2 (W.length - 1 - j) (by omega)
    rw [show W.length - 1 - (W.length - 1 - j) = j by omega, h8, List.getD_eq_getElem?_getD] at h1
    have hl : W.length - 1 - j < W.length := by omega
    rw [List.getElem?_eq_getElem hl] at h1
    have h2 : (8 : Int) = W[W.length - 1 - j] := h1
    rw [h2]
    exact List.getElem_mem hl
theorem lp_isOpen (l : Launch) (E : AX) (b : Bool) (I L J M : Nat → Nat → Int) {s : Pst} {W : List Int} (hs : MSt I L J M s (some W)) : ∀ (n9 : Nat) (i x : Int), 0 ≤ i ∧ i ≤ J 74 40 → x = 0 ∨ x = 1 → (x = 1 ↔ ∃ j : Nat, (j : Int) < i ∧ J 98 j = 8) → J 74 40 - i < (n9 : Int) → Rch l E 1 133 (MW b J M) 0 0 (fun rt w => (8 ∈ W ∧ rt = some (vI 1) ∧ w = MW b J M) ∨ (¬ 8 ∈ W ∧ rt = some (vI 0) ∧ w = MW b J M)) (4, [some (vR 74), some (vI x), some (vI i)], [], MW b J M) := by
  intro n9
  induction n9 with
  | zero =>
    intro i x  h1 h2 h3 hm
    exfalso; omega
  | succ n9 ih =>
    intro i x  h1 h2 h3 hm
    have hw : J 74 40 = (W.length : Int) := hs.2.2.2.2.2.1.1
    have hwl : W.length ≤ 100 := hs.2.2.2.2.2.1.2.1
    refine rch_run cdK133 (by decide) 3 (t' := (9, [some (vR 74), some (vI x), some (vI i)], [vI (J 74 40), vI i], MW b J M)) (ps := []) rfl trivial ?_
    refine rch_br cdK133 (cd := J 74 40 ≤ i) (t1 := (39, [some (vR 74), some (vI x), some (vI i)], [], MW b J M)) (t2 := (12, [some (vR 74), some (vI x), some (vI i)], [], MW b J M)) rfl (fun c9_1 => ?_) (fun c9_1 => ?_)
    · refine rch_run cdK133 (by decide) 1 (t' := (40, [some (vR 74), some (vI x), some (vI i)], [vI x], MW b J M)) (ps := []) rfl trivial ?_
      refine rch_ret cdK133 (rt := some (vI x)) rfl (by show _ ∨ _; omega) mw_c ?_
      have hmem := wts_8 hs.2.2.2.2.2.1
      rcases h2.symm with e | e
      · subst e; exact Or.inl ⟨hmem.mpr (by obtain ⟨j, h5, h6⟩ := h3.mp rfl; exact ⟨j, by omega, h6⟩), rfl, rfl⟩
      · subst e; exact Or.inr ⟨fun z => by obtain ⟨j, h5, h6⟩ := hmem.mp z; exact absurd (h3.mpr ⟨j, by omega, h6⟩) (by decide), rfl, rfl⟩
    · refine rch_run cdK133 (by decide) 1 (t' := (13, [some (vR 74), some (vI x), some (vI i)], [vI x], MW b J M)) (ps := []) rfl trivial ?_
      refine rch_br cdK133 (cd := x ≠ 0) (t1 := (27, [some (vR 74), some (vI x), some (vI i)], [], MW b J M)) (t2 := (16, [some (vR 74), some (vI x), some (vI i)], [], MW b J M)) rfl (fun c13_2 => ?_) (fun c13_2 => ?_)
      · refine rch_run cdK133 (by decide) 5 (t' := (4, [some (vR 74), some (vI 1), some (vI (i + 1))], [], MW b J M)) (ps := [i32 (i + 1)]) rfl (by simp only [all_, i32, i64]; first | omega | (simp; done) | (simp; omega)) ?_
        first | exact ih (i + 1) 1 (by omega) (by omega) ⟨fun _ => ⟨i.toNat, by omega, by first | omega | exact he9⟩, fun _ => rfl⟩ (by omega) | exact ih (i + 1) 1 (by omega) (by omega) ⟨fun _ => by obtain ⟨j, h5, h6⟩ := h3.mp (by omega); exact ⟨j, by omega, h6⟩, fun _ => rfl⟩ (by omega) | exact ih (i + 1) 1 (by omega) (by omega) ⟨fun z => by omega, fun ⟨j, h5, h6⟩ => by exfalso; by_cases e : (j : Int) = i; (rw [show i.toNat = j by omega] at *; omega); (have := h3.mpr ⟨j, by omega, h6⟩; omega)⟩ (by omega)
      · refine rch_run cdK133 (by decide) 5 (t' := (24, [some (vR 74), some (vI x), some (vI i)], [vI 8, vI (J 98 i.toNat)], MW b J M)) (ps := [0 ≤ i ∧ i < ((300 : Nat) : Int)]) rfl (by simp only [all_, i32, i64]; first | omega | (simp; done) | (simp; omega)) ?_
        refine rch_br cdK133 (cd := J 98 i.toNat ≠ (8 : Int)) (t1 := (31, [some (vR 74), some (vI x), some (vI i)], [], MW b J M)) (t2 := (27, [some (vR 74), some (vI x), some (vI i)], [], MW b J M)) rfl (fun c24_3 => ?_) (fun c24_3 => ?_)
        · refine rch_run cdK133 (by decide) 4 (t' := (4, [some (vR 74), some (vI 0), some (vI (i + 1))], [], MW b J M)) (ps := [i32 (i + 1)]) rfl (by simp only [all_, i32, i64]; first | omega | (simp; done) | (simp; omega)) ?_
          first | exact ih (i + 1) 0 (by omega) (by omega) ⟨fun _ => ⟨i.toNat, by omega, by first | omega | exact he9⟩, fun _ => rfl⟩ (by omega) | exact ih (i + 1) 0 (by omega) (by omega) ⟨fun _ => by obtain ⟨j, h5, h6⟩ := h3.mp (by omega); exact ⟨j, by omega, h6⟩, fun _ => rfl⟩ (by omega) | exact ih (i + 1) 0 (by omega) (by omega) ⟨fun z => by omega, fun ⟨j, h5, h6⟩ => by exfalso; by_cases e : (j : Int) = i; (rw [show i.toNat = j by omega] at *; omega); (have := h3.mpr ⟨j, by omega, h6⟩; omega)⟩ (by omega)
        · refine rch_run cdK133 (by decide) 5 (t' := (4, [some (vR 74), some (vI 1), some (vI (i + 1))], [], MW b J M)) (ps := [i32 (i + 1)]) rfl (by simp only [all_, i32, i64]; first | omega | (simp; done) | (simp; omega)) ?_
          first | exact ih (i + 1) 1 (by omega) (by omega) ⟨fun _ => ⟨i.toNat, by omega, by first | omega | exact he9⟩, fun _ => rfl⟩ (by omega) | exact ih (i + 1) 1 (by omega) (by omega) ⟨fun _ => by obtain ⟨j, h5, h6⟩ := h3.mp (by omega); exact ⟨j, by omega, h6⟩, fun _ => rfl⟩ (by omega) | exact ih (i + 1) 1 (by omega) (by omega) ⟨fun z => by omega, fun ⟨j, h5, h6⟩ => by exfalso; by_cases e : (j : Int) = i; (rw [show i.toNat = j by omega] at *; omega); (have := h3.mpr ⟨j, by omega, h6⟩; omega)⟩ (by omega)

theorem k_isOpen (l : Launch) (E : AX) (b : Bool) (I L J M : Nat → Nat → Int) {s : Pst} {W : List Int} (hs : MSt I L J M s (some W)) : Con l E 1 133 [vR 74] (MW b J M) 0 0 (fun rt w => (8 ∈ W ∧ rt = some (vI 1) ∧ w = MW b J M) ∨ (¬ 8 ∈ W ∧ rt = some (vI 0) ∧ w = MW b J M)) := by
  refine con_ok (fun hw9 hs9 => ?_)
  refine con_intro (by decide) (Nat.le_of_ble_eq_true rfl) ?_
  have hw : J 74 40 = (W.length : Int) := hs.2.2.2.2.2.1.1
  show Rch l E 1 133 _ _ _ _ (0, [some (vR 74), none, none], [], MW b J M)
  refine rch_run cdK133 (by decide) 4 (t' := (4, [some (vR 74), some (vI 0), some (vI 0)], [], MW b J M)) (ps := []) rfl trivial ?_
  exact lp_isOpen l E b I L J M hs (W.length + 1) 0 0 (by omega) (by omega) ⟨fun z => by omega, fun ⟨j, h5, h6⟩ => by omega⟩ (by omega)
