def OpQ (I L : Nat → Nat → Int) (s : Pst) (W : List Int) (x : Int) (J M : Nat → Nat → Int) : Prop :=
  (∃ f, FlM I L J M f ∧ ((8 ≤ dpw W ∧ f = flt (I 97) (nM I) s.1 2) ∨ (dpw W < 8 ∧ wdq (I 97) (nM I) s.1 3 = false ∧ tK (I 97) (nM I) s.1 ≠ 40 ∧ pTest (I 97) (nM I) s = .inl f))) ∨
  (x = 0 ∧ dpw W < 8 ∧ wdq (I 97) (nM I) s.1 3 = true ∧ MSt I L J M (tN (I 97) (nM I) s.1, s.2) (some (5 :: W))) ∨
  (x = 0 ∧ dpw W < 8 ∧ tK (I 97) (nM I) s.1 = 40 ∧ MSt I L J M (tN (I 97) (nM I) s.1, s.2) (some (8 :: W))) ∨
  (x = 1 ∧ dpw W < 8 ∧ wdq (I 97) (nM I) s.1 3 = false ∧ tK (I 97) (nM I) s.1 ≠ 40 ∧ ∃ s1, pTest (I 97) (nM I) s = .inr s1 ∧ MSt I L J M s1 (some W))
set_option maxHeartbeats 20000000 in
set_option maxRecDepth 100000 in
theorem k_operand (l : Launch) (E : AX) (b : Bool) (I L J M : Nat → Nat → Int) {s : Pst} {W : List Int} (h0 : Mp0 I) (hs : MSt I L J M s (some W)) (hW : W.length ≤ 99) (hb : s.2.2.length ≤ s.1) : Con l E 5 135 [vR 74] (MW b J M) 0 0 (fun rt w => ∃ x J2 M2, rt = some (vI x) ∧ w = MW b J2 M2 ∧ OpQ I L s W x J2 M2) := by
  refine con_ok (fun hw9 hs9 => ?_)
  refine con_intro (by decide) (Nat.le_of_ble_eq_true rfl) ?_
  obtain ⟨r1, r2, hz, r4, r5, r6, r7⟩ := MSt_r h0 hs
  have hk40 := (sr_1 (tK (I 97) (nM I) s.1)).2.2.2.2.1
  have hk1 := (sr_1 (tK (I 97) (nM I) s.1)).2.1
  rw [← r7] at hk40 hk1
  have ha : s.1 ≤ nM I := hs.2.2.1
  have hd : J 74 41 = dpw W := hs.2.2.2.2.2.2
  have hu : J 74 28 = s.2.1 ∧ 0 ≤ s.2.1 ∧ s.2.1 ≤ 60 := hs.2.2.2.1
  show Rch l E 5 135 _ _ _ _ (0, [some (vR 74), none, none, none, none, none], [], MW b J M)
  refine rch_run cdK135 (by decide) 2 (t' := (4, [some (vR 74), none, none, none, none, none], [vL 1935764837, vR 74], MW b J M)) (ps := []) rfl trivial ?_
  refine rch_call (h' := 1) (k' := 127) (as := [vR 74, vL 1935764837]) (t1 := (7, [some (vR 74), none, none, none, none, none], [], MW b J M)) cdK135 rfl (k_wd_7 l E b I L J M h0 hs) (by decide) mw_le ?_
  rintro rt9 w9 (⟨hq7, rfl, rfl⟩ | ⟨hq7, rfl, rfl⟩) _ _
  · show Rch l E 5 135 _ _ _ _ (7, [some (vR 74), none, none, none, none, none], [vI 1], MW b J M)
    have hw2 := wdq_2 hq7
    refine rch_br cdK135 (cd := (1 : Int) ≠ 0) (t1 := (40, [some (vR 74), none, none, none, none, none], [], MW b J M)) (t2 := (10, [some (vR 74), none, none, none, none, none], [], MW b J M)) rfl (fun _ => ?_) (fun c9 => absurd (by decide) c9)
    refine rch_run cdK135 (by decide) 4 (t' := (47, [some (vR 74), some (vI 1), none, none, none, none], [vI 1], MW b J M)) (ps := []) rfl trivial ?_
    refine rch_br cdK135 (cd := (1 : Int) ≠ 0) (t1 := (69, [some (vR 74), some (vI 1), none, none, none, none], [], MW b J M)) (t2 := (50, [some (vR 74), some (vI 1), none, none, none, none], [], MW b J M)) rfl (fun _ => ?_) (fun c9 => absurd (by decide) c9)
    refine rch_run cdK135 (by decide) 4 (t' := (76, [some (vR 74), some (vI 1), some (vI 1), none, none, none], [vI 1], MW b J M)) (ps := []) rfl trivial ?_
    refine rch_br cdK135 (cd := (1 : Int) = 0) (t1 := (101, [some (vR 74), some (vI 1), some (vI 1), none, none, none], [], MW b J M)) (t2 := (79, [some (vR 74), some (vI 1), some (vI 1), none, none, none], [], MW b J M)) rfl (fun c9 => absurd c9 (by decide)) (fun _ => ?_)
    refine rch_run cdK135 (by decide) 3 (t' := (85, [some (vR 74), some (vI 1), some (vI 1), none, none, none], [vI 8, vI (J 74 41)], MW b J M)) (ps := []) rfl trivial ?_
    refine rch_br cdK135 (cd := (8 : Int) ≤ J 74 41) (t1 := (101, [some (vR 74), some (vI 1), some (vI 1), none, none, none], [], MW b J M)) (t2 := (88, [some (vR 74), some (vI 1), some (vI 1), none, none, none], [], MW b J M)) rfl (fun c85_4 => ?_) (fun c85_4 => ?_)
    · refine rch_run cdK135 (by decide) 2 (t' := (103, [some (vR 74), some (vI 1), some (vI 1), none, none, none], [vI 2, vR 74], MW b J M)) (ps := []) rfl trivial ?_
      refine rch_call (h' := 1) (k' := 126) (as := [vR 74, vI 2]) (t1 := (106, [some (vR 74), some (vI 1), some (vI 1), none, none, none], [], MW b J M)) cdK135 rfl (k_wrg l E b I L J M 2 (by omega) h0 hs) (by decide) mw_le ?_
      rintro rt9 w9 (⟨J140, rfl, rfl, hf⟩) _ _
      show Rch l E 5 135 _ _ _ _ (106, [some (vR 74), some (vI 1), some (vI 1), none, none, none], [], MW b J140 M)
      have hf1 := hf.2.2.1
      have hf2 := hf.2.2.2.2
      refine rch_run cdK135 (by decide) 2 (t' := (110, [some (vR 74), some (vI 1), some (vI 1), none, none, none], [vI (J140 74 31)], MW b J140 M)) (ps := []) rfl trivial ?_
      refine rch_br cdK135 (cd := J140 74 31 ≤ 0) (t1 := (115, [some (vR 74), some (vI 1), some (vI 1), none, none, none], [], MW b J140 M)) (t2 := (113, [some (vR 74), some (vI 1), some (vI 1), none, none, none], [], MW b J140 M)) rfl (fun c9 => by exfalso; omega) (fun c110_5 => ?_)
      refine rch_run cdK135 (by decide) 1 (t' := (114, [some (vR 74), some (vI 1), some (vI 1), none, none, none], [vI 0], MW b J140 M)) (ps := []) rfl trivial ?_
      refine rch_ret cdK135 (rt := some (vI 0)) rfl (Or.inl rfl) mw_c ?_
      by_cases hd8 : 8 ≤ dpw W
      · exact ⟨_, _, _, rfl, rfl, Or.inl ⟨_, hf, Or.inl ⟨hd8, rfl⟩⟩⟩
      · first | (exfalso; omega) | exact ⟨_, _, _, rfl, rfl, Or.inl ⟨_, hf, Or.inr ⟨by omega, (by first | exact hq3 | exact wdq_ne hq4 (by omega) (by omega) (by omega) | exact wdq_ne hq5 (by omega) (by omega) (by omega) | exact wdq_ne hq6 (by omega) (by omega) (by omega) | exact wdq_ne hq7 (by omega) (by omega) (by omega)), (by first | omega | (have := wdq_2 hq4; omega) | (have := wdq_2 hq5; omega) | (have := wdq_2 hq6; omega) | (have := wdq_2 hq7; omega)), pTest_bad (by first | exact Or.inl (isT_f hq4 hq5 hq6 hq7) | exact Or.inr (by omega))⟩⟩⟩
    · refine rch_run cdK135 (by decide) 1 (t' := (89, [some (vR 74), some (vI 1), some (vI 1), none, none, none], [vI 1], MW b J M)) (ps := []) rfl trivial ?_
      refine rch_br cdK135 (cd := (1 : Int) = 0) (t1 := (106, [some (vR 74), some (vI 1), some (vI 1), none, none, none], [], MW b J M)) (t2 := (92, [some (vR 74), some (vI 1), some (vI 1), none, none, none], [], MW b J M)) rfl (fun c9 => absurd c9 (by decide)) (fun _ => ?_)
      refine rch_run cdK135 (by decide) 3 (t' := (98, [some (vR 74), some (vI 1), some (vI 1), none, none, none], [vI 60, vI (J 74 28)], MW b J M)) (ps := []) rfl trivial ?_
      refine rch_br cdK135 (cd := J 74 28 ≠ (60 : Int)) (t1 := (106, [some (vR 74), some (vI 1), some (vI 1), none, none, none], [], MW b J M)) (t2 := (101, [some (vR 74), some (vI 1), some (vI 1), none, none, none], [], MW b J M)) rfl (fun c98_7 => ?_) (fun c98_7 => ?_)
      · refine rch_run cdK135 (by decide) 2 (t' := (110, [some (vR 74), some (vI 1), some (vI 1), none, none, none], [vI (J 74 31)], MW b J M)) (ps := []) rfl trivial ?_
        refine rch_br cdK135 (cd := J 74 31 ≤ 0) (t1 := (115, [some (vR 74), some (vI 1), some (vI 1), none, none, none], [], MW b J M)) (t2 := (113, [some (vR 74), some (vI 1), some (vI 1), none, none, none], [], MW b J M)) rfl (fun c110_8 => ?_) (fun c9 => by exfalso; omega)
        refine rch_run cdK135 (by decide) 1 (t' := (116, [some (vR 74), some (vI 1), some (vI 1), none, none, none], [vI 1], MW b J M)) (ps := []) rfl trivial ?_
        refine rch_br cdK135 (cd := (1 : Int) ≠ 0) (t1 := (144, [some (vR 74), some (vI 1), some (vI 1), none, none, none], [], MW b J M)) (t2 := (119, [some (vR 74), some (vI 1), some (vI 1), none, none, none], [], MW b J M)) rfl (fun _ => ?_) (fun c9 => absurd (by decide) c9)
        refine rch_run cdK135 (by decide) 2 (t' := (148, [some (vR 74), some (vI 1), some (vI 1), none, none, none], [vL 1935764837, vR 74], MW b J M)) (ps := []) rfl trivial ?_
        refine rch_call (h' := 1) (k' := 127) (as := [vR 74, vL 1935764837]) (t1 := (151, [some (vR 74), some (vI 1), some (vI 1), none, none, none], [], MW b J M)) cdK135 rfl (con_imp (k_wd_7 l E b I L J M h0 hs) (rd1 hq7)) (by decide) mw_le ?_
        rintro rt9 w9 (⟨rfl, rfl⟩) _ _
        show Rch l E 5 135 _ _ _ _ (151, [some (vR 74), some (vI 1), some (vI 1), none, none, none], [vI 1], MW b J M)
        refine rch_br cdK135 (cd := (1 : Int) = 0) (t1 := (158, [some (vR 74), some (vI 1), some (vI 1), none, none, none], [], MW b J M)) (t2 := (154, [some (vR 74), some (vI 1), some (vI 1), none, none, none], [], MW b J M)) rfl (fun c9 => absurd c9 (by decide)) (fun _ => ?_)
        refine rch_run cdK135 (by decide) 10 (t' := (199, [some (vR 74), some (vI 1), some (vI 1), some (vI 1), none, none], [vR 74], MW b (upI J 74 28 ((J 74 28) + 1)) M)) (ps := [i32 ((J 74 28) + 1)]) rfl (by simp only [all_, i32, i64]; first | omega | (simp; done) | (simp; omega)) ?_
        have hT : isT (I 97) (nM I) s.1 = true := isT_i 7 (by omega) hq7
        have hT2 := isT_2 r4 ha hT
        have hs := MSt_tests hs (by omega)
        refine rch_call (h' := 3) (k' := 125) (as := [vR 74]) (t1 := (202, [some (vR 74), some (vI 1), some (vI 1), some (vI 1), none, none], [], MW b (upI J 74 28 ((J 74 28) + 1)) M)) cdK135 rfl (k_nxt l E b I L (upI J 74 28 ((J 74 28) + 1)) M h0 hs (by show tK (I 97) (nM I) s.1 ≠ 1; have := wdq_2 hq7; omega)) (by decide) mw_le ?_
        rintro rt9 w9 (⟨J141, M141, rfl, rfl, hs⟩) _ _
        show Rch l E 5 135 _ _ _ _ (202, [some (vR 74), some (vI 1), some (vI 1), some (vI 1), none, none], [], MW b J141 M141)
        have hz := (MSt_r h0 hs).2.2.1
        refine rch_run cdK135 (by decide) 2 (t' := (204, [some (vR 74), some (vI 1), some (vI 1), some (vI 1), none, none], [vI 4, vI 1], MW b J141 M141)) (ps := []) rfl trivial ?_
        refine rch_br cdK135 (cd := (1 : Int) ≠ (4 : Int)) (t1 := (211, [some (vR 74), some (vI 1), some (vI 1), some (vI 1), none, none], [], MW b J141 M141)) (t2 := (207, [some (vR 74), some (vI 1), some (vI 1), some (vI 1), none, none], [], MW b J141 M141)) rfl (fun _ => ?_) (fun c9 => absurd (by decide) c9)
        refine rch_run cdK135 (by decide) 3 (t' := (214, [some (vR 74), some (vI 1), some (vI 1), some (vI 1), none, none], [vI 5, vI 0, vR 74], MW b J141 M141)) (ps := []) rfl trivial ?_
        refine rch_call (h' := 4) (k' := 129) (as := [vR 74, vI 0, vI 5]) (t1 := (217, [some (vR 74), some (vI 1), some (vI 1), some (vI 1), none, none], [], MW b J141 M141)) cdK135 rfl (k_told l E b I L J141 M141 0 5 h0 hs) (by decide) mw_le ?_
        rintro rt9 w9 (⟨hp1, J142, M142, rfl, rfl, hs⟩ | ⟨J142, M142, f9, x9, hp1, rfl, rfl, hf⟩) _ _
        · show Rch l E 5 135 _ _ _ _ (217, [some (vR 74), some (vI 1), some (vI 1), some (vI 1), none, none], [vI (tV (I 97) (nM I) (tN (I 97) (nM I) s.1))], MW b J142 M142)
          have hz := (MSt_r h0 hs).2.2.1
          refine rch_run cdK135 (by decide) 3 (t' := (221, [some (vR 74), some (vI 1), some (vI 1), some (vI 1), some (vI (tV (I 97) (nM I) (tN (I 97) (nM I) s.1))), none], [vI 2, vI 1], MW b J142 M142)) (ps := []) rfl trivial ?_
          refine rch_br cdK135 (cd := (1 : Int) ≠ (2 : Int)) (t1 := (241, [some (vR 74), some (vI 1), some (vI 1), some (vI 1), some (vI (tV (I 97) (nM I) (tN (I 97) (nM I) s.1))), none], [], MW b J142 M142)) (t2 := (224, [some (vR 74), some (vI 1), some (vI 1), some (vI 1), some (vI (tV (I 97) (nM I) (tN (I 97) (nM I) s.1))), none], [], MW b J142 M142)) rfl (fun _ => ?_) (fun c9 => absurd (by decide) c9)
          refine rch_run cdK135 (by decide) 4 (t' := (248, [some (vR 74), some (vI 1), some (vI 1), some (vI 1), some (vI (tV (I 97) (nM I) (tN (I 97) (nM I) s.1))), some (vI 0)], [vI (J142 74 31)], MW b J142 M142)) (ps := []) rfl trivial ?_
          refine rch_br cdK135 (cd := J142 74 31 ≠ 0) (t1 := (260, [some (vR 74), some (vI 1), some (vI 1), some (vI 1), some (vI (tV (I 97) (nM I) (tN (I 97) (nM I) s.1))), some (vI 0)], [], MW b J142 M142)) (t2 := (251, [some (vR 74), some (vI 1), some (vI 1), some (vI 1), some (vI (tV (I 97) (nM I) (tN (I 97) (nM I) s.1))), some (vI 0)], [], MW b J142 M142)) rfl (fun c9 => by exfalso; omega) (fun c248_13 => ?_)
          refine rch_run cdK135 (by decide) 4 (t' := (257, [some (vR 74), some (vI 1), some (vI 1), some (vI 1), some (vI (tV (I 97) (nM I) (tN (I 97) (nM I) s.1))), some (vI 0)], [vI 0, vI (tV (I 97) (nM I) (tN (I 97) (nM I) s.1)), vI 1, vR 74], MW b J142 M142)) (ps := []) rfl trivial ?_
          refine rch_call (h' := 1) (k' := 128) (as := [vR 74, vI 1, vI (tV (I 97) (nM I) (tN (I 97) (nM I) s.1)), vI 0]) (t1 := (260, [some (vR 74), some (vI 1), some (vI 1), some (vI 1), some (vI (tV (I 97) (nM I) (tN (I 97) (nM I) s.1))), some (vI 0)], [], MW b J142 M142)) cdK135 rfl (k_stM l E b I L J142 M142 hs rfl rfl (by have hl9 := hs.2.2.1; (try dsimp only at hl9 ⊢); omega)) (by decide) mw_le ?_
          rintro rt9 w9 (⟨J143, rfl, rfl, hs⟩) _ _
          show Rch l E 5 135 _ _ _ _ (260, [some (vR 74), some (vI 1), some (vI 1), some (vI 1), some (vI (tV (I 97) (nM I) (tN (I 97) (nM I) s.1))), some (vI 0)], [], MW b J143 M142)
          refine rch_run cdK135 (by decide) 1 (t' := (261, [some (vR 74), some (vI 1), some (vI 1), some (vI 1), some (vI (tV (I 97) (nM I) (tN (I 97) (nM I) s.1))), some (vI 0)], [vI 1], MW b J143 M142)) (ps := []) rfl trivial ?_
          refine rch_ret cdK135 (rt := some (vI 1)) rfl (Or.inr rfl) mw_c ?_
          exact ⟨_, _, _, rfl, rfl, Or.inr (Or.inr (Or.inr ⟨rfl, by omega, (by first | exact hq3 | exact wdq_ne hq4 (by omega) (by omega) (by omega) | exact wdq_ne hq5 (by omega) (by omega) (by omega) | exact wdq_ne hq6 (by omega) (by omega) (by omega) | exact wdq_ne hq7 (by omega) (by omega) (by omega)), (by first | omega | (have := wdq_2 hq4; omega) | (have := wdq_2 hq5; omega) | (have := wdq_2 hq6; omega) | (have := wdq_2 hq7; omega)), _, pTest_sa (by omega) hq7 hp1, hs⟩))⟩
        · show Rch l E 5 135 _ _ _ _ (217, [some (vR 74), some (vI 1), some (vI 1), some (vI 1), none, none], [vI x9], MW b J142 M142)
          have hf1 := hf.2.2.1
          have hf2 := hf.2.2.2.2
          refine rch_run cdK135 (by decide) 3 (t' := (221, [some (vR 74), some (vI 1), some (vI 1), some (vI 1), some (vI x9), none], [vI 2, vI 1], MW b J142 M142)) (ps := []) rfl trivial ?_
          refine rch_br cdK135 (cd := (1 : Int) ≠ (2 : Int)) (t1 := (241, [some (vR 74), some (vI 1), some (vI 1), some (vI 1), some (vI x9), none], [], MW b J142 M142)) (t2 := (224, [some (vR 74), some (vI 1), some (vI 1), some (vI 1), some (vI x9), none], [], MW b J142 M142)) rfl (fun _ => ?_) (fun c9 => absurd (by decide) c9)
          refine rch_run cdK135 (by decide) 4 (t' := (248, [some (vR 74), some (vI 1), some (vI 1), some (vI 1), some (vI x9), some (vI 0)], [vI (J142 74 31)], MW b J142 M142)) (ps := []) rfl trivial ?_
          refine rch_br cdK135 (cd := J142 74 31 ≠ 0) (t1 := (260, [some (vR 74), some (vI 1), some (vI 1), some (vI 1), some (vI x9), some (vI 0)], [], MW b J142 M142)) (t2 := (251, [some (vR 74), some (vI 1), some (vI 1), some (vI 1), some (vI x9), some (vI 0)], [], MW b J142 M142)) rfl (fun c248_15 => ?_) (fun c9 => by exfalso; omega)
          refine rch_run cdK135 (by decide) 1 (t' := (261, [some (vR 74), some (vI 1), some (vI 1), some (vI 1), some (vI x9), some (vI 0)], [vI 1], MW b J142 M142)) (ps := []) rfl trivial ?_
          refine rch_ret cdK135 (rt := some (vI 1)) rfl (Or.inr rfl) mw_c ?_
          first | exact ⟨_, _, _, rfl, rfl, Or.inl ⟨_, hf, Or.inr ⟨by omega, (by first | exact hq3 | exact wdq_ne hq4 (by omega) (by omega) (by omega) | exact wdq_ne hq5 (by omega) (by omega) (by omega) | exact wdq_ne hq6 (by omega) (by omega) (by omega) | exact wdq_ne hq7 (by omega) (by omega) (by omega)), (by first | omega | (have := wdq_2 hq4; omega) | (have := wdq_2 hq5; omega) | (have := wdq_2 hq6; omega) | (have := wdq_2 hq7; omega)), pTest_n2 (by omega) hq6 hp1 hp2⟩⟩⟩ | exact ⟨_, _, _, rfl, rfl, Or.inl ⟨_, hf, Or.inr ⟨by omega, (by first | exact hq3 | exact wdq_ne hq4 (by omega) (by omega) (by omega) | exact wdq_ne hq5 (by omega) (by omega) (by omega) | exact wdq_ne hq6 (by omega) (by omega) (by omega) | exact wdq_ne hq7 (by omega) (by omega) (by omega)), (by first | omega | (have := wdq_2 hq4; omega) | (have := wdq_2 hq5; omega) | (have := wdq_2 hq6; omega) | (have := wdq_2 hq7; omega)), pTest_n1 hT (by omega) (by first | exact hq4 | exact wdq_ne hq5 (by omega) (by omega) (by omega) | exact wdq_ne hq6 (by omega) (by omega) (by omega) | exact wdq_ne hq7 (by omega) (by omega) (by omega)) hp1⟩⟩⟩
      · refine rch_run cdK135 (by decide) 2 (t' := (103, [some (vR 74), some (vI 1), some (vI 1), none, none, none], [vI 2, vR 74], MW b J M)) (ps := []) rfl trivial ?_
        refine rch_call (h' := 1) (k' := 126) (as := [vR 74, vI 2]) (t1 := (106, [some (vR 74), some (vI 1), some (vI 1), none, none, none], [], MW b J M)) cdK135 rfl (k_wrg l E b I L J M 2 (by omega) h0 hs) (by decide) mw_le ?_
        rintro rt9 w9 (⟨J144, rfl, rfl, hf⟩) _ _
        show Rch l E 5 135 _ _ _ _ (106, [some (vR 74), some (vI 1), some (vI 1), none, none, none], [], MW b J144 M)
        have hf1 := hf.2.2.1
        have hf2 := hf.2.2.2.2
        refine rch_run cdK135 (by decide) 2 (t' := (110, [some (vR 74), some (vI 1), some (vI 1), none, none, none], [vI (J144 74 31)], MW b J144 M)) (ps := []) rfl trivial ?_
        refine rch_br cdK135 (cd := J144 74 31 ≤ 0) (t1 := (115, [some (vR 74), some (vI 1), some (vI 1), none, none, none], [], MW b J144 M)) (t2 := (113, [some (vR 74), some (vI 1), some (vI 1), none, none, none], [], MW b J144 M)) rfl (fun c9 => by exfalso; omega) (fun c110_16 => ?_)
        refine rch_run cdK135 (by decide) 1 (t' := (114, [some (vR 74), some (vI 1), some (vI 1), none, none, none], [vI 0], MW b J144 M)) (ps := []) rfl trivial ?_
        refine rch_ret cdK135 (rt := some (vI 0)) rfl (Or.inl rfl) mw_c ?_
        by_cases hd8 : 8 ≤ dpw W
        · exact ⟨_, _, _, rfl, rfl, Or.inl ⟨_, hf, Or.inl ⟨hd8, rfl⟩⟩⟩
        · first | (exfalso; omega) | exact ⟨_, _, _, rfl, rfl, Or.inl ⟨_, hf, Or.inr ⟨by omega, (by first | exact hq3 | exact wdq_ne hq4 (by omega) (by omega) (by omega) | exact wdq_ne hq5 (by omega) (by omega) (by omega) | exact wdq_ne hq6 (by omega) (by omega) (by omega) | exact wdq_ne hq7 (by omega) (by omega) (by omega)), (by first | omega | (have := wdq_2 hq4; omega) | (have := wdq_2 hq5; omega) | (have := wdq_2 hq6; omega) | (have := wdq_2 hq7; omega)), pTest_bad (by first | exact Or.inl (isT_f hq4 hq5 hq6 hq7) | exact Or.inr (by omega))⟩⟩⟩
  · show Rch l E 5 135 _ _ _ _ (7, [some (vR 74), none, none, none, none, none], [vI 0], MW b J M)
    refine rch_br cdK135 (cd := (0 : Int) ≠ 0) (t1 := (40, [some (vR 74), none, none, none, none, none], [], MW b J M)) (t2 := (10, [some (vR 74), none, none, none, none, none], [], MW b J M)) rfl (fun c9 => absurd c9 (by decide)) (fun _ => ?_)
    refine rch_run cdK135 (by decide) 2 (t' := (14, [some (vR 74), none, none, none, none, none], [vL 1852137842, vR 74], MW b J M)) (ps := []) rfl trivial ?_
    refine rch_call (h' := 1) (k' := 127) (as := [vR 74, vL 1852137842]) (t1 := (17, [some (vR 74), none, none, none, none, none], [], MW b J M)) cdK135 rfl (k_wd_6 l E b I L J M h0 hs) (by decide) mw_le ?_
    rintro rt9 w9 (⟨hq6, rfl, rfl⟩ | ⟨hq6, rfl, rfl⟩) _ _
    · show Rch l E 5 135 _ _ _ _ (17, [some (vR 74), none, none, none, none, none], [vI 1], MW b J M)
      have hw2 := wdq_2 hq6
      refine rch_br cdK135 (cd := (1 : Int) ≠ 0) (t1 := (40, [some (vR 74), none, none, none, none, none], [], MW b J M)) (t2 := (20, [some (vR 74), none, none, none, none, none], [], MW b J M)) rfl (fun _ => ?_) (fun c9 => absurd (by decide) c9)
      refine rch_run cdK135 (by decide) 4 (t' := (47, [some (vR 74), some (vI 1), none, none, none, none], [vI 1], MW b J M)) (ps := []) rfl trivial ?_
      refine rch_br cdK135 (cd := (1 : Int) ≠ 0) (t1 := (69, [some (vR 74), some (vI 1), none, none, none, none], [], MW b J M)) (t2 := (50, [some (vR 74), some (vI 1), none, none, none, none], [], MW b J M)) rfl (fun _ => ?_) (fun c9 => absurd (by decide) c9)
      refine rch_run cdK135 (by decide) 4 (t' := (76, [some (vR 74), some (vI 1), some (vI 1), none, none, none], [vI 1], MW b J M)) (ps := []) rfl trivial ?_
      refine rch_br cdK135 (cd := (1 : Int) = 0) (t1 := (101, [some (vR 74), some (vI 1), some (vI 1), none, none, none], [], MW b J M)) (t2 := (79, [some (vR 74), some (vI 1), some (vI 1), none, none, none], [], MW b J M)) rfl (fun c9 => absurd c9 (by decide)) (fun _ => ?_)
      refine rch_run cdK135 (by decide) 3 (t' := (85, [some (vR 74), some (vI 1), some (vI 1), none, none, none], [vI 8, vI (J 74 41)], MW b J M)) (ps := []) rfl trivial ?_
      refine rch_br cdK135 (cd := (8 : Int) ≤ J 74 41) (t1 := (101, [some (vR 74), some (vI 1), some (vI 1), none, none, none], [], MW b J M)) (t2 := (88, [some (vR 74), some (vI 1), some (vI 1), none, none, none], [], MW b J M)) rfl (fun c85_21 => ?_) (fun c85_21 => ?_)
      · refine rch_run cdK135 (by decide) 2 (t' := (103, [some (vR 74), some (vI 1), some (vI 1), none, none, none], [vI 2, vR 74], MW b J M)) (ps := []) rfl trivial ?_
        refine rch_call (h' := 1) (k' := 126) (as := [vR 74, vI 2]) (t1 := (106, [some (vR 74), some (vI 1), some (vI 1), none, none, none], [], MW b J M)) cdK135 rfl (k_wrg l E b I L J M 2 (by omega) h0 hs) (by decide) mw_le ?_
        rintro rt9 w9 (⟨J145, rfl, rfl, hf⟩) _ _
        show Rch l E 5 135 _ _ _ _ (106, [some (vR 74), some (vI 1), some (vI 1), none, none, none], [], MW b J145 M)
        have hf1 := hf.2.2.1
        have hf2 := hf.2.2.2.2
        refine rch_run cdK135 (by decide) 2 (t' := (110, [some (vR 74), some (vI 1), some (vI 1), none, none, none], [vI (J145 74 31)], MW b J145 M)) (ps := []) rfl trivial ?_
        refine rch_br cdK135 (cd := J145 74 31 ≤ 0) (t1 := (115, [some (vR 74), some (vI 1), some (vI 1), none, none, none], [], MW b J145 M)) (t2 := (113, [some (vR 74), some (vI 1), some (vI 1), none, none, none], [], MW b J145 M)) rfl (fun c9 => by exfalso; omega) (fun c110_22 => ?_)
        refine rch_run cdK135 (by decide) 1 (t' := (114, [some (vR 74), some (vI 1), some (vI 1), none, none, none], [vI 0], MW b J145 M)) (ps := []) rfl trivial ?_
        refine rch_ret cdK135 (rt := some (vI 0)) rfl (Or.inl rfl) mw_c ?_
        by_cases hd8 : 8 ≤ dpw W
        · exact ⟨_, _, _, rfl, rfl, Or.inl ⟨_, hf, Or.inl ⟨hd8, rfl⟩⟩⟩
        · first | (exfalso; omega) | exact ⟨_, _, _, rfl, rfl, Or.inl ⟨_, hf, Or.inr ⟨by omega, (by first | exact hq3 | exact wdq_ne hq4 (by omega) (by omega) (by omega) | exact wdq_ne hq5 (by omega) (by omega) (by omega) | exact wdq_ne hq6 (by omega) (by omega) (by omega) | exact wdq_ne hq7 (by omega) (by omega) (by omega)), (by first | omega | (have := wdq_2 hq4; omega) | (have := wdq_2 hq5; omega) | (have := wdq_2 hq6; omega) | (have := wdq_2 hq7; omega)), pTest_bad (by first | exact Or.inl (isT_f hq4 hq5 hq6 hq7) | exact Or.inr (by omega))⟩⟩⟩
      · refine rch_run cdK135 (by decide) 1 (t' := (89, [some (vR 74), some (vI 1), some (vI 1), none, none, none], [vI 1], MW b J M)) (ps := []) rfl trivial ?_
        refine rch_br cdK135 (cd := (1 : Int) = 0) (t1 := (106, [some (vR 74), some (vI 1), some (vI 1), none, none, none], [], MW b J M)) (t2 := (92, [some (vR 74), some (vI 1), some (vI 1), none, none, none], [], MW b J M)) rfl (fun c9 => absurd c9 (by decide)) (fun _ => ?_)
        refine rch_run cdK135 (by decide) 3 (t' := (98, [some (vR 74), some (vI 1), some (vI 1), none, none, none], [vI 60, vI (J 74 28)], MW b J M)) (ps := []) rfl trivial ?_
        refine rch_br cdK135 (cd := J 74 28 ≠ (60 : Int)) (t1 := (106, [some (vR 74), some (vI 1), some (vI 1), none, none, none], [], MW b J M)) (t2 := (101, [some (vR 74), some (vI 1), some (vI 1), none, none, none], [], MW b J M)) rfl (fun c98_24 => ?_) (fun c98_24 => ?_)
        · refine rch_run cdK135 (by decide) 2 (t' := (110, [some (vR 74), some (vI 1), some (vI 1), none, none, none], [vI (J 74 31)], MW b J M)) (ps := []) rfl trivial ?_
          refine rch_br cdK135 (cd := J 74 31 ≤ 0) (t1 := (115, [some (vR 74), some (vI 1), some (vI 1), none, none, none], [], MW b J M)) (t2 := (113, [some (vR 74), some (vI 1), some (vI 1), none, none, none], [], MW b J M)) rfl (fun c110_25 => ?_) (fun c9 => by exfalso; omega)
          refine rch_run cdK135 (by decide) 1 (t' := (116, [some (vR 74), some (vI 1), some (vI 1), none, none, none], [vI 1], MW b J M)) (ps := []) rfl trivial ?_
          refine rch_br cdK135 (cd := (1 : Int) ≠ 0) (t1 := (144, [some (vR 74), some (vI 1), some (vI 1), none, none, none], [], MW b J M)) (t2 := (119, [some (vR 74), some (vI 1), some (vI 1), none, none, none], [], MW b J M)) rfl (fun _ => ?_) (fun c9 => absurd (by decide) c9)
          refine rch_run cdK135 (by decide) 2 (t' := (148, [some (vR 74), some (vI 1), some (vI 1), none, none, none], [vL 1935764837, vR 74], MW b J M)) (ps := []) rfl trivial ?_
          refine rch_call (h' := 1) (k' := 127) (as := [vR 74, vL 1935764837]) (t1 := (151, [some (vR 74), some (vI 1), some (vI 1), none, none, none], [], MW b J M)) cdK135 rfl (con_imp (k_wd_7 l E b I L J M h0 hs) (rd0 (wdq_ne hq6 (by omega) (by omega) (by omega)))) (by decide) mw_le ?_
          rintro rt9 w9 (⟨rfl, rfl⟩) _ _
          show Rch l E 5 135 _ _ _ _ (151, [some (vR 74), some (vI 1), some (vI 1), none, none, none], [vI 0], MW b J M)
          refine rch_br cdK135 (cd := (0 : Int) = 0) (t1 := (158, [some (vR 74), some (vI 1), some (vI 1), none, none, none], [], MW b J M)) (t2 := (154, [some (vR 74), some (vI 1), some (vI 1), none, none, none], [], MW b J M)) rfl (fun _ => ?_) (fun c9 => absurd (by decide) c9)
          refine rch_run cdK135 (by decide) 2 (t' := (162, [some (vR 74), some (vI 1), some (vI 1), none, none, none], [vL 1852137842, vR 74], MW b J M)) (ps := []) rfl trivial ?_
          refine rch_call (h' := 1) (k' := 127) (as := [vR 74, vL 1852137842]) (t1 := (165, [some (vR 74), some (vI 1), some (vI 1), none, none, none], [], MW b J M)) cdK135 rfl (con_imp (k_wd_6 l E b I L J M h0 hs) (rd1 hq6)) (by decide) mw_le ?_
          rintro rt9 w9 (⟨rfl, rfl⟩) _ _
          show Rch l E 5 135 _ _ _ _ (165, [some (vR 74), some (vI 1), some (vI 1), none, none, none], [vI 1], MW b J M)
          refine rch_br cdK135 (cd := (1 : Int) = 0) (t1 := (172, [some (vR 74), some (vI 1), some (vI 1), none, none, none], [], MW b J M)) (t2 := (168, [some (vR 74), some (vI 1), some (vI 1), none, none, none], [], MW b J M)) rfl (fun c9 => absurd c9 (by decide)) (fun _ => ?_)
          refine rch_run cdK135 (by decide) 10 (t' := (199, [some (vR 74), some (vI 1), some (vI 1), some (vI 2), none, none], [vR 74], MW b (upI J 74 28 ((J 74 28) + 1)) M)) (ps := [i32 ((J 74 28) + 1)]) rfl (by simp only [all_, i32, i64]; first | omega | (simp; done) | (simp; omega)) ?_
          have hT : isT (I 97) (nM I) s.1 = true := isT_i 6 (by omega) hq6
          have hT2 := isT_2 r4 ha hT
          have hs := MSt_tests hs (by omega)
          refine rch_call (h' := 3) (k' := 125) (as := [vR 74]) (t1 := (202, [some (vR 74), some (vI 1), some (vI 1), some (vI 2), none, none], [], MW b (upI J 74 28 ((J 74 28) + 1)) M)) cdK135 rfl (k_nxt l E b I L (upI J 74 28 ((J 74 28) + 1)) M h0 hs (by show tK (I 97) (nM I) s.1 ≠ 1; have := wdq_2 hq6; omega)) (by decide) mw_le ?_
          rintro rt9 w9 (⟨J146, M146, rfl, rfl, hs⟩) _ _
          show Rch l E 5 135 _ _ _ _ (202, [some (vR 74), some (vI 1), some (vI 1), some (vI 2), none, none], [], MW b J146 M146)
          have hz := (MSt_r h0 hs).2.2.1
          refine rch_run cdK135 (by decide) 2 (t' := (204, [some (vR 74), some (vI 1), some (vI 1), some (vI 2), none, none], [vI 4, vI 2], MW b J146 M146)) (ps := []) rfl trivial ?_
          refine rch_br cdK135 (cd := (2 : Int) ≠ (4 : Int)) (t1 := (211, [some (vR 74), some (vI 1), some (vI 1), some (vI 2), none, none], [], MW b J146 M146)) (t2 := (207, [some (vR 74), some (vI 1), some (vI 1), some (vI 2), none, none], [], MW b J146 M146)) rfl (fun _ => ?_) (fun c9 => absurd (by decide) c9)
          refine rch_run cdK135 (by decide) 3 (t' := (214, [some (vR 74), some (vI 1), some (vI 1), some (vI 2), none, none], [vI 5, vI 0, vR 74], MW b J146 M146)) (ps := []) rfl trivial ?_
          refine rch_call (h' := 4) (k' := 129) (as := [vR 74, vI 0, vI 5]) (t1 := (217, [some (vR 74), some (vI 1), some (vI 1), some (vI 2), none, none], [], MW b J146 M146)) cdK135 rfl (k_told l E b I L J146 M146 0 5 h0 hs) (by decide) mw_le ?_
          rintro rt9 w9 (⟨hp1, J147, M147, rfl, rfl, hs⟩ | ⟨J147, M147, f9, x9, hp1, rfl, rfl, hf⟩) _ _
          · show Rch l E 5 135 _ _ _ _ (217, [some (vR 74), some (vI 1), some (vI 1), some (vI 2), none, none], [vI (tV (I 97) (nM I) (tN (I 97) (nM I) s.1))], MW b J147 M147)
            have hz := (MSt_r h0 hs).2.2.1
            refine rch_run cdK135 (by decide) 3 (t' := (221, [some (vR 74), some (vI 1), some (vI 1), some (vI 2), some (vI (tV (I 97) (nM I) (tN (I 97) (nM I) s.1))), none], [vI 2, vI 2], MW b J147 M147)) (ps := []) rfl trivial ?_
            refine rch_br cdK135 (cd := (2 : Int) ≠ (2 : Int)) (t1 := (241, [some (vR 74), some (vI 1), some (vI 1), some (vI 2), some (vI (tV (I 97) (nM I) (tN (I 97) (nM I) s.1))), none], [], MW b J147 M147)) (t2 := (224, [some (vR 74), some (vI 1), some (vI 1), some (vI 2), some (vI (tV (I 97) (nM I) (tN (I 97) (nM I) s.1))), none], [], MW b J147 M147)) rfl (fun c9 => absurd c9 (by decide)) (fun _ => ?_)
            refine rch_run cdK135 (by decide) 2 (t' := (228, [some (vR 74), some (vI 1), some (vI 1), some (vI 2), some (vI (tV (I 97) (nM I) (tN (I 97) (nM I) s.1))), none], [vI (J147 74 31)], MW b J147 M147)) (ps := []) rfl trivial ?_
            refine rch_br cdK135 (cd := J147 74 31 ≠ 0) (t1 := (241, [some (vR 74), some (vI 1), some (vI 1), some (vI 2), some (vI (tV (I 97) (nM I) (tN (I 97) (nM I) s.1))), none], [], MW b J147 M147)) (t2 := (231, [some (vR 74), some (vI 1), some (vI 1), some (vI 2), some (vI (tV (I 97) (nM I) (tN (I 97) (nM I) s.1))), none], [], MW b J147 M147)) rfl (fun c9 => by exfalso; omega) (fun c228_31 => ?_)
            refine rch_run cdK135 (by decide) 3 (t' := (235, [some (vR 74), some (vI 1), some (vI 1), some (vI 2), some (vI (tV (I 97) (nM I) (tN (I 97) (nM I) s.1))), none], [vI 999999, vI 0, vR 74], MW b J147 M147)) (ps := []) rfl trivial ?_
            refine rch_call (h' := 4) (k' := 129) (as := [vR 74, vI 0, vI 999999]) (t1 := (238, [some (vR 74), some (vI 1), some (vI 1), some (vI 2), some (vI (tV (I 97) (nM I) (tN (I 97) (nM I) s.1))), none], [], MW b J147 M147)) cdK135 rfl (k_told l E b I L J147 M147 0 999999 h0 hs) (by decide) mw_le ?_
            rintro rt9 w9 (⟨hp2, J148, M148, rfl, rfl, hs⟩ | ⟨J148, M148, f9, x9, hp2, rfl, rfl, hf⟩) _ _
            · show Rch l E 5 135 _ _ _ _ (238, [some (vR 74), some (vI 1), some (vI 1), some (vI 2), some (vI (tV (I 97) (nM I) (tN (I 97) (nM I) s.1))), none], [vI (tV (I 97) (nM I) (tN (I 97) (nM I) (tN (I 97) (nM I) s.1)))], MW b J148 M148)
              have hz := (MSt_r h0 hs).2.2.1
              refine rch_run cdK135 (by decide) 4 (t' := (248, [some (vR 74), some (vI 1), some (vI 1), some (vI 2), some (vI (tV (I 97) (nM I) (tN (I 97) (nM I) s.1))), some (vI (tV (I 97) (nM I) (tN (I 97) (nM I) (tN (I 97) (nM I) s.1))))], [vI (J148 74 31)], MW b J148 M148)) (ps := []) rfl trivial ?_
              refine rch_br cdK135 (cd := J148 74 31 ≠ 0) (t1 := (260, [some (vR 74), some (vI 1), some (vI 1), some (vI 2), some (vI (tV (I 97) (nM I) (tN (I 97) (nM I) s.1))), some (vI (tV (I 97) (nM I) (tN (I 97) (nM I) (tN (I 97) (nM I) s.1))))], [], MW b J148 M148)) (t2 := (251, [some (vR 74), some (vI 1), some (vI 1), some (vI 2), some (vI (tV (I 97) (nM I) (tN (I 97) (nM I) s.1))), some (vI (tV (I 97) (nM I) (tN (I 97) (nM I) (tN (I 97) (nM I) s.1))))], [], MW b J148 M148)) rfl (fun c9 => by exfalso; omega) (fun c248_32 => ?_)
              refine rch_run cdK135 (by decide) 4 (t' := (257, [some (vR 74), some (vI 1), some (vI 1), some (vI 2), some (vI (tV (I 97) (nM I) (tN (I 97) (nM I) s.1))), some (vI (tV (I 97) (nM I) (tN (I 97) (nM I) (tN (I 97) (nM I) s.1))))], [vI (tV (I 97) (nM I) (tN (I 97) (nM I) (tN (I 97) (nM I) s.1))), vI (tV (I 97) (nM I) (tN (I 97) (nM I) s.1)), vI 2, vR 74], MW b J148 M148)) (ps := []) rfl trivial ?_
              refine rch_call (h' := 1) (k' := 128) (as := [vR 74, vI 2, vI (tV (I 97) (nM I) (tN (I 97) (nM I) s.1)), vI (tV (I 97) (nM I) (tN (I 97) (nM I) (tN (I 97) (nM I) s.1)))]) (t1 := (260, [some (vR 74), some (vI 1), some (vI 1), some (vI 2), some (vI (tV (I 97) (nM I) (tN (I 97) (nM I) s.1))), some (vI (tV (I 97) (nM I) (tN (I 97) (nM I) (tN (I 97) (nM I) s.1))))], [], MW b J148 M148)) cdK135 rfl (k_stM l E b I L J148 M148 hs rfl rfl (by have hl9 := hs.2.2.1; (try dsimp only at hl9 ⊢); omega)) (by decide) mw_le ?_
              rintro rt9 w9 (⟨J149, rfl, rfl, hs⟩) _ _
              show Rch l E 5 135 _ _ _ _ (260, [some (vR 74), some (vI 1), some (vI 1), some (vI 2), some (vI (tV (I 97) (nM I) (tN (I 97) (nM I) s.1))), some (vI (tV (I 97) (nM I) (tN (I 97) (nM I) (tN (I 97) (nM I) s.1))))], [], MW b J149 M148)
              refine rch_run cdK135 (by decide) 1 (t' := (261, [some (vR 74), some (vI 1), some (vI 1), some (vI 2), some (vI (tV (I 97) (nM I) (tN (I 97) (nM I) s.1))), some (vI (tV (I 97) (nM I) (tN (I 97) (nM I) (tN (I 97) (nM I) s.1))))], [vI 1], MW b J149 M148)) (ps := []) rfl trivial ?_
              refine rch_ret cdK135 (rt := some (vI 1)) rfl (Or.inr rfl) mw_c ?_
              exact ⟨_, _, _, rfl, rfl, Or.inr (Or.inr (Or.inr ⟨rfl, by omega, (by first | exact hq3 | exact wdq_ne hq4 (by omega) (by omega) (by omega) | exact wdq_ne hq5 (by omega) (by omega) (by omega) | exact wdq_ne hq6 (by omega) (by omega) (by omega) | exact wdq_ne hq7 (by omega) (by omega) (by omega)), (by first | omega | (have := wdq_2 hq4; omega) | (have := wdq_2 hq5; omega) | (have := wdq_2 hq6; omega) | (have := wdq_2 hq7; omega)), _, pTest_nr (by omega) hq6 hp1 hp2, hs⟩))⟩
            · show Rch l E 5 135 _ _ _ _ (238, [some (vR 74), some (vI 1), some (vI 1), some (vI 2), some (vI (tV (I 97) (nM I) (tN (I 97) (nM I) s.1))), none], [vI x9], MW b J148 M148)
              have hf1 := hf.2.2.1
              have hf2 := hf.2.2.2.2
              refine rch_run cdK135 (by decide) 4 (t' := (248, [some (vR 74), some (vI 1), some (vI 1), some (vI 2), some (vI (tV (I 97) (nM I) (tN (I 97) (nM I) s.1))), some (vI x9)], [vI (J148 74 31)], MW b J148 M148)) (ps := []) rfl trivial ?_
              refine rch_br cdK135 (cd := J148 74 31 ≠ 0) (t1 := (260, [some (vR 74), some (vI 1), some (vI 1), some (vI 2), some (vI (tV (I 97) (nM I) (tN (I 97) (nM I) s.1))), some (vI x9)], [], MW b J148 M148)) (t2 := (251, [some (vR 74), some (vI 1), some (vI 1), some (vI 2), some (vI (tV (I 97) (nM I) (tN (I 97) (nM I) s.1))), some (vI x9)], [], MW b J148 M148)) rfl (fun c248_33 => ?_) (fun c9 => by exfalso; omega)
              refine rch_run cdK135 (by decide) 1 (t' := (261, [some (vR 74), some (vI 1), some (vI 1), some (vI 2), some (vI (tV (I 97) (nM I) (tN (I 97) (nM I) s.1))), some (vI x9)], [vI 1], MW b J148 M148)) (ps := []) rfl trivial ?_
              refine rch_ret cdK135 (rt := some (vI 1)) rfl (Or.inr rfl) mw_c ?_
              first | exact ⟨_, _, _, rfl, rfl, Or.inl ⟨_, hf, Or.inr ⟨by omega, (by first | exact hq3 | exact wdq_ne hq4 (by omega) (by omega) (by omega) | exact wdq_ne hq5 (by omega) (by omega) (by omega) | exact wdq_ne hq6 (by omega) (by omega) (by omega) | exact wdq_ne hq7 (by omega) (by omega) (by omega)), (by first | omega | (have := wdq_2 hq4; omega) | (have := wdq_2 hq5; omega) | (have := wdq_2 hq6; omega) | (have := wdq_2 hq7; omega)), pTest_n2 (by omega) hq6 hp1 hp2⟩⟩⟩ | exact ⟨_, _, _, rfl, rfl, Or.inl ⟨_, hf, Or.inr ⟨by omega, (by first | exact hq3 | exact wdq_ne hq4 (by omega) (by omega) (by omega) | exact wdq_ne hq5 (by omega) (by omega) (by omega) | exact wdq_ne hq6 (by omega) (by omega) (by omega) | exact wdq_ne hq7 (by omega) (by omega) (by omega)), (by first | omega | (have := wdq_2 hq4; omega) | (have := wdq_2 hq5; omega) | (have := wdq_2 hq6; omega) | (have := wdq_2 hq7; omega)), pTest_n1 hT (by omega) (by first | exact hq4 | exact wdq_ne hq5 (by omega) (by omega) (by omega) | exact wdq_ne hq6 (by omega) (by omega) (by omega) | exact wdq_ne hq7 (by omega) (by omega) (by omega)) hp1⟩⟩⟩
          · show Rch l E 5 135 _ _ _ _ (217, [some (vR 74), some (vI 1), some (vI 1), some (vI 2), none, none], [vI x9], MW b J147 M147)
            have hf1 := hf.2.2.1
            have hf2 := hf.2.2.2.2
            refine rch_run cdK135 (by decide) 3 (t' := (221, [some (vR 74), some (vI 1), some (vI 1), some (vI 2), some (vI x9), none], [vI 2, vI 2], MW b J147 M147)) (ps := []) rfl trivial ?_
            refine rch_br cdK135 (cd := (2 : Int) ≠ (2 : Int)) (t1 := (241, [some (vR 74), some (vI 1), some (vI 1), some (vI 2), some (vI x9), none], [], MW b J147 M147)) (t2 := (224, [some (vR 74), some (vI 1), some (vI 1), some (vI 2), some (vI x9), none], [], MW b J147 M147)) rfl (fun c9 => absurd c9 (by decide)) (fun _ => ?_)
            refine rch_run cdK135 (by decide) 2 (t' := (228, [some (vR 74), some (vI 1), some (vI 1), some (vI 2), some (vI x9), none], [vI (J147 74 31)], MW b J147 M147)) (ps := []) rfl trivial ?_
            refine rch_br cdK135 (cd := J147 74 31 ≠ 0) (t1 := (241, [some (vR 74), some (vI 1), some (vI 1), some (vI 2), some (vI x9), none], [], MW b J147 M147)) (t2 := (231, [some (vR 74), some (vI 1), some (vI 1), some (vI 2), some (vI x9), none], [], MW b J147 M147)) rfl (fun c228_35 => ?_) (fun c9 => by exfalso; omega)
            refine rch_run cdK135 (by decide) 4 (t' := (248, [some (vR 74), some (vI 1), some (vI 1), some (vI 2), some (vI x9), some (vI 0)], [vI (J147 74 31)], MW b J147 M147)) (ps := []) rfl trivial ?_
            refine rch_br cdK135 (cd := J147 74 31 ≠ 0) (t1 := (260, [some (vR 74), some (vI 1), some (vI 1), some (vI 2), some (vI x9), some (vI 0)], [], MW b J147 M147)) (t2 := (251, [some (vR 74), some (vI 1), some (vI 1), some (vI 2), some (vI x9), some (vI 0)], [], MW b J147 M147)) rfl (fun c248_36 => ?_) (fun c9 => by exfalso; omega)
            refine rch_run cdK135 (by decide) 1 (t' := (261, [some (vR 74), some (vI 1), some (vI 1), some (vI 2), some (vI x9), some (vI 0)], [vI 1], MW b J147 M147)) (ps := []) rfl trivial ?_
            refine rch_ret cdK135 (rt := some (vI 1)) rfl (Or.inr rfl) mw_c ?_
            first | exact ⟨_, _, _, rfl, rfl, Or.inl ⟨_, hf, Or.inr ⟨by omega, (by first | exact hq3 | exact wdq_ne hq4 (by omega) (by omega) (by omega) | exact wdq_ne hq5 (by omega) (by omega) (by omega) | exact wdq_ne hq6 (by omega) (by omega) (by omega) | exact wdq_ne hq7 (by omega) (by omega) (by omega)), (by first | omega | (have := wdq_2 hq4; omega) | (have := wdq_2 hq5; omega) | (have := wdq_2 hq6; omega) | (have := wdq_2 hq7; omega)), pTest_n2 (by omega) hq6 hp1 hp2⟩⟩⟩ | exact ⟨_, _, _, rfl, rfl, Or.inl ⟨_, hf, Or.inr ⟨by omega, (by first | exact hq3 | exact wdq_ne hq4 (by omega) (by omega) (by omega) | exact wdq_ne hq5 (by omega) (by omega) (by omega) | exact wdq_ne hq6 (by omega) (by omega) (by omega) | exact wdq_ne hq7 (by omega) (by omega) (by omega)), (by first | omega | (have := wdq_2 hq4; omega) | (have := wdq_2 hq5; omega) | (have := wdq_2 hq6; omega) | (have := wdq_2 hq7; omega)), pTest_n1 hT (by omega) (by first | exact hq4 | exact wdq_ne hq5 (by omega) (by omega) (by omega) | exact wdq_ne hq6 (by omega) (by omega) (by omega) | exact wdq_ne hq7 (by omega) (by omega) (by omega)) hp1⟩⟩⟩
        · refine rch_run cdK135 (by decide) 2 (t' := (103, [some (vR 74), some (vI 1), some (vI 1), none, none, none], [vI 2, vR 74], MW b J M)) (ps := []) rfl trivial ?_
          refine rch_call (h' := 1) (k' := 126) (as := [vR 74, vI 2]) (t1 := (106, [some (vR 74), some (vI 1), some (vI 1), none, none, none], [], MW b J M)) cdK135 rfl (k_wrg l E b I L J M 2 (by omega) h0 hs) (by decide) mw_le ?_
          rintro rt9 w9 (⟨J150, rfl, rfl, hf⟩) _ _
          show Rch l E 5 135 _ _ _ _ (106, [some (vR 74), some (vI 1), some (vI 1), none, none, none], [], MW b J150 M)
          have hf1 := hf.2.2.1
          have hf2 := hf.2.2.2.2
          refine rch_run cdK135 (by decide) 2 (t' := (110, [some (vR 74), some (vI 1), some (vI 1), none, none, none], [vI (J150 74 31)], MW b J150 M)) (ps := []) rfl trivial ?_
          refine rch_br cdK135 (cd := J150 74 31 ≤ 0) (t1 := (115, [some (vR 74), some (vI 1), some (vI 1), none, none, none], [], MW b J150 M)) (t2 := (113, [some (vR 74), some (vI 1), some (vI 1), none, none, none], [], MW b J150 M)) rfl (fun c9 => by exfalso; omega) (fun c110_37 => ?_)
          refine rch_run cdK135 (by decide) 1 (t' := (114, [some (vR 74), some (vI 1), some (vI 1), none, none, none], [vI 0], MW b J150 M)) (ps := []) rfl trivial ?_
          refine rch_ret cdK135 (rt := some (vI 0)) rfl (Or.inl rfl) mw_c ?_
          by_cases hd8 : 8 ≤ dpw W
          · exact ⟨_, _, _, rfl, rfl, Or.inl ⟨_, hf, Or.inl ⟨hd8, rfl⟩⟩⟩
          · first | (exfalso; omega) | exact ⟨_, _, _, rfl, rfl, Or.inl ⟨_, hf, Or.inr ⟨by omega, (by first | exact hq3 | exact wdq_ne hq4 (by omega) (by omega) (by omega) | exact wdq_ne hq5 (by omega) (by omega) (by omega) | exact wdq_ne hq6 (by omega) (by omega) (by omega) | exact wdq_ne hq7 (by omega) (by omega) (by omega)), (by first | omega | (have := wdq_2 hq4; omega) | (have := wdq_2 hq5; omega) | (have := wdq_2 hq6; omega) | (have := wdq_2 hq7; omega)), pTest_bad (by first | exact Or.inl (isT_f hq4 hq5 hq6 hq7) | exact Or.inr (by omega))⟩⟩⟩
    · show Rch l E 5 135 _ _ _ _ (17, [some (vR 74), none, none, none, none, none], [vI 0], MW b J M)
      refine rch_br cdK135 (cd := (0 : Int) ≠ 0) (t1 := (40, [some (vR 74), none, none, none, none, none], [], MW b J M)) (t2 := (20, [some (vR 74), none, none, none, none, none], [], MW b J M)) rfl (fun c9 => absurd c9 (by decide)) (fun _ => ?_)
      refine rch_run cdK135 (by decide) 2 (t' := (24, [some (vR 74), none, none, none, none, none], [vL 465490373491, vR 74], MW b J M)) (ps := []) rfl trivial ?_
      refine rch_call (h' := 1) (k' := 127) (as := [vR 74, vL 465490373491]) (t1 := (27, [some (vR 74), none, none, none, none, none], [], MW b J M)) cdK135 rfl (k_wd_5 l E b I L J M h0 hs) (by decide) mw_le ?_
      rintro rt9 w9 (⟨hq5, rfl, rfl⟩ | ⟨hq5, rfl, rfl⟩) _ _
      · show Rch l E 5 135 _ _ _ _ (27, [some (vR 74), none, none, none, none, none], [vI 1], MW b J M)
        have hw2 := wdq_2 hq5
        refine rch_br cdK135 (cd := (1 : Int) ≠ 0) (t1 := (40, [some (vR 74), none, none, none, none, none], [], MW b J M)) (t2 := (30, [some (vR 74), none, none, none, none, none], [], MW b J M)) rfl (fun _ => ?_) (fun c9 => absurd (by decide) c9)
        refine rch_run cdK135 (by decide) 4 (t' := (47, [some (vR 74), some (vI 1), none, none, none, none], [vI 1], MW b J M)) (ps := []) rfl trivial ?_
        refine rch_br cdK135 (cd := (1 : Int) ≠ 0) (t1 := (69, [some (vR 74), some (vI 1), none, none, none, none], [], MW b J M)) (t2 := (50, [some (vR 74), some (vI 1), none, none, none, none], [], MW b J M)) rfl (fun _ => ?_) (fun c9 => absurd (by decide) c9)
        refine rch_run cdK135 (by decide) 4 (t' := (76, [some (vR 74), some (vI 1), some (vI 1), none, none, none], [vI 1], MW b J M)) (ps := []) rfl trivial ?_
        refine rch_br cdK135 (cd := (1 : Int) = 0) (t1 := (101, [some (vR 74), some (vI 1), some (vI 1), none, none, none], [], MW b J M)) (t2 := (79, [some (vR 74), some (vI 1), some (vI 1), none, none, none], [], MW b J M)) rfl (fun c9 => absurd c9 (by decide)) (fun _ => ?_)
        refine rch_run cdK135 (by decide) 3 (t' := (85, [some (vR 74), some (vI 1), some (vI 1), none, none, none], [vI 8, vI (J 74 41)], MW b J M)) (ps := []) rfl trivial ?_
        refine rch_br cdK135 (cd := (8 : Int) ≤ J 74 41) (t1 := (101, [some (vR 74), some (vI 1), some (vI 1), none, none, none], [], MW b J M)) (t2 := (88, [some (vR 74), some (vI 1), some (vI 1), none, none, none], [], MW b J M)) rfl (fun c85_42 => ?_) (fun c85_42 => ?_)
        · refine rch_run cdK135 (by decide) 2 (t' := (103, [some (vR 74), some (vI 1), some (vI 1), none, none, none], [vI 2, vR 74], MW b J M)) (ps := []) rfl trivial ?_
          refine rch_call (h' := 1) (k' := 126) (as := [vR 74, vI 2]) (t1 := (106, [some (vR 74), some (vI 1), some (vI 1), none, none, none], [], MW b J M)) cdK135 rfl (k_wrg l E b I L J M 2 (by omega) h0 hs) (by decide) mw_le ?_
          rintro rt9 w9 (⟨J151, rfl, rfl, hf⟩) _ _
          show Rch l E 5 135 _ _ _ _ (106, [some (vR 74), some (vI 1), some (vI 1), none, none, none], [], MW b J151 M)
          have hf1 := hf.2.2.1
          have hf2 := hf.2.2.2.2
          refine rch_run cdK135 (by decide) 2 (t' := (110, [some (vR 74), some (vI 1), some (vI 1), none, none, none], [vI (J151 74 31)], MW b J151 M)) (ps := []) rfl trivial ?_
          refine rch_br cdK135 (cd := J151 74 31 ≤ 0) (t1 := (115, [some (vR 74), some (vI 1), some (vI 1), none, none, none], [], MW b J151 M)) (t2 := (113, [some (vR 74), some (vI 1), some (vI 1), none, none, none], [], MW b J151 M)) rfl (fun c9 => by exfalso; omega) (fun c110_43 => ?_)
          refine rch_run cdK135 (by decide) 1 (t' := (114, [some (vR 74), some (vI 1), some (vI 1), none, none, none], [vI 0], MW b J151 M)) (ps := []) rfl trivial ?_
          refine rch_ret cdK135 (rt := some (vI 0)) rfl (Or.inl rfl) mw_c ?_
          by_cases hd8 : 8 ≤ dpw W
          · exact ⟨_, _, _, rfl, rfl, Or.inl ⟨_, hf, Or.inl ⟨hd8, rfl⟩⟩⟩
          · first | (exfalso; omega) | exact ⟨_, _, _, rfl, rfl, Or.inl ⟨_, hf, Or.inr ⟨by omega, (by first | exact hq3 | exact wdq_ne hq4 (by omega) (by omega) (by omega) | exact wdq_ne hq5 (by omega) (by omega) (by omega) | exact wdq_ne hq6 (by omega) (by omega) (by omega) | exact wdq_ne hq7 (by omega) (by omega) (by omega)), (by first | omega | (have := wdq_2 hq4; omega) | (have := wdq_2 hq5; omega) | (have := wdq_2 hq6; omega) | (have := wdq_2 hq7; omega)), pTest_bad (by first | exact Or.inl (isT_f hq4 hq5 hq6 hq7) | exact Or.inr (by omega))⟩⟩⟩
        · refine rch_run cdK135 (by decide) 1 (t' := (89, [some (vR 74), some (vI 1), some (vI 1), none, none, none], [vI 1], MW b J M)) (ps := []) rfl trivial ?_
          refine rch_br cdK135 (cd := (1 : Int) = 0) (t1 := (106, [some (vR 74), some (vI 1), some (vI 1), none, none, none], [], MW b J M)) (t2 := (92, [some (vR 74), some (vI 1), some (vI 1), none, none, none], [], MW b J M)) rfl (fun c9 => absurd c9 (by decide)) (fun _ => ?_)
          refine rch_run cdK135 (by decide) 3 (t' := (98, [some (vR 74), some (vI 1), some (vI 1), none, none, none], [vI 60, vI (J 74 28)], MW b J M)) (ps := []) rfl trivial ?_
          refine rch_br cdK135 (cd := J 74 28 ≠ (60 : Int)) (t1 := (106, [some (vR 74), some (vI 1), some (vI 1), none, none, none], [], MW b J M)) (t2 := (101, [some (vR 74), some (vI 1), some (vI 1), none, none, none], [], MW b J M)) rfl (fun c98_45 => ?_) (fun c98_45 => ?_)
          · refine rch_run cdK135 (by decide) 2 (t' := (110, [some (vR 74), some (vI 1), some (vI 1), none, none, none], [vI (J 74 31)], MW b J M)) (ps := []) rfl trivial ?_
            refine rch_br cdK135 (cd := J 74 31 ≤ 0) (t1 := (115, [some (vR 74), some (vI 1), some (vI 1), none, none, none], [], MW b J M)) (t2 := (113, [some (vR 74), some (vI 1), some (vI 1), none, none, none], [], MW b J M)) rfl (fun c110_46 => ?_) (fun c9 => by exfalso; omega)
            refine rch_run cdK135 (by decide) 1 (t' := (116, [some (vR 74), some (vI 1), some (vI 1), none, none, none], [vI 1], MW b J M)) (ps := []) rfl trivial ?_
            refine rch_br cdK135 (cd := (1 : Int) ≠ 0) (t1 := (144, [some (vR 74), some (vI 1), some (vI 1), none, none, none], [], MW b J M)) (t2 := (119, [some (vR 74), some (vI 1), some (vI 1), none, none, none], [], MW b J M)) rfl (fun _ => ?_) (fun c9 => absurd (by decide) c9)
            refine rch_run cdK135 (by decide) 2 (t' := (148, [some (vR 74), some (vI 1), some (vI 1), none, none, none], [vL 1935764837, vR 74], MW b J M)) (ps := []) rfl trivial ?_
            refine rch_call (h' := 1) (k' := 127) (as := [vR 74, vL 1935764837]) (t1 := (151, [some (vR 74), some (vI 1), some (vI 1), none, none, none], [], MW b J M)) cdK135 rfl (con_imp (k_wd_7 l E b I L J M h0 hs) (rd0 (wdq_ne hq5 (by omega) (by omega) (by omega)))) (by decide) mw_le ?_
            rintro rt9 w9 (⟨rfl, rfl⟩) _ _
            show Rch l E 5 135 _ _ _ _ (151, [some (vR 74), some (vI 1), some (vI 1), none, none, none], [vI 0], MW b J M)
            refine rch_br cdK135 (cd := (0 : Int) = 0) (t1 := (158, [some (vR 74), some (vI 1), some (vI 1), none, none, none], [], MW b J M)) (t2 := (154, [some (vR 74), some (vI 1), some (vI 1), none, none, none], [], MW b J M)) rfl (fun _ => ?_) (fun c9 => absurd (by decide) c9)
            refine rch_run cdK135 (by decide) 2 (t' := (162, [some (vR 74), some (vI 1), some (vI 1), none, none, none], [vL 1852137842, vR 74], MW b J M)) (ps := []) rfl trivial ?_
            refine rch_call (h' := 1) (k' := 127) (as := [vR 74, vL 1852137842]) (t1 := (165, [some (vR 74), some (vI 1), some (vI 1), none, none, none], [], MW b J M)) cdK135 rfl (con_imp (k_wd_6 l E b I L J M h0 hs) (rd0 (wdq_ne hq5 (by omega) (by omega) (by omega)))) (by decide) mw_le ?_
            rintro rt9 w9 (⟨rfl, rfl⟩) _ _
            show Rch l E 5 135 _ _ _ _ (165, [some (vR 74), some (vI 1), some (vI 1), none, none, none], [vI 0], MW b J M)
            refine rch_br cdK135 (cd := (0 : Int) = 0) (t1 := (172, [some (vR 74), some (vI 1), some (vI 1), none, none, none], [], MW b J M)) (t2 := (168, [some (vR 74), some (vI 1), some (vI 1), none, none, none], [], MW b J M)) rfl (fun _ => ?_) (fun c9 => absurd (by decide) c9)
            refine rch_run cdK135 (by decide) 2 (t' := (176, [some (vR 74), some (vI 1), some (vI 1), none, none, none], [vL 465490373491, vR 74], MW b J M)) (ps := []) rfl trivial ?_
            refine rch_call (h' := 1) (k' := 127) (as := [vR 74, vL 465490373491]) (t1 := (179, [some (vR 74), some (vI 1), some (vI 1), none, none, none], [], MW b J M)) cdK135 rfl (con_imp (k_wd_5 l E b I L J M h0 hs) (rd1 hq5)) (by decide) mw_le ?_
            rintro rt9 w9 (⟨rfl, rfl⟩) _ _
            show Rch l E 5 135 _ _ _ _ (179, [some (vR 74), some (vI 1), some (vI 1), none, none, none], [vI 1], MW b J M)
            refine rch_br cdK135 (cd := (1 : Int) = 0) (t1 := (186, [some (vR 74), some (vI 1), some (vI 1), none, none, none], [], MW b J M)) (t2 := (182, [some (vR 74), some (vI 1), some (vI 1), none, none, none], [], MW b J M)) rfl (fun c9 => absurd c9 (by decide)) (fun _ => ?_)
            refine rch_run cdK135 (by decide) 10 (t' := (199, [some (vR 74), some (vI 1), some (vI 1), some (vI 3), none, none], [vR 74], MW b (upI J 74 28 ((J 74 28) + 1)) M)) (ps := [i32 ((J 74 28) + 1)]) rfl (by simp only [all_, i32, i64]; first | omega | (simp; done) | (simp; omega)) ?_
            have hT : isT (I 97) (nM I) s.1 = true := isT_i 5 (by omega) hq5
            have hT2 := isT_2 r4 ha hT
            have hs := MSt_tests hs (by omega)
            refine rch_call (h' := 3) (k' := 125) (as := [vR 74]) (t1 := (202, [some (vR 74), some (vI 1), some (vI 1), some (vI 3), none, none], [], MW b (upI J 74 28 ((J 74 28) + 1)) M)) cdK135 rfl (k_nxt l E b I L (upI J 74 28 ((J 74 28) + 1)) M h0 hs (by show tK (I 97) (nM I) s.1 ≠ 1; have := wdq_2 hq5; omega)) (by decide) mw_le ?_
            rintro rt9 w9 (⟨J152, M152, rfl, rfl, hs⟩) _ _
            show Rch l E 5 135 _ _ _ _ (202, [some (vR 74), some (vI 1), some (vI 1), some (vI 3), none, none], [], MW b J152 M152)
            have hz := (MSt_r h0 hs).2.2.1
            refine rch_run cdK135 (by decide) 2 (t' := (204, [some (vR 74), some (vI 1), some (vI 1), some (vI 3), none, none], [vI 4, vI 3], MW b J152 M152)) (ps := []) rfl trivial ?_
            refine rch_br cdK135 (cd := (3 : Int) ≠ (4 : Int)) (t1 := (211, [some (vR 74), some (vI 1), some (vI 1), some (vI 3), none, none], [], MW b J152 M152)) (t2 := (207, [some (vR 74), some (vI 1), some (vI 1), some (vI 3), none, none], [], MW b J152 M152)) rfl (fun _ => ?_) (fun c9 => absurd (by decide) c9)
            refine rch_run cdK135 (by decide) 3 (t' := (214, [some (vR 74), some (vI 1), some (vI 1), some (vI 3), none, none], [vI 5, vI 0, vR 74], MW b J152 M152)) (ps := []) rfl trivial ?_
            refine rch_call (h' := 4) (k' := 129) (as := [vR 74, vI 0, vI 5]) (t1 := (217, [some (vR 74), some (vI 1), some (vI 1), some (vI 3), none, none], [], MW b J152 M152)) cdK135 rfl (k_told l E b I L J152 M152 0 5 h0 hs) (by decide) mw_le ?_
            rintro rt9 w9 (⟨hp1, J153, M153, rfl, rfl, hs⟩ | ⟨J153, M153, f9, x9, hp1, rfl, rfl, hf⟩) _ _
            · show Rch l E 5 135 _ _ _ _ (217, [some (vR 74), some (vI 1), some (vI 1), some (vI 3), none, none], [vI (tV (I 97) (nM I) (tN (I 97) (nM I) s.1))], MW b J153 M153)
              have hz := (MSt_r h0 hs).2.2.1
              refine rch_run cdK135 (by decide) 3 (t' := (221, [some (vR 74), some (vI 1), some (vI 1), some (vI 3), some (vI (tV (I 97) (nM I) (tN (I 97) (nM I) s.1))), none], [vI 2, vI 3], MW b J153 M153)) (ps := []) rfl trivial ?_
              refine rch_br cdK135 (cd := (3 : Int) ≠ (2 : Int)) (t1 := (241, [some (vR 74), some (vI 1), some (vI 1), some (vI 3), some (vI (tV (I 97) (nM I) (tN (I 97) (nM I) s.1))), none], [], MW b J153 M153)) (t2 := (224, [some (vR 74), some (vI 1), some (vI 1), some (vI 3), some (vI (tV (I 97) (nM I) (tN (I 97) (nM I) s.1))), none], [], MW b J153 M153)) rfl (fun _ => ?_) (fun c9 => absurd (by decide) c9)
              refine rch_run cdK135 (by decide) 4 (t' := (248, [some (vR 74), some (vI 1), some (vI 1), some (vI 3), some (vI (tV (I 97) (nM I) (tN (I 97) (nM I) s.1))), some (vI 0)], [vI (J153 74 31)], MW b J153 M153)) (ps := []) rfl trivial ?_
              refine rch_br cdK135 (cd := J153 74 31 ≠ 0) (t1 := (260, [some (vR 74), some (vI 1), some (vI 1), some (vI 3), some (vI (tV (I 97) (nM I) (tN (I 97) (nM I) s.1))), some (vI 0)], [], MW b J153 M153)) (t2 := (251, [some (vR 74), some (vI 1), some (vI 1), some (vI 3), some (vI (tV (I 97) (nM I) (tN (I 97) (nM I) s.1))), some (vI 0)], [], MW b J153 M153)) rfl (fun c9 => by exfalso; omega) (fun c248_53 => ?_)
              refine rch_run cdK135 (by decide) 4 (t' := (257, [some (vR 74), some (vI 1), some (vI 1), some (vI 3), some (vI (tV (I 97) (nM I) (tN (I 97) (nM I) s.1))), some (vI 0)], [vI 0, vI (tV (I 97) (nM I) (tN (I 97) (nM I) s.1)), vI 3, vR 74], MW b J153 M153)) (ps := []) rfl trivial ?_
              refine rch_call (h' := 1) (k' := 128) (as := [vR 74, vI 3, vI (tV (I 97) (nM I) (tN (I 97) (nM I) s.1)), vI 0]) (t1 := (260, [some (vR 74), some (vI 1), some (vI 1), some (vI 3), some (vI (tV (I 97) (nM I) (tN (I 97) (nM I) s.1))), some (vI 0)], [], MW b J153 M153)) cdK135 rfl (k_stM l E b I L J153 M153 hs rfl rfl (by have hl9 := hs.2.2.1; (try dsimp only at hl9 ⊢); omega)) (by decide) mw_le ?_
              rintro rt9 w9 (⟨J154, rfl, rfl, hs⟩) _ _
              show Rch l E 5 135 _ _ _ _ (260, [some (vR 74), some (vI 1), some (vI 1), some (vI 3), some (vI (tV (I 97) (nM I) (tN (I 97) (nM I) s.1))), some (vI 0)], [], MW b J154 M153)
              refine rch_run cdK135 (by decide) 1 (t' := (261, [some (vR 74), some (vI 1), some (vI 1), some (vI 3), some (vI (tV (I 97) (nM I) (tN (I 97) (nM I) s.1))), some (vI 0)], [vI 1], MW b J154 M153)) (ps := []) rfl trivial ?_
              refine rch_ret cdK135 (rt := some (vI 1)) rfl (Or.inr rfl) mw_c ?_
              exact ⟨_, _, _, rfl, rfl, Or.inr (Or.inr (Or.inr ⟨rfl, by omega, (by first | exact hq3 | exact wdq_ne hq4 (by omega) (by omega) (by omega) | exact wdq_ne hq5 (by omega) (by omega) (by omega) | exact wdq_ne hq6 (by omega) (by omega) (by omega) | exact wdq_ne hq7 (by omega) (by omega) (by omega)), (by first | omega | (have := wdq_2 hq4; omega) | (have := wdq_2 hq5; omega) | (have := wdq_2 hq6; omega) | (have := wdq_2 hq7; omega)), _, pTest_la (by omega) hq5 hp1, hs⟩))⟩
            · show Rch l E 5 135 _ _ _ _ (217, [some (vR 74), some (vI 1), some (vI 1), some (vI 3), none, none], [vI x9], MW b J153 M153)
              have hf1 := hf.2.2.1
              have hf2 := hf.2.2.2.2
              refine rch_run cdK135 (by decide) 3 (t' := (221, [some (vR 74), some (vI 1), some (vI 1), some (vI 3), some (vI x9), none], [vI 2, vI 3], MW b J153 M153)) (ps := []) rfl trivial ?_
              refine rch_br cdK135 (cd := (3 : Int) ≠ (2 : Int)) (t1 := (241, [some (vR 74), some (vI 1), some (vI 1), some (vI 3), some (vI x9), none], [], MW b J153 M153)) (t2 := (224, [some (vR 74), some (vI 1), some (vI 1), some (vI 3), some (vI x9), none], [], MW b J153 M153)) rfl (fun _ => ?_) (fun c9 => absurd (by decide) c9)
              refine rch_run cdK135 (by decide) 4 (t' := (248, [some (vR 74), some (vI 1), some (vI 1), some (vI 3), some (vI x9), some (vI 0)], [vI (J153 74 31)], MW b J153 M153)) (ps := []) rfl trivial ?_
              refine rch_br cdK135 (cd := J153 74 31 ≠ 0) (t1 := (260, [some (vR 74), some (vI 1), some (vI 1), some (vI 3), some (vI x9), some (vI 0)], [], MW b J153 M153)) (t2 := (251, [some (vR 74), some (vI 1), some (vI 1), some (vI 3), some (vI x9), some (vI 0)], [], MW b J153 M153)) rfl (fun c248_55 => ?_) (fun c9 => by exfalso; omega)
              refine rch_run cdK135 (by decide) 1 (t' := (261, [some (vR 74), some (vI 1), some (vI 1), some (vI 3), some (vI x9), some (vI 0)], [vI 1], MW b J153 M153)) (ps := []) rfl trivial ?_
              refine rch_ret cdK135 (rt := some (vI 1)) rfl (Or.inr rfl) mw_c ?_
              first | exact ⟨_, _, _, rfl, rfl, Or.inl ⟨_, hf, Or.inr ⟨by omega, (by first | exact hq3 | exact wdq_ne hq4 (by omega) (by omega) (by omega) | exact wdq_ne hq5 (by omega) (by omega) (by omega) | exact wdq_ne hq6 (by omega) (by omega) (by omega) | exact wdq_ne hq7 (by omega) (by omega) (by omega)), (by first | omega | (have := wdq_2 hq4; omega) | (have := wdq_2 hq5; omega) | (have := wdq_2 hq6; omega) | (have := wdq_2 hq7; omega)), pTest_n2 (by omega) hq6 hp1 hp2⟩⟩⟩ | exact ⟨_, _, _, rfl, rfl, Or.inl ⟨_, hf, Or.inr ⟨by omega, (by first | exact hq3 | exact wdq_ne hq4 (by omega) (by omega) (by omega) | exact wdq_ne hq5 (by omega) (by omega) (by omega) | exact wdq_ne hq6 (by omega) (by omega) (by omega) | exact wdq_ne hq7 (by omega) (by omega) (by omega)), (by first | omega | (have := wdq_2 hq4; omega) | (have := wdq_2 hq5; omega) | (have := wdq_2 hq6; omega) | (have := wdq_2 hq7; omega)), pTest_n1 hT (by omega) (by first | exact hq4 | exact wdq_ne hq5 (by omega) (by omega) (by omega) | exact wdq_ne hq6 (by omega) (by omega) (by omega) | exact wdq_ne hq7 (by omega) (by omega) (by omega)) hp1⟩⟩⟩
          · refine rch_run cdK135 (by decide) 2 (t' := (103, [some (vR 74), some (vI 1), some (vI 1), none, none, none], [vI 2, vR 74], MW b J M)) (ps := []) rfl trivial ?_
            refine rch_call (h' := 1) (k' := 126) (as := [vR 74, vI 2]) (t1 := (106, [some (vR 74), some (vI 1), some (vI 1), none, none, none], [], MW b J M)) cdK135 rfl (k_wrg l E b I L J M 2 (by omega) h0 hs) (by decide) mw_le ?_
            rintro rt9 w9 (⟨J155, rfl, rfl, hf⟩) _ _
            show Rch l E 5 135 _ _ _ _ (106, [some (vR 74), some (vI 1), some (vI 1), none, none, none], [], MW b J155 M)
            have hf1 := hf.2.2.1
            have hf2 := hf.2.2.2.2
            refine rch_run cdK135 (by decide) 2 (t' := (110, [some (vR 74), some (vI 1), some (vI 1), none, none, none], [vI (J155 74 31)], MW b J155 M)) (ps := []) rfl trivial ?_
            refine rch_br cdK135 (cd := J155 74 31 ≤ 0) (t1 := (115, [some (vR 74), some (vI 1), some (vI 1), none, none, none], [], MW b J155 M)) (t2 := (113, [some (vR 74), some (vI 1), some (vI 1), none, none, none], [], MW b J155 M)) rfl (fun c9 => by exfalso; omega) (fun c110_56 => ?_)
            refine rch_run cdK135 (by decide) 1 (t' := (114, [some (vR 74), some (vI 1), some (vI 1), none, none, none], [vI 0], MW b J155 M)) (ps := []) rfl trivial ?_
            refine rch_ret cdK135 (rt := some (vI 0)) rfl (Or.inl rfl) mw_c ?_
            by_cases hd8 : 8 ≤ dpw W
            · exact ⟨_, _, _, rfl, rfl, Or.inl ⟨_, hf, Or.inl ⟨hd8, rfl⟩⟩⟩
            · first | (exfalso; omega) | exact ⟨_, _, _, rfl, rfl, Or.inl ⟨_, hf, Or.inr ⟨by omega, (by first | exact hq3 | exact wdq_ne hq4 (by omega) (by omega) (by omega) | exact wdq_ne hq5 (by omega) (by omega) (by omega) | exact wdq_ne hq6 (by omega) (by omega) (by omega) | exact wdq_ne hq7 (by omega) (by omega) (by omega)), (by first | omega | (have := wdq_2 hq4; omega) | (have := wdq_2 hq5; omega) | (have := wdq_2 hq6; omega) | (have := wdq_2 hq7; omega)), pTest_bad (by first | exact Or.inl (isT_f hq4 hq5 hq6 hq7) | exact Or.inr (by omega))⟩⟩⟩
      · show Rch l E 5 135 _ _ _ _ (27, [some (vR 74), none, none, none, none, none], [vI 0], MW b J M)
        refine rch_br cdK135 (cd := (0 : Int) ≠ 0) (t1 := (40, [some (vR 74), none, none, none, none, none], [], MW b J M)) (t2 := (30, [some (vR 74), none, none, none, none, none], [], MW b J M)) rfl (fun c9 => absurd c9 (by decide)) (fun _ => ?_)
        refine rch_run cdK135 (by decide) 2 (t' := (34, [some (vR 74), none, none, none, none, none], [vL 126922548994917, vR 74], MW b J M)) (ps := []) rfl trivial ?_
        refine rch_call (h' := 1) (k' := 127) (as := [vR 74, vL 126922548994917]) (t1 := (37, [some (vR 74), none, none, none, none, none], [], MW b J M)) cdK135 rfl (k_wd_4 l E b I L J M h0 hs) (by decide) mw_le ?_
        rintro rt9 w9 (⟨hq4, rfl, rfl⟩ | ⟨hq4, rfl, rfl⟩) _ _
        · show Rch l E 5 135 _ _ _ _ (37, [some (vR 74), none, none, none, none, none], [vI 1], MW b J M)
          have hw2 := wdq_2 hq4
          refine rch_br cdK135 (cd := (1 : Int) = 0) (t1 := (44, [some (vR 74), none, none, none, none, none], [], MW b J M)) (t2 := (40, [some (vR 74), none, none, none, none, none], [], MW b J M)) rfl (fun c9 => absurd c9 (by decide)) (fun _ => ?_)
          refine rch_run cdK135 (by decide) 4 (t' := (47, [some (vR 74), some (vI 1), none, none, none, none], [vI 1], MW b J M)) (ps := []) rfl trivial ?_
          refine rch_br cdK135 (cd := (1 : Int) ≠ 0) (t1 := (69, [some (vR 74), some (vI 1), none, none, none, none], [], MW b J M)) (t2 := (50, [some (vR 74), some (vI 1), none, none, none, none], [], MW b J M)) rfl (fun _ => ?_) (fun c9 => absurd (by decide) c9)
          refine rch_run cdK135 (by decide) 4 (t' := (76, [some (vR 74), some (vI 1), some (vI 1), none, none, none], [vI 1], MW b J M)) (ps := []) rfl trivial ?_
          refine rch_br cdK135 (cd := (1 : Int) = 0) (t1 := (101, [some (vR 74), some (vI 1), some (vI 1), none, none, none], [], MW b J M)) (t2 := (79, [some (vR 74), some (vI 1), some (vI 1), none, none, none], [], MW b J M)) rfl (fun c9 => absurd c9 (by decide)) (fun _ => ?_)
          refine rch_run cdK135 (by decide) 3 (t' := (85, [some (vR 74), some (vI 1), some (vI 1), none, none, none], [vI 8, vI (J 74 41)], MW b J M)) (ps := []) rfl trivial ?_
          refine rch_br cdK135 (cd := (8 : Int) ≤ J 74 41) (t1 := (101, [some (vR 74), some (vI 1), some (vI 1), none, none, none], [], MW b J M)) (t2 := (88, [some (vR 74), some (vI 1), some (vI 1), none, none, none], [], MW b J M)) rfl (fun c85_61 => ?_) (fun c85_61 => ?_)
          · refine rch_run cdK135 (by decide) 2 (t' := (103, [some (vR 74), some (vI 1), some (vI 1), none, none, none], [vI 2, vR 74], MW b J M)) (ps := []) rfl trivial ?_
            refine rch_call (h' := 1) (k' := 126) (as := [vR 74, vI 2]) (t1 := (106, [some (vR 74), some (vI 1), some (vI 1), none, none, none], [], MW b J M)) cdK135 rfl (k_wrg l E b I L J M 2 (by omega) h0 hs) (by decide) mw_le ?_
            rintro rt9 w9 (⟨J156, rfl, rfl, hf⟩) _ _
            show Rch l E 5 135 _ _ _ _ (106, [some (vR 74), some (vI 1), some (vI 1), none, none, none], [], MW b J156 M)
            have hf1 := hf.2.2.1
            have hf2 := hf.2.2.2.2
            refine rch_run cdK135 (by decide) 2 (t' := (110, [some (vR 74), some (vI 1), some (vI 1), none, none, none], [vI (J156 74 31)], MW b J156 M)) (ps := []) rfl trivial ?_
            refine rch_br cdK135 (cd := J156 74 31 ≤ 0) (t1 := (115, [some (vR 74), some (vI 1), some (vI 1), none, none, none], [], MW b J156 M)) (t2 := (113, [some (vR 74), some (vI 1), some (vI 1), none, none, none], [], MW b J156 M)) rfl (fun c9 => by exfalso; omega) (fun c110_62 => ?_)
            refine rch_run cdK135 (by decide) 1 (t' := (114, [some (vR 74), some (vI 1), some (vI 1), none, none, none], [vI 0], MW b J156 M)) (ps := []) rfl trivial ?_
            refine rch_ret cdK135 (rt := some (vI 0)) rfl (Or.inl rfl) mw_c ?_
            by_cases hd8 : 8 ≤ dpw W
            · exact ⟨_, _, _, rfl, rfl, Or.inl ⟨_, hf, Or.inl ⟨hd8, rfl⟩⟩⟩
            · first | (exfalso; omega) | exact ⟨_, _, _, rfl, rfl, Or.inl ⟨_, hf, Or.inr ⟨by omega, (by first | exact hq3 | exact wdq_ne hq4 (by omega) (by omega) (by omega) | exact wdq_ne hq5 (by omega) (by omega) (by omega) | exact wdq_ne hq6 (by omega) (by omega) (by omega) | exact wdq_ne hq7 (by omega) (by omega) (by omega)), (by first | omega | (have := wdq_2 hq4; omega) | (have := wdq_2 hq5; omega) | (have := wdq_2 hq6; omega) | (have := wdq_2 hq7; omega)), pTest_bad (by first | exact Or.inl (isT_f hq4 hq5 hq6 hq7) | exact Or.inr (by omega))⟩⟩⟩
          · refine rch_run cdK135 (by decide) 1 (t' := (89, [some (vR 74), some (vI 1), some (vI 1), none, none, none], [vI 1], MW b J M)) (ps := []) rfl trivial ?_
            refine rch_br cdK135 (cd := (1 : Int) = 0) (t1 := (106, [some (vR 74), some (vI 1), some (vI 1), none, none, none], [], MW b J M)) (t2 := (92, [some (vR 74), some (vI 1), some (vI 1), none, none, none], [], MW b J M)) rfl (fun c9 => absurd c9 (by decide)) (fun _ => ?_)
            refine rch_run cdK135 (by decide) 3 (t' := (98, [some (vR 74), some (vI 1), some (vI 1), none, none, none], [vI 60, vI (J 74 28)], MW b J M)) (ps := []) rfl trivial ?_
            refine rch_br cdK135 (cd := J 74 28 ≠ (60 : Int)) (t1 := (106, [some (vR 74), some (vI 1), some (vI 1), none, none, none], [], MW b J M)) (t2 := (101, [some (vR 74), some (vI 1), some (vI 1), none, none, none], [], MW b J M)) rfl (fun c98_64 => ?_) (fun c98_64 => ?_)
            · refine rch_run cdK135 (by decide) 2 (t' := (110, [some (vR 74), some (vI 1), some (vI 1), none, none, none], [vI (J 74 31)], MW b J M)) (ps := []) rfl trivial ?_
              refine rch_br cdK135 (cd := J 74 31 ≤ 0) (t1 := (115, [some (vR 74), some (vI 1), some (vI 1), none, none, none], [], MW b J M)) (t2 := (113, [some (vR 74), some (vI 1), some (vI 1), none, none, none], [], MW b J M)) rfl (fun c110_65 => ?_) (fun c9 => by exfalso; omega)
              refine rch_run cdK135 (by decide) 1 (t' := (116, [some (vR 74), some (vI 1), some (vI 1), none, none, none], [vI 1], MW b J M)) (ps := []) rfl trivial ?_
              refine rch_br cdK135 (cd := (1 : Int) ≠ 0) (t1 := (144, [some (vR 74), some (vI 1), some (vI 1), none, none, none], [], MW b J M)) (t2 := (119, [some (vR 74), some (vI 1), some (vI 1), none, none, none], [], MW b J M)) rfl (fun _ => ?_) (fun c9 => absurd (by decide) c9)
              refine rch_run cdK135 (by decide) 2 (t' := (148, [some (vR 74), some (vI 1), some (vI 1), none, none, none], [vL 1935764837, vR 74], MW b J M)) (ps := []) rfl trivial ?_
              refine rch_call (h' := 1) (k' := 127) (as := [vR 74, vL 1935764837]) (t1 := (151, [some (vR 74), some (vI 1), some (vI 1), none, none, none], [], MW b J M)) cdK135 rfl (con_imp (k_wd_7 l E b I L J M h0 hs) (rd0 (wdq_ne hq4 (by omega) (by omega) (by omega)))) (by decide) mw_le ?_
              rintro rt9 w9 (⟨rfl, rfl⟩) _ _
              show Rch l E 5 135 _ _ _ _ (151, [some (vR 74), some (vI 1), some (vI 1), none, none, none], [vI 0], MW b J M)
              refine rch_br cdK135 (cd := (0 : Int) = 0) (t1 := (158, [some (vR 74), some (vI 1), some (vI 1), none, none, none], [], MW b J M)) (t2 := (154, [some (vR 74), some (vI 1), some (vI 1), none, none, none], [], MW b J M)) rfl (fun _ => ?_) (fun c9 => absurd (by decide) c9)
              refine rch_run cdK135 (by decide) 2 (t' := (162, [some (vR 74), some (vI 1), some (vI 1), none, none, none], [vL 1852137842, vR 74], MW b J M)) (ps := []) rfl trivial ?_
              refine rch_call (h' := 1) (k' := 127) (as := [vR 74, vL 1852137842]) (t1 := (165, [some (vR 74), some (vI 1), some (vI 1), none, none, none], [], MW b J M)) cdK135 rfl (con_imp (k_wd_6 l E b I L J M h0 hs) (rd0 (wdq_ne hq4 (by omega) (by omega) (by omega)))) (by decide) mw_le ?_
              rintro rt9 w9 (⟨rfl, rfl⟩) _ _
              show Rch l E 5 135 _ _ _ _ (165, [some (vR 74), some (vI 1), some (vI 1), none, none, none], [vI 0], MW b J M)
              refine rch_br cdK135 (cd := (0 : Int) = 0) (t1 := (172, [some (vR 74), some (vI 1), some (vI 1), none, none, none], [], MW b J M)) (t2 := (168, [some (vR 74), some (vI 1), some (vI 1), none, none, none], [], MW b J M)) rfl (fun _ => ?_) (fun c9 => absurd (by decide) c9)
              refine rch_run cdK135 (by decide) 2 (t' := (176, [some (vR 74), some (vI 1), some (vI 1), none, none, none], [vL 465490373491, vR 74], MW b J M)) (ps := []) rfl trivial ?_
              refine rch_call (h' := 1) (k' := 127) (as := [vR 74, vL 465490373491]) (t1 := (179, [some (vR 74), some (vI 1), some (vI 1), none, none, none], [], MW b J M)) cdK135 rfl (con_imp (k_wd_5 l E b I L J M h0 hs) (rd0 (wdq_ne hq4 (by omega) (by omega) (by omega)))) (by decide) mw_le ?_
              rintro rt9 w9 (⟨rfl, rfl⟩) _ _
              show Rch l E 5 135 _ _ _ _ (179, [some (vR 74), some (vI 1), some (vI 1), none, none, none], [vI 0], MW b J M)
              refine rch_br cdK135 (cd := (0 : Int) = 0) (t1 := (186, [some (vR 74), some (vI 1), some (vI 1), none, none, none], [], MW b J M)) (t2 := (182, [some (vR 74), some (vI 1), some (vI 1), none, none, none], [], MW b J M)) rfl (fun _ => ?_) (fun c9 => absurd (by decide) c9)
              refine rch_run cdK135 (by decide) 9 (t' := (199, [some (vR 74), some (vI 1), some (vI 1), some (vI 4), none, none], [vR 74], MW b (upI J 74 28 ((J 74 28) + 1)) M)) (ps := [i32 ((J 74 28) + 1)]) rfl (by simp only [all_, i32, i64]; first | omega | (simp; done) | (simp; omega)) ?_
              have hT : isT (I 97) (nM I) s.1 = true := isT_i 4 (by omega) hq4
              have hT2 := isT_2 r4 ha hT
              have hs := MSt_tests hs (by omega)
              refine rch_call (h' := 3) (k' := 125) (as := [vR 74]) (t1 := (202, [some (vR 74), some (vI 1), some (vI 1), some (vI 4), none, none], [], MW b (upI J 74 28 ((J 74 28) + 1)) M)) cdK135 rfl (k_nxt l E b I L (upI J 74 28 ((J 74 28) + 1)) M h0 hs (by show tK (I 97) (nM I) s.1 ≠ 1; have := wdq_2 hq4; omega)) (by decide) mw_le ?_
              rintro rt9 w9 (⟨J157, M157, rfl, rfl, hs⟩) _ _
              show Rch l E 5 135 _ _ _ _ (202, [some (vR 74), some (vI 1), some (vI 1), some (vI 4), none, none], [], MW b J157 M157)
              have hz := (MSt_r h0 hs).2.2.1
              refine rch_run cdK135 (by decide) 2 (t' := (204, [some (vR 74), some (vI 1), some (vI 1), some (vI 4), none, none], [vI 4, vI 4], MW b J157 M157)) (ps := []) rfl trivial ?_
              refine rch_br cdK135 (cd := (4 : Int) ≠ (4 : Int)) (t1 := (211, [some (vR 74), some (vI 1), some (vI 1), some (vI 4), none, none], [], MW b J157 M157)) (t2 := (207, [some (vR 74), some (vI 1), some (vI 1), some (vI 4), none, none], [], MW b J157 M157)) rfl (fun c9 => absurd c9 (by decide)) (fun _ => ?_)
              refine rch_run cdK135 (by decide) 5 (t' := (221, [some (vR 74), some (vI 1), some (vI 1), some (vI 4), some (vI 0), none], [vI 2, vI 4], MW b J157 M157)) (ps := []) rfl trivial ?_
              refine rch_br cdK135 (cd := (4 : Int) ≠ (2 : Int)) (t1 := (241, [some (vR 74), some (vI 1), some (vI 1), some (vI 4), some (vI 0), none], [], MW b J157 M157)) (t2 := (224, [some (vR 74), some (vI 1), some (vI 1), some (vI 4), some (vI 0), none], [], MW b J157 M157)) rfl (fun _ => ?_) (fun c9 => absurd (by decide) c9)
              refine rch_run cdK135 (by decide) 4 (t' := (248, [some (vR 74), some (vI 1), some (vI 1), some (vI 4), some (vI 0), some (vI 0)], [vI (J157 74 31)], MW b J157 M157)) (ps := []) rfl trivial ?_
              refine rch_br cdK135 (cd := J157 74 31 ≠ 0) (t1 := (260, [some (vR 74), some (vI 1), some (vI 1), some (vI 4), some (vI 0), some (vI 0)], [], MW b J157 M157)) (t2 := (251, [some (vR 74), some (vI 1), some (vI 1), some (vI 4), some (vI 0), some (vI 0)], [], MW b J157 M157)) rfl (fun c9 => by exfalso; omega) (fun c248_72 => ?_)
              refine rch_run cdK135 (by decide) 4 (t' := (257, [some (vR 74), some (vI 1), some (vI 1), some (vI 4), some (vI 0), some (vI 0)], [vI 0, vI 0, vI 4, vR 74], MW b J157 M157)) (ps := []) rfl trivial ?_
              refine rch_call (h' := 1) (k' := 128) (as := [vR 74, vI 4, vI 0, vI 0]) (t1 := (260, [some (vR 74), some (vI 1), some (vI 1), some (vI 4), some (vI 0), some (vI 0)], [], MW b J157 M157)) cdK135 rfl (k_stM l E b I L J157 M157 hs rfl rfl (by have hl9 := hs.2.2.1; (try dsimp only at hl9 ⊢); omega)) (by decide) mw_le ?_
              rintro rt9 w9 (⟨J158, rfl, rfl, hs⟩) _ _
              show Rch l E 5 135 _ _ _ _ (260, [some (vR 74), some (vI 1), some (vI 1), some (vI 4), some (vI 0), some (vI 0)], [], MW b J158 M157)
              refine rch_run cdK135 (by decide) 1 (t' := (261, [some (vR 74), some (vI 1), some (vI 1), some (vI 4), some (vI 0), some (vI 0)], [vI 1], MW b J158 M157)) (ps := []) rfl trivial ?_
              refine rch_ret cdK135 (rt := some (vI 1)) rfl (Or.inr rfl) mw_c ?_
              exact ⟨_, _, _, rfl, rfl, Or.inr (Or.inr (Or.inr ⟨rfl, by omega, (by first | exact hq3 | exact wdq_ne hq4 (by omega) (by omega) (by omega) | exact wdq_ne hq5 (by omega) (by omega) (by omega) | exact wdq_ne hq6 (by omega) (by omega) (by omega) | exact wdq_ne hq7 (by omega) (by omega) (by omega)), (by first | omega | (have := wdq_2 hq4; omega) | (have := wdq_2 hq5; omega) | (have := wdq_2 hq6; omega) | (have := wdq_2 hq7; omega)), _, pTest_src (by omega) hq4, hs⟩))⟩
            · refine rch_run cdK135 (by decide) 2 (t' := (103, [some (vR 74), some (vI 1), some (vI 1), none, none, none], [vI 2, vR 74], MW b J M)) (ps := []) rfl trivial ?_
              refine rch_call (h' := 1) (k' := 126) (as := [vR 74, vI 2]) (t1 := (106, [some (vR 74), some (vI 1), some (vI 1), none, none, none], [], MW b J M)) cdK135 rfl (k_wrg l E b I L J M 2 (by omega) h0 hs) (by decide) mw_le ?_
              rintro rt9 w9 (⟨J159, rfl, rfl, hf⟩) _ _
              show Rch l E 5 135 _ _ _ _ (106, [some (vR 74), some (vI 1), some (vI 1), none, none, none], [], MW b J159 M)
              have hf1 := hf.2.2.1
              have hf2 := hf.2.2.2.2
              refine rch_run cdK135 (by decide) 2 (t' := (110, [some (vR 74), some (vI 1), some (vI 1), none, none, none], [vI (J159 74 31)], MW b J159 M)) (ps := []) rfl trivial ?_
              refine rch_br cdK135 (cd := J159 74 31 ≤ 0) (t1 := (115, [some (vR 74), some (vI 1), some (vI 1), none, none, none], [], MW b J159 M)) (t2 := (113, [some (vR 74), some (vI 1), some (vI 1), none, none, none], [], MW b J159 M)) rfl (fun c9 => by exfalso; omega) (fun c110_73 => ?_)
              refine rch_run cdK135 (by decide) 1 (t' := (114, [some (vR 74), some (vI 1), some (vI 1), none, none, none], [vI 0], MW b J159 M)) (ps := []) rfl trivial ?_
              refine rch_ret cdK135 (rt := some (vI 0)) rfl (Or.inl rfl) mw_c ?_
              by_cases hd8 : 8 ≤ dpw W
              · exact ⟨_, _, _, rfl, rfl, Or.inl ⟨_, hf, Or.inl ⟨hd8, rfl⟩⟩⟩
              · first | (exfalso; omega) | exact ⟨_, _, _, rfl, rfl, Or.inl ⟨_, hf, Or.inr ⟨by omega, (by first | exact hq3 | exact wdq_ne hq4 (by omega) (by omega) (by omega) | exact wdq_ne hq5 (by omega) (by omega) (by omega) | exact wdq_ne hq6 (by omega) (by omega) (by omega) | exact wdq_ne hq7 (by omega) (by omega) (by omega)), (by first | omega | (have := wdq_2 hq4; omega) | (have := wdq_2 hq5; omega) | (have := wdq_2 hq6; omega) | (have := wdq_2 hq7; omega)), pTest_bad (by first | exact Or.inl (isT_f hq4 hq5 hq6 hq7) | exact Or.inr (by omega))⟩⟩⟩
        · show Rch l E 5 135 _ _ _ _ (37, [some (vR 74), none, none, none, none, none], [vI 0], MW b J M)
          refine rch_br cdK135 (cd := (0 : Int) = 0) (t1 := (44, [some (vR 74), none, none, none, none, none], [], MW b J M)) (t2 := (40, [some (vR 74), none, none, none, none, none], [], MW b J M)) rfl (fun _ => ?_) (fun c9 => absurd (by decide) c9)
          refine rch_run cdK135 (by decide) 3 (t' := (47, [some (vR 74), some (vI 0), none, none, none, none], [vI 0], MW b J M)) (ps := []) rfl trivial ?_
          refine rch_br cdK135 (cd := (0 : Int) ≠ 0) (t1 := (69, [some (vR 74), some (vI 0), none, none, none, none], [], MW b J M)) (t2 := (50, [some (vR 74), some (vI 0), none, none, none, none], [], MW b J M)) rfl (fun c9 => absurd c9 (by decide)) (fun _ => ?_)
          refine rch_run cdK135 (by decide) 2 (t' := (54, [some (vR 74), some (vI 0), none, none, none, none], [vL 7237492, vR 74], MW b J M)) (ps := []) rfl trivial ?_
          refine rch_call (h' := 1) (k' := 127) (as := [vR 74, vL 7237492]) (t1 := (57, [some (vR 74), some (vI 0), none, none, none, none], [], MW b J M)) cdK135 rfl (k_wd_3 l E b I L J M h0 hs) (by decide) mw_le ?_
          rintro rt9 w9 (⟨hq3, rfl, rfl⟩ | ⟨hq3, rfl, rfl⟩) _ _
          · show Rch l E 5 135 _ _ _ _ (57, [some (vR 74), some (vI 0), none, none, none, none], [vI 1], MW b J M)
            have hw2 := wdq_2 hq3
            refine rch_br cdK135 (cd := (1 : Int) ≠ 0) (t1 := (69, [some (vR 74), some (vI 0), none, none, none, none], [], MW b J M)) (t2 := (60, [some (vR 74), some (vI 0), none, none, none, none], [], MW b J M)) rfl (fun _ => ?_) (fun c9 => absurd (by decide) c9)
            refine rch_run cdK135 (by decide) 4 (t' := (76, [some (vR 74), some (vI 0), some (vI 1), none, none, none], [vI 1], MW b J M)) (ps := []) rfl trivial ?_
            refine rch_br cdK135 (cd := (1 : Int) = 0) (t1 := (101, [some (vR 74), some (vI 0), some (vI 1), none, none, none], [], MW b J M)) (t2 := (79, [some (vR 74), some (vI 0), some (vI 1), none, none, none], [], MW b J M)) rfl (fun c9 => absurd c9 (by decide)) (fun _ => ?_)
            refine rch_run cdK135 (by decide) 3 (t' := (85, [some (vR 74), some (vI 0), some (vI 1), none, none, none], [vI 8, vI (J 74 41)], MW b J M)) (ps := []) rfl trivial ?_
            refine rch_br cdK135 (cd := (8 : Int) ≤ J 74 41) (t1 := (101, [some (vR 74), some (vI 0), some (vI 1), none, none, none], [], MW b J M)) (t2 := (88, [some (vR 74), some (vI 0), some (vI 1), none, none, none], [], MW b J M)) rfl (fun c85_78 => ?_) (fun c85_78 => ?_)
            · refine rch_run cdK135 (by decide) 2 (t' := (103, [some (vR 74), some (vI 0), some (vI 1), none, none, none], [vI 2, vR 74], MW b J M)) (ps := []) rfl trivial ?_
              refine rch_call (h' := 1) (k' := 126) (as := [vR 74, vI 2]) (t1 := (106, [some (vR 74), some (vI 0), some (vI 1), none, none, none], [], MW b J M)) cdK135 rfl (k_wrg l E b I L J M 2 (by omega) h0 hs) (by decide) mw_le ?_
              rintro rt9 w9 (⟨J160, rfl, rfl, hf⟩) _ _
              show Rch l E 5 135 _ _ _ _ (106, [some (vR 74), some (vI 0), some (vI 1), none, none, none], [], MW b J160 M)
              have hf1 := hf.2.2.1
              have hf2 := hf.2.2.2.2
              refine rch_run cdK135 (by decide) 2 (t' := (110, [some (vR 74), some (vI 0), some (vI 1), none, none, none], [vI (J160 74 31)], MW b J160 M)) (ps := []) rfl trivial ?_
              refine rch_br cdK135 (cd := J160 74 31 ≤ 0) (t1 := (115, [some (vR 74), some (vI 0), some (vI 1), none, none, none], [], MW b J160 M)) (t2 := (113, [some (vR 74), some (vI 0), some (vI 1), none, none, none], [], MW b J160 M)) rfl (fun c9 => by exfalso; omega) (fun c110_79 => ?_)
              refine rch_run cdK135 (by decide) 1 (t' := (114, [some (vR 74), some (vI 0), some (vI 1), none, none, none], [vI 0], MW b J160 M)) (ps := []) rfl trivial ?_
              refine rch_ret cdK135 (rt := some (vI 0)) rfl (Or.inl rfl) mw_c ?_
              by_cases hd8 : 8 ≤ dpw W
              · exact ⟨_, _, _, rfl, rfl, Or.inl ⟨_, hf, Or.inl ⟨hd8, rfl⟩⟩⟩
              · first | (exfalso; omega) | exact ⟨_, _, _, rfl, rfl, Or.inl ⟨_, hf, Or.inr ⟨by omega, (by first | exact hq3 | exact wdq_ne hq4 (by omega) (by omega) (by omega) | exact wdq_ne hq5 (by omega) (by omega) (by omega) | exact wdq_ne hq6 (by omega) (by omega) (by omega) | exact wdq_ne hq7 (by omega) (by omega) (by omega)), (by first | omega | (have := wdq_2 hq4; omega) | (have := wdq_2 hq5; omega) | (have := wdq_2 hq6; omega) | (have := wdq_2 hq7; omega)), pTest_bad (by first | exact Or.inl (isT_f hq4 hq5 hq6 hq7) | exact Or.inr (by omega))⟩⟩⟩
            · refine rch_run cdK135 (by decide) 1 (t' := (89, [some (vR 74), some (vI 0), some (vI 1), none, none, none], [vI 0], MW b J M)) (ps := []) rfl trivial ?_
              refine rch_br cdK135 (cd := (0 : Int) = 0) (t1 := (106, [some (vR 74), some (vI 0), some (vI 1), none, none, none], [], MW b J M)) (t2 := (92, [some (vR 74), some (vI 0), some (vI 1), none, none, none], [], MW b J M)) rfl (fun _ => ?_) (fun c9 => absurd (by decide) c9)
              refine rch_run cdK135 (by decide) 2 (t' := (110, [some (vR 74), some (vI 0), some (vI 1), none, none, none], [vI (J 74 31)], MW b J M)) (ps := []) rfl trivial ?_
              refine rch_br cdK135 (cd := J 74 31 ≤ 0) (t1 := (115, [some (vR 74), some (vI 0), some (vI 1), none, none, none], [], MW b J M)) (t2 := (113, [some (vR 74), some (vI 0), some (vI 1), none, none, none], [], MW b J M)) rfl (fun c110_81 => ?_) (fun c9 => by exfalso; omega)
              refine rch_run cdK135 (by decide) 1 (t' := (116, [some (vR 74), some (vI 0), some (vI 1), none, none, none], [vI 0], MW b J M)) (ps := []) rfl trivial ?_
              refine rch_br cdK135 (cd := (0 : Int) ≠ 0) (t1 := (144, [some (vR 74), some (vI 0), some (vI 1), none, none, none], [], MW b J M)) (t2 := (119, [some (vR 74), some (vI 0), some (vI 1), none, none, none], [], MW b J M)) rfl (fun c9 => absurd c9 (by decide)) (fun _ => ?_)
              refine rch_run cdK135 (by decide) 4 (t' := (126, [some (vR 74), some (vI 0), some (vI 1), none, none, none], [vI 40, vI (J 74 35), vR 74], MW b J M)) (ps := []) rfl trivial ?_
              refine rch_br cdK135 (cd := J 74 35 ≠ (40 : Int)) (t1 := (134, [some (vR 74), some (vI 0), some (vI 1), none, none, none], [vR 74], MW b J M)) (t2 := (129, [some (vR 74), some (vI 0), some (vI 1), none, none, none], [vR 74], MW b J M)) rfl (fun c126_83 => ?_) (fun c9 => by exfalso; omega)
              refine rch_run cdK135 (by decide) 1 (t' := (135, [some (vR 74), some (vI 0), some (vI 1), none, none, none], [vI 5, vR 74], MW b J M)) (ps := []) rfl trivial ?_
              refine rch_call (h' := 1) (k' := 130) (as := [vR 74, vI 5]) (t1 := (138, [some (vR 74), some (vI 0), some (vI 1), none, none, none], [], MW b J M)) cdK135 rfl (k_hold l E b I L J M 5 hs (by omega)) (by decide) mw_le ?_
              rintro rt9 w9 (⟨J161, rfl, rfl, hs⟩) _ _
              show Rch l E 5 135 _ _ _ _ (138, [some (vR 74), some (vI 0), some (vI 1), none, none, none], [], MW b J161 M)
              refine rch_run cdK135 (by decide) 1 (t' := (139, [some (vR 74), some (vI 0), some (vI 1), none, none, none], [vR 74], MW b J161 M)) (ps := []) rfl trivial ?_
              refine rch_call (h' := 3) (k' := 125) (as := [vR 74]) (t1 := (142, [some (vR 74), some (vI 0), some (vI 1), none, none, none], [], MW b J161 M)) cdK135 rfl (k_nxt l E b I L J161 M h0 hs (by show tK (I 97) (nM I) s.1 ≠ 1; have := wdq_2 hq3; omega)) (by decide) mw_le ?_
              rintro rt9 w9 (⟨J162, M162, rfl, rfl, hs⟩) _ _
              show Rch l E 5 135 _ _ _ _ (142, [some (vR 74), some (vI 0), some (vI 1), none, none, none], [], MW b J162 M162)
              have hz := (MSt_r h0 hs).2.2.1
              refine rch_run cdK135 (by decide) 1 (t' := (143, [some (vR 74), some (vI 0), some (vI 1), none, none, none], [vI 0], MW b J162 M162)) (ps := []) rfl trivial ?_
              refine rch_ret cdK135 (rt := some (vI 0)) rfl (Or.inl rfl) mw_c ?_
              exact ⟨_, _, _, rfl, rfl, Or.inr (Or.inl ⟨rfl, by omega, hq3, hs⟩)⟩
          · show Rch l E 5 135 _ _ _ _ (57, [some (vR 74), some (vI 0), none, none, none, none], [vI 0], MW b J M)
            refine rch_br cdK135 (cd := (0 : Int) ≠ 0) (t1 := (69, [some (vR 74), some (vI 0), none, none, none, none], [], MW b J M)) (t2 := (60, [some (vR 74), some (vI 0), none, none, none, none], [], MW b J M)) rfl (fun c9 => absurd c9 (by decide)) (fun _ => ?_)
            refine rch_run cdK135 (by decide) 3 (t' := (66, [some (vR 74), some (vI 0), none, none, none, none], [vI 40, vI (J 74 35)], MW b J M)) (ps := []) rfl trivial ?_
            refine rch_br cdK135 (cd := J 74 35 ≠ (40 : Int)) (t1 := (73, [some (vR 74), some (vI 0), none, none, none, none], [], MW b J M)) (t2 := (69, [some (vR 74), some (vI 0), none, none, none, none], [], MW b J M)) rfl (fun c66_85 => ?_) (fun c66_85 => ?_)
            · refine rch_run cdK135 (by decide) 3 (t' := (76, [some (vR 74), some (vI 0), some (vI 0), none, none, none], [vI 0], MW b J M)) (ps := []) rfl trivial ?_
              refine rch_br cdK135 (cd := (0 : Int) = 0) (t1 := (101, [some (vR 74), some (vI 0), some (vI 0), none, none, none], [], MW b J M)) (t2 := (79, [some (vR 74), some (vI 0), some (vI 0), none, none, none], [], MW b J M)) rfl (fun _ => ?_) (fun c9 => absurd (by decide) c9)
              refine rch_run cdK135 (by decide) 2 (t' := (103, [some (vR 74), some (vI 0), some (vI 0), none, none, none], [vI 2, vR 74], MW b J M)) (ps := []) rfl trivial ?_
              refine rch_call (h' := 1) (k' := 126) (as := [vR 74, vI 2]) (t1 := (106, [some (vR 74), some (vI 0), some (vI 0), none, none, none], [], MW b J M)) cdK135 rfl (k_wrg l E b I L J M 2 (by omega) h0 hs) (by decide) mw_le ?_
              rintro rt9 w9 (⟨J163, rfl, rfl, hf⟩) _ _
              show Rch l E 5 135 _ _ _ _ (106, [some (vR 74), some (vI 0), some (vI 0), none, none, none], [], MW b J163 M)
              have hf1 := hf.2.2.1
              have hf2 := hf.2.2.2.2
              refine rch_run cdK135 (by decide) 2 (t' := (110, [some (vR 74), some (vI 0), some (vI 0), none, none, none], [vI (J163 74 31)], MW b J163 M)) (ps := []) rfl trivial ?_
              refine rch_br cdK135 (cd := J163 74 31 ≤ 0) (t1 := (115, [some (vR 74), some (vI 0), some (vI 0), none, none, none], [], MW b J163 M)) (t2 := (113, [some (vR 74), some (vI 0), some (vI 0), none, none, none], [], MW b J163 M)) rfl (fun c9 => by exfalso; omega) (fun c110_87 => ?_)
              refine rch_run cdK135 (by decide) 1 (t' := (114, [some (vR 74), some (vI 0), some (vI 0), none, none, none], [vI 0], MW b J163 M)) (ps := []) rfl trivial ?_
              refine rch_ret cdK135 (rt := some (vI 0)) rfl (Or.inl rfl) mw_c ?_
              by_cases hd8 : 8 ≤ dpw W
              · exact ⟨_, _, _, rfl, rfl, Or.inl ⟨_, hf, Or.inl ⟨hd8, rfl⟩⟩⟩
              · first | (exfalso; omega) | exact ⟨_, _, _, rfl, rfl, Or.inl ⟨_, hf, Or.inr ⟨by omega, (by first | exact hq3 | exact wdq_ne hq4 (by omega) (by omega) (by omega) | exact wdq_ne hq5 (by omega) (by omega) (by omega) | exact wdq_ne hq6 (by omega) (by omega) (by omega) | exact wdq_ne hq7 (by omega) (by omega) (by omega)), (by first | omega | (have := wdq_2 hq4; omega) | (have := wdq_2 hq5; omega) | (have := wdq_2 hq6; omega) | (have := wdq_2 hq7; omega)), pTest_bad (by first | exact Or.inl (isT_f hq4 hq5 hq6 hq7) | exact Or.inr (by omega))⟩⟩⟩
            · refine rch_run cdK135 (by decide) 4 (t' := (76, [some (vR 74), some (vI 0), some (vI 1), none, none, none], [vI 1], MW b J M)) (ps := []) rfl trivial ?_
              refine rch_br cdK135 (cd := (1 : Int) = 0) (t1 := (101, [some (vR 74), some (vI 0), some (vI 1), none, none, none], [], MW b J M)) (t2 := (79, [some (vR 74), some (vI 0), some (vI 1), none, none, none], [], MW b J M)) rfl (fun c9 => absurd c9 (by decide)) (fun _ => ?_)
              refine rch_run cdK135 (by decide) 3 (t' := (85, [some (vR 74), some (vI 0), some (vI 1), none, none, none], [vI 8, vI (J 74 41)], MW b J M)) (ps := []) rfl trivial ?_
              refine rch_br cdK135 (cd := (8 : Int) ≤ J 74 41) (t1 := (101, [some (vR 74), some (vI 0), some (vI 1), none, none, none], [], MW b J M)) (t2 := (88, [some (vR 74), some (vI 0), some (vI 1), none, none, none], [], MW b J M)) rfl (fun c85_89 => ?_) (fun c85_89 => ?_)
              · refine rch_run cdK135 (by decide) 2 (t' := (103, [some (vR 74), some (vI 0), some (vI 1), none, none, none], [vI 2, vR 74], MW b J M)) (ps := []) rfl trivial ?_
                refine rch_call (h' := 1) (k' := 126) (as := [vR 74, vI 2]) (t1 := (106, [some (vR 74), some (vI 0), some (vI 1), none, none, none], [], MW b J M)) cdK135 rfl (k_wrg l E b I L J M 2 (by omega) h0 hs) (by decide) mw_le ?_
                rintro rt9 w9 (⟨J164, rfl, rfl, hf⟩) _ _
                show Rch l E 5 135 _ _ _ _ (106, [some (vR 74), some (vI 0), some (vI 1), none, none, none], [], MW b J164 M)
                have hf1 := hf.2.2.1
                have hf2 := hf.2.2.2.2
                refine rch_run cdK135 (by decide) 2 (t' := (110, [some (vR 74), some (vI 0), some (vI 1), none, none, none], [vI (J164 74 31)], MW b J164 M)) (ps := []) rfl trivial ?_
                refine rch_br cdK135 (cd := J164 74 31 ≤ 0) (t1 := (115, [some (vR 74), some (vI 0), some (vI 1), none, none, none], [], MW b J164 M)) (t2 := (113, [some (vR 74), some (vI 0), some (vI 1), none, none, none], [], MW b J164 M)) rfl (fun c9 => by exfalso; omega) (fun c110_90 => ?_)
                refine rch_run cdK135 (by decide) 1 (t' := (114, [some (vR 74), some (vI 0), some (vI 1), none, none, none], [vI 0], MW b J164 M)) (ps := []) rfl trivial ?_
                refine rch_ret cdK135 (rt := some (vI 0)) rfl (Or.inl rfl) mw_c ?_
                by_cases hd8 : 8 ≤ dpw W
                · exact ⟨_, _, _, rfl, rfl, Or.inl ⟨_, hf, Or.inl ⟨hd8, rfl⟩⟩⟩
                · first | (exfalso; omega) | exact ⟨_, _, _, rfl, rfl, Or.inl ⟨_, hf, Or.inr ⟨by omega, (by first | exact hq3 | exact wdq_ne hq4 (by omega) (by omega) (by omega) | exact wdq_ne hq5 (by omega) (by omega) (by omega) | exact wdq_ne hq6 (by omega) (by omega) (by omega) | exact wdq_ne hq7 (by omega) (by omega) (by omega)), (by first | omega | (have := wdq_2 hq4; omega) | (have := wdq_2 hq5; omega) | (have := wdq_2 hq6; omega) | (have := wdq_2 hq7; omega)), pTest_bad (by first | exact Or.inl (isT_f hq4 hq5 hq6 hq7) | exact Or.inr (by omega))⟩⟩⟩
              · refine rch_run cdK135 (by decide) 1 (t' := (89, [some (vR 74), some (vI 0), some (vI 1), none, none, none], [vI 0], MW b J M)) (ps := []) rfl trivial ?_
                refine rch_br cdK135 (cd := (0 : Int) = 0) (t1 := (106, [some (vR 74), some (vI 0), some (vI 1), none, none, none], [], MW b J M)) (t2 := (92, [some (vR 74), some (vI 0), some (vI 1), none, none, none], [], MW b J M)) rfl (fun _ => ?_) (fun c9 => absurd (by decide) c9)
                refine rch_run cdK135 (by decide) 2 (t' := (110, [some (vR 74), some (vI 0), some (vI 1), none, none, none], [vI (J 74 31)], MW b J M)) (ps := []) rfl trivial ?_
                refine rch_br cdK135 (cd := J 74 31 ≤ 0) (t1 := (115, [some (vR 74), some (vI 0), some (vI 1), none, none, none], [], MW b J M)) (t2 := (113, [some (vR 74), some (vI 0), some (vI 1), none, none, none], [], MW b J M)) rfl (fun c110_92 => ?_) (fun c9 => by exfalso; omega)
                refine rch_run cdK135 (by decide) 1 (t' := (116, [some (vR 74), some (vI 0), some (vI 1), none, none, none], [vI 0], MW b J M)) (ps := []) rfl trivial ?_
                refine rch_br cdK135 (cd := (0 : Int) ≠ 0) (t1 := (144, [some (vR 74), some (vI 0), some (vI 1), none, none, none], [], MW b J M)) (t2 := (119, [some (vR 74), some (vI 0), some (vI 1), none, none, none], [], MW b J M)) rfl (fun c9 => absurd c9 (by decide)) (fun _ => ?_)
                refine rch_run cdK135 (by decide) 4 (t' := (126, [some (vR 74), some (vI 0), some (vI 1), none, none, none], [vI 40, vI (J 74 35), vR 74], MW b J M)) (ps := []) rfl trivial ?_
                refine rch_br cdK135 (cd := J 74 35 ≠ (40 : Int)) (t1 := (134, [some (vR 74), some (vI 0), some (vI 1), none, none, none], [vR 74], MW b J M)) (t2 := (129, [some (vR 74), some (vI 0), some (vI 1), none, none, none], [vR 74], MW b J M)) rfl (fun c9 => by exfalso; omega) (fun c126_94 => ?_)
                refine rch_run cdK135 (by decide) 2 (t' := (135, [some (vR 74), some (vI 0), some (vI 1), none, none, none], [vI 8, vR 74], MW b J M)) (ps := []) rfl trivial ?_
                refine rch_call (h' := 1) (k' := 130) (as := [vR 74, vI 8]) (t1 := (138, [some (vR 74), some (vI 0), some (vI 1), none, none, none], [], MW b J M)) cdK135 rfl (k_hold l E b I L J M 8 hs (by omega)) (by decide) mw_le ?_
                rintro rt9 w9 (⟨J165, rfl, rfl, hs⟩) _ _
                show Rch l E 5 135 _ _ _ _ (138, [some (vR 74), some (vI 0), some (vI 1), none, none, none], [], MW b J165 M)
                refine rch_run cdK135 (by decide) 1 (t' := (139, [some (vR 74), some (vI 0), some (vI 1), none, none, none], [vR 74], MW b J165 M)) (ps := []) rfl trivial ?_
                refine rch_call (h' := 3) (k' := 125) (as := [vR 74]) (t1 := (142, [some (vR 74), some (vI 0), some (vI 1), none, none, none], [], MW b J165 M)) cdK135 rfl (k_nxt l E b I L J165 M h0 hs (by omega)) (by decide) mw_le ?_
                rintro rt9 w9 (⟨J166, M166, rfl, rfl, hs⟩) _ _
                show Rch l E 5 135 _ _ _ _ (142, [some (vR 74), some (vI 0), some (vI 1), none, none, none], [], MW b J166 M166)
                have hz := (MSt_r h0 hs).2.2.1
                refine rch_run cdK135 (by decide) 1 (t' := (143, [some (vR 74), some (vI 0), some (vI 1), none, none, none], [vI 0], MW b J166 M166)) (ps := []) rfl trivial ?_
                refine rch_ret cdK135 (rt := some (vI 0)) rfl (Or.inl rfl) mw_c ?_
                exact ⟨_, _, _, rfl, rfl, Or.inr (Or.inr (Or.inl ⟨rfl, by omega, by omega, hs⟩))⟩
