set_option maxHeartbeats 20000000 in
set_option maxRecDepth 100000 in
theorem k_readTest_1 (l : Launch) (E : AX) (b : Bool) (I J L : Nat → Nat → Int) (s : Pst) (h0 : Tp0 I) (hs : PSx 1 I J s) (hb : 2 * s.2.2.length ≤ s.1) : Con l E 6 18 [vR 31, vR 28, vR 1] (MW b J L) 0 0 (PR2 1 I b L (pTest (I 29) (nTp I) s)) := by
  refine con_ok (fun hw9 hs9 => ?_)
  refine con_intro (by decide) (Nat.le_of_ble_eq_true rfl) ?_
  have hk : 1 = 1 ∨ 1 = 7 := by omega
  have hu : J 1 1 = s.2.1 := hs.1.2.2.2.1.1
  have hu0 : 0 ≤ s.2.1 := hs.1.2.2.2.1.2.1
  have ha : s.1 ≤ nTp I := hs.1.2.2.1
  have hn : nTp I ≤ 500 := by have := h0.1; unfold nTp; omega
  show Rch l E 6 18 _ _ _ _ (0, [some (vR 31), some (vR 28), some (vR 1), none, none, none, none, none], [], MW b J L)
  refine rch_run cdK18 (by decide) 2 (t' := (3, [some (vR 31), some (vR 28), some (vR 1), none, none, none, none, none], [vR 2004, vR 28], MW b J L)) (ps := []) rfl trivial ?_
  refine rch_call (h' := 5) (k' := 45) (as := [vR 28, vR 2004]) (t1 := (6, [some (vR 31), some (vR 28), some (vR 1), none, none, none, none, none], [], MW b J L)) cdK18 rfl (k_rd_4 l E b I J L hk h0 hs) (by decide) mw_le ?_
  rintro rt9 w9 (⟨hq4, rfl, rfl⟩ | ⟨hq4, rfl, rfl⟩) _ _
  · show Rch l E 6 18 _ _ _ _ (6, [some (vR 31), some (vR 28), some (vR 1), none, none, none, none, none], [vI 1], MW b J L)
    refine rch_run cdK18 (by decide) 3 (t' := (10, [some (vR 31), some (vR 28), some (vR 1), some (vI 1), none, none, none, none], [vR 2005, vR 28], MW b J L)) (ps := []) rfl trivial ?_
    refine rch_call (h' := 5) (k' := 45) (as := [vR 28, vR 2005]) (t1 := (13, [some (vR 31), some (vR 28), some (vR 1), some (vI 1), none, none, none, none], [], MW b J L)) cdK18 rfl (con_imp (k_rd_5 l E b I J L hk h0 hs) (rd0 (wdq_ne hq4 (by omega) (by omega) (by omega)))) (by decide) mw_le ?_
    rintro rt9 w9 (⟨rfl, rfl⟩) _ _
    show Rch l E 6 18 _ _ _ _ (13, [some (vR 31), some (vR 28), some (vR 1), some (vI 1), none, none, none, none], [vI 0], MW b J L)
    refine rch_run cdK18 (by decide) 3 (t' := (18, [some (vR 31), some (vR 28), some (vR 1), some (vI 1), some (vI 0), none, none, none], [vR 2006, vR 28], MW b J L)) (ps := []) rfl trivial ?_
    refine rch_call (h' := 5) (k' := 45) (as := [vR 28, vR 2006]) (t1 := (21, [some (vR 31), some (vR 28), some (vR 1), some (vI 1), some (vI 0), none, none, none], [], MW b J L)) cdK18 rfl (con_imp (k_rd_6 l E b I J L hk h0 hs) (rd0 (wdq_ne hq4 (by omega) (by omega) (by omega)))) (by decide) mw_le ?_
    rintro rt9 w9 (⟨rfl, rfl⟩) _ _
    show Rch l E 6 18 _ _ _ _ (21, [some (vR 31), some (vR 28), some (vR 1), some (vI 1), some (vI 0), none, none, none], [vI 0], MW b J L)
    refine rch_run cdK18 (by decide) 2 (t' := (24, [some (vR 31), some (vR 28), some (vR 1), some (vI 1), some (vI 0), some (vI 0), none, none], [vI 1], MW b J L)) (ps := []) rfl trivial ?_
    refine rch_br cdK18 (cd := (1 : Int) ≠ 0) (t1 := (46, [some (vR 31), some (vR 28), some (vR 1), some (vI 1), some (vI 0), some (vI 0), none, none], [], MW b J L)) (t2 := (27, [some (vR 31), some (vR 28), some (vR 1), some (vI 1), some (vI 0), some (vI 0), none, none], [], MW b J L)) rfl (fun _ => ?_) (fun c9 => absurd (by decide) c9)
    refine rch_run cdK18 (by decide) 3 (t' := (52, [some (vR 31), some (vR 28), some (vR 1), some (vI 1), some (vI 0), some (vI 0), none, none], [vI 60, vI (J 1 1)], MW b J L)) (ps := []) rfl trivial ?_
    refine rch_br cdK18 (cd := J 1 1 < (60 : Int)) (t1 := (62, [some (vR 31), some (vR 28), some (vR 1), some (vI 1), some (vI 0), some (vI 0), none, none], [], MW b J L)) (t2 := (55, [some (vR 31), some (vR 28), some (vR 1), some (vI 1), some (vI 0), some (vI 0), none, none], [], MW b J L)) rfl (fun c52_2 => ?_) (fun c52_2 => ?_)
    · refine rch_run cdK18 (by decide) 7 (t' := (73, [some (vR 31), some (vR 28), some (vR 1), some (vI 1), some (vI 0), some (vI 0), none, none], [vR 28], MW b (upI J 1 1 ((J 1 1) + 1)) L)) (ps := [i32 ((J 1 1) + 1)]) rfl (by simp only [all_, i32, i64]; first | omega | (simp; done) | (simp; omega)) ?_
      have hT : isT (I 29) (nTp I) s.1 = true := by first | exact isT_i 4 (by omega) hq4 | exact isT_i 5 (by omega) hq5 | exact isT_i 6 (by omega) hq6 | exact isT_i 7 (by omega) hq7
      have hT2 := isT_2 hn ha hT
      have h60 : s.2.1 < 60 := by omega
      have hs := PSx_tests hk hs h60
      refine rch_call (h' := 2) (k' := 42) (as := [vR 28]) (t1 := (76, [some (vR 31), some (vR 28), some (vR 1), some (vI 1), some (vI 0), some (vI 0), none, none], [], MW b (upI J 1 1 ((J 1 1) + 1)) L)) cdK18 rfl (k_adv l E b I (upI J 1 1 ((J 1 1) + 1)) L hk h0 hs) (by decide) mw_le ?_
      rintro rt9 w9 (⟨J2, rfl, rfl, hs⟩) _ _
      show Rch l E 6 18 _ _ _ _ (76, [some (vR 31), some (vR 28), some (vR 1), some (vI 1), some (vI 0), some (vI 0), none, none], [], MW b J2 L)
      refine rch_run cdK18 (by decide) 1 (t' := (77, [some (vR 31), some (vR 28), some (vR 1), some (vI 1), some (vI 0), some (vI 0), none, none], [vI 1], MW b J2 L)) (ps := []) rfl trivial ?_
      refine rch_br cdK18 (cd := (1 : Int) = 0) (t1 := (89, [some (vR 31), some (vR 28), some (vR 1), some (vI 1), some (vI 0), some (vI 0), none, none], [], MW b J2 L)) (t2 := (80, [some (vR 31), some (vR 28), some (vR 1), some (vI 1), some (vI 0), some (vI 0), none, none], [], MW b J2 L)) rfl (fun c9 => absurd c9 (by decide)) (fun _ => ?_)
      refine rch_run cdK18 (by decide) 4 (t' := (84, [some (vR 31), some (vR 28), some (vR 1), some (vI 1), some (vI 0), some (vI 0), none, none], [vI 0, vI 0, vI 2, vR 1], MW b J2 L)) (ps := []) rfl trivial ?_
      refine rch_call (h' := 1) (k' := 2) (as := [vR 1, vI 2, vI 0, vI 0]) (t1 := (87, [some (vR 31), some (vR 28), some (vR 1), some (vI 1), some (vI 0), some (vI 0), none, none], [], MW b J2 L)) cdK18 rfl (k_push_1 l E b I J2 L (c := 4) hs (by decide) rfl rfl (by have hl9 := hs.1.2.2.1; (try dsimp only at hl9 ⊢); omega)) (by decide) mw_le ?_
      rintro rt9 w9 (⟨J3, rfl, rfl, hs⟩) _ _
      show Rch l E 6 18 _ _ _ _ (87, [some (vR 31), some (vR 28), some (vR 1), some (vI 1), some (vI 0), some (vI 0), none, none], [], MW b J3 L)
      refine rch_run cdK18 (by decide) 1 (t' := (88, [some (vR 31), some (vR 28), some (vR 1), some (vI 1), some (vI 0), some (vI 0), none, none], [vI 1], MW b J3 L)) (ps := []) rfl trivial ?_
      refine rch_ret cdK18 (rt := some (vI 1)) rfl (Or.inr rfl) mw_c ?_
      exact Or.inl ⟨_, _, rfl, pTest_src h60 hq4, rfl, hs⟩
    · refine rch_run cdK18 (by decide) 3 (t' := (58, [some (vR 31), some (vR 28), some (vR 1), some (vI 1), some (vI 0), some (vI 0), none, none], [vI 2, vR 28, vR 31], MW b J L)) (ps := []) rfl trivial ?_
      refine rch_call (h' := 1) (k' := 13) (as := [vR 31, vR 28, vI 2]) (t1 := (61, [some (vR 31), some (vR 28), some (vR 1), some (vI 1), some (vI 0), some (vI 0), none, none], [], MW b J L)) cdK18 rfl (k_stp l E b I J L 2 hk hs) (by decide) mw_le ?_
      rintro rt9 w9 (⟨J4, rfl, rfl, hf⟩) _ _
      show Rch l E 6 18 _ _ _ _ (61, [some (vR 31), some (vR 28), some (vR 1), some (vI 1), some (vI 0), some (vI 0), none, none], [vI 0], MW b J4 L)
      refine rch_ret cdK18 (rt := some (vI 0)) rfl (Or.inl rfl) mw_c ?_
      exact Or.inr ⟨_, _, rfl, pTest_bad (by first | exact Or.inl (isT_f hq4 hq5 hq6 hq7) | exact Or.inr (by omega)), rfl, hf⟩
  · show Rch l E 6 18 _ _ _ _ (6, [some (vR 31), some (vR 28), some (vR 1), none, none, none, none, none], [vI 0], MW b J L)
    refine rch_run cdK18 (by decide) 3 (t' := (10, [some (vR 31), some (vR 28), some (vR 1), some (vI 0), none, none, none, none], [vR 2005, vR 28], MW b J L)) (ps := []) rfl trivial ?_
    refine rch_call (h' := 5) (k' := 45) (as := [vR 28, vR 2005]) (t1 := (13, [some (vR 31), some (vR 28), some (vR 1), some (vI 0), none, none, none, none], [], MW b J L)) cdK18 rfl (k_rd_5 l E b I J L hk h0 hs) (by decide) mw_le ?_
    rintro rt9 w9 (⟨hq5, rfl, rfl⟩ | ⟨hq5, rfl, rfl⟩) _ _
    · show Rch l E 6 18 _ _ _ _ (13, [some (vR 31), some (vR 28), some (vR 1), some (vI 0), none, none, none, none], [vI 1], MW b J L)
      refine rch_run cdK18 (by decide) 3 (t' := (18, [some (vR 31), some (vR 28), some (vR 1), some (vI 0), some (vI 1), none, none, none], [vR 2006, vR 28], MW b J L)) (ps := []) rfl trivial ?_
      refine rch_call (h' := 5) (k' := 45) (as := [vR 28, vR 2006]) (t1 := (21, [some (vR 31), some (vR 28), some (vR 1), some (vI 0), some (vI 1), none, none, none], [], MW b J L)) cdK18 rfl (con_imp (k_rd_6 l E b I J L hk h0 hs) (rd0 (wdq_ne hq5 (by omega) (by omega) (by omega)))) (by decide) mw_le ?_
      rintro rt9 w9 (⟨rfl, rfl⟩) _ _
      show Rch l E 6 18 _ _ _ _ (21, [some (vR 31), some (vR 28), some (vR 1), some (vI 0), some (vI 1), none, none, none], [vI 0], MW b J L)
      refine rch_run cdK18 (by decide) 2 (t' := (24, [some (vR 31), some (vR 28), some (vR 1), some (vI 0), some (vI 1), some (vI 0), none, none], [vI 0], MW b J L)) (ps := []) rfl trivial ?_
      refine rch_br cdK18 (cd := (0 : Int) ≠ 0) (t1 := (46, [some (vR 31), some (vR 28), some (vR 1), some (vI 0), some (vI 1), some (vI 0), none, none], [], MW b J L)) (t2 := (27, [some (vR 31), some (vR 28), some (vR 1), some (vI 0), some (vI 1), some (vI 0), none, none], [], MW b J L)) rfl (fun c9 => absurd c9 (by decide)) (fun _ => ?_)
      refine rch_run cdK18 (by decide) 1 (t' := (29, [some (vR 31), some (vR 28), some (vR 1), some (vI 0), some (vI 1), some (vI 0), none, none], [vI 1], MW b J L)) (ps := []) rfl trivial ?_
      refine rch_br cdK18 (cd := (1 : Int) ≠ 0) (t1 := (46, [some (vR 31), some (vR 28), some (vR 1), some (vI 0), some (vI 1), some (vI 0), none, none], [], MW b J L)) (t2 := (32, [some (vR 31), some (vR 28), some (vR 1), some (vI 0), some (vI 1), some (vI 0), none, none], [], MW b J L)) rfl (fun _ => ?_) (fun c9 => absurd (by decide) c9)
      refine rch_run cdK18 (by decide) 3 (t' := (52, [some (vR 31), some (vR 28), some (vR 1), some (vI 0), some (vI 1), some (vI 0), none, none], [vI 60, vI (J 1 1)], MW b J L)) (ps := []) rfl trivial ?_
      refine rch_br cdK18 (cd := J 1 1 < (60 : Int)) (t1 := (62, [some (vR 31), some (vR 28), some (vR 1), some (vI 0), some (vI 1), some (vI 0), none, none], [], MW b J L)) (t2 := (55, [some (vR 31), some (vR 28), some (vR 1), some (vI 0), some (vI 1), some (vI 0), none, none], [], MW b J L)) rfl (fun c52_6 => ?_) (fun c52_6 => ?_)
      · refine rch_run cdK18 (by decide) 7 (t' := (73, [some (vR 31), some (vR 28), some (vR 1), some (vI 0), some (vI 1), some (vI 0), none, none], [vR 28], MW b (upI J 1 1 ((J 1 1) + 1)) L)) (ps := [i32 ((J 1 1) + 1)]) rfl (by simp only [all_, i32, i64]; first | omega | (simp; done) | (simp; omega)) ?_
        have hT : isT (I 29) (nTp I) s.1 = true := by first | exact isT_i 4 (by omega) hq4 | exact isT_i 5 (by omega) hq5 | exact isT_i 6 (by omega) hq6 | exact isT_i 7 (by omega) hq7
        have hT2 := isT_2 hn ha hT
        have h60 : s.2.1 < 60 := by omega
        have hs := PSx_tests hk hs h60
        refine rch_call (h' := 2) (k' := 42) (as := [vR 28]) (t1 := (76, [some (vR 31), some (vR 28), some (vR 1), some (vI 0), some (vI 1), some (vI 0), none, none], [], MW b (upI J 1 1 ((J 1 1) + 1)) L)) cdK18 rfl (k_adv l E b I (upI J 1 1 ((J 1 1) + 1)) L hk h0 hs) (by decide) mw_le ?_
        rintro rt9 w9 (⟨J5, rfl, rfl, hs⟩) _ _
        show Rch l E 6 18 _ _ _ _ (76, [some (vR 31), some (vR 28), some (vR 1), some (vI 0), some (vI 1), some (vI 0), none, none], [], MW b J5 L)
        refine rch_run cdK18 (by decide) 1 (t' := (77, [some (vR 31), some (vR 28), some (vR 1), some (vI 0), some (vI 1), some (vI 0), none, none], [vI 0], MW b J5 L)) (ps := []) rfl trivial ?_
        refine rch_br cdK18 (cd := (0 : Int) = 0) (t1 := (89, [some (vR 31), some (vR 28), some (vR 1), some (vI 0), some (vI 1), some (vI 0), none, none], [], MW b J5 L)) (t2 := (80, [some (vR 31), some (vR 28), some (vR 1), some (vI 0), some (vI 1), some (vI 0), none, none], [], MW b J5 L)) rfl (fun _ => ?_) (fun c9 => absurd (by decide) c9)
        refine rch_run cdK18 (by decide) 4 (t' := (93, [some (vR 31), some (vR 28), some (vR 1), some (vI 0), some (vI 1), some (vI 0), none, none], [vI 5, vI 0, vR 28, vR 31], MW b J5 L)) (ps := []) rfl trivial ?_
        refine rch_call (h' := 2) (k' := 15) (as := [vR 31, vR 28, vI 0, vI 5]) (t1 := (96, [some (vR 31), some (vR 28), some (vR 1), some (vI 0), some (vI 1), some (vI 0), none, none], [], MW b J5 L)) cdK18 rfl (k_num_1 l E b I J5 L 0 5 h0 hs) (by decide) mw_le ?_
        rintro rt9 w9 (⟨hp1, rfl, rfl⟩ | ⟨J6, f9, hp1, rfl, rfl, hf⟩) _ _
        · show Rch l E 6 18 _ _ _ _ (96, [some (vR 31), some (vR 28), some (vR 1), some (vI 0), some (vI 1), some (vI 0), none, none], [vI 1], MW b J5 L)
          have hv1v := hs.1.2.1.2.2.2 (pNum_3 hp1).1
          refine rch_br cdK18 (cd := (1 : Int) ≠ 0) (t1 := (101, [some (vR 31), some (vR 28), some (vR 1), some (vI 0), some (vI 1), some (vI 0), none, none], [], MW b J5 L)) (t2 := (99, [some (vR 31), some (vR 28), some (vR 1), some (vI 0), some (vI 1), some (vI 0), none, none], [], MW b J5 L)) rfl (fun _ => ?_) (fun c9 => absurd (by decide) c9)
          refine rch_run cdK18 (by decide) 4 (t' := (108, [some (vR 31), some (vR 28), some (vR 1), some (vI 0), some (vI 1), some (vI 0), some (vI (J5 28 3)), none], [vR 28], MW b J5 L)) (ps := []) rfl trivial ?_
          refine rch_call (h' := 2) (k' := 42) (as := [vR 28]) (t1 := (111, [some (vR 31), some (vR 28), some (vR 1), some (vI 0), some (vI 1), some (vI 0), some (vI (J5 28 3)), none], [], MW b J5 L)) cdK18 rfl (k_adv l E b I J5 L hk h0 hs) (by decide) mw_le ?_
          rintro rt9 w9 (⟨J7, rfl, rfl, hs⟩) _ _
          show Rch l E 6 18 _ _ _ _ (111, [some (vR 31), some (vR 28), some (vR 1), some (vI 0), some (vI 1), some (vI 0), some (vI (J5 28 3)), none], [], MW b J7 L)
          refine rch_run cdK18 (by decide) 3 (t' := (116, [some (vR 31), some (vR 28), some (vR 1), some (vI 0), some (vI 1), some (vI 0), some (vI (J5 28 3)), some (vI 0)], [vI 0], MW b J7 L)) (ps := []) rfl trivial ?_
          refine rch_br cdK18 (cd := (0 : Int) = 0) (t1 := (142, [some (vR 31), some (vR 28), some (vR 1), some (vI 0), some (vI 1), some (vI 0), some (vI (J5 28 3)), some (vI 0)], [], MW b J7 L)) (t2 := (119, [some (vR 31), some (vR 28), some (vR 1), some (vI 0), some (vI 1), some (vI 0), some (vI (J5 28 3)), some (vI 0)], [], MW b J7 L)) rfl (fun _ => ?_) (fun c9 => absurd (by decide) c9)
          refine rch_run cdK18 (by decide) 2 (t' := (145, [some (vR 31), some (vR 28), some (vR 1), some (vI 0), some (vI 1), some (vI 0), some (vI (J5 28 3)), some (vI 0)], [vI 1, vR 1], MW b J7 L)) (ps := []) rfl trivial ?_
          refine rch_br cdK18 (cd := (1 : Int) = 0) (t1 := (152, [some (vR 31), some (vR 28), some (vR 1), some (vI 0), some (vI 1), some (vI 0), some (vI (J5 28 3)), some (vI 0)], [vR 1], MW b J7 L)) (t2 := (148, [some (vR 31), some (vR 28), some (vR 1), some (vI 0), some (vI 1), some (vI 0), some (vI (J5 28 3)), some (vI 0)], [vR 1], MW b J7 L)) rfl (fun c9 => absurd c9 (by decide)) (fun _ => ?_)
          refine rch_run cdK18 (by decide) 4 (t' := (157, [some (vR 31), some (vR 28), some (vR 1), some (vI 0), some (vI 1), some (vI 0), some (vI (J5 28 3)), some (vI 0)], [vI 0, vI (J5 28 3), vI 1, vR 1], MW b J7 L)) (ps := []) rfl trivial ?_
          refine rch_call (h' := 1) (k' := 2) (as := [vR 1, vI 1, vI (J5 28 3), vI 0]) (t1 := (160, [some (vR 31), some (vR 28), some (vR 1), some (vI 0), some (vI 1), some (vI 0), some (vI (J5 28 3)), some (vI 0)], [], MW b J7 L)) cdK18 rfl (k_push_1 l E b I J7 L (c := 3) hs (by decide) hv1v rfl (by have hl9 := hs.1.2.2.1; (try dsimp only at hl9 ⊢); omega)) (by decide) mw_le ?_
          rintro rt9 w9 (⟨J8, rfl, rfl, hs⟩) _ _
          show Rch l E 6 18 _ _ _ _ (160, [some (vR 31), some (vR 28), some (vR 1), some (vI 0), some (vI 1), some (vI 0), some (vI (J5 28 3)), some (vI 0)], [], MW b J8 L)
          refine rch_run cdK18 (by decide) 1 (t' := (161, [some (vR 31), some (vR 28), some (vR 1), some (vI 0), some (vI 1), some (vI 0), some (vI (J5 28 3)), some (vI 0)], [vI 1], MW b J8 L)) (ps := []) rfl trivial ?_
          refine rch_ret cdK18 (rt := some (vI 1)) rfl (Or.inr rfl) mw_c ?_
          exact Or.inl ⟨_, _, rfl, pTest_la h60 hq5 hp1, rfl, hs⟩
        · show Rch l E 6 18 _ _ _ _ (96, [some (vR 31), some (vR 28), some (vR 1), some (vI 0), some (vI 1), some (vI 0), none, none], [vI 0], MW b J6 L)
          refine rch_br cdK18 (cd := (0 : Int) ≠ 0) (t1 := (101, [some (vR 31), some (vR 28), some (vR 1), some (vI 0), some (vI 1), some (vI 0), none, none], [], MW b J6 L)) (t2 := (99, [some (vR 31), some (vR 28), some (vR 1), some (vI 0), some (vI 1), some (vI 0), none, none], [], MW b J6 L)) rfl (fun c9 => absurd c9 (by decide)) (fun _ => ?_)
          refine rch_run cdK18 (by decide) 1 (t' := (100, [some (vR 31), some (vR 28), some (vR 1), some (vI 0), some (vI 1), some (vI 0), none, none], [vI 0], MW b J6 L)) (ps := []) rfl trivial ?_
          refine rch_ret cdK18 (rt := some (vI 0)) rfl (Or.inl rfl) mw_c ?_
          exact Or.inr ⟨_, _, rfl, pTest_n1 hT h60 (by first | exact hq4 | exact wdq_ne hq5 (by omega) (by omega) (by omega) | exact wdq_ne hq6 (by omega) (by omega) (by omega) | exact wdq_ne hq7 (by omega) (by omega) (by omega)) hp1, rfl, hf⟩
      · refine rch_run cdK18 (by decide) 3 (t' := (58, [some (vR 31), some (vR 28), some (vR 1), some (vI 0), some (vI 1), some (vI 0), none, none], [vI 2, vR 28, vR 31], MW b J L)) (ps := []) rfl trivial ?_
        refine rch_call (h' := 1) (k' := 13) (as := [vR 31, vR 28, vI 2]) (t1 := (61, [some (vR 31), some (vR 28), some (vR 1), some (vI 0), some (vI 1), some (vI 0), none, none], [], MW b J L)) cdK18 rfl (k_stp l E b I J L 2 hk hs) (by decide) mw_le ?_
        rintro rt9 w9 (⟨J9, rfl, rfl, hf⟩) _ _
        show Rch l E 6 18 _ _ _ _ (61, [some (vR 31), some (vR 28), some (vR 1), some (vI 0), some (vI 1), some (vI 0), none, none], [vI 0], MW b J9 L)
        refine rch_ret cdK18 (rt := some (vI 0)) rfl (Or.inl rfl) mw_c ?_
        exact Or.inr ⟨_, _, rfl, pTest_bad (by first | exact Or.inl (isT_f hq4 hq5 hq6 hq7) | exact Or.inr (by omega)), rfl, hf⟩
    · show Rch l E 6 18 _ _ _ _ (13, [some (vR 31), some (vR 28), some (vR 1), some (vI 0), none, none, none, none], [vI 0], MW b J L)
      refine rch_run cdK18 (by decide) 3 (t' := (18, [some (vR 31), some (vR 28), some (vR 1), some (vI 0), some (vI 0), none, none, none], [vR 2006, vR 28], MW b J L)) (ps := []) rfl trivial ?_
      refine rch_call (h' := 5) (k' := 45) (as := [vR 28, vR 2006]) (t1 := (21, [some (vR 31), some (vR 28), some (vR 1), some (vI 0), some (vI 0), none, none, none], [], MW b J L)) cdK18 rfl (k_rd_6 l E b I J L hk h0 hs) (by decide) mw_le ?_
      rintro rt9 w9 (⟨hq6, rfl, rfl⟩ | ⟨hq6, rfl, rfl⟩) _ _
      · show Rch l E 6 18 _ _ _ _ (21, [some (vR 31), some (vR 28), some (vR 1), some (vI 0), some (vI 0), none, none, none], [vI 1], MW b J L)
        refine rch_run cdK18 (by decide) 2 (t' := (24, [some (vR 31), some (vR 28), some (vR 1), some (vI 0), some (vI 0), some (vI 1), none, none], [vI 0], MW b J L)) (ps := []) rfl trivial ?_
        refine rch_br cdK18 (cd := (0 : Int) ≠ 0) (t1 := (46, [some (vR 31), some (vR 28), some (vR 1), some (vI 0), some (vI 0), some (vI 1), none, none], [], MW b J L)) (t2 := (27, [some (vR 31), some (vR 28), some (vR 1), some (vI 0), some (vI 0), some (vI 1), none, none], [], MW b J L)) rfl (fun c9 => absurd c9 (by decide)) (fun _ => ?_)
        refine rch_run cdK18 (by decide) 1 (t' := (29, [some (vR 31), some (vR 28), some (vR 1), some (vI 0), some (vI 0), some (vI 1), none, none], [vI 0], MW b J L)) (ps := []) rfl trivial ?_
        refine rch_br cdK18 (cd := (0 : Int) ≠ 0) (t1 := (46, [some (vR 31), some (vR 28), some (vR 1), some (vI 0), some (vI 0), some (vI 1), none, none], [], MW b J L)) (t2 := (32, [some (vR 31), some (vR 28), some (vR 1), some (vI 0), some (vI 0), some (vI 1), none, none], [], MW b J L)) rfl (fun c9 => absurd c9 (by decide)) (fun _ => ?_)
        refine rch_run cdK18 (by decide) 1 (t' := (34, [some (vR 31), some (vR 28), some (vR 1), some (vI 0), some (vI 0), some (vI 1), none, none], [vI 1], MW b J L)) (ps := []) rfl trivial ?_
        refine rch_br cdK18 (cd := (1 : Int) ≠ 0) (t1 := (46, [some (vR 31), some (vR 28), some (vR 1), some (vI 0), some (vI 0), some (vI 1), none, none], [], MW b J L)) (t2 := (37, [some (vR 31), some (vR 28), some (vR 1), some (vI 0), some (vI 0), some (vI 1), none, none], [], MW b J L)) rfl (fun _ => ?_) (fun c9 => absurd (by decide) c9)
        refine rch_run cdK18 (by decide) 3 (t' := (52, [some (vR 31), some (vR 28), some (vR 1), some (vI 0), some (vI 0), some (vI 1), none, none], [vI 60, vI (J 1 1)], MW b J L)) (ps := []) rfl trivial ?_
        refine rch_br cdK18 (cd := J 1 1 < (60 : Int)) (t1 := (62, [some (vR 31), some (vR 28), some (vR 1), some (vI 0), some (vI 0), some (vI 1), none, none], [], MW b J L)) (t2 := (55, [some (vR 31), some (vR 28), some (vR 1), some (vI 0), some (vI 0), some (vI 1), none, none], [], MW b J L)) rfl (fun c52_15 => ?_) (fun c52_15 => ?_)
        · refine rch_run cdK18 (by decide) 7 (t' := (73, [some (vR 31), some (vR 28), some (vR 1), some (vI 0), some (vI 0), some (vI 1), none, none], [vR 28], MW b (upI J 1 1 ((J 1 1) + 1)) L)) (ps := [i32 ((J 1 1) + 1)]) rfl (by simp only [all_, i32, i64]; first | omega | (simp; done) | (simp; omega)) ?_
          have hT : isT (I 29) (nTp I) s.1 = true := by first | exact isT_i 4 (by omega) hq4 | exact isT_i 5 (by omega) hq5 | exact isT_i 6 (by omega) hq6 | exact isT_i 7 (by omega) hq7
          have hT2 := isT_2 hn ha hT
          have h60 : s.2.1 < 60 := by omega
          have hs := PSx_tests hk hs h60
          refine rch_call (h' := 2) (k' := 42) (as := [vR 28]) (t1 := (76, [some (vR 31), some (vR 28), some (vR 1), some (vI 0), some (vI 0), some (vI 1), none, none], [], MW b (upI J 1 1 ((J 1 1) + 1)) L)) cdK18 rfl (k_adv l E b I (upI J 1 1 ((J 1 1) + 1)) L hk h0 hs) (by decide) mw_le ?_
          rintro rt9 w9 (⟨J10, rfl, rfl, hs⟩) _ _
          show Rch l E 6 18 _ _ _ _ (76, [some (vR 31), some (vR 28), some (vR 1), some (vI 0), some (vI 0), some (vI 1), none, none], [], MW b J10 L)
          refine rch_run cdK18 (by decide) 1 (t' := (77, [some (vR 31), some (vR 28), some (vR 1), some (vI 0), some (vI 0), some (vI 1), none, none], [vI 0], MW b J10 L)) (ps := []) rfl trivial ?_
          refine rch_br cdK18 (cd := (0 : Int) = 0) (t1 := (89, [some (vR 31), some (vR 28), some (vR 1), some (vI 0), some (vI 0), some (vI 1), none, none], [], MW b J10 L)) (t2 := (80, [some (vR 31), some (vR 28), some (vR 1), some (vI 0), some (vI 0), some (vI 1), none, none], [], MW b J10 L)) rfl (fun _ => ?_) (fun c9 => absurd (by decide) c9)
          refine rch_run cdK18 (by decide) 4 (t' := (93, [some (vR 31), some (vR 28), some (vR 1), some (vI 0), some (vI 0), some (vI 1), none, none], [vI 5, vI 0, vR 28, vR 31], MW b J10 L)) (ps := []) rfl trivial ?_
          refine rch_call (h' := 2) (k' := 15) (as := [vR 31, vR 28, vI 0, vI 5]) (t1 := (96, [some (vR 31), some (vR 28), some (vR 1), some (vI 0), some (vI 0), some (vI 1), none, none], [], MW b J10 L)) cdK18 rfl (k_num_1 l E b I J10 L 0 5 h0 hs) (by decide) mw_le ?_
          rintro rt9 w9 (⟨hp1, rfl, rfl⟩ | ⟨J11, f9, hp1, rfl, rfl, hf⟩) _ _
          · show Rch l E 6 18 _ _ _ _ (96, [some (vR 31), some (vR 28), some (vR 1), some (vI 0), some (vI 0), some (vI 1), none, none], [vI 1], MW b J10 L)
            have hv1v := hs.1.2.1.2.2.2 (pNum_3 hp1).1
            refine rch_br cdK18 (cd := (1 : Int) ≠ 0) (t1 := (101, [some (vR 31), some (vR 28), some (vR 1), some (vI 0), some (vI 0), some (vI 1), none, none], [], MW b J10 L)) (t2 := (99, [some (vR 31), some (vR 28), some (vR 1), some (vI 0), some (vI 0), some (vI 1), none, none], [], MW b J10 L)) rfl (fun _ => ?_) (fun c9 => absurd (by decide) c9)
            refine rch_run cdK18 (by decide) 4 (t' := (108, [some (vR 31), some (vR 28), some (vR 1), some (vI 0), some (vI 0), some (vI 1), some (vI (J10 28 3)), none], [vR 28], MW b J10 L)) (ps := []) rfl trivial ?_
            refine rch_call (h' := 2) (k' := 42) (as := [vR 28]) (t1 := (111, [some (vR 31), some (vR 28), some (vR 1), some (vI 0), some (vI 0), some (vI 1), some (vI (J10 28 3)), none], [], MW b J10 L)) cdK18 rfl (k_adv l E b I J10 L hk h0 hs) (by decide) mw_le ?_
            rintro rt9 w9 (⟨J12, rfl, rfl, hs⟩) _ _
            show Rch l E 6 18 _ _ _ _ (111, [some (vR 31), some (vR 28), some (vR 1), some (vI 0), some (vI 0), some (vI 1), some (vI (J10 28 3)), none], [], MW b J12 L)
            refine rch_run cdK18 (by decide) 3 (t' := (116, [some (vR 31), some (vR 28), some (vR 1), some (vI 0), some (vI 0), some (vI 1), some (vI (J10 28 3)), some (vI 0)], [vI 1], MW b J12 L)) (ps := []) rfl trivial ?_
            refine rch_br cdK18 (cd := (1 : Int) = 0) (t1 := (142, [some (vR 31), some (vR 28), some (vR 1), some (vI 0), some (vI 0), some (vI 1), some (vI (J10 28 3)), some (vI 0)], [], MW b J12 L)) (t2 := (119, [some (vR 31), some (vR 28), some (vR 1), some (vI 0), some (vI 0), some (vI 1), some (vI (J10 28 3)), some (vI 0)], [], MW b J12 L)) rfl (fun c9 => absurd c9 (by decide)) (fun _ => ?_)
            refine rch_run cdK18 (by decide) 4 (t' := (124, [some (vR 31), some (vR 28), some (vR 1), some (vI 0), some (vI 0), some (vI 1), some (vI (J10 28 3)), some (vI 0)], [vI 999999, vI 0, vR 28, vR 31], MW b J12 L)) (ps := []) rfl trivial ?_
            refine rch_call (h' := 2) (k' := 15) (as := [vR 31, vR 28, vI 0, vI 999999]) (t1 := (127, [some (vR 31), some (vR 28), some (vR 1), some (vI 0), some (vI 0), some (vI 1), some (vI (J10 28 3)), some (vI 0)], [], MW b J12 L)) cdK18 rfl (k_num_1 l E b I J12 L 0 999999 h0 hs) (by decide) mw_le ?_
            rintro rt9 w9 (⟨hp2, rfl, rfl⟩ | ⟨J13, f9, hp2, rfl, rfl, hf⟩) _ _
            · show Rch l E 6 18 _ _ _ _ (127, [some (vR 31), some (vR 28), some (vR 1), some (vI 0), some (vI 0), some (vI 1), some (vI (J10 28 3)), some (vI 0)], [vI 1], MW b J12 L)
              have hv2v := hs.1.2.1.2.2.2 (pNum_3 hp2).1
              refine rch_br cdK18 (cd := (1 : Int) ≠ 0) (t1 := (132, [some (vR 31), some (vR 28), some (vR 1), some (vI 0), some (vI 0), some (vI 1), some (vI (J10 28 3)), some (vI 0)], [], MW b J12 L)) (t2 := (130, [some (vR 31), some (vR 28), some (vR 1), some (vI 0), some (vI 0), some (vI 1), some (vI (J10 28 3)), some (vI 0)], [], MW b J12 L)) rfl (fun _ => ?_) (fun c9 => absurd (by decide) c9)
              refine rch_run cdK18 (by decide) 4 (t' := (139, [some (vR 31), some (vR 28), some (vR 1), some (vI 0), some (vI 0), some (vI 1), some (vI (J10 28 3)), some (vI (J12 28 3))], [vR 28], MW b J12 L)) (ps := []) rfl trivial ?_
              refine rch_call (h' := 2) (k' := 42) (as := [vR 28]) (t1 := (142, [some (vR 31), some (vR 28), some (vR 1), some (vI 0), some (vI 0), some (vI 1), some (vI (J10 28 3)), some (vI (J12 28 3))], [], MW b J12 L)) cdK18 rfl (k_adv l E b I J12 L hk h0 hs) (by decide) mw_le ?_
              rintro rt9 w9 (⟨J14, rfl, rfl, hs⟩) _ _
              show Rch l E 6 18 _ _ _ _ (142, [some (vR 31), some (vR 28), some (vR 1), some (vI 0), some (vI 0), some (vI 1), some (vI (J10 28 3)), some (vI (J12 28 3))], [], MW b J14 L)
              refine rch_run cdK18 (by decide) 2 (t' := (145, [some (vR 31), some (vR 28), some (vR 1), some (vI 0), some (vI 0), some (vI 1), some (vI (J10 28 3)), some (vI (J12 28 3))], [vI 0, vR 1], MW b J14 L)) (ps := []) rfl trivial ?_
              refine rch_br cdK18 (cd := (0 : Int) = 0) (t1 := (152, [some (vR 31), some (vR 28), some (vR 1), some (vI 0), some (vI 0), some (vI 1), some (vI (J10 28 3)), some (vI (J12 28 3))], [vR 1], MW b J14 L)) (t2 := (148, [some (vR 31), some (vR 28), some (vR 1), some (vI 0), some (vI 0), some (vI 1), some (vI (J10 28 3)), some (vI (J12 28 3))], [vR 1], MW b J14 L)) rfl (fun _ => ?_) (fun c9 => absurd (by decide) c9)
              refine rch_run cdK18 (by decide) 3 (t' := (157, [some (vR 31), some (vR 28), some (vR 1), some (vI 0), some (vI 0), some (vI 1), some (vI (J10 28 3)), some (vI (J12 28 3))], [vI (J12 28 3), vI (J10 28 3), vI 0, vR 1], MW b J14 L)) (ps := []) rfl trivial ?_
              refine rch_call (h' := 1) (k' := 2) (as := [vR 1, vI 0, vI (J10 28 3), vI (J12 28 3)]) (t1 := (160, [some (vR 31), some (vR 28), some (vR 1), some (vI 0), some (vI 0), some (vI 1), some (vI (J10 28 3)), some (vI (J12 28 3))], [], MW b J14 L)) cdK18 rfl (k_push_1 l E b I J14 L (c := 2) hs (by decide) hv1v hv2v (by have hl9 := hs.1.2.2.1; (try dsimp only at hl9 ⊢); omega)) (by decide) mw_le ?_
              rintro rt9 w9 (⟨J15, rfl, rfl, hs⟩) _ _
              show Rch l E 6 18 _ _ _ _ (160, [some (vR 31), some (vR 28), some (vR 1), some (vI 0), some (vI 0), some (vI 1), some (vI (J10 28 3)), some (vI (J12 28 3))], [], MW b J15 L)
              refine rch_run cdK18 (by decide) 1 (t' := (161, [some (vR 31), some (vR 28), some (vR 1), some (vI 0), some (vI 0), some (vI 1), some (vI (J10 28 3)), some (vI (J12 28 3))], [vI 1], MW b J15 L)) (ps := []) rfl trivial ?_
              refine rch_ret cdK18 (rt := some (vI 1)) rfl (Or.inr rfl) mw_c ?_
              exact Or.inl ⟨_, _, rfl, pTest_nr h60 hq6 hp1 hp2, rfl, hs⟩
            · show Rch l E 6 18 _ _ _ _ (127, [some (vR 31), some (vR 28), some (vR 1), some (vI 0), some (vI 0), some (vI 1), some (vI (J10 28 3)), some (vI 0)], [vI 0], MW b J13 L)
              refine rch_br cdK18 (cd := (0 : Int) ≠ 0) (t1 := (132, [some (vR 31), some (vR 28), some (vR 1), some (vI 0), some (vI 0), some (vI 1), some (vI (J10 28 3)), some (vI 0)], [], MW b J13 L)) (t2 := (130, [some (vR 31), some (vR 28), some (vR 1), some (vI 0), some (vI 0), some (vI 1), some (vI (J10 28 3)), some (vI 0)], [], MW b J13 L)) rfl (fun c9 => absurd c9 (by decide)) (fun _ => ?_)
              refine rch_run cdK18 (by decide) 1 (t' := (131, [some (vR 31), some (vR 28), some (vR 1), some (vI 0), some (vI 0), some (vI 1), some (vI (J10 28 3)), some (vI 0)], [vI 0], MW b J13 L)) (ps := []) rfl trivial ?_
              refine rch_ret cdK18 (rt := some (vI 0)) rfl (Or.inl rfl) mw_c ?_
              exact Or.inr ⟨_, _, rfl, pTest_n2 h60 hq6 hp1 hp2, rfl, hf⟩
          · show Rch l E 6 18 _ _ _ _ (96, [some (vR 31), some (vR 28), some (vR 1), some (vI 0), some (vI 0), some (vI 1), none, none], [vI 0], MW b J11 L)
            refine rch_br cdK18 (cd := (0 : Int) ≠ 0) (t1 := (101, [some (vR 31), some (vR 28), some (vR 1), some (vI 0), some (vI 0), some (vI 1), none, none], [], MW b J11 L)) (t2 := (99, [some (vR 31), some (vR 28), some (vR 1), some (vI 0), some (vI 0), some (vI 1), none, none], [], MW b J11 L)) rfl (fun c9 => absurd c9 (by decide)) (fun _ => ?_)
            refine rch_run cdK18 (by decide) 1 (t' := (100, [some (vR 31), some (vR 28), some (vR 1), some (vI 0), some (vI 0), some (vI 1), none, none], [vI 0], MW b J11 L)) (ps := []) rfl trivial ?_
            refine rch_ret cdK18 (rt := some (vI 0)) rfl (Or.inl rfl) mw_c ?_
            exact Or.inr ⟨_, _, rfl, pTest_n1 hT h60 (by first | exact hq4 | exact wdq_ne hq5 (by omega) (by omega) (by omega) | exact wdq_ne hq6 (by omega) (by omega) (by omega) | exact wdq_ne hq7 (by omega) (by omega) (by omega)) hp1, rfl, hf⟩
        · refine rch_run cdK18 (by decide) 3 (t' := (58, [some (vR 31), some (vR 28), some (vR 1), some (vI 0), some (vI 0), some (vI 1), none, none], [vI 2, vR 28, vR 31], MW b J L)) (ps := []) rfl trivial ?_
          refine rch_call (h' := 1) (k' := 13) (as := [vR 31, vR 28, vI 2]) (t1 := (61, [some (vR 31), some (vR 28), some (vR 1), some (vI 0), some (vI 0), some (vI 1), none, none], [], MW b J L)) cdK18 rfl (k_stp l E b I J L 2 hk hs) (by decide) mw_le ?_
          rintro rt9 w9 (⟨J16, rfl, rfl, hf⟩) _ _
          show Rch l E 6 18 _ _ _ _ (61, [some (vR 31), some (vR 28), some (vR 1), some (vI 0), some (vI 0), some (vI 1), none, none], [vI 0], MW b J16 L)
          refine rch_ret cdK18 (rt := some (vI 0)) rfl (Or.inl rfl) mw_c ?_
          exact Or.inr ⟨_, _, rfl, pTest_bad (by first | exact Or.inl (isT_f hq4 hq5 hq6 hq7) | exact Or.inr (by omega)), rfl, hf⟩
      · show Rch l E 6 18 _ _ _ _ (21, [some (vR 31), some (vR 28), some (vR 1), some (vI 0), some (vI 0), none, none, none], [vI 0], MW b J L)
        refine rch_run cdK18 (by decide) 2 (t' := (24, [some (vR 31), some (vR 28), some (vR 1), some (vI 0), some (vI 0), some (vI 0), none, none], [vI 0], MW b J L)) (ps := []) rfl trivial ?_
        refine rch_br cdK18 (cd := (0 : Int) ≠ 0) (t1 := (46, [some (vR 31), some (vR 28), some (vR 1), some (vI 0), some (vI 0), some (vI 0), none, none], [], MW b J L)) (t2 := (27, [some (vR 31), some (vR 28), some (vR 1), some (vI 0), some (vI 0), some (vI 0), none, none], [], MW b J L)) rfl (fun c9 => absurd c9 (by decide)) (fun _ => ?_)
        refine rch_run cdK18 (by decide) 1 (t' := (29, [some (vR 31), some (vR 28), some (vR 1), some (vI 0), some (vI 0), some (vI 0), none, none], [vI 0], MW b J L)) (ps := []) rfl trivial ?_
        refine rch_br cdK18 (cd := (0 : Int) ≠ 0) (t1 := (46, [some (vR 31), some (vR 28), some (vR 1), some (vI 0), some (vI 0), some (vI 0), none, none], [], MW b J L)) (t2 := (32, [some (vR 31), some (vR 28), some (vR 1), some (vI 0), some (vI 0), some (vI 0), none, none], [], MW b J L)) rfl (fun c9 => absurd c9 (by decide)) (fun _ => ?_)
        refine rch_run cdK18 (by decide) 1 (t' := (34, [some (vR 31), some (vR 28), some (vR 1), some (vI 0), some (vI 0), some (vI 0), none, none], [vI 0], MW b J L)) (ps := []) rfl trivial ?_
        refine rch_br cdK18 (cd := (0 : Int) ≠ 0) (t1 := (46, [some (vR 31), some (vR 28), some (vR 1), some (vI 0), some (vI 0), some (vI 0), none, none], [], MW b J L)) (t2 := (37, [some (vR 31), some (vR 28), some (vR 1), some (vI 0), some (vI 0), some (vI 0), none, none], [], MW b J L)) rfl (fun c9 => absurd c9 (by decide)) (fun _ => ?_)
        refine rch_run cdK18 (by decide) 2 (t' := (40, [some (vR 31), some (vR 28), some (vR 1), some (vI 0), some (vI 0), some (vI 0), none, none], [vR 2007, vR 28], MW b J L)) (ps := []) rfl trivial ?_
        refine rch_call (h' := 5) (k' := 45) (as := [vR 28, vR 2007]) (t1 := (43, [some (vR 31), some (vR 28), some (vR 1), some (vI 0), some (vI 0), some (vI 0), none, none], [], MW b J L)) cdK18 rfl (k_rd_7 l E b I J L hk h0 hs) (by decide) mw_le ?_
        rintro rt9 w9 (⟨hq7, rfl, rfl⟩ | ⟨hq7, rfl, rfl⟩) _ _
        · show Rch l E 6 18 _ _ _ _ (43, [some (vR 31), some (vR 28), some (vR 1), some (vI 0), some (vI 0), some (vI 0), none, none], [vI 1], MW b J L)
          refine rch_br cdK18 (cd := (1 : Int) = 0) (t1 := (55, [some (vR 31), some (vR 28), some (vR 1), some (vI 0), some (vI 0), some (vI 0), none, none], [], MW b J L)) (t2 := (46, [some (vR 31), some (vR 28), some (vR 1), some (vI 0), some (vI 0), some (vI 0), none, none], [], MW b J L)) rfl (fun c9 => absurd c9 (by decide)) (fun _ => ?_)
          refine rch_run cdK18 (by decide) 3 (t' := (52, [some (vR 31), some (vR 28), some (vR 1), some (vI 0), some (vI 0), some (vI 0), none, none], [vI 60, vI (J 1 1)], MW b J L)) (ps := []) rfl trivial ?_
          refine rch_br cdK18 (cd := J 1 1 < (60 : Int)) (t1 := (62, [some (vR 31), some (vR 28), some (vR 1), some (vI 0), some (vI 0), some (vI 0), none, none], [], MW b J L)) (t2 := (55, [some (vR 31), some (vR 28), some (vR 1), some (vI 0), some (vI 0), some (vI 0), none, none], [], MW b J L)) rfl (fun c52_27 => ?_) (fun c52_27 => ?_)
          · refine rch_run cdK18 (by decide) 7 (t' := (73, [some (vR 31), some (vR 28), some (vR 1), some (vI 0), some (vI 0), some (vI 0), none, none], [vR 28], MW b (upI J 1 1 ((J 1 1) + 1)) L)) (ps := [i32 ((J 1 1) + 1)]) rfl (by simp only [all_, i32, i64]; first | omega | (simp; done) | (simp; omega)) ?_
            have hT : isT (I 29) (nTp I) s.1 = true := by first | exact isT_i 4 (by omega) hq4 | exact isT_i 5 (by omega) hq5 | exact isT_i 6 (by omega) hq6 | exact isT_i 7 (by omega) hq7
            have hT2 := isT_2 hn ha hT
            have h60 : s.2.1 < 60 := by omega
            have hs := PSx_tests hk hs h60
            refine rch_call (h' := 2) (k' := 42) (as := [vR 28]) (t1 := (76, [some (vR 31), some (vR 28), some (vR 1), some (vI 0), some (vI 0), some (vI 0), none, none], [], MW b (upI J 1 1 ((J 1 1) + 1)) L)) cdK18 rfl (k_adv l E b I (upI J 1 1 ((J 1 1) + 1)) L hk h0 hs) (by decide) mw_le ?_
            rintro rt9 w9 (⟨J17, rfl, rfl, hs⟩) _ _
            show Rch l E 6 18 _ _ _ _ (76, [some (vR 31), some (vR 28), some (vR 1), some (vI 0), some (vI 0), some (vI 0), none, none], [], MW b J17 L)
            refine rch_run cdK18 (by decide) 1 (t' := (77, [some (vR 31), some (vR 28), some (vR 1), some (vI 0), some (vI 0), some (vI 0), none, none], [vI 0], MW b J17 L)) (ps := []) rfl trivial ?_
            refine rch_br cdK18 (cd := (0 : Int) = 0) (t1 := (89, [some (vR 31), some (vR 28), some (vR 1), some (vI 0), some (vI 0), some (vI 0), none, none], [], MW b J17 L)) (t2 := (80, [some (vR 31), some (vR 28), some (vR 1), some (vI 0), some (vI 0), some (vI 0), none, none], [], MW b J17 L)) rfl (fun _ => ?_) (fun c9 => absurd (by decide) c9)
            refine rch_run cdK18 (by decide) 4 (t' := (93, [some (vR 31), some (vR 28), some (vR 1), some (vI 0), some (vI 0), some (vI 0), none, none], [vI 5, vI 0, vR 28, vR 31], MW b J17 L)) (ps := []) rfl trivial ?_
            refine rch_call (h' := 2) (k' := 15) (as := [vR 31, vR 28, vI 0, vI 5]) (t1 := (96, [some (vR 31), some (vR 28), some (vR 1), some (vI 0), some (vI 0), some (vI 0), none, none], [], MW b J17 L)) cdK18 rfl (k_num_1 l E b I J17 L 0 5 h0 hs) (by decide) mw_le ?_
            rintro rt9 w9 (⟨hp1, rfl, rfl⟩ | ⟨J18, f9, hp1, rfl, rfl, hf⟩) _ _
            · show Rch l E 6 18 _ _ _ _ (96, [some (vR 31), some (vR 28), some (vR 1), some (vI 0), some (vI 0), some (vI 0), none, none], [vI 1], MW b J17 L)
              have hv1v := hs.1.2.1.2.2.2 (pNum_3 hp1).1
              refine rch_br cdK18 (cd := (1 : Int) ≠ 0) (t1 := (101, [some (vR 31), some (vR 28), some (vR 1), some (vI 0), some (vI 0), some (vI 0), none, none], [], MW b J17 L)) (t2 := (99, [some (vR 31), some (vR 28), some (vR 1), some (vI 0), some (vI 0), some (vI 0), none, none], [], MW b J17 L)) rfl (fun _ => ?_) (fun c9 => absurd (by decide) c9)
              refine rch_run cdK18 (by decide) 4 (t' := (108, [some (vR 31), some (vR 28), some (vR 1), some (vI 0), some (vI 0), some (vI 0), some (vI (J17 28 3)), none], [vR 28], MW b J17 L)) (ps := []) rfl trivial ?_
              refine rch_call (h' := 2) (k' := 42) (as := [vR 28]) (t1 := (111, [some (vR 31), some (vR 28), some (vR 1), some (vI 0), some (vI 0), some (vI 0), some (vI (J17 28 3)), none], [], MW b J17 L)) cdK18 rfl (k_adv l E b I J17 L hk h0 hs) (by decide) mw_le ?_
              rintro rt9 w9 (⟨J19, rfl, rfl, hs⟩) _ _
              show Rch l E 6 18 _ _ _ _ (111, [some (vR 31), some (vR 28), some (vR 1), some (vI 0), some (vI 0), some (vI 0), some (vI (J17 28 3)), none], [], MW b J19 L)
              refine rch_run cdK18 (by decide) 3 (t' := (116, [some (vR 31), some (vR 28), some (vR 1), some (vI 0), some (vI 0), some (vI 0), some (vI (J17 28 3)), some (vI 0)], [vI 0], MW b J19 L)) (ps := []) rfl trivial ?_
              refine rch_br cdK18 (cd := (0 : Int) = 0) (t1 := (142, [some (vR 31), some (vR 28), some (vR 1), some (vI 0), some (vI 0), some (vI 0), some (vI (J17 28 3)), some (vI 0)], [], MW b J19 L)) (t2 := (119, [some (vR 31), some (vR 28), some (vR 1), some (vI 0), some (vI 0), some (vI 0), some (vI (J17 28 3)), some (vI 0)], [], MW b J19 L)) rfl (fun _ => ?_) (fun c9 => absurd (by decide) c9)
              refine rch_run cdK18 (by decide) 2 (t' := (145, [some (vR 31), some (vR 28), some (vR 1), some (vI 0), some (vI 0), some (vI 0), some (vI (J17 28 3)), some (vI 0)], [vI 0, vR 1], MW b J19 L)) (ps := []) rfl trivial ?_
              refine rch_br cdK18 (cd := (0 : Int) = 0) (t1 := (152, [some (vR 31), some (vR 28), some (vR 1), some (vI 0), some (vI 0), some (vI 0), some (vI (J17 28 3)), some (vI 0)], [vR 1], MW b J19 L)) (t2 := (148, [some (vR 31), some (vR 28), some (vR 1), some (vI 0), some (vI 0), some (vI 0), some (vI (J17 28 3)), some (vI 0)], [vR 1], MW b J19 L)) rfl (fun _ => ?_) (fun c9 => absurd (by decide) c9)
              refine rch_run cdK18 (by decide) 3 (t' := (157, [some (vR 31), some (vR 28), some (vR 1), some (vI 0), some (vI 0), some (vI 0), some (vI (J17 28 3)), some (vI 0)], [vI 0, vI (J17 28 3), vI 0, vR 1], MW b J19 L)) (ps := []) rfl trivial ?_
              refine rch_call (h' := 1) (k' := 2) (as := [vR 1, vI 0, vI (J17 28 3), vI 0]) (t1 := (160, [some (vR 31), some (vR 28), some (vR 1), some (vI 0), some (vI 0), some (vI 0), some (vI (J17 28 3)), some (vI 0)], [], MW b J19 L)) cdK18 rfl (k_push_1 l E b I J19 L (c := 1) hs (by decide) hv1v rfl (by have hl9 := hs.1.2.2.1; (try dsimp only at hl9 ⊢); omega)) (by decide) mw_le ?_
              rintro rt9 w9 (⟨J20, rfl, rfl, hs⟩) _ _
              show Rch l E 6 18 _ _ _ _ (160, [some (vR 31), some (vR 28), some (vR 1), some (vI 0), some (vI 0), some (vI 0), some (vI (J17 28 3)), some (vI 0)], [], MW b J20 L)
              refine rch_run cdK18 (by decide) 1 (t' := (161, [some (vR 31), some (vR 28), some (vR 1), some (vI 0), some (vI 0), some (vI 0), some (vI (J17 28 3)), some (vI 0)], [vI 1], MW b J20 L)) (ps := []) rfl trivial ?_
              refine rch_ret cdK18 (rt := some (vI 1)) rfl (Or.inr rfl) mw_c ?_
              exact Or.inl ⟨_, _, rfl, pTest_sa h60 hq7 hp1, rfl, hs⟩
            · show Rch l E 6 18 _ _ _ _ (96, [some (vR 31), some (vR 28), some (vR 1), some (vI 0), some (vI 0), some (vI 0), none, none], [vI 0], MW b J18 L)
              refine rch_br cdK18 (cd := (0 : Int) ≠ 0) (t1 := (101, [some (vR 31), some (vR 28), some (vR 1), some (vI 0), some (vI 0), some (vI 0), none, none], [], MW b J18 L)) (t2 := (99, [some (vR 31), some (vR 28), some (vR 1), some (vI 0), some (vI 0), some (vI 0), none, none], [], MW b J18 L)) rfl (fun c9 => absurd c9 (by decide)) (fun _ => ?_)
              refine rch_run cdK18 (by decide) 1 (t' := (100, [some (vR 31), some (vR 28), some (vR 1), some (vI 0), some (vI 0), some (vI 0), none, none], [vI 0], MW b J18 L)) (ps := []) rfl trivial ?_
              refine rch_ret cdK18 (rt := some (vI 0)) rfl (Or.inl rfl) mw_c ?_
              exact Or.inr ⟨_, _, rfl, pTest_n1 hT h60 (by first | exact hq4 | exact wdq_ne hq5 (by omega) (by omega) (by omega) | exact wdq_ne hq6 (by omega) (by omega) (by omega) | exact wdq_ne hq7 (by omega) (by omega) (by omega)) hp1, rfl, hf⟩
          · refine rch_run cdK18 (by decide) 3 (t' := (58, [some (vR 31), some (vR 28), some (vR 1), some (vI 0), some (vI 0), some (vI 0), none, none], [vI 2, vR 28, vR 31], MW b J L)) (ps := []) rfl trivial ?_
            refine rch_call (h' := 1) (k' := 13) (as := [vR 31, vR 28, vI 2]) (t1 := (61, [some (vR 31), some (vR 28), some (vR 1), some (vI 0), some (vI 0), some (vI 0), none, none], [], MW b J L)) cdK18 rfl (k_stp l E b I J L 2 hk hs) (by decide) mw_le ?_
            rintro rt9 w9 (⟨J21, rfl, rfl, hf⟩) _ _
            show Rch l E 6 18 _ _ _ _ (61, [some (vR 31), some (vR 28), some (vR 1), some (vI 0), some (vI 0), some (vI 0), none, none], [vI 0], MW b J21 L)
            refine rch_ret cdK18 (rt := some (vI 0)) rfl (Or.inl rfl) mw_c ?_
            exact Or.inr ⟨_, _, rfl, pTest_bad (by first | exact Or.inl (isT_f hq4 hq5 hq6 hq7) | exact Or.inr (by omega)), rfl, hf⟩
        · show Rch l E 6 18 _ _ _ _ (43, [some (vR 31), some (vR 28), some (vR 1), some (vI 0), some (vI 0), some (vI 0), none, none], [vI 0], MW b J L)
          refine rch_br cdK18 (cd := (0 : Int) = 0) (t1 := (55, [some (vR 31), some (vR 28), some (vR 1), some (vI 0), some (vI 0), some (vI 0), none, none], [], MW b J L)) (t2 := (46, [some (vR 31), some (vR 28), some (vR 1), some (vI 0), some (vI 0), some (vI 0), none, none], [], MW b J L)) rfl (fun _ => ?_) (fun c9 => absurd (by decide) c9)
          refine rch_run cdK18 (by decide) 3 (t' := (58, [some (vR 31), some (vR 28), some (vR 1), some (vI 0), some (vI 0), some (vI 0), none, none], [vI 2, vR 28, vR 31], MW b J L)) (ps := []) rfl trivial ?_
          refine rch_call (h' := 1) (k' := 13) (as := [vR 31, vR 28, vI 2]) (t1 := (61, [some (vR 31), some (vR 28), some (vR 1), some (vI 0), some (vI 0), some (vI 0), none, none], [], MW b J L)) cdK18 rfl (k_stp l E b I J L 2 hk hs) (by decide) mw_le ?_
          rintro rt9 w9 (⟨J22, rfl, rfl, hf⟩) _ _
          show Rch l E 6 18 _ _ _ _ (61, [some (vR 31), some (vR 28), some (vR 1), some (vI 0), some (vI 0), some (vI 0), none, none], [vI 0], MW b J22 L)
          refine rch_ret cdK18 (rt := some (vI 0)) rfl (Or.inl rfl) mw_c ?_
          exact Or.inr ⟨_, _, rfl, pTest_bad (by first | exact Or.inl (isT_f hq4 hq5 hq6 hq7) | exact Or.inr (by omega)), rfl, hf⟩

set_option maxHeartbeats 20000000 in
set_option maxRecDepth 100000 in
theorem k_readTest_7 (l : Launch) (E : AX) (b : Bool) (I J L : Nat → Nat → Int) (s : Pst) (h0 : Tp0 I) (hs : PSx 7 I J s) (hb : 2 * s.2.2.length ≤ s.1) : Con l E 6 18 [vR 31, vR 28, vR 7] (MW b J L) 0 0 (PR2 7 I b L (pTest (I 29) (nTp I) s)) := by
  refine con_ok (fun hw9 hs9 => ?_)
  refine con_intro (by decide) (Nat.le_of_ble_eq_true rfl) ?_
  have hk : 7 = 1 ∨ 7 = 7 := by omega
  have hu : J 7 1 = s.2.1 := hs.1.2.2.2.1.1
  have hu0 : 0 ≤ s.2.1 := hs.1.2.2.2.1.2.1
  have ha : s.1 ≤ nTp I := hs.1.2.2.1
  have hn : nTp I ≤ 500 := by have := h0.1; unfold nTp; omega
  show Rch l E 6 18 _ _ _ _ (0, [some (vR 31), some (vR 28), some (vR 7), none, none, none, none, none], [], MW b J L)
  refine rch_run cdK18 (by decide) 2 (t' := (3, [some (vR 31), some (vR 28), some (vR 7), none, none, none, none, none], [vR 2004, vR 28], MW b J L)) (ps := []) rfl trivial ?_
  refine rch_call (h' := 5) (k' := 45) (as := [vR 28, vR 2004]) (t1 := (6, [some (vR 31), some (vR 28), some (vR 7), none, none, none, none, none], [], MW b J L)) cdK18 rfl (k_rd_4 l E b I J L hk h0 hs) (by decide) mw_le ?_
  rintro rt9 w9 (⟨hq4, rfl, rfl⟩ | ⟨hq4, rfl, rfl⟩) _ _
  · show Rch l E 6 18 _ _ _ _ (6, [some (vR 31), some (vR 28), some (vR 7), none, none, none, none, none], [vI 1], MW b J L)
    refine rch_run cdK18 (by decide) 3 (t' := (10, [some (vR 31), some (vR 28), some (vR 7), some (vI 1), none, none, none, none], [vR 2005, vR 28], MW b J L)) (ps := []) rfl trivial ?_
    refine rch_call (h' := 5) (k' := 45) (as := [vR 28, vR 2005]) (t1 := (13, [some (vR 31), some (vR 28), some (vR 7), some (vI 1), none, none, none, none], [], MW b J L)) cdK18 rfl (con_imp (k_rd_5 l E b I J L hk h0 hs) (rd0 (wdq_ne hq4 (by omega) (by omega) (by omega)))) (by decide) mw_le ?_
    rintro rt9 w9 (⟨rfl, rfl⟩) _ _
    show Rch l E 6 18 _ _ _ _ (13, [some (vR 31), some (vR 28), some (vR 7), some (vI 1), none, none, none, none], [vI 0], MW b J L)
    refine rch_run cdK18 (by decide) 3 (t' := (18, [some (vR 31), some (vR 28), some (vR 7), some (vI 1), some (vI 0), none, none, none], [vR 2006, vR 28], MW b J L)) (ps := []) rfl trivial ?_
    refine rch_call (h' := 5) (k' := 45) (as := [vR 28, vR 2006]) (t1 := (21, [some (vR 31), some (vR 28), some (vR 7), some (vI 1), some (vI 0), none, none, none], [], MW b J L)) cdK18 rfl (con_imp (k_rd_6 l E b I J L hk h0 hs) (rd0 (wdq_ne hq4 (by omega) (by omega) (by omega)))) (by decide) mw_le ?_
    rintro rt9 w9 (⟨rfl, rfl⟩) _ _
    show Rch l E 6 18 _ _ _ _ (21, [some (vR 31), some (vR 28), some (vR 7), some (vI 1), some (vI 0), none, none, none], [vI 0], MW b J L)
    refine rch_run cdK18 (by decide) 2 (t' := (24, [some (vR 31), some (vR 28), some (vR 7), some (vI 1), some (vI 0), some (vI 0), none, none], [vI 1], MW b J L)) (ps := []) rfl trivial ?_
    refine rch_br cdK18 (cd := (1 : Int) ≠ 0) (t1 := (46, [some (vR 31), some (vR 28), some (vR 7), some (vI 1), some (vI 0), some (vI 0), none, none], [], MW b J L)) (t2 := (27, [some (vR 31), some (vR 28), some (vR 7), some (vI 1), some (vI 0), some (vI 0), none, none], [], MW b J L)) rfl (fun _ => ?_) (fun c9 => absurd (by decide) c9)
    refine rch_run cdK18 (by decide) 3 (t' := (52, [some (vR 31), some (vR 28), some (vR 7), some (vI 1), some (vI 0), some (vI 0), none, none], [vI 60, vI (J 7 1)], MW b J L)) (ps := []) rfl trivial ?_
    refine rch_br cdK18 (cd := J 7 1 < (60 : Int)) (t1 := (62, [some (vR 31), some (vR 28), some (vR 7), some (vI 1), some (vI 0), some (vI 0), none, none], [], MW b J L)) (t2 := (55, [some (vR 31), some (vR 28), some (vR 7), some (vI 1), some (vI 0), some (vI 0), none, none], [], MW b J L)) rfl (fun c52_2 => ?_) (fun c52_2 => ?_)
    · refine rch_run cdK18 (by decide) 7 (t' := (73, [some (vR 31), some (vR 28), some (vR 7), some (vI 1), some (vI 0), some (vI 0), none, none], [vR 28], MW b (upI J 7 1 ((J 7 1) + 1)) L)) (ps := [i32 ((J 7 1) + 1)]) rfl (by simp only [all_, i32, i64]; first | omega | (simp; done) | (simp; omega)) ?_
      have hT : isT (I 29) (nTp I) s.1 = true := by first | exact isT_i 4 (by omega) hq4 | exact isT_i 5 (by omega) hq5 | exact isT_i 6 (by omega) hq6 | exact isT_i 7 (by omega) hq7
      have hT2 := isT_2 hn ha hT
      have h60 : s.2.1 < 60 := by omega
      have hs := PSx_tests hk hs h60
      refine rch_call (h' := 2) (k' := 42) (as := [vR 28]) (t1 := (76, [some (vR 31), some (vR 28), some (vR 7), some (vI 1), some (vI 0), some (vI 0), none, none], [], MW b (upI J 7 1 ((J 7 1) + 1)) L)) cdK18 rfl (k_adv l E b I (upI J 7 1 ((J 7 1) + 1)) L hk h0 hs) (by decide) mw_le ?_
      rintro rt9 w9 (⟨J23, rfl, rfl, hs⟩) _ _
      show Rch l E 6 18 _ _ _ _ (76, [some (vR 31), some (vR 28), some (vR 7), some (vI 1), some (vI 0), some (vI 0), none, none], [], MW b J23 L)
      refine rch_run cdK18 (by decide) 1 (t' := (77, [some (vR 31), some (vR 28), some (vR 7), some (vI 1), some (vI 0), some (vI 0), none, none], [vI 1], MW b J23 L)) (ps := []) rfl trivial ?_
      refine rch_br cdK18 (cd := (1 : Int) = 0) (t1 := (89, [some (vR 31), some (vR 28), some (vR 7), some (vI 1), some (vI 0), some (vI 0), none, none], [], MW b J23 L)) (t2 := (80, [some (vR 31), some (vR 28), some (vR 7), some (vI 1), some (vI 0), some (vI 0), none, none], [], MW b J23 L)) rfl (fun c9 => absurd c9 (by decide)) (fun _ => ?_)
      refine rch_run cdK18 (by decide) 4 (t' := (84, [some (vR 31), some (vR 28), some (vR 7), some (vI 1), some (vI 0), some (vI 0), none, none], [vI 0, vI 0, vI 2, vR 7], MW b J23 L)) (ps := []) rfl trivial ?_
      refine rch_call (h' := 1) (k' := 2) (as := [vR 7, vI 2, vI 0, vI 0]) (t1 := (87, [some (vR 31), some (vR 28), some (vR 7), some (vI 1), some (vI 0), some (vI 0), none, none], [], MW b J23 L)) cdK18 rfl (k_push_7 l E b I J23 L (c := 4) hs (by decide) rfl rfl (by have hl9 := hs.1.2.2.1; (try dsimp only at hl9 ⊢); omega)) (by decide) mw_le ?_
      rintro rt9 w9 (⟨J24, rfl, rfl, hs⟩) _ _
      show Rch l E 6 18 _ _ _ _ (87, [some (vR 31), some (vR 28), some (vR 7), some (vI 1), some (vI 0), some (vI 0), none, none], [], MW b J24 L)
      refine rch_run cdK18 (by decide) 1 (t' := (88, [some (vR 31), some (vR 28), some (vR 7), some (vI 1), some (vI 0), some (vI 0), none, none], [vI 1], MW b J24 L)) (ps := []) rfl trivial ?_
      refine rch_ret cdK18 (rt := some (vI 1)) rfl (Or.inr rfl) mw_c ?_
      exact Or.inl ⟨_, _, rfl, pTest_src h60 hq4, rfl, hs⟩
    · refine rch_run cdK18 (by decide) 3 (t' := (58, [some (vR 31), some (vR 28), some (vR 7), some (vI 1), some (vI 0), some (vI 0), none, none], [vI 2, vR 28, vR 31], MW b J L)) (ps := []) rfl trivial ?_
      refine rch_call (h' := 1) (k' := 13) (as := [vR 31, vR 28, vI 2]) (t1 := (61, [some (vR 31), some (vR 28), some (vR 7), some (vI 1), some (vI 0), some (vI 0), none, none], [], MW b J L)) cdK18 rfl (k_stp l E b I J L 2 hk hs) (by decide) mw_le ?_
      rintro rt9 w9 (⟨J25, rfl, rfl, hf⟩) _ _
      show Rch l E 6 18 _ _ _ _ (61, [some (vR 31), some (vR 28), some (vR 7), some (vI 1), some (vI 0), some (vI 0), none, none], [vI 0], MW b J25 L)
      refine rch_ret cdK18 (rt := some (vI 0)) rfl (Or.inl rfl) mw_c ?_
      exact Or.inr ⟨_, _, rfl, pTest_bad (by first | exact Or.inl (isT_f hq4 hq5 hq6 hq7) | exact Or.inr (by omega)), rfl, hf⟩
  · show Rch l E 6 18 _ _ _ _ (6, [some (vR 31), some (vR 28), some (vR 7), none, none, none, none, none], [vI 0], MW b J L)
    refine rch_run cdK18 (by decide) 3 (t' := (10, [some (vR 31), some (vR 28), some (vR 7), some (vI 0), none, none, none, none], [vR 2005, vR 28], MW b J L)) (ps := []) rfl trivial ?_
    refine rch_call (h' := 5) (k' := 45) (as := [vR 28, vR 2005]) (t1 := (13, [some (vR 31), some (vR 28), some (vR 7), some (vI 0), none, none, none, none], [], MW b J L)) cdK18 rfl (k_rd_5 l E b I J L hk h0 hs) (by decide) mw_le ?_
    rintro rt9 w9 (⟨hq5, rfl, rfl⟩ | ⟨hq5, rfl, rfl⟩) _ _
    · show Rch l E 6 18 _ _ _ _ (13, [some (vR 31), some (vR 28), some (vR 7), some (vI 0), none, none, none, none], [vI 1], MW b J L)
      refine rch_run cdK18 (by decide) 3 (t' := (18, [some (vR 31), some (vR 28), some (vR 7), some (vI 0), some (vI 1), none, none, none], [vR 2006, vR 28], MW b J L)) (ps := []) rfl trivial ?_
      refine rch_call (h' := 5) (k' := 45) (as := [vR 28, vR 2006]) (t1 := (21, [some (vR 31), some (vR 28), some (vR 7), some (vI 0), some (vI 1), none, none, none], [], MW b J L)) cdK18 rfl (con_imp (k_rd_6 l E b I J L hk h0 hs) (rd0 (wdq_ne hq5 (by omega) (by omega) (by omega)))) (by decide) mw_le ?_
      rintro rt9 w9 (⟨rfl, rfl⟩) _ _
      show Rch l E 6 18 _ _ _ _ (21, [some (vR 31), some (vR 28), some (vR 7), some (vI 0), some (vI 1), none, none, none], [vI 0], MW b J L)
      refine rch_run cdK18 (by decide) 2 (t' := (24, [some (vR 31), some (vR 28), some (vR 7), some (vI 0), some (vI 1), some (vI 0), none, none], [vI 0], MW b J L)) (ps := []) rfl trivial ?_
      refine rch_br cdK18 (cd := (0 : Int) ≠ 0) (t1 := (46, [some (vR 31), some (vR 28), some (vR 7), some (vI 0), some (vI 1), some (vI 0), none, none], [], MW b J L)) (t2 := (27, [some (vR 31), some (vR 28), some (vR 7), some (vI 0), some (vI 1), some (vI 0), none, none], [], MW b J L)) rfl (fun c9 => absurd c9 (by decide)) (fun _ => ?_)
      refine rch_run cdK18 (by decide) 1 (t' := (29, [some (vR 31), some (vR 28), some (vR 7), some (vI 0), some (vI 1), some (vI 0), none, none], [vI 1], MW b J L)) (ps := []) rfl trivial ?_
      refine rch_br cdK18 (cd := (1 : Int) ≠ 0) (t1 := (46, [some (vR 31), some (vR 28), some (vR 7), some (vI 0), some (vI 1), some (vI 0), none, none], [], MW b J L)) (t2 := (32, [some (vR 31), some (vR 28), some (vR 7), some (vI 0), some (vI 1), some (vI 0), none, none], [], MW b J L)) rfl (fun _ => ?_) (fun c9 => absurd (by decide) c9)
      refine rch_run cdK18 (by decide) 3 (t' := (52, [some (vR 31), some (vR 28), some (vR 7), some (vI 0), some (vI 1), some (vI 0), none, none], [vI 60, vI (J 7 1)], MW b J L)) (ps := []) rfl trivial ?_
      refine rch_br cdK18 (cd := J 7 1 < (60 : Int)) (t1 := (62, [some (vR 31), some (vR 28), some (vR 7), some (vI 0), some (vI 1), some (vI 0), none, none], [], MW b J L)) (t2 := (55, [some (vR 31), some (vR 28), some (vR 7), some (vI 0), some (vI 1), some (vI 0), none, none], [], MW b J L)) rfl (fun c52_6 => ?_) (fun c52_6 => ?_)
      · refine rch_run cdK18 (by decide) 7 (t' := (73, [some (vR 31), some (vR 28), some (vR 7), some (vI 0), some (vI 1), some (vI 0), none, none], [vR 28], MW b (upI J 7 1 ((J 7 1) + 1)) L)) (ps := [i32 ((J 7 1) + 1)]) rfl (by simp only [all_, i32, i64]; first | omega | (simp; done) | (simp; omega)) ?_
        have hT : isT (I 29) (nTp I) s.1 = true := by first | exact isT_i 4 (by omega) hq4 | exact isT_i 5 (by omega) hq5 | exact isT_i 6 (by omega) hq6 | exact isT_i 7 (by omega) hq7
        have hT2 := isT_2 hn ha hT
        have h60 : s.2.1 < 60 := by omega
        have hs := PSx_tests hk hs h60
        refine rch_call (h' := 2) (k' := 42) (as := [vR 28]) (t1 := (76, [some (vR 31), some (vR 28), some (vR 7), some (vI 0), some (vI 1), some (vI 0), none, none], [], MW b (upI J 7 1 ((J 7 1) + 1)) L)) cdK18 rfl (k_adv l E b I (upI J 7 1 ((J 7 1) + 1)) L hk h0 hs) (by decide) mw_le ?_
        rintro rt9 w9 (⟨J26, rfl, rfl, hs⟩) _ _
        show Rch l E 6 18 _ _ _ _ (76, [some (vR 31), some (vR 28), some (vR 7), some (vI 0), some (vI 1), some (vI 0), none, none], [], MW b J26 L)
        refine rch_run cdK18 (by decide) 1 (t' := (77, [some (vR 31), some (vR 28), some (vR 7), some (vI 0), some (vI 1), some (vI 0), none, none], [vI 0], MW b J26 L)) (ps := []) rfl trivial ?_
        refine rch_br cdK18 (cd := (0 : Int) = 0) (t1 := (89, [some (vR 31), some (vR 28), some (vR 7), some (vI 0), some (vI 1), some (vI 0), none, none], [], MW b J26 L)) (t2 := (80, [some (vR 31), some (vR 28), some (vR 7), some (vI 0), some (vI 1), some (vI 0), none, none], [], MW b J26 L)) rfl (fun _ => ?_) (fun c9 => absurd (by decide) c9)
        refine rch_run cdK18 (by decide) 4 (t' := (93, [some (vR 31), some (vR 28), some (vR 7), some (vI 0), some (vI 1), some (vI 0), none, none], [vI 5, vI 0, vR 28, vR 31], MW b J26 L)) (ps := []) rfl trivial ?_
        refine rch_call (h' := 2) (k' := 15) (as := [vR 31, vR 28, vI 0, vI 5]) (t1 := (96, [some (vR 31), some (vR 28), some (vR 7), some (vI 0), some (vI 1), some (vI 0), none, none], [], MW b J26 L)) cdK18 rfl (k_num_7 l E b I J26 L 0 5 h0 hs) (by decide) mw_le ?_
        rintro rt9 w9 (⟨hp1, rfl, rfl⟩ | ⟨J27, f9, hp1, rfl, rfl, hf⟩) _ _
        · show Rch l E 6 18 _ _ _ _ (96, [some (vR 31), some (vR 28), some (vR 7), some (vI 0), some (vI 1), some (vI 0), none, none], [vI 1], MW b J26 L)
          have hv1v := hs.1.2.1.2.2.2 (pNum_3 hp1).1
          refine rch_br cdK18 (cd := (1 : Int) ≠ 0) (t1 := (101, [some (vR 31), some (vR 28), some (vR 7), some (vI 0), some (vI 1), some (vI 0), none, none], [], MW b J26 L)) (t2 := (99, [some (vR 31), some (vR 28), some (vR 7), some (vI 0), some (vI 1), some (vI 0), none, none], [], MW b J26 L)) rfl (fun _ => ?_) (fun c9 => absurd (by decide) c9)
          refine rch_run cdK18 (by decide) 4 (t' := (108, [some (vR 31), some (vR 28), some (vR 7), some (vI 0), some (vI 1), some (vI 0), some (vI (J26 28 3)), none], [vR 28], MW b J26 L)) (ps := []) rfl trivial ?_
          refine rch_call (h' := 2) (k' := 42) (as := [vR 28]) (t1 := (111, [some (vR 31), some (vR 28), some (vR 7), some (vI 0), some (vI 1), some (vI 0), some (vI (J26 28 3)), none], [], MW b J26 L)) cdK18 rfl (k_adv l E b I J26 L hk h0 hs) (by decide) mw_le ?_
          rintro rt9 w9 (⟨J28, rfl, rfl, hs⟩) _ _
          show Rch l E 6 18 _ _ _ _ (111, [some (vR 31), some (vR 28), some (vR 7), some (vI 0), some (vI 1), some (vI 0), some (vI (J26 28 3)), none], [], MW b J28 L)
          refine rch_run cdK18 (by decide) 3 (t' := (116, [some (vR 31), some (vR 28), some (vR 7), some (vI 0), some (vI 1), some (vI 0), some (vI (J26 28 3)), some (vI 0)], [vI 0], MW b J28 L)) (ps := []) rfl trivial ?_
          refine rch_br cdK18 (cd := (0 : Int) = 0) (t1 := (142, [some (vR 31), some (vR 28), some (vR 7), some (vI 0), some (vI 1), some (vI 0), some (vI (J26 28 3)), some (vI 0)], [], MW b J28 L)) (t2 := (119, [some (vR 31), some (vR 28), some (vR 7), some (vI 0), some (vI 1), some (vI 0), some (vI (J26 28 3)), some (vI 0)], [], MW b J28 L)) rfl (fun _ => ?_) (fun c9 => absurd (by decide) c9)
          refine rch_run cdK18 (by decide) 2 (t' := (145, [some (vR 31), some (vR 28), some (vR 7), some (vI 0), some (vI 1), some (vI 0), some (vI (J26 28 3)), some (vI 0)], [vI 1, vR 7], MW b J28 L)) (ps := []) rfl trivial ?_
          refine rch_br cdK18 (cd := (1 : Int) = 0) (t1 := (152, [some (vR 31), some (vR 28), some (vR 7), some (vI 0), some (vI 1), some (vI 0), some (vI (J26 28 3)), some (vI 0)], [vR 7], MW b J28 L)) (t2 := (148, [some (vR 31), some (vR 28), some (vR 7), some (vI 0), some (vI 1), some (vI 0), some (vI (J26 28 3)), some (vI 0)], [vR 7], MW b J28 L)) rfl (fun c9 => absurd c9 (by decide)) (fun _ => ?_)
          refine rch_run cdK18 (by decide) 4 (t' := (157, [some (vR 31), some (vR 28), some (vR 7), some (vI 0), some (vI 1), some (vI 0), some (vI (J26 28 3)), some (vI 0)], [vI 0, vI (J26 28 3), vI 1, vR 7], MW b J28 L)) (ps := []) rfl trivial ?_
          refine rch_call (h' := 1) (k' := 2) (as := [vR 7, vI 1, vI (J26 28 3), vI 0]) (t1 := (160, [some (vR 31), some (vR 28), some (vR 7), some (vI 0), some (vI 1), some (vI 0), some (vI (J26 28 3)), some (vI 0)], [], MW b J28 L)) cdK18 rfl (k_push_7 l E b I J28 L (c := 3) hs (by decide) hv1v rfl (by have hl9 := hs.1.2.2.1; (try dsimp only at hl9 ⊢); omega)) (by decide) mw_le ?_
          rintro rt9 w9 (⟨J29, rfl, rfl, hs⟩) _ _
          show Rch l E 6 18 _ _ _ _ (160, [some (vR 31), some (vR 28), some (vR 7), some (vI 0), some (vI 1), some (vI 0), some (vI (J26 28 3)), some (vI 0)], [], MW b J29 L)
          refine rch_run cdK18 (by decide) 1 (t' := (161, [some (vR 31), some (vR 28), some (vR 7), some (vI 0), some (vI 1), some (vI 0), some (vI (J26 28 3)), some (vI 0)], [vI 1], MW b J29 L)) (ps := []) rfl trivial ?_
          refine rch_ret cdK18 (rt := some (vI 1)) rfl (Or.inr rfl) mw_c ?_
          exact Or.inl ⟨_, _, rfl, pTest_la h60 hq5 hp1, rfl, hs⟩
        · show Rch l E 6 18 _ _ _ _ (96, [some (vR 31), some (vR 28), some (vR 7), some (vI 0), some (vI 1), some (vI 0), none, none], [vI 0], MW b J27 L)
          refine rch_br cdK18 (cd := (0 : Int) ≠ 0) (t1 := (101, [some (vR 31), some (vR 28), some (vR 7), some (vI 0), some (vI 1), some (vI 0), none, none], [], MW b J27 L)) (t2 := (99, [some (vR 31), some (vR 28), some (vR 7), some (vI 0), some (vI 1), some (vI 0), none, none], [], MW b J27 L)) rfl (fun c9 => absurd c9 (by decide)) (fun _ => ?_)
          refine rch_run cdK18 (by decide) 1 (t' := (100, [some (vR 31), some (vR 28), some (vR 7), some (vI 0), some (vI 1), some (vI 0), none, none], [vI 0], MW b J27 L)) (ps := []) rfl trivial ?_
          refine rch_ret cdK18 (rt := some (vI 0)) rfl (Or.inl rfl) mw_c ?_
          exact Or.inr ⟨_, _, rfl, pTest_n1 hT h60 (by first | exact hq4 | exact wdq_ne hq5 (by omega) (by omega) (by omega) | exact wdq_ne hq6 (by omega) (by omega) (by omega) | exact wdq_ne hq7 (by omega) (by omega) (by omega)) hp1, rfl, hf⟩
      · refine rch_run cdK18 (by decide) 3 (t' := (58, [some (vR 31), some (vR 28), some (vR 7), some (vI 0), some (vI 1), some (vI 0), none, none], [vI 2, vR 28, vR 31], MW b J L)) (ps := []) rfl trivial ?_
        refine rch_call (h' := 1) (k' := 13) (as := [vR 31, vR 28, vI 2]) (t1 := (61, [some (vR 31), some (vR 28), some (vR 7), some (vI 0), some (vI 1), some (vI 0), none, none], [], MW b J L)) cdK18 rfl (k_stp l E b I J L 2 hk hs) (by decide) mw_le ?_
        rintro rt9 w9 (⟨J30, rfl, rfl, hf⟩) _ _
        show Rch l E 6 18 _ _ _ _ (61, [some (vR 31), some (vR 28), some (vR 7), some (vI 0), some (vI 1), some (vI 0), none, none], [vI 0], MW b J30 L)
        refine rch_ret cdK18 (rt := some (vI 0)) rfl (Or.inl rfl) mw_c ?_
        exact Or.inr ⟨_, _, rfl, pTest_bad (by first | exact Or.inl (isT_f hq4 hq5 hq6 hq7) | exact Or.inr (by omega)), rfl, hf⟩
    · show Rch l E 6 18 _ _ _ _ (13, [some (vR 31), some (vR 28), some (vR 7), some (vI 0), none, none, none, none], [vI 0], MW b J L)
      refine rch_run cdK18 (by decide) 3 (t' := (18, [some (vR 31), some (vR 28), some (vR 7), some (vI 0), some (vI 0), none, none, none], [vR 2006, vR 28], MW b J L)) (ps := []) rfl trivial ?_
      refine rch_call (h' := 5) (k' := 45) (as := [vR 28, vR 2006]) (t1 := (21, [some (vR 31), some (vR 28), some (vR 7), some (vI 0), some (vI 0), none, none, none], [], MW b J L)) cdK18 rfl (k_rd_6 l E b I J L hk h0 hs) (by decide) mw_le ?_
      rintro rt9 w9 (⟨hq6, rfl, rfl⟩ | ⟨hq6, rfl, rfl⟩) _ _
      · show Rch l E 6 18 _ _ _ _ (21, [some (vR 31), some (vR 28), some (vR 7), some (vI 0), some (vI 0), none, none, none], [vI 1], MW b J L)
        refine rch_run cdK18 (by decide) 2 (t' := (24, [some (vR 31), some (vR 28), some (vR 7), some (vI 0), some (vI 0), some (vI 1), none, none], [vI 0], MW b J L)) (ps := []) rfl trivial ?_
        refine rch_br cdK18 (cd := (0 : Int) ≠ 0) (t1 := (46, [some (vR 31), some (vR 28), some (vR 7), some (vI 0), some (vI 0), some (vI 1), none, none], [], MW b J L)) (t2 := (27, [some (vR 31), some (vR 28), some (vR 7), some (vI 0), some (vI 0), some (vI 1), none, none], [], MW b J L)) rfl (fun c9 => absurd c9 (by decide)) (fun _ => ?_)
        refine rch_run cdK18 (by decide) 1 (t' := (29, [some (vR 31), some (vR 28), some (vR 7), some (vI 0), some (vI 0), some (vI 1), none, none], [vI 0], MW b J L)) (ps := []) rfl trivial ?_
        refine rch_br cdK18 (cd := (0 : Int) ≠ 0) (t1 := (46, [some (vR 31), some (vR 28), some (vR 7), some (vI 0), some (vI 0), some (vI 1), none, none], [], MW b J L)) (t2 := (32, [some (vR 31), some (vR 28), some (vR 7), some (vI 0), some (vI 0), some (vI 1), none, none], [], MW b J L)) rfl (fun c9 => absurd c9 (by decide)) (fun _ => ?_)
        refine rch_run cdK18 (by decide) 1 (t' := (34, [some (vR 31), some (vR 28), some (vR 7), some (vI 0), some (vI 0), some (vI 1), none, none], [vI 1], MW b J L)) (ps := []) rfl trivial ?_
        refine rch_br cdK18 (cd := (1 : Int) ≠ 0) (t1 := (46, [some (vR 31), some (vR 28), some (vR 7), some (vI 0), some (vI 0), some (vI 1), none, none], [], MW b J L)) (t2 := (37, [some (vR 31), some (vR 28), some (vR 7), some (vI 0), some (vI 0), some (vI 1), none, none], [], MW b J L)) rfl (fun _ => ?_) (fun c9 => absurd (by decide) c9)
        refine rch_run cdK18 (by decide) 3 (t' := (52, [some (vR 31), some (vR 28), some (vR 7), some (vI 0), some (vI 0), some (vI 1), none, none], [vI 60, vI (J 7 1)], MW b J L)) (ps := []) rfl trivial ?_
        refine rch_br cdK18 (cd := J 7 1 < (60 : Int)) (t1 := (62, [some (vR 31), some (vR 28), some (vR 7), some (vI 0), some (vI 0), some (vI 1), none, none], [], MW b J L)) (t2 := (55, [some (vR 31), some (vR 28), some (vR 7), some (vI 0), some (vI 0), some (vI 1), none, none], [], MW b J L)) rfl (fun c52_15 => ?_) (fun c52_15 => ?_)
        · refine rch_run cdK18 (by decide) 7 (t' := (73, [some (vR 31), some (vR 28), some (vR 7), some (vI 0), some (vI 0), some (vI 1), none, none], [vR 28], MW b (upI J 7 1 ((J 7 1) + 1)) L)) (ps := [i32 ((J 7 1) + 1)]) rfl (by simp only [all_, i32, i64]; first | omega | (simp; done) | (simp; omega)) ?_
          have hT : isT (I 29) (nTp I) s.1 = true := by first | exact isT_i 4 (by omega) hq4 | exact isT_i 5 (by omega) hq5 | exact isT_i 6 (by omega) hq6 | exact isT_i 7 (by omega) hq7
          have hT2 := isT_2 hn ha hT
          have h60 : s.2.1 < 60 := by omega
          have hs := PSx_tests hk hs h60
          refine rch_call (h' := 2) (k' := 42) (as := [vR 28]) (t1 := (76, [some (vR 31), some (vR 28), some (vR 7), some (vI 0), some (vI 0), some (vI 1), none, none], [], MW b (upI J 7 1 ((J 7 1) + 1)) L)) cdK18 rfl (k_adv l E b I (upI J 7 1 ((J 7 1) + 1)) L hk h0 hs) (by decide) mw_le ?_
          rintro rt9 w9 (⟨J31, rfl, rfl, hs⟩) _ _
          show Rch l E 6 18 _ _ _ _ (76, [some (vR 31), some (vR 28), some (vR 7), some (vI 0), some (vI 0), some (vI 1), none, none], [], MW b J31 L)
          refine rch_run cdK18 (by decide) 1 (t' := (77, [some (vR 31), some (vR 28), some (vR 7), some (vI 0), some (vI 0), some (vI 1), none, none], [vI 0], MW b J31 L)) (ps := []) rfl trivial ?_
          refine rch_br cdK18 (cd := (0 : Int) = 0) (t1 := (89, [some (vR 31), some (vR 28), some (vR 7), some (vI 0), some (vI 0), some (vI 1), none, none], [], MW b J31 L)) (t2 := (80, [some (vR 31), some (vR 28), some (vR 7), some (vI 0), some (vI 0), some (vI 1), none, none], [], MW b J31 L)) rfl (fun _ => ?_) (fun c9 => absurd (by decide) c9)
          refine rch_run cdK18 (by decide) 4 (t' := (93, [some (vR 31), some (vR 28), some (vR 7), some (vI 0), some (vI 0), some (vI 1), none, none], [vI 5, vI 0, vR 28, vR 31], MW b J31 L)) (ps := []) rfl trivial ?_
          refine rch_call (h' := 2) (k' := 15) (as := [vR 31, vR 28, vI 0, vI 5]) (t1 := (96, [some (vR 31), some (vR 28), some (vR 7), some (vI 0), some (vI 0), some (vI 1), none, none], [], MW b J31 L)) cdK18 rfl (k_num_7 l E b I J31 L 0 5 h0 hs) (by decide) mw_le ?_
          rintro rt9 w9 (⟨hp1, rfl, rfl⟩ | ⟨J32, f9, hp1, rfl, rfl, hf⟩) _ _
          · show Rch l E 6 18 _ _ _ _ (96, [some (vR 31), some (vR 28), some (vR 7), some (vI 0), some (vI 0), some (vI 1), none, none], [vI 1], MW b J31 L)
            have hv1v := hs.1.2.1.2.2.2 (pNum_3 hp1).1
            refine rch_br cdK18 (cd := (1 : Int) ≠ 0) (t1 := (101, [some (vR 31), some (vR 28), some (vR 7), some (vI 0), some (vI 0), some (vI 1), none, none], [], MW b J31 L)) (t2 := (99, [some (vR 31), some (vR 28), some (vR 7), some (vI 0), some (vI 0), some (vI 1), none, none], [], MW b J31 L)) rfl (fun _ => ?_) (fun c9 => absurd (by decide) c9)
            refine rch_run cdK18 (by decide) 4 (t' := (108, [some (vR 31), some (vR 28), some (vR 7), some (vI 0), some (vI 0), some (vI 1), some (vI (J31 28 3)), none], [vR 28], MW b J31 L)) (ps := []) rfl trivial ?_
            refine rch_call (h' := 2) (k' := 42) (as := [vR 28]) (t1 := (111, [some (vR 31), some (vR 28), some (vR 7), some (vI 0), some (vI 0), some (vI 1), some (vI (J31 28 3)), none], [], MW b J31 L)) cdK18 rfl (k_adv l E b I J31 L hk h0 hs) (by decide) mw_le ?_
            rintro rt9 w9 (⟨J33, rfl, rfl, hs⟩) _ _
            show Rch l E 6 18 _ _ _ _ (111, [some (vR 31), some (vR 28), some (vR 7), some (vI 0), some (vI 0), some (vI 1), some (vI (J31 28 3)), none], [], MW b J33 L)
            refine rch_run cdK18 (by decide) 3 (t' := (116, [some (vR 31), some (vR 28), some (vR 7), some (vI 0), some (vI 0), some (vI 1), some (vI (J31 28 3)), some (vI 0)], [vI 1], MW b J33 L)) (ps := []) rfl trivial ?_
            refine rch_br cdK18 (cd := (1 : Int) = 0) (t1 := (142, [some (vR 31), some (vR 28), some (vR 7), some (vI 0), some (vI 0), some (vI 1), some (vI (J31 28 3)), some (vI 0)], [], MW b J33 L)) (t2 := (119, [some (vR 31), some (vR 28), some (vR 7), some (vI 0), some (vI 0), some (vI 1), some (vI (J31 28 3)), some (vI 0)], [], MW b J33 L)) rfl (fun c9 => absurd c9 (by decide)) (fun _ => ?_)
            refine rch_run cdK18 (by decide) 4 (t' := (124, [some (vR 31), some (vR 28), some (vR 7), some (vI 0), some (vI 0), some (vI 1), some (vI (J31 28 3)), some (vI 0)], [vI 999999, vI 0, vR 28, vR 31], MW b J33 L)) (ps := []) rfl trivial ?_
            refine rch_call (h' := 2) (k' := 15) (as := [vR 31, vR 28, vI 0, vI 999999]) (t1 := (127, [some (vR 31), some (vR 28), some (vR 7), some (vI 0), some (vI 0), some (vI 1), some (vI (J31 28 3)), some (vI 0)], [], MW b J33 L)) cdK18 rfl (k_num_7 l E b I J33 L 0 999999 h0 hs) (by decide) mw_le ?_
            rintro rt9 w9 (⟨hp2, rfl, rfl⟩ | ⟨J34, f9, hp2, rfl, rfl, hf⟩) _ _
            · show Rch l E 6 18 _ _ _ _ (127, [some (vR 31), some (vR 28), some (vR 7), some (vI 0), some (vI 0), some (vI 1), some (vI (J31 28 3)), some (vI 0)], [vI 1], MW b J33 L)
              have hv2v := hs.1.2.1.2.2.2 (pNum_3 hp2).1
              refine rch_br cdK18 (cd := (1 : Int) ≠ 0) (t1 := (132, [some (vR 31), some (vR 28), some (vR 7), some (vI 0), some (vI 0), some (vI 1), some (vI (J31 28 3)), some (vI 0)], [], MW b J33 L)) (t2 := (130, [some (vR 31), some (vR 28), some (vR 7), some (vI 0), some (vI 0), some (vI 1), some (vI (J31 28 3)), some (vI 0)], [], MW b J33 L)) rfl (fun _ => ?_) (fun c9 => absurd (by decide) c9)
              refine rch_run cdK18 (by decide) 4 (t' := (139, [some (vR 31), some (vR 28), some (vR 7), some (vI 0), some (vI 0), some (vI 1), some (vI (J31 28 3)), some (vI (J33 28 3))], [vR 28], MW b J33 L)) (ps := []) rfl trivial ?_
              refine rch_call (h' := 2) (k' := 42) (as := [vR 28]) (t1 := (142, [some (vR 31), some (vR 28), some (vR 7), some (vI 0), some (vI 0), some (vI 1), some (vI (J31 28 3)), some (vI (J33 28 3))], [], MW b J33 L)) cdK18 rfl (k_adv l E b I J33 L hk h0 hs) (by decide) mw_le ?_
              rintro rt9 w9 (⟨J35, rfl, rfl, hs⟩) _ _
              show Rch l E 6 18 _ _ _ _ (142, [some (vR 31), some (vR 28), some (vR 7), some (vI 0), some (vI 0), some (vI 1), some (vI (J31 28 3)), some (vI (J33 28 3))], [], MW b J35 L)
              refine rch_run cdK18 (by decide) 2 (t' := (145, [some (vR 31), some (vR 28), some (vR 7), some (vI 0), some (vI 0), some (vI 1), some (vI (J31 28 3)), some (vI (J33 28 3))], [vI 0, vR 7], MW b J35 L)) (ps := []) rfl trivial ?_
              refine rch_br cdK18 (cd := (0 : Int) = 0) (t1 := (152, [some (vR 31), some (vR 28), some (vR 7), some (vI 0), some (vI 0), some (vI 1), some (vI (J31 28 3)), some (vI (J33 28 3))], [vR 7], MW b J35 L)) (t2 := (148, [some (vR 31), some (vR 28), some (vR 7), some (vI 0), some (vI 0), some (vI 1), some (vI (J31 28 3)), some (vI (J33 28 3))], [vR 7], MW b J35 L)) rfl (fun _ => ?_) (fun c9 => absurd (by decide) c9)
              refine rch_run cdK18 (by decide) 3 (t' := (157, [some (vR 31), some (vR 28), some (vR 7), some (vI 0), some (vI 0), some (vI 1), some (vI (J31 28 3)), some (vI (J33 28 3))], [vI (J33 28 3), vI (J31 28 3), vI 0, vR 7], MW b J35 L)) (ps := []) rfl trivial ?_
              refine rch_call (h' := 1) (k' := 2) (as := [vR 7, vI 0, vI (J31 28 3), vI (J33 28 3)]) (t1 := (160, [some (vR 31), some (vR 28), some (vR 7), some (vI 0), some (vI 0), some (vI 1), some (vI (J31 28 3)), some (vI (J33 28 3))], [], MW b J35 L)) cdK18 rfl (k_push_7 l E b I J35 L (c := 2) hs (by decide) hv1v hv2v (by have hl9 := hs.1.2.2.1; (try dsimp only at hl9 ⊢); omega)) (by decide) mw_le ?_
              rintro rt9 w9 (⟨J36, rfl, rfl, hs⟩) _ _
              show Rch l E 6 18 _ _ _ _ (160, [some (vR 31), some (vR 28), some (vR 7), some (vI 0), some (vI 0), some (vI 1), some (vI (J31 28 3)), some (vI (J33 28 3))], [], MW b J36 L)
              refine rch_run cdK18 (by decide) 1 (t' := (161, [some (vR 31), some (vR 28), some (vR 7), some (vI 0), some (vI 0), some (vI 1), some (vI (J31 28 3)), some (vI (J33 28 3))], [vI 1], MW b J36 L)) (ps := []) rfl trivial ?_
              refine rch_ret cdK18 (rt := some (vI 1)) rfl (Or.inr rfl) mw_c ?_
              exact Or.inl ⟨_, _, rfl, pTest_nr h60 hq6 hp1 hp2, rfl, hs⟩
            · show Rch l E 6 18 _ _ _ _ (127, [some (vR 31), some (vR 28), some (vR 7), some (vI 0), some (vI 0), some (vI 1), some (vI (J31 28 3)), some (vI 0)], [vI 0], MW b J34 L)
              refine rch_br cdK18 (cd := (0 : Int) ≠ 0) (t1 := (132, [some (vR 31), some (vR 28), some (vR 7), some (vI 0), some (vI 0), some (vI 1), some (vI (J31 28 3)), some (vI 0)], [], MW b J34 L)) (t2 := (130, [some (vR 31), some (vR 28), some (vR 7), some (vI 0), some (vI 0), some (vI 1), some (vI (J31 28 3)), some (vI 0)], [], MW b J34 L)) rfl (fun c9 => absurd c9 (by decide)) (fun _ => ?_)
              refine rch_run cdK18 (by decide) 1 (t' := (131, [some (vR 31), some (vR 28), some (vR 7), some (vI 0), some (vI 0), some (vI 1), some (vI (J31 28 3)), some (vI 0)], [vI 0], MW b J34 L)) (ps := []) rfl trivial ?_
              refine rch_ret cdK18 (rt := some (vI 0)) rfl (Or.inl rfl) mw_c ?_
              exact Or.inr ⟨_, _, rfl, pTest_n2 h60 hq6 hp1 hp2, rfl, hf⟩
          · show Rch l E 6 18 _ _ _ _ (96, [some (vR 31), some (vR 28), some (vR 7), some (vI 0), some (vI 0), some (vI 1), none, none], [vI 0], MW b J32 L)
            refine rch_br cdK18 (cd := (0 : Int) ≠ 0) (t1 := (101, [some (vR 31), some (vR 28), some (vR 7), some (vI 0), some (vI 0), some (vI 1), none, none], [], MW b J32 L)) (t2 := (99, [some (vR 31), some (vR 28), some (vR 7), some (vI 0), some (vI 0), some (vI 1), none, none], [], MW b J32 L)) rfl (fun c9 => absurd c9 (by decide)) (fun _ => ?_)
            refine rch_run cdK18 (by decide) 1 (t' := (100, [some (vR 31), some (vR 28), some (vR 7), some (vI 0), some (vI 0), some (vI 1), none, none], [vI 0], MW b J32 L)) (ps := []) rfl trivial ?_
            refine rch_ret cdK18 (rt := some (vI 0)) rfl (Or.inl rfl) mw_c ?_
            exact Or.inr ⟨_, _, rfl, pTest_n1 hT h60 (by first | exact hq4 | exact wdq_ne hq5 (by omega) (by omega) (by omega) | exact wdq_ne hq6 (by omega) (by omega) (by omega) | exact wdq_ne hq7 (by omega) (by omega) (by omega)) hp1, rfl, hf⟩
        · refine rch_run cdK18 (by decide) 3 (t' := (58, [some (vR 31), some (vR 28), some (vR 7), some (vI 0), some (vI 0), some (vI 1), none, none], [vI 2, vR 28, vR 31], MW b J L)) (ps := []) rfl trivial ?_
          refine rch_call (h' := 1) (k' := 13) (as := [vR 31, vR 28, vI 2]) (t1 := (61, [some (vR 31), some (vR 28), some (vR 7), some (vI 0), some (vI 0), some (vI 1), none, none], [], MW b J L)) cdK18 rfl (k_stp l E b I J L 2 hk hs) (by decide) mw_le ?_
          rintro rt9 w9 (⟨J37, rfl, rfl, hf⟩) _ _
          show Rch l E 6 18 _ _ _ _ (61, [some (vR 31), some (vR 28), some (vR 7), some (vI 0), some (vI 0), some (vI 1), none, none], [vI 0], MW b J37 L)
          refine rch_ret cdK18 (rt := some (vI 0)) rfl (Or.inl rfl) mw_c ?_
          exact Or.inr ⟨_, _, rfl, pTest_bad (by first | exact Or.inl (isT_f hq4 hq5 hq6 hq7) | exact Or.inr (by omega)), rfl, hf⟩
      · show Rch l E 6 18 _ _ _ _ (21, [some (vR 31), some (vR 28), some (vR 7), some (vI 0), some (vI 0), none, none, none], [vI 0], MW b J L)
        refine rch_run cdK18 (by decide) 2 (t' := (24, [some (vR 31), some (vR 28), some (vR 7), some (vI 0), some (vI 0), some (vI 0), none, none], [vI 0], MW b J L)) (ps := []) rfl trivial ?_
        refine rch_br cdK18 (cd := (0 : Int) ≠ 0) (t1 := (46, [some (vR 31), some (vR 28), some (vR 7), some (vI 0), some (vI 0), some (vI 0), none, none], [], MW b J L)) (t2 := (27, [some (vR 31), some (vR 28), some (vR 7), some (vI 0), some (vI 0), some (vI 0), none, none], [], MW b J L)) rfl (fun c9 => absurd c9 (by decide)) (fun _ => ?_)
        refine rch_run cdK18 (by decide) 1 (t' := (29, [some (vR 31), some (vR 28), some (vR 7), some (vI 0), some (vI 0), some (vI 0), none, none], [vI 0], MW b J L)) (ps := []) rfl trivial ?_
        refine rch_br cdK18 (cd := (0 : Int) ≠ 0) (t1 := (46, [some (vR 31), some (vR 28), some (vR 7), some (vI 0), some (vI 0), some (vI 0), none, none], [], MW b J L)) (t2 := (32, [some (vR 31), some (vR 28), some (vR 7), some (vI 0), some (vI 0), some (vI 0), none, none], [], MW b J L)) rfl (fun c9 => absurd c9 (by decide)) (fun _ => ?_)
        refine rch_run cdK18 (by decide) 1 (t' := (34, [some (vR 31), some (vR 28), some (vR 7), some (vI 0), some (vI 0), some (vI 0), none, none], [vI 0], MW b J L)) (ps := []) rfl trivial ?_
        refine rch_br cdK18 (cd := (0 : Int) ≠ 0) (t1 := (46, [some (vR 31), some (vR 28), some (vR 7), some (vI 0), some (vI 0), some (vI 0), none, none], [], MW b J L)) (t2 := (37, [some (vR 31), some (vR 28), some (vR 7), some (vI 0), some (vI 0), some (vI 0), none, none], [], MW b J L)) rfl (fun c9 => absurd c9 (by decide)) (fun _ => ?_)
        refine rch_run cdK18 (by decide) 2 (t' := (40, [some (vR 31), some (vR 28), some (vR 7), some (vI 0), some (vI 0), some (vI 0), none, none], [vR 2007, vR 28], MW b J L)) (ps := []) rfl trivial ?_
        refine rch_call (h' := 5) (k' := 45) (as := [vR 28, vR 2007]) (t1 := (43, [some (vR 31), some (vR 28), some (vR 7), some (vI 0), some (vI 0), some (vI 0), none, none], [], MW b J L)) cdK18 rfl (k_rd_7 l E b I J L hk h0 hs) (by decide) mw_le ?_
        rintro rt9 w9 (⟨hq7, rfl, rfl⟩ | ⟨hq7, rfl, rfl⟩) _ _
        · show Rch l E 6 18 _ _ _ _ (43, [some (vR 31), some (vR 28), some (vR 7), some (vI 0), some (vI 0), some (vI 0), none, none], [vI 1], MW b J L)
          refine rch_br cdK18 (cd := (1 : Int) = 0) (t1 := (55, [some (vR 31), some (vR 28), some (vR 7), some (vI 0), some (vI 0), some (vI 0), none, none], [], MW b J L)) (t2 := (46, [some (vR 31), some (vR 28), some (vR 7), some (vI 0), some (vI 0), some (vI 0), none, none], [], MW b J L)) rfl (fun c9 => absurd c9 (by decide)) (fun _ => ?_)
          refine rch_run cdK18 (by decide) 3 (t' := (52, [some (vR 31), some (vR 28), some (vR 7), some (vI 0), some (vI 0), some (vI 0), none, none], [vI 60, vI (J 7 1)], MW b J L)) (ps := []) rfl trivial ?_
          refine rch_br cdK18 (cd := J 7 1 < (60 : Int)) (t1 := (62, [some (vR 31), some (vR 28), some (vR 7), some (vI 0), some (vI 0), some (vI 0), none, none], [], MW b J L)) (t2 := (55, [some (vR 31), some (vR 28), some (vR 7), some (vI 0), some (vI 0), some (vI 0), none, none], [], MW b J L)) rfl (fun c52_27 => ?_) (fun c52_27 => ?_)
          · refine rch_run cdK18 (by decide) 7 (t' := (73, [some (vR 31), some (vR 28), some (vR 7), some (vI 0), some (vI 0), some (vI 0), none, none], [vR 28], MW b (upI J 7 1 ((J 7 1) + 1)) L)) (ps := [i32 ((J 7 1) + 1)]) rfl (by simp only [all_, i32, i64]; first | omega | (simp; done) | (simp; omega)) ?_
            have hT : isT (I 29) (nTp I) s.1 = true := by first | exact isT_i 4 (by omega) hq4 | exact isT_i 5 (by omega) hq5 | exact isT_i 6 (by omega) hq6 | exact isT_i 7 (by omega) hq7
            have hT2 := isT_2 hn ha hT
            have h60 : s.2.1 < 60 := by omega
            have hs := PSx_tests hk hs h60
            refine rch_call (h' := 2) (k' := 42) (as := [vR 28]) (t1 := (76, [some (vR 31), some (vR 28), some (vR 7), some (vI 0), some (vI 0), some (vI 0), none, none], [], MW b (upI J 7 1 ((J 7 1) + 1)) L)) cdK18 rfl (k_adv l E b I (upI J 7 1 ((J 7 1) + 1)) L hk h0 hs) (by decide) mw_le ?_
            rintro rt9 w9 (⟨J38, rfl, rfl, hs⟩) _ _
            show Rch l E 6 18 _ _ _ _ (76, [some (vR 31), some (vR 28), some (vR 7), some (vI 0), some (vI 0), some (vI 0), none, none], [], MW b J38 L)
            refine rch_run cdK18 (by decide) 1 (t' := (77, [some (vR 31), some (vR 28), some (vR 7), some (vI 0), some (vI 0), some (vI 0), none, none], [vI 0], MW b J38 L)) (ps := []) rfl trivial ?_
            refine rch_br cdK18 (cd := (0 : Int) = 0) (t1 := (89, [some (vR 31), some (vR 28), some (vR 7), some (vI 0), some (vI 0), some (vI 0), none, none], [], MW b J38 L)) (t2 := (80, [some (vR 31), some (vR 28), some (vR 7), some (vI 0), some (vI 0), some (vI 0), none, none], [], MW b J38 L)) rfl (fun _ => ?_) (fun c9 => absurd (by decide) c9)
            refine rch_run cdK18 (by decide) 4 (t' := (93, [some (vR 31), some (vR 28), some (vR 7), some (vI 0), some (vI 0), some (vI 0), none, none], [vI 5, vI 0, vR 28, vR 31], MW b J38 L)) (ps := []) rfl trivial ?_
            refine rch_call (h' := 2) (k' := 15) (as := [vR 31, vR 28, vI 0, vI 5]) (t1 := (96, [some (vR 31), some (vR 28), some (vR 7), some (vI 0), some (vI 0), some (vI 0), none, none], [], MW b J38 L)) cdK18 rfl (k_num_7 l E b I J38 L 0 5 h0 hs) (by decide) mw_le ?_
            rintro rt9 w9 (⟨hp1, rfl, rfl⟩ | ⟨J39, f9, hp1, rfl, rfl, hf⟩) _ _
            · show Rch l E 6 18 _ _ _ _ (96, [some (vR 31), some (vR 28), some (vR 7), some (vI 0), some (vI 0), some (vI 0), none, none], [vI 1], MW b J38 L)
              have hv1v := hs.1.2.1.2.2.2 (pNum_3 hp1).1
              refine rch_br cdK18 (cd := (1 : Int) ≠ 0) (t1 := (101, [some (vR 31), some (vR 28), some (vR 7), some (vI 0), some (vI 0), some (vI 0), none, none], [], MW b J38 L)) (t2 := (99, [some (vR 31), some (vR 28), some (vR 7), some (vI 0), some (vI 0), some (vI 0), none, none], [], MW b J38 L)) rfl (fun _ => ?_) (fun c9 => absurd (by decide) c9)
              refine rch_run cdK18 (by decide) 4 (t' := (108, [some (vR 31), some (vR 28), some (vR 7), some (vI 0), some (vI 0), some (vI 0), some (vI (J38 28 3)), none], [vR 28], MW b J38 L)) (ps := []) rfl trivial ?_
              refine rch_call (h' := 2) (k' := 42) (as := [vR 28]) (t1 := (111, [some (vR 31), some (vR 28), some (vR 7), some (vI 0), some (vI 0), some (vI 0), some (vI (J38 28 3)), none], [], MW b J38 L)) cdK18 rfl (k_adv l E b I J38 L hk h0 hs) (by decide) mw_le ?_
              rintro rt9 w9 (⟨J40, rfl, rfl, hs⟩) _ _
              show Rch l E 6 18 _ _ _ _ (111, [some (vR 31), some (vR 28), some (vR 7), some (vI 0), some (vI 0), some (vI 0), some (vI (J38 28 3)), none], [], MW b J40 L)
              refine rch_run cdK18 (by decide) 3 (t' := (116, [some (vR 31), some (vR 28), some (vR 7), some (vI 0), some (vI 0), some (vI 0), some (vI (J38 28 3)), some (vI 0)], [vI 0], MW b J40 L)) (ps := []) rfl trivial ?_
              refine rch_br cdK18 (cd := (0 : Int) = 0) (t1 := (142, [some (vR 31), some (vR 28), some (vR 7), some (vI 0), some (vI 0), some (vI 0), some (vI (J38 28 3)), some (vI 0)], [], MW b J40 L)) (t2 := (119, [some (vR 31), some (vR 28), some (vR 7), some (vI 0), some (vI 0), some (vI 0), some (vI (J38 28 3)), some (vI 0)], [], MW b J40 L)) rfl (fun _ => ?_) (fun c9 => absurd (by decide) c9)
              refine rch_run cdK18 (by decide) 2 (t' := (145, [some (vR 31), some (vR 28), some (vR 7), some (vI 0), some (vI 0), some (vI 0), some (vI (J38 28 3)), some (vI 0)], [vI 0, vR 7], MW b J40 L)) (ps := []) rfl trivial ?_
              refine rch_br cdK18 (cd := (0 : Int) = 0) (t1 := (152, [some (vR 31), some (vR 28), some (vR 7), some (vI 0), some (vI 0), some (vI 0), some (vI (J38 28 3)), some (vI 0)], [vR 7], MW b J40 L)) (t2 := (148, [some (vR 31), some (vR 28), some (vR 7), some (vI 0), some (vI 0), some (vI 0), some (vI (J38 28 3)), some (vI 0)], [vR 7], MW b J40 L)) rfl (fun _ => ?_) (fun c9 => absurd (by decide) c9)
              refine rch_run cdK18 (by decide) 3 (t' := (157, [some (vR 31), some (vR 28), some (vR 7), some (vI 0), some (vI 0), some (vI 0), some (vI (J38 28 3)), some (vI 0)], [vI 0, vI (J38 28 3), vI 0, vR 7], MW b J40 L)) (ps := []) rfl trivial ?_
              refine rch_call (h' := 1) (k' := 2) (as := [vR 7, vI 0, vI (J38 28 3), vI 0]) (t1 := (160, [some (vR 31), some (vR 28), some (vR 7), some (vI 0), some (vI 0), some (vI 0), some (vI (J38 28 3)), some (vI 0)], [], MW b J40 L)) cdK18 rfl (k_push_7 l E b I J40 L (c := 1) hs (by decide) hv1v rfl (by have hl9 := hs.1.2.2.1; (try dsimp only at hl9 ⊢); omega)) (by decide) mw_le ?_
              rintro rt9 w9 (⟨J41, rfl, rfl, hs⟩) _ _
              show Rch l E 6 18 _ _ _ _ (160, [some (vR 31), some (vR 28), some (vR 7), some (vI 0), some (vI 0), some (vI 0), some (vI (J38 28 3)), some (vI 0)], [], MW b J41 L)
              refine rch_run cdK18 (by decide) 1 (t' := (161, [some (vR 31), some (vR 28), some (vR 7), some (vI 0), some (vI 0), some (vI 0), some (vI (J38 28 3)), some (vI 0)], [vI 1], MW b J41 L)) (ps := []) rfl trivial ?_
              refine rch_ret cdK18 (rt := some (vI 1)) rfl (Or.inr rfl) mw_c ?_
              exact Or.inl ⟨_, _, rfl, pTest_sa h60 hq7 hp1, rfl, hs⟩
            · show Rch l E 6 18 _ _ _ _ (96, [some (vR 31), some (vR 28), some (vR 7), some (vI 0), some (vI 0), some (vI 0), none, none], [vI 0], MW b J39 L)
              refine rch_br cdK18 (cd := (0 : Int) ≠ 0) (t1 := (101, [some (vR 31), some (vR 28), some (vR 7), some (vI 0), some (vI 0), some (vI 0), none, none], [], MW b J39 L)) (t2 := (99, [some (vR 31), some (vR 28), some (vR 7), some (vI 0), some (vI 0), some (vI 0), none, none], [], MW b J39 L)) rfl (fun c9 => absurd c9 (by decide)) (fun _ => ?_)
              refine rch_run cdK18 (by decide) 1 (t' := (100, [some (vR 31), some (vR 28), some (vR 7), some (vI 0), some (vI 0), some (vI 0), none, none], [vI 0], MW b J39 L)) (ps := []) rfl trivial ?_
              refine rch_ret cdK18 (rt := some (vI 0)) rfl (Or.inl rfl) mw_c ?_
              exact Or.inr ⟨_, _, rfl, pTest_n1 hT h60 (by first | exact hq4 | exact wdq_ne hq5 (by omega) (by omega) (by omega) | exact wdq_ne hq6 (by omega) (by omega) (by omega) | exact wdq_ne hq7 (by omega) (by omega) (by omega)) hp1, rfl, hf⟩
          · refine rch_run cdK18 (by decide) 3 (t' := (58, [some (vR 31), some (vR 28), some (vR 7), some (vI 0), some (vI 0), some (vI 0), none, none], [vI 2, vR 28, vR 31], MW b J L)) (ps := []) rfl trivial ?_
            refine rch_call (h' := 1) (k' := 13) (as := [vR 31, vR 28, vI 2]) (t1 := (61, [some (vR 31), some (vR 28), some (vR 7), some (vI 0), some (vI 0), some (vI 0), none, none], [], MW b J L)) cdK18 rfl (k_stp l E b I J L 2 hk hs) (by decide) mw_le ?_
            rintro rt9 w9 (⟨J42, rfl, rfl, hf⟩) _ _
            show Rch l E 6 18 _ _ _ _ (61, [some (vR 31), some (vR 28), some (vR 7), some (vI 0), some (vI 0), some (vI 0), none, none], [vI 0], MW b J42 L)
            refine rch_ret cdK18 (rt := some (vI 0)) rfl (Or.inl rfl) mw_c ?_
            exact Or.inr ⟨_, _, rfl, pTest_bad (by first | exact Or.inl (isT_f hq4 hq5 hq6 hq7) | exact Or.inr (by omega)), rfl, hf⟩
        · show Rch l E 6 18 _ _ _ _ (43, [some (vR 31), some (vR 28), some (vR 7), some (vI 0), some (vI 0), some (vI 0), none, none], [vI 0], MW b J L)
          refine rch_br cdK18 (cd := (0 : Int) = 0) (t1 := (55, [some (vR 31), some (vR 28), some (vR 7), some (vI 0), some (vI 0), some (vI 0), none, none], [], MW b J L)) (t2 := (46, [some (vR 31), some (vR 28), some (vR 7), some (vI 0), some (vI 0), some (vI 0), none, none], [], MW b J L)) rfl (fun _ => ?_) (fun c9 => absurd (by decide) c9)
          refine rch_run cdK18 (by decide) 3 (t' := (58, [some (vR 31), some (vR 28), some (vR 7), some (vI 0), some (vI 0), some (vI 0), none, none], [vI 2, vR 28, vR 31], MW b J L)) (ps := []) rfl trivial ?_
          refine rch_call (h' := 1) (k' := 13) (as := [vR 31, vR 28, vI 2]) (t1 := (61, [some (vR 31), some (vR 28), some (vR 7), some (vI 0), some (vI 0), some (vI 0), none, none], [], MW b J L)) cdK18 rfl (k_stp l E b I J L 2 hk hs) (by decide) mw_le ?_
          rintro rt9 w9 (⟨J43, rfl, rfl, hf⟩) _ _
          show Rch l E 6 18 _ _ _ _ (61, [some (vR 31), some (vR 28), some (vR 7), some (vI 0), some (vI 0), some (vI 0), none, none], [vI 0], MW b J43 L)
          refine rch_ret cdK18 (rt := some (vI 0)) rfl (Or.inl rfl) mw_c ?_
          exact Or.inr ⟨_, _, rfl, pTest_bad (by first | exact Or.inl (isT_f hq4 hq5 hq6 hq7) | exact Or.inr (by omega)), rfl, hf⟩
