theorem FaA_2 {I0 L0 I L J M I2 J9 M9 : Nat → Nat → Int} {f : Int × Int} (h : FrA I0 I) (hL : FlN L0 L) (h1 : FrM I J) (h1L : FlN L M) (hI2 : ∀ a j, ¬ (a = 95 ∨ a = 96) → I2 a j = J a j) (h2 : FlM I2 M J9 M9 f) : FaA I0 L0 J9 M9 f := ⟨fun a j ha => by rw [h2.1 a j (by omega), hI2 a j (by omega), h1 a j (by omega)]; exact h a j (by omega), FlN_tr hL (FlN_tr h1L h2.2.1), h2.2.2⟩

set_option maxHeartbeats 20000000 in
set_option maxRecDepth 100000 in
theorem lp_rulM (l : Launch) (E : AX) (b : Bool) (I1 L1 I0 L0 : Nat → Nat → Int) (r : (Int × Int) ⊕ (List (Int × Int) × Pst)) (hp0 : Mp0 I1) (Φ : Option AV → AW → Prop) (hkF : ∀ f J M, r = .inl f → FaA I1 L1 J M f → Φ (some (vI (-1))) (MW b J M)) (hkS : ∀ G s J M, r = .inr (G, s) → LSM I1 L1 J M G s → Rch l E 7 137 (MW b I0 L0) 0 0 Φ (225, [some (vR 74), none, none], [], MW b J M)) : ∀ (n9 : Nat) (i : Int) (I L : Nat → Nat → Int) (G : List (Int × Int)) (s : Pst), LSM I1 L1 I L G s → (G.length : Int) = i → i ≤ 10 → pAll (I1 97) (nM I1) (10 - i).toNat G s = r → 10 - i < (n9 : Int) → Rch l E 7 137 (MW b I0 L0) 0 0 (Φ) (47, [some (vR 74), none, none], [], MW b I L) := by
  intro n9
  induction n9 with
  | zero =>
    intro i I L G s h1 h2 h3 h4 hm
    exfalso; omega
  | succ n9 ih =>
    intro i I L G s h1 h2 h3 h4 hm
    obtain ⟨hB, hN, hT⟩ := FrA_t h1.1
    have hs := h1.2.2.1
    have h0 := hT hp0
    obtain ⟨r1, r2, hz, r4, r5, r6, r7⟩ := MSt_r h0 hs
    have hk0 := (sr_1 (tK (I 97) (nM I) s.1)).2.2.2.1
    rw [← r7] at hk0
    have hg : I 74 26 = (G.length : Int) := h1.2.2.2.1.1
    have ha : s.1 ≤ nM I := hs.2.2.1
    have hb := h1.2.2.2.2
    have hfu : i < 10 → (10 - i).toNat = (10 - (i + 1)).toNat + 1 := fun z => by omega
    rw [← hB, ← hN] at h4
    refine rch_run cdK137 (by decide) 2 (t' := (51, [some (vR 74), none, none], [vI (I 74 31)], MW b I L)) (ps := []) rfl trivial ?_
    refine rch_br cdK137 (cd := I 74 31 ≠ 0) (t1 := (216, [some (vR 74), none, none], [], MW b I L)) (t2 := (54, [some (vR 74), none, none], [], MW b I L)) rfl (fun c9 => by exfalso; omega) (fun c51_1 => ?_)
    refine rch_run cdK137 (by decide) 2 (t' := (58, [some (vR 74), none, none], [vI (I 74 35)], MW b I L)) (ps := []) rfl trivial ?_
    refine rch_br cdK137 (cd := I 74 35 = 0) (t1 := (216, [some (vR 74), none, none], [], MW b I L)) (t2 := (61, [some (vR 74), none, none], [], MW b I L)) rfl (fun c58_2 => ?_) (fun c58_2 => ?_)
    · refine rch_run cdK137 (by decide) 2 (t' := (220, [some (vR 74), none, none], [vI (I 74 31)], MW b I L)) (ps := []) rfl trivial ?_
      refine rch_br cdK137 (cd := I 74 31 ≤ 0) (t1 := (225, [some (vR 74), none, none], [], MW b I L)) (t2 := (223, [some (vR 74), none, none], [], MW b I L)) rfl (fun c220_3 => ?_) (fun c9 => by exfalso; omega)
      exact hkS G s I L (by rw [← h4]; exact pAll_0 (by omega)) h1
    · refine rch_run cdK137 (by decide) 2 (t' := (65, [some (vR 74), none, none], [vL 1818848875, vR 74], MW b I L)) (ps := []) rfl trivial ?_
      refine rch_call (h' := 1) (k' := 127) (as := [vR 74, vL 1818848875]) (t1 := (68, [some (vR 74), none, none], [], MW b I L)) cdK137 rfl (k_wd_1 l E b I L I L h0 hs) (by decide) mw_le ?_
      rintro rt9 w9 (⟨hq1, rfl, rfl⟩ | ⟨hq1, rfl, rfl⟩) _ _
      · show Rch l E 7 137 _ _ _ _ (68, [some (vR 74), none, none], [vI 1], MW b I L)
        have hw2 := wdq_2 hq1
        refine rch_run cdK137 (by decide) 2 (t' := (70, [some (vR 74), some (vI 1), none], [vI 1], MW b I L)) (ps := []) rfl trivial ?_
        refine rch_br cdK137 (cd := (1 : Int) ≠ 0) (t1 := (83, [some (vR 74), some (vI 1), none], [], MW b I L)) (t2 := (73, [some (vR 74), some (vI 1), none], [], MW b I L)) rfl (fun _ => ?_) (fun c9 => absurd (by decide) c9)
        refine rch_run cdK137 (by decide) 3 (t' := (89, [some (vR 74), some (vI 1), none], [vI 10, vI (I 74 26)], MW b I L)) (ps := []) rfl trivial ?_
        refine rch_br cdK137 (cd := I 74 26 ≠ (10 : Int)) (t1 := (97, [some (vR 74), some (vI 1), none], [], MW b I L)) (t2 := (92, [some (vR 74), some (vI 1), none], [], MW b I L)) rfl (fun c89_5 => ?_) (fun c89_5 => ?_)
        · refine rch_run cdK137 (by decide) 2 (t' := (101, [some (vR 74), some (vI 1), none], [vI (I 74 31)], MW b I L)) (ps := []) rfl trivial ?_
          refine rch_br cdK137 (cd := I 74 31 ≤ 0) (t1 := (106, [some (vR 74), some (vI 1), none], [], MW b I L)) (t2 := (104, [some (vR 74), some (vI 1), none], [], MW b I L)) rfl (fun c101_6 => ?_) (fun c9 => by exfalso; omega)
          refine rch_run cdK137 (by decide) 1 (t' := (107, [some (vR 74), some (vI 1), none], [vR 74], MW b I L)) (ps := []) rfl trivial ?_
          refine rch_call (h' := 3) (k' := 125) (as := [vR 74]) (t1 := (110, [some (vR 74), some (vI 1), none], [], MW b I L)) cdK137 rfl (k_nxt l E b I L I L h0 hs (by first | (have := wdq_2 hq1; omega) | (have := wdq_2 hq0; omega))) (by decide) mw_le ?_
          rintro rt9 w9 (⟨J181, M181, rfl, rfl, hs⟩) _ _
          show Rch l E 7 137 _ _ _ _ (110, [some (vR 74), some (vI 1), none], [], MW b J181 M181)
          have hz := (MSt_r h0 hs).2.2.1
          have htk0 : tK (I 97) (nM I) s.1 ≠ 0 := by first | (have := wdq_2 hq1; omega) | (have := wdq_2 hq0; omega)
          have b1 := tN_bd (B := I 97) r4 ha
          have a1 := tP_bd (B := I 97) r4 ha
          have b2 := tN_bd (B := I 97) r4 b1.2.1
          have a2 := tP_bd (B := I 97) r4 b1.2.1
          have b3 := tN_bd (B := I 97) r4 b2.2.1
          have a3 := tP_bd (B := I 97) r4 b2.2.1
          refine rch_run cdK137 (by decide) 3 (t' := (115, [some (vR 74), some (vI 1), none], [vI 1000, vI 1, vR 74], MW b J181 M181)) (ps := []) rfl trivial ?_
          refine rch_call (h' := 4) (k' := 129) (as := [vR 74, vI 1, vI 1000]) (t1 := (118, [some (vR 74), some (vI 1), none], [], MW b J181 M181)) cdK137 rfl (k_told l E b I L J181 M181 1 1000 h0 hs) (by decide) mw_le ?_
          rintro rt9 w9 (⟨hp1, J182, M182, rfl, rfl, hs⟩ | ⟨J182, M182, f9, x9, hp1, rfl, rfl, hf⟩) _ _
          · show Rch l E 7 137 _ _ _ _ (118, [some (vR 74), some (vI 1), none], [vI (tV (I 97) (nM I) (tN (I 97) (nM I) s.1))], MW b J182 M182)
            have hz := (MSt_r h0 hs).2.2.1
            have hv9 : 1 ≤ tV (I 97) (nM I) (tN (I 97) (nM I) s.1) ∧ tV (I 97) (nM I) (tN (I 97) (nM I) s.1) ≤ 1000 := (pNum_3 hp1).2
            refine rch_run cdK137 (by decide) 3 (t' := (123, [some (vR 74), some (vI 1), some (vI (tV (I 97) (nM I) (tN (I 97) (nM I) s.1)))], [vI (J182 74 31)], MW b J182 M182)) (ps := []) rfl trivial ?_
            refine rch_br cdK137 (cd := J182 74 31 ≠ 0) (t1 := (141, [some (vR 74), some (vI 1), some (vI (tV (I 97) (nM I) (tN (I 97) (nM I) s.1)))], [], MW b J182 M182)) (t2 := (126, [some (vR 74), some (vI 1), some (vI (tV (I 97) (nM I) (tN (I 97) (nM I) s.1)))], [], MW b J182 M182)) rfl (fun c9 => by exfalso; omega) (fun c123_7 => ?_)
            refine rch_run cdK137 (by decide) 2 (t' := (130, [some (vR 74), some (vI 1), some (vI (tV (I 97) (nM I) (tN (I 97) (nM I) s.1)))], [vL 2003330414, vR 74], MW b J182 M182)) (ps := []) rfl trivial ?_
            refine rch_call (h' := 1) (k' := 127) (as := [vR 74, vL 2003330414]) (t1 := (133, [some (vR 74), some (vI 1), some (vI (tV (I 97) (nM I) (tN (I 97) (nM I) s.1)))], [], MW b J182 M182)) cdK137 rfl (k_wd_2 l E b I L J182 M182 h0 hs) (by decide) mw_le ?_
            rintro rt9 w9 (⟨hq2, rfl, rfl⟩ | ⟨hq2, rfl, rfl⟩) _ _
            · show Rch l E 7 137 _ _ _ _ (133, [some (vR 74), some (vI 1), some (vI (tV (I 97) (nM I) (tN (I 97) (nM I) s.1)))], [vI 1], MW b J182 M182)
              have hw2 := wdq_2 hq2
              refine rch_br cdK137 (cd := (1 : Int) ≠ 0) (t1 := (141, [some (vR 74), some (vI 1), some (vI (tV (I 97) (nM I) (tN (I 97) (nM I) s.1)))], [], MW b J182 M182)) (t2 := (136, [some (vR 74), some (vI 1), some (vI (tV (I 97) (nM I) (tN (I 97) (nM I) s.1)))], [], MW b J182 M182)) rfl (fun _ => ?_) (fun c9 => absurd (by decide) c9)
              refine rch_run cdK137 (by decide) 2 (t' := (145, [some (vR 74), some (vI 1), some (vI (tV (I 97) (nM I) (tN (I 97) (nM I) s.1)))], [vI (J182 74 31)], MW b J182 M182)) (ps := []) rfl trivial ?_
              refine rch_br cdK137 (cd := J182 74 31 ≤ 0) (t1 := (150, [some (vR 74), some (vI 1), some (vI (tV (I 97) (nM I) (tN (I 97) (nM I) s.1)))], [], MW b J182 M182)) (t2 := (148, [some (vR 74), some (vI 1), some (vI (tV (I 97) (nM I) (tN (I 97) (nM I) s.1)))], [], MW b J182 M182)) rfl (fun c145_9 => ?_) (fun c9 => by exfalso; omega)
              refine rch_run cdK137 (by decide) 1 (t' := (151, [some (vR 74), some (vI 1), some (vI (tV (I 97) (nM I) (tN (I 97) (nM I) s.1)))], [vR 74], MW b J182 M182)) (ps := []) rfl trivial ?_
              refine rch_call (h' := 3) (k' := 125) (as := [vR 74]) (t1 := (154, [some (vR 74), some (vI 1), some (vI (tV (I 97) (nM I) (tN (I 97) (nM I) s.1)))], [], MW b J182 M182)) cdK137 rfl (k_nxt l E b I L J182 M182 h0 hs (by show tK (I 97) (nM I) (tN (I 97) (nM I) (tN (I 97) (nM I) s.1)) ≠ 1; have := wdq_2 hq2; dsimp only at this; omega)) (by decide) mw_le ?_
              rintro rt9 w9 (⟨J183, M183, rfl, rfl, hs⟩) _ _
              show Rch l E 7 137 _ _ _ _ (154, [some (vR 74), some (vI 1), some (vI (tV (I 97) (nM I) (tN (I 97) (nM I) s.1)))], [], MW b J183 M183)
              have hz := (MSt_r h0 hs).2.2.1
              have hg5 := hs.1.1 74 26 (by omega)
              refine rch_run cdK137 (by decide) 12 (t' := (176, [some (vR 74), some (vI 1), some (vI (tV (I 97) (nM I) (tN (I 97) (nM I) s.1)))], [vI 1, vI (J183 74 26), vR 96], MW b (upI J183 95 (J183 74 26).toNat (J183 74 27)) M183)) (ps := [0 ≤ J183 74 26 ∧ J183 74 26 < ((11 : Nat) : Int)]) rfl (by simp only [all_, i32, i64]; first | omega | (simp; done) | (simp; omega)) ?_
              refine rch_br cdK137 (cd := (1 : Int) = 0) (t1 := (183, [some (vR 74), some (vI 1), some (vI (tV (I 97) (nM I) (tN (I 97) (nM I) s.1)))], [vI (J183 74 26), vR 96], MW b (upI J183 95 (J183 74 26).toNat (J183 74 27)) M183)) (t2 := (179, [some (vR 74), some (vI 1), some (vI (tV (I 97) (nM I) (tN (I 97) (nM I) s.1)))], [vI (J183 74 26), vR 96], MW b (upI J183 95 (J183 74 26).toNat (J183 74 27)) M183)) rfl (fun c9 => absurd c9 (by decide)) (fun _ => ?_)
              refine rch_run cdK137 (by decide) 3 (t' := (186, [some (vR 74), some (vI 1), some (vI (tV (I 97) (nM I) (tN (I 97) (nM I) s.1)))], [], MW b (upI (upI J183 95 (J183 74 26).toNat (J183 74 27)) 96 (J183 74 26).toNat (tV (I 97) (nM I) (tN (I 97) (nM I) s.1))) M183)) (ps := [0 ≤ J183 74 26 ∧ J183 74 26 < ((10 : Nat) : Int)]) rfl (by simp only [all_, i32, i64]; first | omega | (simp; done) | (simp; omega)) ?_
              have hl5 : J183 74 27 = (s.2.2.length : Int) := hs.2.2.2.2.1.1
              have e26 : (J183 74 26).toNat = G.length := by omega
              generalize hI2 : (upI (upI J183 95 (J183 74 26).toNat (J183 74 27)) 96 (J183 74 26).toNat (tV (I 97) (nM I) (tN (I 97) (nM I) s.1))) = I2
              have hq95 : ∀ a j, ¬ (a = 95 ∨ a = 96) → I2 a j = J183 a j := fun a j ha => by rw [← hI2, upI_ne (by omega), upI_ne (by omega)]
              have h95 : ∀ j, I2 95 j = if j = G.length then (s.2.2.length : Int) else I 95 j := fun j => by rw [← hI2, upI_ne (by omega)]; by_cases e : j = G.length; (rw [if_pos e, upI_eq rfl (by omega)]; exact hl5); (rw [if_neg e, upI_ne (by omega)]; exact hs.1.1 95 j (by omega))
              have h96 : ∀ j, I2 96 j = if j = G.length then (tV (I 97) (nM I) (tN (I 97) (nM I) s.1)) else I 96 j := fun j => by rw [← hI2]; by_cases e : j = G.length; (rw [if_pos e, upI_eq rfl (by omega)]); (rw [if_neg e, upI_ne (by omega), upI_ne (by omega)]; exact hs.1.1 96 j (by omega))
              obtain ⟨hs2, hB2, hN2, hT2⟩ := MSt_reb (J2 := I2) hs (fun a j ha => hq95 a j (by omega))
              have h02 := hT2 h0
              refine rch_run cdK137 (by decide) 1 (t' := (187, [some (vR 74), some (vI 1), some (vI (tV (I 97) (nM I) (tN (I 97) (nM I) s.1)))], [vR 74], MW b I2 M183)) (ps := []) rfl trivial ?_
              refine rch_call (h' := 6) (k' := 134) (as := [vR 74]) (t1 := (190, [some (vR 74), some (vI 1), some (vI (tV (I 97) (nM I) (tN (I 97) (nM I) s.1)))], [], MW b I2 M183)) cdK137 rfl (k_readE l E b I2 M183 I2 M183 h02 hs2 (by dsimp only; omega)) (by decide) mw_le ?_
              rintro rt9 w9 (⟨J184, M184, s9, rfl, rfl, he9, ht9, hs9⟩ | ⟨J184, M184, f9, rfl, rfl, hf, he9⟩) _ _
              · show Rch l E 7 137 _ _ _ _ (190, [some (vR 74), some (vI 1), some (vI (tV (I 97) (nM I) (tN (I 97) (nM I) s.1)))], [], MW b J184 M184)
                rw [hB2, hN2] at he9 ht9
                have hz9 := (MSt_r h02 hs9).2.2.1
                have bd9 := (pEi_bd r4 (show tN (I 97) (nM I) (tN (I 97) (nM I) (tN (I 97) (nM I) s.1)) ≤ nM I by omega) he9)
                have bd8 : 2 * s9.2.2.length + tN (I 97) (nM I) (tN (I 97) (nM I) (tN (I 97) (nM I) s.1)) ≤ 2 * s.2.2.length + s9.1 + 0 := bd9.2.2
                have bd7 := tN_bd (B := I 97) r4 bd9.2.1
                have bd6 := tP_bd (B := I 97) r4 bd9.2.1
                refine rch_run cdK137 (by decide) 2 (t' := (194, [some (vR 74), some (vI 1), some (vI (tV (I 97) (nM I) (tN (I 97) (nM I) s.1)))], [vI (J184 74 31)], MW b J184 M184)) (ps := []) rfl trivial ?_
                refine rch_br cdK137 (cd := J184 74 31 ≤ 0) (t1 := (199, [some (vR 74), some (vI 1), some (vI (tV (I 97) (nM I) (tN (I 97) (nM I) s.1)))], [], MW b J184 M184)) (t2 := (197, [some (vR 74), some (vI 1), some (vI (tV (I 97) (nM I) (tN (I 97) (nM I) s.1)))], [], MW b J184 M184)) rfl (fun c194_1 => ?_) (fun c9 => by exfalso; omega)
                refine rch_run cdK137 (by decide) 1 (t' := (200, [some (vR 74), some (vI 1), some (vI (tV (I 97) (nM I) (tN (I 97) (nM I) s.1)))], [vR 74], MW b J184 M184)) (ps := []) rfl trivial ?_
                refine rch_call (h' := 3) (k' := 125) (as := [vR 74]) (t1 := (203, [some (vR 74), some (vI 1), some (vI (tV (I 97) (nM I) (tN (I 97) (nM I) s.1)))], [], MW b J184 M184)) cdK137 rfl (k_nxt l E b I2 M183 J184 M184 h02 hs9 (by rw [hB2, hN2]; omega)) (by decide) mw_le ?_
                rintro rt9 w9 (⟨J185, M185, rfl, rfl, hs10⟩) _ _
                show Rch l E 7 137 _ _ _ _ (203, [some (vR 74), some (vI 1), some (vI (tV (I 97) (nM I) (tN (I 97) (nM I) s.1)))], [], MW b J185 M185)
                rw [hB2, hN2] at hs10
                have hg10 : J185 74 26 = (G.length : Int) := by rw [hs10.1.1 74 26 (by omega), hq95 74 26 (by omega), hg5]; exact hg
                refine rch_run cdK137 (by decide) 7 (t' := (47, [some (vR 74), some (vI 1), some (vI (tV (I 97) (nM I) (tN (I 97) (nM I) s.1)))], [], MW b (upI J185 74 26 ((J185 74 26) + 1)) M185)) (ps := [i32 ((J185 74 26) + 1)]) rfl (by simp only [all_, i32, i64]; first | omega | (simp; done) | (simp; omega)) ?_
                refine rch_forget [1, 2] ?_
                exact ih (i + 1) _ _ (G ++ [(tV (I 97) (nM I) (tN (I 97) (nM I) s.1), (s9.2.2.length : Int))]) (tN (I 97) (nM I) s9.1, s9.2) (LSM_line h1 hs.1.1 hs.1.2 hq95 h95 h96 hs10 rfl (by dsimp only; omega)) (by rw [List.length_append, List.length_singleton]; omega) (by omega) (by rw [← hB, ← hN, ← h4, hfu (by omega)]; exact (pAll_s htk0 (by rw [pLine_6 (by first | exact Or.inl hq0 | exact Or.inr hq1) hp1 hq2 he9 ht9, if_neg (by rw [wdq_ne hq1 (by omega) (by omega) (by omega)]; decide)])).symm) (by omega)
              · show Rch l E 7 137 _ _ _ _ (190, [some (vR 74), some (vI 1), some (vI (tV (I 97) (nM I) (tN (I 97) (nM I) s.1)))], [], MW b J184 M184)
                have hf1 := hf.2.2.1
                have hf2 := hf.2.2.2.2
                refine rch_run cdK137 (by decide) 2 (t' := (194, [some (vR 74), some (vI 1), some (vI (tV (I 97) (nM I) (tN (I 97) (nM I) s.1)))], [vI (J184 74 31)], MW b J184 M184)) (ps := []) rfl trivial ?_
                refine rch_br cdK137 (cd := J184 74 31 ≤ 0) (t1 := (199, [some (vR 74), some (vI 1), some (vI (tV (I 97) (nM I) (tN (I 97) (nM I) s.1)))], [], MW b J184 M184)) (t2 := (197, [some (vR 74), some (vI 1), some (vI (tV (I 97) (nM I) (tN (I 97) (nM I) s.1)))], [], MW b J184 M184)) rfl (fun c9 => by exfalso; omega) (fun c194_2 => ?_)
                refine rch_run cdK137 (by decide) 1 (t' := (198, [some (vR 74), some (vI 1), some (vI (tV (I 97) (nM I) (tN (I 97) (nM I) s.1)))], [vI (-1)], MW b J184 M184)) (ps := []) rfl trivial ?_
                refine rch_ret cdK137 (rt := some (vI (-1))) rfl trivial mw_c ?_
                rcases he9 with he9 | ⟨s9, he9, ht9, e9⟩
                · rw [hB2, hN2] at he9
                  exact hkF _ _ _ (by rw [← h4, hfu (by omega)]; exact pAll_F (by omega) (pLine_4 (by first | exact Or.inl hq0 | exact Or.inr hq1) hp1 hq2 he9)) (FaA_2 h1.1 h1.2.1 hs.1.1 hs.1.2 hq95 hf)
                · rw [hB2, hN2] at he9 ht9
                  rw [e9, hB2, hN2] at hf
                  exact hkF _ _ _ (by rw [← h4, hfu (by omega)]; exact pAll_F (by omega) (pLine_5 (by first | exact Or.inl hq0 | exact Or.inr hq1) hp1 hq2 he9 ht9)) (FaA_2 h1.1 h1.2.1 hs.1.1 hs.1.2 hq95 hf)
            · show Rch l E 7 137 _ _ _ _ (133, [some (vR 74), some (vI 1), some (vI (tV (I 97) (nM I) (tN (I 97) (nM I) s.1)))], [vI 0], MW b J182 M182)
              refine rch_br cdK137 (cd := (0 : Int) ≠ 0) (t1 := (141, [some (vR 74), some (vI 1), some (vI (tV (I 97) (nM I) (tN (I 97) (nM I) s.1)))], [], MW b J182 M182)) (t2 := (136, [some (vR 74), some (vI 1), some (vI (tV (I 97) (nM I) (tN (I 97) (nM I) s.1)))], [], MW b J182 M182)) rfl (fun c9 => absurd c9 (by decide)) (fun _ => ?_)
              refine rch_run cdK137 (by decide) 2 (t' := (138, [some (vR 74), some (vI 1), some (vI (tV (I 97) (nM I) (tN (I 97) (nM I) s.1)))], [vI 2, vR 74], MW b J182 M182)) (ps := []) rfl trivial ?_
              refine rch_call (h' := 1) (k' := 126) (as := [vR 74, vI 2]) (t1 := (141, [some (vR 74), some (vI 1), some (vI (tV (I 97) (nM I) (tN (I 97) (nM I) s.1)))], [], MW b J182 M182)) cdK137 rfl (k_wrg l E b I L J182 M182 2 (by omega) h0 hs) (by decide) mw_le ?_
              rintro rt9 w9 (⟨J186, rfl, rfl, hf⟩) _ _
              show Rch l E 7 137 _ _ _ _ (141, [some (vR 74), some (vI 1), some (vI (tV (I 97) (nM I) (tN (I 97) (nM I) s.1)))], [], MW b J186 M182)
              have hf1 := hf.2.2.1
              have hf2 := hf.2.2.2.2
              refine rch_run cdK137 (by decide) 2 (t' := (145, [some (vR 74), some (vI 1), some (vI (tV (I 97) (nM I) (tN (I 97) (nM I) s.1)))], [vI (J186 74 31)], MW b J186 M182)) (ps := []) rfl trivial ?_
              refine rch_br cdK137 (cd := J186 74 31 ≤ 0) (t1 := (150, [some (vR 74), some (vI 1), some (vI (tV (I 97) (nM I) (tN (I 97) (nM I) s.1)))], [], MW b J186 M182)) (t2 := (148, [some (vR 74), some (vI 1), some (vI (tV (I 97) (nM I) (tN (I 97) (nM I) s.1)))], [], MW b J186 M182)) rfl (fun c9 => by exfalso; omega) (fun c145_12 => ?_)
              refine rch_run cdK137 (by decide) 1 (t' := (149, [some (vR 74), some (vI 1), some (vI (tV (I 97) (nM I) (tN (I 97) (nM I) s.1)))], [vI (-1)], MW b J186 M182)) (ps := []) rfl trivial ?_
              refine rch_ret cdK137 (rt := some (vI (-1))) rfl trivial mw_c ?_
              first | exact hkF _ _ _ (by rw [← h4, hfu (by omega)]; exact pAll_F (by omega) (pLine_2 (by first | exact Or.inl hq0 | exact Or.inr hq1) hp1)) (FaA_1 h1.1 h1.2.1 hf) | exact hkF _ _ _ (by rw [← h4, hfu (by omega)]; exact pAll_F (by omega) (pLine_3 (by first | exact Or.inl hq0 | exact Or.inr hq1) hp1 hq2)) (FaA_1 h1.1 h1.2.1 hf)
          · show Rch l E 7 137 _ _ _ _ (118, [some (vR 74), some (vI 1), none], [vI x9], MW b J182 M182)
            have hf1 := hf.2.2.1
            have hf2 := hf.2.2.2.2
            refine rch_run cdK137 (by decide) 3 (t' := (123, [some (vR 74), some (vI 1), some (vI x9)], [vI (J182 74 31)], MW b J182 M182)) (ps := []) rfl trivial ?_
            refine rch_br cdK137 (cd := J182 74 31 ≠ 0) (t1 := (141, [some (vR 74), some (vI 1), some (vI x9)], [], MW b J182 M182)) (t2 := (126, [some (vR 74), some (vI 1), some (vI x9)], [], MW b J182 M182)) rfl (fun c123_13 => ?_) (fun c9 => by exfalso; omega)
            refine rch_run cdK137 (by decide) 2 (t' := (145, [some (vR 74), some (vI 1), some (vI x9)], [vI (J182 74 31)], MW b J182 M182)) (ps := []) rfl trivial ?_
            refine rch_br cdK137 (cd := J182 74 31 ≤ 0) (t1 := (150, [some (vR 74), some (vI 1), some (vI x9)], [], MW b J182 M182)) (t2 := (148, [some (vR 74), some (vI 1), some (vI x9)], [], MW b J182 M182)) rfl (fun c9 => by exfalso; omega) (fun c145_14 => ?_)
            refine rch_run cdK137 (by decide) 1 (t' := (149, [some (vR 74), some (vI 1), some (vI x9)], [vI (-1)], MW b J182 M182)) (ps := []) rfl trivial ?_
            refine rch_ret cdK137 (rt := some (vI (-1))) rfl trivial mw_c ?_
            first | exact hkF _ _ _ (by rw [← h4, hfu (by omega)]; exact pAll_F (by omega) (pLine_2 (by first | exact Or.inl hq0 | exact Or.inr hq1) hp1)) (FaA_1 h1.1 h1.2.1 hf) | exact hkF _ _ _ (by rw [← h4, hfu (by omega)]; exact pAll_F (by omega) (pLine_3 (by first | exact Or.inl hq0 | exact Or.inr hq1) hp1 hq2)) (FaA_1 h1.1 h1.2.1 hf)
        · refine rch_run cdK137 (by decide) 2 (t' := (94, [some (vR 74), some (vI 1), none], [vI 2, vR 74], MW b I L)) (ps := []) rfl trivial ?_
          refine rch_call (h' := 1) (k' := 126) (as := [vR 74, vI 2]) (t1 := (97, [some (vR 74), some (vI 1), none], [], MW b I L)) cdK137 rfl (k_wrg l E b I L I L 2 (by omega) h0 hs) (by decide) mw_le ?_
          rintro rt9 w9 (⟨J187, rfl, rfl, hf⟩) _ _
          show Rch l E 7 137 _ _ _ _ (97, [some (vR 74), some (vI 1), none], [], MW b J187 L)
          have hf1 := hf.2.2.1
          have hf2 := hf.2.2.2.2
          refine rch_run cdK137 (by decide) 2 (t' := (101, [some (vR 74), some (vI 1), none], [vI (J187 74 31)], MW b J187 L)) (ps := []) rfl trivial ?_
          refine rch_br cdK137 (cd := J187 74 31 ≤ 0) (t1 := (106, [some (vR 74), some (vI 1), none], [], MW b J187 L)) (t2 := (104, [some (vR 74), some (vI 1), none], [], MW b J187 L)) rfl (fun c9 => by exfalso; omega) (fun c101_15 => ?_)
          refine rch_run cdK137 (by decide) 1 (t' := (105, [some (vR 74), some (vI 1), none], [vI (-1)], MW b J187 L)) (ps := []) rfl trivial ?_
          refine rch_ret cdK137 (rt := some (vI (-1))) rfl trivial mw_c ?_
          by_cases e10 : i = 10
          · exact hkF _ _ _ (by rw [← h4, show (10 - i).toNat = 0 by omega]; exact pAll_z (by omega)) (FaA_1 h1.1 h1.2.1 hf)
          · first | (exfalso; omega) | exact hkF _ _ _ (by rw [← h4, hfu (by omega)]; exact pAll_F (by omega) (pLine_1 hq0 hq1)) (FaA_1 h1.1 h1.2.1 hf)
      · show Rch l E 7 137 _ _ _ _ (68, [some (vR 74), none, none], [vI 0], MW b I L)
        refine rch_run cdK137 (by decide) 2 (t' := (70, [some (vR 74), some (vI 0), none], [vI 0], MW b I L)) (ps := []) rfl trivial ?_
        refine rch_br cdK137 (cd := (0 : Int) ≠ 0) (t1 := (83, [some (vR 74), some (vI 0), none], [], MW b I L)) (t2 := (73, [some (vR 74), some (vI 0), none], [], MW b I L)) rfl (fun c9 => absurd c9 (by decide)) (fun _ => ?_)
        refine rch_run cdK137 (by decide) 2 (t' := (77, [some (vR 74), some (vI 0), none], [vL 6447474, vR 74], MW b I L)) (ps := []) rfl trivial ?_
        refine rch_call (h' := 1) (k' := 127) (as := [vR 74, vL 6447474]) (t1 := (80, [some (vR 74), some (vI 0), none], [], MW b I L)) cdK137 rfl (k_wd_0 l E b I L I L h0 hs) (by decide) mw_le ?_
        rintro rt9 w9 (⟨hq0, rfl, rfl⟩ | ⟨hq0, rfl, rfl⟩) _ _
        · show Rch l E 7 137 _ _ _ _ (80, [some (vR 74), some (vI 0), none], [vI 1], MW b I L)
          have hw2 := wdq_2 hq0
          refine rch_br cdK137 (cd := (1 : Int) = 0) (t1 := (92, [some (vR 74), some (vI 0), none], [], MW b I L)) (t2 := (83, [some (vR 74), some (vI 0), none], [], MW b I L)) rfl (fun c9 => absurd c9 (by decide)) (fun _ => ?_)
          refine rch_run cdK137 (by decide) 3 (t' := (89, [some (vR 74), some (vI 0), none], [vI 10, vI (I 74 26)], MW b I L)) (ps := []) rfl trivial ?_
          refine rch_br cdK137 (cd := I 74 26 ≠ (10 : Int)) (t1 := (97, [some (vR 74), some (vI 0), none], [], MW b I L)) (t2 := (92, [some (vR 74), some (vI 0), none], [], MW b I L)) rfl (fun c89_18 => ?_) (fun c89_18 => ?_)
          · refine rch_run cdK137 (by decide) 2 (t' := (101, [some (vR 74), some (vI 0), none], [vI (I 74 31)], MW b I L)) (ps := []) rfl trivial ?_
            refine rch_br cdK137 (cd := I 74 31 ≤ 0) (t1 := (106, [some (vR 74), some (vI 0), none], [], MW b I L)) (t2 := (104, [some (vR 74), some (vI 0), none], [], MW b I L)) rfl (fun c101_19 => ?_) (fun c9 => by exfalso; omega)
            refine rch_run cdK137 (by decide) 1 (t' := (107, [some (vR 74), some (vI 0), none], [vR 74], MW b I L)) (ps := []) rfl trivial ?_
            refine rch_call (h' := 3) (k' := 125) (as := [vR 74]) (t1 := (110, [some (vR 74), some (vI 0), none], [], MW b I L)) cdK137 rfl (k_nxt l E b I L I L h0 hs (by first | (have := wdq_2 hq1; omega) | (have := wdq_2 hq0; omega))) (by decide) mw_le ?_
            rintro rt9 w9 (⟨J188, M188, rfl, rfl, hs⟩) _ _
            show Rch l E 7 137 _ _ _ _ (110, [some (vR 74), some (vI 0), none], [], MW b J188 M188)
            have hz := (MSt_r h0 hs).2.2.1
            have htk0 : tK (I 97) (nM I) s.1 ≠ 0 := by first | (have := wdq_2 hq1; omega) | (have := wdq_2 hq0; omega)
            have b1 := tN_bd (B := I 97) r4 ha
            have a1 := tP_bd (B := I 97) r4 ha
            have b2 := tN_bd (B := I 97) r4 b1.2.1
            have a2 := tP_bd (B := I 97) r4 b1.2.1
            have b3 := tN_bd (B := I 97) r4 b2.2.1
            have a3 := tP_bd (B := I 97) r4 b2.2.1
            refine rch_run cdK137 (by decide) 3 (t' := (115, [some (vR 74), some (vI 0), none], [vI 1000, vI 1, vR 74], MW b J188 M188)) (ps := []) rfl trivial ?_
            refine rch_call (h' := 4) (k' := 129) (as := [vR 74, vI 1, vI 1000]) (t1 := (118, [some (vR 74), some (vI 0), none], [], MW b J188 M188)) cdK137 rfl (k_told l E b I L J188 M188 1 1000 h0 hs) (by decide) mw_le ?_
            rintro rt9 w9 (⟨hp1, J189, M189, rfl, rfl, hs⟩ | ⟨J189, M189, f9, x9, hp1, rfl, rfl, hf⟩) _ _
            · show Rch l E 7 137 _ _ _ _ (118, [some (vR 74), some (vI 0), none], [vI (tV (I 97) (nM I) (tN (I 97) (nM I) s.1))], MW b J189 M189)
              have hz := (MSt_r h0 hs).2.2.1
              have hv9 : 1 ≤ tV (I 97) (nM I) (tN (I 97) (nM I) s.1) ∧ tV (I 97) (nM I) (tN (I 97) (nM I) s.1) ≤ 1000 := (pNum_3 hp1).2
              refine rch_run cdK137 (by decide) 3 (t' := (123, [some (vR 74), some (vI 0), some (vI (tV (I 97) (nM I) (tN (I 97) (nM I) s.1)))], [vI (J189 74 31)], MW b J189 M189)) (ps := []) rfl trivial ?_
              refine rch_br cdK137 (cd := J189 74 31 ≠ 0) (t1 := (141, [some (vR 74), some (vI 0), some (vI (tV (I 97) (nM I) (tN (I 97) (nM I) s.1)))], [], MW b J189 M189)) (t2 := (126, [some (vR 74), some (vI 0), some (vI (tV (I 97) (nM I) (tN (I 97) (nM I) s.1)))], [], MW b J189 M189)) rfl (fun c9 => by exfalso; omega) (fun c123_20 => ?_)
              refine rch_run cdK137 (by decide) 2 (t' := (130, [some (vR 74), some (vI 0), some (vI (tV (I 97) (nM I) (tN (I 97) (nM I) s.1)))], [vL 2003330414, vR 74], MW b J189 M189)) (ps := []) rfl trivial ?_
              refine rch_call (h' := 1) (k' := 127) (as := [vR 74, vL 2003330414]) (t1 := (133, [some (vR 74), some (vI 0), some (vI (tV (I 97) (nM I) (tN (I 97) (nM I) s.1)))], [], MW b J189 M189)) cdK137 rfl (k_wd_2 l E b I L J189 M189 h0 hs) (by decide) mw_le ?_
              rintro rt9 w9 (⟨hq2, rfl, rfl⟩ | ⟨hq2, rfl, rfl⟩) _ _
              · show Rch l E 7 137 _ _ _ _ (133, [some (vR 74), some (vI 0), some (vI (tV (I 97) (nM I) (tN (I 97) (nM I) s.1)))], [vI 1], MW b J189 M189)
                have hw2 := wdq_2 hq2
                refine rch_br cdK137 (cd := (1 : Int) ≠ 0) (t1 := (141, [some (vR 74), some (vI 0), some (vI (tV (I 97) (nM I) (tN (I 97) (nM I) s.1)))], [], MW b J189 M189)) (t2 := (136, [some (vR 74), some (vI 0), some (vI (tV (I 97) (nM I) (tN (I 97) (nM I) s.1)))], [], MW b J189 M189)) rfl (fun _ => ?_) (fun c9 => absurd (by decide) c9)
                refine rch_run cdK137 (by decide) 2 (t' := (145, [some (vR 74), some (vI 0), some (vI (tV (I 97) (nM I) (tN (I 97) (nM I) s.1)))], [vI (J189 74 31)], MW b J189 M189)) (ps := []) rfl trivial ?_
                refine rch_br cdK137 (cd := J189 74 31 ≤ 0) (t1 := (150, [some (vR 74), some (vI 0), some (vI (tV (I 97) (nM I) (tN (I 97) (nM I) s.1)))], [], MW b J189 M189)) (t2 := (148, [some (vR 74), some (vI 0), some (vI (tV (I 97) (nM I) (tN (I 97) (nM I) s.1)))], [], MW b J189 M189)) rfl (fun c145_22 => ?_) (fun c9 => by exfalso; omega)
                refine rch_run cdK137 (by decide) 1 (t' := (151, [some (vR 74), some (vI 0), some (vI (tV (I 97) (nM I) (tN (I 97) (nM I) s.1)))], [vR 74], MW b J189 M189)) (ps := []) rfl trivial ?_
                refine rch_call (h' := 3) (k' := 125) (as := [vR 74]) (t1 := (154, [some (vR 74), some (vI 0), some (vI (tV (I 97) (nM I) (tN (I 97) (nM I) s.1)))], [], MW b J189 M189)) cdK137 rfl (k_nxt l E b I L J189 M189 h0 hs (by show tK (I 97) (nM I) (tN (I 97) (nM I) (tN (I 97) (nM I) s.1)) ≠ 1; have := wdq_2 hq2; dsimp only at this; omega)) (by decide) mw_le ?_
                rintro rt9 w9 (⟨J190, M190, rfl, rfl, hs⟩) _ _
                show Rch l E 7 137 _ _ _ _ (154, [some (vR 74), some (vI 0), some (vI (tV (I 97) (nM I) (tN (I 97) (nM I) s.1)))], [], MW b J190 M190)
                have hz := (MSt_r h0 hs).2.2.1
                have hg5 := hs.1.1 74 26 (by omega)
                refine rch_run cdK137 (by decide) 12 (t' := (176, [some (vR 74), some (vI 0), some (vI (tV (I 97) (nM I) (tN (I 97) (nM I) s.1)))], [vI 0, vI (J190 74 26), vR 96], MW b (upI J190 95 (J190 74 26).toNat (J190 74 27)) M190)) (ps := [0 ≤ J190 74 26 ∧ J190 74 26 < ((11 : Nat) : Int)]) rfl (by simp only [all_, i32, i64]; first | omega | (simp; done) | (simp; omega)) ?_
                refine rch_br cdK137 (cd := (0 : Int) = 0) (t1 := (183, [some (vR 74), some (vI 0), some (vI (tV (I 97) (nM I) (tN (I 97) (nM I) s.1)))], [vI (J190 74 26), vR 96], MW b (upI J190 95 (J190 74 26).toNat (J190 74 27)) M190)) (t2 := (179, [some (vR 74), some (vI 0), some (vI (tV (I 97) (nM I) (tN (I 97) (nM I) s.1)))], [vI (J190 74 26), vR 96], MW b (upI J190 95 (J190 74 26).toNat (J190 74 27)) M190)) rfl (fun _ => ?_) (fun c9 => absurd (by decide) c9)
                refine rch_run cdK137 (by decide) 3 (t' := (186, [some (vR 74), some (vI 0), some (vI (tV (I 97) (nM I) (tN (I 97) (nM I) s.1)))], [], MW b (upI (upI J190 95 (J190 74 26).toNat (J190 74 27)) 96 (J190 74 26).toNat (-(tV (I 97) (nM I) (tN (I 97) (nM I) s.1)))) M190)) (ps := [i32 (-(tV (I 97) (nM I) (tN (I 97) (nM I) s.1))), 0 ≤ J190 74 26 ∧ J190 74 26 < ((10 : Nat) : Int)]) rfl (by simp only [all_, i32, i64]; first | omega | (simp; done) | (simp; omega)) ?_
                have hl5 : J190 74 27 = (s.2.2.length : Int) := hs.2.2.2.2.1.1
                have e26 : (J190 74 26).toNat = G.length := by omega
                generalize hI2 : (upI (upI J190 95 (J190 74 26).toNat (J190 74 27)) 96 (J190 74 26).toNat (-(tV (I 97) (nM I) (tN (I 97) (nM I) s.1)))) = I2
                have hq95 : ∀ a j, ¬ (a = 95 ∨ a = 96) → I2 a j = J190 a j := fun a j ha => by rw [← hI2, upI_ne (by omega), upI_ne (by omega)]
                have h95 : ∀ j, I2 95 j = if j = G.length then (s.2.2.length : Int) else I 95 j := fun j => by rw [← hI2, upI_ne (by omega)]; by_cases e : j = G.length; (rw [if_pos e, upI_eq rfl (by omega)]; exact hl5); (rw [if_neg e, upI_ne (by omega)]; exact hs.1.1 95 j (by omega))
                have h96 : ∀ j, I2 96 j = if j = G.length then (-(tV (I 97) (nM I) (tN (I 97) (nM I) s.1))) else I 96 j := fun j => by rw [← hI2]; by_cases e : j = G.length; (rw [if_pos e, upI_eq rfl (by omega)]); (rw [if_neg e, upI_ne (by omega), upI_ne (by omega)]; exact hs.1.1 96 j (by omega))
                obtain ⟨hs2, hB2, hN2, hT2⟩ := MSt_reb (J2 := I2) hs (fun a j ha => hq95 a j (by omega))
                have h02 := hT2 h0
                refine rch_run cdK137 (by decide) 1 (t' := (187, [some (vR 74), some (vI 0), some (vI (tV (I 97) (nM I) (tN (I 97) (nM I) s.1)))], [vR 74], MW b I2 M190)) (ps := []) rfl trivial ?_
                refine rch_call (h' := 6) (k' := 134) (as := [vR 74]) (t1 := (190, [some (vR 74), some (vI 0), some (vI (tV (I 97) (nM I) (tN (I 97) (nM I) s.1)))], [], MW b I2 M190)) cdK137 rfl (k_readE l E b I2 M190 I2 M190 h02 hs2 (by dsimp only; omega)) (by decide) mw_le ?_
                rintro rt9 w9 (⟨J191, M191, s9, rfl, rfl, he9, ht9, hs9⟩ | ⟨J191, M191, f9, rfl, rfl, hf, he9⟩) _ _
                · show Rch l E 7 137 _ _ _ _ (190, [some (vR 74), some (vI 0), some (vI (tV (I 97) (nM I) (tN (I 97) (nM I) s.1)))], [], MW b J191 M191)
                  rw [hB2, hN2] at he9 ht9
                  have hz9 := (MSt_r h02 hs9).2.2.1
                  have bd9 := (pEi_bd r4 (show tN (I 97) (nM I) (tN (I 97) (nM I) (tN (I 97) (nM I) s.1)) ≤ nM I by omega) he9)
                  have bd8 : 2 * s9.2.2.length + tN (I 97) (nM I) (tN (I 97) (nM I) (tN (I 97) (nM I) s.1)) ≤ 2 * s.2.2.length + s9.1 + 0 := bd9.2.2
                  have bd7 := tN_bd (B := I 97) r4 bd9.2.1
                  have bd6 := tP_bd (B := I 97) r4 bd9.2.1
                  refine rch_run cdK137 (by decide) 2 (t' := (194, [some (vR 74), some (vI 0), some (vI (tV (I 97) (nM I) (tN (I 97) (nM I) s.1)))], [vI (J191 74 31)], MW b J191 M191)) (ps := []) rfl trivial ?_
                  refine rch_br cdK137 (cd := J191 74 31 ≤ 0) (t1 := (199, [some (vR 74), some (vI 0), some (vI (tV (I 97) (nM I) (tN (I 97) (nM I) s.1)))], [], MW b J191 M191)) (t2 := (197, [some (vR 74), some (vI 0), some (vI (tV (I 97) (nM I) (tN (I 97) (nM I) s.1)))], [], MW b J191 M191)) rfl (fun c194_1 => ?_) (fun c9 => by exfalso; omega)
                  refine rch_run cdK137 (by decide) 1 (t' := (200, [some (vR 74), some (vI 0), some (vI (tV (I 97) (nM I) (tN (I 97) (nM I) s.1)))], [vR 74], MW b J191 M191)) (ps := []) rfl trivial ?_
                  refine rch_call (h' := 3) (k' := 125) (as := [vR 74]) (t1 := (203, [some (vR 74), some (vI 0), some (vI (tV (I 97) (nM I) (tN (I 97) (nM I) s.1)))], [], MW b J191 M191)) cdK137 rfl (k_nxt l E b I2 M190 J191 M191 h02 hs9 (by rw [hB2, hN2]; omega)) (by decide) mw_le ?_
                  rintro rt9 w9 (⟨J192, M192, rfl, rfl, hs10⟩) _ _
                  show Rch l E 7 137 _ _ _ _ (203, [some (vR 74), some (vI 0), some (vI (tV (I 97) (nM I) (tN (I 97) (nM I) s.1)))], [], MW b J192 M192)
                  rw [hB2, hN2] at hs10
                  have hg10 : J192 74 26 = (G.length : Int) := by rw [hs10.1.1 74 26 (by omega), hq95 74 26 (by omega), hg5]; exact hg
                  refine rch_run cdK137 (by decide) 7 (t' := (47, [some (vR 74), some (vI 0), some (vI (tV (I 97) (nM I) (tN (I 97) (nM I) s.1)))], [], MW b (upI J192 74 26 ((J192 74 26) + 1)) M192)) (ps := [i32 ((J192 74 26) + 1)]) rfl (by simp only [all_, i32, i64]; first | omega | (simp; done) | (simp; omega)) ?_
                  refine rch_forget [1, 2] ?_
                  exact ih (i + 1) _ _ (G ++ [(-(tV (I 97) (nM I) (tN (I 97) (nM I) s.1)), (s9.2.2.length : Int))]) (tN (I 97) (nM I) s9.1, s9.2) (LSM_line h1 hs.1.1 hs.1.2 hq95 h95 h96 hs10 rfl (by dsimp only; omega)) (by rw [List.length_append, List.length_singleton]; omega) (by omega) (by rw [← hB, ← hN, ← h4, hfu (by omega)]; exact (pAll_s htk0 (by rw [pLine_6 (by first | exact Or.inl hq0 | exact Or.inr hq1) hp1 hq2 he9 ht9, if_pos hq0])).symm) (by omega)
                · show Rch l E 7 137 _ _ _ _ (190, [some (vR 74), some (vI 0), some (vI (tV (I 97) (nM I) (tN (I 97) (nM I) s.1)))], [], MW b J191 M191)
                  have hf1 := hf.2.2.1
                  have hf2 := hf.2.2.2.2
                  refine rch_run cdK137 (by decide) 2 (t' := (194, [some (vR 74), some (vI 0), some (vI (tV (I 97) (nM I) (tN (I 97) (nM I) s.1)))], [vI (J191 74 31)], MW b J191 M191)) (ps := []) rfl trivial ?_
                  refine rch_br cdK137 (cd := J191 74 31 ≤ 0) (t1 := (199, [some (vR 74), some (vI 0), some (vI (tV (I 97) (nM I) (tN (I 97) (nM I) s.1)))], [], MW b J191 M191)) (t2 := (197, [some (vR 74), some (vI 0), some (vI (tV (I 97) (nM I) (tN (I 97) (nM I) s.1)))], [], MW b J191 M191)) rfl (fun c9 => by exfalso; omega) (fun c194_2 => ?_)
                  refine rch_run cdK137 (by decide) 1 (t' := (198, [some (vR 74), some (vI 0), some (vI (tV (I 97) (nM I) (tN (I 97) (nM I) s.1)))], [vI (-1)], MW b J191 M191)) (ps := []) rfl trivial ?_
                  refine rch_ret cdK137 (rt := some (vI (-1))) rfl trivial mw_c ?_
                  rcases he9 with he9 | ⟨s9, he9, ht9, e9⟩
                  · rw [hB2, hN2] at he9
                    exact hkF _ _ _ (by rw [← h4, hfu (by omega)]; exact pAll_F (by omega) (pLine_4 (by first | exact Or.inl hq0 | exact Or.inr hq1) hp1 hq2 he9)) (FaA_2 h1.1 h1.2.1 hs.1.1 hs.1.2 hq95 hf)
                  · rw [hB2, hN2] at he9 ht9
                    rw [e9, hB2, hN2] at hf
                    exact hkF _ _ _ (by rw [← h4, hfu (by omega)]; exact pAll_F (by omega) (pLine_5 (by first | exact Or.inl hq0 | exact Or.inr hq1) hp1 hq2 he9 ht9)) (FaA_2 h1.1 h1.2.1 hs.1.1 hs.1.2 hq95 hf)
              · show Rch l E 7 137 _ _ _ _ (133, [some (vR 74), some (vI 0), some (vI (tV (I 97) (nM I) (tN (I 97) (nM I) s.1)))], [vI 0], MW b J189 M189)
                refine rch_br cdK137 (cd := (0 : Int) ≠ 0) (t1 := (141, [some (vR 74), some (vI 0), some (vI (tV (I 97) (nM I) (tN (I 97) (nM I) s.1)))], [], MW b J189 M189)) (t2 := (136, [some (vR 74), some (vI 0), some (vI (tV (I 97) (nM I) (tN (I 97) (nM I) s.1)))], [], MW b J189 M189)) rfl (fun c9 => absurd c9 (by decide)) (fun _ => ?_)
                refine rch_run cdK137 (by decide) 2 (t' := (138, [some (vR 74), some (vI 0), some (vI (tV (I 97) (nM I) (tN (I 97) (nM I) s.1)))], [vI 2, vR 74], MW b J189 M189)) (ps := []) rfl trivial ?_
                refine rch_call (h' := 1) (k' := 126) (as := [vR 74, vI 2]) (t1 := (141, [some (vR 74), some (vI 0), some (vI (tV (I 97) (nM I) (tN (I 97) (nM I) s.1)))], [], MW b J189 M189)) cdK137 rfl (k_wrg l E b I L J189 M189 2 (by omega) h0 hs) (by decide) mw_le ?_
                rintro rt9 w9 (⟨J193, rfl, rfl, hf⟩) _ _
                show Rch l E 7 137 _ _ _ _ (141, [some (vR 74), some (vI 0), some (vI (tV (I 97) (nM I) (tN (I 97) (nM I) s.1)))], [], MW b J193 M189)
                have hf1 := hf.2.2.1
                have hf2 := hf.2.2.2.2
                refine rch_run cdK137 (by decide) 2 (t' := (145, [some (vR 74), some (vI 0), some (vI (tV (I 97) (nM I) (tN (I 97) (nM I) s.1)))], [vI (J193 74 31)], MW b J193 M189)) (ps := []) rfl trivial ?_
                refine rch_br cdK137 (cd := J193 74 31 ≤ 0) (t1 := (150, [some (vR 74), some (vI 0), some (vI (tV (I 97) (nM I) (tN (I 97) (nM I) s.1)))], [], MW b J193 M189)) (t2 := (148, [some (vR 74), some (vI 0), some (vI (tV (I 97) (nM I) (tN (I 97) (nM I) s.1)))], [], MW b J193 M189)) rfl (fun c9 => by exfalso; omega) (fun c145_25 => ?_)
                refine rch_run cdK137 (by decide) 1 (t' := (149, [some (vR 74), some (vI 0), some (vI (tV (I 97) (nM I) (tN (I 97) (nM I) s.1)))], [vI (-1)], MW b J193 M189)) (ps := []) rfl trivial ?_
                refine rch_ret cdK137 (rt := some (vI (-1))) rfl trivial mw_c ?_
                first | exact hkF _ _ _ (by rw [← h4, hfu (by omega)]; exact pAll_F (by omega) (pLine_2 (by first | exact Or.inl hq0 | exact Or.inr hq1) hp1)) (FaA_1 h1.1 h1.2.1 hf) | exact hkF _ _ _ (by rw [← h4, hfu (by omega)]; exact pAll_F (by omega) (pLine_3 (by first | exact Or.inl hq0 | exact Or.inr hq1) hp1 hq2)) (FaA_1 h1.1 h1.2.1 hf)
            · show Rch l E 7 137 _ _ _ _ (118, [some (vR 74), some (vI 0), none], [vI x9], MW b J189 M189)
              have hf1 := hf.2.2.1
              have hf2 := hf.2.2.2.2
              refine rch_run cdK137 (by decide) 3 (t' := (123, [some (vR 74), some (vI 0), some (vI x9)], [vI (J189 74 31)], MW b J189 M189)) (ps := []) rfl trivial ?_
              refine rch_br cdK137 (cd := J189 74 31 ≠ 0) (t1 := (141, [some (vR 74), some (vI 0), some (vI x9)], [], MW b J189 M189)) (t2 := (126, [some (vR 74), some (vI 0), some (vI x9)], [], MW b J189 M189)) rfl (fun c123_26 => ?_) (fun c9 => by exfalso; omega)
              refine rch_run cdK137 (by decide) 2 (t' := (145, [some (vR 74), some (vI 0), some (vI x9)], [vI (J189 74 31)], MW b J189 M189)) (ps := []) rfl trivial ?_
              refine rch_br cdK137 (cd := J189 74 31 ≤ 0) (t1 := (150, [some (vR 74), some (vI 0), some (vI x9)], [], MW b J189 M189)) (t2 := (148, [some (vR 74), some (vI 0), some (vI x9)], [], MW b J189 M189)) rfl (fun c9 => by exfalso; omega) (fun c145_27 => ?_)
              refine rch_run cdK137 (by decide) 1 (t' := (149, [some (vR 74), some (vI 0), some (vI x9)], [vI (-1)], MW b J189 M189)) (ps := []) rfl trivial ?_
              refine rch_ret cdK137 (rt := some (vI (-1))) rfl trivial mw_c ?_
              first | exact hkF _ _ _ (by rw [← h4, hfu (by omega)]; exact pAll_F (by omega) (pLine_2 (by first | exact Or.inl hq0 | exact Or.inr hq1) hp1)) (FaA_1 h1.1 h1.2.1 hf) | exact hkF _ _ _ (by rw [← h4, hfu (by omega)]; exact pAll_F (by omega) (pLine_3 (by first | exact Or.inl hq0 | exact Or.inr hq1) hp1 hq2)) (FaA_1 h1.1 h1.2.1 hf)
          · refine rch_run cdK137 (by decide) 2 (t' := (94, [some (vR 74), some (vI 0), none], [vI 2, vR 74], MW b I L)) (ps := []) rfl trivial ?_
            refine rch_call (h' := 1) (k' := 126) (as := [vR 74, vI 2]) (t1 := (97, [some (vR 74), some (vI 0), none], [], MW b I L)) cdK137 rfl (k_wrg l E b I L I L 2 (by omega) h0 hs) (by decide) mw_le ?_
            rintro rt9 w9 (⟨J194, rfl, rfl, hf⟩) _ _
            show Rch l E 7 137 _ _ _ _ (97, [some (vR 74), some (vI 0), none], [], MW b J194 L)
            have hf1 := hf.2.2.1
            have hf2 := hf.2.2.2.2
            refine rch_run cdK137 (by decide) 2 (t' := (101, [some (vR 74), some (vI 0), none], [vI (J194 74 31)], MW b J194 L)) (ps := []) rfl trivial ?_
            refine rch_br cdK137 (cd := J194 74 31 ≤ 0) (t1 := (106, [some (vR 74), some (vI 0), none], [], MW b J194 L)) (t2 := (104, [some (vR 74), some (vI 0), none], [], MW b J194 L)) rfl (fun c9 => by exfalso; omega) (fun c101_28 => ?_)
            refine rch_run cdK137 (by decide) 1 (t' := (105, [some (vR 74), some (vI 0), none], [vI (-1)], MW b J194 L)) (ps := []) rfl trivial ?_
            refine rch_ret cdK137 (rt := some (vI (-1))) rfl trivial mw_c ?_
            by_cases e10 : i = 10
            · exact hkF _ _ _ (by rw [← h4, show (10 - i).toNat = 0 by omega]; exact pAll_z (by omega)) (FaA_1 h1.1 h1.2.1 hf)
            · first | (exfalso; omega) | exact hkF _ _ _ (by rw [← h4, hfu (by omega)]; exact pAll_F (by omega) (pLine_1 hq0 hq1)) (FaA_1 h1.1 h1.2.1 hf)
        · show Rch l E 7 137 _ _ _ _ (80, [some (vR 74), some (vI 0), none], [vI 0], MW b I L)
          refine rch_br cdK137 (cd := (0 : Int) = 0) (t1 := (92, [some (vR 74), some (vI 0), none], [], MW b I L)) (t2 := (83, [some (vR 74), some (vI 0), none], [], MW b I L)) rfl (fun _ => ?_) (fun c9 => absurd (by decide) c9)
          refine rch_run cdK137 (by decide) 2 (t' := (94, [some (vR 74), some (vI 0), none], [vI 2, vR 74], MW b I L)) (ps := []) rfl trivial ?_
          refine rch_call (h' := 1) (k' := 126) (as := [vR 74, vI 2]) (t1 := (97, [some (vR 74), some (vI 0), none], [], MW b I L)) cdK137 rfl (k_wrg l E b I L I L 2 (by omega) h0 hs) (by decide) mw_le ?_
          rintro rt9 w9 (⟨J195, rfl, rfl, hf⟩) _ _
          show Rch l E 7 137 _ _ _ _ (97, [some (vR 74), some (vI 0), none], [], MW b J195 L)
          have hf1 := hf.2.2.1
          have hf2 := hf.2.2.2.2
          refine rch_run cdK137 (by decide) 2 (t' := (101, [some (vR 74), some (vI 0), none], [vI (J195 74 31)], MW b J195 L)) (ps := []) rfl trivial ?_
          refine rch_br cdK137 (cd := J195 74 31 ≤ 0) (t1 := (106, [some (vR 74), some (vI 0), none], [], MW b J195 L)) (t2 := (104, [some (vR 74), some (vI 0), none], [], MW b J195 L)) rfl (fun c9 => by exfalso; omega) (fun c101_30 => ?_)
          refine rch_run cdK137 (by decide) 1 (t' := (105, [some (vR 74), some (vI 0), none], [vI (-1)], MW b J195 L)) (ps := []) rfl trivial ?_
          refine rch_ret cdK137 (rt := some (vI (-1))) rfl trivial mw_c ?_
          by_cases e10 : i = 10
          · exact hkF _ _ _ (by rw [← h4, show (10 - i).toNat = 0 by omega]; exact pAll_z (by omega)) (FaA_1 h1.1 h1.2.1 hf)
          · first | (exfalso; omega) | exact hkF _ _ _ (by rw [← h4, hfu (by omega)]; exact pAll_F (by omega) (pLine_1 hq0 hq1)) (FaA_1 h1.1 h1.2.1 hf)

set_option maxHeartbeats 20000000 in
set_option maxRecDepth 100000 in
theorem cp_1 (l : Launch) (E : AX) (b : Bool) (I0 L0 J M : Nat → Nat → Int) (hm : 0 ≤ J 74 27 ∧ J 74 27 ≤ 500) (Φ : Option AV → AW → Prop) (hk : ∀ J2, (∀ a j, ¬ (a = 87 ∨ a = 88 ∨ a = 89) → J2 a j = J a j) → (∀ j : Nat, (j : Int) < J 74 27 → J2 87 j = J 92 j ∧ J2 88 j = J 93 j ∧ J2 89 j = J 94 j) → Rch l E 7 137 (MW b I0 L0) 0 0 Φ (292, [some (vR 74), some (vI 0), none], [], MW b J2 M)) : ∀ (n9 : Nat) (i : Int) (J2 : Nat → Nat → Int), 0 ≤ i ∧ i ≤ J 74 27 → (∀ a j, ¬ (a = 87 ∨ a = 88 ∨ a = 89) → J2 a j = J a j) → (∀ j : Nat, (j : Int) < i → J2 87 j = J 92 j ∧ J2 88 j = J 93 j ∧ J2 89 j = J 94 j) → J 74 27 - i < (n9 : Int) → Rch l E 7 137 (MW b I0 L0) 0 0 (Φ) (240, [some (vR 74), some (vI i), none], [], MW b J2 M) := by
  intro n9
  induction n9 with
  | zero =>
    intro i J2 h1 h2 h3 hm
    exfalso; omega
  | succ n9 ih =>
    intro i J2 h1 h2 h3 hm
    have qn := h2 74 27 (by omega)
    have q92 := h2 92 i.toNat (by omega)
    have q93 := h2 93 i.toNat (by omega)
    have q94 := h2 94 i.toNat (by omega)
    refine rch_run cdK137 (by decide) 3 (t' := (245, [some (vR 74), some (vI i), none], [vI (J2 74 27), vI i], MW b J2 M)) (ps := []) rfl trivial ?_
    refine rch_br cdK137 (cd := J2 74 27 ≤ i) (t1 := (290, [some (vR 74), some (vI i), none], [], MW b J2 M)) (t2 := (248, [some (vR 74), some (vI i), none], [], MW b J2 M)) rfl (fun c245_1 => ?_) (fun c245_1 => ?_)
    · refine rch_run cdK137 (by decide) 2 (t' := (292, [some (vR 74), some (vI 0), none], [], MW b J2 M)) (ps := []) rfl trivial ?_
      skip
      exact hk J2 h2 (fun j hj => h3 j (by omega))
    · refine rch_run cdK137 (by decide) 25 (t' := (287, [some (vR 74), some (vI (i + 1)), none], [], MW b (upI (upI (upI J2 87 i.toNat (J2 92 i.toNat)) 88 i.toNat (J2 93 i.toNat)) 89 i.toNat (J2 94 i.toNat)) M)) (ps := [0 ≤ i ∧ i < ((500 : Nat) : Int), 0 ≤ i ∧ i < ((500 : Nat) : Int), 0 ≤ i ∧ i < ((500 : Nat) : Int), 0 ≤ i ∧ i < ((500 : Nat) : Int), 0 ≤ i ∧ i < ((500 : Nat) : Int), 0 ≤ i ∧ i < ((500 : Nat) : Int), i32 (i + 1)]) rfl (by simp only [all_, i32, i64]; first | omega | (simp; done) | (simp; omega)) ?_
      refine rch_run cdK137 (by decide) 1 (t' := (240, [some (vR 74), some (vI (i + 1)), none], [], MW b (upI (upI (upI J2 87 i.toNat (J2 92 i.toNat)) 88 i.toNat (J2 93 i.toNat)) 89 i.toNat (J2 94 i.toNat)) M)) (ps := []) rfl trivial ?_
      exact ih (i + 1) _ (by omega) (fun a j ha => by rw [upI_ne (by omega), upI_ne (by omega), upI_ne (by omega)]; exact h2 a j ha) (fun j hj => ⟨(by by_cases e : j = i.toNat; (rw [upI_ne (by omega), upI_ne (by omega), upI_eq rfl e, e]; first | exact q92 | (rw [q92]; exact q92)); (rw [upI_ne (by omega), upI_ne (by omega), upI_ne (by omega)]; exact (h3 j (by omega)).1)), (by by_cases e : j = i.toNat; (rw [upI_ne (by omega), upI_eq rfl e, e]; first | exact q93 | (rw [upI_ne (by omega)]; exact q93)); (rw [upI_ne (by omega), upI_ne (by omega), upI_ne (by omega)]; exact (h3 j (by omega)).2.1)), (by by_cases e : j = i.toNat; (rw [upI_eq rfl e, e]; first | exact q94 | (rw [upI_ne (by omega), upI_ne (by omega)]; exact q94)); (rw [upI_ne (by omega), upI_ne (by omega), upI_ne (by omega)]; exact (h3 j (by omega)).2.2))⟩) (by omega)

set_option maxHeartbeats 20000000 in
set_option maxRecDepth 100000 in
theorem cp_2 (l : Launch) (E : AX) (b : Bool) (I0 L0 J M : Nat → Nat → Int) (hm : 0 ≤ J 74 26 ∧ J 74 26 ≤ 10) (Φ : Option AV → AW → Prop) (hk : ∀ J2, (∀ a j, ¬ (a = 91) → J2 a j = J a j) → (∀ j : Nat, (j : Int) < J 74 26 → J2 91 j = J 96 j) → Rch l E 7 137 (MW b I0 L0) 0 0 Φ (320, [some (vR 74), some (vI 0), none], [], MW b J2 M)) : ∀ (n9 : Nat) (i : Int) (J2 : Nat → Nat → Int), 0 ≤ i ∧ i ≤ J 74 26 → (∀ a j, ¬ (a = 91) → J2 a j = J a j) → (∀ j : Nat, (j : Int) < i → J2 91 j = J 96 j) → J 74 26 - i < (n9 : Int) → Rch l E 7 137 (MW b I0 L0) 0 0 (Φ) (292, [some (vR 74), some (vI i), none], [], MW b J2 M) := by
  intro n9
  induction n9 with
  | zero =>
    intro i J2 h1 h2 h3 hm
    exfalso; omega
  | succ n9 ih =>
    intro i J2 h1 h2 h3 hm
    have qn := h2 74 26 (by omega)
    have q96 := h2 96 i.toNat (by omega)
    refine rch_run cdK137 (by decide) 3 (t' := (297, [some (vR 74), some (vI i), none], [vI (J2 74 26), vI i], MW b J2 M)) (ps := []) rfl trivial ?_
    refine rch_br cdK137 (cd := J2 74 26 ≤ i) (t1 := (318, [some (vR 74), some (vI i), none], [], MW b J2 M)) (t2 := (300, [some (vR 74), some (vI i), none], [], MW b J2 M)) rfl (fun c297_1 => ?_) (fun c297_1 => ?_)
    · refine rch_run cdK137 (by decide) 2 (t' := (320, [some (vR 74), some (vI 0), none], [], MW b J2 M)) (ps := []) rfl trivial ?_
      skip
      exact hk J2 h2 (fun j hj => h3 j (by omega))
    · refine rch_run cdK137 (by decide) 10 (t' := (292, [some (vR 74), some (vI (i + 1)), none], [], MW b (upI J2 91 i.toNat (J2 96 i.toNat)) M)) (ps := [0 ≤ i ∧ i < ((10 : Nat) : Int), 0 ≤ i ∧ i < ((10 : Nat) : Int), i32 (i + 1)]) rfl (by simp only [all_, i32, i64]; first | omega | (simp; done) | (simp; omega)) ?_
      exact ih (i + 1) _ (by omega) (fun a j ha => by rw [upI_ne (by omega)]; exact h2 a j ha) (fun j hj => (by by_cases e : j = i.toNat; (rw [upI_eq rfl e, e]; first | exact q96 | (rw [q96]; exact q96)); (rw [upI_ne (by omega)]; exact (h3 j (by omega))))) (by omega)

set_option maxHeartbeats 20000000 in
set_option maxRecDepth 100000 in
theorem cp_3 (l : Launch) (E : AX) (b : Bool) (I0 L0 J M : Nat → Nat → Int) (hm : 0 ≤ J 74 26 ∧ J 74 26 ≤ 10) (Φ : Option AV → AW → Prop) (hk : ∀ J2, (∀ a j, ¬ (a = 90) → J2 a j = J a j) → (∀ j : Nat, (j : Int) < J 74 26 + 1 → J2 90 j = J 95 j) → Rch l E 7 137 (MW b I0 L0) 0 0 Φ (346, [some (vR 74), none, none], [], MW b J2 M)) : ∀ (n9 : Nat) (i : Int) (J2 : Nat → Nat → Int), 0 ≤ i ∧ i ≤ J 74 26 + 1 → (∀ a j, ¬ (a = 90) → J2 a j = J a j) → (∀ j : Nat, (j : Int) < i → J2 90 j = J 95 j) → J 74 26 + 1 - i < (n9 : Int) → Rch l E 7 137 (MW b I0 L0) 0 0 (Φ) (320, [some (vR 74), some (vI i), none], [], MW b J2 M) := by
  intro n9
  induction n9 with
  | zero =>
    intro i J2 h1 h2 h3 hm
    exfalso; omega
  | succ n9 ih =>
    intro i J2 h1 h2 h3 hm
    have qn := h2 74 26 (by omega)
    have q95 := h2 95 i.toNat (by omega)
    refine rch_run cdK137 (by decide) 3 (t' := (325, [some (vR 74), some (vI i), none], [vI (J2 74 26), vI i], MW b J2 M)) (ps := []) rfl trivial ?_
    refine rch_br cdK137 (cd := J2 74 26 < i) (t1 := (346, [some (vR 74), some (vI i), none], [], MW b J2 M)) (t2 := (328, [some (vR 74), some (vI i), none], [], MW b J2 M)) rfl (fun c325_1 => ?_) (fun c325_1 => ?_)
    · (try refine rch_forget [1] ?_)
      exact hk J2 h2 (fun j hj => h3 j (by omega))
    · refine rch_run cdK137 (by decide) 10 (t' := (320, [some (vR 74), some (vI (i + 1)), none], [], MW b (upI J2 90 i.toNat (J2 95 i.toNat)) M)) (ps := [0 ≤ i ∧ i < ((11 : Nat) : Int), 0 ≤ i ∧ i < ((11 : Nat) : Int), i32 (i + 1)]) rfl (by simp only [all_, i32, i64]; first | omega | (simp; done) | (simp; omega)) ?_
      exact ih (i + 1) _ (by omega) (fun a j ha => by rw [upI_ne (by omega)]; exact h2 a j ha) (fun j hj => (by by_cases e : j = i.toNat; (rw [upI_eq rfl e, e]; first | exact q95 | (rw [q95]; exact q95)); (rw [upI_ne (by omega)]; exact (h3 j (by omega))))) (by omega)
