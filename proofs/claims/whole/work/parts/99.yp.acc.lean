-- THE REFERENCE does not see the class's cells
theorem thM_p {W I : Nat → Nat → Int} (hc : ∀ a, 74 ≤ a → W a = I a) (k : Int) : thM W k = thM I k := funext (fun r => by
  unfold thM
  rw [hc 74 (by omega), hc 80 (by omega), hc 79 (by omega)])
theorem Sy3_p {W I : Nat → Nat → Int} (hc : ∀ a, 74 ≤ a → W a = I a) {k x y s : Int} {m : Nat} (h : Sy3 W k x y s m) : Sy3 I k x y s m := by
  unfold Sy3 SYm knM at h ⊢
  rw [hc 100 (by omega), hc 101 (by omega), hc 102 (by omega), hc 103 (by omega), hc 104 (by omega)] at h
  exact h
theorem PtM_p {W K I : Nat → Nat → Int} {d k : Int} (hc : ∀ a, 74 ≤ a → W a = I a) (h : PtM W K d k) : ∃ K', PtM I K' d k ∧ (∀ a, a < 74 → K' a = I a) ∧ ∀ a, 74 ≤ a → K' a = K a := by
  obtain ⟨K', e1, e⟩ : ∃ K' : Nat → Nat → Int, (∀ a, a < 74 → K' a = I a) ∧ ∀ a, 74 ≤ a → K' a = K a := ⟨fun a => if a < 74 then I a else K a, fun a ha => if_pos ha, fun a ha => if_neg (by omega)⟩
  refine ⟨K', ?_, e1, e⟩
  obtain ⟨m1, m2, m3, m4, m5, m6, m7⟩ := h
  rw [thM_p hc] at m2 m3 m4 m6 m7
  have emu : muM K' = muM K := funext (fun x => funext (fun y => by unfold muM; rw [e 117 (by omega)]))
  have emn : mnM K' = mnM K := funext (fun x => funext (fun y => by unfold mnM; rw [e 117 (by omega)]))
  have esr : srM K' = srM K := funext (fun x => funext (fun y => by unfold srM; rw [e 116 (by omega)]))
  refine ⟨fun a j ha => ?_, by rw [e 74 (by omega)]; exact m2, fun r hr ht => by rw [e 110 (by omega)]; exact m3 r hr ht, fun r hr ht => by rw [e 111 (by omega)]; exact m4 r hr ht, by rw [e 114 (by omega), e 115 (by omega)]; exact m5, fun x y h1 h2 => ?_, ?_⟩
  · by_cases c : a < 74
    · rw [e1 a c]
    · rw [e a (by omega), m1 a j ha, hc a (by omega)]
  · obtain ⟨q1, q2⟩ := m6 x y h1 h2
    rw [esr, e 110 (by omega), e 117 (by omega)]
    rw [msm_c (J := W) (I := I) (fun a ha => hc a (by omega)), hc 74 (by omega)] at q1
    rw [hc 74 (by omega)] at q2
    exact ⟨q1, Sy3_p hc q2⟩
  · rw [emu, emn, esr]
    unfold DFe
    rw [e 74 (by omega), e 110 (by omega), e 111 (by omega)]
    exact m7
theorem mwQ_p {K K' : Nat → Nat → Int} (e : ∀ a, 74 ≤ a → K' a = K a) (s : Int) : mwQ K' s = mwQ K s ∧ ∀ (r : Nat) (f : Int), gM K' r f = gM K r f := by
  have eB : ∀ f d k, mB K' f d k = mB K f d k := fun f d k => funext (fun r => by unfold mB; rw [e 81 (by omega), e 82 (by omega), e 84 (by omega), e 85 (by omega), e 74 (by omega)])
  have eg : ∀ (r : Nat) (f : Int), gM K' r f = gM K r f := fun r f => by
    have e1 : ∀ p f k, fxM K' p f k = fxM K p f k := fun p f k => funext (fun m => by unfold fxM; rw [e 105 (by omega), e 106 (by omega), e 108 (by omega), e 109 (by omega), e 74 (by omega), e 80 (by omega), e 111 (by omega)])
    have e2 : ∀ p f d k, mQ K' p f d k = mQ K p f d k := fun p f d k => funext (fun r => by unfold mQ; rw [eB, e 74 (by omega), e 111 (by omega), e 86 (by omega)])
    have e3 : ∀ f d k, mA K' f d k = mA K f d k := fun f d k => funext (fun r => by unfold mA; rw [eB, e 83 (by omega)])
    have e4 : ∀ f d k, mSi K' f d k = mSi K f d k := fun f d k => funext (fun r => by unfold mSi; rw [eB, e 84 (by omega)])
    have e5 : ∀ f d k, mWt K' f d k = mWt K f d k := fun f d k => funext (fun r => by unfold mWt mW0; rw [eB, e 78 (by omega), e 75 (by omega), e 76 (by omega), e 84 (by omega)])
    unfold gM gdM
    rw [e1, e2, e3, e4, e5, e 74 (by omega), e 107 (by omega), e 111 (by omega)]
  refine ⟨funext (fun c => ?_), eg⟩
  have ev : ∀ r f, voM K' r f = voM K r f := fun r f => by unfold voM; rw [e 81 (by omega), e 82 (by omega), e 83 (by omega), e 84 (by omega), e 85 (by omega), e 74 (by omega)]
  unfold mwQ
  rw [eg, ev, e 74 (by omega), e 80 (by omega), e 78 (by omega), e 77 (by omega), e 123 (by omega), e 124 (by omega), e 125 (by omega)]
theorem SKR_p {W I M J2 M2 : Nat → Nat → Int} {s : Int} (hc : ∀ a, 74 ≤ a → W a = I a) (h : SKR W M J2 M2 s) : ∃ B, SKR I M B M2 s ∧ ∀ a, 74 ≤ a → B a = J2 a := by
  obtain ⟨K, hm, hd⟩ := h
  have hcz : ∀ a, 74 ≤ a → (upI W 74 76 0) a = (upI I 74 76 0) a := fun a ha => funext (fun j => by unfold upI; rw [hc a ha])
  obtain ⟨K', hm', e1, e⟩ := PtM_p hcz hm
  rw [hc 74 (by omega)] at hm'
  obtain ⟨B, b1, b2⟩ : ∃ B : Nat → Nat → Int, (∀ a, a < 74 → B a = K' a) ∧ ∀ a, 74 ≤ a → B a = J2 a := ⟨fun a => if a < 74 then K' a else J2 a, fun a ha => if_pos ha, fun a ha => if_neg (by omega)⟩
  refine ⟨B, ⟨K', hm', ?_⟩, b2⟩
  obtain ⟨q1, q2⟩ := mwQ_p e s
  obtain ⟨d1, d2, d3⟩ := hd
  refine ⟨fun a j ha => ?_, d2, ?_⟩
  · by_cases c : a < 74
    · rw [b1 a c]
    · rw [b2 a (by omega), e a (by omega)]
      exact d1 a j ha
  · rw [q1, e 74 (by omega), b2 74 (by omega), b2 126 (by omega), b2 127 (by omega), b2 128 (by omega)]
    rcases d3 with d3 | ⟨z1, z2, z3⟩
    · exact Or.inl d3
    · exact Or.inr ⟨z1, z2, fun q hq hq2 => by rw [q2]; exact z3 q hq hq2⟩
theorem SKR_fr {W M J2 M2 : Nat → Nat → Int} {s : Int} (h : SKR W M J2 M2 s) : ∀ a j, a ≤ 73 → J2 a j = W a j := by
  obtain ⟨K, hm, hd⟩ := h
  exact fun a j ha => by rw [hd.1 a j (by omega), hm.1 a j (by omega), upI_ne (by omega)]
theorem PMk_p {W I : Nat → Nat → Int} (hc : ∀ a, 74 ≤ a → W a = I a) (h : PMk I) : PMk W := by
  unfold PMk MBK VMK
  rw [hc 74 (by omega), hc 83 (by omega), hc 87 (by omega), hc 90 (by omega), hc 91 (by omega), hc 114 (by omega), hc 115 (by omega)]
  exact h
theorem GMk_p {W I : Nat → Nat → Int} (hc : ∀ a, 74 ≤ a → W a = I a) {f d : Int} (h : GMk I f d) : GMk W f d := GMk_c (fun a j h1 _ _ => by rw [hc a h1.1]) h
theorem pr_accept (l : Launch) (E : AX) (b : Bool) (I L : Nat → Nat → Int) (s k : Int) (hI : Inv (bkb b) I) : Pair l E b I L 8 87 8 163 [vI s, vI k] := by
  have hbk := bk_b b
  refine con_imp (kb_accept l E b I L s k (POK_of hI) (GOK_of hI) (by have := hI.1.2; omega) hI.2.2.2.2.2.2.1.2.1) ?_
  rintro rt w (⟨c, J, M, hl, ⟨ck, e, h1⟩ | ⟨ck, e, h1⟩⟩ | ⟨c, e, h1⟩)
  · have hJ := (lwr_inv hbk hI hl).1
    have hJ0 := hJ
    obtain ⟨a1, a2, a3, a4, a5, a6, a7, a8, a9, a10, a11, a12⟩ := hJ0
    have e5 : J 21 0 = J 74 5 := a4.2.2.1.2.1
    obtain ⟨W1, hW1, h1⟩ := mw_gen h1
    have f1 : ∀ a j, ¬ ((a = 0 ∧ j = 1) ∨ a = 22 ∨ a = 23 ∨ a = 24 ∨ a = 25 ∨ a = 26 ∨ a = 27 ∨ (a = 21 ∧ j = 0)) → W1 a j = J a j := fun a j z => by rw [hW1]; repeat rw [upI_ne (by omega)]
    have hc : ∀ a, 74 ≤ a → W1 a = J a := fun a ha => funext (fun j => f1 a j (by omega))
    refine ⟨b, W1, M, _, e, h1, con_imp (k_acceptM l E b W1 M s k (PMk_p hc (PMk_of hJ)) (fun f f0 f5 => GMk_p hc (by rw [hc 74 (by omega)]; exact GMk_of hJ ⟨f0, f5⟩ (by have h9 := hJ.1; unfold A1 at h9; omega))) (by rw [hc 74 (by omega), ← hJ.2.2.2.2.2.2.1.1]; exact hJ.2.2.2.2.2.2.1.2.1)) ?_⟩
    rintro rt w (⟨c5, _, J2, M2, hk, ⟨z, e2, h2⟩ | ⟨z, e2, h2⟩⟩ | ⟨c2, e2, h2⟩)
    · obtain ⟨B, hB, eB⟩ := SKR_p hc hk
      obtain ⟨_, hIB, hw, _, f73, _⟩ := wish_eq hbk hI hl hB c
      have w2 := hw.2 k.toNat (by omega)
      obtain ⟨R, hR, h2⟩ := mw_gen h2
      refine ⟨R, M2, e2, h2, ?_⟩
      have f2 : ∀ a j, ¬ (a = 81 ∨ a = 82 ∨ a = 83 ∨ a = 84 ∨ a = 85 ∨ a = 86 ∨ (a = 74 ∧ j = 5)) → R a j = J2 a j := fun a j z => by rw [hR]; repeat rw [upI_ne (by omega)]
      have b74 : J2 74 5 = J 21 0 := by
        rw [← eB 74 (by omega), ← hIB.2.2.2.1.2.2.1.2.1, f73 21 0 (by omega)]
      have d0 : J2 74 0 = J 0 0 := by rw [← eB 74 (by omega), ← hIB.1.1, f73 0 0 (by omega)]
      have n0 := a4.1.2.1
      have s0_1 : W1 0 1 = 0 := by rw [hW1, upI_ne (by omega), upI_ne (by omega), upI_ne (by omega), upI_ne (by omega), upI_ne (by omega), upI_ne (by omega), upI_ne (by omega)]; exact upI_eq rfl rfl
      have r0_1 : R 0 1 = 0 := by rw [f2 0 1 (by omega), SKR_fr hk 0 1 (by omega)]; exact s0_1
      have s22 : ∀ c, W1 22 c = if c = (J 21 0).toNat then J 71 k.toNat else J 22 c := fun c => by rw [hW1]; by_cases e : c = (J 21 0).toNat; (rw [if_pos e, upI_ne (by omega), upI_ne (by omega), upI_ne (by omega), upI_ne (by omega), upI_ne (by omega), upI_ne (by omega)]; exact upI_eq rfl (by omega)); (rw [if_neg e]; repeat rw [upI_ne (by omega)])
      have r22 : ∀ c, R 22 c = if c = (J 21 0).toNat then J 71 k.toNat else B 22 c := fun c => by rw [f2 22 c (by omega), SKR_fr hk 22 c (by omega), s22 c, f73 22 c (by omega)]
      have s23 : ∀ c, W1 23 c = if c = (J 21 0).toNat then J 72 k.toNat else J 23 c := fun c => by rw [hW1]; by_cases e : c = (J 21 0).toNat; (rw [if_pos e, upI_ne (by omega), upI_ne (by omega), upI_ne (by omega), upI_ne (by omega), upI_ne (by omega)]; exact upI_eq rfl (by omega)); (rw [if_neg e]; repeat rw [upI_ne (by omega)])
      have r23 : ∀ c, R 23 c = if c = (J 21 0).toNat then J 72 k.toNat else B 23 c := fun c => by rw [f2 23 c (by omega), SKR_fr hk 23 c (by omega), s23 c, f73 23 c (by omega)]
      have s24 : ∀ c, W1 24 c = if c = (J 21 0).toNat then J 73 k.toNat else J 24 c := fun c => by rw [hW1]; by_cases e : c = (J 21 0).toNat; (rw [if_pos e, upI_ne (by omega), upI_ne (by omega), upI_ne (by omega), upI_ne (by omega)]; exact upI_eq rfl (by omega)); (rw [if_neg e]; repeat rw [upI_ne (by omega)])
      have r24 : ∀ c, R 24 c = if c = (J 21 0).toNat then J 73 k.toNat else B 24 c := fun c => by rw [f2 24 c (by omega), SKR_fr hk 24 c (by omega), s24 c, f73 24 c (by omega)]
      have s25 : ∀ c, W1 25 c = if c = (J 21 0).toNat then J 0 0 else J 25 c := fun c => by rw [hW1]; by_cases e : c = (J 21 0).toNat; (rw [if_pos e, upI_ne (by omega), upI_ne (by omega), upI_ne (by omega)]; exact upI_eq rfl (by omega)); (rw [if_neg e]; repeat rw [upI_ne (by omega)])
      have r25 : ∀ c, R 25 c = if c = (J 21 0).toNat then J 0 0 else B 25 c := fun c => by rw [f2 25 c (by omega), SKR_fr hk 25 c (by omega), s25 c, f73 25 c (by omega)]
      have s26 : ∀ c, W1 26 c = if c = (J 21 0).toNat then J 0 0 else J 26 c := fun c => by rw [hW1]; by_cases e : c = (J 21 0).toNat; (rw [if_pos e, upI_ne (by omega), upI_ne (by omega)]; exact upI_eq rfl (by omega)); (rw [if_neg e]; repeat rw [upI_ne (by omega)])
      have r26 : ∀ c, R 26 c = if c = (J 21 0).toNat then J 0 0 else B 26 c := fun c => by rw [f2 26 c (by omega), SKR_fr hk 26 c (by omega), s26 c, f73 26 c (by omega)]
      have s27 : ∀ c, W1 27 c = if c = (J 21 0).toNat then 1 else J 27 c := fun c => by rw [hW1]; by_cases e : c = (J 21 0).toNat; (rw [if_pos e, upI_ne (by omega)]; exact upI_eq rfl (by omega)); (rw [if_neg e]; repeat rw [upI_ne (by omega)])
      have r27 : ∀ c, R 27 c = if c = (J 21 0).toNat then 1 else B 27 c := fun c => by rw [f2 27 c (by omega), SKR_fr hk 27 c (by omega), s27 c, f73 27 c (by omega)]
      have s21_0 : W1 21 0 = (J 21 0) + 1 := by rw [hW1]; exact upI_eq rfl rfl
      have r21_0 : R 21 0 = (J 21 0) + 1 := by rw [f2 21 0 (by omega), SKR_fr hk 21 0 (by omega)]; exact s21_0
      have s81 : ∀ c, R 81 c = if c = (J 21 0).toNat then J2 126 k.toNat else J2 81 c := fun c => by rw [hR]; by_cases e : c = (J 21 0).toNat; (rw [if_pos e, upI_ne (by omega), upI_ne (by omega), upI_ne (by omega), upI_ne (by omega), upI_ne (by omega), upI_ne (by omega)]; exact upI_eq rfl (by omega)); (rw [if_neg e]; repeat rw [upI_ne (by omega)])
      have r81 : ∀ c, R 81 c = if c = (J 21 0).toNat then J 71 k.toNat else B 81 c := fun c => by rw [s81 c, ← eB 81 (by omega), ← eB 126 (by omega), ← w2.1]
      have s82 : ∀ c, R 82 c = if c = (J 21 0).toNat then J2 127 k.toNat else J2 82 c := fun c => by rw [hR]; by_cases e : c = (J 21 0).toNat; (rw [if_pos e, upI_ne (by omega), upI_ne (by omega), upI_ne (by omega), upI_ne (by omega), upI_ne (by omega)]; exact upI_eq rfl (by omega)); (rw [if_neg e]; repeat rw [upI_ne (by omega)])
      have r82 : ∀ c, R 82 c = if c = (J 21 0).toNat then J 72 k.toNat else B 82 c := fun c => by rw [s82 c, ← eB 82 (by omega), ← eB 127 (by omega), ← w2.2.1]
      have s83 : ∀ c, R 83 c = if c = (J 21 0).toNat then J2 128 k.toNat else J2 83 c := fun c => by rw [hR]; by_cases e : c = (J 21 0).toNat; (rw [if_pos e, upI_ne (by omega), upI_ne (by omega), upI_ne (by omega), upI_ne (by omega)]; exact upI_eq rfl (by omega)); (rw [if_neg e]; repeat rw [upI_ne (by omega)])
      have r83 : ∀ c, R 83 c = if c = (J 21 0).toNat then J 73 k.toNat else B 83 c := fun c => by rw [s83 c, ← eB 83 (by omega), ← eB 128 (by omega), ← w2.2.2.1]
      have s84 : ∀ c, R 84 c = if c = (J 21 0).toNat then J2 74 0 else J2 84 c := fun c => by rw [hR]; by_cases e : c = (J 21 0).toNat; (rw [if_pos e, upI_ne (by omega), upI_ne (by omega), upI_ne (by omega)]; exact upI_eq rfl (by omega)); (rw [if_neg e]; repeat rw [upI_ne (by omega)])
      have r84 : ∀ c, R 84 c = if c = (J 21 0).toNat then J 0 0 else B 84 c := fun c => by rw [s84 c, ← eB 84 (by omega), d0]
      have s85 : ∀ c, R 85 c = if c = (J 21 0).toNat then J2 74 0 else J2 85 c := fun c => by rw [hR]; by_cases e : c = (J 21 0).toNat; (rw [if_pos e, upI_ne (by omega), upI_ne (by omega)]; exact upI_eq rfl (by omega)); (rw [if_neg e]; repeat rw [upI_ne (by omega)])
      have r85 : ∀ c, R 85 c = if c = (J 21 0).toNat then J 0 0 else B 85 c := fun c => by rw [s85 c, ← eB 85 (by omega), d0]
      have s86 : ∀ c, R 86 c = if c = (J 21 0).toNat then 1 else J2 86 c := fun c => by rw [hR]; by_cases e : c = (J 21 0).toNat; (rw [if_pos e, upI_ne (by omega)]; exact upI_eq rfl (by omega)); (rw [if_neg e]; repeat rw [upI_ne (by omega)])
      have r86 : ∀ c, R 86 c = if c = (J 21 0).toNat then 1 else B 86 c := fun c => by rw [s86 c, ← eB 86 (by omega)]
      have s74_5 : R 74 5 = (J2 74 5) + 1 := by rw [hR]; exact upI_eq rfl rfl
      have r74_5 : R 74 5 = B 74 5 + 1 := by rw [s74_5, ← eB 74 (by omega)]
      exact inv_tell (I := B) (J := R) hIB hbk (n := (J 21 0).toNat) (r := J 71 k.toNat) (f := J 72 k.toNat) (x := J 73 k.toNat) (d := J 0 0) (e := 1) (by rw [f73 21 0 (by omega)]; omega) (by rw [f73 17 0 (by omega)]; exact w2.2.2.2.1) w2.2.2.2.2.1 w2.2.2.2.2.2 a1.2 (Or.inr rfl) (by rw [f73 21 0 (by omega)]; exact ck.2) r0_1 (by rw [r21_0, f73 21 0 (by omega)]) r74_5 r22 r23 r24 r25 (by rw [f73 0 0 (by omega)]; exact r26) r27 r81 r82 r83 r84 (by rw [← hIB.1.1, f73 0 0 (by omega)]; exact r85) r86 (fun a j z => by by_cases q : a ≤ 73; (rw [f2 a j (by omega), SKR_fr hk a j q, f1 a j (by omega), f73 a j q]); (rw [f2 a j (by omega), ← eB a (by omega)]))
    · obtain ⟨B, hB, eB⟩ := SKR_p hc hk
      obtain ⟨_, _, hw, _⟩ := wish_eq hbk hI hl hB c
      rw [← eB 74 (by omega), ← hw.1] at z
      exact absurd ck.1.2 z
    · rw [hc 74 (by omega), ← e5] at c2
      exact absurd ⟨by omega, c, ck.1.1⟩ c2
  · have hJ := (lwr_inv hbk hI hl).1
    have hJ0 := hJ
    obtain ⟨a1, a2, a3, a4, a5, a6, a7, a8, a9, a10, a11, a12⟩ := hJ0
    have e5 : J 21 0 = J 74 5 := a4.2.2.1.2.1
    have n0 := a4.1.2.1
    refine ⟨b, J, M, _, e, h1, con_imp (k_acceptM l E b J M s k (PMk_of hJ) (fun f f0 f5 => GMk_of hJ ⟨f0, f5⟩ (by have h9 := hJ.1; unfold A1 at h9; omega)) (by rw [← hJ.2.2.2.2.2.2.1.1]; exact hJ.2.2.2.2.2.2.1.2.1)) ?_⟩
    rintro rt w (⟨c5, ⟨_, c6⟩, J2, M2, hk, ⟨z, e2, h2⟩ | ⟨z, e2, h2⟩⟩ | ⟨c2, e2, h2⟩)
    · obtain ⟨_, _, hw, _⟩ := wish_eq hbk hI hl hk c
      rw [← hw.1] at z
      rw [← e5] at c5
      exact absurd ⟨⟨c6, z⟩, by omega⟩ ck
    · obtain ⟨_, hJ2, hw, _⟩ := wish_eq hbk hI hl hk c
      exact ⟨J2, M2, e2, h2, hJ2⟩
    · exact ⟨J, M, e2, h2, hJ⟩
  · refine ⟨b, I, L, _, e, h1, con_imp (k_acceptM l E b I L s k (PMk_of hI) (fun f f0 f5 => GMk_of hI ⟨f0, f5⟩ (by have h9 := hI.1; unfold A1 at h9; omega)) (by rw [← hI.2.2.2.2.2.2.1.1]; exact hI.2.2.2.2.2.2.1.2.1)) ?_⟩
    rintro rt w (⟨_, c2, _⟩ | ⟨_, e2, h2⟩)
    · exact absurd c2.1 c
    · exact ⟨I, L, e2, h2, hI⟩
theorem pr_refuse (l : Launch) (E : AX) (b : Bool) (I L : Nat → Nat → Int) (s k : Int) (hI : Inv (bkb b) I) : Pair l E b I L 8 88 8 164 [vI s, vI k] := by
  have hbk := bk_b b
  refine con_imp (kb_refuse l E b I L s k (POK_of hI) (GOK_of hI) (by have := hI.1.2; omega) hI.2.2.2.2.2.2.1.2.1) ?_
  rintro rt w (⟨c, J, M, hl, ⟨ck, e, h1⟩ | ⟨ck, e, h1⟩⟩ | ⟨c, e, h1⟩)
  · have hJ := (lwr_inv hbk hI hl).1
    have hJ0 := hJ
    obtain ⟨a1, a2, a3, a4, a5, a6, a7, a8, a9, a10, a11, a12⟩ := hJ0
    have e5 : J 66 0 = J 74 75 := a7.1
    obtain ⟨W1, hW1, h1⟩ := mw_gen h1
    have f1 : ∀ a j, ¬ (a = 67 ∨ a = 68 ∨ a = 69 ∨ (a = 66 ∧ j = 0)) → W1 a j = J a j := fun a j z => by rw [hW1]; repeat rw [upI_ne (by omega)]
    have hc : ∀ a, 74 ≤ a → W1 a = J a := fun a ha => funext (fun j => f1 a j (by omega))
    refine ⟨b, W1, M, _, e, h1, con_imp (k_refuseM l E b W1 M s k (PMk_p hc (PMk_of hJ)) (fun f f0 f5 => GMk_p hc (by rw [hc 74 (by omega)]; exact GMk_of hJ ⟨f0, f5⟩ (by have h9 := hJ.1; unfold A1 at h9; omega))) (by rw [hc 74 (by omega), ← hJ.2.2.2.2.2.2.1.1]; exact hJ.2.2.2.2.2.2.1.2.1)) ?_⟩
    rintro rt w (⟨c5, _, J2, M2, hk, ⟨z, e2, h2⟩ | ⟨z, e2, h2⟩⟩ | ⟨c2, e2, h2⟩)
    · obtain ⟨B, hB, eB⟩ := SKR_p hc hk
      obtain ⟨_, hIB, hw, _, f73, _⟩ := wish_eq hbk hI hl hB c
      have w2 := hw.2 k.toNat (by omega)
      obtain ⟨R, hR, h2⟩ := mw_gen h2
      refine ⟨R, M2, e2, h2, ?_⟩
      have f2 : ∀ a j, ¬ (a = 123 ∨ a = 124 ∨ a = 125 ∨ (a = 74 ∧ j = 75)) → R a j = J2 a j := fun a j z => by rw [hR]; repeat rw [upI_ne (by omega)]
      have b74 : J2 74 75 = J 66 0 := by
        rw [← eB 74 (by omega), ← hIB.2.2.2.2.2.2.1.1, f73 66 0 (by omega)]
      have d0 : J2 74 0 = J 0 0 := by rw [← eB 74 (by omega), ← hIB.1.1, f73 0 0 (by omega)]
      have n0 := a7.2.1
      have s67 : ∀ c, W1 67 c = if c = (J 66 0).toNat then J 71 k.toNat else J 67 c := fun c => by rw [hW1]; by_cases e : c = (J 66 0).toNat; (rw [if_pos e, upI_ne (by omega), upI_ne (by omega), upI_ne (by omega)]; exact upI_eq rfl (by omega)); (rw [if_neg e]; repeat rw [upI_ne (by omega)])
      have r67 : ∀ c, R 67 c = if c = (J 66 0).toNat then J 71 k.toNat else B 67 c := fun c => by rw [f2 67 c (by omega), SKR_fr hk 67 c (by omega), s67 c, f73 67 c (by omega)]
      have s68 : ∀ c, W1 68 c = if c = (J 66 0).toNat then J 72 k.toNat else J 68 c := fun c => by rw [hW1]; by_cases e : c = (J 66 0).toNat; (rw [if_pos e, upI_ne (by omega), upI_ne (by omega)]; exact upI_eq rfl (by omega)); (rw [if_neg e]; repeat rw [upI_ne (by omega)])
      have r68 : ∀ c, R 68 c = if c = (J 66 0).toNat then J 72 k.toNat else B 68 c := fun c => by rw [f2 68 c (by omega), SKR_fr hk 68 c (by omega), s68 c, f73 68 c (by omega)]
      have s69 : ∀ c, W1 69 c = if c = (J 66 0).toNat then J 73 k.toNat else J 69 c := fun c => by rw [hW1]; by_cases e : c = (J 66 0).toNat; (rw [if_pos e, upI_ne (by omega)]; exact upI_eq rfl (by omega)); (rw [if_neg e]; repeat rw [upI_ne (by omega)])
      have r69 : ∀ c, R 69 c = if c = (J 66 0).toNat then J 73 k.toNat else B 69 c := fun c => by rw [f2 69 c (by omega), SKR_fr hk 69 c (by omega), s69 c, f73 69 c (by omega)]
      have s66_0 : W1 66 0 = (J 66 0) + 1 := by rw [hW1]; exact upI_eq rfl rfl
      have r66_0 : R 66 0 = (J 66 0) + 1 := by rw [f2 66 0 (by omega), SKR_fr hk 66 0 (by omega)]; exact s66_0
      have s123 : ∀ c, R 123 c = if c = (J 66 0).toNat then J2 126 k.toNat else J2 123 c := fun c => by rw [hR]; by_cases e : c = (J 66 0).toNat; (rw [if_pos e, upI_ne (by omega), upI_ne (by omega), upI_ne (by omega)]; exact upI_eq rfl (by omega)); (rw [if_neg e]; repeat rw [upI_ne (by omega)])
      have r123 : ∀ c, R 123 c = if c = (J 66 0).toNat then J 71 k.toNat else B 123 c := fun c => by rw [s123 c, ← eB 123 (by omega), ← eB 126 (by omega), ← w2.1]
      have s124 : ∀ c, R 124 c = if c = (J 66 0).toNat then J2 127 k.toNat else J2 124 c := fun c => by rw [hR]; by_cases e : c = (J 66 0).toNat; (rw [if_pos e, upI_ne (by omega), upI_ne (by omega)]; exact upI_eq rfl (by omega)); (rw [if_neg e]; repeat rw [upI_ne (by omega)])
      have r124 : ∀ c, R 124 c = if c = (J 66 0).toNat then J 72 k.toNat else B 124 c := fun c => by rw [s124 c, ← eB 124 (by omega), ← eB 127 (by omega), ← w2.2.1]
      have s125 : ∀ c, R 125 c = if c = (J 66 0).toNat then J2 128 k.toNat else J2 125 c := fun c => by rw [hR]; by_cases e : c = (J 66 0).toNat; (rw [if_pos e, upI_ne (by omega)]; exact upI_eq rfl (by omega)); (rw [if_neg e]; repeat rw [upI_ne (by omega)])
      have r125 : ∀ c, R 125 c = if c = (J 66 0).toNat then J 73 k.toNat else B 125 c := fun c => by rw [s125 c, ← eB 125 (by omega), ← eB 128 (by omega), ← w2.2.2.1]
      have s74_75 : R 74 75 = (J2 74 75) + 1 := by rw [hR]; exact upI_eq rfl rfl
      have r74_75 : R 74 75 = B 74 75 + 1 := by rw [s74_75, ← eB 74 (by omega)]
      exact inv_ref (I := B) (J := R) hIB hbk (n := (J 66 0).toNat) (x := J 71 k.toNat) (y := J 72 k.toNat) (m := J 73 k.toNat) (by rw [f73 66 0 (by omega)]; omega) (by rw [f73 66 0 (by omega)]; exact ck.2) (by rw [r66_0, f73 66 0 (by omega)]) r74_75 r67 r68 r69 r123 r124 r125 (fun a j z => by by_cases q : a ≤ 73; (rw [f2 a j (by omega), SKR_fr hk a j q, f1 a j (by omega), f73 a j q]); (rw [f2 a j (by omega), ← eB a (by omega)]))
    · obtain ⟨B, hB, eB⟩ := SKR_p hc hk
      obtain ⟨_, _, hw, _⟩ := wish_eq hbk hI hl hB c
      rw [← eB 74 (by omega), ← hw.1] at z
      exact absurd ck.1.2 z
    · rw [hc 74 (by omega), ← e5] at c2
      exact absurd ⟨by omega, c, ck.1.1⟩ c2
  · have hJ := (lwr_inv hbk hI hl).1
    have hJ0 := hJ
    obtain ⟨a1, a2, a3, a4, a5, a6, a7, a8, a9, a10, a11, a12⟩ := hJ0
    have e5 : J 66 0 = J 74 75 := a7.1
    have n0 := a7.2.1
    refine ⟨b, J, M, _, e, h1, con_imp (k_refuseM l E b J M s k (PMk_of hJ) (fun f f0 f5 => GMk_of hJ ⟨f0, f5⟩ (by have h9 := hJ.1; unfold A1 at h9; omega)) (by rw [← hJ.2.2.2.2.2.2.1.1]; exact hJ.2.2.2.2.2.2.1.2.1)) ?_⟩
    rintro rt w (⟨c5, ⟨_, c6⟩, J2, M2, hk, ⟨z, e2, h2⟩ | ⟨z, e2, h2⟩⟩ | ⟨c2, e2, h2⟩)
    · obtain ⟨_, _, hw, _⟩ := wish_eq hbk hI hl hk c
      rw [← hw.1] at z
      rw [← e5] at c5
      exact absurd ⟨⟨c6, z⟩, by omega⟩ ck
    · obtain ⟨_, hJ2, hw, _⟩ := wish_eq hbk hI hl hk c
      exact ⟨J2, M2, e2, h2, hJ2⟩
    · exact ⟨J, M, e2, h2, hJ⟩
  · refine ⟨b, I, L, _, e, h1, con_imp (k_refuseM l E b I L s k (PMk_of hI) (fun f f0 f5 => GMk_of hI ⟨f0, f5⟩ (by have h9 := hI.1; unfold A1 at h9; omega)) (by rw [← hI.2.2.2.2.2.2.1.1]; exact hI.2.2.2.2.2.2.1.2.1)) ?_⟩
    rintro rt w (⟨_, c2, _⟩ | ⟨_, e2, h2⟩)
    · exact absurd c2.1 c
    · exact ⟨I, L, e2, h2, hI⟩
