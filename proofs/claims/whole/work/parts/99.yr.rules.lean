-- PAIR of rules
theorem getD_mem3 {S : List (Int × Int × Int)} {j : Nat} (h : j < S.length) : S.getD j (0, 0, 0) ∈ S := by
  rw [List.getD_eq_getElem?_getD, List.getElem?_eq_getElem h]
  exact List.getElem_mem h
theorem getD_mid {S0 T R : List (Int × Int × Int)} {m : Nat} (h : m < T.length) : (S0 ++ (T ++ R)).getD (S0.length + m) (0, 0, 0) = T.getD m (0, 0, 0) := by
  rw [List.getD_eq_getElem?_getD, List.getD_eq_getElem?_getD, List.getElem?_append_right (by omega), show S0.length + m - S0.length = m by omega, List.getElem?_append_left h]
/-- a world holds the book that was read -/
def HBk (sp : Nat) (R : Nat → Nat → Int) (G : List (Int × Int)) (S : List (Int × Int × Int)) : Prop := (R sp 0 = (G.length : Int) ∧ ∀ i, i < G.length → R (sp + 1) i = (G.getD i (0, 0)).1 ∧ R (sp + 2) i = (G.getD i (0, 0)).2) ∧ (∀ i, i < S.length → R (sp + 3) i = cmc (S.getD i (0, 0, 0)).1 ∧ R (sp + 4) i = (S.getD i (0, 0, 0)).2.1 ∧ R (sp + 5) i = (S.getD i (0, 0, 0)).2.2) ∧ R 74 20 = (G.length : Int) ∧ (∀ i, i < S.length → R 87 i = (S.getD i (0, 0, 0)).1 ∧ R 88 i = (S.getD i (0, 0, 0)).2.1 ∧ R 89 i = (S.getD i (0, 0, 0)).2.2) ∧ (∀ i, i < G.length → R 91 i = (G.getD i (0, 0)).1) ∧ ∀ i, i ≤ G.length → R 90 i = strt G i
theorem book_ok {sp : Nat} {R : Nat → Nat → Int} {G : List (Int × Int)} {S : List (Int × Int × Int)} (h : HBk sp R G S) (hg : LnG G S) (h10 : G.length ≤ 10) (h250 : S.length ≤ 250) : A10 sp R := by
  obtain ⟨⟨b1, b2⟩, b3, b4, b5, b6, b7⟩ := h
  obtain ⟨g1, g2, g3⟩ := hg
  have hsb : ∀ n, n < G.length → R (sp + 2) n = strt G (n + 1) := fun n hn => (b2 n hn).2
  have hso : ∀ n, n < G.length → sof (R (sp + 2)) n = strt G n := fun n hn => by
    cases n with
    | zero => rfl
    | succ n => exact hsb n (by omega)
  have hst : ∀ n, n < G.length → 0 ≤ strt G n ∧ strt G n ≤ strt G (n + 1) ∧ strt G (n + 1) ≤ (S.length : Int) := fun n hn => by
    obtain ⟨_, S0, T, U, e, e1, e2, _⟩ := g3 n hn
    have : S.length = S0.length + (T.length + U.length) := by rw [e, List.length_append, List.length_append]
    omega
  refine ⟨⟨by rw [b1]; omega, fun n hn => ?_⟩, ⟨by rw [b1, b4], by rw [b7 0 (Nat.zero_le _)]; rfl, fun n hn => ?_⟩⟩
  · rw [b1] at hn
    have hn : n < G.length := by omega
    obtain ⟨gv, S0, T, U, e, e1, e2, gs⟩ := g3 n hn
    have h3 := hst n hn
    rw [hso n hn, hsb n hn, (b2 n hn).1]
    refine ⟨by omega, ?_, gv, fun j j1 j2 => ?_⟩
    · rw [show (strt G (n + 1) - strt G n).toNat = T.length by omega, show (strt G n).toNat = S0.length by omega]
      refine Sg_WFs (fun m hm => ?_) gs
      have hl : S.length = S0.length + (T.length + U.length) := by rw [e, List.length_append, List.length_append]
      rw [(b3 (S0.length + m) (by omega)).1, e, getD_mid hm]
    · rw [(b3 j (by omega)).2.1]
      exact (g1 _ (getD_mem3 (by omega))).2.1
  · rw [b4] at hn
    have hn : n < G.length := by omega
    have h3 := hst n hn
    rw [hsb n hn, (b2 n hn).1, b6 n hn, b7 (n + 1) (by omega), b7 n (by omega)]
    refine ⟨rfl, rfl, fun j j1 j2 => ?_⟩
    have c3 := b3 j (by omega)
    have c5 := b5 j (by omega)
    have ok := g1 _ (getD_mem3 (show j < S.length by omega))
    rw [c3.1, c3.2.1, c3.2.2, c5.1, c5.2.1, c5.2.2]
    exact ⟨ok.1, rfl, fun _ => ⟨rfl, ok.2.1⟩, ok.2.2, fun _ => rfl⟩
theorem kb_rules (l : Launch) (E : AX) (b : Bool) (I L : Nat → Nat → Int) (h0 : Tp0 I) : Con l E 27 72 [vR 0] (MW b I L) 0 0 (fun rt w => (∃ J G s, pRul (I 29) (nTp I) = .inr (G, s) ∧ LSt (bkb (!b)) (clr (bkb (!b)) I) J G s ∧ rt = some (vI (G.length : Int)) ∧ w = MW (!b) (upI (upI J 28 0 0) 0 1 0) L) ∨ (∃ J f, pRul (I 29) (nTp I) = .inl f ∧ FlA (bkb (!b)) (clr (bkb (!b)) I) J f ∧ rt = some (vI (-1)) ∧ w = MW b (upI J 28 0 0) L)) := by
  cases b
  · exact k_rules_f l E I L h0
  · exact k_rules_t l E I L h0
theorem bk_n (b : Bool) : (bkb b = 1 ∧ bkb (!b) = 7) ∨ (bkb b = 7 ∧ bkb (!b) = 1) := by
  cases b
  · exact Or.inl ⟨rfl, rfl⟩
  · exact Or.inr ⟨rfl, rfl⟩
theorem pr_rules (l : Launch) (E : AX) (b : Bool) (I L : Nat → Nat → Int) (hI : Inv (bkb b) I) : Pair l E b I L 27 72 7 137 [] := by
  have hbn := bk_n b
  have hI0 := hI
  obtain ⟨a1, a2, a3, a4, a5, a6, a7, a8, a9, a10, a11, a12⟩ := hI0
  have e8 := a8.1
  have t8 := a8.2.1.1
  have e29 : I 97 = I 29 := funext (fun j => (a8.2.2 j).symm)
  have hsp : bkb (!b) = 1 ∨ bkb (!b) = 7 := bk_b (!b)
  have en : (I 74 30).toNat = nTp I := by rw [← e8]; rfl
  refine con_imp (kb_rules l E b I L a8.2.1) ?_
  generalize hs9 : bkb (!b) = sp at hsp hbn
  obtain ⟨q1, q2, q3, q4, q5, q6, q7, q8, q9⟩ := clr_t (I := I) hsp
  rintro rt w (⟨J, G, s, hr, hl, e, h1⟩ | ⟨J, f, hr, hf, e, h1⟩)
  · obtain ⟨W1, hW1, h1⟩ := mw_gen h1
    obtain ⟨l1, l2, l3, l4⟩ := hl
    have w1 : ∀ a j, ¬ ((a = 28 ∧ j = 0) ∨ (a = 0 ∧ j = 1)) → W1 a j = J a j := fun a j z => by rw [hW1, upI_ne (by omega), upI_ne (by omega)]
    have w28 : W1 28 0 = 0 := by rw [hW1, upI_ne (by omega), upI_eq rfl rfl]
    have w01 : W1 0 1 = 0 := by rw [hW1, upI_eq rfl rfl]
    have f1 : ∀ a j, ¬ (a = 28 ∨ a = 31 ∨ (a = 0 ∧ j = 1) ∨ (sp ≤ a ∧ a ≤ sp + 5)) → W1 a j = I a j := fun a j z => by
      rw [w1 a j (by omega), l1 a j (by omega), q1 a j (by omega)]
    have e97 : W1 97 = I 29 := by rw [← e29]; exact funext (fun j => f1 97 j (by omega))
    have e30 : W1 74 30 = I 74 30 := f1 74 30 (by omega)
    have hT : Tm0 W1 := ⟨by rw [e30, ← e8]; exact t8, fun j hj => by rw [e30, ← e8] at hj; rw [e97]; exact (a8.2.1.2 j hj).1⟩
    refine ⟨!b, W1, L, _, e, h1, con_imp (k_rulesM l E (!b) W1 L hT) ?_⟩
    rw [e97, e30, en, hr]
    rintro rt w (⟨R, M2, G2, s2, hr2, e2, h2, hR⟩ | ⟨R, M2, f2, hr2, _⟩)
    · cases hr2
      refine ⟨R, M2, e2, h2, ?_⟩
      rw [hs9]
      obtain ⟨r1, r2, r3, r4, r5, r6⟩ := hR
      obtain ⟨t1, t2, t3, t4, t5, t6, t7, t9, t10, t11, t12, t13⟩ := clM_t (I := W1)
      have f2 : ∀ a j, ¬ ((a = 74 ∧ (j = 20 ∨ (26 ≤ j ∧ j ≤ 37) ∨ j = 40 ∨ j = 41)) ∨ (87 ≤ a ∧ a ≤ 96) ∨ a = 98) → R a j = W1 a j := fun a j z => by rw [r1 a j (by omega), t1 a j (by omega)]
      have fr : ∀ a j, ¬ ((a = 74 ∧ (j = 20 ∨ (26 ≤ j ∧ j ≤ 37) ∨ j = 40 ∨ j = 41)) ∨ (87 ≤ a ∧ a ≤ 96) ∨ a = 98 ∨ a = 28 ∨ a = 31 ∨ (a = 0 ∧ j = 1) ∨ (sp ≤ a ∧ a ≤ sp + 5)) → R a j = I a j := fun a j z => by rw [f2 a j (by omega), f1 a j (by omega)]
      have hS : s.2.2.length ≤ 250 := by
        have h5 := l2.1.2.2.1
        have h6 : nTp J ≤ 500 := by
          rw [(Fra_t hsp l1).2.1, q3]
          unfold nTp
          omega
        omega
      have hG := pAll_len 10 _ _ hr
      have hG : G.length ≤ 10 := by
        have e9 : ([] : List (Int × Int)).length = 0 := rfl
        omega
      have hb : HBk sp R G s.2.2 := by
        refine ⟨⟨?_, fun i hi => ?_⟩, fun i hi => ?_, r3, r4, r5, r6⟩
        · rw [f2 sp 0 (by omega), w1 sp 0 (by omega)]
          exact l3.1
        · rw [f2 (sp + 1) i (by omega), f2 (sp + 2) i (by omega), w1 (sp + 1) i (by omega), w1 (sp + 2) i (by omega)]
          exact l3.2 i hi
        · rw [f2 (sp + 3) i (by omega), f2 (sp + 4) i (by omega), f2 (sp + 5) i (by omega), w1 (sp + 3) i (by omega), w1 (sp + 4) i (by omega), w1 (sp + 5) i (by omega)]
          exact l2.1.2.2.2.2.2 i hi
      have k30 : R 74 30 = 0 := by rw [r1 74 30 (by omega)]; exact t12
      have k28 : R 28 0 = 0 := by rw [f2 28 0 (by omega)]; exact w28
      refine ⟨A1_c (fun a j z => fr a j (by omega)) a1, A2_c (fun a j z => fr a j (by omega)) a2, A3_c (fun a j z => fr a j (by omega)) a3, A4_c (fun a j z => fr a j (by omega)) a4, A5_c (fun a j z => fr a j (by omega)) a5, A6_c (fun a j z => fr a j (by omega)) a6, A7_c (fun a j z => fr a j (by omega)) a7, ⟨by rw [k28, k30], ⟨by omega, fun j hj => by omega⟩, fun j => by rw [fr 29 j (by omega), fr 97 j (by omega)]; exact a8.2.2 j⟩, ⟨?_, ?_⟩, book_ok hb (rul_sg hr) hG hS, A11_0 (by rw [f2 0 1 (by omega)]; exact w01), A12_c (fun a j z => fr a j (by omega)) a12⟩
      · rw [f2 31 0 (by omega), w1 31 0 (by omega), l1 31 0 (by omega), q5, r1 74 31 (by omega), t6]
      · rw [f2 31 1 (by omega), w1 31 1 (by omega), l1 31 1 (by omega), q6, r1 74 32 (by omega), t7]
    · exact absurd hr2 (by simp)
  · obtain ⟨W1, hW1, h1⟩ := mw_gen h1
    have w1 : ∀ a j, ¬ (a = 28 ∧ j = 0) → W1 a j = J a j := fun a j z => by rw [hW1, upI_ne (by omega)]
    have w28 : W1 28 0 = 0 := by rw [hW1, upI_eq rfl rfl]
    have f1 : ∀ a j, ¬ (a = 28 ∨ a = 31 ∨ (sp ≤ a ∧ a ≤ sp + 5)) → W1 a j = I a j := fun a j z => by
      rw [w1 a j (by omega), hf.1 a j (by omega), q1 a j (by omega)]
    have e97 : W1 97 = I 29 := by rw [← e29]; exact funext (fun j => f1 97 j (by omega))
    have e30 : W1 74 30 = I 74 30 := f1 74 30 (by omega)
    have hT : Tm0 W1 := ⟨by rw [e30, ← e8]; exact t8, fun j hj => by rw [e30, ← e8] at hj; rw [e97]; exact (a8.2.1.2 j hj).1⟩
    refine ⟨b, W1, L, _, e, h1, con_imp (k_rulesM l E b W1 L hT) ?_⟩
    rw [e97, e30, en, hr]
    rintro rt w (⟨R, M2, G2, s2, hr2, _⟩ | ⟨R, M2, f2, hr2, e2, h2, hR⟩)
    · exact absurd hr2 (by simp)
    · cases hr2
      refine ⟨R, M2, e2, h2, ?_⟩
      obtain ⟨r1, r2, r3, r4, r5⟩ := hR
      obtain ⟨t1, t2, t3, t4, t5, t6, t7, t9, t10, t11, t12, t13⟩ := clM_t (I := W1)
      have f2 : ∀ a j, ¬ ((a = 74 ∧ ((26 ≤ j ∧ j ≤ 37) ∨ j = 40 ∨ j = 41)) ∨ (92 ≤ a ∧ a ≤ 96) ∨ a = 98) → R a j = W1 a j := fun a j z => by rw [r1 a j (by omega), t1 a j (by omega)]
      have fr : ∀ a j, ¬ ((a = 74 ∧ ((26 ≤ j ∧ j ≤ 37) ∨ j = 40 ∨ j = 41)) ∨ (92 ≤ a ∧ a ≤ 96) ∨ a = 98 ∨ a = 28 ∨ a = 31 ∨ (sp ≤ a ∧ a ≤ sp + 5)) → R a j = I a j := fun a j z => by rw [f2 a j (by omega), f1 a j (by omega)]
      have k30 : R 74 30 = 0 := by rw [r1 74 30 (by omega)]; exact t12
      have k28 : R 28 0 = 0 := by rw [f2 28 0 (by omega)]; exact w28
      refine ⟨A1_c (fun a j z => fr a j (by omega)) a1, A2_c (fun a j z => fr a j (by omega)) a2, A3_c (fun a j z => fr a j (by omega)) a3, A4_c (fun a j z => fr a j (by omega)) a4, A5_c (fun a j z => fr a j (by omega)) a5, A6_c (fun a j z => fr a j (by omega)) a6, A7_c (fun a j z => fr a j (by omega)) a7, ⟨by rw [k28, k30], ⟨by omega, fun j hj => by omega⟩, fun j => by rw [fr 29 j (by omega), fr 97 j (by omega)]; exact a8.2.2 j⟩, ⟨?_, ?_⟩, A10_c (fun a j z => fr a j (by omega)) a10, A11_c (fun a j z => fr a j (by omega)) a11, A12_c (fun a j z => fr a j (by omega)) a12⟩
      · rw [f2 31 0 (by omega), w1 31 0 (by omega), hf.2.1, r3]
      · rw [f2 31 1 (by omega), w1 31 1 (by omega), hf.2.2, r4]
