-- STEPS OF THE INVARIANT, by what changed
theorem bk_b (b : Bool) : bkb b = 1 ∨ bkb b = 7 := by
  cases b
  · exact Or.inl rfl
  · exact Or.inr rfl
section IST
variable {bk : Nat} {I J : Nat → Nat → Int}
theorem inv_seen (hI : Inv bk I) (hbk : bk = 1 ∨ bk = 7) (h1 : J 0 1 = 0) (fr : ∀ a j, ¬ (a = 0 ∧ j = 1) → J a j = I a j) : Inv bk J :=
  Inv_q (fun a j z => fr a j (by unfold Core at z; omega)) hI (A11_0 h1) (A12_c (fun a j z => fr a j (by omega)) hI.2.2.2.2.2.2.2.2.2.2.2)
theorem inv_trust (hI : Inv bk I) (hbk : bk = 1 ∨ bk = 7) {n : Nat} {t : Int} (ht : 0 ≤ t ∧ t ≤ 9) (r14 : ∀ c, J 14 c = if c = n then t else I 14 c) (r75 : ∀ c, J 75 c = if c = n then t else I 75 c) (fr : ∀ a j, ¬ (a = 14 ∨ a = 75) → J a j = I a j) : Inv bk J := by
  obtain ⟨a1, a2, a3, a4, a5, a6, a7, a8, a9, a10, a11, a12⟩ := hI
  refine ⟨A1_c (fun a j z => fr a j (by omega)) a1, ⟨⟨fun c hc => ?_, fun c hc => ?_⟩, fun c hc => ?_, fun c hc => ?_⟩, A3_c (fun a j z => fr a j (by omega)) a3, A4_c (fun a j z => fr a j (by omega)) a4, A5_c (fun a j z => fr a j (by omega)) a5, A6_c (fun a j z => fr a j (by omega)) a6, A7_c (fun a j z => fr a j (by omega)) a7, A8_c (fun a j z => fr a j (by omega)) a8, A9_c (fun a j z => fr a j (by omega)) a9, A10_c (fun a j z => fr a j (by omega)) a10, A11_c (fun a j z => fr a j (by omega)) a11, A12_c (fun a j z => fr a j (by omega)) a12⟩
  · rw [r14, r75, a2.1.1 c hc]
  · rw [fr 15 c (by omega), fr 76 c (by omega)]
    exact a2.1.2 c hc
  · rw [r14]
    split
    · exact ht
    · exact a2.2.1 c hc
  · rw [fr 15 c (by omega)]
    exact a2.2.2 c hc
theorem inv_fade (hI : Inv bk I) (hbk : bk = 1 ∨ bk = 7) {n : Nat} {t : Int} (ht : 0 ≤ t ∧ t ≤ 50) (r15 : ∀ c, J 15 c = if c = n then t else I 15 c) (r76 : ∀ c, J 76 c = if c = n then t else I 76 c) (fr : ∀ a j, ¬ (a = 15 ∨ a = 76) → J a j = I a j) : Inv bk J := by
  obtain ⟨a1, a2, a3, a4, a5, a6, a7, a8, a9, a10, a11, a12⟩ := hI
  refine ⟨A1_c (fun a j z => fr a j (by omega)) a1, ⟨⟨fun c hc => ?_, fun c hc => ?_⟩, fun c hc => ?_, fun c hc => ?_⟩, A3_c (fun a j z => fr a j (by omega)) a3, A4_c (fun a j z => fr a j (by omega)) a4, A5_c (fun a j z => fr a j (by omega)) a5, A6_c (fun a j z => fr a j (by omega)) a6, A7_c (fun a j z => fr a j (by omega)) a7, A8_c (fun a j z => fr a j (by omega)) a8, A9_c (fun a j z => fr a j (by omega)) a9, A10_c (fun a j z => fr a j (by omega)) a10, A11_c (fun a j z => fr a j (by omega)) a11, A12_c (fun a j z => fr a j (by omega)) a12⟩
  · rw [fr 14 c (by omega), fr 75 c (by omega)]
    exact a2.1.1 c hc
  · rw [r15, r76, a2.1.2 c hc]
  · rw [fr 14 c (by omega)]
    exact a2.2.1 c hc
  · rw [r15]
    split
    · exact ht
    · exact a2.2.2 c hc
theorem inv_rights (hI : Inv bk I) (hbk : bk = 1 ∨ bk = 7) {n : Nat} {t : Int} (r16 : ∀ c, J 16 c = if c = n then t else I 16 c) (r77 : ∀ c, J 77 c = if c = n then t else I 77 c) (fr : ∀ a j, ¬ (a = 16 ∨ a = 77) → J a j = I a j) : Inv bk J := by
  obtain ⟨a1, a2, a3, a4, a5, a6, a7, a8, a9, a10, a11, a12⟩ := hI
  exact ⟨A1_c (fun a j z => fr a j (by omega)) a1, A2_c (fun a j z => fr a j (by omega)) a2, fun c hc => by rw [r16, r77, a3 c hc], A4_c (fun a j z => fr a j (by omega)) a4, A5_c (fun a j z => fr a j (by omega)) a5, A6_c (fun a j z => fr a j (by omega)) a6, A7_c (fun a j z => fr a j (by omega)) a7, A8_c (fun a j z => fr a j (by omega)) a8, A9_c (fun a j z => fr a j (by omega)) a9, A10_c (fun a j z => fr a j (by omega)) a10, A11_c (fun a j z => fr a j (by omega)) a11, A12_c (fun a j z => fr a j (by omega)) a12⟩
theorem inv_later (hI : Inv bk I) (hbk : bk = 1 ∨ bk = 7) {x : Int} (hx : I 0 0 ≤ x ∧ x ≤ 100000) (h0 : J 0 0 = x) (h74 : J 74 0 = x) (fr : ∀ a j, ¬ ((a = 0 ∨ a = 74) ∧ j = 0) → J a j = I a j) : Inv bk J := by
  obtain ⟨a1, a2, a3, a4, a5, a6, a7, a8, a9, a10, a11, a12⟩ := hI
  have e : ∀ a, (17 ≤ a ∧ a ≤ 27) ∨ (78 ≤ a ∧ a ≤ 86) → J a = I a := fun a ha => funext (fun j => fr a j (by omega))
  have h1 := a1.2.1
  refine ⟨⟨by rw [h0, h74], by omega, by omega⟩, A2_c (fun a j z => fr a j (by omega)) a2, A3_c (fun a j z => fr a j (by omega)) a3, ?_, A5_c (fun a j z => fr a j (by omega)) a5, A6_c (fun a j z => fr a j (by omega)) a6, A7_c (fun a j z => fr a j (by omega)) a7, A8_c (fun a j z => fr a j (by omega)) a8, A9_c (fun a j z => fr a j (by omega)) a9, A10_c (fun a j z => fr a j (by omega)) a10, A11_c (fun a j z => fr a j (by omega)) a11, A12_c (fun a j z => fr a j (by omega)) a12⟩
  unfold A4 VOK TbV
  rw [fr 74 4 (by omega), fr 74 5 (by omega), h0, e 17 (by omega), e 18 (by omega), e 19 (by omega), e 20 (by omega), e 21 (by omega), e 22 (by omega), e 23 (by omega), e 24 (by omega), e 25 (by omega), e 26 (by omega), e 27 (by omega), e 78 (by omega), e 79 (by omega), e 80 (by omega), e 81 (by omega), e 82 (by omega), e 83 (by omega), e 84 (by omega), e 85 (by omega), e 86 (by omega)]
  exact ⟨a4.1, a4.2.1, a4.2.2.1, fun r hr => ⟨(a4.2.2.2.1 r hr).1, by have := (a4.2.2.2.1 r hr).2; omega⟩, a4.2.2.2.2⟩
theorem inv_row (hI : Inv bk I) (hbk : bk = 1 ∨ bk = 7) {n : Nat} {s : Int} (hn : I 17 0 = (n : Int)) (hs : 0 ≤ s ∧ s ≤ 5) (h10 : I 17 0 < 10) (h1 : J 0 1 = 0) (h17 : J 17 0 = I 17 0 + 1) (h74 : J 74 4 = I 74 4 + 1) (r18 : ∀ c, J 18 c = if c = n then s else I 18 c) (r19 : ∀ c, J 19 c = if c = n then I 0 0 else I 19 c) (r78 : ∀ c, J 78 c = if c = n then s else I 78 c) (r79 : ∀ c, J 79 c = if c = n then I 74 0 else I 79 c) (fr : ∀ a j, ¬ ((a = 0 ∧ j = 1) ∨ (a = 17 ∧ j = 0) ∨ (a = 74 ∧ j = 4) ∨ a = 18 ∨ a = 19 ∨ a = 78 ∨ a = 79) → J a j = I a j) : Inv bk J := by
  obtain ⟨a1, a2, a3, a4, a5, a6, a7, a8, a9, a10, a11, a12⟩ := hI
  refine ⟨A1_c (fun a j z => fr a j (by omega)) a1, A2_c (fun a j z => fr a j (by omega)) a2, A3_c (fun a j z => fr a j (by omega)) a3, ?_, A5_c (fun a j z => fr a j (by omega)) a5, A6_c (fun a j z => fr a j (by omega)) a6, A7_c (fun a j z => fr a j (by omega)) a7, A8_c (fun a j z => fr a j (by omega)) a8, A9_c (fun a j z => fr a j (by omega)) a9, A10_c (fun a j z => fr a j (by omega)) a10, A11_0 h1, A12_c (fun a j z => fr a j (by omega)) a12⟩
  obtain ⟨hV, hv2, hT, hr, hz⟩ := a4
  have e21 := fr 21 0 (by omega)
  have ev : ∀ a, (22 ≤ a ∧ a ≤ 27) ∨ (81 ≤ a ∧ a ≤ 86) → J a = I a := fun a ha => funext (fun j => fr a j (by omega))
  refine ⟨⟨by have := hV.1; omega, by rw [e21]; exact hV.2.1, ?_⟩, ?_, ⟨by rw [h17, h74, hT.1], by rw [e21, fr 74 5 (by omega)]; exact hT.2.1, fun j hj => ?_, ?_⟩, fun r hr2 => ?_, fun r hr2 => ?_⟩
  · rw [e21, ev 22 (by omega), ev 23 (by omega), ev 24 (by omega), ev 27 (by omega)]
    exact hV.2.2
  · intro j hj
    rw [e21] at hj
    obtain ⟨q1, q2, q3, q4⟩ := hv2 j hj
    have q5 := (hV.2.2 j hj).1
    rw [ev 25 (by omega), ev 24 (by omega), ev 22 (by omega), ev 26 (by omega), h17, r19, if_neg (by omega)]
    exact ⟨q1, q2, by omega, q4⟩
  · rw [h17] at hj
    rw [r18, r78, r19, r79, fr 20 j (by omega), fr 80 j (by omega)]
    by_cases e : j = n
    · rw [if_pos e, if_pos e, if_pos e, if_pos e]
      have := hz j (by omega)
      exact ⟨rfl, a1.1, by rw [this.1, this.2]⟩
    · rw [if_neg e, if_neg e, if_neg e, if_neg e]
      exact hT.2.2.1 j (by omega)
  · rw [e21, ev 22 (by omega), ev 23 (by omega), ev 24 (by omega), ev 25 (by omega), ev 26 (by omega), ev 27 (by omega), ev 81 (by omega), ev 82 (by omega), ev 83 (by omega), ev 84 (by omega), ev 85 (by omega), ev 86 (by omega)]
    exact hT.2.2.2
  · rw [h17] at hr2
    rw [r18, r19, fr 0 0 (by omega)]
    by_cases e : r = n
    · rw [if_pos e, if_pos e]
      exact ⟨hs, by omega⟩
    · rw [if_neg e, if_neg e]
      exact hr r (by omega)
  · rw [h17] at hr2
    rw [fr 20 r (by omega), fr 80 r (by omega)]
    exact hz r (by omega)
theorem inv_tell (hI : Inv bk I) (hbk : bk = 1 ∨ bk = 7) {n : Nat} {r f x d e : Int} (hn : I 21 0 = (n : Int)) (hr : 0 ≤ r ∧ r < I 17 0) (hf : 0 ≤ f ∧ f ≤ 5) (hx : 0 ≤ x ∧ x ≤ 999999) (hd : 0 ≤ d ∧ d ≤ 100000) (he : e = 0 ∨ e = 1) (h150 : I 21 0 < 150) (h1 : J 0 1 = 0) (h21 : J 21 0 = I 21 0 + 1) (h74 : J 74 5 = I 74 5 + 1) (r22 : ∀ c, J 22 c = if c = n then r else I 22 c) (r23 : ∀ c, J 23 c = if c = n then f else I 23 c) (r24 : ∀ c, J 24 c = if c = n then x else I 24 c) (r25 : ∀ c, J 25 c = if c = n then d else I 25 c) (r26 : ∀ c, J 26 c = if c = n then I 0 0 else I 26 c) (r27 : ∀ c, J 27 c = if c = n then e else I 27 c) (r81 : ∀ c, J 81 c = if c = n then r else I 81 c) (r82 : ∀ c, J 82 c = if c = n then f else I 82 c) (r83 : ∀ c, J 83 c = if c = n then x else I 83 c) (r84 : ∀ c, J 84 c = if c = n then d else I 84 c) (r85 : ∀ c, J 85 c = if c = n then I 74 0 else I 85 c) (r86 : ∀ c, J 86 c = if c = n then e else I 86 c) (fr : ∀ a j, ¬ ((a = 0 ∧ j = 1) ∨ (a = 21 ∧ j = 0) ∨ (a = 74 ∧ j = 5) ∨ (22 ≤ a ∧ a ≤ 27) ∨ (81 ≤ a ∧ a ≤ 86)) → J a j = I a j) : Inv bk J := by
  obtain ⟨a1, a2, a3, a4, a5, a6, a7, a8, a9, a10, a11, a12⟩ := hI
  refine ⟨A1_c (fun a j z => fr a j (by omega)) a1, A2_c (fun a j z => fr a j (by omega)) a2, A3_c (fun a j z => fr a j (by omega)) a3, ?_, A5_c (fun a j z => fr a j (by omega)) a5, A6_c (fun a j z => fr a j (by omega)) a6, A7_c (fun a j z => fr a j (by omega)) a7, A8_c (fun a j z => fr a j (by omega)) a8, A9_c (fun a j z => fr a j (by omega)) a9, A10_c (fun a j z => fr a j (by omega)) a10, A11_0 h1, A12_c (fun a j z => fr a j (by omega)) a12⟩
  obtain ⟨hV, hv2, hT, hrr, hz⟩ := a4
  have ev : ∀ a, (17 ≤ a ∧ a ≤ 20) ∨ (78 ≤ a ∧ a ≤ 80) → J a = I a := fun a ha => funext (fun j => fr a j (by omega))
  have h17 := hV.1
  refine ⟨⟨by rw [ev 17 (by omega)]; exact hV.1, by have := hV.2.1; omega, fun j hj => ?_⟩, fun j hj => ?_, ⟨by rw [ev 17 (by omega), fr 74 4 (by omega)]; exact hT.1, by rw [h21, h74, hT.2.1], ?_, fun j hj => ?_⟩, ?_, ?_⟩
  · rw [h21] at hj
    rw [r22, r23, r24, r27]
    by_cases c : j = n
    · rw [if_pos c, if_pos c, if_pos c, if_pos c]
      exact ⟨by omega, hf, hx.1, he⟩
    · rw [if_neg c, if_neg c, if_neg c, if_neg c]
      exact hV.2.2 j (by omega)
  · rw [h21] at hj
    rw [r25, r24, r22, r26, ev 17 (by omega), ev 19 (by omega)]
    by_cases c : j = n
    · rw [if_pos c, if_pos c, if_pos c, if_pos c]
      exact ⟨hd, hx.2, hr.2, (hrr r.toNat (by omega)).2⟩
    · rw [if_neg c, if_neg c, if_neg c, if_neg c]
      exact hv2 j (by omega)
  · rw [ev 17 (by omega), ev 18 (by omega), ev 19 (by omega), ev 20 (by omega), ev 78 (by omega), ev 79 (by omega), ev 80 (by omega)]
    exact hT.2.2.1
  · rw [h21] at hj
    rw [r22, r23, r24, r25, r26, r27, r81, r82, r83, r84, r85, r86]
    by_cases c : j = n
    · rw [if_pos c, if_pos c, if_pos c, if_pos c, if_pos c, if_pos c, if_pos c, if_pos c, if_pos c, if_pos c, if_pos c, if_pos c]
      exact ⟨rfl, rfl, rfl, rfl, a1.1, rfl⟩
    · rw [if_neg c, if_neg c, if_neg c, if_neg c, if_neg c, if_neg c, if_neg c, if_neg c, if_neg c, if_neg c, if_neg c, if_neg c]
      exact hT.2.2.2 j (by omega)
  · rw [ev 17 (by omega), ev 18 (by omega), ev 19 (by omega), fr 0 0 (by omega)]
    exact hrr
  · rw [ev 17 (by omega), ev 20 (by omega), ev 80 (by omega)]
    exact hz
theorem inv_forget (hI : Inv bk I) (hbk : bk = 1 ∨ bk = 7) {n : Nat} (hn : (n : Int) < I 17 0) (h1 : J 0 1 = 0) (r20 : ∀ c, J 20 c = if c = n then 1 else I 20 c) (r80 : ∀ c, J 80 c = if c = n then 1 else I 80 c) (fr : ∀ a j, ¬ ((a = 0 ∧ j = 1) ∨ a = 20 ∨ a = 80) → J a j = I a j) : Inv bk J := by
  obtain ⟨a1, a2, a3, a4, a5, a6, a7, a8, a9, a10, a11, a12⟩ := hI
  refine ⟨A1_c (fun a j z => fr a j (by omega)) a1, A2_c (fun a j z => fr a j (by omega)) a2, A3_c (fun a j z => fr a j (by omega)) a3, ?_, A5_c (fun a j z => fr a j (by omega)) a5, A6_c (fun a j z => fr a j (by omega)) a6, A7_c (fun a j z => fr a j (by omega)) a7, A8_c (fun a j z => fr a j (by omega)) a8, A9_c (fun a j z => fr a j (by omega)) a9, A10_c (fun a j z => fr a j (by omega)) a10, A11_0 h1, A12_c (fun a j z => fr a j (by omega)) a12⟩
  obtain ⟨hV, hv2, hT, hrr, hz⟩ := a4
  have ev : ∀ a, (17 ≤ a ∧ a ≤ 27 ∧ a ≠ 20) ∨ (78 ≤ a ∧ a ≤ 86 ∧ a ≠ 80) → J a = I a := fun a ha => funext (fun j => fr a j (by omega))
  refine ⟨?_, ?_, ⟨by rw [ev 17 (by omega), fr 74 4 (by omega)]; exact hT.1, by rw [ev 21 (by omega), fr 74 5 (by omega)]; exact hT.2.1, fun j hj => ?_, ?_⟩, ?_, fun r hr => ?_⟩
  · unfold VOK
    rw [ev 17 (by omega), ev 21 (by omega), ev 22 (by omega), ev 23 (by omega), ev 24 (by omega), ev 27 (by omega)]
    exact hV
  · rw [ev 17 (by omega), ev 19 (by omega), ev 21 (by omega), ev 22 (by omega), ev 24 (by omega), ev 25 (by omega), ev 26 (by omega)]
    exact hv2
  · rw [ev 17 (by omega)] at hj
    rw [ev 18 (by omega), ev 19 (by omega), ev 78 (by omega), ev 79 (by omega), r20, r80]
    obtain ⟨q1, q2, q3⟩ := hT.2.2.1 j hj
    exact ⟨q1, q2, by rw [q3]⟩
  · rw [ev 21 (by omega), ev 22 (by omega), ev 23 (by omega), ev 24 (by omega), ev 25 (by omega), ev 26 (by omega), ev 27 (by omega), ev 81 (by omega), ev 82 (by omega), ev 83 (by omega), ev 84 (by omega), ev 85 (by omega), ev 86 (by omega)]
    exact hT.2.2.2
  · rw [ev 17 (by omega), ev 18 (by omega), ev 19 (by omega), fr 0 0 (by omega)]
    exact hrr
  · rw [ev 17 (by omega)] at hr
    rw [r20, r80, if_neg (by omega), if_neg (by omega)]
    exact hz r hr
theorem inv_hand (hI : Inv bk I) (hbk : bk = 1 ∨ bk = 7) {n : Nat} {x y m m2 : Int} (hn : I 32 0 = (n : Int)) (hx : 0 ≤ x ∧ x < 10) (hy : 0 ≤ y ∧ y < 10) (hxy : x ≠ y) (hm : m = 1 ↔ m2 ≠ 0) (h20 : I 32 0 < 20) (h1 : J 0 1 = 0) (h32 : J 32 0 = I 32 0 + 1) (h43 : J 74 43 = I 74 43 + 1) (r33 : ∀ c, J 33 c = if c = n then x else I 33 c) (r34 : ∀ c, J 34 c = if c = n then y else I 34 c) (r35 : ∀ c, J 35 c = if c = n then m else I 35 c) (r36 : ∀ c, J 36 c = if c = n then I 0 0 else I 36 c) (r37 : ∀ c, J 37 c = if c = n then -1 else I 37 c) (r100 : ∀ c, J 100 c = if c = n then x else I 100 c) (r101 : ∀ c, J 101 c = if c = n then y else I 101 c) (r104 : ∀ c, J 104 c = if c = n then m2 else I 104 c) (r102 : ∀ c, J 102 c = if c = n then I 74 0 else I 102 c) (r103 : ∀ c, J 103 c = if c = n then -1 else I 103 c) (fr : ∀ a j, ¬ ((a = 0 ∧ j = 1) ∨ (a = 74 ∧ j = 43) ∨ (32 ≤ a ∧ a ≤ 37) ∨ (100 ≤ a ∧ a ≤ 104)) → J a j = I a j) : Inv bk J := by
  obtain ⟨a1, a2, a3, a4, a5, a6, a7, a8, a9, a10, a11, a12⟩ := hI
  refine ⟨A1_c (fun a j z => fr a j (by omega)) a1, A2_c (fun a j z => fr a j (by omega)) a2, A3_c (fun a j z => fr a j (by omega)) a3, A4_c (fun a j z => fr a j (by omega)) a4, ?_, A6_c (fun a j z => fr a j (by omega)) a6, A7_c (fun a j z => fr a j (by omega)) a7, A8_c (fun a j z => fr a j (by omega)) a8, A9_c (fun a j z => fr a j (by omega)) a9, A10_c (fun a j z => fr a j (by omega)) a10, A11_0 h1, A12_c (fun a j z => fr a j (by omega)) a12⟩
  obtain ⟨hR, hT⟩ := a5
  refine ⟨⟨by have := hR.1; omega, fun h hh => ?_⟩, ⟨by rw [h32, h43, hT.1], fun h hh => ?_⟩⟩
  · rw [h32] at hh
    rw [r33, r34]
    by_cases c : h = n
    · rw [if_pos c, if_pos c]
      exact ⟨hx, hy, hxy⟩
    · rw [if_neg c, if_neg c]
      exact hR.2 h (by omega)
  · rw [h32] at hh
    rw [r33, r34, r35, r36, r37, r100, r101, r102, r103, r104]
    by_cases c : h = n
    · rw [if_pos c, if_pos c, if_pos c, if_pos c, if_pos c, if_pos c, if_pos c, if_pos c, if_pos c, if_pos c]
      exact ⟨rfl, rfl, hm, a1.1, rfl, by omega⟩
    · rw [if_neg c, if_neg c, if_neg c, if_neg c, if_neg c, if_neg c, if_neg c, if_neg c, if_neg c, if_neg c]
      exact hT.2 h (by omega)
theorem inv_unhand (hI : Inv bk I) (hbk : bk = 1 ∨ bk = 7) {n : Nat} (h1 : J 0 1 = 0) (r37 : ∀ c, J 37 c = if c = n then I 0 0 else I 37 c) (r103 : ∀ c, J 103 c = if c = n then I 74 0 else I 103 c) (fr : ∀ a j, ¬ ((a = 0 ∧ j = 1) ∨ a = 37 ∨ a = 103) → J a j = I a j) : Inv bk J := by
  obtain ⟨a1, a2, a3, a4, a5, a6, a7, a8, a9, a10, a11, a12⟩ := hI
  refine ⟨A1_c (fun a j z => fr a j (by omega)) a1, A2_c (fun a j z => fr a j (by omega)) a2, A3_c (fun a j z => fr a j (by omega)) a3, A4_c (fun a j z => fr a j (by omega)) a4, ?_, A6_c (fun a j z => fr a j (by omega)) a6, A7_c (fun a j z => fr a j (by omega)) a7, A8_c (fun a j z => fr a j (by omega)) a8, A9_c (fun a j z => fr a j (by omega)) a9, A10_c (fun a j z => fr a j (by omega)) a10, A11_0 h1, A12_c (fun a j z => fr a j (by omega)) a12⟩
  obtain ⟨hR, hT⟩ := a5
  have ev : ∀ a, (32 ≤ a ∧ a ≤ 36) ∨ (100 ≤ a ∧ a ≤ 104 ∧ a ≠ 103) → J a = I a := fun a ha => funext (fun j => fr a j (by omega))
  refine ⟨?_, ⟨by rw [ev 32 (by omega), fr 74 43 (by omega)]; exact hT.1, fun h hh => ?_⟩⟩
  · unfold HR
    rw [ev 32 (by omega), ev 33 (by omega), ev 34 (by omega)]
    exact hR
  · rw [ev 32 (by omega)] at hh
    rw [ev 33 (by omega), ev 34 (by omega), ev 35 (by omega), ev 36 (by omega), ev 100 (by omega), ev 101 (by omega), ev 102 (by omega), ev 104 (by omega), r37, r103]
    obtain ⟨q1, q2, q3, q4, q5, q6⟩ := hT.2 h hh
    refine ⟨q1, q2, q3, q4, by rw [q5, a1.1], ?_⟩
    have := a1.2.1
    split <;> omega
theorem inv_fix (hI : Inv bk I) (hbk : bk = 1 ∨ bk = 7) {n : Nat} {x y m : Int} (hn : I 38 0 = (n : Int)) (hx : 0 ≤ x ∧ x < 10) (hm : 0 ≤ m ∧ m ≤ 999999) (h20 : I 38 0 < 20) (h38 : J 38 0 = I 38 0 + 1) (h44 : J 74 44 = I 74 44 + 1) (r39 : ∀ c, J 39 c = if c = n then x else I 39 c) (r40 : ∀ c, J 40 c = if c = n then y else I 40 c) (r41 : ∀ c, J 41 c = if c = n then m else I 41 c) (r42 : ∀ c, J 42 c = if c = n then I 0 0 else I 42 c) (r43 : ∀ c, J 43 c = if c = n then -1 else I 43 c) (r105 : ∀ c, J 105 c = if c = n then x else I 105 c) (r106 : ∀ c, J 106 c = if c = n then y else I 106 c) (r107 : ∀ c, J 107 c = if c = n then m else I 107 c) (r108 : ∀ c, J 108 c = if c = n then I 74 0 else I 108 c) (r109 : ∀ c, J 109 c = if c = n then -1 else I 109 c) (fr : ∀ a j, ¬ ((a = 74 ∧ j = 44) ∨ (38 ≤ a ∧ a ≤ 43) ∨ (105 ≤ a ∧ a ≤ 109)) → J a j = I a j) : Inv bk J := by
  obtain ⟨a1, a2, a3, a4, a5, a6, a7, a8, a9, a10, a11, a12⟩ := hI
  refine ⟨A1_c (fun a j z => fr a j (by omega)) a1, A2_c (fun a j z => fr a j (by omega)) a2, A3_c (fun a j z => fr a j (by omega)) a3, A4_c (fun a j z => fr a j (by omega)) a4, A5_c (fun a j z => fr a j (by omega)) a5, ?_, A7_c (fun a j z => fr a j (by omega)) a7, A8_c (fun a j z => fr a j (by omega)) a8, A9_c (fun a j z => fr a j (by omega)) a9, A10_c (fun a j z => fr a j (by omega)) a10, A11_c (fun a j z => fr a j (by omega)) a11, A12_c (fun a j z => fr a j (by omega)) a12⟩
  obtain ⟨hT, hR, hR2⟩ := a6
  refine ⟨⟨by rw [h38, h44, hT.1], fun h hh => ?_⟩, by omega, fun h hh => ?_⟩
  · rw [h38] at hh
    rw [r39, r40, r41, r42, r43, r105, r106, r107, r108, r109]
    by_cases c : h = n
    · rw [if_pos c, if_pos c, if_pos c, if_pos c, if_pos c, if_pos c, if_pos c, if_pos c, if_pos c, if_pos c]
      exact ⟨rfl, rfl, rfl, a1.1, rfl, by omega⟩
    · rw [if_neg c, if_neg c, if_neg c, if_neg c, if_neg c, if_neg c, if_neg c, if_neg c, if_neg c, if_neg c]
      exact hT.2 h (by omega)
  · rw [h38] at hh
    rw [r39, r41]
    by_cases c : h = n
    · rw [if_pos c, if_pos c]
      exact ⟨hx, hm⟩
    · rw [if_neg c, if_neg c]
      exact hR2 h (by omega)
theorem inv_unfix (hI : Inv bk I) (hbk : bk = 1 ∨ bk = 7) {n : Nat} (r43 : ∀ c, J 43 c = if c = n then I 0 0 else I 43 c) (r109 : ∀ c, J 109 c = if c = n then I 74 0 else I 109 c) (fr : ∀ a j, ¬ (a = 43 ∨ a = 109) → J a j = I a j) : Inv bk J := by
  obtain ⟨a1, a2, a3, a4, a5, a6, a7, a8, a9, a10, a11, a12⟩ := hI
  refine ⟨A1_c (fun a j z => fr a j (by omega)) a1, A2_c (fun a j z => fr a j (by omega)) a2, A3_c (fun a j z => fr a j (by omega)) a3, A4_c (fun a j z => fr a j (by omega)) a4, A5_c (fun a j z => fr a j (by omega)) a5, ?_, A7_c (fun a j z => fr a j (by omega)) a7, A8_c (fun a j z => fr a j (by omega)) a8, A9_c (fun a j z => fr a j (by omega)) a9, A10_c (fun a j z => fr a j (by omega)) a10, A11_c (fun a j z => fr a j (by omega)) a11, A12_c (fun a j z => fr a j (by omega)) a12⟩
  obtain ⟨hT, hR, hR2⟩ := a6
  have ev : ∀ a, (38 ≤ a ∧ a ≤ 42) ∨ (105 ≤ a ∧ a ≤ 108) → J a = I a := fun a ha => funext (fun j => fr a j (by omega))
  refine ⟨⟨by rw [ev 38 (by omega), fr 74 44 (by omega)]; exact hT.1, fun h hh => ?_⟩, by rw [ev 38 (by omega)]; exact hR, ?_⟩
  · rw [ev 38 (by omega)] at hh
    rw [ev 39 (by omega), ev 40 (by omega), ev 41 (by omega), ev 42 (by omega), ev 105 (by omega), ev 106 (by omega), ev 107 (by omega), ev 108 (by omega), r43, r109]
    obtain ⟨q1, q2, q3, q4, q5, q6⟩ := hT.2 h hh
    refine ⟨q1, q2, q3, q4, by rw [q5, a1.1], ?_⟩
    have := a1.2.1
    split <;> omega
  · rw [ev 38 (by omega), ev 39 (by omega), ev 41 (by omega)]
    exact hR2
theorem inv_end (hI : Inv bk I) (hbk : bk = 1 ∨ bk = 7) {n : Int} (hn : 0 ≤ n ∧ n ≤ I 28 0) (h28 : J 28 0 = n) (h30 : J 74 30 = n) (fr : ∀ a j, ¬ ((a = 28 ∧ j = 0) ∨ (a = 74 ∧ j = 30)) → J a j = I a j) : Inv bk J := by
  obtain ⟨a1, a2, a3, a4, a5, a6, a7, a8, a9, a10, a11, a12⟩ := hI
  refine ⟨A1_c (fun a j z => fr a j (by omega)) a1, A2_c (fun a j z => fr a j (by omega)) a2, A3_c (fun a j z => fr a j (by omega)) a3, A4_c (fun a j z => fr a j (by omega)) a4, A5_c (fun a j z => fr a j (by omega)) a5, A6_c (fun a j z => fr a j (by omega)) a6, A7_c (fun a j z => fr a j (by omega)) a7, ?_, A9_c (fun a j z => fr a j (by omega)) a9, A10_c (fun a j z => fr a j (by omega)) a10, A11_c (fun a j z => fr a j (by omega)) a11, A12_c (fun a j z => fr a j (by omega)) a12⟩
  obtain ⟨h1, h2, h3⟩ := a8
  have ev : ∀ a, a = 29 ∨ a = 30 ∨ a = 97 → J a = I a := fun a ha => funext (fun j => fr a j (by omega))
  have := h2.1
  refine ⟨by rw [h28, h30], ⟨by rw [h28]; omega, fun j hj => ?_⟩, fun j => ?_⟩
  · rw [h28] at hj
    rw [ev 29 (by omega), ev 30 (by omega)]
    exact h2.2 j (by omega)
  · rw [ev 29 (by omega), ev 97 (by omega)]
    exact h3 j
theorem inv_ref (hI : Inv bk I) (hbk : bk = 1 ∨ bk = 7) {n : Nat} {x y m : Int} (hn : I 66 0 = (n : Int)) (h60 : I 66 0 < 60) (h66 : J 66 0 = I 66 0 + 1) (h75 : J 74 75 = I 74 75 + 1) (r67 : ∀ c, J 67 c = if c = n then x else I 67 c) (r68 : ∀ c, J 68 c = if c = n then y else I 68 c) (r69 : ∀ c, J 69 c = if c = n then m else I 69 c) (r123 : ∀ c, J 123 c = if c = n then x else I 123 c) (r124 : ∀ c, J 124 c = if c = n then y else I 124 c) (r125 : ∀ c, J 125 c = if c = n then m else I 125 c) (fr : ∀ a j, ¬ ((a = 74 ∧ j = 75) ∨ (66 ≤ a ∧ a ≤ 69) ∨ (123 ≤ a ∧ a ≤ 125)) → J a j = I a j) : Inv bk J := by
  obtain ⟨a1, a2, a3, a4, a5, a6, a7, a8, a9, a10, a11, a12⟩ := hI
  refine ⟨A1_c (fun a j z => fr a j (by omega)) a1, A2_c (fun a j z => fr a j (by omega)) a2, A3_c (fun a j z => fr a j (by omega)) a3, A4_c (fun a j z => fr a j (by omega)) a4, A5_c (fun a j z => fr a j (by omega)) a5, A6_c (fun a j z => fr a j (by omega)) a6, ?_, A8_c (fun a j z => fr a j (by omega)) a8, A9_c (fun a j z => fr a j (by omega)) a9, A10_c (fun a j z => fr a j (by omega)) a10, A11_c (fun a j z => fr a j (by omega)) a11, A12_c (fun a j z => fr a j (by omega)) a12⟩
  obtain ⟨h1, h2, h3⟩ := a7
  refine ⟨by rw [h66, h75, h1], by omega, fun j hj => ?_⟩
  rw [h66] at hj
  rw [r67, r68, r69, r123, r124, r125]
  by_cases c : j = n
  · rw [if_pos c, if_pos c, if_pos c, if_pos c, if_pos c, if_pos c]
    exact ⟨rfl, rfl, rfl⟩
  · rw [if_neg c, if_neg c, if_neg c, if_neg c, if_neg c, if_neg c]
    exact h3 j (by omega)
end IST
