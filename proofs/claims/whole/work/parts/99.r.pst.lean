-- THE CLASS'S PARSER: its state
def Frp (k : Nat) (I J : Nat → Nat → Int) : Prop := ∀ a j, ¬ ((a = 28 ∧ 1 ≤ j ∧ j ≤ 4) ∨ (a = k ∧ 1 ≤ j ∧ j ≤ 2) ∨ (k + 3 ≤ a ∧ a ≤ k + 5) ∨ a = 31) → J a j = I a j
def nTp (I : Nat → Nat → Int) : Nat := (I 28 0).toNat
def Tp0 (I : Nat → Nat → Int) : Prop := (0 ≤ I 28 0 ∧ I 28 0 ≤ 500) ∧ ∀ j : Nat, (j : Int) < I 28 0 → (0 ≤ I 29 j ∧ I 29 j ≤ 255) ∧ I 30 j = srt (I 29 j)
def Sts (k : Nat) (J : Nat → Nat → Int) (S : List (Int × Int × Int)) : Prop := J k 2 = (S.length : Int) ∧ ∀ i, i < S.length → J (k + 3) i = cmc (S.getD i (0, 0, 0)).1 ∧ J (k + 4) i = (S.getD i (0, 0, 0)).2.1 ∧ J (k + 5) i = (S.getD i (0, 0, 0)).2.2
def PSt (k : Nat) (I J : Nat → Nat → Int) (s : Nat × Int × List (Int × Int × Int)) : Prop := Frp k I J ∧ Tkn J (I 29) (nTp I) s.1 ∧ s.1 ≤ nTp I ∧ (J k 1 = s.2.1 ∧ 0 ≤ s.2.1 ∧ s.2.1 ≤ 60) ∧ Sts k J s.2.2
def FlR (k : Nat) (I J : Nat → Nat → Int) (f : Int × Int) : Prop := Frp k I J ∧ J 31 0 = f.1 ∧ J 31 1 = f.2
def PRs (k : Nat) (I : Nat → Nat → Int) (b : Bool) (L : Nat → Nat → Int) (r : (Int × Int) ⊕ (Nat × Int × List (Int × Int × Int))) (rt : Option AV) (w : AW) : Prop := ∃ J, w = MW b J L ∧ ((∃ s, r = .inr s ∧ rt = some (vI 1) ∧ PSt k I J s) ∨ (∃ f, r = .inl f ∧ rt = some (vI 0) ∧ FlR k I J f))
theorem PSt_r {k : Nat} {I J : Nat → Nat → Int} {s : Nat × Int × List (Int × Int × Int)} (hk : k = 1 ∨ k = 7) (h0 : Tp0 I) (h : PSt k I J s) : TpK J ∧ J 29 = I 29 ∧ (J 28 0).toNat = nTp I ∧ (J 28 4).toNat = tN (I 29) (nTp I) s.1 ∧ (0 ≤ J 28 2 ∧ J 28 2 ≤ J 28 4) ∧ nTp I ≤ 500 ∧ tP (I 29) (nTp I) s.1 ≤ tN (I 29) (nTp I) s.1 := by
  obtain ⟨f, t, a, _, _⟩ := h
  have h00 := h0.1
  have hn : nTp I ≤ 500 := by unfold nTp; omega
  have e0 := f 28 0 (by omega)
  have h2 := tN_bd (B := I 29) hn a
  have h3 := tP_bd (B := I 29) hn a
  have hq : ((nTp I : Nat) : Int) = I 28 0 := by unfold nTp; omega
  refine ⟨⟨?_, fun j hj => ?_⟩, funext (fun z => f 29 z (by omega)), by rw [e0]; rfl, by rw [t.2.2.1]; exact Int.toNat_natCast _, ?_, hn, h2.1⟩
  · rw [t.2.2.1, e0]
    omega
  · rw [e0] at hj
    rw [f 29 j (by omega), f 30 j (by omega)]
    exact h0.2 j hj
  · rw [t.1, t.2.2.1]
    omega
theorem PSt_adv {k : Nat} {I J J2 : Nat → Nat → Int} {s : Nat × Int × List (Int × Int × Int)} (hk : k = 1 ∨ k = 7) (h0 : Tp0 I) (h : PSt k I J s) (h1 : FrT J J2) (h2 : Tkn J2 (J 29) (J 28 0).toNat (J 28 4).toNat) : PSt k I J2 (tN (I 29) (nTp I) s.1, s.2) := by
  obtain ⟨r1, r2, r3, r4, r5, r6, r7⟩ := PSt_r hk h0 h
  rw [r2, r3, r4] at h2
  obtain ⟨f, t, a, u, v⟩ := h
  have b := tN_bd (B := I 29) r6 a
  refine ⟨fun c j hc => by rw [h1 c j (by omega)]; exact f c j hc, h2, b.2.1, by rw [h1 k 1 (by omega)]; exact u, by rw [h1 k 2 (by omega)]; exact v.1, fun i hi => ?_⟩
  rw [h1 (k + 3) i (by omega), h1 (k + 4) i (by omega), h1 (k + 5) i (by omega)]
  exact v.2 i hi
theorem getD3 {S : List (Int × Int × Int)} {x : Int × Int × Int} {m : Nat} : (S ++ [x]).getD m (0, 0, 0) = if m = S.length then x else S.getD m (0, 0, 0) := by
  by_cases e : m = S.length
  · rw [if_pos e, e, List.getD_eq_getElem?_getD, List.getElem?_append_right (Nat.le_refl _)]
    simp
  · rw [if_neg e, List.getD_eq_getElem?_getD, List.getD_eq_getElem?_getD]
    rcases Nat.lt_or_ge m S.length with h | h
    · rw [List.getElem?_append_left h]
    · rw [List.getElem?_eq_none (by simp; omega), List.getElem?_eq_none h]
theorem PSt_push {k : Nat} {I J J2 : Nat → Nat → Int} {s : Nat × Int × List (Int × Int × Int)} {c f n x : Int} (hk : k = 1 ∨ k = 7) (h : PSt k I J s) (hx : x = cmc c) (hJ : J2 = upI (upI (upI (upI J (k + 3) (J k 2).toNat x) (k + 4) (J k 2).toNat f) (k + 5) (J k 2).toNat n) k 2 (J k 2 + 1)) : PSt k I J2 (s.1, s.2.1, s.2.2 ++ [(c, f, n)]) := by
  obtain ⟨fr, t, a, u, v⟩ := h
  have v1 := v.1
  have q : ∀ c j, ¬ ((k + 3 ≤ c ∧ c ≤ k + 5) ∨ (c = k ∧ j = 2)) → J2 c j = J c j := fun c j hc => by rw [hJ, upI_ne (by omega), upI_ne (by omega), upI_ne (by omega), upI_ne (by omega)]
  refine ⟨fun c j hc => by rw [q c j (by omega)]; exact fr c j hc, ?_, a, by rw [q k 1 (by omega)]; exact u, ?_, fun i hi => ?_⟩
  · unfold Tkn
    rw [q 28 2 (by omega), q 28 1 (by omega), q 28 4 (by omega), q 28 3 (by omega)]
    exact t
  · show J2 k 2 = ((s.2.2 ++ [(c, f, n)]).length : Int)
    rw [hJ, upI_eq rfl rfl, List.length_append, List.length_singleton]
    omega
  · have hi : i < (s.2.2 ++ [(c, f, n)]).length := hi
    rw [List.length_append, List.length_singleton] at hi
    show J2 (k + 3) i = cmc ((s.2.2 ++ [(c, f, n)]).getD i (0, 0, 0)).1 ∧ J2 (k + 4) i = ((s.2.2 ++ [(c, f, n)]).getD i (0, 0, 0)).2.1 ∧ J2 (k + 5) i = ((s.2.2 ++ [(c, f, n)]).getD i (0, 0, 0)).2.2
    rw [getD3]
    by_cases e : i = s.2.2.length
    · rw [if_pos e]
      have e2 : i = (J k 2).toNat := by omega
      refine ⟨?_, ?_, ?_⟩
      · rw [hJ, upI_ne (by omega), upI_ne (by omega), upI_ne (by omega), upI_eq rfl e2]
        exact hx
      · rw [hJ, upI_ne (by omega), upI_ne (by omega), upI_eq rfl e2]
      · rw [hJ, upI_ne (by omega), upI_eq rfl e2]
    · rw [if_neg e]
      have f2 : ∀ c, k + 3 ≤ c ∧ c ≤ k + 5 → J2 c i = J c i := fun c hc => by rw [hJ, upI_ne (by omega), upI_ne (by omega), upI_ne (by omega), upI_ne (by omega)]
      rw [f2 (k + 3) (by omega), f2 (k + 4) (by omega), f2 (k + 5) (by omega)]
      exact v.2 i (by omega)
theorem PSt_tests {k : Nat} {I J : Nat → Nat → Int} {s : Nat × Int × List (Int × Int × Int)} (hk : k = 1 ∨ k = 7) (h : PSt k I J s) (h60 : s.2.1 < 60) : PSt k I (upI J k 1 (J k 1 + 1)) (s.1, s.2.1 + 1, s.2.2) := by
  obtain ⟨fr, t, a, u, v⟩ := h
  have q : ∀ c j, ¬ (c = k ∧ j = 1) → (upI J k 1 (J k 1 + 1)) c j = J c j := fun c j hc => by rw [upI_ne (by omega)]
  refine ⟨fun c j hc => by rw [q c j (by omega)]; exact fr c j hc, ?_, a, ⟨by rw [upI_eq rfl rfl, u.1], by show 0 ≤ s.2.1 + 1; omega, by show s.2.1 + 1 ≤ 60; omega⟩, by rw [q k 2 (by omega)]; exact v.1, fun i hi => ?_⟩
  · unfold Tkn
    rw [q 28 2 (by omega), q 28 1 (by omega), q 28 4 (by omega), q 28 3 (by omega)]
    exact t
  · rw [q (k + 3) i (by omega), q (k + 4) i (by omega), q (k + 5) i (by omega)]
    exact v.2 i hi
theorem PSt_stop {k : Nat} {I J J2 : Nat → Nat → Int} {s : Nat × Int × List (Int × Int × Int)} {c x : Int} (h : PSt k I J s) (hx : (J 28 1 = 1 ∧ x = 1) ∨ (J 28 1 ≠ 1 ∧ x = c)) (hJ : J2 = upI (upI J 31 0 x) 31 1 (J 28 2)) (hk : k = 1 ∨ k = 7) : FlR k I J2 (flt (I 29) (nTp I) s.1 c) := by
  obtain ⟨fr, t, a, u, v⟩ := h
  refine ⟨fun c j hc => by rw [hJ, upI_ne (by omega), upI_ne (by omega)]; exact fr c j hc, ?_, ?_⟩
  · rw [hJ, upI_ne (by omega), upI_eq rfl rfl]
    unfold flt
    rw [← t.2.1]
    rcases hx with ⟨e1, e2⟩ | ⟨e1, e2⟩
    · rw [e2, if_pos e1]
    · rw [e2, if_neg e1]
  · rw [hJ, upI_eq rfl rfl]
    exact t.1
