-- RULES, read: states (where, how many tests, the steps in the reference's codes); a fault is (kind, place)
def flt (B : Nat → Int) (n a : Nat) (k : Int) : Int × Int := (if tK B n a = 1 then 1 else k, (tP B n a : Int))
def wdq (B : Nat → Int) (n a i : Nat) : Bool := rdt B n a (strB.getD i [])
def isT (B : Nat → Int) (n a : Nat) : Bool := wdq B n a 4 || wdq B n a 5 || wdq B n a 6 || wdq B n a 7
/-- a number from a on -/
def pNum (B : Nat → Int) (n a : Nat) (lo hi : Int) : Option (Int × Int) := if tK B n a ≠ 3 then some (flt B n a 2) else if tV B n a < lo ∨ hi < tV B n a then some (flt B n a 3) else none
def pTest (B : Nat → Int) (n : Nat) (s : Nat × Int × List (Int × Int × Int)) : (Int × Int) ⊕ (Nat × Int × List (Int × Int × Int)) :=
  if isT B n s.1 = false ∨ 60 ≤ s.2.1 then .inl (flt B n s.1 2) else
  if wdq B n s.1 4 = true then .inr (tN B n s.1, s.2.1 + 1, s.2.2 ++ [(4, 0, 0)]) else
  match pNum B n (tN B n s.1) 0 5 with
  | some f => .inl f
  | none => if wdq B n s.1 6 = true then (match pNum B n (tN B n (tN B n s.1)) 0 999999 with
      | some f => .inl f
      | none => .inr (tN B n (tN B n (tN B n s.1)), s.2.1 + 1, s.2.2 ++ [(2, tV B n (tN B n s.1), tV B n (tN B n (tN B n s.1)))]))
    else .inr (tN B n (tN B n s.1), s.2.1 + 1, s.2.2 ++ [(if wdq B n s.1 5 = true then 3 else 1, tV B n (tN B n s.1), 0)])
def psh (s : Nat × Int × List (Int × Int × Int)) (c : Int) : Nat × Int × List (Int × Int × Int) := (s.1, s.2.1, s.2.2 ++ [(c, 0, 0)])
def pLoop (B : Nat → Int) (n : Nat) (one : (Nat × Int × List (Int × Int × Int)) → (Int × Int) ⊕ (Nat × Int × List (Int × Int × Int))) : Nat → Bool → (Nat × Int × List (Int × Int × Int)) → (Int × Int) ⊕ (Nat × Int × List (Int × Int × Int))
  | 0, w, s => .inr (if w = true then psh s 6 else s)
  | k + 1, w, s => if wdq B n s.1 8 = true then
      (match one (tN B n s.1, (if w = true then psh s 6 else s).2) with
      | .inl f => .inl f
      | .inr s1 => pLoop B n one k true s1)
    else if wdq B n s.1 9 = true then
      (match one (tN B n s.1, s.2) with
      | .inl f => .inl f
      | .inr s1 => pLoop B n one k w (psh s1 7))
    else .inr (if w = true then psh s 6 else s)
def pOne (B : Nat → Int) (n : Nat) : Nat → (Nat × Int × List (Int × Int × Int)) → (Int × Int) ⊕ (Nat × Int × List (Int × Int × Int))
  | 0, s => .inl (flt B n s.1 2)
  | D + 1, s => if wdq B n s.1 3 = true then
      (match pOne B n D (tN B n s.1, s.2) with
      | .inl f => .inl f
      | .inr s1 => .inr (psh s1 5))
    else if tK B n s.1 = 40 then
      (match pOne B n D (tN B n s.1, s.2) with
      | .inl f => .inl f
      | .inr s1 => match pLoop B n (pOne B n D) 500 false s1 with
        | .inl f => .inl f
        | .inr s2 => if tK B n s2.1 = 41 then .inr (tN B n s2.1, s2.2) else .inl (flt B n s2.1 2))
    else pTest B n s
def pEi (B : Nat → Int) (n D : Nat) (s : Nat × Int × List (Int × Int × Int)) : (Int × Int) ⊕ (Nat × Int × List (Int × Int × Int)) := match pOne B n D s with
  | .inl f => .inl f
  | .inr s1 => pLoop B n (pOne B n D) 500 false s1
-- bounds: two bytes a step
theorem wd_len {B : Nat → Int} {n a i : Nat} (hn : n ≤ 500) (ha : a ≤ n) (h : wdq B n a i = true) : a + (strB.getD i []).length ≤ tN B n a ∧ tN B n a ≤ n ∧ tK B n a = 2 := by
  have h1 := of_decide_eq_true h
  have h2 := tP_bd (B := B) hn ha
  have h3 := tN_bd (B := B) hn ha
  exact ⟨by have := h1.2.1; omega, h3.2.1, h1.1⟩
theorem wd_2 : ∀ i, i < 10 → 2 ≤ (strB.getD i []).length := by decide
/-- s2 is further on than s1, and its steps are no more than the bytes allow -/
def Bd (n : Nat) (d : Nat) (s s2 : Nat × Int × List (Int × Int × Int)) : Prop := s.1 ≤ s2.1 ∧ s2.1 ≤ n ∧ 2 * s2.2.2.length + s.1 ≤ 2 * s.2.2.length + s2.1 + d
theorem pTest_bd {B : Nat → Int} {n : Nat} (hn : n ≤ 500) {s s2 : Nat × Int × List (Int × Int × Int)} (ha : s.1 ≤ n) (h : pTest B n s = .inr s2) : Bd n 0 s s2 ∧ s.1 + 2 ≤ s2.1 := by
  unfold pTest at h
  by_cases c1 : isT B n s.1 = false ∨ 60 ≤ s.2.1
  · rw [if_pos c1] at h
    exact absurd h (by simp)
  · rw [if_neg c1] at h
    have hT : isT B n s.1 = true := by
      cases hq : isT B n s.1
      · exact absurd (Or.inl hq) c1
      · rfl
    have hw : s.1 + 4 ≤ tN B n s.1 ∧ tN B n s.1 ≤ n := by
      unfold isT at hT
      rw [Bool.or_eq_true, Bool.or_eq_true, Bool.or_eq_true] at hT
      rcases hT with ((q | q) | q) | q
      · have := wd_len hn ha q
        exact ⟨by have : (strB.getD 4 []).length = 6 := rfl; omega, this.2.1⟩
      · have := wd_len hn ha q
        exact ⟨by have : (strB.getD 5 []).length = 5 := rfl; omega, this.2.1⟩
      · have := wd_len hn ha q
        exact ⟨by have : (strB.getD 6 []).length = 4 := rfl; omega, this.2.1⟩
      · have := wd_len hn ha q
        exact ⟨by have : (strB.getD 7 []).length = 4 := rfl; omega, this.2.1⟩
    have n2 := tN_bd (B := B) hn hw.2
    have p2 := tP_bd (B := B) hn hw.2
    by_cases c2 : wdq B n s.1 4 = true
    · rw [if_pos c2] at h
      cases h
      refine ⟨⟨by show s.1 ≤ tN B n s.1; omega, hw.2, ?_⟩, by show s.1 + 2 ≤ tN B n s.1; omega⟩
      show 2 * (s.2.2 ++ [((4 : Int), (0 : Int), (0 : Int))]).length + s.1 ≤ 2 * s.2.2.length + tN B n s.1 + 0
      rw [List.length_append, List.length_singleton]
      omega
    · rw [if_neg c2] at h
      cases hp : pNum B n (tN B n s.1) 0 5 with
      | some f => rw [hp] at h; exact absurd h (by simp)
      | none =>
        rw [hp] at h
        have n3 := tN_bd (B := B) hn n2.2.1
        have p3 := tP_bd (B := B) hn n2.2.1
        by_cases c3 : wdq B n s.1 6 = true
        · simp only [c3, if_true] at h
          cases hp2 : pNum B n (tN B n (tN B n s.1)) 0 999999 with
          | some f => rw [hp2] at h; exact absurd h (by simp)
          | none =>
            rw [hp2] at h
            cases h
            refine ⟨⟨by show s.1 ≤ tN B n (tN B n (tN B n s.1)); omega, n3.2.1, ?_⟩, by show s.1 + 2 ≤ tN B n (tN B n (tN B n s.1)); omega⟩
            show 2 * (s.2.2 ++ [_]).length + s.1 ≤ 2 * s.2.2.length + tN B n (tN B n (tN B n s.1)) + 0
            rw [List.length_append, List.length_singleton]
            omega
        · simp only [c3] at h
          cases h
          refine ⟨⟨by show s.1 ≤ tN B n (tN B n s.1); omega, n2.2.1, ?_⟩, by show s.1 + 2 ≤ tN B n (tN B n s.1); omega⟩
          show 2 * (s.2.2 ++ [_]).length + s.1 ≤ 2 * s.2.2.length + tN B n (tN B n s.1) + 0
          rw [List.length_append, List.length_singleton]
          omega
theorem psh_l (s : Nat × Int × List (Int × Int × Int)) (c : Int) : (psh s c).1 = s.1 ∧ (psh s c).2.1 = s.2.1 ∧ (psh s c).2.2.length = s.2.2.length + 1 := by
  unfold psh
  refine ⟨rfl, rfl, ?_⟩
  show (s.2.2 ++ [_]).length = _
  rw [List.length_append, List.length_singleton]
theorem pLoop_bd {B : Nat → Int} {n : Nat} (hn : n ≤ 500) {one : (Nat × Int × List (Int × Int × Int)) → (Int × Int) ⊕ (Nat × Int × List (Int × Int × Int))} (h1 : ∀ s s2, s.1 ≤ n → one s = .inr s2 → Bd n 0 s s2) : ∀ (k : Nat) (w : Bool) (s s2 : Nat × Int × List (Int × Int × Int)), s.1 ≤ n → pLoop B n one k w s = .inr s2 → Bd n (if w = true then 2 else 0) s s2
  | 0, w, s, s2, ha, h => by
    unfold pLoop at h
    cases h
    cases w
    · exact ⟨by show s.1 ≤ s.1; omega, ha, by show 2 * s.2.2.length + s.1 ≤ 2 * s.2.2.length + s.1 + 0; omega⟩
    · have := psh_l s 6
      exact ⟨by show s.1 ≤ (psh s 6).1; omega, by show (psh s 6).1 ≤ n; omega, by show 2 * (psh s 6).2.2.length + s.1 ≤ 2 * s.2.2.length + (psh s 6).1 + 2; omega⟩
  | k + 1, w, s, s2, ha, h => by
    unfold pLoop at h
    by_cases c8 : wdq B n s.1 8 = true
    · rw [if_pos c8] at h
      have hl := wd_len hn ha c8
      have e8 : (strB.getD 8 []).length = 2 := rfl
      have hp := psh_l s 6
      cases ho : one (tN B n s.1, (if w = true then psh s 6 else s).2) with
      | inl f => rw [ho] at h; exact absurd h (by simp)
      | inr t1 =>
        rw [ho] at h
        have b1 := h1 _ _ (show (tN B n s.1) ≤ n by omega) ho
        have b2 := pLoop_bd hn h1 k true t1 s2 b1.2.1 h
        obtain ⟨x1, x2, x3⟩ := b1
        obtain ⟨y1, y2, y3⟩ := b2
        have x1 : tN B n s.1 ≤ t1.1 := x1
        cases w
        · have x3 : 2 * t1.2.2.length + tN B n s.1 ≤ 2 * s.2.2.length + t1.1 + 0 := x3
          have y3 : 2 * s2.2.2.length + t1.1 ≤ 2 * t1.2.2.length + s2.1 + 2 := y3
          exact ⟨by omega, y2, by show 2 * s2.2.2.length + s.1 ≤ 2 * s.2.2.length + s2.1 + 0; omega⟩
        · have x3 : 2 * t1.2.2.length + tN B n s.1 ≤ 2 * (psh s 6).2.2.length + t1.1 + 0 := x3
          have y3 : 2 * s2.2.2.length + t1.1 ≤ 2 * t1.2.2.length + s2.1 + 2 := y3
          exact ⟨by omega, y2, by show 2 * s2.2.2.length + s.1 ≤ 2 * s.2.2.length + s2.1 + 2; omega⟩
    · rw [if_neg c8] at h
      by_cases c9 : wdq B n s.1 9 = true
      · rw [if_pos c9] at h
        have hl := wd_len hn ha c9
        have e9 : (strB.getD 9 []).length = 3 := rfl
        cases ho : one (tN B n s.1, s.2) with
        | inl f => rw [ho] at h; exact absurd h (by simp)
        | inr t1 =>
          rw [ho] at h
          have b1 := h1 _ _ (show (tN B n s.1) ≤ n by omega) ho
          have hp := psh_l t1 7
          have b2 := pLoop_bd hn h1 k w (psh t1 7) s2 (by rw [hp.1]; exact b1.2.1) h
          obtain ⟨x1, x2, x3⟩ := b1
          obtain ⟨y1, y2, y3⟩ := b2
          have x1 : tN B n s.1 ≤ t1.1 := x1
          have x3 : 2 * t1.2.2.length + tN B n s.1 ≤ 2 * s.2.2.length + t1.1 + 0 := x3
          exact ⟨by omega, y2, by omega⟩
      · rw [if_neg c9] at h
        cases h
        cases w
        · exact ⟨by show s.1 ≤ s.1; omega, ha, by show 2 * s.2.2.length + s.1 ≤ 2 * s.2.2.length + s.1 + 0; omega⟩
        · have := psh_l s 6
          exact ⟨by show s.1 ≤ (psh s 6).1; omega, by show (psh s 6).1 ≤ n; omega, by show 2 * (psh s 6).2.2.length + s.1 ≤ 2 * s.2.2.length + (psh s 6).1 + 2; omega⟩
theorem pOne_bd {B : Nat → Int} {n : Nat} (hn : n ≤ 500) : ∀ (D : Nat) (s s2 : Nat × Int × List (Int × Int × Int)), s.1 ≤ n → pOne B n D s = .inr s2 → Bd n 0 s s2
  | 0, s, s2, ha, h => by unfold pOne at h; exact absurd h (by simp)
  | D + 1, s, s2, ha, h => by
    unfold pOne at h
    have t0 := tN_bd (B := B) hn ha
    have q0 := tP_bd (B := B) hn ha
    by_cases c3 : wdq B n s.1 3 = true
    · rw [if_pos c3] at h
      have hl := wd_len hn ha c3
      have e3 : (strB.getD 3 []).length = 3 := rfl
      cases ho : pOne B n D (tN B n s.1, s.2) with
      | inl f => rw [ho] at h; exact absurd h (by simp)
      | inr t1 =>
        rw [ho] at h
        obtain ⟨x1, x2, x3⟩ := pOne_bd hn D _ _ (show (tN B n s.1) ≤ n by omega) ho
        have x1 : tN B n s.1 ≤ t1.1 := x1
        have x3 : 2 * t1.2.2.length + tN B n s.1 ≤ 2 * s.2.2.length + t1.1 + 0 := x3
        have hp := psh_l t1 5
        cases h
        exact ⟨by omega, by omega, by omega⟩
    · rw [if_neg c3] at h
      by_cases c4 : tK B n s.1 = 40
      · rw [if_pos c4] at h
        cases ho : pOne B n D (tN B n s.1, s.2) with
        | inl f => rw [ho] at h; exact absurd h (by simp)
        | inr t1 =>
          rw [ho] at h
          obtain ⟨x1, x2, x3⟩ := pOne_bd hn D _ _ (show (tN B n s.1) ≤ n by omega) ho
          have x1 : tN B n s.1 ≤ t1.1 := x1
          have x3 : 2 * t1.2.2.length + tN B n s.1 ≤ 2 * s.2.2.length + t1.1 + 0 := x3
          cases hp : pLoop B n (pOne B n D) 500 false t1 with
          | inl f => simp only [hp] at h; exact absurd h (by simp)
          | inr t2 =>
            simp only [hp] at h
            obtain ⟨y1, y2, y3⟩ := pLoop_bd hn (fun s s2 a b => pOne_bd hn D s s2 a b) 500 false t1 t2 x2 hp
            have y3 : 2 * t2.2.2.length + t1.1 ≤ 2 * t1.2.2.length + t2.1 + 0 := y3
            have t3 := tN_bd (B := B) hn y2
            have q3 := tP_bd (B := B) hn y2
            by_cases c41 : tK B n t2.1 = 41
            · rw [if_pos c41] at h
              cases h
              refine ⟨?_, t3.2.1, ?_⟩
              · show s.1 ≤ tN B n t2.1
                omega
              · show 2 * t2.2.2.length + s.1 ≤ 2 * s.2.2.length + tN B n t2.1 + 0
                omega
            · rw [if_neg c41] at h
              exact absurd h (by simp)
      · rw [if_neg c4] at h
        exact (pTest_bd hn ha h).1
