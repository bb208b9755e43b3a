-- STEPS of a line: 3 not, 4 and, 5 or, any other a test
def stp (c : Int) (t : Bool) (s : List Bool) : List Bool := if c = 3 then (match s with
    | x :: r => (!x) :: r
    | [] => []) else if c = 4 then (match s with
    | x :: y :: r => (y && x) :: r
    | r => r) else if c = 5 then (match s with
    | x :: y :: r => (y || x) :: r
    | r => r) else t :: s
def evs (kd : Nat → Int) (T : Nat → Bool) (a : Nat) : Nat → List Bool
  | 0 => []
  | n + 1 => stp (kd (a + n)) (T (a + n)) (evs kd T a n)
def dep (kd : Nat → Int) (a : Nat) : Nat → Int
  | 0 => 0
  | n + 1 => if kd (a + n) = 3 then dep kd a n else if kd (a + n) = 4 ∨ kd (a + n) = 5 then dep kd a n - 1 else dep kd a n + 1
/-- a line's steps can be done: never too few on the stack, never more than 40 -/
def WFs (kd : Nat → Int) (a n : Nat) : Prop := (∀ m, m < n → (kd (a + m) = 3 → 1 ≤ dep kd a m) ∧ (kd (a + m) = 4 ∨ kd (a + m) = 5 → 2 ≤ dep kd a m) ∧ dep kd a m ≤ 40) ∧ dep kd a n = 1
theorem evs_len {kd : Nat → Int} {T : Nat → Bool} {a n : Nat} (h : WFs kd a n) : ∀ m, m ≤ n → ((evs kd T a m).length : Int) = dep kd a m
  | 0, _ => rfl
  | m + 1, hm => by
    have ih := evs_len (T := T) h m (by omega)
    have hw := h.1 m (by omega)
    show ((stp (kd (a + m)) (T (a + m)) (evs kd T a m)).length : Int) = if kd (a + m) = 3 then dep kd a m else if kd (a + m) = 4 ∨ kd (a + m) = 5 then dep kd a m - 1 else dep kd a m + 1
    unfold stp
    generalize evs kd T a m = s at ih
    by_cases h3 : kd (a + m) = 3
    · rw [if_pos h3, if_pos h3]
      match s, ih with
      | [], ih => exact ih
      | x :: r, ih => exact ih
    · rw [if_neg h3, if_neg h3]
      by_cases h4 : kd (a + m) = 4
      · rw [if_pos h4, if_pos (Or.inl h4)]
        have := hw.2.1 (Or.inl h4)
        match s, ih with
        | [], ih => simp at ih; omega
        | [x], ih => simp at ih; omega
        | x :: y :: r, ih => simp at ih ⊢; omega
      · rw [if_neg h4]
        by_cases h5 : kd (a + m) = 5
        · rw [if_pos h5, if_pos (Or.inr h5)]
          have := hw.2.1 (Or.inr h5)
          match s, ih with
          | [], ih => simp at ih; omega
          | [x], ih => simp at ih; omega
          | x :: y :: r, ih => simp at ih ⊢; omega
        · rw [if_neg h5, if_neg (by omega)]
          simp
          omega
theorem evs_s (kd : Nat → Int) (T : Nat → Bool) (a n : Nat) : evs kd T a (n + 1) = stp (kd (a + n)) (T (a + n)) (evs kd T a n) := rfl
theorem stp_3 {c : Int} {t x : Bool} {r : List Bool} (h : c = 3) : stp c t (x :: r) = (!x) :: r := by unfold stp; rw [if_pos h]
theorem stp_4 {c : Int} {t x y : Bool} {r : List Bool} (h : c = 4) : stp c t (x :: y :: r) = (y && x) :: r := by unfold stp; rw [if_neg (by omega), if_pos h]
theorem stp_5 {c : Int} {t x y : Bool} {r : List Bool} (h : c = 5) : stp c t (x :: y :: r) = (y || x) :: r := by unfold stp; rw [if_neg (by omega), if_neg (by omega), if_pos h]
theorem stp_t {c : Int} {t : Bool} {s : List Bool} (h : c ≠ 3 ∧ c ≠ 4 ∧ c ≠ 5) : stp c t s = t :: s := by unfold stp; rw [if_neg h.1, if_neg h.2.1, if_neg h.2.2]
theorem len1 {s : List Bool} (h : 1 ≤ (s.length : Int)) : ∃ x r, s = x :: r := by
  match s, h with
  | [], h => simp at h
  | x :: r, _ => exact ⟨x, r, rfl⟩
theorem len2 {s : List Bool} (h : 2 ≤ (s.length : Int)) : ∃ x y r, s = x :: y :: r := by
  match s, h with
  | [], h => simp at h
  | [x], h => simp at h
  | x :: y :: r, _ => exact ⟨x, y, r, rfl⟩
def tstB (kd re x y s t : Int) : Bool := if kd = 2 then decide (s = t) else if kd = 1 then decide (x = -1 ∨ y = -1) else decide (x ≠ -1 ∧ y ≠ -1 ∧ x - y ≤ re ∧ y - x ≤ re)
theorem tstB_iff (kd re x y s t : Int) : tstB kd re x y s t = true ↔ Tst kd re x y s t := by
  unfold tstB Tst
  split
  · exact decide_eq_true_iff
  · split <;> exact decide_eq_true_iff
theorem tstB_t {kd re x y s t : Int} (h : Tst kd re x y s t) : tstB kd re x y s t = true := (tstB_iff ..).mpr h
theorem tstB_f {kd re x y s t : Int} (h : ¬ Tst kd re x y s t) : tstB kd re x y s t = false := by
  cases e : tstB kd re x y s t
  · rfl
  · exact absurd ((tstB_iff ..).mp e) h
