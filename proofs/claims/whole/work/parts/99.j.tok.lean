-- TOKENS of n bytes B
def runP (P : Nat → Bool) : Nat → Nat → Nat
  | 0, a => a
  | k + 1, a => if P a = true then runP P k (a + 1) else a
def Run (P : Nat → Bool) (a e : Nat) : Prop := a ≤ e ∧ (∀ x, a ≤ x → x < e → P x = true) ∧ P e = false
theorem run_eq {P : Nat → Bool} : ∀ {k a e : Nat}, Run P a e → e ≤ a + k → runP P k a = e
  | 0, a, e, h, hk => by
    have := h.1
    show a = e
    omega
  | k + 1, a, e, h, hk => by
    show (if P a = true then runP P k (a + 1) else a) = e
    by_cases ha : a = e
    · rw [if_neg (by rw [ha, h.2.2]; decide)]
      exact ha
    · have h1 := h.1
      rw [if_pos (h.2.1 a (by omega) (by omega))]
      exact run_eq ⟨by omega, fun x hx hx2 => h.2.1 x (by omega) hx2, h.2.2⟩ (by omega)
theorem run_ok {P : Nat → Bool} {n : Nat} (hP : ∀ x, n ≤ x → P x = false) : ∀ {k a : Nat}, n ≤ a + k → Run P a (runP P k a)
  | 0, a, h => ⟨by show a ≤ a; omega, fun x hx hx2 => by
      have hx2 : x < a := hx2
      omega, hP a (by omega)⟩
  | k + 1, a, h => by
    have ih := run_ok hP (k := k) (a := a + 1)
    show Run P a (if P a = true then runP P k (a + 1) else a)
    cases hp : P a
    · exact ⟨by show a ≤ a; omega, fun x hx hx2 => by
        have hx2 : x < a := hx2
        omega, hp⟩
    · obtain ⟨i1, i2, i3⟩ := ih (by omega)
      refine ⟨?_, fun x hx hx2 => ?_, i3⟩
      · show a ≤ runP P k (a + 1)
        omega
      · by_cases e : x = a
        · rw [e]; exact hp
        · exact i2 x (by omega) hx2
def Pb (B : Nat → Int) (n : Nat) : Nat → Bool := fun x => decide (x < n ∧ (B x = 32 ∨ B x = 10))
def Pl (B : Nat → Int) (n : Nat) : Nat → Bool := fun x => decide (x < n ∧ 97 ≤ B x ∧ B x ≤ 122)
def Pd (B : Nat → Int) (n : Nat) : Nat → Bool := fun x => decide (x < n ∧ 48 ≤ B x ∧ B x ≤ 57)
def tP (B : Nat → Int) (n a : Nat) : Nat := runP (Pb B n) 501 a
def tE (B : Nat → Int) (n p : Nat) : Nat := if n ≤ p then p else if Pl B n p = true then runP (Pl B n) 501 p else if Pd B n p = true then runP (Pd B n) 501 p else p + 1
def tKp (B : Nat → Int) (n p : Nat) : Int := if n ≤ p then 0 else if Pl B n p = true then (if 8 < tE B n p - p then 1 else 2) else if Pd B n p = true then (if Pl B n (tE B n p) = true ∨ 6 < tE B n p - p then 1 else 3) else if B p = 59 ∨ B p = 40 ∨ B p = 41 then B p else 1
def tK (B : Nat → Int) (n a : Nat) : Int := tKp B n (tP B n a)
def tN (B : Nat → Int) (n a : Nat) : Nat := tE B n (tP B n a)
def nvl (B : Nat → Int) (p : Nat) : Nat → Int
  | 0 => 0
  | k + 1 => nvl B p k * 10 + (B (p + k) - 48)
def tV (B : Nat → Int) (n a : Nat) : Int := nvl B (tP B n a) (tN B n a - tP B n a)
theorem Pb_n (B : Nat → Int) (n : Nat) : ∀ x, n ≤ x → Pb B n x = false := fun x hx => decide_eq_false (fun z => by omega)
theorem Pl_n (B : Nat → Int) (n : Nat) : ∀ x, n ≤ x → Pl B n x = false := fun x hx => decide_eq_false (fun z => by omega)
theorem Pd_n (B : Nat → Int) (n : Nat) : ∀ x, n ≤ x → Pd B n x = false := fun x hx => decide_eq_false (fun z => by omega)
theorem run_bd {P : Nat → Bool} {n : Nat} (hP : ∀ x, n ≤ x → P x = false) {a e : Nat} (h : Run P a e) (ha : a ≤ n) : e ≤ n := by
  rcases Nat.lt_or_ge n e with z | z
  · have h1 := h.1
    have := h.2.1 (e - 1) (by omega) (by omega)
    rw [hP (e - 1) (by omega)] at this
    exact absurd this (by decide)
  · exact z
theorem run_mk {P : Nat → Bool} {a e : Nat} (h : a ≤ e) (h1 : ∀ x, a ≤ x → x < e → P x = true) (h2 : P e = false) : Run P a e := ⟨h, h1, h2⟩
theorem nvl_rg {B : Nat → Int} {p : Nat} : ∀ k : Nat, k ≤ 6 → (∀ i, i < k → 48 ≤ B (p + i) ∧ B (p + i) ≤ 57) → 0 ≤ nvl B p k ∧ nvl B p k ≤ 999999 ∧ (k ≤ 5 → nvl B p k ≤ 99999) := fun k hk h => by
  have d : ∀ i, i < k → 0 ≤ B (p + i) - 48 ∧ B (p + i) - 48 ≤ 9 := fun i hi => by have := h i hi; omega
  have e0 : nvl B p 0 = 0 := rfl
  have es0 : nvl B p 1 = nvl B p 0 * 10 + (B (p + 0) - 48) := rfl
  have es1 : nvl B p 2 = nvl B p 1 * 10 + (B (p + 1) - 48) := rfl
  have es2 : nvl B p 3 = nvl B p 2 * 10 + (B (p + 2) - 48) := rfl
  have es3 : nvl B p 4 = nvl B p 3 * 10 + (B (p + 3) - 48) := rfl
  have es4 : nvl B p 5 = nvl B p 4 * 10 + (B (p + 4) - 48) := rfl
  have es5 : nvl B p 6 = nvl B p 5 * 10 + (B (p + 5) - 48) := rfl
  rcases (show k = 0 ∨ k = 1 ∨ k = 2 ∨ k = 3 ∨ k = 4 ∨ k = 5 ∨ k = 6 by omega) with e | e | e | e | e | e | e <;> subst e
  · omega
  · have := d 0 (by omega); omega
  · have := d 0 (by omega); have := d 1 (by omega); omega
  · have := d 0 (by omega); have := d 1 (by omega); have := d 2 (by omega); omega
  · have := d 0 (by omega); have := d 1 (by omega); have := d 2 (by omega); have := d 3 (by omega); omega
  · have := d 0 (by omega); have := d 1 (by omega); have := d 2 (by omega); have := d 3 (by omega); have := d 4 (by omega); omega
  · have := d 0 (by omega); have := d 1 (by omega); have := d 2 (by omega); have := d 3 (by omega); have := d 4 (by omega); have := d 5 (by omega); omega
/-- what the class's tape keeps -/
def TpK (I : Nat → Nat → Int) : Prop := (0 ≤ I 28 4 ∧ I 28 4 ≤ I 28 0 ∧ I 28 0 ≤ 500) ∧ ∀ j : Nat, (j : Int) < I 28 0 → (0 ≤ I 29 j ∧ I 29 j ≤ 255) ∧ I 30 j = srt (I 29 j)
theorem srt_c (c : Int) : (srt c = 1 ↔ c = 32 ∨ c = 10) ∧ (srt c = 2 ↔ 97 ≤ c ∧ c ≤ 122) ∧ (srt c = 3 ↔ 48 ≤ c ∧ c ≤ 57) ∧ (srt c = 4 ↔ c = 59 ∨ c = 40 ∨ c = 41) := by
  unfold srt
  repeat' split
  all_goals omega
def FrT (I J : Nat → Nat → Int) : Prop := ∀ a j, ¬ (a = 28 ∧ 1 ≤ j ∧ j ≤ 4) → J a j = I a j
/-- the token from a on is looked at -/
def Tkn (J : Nat → Nat → Int) (B : Nat → Int) (n a : Nat) : Prop := J 28 2 = (tP B n a : Int) ∧ J 28 1 = tK B n a ∧ J 28 4 = (tN B n a : Int) ∧ (tK B n a = 3 → J 28 3 = tV B n a)
theorem tP_bd {B : Nat → Int} {n a : Nat} (hn : n ≤ 500) (ha : a ≤ n) : a ≤ tP B n a ∧ tP B n a ≤ n := by
  have h := run_ok (Pb_n B n) (k := 501) (a := a) (by omega)
  exact ⟨h.1, run_bd (Pb_n B n) h ha⟩
theorem tN_bd {B : Nat → Int} {n a : Nat} (hn : n ≤ 500) (ha : a ≤ n) : tP B n a ≤ tN B n a ∧ tN B n a ≤ n ∧ (tP B n a < n → tP B n a < tN B n a) := by
  have h1 := tP_bd (B := B) hn ha
  unfold tN tE
  split
  · omega
  · split
    · next hl =>
      have h := run_ok (Pl_n B n) (k := 501) (a := tP B n a) (by omega)
      have h2 := run_bd (Pl_n B n) h h1.2
      refine ⟨h.1, h2, fun _ => ?_⟩
      rcases Nat.lt_or_ge (tP B n a) (runP (Pl B n) 501 (tP B n a)) with z | z
      · exact z
      · have : runP (Pl B n) 501 (tP B n a) = tP B n a := by have := h.1; omega
        rw [← this, h.2.2] at hl
        exact absurd hl (by decide)
    · split
      · next hl =>
        have h := run_ok (Pd_n B n) (k := 501) (a := tP B n a) (by omega)
        have h2 := run_bd (Pd_n B n) h h1.2
        refine ⟨h.1, h2, fun _ => ?_⟩
        rcases Nat.lt_or_ge (tP B n a) (runP (Pd B n) 501 (tP B n a)) with z | z
        · exact z
        · have : runP (Pd B n) 501 (tP B n a) = tP B n a := by have := h.1; omega
          rw [← this, h.2.2] at hl
          exact absurd hl (by decide)
      · omega
