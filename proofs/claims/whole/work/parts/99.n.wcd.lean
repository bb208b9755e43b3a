-- WORDS AS LONGS
def wcd (B : Nat → Int) (p : Nat) : Nat → Int
  | 0 => 0
  | k + 1 => wcd B p k * 256 + B (p + k)
theorem wcd_s (B : Nat → Int) (p k : Nat) : wcd B p (k + 1) = wcd B p k * 256 + B (p + k) := rfl
theorem wcd_pos {B : Nat → Int} {p : Nat} : ∀ k : Nat, (∀ i, i < k → 1 ≤ B (p + i) ∧ B (p + i) ≤ 255) → 0 ≤ wcd B p k ∧ (0 < k → 1 ≤ wcd B p k)
  | 0, _ => by show (0 : Int) ≤ 0 ∧ (0 < 0 → (1 : Int) ≤ 0); omega
  | k + 1, h => by
    have h1 := wcd_pos k (fun i hi => h i (by omega))
    have h2 := h k (by omega)
    rw [wcd_s]
    omega
theorem wcd_inj {B C : Nat → Int} {p q : Nat} : ∀ k m : Nat, (∀ i, i < k → 1 ≤ B (p + i) ∧ B (p + i) ≤ 255) → (∀ i, i < m → 1 ≤ C (q + i) ∧ C (q + i) ≤ 255) → wcd B p k = wcd C q m → k = m ∧ ∀ i, i < k → B (p + i) = C (q + i)
  | 0, 0, _, _, _ => ⟨rfl, fun i hi => absurd hi (by omega)⟩
  | 0, m + 1, _, h2, e => by
    have := (wcd_pos (m + 1) h2).2 (by omega)
    rw [← e] at this
    exact absurd this (by show ¬ (1 : Int) ≤ 0; omega)
  | k + 1, 0, h1, _, e => by
    have := (wcd_pos (k + 1) h1).2 (by omega)
    rw [e] at this
    exact absurd this (by show ¬ (1 : Int) ≤ 0; omega)
  | k + 1, m + 1, h1, h2, e => by
    rw [wcd_s, wcd_s] at e
    have a1 := h1 k (by omega)
    have a2 := h2 m (by omega)
    obtain ⟨i1, i2⟩ := wcd_inj k m (fun i hi => h1 i (by omega)) (fun i hi => h2 i (by omega)) (by omega)
    refine ⟨by omega, fun i hi => ?_⟩
    by_cases ei : i = k
    · rw [ei]
      rw [← i1] at e a2
      omega
    · exact i2 i (by omega)
theorem wcd_c {B C : Nat → Int} {p q : Nat} : ∀ k : Nat, (∀ i, i < k → B (p + i) = C (q + i)) → wcd B p k = wcd C q k
  | 0, _ => rfl
  | k + 1, h => by rw [wcd_s, wcd_s, wcd_c k (fun i hi => h i (by omega)), h k (by omega)]
theorem wcd_rg {B : Nat → Int} {p : Nat} (k : Nat) (hk : k ≤ 8) (h : ∀ i, i < k → 97 ≤ B (p + i) ∧ B (p + i) ≤ 122) : 0 ≤ wcd B p k ∧ wcd B p k ≤ 8935141660703064063 ∧ (k ≤ 7 → wcd B p k ≤ 34902897112121343) := by
  have e0 : wcd B p 0 = 0 := rfl
  have es0 : wcd B p 1 = wcd B p 0 * 256 + B (p + 0) := rfl
  have es1 : wcd B p 2 = wcd B p 1 * 256 + B (p + 1) := rfl
  have es2 : wcd B p 3 = wcd B p 2 * 256 + B (p + 2) := rfl
  have es3 : wcd B p 4 = wcd B p 3 * 256 + B (p + 3) := rfl
  have es4 : wcd B p 5 = wcd B p 4 * 256 + B (p + 4) := rfl
  have es5 : wcd B p 6 = wcd B p 5 * 256 + B (p + 5) := rfl
  have es6 : wcd B p 7 = wcd B p 6 * 256 + B (p + 6) := rfl
  have es7 : wcd B p 8 = wcd B p 7 * 256 + B (p + 7) := rfl
  have d : ∀ i, i < k → 97 ≤ B (p + i) ∧ B (p + i) ≤ 122 := h
  rcases (show k = 0 ∨ k = 1 ∨ k = 2 ∨ k = 3 ∨ k = 4 ∨ k = 5 ∨ k = 6 ∨ k = 7 ∨ k = 8 by omega) with e | e | e | e | e | e | e | e | e <;> subst e
  · omega
  · have := d 0 (by omega); omega
  · have := d 0 (by omega); have := d 1 (by omega); omega
  · have := d 0 (by omega); have := d 1 (by omega); have := d 2 (by omega); omega
  · have := d 0 (by omega); have := d 1 (by omega); have := d 2 (by omega); have := d 3 (by omega); omega
  · have := d 0 (by omega); have := d 1 (by omega); have := d 2 (by omega); have := d 3 (by omega); have := d 4 (by omega); omega
  · have := d 0 (by omega); have := d 1 (by omega); have := d 2 (by omega); have := d 3 (by omega); have := d 4 (by omega); have := d 5 (by omega); omega
  · have := d 0 (by omega); have := d 1 (by omega); have := d 2 (by omega); have := d 3 (by omega); have := d 4 (by omega); have := d 5 (by omega); have := d 6 (by omega); omega
  · have := d 0 (by omega); have := d 1 (by omega); have := d 2 (by omega); have := d 3 (by omega); have := d 4 (by omega); have := d 5 (by omega); have := d 6 (by omega); have := d 7 (by omega); omega
theorem or_256 {x c : Int} (hx : 0 ≤ x ∧ x ≤ 34902897112121343) (hc : 0 ≤ c ∧ c ≤ 255) : lOr (lShl x 8) c = x * 256 + c := by
  have e1 : lShl x 8 = x * 256 := by
    rw [lShl_n (by unfold i64; omega) (by omega) (by omega) (by show i64 (x * 256); unfold i64; omega)]
    rfl
  rw [e1, lOr_n ⟨by omega, by omega⟩ ⟨by omega, by omega⟩]
  have h := Nat.shiftLeft_add_eq_or_of_lt (b := c.toNat) (i := 8) (by show c.toNat < 256; omega) x.toNat
  rw [Nat.shiftLeft_eq] at h
  have e2 : (x * 256).toNat = x.toNat * 2 ^ 8 := by omega
  rw [e2, ← h]
  omega
/-- the reference's sort of a token -/
def srM2 (k : Int) : Int := if k = 1 then 3 else if k = 2 then 1 else if k = 3 then 2 else k
def FrN (I J : Nat → Nat → Int) : Prop := ∀ a j, ¬ (a = 74 ∧ (j = 33 ∨ j = 35 ∨ j = 36 ∨ j = 37)) → J a j = I a j
def FlN (L M : Nat → Nat → Int) : Prop := ∀ a j, ¬ (a = 74 ∧ j = 38) → M a j = L a j
def Ntk (J M : Nat → Nat → Int) (B : Nat → Int) (n a : Nat) : Prop := J 74 36 = (tP B n a : Int) ∧ J 74 35 = srM2 (tK B n a) ∧ (tK B n a ≠ 1 → J 74 33 = (tN B n a : Int)) ∧ (tK B n a = 3 → J 74 37 = tV B n a) ∧ (tK B n a = 2 → M 74 38 = wcd B (tP B n a) (tN B n a - tP B n a))
def NpK (I : Nat → Nat → Int) : Prop := (0 ≤ I 74 33 ∧ I 74 33 ≤ I 74 34 ∧ I 74 34 ≤ 500) ∧ ∀ j : Nat, (j : Int) < I 74 34 → 0 ≤ I 97 j ∧ I 97 j ≤ 255
