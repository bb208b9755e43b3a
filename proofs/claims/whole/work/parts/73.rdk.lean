-- a key read into persons, m bits of it
def RdK (I J : Nat → Nat → Int) (K : Int) (m : Nat) : Prop := (∀ a j, ¬ ((a = 49 ∧ (j = 1 ∨ j = 2)) ∨ a = 50) → J a j = I a j) ∧ J 49 2 = w32 (K / 1099511627776) ∧ (∀ i, i < m → J 50 (I 51 i).toNat = K / ((16 ^ i : Nat) : Int) % 16) ∧ (∀ r, (∀ i, i < m → (I 51 i).toNat ≠ r) → J 50 r = I 50 r) ∧ (I 49 1 ≤ J 49 1 ∧ (∀ i, i < m → K / ((16 ^ i : Nat) : Int) % 16 + 1 ≤ J 49 1) ∧ (J 49 1 = I 49 1 ∨ ∃ i, i < m ∧ J 49 1 = K / ((16 ^ i : Nat) : Int) % 16 + 1))
theorem RdK_0 {I : Nat → Nat → Int} {K x : Int} (hx : x = w32 (K / 1099511627776)) : RdK I (upI I 49 2 x) K 0 := by
  refine ⟨fun a j ha => upI_ne (by omega), by rw [upI_eq rfl rfl]; exact hx, fun i hi => absurd hi (by omega), fun r _ => upI_ne (by omega), ?_, fun i hi => absurd hi (by omega), Or.inl ?_⟩
  · rw [upI_ne (by omega)]
    omega
  · rw [upI_ne (by omega)]
theorem RdK_s {I J : Nat → Nat → Int} {K i z : Int} (h : RdK I J K i.toNat) (hi : 0 ≤ i ∧ i < I 49 3) (hro : ∀ i : Nat, (i : Int) < I 49 3 → 0 ≤ I 51 i ∧ I 51 i < 10) (hinj : ∀ i j : Nat, (i : Int) < I 49 3 → (j : Int) < I 49 3 → I 51 i = I 51 j → i = j) (hd : i < I 49 3 → z = K / ((16 ^ i.toNat : Nat) : Int) % 16) (q51 : J 51 i.toNat = I 51 i.toNat) : RdK I (upI (upI J 50 (J 51 i.toNat).toNat z) 49 1 (iMax (J 49 1) (z + 1))) K (i.toNat + 1) := by
  obtain ⟨f, g, p, q, u1, u2, u3⟩ := h
  have hd := hd hi.2
  have hr := hro i.toNat (by omega)
  have hmx : J 49 1 ≤ iMax (J 49 1) (z + 1) ∧ z + 1 ≤ iMax (J 49 1) (z + 1) ∧ (iMax (J 49 1) (z + 1) = J 49 1 ∨ iMax (J 49 1) (z + 1) = z + 1) := by
    unfold iMax
    split <;> omega
  rw [q51]
  refine ⟨fun a j ha => ?_, ?_, fun m hm => ?_, fun r hr => ?_, ?_, fun m hm => ?_, ?_⟩
  · rw [upI_ne (by omega), upI_ne (by omega)]
    exact f a j ha
  · rw [upI_ne (by omega), upI_ne (by omega)]
    exact g
  · by_cases e : m = i.toNat
    · rw [e, upI_ne (by omega), upI_eq rfl rfl]
      exact hd
    · have h1 := hro m (by omega)
      have h2 : I 51 m ≠ I 51 i.toNat := fun w => e (hinj m i.toNat (by omega) (by omega) w)
      rw [upI_ne (by omega), upI_ne (by omega)]
      exact p m (by omega)
  · have h1 := hr i.toNat (by omega)
    rw [upI_ne (by omega), upI_ne (by omega)]
    exact q r (fun m hm => hr m (by omega))
  · rw [upI_eq rfl rfl]
    omega
  · rw [upI_eq rfl rfl]
    by_cases e : m = i.toNat
    · rw [e, ← hd]
      exact hmx.2.1
    · have := u2 m (by omega)
      omega
  · rw [upI_eq rfl rfl]
    rcases hmx.2.2 with e | e
    · rw [e]
      rcases u3 with w | ⟨m, m1, m2⟩
      · exact Or.inl w
      · exact Or.inr ⟨m, by omega, m2⟩
    · exact Or.inr ⟨i.toNat, by omega, by rw [e, hd]⟩
