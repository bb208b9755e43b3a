-- PARTING: choose
theorem sI_c {I J : Nat → Nat → Int} (h : ∀ j, J 53 j = I 53 j) : sI J = sI I := funext (fun i => funext (fun j => h _))
theorem wtI_c {I J : Nat → Nat → Int} (h : ∀ j, J 54 j = I 54 j) : wtI J = wtI I := funext (fun i => funext (fun j => by unfold wtI; rw [h]))
theorem woI_c {I J : Nat → Nat → Int} (h : ∀ j, J 55 j = I 55 j) : woI J = woI I := funext (fun i => funext (fun j => by unfold woI; rw [h]))
def dg (K : Int) (i : Nat) : Int := K / ((16 ^ i : Nat) : Int) % 16
/-- the parting that was chosen: R says which rows have which bits -/
def Cho (wt wo : Nat → Nat → Prop) (s : Nat → Nat → Int) (n : Nat) (R : Nat → Int) (old : Nat → Int) (J : Nat → Nat → Int) : Prop :=
  (n = 0 ∧ J 49 0 = 1 ∧ J 49 1 = 0 ∧ J 49 2 = 0 ∧ ∀ r, J 50 r = old r) ∨ (0 < n ∧ ∃ K, Bst wt wo n s (2 ^ n - 1) K ∧ ((K = NV ∧ J 49 0 = 0 ∧ ∀ r, J 50 r = old r) ∨ (K ≠ NV ∧ J 49 0 = 1 ∧ J 49 2 = K / 1099511627776 ∧ (∀ i, i < n → J 50 (R i).toNat = dg K i) ∧ (∀ r, (∀ i, i < n → (R i).toNat ≠ r) → J 50 r = old r) ∧ (∀ i, i < n → dg K i + 1 ≤ J 49 1) ∧ ∃ i, i < n ∧ J 49 1 = dg K i + 1)))
def FrC (I J : Nat → Nat → Int) : Prop := ∀ a j, ¬ ((a = 49 ∧ j ≤ 2) ∨ a = 50 ∨ (56 ≤ a ∧ a ≤ 58)) → J a j = I a j
def Chs (I J : Nat → Nat → Int) : Prop := FrC I J ∧ Cho (wtI I) (woI I) (sI I) (I 49 3).toNat (I 51) (I 50) J
def COK (I : Nat → Nat → Int) : Prop := (0 ≤ I 49 3 ∧ I 49 3 ≤ 10) ∧ sR I (I 49 3).toNat ∧ (∀ i : Nat, (i : Int) < I 49 3 → (0 ≤ I 54 i ∧ I 54 i < 1024) ∧ 0 ≤ I 55 i ∧ I 55 i < 1024) ∧ (∀ i : Nat, (i : Int) < I 49 3 → 0 ≤ I 51 i ∧ I 51 i < 10) ∧ ∀ i j : Nat, (i : Int) < I 49 3 → (j : Int) < I 49 3 → I 51 i = I 51 j → i = j
/-- the world before: found, persons and total are set -/
def I1c (I : Nat → Nat → Int) : Nat → Nat → Int := upI (upI (upI I 49 0 1) 49 1 0) 49 2 0
theorem I1c_f (I : Nat → Nat → Int) (a j : Nat) (h : ¬ (a = 49 ∧ j ≤ 2)) : I1c I a j = I a j := by
  unfold I1c
  rw [upI_ne (by omega), upI_ne (by omega), upI_ne (by omega)]
theorem sR_c {I J : Nat → Nat → Int} {n : Nat} (h : sR I n) (e : ∀ j, J 53 j = I 53 j) : sR J n := by
  unfold sR
  rw [sI_c e]
  exact h
theorem pow_pred {n : Nat} (h : 0 < n) : 2 ^ (n - 1) + (2 ^ (n - 1) - 1) = 2 ^ n - 1 := by
  have h2 : 2 ^ (n - 1 + 1) = 2 ^ (n - 1) * 2 := Nat.pow_succ ..
  rw [show n - 1 + 1 = n by omega] at h2
  have : 0 < 2 ^ (n - 1) := Nat.pow_pos (by decide)
  omega
theorem Chs_0 {I : Nat → Nat → Int} (h : I 49 3 = 0) : Chs I (I1c I) := by
  refine ⟨fun a j ha => I1c_f I a j (by omega), Or.inl ⟨by omega, ?_, ?_, ?_, fun r => I1c_f I _ _ (by omega)⟩⟩
  · unfold I1c
    rw [upI_ne (by omega), upI_ne (by omega), upI_eq rfl rfl]
  · unfold I1c
    rw [upI_ne (by omega), upI_eq rfl rfl]
  · unfold I1c
    rw [upI_eq rfl rfl]
theorem Chs_no {I J2 : Nat → Nat → Int} {G : Int} (hn : 0 < I 49 3) (f2 : ∀ a j, ¬ (56 ≤ a ∧ a ≤ 58) → J2 a j = I1c I a j) (hG : Bst (wtI I) (woI I) (I 49 3).toNat (sI I) (2 ^ (I 49 3).toNat - 1) G) (h0 : G = NV) : Chs I (upI J2 49 0 0) := by
  refine ⟨fun a j ha => by rw [upI_ne (by omega), f2 a j (by omega)]; exact I1c_f I a j (by omega), Or.inr ⟨by omega, G, hG, Or.inl ⟨h0, upI_eq rfl rfl, fun r => ?_⟩⟩⟩
  rw [upI_ne (by omega), f2 50 r (by omega)]
  exact I1c_f I _ _ (by omega)
theorem Chs_yes {I J2 J3 : Nat → Nat → Int} {G : Int} (hC : COK I) (hn : 0 < I 49 3) (f2 : ∀ a j, ¬ (56 ≤ a ∧ a ≤ 58) → J2 a j = I1c I a j) (hG : Bst (wtI I) (woI I) (I 49 3).toNat (sI I) (2 ^ (I 49 3).toNat - 1) G) (h0 : G ≠ NV) (hR : RdK (upI J2 49 0 1) J3 G ((upI J2 49 0 1) 49 3).toNat) : Chs I J3 := by
  have e3 : (upI J2 49 0 1) 49 3 = I 49 3 := by rw [upI_ne (by omega), f2 49 3 (by omega)]; exact I1c_f I _ _ (by omega)
  have e51 : ∀ j, (upI J2 49 0 1) 51 j = I 51 j := fun j => by rw [upI_ne (by omega), f2 51 j (by omega)]; exact I1c_f I _ _ (by omega)
  have e1 : (upI J2 49 0 1) 49 1 = 0 := by
    rw [upI_ne (by omega), f2 49 1 (by omega)]
    unfold I1c
    rw [upI_ne (by omega), upI_eq rfl rfl]
  rw [e3] at hR
  obtain ⟨f, g, p, q, u1, u2, u3⟩ := hR
  rw [e1] at u3
  have hlt : 2 ^ (I 49 3).toNat - 1 < 2 ^ (I 49 3).toNat := by have : 0 < 2 ^ (I 49 3).toNat := Nat.pow_pos (by decide); omega
  have hr := Bst_rg (by have := hC.1; omega) hC.2.1 hlt hG h0
  refine ⟨fun a j ha => ?_, Or.inr ⟨by omega, G, hG, Or.inr ⟨h0, ?_, ?_, fun i hi => ?_, fun r hr => ?_, u2, ?_⟩⟩⟩
  · rw [f a j (by omega), upI_ne (by omega), f2 a j (by omega)]
    exact I1c_f I a j (by omega)
  · rw [f 49 0 (by omega), upI_eq rfl rfl]
  · rw [g]
    exact w32_id (by unfold i32; omega)
  · have := p i hi
    rw [e51] at this
    exact this
  · rw [q r (fun i hi => by rw [e51]; exact hr i hi), upI_ne (by omega), f2 50 r (by omega)]
    exact I1c_f I _ _ (by omega)
  · rcases u3 with z | z
    · have h4 := u2 0 (by omega)
      omega
    · exact z
