-- THE REFERENCE'S SEARCH
theorem Xp_c {now now' p : Nat → Int} {i : Nat} {c : Int} (h : ∀ m, m < i → now m = now' m) : Xp now i c p ↔ Xp now' i c p := by
  constructor
  · rintro (⟨j, j1, j2, j3⟩ | ⟨h1, h2⟩)
    · exact Or.inl ⟨j, j1, fun m hm => by rw [← h m (by omega)]; exact j2 m hm, by rw [← h j j1]; exact j3⟩
    · exact Or.inr ⟨fun m hm => by rw [← h m hm]; exact h1 m hm, h2⟩
  · rintro (⟨j, j1, j2, j3⟩ | ⟨h1, h2⟩)
    · exact Or.inl ⟨j, j1, fun m hm => by rw [h m (by omega)]; exact j2 m hm, by rw [h j j1]; exact j3⟩
    · exact Or.inr ⟨fun m hm => by rw [h m hm]; exact h1 m hm, h2⟩
def DFx (mu mn : Nat → Nat → Prop) (sr : Nat → Nat → Int) (n : Nat) (J : Nat → Nat → Int) (i : Nat) : Prop :=
  RGr i (J 112) ∧ VLr mu mn i (J 112) ∧ (∀ a, a ≤ i → J 114 a = us (J 112) a ∧ J 115 a = Wr sr a (J 112)) ∧ (∀ a, a < i → J 113 a = J 112 a - 1) ∧ (-1 ≤ J 113 i ∧ J 113 i ≤ us (J 112) i) ∧ BsR mu mn sr n (Xp (J 112) i (J 113 i)) (J 74 58) (J 74 56) (J 74 57) (J 111) (J 110)
def DFe (mu mn : Nat → Nat → Prop) (sr : Nat → Nat → Int) (n : Nat) (J : Nat → Nat → Int) : Prop := BsR mu mn sr n (fun _ => True) (J 74 58) (J 74 56) (J 74 57) (J 111) (J 110)
theorem DF_up {mu mn : Nat → Nat → Prop} {sr : Nat → Nat → Int} {n : Nat} {J : Nat → Nat → Int} {i : Nat} (h : DFx mu mn sr n J (i + 1)) (hi : i + 1 < n) (hc : J 113 (i + 1) < 0) : DFx mu mn sr n J i := by
  obtain ⟨h1, h2, h3, h4, h5, h6⟩ := h
  have e := h4 i (by omega)
  have h7 := h1 i (by omega)
  refine ⟨fun a ha => h1 a (by omega), fun a j hj ha => h2 a j hj (by omega), fun a ha => h3 a (by omega), fun a ha => h4 a (by omega), by omega, ?_⟩
  rw [show J 113 (i + 1) = -1 by omega] at h6
  rw [e]
  exact BsR_X h6 (fun p hp => X_up hi hp)
theorem DF_end {mu mn : Nat → Nat → Prop} {sr : Nat → Nat → Int} {n : Nat} {J : Nat → Nat → Int} (h : DFx mu mn sr n J 0) (hn : 0 < n) (hc : J 113 0 < 0) : DFe mu mn sr n J := by
  obtain ⟨h1, h2, h3, h4, h5, h6⟩ := h
  rw [show J 113 0 = -1 by omega] at h6
  exact BsR_X h6 (fun p hp => ⟨fun _ => trivial, fun _ => X_0 hn hp⟩)
theorem DF_no {mu mn : Nat → Nat → Prop} {sr : Nat → Nat → Int} {n : Nat} {J J' : Nat → Nat → Int} {i : Nat} (h : DFx mu mn sr n J i) (hi : i < n) (hc : 0 ≤ J 113 i) (hno : ∃ j, j < i ∧ ((mu i j ∧ J 112 j ≠ J 113 i) ∨ (mn i j ∧ J 112 j = J 113 i))) (hJ : J' = upI J 113 i (J 113 i - 1)) : DFx mu mn sr n J' i := by
  obtain ⟨h1, h2, h3, h4, h5, h6⟩ := h
  have f : ∀ a j, ¬ (a = 113 ∧ j = i) → J' a j = J a j := fun a j ha => by rw [hJ, upI_ne (by omega)]
  have e112 : J' 112 = J 112 := funext (fun j => f 112 j (by omega))
  have e13 : J' 113 i = J 113 i - 1 := by rw [hJ, upI_eq rfl rfl]
  refine ⟨by rw [e112]; exact h1, by rw [e112]; exact h2, fun a ha => by rw [e112, f 114 a (by omega), f 115 a (by omega)]; exact h3 a ha, fun a ha => by rw [f 113 a (by omega), e112]; exact h4 a ha, by rw [e112, e13]; omega, ?_⟩
  rw [e112, e13, f 74 58 (by omega), f 74 56 (by omega), f 74 57 (by omega), show J' 111 = J 111 from funext (fun j => f 111 j (by omega)), show J' 110 = J 110 from funext (fun j => f 110 j (by omega))]
  exact BsR_X h6 (fun p hp => X_no hi hp hno)
/-- c is put at place i -/
def NXc (sr : Nat → Nat → Int) (J J' : Nat → Nat → Int) (i : Nat) (c : Int) : Prop := (∀ m, m ≠ i → J' 112 m = J 112 m) ∧ J' 112 i = c ∧ (∀ a, a ≤ i → J' 114 a = J 114 a ∧ J' 115 a = J 115 a) ∧ J' 114 (i + 1) = (if c = J 114 i then c + 1 else J 114 i) ∧ J' 115 (i + 1) = J 115 i + sm (fun j => if J 112 j = c then sr i j else 0) i ∧ (∀ a, a < i → J' 113 a = J 113 a) ∧ (∀ j, J' 110 j = J 110 j)
theorem DF_p {mu mn : Nat → Nat → Prop} {sr : Nat → Nat → Int} {n : Nat} {J J' : Nat → Nat → Int} {i : Nat} {c : Int} (h : DFx mu mn sr n J i) (hi : i < n) (hc : 0 ≤ c ∧ c = J 113 i) (hN : NXc sr J J' i c) (hok : ∀ j, j < i → (mu i j → J 112 j = c) ∧ (mn i j → J 112 j ≠ c)) : RGr (i + 1) (J' 112) ∧ VLr mu mn (i + 1) (J' 112) ∧ (∀ a, a ≤ i + 1 → J' 114 a = us (J' 112) a ∧ J' 115 a = Wr sr a (J' 112)) ∧ ∀ m, m < i → J' 112 m = J 112 m := by
  obtain ⟨h1, h2, h3, h4, h5, h6⟩ := h
  obtain ⟨n1, n2, n3, n4, n5, n6, n7⟩ := hN
  have e : ∀ m, m < i → J' 112 m = J 112 m := fun m hm => n1 m (by omega)
  have eu : ∀ a, a ≤ i → us (J' 112) a = us (J 112) a := fun a ha => us_c (fun j hj => e j (by omega))
  refine ⟨fun a ha => ?_, fun a j hj ha => ?_, fun a ha => ?_, e⟩
  · by_cases ea : a = i
    · rw [ea, n2, eu i (by omega)]
      omega
    · rw [eu a (by omega), e a (by omega)]
      exact h1 a (by omega)
  · by_cases ea : a = i
    · rw [ea] at hj ⊢
      rw [n2, e j hj]
      exact hok j hj
    · rw [e a (by omega), e j (by omega)]
      exact h2 a j hj (by omega)
  · by_cases ea : a = i + 1
    · rw [ea, n4, n5, us_s, n2, eu i (by omega), (h3 i (by omega)).1, (h3 i (by omega)).2]
      refine ⟨rfl, ?_⟩
      show _ = Wr sr i (J' 112) + sm (fun j => if J' 112 j = J' 112 i then sr i j else 0) i
      rw [n2, Wr_c (fun m hm => e m hm)]
      congr 1
      exact sm_c (fun j hj => by rw [e j hj])
    · rw [(n3 a (by omega)).1, (n3 a (by omega)).2, eu a (by omega), Wr_c (fun m hm => e m (by omega))]
      exact h3 a (by omega)
theorem DF_deep {mu mn : Nat → Nat → Prop} {sr : Nat → Nat → Int} {n : Nat} {J J' : Nat → Nat → Int} {i : Nat} {c : Int} (h : DFx mu mn sr n J i) (hi : i + 1 < n) (hc : 0 ≤ c ∧ c = J 113 i) (hN : NXc sr J J' i c) (hok : ∀ j, j < i → (mu i j → J 112 j = c) ∧ (mn i j → J 112 j ≠ c)) (h13 : J' 113 i = c - 1) (h14 : J' 113 (i + 1) = J' 114 (i + 1)) (h74 : ∀ j, J' 74 j = J 74 j) (h111 : ∀ j, J' 111 j = J 111 j) : DFx mu mn sr n J' (i + 1) := by
  obtain ⟨g1, g2, g3, g4⟩ := DF_p h (by omega) hc hN hok
  have h0 := h.1
  have hu := us_f (i + 1) g1
  refine ⟨g1, g2, g3, fun a ha => ?_, by rw [h14, (g3 (i + 1) (by omega)).1]; omega, ?_⟩
  · by_cases ea : a = i
    · rw [ea, h13, hN.2.1]
    · rw [hN.2.2.2.2.2.1 a (by omega), g4 a (by omega)]
      exact h.2.2.2.1 a (by omega)
  · rw [h14, (g3 (i + 1) (by omega)).1, h74, h74, h74, show J' 111 = J 111 from funext h111, show J' 110 = J 110 from funext hN.2.2.2.2.2.2]
    have h6 := h.2.2.2.2.2
    rw [← hc.2] at h6
    exact BsR_X h6 (fun p hp => X_deep hi hp g4 hN.2.1 g1)
/-- what look does -/
def Lkr (I J : Nat → Nat → Int) : Prop := ((I 74 58 ≠ 0 ∧ I 115 (I 74 55).toNat ≤ I 74 56) ∧ J = I) ∨ (¬ (I 74 58 ≠ 0 ∧ I 115 (I 74 55).toNat ≤ I 74 56) ∧ (∀ a j, ¬ ((a = 74 ∧ (j = 56 ∨ j = 57 ∨ j = 58)) ∨ a = 111) → J a j = I a j) ∧ J 74 58 = 1 ∧ J 74 56 = I 115 (I 74 55).toNat ∧ J 74 57 = I 114 (I 74 55).toNat ∧ (∀ j : Nat, (j : Int) < I 74 55 → J 111 (I 110 j).toNat = I 112 j) ∧ ∀ r, (∀ j : Nat, (j : Int) < I 74 55 → (I 110 j).toNat ≠ r) → J 111 r = I 111 r)
theorem DF_leaf {mu mn : Nat → Nat → Prop} {sr : Nat → Nat → Int} {n : Nat} {J J' J2 : Nat → Nat → Int} {i : Nat} {c : Int} (h : DFx mu mn sr n J i) (hi : i + 1 = n) (hc : 0 ≤ c ∧ c = J 113 i) (hN : NXc sr J J' i c) (hok : ∀ j, j < i → (mu i j → J 112 j = c) ∧ (mn i j → J 112 j ≠ c)) (h13 : J' 113 i = c - 1) (h74 : ∀ j, J' 74 j = J 74 j) (h111 : ∀ j, J' 111 j = J 111 j) (h55 : J 74 55 = (n : Int)) (hL : Lkr J' J2) : DFx mu mn sr n J2 i := by
  obtain ⟨g1, g2, g3, g4⟩ := DF_p h (by omega) hc hN hok
  obtain ⟨h1, h2, h3, h4, h5, h6⟩ := h
  have hen : (J' 74 55).toNat = n := by rw [h74]; omega
  have hw : J' 115 n = Wr sr n (J' 112) := (g3 n (by omega)).2
  have hu : J' 114 n = us (J' 112) n := (g3 n (by omega)).1
  have hok' : OKr mu mn n (J' 112) := by rw [← hi]; exact ⟨g1, g2⟩
  rw [← hc.2] at h6 h5
  have hcommon : ∀ (h12 : ∀ m, J2 112 m = J' 112 m) (h14 : ∀ m, J2 114 m = J' 114 m) (h15 : ∀ m, J2 115 m = J' 115 m) (hh13 : ∀ m, J2 113 m = J' 113 m), BsR mu mn sr n (Xp (J 112) i (c - 1)) (J2 74 58) (J2 74 56) (J2 74 57) (J2 111) (J2 110) → DFx mu mn sr n J2 i := fun h12 h14 h15 hh13 hb => by
    have e12 : J2 112 = J' 112 := funext h12
    have euu : us (J' 112) i = us (J 112) i := us_c g4
    refine ⟨by rw [e12]; exact fun a ha => g1 a (by omega), by rw [e12]; exact fun a j hj ha => g2 a j hj (by omega), fun a ha => by rw [e12, h14, h15]; exact g3 a (by omega), fun a ha => ?_, by rw [e12, hh13, h13, euu]; omega, ?_⟩
    · rw [hh13, e12, hN.2.2.2.2.2.1 a ha, g4 a ha]
      exact h4 a ha
    · rw [e12, hh13, h13]
      exact BsR_X hb (fun p hp => Xp_c (fun m hm => (g4 m hm).symm))
  rcases hL with ⟨⟨l1, l2⟩, l3⟩ | ⟨l0, l1, l2, l3, l4, l5, l6⟩
  · rw [l3] at hcommon ⊢
    refine hcommon (fun _ => rfl) (fun _ => rfl) (fun _ => rfl) (fun _ => rfl) ?_
    rw [hen, hw, h74] at l2
    rw [h74] at l1
    rw [h74, h74, h74, show J' 111 = J 111 from funext h111, show J' 110 = J 110 from funext hN.2.2.2.2.2.2]
    exact BsR_keep h6 hi g4 hN.2.1 l1 l2
  · rw [hen] at l0 l3 l4
    refine hcommon (fun m => l1 112 m (by omega)) (fun m => l1 114 m (by omega)) (fun m => l1 115 m (by omega)) (fun m => l1 113 m (by omega)) ?_
    rw [l2, show J2 110 = J 110 from funext (fun j => by rw [l1 110 j (by omega)]; exact hN.2.2.2.2.2.2 j)]
    refine BsR_take h6 hi g4 hN.2.1 hok' ?_ (by rw [l3]; exact hw) (by rw [l4]; exact hu) (fun j hj => ?_)
    · rw [hw, h74, h74] at l0
      rcases h6 with ⟨z, _⟩ | ⟨z, _⟩
      · exact Or.inl z
      · right
        omega
    · rw [← hN.2.2.2.2.2.2 j]
      exact l5 j (by rw [h74, h55]; omega)
/-- how long the search may go on -/
def tot (f : Nat → Int) (i : Nat) : Int := sm (fun a => (f a + 1) * ((13 ^ (11 - a) : Nat) : Int) + 1) i
theorem tot_s (f : Nat → Int) (i : Nat) : tot f (i + 1) = tot f i + ((f i + 1) * ((13 ^ (11 - i) : Nat) : Int) + 1) := rfl
theorem tot_c {f g : Nat → Int} {i : Nat} (h : ∀ a, a < i → f a = g a) : tot f i = tot g i := sm_c (fun a ha => by rw [h a ha])
theorem p13 {i : Nat} (hi : i < 11) : ((13 ^ (11 - i) : Nat) : Int) = 13 * ((13 ^ (11 - (i + 1)) : Nat) : Int) := by
  rw [show 11 - i = 11 - (i + 1) + 1 by omega, Nat.pow_succ]
  omega
theorem p13_pos (i : Nat) : (1 : Int) ≤ ((13 ^ i : Nat) : Int) := by
  have : 0 < 13 ^ i := Nat.pow_pos (by decide)
  omega
theorem tot_dec {f g : Nat → Int} {i : Nat} (h : ∀ a, a < i → g a = f a) (hg : g i = f i - 1) : tot g (i + 1) < tot f (i + 1) := by
  rw [tot_s, tot_s, tot_c h, hg]
  have h1 := p13_pos (11 - i)
  have : (f i - 1 + 1) * ((13 ^ (11 - i) : Nat) : Int) = (f i + 1) * ((13 ^ (11 - i) : Nat) : Int) - ((13 ^ (11 - i) : Nat) : Int) := by
    rw [show f i - 1 + 1 = (f i + 1) - 1 by omega, Int.sub_mul, Int.one_mul]
  rw [this]
  omega
theorem tot_up {f : Nat → Int} {i : Nat} (h : f i = -1) : tot f i < tot f (i + 1) := by
  rw [tot_s, h]
  show _ < tot f i + (0 * _ + 1)
  rw [Int.zero_mul]
  omega
theorem tot_deep {f g : Nat → Int} {i : Nat} (hi : i < 10) (h : ∀ a, a < i → g a = f a) (hg : g i = f i - 1) (hu : 0 ≤ g (i + 1) ∧ g (i + 1) ≤ 10) : tot g (i + 1 + 1) < tot f (i + 1) := by
  have h1 := p13_pos (11 - (i + 1))
  have h2 := p13 (i := i) (by omega)
  rw [tot_s, tot_s, tot_s, tot_c h, hg]
  have e1 : (f i - 1 + 1) * ((13 ^ (11 - i) : Nat) : Int) = (f i + 1) * ((13 ^ (11 - i) : Nat) : Int) - ((13 ^ (11 - i) : Nat) : Int) := by
    rw [show f i - 1 + 1 = (f i + 1) - 1 by omega, Int.sub_mul, Int.one_mul]
  have e2 : (g (i + 1) + 1) * ((13 ^ (11 - (i + 1)) : Nat) : Int) ≤ 11 * ((13 ^ (11 - (i + 1)) : Nat) : Int) := Int.mul_le_mul_of_nonneg_right (by omega) (by omega)
  rw [e1]
  generalize (g (i + 1) + 1) * ((13 ^ (11 - (i + 1)) : Nat) : Int) = z at *
  generalize (f i + 1) * ((13 ^ (11 - i) : Nat) : Int) = y at *
  omega
theorem tot_pos {f : Nat → Int} : ∀ {i : Nat}, (∀ a, a < i → -1 ≤ f a) → 0 ≤ tot f i
  | 0, _ => by show (0 : Int) ≤ 0; omega
  | i + 1, h => by
    have h1 := tot_pos (i := i) (fun a ha => h a (by omega))
    have h2 : 0 ≤ (f i + 1) * ((13 ^ (11 - i) : Nat) : Int) := Int.mul_nonneg (by have := h i (by omega); omega) (Int.natCast_nonneg _)
    rw [tot_s]
    omega
/-- what hands say of two places, as bits 1 and 2 -/
theorem sy_or {s : Int} (h : 0 ≤ s ∧ s ≤ 3) : (0 ≤ bOr s 1 ∧ bOr s 1 ≤ 3 ∧ bAnd (bOr s 1) 1 = 1 ∧ (bAnd (bOr s 1) 2 = 2 ↔ bAnd s 2 = 2)) ∧ (0 ≤ bOr s 2 ∧ bOr s 2 ≤ 3 ∧ bAnd (bOr s 2) 2 = 2 ∧ (bAnd (bOr s 2) 1 = 1 ↔ bAnd s 1 = 1)) := by
  rcases (show s = 0 ∨ s = 1 ∨ s = 2 ∨ s = 3 by omega) with e | e | e | e <;> rw [e] <;> decide
