-- PARTING: gather, bind
def thB (I : Nat → Nat → Int) : Nat → Bool := fun r => decide (I 45 r ≠ 0)
def FrG (I J : Nat → Nat → Int) : Prop := ∀ a j, ¬ ((a = 49 ∧ j = 3) ∨ a = 50 ∨ a = 51 ∨ a = 52 ∨ a = 54 ∨ a = 55) → J a j = I a j
/-- the rows above row are gathered -/
def GthL (I J : Nat → Nat → Int) (row : Int) : Prop :=
  FrG I J ∧ J 49 3 + (cnt (thB I) (row + 1).toNat : Int) = (cnt (thB I) 10 : Int) ∧
  (∀ r : Nat, row < r → r < 10 → J 50 r = -1 ∧ (thB I r = true → J 52 r = ((cnt (thB I) 10 - 1 - cnt (thB I) r : Nat) : Int) ∧ J 51 (cnt (thB I) 10 - 1 - cnt (thB I) r) = (r : Int)) ∧ (thB I r = false → J 52 r = -1)) ∧
  ∀ i : Nat, (i : Int) < J 49 3 → J 54 i = 0 ∧ J 55 i = 0
theorem Gth_0 (I : Nat → Nat → Int) : GthL I (upI I 49 3 0) 9 := by
  refine ⟨fun a j ha => upI_ne (by omega), ?_, fun r hr h10 => ?_, fun i hi => ?_⟩
  · rw [upI_eq rfl rfl]
    show 0 + _ = _
    rw [show ((9 : Int) + 1).toNat = 10 from rfl]
    omega
  · omega
  · rw [upI_eq rfl rfl] at hi
    omega
theorem Gth_no {I J : Nat → Nat → Int} {row : Int} (h : GthL I J row) (h0 : 0 ≤ row) (h9 : row ≤ 9) (ht : J 45 row.toNat = 0) : GthL I (upI (upI J 50 row.toNat (-1)) 52 row.toNat (-1)) (row + (-1)) := by
  obtain ⟨f, g, hh, z⟩ := h
  have e45 : J 45 row.toNat = I 45 row.toNat := f 45 _ (by omega)
  have hT : thB I row.toNat = false := decide_eq_false (by omega)
  have hc : cnt (thB I) (row + 1).toNat = cnt (thB I) row.toNat := by
    rw [show (row + 1).toNat = row.toNat + 1 by omega, cnt_s, hT]
    rfl
  refine ⟨fun a j ha => ?_, ?_, fun r hr h10 => ?_, fun i hi => ?_⟩
  · rw [upI_ne (by omega), upI_ne (by omega)]
    exact f a j ha
  · rw [upI_ne (by omega), upI_ne (by omega), show (row + -1 + 1).toNat = row.toNat by omega]
    omega
  · by_cases e : r = row.toNat
    · rw [e]
      refine ⟨by rw [upI_ne (by omega), upI_eq rfl rfl], fun t => ?_, fun _ => upI_eq rfl rfl⟩
      rw [hT] at t
      exact absurd t (by decide)
    · have := hh r (by omega) h10
      have q50 : upI (upI J 50 row.toNat (-1)) 52 row.toNat (-1) 50 r = J 50 r := by rw [upI_ne (by omega), upI_ne (by omega)]
      have q52 : upI (upI J 50 row.toNat (-1)) 52 row.toNat (-1) 52 r = J 52 r := by rw [upI_ne (by omega), upI_ne (by omega)]
      have q51 : ∀ c, upI (upI J 50 row.toNat (-1)) 52 row.toNat (-1) 51 c = J 51 c := fun c => by rw [upI_ne (by omega), upI_ne (by omega)]
      rw [q50, q52, q51]
      exact this
  · rw [upI_ne (by omega), upI_ne (by omega)] at hi
    rw [upI_ne (by omega), upI_ne (by omega), upI_ne (by omega), upI_ne (by omega)]
    exact z i hi
theorem Gth_yes {I J J' : Nat → Nat → Int} {row : Int} (h : GthL I J row) (h0 : 0 ≤ row) (h9 : row ≤ 9) (ht : J 45 row.toNat ≠ 0) (hJ : J' = upI (upI (upI (upI (upI (upI (upI J 50 row.toNat (-1)) 52 row.toNat (-1)) 52 row.toNat (J 49 3)) 51 (J 49 3).toNat row) 54 (J 49 3).toNat 0) 55 (J 49 3).toNat 0) 49 3 (J 49 3 + 1)) : GthL I J' (row + (-1)) := by
  obtain ⟨f, g, hh, z⟩ := h
  have e45 : J 45 row.toNat = I 45 row.toNat := f 45 _ (by omega)
  have hT : thB I row.toNat = true := decide_eq_true (by omega)
  have hc : cnt (thB I) (row + 1).toNat = cnt (thB I) row.toNat + 1 := by
    rw [show (row + 1).toNat = row.toNat + 1 by omega, cnt_s, hT]
    rfl
  have hle := cnt_mono (thB I) (d := 10 - (row + 1).toNat) (m := (row + 1).toNat)
  rw [show (row + 1).toNat + (10 - (row + 1).toNat) = 10 by omega] at hle
  have hsz : (J 49 3).toNat = cnt (thB I) 10 - 1 - cnt (thB I) row.toNat := by omega
  have qf : ∀ a j, ¬ ((a = 49 ∧ j = 3) ∨ (a = 50 ∧ j = row.toNat) ∨ (a = 51 ∧ j = (J 49 3).toNat) ∨ (a = 52 ∧ j = row.toNat) ∨ (a = 54 ∧ j = (J 49 3).toNat) ∨ (a = 55 ∧ j = (J 49 3).toNat)) → J' a j = J a j := fun a j ha => by
    rw [hJ, upI_ne (by omega), upI_ne (by omega), upI_ne (by omega), upI_ne (by omega), upI_ne (by omega), upI_ne (by omega), upI_ne (by omega)]
  have q49 : J' 49 3 = J 49 3 + 1 := by rw [hJ, upI_eq rfl rfl]
  refine ⟨fun a j ha => ?_, ?_, fun r hr h10 => ?_, fun i hi => ?_⟩
  · rw [qf a j (by omega)]
    exact f a j ha
  · rw [q49, show (row + -1 + 1).toNat = row.toNat by omega]
    omega
  · by_cases e : r = row.toNat
    · rw [e]
      refine ⟨?_, fun _ => ⟨?_, ?_⟩, fun t => ?_⟩
      · rw [hJ, upI_ne (by omega), upI_ne (by omega), upI_ne (by omega), upI_ne (by omega), upI_ne (by omega), upI_ne (by omega), upI_eq rfl rfl]
      · rw [hJ, upI_ne (by omega), upI_ne (by omega), upI_ne (by omega), upI_ne (by omega), upI_eq rfl rfl]
        omega
      · rw [hJ, upI_ne (by omega), upI_ne (by omega), upI_ne (by omega), upI_eq rfl hsz.symm]
        omega
      · rw [hT] at t
        exact absurd t (by decide)
    · obtain ⟨a1, a2, a3⟩ := hh r (by omega) h10
      refine ⟨by rw [qf 50 r (by omega)]; exact a1, fun t => ?_, fun t => by rw [qf 52 r (by omega)]; exact a3 t⟩
      obtain ⟨a4, a5⟩ := a2 t
      have h1 := cnt_lt (T := thB I) (show row.toNat < r by omega) hT
      have h2 := cnt_lt (T := thB I) h10 t
      refine ⟨by rw [qf 52 r (by omega)]; exact a4, ?_⟩
      rw [qf 51 _ (by omega)]
      exact a5
  · rw [q49] at hi
    by_cases e : i = (J 49 3).toNat
    · rw [e]
      refine ⟨?_, ?_⟩
      · rw [hJ, upI_ne (by omega), upI_ne (by omega), upI_eq rfl rfl]
      · rw [hJ, upI_ne (by omega), upI_eq rfl rfl]
    · rw [qf 54 i (by omega), qf 55 i (by omega)]
      exact z i (by omega)
/-- all rows are gathered -/
def Gth (I J : Nat → Nat → Int) : Prop := FrG I J ∧ J 49 3 = (cnt (thB I) 10 : Int) ∧ (∀ r : Nat, r < 10 → J 50 r = -1 ∧ (thB I r = true → J 52 r = ((cnt (thB I) 10 - 1 - cnt (thB I) r : Nat) : Int) ∧ J 51 (cnt (thB I) 10 - 1 - cnt (thB I) r) = (r : Int)) ∧ (thB I r = false → J 52 r = -1)) ∧ ∀ i : Nat, (i : Int) < J 49 3 → J 54 i = 0 ∧ J 55 i = 0
theorem Gth_end {I J : Nat → Nat → Int} {row : Int} (h : GthL I J row) (h0 : row = -1) : Gth I J := by
  obtain ⟨f, g, hh, z⟩ := h
  rw [h0] at g hh
  refine ⟨f, ?_, fun r hr => hh r (by omega) hr, z⟩
  have : cnt (thB I) ((-1 : Int) + 1).toNat = 0 := rfl
  omega
theorem Gth_sz {I J : Nat → Nat → Int} {row : Int} (h : GthL I J row) (h0 : 0 ≤ row) (h9 : row ≤ 9) : 0 ≤ J 49 3 ∧ J 49 3 < 10 := by
  obtain ⟨f, g, hh, z⟩ := h
  have h1 := cnt_le (thB I) 10
  have h2 := cnt_mono (thB I) (d := 10 - (row + 1).toNat) (m := (row + 1).toNat)
  rw [show (row + 1).toNat + (10 - (row + 1).toNat) = 10 by omega] at h2
  have h3 : ∀ d m, cnt (thB I) (m + d) ≤ cnt (thB I) m + d := fun d m => by
    induction d with
    | zero => show cnt (thB I) m ≤ _; omega
    | succ d ih =>
      show cnt (thB I) (m + d + 1) ≤ _
      rw [cnt_s]
      split <;> omega
  have := h3 (10 - (row + 1).toNat) (row + 1).toNat
  rw [show (row + 1).toNat + (10 - (row + 1).toNat) = 10 by omega] at this
  omega
-- bind
def hHeld (I : Nat → Nat → Int) (k : Int) (h : Nat) : Prop := I 36 h ≤ k ∧ (I 37 h = -1 ∨ k < I 37 h)
/-- one of the first m hands binds the bits i and j (v = 1: must) -/
def HB (I : Nat → Nat → Int) (k : Int) (m : Nat) (v : Bool) (i j : Nat) : Prop := ∃ h, h < m ∧ hHeld I k h ∧ (I 35 h = 1 ↔ v = true) ∧ ((I 52 (I 33 h).toNat = (i : Int) ∧ I 52 (I 34 h).toNat = (j : Int)) ∨ (I 52 (I 33 h).toNat = (j : Int) ∧ I 52 (I 34 h).toNat = (i : Int)))
def Msk (P : Nat → Nat → Prop) (F : Nat → Int) (n : Int) : Prop := ∀ i : Nat, (i : Int) < n → (0 ≤ F i ∧ F i < 1024) ∧ ∀ j, (F i).toNat.testBit j = true ↔ P i j
theorem msk_set {x : Int} {o : Int} (hx : 0 ≤ x ∧ x < 1024) (ho : 0 ≤ o ∧ o < 10) : (0 ≤ bOr x (bShl 1 o) ∧ bOr x (bShl 1 o) < 1024) ∧ ∀ j, (bOr x (bShl 1 o)).toNat.testBit j = true ↔ x.toNat.testBit j = true ∨ j = o.toNat := by
  have h1 := pow9 (t := o.toNat) (by omega)
  have h0 : (0 : Int) ≤ ((2 ^ o.toNat : Nat) : Int) := Int.natCast_nonneg _
  rw [bShl_i ho.1 (by omega), bOr_n ⟨hx.1, by omega⟩ ⟨h0, by omega⟩, Int.toNat_natCast]
  have h2 : (x.toNat ||| 2 ^ o.toNat) < 2 ^ 10 := Nat.or_lt_two_pow (by omega) (by omega)
  refine ⟨by omega, fun j => ?_⟩
  rw [Int.toNat_natCast, Nat.testBit_or, tb_pow, Bool.or_eq_true, decide_eq_true_eq]
theorem Msk_set {P Q : Nat → Nat → Prop} {F G : Nat → Int} {n p o : Int} (h : Msk P F n) (hp : 0 ≤ p ∧ p < n) (ho : 0 ≤ o ∧ o < 10) (hG : ∀ i, i ≠ p.toNat → G i = F i) (hGp : G p.toNat = bOr (F p.toNat) (bShl 1 o)) (hQ : ∀ i j : Nat, (i : Int) < n → (Q i j ↔ P i j ∨ (i = p.toNat ∧ j = o.toNat))) : Msk Q G n := by
  intro i hi
  by_cases e : i = p.toNat
  · have h1 := h i hi
    rw [e] at h1 hi ⊢
    rw [hGp]
    obtain ⟨m1, m2⟩ := msk_set h1.1 ho
    refine ⟨m1, fun j => ?_⟩
    rw [m2, h1.2 j, hQ p.toNat j hi]
    simp
  · rw [hG i e]
    refine ⟨(h i hi).1, fun j => ?_⟩
    rw [(h i hi).2 j, hQ i j hi]
    constructor
    · exact Or.inl
    · rintro (z | ⟨z, _⟩)
      · exact z
      · exact absurd z e
def FrB (I J : Nat → Nat → Int) : Prop := ∀ a j, ¬ (a = 54 ∨ a = 55) → J a j = I a j
/-- what bind asks of the world -/
def HOK (I : Nat → Nat → Int) : Prop := (0 ≤ I 32 0 ∧ I 32 0 ≤ 20) ∧ (0 ≤ I 49 3 ∧ I 49 3 ≤ 10) ∧ (∀ h : Nat, (h : Int) < I 32 0 → (0 ≤ I 33 h ∧ I 33 h < 10) ∧ 0 ≤ I 34 h ∧ I 34 h < 10) ∧ ∀ r : Nat, r < 10 → -1 ≤ I 52 r ∧ I 52 r < I 49 3
def Bnd (I J : Nat → Nat → Int) (k : Int) (m : Nat) : Prop := FrB I J ∧ Msk (HB I k m true) (J 54) (I 49 3) ∧ Msk (HB I k m false) (J 55) (I 49 3)
theorem Bnd_0 {I : Nat → Nat → Int} {k : Int} (h : ∀ i : Nat, (i : Int) < I 49 3 → I 54 i = 0 ∧ I 55 i = 0) : Bnd I I k 0 := by
  have hz : ∀ v i j, ¬ HB I k 0 v i j := fun v i j ⟨h, h1, _⟩ => absurd h1 (by omega)
  refine ⟨fun a j _ => rfl, fun i hi => ?_, fun i hi => ?_⟩
  · rw [(h i hi).1]
    exact ⟨by omega, fun j => ⟨fun z => by rw [show (0 : Int).toNat = 0 from rfl, Nat.zero_testBit] at z; exact absurd z (by decide), fun z => absurd z (hz _ _ _)⟩⟩
  · rw [(h i hi).2]
    exact ⟨by omega, fun j => ⟨fun z => by rw [show (0 : Int).toNat = 0 from rfl, Nat.zero_testBit] at z; exact absurd z (by decide), fun z => absurd z (hz _ _ _)⟩⟩
theorem Msk_c {P Q : Nat → Nat → Prop} {F G : Nat → Int} {n : Int} (h : Msk P F n) (hG : ∀ i : Nat, (i : Int) < n → G i = F i) (hQ : ∀ i j : Nat, (i : Int) < n → (Q i j ↔ P i j)) : Msk Q G n := fun i hi => by
  rw [hG i hi]
  exact ⟨(h i hi).1, fun j => by rw [(h i hi).2 j, hQ i j hi]⟩
theorem HB_s {I : Nat → Nat → Int} {k : Int} {m : Nat} {v : Bool} {i j : Nat} : HB I k (m + 1) v i j ↔ HB I k m v i j ∨ (hHeld I k m ∧ (I 35 m = 1 ↔ v = true) ∧ ((I 52 (I 33 m).toNat = (i : Int) ∧ I 52 (I 34 m).toNat = (j : Int)) ∨ (I 52 (I 33 m).toNat = (j : Int) ∧ I 52 (I 34 m).toNat = (i : Int)))) := by
  constructor
  · rintro ⟨h, h1, h2⟩
    by_cases e : h = m
    · rw [e] at h2
      exact Or.inr h2
    · exact Or.inl ⟨h, by omega, h2⟩
  · rintro (⟨h, h1, h2⟩ | h2)
    · exact ⟨h, by omega, h2⟩
    · exact ⟨m, by omega, h2⟩
theorem Bnd_no {I J : Nat → Nat → Int} {k : Int} {m : Nat} (h : Bnd I J k m) (hno : ¬ (I 52 (I 33 m).toNat ≠ -1 ∧ I 52 (I 34 m).toNat ≠ -1 ∧ hHeld I k m)) : Bnd I J k (m + 1) := by
  have hs : ∀ v i j, HB I k (m + 1) v i j ↔ HB I k m v i j := fun v i j => by
    rw [HB_s]
    constructor
    · rintro (z | ⟨z1, _, z3⟩)
      · exact z
      · exact absurd ⟨by omega, by omega, z1⟩ hno
    · exact Or.inl
  exact ⟨h.1, Msk_c h.2.1 (fun _ _ => rfl) (fun i j _ => hs _ _ _), Msk_c h.2.2 (fun _ _ => rfl) (fun i j _ => hs _ _ _)⟩
theorem Bnd_hit {I J J' : Nat → Nat → Int} {k p o : Int} {m : Nat} {v : Bool} {A : Nat} (h : Bnd I J k m) (hH : hHeld I k m) (hv : I 35 m = 1 ↔ v = true) (hA : A = if v = true then 54 else 55) (ep : p = I 52 (I 33 m).toNat) (eo : o = I 52 (I 34 m).toNat) (hp : 0 ≤ p ∧ p < I 49 3) (ho : 0 ≤ o ∧ o < I 49 3) (h10 : I 49 3 ≤ 10) (hJ : J' = upI (upI J A p.toNat (bOr (J A p.toNat) (bShl 1 o))) A o.toNat (bOr (upI J A p.toNat (bOr (J A p.toNat) (bShl 1 o)) A o.toNat) (bShl 1 p))) : Bnd I J' k (m + 1) := by
  obtain ⟨f, m1, m2⟩ := h
  have hA2 : A = 54 ∨ A = 55 := by cases v <;> simp at hA <;> omega
  have hQ1 : ∀ u i j, u ≠ v → (HB I k (m + 1) u i j ↔ HB I k m u i j) := fun u i j hu => by
    rw [HB_s]
    constructor
    · rintro (z | ⟨_, z2, _⟩)
      · exact z
      · exact absurd (by cases u <;> cases v <;> simp_all) hu
    · exact Or.inl
  have hQ2 : ∀ i j, (HB I k (m + 1) v i j ↔ (HB I k m v i j ∨ (i = p.toNat ∧ j = o.toNat)) ∨ (i = o.toNat ∧ j = p.toNat)) := fun i j => by
    rw [HB_s, ← ep, ← eo]
    constructor
    · rintro (z | ⟨_, _, ⟨z1, z2⟩ | ⟨z1, z2⟩⟩)
      · exact Or.inl (Or.inl z)
      · exact Or.inl (Or.inr ⟨by omega, by omega⟩)
      · exact Or.inr ⟨by omega, by omega⟩
    · rintro ((z | ⟨z1, z2⟩) | ⟨z1, z2⟩)
      · exact Or.inl z
      · exact Or.inr ⟨hH, hv, Or.inl ⟨by omega, by omega⟩⟩
      · exact Or.inr ⟨hH, hv, Or.inr ⟨by omega, by omega⟩⟩
  have key : ∀ {P : Nat → Nat → Prop}, Msk P (J A) (I 49 3) → (∀ i j, (HB I k (m + 1) v i j ↔ (P i j ∨ (i = p.toNat ∧ j = o.toNat)) ∨ (i = o.toNat ∧ j = p.toNat))) → Msk (HB I k (m + 1) v) (J' A) (I 49 3) := fun {P} hm hq => by
    refine Msk_set (P := fun i j => P i j ∨ (i = p.toNat ∧ j = o.toNat)) (F := upI J A p.toNat (bOr (J A p.toNat) (bShl 1 o)) A) (p := o) (o := p) ?_ ho ⟨by omega, by omega⟩ (fun i hi => by rw [hJ, upI_ne (by omega)]) (by rw [hJ, upI_eq rfl rfl]) (fun i j _ => hq i j)
    exact Msk_set hm hp ⟨by omega, by omega⟩ (fun i hi => by rw [upI_ne (by omega)]) (by rw [upI_eq rfl rfl]) (fun i j _ => Iff.rfl)
  refine ⟨fun a j ha => ?_, ?_, ?_⟩
  · rw [hJ, upI_ne (by omega), upI_ne (by omega)]
    exact f a j ha
  · cases v
    · have e : A = 55 := by simpa using hA
      exact Msk_c m1 (fun i _ => by rw [hJ, upI_ne (by omega), upI_ne (by omega)]) (fun i j _ => hQ1 true i j (by decide))
    · have e : A = 54 := by simpa using hA
      rw [e] at key
      exact key m1 hQ2
  · cases v
    · have e : A = 55 := by simpa using hA
      rw [e] at key
      exact key m2 hQ2
    · have e : A = 54 := by simpa using hA
      exact Msk_c m2 (fun i _ => by rw [hJ, upI_ne (by omega), upI_ne (by omega)]) (fun i j _ => hQ1 false i j (by decide))
