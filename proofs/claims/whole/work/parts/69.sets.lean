-- PARTING: pairs, sets, keys
/-- the score that the class's book at k gives two rows -/
def csc (I : Nat → Nat → Int) (k : Nat) (p q : Int) : Int := lsm (I (k + 3)) (I (k + 2)) (I (k + 1)) (fun j => tstB (I (k + 3) j) (I (k + 5) j) (I 46 ((p * 6) + (I (k + 4) j)).toNat) (I 46 ((q * 6) + (I (k + 4) j)).toNat) (I 18 p.toNat) (I 18 q.toNat)) (I k 0).toNat
theorem csc_c {I J : Nat → Nat → Int} {k : Nat} (p q : Int) (h : ∀ a, a = 18 ∨ a = 46 ∨ (k ≤ a ∧ a ≤ k + 5) → J a = I a) : csc J k p q = csc I k p q := by
  unfold csc
  rw [h k (by omega), h (k + 1) (by omega), h (k + 2) (by omega), h (k + 3) (by omega), h (k + 4) (by omega), h (k + 5) (by omega), h 18 (by omega), h 46 (by omega)]
def BKk (I : Nat → Nat → Int) (k : Nat) : Prop := BOK (I k 0) (I (k + 3)) (I (k + 2)) (I (k + 1)) (I (k + 4))
theorem csc_rg {I : Nat → Nat → Int} {k : Nat} (h : BKk I k) (p q : Int) : -10000 ≤ csc I k p q ∧ csc I k p q ≤ 10000 := by
  have h0 := h.1
  have := lsm_rg (fun j => tstB (I (k + 3) j) (I (k + 5) j) (I 46 ((p * 6) + (I (k + 4) j)).toNat) (I 46 ((q * 6) + (I (k + 4) j)).toNat) (I 18 p.toNat) (I 18 q.toNat)) h (I k 0).toNat (by omega)
  unfold csc
  omega
def sI (I : Nat → Nat → Int) : Nat → Nat → Int := fun i j => I 53 (i * 10 + j)
def wtI (I : Nat → Nat → Int) : Nat → Nat → Prop := fun i j => (I 54 i).toNat.testBit j = true
def woI (I : Nat → Nat → Int) : Nat → Nat → Prop := fun i j => (I 55 i).toNat.testBit j = true
def sR (I : Nat → Nat → Int) (n : Nat) : Prop := ∀ i j, j < i → i < n → -10000 ≤ sI I i j ∧ sI I i j ≤ 10000
theorem and_no {x y : Int} (hx : 0 ≤ x ∧ x < 2147483648) (hy : 0 ≤ y ∧ y < 2147483648) (h : bAnd x y = 0) (k : Nat) (h1 : y.toNat.testBit k = true) : ¬ x.toNat.testBit k = true := by
  rw [bAnd_n hx hy] at h
  intro h2
  have e : (x.toNat &&& y.toNat).testBit k = true := by rw [Nat.testBit_and, h1, h2]; rfl
  rw [show x.toNat &&& y.toNat = 0 by omega, Nat.zero_testBit] at e
  exact absurd e (by decide)
theorem and_ex {x y : Int} (hx : 0 ≤ x ∧ x < 2147483648) (hy : 0 ≤ y ∧ y < 2147483648) (h : bAnd x y ≠ 0) : ∃ k, y.toNat.testBit k = true ∧ x.toNat.testBit k = true := by
  rw [bAnd_n hx hy] at h
  by_cases e : ∃ k, y.toNat.testBit k = true ∧ x.toNat.testBit k = true
  · exact e
  · exfalso
    apply h
    have : x.toNat &&& y.toNat = 0 := by
      refine Nat.eq_of_testBit_eq (fun i => ?_)
      rw [Nat.testBit_and, Nat.zero_testBit]
      cases h1 : x.toNat.testBit i
      · rfl
      · cases h2 : y.toNat.testBit i
        · rfl
        · exact absurd ⟨i, h2, h1⟩ e
    rw [this]
    rfl
theorem lcmp0 (x y : Int) : lCmp x y = 0 ↔ x = y := by
  unfold lCmp
  split
  · omega
  · split <;> omega
theorem lCmp_sg (x y : Int) : (lCmp x y < 0 ↔ x < y) ∧ (lCmp x y = 0 ↔ x = y) ∧ (0 < lCmp x y ↔ y < x) := by
  unfold lCmp
  split
  · omega
  · split <;> omega
def GMx (C : Nat → Prop) (V : Nat → Int) (pre : List Nat) (g : Int) : Prop := (g = NV ∨ ∃ q, q ∈ pre ∧ C q ∧ g = V q) ∧ ∀ q, q ∈ pre → C q → V q ≤ g
theorem GM_0 (C : Nat → Prop) (V : Nat → Int) : GMx C V [] NV := ⟨Or.inl rfl, fun q h => absurd h (by simp)⟩
theorem GM_skip {C : Nat → Prop} {V : Nat → Int} {pre : List Nat} {g : Int} {x : Nat} (h : GMx C V pre g) (hx : ¬ C x) : GMx C V (pre ++ [x]) g := by
  refine ⟨?_, fun q hq hc => ?_⟩
  · rcases h.1 with e | ⟨q, q1, q2⟩
    · exact Or.inl e
    · exact Or.inr ⟨q, List.mem_append.mpr (Or.inl q1), q2⟩
  · rcases List.mem_append.mp hq with e | e
    · exact h.2 q e hc
    · rw [List.mem_singleton.mp e] at hc
      exact absurd hc hx
theorem GM_take {C : Nat → Prop} {V : Nat → Int} {pre : List Nat} {g z : Int} {x : Nat} (h : GMx C V pre g) (hx : C x) (hz : z = V x) : GMx C V (pre ++ [x]) (lMax g z) := by
  unfold lMax
  by_cases e : z < g
  · rw [if_pos e]
    refine ⟨?_, fun q hq hc => ?_⟩
    · rcases h.1 with e | ⟨q, q1, q2⟩
      · exact Or.inl e
      · exact Or.inr ⟨q, List.mem_append.mpr (Or.inl q1), q2⟩
    · rcases List.mem_append.mp hq with e1 | e1
      · exact h.2 q e1 hc
      · rw [List.mem_singleton.mp e1]
        omega
  · rw [if_neg e]
    refine ⟨Or.inr ⟨x, List.mem_append.mpr (Or.inr (List.mem_singleton.mpr rfl)), hx, hz⟩, fun q hq hc => ?_⟩
    rcases List.mem_append.mp hq with e1 | e1
    · have := h.2 q e1 hc
      omega
    · rw [List.mem_singleton.mp e1]
      omega
def gkC (L : Nat → Nat → Int) (wt wo : Nat → Nat → Prop) (k r : Nat) : Nat → Prop := fun q => VL wt wo (2 ^ k + q) z0 ∧ L 59 (r ^^^ q) ≠ NV
def gkV (L : Nat → Nat → Int) (n : Nat) (s : Nat → Nat → Int) (k r : Nat) : Nat → Int := fun q => Wk n s (2 ^ k + q) z0 * 1099511627776 + L 59 (r ^^^ q)
theorem xor_lt2 {r q k : Nat} (hr : r < 2 ^ k) (hq : q &&& r = q) : r ^^^ q < 2 ^ k := Nat.xor_lt_two_pow hr (by have := sub_le hq; omega)
theorem GM_end {L : Nat → Nat → Int} {wt wo : Nat → Nat → Prop} {n : Nat} {s : Nat → Nat → Int} {k r : Nat} {g : Int} (hn : n ≤ 10) (hs : ∀ i j, j < i → i < n → -10000 ≤ s i j ∧ s i j ≤ 10000) (hk : k < n) (hr : r < 2 ^ k) (hT : ∀ m, m < 2 ^ k → Tl wt wo n s m (L 59 m)) (h : GMx (gkC L wt wo k r) (gkV L n s k r) (sbs r 9) g) : Bst wt wo n s (2 ^ k + r) g := by
  have h9 : 2 ^ k ≤ 2 ^ 9 := Nat.pow_le_pow_right (by decide) (by omega)
  have hkn : 2 ^ k ≤ 2 ^ n := Nat.pow_le_pow_right (by decide) (by omega)
  have mem : ∀ q, q ∈ sbs r 9 ↔ q &&& r = q := fun q => by
    rw [sbs_mem]
    exact ⟨fun z => z.2, fun z => ⟨by have := sub_le z; omega, z⟩⟩
  have hK : ∀ p, p &&& r = p → _ := fun p hp => Tl_K hn hs (show r ^^^ p < 2 ^ n by have := xor_lt2 hr hp; omega) (hT _ (xor_lt2 hr hp))
  refine Bst_step hn hs hr hk (fun p => if L 59 (r ^^^ p) = NV then NV else L 59 (r ^^^ p) - On n (r ^^^ p)) (fun p hp => (hK p hp).1) ?_ ?_
  · rcases h.1 with e | ⟨q, q1, ⟨q2, q3⟩, q4⟩
    · exact Or.inl e
    · have hq := (mem q).mp q1
      refine Or.inr ⟨q, hq, q2, ?_, ?_⟩
      · show (if _ then _ else _) ≠ _
        rw [if_neg q3]
        exact ((hK q hq).2 q3).1
      · show g = _ + ((if _ then _ else _) + _)
        rw [if_neg q3, q4]
        unfold gkV
        omega
  · intro p hp hv hne
    have hne : (if L 59 (r ^^^ p) = NV then NV else L 59 (r ^^^ p) - On n (r ^^^ p)) ≠ NV := hne
    have q3 : L 59 (r ^^^ p) ≠ NV := fun z => by
      rw [if_pos z] at hne
      exact hne rfl
    have := h.2 p ((mem p).mpr hp) ⟨hv, q3⟩
    show _ + ((if _ then _ else _) + _) ≤ _
    rw [if_neg q3]
    unfold gkV at this
    omega
theorem bc_1 : ∀ r : Nat, r < 512 → (let x : Int := (r : Int); let y := x - bAnd (bUshr x 1) 1431655765; let z := bAnd y 858993459 + bAnd (bUshr y 2) 858993459; let u := bAnd (z + bUshr z 4) 252645135; let v := u + bUshr u 8; let t := v + bUshr v 16
    (decide (-2147483648 ≤ y) && decide (y ≤ 2147483647) && decide (-2147483648 ≤ z) && decide (z ≤ 2147483647) && decide (-2147483648 ≤ z + bUshr z 4) && decide (z + bUshr z 4 ≤ 2147483647) && decide (-2147483648 ≤ v) && decide (v ≤ 2147483647) && decide (-2147483648 ≤ t) && decide (t ≤ 2147483647) && decide (0 ≤ bAnd t 63) && decide (bAnd t 63 ≤ 9))) = true := by decide +kernel
/-- how many bits: the JDK's way -/
def bcn (x : Int) : Int := let y := x - bAnd (bUshr x 1) 1431655765; let z := bAnd y 858993459 + bAnd (bUshr y 2) 858993459; let u := bAnd (z + bUshr z 4) 252645135; let v := u + bUshr u 8; let t := v + bUshr v 16; bAnd t 63
theorem bc_2 : ∀ r : Nat, r < 512 → (Nat.beq (sbs r 9).length (2 ^ (bcn (r : Int)).toNat) && (match sbs r 9 with | [] => false | x :: _ => Nat.beq x r) && chn r (sbs r 9)) = true := by decide +kernel
theorem bcn_f {r : Nat} (h : r < 512) : (sbs r 9).length = 2 ^ (bcn (r : Int)).toNat ∧ (∃ l, sbs r 9 = r :: l) ∧ chn r (sbs r 9) = true ∧ 0 ≤ bcn (r : Int) ∧ bcn (r : Int) ≤ 9 := by
  have h1 := bc_2 r h
  rw [Bool.and_eq_true, Bool.and_eq_true] at h1
  have h2 := bc_1 r h
  simp only [Bool.and_eq_true, decide_eq_true_eq] at h2
  refine ⟨Nat.eq_of_beq_eq_true h1.1.1, ?_, h1.2, h2.1.2, h2.2⟩
  have h3 := h1.1.2
  revert h3
  cases sbs r 9 with
  | nil => intro h; exact absurd h Bool.false_ne_true
  | cons x l =>
    intro h
    exact ⟨l, by rw [Nat.eq_of_beq_eq_true h]⟩
theorem chn_t {m x : Nat} {l : List Nat} (h : chn m (x :: l) = true) : chn m l = true ∧ ∀ y l', l = y :: l' → y = (x - 1) &&& m ∧ 1 ≤ x := by
  unfold chn at h
  rw [Bool.and_eq_true] at h
  refine ⟨h.2, fun y l' e => ?_⟩
  have h1 := h.1
  rw [e] at h1
  rw [Bool.and_eq_true] at h1
  exact ⟨Nat.eq_of_beq_eq_true h1.1, Nat.le_of_ble_eq_true h1.2⟩
theorem bAnd_15 (x : Int) : bAnd (w32 x) 15 = x % 16 := by
  unfold bAnd w32
  have h1 : (Int32.ofInt (Int.bmod x 4294967296)) = Int32.ofInt x := by
    apply Int32.toBitVec_inj.mp
    show BitVec.ofInt 32 (Int.bmod x 4294967296) = BitVec.ofInt 32 x
    apply BitVec.eq_of_toInt_eq
    rw [BitVec.toInt_ofInt, BitVec.toInt_ofInt]
    exact Int.bmod_bmod
  rw [h1, show Int32.ofInt 15 = 15 from rfl, pk_and (Int32.ofInt x) (m := 15) 4 (by decide)]
  have h2 : (Int32.ofInt x).toBitVec = BitVec.ofInt 32 x := rfl
  rw [nI_toInt (by omega), h2, BitVec.toNat_ofInt]
  omega
