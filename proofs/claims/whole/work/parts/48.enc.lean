-- a stack of truths as a number: the top is bit 0
def enc : List Bool → Nat
  | [] => 0
  | x :: r => 2 * enc r + (if x = true then 1 else 0)
theorem enc_lt : ∀ s : List Bool, enc s < 2 ^ s.length
  | [] => by decide
  | x :: r => by
    have h := enc_lt r
    rw [List.length_cons, Nat.pow_succ]
    unfold enc
    split <;> omega
theorem enc_63 {s : List Bool} (h : s.length ≤ 60) : enc s < 1152921504606846977 := by
  have h1 := enc_lt s
  have h2 : 2 ^ s.length ≤ 2 ^ 60 := Nat.pow_le_pow_right (by decide) h
  omega
def b2i (t : Bool) : Int := if t = true then 1 else 0
theorem or_b (h : Nat) {b : Nat} (hb : b < 2) : 2 * h ||| b = 2 * h + b := by
  have := Nat.shiftLeft_add_eq_or_of_lt (i := 1) (b := b) (by omega) h
  rw [Nat.shiftLeft_eq] at this
  rw [show 2 * h = h * 2 ^ 1 by omega]
  exact this.symm
theorem xor_0 (h : Nat) : 2 * h ^^^ 1 = 2 * h + 1 := by
  apply Nat.eq_of_testBit_eq
  intro i
  cases i with
  | zero => simp [Nat.testBit_xor]
  | succ i =>
    rw [Nat.testBit_xor, Nat.testBit_succ, Nat.testBit_succ, Nat.testBit_succ]
    rw [show 2 * h / 2 = h by omega, show (2 * h + 1) / 2 = h by omega]
    simp
theorem xor_1 (h : Nat) : (2 * h + 1) ^^^ 1 = 2 * h := by rw [← xor_0, Nat.xor_assoc, Nat.xor_self, Nat.xor_zero]
theorem en_push {s : List Bool} (h : s.length ≤ 59) (t : Bool) : lOr (lShl ((enc s : Nat) : Int) 1) (b2i t) = ((enc (t :: s) : Nat) : Int) := by
  have h1 := enc_63 (show s.length ≤ 60 by omega)
  have h2 : lShl ((enc s : Nat) : Int) 1 = ((2 * enc s : Nat) : Int) := by
    rw [lShl_n ⟨by omega, by omega⟩ (by decide) (by decide) (by show i64 (((enc s : Nat) : Int) * 2); exact ⟨by omega, by omega⟩)]
    show ((enc s : Nat) : Int) * 2 = _
    omega
  rw [h2, lOr_n ⟨by omega, by omega⟩ (by unfold b2i; split <;> omega)]
  cases t
  · show (((((2 * enc s : Nat) : Int)).toNat ||| 0 : Nat) : Int) = ((2 * enc s + 0 : Nat) : Int)
    rw [Int.toNat_natCast, Nat.or_zero]; rfl
  · show (((((2 * enc s : Nat) : Int)).toNat ||| 1 : Nat) : Int) = ((2 * enc s + 1 : Nat) : Int)
    rw [Int.toNat_natCast, or_b _ (by decide)]
theorem en_not {r : List Bool} {x : Bool} (h : r.length ≤ 59) : lXor ((enc (x :: r) : Nat) : Int) 1 = ((enc ((!x) :: r) : Nat) : Int) := by
  have h1 := enc_63 (s := x :: r) (by simp; omega)
  rw [lXor_n ⟨by omega, by omega⟩ ⟨by decide, by decide⟩, Int.toNat_natCast]
  cases x
  · show ((2 * enc r + 0 ^^^ 1 : Nat) : Int) = ((2 * enc r + 1 : Nat) : Int)
    rw [Nat.add_zero, xor_0]
  · show (((2 * enc r + 1) ^^^ 1 : Nat) : Int) = ((2 * enc r + 0 : Nat) : Int)
    rw [xor_1]; rfl
theorem en_half {r : List Bool} {x : Bool} (h : r.length ≤ 59) : lUshr ((enc (x :: r) : Nat) : Int) 1 = ((enc r : Nat) : Int) := by
  have h1 := enc_63 (s := x :: r) (by simp; omega)
  rw [lUshr_1 (by omega) (by omega)]
  show ((2 * enc r + (if x = true then 1 else 0) : Nat) : Int) / 2 = _
  split <;> omega
theorem en_top {r : List Bool} {x : Bool} (h : r.length ≤ 59) : lAnd ((enc (x :: r) : Nat) : Int) 1 = b2i x := by
  have h1 := enc_63 (s := x :: r) (by simp; omega)
  rw [lAnd_1 ⟨by omega, by omega⟩]
  show ((2 * enc r + (if x = true then 1 else 0) : Nat) : Int) % 2 = if x = true then 1 else 0
  split <;> omega
theorem en_or {r : List Bool} {x y : Bool} (h : r.length ≤ 58) : lOr (lUshr ((enc (x :: y :: r) : Nat) : Int) 1) (lAnd ((enc (x :: y :: r) : Nat) : Int) 1) = ((enc ((y || x) :: r) : Nat) : Int) := by
  rw [en_half (by simp; omega), en_top (by simp; omega)]
  have h1 := enc_63 (s := y :: r) (by simp; omega)
  rw [lOr_n ⟨by omega, by omega⟩ (by unfold b2i; split <;> omega), Int.toNat_natCast]
  cases x <;> cases y
  · show ((2 * enc r + 0 ||| 0 : Nat) : Int) = ((2 * enc r + 0 : Nat) : Int)
    rw [Nat.or_zero]
  · show ((2 * enc r + 1 ||| 0 : Nat) : Int) = ((2 * enc r + 1 : Nat) : Int)
    rw [Nat.or_zero]
  · show ((2 * enc r + 0 ||| 1 : Nat) : Int) = ((2 * enc r + 1 : Nat) : Int)
    rw [Nat.add_zero, or_b _ (by decide)]
  · show (((2 * enc r + 1) ||| 1 : Nat) : Int) = ((2 * enc r + 1 : Nat) : Int)
    rw [← or_b _ (by decide : 1 < 2), Nat.or_assoc, Nat.or_self]
theorem m2_bits : ∀ i : Nat, i < 64 → (BitVec.ofInt 64 (-2)).getLsbD i = decide (i ≠ 0) := by decide
theorem en_and {r : List Bool} {x y : Bool} (h : r.length ≤ 58) : lAnd (lUshr ((enc (x :: y :: r) : Nat) : Int) 1) (lOr ((enc (x :: y :: r) : Nat) : Int) (-2)) = ((enc ((y && x) :: r) : Nat) : Int) := by
  rw [en_half (by simp; omega)]
  have h1 := enc_63 (s := x :: y :: r) (by simp; omega)
  have h2 := enc_63 (s := y :: r) (by simp; omega)
  have h3 := enc_63 (s := (y && x) :: r) (by simp; omega)
  unfold lAnd lOr
  rw [Int64.ofInt_toInt]
  refine lti ?_ (by omega)
  rw [Int64.toBitVec_and, Int64.toBitVec_or, lbv (by omega) (by omega), lbv (by omega) (by omega), Int.toNat_natCast, Int.toNat_natCast]
  show BitVec.ofNat 64 (enc (y :: r)) &&& (BitVec.ofNat 64 (enc (x :: y :: r)) ||| BitVec.ofInt 64 (-2)) = BitVec.ofNat 64 (enc ((y && x) :: r))
  apply BitVec.eq_of_getLsbD_eq
  intro i hi
  rw [BitVec.getLsbD_and, BitVec.getLsbD_or, m2_bits i hi, BitVec.getLsbD_ofNat, BitVec.getLsbD_ofNat, BitVec.getLsbD_ofNat]
  cases i with
  | zero =>
    simp only [enc, Nat.testBit_zero]
    cases x <;> cases y <;> simp <;> omega
  | succ i =>
    simp only [Nat.testBit_succ]
    have e1 : enc (y :: r) / 2 = enc r := by show (2 * enc r + (if y = true then 1 else 0)) / 2 = enc r; split <;> omega
    have e2 : enc ((y && x) :: r) / 2 = enc r := by show (2 * enc r + (if (y && x) = true then 1 else 0)) / 2 = enc r; split <;> omega
    rw [e1, e2]
    simp
