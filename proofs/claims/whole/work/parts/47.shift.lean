theorem s63 : ∀ n : Nat, n < 64 → (((Int32.ofInt (n : Int)).toInt64 &&& 63).toBitVec.smod 64).toNat = n := by decide
theorem s63i {y : Int} (h0 : 0 ≤ y) (h1 : y < 64) : (((Int32.ofInt y).toInt64 &&& 63).toBitVec.smod 64).toNat = y.toNat := by
  have := s63 y.toNat (by omega)
  rwa [show ((y.toNat : Nat) : Int) = y by omega] at this
theorem lShr_n {x y : Int} (hx : i64 x) (h0 : 0 ≤ y) (h1 : y < 64) : lShr x y = x / ((2 ^ y.toNat : Nat) : Int) := by
  unfold lShr
  show (BitVec.sshiftRight (Int64.ofInt x).toBitVec (((Int32.ofInt y).toInt64 &&& 63).toBitVec.smod 64).toNat).toInt = _
  rw [s63i h0 h1, BitVec.toInt_sshiftRight]
  show (Int64.ofInt x).toInt >>> y.toNat = _
  rw [t64 hx, Int.shiftRight_eq_div_pow]
theorem lShl_n {x y : Int} (hx : i64 x) (h0 : 0 ≤ y) (h1 : y < 64) (hr : i64 (x * ((2 ^ y.toNat : Nat) : Int))) : lShl x y = x * ((2 ^ y.toNat : Nat) : Int) := by
  have e : Int64.ofInt x <<< ((Int32.ofInt y).toInt64 &&& 63) = Int64.ofInt (x * ((2 ^ y.toNat : Nat) : Int)) := by
    apply Int64.toBitVec_inj.mp
    show (Int64.ofInt x).toBitVec <<< (((Int32.ofInt y).toInt64 &&& 63).toBitVec.smod 64).toNat = BitVec.ofInt 64 (x * ((2 ^ y.toNat : Nat) : Int))
    rw [s63i h0 h1]
    show BitVec.ofInt 64 x <<< y.toNat = _
    rw [BitVec.shiftLeft_eq_mul_twoPow, BitVec.ofInt_mul]
    congr 1
    rw [BitVec.ofInt_natCast]
    apply BitVec.eq_of_toNat_eq
    rw [BitVec.toNat_twoPow, BitVec.toNat_ofNat]
  unfold lShl
  rw [e, t64 hr]
theorem lUshr_1 {x : Int} (h0 : 0 ≤ x) (h : x < 9223372036854775808) : lUshr x 1 = x / 2 := by
  unfold lUshr
  have e : ((Int64.ofInt x).toUInt64 >>> ((Int32.ofInt 1).toInt64.toUInt64 &&& Int64.toUInt64 63)).toInt64.toBitVec = BitVec.ofNat 64 (x.toNat / 2) := by
    show (Int64.ofInt x).toBitVec >>> (((Int32.ofInt 1).toInt64.toUInt64 &&& Int64.toUInt64 63).toBitVec % 64) = _
    rw [lbv h0 h]
    have e2 : (((Int32.ofInt 1).toInt64.toUInt64 &&& Int64.toUInt64 63).toBitVec % 64) = 1#64 := by decide
    rw [e2]
    apply BitVec.eq_of_toNat_eq
    show (BitVec.ofNat 64 x.toNat).toNat >>> 1 = _
    rw [BitVec.toNat_ofNat, BitVec.toNat_ofNat, Nat.mod_eq_of_lt (by omega), Nat.mod_eq_of_lt (by omega)]
    rfl
  rw [lti e (by omega)]
  omega
