theorem nar_char {x : Int} (h : 0 ≤ x ∧ x ≤ 65535) : narrow .char (.int (Int32.ofInt x)) = .int (Int32.ofInt x) := by
  have e : Int32.ofInt x = nI x.toNat := by
    unfold nI
    rw [← Int32.ofInt_eq_ofNat]
    congr 1
    omega
  rw [e]
  exact (pk_charN (by omega)).1
theorem nar_byte {x : Int} (h : -128 ≤ x ∧ x ≤ 127) : narrow .byte (.int (Int32.ofInt x)) = .int (Int32.ofInt x) := by
  have e : (Int8.ofInt x).toInt32 = Int32.ofInt x := by8 h.1 h.2
  rw [← e]
  show Value.int ((Int8.ofInt x).toInt32.toInt8.toInt32) = _
  rw [Int8.toInt8_toInt32]
