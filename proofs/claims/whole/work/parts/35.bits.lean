-- BYTES
def srt (c : Int) : Int := if 97 ≤ c ∧ c ≤ 122 then 2 else if 48 ≤ c ∧ c ≤ 57 then 3 else if c = 59 ∨ c = 40 ∨ c = 41 then 4 else if c = 32 ∨ c = 10 then 1 else 0
/-- the j-th byte of an int, the highest first -/
def by4 (x : Int) (j : Nat) : Int := match j with
  | 0 => x / 16777216 % 256
  | 1 => x / 65536 % 256
  | 2 => x / 256 % 256
  | _ => x % 256
theorem by4_rg (x : Int) (j : Nat) : 0 ≤ by4 x j ∧ by4 x j ≤ 255 := by
  unfold by4
  split <;> omega
theorem tbn {x : Int} (h : i32 x) : ((Int32.ofInt x).toBitVec.toNat : Int) = x % 4294967296 := by
  have h1 : (Int32.ofInt x).toBitVec = BitVec.ofInt 32 x := rfl
  rw [h1, BitVec.toNat_ofInt]
  omega
theorem and255 (y : Int32) : (y &&& 255).toInt = ((y.toBitVec.toNat % 256 : Nat) : Int) := by
  rw [pk_and y (m := 255) 8 (by decide)]
  exact nI_toInt (by omega)
theorem and255_i (z : Int) : bAnd z 255 = (((Int32.ofInt z).toBitVec.toNat % 256 : Nat) : Int) := and255 _
theorem ushr_k (x s : Int) (k : Nat) (hs : (((Int32.ofInt s).toUInt32 &&& Int32.toUInt32 31).toBitVec % 32).toNat = k) (h : i32 x) : bAnd (bUshr x s) 255 = (x % 4294967296) / ((2 ^ k : Nat) : Int) % 256 := by
  unfold bUshr
  rw [and255_i, Int32.ofInt_toInt, pk_ushr _ _ k hs]
  have h1 := tbn h
  rw [← h1, Int.natCast_emod, Int.natCast_ediv]
  rfl
theorem shr_k (x s : Int) (k : Nat) (hs : ((Int32.ofInt s &&& 31).toBitVec.smod 32).toNat = k) (h : i32 x) : bAnd (bShr x s) 255 = x / ((2 ^ k : Nat) : Int) % 256 := by
  unfold bShr
  rw [and255_i, Int32.ofInt_toInt]
  have h1 := pk_shr (Int32.ofInt x) (Int32.ofInt s &&& 31) k hs
  rw [t32 h] at h1
  have h2 : i32 (x >>> k) := by rw [← h1]; exact i32_of _
  have h3 : Int32.ofInt x >>> (Int32.ofInt s &&& 31) = Int32.ofInt (x >>> k) := by rw [← h1, Int32.ofInt_toInt]
  rw [h3]
  have h4 := tbn h2
  rw [Int.shiftRight_eq_div_pow] at h4 h3 ⊢
  omega
theorem ub0 {x : Int} (h : i32 x) : bAnd (bUshr x 24) 255 = by4 x 0 := by rw [ushr_k x 24 24 (by decide) h]; show _ = x / 16777216 % 256; omega
theorem ub1 {x : Int} (h : i32 x) : bAnd (bUshr x 16) 255 = by4 x 1 := by rw [ushr_k x 16 16 (by decide) h]; show _ = x / 65536 % 256; omega
theorem ub2 {x : Int} (h : i32 x) : bAnd (bUshr x 8) 255 = by4 x 2 := by rw [ushr_k x 8 8 (by decide) h]; show _ = x / 256 % 256; omega
theorem ub3 {x : Int} (h : i32 x) : bAnd (bUshr x 0) 255 = by4 x 3 := by rw [ushr_k x 0 0 (by decide) h]; show _ = x % 256; omega
theorem sb0 {x : Int} (h : i32 x) : bAnd (bShr x 24) 255 = by4 x 0 := by rw [shr_k x 24 24 (by decide) h]; show _ = x / 16777216 % 256; omega
theorem sb1 {x : Int} (h : i32 x) : bAnd (bShr x 16) 255 = by4 x 1 := by rw [shr_k x 16 16 (by decide) h]; show _ = x / 65536 % 256; omega
theorem sb2 {x : Int} (h : i32 x) : bAnd (bShr x 8) 255 = by4 x 2 := by rw [shr_k x 8 8 (by decide) h]; show _ = x / 256 % 256; omega
theorem sb3 {x : Int} (h : i32 x) : bAnd (bShr x 0) 255 = by4 x 3 := by rw [shr_k x 0 0 (by decide) h]; show _ = x % 256; omega
