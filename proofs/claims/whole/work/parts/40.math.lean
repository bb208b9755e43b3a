-- THE VERSION that holds on d as known on k: of those told on k or before, from a day not after d, the one with the greatest day, the last told of like ones
def bv (ro fi fr to : Nat → Int) (r f d k : Int) : Nat → Int
  | 0 => -1
  | n + 1 => if ro n = r ∧ fi n = f ∧ to n ≤ k ∧ fr n ≤ d ∧ (bv ro fi fr to r f d k n < 0 ∨ fr (bv ro fi fr to r f d k n).toNat ≤ fr n) then (n : Int) else bv ro fi fr to r f d k n
theorem bv_s (ro fi fr to : Nat → Int) (r f d k : Int) (n : Nat) : bv ro fi fr to r f d k (n + 1) = if ro n = r ∧ fi n = f ∧ to n ≤ k ∧ fr n ≤ d ∧ (bv ro fi fr to r f d k n < 0 ∨ fr (bv ro fi fr to r f d k n).toNat ≤ fr n) then (n : Int) else bv ro fi fr to r f d k n := rfl
theorem bv_rg (ro fi fr to : Nat → Int) (r f d k : Int) : ∀ n, -1 ≤ bv ro fi fr to r f d k n ∧ bv ro fi fr to r f d k n < (n : Int)
  | 0 => by show (-1 : Int) ≤ -1 ∧ (-1 : Int) < 0; omega
  | n + 1 => by
    have h := bv_rg ro fi fr to r f d k n
    rw [bv_s]
    split <;> omega
