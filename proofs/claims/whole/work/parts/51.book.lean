-- A BOOK: its lines (kd kinds, sb where a line's steps end, nu its number)
def sof (sb : Nat → Int) : Nat → Int
  | 0 => 0
  | n + 1 => sb n
def hld (kd sb : Nat → Int) (T : Nat → Bool) (n : Nat) : Bool := (evs kd T (sof sb n).toNat (sb n - sof sb n).toNat).headD false
def lsm (kd sb nu : Nat → Int) (T : Nat → Bool) : Nat → Int
  | 0 => 0
  | n + 1 => if hld kd sb T n = true then lsm kd sb nu T n + nu n else lsm kd sb nu T n
def BOK (N : Int) (kd sb nu fi : Nat → Int) : Prop := (0 ≤ N ∧ N ≤ 10) ∧ ∀ n : Nat, (n : Int) < N → (0 ≤ sof sb n ∧ sof sb n ≤ sb n ∧ sb n ≤ 250) ∧ WFs kd (sof sb n).toNat (sb n - sof sb n).toNat ∧ (-1000 ≤ nu n ∧ nu n ≤ 1000) ∧ ∀ j : Nat, sof sb n ≤ j → (j : Int) < sb n → 0 ≤ fi j ∧ fi j ≤ 5
theorem lsm_rg {N : Int} {kd sb nu fi : Nat → Int} (T : Nat → Bool) (h : BOK N kd sb nu fi) : ∀ n : Nat, (n : Int) ≤ N → -1000 * (n : Int) ≤ lsm kd sb nu T n ∧ lsm kd sb nu T n ≤ 1000 * (n : Int)
  | 0, _ => by show -1000 * ((0 : Nat) : Int) ≤ 0 ∧ (0 : Int) ≤ 1000 * ((0 : Nat) : Int); omega
  | n + 1, hn => by
    have ih := lsm_rg T h n (by omega)
    have h2 := (h.2 n (by omega)).2.2.1
    show -1000 * ((n + 1 : Nat) : Int) ≤ (if hld kd sb T n = true then lsm kd sb nu T n + nu n else lsm kd sb nu T n) ∧ (if hld kd sb T n = true then lsm kd sb nu T n + nu n else lsm kd sb nu T n) ≤ 1000 * ((n + 1 : Nat) : Int)
    split <;> omega
