-- SUMS
def sm (f : Nat → Int) : Nat → Int
  | 0 => 0
  | n + 1 => sm f n + f n
theorem sm_s (f : Nat → Int) (n : Nat) : sm f (n + 1) = sm f n + f n := rfl
theorem sm_c {f g : Nat → Int} : ∀ {n : Nat}, (∀ i, i < n → f i = g i) → sm f n = sm g n
  | 0, _ => rfl
  | n + 1, h => by rw [sm_s, sm_s, sm_c (fun i hi => h i (by omega)), h n (by omega)]
theorem sm_add {f g h : Nat → Int} : ∀ {n : Nat}, (∀ i, i < n → h i = f i + g i) → sm h n = sm f n + sm g n
  | 0, _ => rfl
  | n + 1, e => by
    rw [sm_s, sm_s, sm_s, sm_add (fun i hi => e i (by omega)), e n (by omega)]
    omega
theorem sm_0 {f : Nat → Int} : ∀ {n : Nat}, (∀ i, i < n → f i = 0) → sm f n = 0
  | 0, _ => rfl
  | n + 1, h => by rw [sm_s, sm_0 (fun i hi => h i (by omega)), h n (by omega)]; rfl
theorem sm_rg {f : Nat → Int} {a : Int} : ∀ {n : Nat}, (∀ i, i < n → -a ≤ f i ∧ f i ≤ a) → -(a * (n : Int)) ≤ sm f n ∧ sm f n ≤ a * (n : Int)
  | 0, _ => by simp [sm]
  | n + 1, h => by
    have h1 := sm_rg (n := n) (fun i hi => h i (by omega))
    have h2 := h n (by omega)
    have e : a * ((n + 1 : Nat) : Int) = a * (n : Int) + a := by
      rw [show ((n + 1 : Nat) : Int) = (n : Int) + 1 by omega, Int.mul_add, Int.mul_one]
    rw [sm_s, e]
    omega
theorem sm_shift (f : Nat → Int) : ∀ n : Nat, sm f (n + 1) = f 0 + sm (fun i => f (i + 1)) n
  | 0 => by simp [sm]
  | n + 1 => by
    rw [sm_s, sm_shift f n, sm_s]
    omega
theorem sm_rev : ∀ (n : Nat) (f : Nat → Int), sm f n = sm (fun i => f (n - 1 - i)) n
  | 0, _ => rfl
  | n + 1, f => by
    rw [sm_shift (fun i => f (n + 1 - 1 - i)) n, sm_s, sm_rev n f]
    have h : sm (fun i => f (n + 1 - 1 - (i + 1))) n = sm (fun i => f (n - 1 - i)) n := sm_c (fun i hi => by
      show f _ = f _
      rw [show n + 1 - 1 - (i + 1) = n - 1 - i by omega])
    rw [h]
    show _ + f n = f (n + 1 - 1 - 0) + _
    rw [show n + 1 - 1 - 0 = n by omega]
    omega
theorem sm_swap (f : Nat → Nat → Int) (m : Nat) : ∀ n : Nat, sm (fun i => sm (fun j => f i j) m) n = sm (fun j => sm (fun i => f i j) n) m
  | 0 => (sm_0 (n := m) (f := fun j => sm (fun i => f i j) 0) (fun i _ => rfl)).symm
  | n + 1 => by
    rw [sm_s, sm_swap f m n]
    exact (sm_add (fun i _ => rfl)).symm
theorem sm_cut (g : Nat → Int) (i : Nat) : ∀ n : Nat, i ≤ n → sm (fun j => if j < i then g j else 0) n = sm g i
  | 0, h => by
    rw [show i = 0 by omega]
    rfl
  | n + 1, h => by
    by_cases hc : i = n + 1
    · rw [hc]
      exact sm_c (fun j hj => if_pos hj)
    · rw [sm_s, sm_cut g i n (by omega), if_neg (by omega)]
      omega
/-- over the pairs j < i < n -/
def tri (f : Nat → Nat → Int) (n : Nat) : Int := sm (fun i => sm (fun j => f i j) i) n
theorem tri_c {f g : Nat → Nat → Int} {n : Nat} (h : ∀ i j, j < i → i < n → f i j = g i j) : tri f n = tri g n :=
  sm_c (fun i hi => sm_c (fun j hj => h i j hj hi))
theorem tri_add {f g h : Nat → Nat → Int} {n : Nat} (e : ∀ i j, j < i → i < n → h i j = f i j + g i j) : tri h n = tri f n + tri g n :=
  sm_add (fun i hi => sm_add (fun j hj => e i j hj hi))
theorem tri_rect (f : Nat → Nat → Int) (n : Nat) : tri f n = sm (fun i => sm (fun j => if j < i then f i j else 0) n) n :=
  sm_c (fun i hi => (sm_cut (fun j => f i j) i n (by omega)).symm)
theorem tri_rev {f g : Nat → Nat → Int} {n : Nat} (h : ∀ i j, j < i → i < n → f i j = g (n - 1 - j) (n - 1 - i)) : tri f n = tri g n := by
  rw [tri_rect, tri_rect, sm_swap, sm_rev n]
  refine sm_c (fun i hi => ?_)
  rw [sm_rev n]
  refine sm_c (fun j hj => ?_)
  show (if n - 1 - i < n - 1 - j then f (n - 1 - j) (n - 1 - i) else 0) = if j < i then g i j else 0
  by_cases hc : j < i
  · rw [if_pos hc, if_pos (by omega), h _ _ (by omega) (by omega), show n - 1 - (n - 1 - i) = i by omega, show n - 1 - (n - 1 - j) = j by omega]
  · rw [if_neg hc, if_neg (by omega)]
theorem tri_rg {f : Nat → Nat → Int} {n : Nat} (hn : n ≤ 10) (h : ∀ i j, j < i → i < n → -10000 ≤ f i j ∧ f i j ≤ 10000) : -1000000 ≤ tri f n ∧ tri f n ≤ 1000000 := by
  have h1 : ∀ i, i < n → -100000 ≤ sm (fun j => f i j) i ∧ sm (fun j => f i j) i ≤ 100000 := fun i hi => by
    have := sm_rg (f := fun j => f i j) (a := 10000) (n := i) (fun j hj => h i j hj hi)
    omega
  have := sm_rg (f := fun i => sm (fun j => f i j) i) (a := 100000) (n := n) h1
  unfold tri
  omega
-- MASKS
theorem tb_add {t r : Nat} (hr : r < 2 ^ t) (i : Nat) : (2 ^ t + r).testBit i = (decide (i = t) || r.testBit i) := by
  rcases Nat.lt_trichotomy i t with h | h | h
  · rw [Nat.testBit_two_pow_add_gt h, decide_eq_false (by omega)]
    rfl
  · rw [h, Nat.testBit_two_pow_add_eq, Nat.testBit_lt_two_pow hr, decide_eq_true rfl]
    rfl
  · have h1 : 2 ^ (t + 1) ≤ 2 ^ i := Nat.pow_le_pow_right (by omega) h
    rw [Nat.pow_succ] at h1
    rw [Nat.testBit_lt_two_pow (show 2 ^ t + r < 2 ^ i by omega), Nat.testBit_lt_two_pow (show r < 2 ^ i by omega), decide_eq_false (by omega)]
    rfl
theorem mk_mask (p : Nat → Bool) : ∀ n : Nat, ∃ a, a < 2 ^ n ∧ ∀ i, a.testBit i = (decide (i < n) && p i)
  | 0 => ⟨0, by decide, fun i => by rw [Nat.zero_testBit, decide_eq_false (by omega)]; rfl⟩
  | n + 1 => by
    obtain ⟨a, h1, h2⟩ := mk_mask p n
    cases hp : p n
    · refine ⟨a, by rw [Nat.pow_succ]; omega, fun i => ?_⟩
      rw [h2 i]
      by_cases hi : i = n
      · rw [hi, hp]
        simp
      · rw [show decide (i < n) = decide (i < n + 1) from decide_eq_decide.mpr (by omega)]
    · refine ⟨2 ^ n + a, by rw [Nat.pow_succ]; omega, fun i => ?_⟩
      rw [tb_add h1, h2 i]
      by_cases hi : i = n
      · rw [hi, hp]
        simp
      · rw [show decide (i < n) = decide (i < n + 1) from decide_eq_decide.mpr (by omega), decide_eq_false hi]
        rfl
theorem tb_bd {m n i : Nat} (h : m < 2 ^ n) (hi : m.testBit i = true) : i < n := by
  rcases Nat.lt_or_ge i n with h1 | h1
  · exact h1
  · have h2 : 2 ^ n ≤ 2 ^ i := Nat.pow_le_pow_right (by omega) h1
    rw [Nat.testBit_lt_two_pow (show m < 2 ^ i by omega)] at hi
    exact absurd hi (by decide)
theorem tb_sub {p r : Nat} (h : p &&& r = p) {i : Nat} (hi : p.testBit i = true) : r.testBit i = true := by
  rw [← h, Nat.testBit_and] at hi
  revert hi
  cases r.testBit i
  · simp
  · intro _
    rfl
theorem sub_tb {p r : Nat} (h : ∀ i, p.testBit i = true → r.testBit i = true) : p &&& r = p := by
  refine Nat.eq_of_testBit_eq (fun i => ?_)
  rw [Nat.testBit_and]
  have := h i
  cases h1 : p.testBit i
  · rfl
  · rw [this h1]
    rfl
theorem sub_le {p r : Nat} (h : p &&& r = p) : p ≤ r := by
  rw [← h]
  exact Nat.and_le_right
theorem tb_xs {p r : Nat} (h : p &&& r = p) (i : Nat) : (r ^^^ p).testBit i = (r.testBit i && !p.testBit i) := by
  rw [Nat.testBit_xor]
  have := tb_sub h (i := i)
  revert this
  cases p.testBit i <;> cases r.testBit i <;> simp
theorem tb_full (n i : Nat) : (2 ^ n - 1).testBit i = decide (i < n) := Nat.testBit_two_pow_sub_one n i
