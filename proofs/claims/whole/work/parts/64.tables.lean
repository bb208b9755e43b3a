-- THE TABLES over all sets of rows
theorem sm_one (i : Nat) (a : Int) : ∀ n : Nat, i < n → sm (fun k => if k = i then a else 0) n = a
  | 0, h => absurd h (by omega)
  | n + 1, h => by
    rw [sm_s]
    by_cases e : i = n
    · rw [sm_0 (fun k hk => if_neg (by omega)), if_pos e.symm]
      omega
    · rw [sm_one i a n (by omega), if_neg (by omega)]
      omega
theorem sm_bit {j rest n : Nat} (f : Nat → Int) (hr : rest < 2 ^ j) (hj : j < n) : sm (fun k => if (2 ^ j + rest).testBit k = true then f k else 0) n = sm (fun k => if rest.testBit k = true then f k else 0) n + f j := by
  rw [sm_add (f := fun k => if rest.testBit k = true then f k else 0) (g := fun k => if k = j then f j else 0) (fun k _ => ?_), sm_one j (f j) n hj]
  show (if _ then _ else _) = (if _ then _ else _) + if _ then _ else _
  rw [tb_add hr]
  by_cases e : k = j
  · rw [e, Nat.testBit_lt_two_pow hr, decide_eq_true rfl]
    simp
  · rw [decide_eq_false e, Bool.false_or, if_neg e, Int.add_zero]
theorem On_add {n j rest : Nat} (hr : rest < 2 ^ j) (hj : j < n) : On n (2 ^ j + rest) = On n rest + ((16 ^ j : Nat) : Int) := by
  have := sm_bit (fun k => ((1 : Nat) : Int) * ((16 ^ k : Nat) : Int)) hr hj
  unfold On Dk
  rw [this]
  show _ + (1 : Int) * _ = _
  rw [Int.one_mul]
theorem On_0 (n : Nat) : On n 0 = 0 := sm_0 (fun i _ => if_neg (fun z => absurd z (by rw [Nat.zero_testBit]; decide)))
theorem On_rg {n : Nat} (hn : n ≤ 10) (m : Nat) : 0 ≤ On n m ∧ On n m < 1099511627776 := by
  have h1 := Dk_rg (m := m) (c := fun _ => 1) (fun _ _ => by decide) n
  have h2 := p16_10 hn
  unfold On
  omega
/-- only bits below j: the sum ends there -/
theorem On_lt {n j m : Nat} (hm : m < 2 ^ j) (hj : j ≤ n) : 0 ≤ On n m ∧ On n m < ((16 ^ j : Nat) : Int) := by
  have e : On n m = On j m := by
    have : ∀ d, On (j + d) m = On j m := fun d => by
      induction d with
      | zero => rfl
      | succ d ih =>
        show Dk (j + d + 1) m _ = _
        rw [Dk_s, if_neg (fun z => by have := tb_bd hm z; omega), Int.add_zero]
        exact ih
    have := this (n - j)
    rwa [show j + (n - j) = n by omega] at this
  have h1 := Dk_rg (m := m) (c := fun _ => 1) (fun _ _ => by decide) j
  rw [e]
  unfold On
  omega
def bnd (s : Nat → Nat → Int) (i m : Nat) : Int := sm (fun j => if m.testBit j = true then s i j else 0) i
theorem bnd_add {s : Nat → Nat → Int} {i j rest : Nat} (hr : rest < 2 ^ j) (hj : j < i) : bnd s i (2 ^ j + rest) = bnd s i rest + s i j := sm_bit (fun k => s i k) hr hj
theorem bnd_0 (s : Nat → Nat → Int) (i : Nat) : bnd s i 0 = 0 := sm_0 (fun j _ => if_neg (fun z => absurd z (by rw [Nat.zero_testBit]; decide)))
theorem bnd_rg {s : Nat → Nat → Int} {i : Nat} (m : Nat) (hi : i ≤ 10) (hs : ∀ j, j < i → -10000 ≤ s i j ∧ s i j ≤ 10000) : -100000 ≤ bnd s i m ∧ bnd s i m ≤ 100000 := by
  have := sm_rg (f := fun j => if m.testBit j = true then s i j else 0) (a := 10000) (n := i) (fun j hj => by
    have := hs j hj
    show -10000 ≤ (if _ then _ else _) ∧ (if _ then _ else _) ≤ (10000 : Int)
    split
    · exact this
    · omega)
  unfold bnd
  omega
theorem Wk_0 (n : Nat) (s : Nat → Nat → Int) (c : Nat → Nat) : Wk n s 0 c = 0 := sm_0 (fun i _ => sm_0 (fun j _ => if_neg (fun z => absurd z.1 (by rw [Nat.zero_testBit]; decide))))
theorem Wk_add {n : Nat} {s : Nat → Nat → Int} {i rest : Nat} (hr : rest < 2 ^ i) (hi : i < n) : Wk n s (2 ^ i + rest) z0 = Wk n s rest z0 + bnd s i rest := by
  have h1 : tri (fun a j => if a = i then (if rest.testBit j = true then s i j else 0) else 0) n = bnd s i rest := by
    have : tri (fun a j => if a = i then (if rest.testBit j = true then s i j else 0) else 0) n = sm (fun a => if a = i then bnd s i rest else 0) n := by
      refine sm_c (fun a _ => ?_)
      show sm (fun j => if a = i then (if rest.testBit j = true then s i j else 0) else 0) a = if a = i then bnd s i rest else 0
      by_cases e : a = i
      · rw [if_pos e, e]
        exact sm_c (fun j _ => if_pos rfl)
      · rw [if_neg e]
        exact sm_0 (fun j _ => if_neg e)
    rw [this, sm_one i _ n hi]
  rw [← h1]
  refine tri_add (fun a j hj ha => ?_)
  show (if _ then _ else _) = (if _ then _ else _) + if _ then _ else _
  rw [tb_add hr, tb_add hr]
  by_cases e : a = i
  · rw [e, decide_eq_true rfl, decide_eq_false (show ¬ j = i by omega), Nat.testBit_lt_two_pow hr]
    simp [z0]
  · rw [decide_eq_false e, if_neg e]
    by_cases e2 : j = i
    · rw [e2, Nat.testBit_lt_two_pow hr]
      have : rest.testBit a = false := Nat.testBit_lt_two_pow (by
        have : 2 ^ i ≤ 2 ^ a := Nat.pow_le_pow_right (by decide) (by omega)
        omega)
      rw [this]
      simp
    · rw [decide_eq_false e2]
      simp
/-- what a set needs, bit by bit; bit 20: rows that may not be one person's -/
def NDx (wt wo : Nat → Nat → Prop) (m : Nat) (x : Int) : Prop := (0 ≤ x ∧ x < 2097152) ∧ ∀ j, x.toNat.testBit j = true ↔ (∃ i, m.testBit i = true ∧ wt i j) ∨ (j = 20 ∧ ∃ i k, m.testBit i = true ∧ m.testBit k = true ∧ k < i ∧ wo i k)
theorem NDx_0 (wt wo : Nat → Nat → Prop) : NDx wt wo 0 0 := by
  refine ⟨by omega, fun j => ⟨fun h => ?_, fun h => ?_⟩⟩
  · rw [show (0 : Int).toNat = 0 from rfl, Nat.zero_testBit] at h
    exact absurd h (by decide)
  · rcases h with ⟨i, h1, _⟩ | ⟨_, i, k, h1, _⟩ <;> (rw [Nat.zero_testBit] at h1; exact absurd h1 (by decide))
theorem NDx_add {wt wo : Nat → Nat → Prop} {i rest : Nat} {x y z : Int} (hi : i < 10) (hr : rest < 2 ^ i) (h : NDx wt wo rest x) (hy : 0 ≤ y ∧ y < 1024) (hw : ∀ j, wt i j ↔ y.toNat.testBit j = true) (hz : (z = 0 ∧ ∀ k, k < i → rest.testBit k = true → ¬ wo i k) ∨ (z = 1048576 ∧ ∃ k, k < i ∧ rest.testBit k = true ∧ wo i k)) : NDx wt wo (2 ^ i + rest) (bOr (bOr x y) z) := by
  obtain ⟨h0, h1⟩ := h
  have hz0 : 0 ≤ z ∧ z < 2097152 := by rcases hz with ⟨e, _⟩ | ⟨e, _⟩ <;> omega
  rw [bOr_n (x := x) (y := y) ⟨h0.1, by omega⟩ ⟨hy.1, by omega⟩]
  have b1 : (x.toNat ||| y.toNat) < 2 ^ 21 := Nat.or_lt_two_pow (by omega) (by omega)
  have p21 : 2 ^ 21 = 2097152 := by decide
  rw [bOr_n ⟨by omega, by omega⟩ ⟨hz0.1, by omega⟩, Int.toNat_natCast]
  have b2 : (x.toNat ||| y.toNat ||| z.toNat) < 2 ^ 21 := Nat.or_lt_two_pow b1 (by omega)
  refine ⟨by omega, fun j => ?_⟩
  rw [Int.toNat_natCast, Nat.testBit_or, Nat.testBit_or, Bool.or_eq_true, Bool.or_eq_true, h1 j, ← hw j]
  have hzj : z.toNat.testBit j = true ↔ j = 20 ∧ ∃ k, k < i ∧ rest.testBit k = true ∧ wo i k := by
    rcases hz with ⟨e, f⟩ | ⟨e, f⟩
    · rw [e, show (0 : Int).toNat = 0 from rfl, Nat.zero_testBit]
      constructor
      · intro h; exact absurd h (by decide)
      · rintro ⟨_, k, k1, k2, k3⟩
        exact absurd k3 (f k k1 k2)
    · rw [e, show (1048576 : Int).toNat = 2 ^ 20 from rfl, tb_pow, decide_eq_true_eq]
      exact ⟨fun h => ⟨h, f⟩, fun h => h.1⟩
  rw [hzj]
  have tb : ∀ k, (2 ^ i + rest).testBit k = true ↔ k = i ∨ rest.testBit k = true := fun k => by
    rw [tb_add hr, Bool.or_eq_true, decide_eq_true_eq]
  constructor
  · rintro ((h | h) | h)
    · rcases h with ⟨a, a1, a2⟩ | ⟨a1, a, k, a2, a3, a4, a5⟩
      · exact Or.inl ⟨a, (tb a).mpr (Or.inr a1), a2⟩
      · exact Or.inr ⟨a1, a, k, (tb a).mpr (Or.inr a2), (tb k).mpr (Or.inr a3), a4, a5⟩
    · exact Or.inl ⟨i, (tb i).mpr (Or.inl rfl), h⟩
    · obtain ⟨a1, k, k1, k2, k3⟩ := h
      exact Or.inr ⟨a1, i, k, (tb i).mpr (Or.inl rfl), (tb k).mpr (Or.inr k2), k1, k3⟩
  · rintro (⟨a, a1, a2⟩ | ⟨a1, a, k, a2, a3, a4, a5⟩)
    · rcases (tb a).mp a1 with e | e
      · rw [e] at a2
        exact Or.inl (Or.inr a2)
      · exact Or.inl (Or.inl (Or.inl ⟨a, e, a2⟩))
    · rcases (tb a).mp a2 with e | e
      · rcases (tb k).mp a3 with e2 | e2
        · omega
        · rw [e] at a4 a5
          exact Or.inr ⟨a1, k, a4, e2, a5⟩
      · have hai := tb_bd hr e
        rcases (tb k).mp a3 with e2 | e2
        · omega
        · exact Or.inl (Or.inl (Or.inr ⟨a1, a, k, e, e2, a4, a5⟩))
theorem NDx_VL {wt wo : Nat → Nat → Prop} {m : Nat} {x : Int} (hm : m < 1024) (h : NDx wt wo m x) : x.toNat &&& m = x.toNat ↔ VL wt wo m z0 := by
  constructor
  · intro hs i hi
    refine ⟨fun j hj => ⟨tb_sub hs ((h.2 j).mpr (Or.inl ⟨i, hi, hj⟩)), rfl⟩, fun j hj hmj hw => ?_⟩
    have h20 := tb_sub hs ((h.2 20).mpr (Or.inr ⟨rfl, i, j, hi, hmj, hj, hw⟩))
    have := tb_bd (n := 10) (by omega) h20
    omega
  · intro hv
    refine sub_tb (fun j hj => ?_)
    rcases (h.2 j).mp hj with ⟨i, i1, i2⟩ | ⟨_, i, k, i1, i2, i3, i4⟩
    · exact ((hv i i1).1 j i2).1
    · exact absurd rfl ((hv i i1).2 k i3 i2 i4)
/-- a tail's cell: NV, or the greatest key with one more in each place -/
def Tl (wt wo : Nat → Nat → Prop) (n : Nat) (s : Nat → Nat → Int) (m : Nat) (x : Int) : Prop := ∃ K, Bst wt wo n s m K ∧ ((K = NV ∧ x = NV) ∨ (K ≠ NV ∧ x = K + On n m))
theorem Bst_rg {wt wo : Nat → Nat → Prop} {n : Nat} {s : Nat → Nat → Int} (hn : n ≤ 10) (hs : ∀ i j, j < i → i < n → -10000 ≤ s i j ∧ s i j ≤ 10000) {m : Nat} (hm : m < 2 ^ n) {K : Int} (h : Bst wt wo n s m K) (hk : K ≠ NV) : -1099511627776000000 ≤ K ∧ K ≤ 1099512727287627776 := by
  rcases h with ⟨h1, _⟩ | ⟨_, ⟨c, c1, c2, c3⟩, _⟩
  · exact absurd h1 hk
  · rw [c3]
    exact Ky_rg hn hs (fun i hi => by have := RG_15 hn hm c1 i hi; omega)
theorem Tl_K {wt wo : Nat → Nat → Prop} {n : Nat} {s : Nat → Nat → Int} (hn : n ≤ 10) (hs : ∀ i j, j < i → i < n → -10000 ≤ s i j ∧ s i j ≤ 10000) {m : Nat} (hm : m < 2 ^ n) {x : Int} (h : Tl wt wo n s m x) : Bst wt wo n s m (if x = NV then NV else x - On n m) ∧ (x ≠ NV → x - On n m ≠ NV ∧ -1099511627776000000 ≤ x ∧ x ≤ 1099513826799255552) := by
  obtain ⟨K, k1, k2⟩ := h
  rcases k2 with ⟨e1, e2⟩ | ⟨e1, e2⟩
  · rw [if_pos e2]
    exact ⟨by rw [← e1]; exact k1, fun z => absurd e2 z⟩
  · have h1 := Bst_rg hn hs hm k1 e1
    have h2 := On_rg hn m
    have hx : x ≠ NV := by unfold NV; omega
    rw [if_neg hx, show x - On n m = K by omega]
    exact ⟨k1, fun _ => ⟨e1, by omega, by omega⟩⟩
theorem bc9 : ∀ r : Nat, r < 512 → (Nat.beq (sbs r 9).length (2 ^ (bAnd (let y := (let y := bAnd ((let y := (r : Int) - bAnd (bUshr (r : Int) 1) 1431655765; bAnd y 858993459 + bAnd (bUshr y 2) 858993459) + bUshr (let y := (r : Int) - bAnd (bUshr (r : Int) 1) 1431655765; bAnd y 858993459 + bAnd (bUshr y 2) 858993459) 4) 252645135; y + bUshr y 8); y + bUshr y 16) 63).toNat) && (match (sbs r 9) with | [] => false | x :: _ => Nat.beq x r) && chn r (sbs r 9)) = true := by decide +kernel
