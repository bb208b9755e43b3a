-- LABELS of the bits of a mask: in the order of the bits from above each new label is the least free one
def RG (m : Nat) (c : Nat → Nat) : Prop := ∀ i, m.testBit i = true → ∀ v, v < c i → ∃ j, m.testBit j = true ∧ i < j ∧ c j = v
/-- what hands ask: wt i j one label, wo i j two -/
def VL (wt wo : Nat → Nat → Prop) (m : Nat) (c : Nat → Nat) : Prop := ∀ i, m.testBit i = true → (∀ j, wt i j → m.testBit j = true ∧ c j = c i) ∧ ∀ j, j < i → m.testBit j = true → wo i j → c j ≠ c i
def Wk (n : Nat) (s : Nat → Nat → Int) (m : Nat) (c : Nat → Nat) : Int := tri (fun i j => if m.testBit i = true ∧ m.testBit j = true ∧ c i = c j then s i j else 0) n
def Dk (n m : Nat) (c : Nat → Nat) : Int := sm (fun i => if m.testBit i = true then (c i : Int) * ((16 ^ i : Nat) : Int) else 0) n
def On (n m : Nat) : Int := Dk n m (fun _ => 1)
def z0 : Nat → Nat := fun _ => 0
def Ky (n : Nat) (s : Nat → Nat → Int) (m : Nat) (c : Nat → Nat) : Int := Wk n s m c * 1099511627776 + Dk n m c
def glue (a : Nat) (c : Nat → Nat) : Nat → Nat := fun i => if a.testBit i = true then 0 else c i + 1
theorem glue_t {a : Nat} {c : Nat → Nat} {i : Nat} (h : a.testBit i = true) : glue a c i = 0 := if_pos h
theorem glue_f {a : Nat} {c : Nat → Nat} {i : Nat} (h : a.testBit i = false) : glue a c i = c i + 1 := if_neg (by rw [h]; decide)
theorem glue_rg {m a r t : Nat} {c : Nat → Nat} (ht : m.testBit t = true) (hat : a.testBit t = true) (top : ∀ i, m.testBit i = true → i ≤ t) (hr : ∀ i, r.testBit i = (m.testBit i && !a.testBit i)) (h : RG r c) : RG m (glue a c) := by
  intro i hi v hv
  cases ha : a.testBit i
  · rw [glue_f ha] at hv
    have hri : r.testBit i = true := by rw [hr, hi, ha]; rfl
    cases v with
    | zero =>
      refine ⟨t, ht, ?_, glue_t hat⟩
      have h1 := top i hi
      have h2 : i ≠ t := fun e => by rw [e, hat] at ha; exact absurd ha (by decide)
      omega
    | succ v =>
      obtain ⟨j, hj, hij, e⟩ := h i hri v (by omega)
      have h3 := hr j
      rw [hj] at h3
      cases hm : m.testBit j
      · rw [hm] at h3; exact absurd h3 (by simp)
      · cases haj : a.testBit j
        · exact ⟨j, hm, hij, by rw [glue_f haj, e]⟩
        · rw [haj] at h3; exact absurd h3 (by simp)
  · rw [glue_t ha] at hv
    exact absurd hv (by omega)
theorem glue_vl {wt wo : Nat → Nat → Prop} {m a r : Nat} {c : Nat → Nat} (hs : ∀ i, a.testBit i = true → m.testBit i = true) (hr : ∀ i, r.testBit i = (m.testBit i && !a.testBit i)) (h1 : VL wt wo a z0) (h2 : VL wt wo r c) : VL wt wo m (glue a c) := by
  have hrm : ∀ i, r.testBit i = true → m.testBit i = true ∧ a.testBit i = false := fun i hi => by
    rw [hr] at hi
    revert hi
    cases m.testBit i <;> cases a.testBit i <;> simp
  intro i hi
  cases ha : a.testBit i
  · have hri : r.testBit i = true := by rw [hr, hi, ha]; rfl
    obtain ⟨p1, p2⟩ := h2 i hri
    refine ⟨fun j hj => ?_, fun j hj hm hw => ?_⟩
    · obtain ⟨q1, q2⟩ := p1 j hj
      refine ⟨(hrm j q1).1, ?_⟩
      rw [glue_f (hrm j q1).2, glue_f ha, q2]
    · rw [glue_f ha]
      cases haj : a.testBit j
      · have := p2 j hj (by rw [hr, hm, haj]; rfl) hw
        rw [glue_f haj]
        omega
      · rw [glue_t haj]
        omega
  · obtain ⟨p1, p2⟩ := h1 i ha
    refine ⟨fun j hj => ?_, fun j hj hm hw => ?_⟩
    · obtain ⟨q1, _⟩ := p1 j hj
      exact ⟨hs j q1, by rw [glue_t q1, glue_t ha]⟩
    · rw [glue_t ha]
      cases haj : a.testBit j
      · rw [glue_f haj]
        omega
      · exact absurd rfl (p2 j hj haj hw)
theorem glue_ky {n : Nat} {s : Nat → Nat → Int} {m a r : Nat} {c : Nat → Nat} (hs : ∀ i, a.testBit i = true → m.testBit i = true) (hr : ∀ i, r.testBit i = (m.testBit i && !a.testBit i)) : Ky n s m (glue a c) = Wk n s a z0 * 1099511627776 + (Ky n s r c + On n r) := by
  have e1 : Wk n s m (glue a c) = Wk n s a z0 + Wk n s r c := by
    refine tri_add (fun i j _ _ => ?_)
    have hi := hs i
    have hj := hs j
    rw [hr i, hr j]
    unfold glue z0
    revert hi hj
    cases m.testBit i <;> cases a.testBit i <;> cases m.testBit j <;> cases a.testBit j <;> simp
  have e2 : Dk n m (glue a c) = Dk n r c + On n r := by
    refine sm_add (fun i _ => ?_)
    have hi := hs i
    rw [hr i]
    unfold glue
    revert hi
    cases m.testBit i <;> cases a.testBit i <;> simp [Int.add_mul]
  unfold Ky
  rw [e1, e2]
  omega
theorem Ky_c {n : Nat} {s : Nat → Nat → Int} {m : Nat} {c d : Nat → Nat} (h : ∀ i, m.testBit i = true → c i = d i) : Ky n s m c = Ky n s m d := by
  have e1 : Wk n s m c = Wk n s m d := by
    refine tri_c (fun i j _ _ => ?_)
    have hi := h i
    have hj := h j
    show (if _ then _ else _) = if _ then _ else _
    by_cases p : m.testBit i = true
    · by_cases q : m.testBit j = true
      · rw [hi p, hj q]
      · rw [if_neg (fun z => q z.2.1), if_neg (fun z => q z.2.1)]
    · rw [if_neg (fun z => p z.1), if_neg (fun z => p z.1)]
  have e2 : Dk n m c = Dk n m d := by
    refine sm_c (fun i _ => ?_)
    show (if _ then _ else _) = if _ then _ else _
    by_cases p : m.testBit i = true
    · rw [if_pos p, if_pos p, h i p]
    · rw [if_neg p, if_neg p]
  unfold Ky
  rw [e1, e2]
/-- every labelling falls into its first block and the rest -/
theorem un_glue {wt wo : Nat → Nat → Prop} {n m t : Nat} {c : Nat → Nat} (hmn : m < 2 ^ n) (ht : m.testBit t = true) (top : ∀ i, m.testBit i = true → i ≤ t) (h1 : RG m c) (h2 : VL wt wo m c) : ∃ a, a < 2 ^ n ∧ a.testBit t = true ∧ (∀ i, a.testBit i = true → m.testBit i = true) ∧ VL wt wo a z0 ∧ ∃ d, (∀ r, (∀ i, r.testBit i = (m.testBit i && !a.testBit i)) → RG r d ∧ VL wt wo r d) ∧ ∀ i, m.testBit i = true → glue a d i = c i := by
  obtain ⟨a, han, ha⟩ := mk_mask (fun i => m.testBit i && decide (c i = 0)) n
  have hA : ∀ i, a.testBit i = true ↔ m.testBit i = true ∧ c i = 0 := fun i => by
    rw [ha i]
    by_cases hm : m.testBit i = true
    · rw [hm, decide_eq_true (tb_bd hmn hm)]
      simp
    · rw [show m.testBit i = false by simpa using hm]
      simp
  have hct : c t = 0 := by
    rcases Nat.eq_zero_or_pos (c t) with z | z
    · exact z
    · obtain ⟨j, hj, htj, _⟩ := h1 t ht 0 z
      have := top j hj
      omega
  refine ⟨a, han, (hA t).mpr ⟨ht, hct⟩, fun i hi => ((hA i).mp hi).1, ?_, fun i => c i - 1, fun r hr => ?_, fun i hi => ?_⟩
  · intro i hi
    obtain ⟨q1, q2⟩ := (hA i).mp hi
    obtain ⟨p1, p2⟩ := h2 i q1
    refine ⟨fun j hj => ⟨(hA j).mpr ⟨(p1 j hj).1, by rw [(p1 j hj).2, q2]⟩, rfl⟩, fun j hj hm hw => ?_⟩
    obtain ⟨q3, q4⟩ := (hA j).mp hm
    exact absurd (by rw [q4, q2]) (p2 j hj q3 hw)
  · have hR : ∀ i, r.testBit i = true ↔ m.testBit i = true ∧ c i ≠ 0 := fun i => by
      have h3 := hA i
      rw [hr i]
      revert h3
      cases m.testBit i <;> cases a.testBit i <;> simp
      all_goals omega
    refine ⟨fun i hi v hv => ?_, fun i hi => ⟨fun j hj => ?_, fun j hj hm hw => ?_⟩⟩
    · obtain ⟨q1, q2⟩ := (hR i).mp hi
      obtain ⟨j, j1, j2, j3⟩ := h1 i q1 (v + 1) (by have hv : v < c i - 1 := hv; omega)
      exact ⟨j, (hR j).mpr ⟨j1, by omega⟩, j2, by show c j - 1 = v; omega⟩
    · obtain ⟨q1, q2⟩ := (hR i).mp hi
      obtain ⟨j1, j2⟩ := (h2 i q1).1 j hj
      exact ⟨(hR j).mpr ⟨j1, by omega⟩, by show c j - 1 = c i - 1; omega⟩
    · obtain ⟨q1, q2⟩ := (hR i).mp hi
      obtain ⟨q3, q4⟩ := (hR j).mp hm
      have := (h2 i q1).2 j hj q3 hw
      show c j - 1 ≠ c i - 1
      omega
  · cases hai : a.testBit i
    · have : ¬ (m.testBit i = true ∧ c i = 0) := fun z => by
        rw [(hA i).mpr z] at hai
        exact absurd hai (by decide)
      rw [glue_f hai]
      show c i - 1 + 1 = c i
      have : c i ≠ 0 := fun z => this ⟨hi, z⟩
      omega
    · rw [glue_t hai, ((hA i).mp hai).2]
/-- labels are small -/
theorem RG_le {n m : Nat} {c : Nat → Nat} (hmn : m < 2 ^ n) (h : RG m c) : ∀ k i, n - i ≤ k → m.testBit i = true → c i + i + 1 ≤ n
  | 0, i, hk, hi => by
    have := tb_bd hmn hi
    omega
  | k + 1, i, hk, hi => by
    have hb := tb_bd hmn hi
    rcases Nat.eq_zero_or_pos (c i) with z | z
    · omega
    · obtain ⟨j, h1, h2, h3⟩ := h i hi (c i - 1) (by omega)
      have := RG_le hmn h k j (by omega) h1
      omega
theorem p16 (n : Nat) : ((16 ^ (n + 1) : Nat) : Int) = 16 * ((16 ^ n : Nat) : Int) := by
  rw [Nat.pow_succ]
  omega
theorem p16_pos (n : Nat) : (1 : Int) ≤ ((16 ^ n : Nat) : Int) := by
  have : 0 < 16 ^ n := Nat.pow_pos (by decide)
  omega
theorem mul_le16 {c : Int} {p : Int} (hp : 1 ≤ p) (h0 : 0 ≤ c) (h1 : c ≤ 15) : 0 ≤ c * p ∧ c * p ≤ 15 * p := ⟨Int.mul_nonneg h0 (by omega), Int.mul_le_mul_of_nonneg_right h1 (by omega)⟩
theorem Dk_s (n m : Nat) (c : Nat → Nat) : Dk (n + 1) m c = Dk n m c + if m.testBit n = true then (c n : Int) * ((16 ^ n : Nat) : Int) else 0 := rfl
theorem Dk_rg {m : Nat} {c : Nat → Nat} (h : ∀ i, m.testBit i = true → c i ≤ 15) : ∀ n : Nat, 0 ≤ Dk n m c ∧ Dk n m c + 1 ≤ ((16 ^ n : Nat) : Int)
  | 0 => by
    unfold Dk
    simp [sm]
  | n + 1 => by
    have h1 := Dk_rg h n
    have h2 := p16 n
    have h3 := p16_pos n
    rw [Dk_s]
    by_cases hm : m.testBit n = true
    · rw [if_pos hm]
      have h4 := mul_le16 h3 (show 0 ≤ (c n : Int) by omega) (show (c n : Int) ≤ 15 by have := h n hm; omega)
      generalize (c n : Int) * ((16 ^ n : Nat) : Int) = z at *
      omega
    · rw [if_neg hm]
      omega
theorem Wk_rg {n : Nat} {s : Nat → Nat → Int} (hn : n ≤ 10) (hs : ∀ i j, j < i → i < n → -10000 ≤ s i j ∧ s i j ≤ 10000) (m : Nat) (c : Nat → Nat) : -1000000 ≤ Wk n s m c ∧ Wk n s m c ≤ 1000000 := by
  refine tri_rg hn (fun i j hj hi => ?_)
  have := hs i j hj hi
  show -10000 ≤ (if _ then _ else _) ∧ (if _ then _ else _) ≤ (10000 : Int)
  split
  · exact this
  · omega
theorem p16_10 {n : Nat} (hn : n ≤ 10) : ((16 ^ n : Nat) : Int) ≤ 1099511627776 := by
  have : 16 ^ n ≤ 16 ^ 10 := Nat.pow_le_pow_right (by decide) hn
  have e : 16 ^ 10 = 1099511627776 := by decide
  omega
theorem Ky_rg {n : Nat} {s : Nat → Nat → Int} (hn : n ≤ 10) (hs : ∀ i j, j < i → i < n → -10000 ≤ s i j ∧ s i j ≤ 10000) {m : Nat} {c : Nat → Nat} (hc : ∀ i, m.testBit i = true → c i ≤ 15) : -1099511627776000000 ≤ Ky n s m c ∧ Ky n s m c ≤ 1099512727287627776 := by
  have h1 := Wk_rg hn hs m c
  have h2 := Dk_rg hc n
  have h3 := p16_10 hn
  unfold Ky
  omega
theorem RG_15 {n m : Nat} {c : Nat → Nat} (hn : n ≤ 10) (hmn : m < 2 ^ n) (h : RG m c) : ∀ i, m.testBit i = true → c i ≤ 9 := fun i hi => by
  have := RG_le hmn h n i (by omega) hi
  omega
def NV : Int := -9223372036854775808
/-- K is the greatest key of a mask's labellings -/
def Bst (wt wo : Nat → Nat → Prop) (n : Nat) (s : Nat → Nat → Int) (m : Nat) (K : Int) : Prop := (K = NV ∧ ∀ c, RG m c → ¬ VL wt wo m c) ∨ (K ≠ NV ∧ (∃ c, RG m c ∧ VL wt wo m c ∧ K = Ky n s m c) ∧ ∀ c, RG m c → VL wt wo m c → Ky n s m c ≤ K)
theorem Bst_0 (wt wo : Nat → Nat → Prop) (n : Nat) (s : Nat → Nat → Int) : Bst wt wo n s 0 0 := by
  have hz : ∀ c, Ky n s 0 c = 0 := fun c => by
    have e1 : Wk n s 0 c = 0 := sm_0 (fun i _ => sm_0 (fun j _ => if_neg (fun z => absurd z.1 (by rw [Nat.zero_testBit]; decide))))
    have e2 : Dk n 0 c = 0 := sm_0 (fun i _ => if_neg (fun z => absurd z (by rw [Nat.zero_testBit]; decide)))
    unfold Ky
    rw [e1, e2]
    rfl
  refine Or.inr ⟨by unfold NV; omega, ⟨z0, fun i hi => absurd hi (by rw [Nat.zero_testBit]; decide), fun i hi => absurd hi (by rw [Nat.zero_testBit]; decide), (hz z0).symm⟩, fun c _ _ => by rw [hz]; omega⟩
theorem Bst_step {wt wo : Nat → Nat → Prop} {n : Nat} {s : Nat → Nat → Int} (hn : n ≤ 10) (hs : ∀ i j, j < i → i < n → -10000 ≤ s i j ∧ s i j ≤ 10000) {t rest : Nat} (hr : rest < 2 ^ t) (htn : t < n) (KK : Nat → Int) (hK : ∀ p, p &&& rest = p → Bst wt wo n s (rest ^^^ p) (KK p)) {G : Int}
    (g1 : G = NV ∨ ∃ p, p &&& rest = p ∧ VL wt wo (2 ^ t + p) z0 ∧ KK p ≠ NV ∧ G = Wk n s (2 ^ t + p) z0 * 1099511627776 + (KK p + On n (rest ^^^ p)))
    (g2 : ∀ p, p &&& rest = p → VL wt wo (2 ^ t + p) z0 → KK p ≠ NV → Wk n s (2 ^ t + p) z0 * 1099511627776 + (KK p + On n (rest ^^^ p)) ≤ G) : Bst wt wo n s (2 ^ t + rest) G := by
  have hm : ∀ i, (2 ^ t + rest).testBit i = (decide (i = t) || rest.testBit i) := tb_add hr
  have hmt : (2 ^ t + rest).testBit t = true := by rw [hm, decide_eq_true rfl]; rfl
  have htop : ∀ i, (2 ^ t + rest).testBit i = true → i ≤ t := fun i hi => by
    have := tb_bd (n := t + 1) (show 2 ^ t + rest < 2 ^ (t + 1) by rw [Nat.pow_succ]; omega) hi
    omega
  have hmn : 2 ^ t + rest < 2 ^ n := by
    have : 2 ^ (t + 1) ≤ 2 ^ n := Nat.pow_le_pow_right (by decide) htn
    rw [Nat.pow_succ] at this
    omega
  have hpa : ∀ p, p &&& rest = p → p < 2 ^ t ∧ (∀ i, (2 ^ t + p).testBit i = (decide (i = t) || p.testBit i)) ∧ (∀ i, (2 ^ t + p).testBit i = true → (2 ^ t + rest).testBit i = true) ∧ ∀ i, (rest ^^^ p).testBit i = ((2 ^ t + rest).testBit i && !(2 ^ t + p).testBit i) := fun p hp => by
    have h1 : p < 2 ^ t := by have := sub_le hp; omega
    refine ⟨h1, tb_add h1, fun i hi => ?_, fun i => ?_⟩
    · rw [tb_add h1] at hi
      rw [hm]
      have h2 := tb_sub hp (i := i)
      revert hi h2
      cases decide (i = t) <;> cases p.testBit i <;> cases rest.testBit i <;> simp
    · rw [tb_xs hp, hm, tb_add h1]
      by_cases e : i = t
      · rw [e, Nat.testBit_lt_two_pow hr, decide_eq_true rfl]
        rfl
      · rw [decide_eq_false e]
        rfl
  have rng : ∀ c, RG (2 ^ t + rest) c → Ky n s (2 ^ t + rest) c ≠ NV := fun c hc => by
    have := Ky_rg hn hs (m := 2 ^ t + rest) (c := c) (fun i hi => by have := RG_15 hn hmn hc i hi; omega)
    unfold NV
    omega
  have all : ∀ c, RG (2 ^ t + rest) c → VL wt wo (2 ^ t + rest) c → Ky n s (2 ^ t + rest) c ≤ G := fun c h1 h2 => by
    obtain ⟨a, han, hat, hsub, hva, d, hd, he⟩ := un_glue hmn hmt htop h1 h2
    have hat1 : a < 2 ^ (t + 1) := by
      rcases Nat.lt_or_ge a (2 ^ (t + 1)) with z | z
      · exact z
      · obtain ⟨i, hi1, hi2⟩ := Nat.exists_ge_and_testBit_of_ge_two_pow z
        have := htop i (hsub i hi2)
        omega
    have hage : 2 ^ t ≤ a := Nat.ge_two_pow_of_testBit hat
    have hat2 : a - 2 ^ t < 2 ^ t := by rw [Nat.pow_succ] at hat1; omega
    have hea : 2 ^ t + (a - 2 ^ t) = a := by omega
    have hab : ∀ i, a.testBit i = (decide (i = t) || (a - 2 ^ t).testBit i) := fun i => by
      have := tb_add hat2 i
      rw [hea] at this
      exact this
    have hp : (a - 2 ^ t) &&& rest = a - 2 ^ t := sub_tb (fun i hi => by
      have h3 := hsub i (by rw [hab, hi]; simp)
      rw [hm] at h3
      by_cases e : i = t
      · rw [e, Nat.testBit_lt_two_pow hat2] at hi
        exact absurd hi (by decide)
      · rw [decide_eq_false e] at h3
        exact h3)
    obtain ⟨_, _, _, q4⟩ := hpa _ hp
    rw [hea] at q4
    obtain ⟨d1, d2⟩ := hd _ q4
    have hg := g2 _ hp (by rw [hea]; exact hva)
    rw [hea] at hg
    have hk := hK _ hp
    rw [← Ky_c he, glue_ky hsub q4]
    rcases hk with ⟨_, k2⟩ | ⟨k1, _, k3⟩
    · exact absurd d2 (k2 d d1)
    · have := k3 d d1 d2
      have := hg k1
      omega
  rcases g1 with g | ⟨p, hp, hv, hk, hg⟩
  · refine Or.inl ⟨g, fun c h1 h2 => ?_⟩
    have h3 := all c h1 h2
    have h4 := Ky_rg hn hs (m := 2 ^ t + rest) (c := c) (fun i hi => by have := RG_15 hn hmn h1 i hi; omega)
    rw [g] at h3
    unfold NV at h3
    omega
  · obtain ⟨q1, q2, q3, q4⟩ := hpa p hp
    rcases hK p hp with ⟨k1, _⟩ | ⟨_, ⟨c, c1, c2, c3⟩, _⟩
    · exact absurd k1 hk
    · have r1 := glue_rg hmt (show (2 ^ t + p).testBit t = true by rw [q2, decide_eq_true rfl]; rfl) htop q4 c1
      have r2 := glue_vl q3 q4 hv c2
      have r3 : G = Ky n s (2 ^ t + rest) (glue (2 ^ t + p) c) := by rw [glue_ky q3 q4, ← c3, hg]
      exact Or.inr ⟨by rw [r3]; exact rng _ r1, ⟨_, r1, r2, r3⟩, all⟩
-- a key read back
theorem Dk_dig {m : Nat} {c : Nat → Nat} (h : ∀ i, m.testBit i = true → c i ≤ 15) : ∀ n i : Nat, i < n → m.testBit i = true → Dk n m c / ((16 ^ i : Nat) : Int) % 16 = (c i : Int)
  | 0, i, hi, _ => absurd hi (by omega)
  | n + 1, i, hi, hm => by
    have hp := p16_pos i
    rw [Dk_s]
    by_cases e : i = n
    · rw [← e, if_pos hm, Int.add_mul_ediv_right _ _ (by omega)]
      have h1 := Dk_rg h i
      rw [Int.ediv_eq_zero_of_lt h1.1 (by omega)]
      have := h i hm
      omega
    · have h1 := Dk_dig h n i (by omega) hm
      by_cases hn : m.testBit n = true
      · rw [if_pos hn]
        have e2 : (c n : Int) * ((16 ^ n : Nat) : Int) = ((c n : Int) * ((16 ^ (n - 1 - i) : Nat) : Int) * 16) * ((16 ^ i : Nat) : Int) := by
          have : (16 ^ n : Nat) = 16 ^ (n - 1 - i) * 16 * 16 ^ i := by
            rw [← Nat.pow_succ, ← Nat.pow_add, show n - 1 - i + 1 + i = n by omega]
          rw [this, Int.natCast_mul, Int.natCast_mul, Int.mul_assoc, Int.mul_assoc, Int.mul_assoc]
          rfl
        rw [e2, Int.add_mul_ediv_right _ _ (by omega)]
        generalize (c n : Int) * ((16 ^ (n - 1 - i) : Nat) : Int) = z
        omega
      · rw [if_neg hn, Int.add_zero]
        exact h1
theorem Ky_top {n : Nat} {s : Nat → Nat → Int} (hn : n ≤ 10) {m : Nat} {c : Nat → Nat} (hc : ∀ i, m.testBit i = true → c i ≤ 15) : Ky n s m c / 1099511627776 = Wk n s m c := by
  have h2 := Dk_rg hc n
  have h3 := p16_10 hn
  unfold Ky
  omega
theorem Ky_dig {n : Nat} {s : Nat → Nat → Int} (hn : n ≤ 10) {m : Nat} {c : Nat → Nat} (hc : ∀ i, m.testBit i = true → c i ≤ 15) {i : Nat} (hi : i < n) (hm : m.testBit i = true) : Ky n s m c / ((16 ^ i : Nat) : Int) % 16 = (c i : Int) := by
  have h1 := Dk_dig hc n i hi hm
  have hp := p16_pos i
  unfold Ky
  have e : Wk n s m c * 1099511627776 = (Wk n s m c * ((16 ^ (9 - i) : Nat) : Int) * 16) * ((16 ^ i : Nat) : Int) := by
    have : (1099511627776 : Nat) = 16 ^ (9 - i) * 16 * 16 ^ i := by
      rw [← Nat.pow_succ, ← Nat.pow_add, show 9 - i + 1 + i = 10 by omega]
    rw [show (1099511627776 : Int) = ((1099511627776 : Nat) : Int) from rfl, this, Int.natCast_mul, Int.natCast_mul, Int.mul_assoc, Int.mul_assoc, Int.mul_assoc]
    rfl
  rw [e, Int.add_comm, Int.add_mul_ediv_right _ _ (by omega)]
  generalize Wk n s m c * ((16 ^ (9 - i) : Nat) : Int) = z
  omega
