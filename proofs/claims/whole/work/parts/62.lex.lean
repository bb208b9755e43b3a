-- THE REFERENCE'S LABELS, in the order of the rows
def us (p : Nat → Int) : Nat → Int
  | 0 => 0
  | i + 1 => if p i = us p i then p i + 1 else us p i
theorem us_s (p : Nat → Int) (i : Nat) : us p (i + 1) = if p i = us p i then p i + 1 else us p i := rfl
def RGr (n : Nat) (p : Nat → Int) : Prop := ∀ i, i < n → 0 ≤ p i ∧ p i ≤ us p i
def VLr (mu mn : Nat → Nat → Prop) (n : Nat) (p : Nat → Int) : Prop := ∀ i j, j < i → i < n → (mu i j → p j = p i) ∧ (mn i j → p j ≠ p i)
def Wr (s : Nat → Nat → Int) (n : Nat) (p : Nat → Int) : Int := tri (fun i j => if p j = p i then s i j else 0) n
def OKr (mu mn : Nat → Nat → Prop) (n : Nat) (p : Nat → Int) : Prop := RGr n p ∧ VLr mu mn n p
/-- p is tried before q -/
def lxg (n : Nat) (p q : Nat → Int) : Prop := ∃ j, j < n ∧ (∀ m, m < j → p m = q m) ∧ q j < p j
theorem us_c {p q : Nat → Int} : ∀ {n : Nat}, (∀ j, j < n → p j = q j) → us p n = us q n
  | 0, _ => rfl
  | n + 1, h => by rw [us_s, us_s, us_c (fun j hj => h j (by omega)), h n (by omega)]
theorem us_f {p : Nat → Int} : ∀ n : Nat, RGr n p → (∀ j, j < n → p j < us p n) ∧ (∀ v, 0 ≤ v → v < us p n → ∃ j, j < n ∧ p j = v) ∧ 0 ≤ us p n ∧ us p n ≤ n
  | 0, _ => ⟨fun j hj => absurd hj (by omega), fun v h0 h1 => by
      have h1 : v < 0 := h1
      omega, by show (0 : Int) ≤ 0; omega, by show (0 : Int) ≤ 0; omega⟩
  | n + 1, h => by
    obtain ⟨h1, h2, h3, h4⟩ := us_f n (fun i hi => h i (by omega))
    have h5 := h n (by omega)
    rw [us_s]
    by_cases e : p n = us p n
    · rw [if_pos e]
      refine ⟨fun j hj => ?_, fun v v0 v1 => ?_, by omega, by omega⟩
      · by_cases ej : j = n
        · rw [ej]; omega
        · have := h1 j (by omega); omega
      · by_cases ev : v = p n
        · exact ⟨n, by omega, ev.symm⟩
        · obtain ⟨j, j1, j2⟩ := h2 v v0 (by omega)
          exact ⟨j, by omega, j2⟩
    · rw [if_neg e]
      refine ⟨fun j hj => ?_, fun v v0 v1 => ?_, by omega, by omega⟩
      · by_cases ej : j = n
        · rw [ej]; omega
        · have := h1 j (by omega); omega
      · obtain ⟨j, j1, j2⟩ := h2 v v0 (by omega)
        exact ⟨j, by omega, j2⟩
/-- how many persons: the greatest label and one -/
theorem us_top {p : Nat → Int} : ∀ n : Nat, 0 < n → ∃ j, j < n ∧ us p n = p j + 1 ∨ us p n = 0
  | 0, h => absurd h (by omega)
  | n + 1, _ => by
    rw [us_s]
    by_cases e : p n = us p n
    · rw [if_pos e]
      exact ⟨n, Or.inl ⟨by omega, rfl⟩⟩
    · rw [if_neg e]
      rcases Nat.eq_zero_or_pos n with z | z
      · rw [z]
        exact ⟨0, Or.inr rfl⟩
      · obtain ⟨j, hj⟩ := us_top n z (p := p)
        rcases hj with ⟨j1, j2⟩ | j2
        · exact ⟨j, Or.inl ⟨by omega, j2⟩⟩
        · exact ⟨0, Or.inr j2⟩
/-- all that was tried before now[0..i), then more than c -/
def Xp (now : Nat → Int) (i : Nat) (c : Int) (p : Nat → Int) : Prop := (∃ j, j < i ∧ (∀ m, m < j → p m = now m) ∧ now j < p j) ∨ ((∀ m, m < i → p m = now m) ∧ c < p i)
/-- the best of those that were tried -/
def BsR (mu mn : Nat → Nat → Prop) (s : Nat → Nat → Int) (n : Nat) (X : (Nat → Int) → Prop) (par bw bm : Int) (po ra : Nat → Int) : Prop :=
  (par = 0 ∧ ∀ p, OKr mu mn n p → ¬ X p) ∨ (par = 1 ∧ ∃ q, OKr mu mn n q ∧ X q ∧ bw = Wr s n q ∧ bm = us q n ∧ (∀ j, j < n → po (ra j).toNat = q j) ∧ ∀ p, OKr mu mn n p → X p → Wr s n p < Wr s n q ∨ (Wr s n p = Wr s n q ∧ ¬ lxg n p q))
theorem BsR_X {mu mn : Nat → Nat → Prop} {s : Nat → Nat → Int} {n : Nat} {X Y : (Nat → Int) → Prop} {par bw bm : Int} {po ra : Nat → Int} (h : BsR mu mn s n X par bw bm po ra) (e : ∀ p, OKr mu mn n p → (X p ↔ Y p)) : BsR mu mn s n Y par bw bm po ra := by
  rcases h with ⟨h1, h2⟩ | ⟨h1, q, q1, q2, q3, q4, q5, q6⟩
  · exact Or.inl ⟨h1, fun p hp hy => h2 p hp ((e p hp).mpr hy)⟩
  · exact Or.inr ⟨h1, q, q1, (e q q1).mp q2, q3, q4, q5, fun p hp hy => q6 p hp ((e p hp).mpr hy)⟩
theorem X_up {mu mn : Nat → Nat → Prop} {n i : Nat} {now p : Nat → Int} (hi : i + 1 < n) (hp : OKr mu mn n p) : Xp now (i + 1) (-1) p ↔ Xp now i (now i - 1) p := by
  have h0 := hp.1 (i + 1) hi
  constructor
  · rintro (⟨j, j1, j2, j3⟩ | ⟨h1, h2⟩)
    · by_cases e : j = i
      · rw [e] at j2 j3
        exact Or.inr ⟨j2, by omega⟩
      · exact Or.inl ⟨j, by omega, j2, j3⟩
    · exact Or.inr ⟨fun m hm => h1 m (by omega), by rw [h1 i (by omega)]; omega⟩
  · rintro (⟨j, j1, j2, j3⟩ | ⟨h1, h2⟩)
    · exact Or.inl ⟨j, by omega, j2, j3⟩
    · by_cases e : p i = now i
      · refine Or.inr ⟨fun m hm => ?_, by omega⟩
        by_cases em : m = i
        · rw [em, e]
        · exact h1 m (by omega)
      · exact Or.inl ⟨i, by omega, h1, by omega⟩
theorem X_0 {mu mn : Nat → Nat → Prop} {n : Nat} {now p : Nat → Int} (hn : 0 < n) (hp : OKr mu mn n p) : Xp now 0 (-1) p :=
  Or.inr ⟨fun m hm => absurd hm (by omega), by have := hp.1 0 hn; omega⟩
theorem X_no {mu mn : Nat → Nat → Prop} {n i : Nat} {now p : Nat → Int} {c : Int} (hi : i < n) (hp : OKr mu mn n p) (hno : ∃ j, j < i ∧ ((mu i j ∧ now j ≠ c) ∨ (mn i j ∧ now j = c))) : Xp now i c p ↔ Xp now i (c - 1) p := by
  constructor
  · rintro (h | ⟨h1, h2⟩)
    · exact Or.inl h
    · exact Or.inr ⟨h1, by omega⟩
  · rintro (h | ⟨h1, h2⟩)
    · exact Or.inl h
    · by_cases e : p i = c
      · obtain ⟨j, j1, j2⟩ := hno
        have h3 := hp.2 i j j1 hi
        have h4 := h1 j j1
        rcases j2 with ⟨a1, a2⟩ | ⟨a1, a2⟩
        · exact absurd (h3.1 a1) (by omega)
        · exact absurd (by omega) (h3.2 a1)
      · exact Or.inr ⟨h1, by omega⟩
theorem X_deep {mu mn : Nat → Nat → Prop} {n i : Nat} {now now' p : Nat → Int} {c : Int} (hi : i + 1 < n) (hp : OKr mu mn n p) (e1 : ∀ m, m < i → now' m = now m) (e2 : now' i = c) (hr : RGr (i + 1) now') : Xp now i c p ↔ Xp now' (i + 1) (us now' (i + 1)) p := by
  constructor
  · rintro (⟨j, j1, j2, j3⟩ | ⟨h1, h2⟩)
    · exact Or.inl ⟨j, by omega, fun m hm => by rw [e1 m (by omega)]; exact j2 m hm, by rw [e1 j j1]; exact j3⟩
    · exact Or.inl ⟨i, by omega, fun m hm => by rw [e1 m hm]; exact h1 m hm, by rw [e2]; exact h2⟩
  · rintro (⟨j, j1, j2, j3⟩ | ⟨h1, h2⟩)
    · by_cases e : j = i
      · rw [e] at j2 j3
        exact Or.inr ⟨fun m hm => by rw [← e1 m hm]; exact j2 m hm, by rw [← e2]; exact j3⟩
      · exact Or.inl ⟨j, by omega, fun m hm => by rw [← e1 m (by omega)]; exact j2 m hm, by rw [← e1 j (by omega)]; exact j3⟩
    · exfalso
      have h3 := (hp.1 (i + 1) hi).2
      rw [us_c (q := now') (fun j hj => h1 j hj)] at h3
      omega
theorem X_leaf {n i : Nat} {now now' p : Nat → Int} {c : Int} (hi : i + 1 = n) (e1 : ∀ m, m < i → now' m = now m) (e2 : now' i = c) : Xp now i (c - 1) p ↔ Xp now i c p ∨ ∀ m, m < n → p m = now' m := by
  constructor
  · rintro (h | ⟨h1, h2⟩)
    · exact Or.inl (Or.inl h)
    · by_cases e : p i = c
      · refine Or.inr (fun m hm => ?_)
        by_cases em : m = i
        · rw [em, e2, e]
        · rw [e1 m (by omega), h1 m (by omega)]
      · exact Or.inl (Or.inr ⟨h1, by omega⟩)
  · rintro ((h | ⟨h1, h2⟩) | h)
    · exact Or.inl h
    · exact Or.inr ⟨h1, by omega⟩
    · exact Or.inr ⟨fun m hm => by rw [h m (by omega), e1 m hm], by rw [h i (by omega), e2]; omega⟩
theorem Wr_c {s : Nat → Nat → Int} {n : Nat} {p q : Nat → Int} (h : ∀ m, m < n → p m = q m) : Wr s n p = Wr s n q :=
  tri_c (fun i j hj hi => by rw [h i hi, h j (by omega)])
/-- Xp is before: p in it, then p is tried before now' -/
theorem X_lx {n i : Nat} {now now' p : Nat → Int} {c : Int} (hi : i < n) (e1 : ∀ m, m < i → now' m = now m) (e2 : now' i = c) (h : Xp now i c p) : lxg n p now' := by
  rcases h with ⟨j, j1, j2, j3⟩ | ⟨h1, h2⟩
  · exact ⟨j, by omega, fun m hm => by rw [e1 m (by omega)]; exact j2 m hm, by rw [e1 j j1]; exact j3⟩
  · exact ⟨i, hi, fun m hm => by rw [e1 m hm]; exact h1 m hm, by rw [e2]; exact h2⟩
theorem lx_anti {n : Nat} {p q : Nat → Int} (h : lxg n p q) : ¬ lxg n q p := by
  obtain ⟨j, j1, j2, j3⟩ := h
  rintro ⟨k, k1, k2, k3⟩
  rcases Nat.lt_trichotomy j k with h | h | h
  · have := k2 j h; omega
  · rw [h] at j3; omega
  · have := j2 k h; omega
theorem lx_irr {n : Nat} {p q : Nat → Int} (h : ∀ m, m < n → p m = q m) : ¬ lxg n p q := by
  rintro ⟨j, j1, _, j3⟩
  have := h j j1
  omega
theorem lx_c {n : Nat} {p q r : Nat → Int} (h : ∀ m, m < n → p m = q m) (hl : lxg n p r) : lxg n q r := by
  obtain ⟨j, j1, j2, j3⟩ := hl
  exact ⟨j, j1, fun m hm => by rw [← h m (by omega)]; exact j2 m hm, by rw [← h j j1]; exact j3⟩
/-- a leaf that isn't better -/
theorem BsR_keep {mu mn : Nat → Nat → Prop} {s : Nat → Nat → Int} {n i : Nat} {now now' : Nat → Int} {c par bw bm : Int} {po ra : Nat → Int} (h : BsR mu mn s n (Xp now i c) par bw bm po ra) (hi : i + 1 = n) (e1 : ∀ m, m < i → now' m = now m) (e2 : now' i = c) (hpar : par ≠ 0) (hw : Wr s n now' ≤ bw) : BsR mu mn s n (Xp now i (c - 1)) par bw bm po ra := by
  rcases h with ⟨h1, _⟩ | ⟨h1, q, q1, q2, q3, q4, q5, q6⟩
  · exact absurd h1 hpar
  · refine Or.inr ⟨h1, q, q1, (X_leaf hi e1 e2).mpr (Or.inl q2), q3, q4, q5, fun p hp hx => ?_⟩
    rcases (X_leaf hi e1 e2).mp hx with hx | hx
    · exact q6 p hp hx
    · have h2 := Wr_c (s := s) hx
      have h3 := X_lx (n := n) (i := i) (by omega) e1 e2 q2
      rcases Int.lt_or_le (Wr s n p) (Wr s n q) with z | z
      · exact Or.inl z
      · exact Or.inr ⟨by omega, fun hl => lx_anti h3 (lx_c hx hl)⟩
theorem BsR_take {mu mn : Nat → Nat → Prop} {s : Nat → Nat → Int} {n i : Nat} {now now' : Nat → Int} {c par bw bm bw' bm' : Int} {po po' ra : Nat → Int} (h : BsR mu mn s n (Xp now i c) par bw bm po ra) (hi : i + 1 = n) (e1 : ∀ m, m < i → now' m = now m) (e2 : now' i = c) (hok : OKr mu mn n now') (hpar : par = 0 ∨ bw < Wr s n now') (hb : bw' = Wr s n now') (hm : bm' = us now' n) (hpo : ∀ j, j < n → po' (ra j).toNat = now' j) : BsR mu mn s n (Xp now i (c - 1)) 1 bw' bm' po' ra := by
  refine Or.inr ⟨rfl, now', hok, (X_leaf hi e1 e2).mpr (Or.inr (fun m _ => rfl)), hb, hm, hpo, fun p hp hx => ?_⟩
  rcases (X_leaf hi e1 e2).mp hx with hx | hx
  · rcases h with ⟨h1, h2⟩ | ⟨h1, q, q1, q2, q3, q4, q5, q6⟩
    · exact absurd hx (h2 p hp)
    · have := q6 p hp hx
      omega
  · exact Or.inr ⟨Wr_c hx, lx_irr hx⟩
-- BOTH SIDES
/-- a key's digits, as the reference's order has them -/
def DH (p : Nat → Int) : Nat → Int
  | 0 => 0
  | n + 1 => 16 * DH p n + p n
theorem DH_lx {p q : Nat → Int} {n : Nat} (hp : ∀ j, j < n → 0 ≤ p j ∧ p j ≤ 15) (hq : ∀ j, j < n → 0 ≤ q j ∧ q j ≤ 15) (h : lxg n p q) : DH q n < DH p n := by
  obtain ⟨j, j1, j2, j3⟩ := h
  have h1 : ∀ k, k ≤ j → DH p k = DH q k := fun k => by
    induction k with
    | zero => intro _; rfl
    | succ k ih => intro hk; show 16 * DH p k + p k = 16 * DH q k + q k; rw [ih (by omega), j2 k (by omega)]
  have h2 : ∀ d, j + 1 + d ≤ n → DH q (j + 1 + d) < DH p (j + 1 + d) := fun d => by
    induction d with
    | zero => intro _; show 16 * DH q j + q j < 16 * DH p j + p j; rw [h1 j (by omega)]; omega
    | succ d ih =>
      intro hd
      show 16 * DH q (j + 1 + d) + q (j + 1 + d) < 16 * DH p (j + 1 + d) + p (j + 1 + d)
      have := ih (by omega)
      have := hp (j + 1 + d) (by omega)
      have := hq (j + 1 + d) (by omega)
      omega
  have := h2 (n - (j + 1)) (by omega)
  rw [show j + 1 + (n - (j + 1)) = n by omega] at this
  exact this
theorem sm_mul (f : Nat → Int) (a : Int) : ∀ n : Nat, sm (fun i => a * f i) n = a * sm f n
  | 0 => by simp [sm]
  | n + 1 => by rw [sm_s, sm_s, sm_mul f a n, Int.mul_add]
theorem DH_sm (p : Nat → Int) : ∀ n : Nat, DH p n = sm (fun i => p (n - 1 - i) * ((16 ^ i : Nat) : Int)) n
  | 0 => rfl
  | n + 1 => by
    rw [sm_shift]
    have e : sm (fun i => p (n + 1 - 1 - (i + 1)) * ((16 ^ (i + 1) : Nat) : Int)) n = 16 * sm (fun i => p (n - 1 - i) * ((16 ^ i : Nat) : Int)) n := by
      rw [← sm_mul]
      refine sm_c (fun i hi => ?_)
      show p (n + 1 - 1 - (i + 1)) * ((16 ^ (i + 1) : Nat) : Int) = 16 * (p (n - 1 - i) * ((16 ^ i : Nat) : Int))
      rw [show n + 1 - 1 - (i + 1) = n - 1 - i by omega, p16, Int.mul_left_comm]
    rw [e, ← DH_sm p n]
    show 16 * DH p n + p n = p (n + 1 - 1 - 0) * ((16 ^ 0 : Nat) : Int) + _
    rw [show n + 1 - 1 - 0 = n by omega]
    show _ = p n * 1 + _
    omega
/-- the class's bits against the reference's places -/
def Mir (wt wo mu mn : Nat → Nat → Prop) (s sr : Nat → Nat → Int) (n : Nat) : Prop := (∀ i j, wt i j → i < n ∧ j < n ∧ i ≠ j) ∧ (∀ i j, j < i → i < n → (wt i j ↔ mu (n - 1 - j) (n - 1 - i)) ∧ (wt j i ↔ mu (n - 1 - j) (n - 1 - i)) ∧ (wo i j ↔ mn (n - 1 - j) (n - 1 - i)) ∧ s i j = sr (n - 1 - j) (n - 1 - i))
def cnv (n : Nat) (p : Nat → Int) : Nat → Nat := fun i => (p (n - 1 - i)).toNat
theorem cnv_ok {wt wo mu mn : Nat → Nat → Prop} {s sr : Nat → Nat → Int} {n : Nat} (hM : Mir wt wo mu mn s sr n) {p : Nat → Int} (h : OKr mu mn n p) : RG (2 ^ n - 1) (cnv n p) ∧ VL wt wo (2 ^ n - 1) (cnv n p) ∧ Ky n s (2 ^ n - 1) (cnv n p) = Wr sr n p * 1099511627776 + DH p n := by
  have hpos : ∀ i, i < n → 0 ≤ p i := fun i hi => (h.1 i hi).1
  refine ⟨fun i hi v hv => ?_, fun i hi => ⟨fun j hj => ?_, fun j hj hm hw => ?_⟩, ?_⟩
  · rw [tb_full, decide_eq_true_eq] at hi
    have hv : v < (p (n - 1 - i)).toNat := hv
    have h1 := h.1 (n - 1 - i) (by omega)
    obtain ⟨_, f2, _⟩ := us_f (n - 1 - i) (p := p) (fun k hk => h.1 k (by omega))
    obtain ⟨j, j1, j2⟩ := f2 (v : Int) (by omega) (by omega)
    refine ⟨n - 1 - j, by rw [tb_full, decide_eq_true_eq]; omega, by omega, ?_⟩
    show (p (n - 1 - (n - 1 - j))).toNat = v
    rw [show n - 1 - (n - 1 - j) = j by omega, j2]
    omega
  · rw [tb_full, decide_eq_true_eq] at hi
    obtain ⟨w1, w2, w3⟩ := hM.1 i j hj
    refine ⟨by rw [tb_full, decide_eq_true_eq]; exact w2, ?_⟩
    show (p (n - 1 - j)).toNat = (p (n - 1 - i)).toNat
    rcases Nat.lt_or_ge j i with z | z
    · have := (h.2 (n - 1 - j) (n - 1 - i) (by omega) (by omega)).1 ((hM.2 i j z hi).1.mp hj)
      omega
    · have := (h.2 (n - 1 - i) (n - 1 - j) (by omega) (by omega)).1 ((hM.2 j i (by omega) w2).2.1.mp hj)
      omega
  · rw [tb_full, decide_eq_true_eq] at hi
    have h1 := (h.2 (n - 1 - j) (n - 1 - i) (by omega) (by omega)).2 ((hM.2 i j hj hi).2.2.1.mp hw)
    have h2 := hpos (n - 1 - i) (by omega)
    have h3 := hpos (n - 1 - j) (by omega)
    show (p (n - 1 - j)).toNat ≠ (p (n - 1 - i)).toNat
    omega
  · unfold Ky
    have e1 : Wk n s (2 ^ n - 1) (cnv n p) = Wr sr n p := by
      refine tri_rev (fun i j hj hi => ?_)
      have h2 := hpos (n - 1 - i) (by omega)
      have h3 := hpos (n - 1 - j) (by omega)
      show (if (2 ^ n - 1).testBit i = true ∧ (2 ^ n - 1).testBit j = true ∧ cnv n p i = cnv n p j then s i j else 0) = if p (n - 1 - i) = p (n - 1 - j) then sr (n - 1 - j) (n - 1 - i) else 0
      rw [tb_full, tb_full, decide_eq_true hi, decide_eq_true (show j < n by omega), (hM.2 i j hj hi).2.2.2]
      by_cases e : p (n - 1 - i) = p (n - 1 - j)
      · rw [if_pos e, if_pos ⟨rfl, rfl, by show (p (n - 1 - i)).toNat = (p (n - 1 - j)).toNat; rw [e]⟩]
      · rw [if_neg e, if_neg (fun z => e ?_)]
        have z2 : (p (n - 1 - i)).toNat = (p (n - 1 - j)).toNat := z.2.2
        omega
    have e2 : Dk n (2 ^ n - 1) (cnv n p) = DH p n := by
      rw [DH_sm]
      refine sm_c (fun i hi => ?_)
      show (if _ then _ else _) = _
      rw [tb_full, decide_eq_true hi, if_pos rfl]
      have h2 := hpos (n - 1 - i) (by omega)
      show (((p (n - 1 - i)).toNat : Nat) : Int) * _ = _
      rw [Int.toNat_of_nonneg h2]
    rw [e1, e2]
theorem ok_cnv {wt wo mu mn : Nat → Nat → Prop} {s sr : Nat → Nat → Int} {n : Nat} (hM : Mir wt wo mu mn s sr n) {c : Nat → Nat} (h1 : RG (2 ^ n - 1) c) (h2 : VL wt wo (2 ^ n - 1) c) : OKr mu mn n (fun j => (c (n - 1 - j) : Int)) := by
  have tf : ∀ i, i < n → (2 ^ n - 1).testBit i = true := fun i hi => by rw [tb_full, decide_eq_true hi]
  have hrg : ∀ k, k ≤ n → RGr k (fun j => (c (n - 1 - j) : Int)) := fun k => by
    induction k with
    | zero => intro _ i hi; exact absurd hi (by omega)
    | succ k ih =>
      intro hk i hi
      by_cases e : i = k
      · rw [e]
        refine ⟨by show (0 : Int) ≤ (c (n - 1 - k) : Int); omega, ?_⟩
        obtain ⟨f1, _, f3, _⟩ := us_f k (ih (by omega))
        rcases Int.lt_or_le (us (fun j => (c (n - 1 - j) : Int)) k) ((fun j => (c (n - 1 - j) : Int)) k) with z | z
        · exfalso
          have z : us (fun j => (c (n - 1 - j) : Int)) k < (c (n - 1 - k) : Int) := z
          obtain ⟨j, j1, j2, j3⟩ := h1 (n - 1 - k) (tf _ (by omega)) (us (fun j => (c (n - 1 - j) : Int)) k).toNat (by omega)
          rw [tb_full, decide_eq_true_eq] at j1
          have h5 : (c (n - 1 - (n - 1 - j)) : Int) < us (fun j => (c (n - 1 - j) : Int)) k := f1 (n - 1 - j) (by omega)
          rw [show n - 1 - (n - 1 - j) = j by omega] at h5
          omega
        · exact z
      · exact ih (by omega) i (by omega)
  refine ⟨hrg n (by omega), fun i j hj hi => ⟨fun hm => ?_, fun hm => ?_⟩⟩
  · have hb := (hM.2 (n - 1 - j) (n - 1 - i) (by omega) (by omega)).1
    rw [show n - 1 - (n - 1 - i) = i by omega, show n - 1 - (n - 1 - j) = j by omega] at hb
    have := ((h2 (n - 1 - j) (tf _ (by omega))).1 (n - 1 - i) (hb.mpr hm)).2
    show (c (n - 1 - j) : Int) = (c (n - 1 - i) : Int)
    omega
  · have hb := (hM.2 (n - 1 - j) (n - 1 - i) (by omega) (by omega)).2.2.1
    rw [show n - 1 - (n - 1 - i) = i by omega, show n - 1 - (n - 1 - j) = j by omega] at hb
    have := (h2 (n - 1 - j) (tf _ (by omega))).2 (n - 1 - i) (by omega) (tf _ (by omega)) (hb.mpr hm)
    show (c (n - 1 - j) : Int) ≠ (c (n - 1 - i) : Int)
    omega
theorem lx_cmp {p q : Nat → Int} : ∀ n : Nat, (∀ m, m < n → p m = q m) ∨ lxg n p q ∨ lxg n q p
  | 0 => Or.inl (fun m hm => absurd hm (by omega))
  | n + 1 => by
    rcases lx_cmp n (p := p) (q := q) with h | ⟨j, j1, j2, j3⟩ | ⟨j, j1, j2, j3⟩
    · rcases Int.lt_trichotomy (p n) (q n) with z | z | z
      · exact Or.inr (Or.inr ⟨n, by omega, fun m hm => (h m hm).symm, z⟩)
      · refine Or.inl (fun m hm => ?_)
        by_cases e : m = n
        · rw [e, z]
        · exact h m (by omega)
      · exact Or.inr (Or.inl ⟨n, by omega, h, z⟩)
    · exact Or.inr (Or.inl ⟨j, by omega, j2, j3⟩)
    · exact Or.inr (Or.inr ⟨j, by omega, j2, j3⟩)
theorem best_eq {wt wo mu mn : Nat → Nat → Prop} {s sr : Nat → Nat → Int} {n : Nat} (hn : n ≤ 10) (hn0 : 0 < n) (hM : Mir wt wo mu mn s sr n) {K par bw bm : Int} {po ra : Nat → Int} {X : (Nat → Int) → Prop} (h1 : Bst wt wo n s (2 ^ n - 1) K) (h2 : BsR mu mn sr n X par bw bm po ra) (hX : ∀ p, OKr mu mn n p → X p) :
    (K = NV ∧ par = 0) ∨ (K ≠ NV ∧ par = 1 ∧ K / 1099511627776 = bw ∧ (∀ j, j < n → 0 ≤ po (ra j).toNat ∧ po (ra j).toNat ≤ 9 ∧ K / ((16 ^ (n - 1 - j) : Nat) : Int) % 16 = po (ra j).toNat ∧ po (ra j).toNat < bm) ∧ ∃ j, j < n ∧ bm = po (ra j).toNat + 1) := by
  have hlt : 2 ^ n - 1 < 2 ^ n := by have : 0 < 2 ^ n := Nat.pow_pos (by decide); omega
  rcases h1 with ⟨k1, k2⟩ | ⟨k1, ⟨c, c1, c2, c3⟩, k3⟩
  · refine Or.inl ⟨k1, ?_⟩
    rcases h2 with ⟨r1, _⟩ | ⟨_, q, q1, _⟩
    · exact r1
    · obtain ⟨a1, a2, _⟩ := cnv_ok hM q1
      exact absurd a2 (k2 _ a1)
  · have hpc := ok_cnv hM c1 c2
    rcases h2 with ⟨_, r2⟩ | ⟨r1, q, q1, q2, q3, q4, q5, q6⟩
    · exact absurd (hX _ hpc) (r2 _ hpc)
    · obtain ⟨a1, a2, a3⟩ := cnv_ok hM q1
      obtain ⟨b1, b2, b3⟩ := cnv_ok hM hpc
      have c15 : ∀ i, (2 ^ n - 1).testBit i = true → c i ≤ 9 := RG_15 hn hlt c1
      have hcc : ∀ i, (2 ^ n - 1).testBit i = true → cnv n (fun j => (c (n - 1 - j) : Int)) i = c i := fun i hi => by
        rw [tb_full, decide_eq_true_eq] at hi
        show ((c (n - 1 - (n - 1 - i)) : Int)).toNat = c i
        rw [show n - 1 - (n - 1 - i) = i by omega]
        omega
      rw [Ky_c hcc] at b3
      have h4 := k3 _ a1 a2
      rw [c3, a3, b3] at h4
      have pc : ∀ j, j < n → 0 ≤ (fun j => (c (n - 1 - j) : Int)) j ∧ (fun j => (c (n - 1 - j) : Int)) j ≤ 15 := fun j hj => by
        have := c15 (n - 1 - j) (by rw [tb_full, decide_eq_true_eq]; omega)
        show 0 ≤ (c (n - 1 - j) : Int) ∧ (c (n - 1 - j) : Int) ≤ 15
        omega
      have pq : ∀ j, j < n → 0 ≤ q j ∧ q j ≤ 9 := fun j hj => by
        have h5 := q1.1 j hj
        have h6 := (us_f j (p := q) (fun k hk => q1.1 k (by omega))).2.2.2
        omega
      have dq : DH q n = Dk n (2 ^ n - 1) (cnv n q) ∧ DH (fun j => (c (n - 1 - j) : Int)) n = Dk n (2 ^ n - 1) c := by
        refine ⟨?_, ?_⟩
        · rw [DH_sm]
          refine sm_c (fun i hi => ?_)
          show _ = (if _ then _ else _)
          rw [tb_full, decide_eq_true hi, if_pos rfl]
          have h2 := (pq (n - 1 - i) (by omega)).1
          show _ = (((q (n - 1 - i)).toNat : Nat) : Int) * _
          rw [Int.toNat_of_nonneg h2]
        · rw [DH_sm]
          refine sm_c (fun i hi => ?_)
          show (c (n - 1 - (n - 1 - i)) : Int) * _ = (if _ then _ else _)
          rw [tb_full, decide_eq_true hi, if_pos rfl, show n - 1 - (n - 1 - i) = i by omega]
      have cq15 : ∀ i, (2 ^ n - 1).testBit i = true → cnv n q i ≤ 15 := fun i hi => by
        rw [tb_full, decide_eq_true_eq] at hi
        have := pq (n - 1 - i) (by omega)
        show (q (n - 1 - i)).toNat ≤ 15
        omega
      have d1 := Dk_rg cq15 n
      have d2 := Dk_rg (c := c) (fun i hi => by have := c15 i hi; omega) n
      have d3 := p16_10 hn
      rw [← dq.1] at d1
      rw [← dq.2] at d2
      have hsame : ∀ m, m < n → (fun j => (c (n - 1 - j) : Int)) m = q m := by
        rcases q6 _ hpc (hX _ hpc) with z | ⟨z1, z2⟩
        · exfalso; omega
        · rcases lx_cmp n (p := fun j => (c (n - 1 - j) : Int)) (q := q) with z | z | z
          · exact z
          · exact absurd z z2
          · have := DH_lx (fun j hj => by have := pq j hj; omega) pc z
            exfalso; omega
      have hfin := us_f n q1.1
      refine Or.inr ⟨k1, r1, ?_, fun j hj => ?_, ?_⟩
      · rw [c3, Ky_top hn (fun i hi => by have := c15 i hi; omega), q3]
        have e7 : Wk n s (2 ^ n - 1) c = Wr sr n (fun j => (c (n - 1 - j) : Int)) := by
          have := Ky_top (s := s) hn (m := 2 ^ n - 1) (c := c) (fun i hi => by have := c15 i hi; omega)
          rw [← this, b3]
          omega
        rw [e7]
        exact Wr_c hsame
      · rw [q5 j hj]
        have h7 := pq j hj
        refine ⟨h7.1, h7.2, ?_, ?_⟩
        · rw [c3, Ky_dig hn (fun i hi => by have := c15 i hi; omega) (show n - 1 - j < n by omega) (by rw [tb_full, decide_eq_true_eq]; omega)]
          exact hsame j hj
        · rw [q4]
          exact hfin.1 j hj
      · obtain ⟨j, hj⟩ := us_top n hn0 (p := q)
        rcases hj with ⟨j1, j2⟩ | j2
        · exact ⟨j, j1, by rw [q4, j2, q5 j j1]⟩
        · have := hfin.1 0 hn0
          have := pq 0 hn0
          exfalso; omega
