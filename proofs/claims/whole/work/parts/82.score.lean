-- THE REFERENCE'S SCORE
def mTst (I : Nat → Nat → Int) (p q d k : Int) : Nat → Bool := fun j => tmB (I 87 j) (I 89 j) (vo (I 81) (I 82) (I 83) (I 84) (I 85) p (I 88 j) d k (I 74 5).toNat) (vo (I 81) (I 82) (I 83) (I 84) (I 85) q (I 88 j) d k (I 74 5).toNat) (I 78 p.toNat) (I 78 q.toNat)
def mhl (I : Nat → Nat → Int) (p q d k : Int) (n : Nat) : Bool := (evs (fun j => cmc (I 87 j)) (mTst I p q d k) (I 90 n).toNat (I 90 (n + 1) - I 90 n).toNat).headD false
def msm (I : Nat → Nat → Int) (p q d k : Int) : Nat → Int
  | 0 => 0
  | n + 1 => msm I p q d k n + if mhl I p q d k n = true then I 91 n else 0
def MBK (I : Nat → Nat → Int) : Prop := (0 ≤ I 74 20 ∧ I 74 20 ≤ 10) ∧ I 90 0 = 0 ∧ ∀ n : Nat, (n : Int) < I 74 20 → (0 ≤ I 90 n ∧ I 90 n ≤ I 90 (n + 1) ∧ I 90 (n + 1) ≤ 500) ∧ WFs (fun j => cmc (I 87 j)) (I 90 n).toNat (I 90 (n + 1) - I 90 n).toNat ∧ (-1000 ≤ I 91 n ∧ I 91 n ≤ 1000) ∧ ∀ j : Nat, I 90 n ≤ j → (j : Int) < I 90 (n + 1) → 1 ≤ I 87 j ∧ I 87 j ≤ 7
def VMK (I : Nat → Nat → Int) : Prop := (0 ≤ I 74 5 ∧ I 74 5 ≤ 150) ∧ ∀ j : Nat, (j : Int) < I 74 5 → 0 ≤ I 83 j ∧ I 83 j ≤ 999999
theorem vo_rg {I : Nat → Nat → Int} (h : VMK I) (r f d k : Int) : -1 ≤ vo (I 81) (I 82) (I 83) (I 84) (I 85) r f d k (I 74 5).toNat ∧ vo (I 81) (I 82) (I 83) (I 84) (I 85) r f d k (I 74 5).toNat ≤ 999999 := by
  have h1 := bv_rg (I 81) (I 82) (I 84) (I 85) r f d k (I 74 5).toNat
  unfold vo
  split
  · omega
  · have := h.2 (bv (I 81) (I 82) (I 84) (I 85) r f d k (I 74 5).toNat).toNat (by have := h.1; omega)
    omega
theorem msm_rg {I : Nat → Nat → Int} (h : MBK I) (p q d k : Int) : ∀ n : Nat, (n : Int) ≤ I 74 20 → -1000 * (n : Int) ≤ msm I p q d k n ∧ msm I p q d k n ≤ 1000 * (n : Int)
  | 0, _ => by show -1000 * ((0 : Nat) : Int) ≤ 0 ∧ (0 : Int) ≤ 1000 * ((0 : Nat) : Int); omega
  | n + 1, hn => by
    have h1 := msm_rg h p q d k n (by omega)
    have h2 := (h.2.2 n (by omega)).2.2.1
    show -1000 * ((n + 1 : Nat) : Int) ≤ msm I p q d k n + (if mhl I p q d k n = true then I 91 n else 0) ∧ msm I p q d k n + (if mhl I p q d k n = true then I 91 n else 0) ≤ 1000 * ((n + 1 : Nat) : Int)
    split <;> omega
-- both scores
def RBk (bk : Nat) (I : Nat → Nat → Int) : Prop := I bk 0 = I 74 20 ∧ I 90 0 = 0 ∧ ∀ n : Nat, (n : Int) < I 74 20 → I (bk + 2) n = I 90 (n + 1) ∧ I (bk + 1) n = I 91 n ∧ ∀ j : Nat, I 90 n ≤ j → (j : Int) < I 90 (n + 1) → (1 ≤ I 87 j ∧ I 87 j ≤ 7) ∧ I (bk + 3) j = cmc (I 87 j) ∧ (I 87 j ≤ 3 → I (bk + 4) j = I 88 j ∧ 0 ≤ I 88 j ∧ I 88 j ≤ 5) ∧ (I 87 j = 1 → I (bk + 5) j = 0) ∧ (I 87 j = 2 → I (bk + 5) j = I 89 j)
theorem RBk_MBK {bk : Nat} {I : Nat → Nat → Int} (h : RBk bk I) (hB : BKk I bk) : MBK I := by
  obtain ⟨r1, r2, r3⟩ := h
  have hs : ∀ n : Nat, (n : Int) < I 74 20 → sof (I (bk + 2)) n = I 90 n := fun n hn => by
    cases n with
    | zero => exact r2.symm
    | succ n => exact (r3 n (by omega)).1
  refine ⟨by rw [← r1]; exact hB.1, r2, fun n hn => ?_⟩
  obtain ⟨b1, b2, b3, b4⟩ := hB.2 n (by omega)
  obtain ⟨q1, q2, q3⟩ := r3 n hn
  rw [hs n hn, q1] at b1 b2
  refine ⟨by omega, ?_, by rw [← q2]; exact b3, fun j j1 j2 => (q3 j j1 j2).1⟩
  have hd : ∀ m, m ≤ (I 90 (n + 1) - I 90 n).toNat → dep (fun j => cmc (I 87 j)) (I 90 n).toNat m = dep (I (bk + 3)) (I 90 n).toNat m := fun m => by
    induction m with
    | zero => intro _; rfl
    | succ m ih =>
      intro hm
      have e := (q3 ((I 90 n).toNat + m) (by omega) (by omega)).2.1
      unfold dep
      rw [ih (by omega), ← e]
  refine ⟨fun m hm => ?_, ?_⟩
  · have e := (q3 ((I 90 n).toNat + m) (by omega) (by omega)).2.1
    have := b2.1 m hm
    rw [hd m (by omega)]
    show (cmc _ = 3 → _) ∧ (cmc _ = 4 ∨ cmc _ = 5 → _) ∧ _
    rw [← e]
    exact this
  · rw [hd _ (by omega)]
    exact b2.2
theorem evs_c {kd kd' : Nat → Int} {T T' : Nat → Bool} {a : Nat} : ∀ n : Nat, (∀ m, m < n → kd (a + m) = kd' (a + m) ∧ (kd (a + m) ≠ 3 ∧ kd (a + m) ≠ 4 ∧ kd (a + m) ≠ 5 → T (a + m) = T' (a + m))) → evs kd T a n = evs kd' T' a n
  | 0, _ => rfl
  | n + 1, h => by
    rw [evs_s, evs_s, evs_c n (fun m hm => h m (by omega))]
    obtain ⟨h1, h2⟩ := h n (by omega)
    rw [← h1]
    by_cases e : kd (a + n) ≠ 3 ∧ kd (a + n) ≠ 4 ∧ kd (a + n) ≠ 5
    · rw [h2 e]
    · unfold stp
      by_cases e3 : kd (a + n) = 3
      · rw [if_pos e3, if_pos e3]
      · by_cases e4 : kd (a + n) = 4
        · rw [if_neg e3, if_pos e4, if_neg e3, if_pos e4]
        · rw [if_neg e3, if_neg e4, if_pos (by omega), if_neg e3, if_neg e4, if_pos (by omega)]
theorem tst_tm {c re re' x y s t : Int} (hc : 1 ≤ c ∧ c ≤ 4) (hx : -1 ≤ x) (hy : -1 ≤ y) (h1 : c = 1 → re = 0) (h2 : c = 2 → re = re') : tstB (cmc c) re x y s t = tmB c re' x y s t := by
  unfold tstB tmB cmc
  rcases (show c = 1 ∨ c = 2 ∨ c = 3 ∨ c = 4 by omega) with e | e | e | e
  · rw [e]
    simp only [show ¬ ((1 : Int) = 5) by omega, show ¬ ((1 : Int) = 7) by omega, show ¬ ((1 : Int) = 6) by omega, show ¬ ((1 : Int) = 3) by omega, show ¬ ((1 : Int) = 4) by omega, show ¬ ((0 : Int) = 2) by omega, show ¬ ((0 : Int) = 1) by omega, if_false, if_true]
    have := h1 e
    exact decide_eq_decide.mpr (by omega)
  · rw [e]
    simp only [show ¬ ((2 : Int) = 5) by omega, show ¬ ((2 : Int) = 7) by omega, show ¬ ((2 : Int) = 6) by omega, show ¬ ((2 : Int) = 3) by omega, show ¬ ((2 : Int) = 4) by omega, show ¬ ((2 : Int) = 1) by omega, show ¬ ((0 : Int) = 2) by omega, show ¬ ((0 : Int) = 1) by omega, if_false, if_true]
    have := h2 e
    exact decide_eq_decide.mpr (by omega)
  · rw [e]
    simp only [show ¬ ((3 : Int) = 5) by omega, show ¬ ((3 : Int) = 7) by omega, show ¬ ((3 : Int) = 6) by omega, show ¬ ((3 : Int) = 1) by omega, show ¬ ((3 : Int) = 2) by omega, show ¬ ((1 : Int) = 2) by omega, if_false, if_true]
    exact decide_eq_decide.mpr (by omega)
  · rw [e]
    simp only [show ¬ ((4 : Int) = 5) by omega, show ¬ ((4 : Int) = 7) by omega, show ¬ ((4 : Int) = 6) by omega, show ¬ ((4 : Int) = 1) by omega, show ¬ ((4 : Int) = 2) by omega, show ¬ ((4 : Int) = 3) by omega, if_false, if_true]
/-- rows, versions: the two sides hold the same -/
def TbV (I : Nat → Nat → Int) : Prop := I 17 0 = I 74 4 ∧ I 21 0 = I 74 5 ∧ (∀ j : Nat, (j : Int) < I 17 0 → I 18 j = I 78 j ∧ I 19 j = I 79 j ∧ I 20 j = I 80 j) ∧ ∀ j : Nat, (j : Int) < I 21 0 → I 22 j = I 81 j ∧ I 23 j = I 82 j ∧ I 24 j = I 83 j ∧ I 25 j = I 84 j ∧ I 26 j = I 85 j ∧ I 27 j = I 86 j
theorem bv_c {ro fi fr to ro' fi' fr' to' : Nat → Int} {r f d k : Int} : ∀ n : Nat, (∀ j, j < n → ro j = ro' j ∧ fi j = fi' j ∧ fr j = fr' j ∧ to j = to' j) → bv ro fi fr to r f d k n = bv ro' fi' fr' to' r f d k n
  | 0, _ => rfl
  | n + 1, h => by
    have e := bv_c n (r := r) (f := f) (d := d) (k := k) (fun j hj => h j (by omega))
    have hr := bv_rg ro' fi' fr' to' r f d k n
    rw [bv_s, bv_s, e]
    obtain ⟨h1, h2, h3, h4⟩ := h n (by omega)
    rw [h1, h2, h3, h4]
    by_cases hz : bv ro' fi' fr' to' r f d k n < 0
    · simp only [hz, true_or, and_true]
    · have := (h (bv ro' fi' fr' to' r f d k n).toNat (by omega)).2.2.1
      rw [this]
theorem sv_bv {I : Nat → Nat → Int} (hT : TbV I) (hV : VOK I) {d k : Int} {r f : Nat} (hf : f < 6) (ht : thr I k r = 1) : sv I d k (I 21 0).toNat (r * 6 + f) = bv (I 81) (I 82) (I 84) (I 85) (r : Int) (f : Int) d k (I 74 5).toNat := by
  unfold sv
  rw [show (r * 6 + f) / 6 = r by omega, show (r * 6 + f) % 6 = f by omega, if_pos ht, hT.2.1]
  exact bv_c _ (fun j hj => by
    have := hT.2.2.2 j (by have := hT.2.1; omega)
    exact ⟨this.1, this.2.1, this.2.2.2.1, this.2.2.2.2.1⟩)
theorem val_vo {I : Nat → Nat → Int} (hT : TbV I) (hV : VOK I) {d k : Int} (hs : SG I d k) {r : Nat} {f : Int} (hr : r < 10) (hf : 0 ≤ f ∧ f ≤ 5) (ht : thB I r = true) : I 46 (((r : Int) * 6) + f).toNat = vo (I 81) (I 82) (I 83) (I 84) (I 85) (r : Int) f d k (I 74 5).toNat := by
  have h1 := hs.2.2.1 r hr
  have ht1 : thr I k r = 1 := by
    have h2 : I 45 r ≠ 0 := of_decide_eq_true ht
    rcases thr_01 I k r with z | z
    · omega
    · exact z
  have h3 := (hs.2.2.2 (r * 6 + f.toNat) (by omega)).1
  have h4 := sv_bv hT hV (d := d) (f := f.toNat) (by omega) ht1
  rw [show ((f.toNat : Nat) : Int) = f by omega] at h4
  rw [h4] at h3
  rw [show (((r : Int) * 6) + f).toNat = r * 6 + f.toNat by omega, h3]
  unfold vo
  have hb := bv_rg (I 81) (I 82) (I 84) (I 85) (r : Int) f d k (I 74 5).toNat
  by_cases hz : bv (I 81) (I 82) (I 84) (I 85) (r : Int) f d k (I 74 5).toNat < 0
  · rw [if_pos hz, if_pos hz]
  · rw [if_neg hz, if_neg hz]
    exact (hT.2.2.2 _ (by have := hT.2.1; have := hV.2.1; omega)).2.2.1
theorem thB_row {I : Nat → Nat → Int} {d k : Int} (hs : SG I d k) {r : Nat} (hr : r < 10) : thB I r = true ↔ (r : Int) < I 17 0 ∧ I 20 r = 0 ∧ I 19 r ≤ k := by
  have h1 := hs.2.2.1 r hr
  unfold thB
  rw [decide_eq_true_eq, h1]
  unfold thr
  split
  · next h => exact ⟨fun _ => h, fun _ => by omega⟩
  · next h => exact ⟨fun z => absurd rfl z, fun z => absurd z h⟩
theorem csc_msm {bk : Nat} {I : Nat → Nat → Int} (hT : TbV I) (hV : VOK I) {d k : Int} (hs : SG I d k) (hR : RBk bk I) (hB : BKk I bk) (hM : VMK I) {p q : Nat} (hp : p < 10) (hq : q < 10) (tp : thB I p = true) (tq : thB I q = true) : csc I bk (p : Int) (q : Int) = msm I (p : Int) (q : Int) d k (I 74 20).toNat := by
  have hr1 := (thB_row hs hp).mp tp
  have hr2 := (thB_row hs hq).mp tq
  obtain ⟨r1, r2, r3⟩ := hR
  have hsof : ∀ n : Nat, (n : Int) < I 74 20 → sof (I (bk + 2)) n = I 90 n := fun n hn => by
    cases n with
    | zero => exact r2.symm
    | succ n => exact (r3 n (by omega)).1
  unfold csc
  rw [r1]
  have key : ∀ n : Nat, (n : Int) ≤ I 74 20 → lsm (I (bk + 3)) (I (bk + 2)) (I (bk + 1)) (fun j => tstB (I (bk + 3) j) (I (bk + 5) j) (I 46 (((p : Int) * 6) + (I (bk + 4) j)).toNat) (I 46 (((q : Int) * 6) + (I (bk + 4) j)).toNat) (I 18 (p : Int).toNat) (I 18 (q : Int).toNat)) n = msm I (p : Int) (q : Int) d k n := fun n => by
    induction n with
    | zero => intro _; rfl
    | succ n ih =>
      intro hn
      have hh : hld (I (bk + 3)) (I (bk + 2)) (fun j => tstB (I (bk + 3) j) (I (bk + 5) j) (I 46 (((p : Int) * 6) + (I (bk + 4) j)).toNat) (I 46 (((q : Int) * 6) + (I (bk + 4) j)).toNat) (I 18 (p : Int).toNat) (I 18 (q : Int).toNat)) n = mhl I (p : Int) (q : Int) d k n := by
        obtain ⟨q1, q2, q3⟩ := r3 n (by omega)
        have hb := (hB.2 n (by omega)).1
        unfold hld mhl
        rw [hsof n (by omega), q1] at hb ⊢
        congr 1
        refine evs_c _ (fun m hm => ?_)
        obtain ⟨c1, c2, c3, c4, c5⟩ := q3 ((I 90 n).toNat + m) (by omega) (by omega)
        refine ⟨c2, fun hk => ?_⟩
        rw [c2] at hk
        have hc : I 87 ((I 90 n).toNat + m) ≤ 4 := by
          rcases (show I 87 ((I 90 n).toNat + m) ≤ 4 ∨ I 87 ((I 90 n).toNat + m) = 5 ∨ I 87 ((I 90 n).toNat + m) = 6 ∨ I 87 ((I 90 n).toNat + m) = 7 by omega) with e | e | e | e
          · exact e
          · rw [e] at hk; exact absurd rfl hk.1
          · rw [e] at hk; exact absurd rfl hk.2.2
          · rw [e] at hk; exact absurd rfl hk.2.1
        show tstB (I (bk + 3) ((I 90 n).toNat + m)) _ _ _ _ _ = mTst I (p : Int) (q : Int) d k ((I 90 n).toNat + m)
        unfold mTst
        rw [c2, show (p : Int).toNat = p by omega, show (q : Int).toNat = q by omega, (hT.2.2.1 p hr1.1).1, (hT.2.2.1 q hr2.1).1]
        by_cases e4 : I 87 ((I 90 n).toNat + m) = 4
        · rw [e4]
          rfl
        · obtain ⟨f1, f2⟩ := c3 (by omega)
          have v1 := vo_rg hM (p : Int) (I 88 ((I 90 n).toNat + m)) d k
          have v2 := vo_rg hM (q : Int) (I 88 ((I 90 n).toNat + m)) d k
          rw [f1, val_vo hT hV hs hp f2 tp, val_vo hT hV hs hq f2 tq]
          exact tst_tm ⟨c1.1, hc⟩ v1.1 v2.1 c4 c5
      show (if hld _ _ _ n = true then _ else _) = msm I (p : Int) (q : Int) d k n + if mhl I (p : Int) (q : Int) d k n = true then I 91 n else 0
      rw [hh, ih (by omega), (r3 n (by omega)).2.1]
      split
      · rfl
      · omega
  exact key _ (by have := hB.1; omega)
