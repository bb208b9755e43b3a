-- THE REFERENCE'S PART
def FR3 (I J : Nat → Nat → Int) : Prop := ∀ a j, ¬ ((111 ≤ a ∧ a ≤ 115) ∨ (a = 74 ∧ 56 ≤ j ∧ j ≤ 58)) → J a j = I a j
def PZ (I J : Nat → Nat → Int) (n : Nat) (i : Int) : Prop := FR3 I J ∧ (∀ r, (∀ j, j < n → (I 110 j).toNat ≠ r) → J 111 r = I 111 r) ∧ ((0 ≤ i ∧ i < (n : Int) ∧ DFx (muM I) (mnM I) (srM I) n J i.toNat) ∨ (i = -1 ∧ DFe (muM I) (mnM I) (srM I) n J))
theorem PZ_up {I J : Nat → Nat → Int} {n : Nat} {i : Int} (h : PZ I J n i) (h0 : 0 ≤ i) (hc : J 113 i.toNat < 0) : PZ I J n (i + (-1)) ∧ tot (J 113) (i + (-1) + 1).toNat < tot (J 113) (i + 1).toNat := by
  obtain ⟨f, g, z⟩ := h
  rcases z with ⟨z1, z2, z3⟩ | ⟨z1, _⟩
  · have ht : tot (J 113) (i + (-1) + 1).toNat < tot (J 113) (i + 1).toNat := by
      rw [show (i + (-1) + 1).toNat = i.toNat by omega, show (i + 1).toNat = i.toNat + 1 by omega]
      exact tot_up (by have := z3.2.2.2.2.1; omega)
    refine ⟨⟨f, g, ?_⟩, ht⟩
    by_cases e : i = 0
    · rw [e] at z3 hc
      exact Or.inr ⟨by omega, DF_end z3 (by omega) hc⟩
    · have e2 : i.toNat = (i + (-1)).toNat + 1 := by omega
      rw [e2] at z3 hc
      exact Or.inl ⟨by omega, by omega, DF_up z3 (by omega) hc⟩
  · omega
theorem PZ_ok {I J : Nat → Nat → Int} {n : Nat} {i : Int} (h : PZ I J n i) (h0 : 0 ≤ i) : i < (n : Int) ∧ DFx (muM I) (mnM I) (srM I) n J i.toNat := by
  rcases h.2.2 with ⟨_, z2, z3⟩ | ⟨z1, _⟩
  · exact ⟨z2, z3⟩
  · omega
theorem NoB_c {I J : Nat → Nat → Int} {i : Nat} {c : Int} {n : Nat} (h7 : ∀ j, J 117 j = I 117 j) : NoB J i c n ↔ ∀ j, j < n → (muM I i j → J 112 j = c) ∧ (mnM I i j → J 112 j ≠ c) := by
  unfold NoB muM mnM
  constructor
  · intro h j hj
    have := h j hj
    rw [h7] at this
    exact this
  · intro h j hj
    rw [h7]
    exact h j hj
theorem PZ_no {I J : Nat → Nat → Int} {n : Nat} {i : Int} (h : PZ I J n i) (h0 : 0 ≤ i) (hc : 0 ≤ J 113 i.toNat) (hN : ¬ NoB (upI J 113 i.toNat (J 113 i.toNat - 1)) i.toNat (J 113 i.toNat) i.toNat) : PZ I (upI J 113 i.toNat (J 113 i.toNat - 1)) n i ∧ tot ((upI J 113 i.toNat (J 113 i.toNat - 1)) 113) (i + 1).toNat < tot (J 113) (i + 1).toNat := by
  obtain ⟨z2, z3⟩ := PZ_ok h h0
  obtain ⟨f, g, _⟩ := h
  have hno : ∃ j, j < i.toNat ∧ ((muM I i.toNat j ∧ J 112 j ≠ J 113 i.toNat) ∨ (mnM I i.toNat j ∧ J 112 j = J 113 i.toNat)) := by
    refine Classical.byContradiction (fun hx => hN ?_)
    rw [NoB_c (I := I) (fun j => by rw [upI_ne (by omega)]; exact f 117 j (by omega))]
    intro j hj
    rw [upI_ne (by omega)]
    exact ⟨fun hm => Classical.byContradiction (fun q => hx ⟨j, hj, Or.inl ⟨hm, q⟩⟩), fun hm q => hx ⟨j, hj, Or.inr ⟨hm, q⟩⟩⟩
  refine ⟨⟨fun a j ha => by rw [upI_ne (by omega)]; exact f a j ha, fun r hr => by rw [upI_ne (by omega)]; exact g r hr, Or.inl ⟨h0, z2, DF_no z3 (by omega) hc hno rfl⟩⟩, ?_⟩
  rw [show (i + 1).toNat = i.toNat + 1 by omega]
  exact tot_dec (fun a ha => upI_ne (by omega)) (upI_eq rfl rfl)
/-- the world behind a choice of c at place i -/
def Jc (J : Nat → Nat → Int) (i : Int) (u : Int) : Nat → Nat → Int := upI (upI (upI (upI J 113 i.toNat (J 113 i.toNat - 1)) 115 (i + 1).toNat ((upI J 113 i.toNat (J 113 i.toNat - 1)) 115 i.toNat + cbS (upI J 113 i.toNat (J 113 i.toNat - 1)) i.toNat (J 113 i.toNat) i.toNat)) 112 i.toNat (J 113 i.toNat)) 114 (i + 1).toNat u
theorem Jc_f (J : Nat → Nat → Int) (i u : Int) (a j : Nat) (h : ¬ ((a = 113 ∧ j = i.toNat) ∨ (a = 115 ∧ j = (i + 1).toNat) ∨ (a = 112 ∧ j = i.toNat) ∨ (a = 114 ∧ j = (i + 1).toNat))) : Jc J i u a j = J a j := by
  unfold Jc
  rw [upI_ne (by omega), upI_ne (by omega), upI_ne (by omega), upI_ne (by omega)]
theorem Jc_nx {I J : Nat → Nat → Int} {i u : Int} (f : FR3 I J) (h0 : 0 ≤ i) (hu : u = if J 113 i.toNat = J 114 i.toNat then J 113 i.toNat + 1 else J 114 i.toNat) : NXc (srM I) J (Jc J i u) i.toNat (J 113 i.toNat) ∧ (Jc J i u) 113 i.toNat = J 113 i.toNat - 1 := by
  have e1 : (i + 1).toNat = i.toNat + 1 := by omega
  refine ⟨⟨fun m hm => Jc_f J i u 112 m (by omega), ?_, fun a ha => ⟨Jc_f J i u 114 a (by omega), Jc_f J i u 115 a (by omega)⟩, ?_, ?_, fun a ha => Jc_f J i u 113 a (by omega), fun j => Jc_f J i u 110 j (by omega)⟩, ?_⟩
  · unfold Jc
    rw [upI_ne (by omega), upI_eq rfl rfl]
  · unfold Jc
    rw [upI_eq rfl e1.symm]
    exact hu
  · unfold Jc
    rw [upI_ne (by omega), upI_ne (by omega), upI_eq rfl e1.symm, upI_ne (by omega)]
    congr 1
    unfold cbS
    exact sm_c (fun j _ => by
      unfold srM
      rw [upI_ne (by omega), upI_ne (by omega), f 116 _ (by omega)])
  · unfold Jc
    rw [upI_ne (by omega), upI_ne (by omega), upI_ne (by omega), upI_eq rfl rfl]
theorem PZ_deep {I J J' : Nat → Nat → Int} {n : Nat} {i u : Int} (hn10 : n ≤ 10) (h : PZ I J n i) (h0 : 0 ≤ i) (hc : 0 ≤ J 113 i.toNat) (hN : NoB (upI J 113 i.toNat (J 113 i.toNat - 1)) i.toNat (J 113 i.toNat) i.toNat) (hi : i + 1 < (n : Int)) (hu : u = if J 113 i.toNat = J 114 i.toNat then J 113 i.toNat + 1 else J 114 i.toNat) (hJ : J' = upI (Jc J i u) 113 (i + 1).toNat ((Jc J i u) 114 (i + 1).toNat)) : PZ I J' n (i + 1) ∧ tot (J' 113) (i + 1 + 1).toNat < tot (J 113) (i + 1).toNat := by
  obtain ⟨z2, z3⟩ := PZ_ok h h0
  obtain ⟨f, g, _⟩ := h
  have e1 : (i + 1).toNat = i.toNat + 1 := by omega
  obtain ⟨x1, x2⟩ := Jc_nx f h0 hu
  rw [NoB_c (I := I) (fun j => by rw [upI_ne (by omega)]; exact f 117 j (by omega))] at hN
  have hok : ∀ j, j < i.toNat → (muM I i.toNat j → J 112 j = J 113 i.toNat) ∧ (mnM I i.toNat j → J 112 j ≠ J 113 i.toNat) := fun j hj => by
    have := hN j hj
    rw [upI_ne (by omega)] at this
    exact this
  have fj : ∀ a j, ¬ (a = 113 ∧ j = i.toNat + 1) → J' a j = Jc J i u a j := fun a j ha => by rw [hJ, upI_ne (by omega)]
  have hN' : NXc (srM I) J J' i.toNat (J 113 i.toNat) := by
    obtain ⟨y1, y2, y3, y4, y5, y6, y7⟩ := x1
    exact ⟨fun m hm => by rw [fj 112 m (by omega)]; exact y1 m hm, by rw [fj 112 _ (by omega)]; exact y2, fun a ha => by rw [fj 114 a (by omega), fj 115 a (by omega)]; exact y3 a ha, by rw [fj 114 _ (by omega)]; exact y4, by rw [fj 115 _ (by omega)]; exact y5, fun a ha => by rw [fj 113 a (by omega)]; exact y6 a ha, fun j => by rw [fj 110 j (by omega)]; exact y7 j⟩
  have h14 : J' 113 (i.toNat + 1) = J' 114 (i.toNat + 1) := by rw [hJ, upI_eq rfl e1.symm, upI_ne (by omega), e1]
  have h13 : J' 113 i.toNat = J 113 i.toNat - 1 := by rw [fj 113 _ (by omega)]; exact x2
  have hd := DF_deep z3 (by omega) ⟨hc, rfl⟩ hN' hok h13 h14 (fun j => by rw [fj 74 j (by omega), Jc_f J i u 74 j (by omega)]) (fun j => by rw [fj 111 j (by omega), Jc_f J i u 111 j (by omega)])
  refine ⟨⟨fun a j ha => by rw [fj a j (by omega), Jc_f J i u a j (by omega)]; exact f a j ha, fun r hr => by rw [fj 111 r (by omega), Jc_f J i u 111 r (by omega)]; exact g r hr, Or.inl ⟨by omega, hi, by rw [e1]; exact hd⟩⟩, ?_⟩
  rw [show (i + 1 + 1).toNat = i.toNat + 1 + 1 by omega, e1]
  have hu2 := (us_f (i.toNat + 1) hd.1).2.2
  have hu3 := (hd.2.2.1 (i.toNat + 1) (by omega)).1
  exact tot_deep (by omega) (fun a ha => by rw [fj 113 a (by omega), Jc_f J i u 113 a (by omega)]) h13 (by omega)
theorem PZ_leaf {I J J2 : Nat → Nat → Int} {n : Nat} {i u : Int} (h55 : I 74 55 = (n : Int)) (h : PZ I J n i) (h0 : 0 ≤ i) (hc : 0 ≤ J 113 i.toNat) (hN : NoB (upI J 113 i.toNat (J 113 i.toNat - 1)) i.toNat (J 113 i.toNat) i.toNat) (hi : i + 1 = (n : Int)) (hu : u = if J 113 i.toNat = J 114 i.toNat then J 113 i.toNat + 1 else J 114 i.toNat) (hL : Lkr (Jc J i u) J2) : PZ I J2 n i ∧ tot (J2 113) (i + 1).toNat < tot (J 113) (i + 1).toNat := by
  obtain ⟨z2, z3⟩ := PZ_ok h h0
  obtain ⟨f, g, _⟩ := h
  have e1 : (i + 1).toNat = i.toNat + 1 := by omega
  obtain ⟨x1, x2⟩ := Jc_nx f h0 hu
  rw [NoB_c (I := I) (fun j => by rw [upI_ne (by omega)]; exact f 117 j (by omega))] at hN
  have hok : ∀ j, j < i.toNat → (muM I i.toNat j → J 112 j = J 113 i.toNat) ∧ (mnM I i.toNat j → J 112 j ≠ J 113 i.toNat) := fun j hj => by
    have := hN j hj
    rw [upI_ne (by omega)] at this
    exact this
  have q55 : J 74 55 = (n : Int) := by rw [f 74 55 (by omega)]; exact h55
  have hd := DF_leaf z3 (by omega) ⟨hc, rfl⟩ x1 hok x2 (fun j => Jc_f J i u 74 j (by omega)) (fun j => Jc_f J i u 111 j (by omega)) q55 hL
  have f2 : ∀ a j, ¬ ((a = 74 ∧ (j = 56 ∨ j = 57 ∨ j = 58)) ∨ a = 111) → J2 a j = Jc J i u a j := fun a j ha => by
    rcases hL with ⟨_, e⟩ | ⟨_, e, _⟩
    · rw [e]
    · exact e a j ha
  refine ⟨⟨fun a j ha => by rw [f2 a j (by omega), Jc_f J i u a j (by omega)]; exact f a j ha, fun r hr => ?_, Or.inl ⟨h0, z2, hd⟩⟩, ?_⟩
  · have : J2 111 r = Jc J i u 111 r := by
      rcases hL with ⟨_, e⟩ | ⟨_, _, _, _, _, _, e⟩
      · rw [e]
      · refine e r (fun j hj => ?_)
        rw [Jc_f J i u 74 55 (by omega), q55] at hj
        rw [Jc_f J i u 110 j (by omega), f 110 j (by omega)]
        exact hr j (by omega)
    rw [this, Jc_f J i u 111 r (by omega)]
    exact g r hr
  · rw [e1]
    exact tot_dec (fun a ha => by rw [f2 113 a (by omega), Jc_f J i u 113 a (by omega)]) (by rw [f2 113 _ (by omega)]; exact x2)
theorem PZ_0 {I J : Nat → Nat → Int} {n : Nat} (hn : 0 < n) (f : FR3 I J) (e111 : ∀ r, J 111 r = I 111 r) (h13 : J 113 0 = 0) (h14 : J 114 0 = 0) (h15 : J 115 0 = 0) (h58 : J 74 58 = 0) : PZ I J n 0 := by
  refine ⟨f, fun r _ => e111 r, Or.inl ⟨by omega, by omega, ?_⟩⟩
  show DFx (muM I) (mnM I) (srM I) n J 0
  refine ⟨fun a ha => absurd ha (by omega), fun a j _ ha => absurd ha (by omega), fun a ha => ?_, fun a ha => absurd ha (by omega), by rw [h13]; show (-1 : Int) ≤ 0 ∧ (0 : Int) ≤ 0; omega, Or.inl ⟨h58, fun p hp hx => ?_⟩⟩
  · rw [show a = 0 by omega, h14, h15]
    exact ⟨rfl, rfl⟩
  · rcases hx with ⟨j, j1, _⟩ | ⟨_, h2⟩
    · omega
    · rw [h13] at h2
      have h3 := (hp.1 0 hn).2
      have : us p 0 = 0 := rfl
      omega
-- rows, pairs
def thM (I : Nat → Nat → Int) (k : Int) : Nat → Bool := fun r => decide ((r : Int) < I 74 4 ∧ I 80 r = 0 ∧ I 79 r ≤ k)
def knM (I : Nat → Nat → Int) (k : Int) (h : Nat) : Prop := I 102 h ≤ k ∧ ¬ (0 ≤ I 103 h ∧ I 103 h ≤ k)
/-- one of the first m hands speaks of two rows -/
def SYm (I : Nat → Nat → Int) (k : Int) (v : Bool) (x y : Int) (m : Nat) : Prop := ∃ h, h < m ∧ knM I k h ∧ (I 104 h ≠ 0 ↔ v = true) ∧ ((I 100 h = x ∧ I 101 h = y) ∨ (I 100 h = y ∧ I 101 h = x))
theorem SY_s {I : Nat → Nat → Int} {k : Int} {v : Bool} {x y : Int} {m : Nat} : SYm I k v x y (m + 1) ↔ SYm I k v x y m ∨ (knM I k m ∧ (I 104 m ≠ 0 ↔ v = true) ∧ ((I 100 m = x ∧ I 101 m = y) ∨ (I 100 m = y ∧ I 101 m = x))) := by
  constructor
  · rintro ⟨h, h1, h2⟩
    by_cases e : h = m
    · rw [e] at h2
      exact Or.inr h2
    · exact Or.inl ⟨h, by omega, h2⟩
  · rintro (⟨h, h1, h2⟩ | h2)
    · exact ⟨h, by omega, h2⟩
    · exact ⟨m, by omega, h2⟩
def Sy3 (I : Nat → Nat → Int) (k x y s : Int) (m : Nat) : Prop := (0 ≤ s ∧ s ≤ 3) ∧ (bAnd s 1 = 1 ↔ SYm I k true x y m) ∧ (bAnd s 2 = 2 ↔ SYm I k false x y m)
theorem Sy_no {I : Nat → Nat → Int} {k x y s : Int} {m : Nat} (h : Sy3 I k x y s m) (hno : ¬ (knM I k m ∧ ((I 100 m = x ∧ I 101 m = y) ∨ (I 100 m = y ∧ I 101 m = x)))) : Sy3 I k x y s (m + 1) := by
  have e : ∀ v, SYm I k v x y (m + 1) ↔ SYm I k v x y m := fun v => by
    rw [SY_s]
    exact ⟨fun z => z.elim id (fun q => absurd ⟨q.1, q.2.2⟩ hno), Or.inl⟩
  exact ⟨h.1, by rw [e]; exact h.2.1, by rw [e]; exact h.2.2⟩
theorem Sy_yes {I : Nat → Nat → Int} {k x y s s' : Int} {m : Nat} (h : Sy3 I k x y s m) (h1 : knM I k m) (h2 : (I 100 m = x ∧ I 101 m = y) ∨ (I 100 m = y ∧ I 101 m = x)) (hs : (I 104 m ≠ 0 ∧ s' = bOr s 1) ∨ (I 104 m = 0 ∧ s' = bOr s 2)) : Sy3 I k x y s' (m + 1) := by
  obtain ⟨o1, o2⟩ := sy_or h.1
  obtain ⟨g0, g1, g2⟩ := h
  rcases hs with ⟨a1, a2⟩ | ⟨a1, a2⟩
  · rw [a2]
    refine ⟨⟨o1.1, o1.2.1⟩, ?_, ?_⟩
    · rw [SY_s]
      exact ⟨fun _ => Or.inr ⟨h1, ⟨fun _ => rfl, fun _ => a1⟩, h2⟩, fun _ => o1.2.2.1⟩
    · rw [o1.2.2.2, g2, SY_s]
      exact ⟨Or.inl, fun z => z.elim id (fun q => absurd (q.2.1.mp a1) (by decide))⟩
  · rw [a2]
    refine ⟨⟨o2.1, o2.2.1⟩, ?_, ?_⟩
    · rw [o2.2.2.2, g1, SY_s]
      exact ⟨Or.inl, fun z => z.elim id (fun q => absurd a1 (q.2.1.mpr rfl))⟩
    · rw [SY_s]
      exact ⟨fun _ => Or.inr ⟨h1, ⟨fun z => absurd a1 z, fun z => absurd z (by decide)⟩, h2⟩, fun _ => o2.2.2.1⟩
/-- the pairs below (i, j) are told -/
def Pr2 (I J : Nat → Nat → Int) (d k : Int) (x y : Nat) : Prop := J 116 (10 * x + y) = msm I (I 110 y) (I 110 x) d k (I 74 20).toNat ∧ Sy3 I k (I 110 x) (I 110 y) (J 117 (10 * x + y)) (I 74 43).toNat
def FR2 (I J : Nat → Nat → Int) : Prop := ∀ a j, ¬ (a = 99 ∨ a = 116 ∨ a = 117) → J a j = I a j
def FR1 (I J : Nat → Nat → Int) : Prop := ∀ a j, ¬ ((a = 74 ∧ j = 55) ∨ a = 110 ∨ a = 111) → J a j = I a j
/-- the rows below r are gathered -/
def Gt1 (I J : Nat → Nat → Int) (k : Int) (r : Nat) : Prop := FR1 I J ∧ J 74 55 = (cnt (thM I k) r : Int) ∧ (∀ q, q < r → thM I k q = true → J 110 (cnt (thM I k) q) = (q : Int)) ∧ ∀ q, q < r → J 111 q = -1
theorem Gt1_no {I J : Nat → Nat → Int} {k r : Int} (h : Gt1 I J k r.toNat) (h0 : 0 ≤ r) (ht : ¬ (r < J 74 4 ∧ J 80 r.toNat = 0 ∧ J 79 r.toNat ≤ k)) : Gt1 I (upI J 111 r.toNat (-1)) k (r + 1).toNat := by
  obtain ⟨f, g, p, q⟩ := h
  rw [f 74 4 (by omega), f 80 _ (by omega), f 79 _ (by omega)] at ht
  have hT : thM I k r.toNat = false := decide_eq_false (by rw [show ((r.toNat : Nat) : Int) = r by omega]; exact ht)
  rw [show (r + 1).toNat = r.toNat + 1 by omega]
  refine ⟨fun a j ha => by rw [upI_ne (by omega)]; exact f a j ha, by rw [upI_ne (by omega), cnt_s, hT]; exact g, fun z hz hz2 => ?_, fun z hz => ?_⟩
  · rw [upI_ne (by omega)]
    by_cases e : z = r.toNat
    · rw [e, hT] at hz2
      exact absurd hz2 (by decide)
    · exact p z (by omega) hz2
  · by_cases e : z = r.toNat
    · rw [e, upI_eq rfl rfl]
    · rw [upI_ne (by omega)]
      exact q z (by omega)
theorem Gt1_yes {I J : Nat → Nat → Int} {k r : Int} (h : Gt1 I J k r.toNat) (h0 : 0 ≤ r) (ht : r < J 74 4 ∧ J 80 r.toNat = 0 ∧ J 79 r.toNat ≤ k) : Gt1 I (upI (upI (upI J 111 r.toNat (-1)) 110 (J 74 55).toNat r) 74 55 (J 74 55 + 1)) k (r + 1).toNat := by
  obtain ⟨f, g, p, q⟩ := h
  rw [f 74 4 (by omega), f 80 _ (by omega), f 79 _ (by omega)] at ht
  have hT : thM I k r.toNat = true := decide_eq_true (by rw [show ((r.toNat : Nat) : Int) = r by omega]; exact ht)
  rw [show (r + 1).toNat = r.toNat + 1 by omega]
  refine ⟨fun a j ha => by rw [upI_ne (by omega), upI_ne (by omega), upI_ne (by omega)]; exact f a j ha, by rw [upI_eq rfl rfl, cnt_s, hT, g]; rfl, fun z hz hz2 => ?_, fun z hz => ?_⟩
  · rw [upI_ne (by omega)]
    by_cases e : z = r.toNat
    · rw [e, upI_eq rfl (by omega)]
      omega
    · have hl := cnt_lt (T := thM I k) (show z < r.toNat by omega) hz2
      rw [upI_ne (by omega), upI_ne (by omega)]
      exact p z (by omega) hz2
  · rw [upI_ne (by omega), upI_ne (by omega)]
    by_cases e : z = r.toNat
    · rw [e, upI_eq rfl rfl]
    · rw [upI_ne (by omega)]
      exact q z (by omega)
theorem Gt1_row {I J : Nat → Nat → Int} {k : Int} (h : Gt1 I J k 10) {i : Nat} (hi : (i : Int) < J 74 55) : ∃ r : Nat, r < 10 ∧ thM I k r = true ∧ J 110 i = (r : Int) ∧ i = cnt (thM I k) r := by
  obtain ⟨f, g, p, q⟩ := h
  obtain ⟨r, r1, r2, r3⟩ := cnt_at (T := thM I k) (n := 10) (j := i) (by omega)
  have := p r r1 r2
  rw [r3] at this
  exact ⟨r, r1, r2, this, r3.symm⟩
