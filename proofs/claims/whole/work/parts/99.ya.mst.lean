-- THE REFERENCE'S PARSER: its state (s as in the class's; W the waits, the top first)
def dpw : List Int → Int
  | [] => 0
  | c :: W => (if c = 5 ∨ c = 8 then 1 else 0) + dpw W
def nM (I : Nat → Nat → Int) : Nat := (I 74 34).toNat
def Mp0 (I : Nat → Nat → Int) : Prop := ((0 ≤ I 74 34 ∧ I 74 34 ≤ 500) ∧ I 74 31 = 0) ∧ ∀ j : Nat, (j : Int) < I 74 34 → 0 ≤ I 97 j ∧ I 97 j ≤ 255
def FrM (I J : Nat → Nat → Int) : Prop := ∀ a j, ¬ ((a = 74 ∧ (j = 27 ∨ j = 28 ∨ j = 33 ∨ j = 35 ∨ j = 36 ∨ j = 37 ∨ j = 40 ∨ j = 41)) ∨ (92 ≤ a ∧ a ≤ 94) ∨ a = 98) → J a j = I a j
def StM (J : Nat → Nat → Int) (S : List (Int × Int × Int)) : Prop := J 74 27 = (S.length : Int) ∧ ∀ i, i < S.length → J 92 i = (S.getD i (0, 0, 0)).1 ∧ J 93 i = (S.getD i (0, 0, 0)).2.1 ∧ J 94 i = (S.getD i (0, 0, 0)).2.2
def Wts (J : Nat → Nat → Int) (W : List Int) : Prop := J 74 40 = (W.length : Int) ∧ W.length ≤ 100 ∧ ∀ i, i < W.length → J 98 (W.length - 1 - i) = W.getD i 0
def WtO (J : Nat → Nat → Int) : Option (List Int) → Prop
  | none => True
  | some W => Wts J W ∧ J 74 41 = dpw W
theorem WtO_c {J J2 : Nat → Nat → Int} (h1 : J2 74 40 = J 74 40) (h2 : J2 74 41 = J 74 41) (h3 : ∀ j, J2 98 j = J 98 j) : ∀ {W : Option (List Int)}, WtO J W → WtO J2 W
  | none, _ => trivial
  | some W, h => ⟨⟨by rw [h1]; exact h.1.1, h.1.2.1, fun i hi => by rw [h3]; exact h.1.2.2 i hi⟩, by rw [h2]; exact h.2⟩
def MSt (I L J M : Nat → Nat → Int) (s : Pst) (W : Option (List Int)) : Prop := (FrM I J ∧ FlN L M) ∧ Ntk J M (I 97) (nM I) s.1 ∧ s.1 ≤ nM I ∧ (J 74 28 = s.2.1 ∧ 0 ≤ s.2.1 ∧ s.2.1 ≤ 60) ∧ StM J s.2.2 ∧ WtO J W
def FlM (I L J M : Nat → Nat → Int) (f : Int × Int) : Prop := (∀ a j, ¬ ((a = 74 ∧ (j = 27 ∨ j = 28 ∨ j = 31 ∨ j = 32 ∨ j = 33 ∨ j = 35 ∨ j = 36 ∨ j = 37 ∨ j = 40 ∨ j = 41)) ∨ (92 ≤ a ∧ a ≤ 94) ∨ a = 98) → J a j = I a j) ∧ FlN L M ∧ J 74 31 = f.1 ∧ J 74 32 = f.2 ∧ 0 < f.1
theorem flt_pos (B : Nat → Int) (n a : Nat) {k : Int} (h : 0 < k) : 0 < (flt B n a k).1 := by
  unfold flt
  dsimp only
  split <;> omega
theorem sr_1 (k : Int) : (srM2 k = 3 ↔ k = 1) ∧ (srM2 k = 1 ↔ k = 2) ∧ (srM2 k = 2 ↔ k = 3) ∧ (srM2 k = 0 ↔ k = 0) ∧ (srM2 k = 40 ↔ k = 40) ∧ (srM2 k = 41 ↔ k = 41) ∧ (srM2 k = 59 ↔ k = 59) := by
  unfold srM2
  repeat' split
  all_goals omega
/-- what the world says of a state -/
theorem MSt_r {I L J M : Nat → Nat → Int} {s : Pst} {W : Option (List Int)} (h0 : Mp0 I) (h : MSt I L J M s W) : J 97 = I 97 ∧ J 74 34 = I 74 34 ∧ J 74 31 = 0 ∧ nM I ≤ 500 ∧ ((nM I : Nat) : Int) = I 74 34 ∧ J 74 36 = (tP (I 97) (nM I) s.1 : Int) ∧ J 74 35 = srM2 (tK (I 97) (nM I) s.1) := by
  obtain ⟨⟨f, _⟩, t, a, _⟩ := h
  have h1 := h0.1
  refine ⟨funext (fun z => f 97 z (by omega)), f 74 34 (by omega), by rw [f 74 31 (by omega)]; exact h1.2, by unfold nM; omega, by unfold nM; omega, t.1, t.2.1⟩
theorem tK2_let {B : Nat → Int} {n a : Nat} (hn : n ≤ 500) (ha : a ≤ n) (h : tK B n a = 2) : ∀ i, i < tN B n a - tP B n a → 97 ≤ B (tP B n a + i) ∧ B (tP B n a + i) ≤ 122 := by
  have hp := tP_bd (B := B) hn ha
  intro i hi
  unfold tN tE at hi
  unfold tK tKp at h
  by_cases c1 : n ≤ tP B n a
  · rw [if_pos c1] at h
    exact absurd h (by decide)
  · rw [if_neg c1] at h hi
    by_cases c2 : Pl B n (tP B n a) = true
    · rw [if_pos c2] at hi
      have hr := run_ok (Pl_n B n) (k := 501) (a := tP B n a) (by omega)
      exact (of_decide_eq_true (hr.2.1 (tP B n a + i) (by omega) (by omega))).2
    · rw [if_neg c2] at h
      exfalso
      by_cases c3 : Pd B n (tP B n a) = true
      · rw [if_pos c3] at h
        split at h <;> omega
      · rw [if_neg c3] at h
        split at h <;> omega
def cw (i : Nat) : Int := wcd (fun j => (strB.getD i []).getD j 0) 0 (strB.getD i []).length
theorem strB_rg : ∀ i, i < 10 → ∀ j, j < (strB.getD i []).length → 1 ≤ (strB.getD i []).getD j 0 ∧ (strB.getD i []).getD j 0 ≤ 255 := by decide
theorem wd_code {I L J M : Nat → Nat → Int} {s : Pst} {W : Option (List Int)} (h0 : Mp0 I) (h : MSt I L J M s W) {i : Nat} (hi : i < 10) : (J 74 35 = 1 ∧ M 74 38 = cw i) ↔ wdq (I 97) (nM I) s.1 i = true := by
  obtain ⟨r1, r2, r3, r4, r5, r6, r7⟩ := MSt_r h0 h
  have ha : s.1 ≤ nM I := h.2.2.1
  have hb := tN_bd (B := I 97) r4 ha
  have hw := h.2.1.2.2.2.2
  have hs := sr_1 (tK (I 97) (nM I) s.1)
  constructor
  · rintro ⟨h1, h2⟩
    have hk : tK (I 97) (nM I) s.1 = 2 := by rw [r7] at h1; exact hs.2.1.mp h1
    rw [hw hk] at h2
    have hl := tK2_let r4 ha hk
    have := wcd_inj _ _ (fun i hi => by have := hl i hi; omega) (fun j hj => by rw [Nat.zero_add]; exact strB_rg i hi j hj) h2
    refine decide_eq_true ⟨hk, this.1.symm, fun j hj => ?_⟩
    have h3 := this.2 j (by omega)
    rw [Nat.zero_add] at h3
    exact h3
  · intro hq
    obtain ⟨q1, q2, q3⟩ := of_decide_eq_true hq
    refine ⟨by rw [r7]; exact hs.2.1.mpr q1, ?_⟩
    rw [hw q1, ← q2]
    exact wcd_c _ (fun j hj => by rw [Nat.zero_add]; exact q3 j hj)
theorem MSt_hold {I L J M J2 : Nat → Nat → Int} {s : Pst} {W : List Int} {c : Int} (h : MSt I L J M s (some W)) (hW : W.length ≤ 99) (h1 : ∀ a j, ¬ ((a = 98 ∧ j = W.length) ∨ (a = 74 ∧ (j = 40 ∨ j = 41))) → J2 a j = J a j) (h2 : J2 98 W.length = c) (h3 : J2 74 40 = J 74 40 + 1) (h4 : J2 74 41 = (if c = 5 ∨ c = 8 then 1 else 0) + J 74 41) : MSt I L J2 M s (some (c :: W)) := by
  obtain ⟨⟨f, g⟩, t, a, u, v, w, d⟩ := h
  refine ⟨⟨fun x j hx => by rw [h1 x j (by omega)]; exact f x j hx, g⟩, ?_, a, by rw [h1 74 28 (by omega)]; exact u, ⟨by rw [h1 74 27 (by omega)]; exact v.1, fun i hi => by rw [h1 92 i (by omega), h1 93 i (by omega), h1 94 i (by omega)]; exact v.2 i hi⟩, ⟨by rw [h3, w.1, List.length_cons]; omega, by rw [List.length_cons]; omega, fun i hi => ?_⟩, by rw [h4, d]; rfl⟩
  · unfold Ntk
    rw [h1 74 36 (by omega), h1 74 35 (by omega), h1 74 33 (by omega), h1 74 37 (by omega)]
    exact t
  · rw [List.length_cons] at hi ⊢
    cases i with
    | zero => rw [show W.length + 1 - 1 - 0 = W.length by omega, h2]; rfl
    | succ i =>
      rw [show W.length + 1 - 1 - (i + 1) = W.length - 1 - i by omega, h1 98 _ (by omega)]
      exact w.2.2 i (by omega)
theorem MSt_drop {I L J M J2 : Nat → Nat → Int} {s : Pst} {W : List Int} {c : Int} (h : MSt I L J M s (some (c :: W))) (h1 : ∀ a j, ¬ (a = 74 ∧ (j = 40 ∨ j = 41)) → J2 a j = J a j) (h3 : J2 74 40 = J 74 40 - 1) (h4 : J2 74 41 = J 74 41 - (if c = 5 ∨ c = 8 then 1 else 0)) : MSt I L J2 M s (some W) := by
  obtain ⟨⟨f, g⟩, t, a, u, v, w, d⟩ := h
  have w1 := w.1
  have w2 := w.2.1
  have d1 : J 74 41 = (if c = 5 ∨ c = 8 then 1 else 0) + dpw W := d
  rw [List.length_cons] at w1 w2
  refine ⟨⟨fun x j hx => by rw [h1 x j (by omega)]; exact f x j hx, g⟩, ?_, a, by rw [h1 74 28 (by omega)]; exact u, ⟨by rw [h1 74 27 (by omega)]; exact v.1, fun i hi => by rw [h1 92 i (by omega), h1 93 i (by omega), h1 94 i (by omega)]; exact v.2 i hi⟩, ⟨by rw [h3, w1]; omega, by omega, fun i hi => ?_⟩, by rw [h4, d1]; omega⟩
  · unfold Ntk
    rw [h1 74 36 (by omega), h1 74 35 (by omega), h1 74 33 (by omega), h1 74 37 (by omega)]
    exact t
  · have := w.2.2 (i + 1) (by rw [List.length_cons]; omega)
    rw [List.length_cons, show W.length + 1 - 1 - (i + 1) = W.length - 1 - i by omega] at this
    rw [h1 98 _ (by omega)]
    exact this
theorem MSt_push {I L J M J2 : Nat → Nat → Int} {s : Pst} {W : Option (List Int)} {c f n : Int} (h : MSt I L J M s W) (hJ : J2 = upI (upI (upI (upI J 92 (J 74 27).toNat c) 93 (J 74 27).toNat f) 94 (J 74 27).toNat n) 74 27 (J 74 27 + 1)) : MSt I L J2 M (s.1, s.2.1, s.2.2 ++ [(c, f, n)]) W := by
  obtain ⟨⟨fr, g⟩, t, a, u, v, w⟩ := h
  have v1 := v.1
  have q : ∀ c j, ¬ ((92 ≤ c ∧ c ≤ 94) ∨ (c = 74 ∧ j = 27)) → J2 c j = J c j := fun c j hc => by rw [hJ, upI_ne (by omega), upI_ne (by omega), upI_ne (by omega), upI_ne (by omega)]
  refine ⟨⟨fun x j hx => by rw [q x j (by omega)]; exact fr x j hx, g⟩, ?_, a, by rw [q 74 28 (by omega)]; exact u, ⟨?_, fun i hi => ?_⟩, WtO_c (q 74 40 (by omega)) (q 74 41 (by omega)) (fun j => q 98 j (by omega)) w⟩
  · unfold Ntk
    rw [q 74 36 (by omega), q 74 35 (by omega), q 74 33 (by omega), q 74 37 (by omega)]
    exact t
  · show J2 74 27 = ((s.2.2 ++ [(c, f, n)]).length : Int)
    rw [hJ, upI_eq rfl rfl, List.length_append, List.length_singleton]
    omega
  · have hi : i < (s.2.2 ++ [(c, f, n)]).length := hi
    rw [List.length_append, List.length_singleton] at hi
    show J2 92 i = ((s.2.2 ++ [(c, f, n)]).getD i (0, 0, 0)).1 ∧ J2 93 i = ((s.2.2 ++ [(c, f, n)]).getD i (0, 0, 0)).2.1 ∧ J2 94 i = ((s.2.2 ++ [(c, f, n)]).getD i (0, 0, 0)).2.2
    rw [getD3]
    by_cases e : i = s.2.2.length
    · rw [if_pos e]
      have e2 : i = (J 74 27).toNat := by omega
      refine ⟨?_, ?_, ?_⟩
      · rw [hJ, upI_ne (by omega), upI_ne (by omega), upI_ne (by omega), upI_eq rfl e2]
      · rw [hJ, upI_ne (by omega), upI_ne (by omega), upI_eq rfl e2]
      · rw [hJ, upI_ne (by omega), upI_eq rfl e2]
    · rw [if_neg e]
      have f2 : ∀ c, 92 ≤ c ∧ c ≤ 94 → J2 c i = J c i := fun c hc => by rw [hJ, upI_ne (by omega), upI_ne (by omega), upI_ne (by omega), upI_ne (by omega)]
      rw [f2 92 (by omega), f2 93 (by omega), f2 94 (by omega)]
      exact v.2 i (by omega)
theorem MSt_tests {I L J M : Nat → Nat → Int} {s : Pst} {W : Option (List Int)} (h : MSt I L J M s W) (h60 : s.2.1 < 60) : MSt I L (upI J 74 28 (J 74 28 + 1)) M (s.1, s.2.1 + 1, s.2.2) W := by
  obtain ⟨⟨fr, g⟩, t, a, u, v, w⟩ := h
  have q : ∀ c j, ¬ (c = 74 ∧ j = 28) → (upI J 74 28 (J 74 28 + 1)) c j = J c j := fun c j hc => by rw [upI_ne (by omega)]
  refine ⟨⟨fun x j hx => by rw [q x j (by omega)]; exact fr x j hx, g⟩, ?_, a, ⟨by rw [upI_eq rfl rfl, u.1], by show 0 ≤ s.2.1 + 1; omega, by show s.2.1 + 1 ≤ 60; omega⟩, ⟨by rw [q 74 27 (by omega)]; exact v.1, fun i hi => by rw [q 92 i (by omega), q 93 i (by omega), q 94 i (by omega)]; exact v.2 i hi⟩, WtO_c (q 74 40 (by omega)) (q 74 41 (by omega)) (fun j => q 98 j (by omega)) w⟩
  unfold Ntk
  rw [q 74 36 (by omega), q 74 35 (by omega), q 74 33 (by omega), q 74 37 (by omega)]
  exact t
theorem k_nxt (l : Launch) (E : AX) (b : Bool) (I L J M : Nat → Nat → Int) {s : Pst} {W : Option (List Int)} (h0 : Mp0 I) (hs : MSt I L J M s W) (hk : tK (I 97) (nM I) s.1 ≠ 1) : Con l E 3 125 [vR 74] (MW b J M) 0 0 (fun rt w => ∃ J2 M2, rt = none ∧ w = MW b J2 M2 ∧ MSt I L J2 M2 (tN (I 97) (nM I) s.1, s.2) W) := by
  obtain ⟨r1, r2, r3, r4, r5, r6, r7⟩ := MSt_r h0 hs
  have ha : s.1 ≤ nM I := hs.2.2.1
  have hb := tN_bd (B := I 97) r4 ha
  have hat := hs.2.1.2.2.1 hk
  have e1 : (J 74 34).toNat = nM I := by rw [r2]; rfl
  have e2 : (J 74 33).toNat = tN (I 97) (nM I) s.1 := by rw [hat]; exact Int.toNat_natCast _
  refine con_imp (k_next l E b J M ⟨by rw [hat, r2]; have := h0.1; omega, fun j hj => by rw [r1]; rw [r2] at hj; exact h0.2 j hj⟩) ?_
  rintro rt w ⟨J2, M2, h1, h2, h3, h4, h5⟩
  refine ⟨J2, M2, h1, h2, ?_⟩
  rw [r1, e1, e2] at h5
  obtain ⟨⟨fr, g⟩, t, a, u, v, w⟩ := hs
  refine ⟨⟨fun x j hx => by rw [h3 x j (by omega)]; exact fr x j hx, fun x j hx => by rw [h4 x j hx]; exact g x j hx⟩, h5, hb.2.1, by rw [h3 74 28 (by omega)]; exact u, ⟨by rw [h3 74 27 (by omega)]; exact v.1, fun i hi => by rw [h3 92 i (by omega), h3 93 i (by omega), h3 94 i (by omega)]; exact v.2 i hi⟩, WtO_c (h3 74 40 (by omega)) (h3 74 41 (by omega)) (fun j => h3 98 j (by omega)) w⟩
theorem lCmp_0 (x y : Int) : lCmp x y = 0 ↔ x = y := by
  unfold lCmp
  split
  · constructor <;> intro h <;> omega
  · split
    · constructor <;> intro h <;> omega
    · constructor <;> intro h <;> omega

theorem k_isWord (l : Launch) (E : AX) (b : Bool) (I L : Nat → Nat → Int) (x : Int) : Con l E 1 127 [vR 74, vL x] (MW b I L) 0 0 (fun rt w => ((I 74 35 = 1 ∧ L 74 38 = x) ∧ rt = some (vI 1) ∧ w = MW b I L) ∨ (¬ (I 74 35 = 1 ∧ L 74 38 = x) ∧ rt = some (vI 0) ∧ w = MW b I L)) := by
  refine con_ok (fun hw9 hs9 => ?_)
  refine con_intro (by decide) (Nat.le_of_ble_eq_true rfl) ?_
  show Rch l E 1 127 _ _ _ _ (0, [some (vR 74), some (vL x), none], [], MW b I L)
  refine rch_run cdK127 (by decide) 3 (t' := (5, [some (vR 74), some (vL x), none], [vI 1, vI (I 74 35)], MW b I L)) (ps := []) rfl trivial ?_
  refine rch_br cdK127 (cd := I 74 35 ≠ (1 : Int)) (t1 := (21, [some (vR 74), some (vL x), none], [], MW b I L)) (t2 := (8, [some (vR 74), some (vL x), none], [], MW b I L)) rfl (fun c5_1 => ?_) (fun c5_1 => ?_)
  · refine rch_run cdK127 (by decide) 1 (t' := (22, [some (vR 74), some (vL x), none], [vI 0], MW b I L)) (ps := []) rfl trivial ?_
    refine rch_ret cdK127 (rt := some (vI 0)) rfl (Or.inl rfl) mw_c ?_
    have hlc := lCmp_0 (L 74 38) x
    first | exact Or.inl ⟨by omega, rfl, rfl⟩ | exact Or.inr ⟨by omega, rfl, rfl⟩
  · refine rch_run cdK127 (by decide) 4 (t' := (14, [some (vR 74), some (vL x), none], [vI (lCmp (L 74 38) x)], MW b I L)) (ps := []) rfl trivial ?_
    refine rch_br cdK127 (cd := lCmp (L 74 38) x ≠ 0) (t1 := (21, [some (vR 74), some (vL x), none], [], MW b I L)) (t2 := (17, [some (vR 74), some (vL x), none], [], MW b I L)) rfl (fun c14_2 => ?_) (fun c14_2 => ?_)
    · refine rch_run cdK127 (by decide) 1 (t' := (22, [some (vR 74), some (vL x), none], [vI 0], MW b I L)) (ps := []) rfl trivial ?_
      refine rch_ret cdK127 (rt := some (vI 0)) rfl (Or.inl rfl) mw_c ?_
      have hlc := lCmp_0 (L 74 38) x
      first | exact Or.inl ⟨by omega, rfl, rfl⟩ | exact Or.inr ⟨by omega, rfl, rfl⟩
    · refine rch_run cdK127 (by decide) 2 (t' := (22, [some (vR 74), some (vL x), none], [vI 1], MW b I L)) (ps := []) rfl trivial ?_
      refine rch_ret cdK127 (rt := some (vI 1)) rfl (Or.inr rfl) mw_c ?_
      have hlc := lCmp_0 (L 74 38) x
      first | exact Or.inl ⟨by omega, rfl, rfl⟩ | exact Or.inr ⟨by omega, rfl, rfl⟩

theorem k_wrong (l : Launch) (E : AX) (b : Bool) (I L : Nat → Nat → Int) (k : Int) (hf : I 74 31 = 0) : Con l E 1 126 [vR 74, vI k] (MW b I L) 0 0 (fun rt w => ((I 74 35 = 3) ∧ rt = none ∧ w = MW b (upI (upI I 74 31 1) 74 32 (I 74 36)) L) ∨ ((¬ (I 74 35 = 3)) ∧ rt = none ∧ w = MW b (upI (upI I 74 31 k) 74 32 (I 74 36)) L)) := by
  refine con_intro (by decide) (Nat.le_of_ble_eq_true rfl) ?_
  show Rch l E 1 126 _ _ _ _ (0, [some (vR 74), some (vI k)], [], MW b I L)
  refine rch_run cdK126 (by decide) 2 (t' := (4, [some (vR 74), some (vI k)], [vI (I 74 31)], MW b I L)) (ps := []) rfl trivial ?_
  refine rch_br cdK126 (cd := I 74 31 ≤ 0) (t1 := (8, [some (vR 74), some (vI k)], [], MW b I L)) (t2 := (7, [some (vR 74), some (vI k)], [], MW b I L)) rfl (fun c4_1 => ?_) (fun c4_1 => ?_)
  · refine rch_run cdK126 (by decide) 4 (t' := (14, [some (vR 74), some (vI k)], [vI 3, vI (I 74 35), vR 74], MW b I L)) (ps := []) rfl trivial ?_
    refine rch_br cdK126 (cd := I 74 35 ≠ (3 : Int)) (t1 := (21, [some (vR 74), some (vI k)], [vR 74], MW b I L)) (t2 := (17, [some (vR 74), some (vI k)], [vR 74], MW b I L)) rfl (fun c14_2 => ?_) (fun c14_2 => ?_)
    · refine rch_run cdK126 (by decide) 6 (t' := (33, [some (vR 74), some (vI k)], [], MW b (upI (upI I 74 31 k) 74 32 (I 74 36)) L)) (ps := []) rfl trivial ?_
      refine rch_ret cdK126 (rt := none) rfl trivial mw_c ?_
      first | exact Or.inl ⟨by omega, rfl, rfl⟩ | exact Or.inr (⟨by omega, rfl, rfl⟩) | (exfalso; omega)
    · refine rch_run cdK126 (by decide) 7 (t' := (33, [some (vR 74), some (vI k)], [], MW b (upI (upI I 74 31 1) 74 32 (I 74 36)) L)) (ps := []) rfl trivial ?_
      refine rch_ret cdK126 (rt := none) rfl trivial mw_c ?_
      first | exact Or.inl ⟨by omega, rfl, rfl⟩ | exact Or.inr (⟨by omega, rfl, rfl⟩) | (exfalso; omega)
  · refine rch_ret cdK126 (rt := none) rfl trivial mw_c ?_
    first | exact Or.inl ⟨by omega, rfl, rfl⟩ | exact Or.inr (⟨by omega, rfl, rfl⟩) | (exfalso; omega)

theorem k_stepM (l : Launch) (E : AX) (b : Bool) (I L : Nat → Nat → Int) (c : Int) (f : Int) (n : Int) (hn : 0 ≤ I 74 27 ∧ I 74 27 < 500) : Con l E 1 128 [vR 74, vI c, vI f, vI n] (MW b I L) 0 0 (fun rt w => ((True) ∧ rt = none ∧ w = MW b (upI (upI (upI (upI I 92 (I 74 27).toNat c) 93 (I 74 27).toNat f) 94 (I 74 27).toNat n) 74 27 ((I 74 27) + 1)) L)) := by
  refine con_intro (by decide) (Nat.le_of_ble_eq_true rfl) ?_
  show Rch l E 1 128 _ _ _ _ (0, [some (vR 74), some (vI c), some (vI f), some (vI n)], [], MW b I L)
  refine rch_run cdK128 (by decide) 24 (t' := (40, [some (vR 74), some (vI c), some (vI f), some (vI n)], [], MW b (upI (upI (upI (upI I 92 (I 74 27).toNat c) 93 (I 74 27).toNat f) 94 (I 74 27).toNat n) 74 27 ((I 74 27) + 1)) L)) (ps := [0 ≤ I 74 27 ∧ I 74 27 < ((500 : Nat) : Int), 0 ≤ I 74 27 ∧ I 74 27 < ((500 : Nat) : Int), 0 ≤ I 74 27 ∧ I 74 27 < ((500 : Nat) : Int), i32 ((I 74 27) + 1)]) rfl (by simp only [all_, i32, i64]; first | omega | (simp; done) | (simp; omega)) ?_
  refine rch_ret cdK128 (rt := none) rfl trivial mw_c ?_
  first | exact ⟨by trivial, rfl, rfl⟩ | (exfalso; omega)

theorem k_wrg (l : Launch) (E : AX) (b : Bool) (I L J M : Nat → Nat → Int) {s : Pst} {W : Option (List Int)} (c : Int) (hc : 0 < c) (h0 : Mp0 I) (hs : MSt I L J M s W) : Con l E 1 126 [vR 74, vI c] (MW b J M) 0 0 (fun rt w => ∃ J2, rt = none ∧ w = MW b J2 M ∧ FlM I L J2 M (flt (I 97) (nM I) s.1 c)) := by
  obtain ⟨r1, r2, r3, r4, r5, r6, r7⟩ := MSt_r h0 hs
  have hsr := sr_1 (tK (I 97) (nM I) s.1)
  refine con_imp (k_wrong l E b J M c r3) ?_
  have key : ∀ x : Int, x = (flt (I 97) (nM I) s.1 c).1 → FlM I L (upI (upI J 74 31 x) 74 32 (J 74 36)) M (flt (I 97) (nM I) s.1 c) := fun x hx => ⟨fun a j ha => by rw [upI_ne (by omega), upI_ne (by omega)]; exact hs.1.1 a j (by omega), hs.1.2, by rw [upI_ne (by omega), upI_eq rfl rfl, hx], by rw [upI_eq rfl rfl, r6]; rfl, flt_pos _ _ _ hc⟩
  rintro rt w (⟨h1, h2, h3⟩ | ⟨h1, h2, h3⟩)
  · exact ⟨_, h2, h3, key 1 (by unfold flt; dsimp only; rw [r7] at h1; rw [if_pos (hsr.1.mp h1)])⟩
  · exact ⟨_, h2, h3, key c (by unfold flt; dsimp only; rw [r7] at h1; rw [if_neg (fun z => h1 (hsr.1.mpr z))])⟩
theorem k_stM (l : Launch) (E : AX) (b : Bool) (I L J M : Nat → Nat → Int) {s : Pst} {W : Option (List Int)} {c f n f2 n2 : Int} (hs : MSt I L J M s W) (hf : f = f2) (hn : n = n2) (hb : s.2.2.length < 500) : Con l E 1 128 [vR 74, vI c, vI f, vI n] (MW b J M) 0 0 (fun rt w => ∃ J2, rt = none ∧ w = MW b J2 M ∧ MSt I L J2 M (s.1, s.2.1, s.2.2 ++ [(c, f2, n2)]) W) := by
  subst hf hn
  have hl : J 74 27 = (s.2.2.length : Int) := hs.2.2.2.2.1.1
  refine con_imp (k_stepM l E b J M c f n (by omega)) ?_
  rintro rt w ⟨h1, h2, h3⟩
  exact ⟨_, h2, h3, MSt_push hs rfl⟩
theorem k_wd_0 (l : Launch) (E : AX) (b : Bool) (I L J M : Nat → Nat → Int) {s : Pst} {W : Option (List Int)} (h0 : Mp0 I) (hs : MSt I L J M s W) : Con l E 1 127 [vR 74, vL 6447474] (MW b J M) 0 0 (fun rt w => (wdq (I 97) (nM I) s.1 0 = true ∧ rt = some (vI 1) ∧ w = MW b J M) ∨ (wdq (I 97) (nM I) s.1 0 = false ∧ rt = some (vI 0) ∧ w = MW b J M)) := by
  have hq := wd_code h0 hs (i := 0) (by omega)
  have hc : cw 0 = 6447474 := by decide
  rw [hc] at hq
  refine con_imp (k_isWord l E b J M 6447474) ?_
  rintro rt w (⟨h1, h2⟩ | ⟨h1, h2⟩)
  · exact Or.inl ⟨hq.mp h1, h2⟩
  · exact Or.inr ⟨by cases hz : wdq (I 97) (nM I) s.1 0; (rfl); (exact absurd (hq.mpr hz) h1), h2⟩
theorem k_wd_1 (l : Launch) (E : AX) (b : Bool) (I L J M : Nat → Nat → Int) {s : Pst} {W : Option (List Int)} (h0 : Mp0 I) (hs : MSt I L J M s W) : Con l E 1 127 [vR 74, vL 1818848875] (MW b J M) 0 0 (fun rt w => (wdq (I 97) (nM I) s.1 1 = true ∧ rt = some (vI 1) ∧ w = MW b J M) ∨ (wdq (I 97) (nM I) s.1 1 = false ∧ rt = some (vI 0) ∧ w = MW b J M)) := by
  have hq := wd_code h0 hs (i := 1) (by omega)
  have hc : cw 1 = 1818848875 := by decide
  rw [hc] at hq
  refine con_imp (k_isWord l E b J M 1818848875) ?_
  rintro rt w (⟨h1, h2⟩ | ⟨h1, h2⟩)
  · exact Or.inl ⟨hq.mp h1, h2⟩
  · exact Or.inr ⟨by cases hz : wdq (I 97) (nM I) s.1 1; (rfl); (exact absurd (hq.mpr hz) h1), h2⟩
theorem k_wd_2 (l : Launch) (E : AX) (b : Bool) (I L J M : Nat → Nat → Int) {s : Pst} {W : Option (List Int)} (h0 : Mp0 I) (hs : MSt I L J M s W) : Con l E 1 127 [vR 74, vL 2003330414] (MW b J M) 0 0 (fun rt w => (wdq (I 97) (nM I) s.1 2 = true ∧ rt = some (vI 1) ∧ w = MW b J M) ∨ (wdq (I 97) (nM I) s.1 2 = false ∧ rt = some (vI 0) ∧ w = MW b J M)) := by
  have hq := wd_code h0 hs (i := 2) (by omega)
  have hc : cw 2 = 2003330414 := by decide
  rw [hc] at hq
  refine con_imp (k_isWord l E b J M 2003330414) ?_
  rintro rt w (⟨h1, h2⟩ | ⟨h1, h2⟩)
  · exact Or.inl ⟨hq.mp h1, h2⟩
  · exact Or.inr ⟨by cases hz : wdq (I 97) (nM I) s.1 2; (rfl); (exact absurd (hq.mpr hz) h1), h2⟩
theorem k_wd_3 (l : Launch) (E : AX) (b : Bool) (I L J M : Nat → Nat → Int) {s : Pst} {W : Option (List Int)} (h0 : Mp0 I) (hs : MSt I L J M s W) : Con l E 1 127 [vR 74, vL 7237492] (MW b J M) 0 0 (fun rt w => (wdq (I 97) (nM I) s.1 3 = true ∧ rt = some (vI 1) ∧ w = MW b J M) ∨ (wdq (I 97) (nM I) s.1 3 = false ∧ rt = some (vI 0) ∧ w = MW b J M)) := by
  have hq := wd_code h0 hs (i := 3) (by omega)
  have hc : cw 3 = 7237492 := by decide
  rw [hc] at hq
  refine con_imp (k_isWord l E b J M 7237492) ?_
  rintro rt w (⟨h1, h2⟩ | ⟨h1, h2⟩)
  · exact Or.inl ⟨hq.mp h1, h2⟩
  · exact Or.inr ⟨by cases hz : wdq (I 97) (nM I) s.1 3; (rfl); (exact absurd (hq.mpr hz) h1), h2⟩
theorem k_wd_4 (l : Launch) (E : AX) (b : Bool) (I L J M : Nat → Nat → Int) {s : Pst} {W : Option (List Int)} (h0 : Mp0 I) (hs : MSt I L J M s W) : Con l E 1 127 [vR 74, vL 126922548994917] (MW b J M) 0 0 (fun rt w => (wdq (I 97) (nM I) s.1 4 = true ∧ rt = some (vI 1) ∧ w = MW b J M) ∨ (wdq (I 97) (nM I) s.1 4 = false ∧ rt = some (vI 0) ∧ w = MW b J M)) := by
  have hq := wd_code h0 hs (i := 4) (by omega)
  have hc : cw 4 = 126922548994917 := by decide
  rw [hc] at hq
  refine con_imp (k_isWord l E b J M 126922548994917) ?_
  rintro rt w (⟨h1, h2⟩ | ⟨h1, h2⟩)
  · exact Or.inl ⟨hq.mp h1, h2⟩
  · exact Or.inr ⟨by cases hz : wdq (I 97) (nM I) s.1 4; (rfl); (exact absurd (hq.mpr hz) h1), h2⟩
theorem k_wd_5 (l : Launch) (E : AX) (b : Bool) (I L J M : Nat → Nat → Int) {s : Pst} {W : Option (List Int)} (h0 : Mp0 I) (hs : MSt I L J M s W) : Con l E 1 127 [vR 74, vL 465490373491] (MW b J M) 0 0 (fun rt w => (wdq (I 97) (nM I) s.1 5 = true ∧ rt = some (vI 1) ∧ w = MW b J M) ∨ (wdq (I 97) (nM I) s.1 5 = false ∧ rt = some (vI 0) ∧ w = MW b J M)) := by
  have hq := wd_code h0 hs (i := 5) (by omega)
  have hc : cw 5 = 465490373491 := by decide
  rw [hc] at hq
  refine con_imp (k_isWord l E b J M 465490373491) ?_
  rintro rt w (⟨h1, h2⟩ | ⟨h1, h2⟩)
  · exact Or.inl ⟨hq.mp h1, h2⟩
  · exact Or.inr ⟨by cases hz : wdq (I 97) (nM I) s.1 5; (rfl); (exact absurd (hq.mpr hz) h1), h2⟩
theorem k_wd_6 (l : Launch) (E : AX) (b : Bool) (I L J M : Nat → Nat → Int) {s : Pst} {W : Option (List Int)} (h0 : Mp0 I) (hs : MSt I L J M s W) : Con l E 1 127 [vR 74, vL 1852137842] (MW b J M) 0 0 (fun rt w => (wdq (I 97) (nM I) s.1 6 = true ∧ rt = some (vI 1) ∧ w = MW b J M) ∨ (wdq (I 97) (nM I) s.1 6 = false ∧ rt = some (vI 0) ∧ w = MW b J M)) := by
  have hq := wd_code h0 hs (i := 6) (by omega)
  have hc : cw 6 = 1852137842 := by decide
  rw [hc] at hq
  refine con_imp (k_isWord l E b J M 1852137842) ?_
  rintro rt w (⟨h1, h2⟩ | ⟨h1, h2⟩)
  · exact Or.inl ⟨hq.mp h1, h2⟩
  · exact Or.inr ⟨by cases hz : wdq (I 97) (nM I) s.1 6; (rfl); (exact absurd (hq.mpr hz) h1), h2⟩
theorem k_wd_7 (l : Launch) (E : AX) (b : Bool) (I L J M : Nat → Nat → Int) {s : Pst} {W : Option (List Int)} (h0 : Mp0 I) (hs : MSt I L J M s W) : Con l E 1 127 [vR 74, vL 1935764837] (MW b J M) 0 0 (fun rt w => (wdq (I 97) (nM I) s.1 7 = true ∧ rt = some (vI 1) ∧ w = MW b J M) ∨ (wdq (I 97) (nM I) s.1 7 = false ∧ rt = some (vI 0) ∧ w = MW b J M)) := by
  have hq := wd_code h0 hs (i := 7) (by omega)
  have hc : cw 7 = 1935764837 := by decide
  rw [hc] at hq
  refine con_imp (k_isWord l E b J M 1935764837) ?_
  rintro rt w (⟨h1, h2⟩ | ⟨h1, h2⟩)
  · exact Or.inl ⟨hq.mp h1, h2⟩
  · exact Or.inr ⟨by cases hz : wdq (I 97) (nM I) s.1 7; (rfl); (exact absurd (hq.mpr hz) h1), h2⟩
theorem k_wd_8 (l : Launch) (E : AX) (b : Bool) (I L J M : Nat → Nat → Int) {s : Pst} {W : Option (List Int)} (h0 : Mp0 I) (hs : MSt I L J M s W) : Con l E 1 127 [vR 74, vL 28530] (MW b J M) 0 0 (fun rt w => (wdq (I 97) (nM I) s.1 8 = true ∧ rt = some (vI 1) ∧ w = MW b J M) ∨ (wdq (I 97) (nM I) s.1 8 = false ∧ rt = some (vI 0) ∧ w = MW b J M)) := by
  have hq := wd_code h0 hs (i := 8) (by omega)
  have hc : cw 8 = 28530 := by decide
  rw [hc] at hq
  refine con_imp (k_isWord l E b J M 28530) ?_
  rintro rt w (⟨h1, h2⟩ | ⟨h1, h2⟩)
  · exact Or.inl ⟨hq.mp h1, h2⟩
  · exact Or.inr ⟨by cases hz : wdq (I 97) (nM I) s.1 8; (rfl); (exact absurd (hq.mpr hz) h1), h2⟩
theorem k_wd_9 (l : Launch) (E : AX) (b : Bool) (I L J M : Nat → Nat → Int) {s : Pst} {W : Option (List Int)} (h0 : Mp0 I) (hs : MSt I L J M s W) : Con l E 1 127 [vR 74, vL 6385252] (MW b J M) 0 0 (fun rt w => (wdq (I 97) (nM I) s.1 9 = true ∧ rt = some (vI 1) ∧ w = MW b J M) ∨ (wdq (I 97) (nM I) s.1 9 = false ∧ rt = some (vI 0) ∧ w = MW b J M)) := by
  have hq := wd_code h0 hs (i := 9) (by omega)
  have hc : cw 9 = 6385252 := by decide
  rw [hc] at hq
  refine con_imp (k_isWord l E b J M 6385252) ?_
  rintro rt w (⟨h1, h2⟩ | ⟨h1, h2⟩)
  · exact Or.inl ⟨hq.mp h1, h2⟩
  · exact Or.inr ⟨by cases hz : wdq (I 97) (nM I) s.1 9; (rfl); (exact absurd (hq.mpr hz) h1), h2⟩