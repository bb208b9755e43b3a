theorem k_rewind2 (l : Launch) (E : AX) (b : Bool) (I L : Nat → Nat → Int) (hT : Tp0 I) : Con l E 3 41 [vR 28] (MW b I L) 0 0 (fun rt w => ∃ J, rt = none ∧ w = MW b J L ∧ FrT I J ∧ Tkn J (I 29) (I 28 0).toNat 0) := by
  refine con_ok (fun hw9 hs9 => ?_)
  refine con_intro (by decide) (Nat.le_of_ble_eq_true rfl) ?_
  show Rch l E 3 41 _ _ _ _ (0, [some (vR 28)], [], MW b I L)
  refine rch_run cdK41 (by decide) 4 (t' := (6, [some (vR 28)], [vR 28], MW b (upI I 28 4 0) L)) (ps := []) rfl trivial ?_
  refine rch_call (h' := 2) (k' := 42) (as := [vR 28]) (t1 := (9, [some (vR 28)], [], MW b (upI I 28 4 0) L)) cdK41 rfl (k_advance l E b (upI I 28 4 0) L ⟨by rw [upI_eq rfl rfl, upI_ne (by omega)]; have := hT.1; omega, fun j hj => by rw [upI_ne (by omega)] at hj; rw [upI_ne (by omega), upI_ne (by omega)]; exact hT.2 j hj⟩) (by decide) mw_le ?_
  rintro rt9 w9 (⟨J2, rfl, rfl, t1, t2⟩) _ _
  show Rch l E 3 41 _ _ _ _ (9, [some (vR 28)], [], MW b J2 L)
  refine rch_ret cdK41 (rt := none) rfl trivial mw_c ?_
  refine ⟨J2, rfl, rfl, fun a j ha => by rw [t1 a j ha, upI_ne (by omega)], ?_⟩
  have t3 := t2
  rw [show (upI I 28 4 0) 29 = I 29 from funext (fun z => upI_ne (by omega)), upI_ne (by omega), upI_eq rfl rfl] at t3
  exact t3

def Fra (k : Nat) (I J : Nat → Nat → Int) : Prop := ∀ a j, ¬ ((a = 28 ∧ 1 ≤ j ∧ j ≤ 4) ∨ (a = k ∧ j ≤ 2) ∨ (k + 1 ≤ a ∧ a ≤ k + 5)) → J a j = I a j
def Lns (k : Nat) (J : Nat → Nat → Int) (G : List (Int × Int)) : Prop := J k 0 = (G.length : Int) ∧ ∀ i, i < G.length → J (k + 1) i = (G.getD i (0, 0)).1 ∧ J (k + 2) i = (G.getD i (0, 0)).2
def LSt (k : Nat) (I J : Nat → Nat → Int) (G : List (Int × Int)) (s : Pst) : Prop := Fra k I J ∧ PSx k J J s ∧ Lns k J G ∧ 2 * s.2.2.length ≤ s.1
def FlA (k : Nat) (I J : Nat → Nat → Int) (f : Int × Int) : Prop := (∀ a j, ¬ ((a = 28 ∧ 1 ≤ j ∧ j ≤ 4) ∨ (a = k ∧ j ≤ 2) ∨ (k + 1 ≤ a ∧ a ≤ k + 5) ∨ a = 31) → J a j = I a j) ∧ J 31 0 = f.1 ∧ J 31 1 = f.2
def PA (k : Nat) (I : Nat → Nat → Int) (b : Bool) (L : Nat → Nat → Int) (r : (Int × Int) ⊕ (List (Int × Int) × Pst)) (rt : Option AV) (w : AW) : Prop := (∃ J G s, w = MW b J L ∧ r = .inr (G, s) ∧ rt = some (vI 1) ∧ LSt k I J G s) ∨ (∃ J f, w = MW b J L ∧ r = .inl f ∧ rt = some (vI 0) ∧ FlA k I J f)
def clr (k : Nat) (I : Nat → Nat → Int) : Nat → Nat → Int := upI (upI (upI (upI (upI I 31 0 0) 31 1 (-1)) k 0 0) k 1 0) k 2 0
theorem getD2 {S : List (Int × Int)} {x : Int × Int} {m : Nat} : (S ++ [x]).getD m (0, 0) = if m = S.length then x else S.getD m (0, 0) := by
  by_cases e : m = S.length
  · rw [if_pos e, e, List.getD_eq_getElem?_getD, List.getElem?_append_right (Nat.le_refl _)]
    simp
  · rw [if_neg e, List.getD_eq_getElem?_getD, List.getD_eq_getElem?_getD]
    rcases Nat.lt_or_ge m S.length with h | h
    · rw [List.getElem?_append_left h]
    · rw [List.getElem?_eq_none (by simp; omega), List.getElem?_eq_none h]
theorem Fra_t {k : Nat} {I J : Nat → Nat → Int} (hk : k = 1 ∨ k = 7) (h : Fra k I J) : J 29 = I 29 ∧ nTp J = nTp I ∧ (Tp0 I → Tp0 J) := by
  have e0 := h 28 0 (by omega)
  refine ⟨funext (fun j => h 29 j (by omega)), by unfold nTp; rw [e0], fun z => ⟨by rw [e0]; exact z.1, fun j hj => ?_⟩⟩
  rw [e0] at hj
  rw [h 29 j (by omega), h 30 j (by omega)]
  exact z.2 j hj
theorem LSt_fl {k : Nat} {I J J2 : Nat → Nat → Int} {f : Int × Int} (hk : k = 1 ∨ k = 7) (h : Fra k I J) (h2 : FlR k J J2 f) : FlA k I J2 f := ⟨fun a j ha => by rw [h2.1 a j (by omega)]; exact h a j (by omega), h2.2⟩
theorem LSt_line {k : Nat} {I J J2 : Nat → Nat → Int} {G : List (Int × Int)} {s s1 : Pst} {v : Int} (hk : k = 1 ∨ k = 7) (h : LSt k I J G s) (h2 : PSx k J J2 s1) (hb : 2 * s1.2.2.length ≤ s1.1) : LSt k I (LnW k J J2 v (s1.2.2.length : Int)) (G ++ [(v, (s1.2.2.length : Int))]) s1 := by
  obtain ⟨hF, hP, hL, hb0⟩ := h
  obtain ⟨⟨f1, f2, f3, f4, f5⟩, f6⟩ := h2
  have q : ∀ c j, ¬ ((c = k + 1 ∨ c = k + 2) ∨ (c = k ∧ j = 0)) → LnW k J J2 v (s1.2.2.length : Int) c j = J2 c j := fun c j hc => by unfold LnW; rw [upI_ne (by omega), upI_ne (by omega), upI_ne (by omega)]
  have qa : ∀ c j, ¬ ((c = 28 ∧ 1 ≤ j ∧ j ≤ 4) ∨ (c = k ∧ j ≤ 2) ∨ (k + 1 ≤ c ∧ c ≤ k + 5)) → LnW k J J2 v (s1.2.2.length : Int) c j = J c j := fun c j hc => by
    rw [q c j (by omega)]
    by_cases e : c = 31
    · rw [e]; exact f6 j
    · exact f1 c j (by omega)
  have hB : (LnW k J J2 v (s1.2.2.length : Int)) 29 = J 29 := funext (fun z => qa 29 z (by omega))
  have hN : nTp (LnW k J J2 v (s1.2.2.length : Int)) = nTp J := by unfold nTp; rw [qa 28 0 (by omega)]
  have hLg : J k 0 = (G.length : Int) := hL.1
  refine ⟨fun c j hc => by rw [qa c j hc]; exact hF c j hc, ⟨⟨fun _ _ _ => rfl, ?_, by rw [hN]; exact f3, by rw [q k 1 (by omega)]; exact f4, by rw [q k 2 (by omega)]; exact f5.1, fun i hi => ?_⟩, fun _ => rfl⟩, ⟨?_, fun i hi => ?_⟩, hb⟩
  · rw [hB, hN]
    unfold Tkn
    rw [q 28 2 (by omega), q 28 1 (by omega), q 28 4 (by omega), q 28 3 (by omega)]
    exact f2
  · rw [q (k + 3) i (by omega), q (k + 4) i (by omega), q (k + 5) i (by omega)]
    exact f5.2 i hi
  · unfold LnW
    rw [upI_eq rfl rfl, List.length_append, List.length_singleton, hLg]
    omega
  · rw [List.length_append, List.length_singleton] at hi
    rw [getD2]
    by_cases e : i = G.length
    · rw [if_pos e]
      have e2 : i = (J k 0).toNat := by omega
      refine ⟨?_, ?_⟩
      · unfold LnW
        rw [upI_ne (by omega), upI_ne (by omega), upI_eq rfl e2]
      · unfold LnW
        rw [upI_ne (by omega), upI_eq rfl e2]
    · rw [if_neg e]
      have h3 : ∀ c, c = k + 1 ∨ c = k + 2 → LnW k J J2 v (s1.2.2.length : Int) c i = J c i := fun c hc => by
        unfold LnW
        rw [upI_ne (by omega), upI_ne (by omega), upI_ne (by omega)]
        exact f1 c i (by omega)
      rw [h3 (k + 1) (by omega), h3 (k + 2) (by omega)]
      exact hL.2 i (by omega)
theorem pAll_0 {B : Nat → Int} {n m : Nat} {G : List (Int × Int)} {s : Pst} (h : tK B n s.1 = 0) : pAll B n m G s = .inr (G, s) := by
  cases m with
  | zero => exact if_pos h
  | succ m =>
    unfold pAll
    exact if_pos h
theorem pAll_z {B : Nat → Int} {n : Nat} {G : List (Int × Int)} {s : Pst} (h : tK B n s.1 ≠ 0) : pAll B n 0 G s = .inl (flt B n s.1 2) := if_neg h
theorem pAll_F {B : Nat → Int} {n m : Nat} {G : List (Int × Int)} {s : Pst} {f : Int × Int} (h : tK B n s.1 ≠ 0) (h1 : pLine B n s = .inl f) : pAll B n (m + 1) G s = .inl f := by
  unfold pAll
  rw [if_neg h, h1]
theorem pAll_s {B : Nat → Int} {n m : Nat} {G : List (Int × Int)} {s : Pst} {v : Int} {s1 : Pst} (h : tK B n s.1 ≠ 0) (h1 : pLine B n s = .inr (v, s1)) : pAll B n (m + 1) G s = pAll B n m (G ++ [(v, (s1.2.2.length : Int))]) s1 := by
  conv => lhs; unfold pAll
  rw [if_neg h, h1]
theorem clr_t {k : Nat} {I : Nat → Nat → Int} (hk : k = 1 ∨ k = 7) : (∀ a j, ¬ ((a = 31 ∧ j ≤ 1) ∨ (a = k ∧ j ≤ 2)) → clr k I a j = I a j) ∧ clr k I 29 = I 29 ∧ nTp (clr k I) = nTp I ∧ (Tp0 I → Tp0 (clr k I)) ∧ clr k I 31 0 = 0 ∧ clr k I 31 1 = -1 ∧ clr k I k 0 = 0 ∧ clr k I k 1 = 0 ∧ clr k I k 2 = 0 := by
  have q : ∀ a j, ¬ ((a = 31 ∧ j ≤ 1) ∨ (a = k ∧ j ≤ 2)) → clr k I a j = I a j := fun a j ha => by
    unfold clr
    rw [upI_ne (by omega), upI_ne (by omega), upI_ne (by omega), upI_ne (by omega), upI_ne (by omega)]
  have e0 := q 28 0 (by omega)
  refine ⟨q, funext (fun z => q 29 z (by omega)), by unfold nTp; rw [e0], fun z => ⟨by rw [e0]; exact z.1, fun j hj => ?_⟩, ?_, ?_, ?_, ?_, ?_⟩
  · rw [e0] at hj
    rw [q 29 j (by omega), q 30 j (by omega)]
    exact z.2 j hj
  · unfold clr
    rw [upI_ne (by omega), upI_ne (by omega), upI_ne (by omega), upI_ne (by omega), upI_eq rfl rfl]
  · unfold clr
    rw [upI_ne (by omega), upI_ne (by omega), upI_ne (by omega), upI_eq rfl rfl]
  · unfold clr
    rw [upI_ne (by omega), upI_ne (by omega), upI_eq rfl rfl]
  · unfold clr
    rw [upI_ne (by omega), upI_eq rfl rfl]
  · unfold clr
    rw [upI_eq rfl rfl]
theorem LSt_0 {k : Nat} {I J : Nat → Nat → Int} (hk : k = 1 ∨ k = 7) (h1 : FrT (clr k I) J) (h2 : Tkn J (clr k I 29) (clr k I 28 0).toNat 0) : LSt k (clr k I) J [] (0, 0, []) := by
  obtain ⟨c1, c2, c3, c4, c5, c6, c7, c8, c9⟩ := clr_t (I := I) hk
  have hF : Fra k (clr k I) J := fun a j ha => h1 a j (by omega)
  obtain ⟨t1, t2, t3⟩ := Fra_t hk hF
  refine ⟨hF, ⟨⟨fun _ _ _ => rfl, by rw [t1, t2]; exact h2, Nat.zero_le _, ⟨by rw [h1 k 1 (by omega), c8], by show (0 : Int) ≤ 0; omega, by show (0 : Int) ≤ 60; omega⟩, by rw [h1 k 2 (by omega), c9]; rfl, fun i hi => absurd hi (by simp)⟩, fun _ => rfl⟩, ⟨by rw [h1 k 0 (by omega), c7]; rfl, fun i hi => absurd hi (by simp)⟩, by show 0 ≤ 0; omega⟩

theorem lp_all_1 (l : Launch) (E : AX) (b : Bool) (I L : Nat → Nat → Int) (r : (Int × Int) ⊕ (List (Int × Int) × Pst)) (h0 : Tp0 I) (J0 : Nat → Nat → Int) : ∀ (n9 : Nat) (i : Int) (J : Nat → Nat → Int) (G : List (Int × Int)) (s : Pst), 0 ≤ i ∧ i ≤ 10 → LSt 1 I J G s → (G.length : Int) = i → pAll (I 29) (nTp I) (10 - i).toNat G s = r → 10 - i < (n9 : Int) → Rch l E 26 12 (MW b J0 L) 0 0 (PA 1 I b L r) (20, [some (vR 31), some (vR 28), some (vR 1), some (vI i)], [], MW b J L) := by
  intro n9
  induction n9 with
  | zero =>
    intro i J G s h1 h2 h3 h4 hm
    exfalso; omega
  | succ n9 ih =>
    intro i J G s h1 h2 h3 h4 hm
    have hk : 1 = 1 ∨ 1 = 7 := by omega
    obtain ⟨hB, hN, hT⟩ := Fra_t hk h2.1
    have hs := h2.2.1
    have htk : J 28 1 = tK (I 29) (nTp I) s.1 := by have := hs.1.2.1.2.1; rw [hB, hN] at this; exact this
    have hg : J 1 0 = (G.length : Int) := h2.2.2.1.1
    have hfu : i < 10 → (10 - i).toNat = (10 - (i + 1)).toNat + 1 := fun z => by omega
    have hn : nTp I ≤ 500 := by have := h0.1; unfold nTp; omega
    have ha : s.1 ≤ nTp I := by have := hs.1.2.2.1; rw [hN] at this; exact this
    refine rch_run cdK12 (by decide) 2 (t' := (23, [some (vR 31), some (vR 28), some (vR 1), some (vI i)], [vI 10, vI i], MW b J L)) (ps := []) rfl trivial ?_
    refine rch_br cdK12 (cd := (10 : Int) < i) (t1 := (63, [some (vR 31), some (vR 28), some (vR 1), some (vI i)], [], MW b J L)) (t2 := (26, [some (vR 31), some (vR 28), some (vR 1), some (vI i)], [], MW b J L)) rfl (fun c9 => by exfalso; omega) (fun c23_1 => ?_)
    refine rch_run cdK12 (by decide) 2 (t' := (30, [some (vR 31), some (vR 28), some (vR 1), some (vI i)], [vI (J 28 1)], MW b J L)) (ps := []) rfl trivial ?_
    refine rch_br cdK12 (cd := J 28 1 = 0) (t1 := (63, [some (vR 31), some (vR 28), some (vR 1), some (vI i)], [], MW b J L)) (t2 := (33, [some (vR 31), some (vR 28), some (vR 1), some (vI i)], [], MW b J L)) rfl (fun c30_2 => ?_) (fun c30_2 => ?_)
    · refine rch_run cdK12 (by decide) 1 (t' := (64, [some (vR 31), some (vR 28), some (vR 1), some (vI i)], [vI 1], MW b J L)) (ps := []) rfl trivial ?_
      refine rch_ret cdK12 (rt := some (vI 1)) rfl (Or.inr rfl) mw_c ?_
      exact Or.inl ⟨_, _, _, rfl, (by rw [← h4]; exact pAll_0 (by omega)), rfl, h2⟩
    · refine rch_run cdK12 (by decide) 2 (t' := (36, [some (vR 31), some (vR 28), some (vR 1), some (vI i)], [vI 10, vI i], MW b J L)) (ps := []) rfl trivial ?_
      refine rch_br cdK12 (cd := i ≠ (10 : Int)) (t1 := (46, [some (vR 31), some (vR 28), some (vR 1), some (vI i)], [], MW b J L)) (t2 := (39, [some (vR 31), some (vR 28), some (vR 1), some (vI i)], [], MW b J L)) rfl (fun c36_3 => ?_) (fun c36_3 => ?_)
      · refine rch_run cdK12 (by decide) 3 (t' := (49, [some (vR 31), some (vR 28), some (vR 1), some (vI i)], [vR 1, vR 28, vR 31], MW b J L)) (ps := []) rfl trivial ?_
        refine rch_call (h' := 25) (k' := 14) (as := [vR 31, vR 28, vR 1]) (t1 := (52, [some (vR 31), some (vR 28), some (vR 1), some (vI i)], [], MW b J L)) cdK12 rfl (k_line_1 l E b J J L s (hT h0) hs h2.2.2.2 (by omega)) (by decide) mw_le ?_
        rintro rt9 w9 (⟨J122, v9, s9, rfl, hr9, rfl, hs9⟩ | ⟨J122, f9, rfl, hr9, rfl, hf⟩) _ _
        · show Rch l E 26 12 _ _ _ _ (52, [some (vR 31), some (vR 28), some (vR 1), some (vI i)], [vI 1], MW b (LnW 1 J J122 v9 (s9.2.2.length : Int)) L)
          rw [hB, hN] at hr9
          have hbd := (pLine_bd hn ha hr9).2.2
          (try dsimp only at hbd)
          refine rch_br cdK12 (cd := (1 : Int) ≠ 0) (t1 := (57, [some (vR 31), some (vR 28), some (vR 1), some (vI i)], [], MW b (LnW 1 J J122 v9 (s9.2.2.length : Int)) L)) (t2 := (55, [some (vR 31), some (vR 28), some (vR 1), some (vI i)], [], MW b (LnW 1 J J122 v9 (s9.2.2.length : Int)) L)) rfl (fun _ => ?_) (fun c9 => absurd (by decide) c9)
          refine rch_run cdK12 (by decide) 2 (t' := (20, [some (vR 31), some (vR 28), some (vR 1), some (vI (i + 1))], [], MW b (LnW 1 J J122 v9 (s9.2.2.length : Int)) L)) (ps := [i32 (i + 1)]) rfl (by simp only [all_, i32, i64]; first | omega | (simp; done) | (simp; omega)) ?_
          exact ih (i + 1) _ _ _ (by omega) (LSt_line hk h2 hs9 (by have := h2.2.2.2; omega)) (by rw [List.length_append, List.length_singleton]; omega) (by rw [← h4, hfu (by omega)]; exact (pAll_s (by omega) hr9).symm) (by omega)
        · show Rch l E 26 12 _ _ _ _ (52, [some (vR 31), some (vR 28), some (vR 1), some (vI i)], [vI 0], MW b J122 L)
          rw [hB, hN] at hr9
          refine rch_br cdK12 (cd := (0 : Int) ≠ 0) (t1 := (57, [some (vR 31), some (vR 28), some (vR 1), some (vI i)], [], MW b J122 L)) (t2 := (55, [some (vR 31), some (vR 28), some (vR 1), some (vI i)], [], MW b J122 L)) rfl (fun c9 => absurd c9 (by decide)) (fun _ => ?_)
          refine rch_run cdK12 (by decide) 1 (t' := (56, [some (vR 31), some (vR 28), some (vR 1), some (vI i)], [vI 0], MW b J122 L)) (ps := []) rfl trivial ?_
          refine rch_ret cdK12 (rt := some (vI 0)) rfl (Or.inl rfl) mw_c ?_
          exact Or.inr ⟨_, _, rfl, (by rw [← h4, hfu (by omega)]; exact pAll_F (by omega) hr9), rfl, LSt_fl hk h2.1 hf⟩
      · refine rch_run cdK12 (by decide) 3 (t' := (42, [some (vR 31), some (vR 28), some (vR 1), some (vI i)], [vI 2, vR 28, vR 31], MW b J L)) (ps := []) rfl trivial ?_
        refine rch_call (h' := 1) (k' := 13) (as := [vR 31, vR 28, vI 2]) (t1 := (45, [some (vR 31), some (vR 28), some (vR 1), some (vI i)], [], MW b J L)) cdK12 rfl (k_stp l E b J J L 2 hk hs) (by decide) mw_le ?_
        rintro rt9 w9 (⟨J124, rfl, rfl, hf⟩) _ _
        show Rch l E 26 12 _ _ _ _ (45, [some (vR 31), some (vR 28), some (vR 1), some (vI i)], [vI 0], MW b J124 L)
        rw [hB, hN] at hf
        refine rch_ret cdK12 (rt := some (vI 0)) rfl (Or.inl rfl) mw_c ?_
        exact Or.inr ⟨_, _, rfl, (by rw [← h4, show (10 - i).toNat = 0 by omega]; exact pAll_z (by omega)), rfl, LSt_fl hk h2.1 hf⟩

theorem k_all_1 (l : Launch) (E : AX) (b : Bool) (I L : Nat → Nat → Int) (h0 : Tp0 I) : Con l E 26 12 [vR 31, vR 28, vR 1] (MW b I L) 0 0 (PA 1 (clr 1 I) b L (pRul (I 29) (nTp I))) := by
  refine con_ok (fun hw9 hs9 => ?_)
  refine con_intro (by decide) (Nat.le_of_ble_eq_true rfl) ?_
  have hk : 1 = 1 ∨ 1 = 7 := by omega
  obtain ⟨_, ct2, ct3, ct4, _⟩ := clr_t (I := I) hk
  show Rch l E 26 12 _ _ _ _ (0, [some (vR 31), some (vR 28), some (vR 1), none], [], MW b I L)
  refine rch_run cdK12 (by decide) 7 (t' := (11, [some (vR 31), some (vR 28), some (vR 1), none], [vR 1], MW b (upI (upI I 31 0 0) 31 1 (-1)) L)) (ps := []) rfl trivial ?_
  refine rch_call (h' := 1) (k' := 1) (as := [vR 1]) (t1 := (14, [some (vR 31), some (vR 28), some (vR 1), none], [], MW b (upI (upI I 31 0 0) 31 1 (-1)) L)) cdK12 rfl (k_clear_1 l E b (upI (upI I 31 0 0) 31 1 (-1)) L) (by decide) mw_le ?_
  rintro rt9 w9 (⟨_, rfl, rfl⟩) _ _
  show Rch l E 26 12 _ _ _ _ (14, [some (vR 31), some (vR 28), some (vR 1), none], [], MW b (clr 1 I) L)
  refine rch_run cdK12 (by decide) 1 (t' := (15, [some (vR 31), some (vR 28), some (vR 1), none], [vR 28], MW b (clr 1 I) L)) (ps := []) rfl trivial ?_
  refine rch_call (h' := 3) (k' := 41) (as := [vR 28]) (t1 := (18, [some (vR 31), some (vR 28), some (vR 1), none], [], MW b (clr 1 I) L)) cdK12 rfl (k_rewind2 l E b (clr 1 I) L (ct4 h0)) (by decide) mw_le ?_
  rintro rt9 w9 (⟨J125, rfl, rfl, hr1, hr2⟩) _ _
  show Rch l E 26 12 _ _ _ _ (18, [some (vR 31), some (vR 28), some (vR 1), none], [], MW b J125 L)
  refine rch_run cdK12 (by decide) 2 (t' := (20, [some (vR 31), some (vR 28), some (vR 1), some (vI 0)], [], MW b J125 L)) (ps := []) rfl trivial ?_
  exact lp_all_1 l E b (clr 1 I) L (pRul (I 29) (nTp I)) (ct4 h0) I 11 0 _ [] _ (by omega) (LSt_0 hk hr1 hr2) rfl (by rw [ct2, ct3]; rfl) (by omega)

theorem lp_all_7 (l : Launch) (E : AX) (b : Bool) (I L : Nat → Nat → Int) (r : (Int × Int) ⊕ (List (Int × Int) × Pst)) (h0 : Tp0 I) (J0 : Nat → Nat → Int) : ∀ (n9 : Nat) (i : Int) (J : Nat → Nat → Int) (G : List (Int × Int)) (s : Pst), 0 ≤ i ∧ i ≤ 10 → LSt 7 I J G s → (G.length : Int) = i → pAll (I 29) (nTp I) (10 - i).toNat G s = r → 10 - i < (n9 : Int) → Rch l E 26 12 (MW b J0 L) 0 0 (PA 7 I b L r) (20, [some (vR 31), some (vR 28), some (vR 7), some (vI i)], [], MW b J L) := by
  intro n9
  induction n9 with
  | zero =>
    intro i J G s h1 h2 h3 h4 hm
    exfalso; omega
  | succ n9 ih =>
    intro i J G s h1 h2 h3 h4 hm
    have hk : 7 = 1 ∨ 7 = 7 := by omega
    obtain ⟨hB, hN, hT⟩ := Fra_t hk h2.1
    have hs := h2.2.1
    have htk : J 28 1 = tK (I 29) (nTp I) s.1 := by have := hs.1.2.1.2.1; rw [hB, hN] at this; exact this
    have hg : J 7 0 = (G.length : Int) := h2.2.2.1.1
    have hfu : i < 10 → (10 - i).toNat = (10 - (i + 1)).toNat + 1 := fun z => by omega
    have hn : nTp I ≤ 500 := by have := h0.1; unfold nTp; omega
    have ha : s.1 ≤ nTp I := by have := hs.1.2.2.1; rw [hN] at this; exact this
    refine rch_run cdK12 (by decide) 2 (t' := (23, [some (vR 31), some (vR 28), some (vR 7), some (vI i)], [vI 10, vI i], MW b J L)) (ps := []) rfl trivial ?_
    refine rch_br cdK12 (cd := (10 : Int) < i) (t1 := (63, [some (vR 31), some (vR 28), some (vR 7), some (vI i)], [], MW b J L)) (t2 := (26, [some (vR 31), some (vR 28), some (vR 7), some (vI i)], [], MW b J L)) rfl (fun c9 => by exfalso; omega) (fun c23_1 => ?_)
    refine rch_run cdK12 (by decide) 2 (t' := (30, [some (vR 31), some (vR 28), some (vR 7), some (vI i)], [vI (J 28 1)], MW b J L)) (ps := []) rfl trivial ?_
    refine rch_br cdK12 (cd := J 28 1 = 0) (t1 := (63, [some (vR 31), some (vR 28), some (vR 7), some (vI i)], [], MW b J L)) (t2 := (33, [some (vR 31), some (vR 28), some (vR 7), some (vI i)], [], MW b J L)) rfl (fun c30_2 => ?_) (fun c30_2 => ?_)
    · refine rch_run cdK12 (by decide) 1 (t' := (64, [some (vR 31), some (vR 28), some (vR 7), some (vI i)], [vI 1], MW b J L)) (ps := []) rfl trivial ?_
      refine rch_ret cdK12 (rt := some (vI 1)) rfl (Or.inr rfl) mw_c ?_
      exact Or.inl ⟨_, _, _, rfl, (by rw [← h4]; exact pAll_0 (by omega)), rfl, h2⟩
    · refine rch_run cdK12 (by decide) 2 (t' := (36, [some (vR 31), some (vR 28), some (vR 7), some (vI i)], [vI 10, vI i], MW b J L)) (ps := []) rfl trivial ?_
      refine rch_br cdK12 (cd := i ≠ (10 : Int)) (t1 := (46, [some (vR 31), some (vR 28), some (vR 7), some (vI i)], [], MW b J L)) (t2 := (39, [some (vR 31), some (vR 28), some (vR 7), some (vI i)], [], MW b J L)) rfl (fun c36_3 => ?_) (fun c36_3 => ?_)
      · refine rch_run cdK12 (by decide) 3 (t' := (49, [some (vR 31), some (vR 28), some (vR 7), some (vI i)], [vR 7, vR 28, vR 31], MW b J L)) (ps := []) rfl trivial ?_
        refine rch_call (h' := 25) (k' := 14) (as := [vR 31, vR 28, vR 7]) (t1 := (52, [some (vR 31), some (vR 28), some (vR 7), some (vI i)], [], MW b J L)) cdK12 rfl (k_line_7 l E b J J L s (hT h0) hs h2.2.2.2 (by omega)) (by decide) mw_le ?_
        rintro rt9 w9 (⟨J126, v9, s9, rfl, hr9, rfl, hs9⟩ | ⟨J126, f9, rfl, hr9, rfl, hf⟩) _ _
        · show Rch l E 26 12 _ _ _ _ (52, [some (vR 31), some (vR 28), some (vR 7), some (vI i)], [vI 1], MW b (LnW 7 J J126 v9 (s9.2.2.length : Int)) L)
          rw [hB, hN] at hr9
          have hbd := (pLine_bd hn ha hr9).2.2
          (try dsimp only at hbd)
          refine rch_br cdK12 (cd := (1 : Int) ≠ 0) (t1 := (57, [some (vR 31), some (vR 28), some (vR 7), some (vI i)], [], MW b (LnW 7 J J126 v9 (s9.2.2.length : Int)) L)) (t2 := (55, [some (vR 31), some (vR 28), some (vR 7), some (vI i)], [], MW b (LnW 7 J J126 v9 (s9.2.2.length : Int)) L)) rfl (fun _ => ?_) (fun c9 => absurd (by decide) c9)
          refine rch_run cdK12 (by decide) 2 (t' := (20, [some (vR 31), some (vR 28), some (vR 7), some (vI (i + 1))], [], MW b (LnW 7 J J126 v9 (s9.2.2.length : Int)) L)) (ps := [i32 (i + 1)]) rfl (by simp only [all_, i32, i64]; first | omega | (simp; done) | (simp; omega)) ?_
          exact ih (i + 1) _ _ _ (by omega) (LSt_line hk h2 hs9 (by have := h2.2.2.2; omega)) (by rw [List.length_append, List.length_singleton]; omega) (by rw [← h4, hfu (by omega)]; exact (pAll_s (by omega) hr9).symm) (by omega)
        · show Rch l E 26 12 _ _ _ _ (52, [some (vR 31), some (vR 28), some (vR 7), some (vI i)], [vI 0], MW b J126 L)
          rw [hB, hN] at hr9
          refine rch_br cdK12 (cd := (0 : Int) ≠ 0) (t1 := (57, [some (vR 31), some (vR 28), some (vR 7), some (vI i)], [], MW b J126 L)) (t2 := (55, [some (vR 31), some (vR 28), some (vR 7), some (vI i)], [], MW b J126 L)) rfl (fun c9 => absurd c9 (by decide)) (fun _ => ?_)
          refine rch_run cdK12 (by decide) 1 (t' := (56, [some (vR 31), some (vR 28), some (vR 7), some (vI i)], [vI 0], MW b J126 L)) (ps := []) rfl trivial ?_
          refine rch_ret cdK12 (rt := some (vI 0)) rfl (Or.inl rfl) mw_c ?_
          exact Or.inr ⟨_, _, rfl, (by rw [← h4, hfu (by omega)]; exact pAll_F (by omega) hr9), rfl, LSt_fl hk h2.1 hf⟩
      · refine rch_run cdK12 (by decide) 3 (t' := (42, [some (vR 31), some (vR 28), some (vR 7), some (vI i)], [vI 2, vR 28, vR 31], MW b J L)) (ps := []) rfl trivial ?_
        refine rch_call (h' := 1) (k' := 13) (as := [vR 31, vR 28, vI 2]) (t1 := (45, [some (vR 31), some (vR 28), some (vR 7), some (vI i)], [], MW b J L)) cdK12 rfl (k_stp l E b J J L 2 hk hs) (by decide) mw_le ?_
        rintro rt9 w9 (⟨J128, rfl, rfl, hf⟩) _ _
        show Rch l E 26 12 _ _ _ _ (45, [some (vR 31), some (vR 28), some (vR 7), some (vI i)], [vI 0], MW b J128 L)
        rw [hB, hN] at hf
        refine rch_ret cdK12 (rt := some (vI 0)) rfl (Or.inl rfl) mw_c ?_
        exact Or.inr ⟨_, _, rfl, (by rw [← h4, show (10 - i).toNat = 0 by omega]; exact pAll_z (by omega)), rfl, LSt_fl hk h2.1 hf⟩

theorem k_all_7 (l : Launch) (E : AX) (b : Bool) (I L : Nat → Nat → Int) (h0 : Tp0 I) : Con l E 26 12 [vR 31, vR 28, vR 7] (MW b I L) 0 0 (PA 7 (clr 7 I) b L (pRul (I 29) (nTp I))) := by
  refine con_ok (fun hw9 hs9 => ?_)
  refine con_intro (by decide) (Nat.le_of_ble_eq_true rfl) ?_
  have hk : 7 = 1 ∨ 7 = 7 := by omega
  obtain ⟨_, ct2, ct3, ct4, _⟩ := clr_t (I := I) hk
  show Rch l E 26 12 _ _ _ _ (0, [some (vR 31), some (vR 28), some (vR 7), none], [], MW b I L)
  refine rch_run cdK12 (by decide) 7 (t' := (11, [some (vR 31), some (vR 28), some (vR 7), none], [vR 7], MW b (upI (upI I 31 0 0) 31 1 (-1)) L)) (ps := []) rfl trivial ?_
  refine rch_call (h' := 1) (k' := 1) (as := [vR 7]) (t1 := (14, [some (vR 31), some (vR 28), some (vR 7), none], [], MW b (upI (upI I 31 0 0) 31 1 (-1)) L)) cdK12 rfl (k_clear_7 l E b (upI (upI I 31 0 0) 31 1 (-1)) L) (by decide) mw_le ?_
  rintro rt9 w9 (⟨_, rfl, rfl⟩) _ _
  show Rch l E 26 12 _ _ _ _ (14, [some (vR 31), some (vR 28), some (vR 7), none], [], MW b (clr 7 I) L)
  refine rch_run cdK12 (by decide) 1 (t' := (15, [some (vR 31), some (vR 28), some (vR 7), none], [vR 28], MW b (clr 7 I) L)) (ps := []) rfl trivial ?_
  refine rch_call (h' := 3) (k' := 41) (as := [vR 28]) (t1 := (18, [some (vR 31), some (vR 28), some (vR 7), none], [], MW b (clr 7 I) L)) cdK12 rfl (k_rewind2 l E b (clr 7 I) L (ct4 h0)) (by decide) mw_le ?_
  rintro rt9 w9 (⟨J129, rfl, rfl, hr1, hr2⟩) _ _
  show Rch l E 26 12 _ _ _ _ (18, [some (vR 31), some (vR 28), some (vR 7), none], [], MW b J129 L)
  refine rch_run cdK12 (by decide) 2 (t' := (20, [some (vR 31), some (vR 28), some (vR 7), some (vI 0)], [], MW b J129 L)) (ps := []) rfl trivial ?_
  exact lp_all_7 l E b (clr 7 I) L (pRul (I 29) (nTp I)) (ct4 h0) I 11 0 _ [] _ (by omega) (LSt_0 hk hr1 hr2) rfl (by rw [ct2, ct3]; rfl) (by omega)
