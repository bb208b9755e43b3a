theorem lp_isRef (l : Launch) (E : AX) (b : Bool) (I L : Nat → Nat → Int) (r f x : Int) (hn : 0 ≤ I 74 75 ∧ I 74 75 ≤ 60) : ∀ (n9 : Nat) (i s : Int), 0 ≤ i → i ≤ I 74 75 → s = b2i (hasB (I 123) (I 124) (I 125) r f x i.toNat) → I 74 75 - i < (n9 : Int) → Rch l E 1 158 (MW b I L) 0 0 (fun rt w => rt = some (vI (b2i (hasB (I 123) (I 124) (I 125) r f x (I 74 75).toNat))) ∧ w = MW b I L) (6, [some (vR 74), some (vI r), some (vI f), some (vI x), some (vI s), some (vI i)], [], MW b I L) := by
  intro n9
  induction n9 with
  | zero =>
    intro i s  h1 h2 h3 hm
    exfalso; omega
  | succ n9 ih =>
    intro i s  h1 h2 h3 hm
    have hb01 := b2i_01 (hasB (I 123) (I 124) (I 125) r f x i.toNat)
    rw [← h3] at hb01
    refine rch_run cdK158 (by decide) 3 (t' := (12, [some (vR 74), some (vI r), some (vI f), some (vI x), some (vI s), some (vI i)], [vI (I 74 75), vI i], MW b I L)) (ps := []) rfl trivial ?_
    refine rch_br cdK158 (cd := I 74 75 ≤ i) (t1 := (66, [some (vR 74), some (vI r), some (vI f), some (vI x), some (vI s), some (vI i)], [], MW b I L)) (t2 := (15, [some (vR 74), some (vI r), some (vI f), some (vI x), some (vI s), some (vI i)], [], MW b I L)) rfl (fun c12_1 => ?_) (fun c12_1 => ?_)
    · refine rch_run cdK158 (by decide) 1 (t' := (68, [some (vR 74), some (vI r), some (vI f), some (vI x), some (vI s), some (vI i)], [vI s], MW b I L)) (ps := []) rfl trivial ?_
      refine rch_ret cdK158 (rt := some (vI s)) rfl (by show _ ∨ _; omega) mw_c ?_
      have hbt : hasB (I 123) (I 124) (I 125) r f x i.toNat = true ↔ b2i (hasB (I 123) (I 124) (I 125) r f x i.toNat) = 1 := by cases hasB (I 123) (I 124) (I 125) r f x i.toNat <;> decide
      refine ⟨?_, rfl⟩
      by_cases e : i = I 74 75
      · rw [show (I 74 75).toNat = i.toNat by omega, h3]
      · have hx9 : hasB (I 123) (I 124) (I 125) r f x i.toNat = true := hbt.mpr (by omega)
        have hy9 := hasB_up hx9 ((I 74 75).toNat - i.toNat)
        rw [show i.toNat + ((I 74 75).toNat - i.toNat) = (I 74 75).toNat by omega] at hy9
        rw [hy9, show s = 1 by omega]
        rfl
    · refine rch_run cdK158 (by decide) 1 (t' := (17, [some (vR 74), some (vI r), some (vI f), some (vI x), some (vI s), some (vI i)], [vI s], MW b I L)) (ps := []) rfl trivial ?_
      refine rch_br cdK158 (cd := s ≠ 0) (t1 := (66, [some (vR 74), some (vI r), some (vI f), some (vI x), some (vI s), some (vI i)], [], MW b I L)) (t2 := (20, [some (vR 74), some (vI r), some (vI f), some (vI x), some (vI s), some (vI i)], [], MW b I L)) rfl (fun c17_2 => ?_) (fun c17_2 => ?_)
      · refine rch_run cdK158 (by decide) 1 (t' := (68, [some (vR 74), some (vI r), some (vI f), some (vI x), some (vI s), some (vI i)], [vI s], MW b I L)) (ps := []) rfl trivial ?_
        refine rch_ret cdK158 (rt := some (vI s)) rfl (by show _ ∨ _; omega) mw_c ?_
        have hbt : hasB (I 123) (I 124) (I 125) r f x i.toNat = true ↔ b2i (hasB (I 123) (I 124) (I 125) r f x i.toNat) = 1 := by cases hasB (I 123) (I 124) (I 125) r f x i.toNat <;> decide
        refine ⟨?_, rfl⟩
        by_cases e : i = I 74 75
        · rw [show (I 74 75).toNat = i.toNat by omega, h3]
        · have hx9 : hasB (I 123) (I 124) (I 125) r f x i.toNat = true := hbt.mpr (by omega)
          have hy9 := hasB_up hx9 ((I 74 75).toNat - i.toNat)
          rw [show i.toNat + ((I 74 75).toNat - i.toNat) = (I 74 75).toNat by omega] at hy9
          rw [hy9, show s = 1 by omega]
          rfl
      · refine rch_run cdK158 (by decide) 5 (t' := (28, [some (vR 74), some (vI r), some (vI f), some (vI x), some (vI s), some (vI i)], [vI r, vI (I 123 i.toNat)], MW b I L)) (ps := [0 ≤ i ∧ i < ((60 : Nat) : Int)]) rfl (by simp only [all_, i32, i64]; first | omega | (simp; done) | (simp; omega)) ?_
        refine rch_br cdK158 (cd := I 123 i.toNat ≠ r) (t1 := (57, [some (vR 74), some (vI r), some (vI f), some (vI x), some (vI s), some (vI i)], [], MW b I L)) (t2 := (31, [some (vR 74), some (vI r), some (vI f), some (vI x), some (vI s), some (vI i)], [], MW b I L)) rfl (fun c28_3 => ?_) (fun c28_3 => ?_)
        · refine rch_run cdK158 (by decide) 4 (t' := (6, [some (vR 74), some (vI r), some (vI f), some (vI x), some (vI 0), some (vI (i + 1))], [], MW b I L)) (ps := [i32 (i + 1)]) rfl (by simp only [all_, i32, i64]; first | omega | (simp; done) | (simp; omega)) ?_
          exact ih (i + 1) 0 (by omega) (by omega) (by rw [show (i + 1).toNat = i.toNat + 1 by omega, hasB_s]; rw [decide_eq_false (by omega), Bool.or_false, ← h3]; omega) (by omega)
        · refine rch_run cdK158 (by decide) 5 (t' := (39, [some (vR 74), some (vI r), some (vI f), some (vI x), some (vI s), some (vI i)], [vI f, vI (I 124 i.toNat)], MW b I L)) (ps := [0 ≤ i ∧ i < ((60 : Nat) : Int)]) rfl (by simp only [all_, i32, i64]; first | omega | (simp; done) | (simp; omega)) ?_
          refine rch_br cdK158 (cd := I 124 i.toNat ≠ f) (t1 := (57, [some (vR 74), some (vI r), some (vI f), some (vI x), some (vI s), some (vI i)], [], MW b I L)) (t2 := (42, [some (vR 74), some (vI r), some (vI f), some (vI x), some (vI s), some (vI i)], [], MW b I L)) rfl (fun c39_4 => ?_) (fun c39_4 => ?_)
          · refine rch_run cdK158 (by decide) 4 (t' := (6, [some (vR 74), some (vI r), some (vI f), some (vI x), some (vI 0), some (vI (i + 1))], [], MW b I L)) (ps := [i32 (i + 1)]) rfl (by simp only [all_, i32, i64]; first | omega | (simp; done) | (simp; omega)) ?_
            exact ih (i + 1) 0 (by omega) (by omega) (by rw [show (i + 1).toNat = i.toNat + 1 by omega, hasB_s]; rw [decide_eq_false (by omega), Bool.or_false, ← h3]; omega) (by omega)
          · refine rch_run cdK158 (by decide) 5 (t' := (50, [some (vR 74), some (vI r), some (vI f), some (vI x), some (vI s), some (vI i)], [vI x, vI (I 125 i.toNat)], MW b I L)) (ps := [0 ≤ i ∧ i < ((60 : Nat) : Int)]) rfl (by simp only [all_, i32, i64]; first | omega | (simp; done) | (simp; omega)) ?_
            refine rch_br cdK158 (cd := I 125 i.toNat ≠ x) (t1 := (57, [some (vR 74), some (vI r), some (vI f), some (vI x), some (vI s), some (vI i)], [], MW b I L)) (t2 := (53, [some (vR 74), some (vI r), some (vI f), some (vI x), some (vI s), some (vI i)], [], MW b I L)) rfl (fun c50_5 => ?_) (fun c50_5 => ?_)
            · refine rch_run cdK158 (by decide) 4 (t' := (6, [some (vR 74), some (vI r), some (vI f), some (vI x), some (vI 0), some (vI (i + 1))], [], MW b I L)) (ps := [i32 (i + 1)]) rfl (by simp only [all_, i32, i64]; first | omega | (simp; done) | (simp; omega)) ?_
              exact ih (i + 1) 0 (by omega) (by omega) (by rw [show (i + 1).toNat = i.toNat + 1 by omega, hasB_s]; rw [decide_eq_false (by omega), Bool.or_false, ← h3]; omega) (by omega)
            · refine rch_run cdK158 (by decide) 5 (t' := (6, [some (vR 74), some (vI r), some (vI f), some (vI x), some (vI 1), some (vI (i + 1))], [], MW b I L)) (ps := [i32 (i + 1)]) rfl (by simp only [all_, i32, i64]; first | omega | (simp; done) | (simp; omega)) ?_
              exact ih (i + 1) 1 (by omega) (by omega) (by rw [show (i + 1).toNat = i.toNat + 1 by omega, hasB_s]; rw [decide_eq_true (by omega), Bool.or_true]; rfl) (by omega)

theorem k_isRef (l : Launch) (E : AX) (b : Bool) (I L : Nat → Nat → Int) (r f x : Int) (hn : 0 ≤ I 74 75 ∧ I 74 75 ≤ 60) : Con l E 1 158 [vR 74, vI r, vI f, vI x] (MW b I L) 0 0 (fun rt w => rt = some (vI (b2i (hasB (I 123) (I 124) (I 125) r f x (I 74 75).toNat))) ∧ w = MW b I L) := by
  refine con_ok (fun hw9 hs9 => ?_)
  refine con_intro (by decide) (Nat.le_of_ble_eq_true rfl) ?_
  show Rch l E 1 158 _ _ _ _ (0, [some (vR 74), some (vI r), some (vI f), some (vI x), none, none], [], MW b I L)
  refine rch_run cdK158 (by decide) 4 (t' := (6, [some (vR 74), some (vI r), some (vI f), some (vI x), some (vI 0), some (vI 0)], [], MW b I L)) (ps := []) rfl trivial ?_
  exact lp_isRef l E b I L r f x hn 61 0 0 (by omega) hn.1 rfl (by omega)

set_option maxHeartbeats 20000000 in
set_option maxRecDepth 100000 in
theorem lp_sekf (l : Launch) (E : AX) (b : Bool) (I0 L0 I L : Nat → Nat → Int) (s : Int) (hK : SkK I) (hs : 0 ≤ s ∧ s < 6) (Φ : Option AV → AW → Prop) (r : Int) (hr : 0 ≤ r ∧ r < I 74 4) (hk : ∀ J M, MsL I L J M s (6 * (r.toNat + 1)) → Rch l E 6 159 (MW b I0 L0) 0 0 Φ (19, [some (vR 74), some (vI s), some (vI (r + 1)), none], [], MW b J M)) : ∀ (n9 : Nat) (f : Int) (J M : Nat → Nat → Int), 0 ≤ f → f ≤ 6 → MsL I L J M s (6 * r.toNat + f.toNat) → 6 - f < (n9 : Int) → Rch l E 6 159 (MW b I0 L0) 0 0 (Φ) (36, [some (vR 74), some (vI s), some (vI r), some (vI f)], [], MW b J M) := by
  intro n9
  induction n9 with
  | zero =>
    intro f J M h1 h2 h3 hm
    exfalso; omega
  | succ n9 ih =>
    intro f J M h1 h2 h3 hm
    have hf9 := h3.1
    have hK1 := hK.1
    have hK2 := hK.2.1
    have hK3 := hK.2.2.1
    have q0 := hf9 74 0 (by omega)
    have q4 := hf9 74 4 (by omega)
    have q80 := hf9 80 r.toNat (by omega)
    have q78 := hf9 78 r.toNat (by omega)
    have q77 := hf9 77 s.toNat (by omega)
    have q75 := hf9 74 75 (by omega)
    have q5 := hf9 74 5 (by omega)
    have q111 := hf9 111 r.toNat (by omega)
    have hi9 : (f + 1).toNat = f.toNat + 1 := by omega
    have hc9 : f < 6 → (6 * r.toNat + f.toNat) / 6 = r.toNat ∧ (6 * r.toNat + f.toNat) % 6 = f.toNat := fun z => by omega
    have hc8 := h3.2.2.1
    have hcl := cnt_le (mwQ I s) (6 * r.toNat + f.toNat)
    have ha9 : bAnd (bShr (J 77 s.toNat) f) 1 = bAnd (bShr (I 77 s.toNat) f) 1 := by rw [q77]
    have hQ9 : f < 6 → mwQ I s (6 * r.toNat + f.toNat) = decide (I 80 r.toNat = 0 ∧ I 78 r.toNat = s ∧ bAnd (bShr (I 77 s.toNat) f) 1 ≠ 0 ∧ 0 ≤ gM I r.toNat f ∧ gM I r.toNat f ≠ voM I r f ∧ hasB (I 123) (I 124) (I 125) r f (gM I r.toNat f) (I 74 75).toNat = false) := fun z => by
      unfold mwQ
      rw [(hc9 z).1, (hc9 z).2, show ((f.toNat : Nat) : Int) = f by omega, show ((r.toNat : Nat) : Int) = r by omega]
      exact decide_eq_decide.mpr ⟨fun z => z.2, fun z => ⟨by omega, z⟩⟩
    refine rch_run cdK159 (by decide) 2 (t' := (39, [some (vR 74), some (vI s), some (vI r), some (vI f)], [vI 6, vI f], MW b J M)) (ps := []) rfl trivial ?_
    refine rch_br cdK159 (cd := (6 : Int) ≤ f) (t1 := (183, [some (vR 74), some (vI s), some (vI r), some (vI f)], [], MW b J M)) (t2 := (42, [some (vR 74), some (vI s), some (vI r), some (vI f)], [], MW b J M)) rfl (fun c39_1 => ?_) (fun c39_1 => ?_)
    · refine rch_run cdK159 (by decide) 2 (t' := (19, [some (vR 74), some (vI s), some (vI (r + 1)), some (vI f)], [], MW b J M)) (ps := [i32 (r + 1)]) rfl (by simp only [all_, i32, i64]; first | omega | (simp; done) | (simp; omega)) ?_
      refine rch_forget [3] ?_
      show Rch l E 6 159 _ _ _ _ (19, [some (vR 74), some (vI s), some (vI (r + 1)), none], [], MW b J M)
      exact hk J M (by rw [show 6 * (r.toNat + 1) = 6 * r.toNat + f.toNat by omega]; exact h3)
    · refine rch_run cdK159 (by decide) 2 (t' := (44, [some (vR 74), some (vI s), some (vI r), some (vI f)], [vI r, vR 74], MW b J M)) (ps := []) rfl trivial ?_
      refine rch_call (h' := 1) (k' := 109) (as := [vR 74, vI r]) (t1 := (47, [some (vR 74), some (vI s), some (vI r), some (vI f)], [], MW b J M)) cdK159 rfl (k_X12_isRow l E b J M r (by show J 74 4 ≤ 10; omega)) (by decide) mw_le ?_
      rintro rt9 w9 (⟨k87, rfl, rfl⟩ | ⟨k87, rfl, rfl⟩) _ _
      · show Rch l E 6 159 _ _ _ _ (47, [some (vR 74), some (vI s), some (vI r), some (vI f)], [vI 1], MW b J M)
        have k87 : 0 ≤ r ∧ r < J 74 4 ∧ J 80 r.toNat = 0 := k87
        refine rch_br cdK159 (cd := (1 : Int) = 0) (t1 := (177, [some (vR 74), some (vI s), some (vI r), some (vI f)], [], MW b J M)) (t2 := (50, [some (vR 74), some (vI s), some (vI r), some (vI f)], [], MW b J M)) rfl (fun c9 => absurd c9 (by decide)) (fun _ => ?_)
        refine rch_run cdK159 (by decide) 5 (t' := (57, [some (vR 74), some (vI s), some (vI r), some (vI f)], [vI s, vI (J 78 r.toNat)], MW b J M)) (ps := [0 ≤ r ∧ r < ((10 : Nat) : Int)]) rfl (by simp only [all_, i32, i64]; first | omega | (simp; done) | (simp; omega)) ?_
        refine rch_br cdK159 (cd := J 78 r.toNat ≠ s) (t1 := (177, [some (vR 74), some (vI s), some (vI r), some (vI f)], [], MW b J M)) (t2 := (60, [some (vR 74), some (vI s), some (vI r), some (vI f)], [], MW b J M)) rfl (fun c57_3 => ?_) (fun c57_3 => ?_)
        · refine rch_run cdK159 (by decide) 2 (t' := (36, [some (vR 74), some (vI s), some (vI r), some (vI (f + 1))], [], MW b J M)) (ps := [i32 (f + 1)]) rfl (by simp only [all_, i32, i64]; first | omega | (simp; done) | (simp; omega)) ?_
          exact ih (f + 1) J M (by omega) (by omega) (by rw [hi9, ← Nat.add_assoc]; exact Ms_no h3 (by rw [hQ9 (by omega)]; exact decide_eq_false (fun z => by omega)) (fun _ _ _ => rfl) (fun _ _ _ => rfl)) (by omega)
        · refine rch_run cdK159 (by decide) 8 (t' := (70, [some (vR 74), some (vI s), some (vI r), some (vI f)], [vI (bAnd (bShr (J 77 s.toNat) f) 1)], MW b J M)) (ps := [0 ≤ s ∧ s < ((6 : Nat) : Int)]) rfl (by simp only [all_, i32, i64]; first | omega | (simp; done) | (simp; omega)) ?_
          refine rch_br cdK159 (cd := bAnd (bShr (J 77 s.toNat) f) 1 ≠ 0) (t1 := (76, [some (vR 74), some (vI s), some (vI r), some (vI f)], [], MW b J M)) (t2 := (73, [some (vR 74), some (vI s), some (vI r), some (vI f)], [], MW b J M)) rfl (fun c70_4 => ?_) (fun c70_4 => ?_)
          · refine rch_run cdK159 (by decide) 7 (t' := (87, [some (vR 74), some (vI s), some (vI r), some (vI f)], [vI (J 74 0), vI (J 74 0), vI f, vI r, vR 74], MW b J M)) (ps := []) rfl trivial ?_
            refine rch_call (h' := 3) (k' := 153) (as := [vR 74, vI r, vI f, vI (J 74 0), vI (J 74 0)]) (t1 := (90, [some (vR 74), some (vI s), some (vI r), some (vI f)], [], MW b J M)) cdK159 rfl (k_gold l E b J M r f (J 74 0) (J 74 0) (GMk_s hf9 (by rw [q0]; exact hK.2.2.2 f h1 (by omega))) (by omega)) (by decide) mw_le ?_
            rintro rt9 w9 (⟨J2, M2, rfl, rfl, t2⟩) _ _
            show Rch l E 6 159 _ _ _ _ (90, [some (vR 74), some (vI s), some (vI r), some (vI f)], [], MW b J2 M2)
            have g60 : ∀ a j, ¬ ((a = 74 ∧ (67 ≤ j ∧ j ≤ 69)) ∨ (118 ≤ a ∧ a ≤ 120)) → J2 a j = J a j := fun a j ha => t2.1 a j (by omega)
            have g67 : J2 74 67 = gM I r.toNat f := by
              have h67 := t2.2.2.2.1
              have e67 : J2 74 67 = gdM J (J 111 r.toNat) f (J 74 0) (J 74 0) := h67
              rw [e67, gdM_c hf9, q111, q0]
              rfl
            have hw9 := hQ9 (by omega)
            have p0 := g60 74 0 (by omega)
            have p75 := g60 74 75 (by omega)
            have p5 := g60 74 5 (by omega)
            have p76 := g60 74 76 (by omega)
            refine rch_run cdK159 (by decide) 2 (t' := (94, [some (vR 74), some (vI s), some (vI r), some (vI f)], [vI (J2 74 67)], MW b J2 M2)) (ps := []) rfl trivial ?_
            refine rch_br cdK159 (cd := J2 74 67 < 0) (t1 := (177, [some (vR 74), some (vI s), some (vI r), some (vI f)], [], MW b J2 M2)) (t2 := (97, [some (vR 74), some (vI s), some (vI r), some (vI f)], [], MW b J2 M2)) rfl (fun c94_5 => ?_) (fun c94_5 => ?_)
            · refine rch_run cdK159 (by decide) 2 (t' := (36, [some (vR 74), some (vI s), some (vI r), some (vI (f + 1))], [], MW b J2 M2)) (ps := [i32 (f + 1)]) rfl (by simp only [all_, i32, i64]; first | omega | (simp; done) | (simp; omega)) ?_
              exact ih (f + 1) J2 M2 (by omega) (by omega) (by rw [hi9, ← Nat.add_assoc]; exact Ms_no h3 (by rw [hw9]; exact decide_eq_false (fun z => by first | omega | (have z4 := z.2.2.2.2.2; have z5 := hbt.mpr (by omega); rw [z4] at z5; exact absurd z5 (by decide)))) g60 t2.2.1) (by omega)
            · refine rch_run cdK159 (by decide) 9 (t' := (112, [some (vR 74), some (vI s), some (vI r), some (vI f)], [vI (J2 74 0), vI (J2 74 0), vI f, vI r, vR 74, vI (J2 74 67)], MW b J2 M2)) (ps := []) rfl trivial ?_
              refine rch_call (h' := 2) (k' := 115) (as := [vR 74, vI r, vI f, vI (J2 74 0), vI (J2 74 0)]) (t1 := (115, [some (vR 74), some (vI s), some (vI r), some (vI f)], [vI (J2 74 67)], MW b J2 M2)) cdK159 rfl (k_X12_valueOf l E b J2 M2 r f (J2 74 0) (J2 74 0) (by omega)) (by decide) mw_le ?_
              rintro rt9 w9 (⟨e9, rfl⟩) _ _
              have e8 : rt9 = some (vI (voM J2 r f)) := e9
              rw [voM_c (fun a j ha => by rw [g60 a j (by omega)]; exact hf9 a j ha : FRs I J2)] at e8
              subst e8
              show Rch l E 6 159 _ _ _ _ (115, [some (vR 74), some (vI s), some (vI r), some (vI f)], [vI (voM I r f), vI (J2 74 67)], MW b J2 M2)
              refine rch_br cdK159 (cd := J2 74 67 = voM I r f) (t1 := (177, [some (vR 74), some (vI s), some (vI r), some (vI f)], [], MW b J2 M2)) (t2 := (118, [some (vR 74), some (vI s), some (vI r), some (vI f)], [], MW b J2 M2)) rfl (fun c115_6 => ?_) (fun c115_6 => ?_)
              · refine rch_run cdK159 (by decide) 2 (t' := (36, [some (vR 74), some (vI s), some (vI r), some (vI (f + 1))], [], MW b J2 M2)) (ps := [i32 (f + 1)]) rfl (by simp only [all_, i32, i64]; first | omega | (simp; done) | (simp; omega)) ?_
                exact ih (f + 1) J2 M2 (by omega) (by omega) (by rw [hi9, ← Nat.add_assoc]; exact Ms_no h3 (by rw [hw9]; exact decide_eq_false (fun z => by first | omega | (have z4 := z.2.2.2.2.2; have z5 := hbt.mpr (by omega); rw [z4] at z5; exact absurd z5 (by decide)))) g60 t2.2.1) (by omega)
              · refine rch_run cdK159 (by decide) 5 (t' := (125, [some (vR 74), some (vI s), some (vI r), some (vI f)], [vI (J2 74 67), vI f, vI r, vR 74], MW b J2 M2)) (ps := []) rfl trivial ?_
                refine rch_call (h' := 1) (k' := 158) (as := [vR 74, vI r, vI f, vI (J2 74 67)]) (t1 := (128, [some (vR 74), some (vI s), some (vI r), some (vI f)], [], MW b J2 M2)) cdK159 rfl (k_isRef l E b J2 M2 r f (J2 74 67) (by omega)) (by decide) mw_le ?_
                rintro rt9 w9 (⟨e9, rfl⟩) _ _
                rw [show J2 123 = I 123 from funext (fun z => by rw [g60 123 z (by omega)]; exact hf9 123 z (by omega)), show J2 124 = I 124 from funext (fun z => by rw [g60 124 z (by omega)]; exact hf9 124 z (by omega)), show J2 125 = I 125 from funext (fun z => by rw [g60 125 z (by omega)]; exact hf9 125 z (by omega)), p75, q75, g67] at e9
                subst e9
                show Rch l E 6 159 _ _ _ _ (128, [some (vR 74), some (vI s), some (vI r), some (vI f)], [vI (b2i (hasB (I 123) (I 124) (I 125) r f (gM I r.toNat f) (I 74 75).toNat))], MW b J2 M2)
                have hb9 := b2i_01 (hasB (I 123) (I 124) (I 125) r f (gM I r.toNat f) (I 74 75).toNat)
                have hbt : hasB (I 123) (I 124) (I 125) r f (gM I r.toNat f) (I 74 75).toNat = true ↔ b2i (hasB (I 123) (I 124) (I 125) r f (gM I r.toNat f) (I 74 75).toNat) = 1 := by cases hasB (I 123) (I 124) (I 125) r f (gM I r.toNat f) (I 74 75).toNat <;> decide
                refine rch_br cdK159 (cd := b2i (hasB (I 123) (I 124) (I 125) r f (gM I r.toNat f) (I 74 75).toNat) = 0) (t1 := (134, [some (vR 74), some (vI s), some (vI r), some (vI f)], [], MW b J2 M2)) (t2 := (131, [some (vR 74), some (vI s), some (vI r), some (vI f)], [], MW b J2 M2)) rfl (fun c128_7 => ?_) (fun c128_7 => ?_)
                · refine rch_run cdK159 (by decide) 25 (t' := (177, [some (vR 74), some (vI s), some (vI r), some (vI f)], [], MW b (upI (upI (upI (upI J2 126 (J2 74 76).toNat r) 127 (J2 74 76).toNat f) 128 (J2 74 76).toNat (J2 74 67)) 74 76 ((J2 74 76) + 1)) M2)) (ps := [0 ≤ J2 74 76 ∧ J2 74 76 < ((60 : Nat) : Int), 0 ≤ J2 74 76 ∧ J2 74 76 < ((60 : Nat) : Int), 0 ≤ J2 74 76 ∧ J2 74 76 < ((60 : Nat) : Int), i32 ((J2 74 76) + 1)]) rfl (by simp only [all_, i32, i64]; first | omega | (simp; done) | (simp; omega)) ?_
                  refine rch_run cdK159 (by decide) 2 (t' := (36, [some (vR 74), some (vI s), some (vI r), some (vI (f + 1))], [], MW b (upI (upI (upI (upI J2 126 (J2 74 76).toNat r) 127 (J2 74 76).toNat f) 128 (J2 74 76).toNat (J2 74 67)) 74 76 ((J2 74 76) + 1)) M2)) (ps := [i32 (f + 1)]) rfl (by simp only [all_, i32, i64]; first | omega | (simp; done) | (simp; omega)) ?_
                  have hqt : mwQ I s (6 * r.toNat + f.toNat) = true := by
                    rw [hw9]
                    refine decide_eq_true ⟨by omega, by omega, by omega, by omega, by omega, ?_⟩
                    cases hbz : hasB (I 123) (I 124) (I 125) r f (gM I r.toNat f) (I 74 75).toNat
                    · rfl
                    · have := hbt.mp hbz; omega
                  exact ih (f + 1) _ M2 (by omega) (by omega) (by rw [hi9, ← Nat.add_assoc]; exact Ms_yes h3 hqt g60 t2.2.1 (by rw [(hc9 (by omega)).1]; omega) (by rw [(hc9 (by omega)).2]; omega) (by rw [(hc9 (by omega)).1, (hc9 (by omega)).2, show ((f.toNat : Nat) : Int) = f by omega]; exact g67) rfl) (by omega)
                · refine rch_run cdK159 (by decide) 3 (t' := (36, [some (vR 74), some (vI s), some (vI r), some (vI (f + 1))], [], MW b J2 M2)) (ps := [i32 (f + 1)]) rfl (by simp only [all_, i32, i64]; first | omega | (simp; done) | (simp; omega)) ?_
                  exact ih (f + 1) J2 M2 (by omega) (by omega) (by rw [hi9, ← Nat.add_assoc]; exact Ms_no h3 (by rw [hw9]; exact decide_eq_false (fun z => by first | omega | (have z4 := z.2.2.2.2.2; have z5 := hbt.mpr (by omega); rw [z4] at z5; exact absurd z5 (by decide)))) g60 t2.2.1) (by omega)
          · refine rch_run cdK159 (by decide) 3 (t' := (36, [some (vR 74), some (vI s), some (vI r), some (vI (f + 1))], [], MW b J M)) (ps := [i32 (f + 1)]) rfl (by simp only [all_, i32, i64]; first | omega | (simp; done) | (simp; omega)) ?_
            exact ih (f + 1) J M (by omega) (by omega) (by rw [hi9, ← Nat.add_assoc]; exact Ms_no h3 (by rw [hQ9 (by omega)]; exact decide_eq_false (fun z => by omega)) (fun _ _ _ => rfl) (fun _ _ _ => rfl)) (by omega)
      · show Rch l E 6 159 _ _ _ _ (47, [some (vR 74), some (vI s), some (vI r), some (vI f)], [vI 0], MW b J M)
        have k87 : ¬ (0 ≤ r ∧ r < J 74 4 ∧ J 80 r.toNat = 0) := k87
        refine rch_br cdK159 (cd := (0 : Int) = 0) (t1 := (177, [some (vR 74), some (vI s), some (vI r), some (vI f)], [], MW b J M)) (t2 := (50, [some (vR 74), some (vI s), some (vI r), some (vI f)], [], MW b J M)) rfl (fun _ => ?_) (fun c9 => absurd (by decide) c9)
        refine rch_run cdK159 (by decide) 2 (t' := (36, [some (vR 74), some (vI s), some (vI r), some (vI (f + 1))], [], MW b J M)) (ps := [i32 (f + 1)]) rfl (by simp only [all_, i32, i64]; first | omega | (simp; done) | (simp; omega)) ?_
        exact ih (f + 1) J M (by omega) (by omega) (by rw [hi9, ← Nat.add_assoc]; exact Ms_no h3 (by rw [hQ9 (by omega)]; exact decide_eq_false (fun z => by omega)) (fun _ _ _ => rfl) (fun _ _ _ => rfl)) (by omega)

set_option maxHeartbeats 20000000 in
set_option maxRecDepth 100000 in
theorem lp_sekr (l : Launch) (E : AX) (b : Bool) (I0 L0 I L : Nat → Nat → Int) (s : Int) (hK : SkK I) (hs : 0 ≤ s ∧ s < 6) (Φ : Option AV → AW → Prop) (h58 : I 74 58 ≠ 0) (hend : ∀ J M, MsL I L J M s (6 * (I 74 4).toNat) → Φ none (MW b J M)) : ∀ (n9 : Nat) (r : Int) (J M : Nat → Nat → Int), 0 ≤ r → r ≤ I 74 4 → MsL I L J M s (6 * r.toNat) → I 74 4 - r < (n9 : Int) → Rch l E 6 159 (MW b I0 L0) 0 0 (Φ) (19, [some (vR 74), some (vI s), some (vI r), none], [], MW b J M) := by
  intro n9
  induction n9 with
  | zero =>
    intro r J M h1 h2 h3 hm
    exfalso; omega
  | succ n9 ih =>
    intro r J M h1 h2 h3 hm
    have hf9 := h3.1
    have hK1 := hK.1
    have q4 := hf9 74 4 (by omega)
    have q58 := hf9 74 58 (by omega)
    refine rch_run cdK159 (by decide) 3 (t' := (24, [some (vR 74), some (vI s), some (vI r), none], [vI (J 74 4), vI r], MW b J M)) (ps := []) rfl trivial ?_
    refine rch_br cdK159 (cd := J 74 4 ≤ r) (t1 := (189, [some (vR 74), some (vI s), some (vI r), none], [], MW b J M)) (t2 := (27, [some (vR 74), some (vI s), some (vI r), none], [], MW b J M)) rfl (fun c24_1 => ?_) (fun c24_1 => ?_)
    · refine rch_ret cdK159 (rt := none) rfl trivial mw_c ?_
      exact hend J M (by rw [show (I 74 4).toNat = r.toNat by omega]; exact h3)
    · refine rch_run cdK159 (by decide) 2 (t' := (31, [some (vR 74), some (vI s), some (vI r), none], [vI (J 74 58)], MW b J M)) (ps := []) rfl trivial ?_
      refine rch_br cdK159 (cd := J 74 58 = 0) (t1 := (189, [some (vR 74), some (vI s), some (vI r), none], [], MW b J M)) (t2 := (34, [some (vR 74), some (vI s), some (vI r), none], [], MW b J M)) rfl (fun c9 => by exfalso; omega) (fun c31_2 => ?_)
      refine rch_run cdK159 (by decide) 2 (t' := (36, [some (vR 74), some (vI s), some (vI r), some (vI 0)], [], MW b J M)) (ps := []) rfl trivial ?_
      exact lp_sekf l E b I0 L0 I L s hK hs _ r (by omega) (fun J2 M2 hW => ih (r + 1) J2 M2 (by omega) (by omega) (by rw [show (r + 1).toNat = r.toNat + 1 by omega]; exact hW) (by omega)) 7 0 J M (by omega) (by omega) (by simpa using h3) (by omega)

theorem GMk_d {I J : Nat → Nat → Int} {f d : Int} (h : ∀ a j, ((75 ≤ a ∧ a ≤ 109) ∨ (a = 74 ∧ j ≤ 54)) → a ≠ 99 → J a j = I a j) (hG : GMk I f d) : GMk J f d := by
  have e : ∀ a, (75 ≤ a ∧ a ≤ 109) → a ≠ 99 → J a = I a := fun a ha hb => funext (fun j => h a j (by omega) hb)
  unfold GMk
  rw [h 74 4 (by omega) (by omega), h 74 5 (by omega) (by omega), h 74 44 (by omega) (by omega), e 75 (by omega) (by omega), e 76 (by omega) (by omega), e 78 (by omega) (by omega), e 83 (by omega) (by omega), e 84 (by omega) (by omega), e 105 (by omega) (by omega)]
  exact hG
def SKR (I L J M : Nat → Nat → Int) (s : Int) : Prop := ∃ J1, PtM (upI I 74 76 0) J1 (I 74 0) (I 74 0) ∧ Msd J1 L J M s
theorem SKR_rg {I L J M : Nat → Nat → Int} {s : Int} (h : SKR I L J M s) : 0 ≤ J 74 76 ∧ J 74 76 ≤ 60 := by
  obtain ⟨J1, _, _, _, ⟨_, z⟩ | ⟨_, z, _⟩⟩ := h
  · omega
  · have := cnt_le (mwQ J1 s) 60
    omega
theorem PMk_c {I J : Nat → Nat → Int} (h : ∀ a j, ¬ (a = 74 ∧ j = 76) → J a j = I a j) (hP : PMk I) : PMk J := by
  have e : ∀ a, a ≠ 74 → J a = I a := fun a ha => funext (fun j => h a j (by omega))
  unfold PMk MBK VMK
  rw [h 74 4 (by omega), h 74 43 (by omega), h 74 20 (by omega), h 74 5 (by omega), e 90 (by omega), e 87 (by omega), e 91 (by omega), e 83 (by omega), h 114 0 (by omega), h 115 0 (by omega)]
  exact hP

set_option maxHeartbeats 20000000 in
set_option maxRecDepth 100000 in
theorem k_seek (l : Launch) (E : AX) (b : Bool) (I L : Nat → Nat → Int) (s : Int) (hP : PMk I) (hG : ∀ f : Int, 0 ≤ f → f ≤ 5 → GMk I f (I 74 0)) (hs : 0 ≤ s ∧ s < 6) (h75 : 0 ≤ I 74 75 ∧ I 74 75 ≤ 60) : Con l E 6 159 [vR 74, vI s] (MW b I L) 0 0 (fun rt w => ∃ J M, rt = none ∧ w = MW b J M ∧ SKR I L J M s) := by
  refine con_ok (fun hw9 hs9 => ?_)
  refine con_intro (by decide) (Nat.le_of_ble_eq_true rfl) ?_
  have hP9 := PMk_c (J := upI I 74 76 0) (fun a j ha => upI_ne (by omega)) hP
  show Rch l E 6 159 _ _ _ _ (0, [some (vR 74), some (vI s), none, none], [], MW b I L)
  refine rch_run cdK159 (by decide) 8 (t' := (14, [some (vR 74), some (vI s), none, none], [vI (I 74 0), vI (I 74 0), vR 74], MW b (upI I 74 76 0) L)) (ps := []) rfl trivial ?_
  refine rch_call (h' := 5) (k' := 147) (as := [vR 74, vI (I 74 0), vI (I 74 0)]) (t1 := (17, [some (vR 74), some (vI s), none, none], [], MW b (upI I 74 76 0) L)) cdK159 rfl (k_partM l E b (upI I 74 76 0) L (I 74 0) (I 74 0) hP9.1 hP9.2.1 hP9.2.2.1 hP9.2.2.2.1 hP9.2.2.2.2) (by decide) mw_le ?_
  rintro rt9 w9 (⟨J1, rfl, rfl, t1⟩) _ _
  show Rch l E 6 159 _ _ _ _ (17, [some (vR 74), some (vI s), none, none], [], MW b J1 L)
  have h01 := PtM_01 t1
  have hf7 : ∀ a j, ¬ (a = 99 ∨ (110 ≤ a ∧ a ≤ 117) ∨ (a = 74 ∧ 55 ≤ j ∧ j ≤ 58)) → ¬ (a = 74 ∧ j = 76) → J1 a j = I a j := fun a j ha hb => by rw [t1.1 a j ha, upI_ne (by omega)]
  have q76 : J1 74 76 = 0 := by rw [t1.1 74 76 (by omega), upI_eq rfl rfl]
  have hK9 : SkK J1 := ⟨by rw [hf7 74 4 (by omega) (by omega)]; exact hP.1, by rw [hf7 74 75 (by omega) (by omega)]; exact h75, by rw [hf7 74 5 (by omega) (by omega)]; exact hP.2.2.2.1.1, fun f f0 f5 => by rw [hf7 74 0 (by omega) (by omega)]; exact GMk_d (fun a j h1 h2 => hf7 a j (by omega) (by omega)) (hG f f0 f5)⟩
  refine rch_run cdK159 (by decide) 2 (t' := (19, [some (vR 74), some (vI s), some (vI 0), none], [], MW b J1 L)) (ps := []) rfl trivial ?_
  by_cases h58 : J1 74 58 = 0
  · skip
    refine rch_run cdK159 (by decide) 3 (t' := (24, [some (vR 74), some (vI s), some (vI 0), none], [vI (J1 74 4), vI 0], MW b J1 L)) (ps := []) rfl trivial ?_
    refine rch_br cdK159 (cd := J1 74 4 ≤ (0 : Int)) (t1 := (189, [some (vR 74), some (vI s), some (vI 0), none], [], MW b J1 L)) (t2 := (27, [some (vR 74), some (vI s), some (vI 0), none], [], MW b J1 L)) rfl (fun c24_1 => ?_) (fun c24_1 => ?_)
    · refine rch_ret cdK159 (rt := none) rfl trivial mw_c ?_
      exact ⟨J1, L, rfl, rfl, J1, t1, fun _ _ _ => rfl, fun _ _ _ => rfl, Or.inl ⟨h58, q76⟩⟩
    · refine rch_run cdK159 (by decide) 2 (t' := (31, [some (vR 74), some (vI s), some (vI 0), none], [vI (J1 74 58)], MW b J1 L)) (ps := []) rfl trivial ?_
      refine rch_br cdK159 (cd := J1 74 58 = 0) (t1 := (189, [some (vR 74), some (vI s), some (vI 0), none], [], MW b J1 L)) (t2 := (34, [some (vR 74), some (vI s), some (vI 0), none], [], MW b J1 L)) rfl (fun c31_2 => ?_) (fun c9 => by exfalso; omega)
      refine rch_ret cdK159 (rt := none) rfl trivial mw_c ?_
      exact ⟨J1, L, rfl, rfl, J1, t1, fun _ _ _ => rfl, fun _ _ _ => rfl, Or.inl ⟨h58, q76⟩⟩
  · have hK1 := hK9.1
    exact lp_sekr l E b I L J1 L s hK9 hs _ h58 (fun J M hW => ⟨J, M, rfl, rfl, J1, t1, Ms_end hW (by omega) (by omega) h58⟩) 11 0 J1 L (by omega) hK9.1.1 ⟨fun _ _ _ => rfl, fun _ _ _ => rfl, q76, fun q hq => absurd hq (by simp)⟩ (by omega)
