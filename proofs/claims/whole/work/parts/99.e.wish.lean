theorem lp_has (l : Launch) (E : AX) (b : Bool) (I L : Nat → Nat → Int) (r f x : Int) (hn : 0 ≤ I 66 0 ∧ I 66 0 ≤ 60) : ∀ (n9 : Nat) (i : Int), 0 ≤ i → i ≤ I 66 0 → hasB (I 67) (I 68) (I 69) r f x i.toNat = false → I 66 0 - i < (n9 : Int) → Rch l E 1 60 (MW b I L) 0 0 (fun rt w => rt = some (vI (b2i (hasB (I 67) (I 68) (I 69) r f x (I 66 0).toNat))) ∧ w = MW b I L) (3, [some (vR 66), some (vI r), some (vI f), some (vI x), some (vI i)], [], MW b I L) := by
  intro n9
  induction n9 with
  | zero =>
    intro i  h1 h2 h3 hm
    exfalso; omega
  | succ n9 ih =>
    intro i  h1 h2 h3 hm
    refine rch_run cdK60 (by decide) 3 (t' := (9, [some (vR 66), some (vI r), some (vI f), some (vI x), some (vI i)], [vI (I 66 0), vI i], MW b I L)) (ps := []) rfl trivial ?_
    refine rch_br cdK60 (cd := I 66 0 ≤ i) (t1 := (53, [some (vR 66), some (vI r), some (vI f), some (vI x), some (vI i)], [], MW b I L)) (t2 := (12, [some (vR 66), some (vI r), some (vI f), some (vI x), some (vI i)], [], MW b I L)) rfl (fun c9_1 => ?_) (fun c9_1 => ?_)
    · refine rch_run cdK60 (by decide) 1 (t' := (54, [some (vR 66), some (vI r), some (vI f), some (vI x), some (vI i)], [vI 0], MW b I L)) (ps := []) rfl trivial ?_
      refine rch_ret cdK60 (rt := some (vI 0)) rfl (Or.inl rfl) mw_c ?_
      exact ⟨by rw [show (I 66 0).toNat = i.toNat by omega, h3]; rfl, rfl⟩
    · refine rch_run cdK60 (by decide) 5 (t' := (20, [some (vR 66), some (vI r), some (vI f), some (vI x), some (vI i)], [vI r, vI (I 67 i.toNat)], MW b I L)) (ps := [0 ≤ i ∧ i < ((60 : Nat) : Int)]) rfl (by simp only [all_, i32, i64]; first | omega | (simp; done) | (simp; omega)) ?_
      refine rch_br cdK60 (cd := I 67 i.toNat ≠ r) (t1 := (47, [some (vR 66), some (vI r), some (vI f), some (vI x), some (vI i)], [], MW b I L)) (t2 := (23, [some (vR 66), some (vI r), some (vI f), some (vI x), some (vI i)], [], MW b I L)) rfl (fun c20_2 => ?_) (fun c20_2 => ?_)
      · refine rch_run cdK60 (by decide) 2 (t' := (3, [some (vR 66), some (vI r), some (vI f), some (vI x), some (vI (i + 1))], [], MW b I L)) (ps := [i32 (i + 1)]) rfl (by simp only [all_, i32, i64]; first | omega | (simp; done) | (simp; omega)) ?_
        exact ih (i + 1) (by omega) (by omega) (by rw [show (i + 1).toNat = i.toNat + 1 by omega, hasB_s, h3, decide_eq_false (by omega)]; rfl) (by omega)
      · refine rch_run cdK60 (by decide) 5 (t' := (31, [some (vR 66), some (vI r), some (vI f), some (vI x), some (vI i)], [vI f, vI (I 68 i.toNat)], MW b I L)) (ps := [0 ≤ i ∧ i < ((60 : Nat) : Int)]) rfl (by simp only [all_, i32, i64]; first | omega | (simp; done) | (simp; omega)) ?_
        refine rch_br cdK60 (cd := I 68 i.toNat ≠ f) (t1 := (47, [some (vR 66), some (vI r), some (vI f), some (vI x), some (vI i)], [], MW b I L)) (t2 := (34, [some (vR 66), some (vI r), some (vI f), some (vI x), some (vI i)], [], MW b I L)) rfl (fun c31_3 => ?_) (fun c31_3 => ?_)
        · refine rch_run cdK60 (by decide) 2 (t' := (3, [some (vR 66), some (vI r), some (vI f), some (vI x), some (vI (i + 1))], [], MW b I L)) (ps := [i32 (i + 1)]) rfl (by simp only [all_, i32, i64]; first | omega | (simp; done) | (simp; omega)) ?_
          exact ih (i + 1) (by omega) (by omega) (by rw [show (i + 1).toNat = i.toNat + 1 by omega, hasB_s, h3, decide_eq_false (by omega)]; rfl) (by omega)
        · refine rch_run cdK60 (by decide) 5 (t' := (42, [some (vR 66), some (vI r), some (vI f), some (vI x), some (vI i)], [vI x, vI (I 69 i.toNat)], MW b I L)) (ps := [0 ≤ i ∧ i < ((60 : Nat) : Int)]) rfl (by simp only [all_, i32, i64]; first | omega | (simp; done) | (simp; omega)) ?_
          refine rch_br cdK60 (cd := I 69 i.toNat ≠ x) (t1 := (47, [some (vR 66), some (vI r), some (vI f), some (vI x), some (vI i)], [], MW b I L)) (t2 := (45, [some (vR 66), some (vI r), some (vI f), some (vI x), some (vI i)], [], MW b I L)) rfl (fun c42_4 => ?_) (fun c42_4 => ?_)
          · refine rch_run cdK60 (by decide) 2 (t' := (3, [some (vR 66), some (vI r), some (vI f), some (vI x), some (vI (i + 1))], [], MW b I L)) (ps := [i32 (i + 1)]) rfl (by simp only [all_, i32, i64]; first | omega | (simp; done) | (simp; omega)) ?_
            exact ih (i + 1) (by omega) (by omega) (by rw [show (i + 1).toNat = i.toNat + 1 by omega, hasB_s, h3, decide_eq_false (by omega)]; rfl) (by omega)
          · refine rch_run cdK60 (by decide) 1 (t' := (46, [some (vR 66), some (vI r), some (vI f), some (vI x), some (vI i)], [vI 1], MW b I L)) (ps := []) rfl trivial ?_
            refine rch_ret cdK60 (rt := some (vI 1)) rfl (Or.inr rfl) mw_c ?_
            have hx9 : hasB (I 67) (I 68) (I 69) r f x (i.toNat + 1) = true := by rw [hasB_s, decide_eq_true (by omega), Bool.or_true]
            have hy9 := hasB_up hx9 ((I 66 0).toNat - (i.toNat + 1))
            rw [show i.toNat + 1 + ((I 66 0).toNat - (i.toNat + 1)) = (I 66 0).toNat by omega] at hy9
            exact ⟨by rw [hy9]; rfl, rfl⟩

theorem k_has (l : Launch) (E : AX) (b : Bool) (I L : Nat → Nat → Int) (r f x : Int) (hn : 0 ≤ I 66 0 ∧ I 66 0 ≤ 60) : Con l E 1 60 [vR 66, vI r, vI f, vI x] (MW b I L) 0 0 (fun rt w => rt = some (vI (b2i (hasB (I 67) (I 68) (I 69) r f x (I 66 0).toNat))) ∧ w = MW b I L) := by
  refine con_ok (fun hw9 hs9 => ?_)
  refine con_intro (by decide) (Nat.le_of_ble_eq_true rfl) ?_
  show Rch l E 1 60 _ _ _ _ (0, [some (vR 66), some (vI r), some (vI f), some (vI x), none], [], MW b I L)
  refine rch_run cdK60 (by decide) 2 (t' := (3, [some (vR 66), some (vI r), some (vI f), some (vI x), some (vI 0)], [], MW b I L)) (ps := []) rfl trivial ?_
  exact lp_has l E b I L r f x hn 61 0 (by omega) hn.1 rfl (by omega)

theorem k_gdC (l : Launch) (E : AX) (b : Bool) (I L : Nat → Nat → Int) (p f : Int) (hn : 0 ≤ I 38 0 ∧ I 38 0 ≤ 20) (hr : ∀ m : Nat, (m : Int) < I 38 0 → 0 ≤ I 39 m ∧ I 39 m < 10) (hK : VgK I p f) : Con l E 4 97 [vR 0, vI p, vI f] (MW b I L) 0 0 (fun rt w => ∃ J, (∀ a j, ¬ (61 ≤ a ∧ a ≤ 65) → J a j = I a j) ∧ rt = some (vI (gdC I p f)) ∧ w = MW b J L) := by
  refine con_ok (fun hw9 hs9 => ?_)
  refine con_intro (by decide) (Nat.le_of_ble_eq_true rfl) ?_
  show Rch l E 4 97 _ _ _ _ (0, [some (vR 0), some (vI p), some (vI f), none], [], MW b I L)
  refine rch_run cdK97 (by decide) 3 (t' := (3, [some (vR 0), some (vI p), some (vI f), none], [vI f, vI p, vR 0], MW b I L)) (ps := []) rfl trivial ?_
  refine rch_call (h' := 2) (k' := 98) (as := [vR 0, vI p, vI f]) (t1 := (6, [some (vR 0), some (vI p), some (vI f), none], [], MW b I L)) cdK97 rfl (k_latestFix l E b I L p f hn hr) (by decide) mw_le ?_
  rintro rt9 w9 (⟨rfl, rfl⟩) _ _
  show Rch l E 4 97 _ _ _ _ (6, [some (vR 0), some (vI p), some (vI f), none], [vI (lst (fxA I p f) (I 38 0).toNat)], MW b I L)
  have hx9 := lst_rg (fxA I p f) (I 38 0).toNat
  refine rch_run cdK97 (by decide) 3 (t' := (9, [some (vR 0), some (vI p), some (vI f), some (vI (lst (fxA I p f) (I 38 0).toNat))], [vI (-1), vI (lst (fxA I p f) (I 38 0).toNat)], MW b I L)) (ps := []) rfl trivial ?_
  refine rch_br cdK97 (cd := lst (fxA I p f) (I 38 0).toNat = ((-1) : Int)) (t1 := (22, [some (vR 0), some (vI p), some (vI f), some (vI (lst (fxA I p f) (I 38 0).toNat))], [], MW b I L)) (t2 := (12, [some (vR 0), some (vI p), some (vI f), some (vI (lst (fxA I p f) (I 38 0).toNat))], [], MW b I L)) rfl (fun c9_1 => ?_) (fun c9_1 => ?_)
  · refine rch_run cdK97 (by decide) 3 (t' := (25, [some (vR 0), some (vI p), some (vI f), some (vI (lst (fxA I p f) (I 38 0).toNat))], [vI f, vI p, vR 0], MW b I L)) (ps := []) rfl trivial ?_
    refine rch_call (h' := 3) (k' := 96) (as := [vR 0, vI p, vI f]) (t1 := (28, [some (vR 0), some (vI p), some (vI f), some (vI (lst (fxA I p f) (I 38 0).toNat))], [], MW b I L)) cdK97 rfl (k_hear l E b I L p f hK) (by decide) mw_le ?_
    rintro rt9 w9 (⟨J2, rfl, rfl, t2⟩) _ _
    show Rch l E 4 97 _ _ _ _ (28, [some (vR 0), some (vI p), some (vI f), some (vI (lst (fxA I p f) (I 38 0).toNat))], [], MW b J2 L)
    refine rch_run cdK97 (by decide) 3 (t' := (35, [some (vR 0), some (vI p), some (vI f), some (vI (lst (fxA I p f) (I 38 0).toNat))], [vI (J2 61 0)], MW b J2 L)) (ps := []) rfl trivial ?_
    refine rch_ret cdK97 (rt := some (vI (J2 61 0))) rfl trivial mw_c ?_
    exact ⟨J2, t2.1, by rw [t2.2.1]; unfold gdC; rw [if_neg (by omega)], rfl⟩
  · refine rch_run cdK97 (by decide) 5 (t' := (21, [some (vR 0), some (vI p), some (vI f), some (vI (lst (fxA I p f) (I 38 0).toNat))], [vI (I 41 (lst (fxA I p f) (I 38 0).toNat).toNat)], MW b I L)) (ps := [0 ≤ lst (fxA I p f) (I 38 0).toNat ∧ lst (fxA I p f) (I 38 0).toNat < ((20 : Nat) : Int)]) rfl (by simp only [all_, i32, i64]; first | omega | (simp; done) | (simp; omega)) ?_
    refine rch_ret cdK97 (rt := some (vI (I 41 (lst (fxA I p f) (I 38 0).toNat).toNat))) rfl trivial mw_c ?_
    exact ⟨I, fun _ _ _ => rfl, by unfold gdC; rw [if_pos (by omega)], rfl⟩

theorem lp_lwo (l : Launch) (E : AX) (b : Bool) (I J0 L : Nat → Nat → Int) (s r fs : Int) (hK : LwK I) (hr : (0 ≤ r ∧ r < 10) ∧ r < I 17 0) (hs : 0 ≤ s ∧ s < 6) (h18 : I 18 r.toNat = s) (h45 : I 45 r.toNat ≠ 0) (hfs : fs = I 16 s.toNat) : ∀ (n9 : Nat) (f : Int) (J : Nat → Nat → Int), 0 ≤ f → f ≤ 6 → WsL I J s (6 * r.toNat + f.toNat) → 6 - f < (n9 : Int) → Rch l E 5 101 (MW b J0 L) 0 0 (fun rt w => ∃ J, rt = none ∧ w = MW b J L ∧ WsL I J s (6 * (r.toNat + 1))) (12, [some (vR 0), some (vI r), some (vI fs), some (vI (I 50 r.toNat)), some (vI f), none], [], MW b J L) := by
  intro n9
  induction n9 with
  | zero =>
    intro f J h1 h2 h3 hm
    exfalso; omega
  | succ n9 ih =>
    intro f J h1 h2 h3 hm
    have hf9 := h3.1
    have h60 : ∀ a j, a ≤ 60 → J a j = I a j := fun a j ha => hf9 a j (by omega)
    have q50 := h60 50 r.toNat (by omega)
    have hf8 : f < 6 → VgK J (I 50 r.toNat) f := fun z => VgK_c h60 (hK.2.2.2.2 r.toNat (by omega) h45 f h1 (by omega))
    have hK1 := hK.1
    have hK2 := hK.2.1
    have hK3 := hK.2.2.1
    have q38 := h60 38 0 (by omega)
    have hi9 : (f + 1).toNat = f.toNat + 1 := by omega
    have hc9 : f < 6 → (6 * r.toNat + f.toNat) / 6 = r.toNat ∧ (6 * r.toNat + f.toNat) % 6 = f.toNat := fun z => by omega
    have hQ9 : f < 6 → wQ I s (6 * r.toNat + f.toNat) = decide (bAnd (bShr fs f) 1 = 1 ∧ gdC I (I 50 r.toNat) f ≠ -1 ∧ gdC I (I 50 r.toNat) f ≠ I 46 ((r * 6) + f).toNat ∧ hasB (I 67) (I 68) (I 69) r f (gdC I (I 50 r.toNat) f) (I 66 0).toNat = false) := fun z => by
      unfold wQ
      rw [(hc9 z).1, (hc9 z).2, show ((f.toNat : Nat) : Int) = f by omega, show ((r.toNat : Nat) : Int) = r by omega, ← hfs, show 6 * r.toNat + f.toNat = ((r * 6) + f).toNat by omega]
      exact decide_eq_decide.mpr ⟨fun z => z.2.2.2, fun z => ⟨by omega, h18, h45, z⟩⟩
    have q45 := h60 45 r.toNat (by omega)
    have q46 := h60 46 ((r * 6) + f).toNat (by omega)
    have hc8 := h3.2.1
    have hcl := cnt_le (wQ I s) (6 * r.toNat + f.toNat)
    refine rch_run cdK101 (by decide) 2 (t' := (16, [some (vR 0), some (vI r), some (vI fs), some (vI (I 50 r.toNat)), some (vI f), none], [vI 6, vI f], MW b J L)) (ps := []) rfl trivial ?_
    refine rch_br cdK101 (cd := (6 : Int) ≤ f) (t1 := (92, [some (vR 0), some (vI r), some (vI fs), some (vI (I 50 r.toNat)), some (vI f), none], [], MW b J L)) (t2 := (19, [some (vR 0), some (vI r), some (vI fs), some (vI (I 50 r.toNat)), some (vI f), none], [], MW b J L)) rfl (fun c16_1 => ?_) (fun c16_1 => ?_)
    · refine rch_ret cdK101 (rt := none) rfl trivial mw_c ?_
      exact ⟨J, rfl, rfl, by rw [show 6 * (r.toNat + 1) = 6 * r.toNat + f.toNat by omega]; exact h3⟩
    · refine rch_run cdK101 (by decide) 6 (t' := (26, [some (vR 0), some (vI r), some (vI fs), some (vI (I 50 r.toNat)), some (vI f), none], [vI 1, vI (bAnd (bShr fs f) 1)], MW b J L)) (ps := []) rfl trivial ?_
      refine rch_br cdK101 (cd := bAnd (bShr fs f) 1 ≠ (1 : Int)) (t1 := (86, [some (vR 0), some (vI r), some (vI fs), some (vI (I 50 r.toNat)), some (vI f), none], [], MW b J L)) (t2 := (29, [some (vR 0), some (vI r), some (vI fs), some (vI (I 50 r.toNat)), some (vI f), none], [], MW b J L)) rfl (fun c26_2 => ?_) (fun c26_2 => ?_)
      · refine rch_run cdK101 (by decide) 2 (t' := (12, [some (vR 0), some (vI r), some (vI fs), some (vI (I 50 r.toNat)), some (vI (f + 1)), none], [], MW b J L)) (ps := [i32 (f + 1)]) rfl (by simp only [all_, i32, i64]; first | omega | (simp; done) | (simp; omega)) ?_
        refine rch_forget [5] ?_
        show Rch l E 5 101 _ _ _ _ (12, [some (vR 0), some (vI r), some (vI fs), some (vI (I 50 r.toNat)), some (vI (f + 1)), none], [], MW b J L)
        exact ih (f + 1) J (by omega) (by omega) (by rw [hi9, ← Nat.add_assoc]; exact Ws_no h3 (by rw [hQ9 (by omega)]; exact decide_eq_false (fun z => by omega)) (fun _ _ _ => rfl)) (by omega)
      · refine rch_run cdK101 (by decide) 3 (t' := (33, [some (vR 0), some (vI r), some (vI fs), some (vI (I 50 r.toNat)), some (vI f), none], [vI f, vI (I 50 r.toNat), vR 0], MW b J L)) (ps := []) rfl trivial ?_
        refine rch_call (h' := 4) (k' := 97) (as := [vR 0, vI (I 50 r.toNat), vI f]) (t1 := (36, [some (vR 0), some (vI r), some (vI fs), some (vI (I 50 r.toNat)), some (vI f), none], [], MW b J L)) cdK101 rfl ((k_gdC l E b J L (I 50 r.toNat) f (by rw [q38]; exact hK3) (by rw [q38, show J 39 = I 39 from funext (fun z => h60 39 z (by omega))]; exact hK.2.2.2.1) (hf8 (by omega)))) (by decide) mw_le ?_
        rintro rt9 w9 (⟨J2, f2, e9, rfl⟩) _ _
        rw [gdC_c h60] at e9
        subst e9
        show Rch l E 5 101 _ _ _ _ (36, [some (vR 0), some (vI r), some (vI fs), some (vI (I 50 r.toNat)), some (vI f), none], [vI (gdC I (I 50 r.toNat) f)], MW b J2 L)
        have g60 : ∀ a j, ¬ (61 ≤ a ∧ a ≤ 65) → J2 a j = J a j := f2
        have q45b := g60 45 r.toNat (by omega)
        have q46b := g60 46 ((r * 6) + f).toNat (by omega)
        have q66b := g60 66 0 (by omega)
        have q66 := hf9 66 0 (by omega)
        have hw9 := hQ9 (by omega)
        have q70b := g60 70 0 (by omega)
        refine rch_run cdK101 (by decide) 3 (t' := (41, [some (vR 0), some (vI r), some (vI fs), some (vI (I 50 r.toNat)), some (vI f), some (vI (gdC I (I 50 r.toNat) f))], [vI (-1), vI (gdC I (I 50 r.toNat) f)], MW b J2 L)) (ps := []) rfl trivial ?_
        refine rch_br cdK101 (cd := gdC I (I 50 r.toNat) f = ((-1) : Int)) (t1 := (86, [some (vR 0), some (vI r), some (vI fs), some (vI (I 50 r.toNat)), some (vI f), some (vI (gdC I (I 50 r.toNat) f))], [], MW b J2 L)) (t2 := (44, [some (vR 0), some (vI r), some (vI fs), some (vI (I 50 r.toNat)), some (vI f), some (vI (gdC I (I 50 r.toNat) f))], [], MW b J2 L)) rfl (fun c41_3 => ?_) (fun c41_3 => ?_)
        · refine rch_run cdK101 (by decide) 2 (t' := (12, [some (vR 0), some (vI r), some (vI fs), some (vI (I 50 r.toNat)), some (vI (f + 1)), some (vI (gdC I (I 50 r.toNat) f))], [], MW b J2 L)) (ps := [i32 (f + 1)]) rfl (by simp only [all_, i32, i64]; first | omega | (simp; done) | (simp; omega)) ?_
          refine rch_forget [5] ?_
          show Rch l E 5 101 _ _ _ _ (12, [some (vR 0), some (vI r), some (vI fs), some (vI (I 50 r.toNat)), some (vI (f + 1)), none], [], MW b J2 L)
          exact ih (f + 1) J2 (by omega) (by omega) (by rw [hi9, ← Nat.add_assoc]; exact Ws_no h3 (by rw [hw9]; exact decide_eq_false (fun z => by first | omega | (have z4 := z.2.2.2; have z5 := hbt.mpr (by omega); rw [z4] at z5; exact absurd z5 (by decide)))) g60) (by omega)
        · refine rch_run cdK101 (by decide) 5 (t' := (53, [some (vR 0), some (vI r), some (vI fs), some (vI (I 50 r.toNat)), some (vI f), some (vI (gdC I (I 50 r.toNat) f))], [vI f, vI r, vR 44, vI (gdC I (I 50 r.toNat) f)], MW b J2 L)) (ps := []) rfl trivial ?_
          refine rch_call (h' := 2) (k' := 37) (as := [vR 44, vI r, vI f]) (t1 := (56, [some (vR 0), some (vI r), some (vI fs), some (vI (I 50 r.toNat)), some (vI f), some (vI (gdC I (I 50 r.toNat) f))], [vI (gdC I (I 50 r.toNat) f)], MW b J2 L)) cdK101 rfl (k_X5_valueOf l E b J2 L r f ) (by decide) mw_le ?_
          rintro rt9 w9 (⟨k73, rfl, rfl⟩ | ⟨k73, rfl, rfl⟩) _ _
          · show Rch l E 5 101 _ _ _ _ (56, [some (vR 0), some (vI r), some (vI fs), some (vI (I 50 r.toNat)), some (vI f), some (vI (gdC I (I 50 r.toNat) f))], [vI (J2 46 ((r * 6) + f).toNat), vI (gdC I (I 50 r.toNat) f)], MW b J2 L)
            have k73 : (0 ≤ r ∧ r < 10 ∧ J2 45 r.toNat ≠ 0) ∧ 0 ≤ f ∧ f ≤ 5 := k73
            refine rch_br cdK101 (cd := gdC I (I 50 r.toNat) f = J2 46 ((r * 6) + f).toNat) (t1 := (86, [some (vR 0), some (vI r), some (vI fs), some (vI (I 50 r.toNat)), some (vI f), some (vI (gdC I (I 50 r.toNat) f))], [], MW b J2 L)) (t2 := (59, [some (vR 0), some (vI r), some (vI fs), some (vI (I 50 r.toNat)), some (vI f), some (vI (gdC I (I 50 r.toNat) f))], [], MW b J2 L)) rfl (fun c56_4 => ?_) (fun c56_4 => ?_)
            · refine rch_run cdK101 (by decide) 2 (t' := (12, [some (vR 0), some (vI r), some (vI fs), some (vI (I 50 r.toNat)), some (vI (f + 1)), some (vI (gdC I (I 50 r.toNat) f))], [], MW b J2 L)) (ps := [i32 (f + 1)]) rfl (by simp only [all_, i32, i64]; first | omega | (simp; done) | (simp; omega)) ?_
              refine rch_forget [5] ?_
              show Rch l E 5 101 _ _ _ _ (12, [some (vR 0), some (vI r), some (vI fs), some (vI (I 50 r.toNat)), some (vI (f + 1)), none], [], MW b J2 L)
              exact ih (f + 1) J2 (by omega) (by omega) (by rw [hi9, ← Nat.add_assoc]; exact Ws_no h3 (by rw [hw9]; exact decide_eq_false (fun z => by first | omega | (have z4 := z.2.2.2; have z5 := hbt.mpr (by omega); rw [z4] at z5; exact absurd z5 (by decide)))) g60) (by omega)
            · refine rch_run cdK101 (by decide) 5 (t' := (68, [some (vR 0), some (vI r), some (vI fs), some (vI (I 50 r.toNat)), some (vI f), some (vI (gdC I (I 50 r.toNat) f))], [vI (gdC I (I 50 r.toNat) f), vI f, vI r, vR 66], MW b J2 L)) (ps := []) rfl trivial ?_
              refine rch_call (h' := 1) (k' := 60) (as := [vR 66, vI r, vI f, vI (gdC I (I 50 r.toNat) f)]) (t1 := (71, [some (vR 0), some (vI r), some (vI fs), some (vI (I 50 r.toNat)), some (vI f), some (vI (gdC I (I 50 r.toNat) f))], [], MW b J2 L)) cdK101 rfl (k_has l E b J2 L r f (gdC I (I 50 r.toNat) f) (by omega)) (by decide) mw_le ?_
              rintro rt9 w9 (⟨e9, rfl⟩) _ _
              rw [show J2 67 = I 67 from funext (fun z => by rw [g60 67 z (by omega)]; exact hf9 67 z (by omega)), show J2 68 = I 68 from funext (fun z => by rw [g60 68 z (by omega)]; exact hf9 68 z (by omega)), show J2 69 = I 69 from funext (fun z => by rw [g60 69 z (by omega)]; exact hf9 69 z (by omega)), q66b, q66] at e9
              subst e9
              show Rch l E 5 101 _ _ _ _ (71, [some (vR 0), some (vI r), some (vI fs), some (vI (I 50 r.toNat)), some (vI f), some (vI (gdC I (I 50 r.toNat) f))], [vI (b2i (hasB (I 67) (I 68) (I 69) r f (gdC I (I 50 r.toNat) f) (I 66 0).toNat))], MW b J2 L)
              have hb9 := b2i_01 (hasB (I 67) (I 68) (I 69) r f (gdC I (I 50 r.toNat) f) (I 66 0).toNat)
              have hbt : hasB (I 67) (I 68) (I 69) r f (gdC I (I 50 r.toNat) f) (I 66 0).toNat = true ↔ b2i (hasB (I 67) (I 68) (I 69) r f (gdC I (I 50 r.toNat) f) (I 66 0).toNat) = 1 := by cases hasB (I 67) (I 68) (I 69) r f (gdC I (I 50 r.toNat) f) (I 66 0).toNat <;> decide
              refine rch_br cdK101 (cd := b2i (hasB (I 67) (I 68) (I 69) r f (gdC I (I 50 r.toNat) f) (I 66 0).toNat) ≠ 0) (t1 := (86, [some (vR 0), some (vI r), some (vI fs), some (vI (I 50 r.toNat)), some (vI f), some (vI (gdC I (I 50 r.toNat) f))], [], MW b J2 L)) (t2 := (74, [some (vR 0), some (vI r), some (vI fs), some (vI (I 50 r.toNat)), some (vI f), some (vI (gdC I (I 50 r.toNat) f))], [], MW b J2 L)) rfl (fun c71_5 => ?_) (fun c71_5 => ?_)
              · refine rch_run cdK101 (by decide) 2 (t' := (12, [some (vR 0), some (vI r), some (vI fs), some (vI (I 50 r.toNat)), some (vI (f + 1)), some (vI (gdC I (I 50 r.toNat) f))], [], MW b J2 L)) (ps := [i32 (f + 1)]) rfl (by simp only [all_, i32, i64]; first | omega | (simp; done) | (simp; omega)) ?_
                refine rch_forget [5] ?_
                show Rch l E 5 101 _ _ _ _ (12, [some (vR 0), some (vI r), some (vI fs), some (vI (I 50 r.toNat)), some (vI (f + 1)), none], [], MW b J2 L)
                exact ih (f + 1) J2 (by omega) (by omega) (by rw [hi9, ← Nat.add_assoc]; exact Ws_no h3 (by rw [hw9]; exact decide_eq_false (fun z => by first | omega | (have z4 := z.2.2.2; have z5 := hbt.mpr (by omega); rw [z4] at z5; exact absurd z5 (by decide)))) g60) (by omega)
              · refine rch_run cdK101 (by decide) 5 (t' := (83, [some (vR 0), some (vI r), some (vI fs), some (vI (I 50 r.toNat)), some (vI f), some (vI (gdC I (I 50 r.toNat) f))], [vI (gdC I (I 50 r.toNat) f), vI f, vI r, vR 70], MW b J2 L)) (ps := []) rfl trivial ?_
                refine rch_call (h' := 1) (k' := 59) (as := [vR 70, vI r, vI f, vI (gdC I (I 50 r.toNat) f)]) (t1 := (86, [some (vR 0), some (vI r), some (vI fs), some (vI (I 50 r.toNat)), some (vI f), some (vI (gdC I (I 50 r.toNat) f))], [], MW b J2 L)) cdK101 rfl (k_wishes_add l E b J2 L r f (gdC I (I 50 r.toNat) f) (by show 0 ≤ J2 70 0 ∧ J2 70 0 ≤ 60; omega)) (by decide) mw_le ?_
                rintro rt9 w9 (⟨k74, rfl, rfl⟩ | ⟨k74, rfl, rfl⟩) _ _
                · show Rch l E 5 101 _ _ _ _ (86, [some (vR 0), some (vI r), some (vI fs), some (vI (I 50 r.toNat)), some (vI f), some (vI (gdC I (I 50 r.toNat) f))], [], MW b (upI (upI (upI (upI J2 71 (J2 70 0).toNat r) 72 (J2 70 0).toNat f) 73 (J2 70 0).toNat (gdC I (I 50 r.toNat) f)) 70 0 ((J2 70 0) + 1)) L)
                  have k74 : J2 70 0 < 60 := k74
                  refine rch_run cdK101 (by decide) 2 (t' := (12, [some (vR 0), some (vI r), some (vI fs), some (vI (I 50 r.toNat)), some (vI (f + 1)), some (vI (gdC I (I 50 r.toNat) f))], [], MW b (upI (upI (upI (upI J2 71 (J2 70 0).toNat r) 72 (J2 70 0).toNat f) 73 (J2 70 0).toNat (gdC I (I 50 r.toNat) f)) 70 0 ((J2 70 0) + 1)) L)) (ps := [i32 (f + 1)]) rfl (by simp only [all_, i32, i64]; first | omega | (simp; done) | (simp; omega)) ?_
                  refine rch_forget [5] ?_
                  show Rch l E 5 101 _ _ _ _ (12, [some (vR 0), some (vI r), some (vI fs), some (vI (I 50 r.toNat)), some (vI (f + 1)), none], [], MW b (upI (upI (upI (upI J2 71 (J2 70 0).toNat r) 72 (J2 70 0).toNat f) 73 (J2 70 0).toNat (gdC I (I 50 r.toNat) f)) 70 0 ((J2 70 0) + 1)) L)
                  have hqt : wQ I s (6 * r.toNat + f.toNat) = true := by
                    rw [hw9]
                    refine decide_eq_true ⟨by omega, by omega, by omega, ?_⟩
                    cases hbz : hasB (I 67) (I 68) (I 69) r f (gdC I (I 50 r.toNat) f) (I 66 0).toNat
                    · rfl
                    · have := hbt.mp hbz; omega
                  exact ih (f + 1) _ (by omega) (by omega) (by rw [hi9, ← Nat.add_assoc]; exact Ws_yes h3 hqt g60 (by rw [(hc9 (by omega)).1]; omega) (by rw [(hc9 (by omega)).2]; omega) (by rw [(hc9 (by omega)).1, (hc9 (by omega)).2, show ((f.toNat : Nat) : Int) = f by omega]) rfl) (by omega)
                · show Rch l E 5 101 _ _ _ _ (86, [some (vR 0), some (vI r), some (vI fs), some (vI (I 50 r.toNat)), some (vI f), some (vI (gdC I (I 50 r.toNat) f))], [], MW b J2 L)
                  have k74 : ¬ (J2 70 0 < 60) := k74
                  refine rch_run cdK101 (by decide) 2 (t' := (12, [some (vR 0), some (vI r), some (vI fs), some (vI (I 50 r.toNat)), some (vI (f + 1)), some (vI (gdC I (I 50 r.toNat) f))], [], MW b J2 L)) (ps := [i32 (f + 1)]) rfl (by simp only [all_, i32, i64]; first | omega | (simp; done) | (simp; omega)) ?_
                  refine rch_forget [5] ?_
                  show Rch l E 5 101 _ _ _ _ (12, [some (vR 0), some (vI r), some (vI fs), some (vI (I 50 r.toNat)), some (vI (f + 1)), none], [], MW b J2 L)
                  exact ih (f + 1) J2 (by omega) (by omega) (by rw [hi9, ← Nat.add_assoc]; exact Ws_no h3 (by rw [hw9]; exact decide_eq_false (fun z => by first | omega | (have z4 := z.2.2.2; have z5 := hbt.mpr (by omega); rw [z4] at z5; exact absurd z5 (by decide)))) g60) (by omega)
          · show Rch l E 5 101 _ _ _ _ (56, [some (vR 0), some (vI r), some (vI fs), some (vI (I 50 r.toNat)), some (vI f), some (vI (gdC I (I 50 r.toNat) f))], [vI (-1), vI (gdC I (I 50 r.toNat) f)], MW b J2 L)
            have k73 : ¬ ((0 ≤ r ∧ r < 10 ∧ J2 45 r.toNat ≠ 0) ∧ 0 ≤ f ∧ f ≤ 5) := k73
            refine rch_br cdK101 (cd := gdC I (I 50 r.toNat) f = ((-1) : Int)) (t1 := (86, [some (vR 0), some (vI r), some (vI fs), some (vI (I 50 r.toNat)), some (vI f), some (vI (gdC I (I 50 r.toNat) f))], [], MW b J2 L)) (t2 := (59, [some (vR 0), some (vI r), some (vI fs), some (vI (I 50 r.toNat)), some (vI f), some (vI (gdC I (I 50 r.toNat) f))], [], MW b J2 L)) rfl (fun c56_6 => ?_) (fun c56_6 => ?_)
            · refine rch_run cdK101 (by decide) 2 (t' := (12, [some (vR 0), some (vI r), some (vI fs), some (vI (I 50 r.toNat)), some (vI (f + 1)), some (vI (gdC I (I 50 r.toNat) f))], [], MW b J2 L)) (ps := [i32 (f + 1)]) rfl (by simp only [all_, i32, i64]; first | omega | (simp; done) | (simp; omega)) ?_
              refine rch_forget [5] ?_
              show Rch l E 5 101 _ _ _ _ (12, [some (vR 0), some (vI r), some (vI fs), some (vI (I 50 r.toNat)), some (vI (f + 1)), none], [], MW b J2 L)
              exact ih (f + 1) J2 (by omega) (by omega) (by rw [hi9, ← Nat.add_assoc]; exact Ws_no h3 (by rw [hw9]; exact decide_eq_false (fun z => by first | omega | (have z4 := z.2.2.2; have z5 := hbt.mpr (by omega); rw [z4] at z5; exact absurd z5 (by decide)))) g60) (by omega)
            · refine rch_run cdK101 (by decide) 5 (t' := (68, [some (vR 0), some (vI r), some (vI fs), some (vI (I 50 r.toNat)), some (vI f), some (vI (gdC I (I 50 r.toNat) f))], [vI (gdC I (I 50 r.toNat) f), vI f, vI r, vR 66], MW b J2 L)) (ps := []) rfl trivial ?_
              refine rch_call (h' := 1) (k' := 60) (as := [vR 66, vI r, vI f, vI (gdC I (I 50 r.toNat) f)]) (t1 := (71, [some (vR 0), some (vI r), some (vI fs), some (vI (I 50 r.toNat)), some (vI f), some (vI (gdC I (I 50 r.toNat) f))], [], MW b J2 L)) cdK101 rfl (k_has l E b J2 L r f (gdC I (I 50 r.toNat) f) (by omega)) (by decide) mw_le ?_
              rintro rt9 w9 (⟨e9, rfl⟩) _ _
              rw [show J2 67 = I 67 from funext (fun z => by rw [g60 67 z (by omega)]; exact hf9 67 z (by omega)), show J2 68 = I 68 from funext (fun z => by rw [g60 68 z (by omega)]; exact hf9 68 z (by omega)), show J2 69 = I 69 from funext (fun z => by rw [g60 69 z (by omega)]; exact hf9 69 z (by omega)), q66b, q66] at e9
              subst e9
              show Rch l E 5 101 _ _ _ _ (71, [some (vR 0), some (vI r), some (vI fs), some (vI (I 50 r.toNat)), some (vI f), some (vI (gdC I (I 50 r.toNat) f))], [vI (b2i (hasB (I 67) (I 68) (I 69) r f (gdC I (I 50 r.toNat) f) (I 66 0).toNat))], MW b J2 L)
              have hb9 := b2i_01 (hasB (I 67) (I 68) (I 69) r f (gdC I (I 50 r.toNat) f) (I 66 0).toNat)
              have hbt : hasB (I 67) (I 68) (I 69) r f (gdC I (I 50 r.toNat) f) (I 66 0).toNat = true ↔ b2i (hasB (I 67) (I 68) (I 69) r f (gdC I (I 50 r.toNat) f) (I 66 0).toNat) = 1 := by cases hasB (I 67) (I 68) (I 69) r f (gdC I (I 50 r.toNat) f) (I 66 0).toNat <;> decide
              refine rch_br cdK101 (cd := b2i (hasB (I 67) (I 68) (I 69) r f (gdC I (I 50 r.toNat) f) (I 66 0).toNat) ≠ 0) (t1 := (86, [some (vR 0), some (vI r), some (vI fs), some (vI (I 50 r.toNat)), some (vI f), some (vI (gdC I (I 50 r.toNat) f))], [], MW b J2 L)) (t2 := (74, [some (vR 0), some (vI r), some (vI fs), some (vI (I 50 r.toNat)), some (vI f), some (vI (gdC I (I 50 r.toNat) f))], [], MW b J2 L)) rfl (fun c71_7 => ?_) (fun c71_7 => ?_)
              · refine rch_run cdK101 (by decide) 2 (t' := (12, [some (vR 0), some (vI r), some (vI fs), some (vI (I 50 r.toNat)), some (vI (f + 1)), some (vI (gdC I (I 50 r.toNat) f))], [], MW b J2 L)) (ps := [i32 (f + 1)]) rfl (by simp only [all_, i32, i64]; first | omega | (simp; done) | (simp; omega)) ?_
                refine rch_forget [5] ?_
                show Rch l E 5 101 _ _ _ _ (12, [some (vR 0), some (vI r), some (vI fs), some (vI (I 50 r.toNat)), some (vI (f + 1)), none], [], MW b J2 L)
                exact ih (f + 1) J2 (by omega) (by omega) (by rw [hi9, ← Nat.add_assoc]; exact Ws_no h3 (by rw [hw9]; exact decide_eq_false (fun z => by first | omega | (have z4 := z.2.2.2; have z5 := hbt.mpr (by omega); rw [z4] at z5; exact absurd z5 (by decide)))) g60) (by omega)
              · refine rch_run cdK101 (by decide) 5 (t' := (83, [some (vR 0), some (vI r), some (vI fs), some (vI (I 50 r.toNat)), some (vI f), some (vI (gdC I (I 50 r.toNat) f))], [vI (gdC I (I 50 r.toNat) f), vI f, vI r, vR 70], MW b J2 L)) (ps := []) rfl trivial ?_
                refine rch_call (h' := 1) (k' := 59) (as := [vR 70, vI r, vI f, vI (gdC I (I 50 r.toNat) f)]) (t1 := (86, [some (vR 0), some (vI r), some (vI fs), some (vI (I 50 r.toNat)), some (vI f), some (vI (gdC I (I 50 r.toNat) f))], [], MW b J2 L)) cdK101 rfl (k_wishes_add l E b J2 L r f (gdC I (I 50 r.toNat) f) (by show 0 ≤ J2 70 0 ∧ J2 70 0 ≤ 60; omega)) (by decide) mw_le ?_
                rintro rt9 w9 (⟨k75, rfl, rfl⟩ | ⟨k75, rfl, rfl⟩) _ _
                · show Rch l E 5 101 _ _ _ _ (86, [some (vR 0), some (vI r), some (vI fs), some (vI (I 50 r.toNat)), some (vI f), some (vI (gdC I (I 50 r.toNat) f))], [], MW b (upI (upI (upI (upI J2 71 (J2 70 0).toNat r) 72 (J2 70 0).toNat f) 73 (J2 70 0).toNat (gdC I (I 50 r.toNat) f)) 70 0 ((J2 70 0) + 1)) L)
                  have k75 : J2 70 0 < 60 := k75
                  refine rch_run cdK101 (by decide) 2 (t' := (12, [some (vR 0), some (vI r), some (vI fs), some (vI (I 50 r.toNat)), some (vI (f + 1)), some (vI (gdC I (I 50 r.toNat) f))], [], MW b (upI (upI (upI (upI J2 71 (J2 70 0).toNat r) 72 (J2 70 0).toNat f) 73 (J2 70 0).toNat (gdC I (I 50 r.toNat) f)) 70 0 ((J2 70 0) + 1)) L)) (ps := [i32 (f + 1)]) rfl (by simp only [all_, i32, i64]; first | omega | (simp; done) | (simp; omega)) ?_
                  refine rch_forget [5] ?_
                  show Rch l E 5 101 _ _ _ _ (12, [some (vR 0), some (vI r), some (vI fs), some (vI (I 50 r.toNat)), some (vI (f + 1)), none], [], MW b (upI (upI (upI (upI J2 71 (J2 70 0).toNat r) 72 (J2 70 0).toNat f) 73 (J2 70 0).toNat (gdC I (I 50 r.toNat) f)) 70 0 ((J2 70 0) + 1)) L)
                  have hqt : wQ I s (6 * r.toNat + f.toNat) = true := by
                    rw [hw9]
                    refine decide_eq_true ⟨by omega, by omega, by omega, ?_⟩
                    cases hbz : hasB (I 67) (I 68) (I 69) r f (gdC I (I 50 r.toNat) f) (I 66 0).toNat
                    · rfl
                    · have := hbt.mp hbz; omega
                  exact ih (f + 1) _ (by omega) (by omega) (by rw [hi9, ← Nat.add_assoc]; exact Ws_yes h3 hqt g60 (by rw [(hc9 (by omega)).1]; omega) (by rw [(hc9 (by omega)).2]; omega) (by rw [(hc9 (by omega)).1, (hc9 (by omega)).2, show ((f.toNat : Nat) : Int) = f by omega]) rfl) (by omega)
                · show Rch l E 5 101 _ _ _ _ (86, [some (vR 0), some (vI r), some (vI fs), some (vI (I 50 r.toNat)), some (vI f), some (vI (gdC I (I 50 r.toNat) f))], [], MW b J2 L)
                  have k75 : ¬ (J2 70 0 < 60) := k75
                  refine rch_run cdK101 (by decide) 2 (t' := (12, [some (vR 0), some (vI r), some (vI fs), some (vI (I 50 r.toNat)), some (vI (f + 1)), some (vI (gdC I (I 50 r.toNat) f))], [], MW b J2 L)) (ps := [i32 (f + 1)]) rfl (by simp only [all_, i32, i64]; first | omega | (simp; done) | (simp; omega)) ?_
                  refine rch_forget [5] ?_
                  show Rch l E 5 101 _ _ _ _ (12, [some (vR 0), some (vI r), some (vI fs), some (vI (I 50 r.toNat)), some (vI (f + 1)), none], [], MW b J2 L)
                  exact ih (f + 1) J2 (by omega) (by omega) (by rw [hi9, ← Nat.add_assoc]; exact Ws_no h3 (by rw [hw9]; exact decide_eq_false (fun z => by first | omega | (have z4 := z.2.2.2; have z5 := hbt.mpr (by omega); rw [z4] at z5; exact absurd z5 (by decide)))) g60) (by omega)

theorem k_lwo (l : Launch) (E : AX) (b : Bool) (I J0 L : Nat → Nat → Int) (s r fs : Int) (hK : LwK I) (hr : (0 ≤ r ∧ r < 10) ∧ r < I 17 0) (hs : 0 ≤ s ∧ s < 6) (h18 : I 18 r.toNat = s) (h45 : I 45 r.toNat ≠ 0) (hfs : fs = I 16 s.toNat) (hW : WsL I J0 s (6 * r.toNat)) : Con l E 5 101 [vR 0, vI r, vI fs] (MW b J0 L) 0 0 (fun rt w => ∃ J, rt = none ∧ w = MW b J L ∧ WsL I J s (6 * (r.toNat + 1))) := by
  refine con_ok (fun hw9 hs9 => ?_)
  refine con_intro (by decide) (Nat.le_of_ble_eq_true rfl) ?_
  show Rch l E 5 101 _ _ _ _ (0, [some (vR 0), some (vI r), some (vI fs), none, none, none], [], MW b J0 L)
  refine rch_run cdK101 (by decide) 3 (t' := (5, [some (vR 0), some (vI r), some (vI fs), none, none, none], [vI r, vR 49], MW b J0 L)) (ps := []) rfl trivial ?_
  refine rch_call (h' := 1) (k' := 20) (as := [vR 49, vI r]) (t1 := (8, [some (vR 0), some (vI r), some (vI fs), none, none, none], [], MW b J0 L)) cdK101 rfl (k_X3_personOf l E b J0 L r ) (by decide) mw_le ?_
  rintro rt9 w9 (⟨k76, rfl, rfl⟩ | ⟨k76, rfl, rfl⟩) _ _
  · show Rch l E 5 101 _ _ _ _ (8, [some (vR 0), some (vI r), some (vI fs), none, none, none], [vI (J0 50 r.toNat)], MW b J0 L)
    have k76 : 0 ≤ r ∧ r < 10 := k76
    refine rch_run cdK101 (by decide) 3 (t' := (12, [some (vR 0), some (vI r), some (vI fs), some (vI (J0 50 r.toNat)), some (vI 0), none], [], MW b J0 L)) (ps := []) rfl trivial ?_
    have q50 : J0 50 r.toNat = I 50 r.toNat := hW.1 50 r.toNat (by omega)
    rw [q50]
    exact lp_lwo l E b I J0 L s r fs hK hr hs h18 h45 hfs 7 0 J0 (by omega) (by omega) (by simpa using hW) (by omega)
  · show Rch l E 5 101 _ _ _ _ (8, [some (vR 0), some (vI r), some (vI fs), none, none, none], [vI (-1)], MW b J0 L)
    have k76 : ¬ (0 ≤ r ∧ r < 10) := k76
    refine rch_run cdK101 (by decide) 3 (t' := (12, [some (vR 0), some (vI r), some (vI fs), some (vI (-1)), some (vI 0), none], [], MW b J0 L)) (ps := []) rfl trivial ?_
    exfalso; omega
