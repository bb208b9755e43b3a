theorem lp_scoreOf (l : Launch) (E : AX) (b : Bool) (I L : Nat → Nat → Int) (p q d k : Int) (hp : (0 ≤ p ∧ p < 10) ∧ 0 ≤ q ∧ q < 10) (hB : MBK I) (hM : VMK I) : ∀ (n9 : Nat) (i s : Int) (J : Nat → Nat → Int), 0 ≤ i → i ≤ I 74 20 → (∀ a i, a ≠ 99 → J a i = I a i) → s = msm I p q d k i.toNat → I 74 20 - i < (n9 : Int) → Rch l E 4 140 (MW b I L) 0 0 (fun rt w => ∃ J, w = MW b J L ∧ (∀ a i, a ≠ 99 → J a i = I a i) ∧ rt = some (vI (msm I p q d k (I 74 20).toNat))) (6, [some (vR 74), some (vI p), some (vI q), some (vI d), some (vI k), some (vI s), some (vI i)], [], MW b J L) := by
  intro n9
  induction n9 with
  | zero =>
    intro i s J h1 h2 h3 h4 hm
    exfalso; omega
  | succ n9 ih =>
    intro i s J h1 h2 h3 h4 hm
    have hN9 := hB.1
    have hr9 := msm_rg hB p q d k i.toNat (by omega)
    rw [← h4] at hr9
    have q20 := h3 74 20 (by omega)
    have hx9 : i < I 74 20 → _ := fun z => hB.2.2 i.toNat (by omega)
    have q91 := h3 91 i.toNat (by omega)
    have hJ : ∀ a, a ≠ 99 → J a = I a := fun a ha => funext (fun z => h3 a z ha)
    have hi9 : (i + 1).toNat = i.toNat + 1 := by omega
    refine rch_run cdK140 (by decide) 3 (t' := (12, [some (vR 74), some (vI p), some (vI q), some (vI d), some (vI k), some (vI s), some (vI i)], [vI (J 74 20), vI i], MW b J L)) (ps := []) rfl trivial ?_
    refine rch_br cdK140 (cd := J 74 20 ≤ i) (t1 := (51, [some (vR 74), some (vI p), some (vI q), some (vI d), some (vI k), some (vI s), some (vI i)], [], MW b J L)) (t2 := (15, [some (vR 74), some (vI p), some (vI q), some (vI d), some (vI k), some (vI s), some (vI i)], [], MW b J L)) rfl (fun c12_1 => ?_) (fun c12_1 => ?_)
    · refine rch_run cdK140 (by decide) 1 (t' := (53, [some (vR 74), some (vI p), some (vI q), some (vI d), some (vI k), some (vI s), some (vI i)], [vI s], MW b J L)) (ps := []) rfl trivial ?_
      refine rch_ret cdK140 (rt := some (vI s)) rfl trivial mw_c ?_
      exact ⟨J, rfl, h3, by rw [h4, show i.toNat = (I 74 20).toNat by omega]⟩
    · refine rch_run cdK140 (by decide) 7 (t' := (25, [some (vR 74), some (vI p), some (vI q), some (vI d), some (vI k), some (vI s), some (vI i)], [vI k, vI d, vI q, vI p, vI i, vR 74, vI s], MW b J L)) (ps := []) rfl trivial ?_
      refine rch_call (h' := 3) (k' := 139) (as := [vR 74, vI i, vI p, vI q, vI d, vI k]) (t1 := (28, [some (vR 74), some (vI p), some (vI q), some (vI d), some (vI k), some (vI s), some (vI i)], [vI s], MW b J L)) cdK140 rfl (k_holds l E b J L i p q d k (by omega) hp (by rw [h3 74 5 (by omega)]; exact hM.1) (by rw [hJ 90 (by decide), hi9]; exact (hx9 (by omega)).1) (by rw [hJ 90 (by decide), hJ 87 (by decide), hi9]; exact (hx9 (by omega)).2.1) (by rw [hJ 90 (by decide), hJ 87 (by decide), hi9]; exact (hx9 (by omega)).2.2.2) (fun f => by rw [hJ 81 (by decide), hJ 82 (by decide), hJ 83 (by decide), hJ 84 (by decide), hJ 85 (by decide), h3 74 5 (by omega)]; exact ⟨vo_rg hM _ _ _ _, vo_rg hM _ _ _ _⟩)) (by decide) mw_le ?_
      rintro rt9 w9 (⟨J2, rfl, f2, e9⟩) _ _
      have e8 : rt9 = some (vI (b2i (mhl J p q d k i.toNat))) := by rw [e9, hi9]; rfl
      have e7 : mhl J p q d k i.toNat = mhl I p q d k i.toNat := by unfold mhl mTst; rw [hJ 90 (by decide), hJ 87 (by decide), hJ 89 (by decide), hJ 88 (by decide), hJ 78 (by decide), hJ 81 (by decide), hJ 82 (by decide), hJ 83 (by decide), hJ 84 (by decide), hJ 85 (by decide), h3 74 5 (by omega)]
      rw [e7] at e8
      subst e8
      show Rch l E 4 140 _ _ _ _ (28, [some (vR 74), some (vI p), some (vI q), some (vI d), some (vI k), some (vI s), some (vI i)], [vI (b2i (mhl I p q d k i.toNat)), vI s], MW b J2 L)
      have q91b := f2 91 i.toNat (by omega)
      have hz9 : mhl I p q d k i.toNat = true ∨ mhl I p q d k i.toNat = false := by cases mhl I p q d k i.toNat <;> simp
      have hz1 := b2i_01 (mhl I p q d k i.toNat)
      have hx8 := (hx9 (by omega)).2.2.1
      refine rch_br cdK140 (cd := b2i (mhl I p q d k i.toNat) = 0) (t1 := (41, [some (vR 74), some (vI p), some (vI q), some (vI d), some (vI k), some (vI s), some (vI i)], [vI s], MW b J2 L)) (t2 := (31, [some (vR 74), some (vI p), some (vI q), some (vI d), some (vI k), some (vI s), some (vI i)], [vI s], MW b J2 L)) rfl (fun c28_2 => ?_) (fun c28_2 => ?_)
      · refine rch_run cdK140 (by decide) 5 (t' := (6, [some (vR 74), some (vI p), some (vI q), some (vI d), some (vI k), some (vI (s + 0)), some (vI (i + 1))], [], MW b J2 L)) (ps := [i32 (s + 0), i32 (i + 1)]) rfl (by (try have hx8 := (hx9 (by omega)).2.2.1); simp only [all_, i32, i64]; first | omega | (simp; done) | (simp; omega)) ?_
        refine ih (i + 1) _ J2 (by omega) (by omega) (fun a z hz => by rw [f2 a z hz]; exact h3 a z hz) ?_ (by omega)
        rw [hi9]
        show _ = msm I p q d k i.toNat + if mhl I p q d k i.toNat = true then I 91 i.toNat else 0
        rcases hz9 with z | z
        · first | (rw [if_pos z, ← h4, ← q91, ← q91b]; done) | (rw [if_pos z, ← h4, q91b, q91]; done) | (have z9 : b2i (mhl I p q d k i.toNat) = 1 := (by rw [z]; rfl); exfalso; omega)
        · first | (rw [if_neg (by rw [z]; decide), ← h4]; done) | (have z9 : b2i (mhl I p q d k i.toNat) = 0 := (by rw [z]; rfl); exfalso; omega)
      · refine rch_run cdK140 (by decide) 9 (t' := (6, [some (vR 74), some (vI p), some (vI q), some (vI d), some (vI k), some (vI (s + (J2 91 i.toNat))), some (vI (i + 1))], [], MW b J2 L)) (ps := [0 ≤ i ∧ i < ((10 : Nat) : Int), i32 (s + (J2 91 i.toNat)), i32 (i + 1)]) rfl (by (try have hx8 := (hx9 (by omega)).2.2.1); simp only [all_, i32, i64]; first | omega | (simp; done) | (simp; omega)) ?_
        refine ih (i + 1) _ J2 (by omega) (by omega) (fun a z hz => by rw [f2 a z hz]; exact h3 a z hz) ?_ (by omega)
        rw [hi9]
        show _ = msm I p q d k i.toNat + if mhl I p q d k i.toNat = true then I 91 i.toNat else 0
        rcases hz9 with z | z
        · first | (rw [if_pos z, ← h4, ← q91, ← q91b]; done) | (rw [if_pos z, ← h4, q91b, q91]; done) | (have z9 : b2i (mhl I p q d k i.toNat) = 1 := (by rw [z]; rfl); exfalso; omega)
        · first | (rw [if_neg (by rw [z]; decide), ← h4]; done) | (have z9 : b2i (mhl I p q d k i.toNat) = 0 := (by rw [z]; rfl); exfalso; omega)

theorem k_scoreOf (l : Launch) (E : AX) (b : Bool) (I L : Nat → Nat → Int) (p q d k : Int) (hp : (0 ≤ p ∧ p < 10) ∧ 0 ≤ q ∧ q < 10) (hB : MBK I) (hM : VMK I) : Con l E 4 140 [vR 74, vI p, vI q, vI d, vI k] (MW b I L) 0 0 (fun rt w => ∃ J, w = MW b J L ∧ (∀ a i, a ≠ 99 → J a i = I a i) ∧ rt = some (vI (msm I p q d k (I 74 20).toNat))) := by
  refine con_ok (fun hw9 hs9 => ?_)
  refine con_intro (by decide) (Nat.le_of_ble_eq_true rfl) ?_
  show Rch l E 4 140 _ _ _ _ (0, [some (vR 74), some (vI p), some (vI q), some (vI d), some (vI k), none, none], [], MW b I L)
  refine rch_run cdK140 (by decide) 4 (t' := (6, [some (vR 74), some (vI p), some (vI q), some (vI d), some (vI k), some (vI 0), some (vI 0)], [], MW b I L)) (ps := []) rfl trivial ?_
  exact lp_scoreOf l E b I L p q d k hp hB hM 11 0 0 I (by omega) hB.1.1 (fun _ _ _ => rfl) rfl (by have := hB.1; omega)

theorem k_X12_score (l : Launch) (E : AX) (b : Bool) (I L : Nat → Nat → Int) (p q d k : Int) (hn : 0 ≤ I 74 4 ∧ I 74 4 ≤ 10) (hB : MBK I) (hM : VMK I) : Con l E 5 141 [vR 74, vI p, vI q, vI d, vI k] (MW b I L) 0 0 (fun rt w => ∃ J, w = MW b J L ∧ (∀ a i, a ≠ 99 → J a i = I a i) ∧ (((p ≠ q ∧ (0 ≤ p ∧ p < I 74 4 ∧ I 80 p.toNat = 0 ∧ I 79 p.toNat ≤ k) ∧ (0 ≤ q ∧ q < I 74 4 ∧ I 80 q.toNat = 0 ∧ I 79 q.toNat ≤ k)) ∧ rt = some (vI (msm I p q d k (I 74 20).toNat))) ∨ (¬ (p ≠ q ∧ (0 ≤ p ∧ p < I 74 4 ∧ I 80 p.toNat = 0 ∧ I 79 p.toNat ≤ k) ∧ (0 ≤ q ∧ q < I 74 4 ∧ I 80 q.toNat = 0 ∧ I 79 q.toNat ≤ k)) ∧ rt = some (vI 0)))) := by
  refine con_ok (fun hw9 hs9 => ?_)
  refine con_intro (by decide) (Nat.le_of_ble_eq_true rfl) ?_
  show Rch l E 5 141 _ _ _ _ (0, [some (vR 74), some (vI p), some (vI q), some (vI d), some (vI k)], [], MW b I L)
  refine rch_run cdK141 (by decide) 2 (t' := (2, [some (vR 74), some (vI p), some (vI q), some (vI d), some (vI k)], [vI q, vI p], MW b I L)) (ps := []) rfl trivial ?_
  refine rch_br cdK141 (cd := p = q) (t1 := (37, [some (vR 74), some (vI p), some (vI q), some (vI d), some (vI k)], [], MW b I L)) (t2 := (5, [some (vR 74), some (vI p), some (vI q), some (vI d), some (vI k)], [], MW b I L)) rfl (fun c2_1 => ?_) (fun c2_1 => ?_)
  · refine rch_run cdK141 (by decide) 1 (t' := (38, [some (vR 74), some (vI p), some (vI q), some (vI d), some (vI k)], [vI 0], MW b I L)) (ps := []) rfl trivial ?_
    refine rch_ret cdK141 (rt := some (vI 0)) rfl trivial mw_c ?_
    exact ⟨I, rfl, fun _ _ _ => rfl, by first | exact Or.inl ⟨by omega, rfl⟩ | exact Or.inr ⟨by omega, rfl⟩⟩
  · refine rch_run cdK141 (by decide) 3 (t' := (9, [some (vR 74), some (vI p), some (vI q), some (vI d), some (vI k)], [vI k, vI p, vR 74], MW b I L)) (ps := []) rfl trivial ?_
    refine rch_call (h' := 2) (k' := 110) (as := [vR 74, vI p, vI k]) (t1 := (12, [some (vR 74), some (vI p), some (vI q), some (vI d), some (vI k)], [], MW b I L)) cdK141 rfl (k_X12_isThere l E b I L p k (by show I 74 4 ≤ 10; omega)) (by decide) mw_le ?_
    rintro rt9 w9 (⟨k48, rfl, rfl⟩ | ⟨k48, rfl, rfl⟩) _ _
    · show Rch l E 5 141 _ _ _ _ (12, [some (vR 74), some (vI p), some (vI q), some (vI d), some (vI k)], [vI 1], MW b I L)
      have k48 : (0 ≤ p ∧ p < I 74 4 ∧ I 80 p.toNat = 0) ∧ I 79 p.toNat ≤ k := k48
      refine rch_br cdK141 (cd := (1 : Int) = 0) (t1 := (37, [some (vR 74), some (vI p), some (vI q), some (vI d), some (vI k)], [], MW b I L)) (t2 := (15, [some (vR 74), some (vI p), some (vI q), some (vI d), some (vI k)], [], MW b I L)) rfl (fun c9 => absurd c9 (by decide)) (fun _ => ?_)
      refine rch_run cdK141 (by decide) 3 (t' := (19, [some (vR 74), some (vI p), some (vI q), some (vI d), some (vI k)], [vI k, vI q, vR 74], MW b I L)) (ps := []) rfl trivial ?_
      refine rch_call (h' := 2) (k' := 110) (as := [vR 74, vI q, vI k]) (t1 := (22, [some (vR 74), some (vI p), some (vI q), some (vI d), some (vI k)], [], MW b I L)) cdK141 rfl (k_X12_isThere l E b I L q k (by show I 74 4 ≤ 10; omega)) (by decide) mw_le ?_
      rintro rt9 w9 (⟨k49, rfl, rfl⟩ | ⟨k49, rfl, rfl⟩) _ _
      · show Rch l E 5 141 _ _ _ _ (22, [some (vR 74), some (vI p), some (vI q), some (vI d), some (vI k)], [vI 1], MW b I L)
        have k49 : (0 ≤ q ∧ q < I 74 4 ∧ I 80 q.toNat = 0) ∧ I 79 q.toNat ≤ k := k49
        refine rch_br cdK141 (cd := (1 : Int) = 0) (t1 := (37, [some (vR 74), some (vI p), some (vI q), some (vI d), some (vI k)], [], MW b I L)) (t2 := (25, [some (vR 74), some (vI p), some (vI q), some (vI d), some (vI k)], [], MW b I L)) rfl (fun c9 => absurd c9 (by decide)) (fun _ => ?_)
        refine rch_run cdK141 (by decide) 5 (t' := (31, [some (vR 74), some (vI p), some (vI q), some (vI d), some (vI k)], [vI k, vI d, vI q, vI p, vR 74], MW b I L)) (ps := []) rfl trivial ?_
        refine rch_call (h' := 4) (k' := 140) (as := [vR 74, vI p, vI q, vI d, vI k]) (t1 := (34, [some (vR 74), some (vI p), some (vI q), some (vI d), some (vI k)], [], MW b I L)) cdK141 rfl (k_scoreOf l E b I L p q d k (by omega) hB hM) (by decide) mw_le ?_
        rintro rt9 w9 (⟨J2, rfl, f2, rfl⟩) _ _
        show Rch l E 5 141 _ _ _ _ (34, [some (vR 74), some (vI p), some (vI q), some (vI d), some (vI k)], [vI (msm I p q d k (I 74 20).toNat)], MW b J2 L)
        refine rch_run cdK141 (by decide) 1 (t' := (38, [some (vR 74), some (vI p), some (vI q), some (vI d), some (vI k)], [vI (msm I p q d k (I 74 20).toNat)], MW b J2 L)) (ps := []) rfl trivial ?_
        refine rch_ret cdK141 (rt := some (vI (msm I p q d k (I 74 20).toNat))) rfl trivial mw_c ?_
        exact ⟨J2, rfl, f2, by first | exact Or.inl ⟨by omega, rfl⟩ | exact Or.inr ⟨by omega, rfl⟩⟩
      · show Rch l E 5 141 _ _ _ _ (22, [some (vR 74), some (vI p), some (vI q), some (vI d), some (vI k)], [vI 0], MW b I L)
        have k49 : ¬ ((0 ≤ q ∧ q < I 74 4 ∧ I 80 q.toNat = 0) ∧ I 79 q.toNat ≤ k) := k49
        refine rch_br cdK141 (cd := (0 : Int) = 0) (t1 := (37, [some (vR 74), some (vI p), some (vI q), some (vI d), some (vI k)], [], MW b I L)) (t2 := (25, [some (vR 74), some (vI p), some (vI q), some (vI d), some (vI k)], [], MW b I L)) rfl (fun _ => ?_) (fun c9 => absurd (by decide) c9)
        refine rch_run cdK141 (by decide) 1 (t' := (38, [some (vR 74), some (vI p), some (vI q), some (vI d), some (vI k)], [vI 0], MW b I L)) (ps := []) rfl trivial ?_
        refine rch_ret cdK141 (rt := some (vI 0)) rfl trivial mw_c ?_
        exact ⟨I, rfl, fun _ _ _ => rfl, by first | exact Or.inl ⟨by omega, rfl⟩ | exact Or.inr ⟨by omega, rfl⟩⟩
    · show Rch l E 5 141 _ _ _ _ (12, [some (vR 74), some (vI p), some (vI q), some (vI d), some (vI k)], [vI 0], MW b I L)
      have k48 : ¬ ((0 ≤ p ∧ p < I 74 4 ∧ I 80 p.toNat = 0) ∧ I 79 p.toNat ≤ k) := k48
      refine rch_br cdK141 (cd := (0 : Int) = 0) (t1 := (37, [some (vR 74), some (vI p), some (vI q), some (vI d), some (vI k)], [], MW b I L)) (t2 := (15, [some (vR 74), some (vI p), some (vI q), some (vI d), some (vI k)], [], MW b I L)) rfl (fun _ => ?_) (fun c9 => absurd (by decide) c9)
      refine rch_run cdK141 (by decide) 1 (t' := (38, [some (vR 74), some (vI p), some (vI q), some (vI d), some (vI k)], [vI 0], MW b I L)) (ps := []) rfl trivial ?_
      refine rch_ret cdK141 (rt := some (vI 0)) rfl trivial mw_c ?_
      exact ⟨I, rfl, fun _ _ _ => rfl, by first | exact Or.inl ⟨by omega, rfl⟩ | exact Or.inr ⟨by omega, rfl⟩⟩

theorem k_X11_score_f (l : Launch) (E : AX) (I L : Nat → Nat → Int) (p q d k : Int) (hP : POK 1 I) : Con l E 4 74 [vR 0, vI p, vI q, vI d, vI k] (MW false I L) 0 0 (fun rt w => ∃ J, w = MW false J L ∧ LookR I J d k ∧ (((p ≠ q ∧ (0 ≤ p ∧ p < 10 ∧ J 45 p.toNat ≠ 0) ∧ (0 ≤ q ∧ q < 10 ∧ J 45 q.toNat ≠ 0)) ∧ rt = some (vI (csc J 1 p q))) ∨ (¬ (p ≠ q ∧ (0 ≤ p ∧ p < 10 ∧ J 45 p.toNat ≠ 0) ∧ (0 ≤ q ∧ q < 10 ∧ J 45 q.toNat ≠ 0)) ∧ rt = some (vI 0)))) := by
  refine con_ok (fun hw9 hs9 => ?_)
  refine con_intro (by decide) (Nat.le_of_ble_eq_true rfl) ?_
  show Rch l E 4 74 _ _ _ _ (0, [some (vR 0), some (vI p), some (vI q), some (vI d), some (vI k)], [], MW false I L)
  refine rch_run cdK74 (by decide) 3 (t' := (4, [some (vR 0), some (vI p), some (vI q), some (vI d), some (vI k)], [vI k, vI d, vR 0], MW false I L)) (ps := []) rfl trivial ?_
  refine rch_call (h' := 3) (k' := 93) (as := [vR 0, vI d, vI k]) (t1 := (7, [some (vR 0), some (vI p), some (vI q), some (vI d), some (vI k)], [], MW false I L)) cdK74 rfl (k_X11_look l E false I L d k hP.1) (by decide) mw_le ?_
  rintro rt9 w9 (⟨J1, rfl, rfl, t1⟩) _ _
  show Rch l E 4 74 _ _ _ _ (7, [some (vR 0), some (vI p), some (vI q), some (vI d), some (vI k)], [], MW false J1 L)
  have hJ := POK_J (bk := 1) (by omega) hP t1
  refine rch_run cdK74 (by decide) 2 (t' := (9, [some (vR 0), some (vI p), some (vI q), some (vI d), some (vI k)], [vI q, vI p], MW false J1 L)) (ps := []) rfl trivial ?_
  refine rch_br cdK74 (cd := p = q) (t1 := (34, [some (vR 0), some (vI p), some (vI q), some (vI d), some (vI k)], [], MW false J1 L)) (t2 := (12, [some (vR 0), some (vI p), some (vI q), some (vI d), some (vI k)], [], MW false J1 L)) rfl (fun c9_1 => ?_) (fun c9_1 => ?_)
  · refine rch_run cdK74 (by decide) 1 (t' := (35, [some (vR 0), some (vI p), some (vI q), some (vI d), some (vI k)], [vI 0], MW false J1 L)) (ps := []) rfl trivial ?_
    refine rch_ret cdK74 (rt := some (vI 0)) rfl trivial mw_c ?_
    exact ⟨J1, rfl, t1, by first | exact Or.inl ⟨by omega, rfl⟩ | exact Or.inr ⟨by omega, rfl⟩⟩
  · refine rch_run cdK74 (by decide) 3 (t' := (17, [some (vR 0), some (vI p), some (vI q), some (vI d), some (vI k)], [vI p, vR 44], MW false J1 L)) (ps := []) rfl trivial ?_
    refine rch_call (h' := 1) (k' := 36) (as := [vR 44, vI p]) (t1 := (20, [some (vR 0), some (vI p), some (vI q), some (vI d), some (vI k)], [], MW false J1 L)) cdK74 rfl (k_X5_isThere l E false J1 L p ) (by decide) mw_le ?_
    rintro rt9 w9 (⟨k50, rfl, rfl⟩ | ⟨k50, rfl, rfl⟩) _ _
    · show Rch l E 4 74 _ _ _ _ (20, [some (vR 0), some (vI p), some (vI q), some (vI d), some (vI k)], [vI 1], MW false J1 L)
      have k50 : 0 ≤ p ∧ p < 10 ∧ J1 45 p.toNat ≠ 0 := k50
      refine rch_br cdK74 (cd := (1 : Int) = 0) (t1 := (34, [some (vR 0), some (vI p), some (vI q), some (vI d), some (vI k)], [], MW false J1 L)) (t2 := (23, [some (vR 0), some (vI p), some (vI q), some (vI d), some (vI k)], [], MW false J1 L)) rfl (fun c9 => absurd c9 (by decide)) (fun _ => ?_)
      refine rch_run cdK74 (by decide) 3 (t' := (28, [some (vR 0), some (vI p), some (vI q), some (vI d), some (vI k)], [vI q, vR 44], MW false J1 L)) (ps := []) rfl trivial ?_
      refine rch_call (h' := 1) (k' := 36) (as := [vR 44, vI q]) (t1 := (31, [some (vR 0), some (vI p), some (vI q), some (vI d), some (vI k)], [], MW false J1 L)) cdK74 rfl (k_X5_isThere l E false J1 L q ) (by decide) mw_le ?_
      rintro rt9 w9 (⟨k51, rfl, rfl⟩ | ⟨k51, rfl, rfl⟩) _ _
      · show Rch l E 4 74 _ _ _ _ (31, [some (vR 0), some (vI p), some (vI q), some (vI d), some (vI k)], [vI 1], MW false J1 L)
        have k51 : 0 ≤ q ∧ q < 10 ∧ J1 45 q.toNat ≠ 0 := k51
        refine rch_br cdK74 (cd := (1 : Int) ≠ 0) (t1 := (36, [some (vR 0), some (vI p), some (vI q), some (vI d), some (vI k)], [], MW false J1 L)) (t2 := (34, [some (vR 0), some (vI p), some (vI q), some (vI d), some (vI k)], [], MW false J1 L)) rfl (fun _ => ?_) (fun c9 => absurd (by decide) c9)
        refine rch_run cdK74 (by decide) 8 (t' := (50, [some (vR 0), some (vI p), some (vI q), some (vI d), some (vI k)], [vI q, vI p, vR 17, vR 44, vR 1], MW false J1 L)) (ps := []) rfl trivial ?_
        refine rch_call (h' := 3) (k' := 4) (as := [vR 1, vR 44, vR 17, vI p, vI q]) (t1 := (53, [some (vR 0), some (vI p), some (vI q), some (vI d), some (vI k)], [], MW false J1 L)) cdK74 rfl (k_sum_1 l E false J1 L p q (by omega) hJ.2.2.2.1 (SG_vals hJ.2.2.2.2 hJ.1 hJ.2.1)) (by decide) mw_le ?_
        rintro rt9 w9 (⟨rfl, rfl⟩) _ _
        show Rch l E 4 74 _ _ _ _ (53, [some (vR 0), some (vI p), some (vI q), some (vI d), some (vI k)], [vI (csc J1 1 p q)], MW false J1 L)
        refine rch_ret cdK74 (rt := some (vI (csc J1 1 p q))) rfl trivial mw_c ?_
        exact ⟨J1, rfl, t1, by first | exact Or.inl ⟨by omega, rfl⟩ | exact Or.inr ⟨by omega, rfl⟩⟩
      · show Rch l E 4 74 _ _ _ _ (31, [some (vR 0), some (vI p), some (vI q), some (vI d), some (vI k)], [vI 0], MW false J1 L)
        have k51 : ¬ (0 ≤ q ∧ q < 10 ∧ J1 45 q.toNat ≠ 0) := k51
        refine rch_br cdK74 (cd := (0 : Int) ≠ 0) (t1 := (36, [some (vR 0), some (vI p), some (vI q), some (vI d), some (vI k)], [], MW false J1 L)) (t2 := (34, [some (vR 0), some (vI p), some (vI q), some (vI d), some (vI k)], [], MW false J1 L)) rfl (fun c9 => absurd c9 (by decide)) (fun _ => ?_)
        refine rch_run cdK74 (by decide) 1 (t' := (35, [some (vR 0), some (vI p), some (vI q), some (vI d), some (vI k)], [vI 0], MW false J1 L)) (ps := []) rfl trivial ?_
        refine rch_ret cdK74 (rt := some (vI 0)) rfl trivial mw_c ?_
        exact ⟨J1, rfl, t1, by first | exact Or.inl ⟨by omega, rfl⟩ | exact Or.inr ⟨by omega, rfl⟩⟩
    · show Rch l E 4 74 _ _ _ _ (20, [some (vR 0), some (vI p), some (vI q), some (vI d), some (vI k)], [vI 0], MW false J1 L)
      have k50 : ¬ (0 ≤ p ∧ p < 10 ∧ J1 45 p.toNat ≠ 0) := k50
      refine rch_br cdK74 (cd := (0 : Int) = 0) (t1 := (34, [some (vR 0), some (vI p), some (vI q), some (vI d), some (vI k)], [], MW false J1 L)) (t2 := (23, [some (vR 0), some (vI p), some (vI q), some (vI d), some (vI k)], [], MW false J1 L)) rfl (fun _ => ?_) (fun c9 => absurd (by decide) c9)
      refine rch_run cdK74 (by decide) 1 (t' := (35, [some (vR 0), some (vI p), some (vI q), some (vI d), some (vI k)], [vI 0], MW false J1 L)) (ps := []) rfl trivial ?_
      refine rch_ret cdK74 (rt := some (vI 0)) rfl trivial mw_c ?_
      exact ⟨J1, rfl, t1, by first | exact Or.inl ⟨by omega, rfl⟩ | exact Or.inr ⟨by omega, rfl⟩⟩

theorem k_X11_score_t (l : Launch) (E : AX) (I L : Nat → Nat → Int) (p q d k : Int) (hP : POK 7 I) : Con l E 4 74 [vR 0, vI p, vI q, vI d, vI k] (MW true I L) 0 0 (fun rt w => ∃ J, w = MW true J L ∧ LookR I J d k ∧ (((p ≠ q ∧ (0 ≤ p ∧ p < 10 ∧ J 45 p.toNat ≠ 0) ∧ (0 ≤ q ∧ q < 10 ∧ J 45 q.toNat ≠ 0)) ∧ rt = some (vI (csc J 7 p q))) ∨ (¬ (p ≠ q ∧ (0 ≤ p ∧ p < 10 ∧ J 45 p.toNat ≠ 0) ∧ (0 ≤ q ∧ q < 10 ∧ J 45 q.toNat ≠ 0)) ∧ rt = some (vI 0)))) := by
  refine con_ok (fun hw9 hs9 => ?_)
  refine con_intro (by decide) (Nat.le_of_ble_eq_true rfl) ?_
  show Rch l E 4 74 _ _ _ _ (0, [some (vR 0), some (vI p), some (vI q), some (vI d), some (vI k)], [], MW true I L)
  refine rch_run cdK74 (by decide) 3 (t' := (4, [some (vR 0), some (vI p), some (vI q), some (vI d), some (vI k)], [vI k, vI d, vR 0], MW true I L)) (ps := []) rfl trivial ?_
  refine rch_call (h' := 3) (k' := 93) (as := [vR 0, vI d, vI k]) (t1 := (7, [some (vR 0), some (vI p), some (vI q), some (vI d), some (vI k)], [], MW true I L)) cdK74 rfl (k_X11_look l E true I L d k hP.1) (by decide) mw_le ?_
  rintro rt9 w9 (⟨J1, rfl, rfl, t1⟩) _ _
  show Rch l E 4 74 _ _ _ _ (7, [some (vR 0), some (vI p), some (vI q), some (vI d), some (vI k)], [], MW true J1 L)
  have hJ := POK_J (bk := 7) (by omega) hP t1
  refine rch_run cdK74 (by decide) 2 (t' := (9, [some (vR 0), some (vI p), some (vI q), some (vI d), some (vI k)], [vI q, vI p], MW true J1 L)) (ps := []) rfl trivial ?_
  refine rch_br cdK74 (cd := p = q) (t1 := (34, [some (vR 0), some (vI p), some (vI q), some (vI d), some (vI k)], [], MW true J1 L)) (t2 := (12, [some (vR 0), some (vI p), some (vI q), some (vI d), some (vI k)], [], MW true J1 L)) rfl (fun c9_1 => ?_) (fun c9_1 => ?_)
  · refine rch_run cdK74 (by decide) 1 (t' := (35, [some (vR 0), some (vI p), some (vI q), some (vI d), some (vI k)], [vI 0], MW true J1 L)) (ps := []) rfl trivial ?_
    refine rch_ret cdK74 (rt := some (vI 0)) rfl trivial mw_c ?_
    exact ⟨J1, rfl, t1, by first | exact Or.inl ⟨by omega, rfl⟩ | exact Or.inr ⟨by omega, rfl⟩⟩
  · refine rch_run cdK74 (by decide) 3 (t' := (17, [some (vR 0), some (vI p), some (vI q), some (vI d), some (vI k)], [vI p, vR 44], MW true J1 L)) (ps := []) rfl trivial ?_
    refine rch_call (h' := 1) (k' := 36) (as := [vR 44, vI p]) (t1 := (20, [some (vR 0), some (vI p), some (vI q), some (vI d), some (vI k)], [], MW true J1 L)) cdK74 rfl (k_X5_isThere l E true J1 L p ) (by decide) mw_le ?_
    rintro rt9 w9 (⟨k52, rfl, rfl⟩ | ⟨k52, rfl, rfl⟩) _ _
    · show Rch l E 4 74 _ _ _ _ (20, [some (vR 0), some (vI p), some (vI q), some (vI d), some (vI k)], [vI 1], MW true J1 L)
      have k52 : 0 ≤ p ∧ p < 10 ∧ J1 45 p.toNat ≠ 0 := k52
      refine rch_br cdK74 (cd := (1 : Int) = 0) (t1 := (34, [some (vR 0), some (vI p), some (vI q), some (vI d), some (vI k)], [], MW true J1 L)) (t2 := (23, [some (vR 0), some (vI p), some (vI q), some (vI d), some (vI k)], [], MW true J1 L)) rfl (fun c9 => absurd c9 (by decide)) (fun _ => ?_)
      refine rch_run cdK74 (by decide) 3 (t' := (28, [some (vR 0), some (vI p), some (vI q), some (vI d), some (vI k)], [vI q, vR 44], MW true J1 L)) (ps := []) rfl trivial ?_
      refine rch_call (h' := 1) (k' := 36) (as := [vR 44, vI q]) (t1 := (31, [some (vR 0), some (vI p), some (vI q), some (vI d), some (vI k)], [], MW true J1 L)) cdK74 rfl (k_X5_isThere l E true J1 L q ) (by decide) mw_le ?_
      rintro rt9 w9 (⟨k53, rfl, rfl⟩ | ⟨k53, rfl, rfl⟩) _ _
      · show Rch l E 4 74 _ _ _ _ (31, [some (vR 0), some (vI p), some (vI q), some (vI d), some (vI k)], [vI 1], MW true J1 L)
        have k53 : 0 ≤ q ∧ q < 10 ∧ J1 45 q.toNat ≠ 0 := k53
        refine rch_br cdK74 (cd := (1 : Int) ≠ 0) (t1 := (36, [some (vR 0), some (vI p), some (vI q), some (vI d), some (vI k)], [], MW true J1 L)) (t2 := (34, [some (vR 0), some (vI p), some (vI q), some (vI d), some (vI k)], [], MW true J1 L)) rfl (fun _ => ?_) (fun c9 => absurd (by decide) c9)
        refine rch_run cdK74 (by decide) 8 (t' := (50, [some (vR 0), some (vI p), some (vI q), some (vI d), some (vI k)], [vI q, vI p, vR 17, vR 44, vR 7], MW true J1 L)) (ps := []) rfl trivial ?_
        refine rch_call (h' := 3) (k' := 4) (as := [vR 7, vR 44, vR 17, vI p, vI q]) (t1 := (53, [some (vR 0), some (vI p), some (vI q), some (vI d), some (vI k)], [], MW true J1 L)) cdK74 rfl (k_sum_7 l E true J1 L p q (by omega) hJ.2.2.2.1 (SG_vals hJ.2.2.2.2 hJ.1 hJ.2.1)) (by decide) mw_le ?_
        rintro rt9 w9 (⟨rfl, rfl⟩) _ _
        show Rch l E 4 74 _ _ _ _ (53, [some (vR 0), some (vI p), some (vI q), some (vI d), some (vI k)], [vI (csc J1 7 p q)], MW true J1 L)
        refine rch_ret cdK74 (rt := some (vI (csc J1 7 p q))) rfl trivial mw_c ?_
        exact ⟨J1, rfl, t1, by first | exact Or.inl ⟨by omega, rfl⟩ | exact Or.inr ⟨by omega, rfl⟩⟩
      · show Rch l E 4 74 _ _ _ _ (31, [some (vR 0), some (vI p), some (vI q), some (vI d), some (vI k)], [vI 0], MW true J1 L)
        have k53 : ¬ (0 ≤ q ∧ q < 10 ∧ J1 45 q.toNat ≠ 0) := k53
        refine rch_br cdK74 (cd := (0 : Int) ≠ 0) (t1 := (36, [some (vR 0), some (vI p), some (vI q), some (vI d), some (vI k)], [], MW true J1 L)) (t2 := (34, [some (vR 0), some (vI p), some (vI q), some (vI d), some (vI k)], [], MW true J1 L)) rfl (fun c9 => absurd c9 (by decide)) (fun _ => ?_)
        refine rch_run cdK74 (by decide) 1 (t' := (35, [some (vR 0), some (vI p), some (vI q), some (vI d), some (vI k)], [vI 0], MW true J1 L)) (ps := []) rfl trivial ?_
        refine rch_ret cdK74 (rt := some (vI 0)) rfl trivial mw_c ?_
        exact ⟨J1, rfl, t1, by first | exact Or.inl ⟨by omega, rfl⟩ | exact Or.inr ⟨by omega, rfl⟩⟩
    · show Rch l E 4 74 _ _ _ _ (20, [some (vR 0), some (vI p), some (vI q), some (vI d), some (vI k)], [vI 0], MW true J1 L)
      have k52 : ¬ (0 ≤ p ∧ p < 10 ∧ J1 45 p.toNat ≠ 0) := k52
      refine rch_br cdK74 (cd := (0 : Int) = 0) (t1 := (34, [some (vR 0), some (vI p), some (vI q), some (vI d), some (vI k)], [], MW true J1 L)) (t2 := (23, [some (vR 0), some (vI p), some (vI q), some (vI d), some (vI k)], [], MW true J1 L)) rfl (fun _ => ?_) (fun c9 => absurd (by decide) c9)
      refine rch_run cdK74 (by decide) 1 (t' := (35, [some (vR 0), some (vI p), some (vI q), some (vI d), some (vI k)], [vI 0], MW true J1 L)) (ps := []) rfl trivial ?_
      refine rch_ret cdK74 (rt := some (vI 0)) rfl trivial mw_c ?_
      exact ⟨J1, rfl, t1, by first | exact Or.inl ⟨by omega, rfl⟩ | exact Or.inr ⟨by omega, rfl⟩⟩
