theorem k_isMet_1 (l : Launch) (E : AX) (b : Bool) (I L : Nat → Nat → Int) (fi be p q : Int) (hb : 0 ≤ fi ∧ fi ≤ be ∧ be ≤ 250) (hp : (0 ≤ p ∧ p < 10) ∧ 0 ≤ q ∧ q < 10) (hw : WFs (I 4) fi.toNat (be - fi).toNat) (hf : ∀ j : Nat, fi ≤ j → (j : Int) < be → 0 ≤ I 5 j ∧ I 5 j ≤ 5) (hv : ∀ c, c < 60 → -1 ≤ I 46 c ∧ I 46 c ≤ 999999) : Con l E 2 5 [vR 1, vI fi, vI be, vR 44, vR 17, vI p, vI q] (MW b I L) 0 0 (fun rt w => rt = some (vI (b2i ((evs (I 4) (fun j => tstB (I 4 j) (I 6 j) (I 46 ((p * 6) + (I 5 j)).toNat) (I 46 ((q * 6) + (I 5 j)).toNat) (I 18 p.toNat) (I 18 q.toNat)) fi.toNat (be - fi).toNat).headD false))) ∧ w = MW b I L) := by
  refine con_ok (fun hw9 hs9 => ?_)
  refine con_intro (by decide) (Nat.le_of_ble_eq_true rfl) ?_
  show Rch l E 2 5 _ _ _ _ (0, [some (vR 1), some (vI fi), some (vI be), some (vR 44), some (vR 17), some (vI p), some (vI q), none, none, none], [], MW b I L)
  refine rch_run rfl (by decide) 4 (t' := (6, [some (vR 1), some (vI fi), some (vI be), some (vR 44), some (vR 17), some (vI p), some (vI q), some (vL 0), none, some (vI fi)], [], MW b I L)) (ps := []) rfl trivial ?_
  exact lp_isMet_1 l E b I L fi be p q hb hp hw hf hv 251 fi [] (by omega) (by omega) (by rw [show (fi - fi).toNat = 0 by omega]; rfl) (by omega)

theorem lp_sum_1 (l : Launch) (E : AX) (b : Bool) (I L : Nat → Nat → Int) (p q : Int) (hp : (0 ≤ p ∧ p < 10) ∧ 0 ≤ q ∧ q < 10) (hB : BOK (I 1 0) (I 4) (I 3) (I 2) (I 5)) (hv : ∀ c, c < 60 → -1 ≤ I 46 c ∧ I 46 c ≤ 999999) : ∀ (n9 : Nat) (i su fi : Int), 0 ≤ i → i ≤ I 1 0 → su = lsm (I 4) (I 3) (I 2) (fun j => tstB (I 4 j) (I 6 j) (I 46 ((p * 6) + (I 5 j)).toNat) (I 46 ((q * 6) + (I 5 j)).toNat) (I 18 p.toNat) (I 18 q.toNat)) i.toNat → fi = sof (I 3) i.toNat → I 1 0 - i < (n9 : Int) → Rch l E 3 4 (MW b I L) 0 0 (fun rt w => rt = some (vI (lsm (I 4) (I 3) (I 2) (fun j => tstB (I 4 j) (I 6 j) (I 46 ((p * 6) + (I 5 j)).toNat) (I 46 ((q * 6) + (I 5 j)).toNat) (I 18 p.toNat) (I 18 q.toNat)) (I 1 0).toNat)) ∧ w = MW b I L) (9, [some (vR 1), some (vR 44), some (vR 17), some (vI p), some (vI q), some (vI su), some (vI fi), some (vI i)], [], MW b I L) := by
  intro n9
  induction n9 with
  | zero =>
    intro i su fi  h1 h2 h3 h4 hm
    exfalso; omega
  | succ n9 ih =>
    intro i su fi  h1 h2 h3 h4 hm
    have hN9 := hB.1
    have hr9 := lsm_rg (fun j => tstB (I 4 j) (I 6 j) (I 46 ((p * 6) + (I 5 j)).toNat) (I 46 ((q * 6) + (I 5 j)).toNat) (I 18 p.toNat) (I 18 q.toNat)) hB i.toNat (by omega)
    rw [← h3] at hr9
    have hk9 : i < I 1 0 → (0 ≤ fi ∧ fi ≤ I 3 i.toNat ∧ I 3 i.toNat ≤ 250) ∧ (-1000 ≤ I 2 i.toNat ∧ I 2 i.toNat ≤ 1000) := fun z => by rw [h4]; exact ⟨(hB.2 i.toNat (by omega)).1, (hB.2 i.toNat (by omega)).2.2.1⟩
    refine rch_run rfl (by decide) 3 (t' := (15, [some (vR 1), some (vR 44), some (vR 17), some (vI p), some (vI q), some (vI su), some (vI fi), some (vI i)], [vI (I 1 0), vI i], MW b I L)) (ps := []) rfl trivial ?_
    refine rch_br rfl (cd := I 1 0 ≤ i) (t1 := (66, [some (vR 1), some (vR 44), some (vR 17), some (vI p), some (vI q), some (vI su), some (vI fi), some (vI i)], [], MW b I L)) (t2 := (18, [some (vR 1), some (vR 44), some (vR 17), some (vI p), some (vI q), some (vI su), some (vI fi), some (vI i)], [], MW b I L)) rfl (fun c15_1 => ?_) (fun c15_1 => ?_)
    · refine rch_run rfl (by decide) 1 (t' := (68, [some (vR 1), some (vR 44), some (vR 17), some (vI p), some (vI q), some (vI su), some (vI fi), some (vI i)], [vI su], MW b I L)) (ps := []) rfl trivial ?_
      refine rch_ret rfl (rt := some (vI su)) rfl trivial mw_c ?_
      exact ⟨by rw [h3, show i.toNat = (I 1 0).toNat by omega], rfl⟩
    · refine rch_run rfl (by decide) 10 (t' := (33, [some (vR 1), some (vR 44), some (vR 17), some (vI p), some (vI q), some (vI su), some (vI fi), some (vI i)], [vI q, vI p, vR 17, vR 44, vI (I 3 i.toNat), vI fi, vR 1], MW b I L)) (ps := [0 ≤ i ∧ i < ((10 : Nat) : Int)]) rfl (by (try have hk9 := hk9 (by omega)); simp only [all_, i32, i64]; first | omega | (simp; done) | (simp; omega)) ?_
      refine rch_call (h' := 2) (k' := 5) (as := [vR 1, vI fi, vI (I 3 i.toNat), vR 44, vR 17, vI p, vI q]) (t1 := (36, [some (vR 1), some (vR 44), some (vR 17), some (vI p), some (vI q), some (vI su), some (vI fi), some (vI i)], [], MW b I L)) rfl rfl (k_isMet_1 l E b I L fi (I 3 i.toNat) p q (by have := hk9 (by omega); omega) hp (by have := (hB.2 i.toNat (by omega)).2.1; rw [← h4] at this; exact this) (by have := (hB.2 i.toNat (by omega)).2.2.2; rw [← h4] at this; exact this) hv) (by decide) mw_le ?_
      rintro rt9 w9 (⟨e9, rfl⟩) _ _
      rw [h4] at e9
      subst e9
      show Rch l E 3 4 _ _ _ _ (36, [some (vR 1), some (vR 44), some (vR 17), some (vI p), some (vI q), some (vI su), some (vI fi), some (vI i)], [vI (b2i (hld (I 4) (I 3) (fun j => tstB (I 4 j) (I 6 j) (I 46 ((p * 6) + (I 5 j)).toNat) (I 46 ((q * 6) + (I 5 j)).toNat) (I 18 p.toNat) (I 18 q.toNat)) i.toNat))], MW b I L)
      refine rch_br rfl (cd := b2i (hld (I 4) (I 3) (fun j => tstB (I 4 j) (I 6 j) (I 46 ((p * 6) + (I 5 j)).toNat) (I 46 ((q * 6) + (I 5 j)).toNat) (I 18 p.toNat) (I 18 q.toNat)) i.toNat) = 0) (t1 := (51, [some (vR 1), some (vR 44), some (vR 17), some (vI p), some (vI q), some (vI su), some (vI fi), some (vI i)], [], MW b I L)) (t2 := (39, [some (vR 1), some (vR 44), some (vR 17), some (vI p), some (vI q), some (vI su), some (vI fi), some (vI i)], [], MW b I L)) rfl (fun c36_2 => ?_) (fun c36_2 => ?_)
      · refine rch_run rfl (by decide) 7 (t' := (9, [some (vR 1), some (vR 44), some (vR 17), some (vI p), some (vI q), some (vI su), some (vI (I 3 i.toNat)), some (vI (i + 1))], [], MW b I L)) (ps := [0 ≤ i ∧ i < ((10 : Nat) : Int), i32 (i + 1)]) rfl (by (try have hk9 := hk9 (by omega)); simp only [all_, i32, i64]; first | omega | (simp; done) | (simp; omega)) ?_
        refine ih (i + 1) su (I 3 i.toNat) (by omega) (by omega) ?_ (by rw [show (i + 1).toNat = i.toNat + 1 by omega]; rfl) (by omega)
        rw [show (i + 1).toNat = i.toNat + 1 by omega]
        show _ = (if hld _ _ _ i.toNat = true then _ + _ else _)
        cases hh9 : hld (I 4) (I 3) (fun j => tstB (I 4 j) (I 6 j) (I 46 ((p * 6) + (I 5 j)).toNat) (I 46 ((q * 6) + (I 5 j)).toNat) (I 18 p.toNat) (I 18 q.toNat)) i.toNat
        · first | (rw [if_neg (by decide)]; exact h3) | (have z9 : b2i (hld (I 4) (I 3) (fun j => tstB (I 4 j) (I 6 j) (I 46 ((p * 6) + (I 5 j)).toNat) (I 46 ((q * 6) + (I 5 j)).toNat) (I 18 p.toNat) (I 18 q.toNat)) i.toNat) = 0 := (by rw [hh9]; rfl); exfalso; omega)
        · first | (rw [if_pos rfl, ← h3]; done) | (have z9 : b2i (hld (I 4) (I 3) (fun j => tstB (I 4 j) (I 6 j) (I 46 ((p * 6) + (I 5 j)).toNat) (I 46 ((q * 6) + (I 5 j)).toNat) (I 18 p.toNat) (I 18 q.toNat)) i.toNat) = 1 := (by rw [hh9]; rfl); exfalso; omega)
      · refine rch_run rfl (by decide) 14 (t' := (9, [some (vR 1), some (vR 44), some (vR 17), some (vI p), some (vI q), some (vI (su + (I 2 i.toNat))), some (vI (I 3 i.toNat)), some (vI (i + 1))], [], MW b I L)) (ps := [0 ≤ i ∧ i < ((10 : Nat) : Int), i32 (su + (I 2 i.toNat)), 0 ≤ i ∧ i < ((10 : Nat) : Int), i32 (i + 1)]) rfl (by (try have hk9 := hk9 (by omega)); simp only [all_, i32, i64]; first | omega | (simp; done) | (simp; omega)) ?_
        refine ih (i + 1) (su + (I 2 i.toNat)) (I 3 i.toNat) (by omega) (by omega) ?_ (by rw [show (i + 1).toNat = i.toNat + 1 by omega]; rfl) (by omega)
        rw [show (i + 1).toNat = i.toNat + 1 by omega]
        show _ = (if hld _ _ _ i.toNat = true then _ + _ else _)
        cases hh9 : hld (I 4) (I 3) (fun j => tstB (I 4 j) (I 6 j) (I 46 ((p * 6) + (I 5 j)).toNat) (I 46 ((q * 6) + (I 5 j)).toNat) (I 18 p.toNat) (I 18 q.toNat)) i.toNat
        · first | (rw [if_neg (by decide)]; exact h3) | (have z9 : b2i (hld (I 4) (I 3) (fun j => tstB (I 4 j) (I 6 j) (I 46 ((p * 6) + (I 5 j)).toNat) (I 46 ((q * 6) + (I 5 j)).toNat) (I 18 p.toNat) (I 18 q.toNat)) i.toNat) = 0 := (by rw [hh9]; rfl); exfalso; omega)
        · first | (rw [if_pos rfl, ← h3]; done) | (have z9 : b2i (hld (I 4) (I 3) (fun j => tstB (I 4 j) (I 6 j) (I 46 ((p * 6) + (I 5 j)).toNat) (I 46 ((q * 6) + (I 5 j)).toNat) (I 18 p.toNat) (I 18 q.toNat)) i.toNat) = 1 := (by rw [hh9]; rfl); exfalso; omega)

theorem k_isMet_7 (l : Launch) (E : AX) (b : Bool) (I L : Nat → Nat → Int) (fi be p q : Int) (hb : 0 ≤ fi ∧ fi ≤ be ∧ be ≤ 250) (hp : (0 ≤ p ∧ p < 10) ∧ 0 ≤ q ∧ q < 10) (hw : WFs (I 10) fi.toNat (be - fi).toNat) (hf : ∀ j : Nat, fi ≤ j → (j : Int) < be → 0 ≤ I 11 j ∧ I 11 j ≤ 5) (hv : ∀ c, c < 60 → -1 ≤ I 46 c ∧ I 46 c ≤ 999999) : Con l E 2 5 [vR 7, vI fi, vI be, vR 44, vR 17, vI p, vI q] (MW b I L) 0 0 (fun rt w => rt = some (vI (b2i ((evs (I 10) (fun j => tstB (I 10 j) (I 12 j) (I 46 ((p * 6) + (I 11 j)).toNat) (I 46 ((q * 6) + (I 11 j)).toNat) (I 18 p.toNat) (I 18 q.toNat)) fi.toNat (be - fi).toNat).headD false))) ∧ w = MW b I L) := by
  refine con_ok (fun hw9 hs9 => ?_)
  refine con_intro (by decide) (Nat.le_of_ble_eq_true rfl) ?_
  show Rch l E 2 5 _ _ _ _ (0, [some (vR 7), some (vI fi), some (vI be), some (vR 44), some (vR 17), some (vI p), some (vI q), none, none, none], [], MW b I L)
  refine rch_run rfl (by decide) 4 (t' := (6, [some (vR 7), some (vI fi), some (vI be), some (vR 44), some (vR 17), some (vI p), some (vI q), some (vL 0), none, some (vI fi)], [], MW b I L)) (ps := []) rfl trivial ?_
  exact lp_isMet_7 l E b I L fi be p q hb hp hw hf hv 251 fi [] (by omega) (by omega) (by rw [show (fi - fi).toNat = 0 by omega]; rfl) (by omega)

theorem lp_sum_7 (l : Launch) (E : AX) (b : Bool) (I L : Nat → Nat → Int) (p q : Int) (hp : (0 ≤ p ∧ p < 10) ∧ 0 ≤ q ∧ q < 10) (hB : BOK (I 7 0) (I 10) (I 9) (I 8) (I 11)) (hv : ∀ c, c < 60 → -1 ≤ I 46 c ∧ I 46 c ≤ 999999) : ∀ (n9 : Nat) (i su fi : Int), 0 ≤ i → i ≤ I 7 0 → su = lsm (I 10) (I 9) (I 8) (fun j => tstB (I 10 j) (I 12 j) (I 46 ((p * 6) + (I 11 j)).toNat) (I 46 ((q * 6) + (I 11 j)).toNat) (I 18 p.toNat) (I 18 q.toNat)) i.toNat → fi = sof (I 9) i.toNat → I 7 0 - i < (n9 : Int) → Rch l E 3 4 (MW b I L) 0 0 (fun rt w => rt = some (vI (lsm (I 10) (I 9) (I 8) (fun j => tstB (I 10 j) (I 12 j) (I 46 ((p * 6) + (I 11 j)).toNat) (I 46 ((q * 6) + (I 11 j)).toNat) (I 18 p.toNat) (I 18 q.toNat)) (I 7 0).toNat)) ∧ w = MW b I L) (9, [some (vR 7), some (vR 44), some (vR 17), some (vI p), some (vI q), some (vI su), some (vI fi), some (vI i)], [], MW b I L) := by
  intro n9
  induction n9 with
  | zero =>
    intro i su fi  h1 h2 h3 h4 hm
    exfalso; omega
  | succ n9 ih =>
    intro i su fi  h1 h2 h3 h4 hm
    have hN9 := hB.1
    have hr9 := lsm_rg (fun j => tstB (I 10 j) (I 12 j) (I 46 ((p * 6) + (I 11 j)).toNat) (I 46 ((q * 6) + (I 11 j)).toNat) (I 18 p.toNat) (I 18 q.toNat)) hB i.toNat (by omega)
    rw [← h3] at hr9
    have hk9 : i < I 7 0 → (0 ≤ fi ∧ fi ≤ I 9 i.toNat ∧ I 9 i.toNat ≤ 250) ∧ (-1000 ≤ I 8 i.toNat ∧ I 8 i.toNat ≤ 1000) := fun z => by rw [h4]; exact ⟨(hB.2 i.toNat (by omega)).1, (hB.2 i.toNat (by omega)).2.2.1⟩
    refine rch_run rfl (by decide) 3 (t' := (15, [some (vR 7), some (vR 44), some (vR 17), some (vI p), some (vI q), some (vI su), some (vI fi), some (vI i)], [vI (I 7 0), vI i], MW b I L)) (ps := []) rfl trivial ?_
    refine rch_br rfl (cd := I 7 0 ≤ i) (t1 := (66, [some (vR 7), some (vR 44), some (vR 17), some (vI p), some (vI q), some (vI su), some (vI fi), some (vI i)], [], MW b I L)) (t2 := (18, [some (vR 7), some (vR 44), some (vR 17), some (vI p), some (vI q), some (vI su), some (vI fi), some (vI i)], [], MW b I L)) rfl (fun c15_1 => ?_) (fun c15_1 => ?_)
    · refine rch_run rfl (by decide) 1 (t' := (68, [some (vR 7), some (vR 44), some (vR 17), some (vI p), some (vI q), some (vI su), some (vI fi), some (vI i)], [vI su], MW b I L)) (ps := []) rfl trivial ?_
      refine rch_ret rfl (rt := some (vI su)) rfl trivial mw_c ?_
      exact ⟨by rw [h3, show i.toNat = (I 7 0).toNat by omega], rfl⟩
    · refine rch_run rfl (by decide) 10 (t' := (33, [some (vR 7), some (vR 44), some (vR 17), some (vI p), some (vI q), some (vI su), some (vI fi), some (vI i)], [vI q, vI p, vR 17, vR 44, vI (I 9 i.toNat), vI fi, vR 7], MW b I L)) (ps := [0 ≤ i ∧ i < ((10 : Nat) : Int)]) rfl (by (try have hk9 := hk9 (by omega)); simp only [all_, i32, i64]; first | omega | (simp; done) | (simp; omega)) ?_
      refine rch_call (h' := 2) (k' := 5) (as := [vR 7, vI fi, vI (I 9 i.toNat), vR 44, vR 17, vI p, vI q]) (t1 := (36, [some (vR 7), some (vR 44), some (vR 17), some (vI p), some (vI q), some (vI su), some (vI fi), some (vI i)], [], MW b I L)) rfl rfl (k_isMet_7 l E b I L fi (I 9 i.toNat) p q (by have := hk9 (by omega); omega) hp (by have := (hB.2 i.toNat (by omega)).2.1; rw [← h4] at this; exact this) (by have := (hB.2 i.toNat (by omega)).2.2.2; rw [← h4] at this; exact this) hv) (by decide) mw_le ?_
      rintro rt9 w9 (⟨e9, rfl⟩) _ _
      rw [h4] at e9
      subst e9
      show Rch l E 3 4 _ _ _ _ (36, [some (vR 7), some (vR 44), some (vR 17), some (vI p), some (vI q), some (vI su), some (vI fi), some (vI i)], [vI (b2i (hld (I 10) (I 9) (fun j => tstB (I 10 j) (I 12 j) (I 46 ((p * 6) + (I 11 j)).toNat) (I 46 ((q * 6) + (I 11 j)).toNat) (I 18 p.toNat) (I 18 q.toNat)) i.toNat))], MW b I L)
      refine rch_br rfl (cd := b2i (hld (I 10) (I 9) (fun j => tstB (I 10 j) (I 12 j) (I 46 ((p * 6) + (I 11 j)).toNat) (I 46 ((q * 6) + (I 11 j)).toNat) (I 18 p.toNat) (I 18 q.toNat)) i.toNat) = 0) (t1 := (51, [some (vR 7), some (vR 44), some (vR 17), some (vI p), some (vI q), some (vI su), some (vI fi), some (vI i)], [], MW b I L)) (t2 := (39, [some (vR 7), some (vR 44), some (vR 17), some (vI p), some (vI q), some (vI su), some (vI fi), some (vI i)], [], MW b I L)) rfl (fun c36_2 => ?_) (fun c36_2 => ?_)
      · refine rch_run rfl (by decide) 7 (t' := (9, [some (vR 7), some (vR 44), some (vR 17), some (vI p), some (vI q), some (vI su), some (vI (I 9 i.toNat)), some (vI (i + 1))], [], MW b I L)) (ps := [0 ≤ i ∧ i < ((10 : Nat) : Int), i32 (i + 1)]) rfl (by (try have hk9 := hk9 (by omega)); simp only [all_, i32, i64]; first | omega | (simp; done) | (simp; omega)) ?_
        refine ih (i + 1) su (I 9 i.toNat) (by omega) (by omega) ?_ (by rw [show (i + 1).toNat = i.toNat + 1 by omega]; rfl) (by omega)
        rw [show (i + 1).toNat = i.toNat + 1 by omega]
        show _ = (if hld _ _ _ i.toNat = true then _ + _ else _)
        cases hh9 : hld (I 10) (I 9) (fun j => tstB (I 10 j) (I 12 j) (I 46 ((p * 6) + (I 11 j)).toNat) (I 46 ((q * 6) + (I 11 j)).toNat) (I 18 p.toNat) (I 18 q.toNat)) i.toNat
        · first | (rw [if_neg (by decide)]; exact h3) | (have z9 : b2i (hld (I 10) (I 9) (fun j => tstB (I 10 j) (I 12 j) (I 46 ((p * 6) + (I 11 j)).toNat) (I 46 ((q * 6) + (I 11 j)).toNat) (I 18 p.toNat) (I 18 q.toNat)) i.toNat) = 0 := (by rw [hh9]; rfl); exfalso; omega)
        · first | (rw [if_pos rfl, ← h3]; done) | (have z9 : b2i (hld (I 10) (I 9) (fun j => tstB (I 10 j) (I 12 j) (I 46 ((p * 6) + (I 11 j)).toNat) (I 46 ((q * 6) + (I 11 j)).toNat) (I 18 p.toNat) (I 18 q.toNat)) i.toNat) = 1 := (by rw [hh9]; rfl); exfalso; omega)
      · refine rch_run rfl (by decide) 14 (t' := (9, [some (vR 7), some (vR 44), some (vR 17), some (vI p), some (vI q), some (vI (su + (I 8 i.toNat))), some (vI (I 9 i.toNat)), some (vI (i + 1))], [], MW b I L)) (ps := [0 ≤ i ∧ i < ((10 : Nat) : Int), i32 (su + (I 8 i.toNat)), 0 ≤ i ∧ i < ((10 : Nat) : Int), i32 (i + 1)]) rfl (by (try have hk9 := hk9 (by omega)); simp only [all_, i32, i64]; first | omega | (simp; done) | (simp; omega)) ?_
        refine ih (i + 1) (su + (I 8 i.toNat)) (I 9 i.toNat) (by omega) (by omega) ?_ (by rw [show (i + 1).toNat = i.toNat + 1 by omega]; rfl) (by omega)
        rw [show (i + 1).toNat = i.toNat + 1 by omega]
        show _ = (if hld _ _ _ i.toNat = true then _ + _ else _)
        cases hh9 : hld (I 10) (I 9) (fun j => tstB (I 10 j) (I 12 j) (I 46 ((p * 6) + (I 11 j)).toNat) (I 46 ((q * 6) + (I 11 j)).toNat) (I 18 p.toNat) (I 18 q.toNat)) i.toNat
        · first | (rw [if_neg (by decide)]; exact h3) | (have z9 : b2i (hld (I 10) (I 9) (fun j => tstB (I 10 j) (I 12 j) (I 46 ((p * 6) + (I 11 j)).toNat) (I 46 ((q * 6) + (I 11 j)).toNat) (I 18 p.toNat) (I 18 q.toNat)) i.toNat) = 0 := (by rw [hh9]; rfl); exfalso; omega)
        · first | (rw [if_pos rfl, ← h3]; done) | (have z9 : b2i (hld (I 10) (I 9) (fun j => tstB (I 10 j) (I 12 j) (I 46 ((p * 6) + (I 11 j)).toNat) (I 46 ((q * 6) + (I 11 j)).toNat) (I 18 p.toNat) (I 18 q.toNat)) i.toNat) = 1 := (by rw [hh9]; rfl); exfalso; omega)

theorem k_sum_1 (l : Launch) (E : AX) (b : Bool) (I L : Nat → Nat → Int) (p q : Int) (hp : (0 ≤ p ∧ p < 10) ∧ 0 ≤ q ∧ q < 10) (hB : BOK (I 1 0) (I 4) (I 3) (I 2) (I 5)) (hv : ∀ c, c < 60 → -1 ≤ I 46 c ∧ I 46 c ≤ 999999) : Con l E 3 4 [vR 1, vR 44, vR 17, vI p, vI q] (MW b I L) 0 0 (fun rt w => rt = some (vI (lsm (I 4) (I 3) (I 2) (fun j => tstB (I 4 j) (I 6 j) (I 46 ((p * 6) + (I 5 j)).toNat) (I 46 ((q * 6) + (I 5 j)).toNat) (I 18 p.toNat) (I 18 q.toNat)) (I 1 0).toNat)) ∧ w = MW b I L) := by
  refine con_ok (fun hw9 hs9 => ?_)
  refine con_intro (by decide) (Nat.le_of_ble_eq_true rfl) ?_
  show Rch l E 3 4 _ _ _ _ (0, [some (vR 1), some (vR 44), some (vR 17), some (vI p), some (vI q), none, none, none], [], MW b I L)
  refine rch_run rfl (by decide) 6 (t' := (9, [some (vR 1), some (vR 44), some (vR 17), some (vI p), some (vI q), some (vI 0), some (vI 0), some (vI 0)], [], MW b I L)) (ps := []) rfl trivial ?_
  exact lp_sum_1 l E b I L p q hp hB hv 11 0 0 0 (by omega) hB.1.1 rfl rfl (by have := hB.1; omega)

theorem k_sum_7 (l : Launch) (E : AX) (b : Bool) (I L : Nat → Nat → Int) (p q : Int) (hp : (0 ≤ p ∧ p < 10) ∧ 0 ≤ q ∧ q < 10) (hB : BOK (I 7 0) (I 10) (I 9) (I 8) (I 11)) (hv : ∀ c, c < 60 → -1 ≤ I 46 c ∧ I 46 c ≤ 999999) : Con l E 3 4 [vR 7, vR 44, vR 17, vI p, vI q] (MW b I L) 0 0 (fun rt w => rt = some (vI (lsm (I 10) (I 9) (I 8) (fun j => tstB (I 10 j) (I 12 j) (I 46 ((p * 6) + (I 11 j)).toNat) (I 46 ((q * 6) + (I 11 j)).toNat) (I 18 p.toNat) (I 18 q.toNat)) (I 7 0).toNat)) ∧ w = MW b I L) := by
  refine con_ok (fun hw9 hs9 => ?_)
  refine con_intro (by decide) (Nat.le_of_ble_eq_true rfl) ?_
  show Rch l E 3 4 _ _ _ _ (0, [some (vR 7), some (vR 44), some (vR 17), some (vI p), some (vI q), none, none, none], [], MW b I L)
  refine rch_run rfl (by decide) 6 (t' := (9, [some (vR 7), some (vR 44), some (vR 17), some (vI p), some (vI q), some (vI 0), some (vI 0), some (vI 0)], [], MW b I L)) (ps := []) rfl trivial ?_
  exact lp_sum_7 l E b I L p q hp hB hv 11 0 0 0 (by omega) hB.1.1 rfl rfl (by have := hB.1; omega)
