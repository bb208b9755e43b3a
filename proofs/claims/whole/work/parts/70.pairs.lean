theorem lp_wpi_1 (l : Launch) (E : AX) (b : Bool) (I L : Nat → Nat → Int) (hn : 0 ≤ I 49 3 ∧ I 49 3 ≤ 10) (hro : ∀ i : Nat, (i : Int) < I 49 3 → 0 ≤ I 51 i ∧ I 51 i < 10) (hB : BKk I 1) (hv : ∀ c, c < 60 → -1 ≤ I 46 c ∧ I 46 c ≤ 999999) (Φ : Option AV → AW → Prop) (i : Int) (hi : 0 ≤ i ∧ i < I 49 3) (hk : ∀ J, (∀ a j, a ≠ 53 → J a j = I a j) → (∀ x y : Nat, y < x → (x : Int) < i + 1 → J 53 (x * 10 + y) = csc I 1 (I 51 x) (I 51 y)) → Rch l E 4 23 (MW b I L) 0 0 Φ (3, [some (vR 49), some (vR 1), some (vR 44), some (vR 17), some (vI (i + 1)), none], [], MW b J L)) : ∀ (n9 : Nat) (j : Int) (J : Nat → Nat → Int), 0 ≤ j → j ≤ i → (∀ a j, a ≠ 53 → J a j = I a j) → (∀ x y : Nat, y < x → ((x : Int) < i ∨ ((x : Int) = i ∧ (y : Int) < j)) → J 53 (x * 10 + y) = csc I 1 (I 51 x) (I 51 y)) → i - j < (n9 : Int) → Rch l E 4 23 (MW b I L) 0 0 (Φ) (15, [some (vR 49), some (vR 1), some (vR 44), some (vR 17), some (vI i), some (vI j)], [], MW b J L) := by
  intro n9
  induction n9 with
  | zero =>
    intro j J h1 h2 h3 h4 hm
    exfalso; omega
  | succ n9 ih =>
    intro j J h1 h2 h3 h4 hm
    have hJ : ∀ a, a ≠ 53 → J a = I a := fun a ha => funext (fun z => h3 a z ha)
    have q51 := h3 51 i.toNat (by omega)
    have q51j := h3 51 j.toNat (by omega)
    refine rch_run rfl (by decide) 2 (t' := (19, [some (vR 49), some (vR 1), some (vR 44), some (vR 17), some (vI i), some (vI j)], [vI i, vI j], MW b J L)) (ps := []) rfl trivial ?_
    refine rch_br rfl (cd := i ≤ j) (t1 := (61, [some (vR 49), some (vR 1), some (vR 44), some (vR 17), some (vI i), some (vI j)], [], MW b J L)) (t2 := (22, [some (vR 49), some (vR 1), some (vR 44), some (vR 17), some (vI i), some (vI j)], [], MW b J L)) rfl (fun c19_1 => ?_) (fun c19_1 => ?_)
    · refine rch_run rfl (by decide) 2 (t' := (3, [some (vR 49), some (vR 1), some (vR 44), some (vR 17), some (vI (i + 1)), some (vI j)], [], MW b J L)) (ps := [i32 (i + 1)]) rfl (by simp only [all_, i32, i64]; first | omega | (simp; done) | (simp; omega)) ?_
      refine rch_forget [5] ?_
      show Rch l E 4 23 _ _ _ _ (3, [some (vR 49), some (vR 1), some (vR 44), some (vR 17), some (vI (i + 1)), none], [], MW b J L)
      exact hk J h3 (fun x y hxy hc => h4 x y hxy (by omega))
    · refine rch_run rfl (by decide) 18 (t' := (51, [some (vR 49), some (vR 1), some (vR 44), some (vR 17), some (vI i), some (vI j)], [vI (J 51 j.toNat), vI (J 51 i.toNat), vR 17, vR 44, vR 1, vI ((i * 10) + j), vR 53], MW b J L)) (ps := [i32 (i * 10), i32 ((i * 10) + j), 0 ≤ i ∧ i < ((10 : Nat) : Int), 0 ≤ j ∧ j < ((10 : Nat) : Int)]) rfl (by simp only [all_, i32, i64]; first | omega | (simp; done) | (simp; omega)) ?_
      refine rch_call (h' := 3) (k' := 4) (as := [vR 1, vR 44, vR 17, vI (J 51 i.toNat), vI (J 51 j.toNat)]) (t1 := (54, [some (vR 49), some (vR 1), some (vR 44), some (vR 17), some (vI i), some (vI j)], [vI ((i * 10) + j), vR 53], MW b J L)) rfl rfl (k_sum_1 l E b J L (J 51 i.toNat) (J 51 j.toNat) (by have h1 := hro i.toNat (by omega); have h2 := hro j.toNat (by omega); rw [q51, q51j]; omega) (by show BKk J 1; unfold BKk; rw [hJ 1 (by decide), hJ (1 + 1) (by decide), hJ (1 + 2) (by decide), hJ (1 + 3) (by decide), hJ (1 + 4) (by decide)]; exact hB) (by rw [hJ 46 (by decide)]; exact hv)) (by decide) mw_le ?_
      rintro rt9 w9 (⟨e9, rfl⟩) _ _
      have e8 : rt9 = some (vI (csc J 1 (J 51 i.toNat) (J 51 j.toNat))) := e9
      rw [csc_c _ _ (fun a ha => hJ a (by omega)), q51, q51j] at e8
      subst e8
      show Rch l E 4 23 _ _ _ _ (54, [some (vR 49), some (vR 1), some (vR 44), some (vR 17), some (vI i), some (vI j)], [vI (csc I 1 (I 51 i.toNat) (I 51 j.toNat)), vI ((i * 10) + j), vR 53], MW b J L)
      refine rch_run rfl (by decide) 3 (t' := (15, [some (vR 49), some (vR 1), some (vR 44), some (vR 17), some (vI i), some (vI (j + 1))], [], MW b (upI J 53 ((i * 10) + j).toNat (csc I 1 (I 51 i.toNat) (I 51 j.toNat))) L)) (ps := [0 ≤ (i * 10) + j ∧ (i * 10) + j < ((100 : Nat) : Int), i32 (j + 1)]) rfl (by simp only [all_, i32, i64]; first | omega | (simp; done) | (simp; omega)) ?_
      refine ih (j + 1) _ (by omega) (by omega) (fun a z hz => by rw [upI_ne (by omega)]; exact h3 a z hz) (fun x y hxy hc => ?_) (by omega)
      by_cases e : x = i.toNat ∧ y = j.toNat
      · rw [e.1, e.2, upI_eq rfl (by omega)]
      · rw [upI_ne (by omega)]; exact h4 x y hxy (by omega)

theorem lp_wpo_1 (l : Launch) (E : AX) (b : Bool) (I L : Nat → Nat → Int) (hn : 0 ≤ I 49 3 ∧ I 49 3 ≤ 10) (hro : ∀ i : Nat, (i : Int) < I 49 3 → 0 ≤ I 51 i ∧ I 51 i < 10) (hB : BKk I 1) (hv : ∀ c, c < 60 → -1 ≤ I 46 c ∧ I 46 c ≤ 999999) : ∀ (n9 : Nat) (i : Int) (J : Nat → Nat → Int), 0 ≤ i → i ≤ I 49 3 → (∀ a j, a ≠ 53 → J a j = I a j) → (∀ x y : Nat, y < x → (x : Int) < i → J 53 (x * 10 + y) = csc I 1 (I 51 x) (I 51 y)) → I 49 3 - i < (n9 : Int) → Rch l E 4 23 (MW b I L) 0 0 (fun rt w => ∃ J, rt = none ∧ w = MW b J L ∧ (∀ a j, a ≠ 53 → J a j = I a j) ∧ (∀ x y : Nat, y < x → (x : Int) < I 49 3 → J 53 (x * 10 + y) = csc I 1 (I 51 x) (I 51 y))) (3, [some (vR 49), some (vR 1), some (vR 44), some (vR 17), some (vI i), none], [], MW b J L) := by
  intro n9
  induction n9 with
  | zero =>
    intro i J h1 h2 h3 h4 hm
    exfalso; omega
  | succ n9 ih =>
    intro i J h1 h2 h3 h4 hm
    have q49 := h3 49 3 (by omega)
    refine rch_run rfl (by decide) 3 (t' := (9, [some (vR 49), some (vR 1), some (vR 44), some (vR 17), some (vI i), none], [vI (J 49 3), vI i], MW b J L)) (ps := []) rfl trivial ?_
    refine rch_br rfl (cd := J 49 3 ≤ i) (t1 := (67, [some (vR 49), some (vR 1), some (vR 44), some (vR 17), some (vI i), none], [], MW b J L)) (t2 := (12, [some (vR 49), some (vR 1), some (vR 44), some (vR 17), some (vI i), none], [], MW b J L)) rfl (fun c9_1 => ?_) (fun c9_1 => ?_)
    · refine rch_ret rfl (rt := none) rfl trivial mw_c ?_
      exact ⟨J, rfl, rfl, h3, fun x y hxy hc => h4 x y hxy (by omega)⟩
    · refine rch_run rfl (by decide) 2 (t' := (15, [some (vR 49), some (vR 1), some (vR 44), some (vR 17), some (vI i), some (vI 0)], [], MW b J L)) (ps := []) rfl trivial ?_
      exact lp_wpi_1 l E b I L hn hro hB hv _ i (by omega) (fun J h5 h6 => ih (i + 1) J (by omega) (by omega) h5 (fun x y hxy hc => h6 x y hxy (by omega)) (by omega)) 11 0 J (by omega) (by omega) h3 (fun x y hxy hc => h4 x y hxy (by omega)) (by omega)

theorem k_weighPairs_1 (l : Launch) (E : AX) (b : Bool) (I L : Nat → Nat → Int) (hn : 0 ≤ I 49 3 ∧ I 49 3 ≤ 10) (hro : ∀ i : Nat, (i : Int) < I 49 3 → 0 ≤ I 51 i ∧ I 51 i < 10) (hB : BKk I 1) (hv : ∀ c, c < 60 → -1 ≤ I 46 c ∧ I 46 c ≤ 999999) : Con l E 4 23 [vR 49, vR 1, vR 44, vR 17] (MW b I L) 0 0 (fun rt w => ∃ J, rt = none ∧ w = MW b J L ∧ (∀ a j, a ≠ 53 → J a j = I a j) ∧ (∀ x y : Nat, y < x → (x : Int) < I 49 3 → J 53 (x * 10 + y) = csc I 1 (I 51 x) (I 51 y))) := by
  refine con_ok (fun hw9 hs9 => ?_)
  refine con_intro (by decide) (Nat.le_of_ble_eq_true rfl) ?_
  show Rch l E 4 23 _ _ _ _ (0, [some (vR 49), some (vR 1), some (vR 44), some (vR 17), none, none], [], MW b I L)
  refine rch_run rfl (by decide) 2 (t' := (3, [some (vR 49), some (vR 1), some (vR 44), some (vR 17), some (vI 0), none], [], MW b I L)) (ps := []) rfl trivial ?_
  exact lp_wpo_1 l E b I L hn hro hB hv 11 0 I (by omega) hn.1 (fun a j _ => rfl) (fun x y hxy hc => by omega) (by omega)

theorem lp_wpi_7 (l : Launch) (E : AX) (b : Bool) (I L : Nat → Nat → Int) (hn : 0 ≤ I 49 3 ∧ I 49 3 ≤ 10) (hro : ∀ i : Nat, (i : Int) < I 49 3 → 0 ≤ I 51 i ∧ I 51 i < 10) (hB : BKk I 7) (hv : ∀ c, c < 60 → -1 ≤ I 46 c ∧ I 46 c ≤ 999999) (Φ : Option AV → AW → Prop) (i : Int) (hi : 0 ≤ i ∧ i < I 49 3) (hk : ∀ J, (∀ a j, a ≠ 53 → J a j = I a j) → (∀ x y : Nat, y < x → (x : Int) < i + 1 → J 53 (x * 10 + y) = csc I 7 (I 51 x) (I 51 y)) → Rch l E 4 23 (MW b I L) 0 0 Φ (3, [some (vR 49), some (vR 7), some (vR 44), some (vR 17), some (vI (i + 1)), none], [], MW b J L)) : ∀ (n9 : Nat) (j : Int) (J : Nat → Nat → Int), 0 ≤ j → j ≤ i → (∀ a j, a ≠ 53 → J a j = I a j) → (∀ x y : Nat, y < x → ((x : Int) < i ∨ ((x : Int) = i ∧ (y : Int) < j)) → J 53 (x * 10 + y) = csc I 7 (I 51 x) (I 51 y)) → i - j < (n9 : Int) → Rch l E 4 23 (MW b I L) 0 0 (Φ) (15, [some (vR 49), some (vR 7), some (vR 44), some (vR 17), some (vI i), some (vI j)], [], MW b J L) := by
  intro n9
  induction n9 with
  | zero =>
    intro j J h1 h2 h3 h4 hm
    exfalso; omega
  | succ n9 ih =>
    intro j J h1 h2 h3 h4 hm
    have hJ : ∀ a, a ≠ 53 → J a = I a := fun a ha => funext (fun z => h3 a z ha)
    have q51 := h3 51 i.toNat (by omega)
    have q51j := h3 51 j.toNat (by omega)
    refine rch_run rfl (by decide) 2 (t' := (19, [some (vR 49), some (vR 7), some (vR 44), some (vR 17), some (vI i), some (vI j)], [vI i, vI j], MW b J L)) (ps := []) rfl trivial ?_
    refine rch_br rfl (cd := i ≤ j) (t1 := (61, [some (vR 49), some (vR 7), some (vR 44), some (vR 17), some (vI i), some (vI j)], [], MW b J L)) (t2 := (22, [some (vR 49), some (vR 7), some (vR 44), some (vR 17), some (vI i), some (vI j)], [], MW b J L)) rfl (fun c19_1 => ?_) (fun c19_1 => ?_)
    · refine rch_run rfl (by decide) 2 (t' := (3, [some (vR 49), some (vR 7), some (vR 44), some (vR 17), some (vI (i + 1)), some (vI j)], [], MW b J L)) (ps := [i32 (i + 1)]) rfl (by simp only [all_, i32, i64]; first | omega | (simp; done) | (simp; omega)) ?_
      refine rch_forget [5] ?_
      show Rch l E 4 23 _ _ _ _ (3, [some (vR 49), some (vR 7), some (vR 44), some (vR 17), some (vI (i + 1)), none], [], MW b J L)
      exact hk J h3 (fun x y hxy hc => h4 x y hxy (by omega))
    · refine rch_run rfl (by decide) 18 (t' := (51, [some (vR 49), some (vR 7), some (vR 44), some (vR 17), some (vI i), some (vI j)], [vI (J 51 j.toNat), vI (J 51 i.toNat), vR 17, vR 44, vR 7, vI ((i * 10) + j), vR 53], MW b J L)) (ps := [i32 (i * 10), i32 ((i * 10) + j), 0 ≤ i ∧ i < ((10 : Nat) : Int), 0 ≤ j ∧ j < ((10 : Nat) : Int)]) rfl (by simp only [all_, i32, i64]; first | omega | (simp; done) | (simp; omega)) ?_
      refine rch_call (h' := 3) (k' := 4) (as := [vR 7, vR 44, vR 17, vI (J 51 i.toNat), vI (J 51 j.toNat)]) (t1 := (54, [some (vR 49), some (vR 7), some (vR 44), some (vR 17), some (vI i), some (vI j)], [vI ((i * 10) + j), vR 53], MW b J L)) rfl rfl (k_sum_7 l E b J L (J 51 i.toNat) (J 51 j.toNat) (by have h1 := hro i.toNat (by omega); have h2 := hro j.toNat (by omega); rw [q51, q51j]; omega) (by show BKk J 7; unfold BKk; rw [hJ 7 (by decide), hJ (7 + 1) (by decide), hJ (7 + 2) (by decide), hJ (7 + 3) (by decide), hJ (7 + 4) (by decide)]; exact hB) (by rw [hJ 46 (by decide)]; exact hv)) (by decide) mw_le ?_
      rintro rt9 w9 (⟨e9, rfl⟩) _ _
      have e8 : rt9 = some (vI (csc J 7 (J 51 i.toNat) (J 51 j.toNat))) := e9
      rw [csc_c _ _ (fun a ha => hJ a (by omega)), q51, q51j] at e8
      subst e8
      show Rch l E 4 23 _ _ _ _ (54, [some (vR 49), some (vR 7), some (vR 44), some (vR 17), some (vI i), some (vI j)], [vI (csc I 7 (I 51 i.toNat) (I 51 j.toNat)), vI ((i * 10) + j), vR 53], MW b J L)
      refine rch_run rfl (by decide) 3 (t' := (15, [some (vR 49), some (vR 7), some (vR 44), some (vR 17), some (vI i), some (vI (j + 1))], [], MW b (upI J 53 ((i * 10) + j).toNat (csc I 7 (I 51 i.toNat) (I 51 j.toNat))) L)) (ps := [0 ≤ (i * 10) + j ∧ (i * 10) + j < ((100 : Nat) : Int), i32 (j + 1)]) rfl (by simp only [all_, i32, i64]; first | omega | (simp; done) | (simp; omega)) ?_
      refine ih (j + 1) _ (by omega) (by omega) (fun a z hz => by rw [upI_ne (by omega)]; exact h3 a z hz) (fun x y hxy hc => ?_) (by omega)
      by_cases e : x = i.toNat ∧ y = j.toNat
      · rw [e.1, e.2, upI_eq rfl (by omega)]
      · rw [upI_ne (by omega)]; exact h4 x y hxy (by omega)

theorem lp_wpo_7 (l : Launch) (E : AX) (b : Bool) (I L : Nat → Nat → Int) (hn : 0 ≤ I 49 3 ∧ I 49 3 ≤ 10) (hro : ∀ i : Nat, (i : Int) < I 49 3 → 0 ≤ I 51 i ∧ I 51 i < 10) (hB : BKk I 7) (hv : ∀ c, c < 60 → -1 ≤ I 46 c ∧ I 46 c ≤ 999999) : ∀ (n9 : Nat) (i : Int) (J : Nat → Nat → Int), 0 ≤ i → i ≤ I 49 3 → (∀ a j, a ≠ 53 → J a j = I a j) → (∀ x y : Nat, y < x → (x : Int) < i → J 53 (x * 10 + y) = csc I 7 (I 51 x) (I 51 y)) → I 49 3 - i < (n9 : Int) → Rch l E 4 23 (MW b I L) 0 0 (fun rt w => ∃ J, rt = none ∧ w = MW b J L ∧ (∀ a j, a ≠ 53 → J a j = I a j) ∧ (∀ x y : Nat, y < x → (x : Int) < I 49 3 → J 53 (x * 10 + y) = csc I 7 (I 51 x) (I 51 y))) (3, [some (vR 49), some (vR 7), some (vR 44), some (vR 17), some (vI i), none], [], MW b J L) := by
  intro n9
  induction n9 with
  | zero =>
    intro i J h1 h2 h3 h4 hm
    exfalso; omega
  | succ n9 ih =>
    intro i J h1 h2 h3 h4 hm
    have q49 := h3 49 3 (by omega)
    refine rch_run rfl (by decide) 3 (t' := (9, [some (vR 49), some (vR 7), some (vR 44), some (vR 17), some (vI i), none], [vI (J 49 3), vI i], MW b J L)) (ps := []) rfl trivial ?_
    refine rch_br rfl (cd := J 49 3 ≤ i) (t1 := (67, [some (vR 49), some (vR 7), some (vR 44), some (vR 17), some (vI i), none], [], MW b J L)) (t2 := (12, [some (vR 49), some (vR 7), some (vR 44), some (vR 17), some (vI i), none], [], MW b J L)) rfl (fun c9_1 => ?_) (fun c9_1 => ?_)
    · refine rch_ret rfl (rt := none) rfl trivial mw_c ?_
      exact ⟨J, rfl, rfl, h3, fun x y hxy hc => h4 x y hxy (by omega)⟩
    · refine rch_run rfl (by decide) 2 (t' := (15, [some (vR 49), some (vR 7), some (vR 44), some (vR 17), some (vI i), some (vI 0)], [], MW b J L)) (ps := []) rfl trivial ?_
      exact lp_wpi_7 l E b I L hn hro hB hv _ i (by omega) (fun J h5 h6 => ih (i + 1) J (by omega) (by omega) h5 (fun x y hxy hc => h6 x y hxy (by omega)) (by omega)) 11 0 J (by omega) (by omega) h3 (fun x y hxy hc => h4 x y hxy (by omega)) (by omega)

theorem k_weighPairs_7 (l : Launch) (E : AX) (b : Bool) (I L : Nat → Nat → Int) (hn : 0 ≤ I 49 3 ∧ I 49 3 ≤ 10) (hro : ∀ i : Nat, (i : Int) < I 49 3 → 0 ≤ I 51 i ∧ I 51 i < 10) (hB : BKk I 7) (hv : ∀ c, c < 60 → -1 ≤ I 46 c ∧ I 46 c ≤ 999999) : Con l E 4 23 [vR 49, vR 7, vR 44, vR 17] (MW b I L) 0 0 (fun rt w => ∃ J, rt = none ∧ w = MW b J L ∧ (∀ a j, a ≠ 53 → J a j = I a j) ∧ (∀ x y : Nat, y < x → (x : Int) < I 49 3 → J 53 (x * 10 + y) = csc I 7 (I 51 x) (I 51 y))) := by
  refine con_ok (fun hw9 hs9 => ?_)
  refine con_intro (by decide) (Nat.le_of_ble_eq_true rfl) ?_
  show Rch l E 4 23 _ _ _ _ (0, [some (vR 49), some (vR 7), some (vR 44), some (vR 17), none, none], [], MW b I L)
  refine rch_run rfl (by decide) 2 (t' := (3, [some (vR 49), some (vR 7), some (vR 44), some (vR 17), some (vI 0), none], [], MW b I L)) (ps := []) rfl trivial ?_
  exact lp_wpo_7 l E b I L hn hro hB hv 11 0 I (by omega) hn.1 (fun a j _ => rfl) (fun x y hxy hc => by omega) (by omega)
