theorem lp_wbi (l : Launch) (E : AX) (b : Bool) (I L : Nat → Nat → Int) (i : Int) (hi : 0 ≤ i ∧ i < 10) (hs : ∀ j : Nat, (j : Int) < i → -10000 ≤ sI I i.toNat j ∧ sI I i.toNat j ≤ 10000) (Φ : Option AV → AW → Prop) (j t : Int) (hj : 0 ≤ j ∧ j < i) (ht : t = ((2 ^ j.toNat : Nat) : Int)) (hk : ∀ J, (∀ a j, a ≠ 56 → J a j = I a j) → (∀ m, m < 2 ^ (j + 1).toNat → J 56 m = bnd (sI I) i.toNat m) → Rch l E 1 26 (MW b I L) 0 0 Φ (9, [some (vR 49), some (vI i), some (vI (j + 1)), none, none], [], MW b J L)) : ∀ (n9 : Nat) (r : Int) (J : Nat → Nat → Int), 0 ≤ r → r ≤ t → (∀ a j, a ≠ 56 → J a j = I a j) → (∀ m, m < 2 ^ j.toNat + r.toNat → J 56 m = bnd (sI I) i.toNat m) → t - r < (n9 : Int) → Rch l E 1 26 (MW b I L) 0 0 (Φ) (21, [some (vR 49), some (vI i), some (vI j), some (vI t), some (vI r)], [], MW b J L) := by
  intro n9
  induction n9 with
  | zero =>
    intro r J h1 h2 h3 h4 hm
    exfalso; omega
  | succ n9 ih =>
    intro r J h1 h2 h3 h4 hm
    have hp9 : 2 ^ j.toNat + 2 ^ j.toNat ≤ 512 := pow_le (t := 9) (by omega)
    have hb9 : r < t → bOr t r = ((2 ^ j.toNat + r.toNat : Nat) : Int) := fun z => by rw [ht]; exact bOr_t (by omega) (by omega) (by omega)
    have q53 := h3 53 ((i * 10) + j).toNat (by omega)
    have q54 : I 53 ((i * 10) + j).toNat = sI I i.toNat j.toNat := by unfold sI; rw [show ((i * 10) + j).toNat = i.toNat * 10 + j.toNat by omega]
    have hs9 := hs j.toNat (by omega)
    have hw9 : r < t → _ := fun z => h4 r.toNat (by omega)
    have hg9 := bnd_rg (s := sI I) (i := i.toNat) r.toNat (by omega) (fun z hz => hs z (by omega))
    refine rch_run rfl (by decide) 2 (t' := (24, [some (vR 49), some (vI i), some (vI j), some (vI t), some (vI r)], [vI t, vI r], MW b J L)) (ps := []) rfl trivial ?_
    refine rch_br rfl (cd := t ≤ r) (t1 := (61, [some (vR 49), some (vI i), some (vI j), some (vI t), some (vI r)], [], MW b J L)) (t2 := (27, [some (vR 49), some (vI i), some (vI j), some (vI t), some (vI r)], [], MW b J L)) rfl (fun c24_1 => ?_) (fun c24_1 => ?_)
    · refine rch_run rfl (by decide) 2 (t' := (9, [some (vR 49), some (vI i), some (vI (j + 1)), some (vI t), some (vI r)], [], MW b J L)) (ps := [i32 (j + 1)]) rfl (by (try (have hb8 := hb9 (by omega); have hw8 := hw9 (by omega))); simp only [all_, i32, i64]; first | omega | (simp; done) | (simp; omega)) ?_
      refine rch_forget [3, 4] ?_
      show Rch l E 1 26 _ _ _ _ (9, [some (vR 49), some (vI i), some (vI (j + 1)), none, none], [], MW b J L)
      exact hk J h3 (fun m hm => h4 m (by rw [show (j + 1).toNat = j.toNat + 1 by omega, Nat.pow_succ] at hm; omega))
    · refine rch_run rfl (by decide) 21 (t' := (21, [some (vR 49), some (vI i), some (vI j), some (vI t), some (vI (r + 1))], [], MW b (upI J 56 (bOr t r).toNat ((J 56 r.toNat) + (J 53 ((i * 10) + j).toNat))) L)) (ps := [0 ≤ r ∧ r < ((512 : Nat) : Int), i32 (i * 10), i32 ((i * 10) + j), 0 ≤ (i * 10) + j ∧ (i * 10) + j < ((100 : Nat) : Int), i32 ((J 56 r.toNat) + (J 53 ((i * 10) + j).toNat)), 0 ≤ bOr t r ∧ bOr t r < ((512 : Nat) : Int), i32 (r + 1)]) rfl (by (try (have hb8 := hb9 (by omega); have hw8 := hw9 (by omega))); simp only [all_, i32, i64]; first | omega | (simp; done) | (simp; omega)) ?_
      have hb8 := hb9 (by omega)
      have hw8 := hw9 (by omega)
      refine ih (r + 1) _ (by omega) (by omega) (fun a z hz => by rw [upI_ne (by omega)]; exact h3 a z hz) (fun m hm => ?_) (by omega)
      by_cases e : m = 2 ^ j.toNat + r.toNat
      · rw [e, upI_eq rfl (by omega), bnd_add (by omega) (by omega), hw8, q53, q54]
      · rw [upI_ne (by omega)]; exact h4 m (by omega)

theorem lp_wbo (l : Launch) (E : AX) (b : Bool) (I L : Nat → Nat → Int) (i : Int) (hi : 0 ≤ i ∧ i < 10) (hs : ∀ j : Nat, (j : Int) < i → -10000 ≤ sI I i.toNat j ∧ sI I i.toNat j ≤ 10000) : ∀ (n9 : Nat) (j : Int) (J : Nat → Nat → Int), 0 ≤ j → j ≤ i → (∀ a j, a ≠ 56 → J a j = I a j) → (∀ m, m < 2 ^ j.toNat → J 56 m = bnd (sI I) i.toNat m) → i - j < (n9 : Int) → Rch l E 1 26 (MW b I L) 0 0 (fun rt w => ∃ J, rt = none ∧ w = MW b J L ∧ (∀ a j, a ≠ 56 → J a j = I a j) ∧ (∀ m, m < 2 ^ i.toNat → J 56 m = bnd (sI I) i.toNat m)) (9, [some (vR 49), some (vI i), some (vI j), none, none], [], MW b J L) := by
  intro n9
  induction n9 with
  | zero =>
    intro j J h1 h2 h3 h4 hm
    exfalso; omega
  | succ n9 ih =>
    intro j J h1 h2 h3 h4 hm
    refine rch_run rfl (by decide) 2 (t' := (11, [some (vR 49), some (vI i), some (vI j), none, none], [vI i, vI j], MW b J L)) (ps := []) rfl trivial ?_
    refine rch_br rfl (cd := i ≤ j) (t1 := (67, [some (vR 49), some (vI i), some (vI j), none, none], [], MW b J L)) (t2 := (14, [some (vR 49), some (vI i), some (vI j), none, none], [], MW b J L)) rfl (fun c11_1 => ?_) (fun c11_1 => ?_)
    · refine rch_ret rfl (rt := none) rfl trivial mw_c ?_
      exact ⟨J, rfl, rfl, h3, fun m hm => h4 m (by rw [show j = i by omega]; exact hm)⟩
    · refine rch_run rfl (by decide) 6 (t' := (21, [some (vR 49), some (vI i), some (vI j), some (vI (bShl 1 j)), some (vI 0)], [], MW b J L)) (ps := []) rfl trivial ?_
      rw [bShl_i (by omega) (by omega)]
      exact lp_wbi l E b I L i hi hs _ j _ (by omega) rfl (fun J h5 h6 => ih (j + 1) J (by omega) (by omega) h5 h6 (by omega)) 513 0 J (by omega) (Int.natCast_nonneg _) h3 (fun m hm => h4 m (by simpa using hm)) (by have := pow9 (t := j.toNat) (by omega); omega)

theorem k_weighBonds (l : Launch) (E : AX) (b : Bool) (I L : Nat → Nat → Int) (i : Int) (hi : 0 ≤ i ∧ i < 10) (hs : ∀ j : Nat, (j : Int) < i → -10000 ≤ sI I i.toNat j ∧ sI I i.toNat j ≤ 10000) : Con l E 1 26 [vR 49, vI i] (MW b I L) 0 0 (fun rt w => ∃ J, rt = none ∧ w = MW b J L ∧ (∀ a j, a ≠ 56 → J a j = I a j) ∧ (∀ m, m < 2 ^ i.toNat → J 56 m = bnd (sI I) i.toNat m)) := by
  refine con_ok (fun hw9 hs9 => ?_)
  refine con_intro (by decide) (Nat.le_of_ble_eq_true rfl) ?_
  show Rch l E 1 26 _ _ _ _ (0, [some (vR 49), some (vI i), none, none, none], [], MW b I L)
  refine rch_run rfl (by decide) 7 (t' := (9, [some (vR 49), some (vI i), some (vI 0), none, none], [], MW b (upI I 56 0 0) L)) (ps := [0 ≤ (0 : Int) ∧ (0 : Int) < ((512 : Nat) : Int)]) rfl (by simp only [all_, i32, i64]; first | omega | (simp; done) | (simp; omega)) ?_
  exact lp_wbo l E b I L i hi hs 11 0 _ (by omega) hi.1 (fun a j ha => upI_ne (by omega)) (fun m hm => by rw [show m = 0 by simp at hm; omega, upI_eq rfl rfl, bnd_0]) (by omega)

theorem lp_wsi (l : Launch) (E : AX) (b : Bool) (I L : Nat → Nat → Int) (hn : 0 ≤ I 49 3 ∧ I 49 3 ≤ 10) (hs : sR I (I 49 3).toNat) (hmk : ∀ i : Nat, (i : Int) < I 49 3 → (0 ≤ I 54 i ∧ I 54 i < 1024) ∧ 0 ≤ I 55 i ∧ I 55 i < 1024) (Φ : Option AV → AW → Prop) (i t : Int) (hi : 0 ≤ i ∧ i < I 49 3) (ht : t = ((2 ^ i.toNat : Nat) : Int)) (hk : ∀ J, (∀ a j, ¬ (56 ≤ a ∧ a ≤ 58) → J a j = I a j) → (∀ m, m < 2 ^ (i + 1).toNat → J 57 m = Wk (I 49 3).toNat (sI I) m z0 ∧ NDx (wtI I) (woI I) m (J 58 m)) → Rch l E 2 25 (MW b I L) 0 0 Φ (16, [some (vR 49), some (vI (i + 1)), none, none, none], [], MW b J L)) : ∀ (n9 : Nat) (r : Int) (J : Nat → Nat → Int), 0 ≤ r → r ≤ t → (∀ a j, ¬ (56 ≤ a ∧ a ≤ 58) → J a j = I a j) → (∀ m, m < 2 ^ i.toNat + r.toNat → J 57 m = Wk (I 49 3).toNat (sI I) m z0 ∧ NDx (wtI I) (woI I) m (J 58 m)) → (∀ m, m < 2 ^ i.toNat → J 56 m = bnd (sI I) i.toNat m) → t - r < (n9 : Int) → Rch l E 2 25 (MW b I L) 0 0 (Φ) (35, [some (vR 49), some (vI i), some (vI t), some (vI r), none], [], MW b J L) := by
  intro n9
  induction n9 with
  | zero =>
    intro r J h1 h2 h3 h4 h5 hm
    exfalso; omega
  | succ n9 ih =>
    intro r J h1 h2 h3 h4 h5 hm
    have hp9 := pow9 (t := i.toNat) (by omega)
    have hb9 : r < t → bOr t r = ((2 ^ i.toNat + r.toNat : Nat) : Int) := fun z => by rw [ht]; exact bOr_t (by omega) (by omega) (by omega)
    have q49 := h3 49 3 (by omega)
    have q54 := h3 54 i.toNat (by omega)
    have q55 := h3 55 i.toNat (by omega)
    have hm9 := hmk i.toNat (by omega)
    have hw9 : r < t → _ := fun z => h4 r.toNat (by omega)
    have hx9 : r < t → _ := fun z => h5 r.toNat (by omega)
    have hg9 := bnd_rg (s := sI I) (i := i.toNat) r.toNat (by omega) (fun z hz => hs _ z hz (by omega))
    have hg8 := Wk_rg (s := sI I) (n := (I 49 3).toNat) (by omega) hs r.toNat z0
    have ha9 : bAnd (J 55 i.toNat) r = bAnd (I 55 i.toNat) r := by rw [q55]
    refine rch_run rfl (by decide) 2 (t' := (37, [some (vR 49), some (vI i), some (vI t), some (vI r), none], [vI t, vI r], MW b J L)) (ps := []) rfl trivial ?_
    refine rch_br rfl (cd := t ≤ r) (t1 := (110, [some (vR 49), some (vI i), some (vI t), some (vI r), none], [], MW b J L)) (t2 := (40, [some (vR 49), some (vI i), some (vI t), some (vI r), none], [], MW b J L)) rfl (fun c37_1 => ?_) (fun c37_1 => ?_)
    · refine rch_run rfl (by decide) 2 (t' := (16, [some (vR 49), some (vI (i + 1)), some (vI t), some (vI r), none], [], MW b J L)) (ps := [i32 (i + 1)]) rfl (by (try (have hb8 := hb9 (by omega); have hw8 := (hw9 (by omega)).1; have hx8 := hx9 (by omega))); simp only [all_, i32, i64]; first | omega | (simp; done) | (simp; omega)) ?_
      refine rch_forget [2, 3, 4] ?_
      show Rch l E 2 25 _ _ _ _ (16, [some (vR 49), some (vI (i + 1)), none, none, none], [], MW b J L)
      exact hk J h3 (fun m hm => h4 m (by rw [show (i + 1).toNat = i.toNat + 1 by omega, Nat.pow_succ] at hm; omega))
    · refine rch_run rfl (by decide) 21 (t' := (69, [some (vR 49), some (vI i), some (vI t), some (vI r), none], [vI (bAnd (J 55 i.toNat) r)], MW b (upI J 57 (bOr t r).toNat ((J 57 r.toNat) + (J 56 r.toNat))) L)) (ps := [0 ≤ r ∧ r < ((1024 : Nat) : Int), 0 ≤ r ∧ r < ((512 : Nat) : Int), i32 ((J 57 r.toNat) + (J 56 r.toNat)), 0 ≤ bOr t r ∧ bOr t r < ((1024 : Nat) : Int), 0 ≤ i ∧ i < ((10 : Nat) : Int)]) rfl (by (try (have hb8 := hb9 (by omega); have hw8 := (hw9 (by omega)).1; have hx8 := hx9 (by omega))); simp only [all_, i32, i64]; first | omega | (simp; done) | (simp; omega)) ?_
      refine rch_br rfl (cd := bAnd (J 55 i.toNat) r ≠ 0) (t1 := (76, [some (vR 49), some (vI i), some (vI t), some (vI r), none], [], MW b (upI J 57 (bOr t r).toNat ((J 57 r.toNat) + (J 56 r.toNat))) L)) (t2 := (72, [some (vR 49), some (vI i), some (vI t), some (vI r), none], [], MW b (upI J 57 (bOr t r).toNat ((J 57 r.toNat) + (J 56 r.toNat))) L)) rfl (fun c69_2 => ?_) (fun c69_2 => ?_)
      · refine rch_run rfl (by decide) 21 (t' := (35, [some (vR 49), some (vI i), some (vI t), some (vI (r + 1)), some (vI 1048576)], [], MW b (upI (upI J 57 (bOr t r).toNat ((J 57 r.toNat) + (J 56 r.toNat))) 58 (bOr t r).toNat (bOr (bOr (J 58 r.toNat) (J 54 i.toNat)) 1048576)) L)) (ps := [0 ≤ r ∧ r < ((1024 : Nat) : Int), 0 ≤ i ∧ i < ((10 : Nat) : Int), 0 ≤ bOr t r ∧ bOr t r < ((1024 : Nat) : Int), i32 (r + 1)]) rfl (by (try (have hb8 := hb9 (by omega); have hw8 := (hw9 (by omega)).1; have hx8 := hx9 (by omega))); simp only [all_, i32, i64]; first | omega | (simp; done) | (simp; omega)) ?_
        refine rch_forget [4] ?_
        show Rch l E 2 25 _ _ _ _ (35, [some (vR 49), some (vI i), some (vI t), some (vI (r + 1)), none], [], MW b (upI (upI J 57 (bOr t r).toNat ((J 57 r.toNat) + (J 56 r.toNat))) 58 (bOr t r).toNat (bOr (bOr (J 58 r.toNat) (J 54 i.toNat)) 1048576)) L)
        have hb8 := hb9 (by omega)
        have hw8 := hw9 (by omega)
        have hx8 := hx9 (by omega)
        have hr9 : r.toNat < 2 ^ i.toNat := by omega
        refine ih (r + 1) _ (by omega) (by omega) (fun a z hz => by rw [upI_ne (by omega), upI_ne (by omega)]; exact h3 a z hz) (fun m hm => ?_) (fun m hm => by rw [upI_ne (by omega), upI_ne (by omega)]; exact h5 m hm) (by omega)
        by_cases e : m = 2 ^ i.toNat + r.toNat
        · refine ⟨?_, ?_⟩
          · rw [e, upI_ne (by omega), upI_eq rfl (by omega), Wk_add hr9 (by omega), hw8.1, hx8]
          · rw [e, upI_eq rfl (by omega), q54]
            refine NDx_add (by omega) hr9 hw8.2 hm9.1 (fun j => Iff.rfl) ?_
            exact Or.inr ⟨rfl, (and_ex (x := I 55 i.toNat) (y := r) ⟨by omega, by omega⟩ ⟨by omega, by omega⟩ (by omega)).elim (fun k hk => ⟨k, tb_bd hr9 hk.1, hk.1, hk.2⟩)⟩
        · rw [upI_ne (by omega), upI_ne (by omega), upI_ne (by omega), upI_ne (by omega)]; exact h4 m (by omega)
      · refine rch_run rfl (by decide) 22 (t' := (35, [some (vR 49), some (vI i), some (vI t), some (vI (r + 1)), some (vI 0)], [], MW b (upI (upI J 57 (bOr t r).toNat ((J 57 r.toNat) + (J 56 r.toNat))) 58 (bOr t r).toNat (bOr (bOr (J 58 r.toNat) (J 54 i.toNat)) 0)) L)) (ps := [0 ≤ r ∧ r < ((1024 : Nat) : Int), 0 ≤ i ∧ i < ((10 : Nat) : Int), 0 ≤ bOr t r ∧ bOr t r < ((1024 : Nat) : Int), i32 (r + 1)]) rfl (by (try (have hb8 := hb9 (by omega); have hw8 := (hw9 (by omega)).1; have hx8 := hx9 (by omega))); simp only [all_, i32, i64]; first | omega | (simp; done) | (simp; omega)) ?_
        refine rch_forget [4] ?_
        show Rch l E 2 25 _ _ _ _ (35, [some (vR 49), some (vI i), some (vI t), some (vI (r + 1)), none], [], MW b (upI (upI J 57 (bOr t r).toNat ((J 57 r.toNat) + (J 56 r.toNat))) 58 (bOr t r).toNat (bOr (bOr (J 58 r.toNat) (J 54 i.toNat)) 0)) L)
        have hb8 := hb9 (by omega)
        have hw8 := hw9 (by omega)
        have hx8 := hx9 (by omega)
        have hr9 : r.toNat < 2 ^ i.toNat := by omega
        refine ih (r + 1) _ (by omega) (by omega) (fun a z hz => by rw [upI_ne (by omega), upI_ne (by omega)]; exact h3 a z hz) (fun m hm => ?_) (fun m hm => by rw [upI_ne (by omega), upI_ne (by omega)]; exact h5 m hm) (by omega)
        by_cases e : m = 2 ^ i.toNat + r.toNat
        · refine ⟨?_, ?_⟩
          · rw [e, upI_ne (by omega), upI_eq rfl (by omega), Wk_add hr9 (by omega), hw8.1, hx8]
          · rw [e, upI_eq rfl (by omega), q54]
            refine NDx_add (by omega) hr9 hw8.2 hm9.1 (fun j => Iff.rfl) ?_
            exact Or.inl ⟨rfl, fun k _ hk => and_no ⟨by omega, by omega⟩ ⟨by omega, by omega⟩ (by omega) k hk⟩
        · rw [upI_ne (by omega), upI_ne (by omega), upI_ne (by omega), upI_ne (by omega)]; exact h4 m (by omega)

theorem lp_wso (l : Launch) (E : AX) (b : Bool) (I L : Nat → Nat → Int) (hn : 0 ≤ I 49 3 ∧ I 49 3 ≤ 10) (hs : sR I (I 49 3).toNat) (hmk : ∀ i : Nat, (i : Int) < I 49 3 → (0 ≤ I 54 i ∧ I 54 i < 1024) ∧ 0 ≤ I 55 i ∧ I 55 i < 1024) : ∀ (n9 : Nat) (i : Int) (J : Nat → Nat → Int), 0 ≤ i → i ≤ I 49 3 → (∀ a j, ¬ (56 ≤ a ∧ a ≤ 58) → J a j = I a j) → (∀ m, m < 2 ^ i.toNat → J 57 m = Wk (I 49 3).toNat (sI I) m z0 ∧ NDx (wtI I) (woI I) m (J 58 m)) → I 49 3 - i < (n9 : Int) → Rch l E 2 25 (MW b I L) 0 0 (fun rt w => ∃ J, rt = none ∧ w = MW b J L ∧ (∀ a j, ¬ (56 ≤ a ∧ a ≤ 58) → J a j = I a j) ∧ (∀ m, m < 2 ^ (I 49 3).toNat → J 57 m = Wk (I 49 3).toNat (sI I) m z0 ∧ NDx (wtI I) (woI I) m (J 58 m))) (16, [some (vR 49), some (vI i), none, none, none], [], MW b J L) := by
  intro n9
  induction n9 with
  | zero =>
    intro i J h1 h2 h3 h4 hm
    exfalso; omega
  | succ n9 ih =>
    intro i J h1 h2 h3 h4 hm
    have q49 := h3 49 3 (by omega)
    refine rch_run rfl (by decide) 3 (t' := (21, [some (vR 49), some (vI i), none, none, none], [vI (J 49 3), vI i], MW b J L)) (ps := []) rfl trivial ?_
    refine rch_br rfl (cd := J 49 3 ≤ i) (t1 := (116, [some (vR 49), some (vI i), none, none, none], [], MW b J L)) (t2 := (24, [some (vR 49), some (vI i), none, none, none], [], MW b J L)) rfl (fun c21_1 => ?_) (fun c21_1 => ?_)
    · refine rch_ret rfl (rt := none) rfl trivial mw_c ?_
      exact ⟨J, rfl, rfl, h3, fun m hm => h4 m (by rw [show i = I 49 3 by omega]; exact hm)⟩
    · refine rch_run rfl (by decide) 2 (t' := (26, [some (vR 49), some (vI i), none, none, none], [vI i, vR 49], MW b J L)) (ps := []) rfl trivial ?_
      refine rch_call (h' := 1) (k' := 26) (as := [vR 49, vI i]) (t1 := (29, [some (vR 49), some (vI i), none, none, none], [], MW b J L)) rfl rfl (k_weighBonds l E b J L i (by omega) (fun j hj => by have := hs i.toNat j (by omega) (by omega); unfold sI at this ⊢; rw [h3 53 _ (by omega)]; exact this)) (by decide) mw_le ?_
      rintro rt9 w9 (⟨J2, rfl, rfl, f2, e2⟩) _ _
      show Rch l E 2 25 _ _ _ _ (29, [some (vR 49), some (vI i), none, none, none], [], MW b J2 L)
      refine rch_run rfl (by decide) 6 (t' := (35, [some (vR 49), some (vI i), some (vI (bShl 1 i)), some (vI 0), none], [], MW b J2 L)) (ps := []) rfl trivial ?_
      rw [bShl_i (by omega) (by omega)]
      exact lp_wsi l E b I L hn hs hmk _ i _ (by omega) rfl (fun J h5 h6 => ih (i + 1) J (by omega) (by omega) h5 h6 (by omega)) 513 0 J2 (by omega) (Int.natCast_nonneg _) (fun a z hz => by rw [f2 a z (by omega)]; exact h3 a z hz) (fun m hm => by rw [f2 57 m (by omega), f2 58 m (by omega)]; exact h4 m (by simpa using hm)) (fun m hm => by rw [e2 m hm]; unfold bnd sI; exact sm_c (fun z _ => by show (if _ then J 53 _ else _) = if _ then I 53 _ else _; rw [h3 53 _ (by omega)])) (by have := pow9 (t := i.toNat) (by omega); omega)

theorem k_weighSets (l : Launch) (E : AX) (b : Bool) (I L : Nat → Nat → Int) (hn : 0 ≤ I 49 3 ∧ I 49 3 ≤ 10) (hs : sR I (I 49 3).toNat) (hmk : ∀ i : Nat, (i : Int) < I 49 3 → (0 ≤ I 54 i ∧ I 54 i < 1024) ∧ 0 ≤ I 55 i ∧ I 55 i < 1024) : Con l E 2 25 [vR 49] (MW b I L) 0 0 (fun rt w => ∃ J, rt = none ∧ w = MW b J L ∧ (∀ a j, ¬ (56 ≤ a ∧ a ≤ 58) → J a j = I a j) ∧ (∀ m, m < 2 ^ (I 49 3).toNat → J 57 m = Wk (I 49 3).toNat (sI I) m z0 ∧ NDx (wtI I) (woI I) m (J 58 m))) := by
  refine con_ok (fun hw9 hs9 => ?_)
  refine con_intro (by decide) (Nat.le_of_ble_eq_true rfl) ?_
  show Rch l E 2 25 _ _ _ _ (0, [some (vR 49), none, none, none, none], [], MW b I L)
  refine rch_run rfl (by decide) 12 (t' := (16, [some (vR 49), some (vI 0), none, none, none], [], MW b (upI (upI I 57 0 0) 58 0 0) L)) (ps := [0 ≤ (0 : Int) ∧ (0 : Int) < ((1024 : Nat) : Int), 0 ≤ (0 : Int) ∧ (0 : Int) < ((1024 : Nat) : Int)]) rfl (by simp only [all_, i32, i64]; first | omega | (simp; done) | (simp; omega)) ?_
  exact lp_wso l E b I L hn hs hmk 11 0 _ (by omega) hn.1 (fun a j ha => by rw [upI_ne (by omega), upI_ne (by omega)]) (fun m hm => by rw [show m = 0 by simp at hm; omega]; exact ⟨by rw [upI_ne (by omega), upI_eq rfl rfl, Wk_0], by rw [upI_eq rfl rfl]; exact NDx_0 _ _⟩) (by omega)
