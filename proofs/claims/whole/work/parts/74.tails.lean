theorem lp_cti (l : Launch) (E : AX) (b : Bool) (I L : Nat → Nat → Int) (s : Nat → Nat → Int) (wt wo : Nat → Nat → Prop) (hn : 1 ≤ I 49 3 ∧ I 49 3 ≤ 10) (hs : ∀ i j, j < i → i < (I 49 3).toNat → -10000 ≤ s i j ∧ s i j ≤ 10000) (hW : ∀ m, m < 2 ^ (I 49 3).toNat → I 57 m = Wk (I 49 3).toNat s m z0 ∧ NDx wt wo m (I 58 m)) (Φ : Option AV → AW → Prop) (i t : Int) (hi : 0 ≤ i ∧ i < I 49 3 - 1) (ht : t = ((2 ^ i.toNat : Nat) : Int)) (hk : ∀ M : Nat → Nat → Int, (∀ a j, ¬ (a = 59 ∨ a = 60) → M a j = L a j) → (∀ m, m < 2 ^ (i + 1).toNat → Tl wt wo (I 49 3).toNat s m (M 59 m) ∧ M 60 m = On (I 49 3).toNat m) → Rch l E 3 27 (MW b I L) 0 0 Φ (16, [some (vR 49), some (vI (i + 1)), none, none, none, none], [], MW b I M)) : ∀ (n9 : Nat) (r : Int) (M : Nat → Nat → Int), 0 ≤ r → r ≤ t → (∀ a j, ¬ (a = 59 ∨ a = 60) → M a j = L a j) → (∀ m, m < 2 ^ i.toNat + r.toNat → Tl wt wo (I 49 3).toNat s m (M 59 m) ∧ M 60 m = On (I 49 3).toNat m) → t - r < (n9 : Int) → Rch l E 3 27 (MW b I L) 0 0 (Φ) (32, [some (vR 49), some (vI i), some (vI t), some (vI r), none, none], [], MW b I M) := by
  intro n9
  induction n9 with
  | zero =>
    intro r M h1 h2 h3 h4 hm
    exfalso; omega
  | succ n9 ih =>
    intro r M h1 h2 h3 h4 hm
    have hp9 : 2 ^ i.toNat + 2 ^ i.toNat ≤ 512 := pow_le (t := 9) (by omega)
    have hb9 : r < t → bOr t r = ((2 ^ i.toNat + r.toNat : Nat) : Int) := fun z => by rw [ht]; exact bOr_t (by omega) (by omega) (by omega)
    have hw9 : r < t → _ := fun z => h4 r.toNat (by omega)
    have hsh : lShl 1 (4 * i) = ((16 ^ i.toNat : Nat) : Int) := by
      have e16 : ((2 ^ (4 * i).toNat : Nat) : Int) = ((16 ^ i.toNat : Nat) : Int) := by rw [show (4 * i).toNat = 4 * i.toNat by omega, Nat.pow_mul]
      have h16 := p16_10 (n := i.toNat) (by omega)
      have h17 := p16_pos i.toNat
      rw [lShl_n (by unfold i64; omega) (by omega) (by omega) (by rw [e16]; unfold i64; omega), e16]; omega
    have hor : r < t → lOr (M 60 r.toNat) (lShl 1 (4 * i)) = On (I 49 3).toNat (2 ^ i.toNat + r.toNat) := by
      intro z
      have h16 := p16_10 (n := i.toNat) (by omega)
      have h17 := p16_pos i.toNat
      have h18 := On_lt (n := (I 49 3).toNat) (m := r.toNat) (j := i.toNat) (by omega) (by omega)
      rw [(hw9 z).2, hsh, lOr_n ⟨h18.1, by omega⟩ ⟨by omega, by omega⟩, On_add (by omega) (by omega), Int.toNat_natCast, Nat.or_comm]
      have e16 : (16 ^ i.toNat : Nat) = 2 ^ (4 * i.toNat) := by rw [Nat.pow_mul]
      rw [e16, or_add (by rw [← e16]; omega)]
      omega
    refine rch_run rfl (by decide) 2 (t' := (34, [some (vR 49), some (vI i), some (vI t), some (vI r), none, none], [vI t, vI r], MW b I M)) (ps := []) rfl trivial ?_
    refine rch_br rfl (cd := t ≤ r) (t1 := (105, [some (vR 49), some (vI i), some (vI t), some (vI r), none, none], [], MW b I M)) (t2 := (37, [some (vR 49), some (vI i), some (vI t), some (vI r), none, none], [], MW b I M)) rfl (fun c34_1 => ?_) (fun c34_1 => ?_)
    · refine rch_run rfl (by decide) 2 (t' := (16, [some (vR 49), some (vI (i + 1)), some (vI t), some (vI r), none, none], [], MW b I M)) (ps := [i32 (i + 1)]) rfl (by (try (have hb8 := hb9 (by omega))); (try have hr7 := hr8 (by omega)); simp only [all_, i32, i64]; (try rw [hup]); omega) ?_
      refine rch_forget [2, 3, 4] ?_
      show Rch l E 3 27 _ _ _ _ (16, [some (vR 49), some (vI (i + 1)), none, none, none, none], [], MW b I M)
      exact hk M h3 (fun m hm => h4 m (by rw [show (i + 1).toNat = i.toNat + 1 by omega, Nat.pow_succ] at hm; omega))
    · refine rch_run rfl (by decide) 19 (t' := (60, [some (vR 49), some (vI i), some (vI t), some (vI r), none, none], [vI r, vI t, vR 49], MW b I (upI M 60 (bOr t r).toNat (lOr (M 60 r.toNat) (lShl 1 (4 * i)))))) (ps := [0 ≤ r ∧ r < ((512 : Nat) : Int), i32 (4 * i), 0 ≤ bOr t r ∧ bOr t r < ((512 : Nat) : Int)]) rfl (by (try (have hb8 := hb9 (by omega))); (try have hr7 := hr8 (by omega)); simp only [all_, i32, i64]; (try rw [hup]); omega) ?_
      refine rch_call (h' := 2) (k' := 28) (as := [vR 49, vI t, vI r]) (t1 := (63, [some (vR 49), some (vI i), some (vI t), some (vI r), none, none], [], MW b I (upI M 60 (bOr t r).toNat (lOr (M 60 r.toNat) (lShl 1 (4 * i)))))) rfl rfl (k_greatestKey l E b I (upI M 60 (bOr t r).toNat (lOr (M 60 r.toNat) (lShl 1 (4 * i)))) (I 49 3).toNat i.toNat s wt wo t r (by omega) (by omega) ht (by omega) hs (fun m hm => by rw [upI_ne (by omega)]; exact (h4 m (by omega)).1) hW) (by decide) mw_le ?_
      rintro rt9 w9 (⟨G9, rfl, rfl, hG9⟩) _ _
      show Rch l E 3 27 _ _ _ _ (63, [some (vR 49), some (vI i), some (vI t), some (vI r), none, none], [vL G9], MW b I (upI M 60 (bOr t r).toNat (lOr (M 60 r.toNat) (lShl 1 (4 * i)))))
      have hz9 := lcmp0 G9 (-9223372036854775808)
      have hor8 := hor (by omega)
      have hb7 := hb9 (by omega)
      have hkn : 2 ^ i.toNat + 2 ^ i.toNat ≤ 2 ^ (I 49 3).toNat := pow_le (by omega)
      have hr9 := fun z => Bst_rg (by omega) hs (by omega) hG9 z
      have ho9 := On_rg (n := (I 49 3).toNat) (by omega) (2 ^ i.toNat + r.toNat)
      have hup : (upI M 60 (bOr t r).toNat (lOr (M 60 r.toNat) (lShl 1 (4 * i)))) 60 (bOr t r).toNat = On (I 49 3).toNat (2 ^ i.toNat + r.toNat) := by rw [upI_eq rfl rfl, hor8]
      have hr8 : G9 ≠ -9223372036854775808 → _ := hr9
      refine rch_run rfl (by decide) 9 (t' := (78, [some (vR 49), some (vI i), some (vI t), some (vI r), some (vL G9), none], [vI (lCmp G9 (-9223372036854775808)), vI (bOr t r), vR 59], MW b I (upI M 60 (bOr t r).toNat (lOr (M 60 r.toNat) (lShl 1 (4 * i)))))) (ps := []) rfl trivial ?_
      refine rch_br rfl (cd := lCmp G9 (-9223372036854775808) ≠ 0) (t1 := (87, [some (vR 49), some (vI i), some (vI t), some (vI r), some (vL G9), none], [vI (bOr t r), vR 59], MW b I (upI M 60 (bOr t r).toNat (lOr (M 60 r.toNat) (lShl 1 (4 * i)))))) (t2 := (81, [some (vR 49), some (vI i), some (vI t), some (vI r), some (vL G9), none], [vI (bOr t r), vR 59], MW b I (upI M 60 (bOr t r).toNat (lOr (M 60 r.toNat) (lShl 1 (4 * i)))))) rfl (fun c78_2 => ?_) (fun c78_2 => ?_)
      · refine rch_run rfl (by decide) 11 (t' := (32, [some (vR 49), some (vI i), some (vI t), some (vI (r + 1)), some (vL G9), none], [], MW b I (upI (upI M 60 (bOr t r).toNat (lOr (M 60 r.toNat) (lShl 1 (4 * i)))) 59 (bOr t r).toNat (G9 + ((upI M 60 (bOr t r).toNat (lOr (M 60 r.toNat) (lShl 1 (4 * i)))) 60 (bOr t r).toNat))))) (ps := [0 ≤ bOr t r ∧ bOr t r < ((512 : Nat) : Int), i64 (G9 + ((upI M 60 (bOr t r).toNat (lOr (M 60 r.toNat) (lShl 1 (4 * i)))) 60 (bOr t r).toNat)), 0 ≤ bOr t r ∧ bOr t r < ((512 : Nat) : Int), i32 (r + 1)]) rfl (by (try (have hb8 := hb9 (by omega))); (try have hr7 := hr8 (by omega)); simp only [all_, i32, i64]; (try rw [hup]); omega) ?_
        refine rch_forget [4] ?_
        show Rch l E 3 27 _ _ _ _ (32, [some (vR 49), some (vI i), some (vI t), some (vI (r + 1)), none, none], [], MW b I (upI (upI M 60 (bOr t r).toNat (lOr (M 60 r.toNat) (lShl 1 (4 * i)))) 59 (bOr t r).toNat (G9 + ((upI M 60 (bOr t r).toNat (lOr (M 60 r.toNat) (lShl 1 (4 * i)))) 60 (bOr t r).toNat))))
        refine ih (r + 1) _ (by omega) (by omega) (fun a z hz => by rw [upI_ne (by omega), upI_ne (by omega)]; exact h3 a z hz) (fun m hm => ?_) (by omega)
        by_cases e : m = 2 ^ i.toNat + r.toNat
        · refine ⟨?_, by rw [e, upI_ne (by omega), upI_eq rfl (by omega), hor8]⟩
          rw [e, upI_eq rfl (by omega)]
          exact ⟨G9, hG9, Or.inr ⟨by unfold NV; omega, by rw [hup]⟩⟩
        · rw [upI_ne (by omega), upI_ne (by omega), upI_ne (by omega), upI_ne (by omega)]; exact h4 m (by omega)
      · refine rch_run rfl (by decide) 5 (t' := (32, [some (vR 49), some (vI i), some (vI t), some (vI (r + 1)), some (vL G9), none], [], MW b I (upI (upI M 60 (bOr t r).toNat (lOr (M 60 r.toNat) (lShl 1 (4 * i)))) 59 (bOr t r).toNat (-9223372036854775808)))) (ps := [0 ≤ bOr t r ∧ bOr t r < ((512 : Nat) : Int), i32 (r + 1)]) rfl (by (try (have hb8 := hb9 (by omega))); (try have hr7 := hr8 (by omega)); simp only [all_, i32, i64]; (try rw [hup]); omega) ?_
        refine rch_forget [4] ?_
        show Rch l E 3 27 _ _ _ _ (32, [some (vR 49), some (vI i), some (vI t), some (vI (r + 1)), none, none], [], MW b I (upI (upI M 60 (bOr t r).toNat (lOr (M 60 r.toNat) (lShl 1 (4 * i)))) 59 (bOr t r).toNat (-9223372036854775808)))
        refine ih (r + 1) _ (by omega) (by omega) (fun a z hz => by rw [upI_ne (by omega), upI_ne (by omega)]; exact h3 a z hz) (fun m hm => ?_) (by omega)
        by_cases e : m = 2 ^ i.toNat + r.toNat
        · refine ⟨?_, by rw [e, upI_ne (by omega), upI_eq rfl (by omega), hor8]⟩
          rw [e, upI_eq rfl (by omega)]
          exact ⟨G9, hG9, Or.inl ⟨by unfold NV; omega, rfl⟩⟩
        · rw [upI_ne (by omega), upI_ne (by omega), upI_ne (by omega), upI_ne (by omega)]; exact h4 m (by omega)

theorem lp_cto (l : Launch) (E : AX) (b : Bool) (I L : Nat → Nat → Int) (s : Nat → Nat → Int) (wt wo : Nat → Nat → Prop) (hn : 1 ≤ I 49 3 ∧ I 49 3 ≤ 10) (hs : ∀ i j, j < i → i < (I 49 3).toNat → -10000 ≤ s i j ∧ s i j ≤ 10000) (hW : ∀ m, m < 2 ^ (I 49 3).toNat → I 57 m = Wk (I 49 3).toNat s m z0 ∧ NDx wt wo m (I 58 m)) : ∀ (n9 : Nat) (i : Int) (M : Nat → Nat → Int), 0 ≤ i → i ≤ I 49 3 - 1 → (∀ a j, ¬ (a = 59 ∨ a = 60) → M a j = L a j) → (∀ m, m < 2 ^ i.toNat → Tl wt wo (I 49 3).toNat s m (M 59 m) ∧ M 60 m = On (I 49 3).toNat m) → I 49 3 - i < (n9 : Int) → Rch l E 3 27 (MW b I L) 0 0 (fun rt w => ∃ M, rt = none ∧ w = MW b I M ∧ (∀ a j, ¬ (a = 59 ∨ a = 60) → M a j = L a j) ∧ (∀ m, m < 2 ^ ((I 49 3).toNat - 1) → Tl wt wo (I 49 3).toNat s m (M 59 m) ∧ M 60 m = On (I 49 3).toNat m)) (16, [some (vR 49), some (vI i), none, none, none, none], [], MW b I M) := by
  intro n9
  induction n9 with
  | zero =>
    intro i M h1 h2 h3 h4 hm
    exfalso; omega
  | succ n9 ih =>
    intro i M h1 h2 h3 h4 hm
    refine rch_run rfl (by decide) 5 (t' := (23, [some (vR 49), some (vI i), none, none, none, none], [vI ((I 49 3) - 1), vI i], MW b I M)) (ps := [i32 ((I 49 3) - 1)]) rfl (by simp only [all_, i32, i64]; first | omega | (simp; done) | (simp; omega)) ?_
    refine rch_br rfl (cd := (I 49 3) - 1 ≤ i) (t1 := (111, [some (vR 49), some (vI i), none, none, none, none], [], MW b I M)) (t2 := (26, [some (vR 49), some (vI i), none, none, none, none], [], MW b I M)) rfl (fun c23_1 => ?_) (fun c23_1 => ?_)
    · refine rch_ret rfl (rt := none) rfl trivial mw_c ?_
      exact ⟨M, rfl, rfl, h3, fun m hm => h4 m (by rw [show i.toNat = (I 49 3).toNat - 1 by omega]; exact hm)⟩
    · refine rch_run rfl (by decide) 6 (t' := (32, [some (vR 49), some (vI i), some (vI (bShl 1 i)), some (vI 0), none, none], [], MW b I M)) (ps := []) rfl trivial ?_
      rw [bShl_i (by omega) (by omega)]
      exact lp_cti l E b I L s wt wo hn hs hW _ i _ (by omega) rfl (fun M h5 h6 => ih (i + 1) M (by omega) (by omega) h5 h6 (by omega)) 513 0 M (by omega) (Int.natCast_nonneg _) h3 (fun m hm => h4 m (by simpa using hm)) (by have := pow9 (t := i.toNat) (by omega); omega)

theorem k_chooseTails (l : Launch) (E : AX) (b : Bool) (I L : Nat → Nat → Int) (s : Nat → Nat → Int) (wt wo : Nat → Nat → Prop) (hn : 1 ≤ I 49 3 ∧ I 49 3 ≤ 10) (hs : ∀ i j, j < i → i < (I 49 3).toNat → -10000 ≤ s i j ∧ s i j ≤ 10000) (hW : ∀ m, m < 2 ^ (I 49 3).toNat → I 57 m = Wk (I 49 3).toNat s m z0 ∧ NDx wt wo m (I 58 m)) : Con l E 3 27 [vR 49] (MW b I L) 0 0 (fun rt w => ∃ M, rt = none ∧ w = MW b I M ∧ (∀ a j, ¬ (a = 59 ∨ a = 60) → M a j = L a j) ∧ (∀ m, m < 2 ^ ((I 49 3).toNat - 1) → Tl wt wo (I 49 3).toNat s m (M 59 m) ∧ M 60 m = On (I 49 3).toNat m)) := by
  refine con_ok (fun hw9 hs9 => ?_)
  refine con_intro (by decide) (Nat.le_of_ble_eq_true rfl) ?_
  show Rch l E 3 27 _ _ _ _ (0, [some (vR 49), none, none, none, none, none], [], MW b I L)
  refine rch_run rfl (by decide) 12 (t' := (16, [some (vR 49), some (vI 0), none, none, none, none], [], MW b I (upI (upI L 59 0 0) 60 0 0))) (ps := [0 ≤ (0 : Int) ∧ (0 : Int) < ((512 : Nat) : Int), 0 ≤ (0 : Int) ∧ (0 : Int) < ((512 : Nat) : Int)]) rfl (by simp only [all_, i32, i64]; first | omega | (simp; done) | (simp; omega)) ?_
  exact lp_cto l E b I L s wt wo hn hs hW 12 0 _ (by omega) (by omega) (fun a j ha => by rw [upI_ne (by omega), upI_ne (by omega)]) (fun m hm => by rw [show m = 0 by simp at hm; omega]; exact ⟨by rw [upI_ne (by omega), upI_eq rfl rfl]; exact ⟨0, Bst_0 _ _ _ _, Or.inr ⟨by unfold NV; omega, by rw [On_0]; rfl⟩⟩, by rw [upI_eq rfl rfl, On_0]⟩) (by omega)

theorem lp_rk (l : Launch) (E : AX) (b : Bool) (I L : Nat → Nat → Int) (K : Int) (hn : 0 ≤ I 49 3 ∧ I 49 3 ≤ 10) (hK : i64 K) (hro : ∀ i : Nat, (i : Int) < I 49 3 → 0 ≤ I 51 i ∧ I 51 i < 10) (hinj : ∀ i j : Nat, (i : Int) < I 49 3 → (j : Int) < I 49 3 → I 51 i = I 51 j → i = j) : ∀ (n9 : Nat) (i : Int) (J : Nat → Nat → Int), 0 ≤ i → i ≤ I 49 3 → RdK I J K i.toNat → I 49 3 - i < (n9 : Int) → Rch l E 1 29 (MW b I L) 0 0 (fun rt w => ∃ J, rt = none ∧ w = MW b J L ∧ RdK I J K (I 49 3).toNat) (11, [some (vR 49), some (vL K), none, some (vI i), none], [], MW b J L) := by
  intro n9
  induction n9 with
  | zero =>
    intro i J h1 h2 h3 hm
    exfalso; omega
  | succ n9 ih =>
    intro i J h1 h2 h3 hm
    have q49 := h3.1 49 3 (by omega)
    have q51 := h3.1 51 i.toNat (by omega)
    have hro9 : i < I 49 3 → _ := fun z => hro i.toNat (by omega)
    have hd9 : i < I 49 3 → bAnd (w32 (lShr K (4 * i))) 15 = K / ((16 ^ i.toNat : Nat) : Int) % 16 := fun z => by
      rw [bAnd_15, lShr_n hK (by omega) (by omega), show (4 * i).toNat = 4 * i.toNat by omega, Nat.pow_mul]
    have hdr : i < I 49 3 → 0 ≤ bAnd (w32 (lShr K (4 * i))) 15 ∧ bAnd (w32 (lShr K (4 * i))) 15 ≤ 15 := fun z => by rw [hd9 z]; omega
    refine rch_run rfl (by decide) 3 (t' := (16, [some (vR 49), some (vL K), none, some (vI i), none], [vI (J 49 3), vI i], MW b J L)) (ps := []) rfl trivial ?_
    refine rch_br rfl (cd := J 49 3 ≤ i) (t1 := (64, [some (vR 49), some (vL K), none, some (vI i), none], [], MW b J L)) (t2 := (19, [some (vR 49), some (vL K), none, some (vI i), none], [], MW b J L)) rfl (fun c16_1 => ?_) (fun c16_1 => ?_)
    · refine rch_ret rfl (rt := none) rfl trivial mw_c ?_
      exact ⟨J, rfl, rfl, by rw [show (I 49 3).toNat = i.toNat by omega]; exact h3⟩
    · refine rch_run rfl (by decide) 25 (t' := (58, [some (vR 49), some (vL K), none, some (vI i), some (vI (bAnd (w32 (lShr K (4 * i))) 15))], [], MW b (upI (upI J 50 (J 51 i.toNat).toNat (bAnd (w32 (lShr K (4 * i))) 15)) 49 1 (iMax (J 49 1) ((bAnd (w32 (lShr K (4 * i))) 15) + 1))) L)) (ps := [i32 (4 * i), 0 ≤ i ∧ i < ((10 : Nat) : Int), 0 ≤ J 51 i.toNat ∧ J 51 i.toNat < ((10 : Nat) : Int), i32 ((bAnd (w32 (lShr K (4 * i))) 15) + 1)]) rfl (by (try (have hr8 := hro9 (by omega); have hd8 := hdr (by omega))); simp only [all_, i32, i64]; first | omega | (simp; done) | (simp; omega)) ?_
      refine rch_run rfl (by decide) 2 (t' := (11, [some (vR 49), some (vL K), none, some (vI (i + 1)), some (vI (bAnd (w32 (lShr K (4 * i))) 15))], [], MW b (upI (upI J 50 (J 51 i.toNat).toNat (bAnd (w32 (lShr K (4 * i))) 15)) 49 1 (iMax (J 49 1) ((bAnd (w32 (lShr K (4 * i))) 15) + 1))) L)) (ps := [i32 (i + 1)]) rfl (by (try (have hr8 := hro9 (by omega); have hd8 := hdr (by omega))); simp only [all_, i32, i64]; first | omega | (simp; done) | (simp; omega)) ?_
      refine rch_forget [4] ?_
      show Rch l E 1 29 _ _ _ _ (11, [some (vR 49), some (vL K), none, some (vI (i + 1)), none], [], MW b (upI (upI J 50 (J 51 i.toNat).toNat (bAnd (w32 (lShr K (4 * i))) 15)) 49 1 (iMax (J 49 1) ((bAnd (w32 (lShr K (4 * i))) 15) + 1))) L)
      exact ih (i + 1) _ (by omega) (by omega) (by rw [show (i + 1).toNat = i.toNat + 1 by omega]; exact RdK_s h3 (by omega) hro hinj hd9 q51) (by omega)

theorem k_readKey (l : Launch) (E : AX) (b : Bool) (I L : Nat → Nat → Int) (K : Int) (hn : 0 ≤ I 49 3 ∧ I 49 3 ≤ 10) (hK : i64 K) (hro : ∀ i : Nat, (i : Int) < I 49 3 → 0 ≤ I 51 i ∧ I 51 i < 10) (hinj : ∀ i j : Nat, (i : Int) < I 49 3 → (j : Int) < I 49 3 → I 51 i = I 51 j → i = j) : Con l E 1 29 [vR 49, vL K] (MW b I L) 0 0 (fun rt w => ∃ J, rt = none ∧ w = MW b J L ∧ RdK I J K (I 49 3).toNat) := by
  refine con_ok (fun hw9 hs9 => ?_)
  refine con_intro (by decide) (Nat.le_of_ble_eq_true rfl) ?_
  show Rch l E 1 29 _ _ _ _ (0, [some (vR 49), some (vL K), none, none, none], [], MW b I L)
  refine rch_run rfl (by decide) 8 (t' := (11, [some (vR 49), some (vL K), none, some (vI 0), none], [], MW b (upI I 49 2 (w32 (lShr K 40))) L)) (ps := []) rfl trivial ?_
  exact lp_rk l E b I L K hn hK hro hinj 11 0 _ (by omega) hn.1 (RdK_0 (by rw [lShr_n hK (by omega) (by omega)]; rfl)) (by omega)
