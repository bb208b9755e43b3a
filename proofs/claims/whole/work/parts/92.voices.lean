theorem k_weight (l : Launch) (E : AX) (b : Bool) (I L : Nat → Nat → Int) (s f ag : Int) (hs : (0 ≤ s ∧ s ≤ 5) ∧ 0 ≤ f ∧ f ≤ 5) (hg : 0 ≤ ag ∧ ag ≤ 2147483647) (ht : 0 ≤ I 14 ((s * 6) + f).toNat ∧ I 14 ((s * 6) + f).toNat ≤ 9) (hf : 0 ≤ I 15 f.toNat ∧ I 15 f.toNat ≤ 50) : Con l E 1 57 [vR 13, vI s, vI f, vL ag] (MW b I L) 0 0 (fun rt w => (0 < (100 * (I 14 ((s * 6) + f).toNat)) - ((I 15 f.toNat) * ag) ∧ rt = some (vI (w32 ((100 * (I 14 ((s * 6) + f).toNat)) - ((I 15 f.toNat) * ag)))) ∧ w = MW b I L) ∨ ((100 * (I 14 ((s * 6) + f).toNat)) - ((I 15 f.toNat) * ag) ≤ 0 ∧ rt = some (vI 0) ∧ w = MW b I L)) := by
  refine con_ok (fun hw9 hs9 => ?_)
  refine con_intro (by decide) (Nat.le_of_ble_eq_true rfl) ?_
  have hm9 : 0 ≤ (I 15 f.toNat) * ag ∧ (I 15 f.toNat) * ag ≤ 50 * 2147483647 := ⟨Int.mul_nonneg hf.1 hg.1, Int.le_trans (Int.mul_le_mul_of_nonneg_right hf.2 hg.1) (Int.mul_le_mul_of_nonneg_left hg.2 (by omega))⟩
  have hc9 := lCmp_sg ((100 * (I 14 ((s * 6) + f).toNat)) - ((I 15 f.toNat) * ag)) 0
  have hd9 := hc9.2.2
  show Rch l E 1 57 _ _ _ _ (0, [some (vR 13), some (vI s), some (vI f), some (vL ag), none, none, none], [], MW b I L)
  refine rch_run cdK57 (by decide) 23 (t' := (32, [some (vR 13), some (vI s), some (vI f), some (vL ag), none, some (vL ((100 * (I 14 ((s * 6) + f).toNat)) - ((I 15 f.toNat) * ag))), none], [vI (lCmp ((100 * (I 14 ((s * 6) + f).toNat)) - ((I 15 f.toNat) * ag)) 0)], MW b I L)) (ps := [i32 (s * 6), i32 ((s * 6) + f), 0 ≤ (s * 6) + f ∧ (s * 6) + f < ((36 : Nat) : Int), i64 (100 * (I 14 ((s * 6) + f).toNat)), 0 ≤ f ∧ f < ((6 : Nat) : Int), i64 ((I 15 f.toNat) * ag), i64 ((100 * (I 14 ((s * 6) + f).toNat)) - ((I 15 f.toNat) * ag))]) rfl (by simp only [all_, i32, i64]; first | omega | (simp; done) | (simp; omega)) ?_
  refine rch_br cdK57 (cd := lCmp ((100 * (I 14 ((s * 6) + f).toNat)) - ((I 15 f.toNat) * ag)) 0 ≤ 0) (t1 := (41, [some (vR 13), some (vI s), some (vI f), some (vL ag), none, some (vL ((100 * (I 14 ((s * 6) + f).toNat)) - ((I 15 f.toNat) * ag))), none], [], MW b I L)) (t2 := (35, [some (vR 13), some (vI s), some (vI f), some (vL ag), none, some (vL ((100 * (I 14 ((s * 6) + f).toNat)) - ((I 15 f.toNat) * ag))), none], [], MW b I L)) rfl (fun c32_1 => ?_) (fun c32_1 => ?_)
  · refine rch_run cdK57 (by decide) 1 (t' := (42, [some (vR 13), some (vI s), some (vI f), some (vL ag), none, some (vL ((100 * (I 14 ((s * 6) + f).toNat)) - ((I 15 f.toNat) * ag))), none], [vI 0], MW b I L)) (ps := []) rfl trivial ?_
    refine rch_ret cdK57 (rt := some (vI 0)) rfl trivial mw_c ?_
    first | exact Or.inl ⟨by omega, rfl, rfl⟩ | exact Or.inr ⟨by omega, rfl, rfl⟩
  · refine rch_run cdK57 (by decide) 3 (t' := (42, [some (vR 13), some (vI s), some (vI f), some (vL ag), none, some (vL ((100 * (I 14 ((s * 6) + f).toNat)) - ((I 15 f.toNat) * ag))), none], [vI (w32 ((100 * (I 14 ((s * 6) + f).toNat)) - ((I 15 f.toNat) * ag)))], MW b I L)) (ps := []) rfl trivial ?_
    refine rch_ret cdK57 (rt := some (vI (w32 ((100 * (I 14 ((s * 6) + f).toNat)) - ((I 15 f.toNat) * ag))))) rfl trivial mw_c ?_
    first | exact Or.inl ⟨by omega, rfl, rfl⟩ | exact Or.inr ⟨by omega, rfl, rfl⟩

theorem k_isAhead (l : Launch) (E : AX) (b : Bool) (I L : Nat → Nat → Int) (x : Int) (y : Int) (z : Int) : Con l E 1 51 [vI x, vI y, vI z] (MW b I L) 0 0 (fun rt w => ((0 < x ∨ (x = 0 ∧ (0 < y ∨ (y = 0 ∧ 0 < z)))) ∧ rt = some (vI 1) ∧ w = MW b I L) ∨ ((¬ (0 < x ∨ (x = 0 ∧ (0 < y ∨ (y = 0 ∧ 0 < z))))) ∧ rt = some (vI 0) ∧ w = MW b I L)) := by
  refine con_intro (by decide) (Nat.le_of_ble_eq_true rfl) ?_
  show Rch l E 1 51 _ _ _ _ (0, [some (vI x), some (vI y), some (vI z)], [], MW b I L)
  refine rch_run cdK51 (by decide) 1 (t' := (1, [some (vI x), some (vI y), some (vI z)], [vI x], MW b I L)) (ps := []) rfl trivial ?_
  refine rch_br cdK51 (cd := x = 0) (t1 := (14, [some (vI x), some (vI y), some (vI z)], [], MW b I L)) (t2 := (4, [some (vI x), some (vI y), some (vI z)], [], MW b I L)) rfl (fun c1_1 => ?_) (fun c1_1 => ?_)
  · refine rch_run cdK51 (by decide) 1 (t' := (15, [some (vI x), some (vI y), some (vI z)], [vI y], MW b I L)) (ps := []) rfl trivial ?_
    refine rch_br cdK51 (cd := y = 0) (t1 := (30, [some (vI x), some (vI y), some (vI z)], [], MW b I L)) (t2 := (18, [some (vI x), some (vI y), some (vI z)], [], MW b I L)) rfl (fun c15_2 => ?_) (fun c15_2 => ?_)
    · refine rch_run cdK51 (by decide) 1 (t' := (31, [some (vI x), some (vI y), some (vI z)], [vI z], MW b I L)) (ps := []) rfl trivial ?_
      refine rch_br cdK51 (cd := z ≤ 0) (t1 := (38, [some (vI x), some (vI y), some (vI z)], [], MW b I L)) (t2 := (34, [some (vI x), some (vI y), some (vI z)], [], MW b I L)) rfl (fun c31_3 => ?_) (fun c31_3 => ?_)
      · refine rch_run cdK51 (by decide) 1 (t' := (39, [some (vI x), some (vI y), some (vI z)], [vI 0], MW b I L)) (ps := []) rfl trivial ?_
        refine rch_ret cdK51 (rt := some (vI 0)) rfl (Or.inl rfl) mw_c ?_
        first | exact Or.inl ⟨by omega, rfl, rfl⟩ | exact Or.inr (⟨by omega, rfl, rfl⟩) | (exfalso; omega)
      · refine rch_run cdK51 (by decide) 2 (t' := (39, [some (vI x), some (vI y), some (vI z)], [vI 1], MW b I L)) (ps := []) rfl trivial ?_
        refine rch_ret cdK51 (rt := some (vI 1)) rfl (Or.inr rfl) mw_c ?_
        first | exact Or.inl ⟨by omega, rfl, rfl⟩ | exact Or.inr (⟨by omega, rfl, rfl⟩) | (exfalso; omega)
    · refine rch_run cdK51 (by decide) 1 (t' := (19, [some (vI x), some (vI y), some (vI z)], [vI y], MW b I L)) (ps := []) rfl trivial ?_
      refine rch_br cdK51 (cd := y ≤ 0) (t1 := (26, [some (vI x), some (vI y), some (vI z)], [], MW b I L)) (t2 := (22, [some (vI x), some (vI y), some (vI z)], [], MW b I L)) rfl (fun c19_4 => ?_) (fun c19_4 => ?_)
      · refine rch_run cdK51 (by decide) 2 (t' := (39, [some (vI x), some (vI y), some (vI z)], [vI 0], MW b I L)) (ps := []) rfl trivial ?_
        refine rch_ret cdK51 (rt := some (vI 0)) rfl (Or.inl rfl) mw_c ?_
        first | exact Or.inl ⟨by omega, rfl, rfl⟩ | exact Or.inr (⟨by omega, rfl, rfl⟩) | (exfalso; omega)
      · refine rch_run cdK51 (by decide) 2 (t' := (39, [some (vI x), some (vI y), some (vI z)], [vI 1], MW b I L)) (ps := []) rfl trivial ?_
        refine rch_ret cdK51 (rt := some (vI 1)) rfl (Or.inr rfl) mw_c ?_
        first | exact Or.inl ⟨by omega, rfl, rfl⟩ | exact Or.inr (⟨by omega, rfl, rfl⟩) | (exfalso; omega)
  · refine rch_run cdK51 (by decide) 1 (t' := (5, [some (vI x), some (vI y), some (vI z)], [vI x], MW b I L)) (ps := []) rfl trivial ?_
    refine rch_br cdK51 (cd := x ≤ 0) (t1 := (12, [some (vI x), some (vI y), some (vI z)], [], MW b I L)) (t2 := (8, [some (vI x), some (vI y), some (vI z)], [], MW b I L)) rfl (fun c5_5 => ?_) (fun c5_5 => ?_)
    · refine rch_run cdK51 (by decide) 1 (t' := (13, [some (vI x), some (vI y), some (vI z)], [vI 0], MW b I L)) (ps := []) rfl trivial ?_
      refine rch_ret cdK51 (rt := some (vI 0)) rfl (Or.inl rfl) mw_c ?_
      first | exact Or.inl ⟨by omega, rfl, rfl⟩ | exact Or.inr (⟨by omega, rfl, rfl⟩) | (exfalso; omega)
    · refine rch_run cdK51 (by decide) 2 (t' := (13, [some (vI x), some (vI y), some (vI z)], [vI 1], MW b I L)) (ps := []) rfl trivial ?_
      refine rch_ret cdK51 (rt := some (vI 1)) rfl (Or.inr rfl) mw_c ?_
      first | exact Or.inl ⟨by omega, rfl, rfl⟩ | exact Or.inr (⟨by omega, rfl, rfl⟩) | (exfalso; omega)

theorem lp_isFirst (l : Launch) (E : AX) (b : Bool) (I L : Nat → Nat → Int) (i : Int) (hi : 0 ≤ i ∧ i < 10) : ∀ (n9 : Nat) (j : Int), 0 ≤ j → j ≤ i → (∀ z : Nat, (z : Int) < j → I 63 z ≠ I 63 i.toNat) → i - j < (n9 : Int) → Rch l E 1 52 (MW b I L) 0 0 (fun rt w => ((∀ j : Nat, (j : Int) < i → I 63 j ≠ I 63 i.toNat) ∧ rt = some (vI 1) ∧ w = MW b I L) ∨ (¬ (∀ j : Nat, (j : Int) < i → I 63 j ≠ I 63 i.toNat) ∧ rt = some (vI 0) ∧ w = MW b I L)) (2, [some (vR 61), some (vI i), some (vI j)], [], MW b I L) := by
  intro n9
  induction n9 with
  | zero =>
    intro j  h1 h2 h3 hm
    exfalso; omega
  | succ n9 ih =>
    intro j  h1 h2 h3 hm
    refine rch_run cdK52 (by decide) 2 (t' := (4, [some (vR 61), some (vI i), some (vI j)], [vI i, vI j], MW b I L)) (ps := []) rfl trivial ?_
    refine rch_br cdK52 (cd := i ≤ j) (t1 := (30, [some (vR 61), some (vI i), some (vI j)], [], MW b I L)) (t2 := (7, [some (vR 61), some (vI i), some (vI j)], [], MW b I L)) rfl (fun c4_1 => ?_) (fun c4_1 => ?_)
    · refine rch_run cdK52 (by decide) 1 (t' := (31, [some (vR 61), some (vI i), some (vI j)], [vI 1], MW b I L)) (ps := []) rfl trivial ?_
      refine rch_ret cdK52 (rt := some (vI 1)) rfl (Or.inr rfl) mw_c ?_
      exact Or.inl ⟨fun z hz => h3 z (by omega), rfl, rfl⟩
    · refine rch_run cdK52 (by decide) 8 (t' := (19, [some (vR 61), some (vI i), some (vI j)], [vI (I 63 i.toNat), vI (I 63 j.toNat)], MW b I L)) (ps := [0 ≤ j ∧ j < ((10 : Nat) : Int), 0 ≤ i ∧ i < ((10 : Nat) : Int)]) rfl (by simp only [all_, i32, i64]; first | omega | (simp; done) | (simp; omega)) ?_
      refine rch_br cdK52 (cd := I 63 j.toNat ≠ I 63 i.toNat) (t1 := (24, [some (vR 61), some (vI i), some (vI j)], [], MW b I L)) (t2 := (22, [some (vR 61), some (vI i), some (vI j)], [], MW b I L)) rfl (fun c19_2 => ?_) (fun c19_2 => ?_)
      · refine rch_run cdK52 (by decide) 2 (t' := (2, [some (vR 61), some (vI i), some (vI (j + 1))], [], MW b I L)) (ps := [i32 (j + 1)]) rfl (by simp only [all_, i32, i64]; first | omega | (simp; done) | (simp; omega)) ?_
        refine ih (j + 1) (by omega) (by omega) (fun z hz => ?_) (by omega)
        by_cases e : z = j.toNat
        · rw [e]; omega
        · exact h3 z (by omega)
      · refine rch_run cdK52 (by decide) 1 (t' := (23, [some (vR 61), some (vI i), some (vI j)], [vI 0], MW b I L)) (ps := []) rfl trivial ?_
        refine rch_ret cdK52 (rt := some (vI 0)) rfl (Or.inl rfl) mw_c ?_
        exact Or.inr ⟨fun z => absurd (z j.toNat (by omega)) (by omega), rfl, rfl⟩

theorem k_isFirst (l : Launch) (E : AX) (b : Bool) (I L : Nat → Nat → Int) (i : Int) (hi : 0 ≤ i ∧ i < 10) : Con l E 1 52 [vR 61, vI i] (MW b I L) 0 0 (fun rt w => ((∀ j : Nat, (j : Int) < i → I 63 j ≠ I 63 i.toNat) ∧ rt = some (vI 1) ∧ w = MW b I L) ∨ (¬ (∀ j : Nat, (j : Int) < i → I 63 j ≠ I 63 i.toNat) ∧ rt = some (vI 0) ∧ w = MW b I L)) := by
  refine con_ok (fun hw9 hs9 => ?_)
  refine con_intro (by decide) (Nat.le_of_ble_eq_true rfl) ?_
  show Rch l E 1 52 _ _ _ _ (0, [some (vR 61), some (vI i), none], [], MW b I L)
  refine rch_run cdK52 (by decide) 2 (t' := (2, [some (vR 61), some (vI i), some (vI 0)], [], MW b I L)) (ps := []) rfl trivial ?_
  exact lp_isFirst l E b I L i hi 11 0 (by omega) hi.1 (fun z hz => by omega) (by omega)

theorem lp_sumFor (l : Launch) (E : AX) (b : Bool) (I L : Nat → Nat → Int) (x : Int) (hn : 0 ≤ I 61 3 ∧ I 61 3 ≤ 10) (hv : ∀ i : Nat, (i : Int) < I 61 3 → (0 ≤ I 63 i ∧ I 63 i ≤ 999999) ∧ (0 ≤ I 64 i ∧ I 64 i ≤ 100000) ∧ 0 ≤ I 65 i ∧ I 65 i ≤ 900) : ∀ (n9 : Nat) (i s : Int), 0 ≤ i → i ≤ I 61 3 → s = sumF (I 63) (I 65) x i.toNat → I 61 3 - i < (n9 : Int) → Rch l E 1 53 (MW b I L) 0 0 (fun rt w => rt = some (vI (sumF (I 63) (I 65) x (I 61 3).toNat)) ∧ w = MW b I L) (4, [some (vR 61), some (vI x), some (vI s), some (vI i)], [], MW b I L) := by
  intro n9
  induction n9 with
  | zero =>
    intro i s  h1 h2 h3 hm
    exfalso; omega
  | succ n9 ih =>
    intro i s  h1 h2 h3 hm
    have hr9 := sumF_rg (va := I 63) (x := x) (n := i.toNat) (we := I 65) (fun z hz => (hv z (by omega)).2.2)
    rw [← h3] at hr9
    have hv9 : i < I 61 3 → _ := fun z => hv i.toNat (by omega)
    have hi9 : (i + 1).toNat = i.toNat + 1 := by omega
    refine rch_run cdK53 (by decide) 3 (t' := (9, [some (vR 61), some (vI x), some (vI s), some (vI i)], [vI (I 61 3), vI i], MW b I L)) (ps := []) rfl trivial ?_
    refine rch_br cdK53 (cd := I 61 3 ≤ i) (t1 := (37, [some (vR 61), some (vI x), some (vI s), some (vI i)], [], MW b I L)) (t2 := (12, [some (vR 61), some (vI x), some (vI s), some (vI i)], [], MW b I L)) rfl (fun c9_1 => ?_) (fun c9_1 => ?_)
    · refine rch_run cdK53 (by decide) 1 (t' := (38, [some (vR 61), some (vI x), some (vI s), some (vI i)], [vI s], MW b I L)) (ps := []) rfl trivial ?_
      refine rch_ret cdK53 (rt := some (vI s)) rfl trivial mw_c ?_
      exact ⟨by rw [h3, show i.toNat = (I 61 3).toNat by omega], rfl⟩
    · refine rch_run cdK53 (by decide) 5 (t' := (19, [some (vR 61), some (vI x), some (vI s), some (vI i)], [vI x, vI (I 63 i.toNat)], MW b I L)) (ps := [0 ≤ i ∧ i < ((10 : Nat) : Int)]) rfl (by (try have hv8 := hv9 (by omega)); simp only [all_, i32, i64]; first | omega | (simp; done) | (simp; omega)) ?_
      refine rch_br cdK53 (cd := I 63 i.toNat ≠ x) (t1 := (31, [some (vR 61), some (vI x), some (vI s), some (vI i)], [], MW b I L)) (t2 := (22, [some (vR 61), some (vI x), some (vI s), some (vI i)], [], MW b I L)) rfl (fun c19_2 => ?_) (fun c19_2 => ?_)
      · refine rch_run cdK53 (by decide) 2 (t' := (4, [some (vR 61), some (vI x), some (vI s), some (vI (i + 1))], [], MW b I L)) (ps := [i32 (i + 1)]) rfl (by (try have hv8 := hv9 (by omega)); simp only [all_, i32, i64]; first | omega | (simp; done) | (simp; omega)) ?_
        refine ih (i + 1) _ (by omega) (by omega) (by rw [hi9, sumF_s, ← h3]; rw [if_neg (by omega)]) (by omega)
      · refine rch_run cdK53 (by decide) 9 (t' := (4, [some (vR 61), some (vI x), some (vI (s + (I 65 i.toNat))), some (vI (i + 1))], [], MW b I L)) (ps := [0 ≤ i ∧ i < ((10 : Nat) : Int), i32 (s + (I 65 i.toNat)), i32 (i + 1)]) rfl (by (try have hv8 := hv9 (by omega)); simp only [all_, i32, i64]; first | omega | (simp; done) | (simp; omega)) ?_
        refine ih (i + 1) _ (by omega) (by omega) (by rw [hi9, sumF_s, ← h3]; rw [if_pos (by omega)]) (by omega)

theorem k_sumFor (l : Launch) (E : AX) (b : Bool) (I L : Nat → Nat → Int) (x : Int) (hn : 0 ≤ I 61 3 ∧ I 61 3 ≤ 10) (hv : ∀ i : Nat, (i : Int) < I 61 3 → (0 ≤ I 63 i ∧ I 63 i ≤ 999999) ∧ (0 ≤ I 64 i ∧ I 64 i ≤ 100000) ∧ 0 ≤ I 65 i ∧ I 65 i ≤ 900) : Con l E 1 53 [vR 61, vI x] (MW b I L) 0 0 (fun rt w => rt = some (vI (sumF (I 63) (I 65) x (I 61 3).toNat)) ∧ w = MW b I L) := by
  refine con_ok (fun hw9 hs9 => ?_)
  refine con_intro (by decide) (Nat.le_of_ble_eq_true rfl) ?_
  show Rch l E 1 53 _ _ _ _ (0, [some (vR 61), some (vI x), none, none], [], MW b I L)
  refine rch_run cdK53 (by decide) 4 (t' := (4, [some (vR 61), some (vI x), some (vI 0), some (vI 0)], [], MW b I L)) (ps := []) rfl trivial ?_
  exact lp_sumFor l E b I L x hn hv 11 0 0 (by omega) hn.1 rfl (by omega)

theorem lp_latestFor (l : Launch) (E : AX) (b : Bool) (I L : Nat → Nat → Int) (x : Int) (hn : 0 ≤ I 61 3 ∧ I 61 3 ≤ 10) (hv : ∀ i : Nat, (i : Int) < I 61 3 → (0 ≤ I 63 i ∧ I 63 i ≤ 999999) ∧ (0 ≤ I 64 i ∧ I 64 i ≤ 100000) ∧ 0 ≤ I 65 i ∧ I 65 i ≤ 900) : ∀ (n9 : Nat) (i s : Int), 0 ≤ i → i ≤ I 61 3 → s = latF (I 63) (I 64) x i.toNat → I 61 3 - i < (n9 : Int) → Rch l E 1 54 (MW b I L) 0 0 (fun rt w => rt = some (vI (latF (I 63) (I 64) x (I 61 3).toNat)) ∧ w = MW b I L) (4, [some (vR 61), some (vI x), some (vI s), some (vI i)], [], MW b I L) := by
  intro n9
  induction n9 with
  | zero =>
    intro i s  h1 h2 h3 hm
    exfalso; omega
  | succ n9 ih =>
    intro i s  h1 h2 h3 hm
    have hv9 : i < I 61 3 → _ := fun z => hv i.toNat (by omega)
    have hi9 : (i + 1).toNat = i.toNat + 1 := by omega
    refine rch_run cdK54 (by decide) 3 (t' := (9, [some (vR 61), some (vI x), some (vI s), some (vI i)], [vI (I 61 3), vI i], MW b I L)) (ps := []) rfl trivial ?_
    refine rch_br cdK54 (cd := I 61 3 ≤ i) (t1 := (39, [some (vR 61), some (vI x), some (vI s), some (vI i)], [], MW b I L)) (t2 := (12, [some (vR 61), some (vI x), some (vI s), some (vI i)], [], MW b I L)) rfl (fun c9_1 => ?_) (fun c9_1 => ?_)
    · refine rch_run cdK54 (by decide) 1 (t' := (40, [some (vR 61), some (vI x), some (vI s), some (vI i)], [vI s], MW b I L)) (ps := []) rfl trivial ?_
      refine rch_ret cdK54 (rt := some (vI s)) rfl trivial mw_c ?_
      exact ⟨by rw [h3, show i.toNat = (I 61 3).toNat by omega], rfl⟩
    · refine rch_run cdK54 (by decide) 5 (t' := (19, [some (vR 61), some (vI x), some (vI s), some (vI i)], [vI x, vI (I 63 i.toNat)], MW b I L)) (ps := [0 ≤ i ∧ i < ((10 : Nat) : Int)]) rfl (by simp only [all_, i32, i64]; first | omega | (simp; done) | (simp; omega)) ?_
      refine rch_br cdK54 (cd := I 63 i.toNat ≠ x) (t1 := (33, [some (vR 61), some (vI x), some (vI s), some (vI i)], [], MW b I L)) (t2 := (22, [some (vR 61), some (vI x), some (vI s), some (vI i)], [], MW b I L)) rfl (fun c19_2 => ?_) (fun c19_2 => ?_)
      · refine rch_run cdK54 (by decide) 2 (t' := (4, [some (vR 61), some (vI x), some (vI s), some (vI (i + 1))], [], MW b I L)) (ps := [i32 (i + 1)]) rfl (by simp only [all_, i32, i64]; first | omega | (simp; done) | (simp; omega)) ?_
        refine ih (i + 1) _ (by omega) (by omega) (by rw [hi9, latF_s, ← h3]; rw [if_neg (by omega)]) (by omega)
      · refine rch_run cdK54 (by decide) 9 (t' := (4, [some (vR 61), some (vI x), some (vI (iMax s (I 64 i.toNat))), some (vI (i + 1))], [], MW b I L)) (ps := [0 ≤ i ∧ i < ((10 : Nat) : Int), i32 (i + 1)]) rfl (by simp only [all_, i32, i64]; first | omega | (simp; done) | (simp; omega)) ?_
        refine ih (i + 1) _ (by omega) (by omega) (by rw [hi9, latF_s, ← h3]; rw [if_pos (by omega)]) (by omega)

theorem k_latestFor (l : Launch) (E : AX) (b : Bool) (I L : Nat → Nat → Int) (x : Int) (hn : 0 ≤ I 61 3 ∧ I 61 3 ≤ 10) (hv : ∀ i : Nat, (i : Int) < I 61 3 → (0 ≤ I 63 i ∧ I 63 i ≤ 999999) ∧ (0 ≤ I 64 i ∧ I 64 i ≤ 100000) ∧ 0 ≤ I 65 i ∧ I 65 i ≤ 900) : Con l E 1 54 [vR 61, vI x] (MW b I L) 0 0 (fun rt w => rt = some (vI (latF (I 63) (I 64) x (I 61 3).toNat)) ∧ w = MW b I L) := by
  refine con_ok (fun hw9 hs9 => ?_)
  refine con_intro (by decide) (Nat.le_of_ble_eq_true rfl) ?_
  show Rch l E 1 54 _ _ _ _ (0, [some (vR 61), some (vI x), none, none], [], MW b I L)
  refine rch_run cdK54 (by decide) 4 (t' := (4, [some (vR 61), some (vI x), some (vI (-1)), some (vI 0)], [], MW b I L)) (ps := []) rfl trivial ?_
  exact lp_latestFor l E b I L x hn hv 11 0 _ (by omega) hn.1 rfl (by omega)

theorem lp_strongestFor (l : Launch) (E : AX) (b : Bool) (I L : Nat → Nat → Int) (x : Int) (hn : 0 ≤ I 61 3 ∧ I 61 3 ≤ 10) (hv : ∀ i : Nat, (i : Int) < I 61 3 → (0 ≤ I 63 i ∧ I 63 i ≤ 999999) ∧ (0 ≤ I 64 i ∧ I 64 i ≤ 100000) ∧ 0 ≤ I 65 i ∧ I 65 i ≤ 900) : ∀ (n9 : Nat) (i s g : Int), 0 ≤ i → i ≤ I 61 3 → (g, s) = strF (I 63) (I 65) (I 62) x i.toNat → I 61 3 - i < (n9 : Int) → Rch l E 1 55 (MW b I L) 0 0 (fun rt w => rt = some (vI (strF (I 63) (I 65) (I 62) x (I 61 3).toNat).2) ∧ w = MW b I L) (7, [some (vR 61), some (vI x), some (vI s), some (vI g), some (vI i)], [], MW b I L) := by
  intro n9
  induction n9 with
  | zero =>
    intro i s g  h1 h2 h3 hm
    exfalso; omega
  | succ n9 ih =>
    intro i s g  h1 h2 h3 hm
    have hv9 : i < I 61 3 → _ := fun z => hv i.toNat (by omega)
    have hi9 : (i + 1).toNat = i.toNat + 1 := by omega
    refine rch_run cdK55 (by decide) 3 (t' := (13, [some (vR 61), some (vI x), some (vI s), some (vI g), some (vI i)], [vI (I 61 3), vI i], MW b I L)) (ps := []) rfl trivial ?_
    refine rch_br cdK55 (cd := I 61 3 ≤ i) (t1 := (60, [some (vR 61), some (vI x), some (vI s), some (vI g), some (vI i)], [], MW b I L)) (t2 := (16, [some (vR 61), some (vI x), some (vI s), some (vI g), some (vI i)], [], MW b I L)) rfl (fun c13_1 => ?_) (fun c13_1 => ?_)
    · refine rch_run cdK55 (by decide) 1 (t' := (61, [some (vR 61), some (vI x), some (vI s), some (vI g), some (vI i)], [vI s], MW b I L)) (ps := []) rfl trivial ?_
      refine rch_ret cdK55 (rt := some (vI s)) rfl trivial mw_c ?_
      exact ⟨by rw [show (I 61 3).toNat = i.toNat by omega, ← h3], rfl⟩
    · refine rch_run cdK55 (by decide) 5 (t' := (24, [some (vR 61), some (vI x), some (vI s), some (vI g), some (vI i)], [vI x, vI (I 63 i.toNat)], MW b I L)) (ps := [0 ≤ i ∧ i < ((10 : Nat) : Int)]) rfl (by simp only [all_, i32, i64]; first | omega | (simp; done) | (simp; omega)) ?_
      refine rch_br cdK55 (cd := I 63 i.toNat ≠ x) (t1 := (54, [some (vR 61), some (vI x), some (vI s), some (vI g), some (vI i)], [], MW b I L)) (t2 := (27, [some (vR 61), some (vI x), some (vI s), some (vI g), some (vI i)], [], MW b I L)) rfl (fun c24_2 => ?_) (fun c24_2 => ?_)
      · refine rch_run cdK55 (by decide) 2 (t' := (7, [some (vR 61), some (vI x), some (vI s), some (vI g), some (vI (i + 1))], [], MW b I L)) (ps := [i32 (i + 1)]) rfl (by simp only [all_, i32, i64]; first | omega | (simp; done) | (simp; omega)) ?_
        refine ih (i + 1) _ _ (by omega) (by omega) (by rw [hi9, strF_s, ← h3]; rw [if_neg (fun z => by have z1 := z.1; have z2 : g < _ := z.2; omega)]) (by omega)
      · refine rch_run cdK55 (by decide) 5 (t' := (35, [some (vR 61), some (vI x), some (vI s), some (vI g), some (vI i)], [vI g, vI (I 65 i.toNat)], MW b I L)) (ps := [0 ≤ i ∧ i < ((10 : Nat) : Int)]) rfl (by simp only [all_, i32, i64]; first | omega | (simp; done) | (simp; omega)) ?_
        refine rch_br cdK55 (cd := I 65 i.toNat ≤ g) (t1 := (54, [some (vR 61), some (vI x), some (vI s), some (vI g), some (vI i)], [], MW b I L)) (t2 := (38, [some (vR 61), some (vI x), some (vI s), some (vI g), some (vI i)], [], MW b I L)) rfl (fun c35_3 => ?_) (fun c35_3 => ?_)
        · refine rch_run cdK55 (by decide) 2 (t' := (7, [some (vR 61), some (vI x), some (vI s), some (vI g), some (vI (i + 1))], [], MW b I L)) (ps := [i32 (i + 1)]) rfl (by simp only [all_, i32, i64]; first | omega | (simp; done) | (simp; omega)) ?_
          refine ih (i + 1) _ _ (by omega) (by omega) (by rw [hi9, strF_s, ← h3]; rw [if_neg (fun z => by have z1 := z.1; have z2 : g < _ := z.2; omega)]) (by omega)
        · refine rch_run cdK55 (by decide) 12 (t' := (7, [some (vR 61), some (vI x), some (vI (I 62 i.toNat)), some (vI (I 65 i.toNat)), some (vI (i + 1))], [], MW b I L)) (ps := [0 ≤ i ∧ i < ((10 : Nat) : Int), 0 ≤ i ∧ i < ((10 : Nat) : Int), i32 (i + 1)]) rfl (by simp only [all_, i32, i64]; first | omega | (simp; done) | (simp; omega)) ?_
          refine ih (i + 1) _ _ (by omega) (by omega) (by rw [hi9, strF_s, ← h3]; rw [if_pos ⟨by omega, by show g < _; omega⟩]) (by omega)

theorem k_strongestFor (l : Launch) (E : AX) (b : Bool) (I L : Nat → Nat → Int) (x : Int) (hn : 0 ≤ I 61 3 ∧ I 61 3 ≤ 10) (hv : ∀ i : Nat, (i : Int) < I 61 3 → (0 ≤ I 63 i ∧ I 63 i ≤ 999999) ∧ (0 ≤ I 64 i ∧ I 64 i ≤ 100000) ∧ 0 ≤ I 65 i ∧ I 65 i ≤ 900) : Con l E 1 55 [vR 61, vI x] (MW b I L) 0 0 (fun rt w => rt = some (vI (strF (I 63) (I 65) (I 62) x (I 61 3).toNat).2) ∧ w = MW b I L) := by
  refine con_ok (fun hw9 hs9 => ?_)
  refine con_intro (by decide) (Nat.le_of_ble_eq_true rfl) ?_
  show Rch l E 1 55 _ _ _ _ (0, [some (vR 61), some (vI x), none, none, none], [], MW b I L)
  refine rch_run cdK55 (by decide) 6 (t' := (7, [some (vR 61), some (vI x), some (vI (-1)), some (vI (-1)), some (vI 0)], [], MW b I L)) (ps := []) rfl trivial ?_
  exact lp_strongestFor l E b I L x hn hv 11 0 _ _ (by omega) hn.1 rfl (by omega)
