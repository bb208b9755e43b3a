theorem lp_gather (l : Launch) (E : AX) (b : Bool) (I L : Nat → Nat → Int) : ∀ (n9 : Nat) (i : Int) (J : Nat → Nat → Int), -1 ≤ i → i ≤ 9 → GthL I J i → i + 1 < (n9 : Int) → Rch l E 1 21 (MW b I L) 0 0 (fun rt w => ∃ J, rt = none ∧ w = MW b J L ∧ Gth I J) (8, [some (vR 49), some (vR 44), some (vI i)], [], MW b J L) := by
  intro n9
  induction n9 with
  | zero =>
    intro i J h1 h2 h3 hm
    exfalso; omega
  | succ n9 ih =>
    intro i J h1 h2 h3 hm
    have hs9 : 0 ≤ i → _ := fun z => Gth_sz h3 z h2
    refine rch_run rfl (by decide) 1 (t' := (9, [some (vR 49), some (vR 44), some (vI i)], [vI i], MW b J L)) (ps := []) rfl trivial ?_
    refine rch_br rfl (cd := i < 0) (t1 := (91, [some (vR 49), some (vR 44), some (vI i)], [], MW b J L)) (t2 := (12, [some (vR 49), some (vR 44), some (vI i)], [], MW b J L)) rfl (fun c9_1 => ?_) (fun c9_1 => ?_)
    · refine rch_ret rfl (rt := none) rfl trivial mw_c ?_
      exact ⟨J, rfl, rfl, Gth_end h3 (by omega)⟩
    · refine rch_run rfl (by decide) 14 (t' := (32, [some (vR 49), some (vR 44), some (vI i)], [vI (J 45 i.toNat)], MW b (upI (upI J 50 i.toNat (-1)) 52 i.toNat (-1)) L)) (ps := [0 ≤ i ∧ i < ((10 : Nat) : Int), 0 ≤ i ∧ i < ((10 : Nat) : Int), 0 ≤ i ∧ i < ((10 : Nat) : Int)]) rfl (by (try have hs9 := hs9 (by omega)); simp only [all_, i32, i64]; first | omega | (simp; done) | (simp; omega)) ?_
      refine rch_br rfl (cd := J 45 i.toNat = 0) (t1 := (85, [some (vR 49), some (vR 44), some (vI i)], [], MW b (upI (upI J 50 i.toNat (-1)) 52 i.toNat (-1)) L)) (t2 := (35, [some (vR 49), some (vR 44), some (vI i)], [], MW b (upI (upI J 50 i.toNat (-1)) 52 i.toNat (-1)) L)) rfl (fun c32_2 => ?_) (fun c32_2 => ?_)
      · refine rch_run rfl (by decide) 2 (t' := (8, [some (vR 49), some (vR 44), some (vI (i + (-1)))], [], MW b (upI (upI J 50 i.toNat (-1)) 52 i.toNat (-1)) L)) (ps := [i32 (i + (-1))]) rfl (by (try have hs9 := hs9 (by omega)); simp only [all_, i32, i64]; first | omega | (simp; done) | (simp; omega)) ?_
        exact ih (i + (-1)) _ (by omega) (by omega) (Gth_no h3 (by omega) (by omega) (by omega)) (by omega)
      · refine rch_run rfl (by decide) 25 (t' := (76, [some (vR 49), some (vR 44), some (vI i)], [vR 49], MW b (upI (upI (upI (upI (upI (upI J 50 i.toNat (-1)) 52 i.toNat (-1)) 52 i.toNat (J 49 3)) 51 (J 49 3).toNat i) 54 (J 49 3).toNat 0) 55 (J 49 3).toNat 0) L)) (ps := [0 ≤ i ∧ i < ((10 : Nat) : Int), 0 ≤ J 49 3 ∧ J 49 3 < ((10 : Nat) : Int), 0 ≤ J 49 3 ∧ J 49 3 < ((10 : Nat) : Int), 0 ≤ J 49 3 ∧ J 49 3 < ((10 : Nat) : Int)]) rfl (by (try have hs9 := hs9 (by omega)); simp only [all_, i32, i64]; first | omega | (simp; done) | (simp; omega)) ?_
        refine rch_run rfl (by decide) 7 (t' := (8, [some (vR 49), some (vR 44), some (vI (i + (-1)))], [], MW b (upI (upI (upI (upI (upI (upI (upI J 50 i.toNat (-1)) 52 i.toNat (-1)) 52 i.toNat (J 49 3)) 51 (J 49 3).toNat i) 54 (J 49 3).toNat 0) 55 (J 49 3).toNat 0) 49 3 ((J 49 3) + 1)) L)) (ps := [i32 ((J 49 3) + 1), i32 (i + (-1))]) rfl (by (try have hs9 := hs9 (by omega)); simp only [all_, i32, i64]; first | omega | (simp; done) | (simp; omega)) ?_
        exact ih (i + (-1)) _ (by omega) (by omega) (Gth_yes h3 (by omega) (by omega) (by omega) rfl) (by omega)

theorem k_X3_gather (l : Launch) (E : AX) (b : Bool) (I L : Nat → Nat → Int) : Con l E 1 21 [vR 49, vR 44] (MW b I L) 0 0 (fun rt w => ∃ J, rt = none ∧ w = MW b J L ∧ Gth I J) := by
  refine con_ok (fun hw9 hs9 => ?_)
  refine con_intro (by decide) (Nat.le_of_ble_eq_true rfl) ?_
  show Rch l E 1 21 _ _ _ _ (0, [some (vR 49), some (vR 44), none], [], MW b I L)
  refine rch_run rfl (by decide) 5 (t' := (8, [some (vR 49), some (vR 44), some (vI 9)], [], MW b (upI I 49 3 0) L)) (ps := []) rfl trivial ?_
  exact lp_gather l E b I L 11 9 _ (by omega) (by omega) (Gth_0 I) (by omega)

theorem lp_bind (l : Launch) (E : AX) (b : Bool) (I L : Nat → Nat → Int) (k : Int) (hH : HOK I) : ∀ (n9 : Nat) (i : Int) (J : Nat → Nat → Int), 0 ≤ i → i ≤ I 32 0 → Bnd I J k i.toNat → I 32 0 - i < (n9 : Int) → Rch l E 2 22 (MW b I L) 0 0 (fun rt w => ∃ J, rt = none ∧ w = MW b J L ∧ Bnd I J k (I 32 0).toNat) (2, [some (vR 49), some (vR 32), some (vI k), some (vI i), none, none, none], [], MW b J L) := by
  intro n9
  induction n9 with
  | zero =>
    intro i J h1 h2 h3 hm
    exfalso; omega
  | succ n9 ih =>
    intro i J h1 h2 h3 hm
    have hv := hH.1
    have hsz := hH.2.1
    have hf9 := h3.1
    have q32 := hf9 32 0 (by omega)
    have q33 := hf9 33 i.toNat (by omega)
    have q34 := hf9 34 i.toNat (by omega)
    have q35 := hf9 35 i.toNat (by omega)
    have q36 := hf9 36 i.toNat (by omega)
    have q37 := hf9 37 i.toNat (by omega)
    have hx9 : i < I 32 0 → _ := fun z => hH.2.2.1 i.toNat (by omega)
    have hp9 : i < I 32 0 → J 52 (J 33 i.toNat).toNat = I 52 (I 33 i.toNat).toNat ∧ (-1 ≤ I 52 (I 33 i.toNat).toNat ∧ I 52 (I 33 i.toNat).toNat < I 49 3) ∧ J 52 (J 34 i.toNat).toNat = I 52 (I 34 i.toNat).toNat ∧ (-1 ≤ I 52 (I 34 i.toNat).toNat ∧ I 52 (I 34 i.toNat).toNat < I 49 3) := fun z => ⟨by rw [q33]; exact hf9 52 _ (by omega), hH.2.2.2 _ (by have := hx9 z; omega), by rw [q34]; exact hf9 52 _ (by omega), hH.2.2.2 _ (by have := hx9 z; omega)⟩
    refine rch_run rfl (by decide) 3 (t' := (7, [some (vR 49), some (vR 32), some (vI k), some (vI i), none, none, none], [vI (J 32 0), vI i], MW b J L)) (ps := []) rfl trivial ?_
    refine rch_br rfl (cd := J 32 0 ≤ i) (t1 := (110, [some (vR 49), some (vR 32), some (vI k), some (vI i), none, none, none], [], MW b J L)) (t2 := (10, [some (vR 49), some (vR 32), some (vI k), some (vI i), none, none, none], [], MW b J L)) rfl (fun c7_1 => ?_) (fun c7_1 => ?_)
    · refine rch_ret rfl (rt := none) rfl trivial mw_c ?_
      exact ⟨J, rfl, rfl, by rw [show (I 32 0).toNat = i.toNat by omega]; exact h3⟩
    · refine rch_run rfl (by decide) 18 (t' := (39, [some (vR 49), some (vR 32), some (vI k), some (vI i), some (vI (J 52 (J 33 i.toNat).toNat)), some (vI (J 52 (J 34 i.toNat).toNat)), none], [vI (-1), vI (J 52 (J 33 i.toNat).toNat)], MW b J L)) (ps := [0 ≤ i ∧ i < ((20 : Nat) : Int), 0 ≤ J 33 i.toNat ∧ J 33 i.toNat < ((10 : Nat) : Int), 0 ≤ i ∧ i < ((20 : Nat) : Int), 0 ≤ J 34 i.toNat ∧ J 34 i.toNat < ((10 : Nat) : Int)]) rfl (by (try (have hp8 := hp9 (by omega); have hx8 := hx9 (by omega))); simp only [all_, i32, i64]; first | omega | (simp; done) | (simp; omega)) ?_
      refine rch_br rfl (cd := J 52 (J 33 i.toNat).toNat = ((-1) : Int)) (t1 := (104, [some (vR 49), some (vR 32), some (vI k), some (vI i), some (vI (J 52 (J 33 i.toNat).toNat)), some (vI (J 52 (J 34 i.toNat).toNat)), none], [], MW b J L)) (t2 := (42, [some (vR 49), some (vR 32), some (vI k), some (vI i), some (vI (J 52 (J 33 i.toNat).toNat)), some (vI (J 52 (J 34 i.toNat).toNat)), none], [], MW b J L)) rfl (fun c39_2 => ?_) (fun c39_2 => ?_)
      · refine rch_run rfl (by decide) 2 (t' := (2, [some (vR 49), some (vR 32), some (vI k), some (vI (i + 1)), some (vI (J 52 (J 33 i.toNat).toNat)), some (vI (J 52 (J 34 i.toNat).toNat)), none], [], MW b J L)) (ps := [i32 (i + 1)]) rfl (by (try (have hp8 := hp9 (by omega); have hx8 := hx9 (by omega))); simp only [all_, i32, i64]; first | omega | (simp; done) | (simp; omega)) ?_
        refine rch_forget [4, 5, 6] ?_
        show Rch l E 2 22 _ _ _ _ (2, [some (vR 49), some (vR 32), some (vI k), some (vI (i + 1)), none, none, none], [], MW b J L)
        have hp8 := hp9 (by omega)
        have he9 : (i + 1).toNat = i.toNat + 1 := by omega
        refine ih (i + 1) J (by omega) (by omega) (by rw [he9]; refine Bnd_no h3 ?_; unfold hHeld; omega) (by omega)
      · refine rch_run rfl (by decide) 2 (t' := (45, [some (vR 49), some (vR 32), some (vI k), some (vI i), some (vI (J 52 (J 33 i.toNat).toNat)), some (vI (J 52 (J 34 i.toNat).toNat)), none], [vI (-1), vI (J 52 (J 34 i.toNat).toNat)], MW b J L)) (ps := []) rfl trivial ?_
        refine rch_br rfl (cd := J 52 (J 34 i.toNat).toNat = ((-1) : Int)) (t1 := (104, [some (vR 49), some (vR 32), some (vI k), some (vI i), some (vI (J 52 (J 33 i.toNat).toNat)), some (vI (J 52 (J 34 i.toNat).toNat)), none], [], MW b J L)) (t2 := (48, [some (vR 49), some (vR 32), some (vI k), some (vI i), some (vI (J 52 (J 33 i.toNat).toNat)), some (vI (J 52 (J 34 i.toNat).toNat)), none], [], MW b J L)) rfl (fun c45_3 => ?_) (fun c45_3 => ?_)
        · refine rch_run rfl (by decide) 2 (t' := (2, [some (vR 49), some (vR 32), some (vI k), some (vI (i + 1)), some (vI (J 52 (J 33 i.toNat).toNat)), some (vI (J 52 (J 34 i.toNat).toNat)), none], [], MW b J L)) (ps := [i32 (i + 1)]) rfl (by (try (have hp8 := hp9 (by omega); have hx8 := hx9 (by omega))); simp only [all_, i32, i64]; first | omega | (simp; done) | (simp; omega)) ?_
          refine rch_forget [4, 5, 6] ?_
          show Rch l E 2 22 _ _ _ _ (2, [some (vR 49), some (vR 32), some (vI k), some (vI (i + 1)), none, none, none], [], MW b J L)
          have hp8 := hp9 (by omega)
          have he9 : (i + 1).toNat = i.toNat + 1 := by omega
          refine ih (i + 1) J (by omega) (by omega) (by rw [he9]; refine Bnd_no h3 ?_; unfold hHeld; omega) (by omega)
        · refine rch_run rfl (by decide) 3 (t' := (51, [some (vR 49), some (vR 32), some (vI k), some (vI i), some (vI (J 52 (J 33 i.toNat).toNat)), some (vI (J 52 (J 34 i.toNat).toNat)), none], [vI k, vI i, vR 32], MW b J L)) (ps := []) rfl trivial ?_
          refine rch_call (h' := 1) (k' := 10) (as := [vR 32, vI i, vI k]) (t1 := (54, [some (vR 49), some (vR 32), some (vI k), some (vI i), some (vI (J 52 (J 33 i.toNat).toNat)), some (vI (J 52 (J 34 i.toNat).toNat)), none], [], MW b J L)) rfl rfl (k_hands_isHeld l E b J L i k (by show 0 ≤ J 32 0 ∧ J 32 0 ≤ 20; omega)) (by decide) mw_le ?_
          rintro rt9 w9 (⟨k47, rfl, rfl⟩ | ⟨k47, rfl, rfl⟩) _ _
          · show Rch l E 2 22 _ _ _ _ (54, [some (vR 49), some (vR 32), some (vI k), some (vI i), some (vI (J 52 (J 33 i.toNat).toNat)), some (vI (J 52 (J 34 i.toNat).toNat)), none], [vI 1], MW b J L)
            have k47 : (0 ≤ i ∧ i < J 32 0) ∧ J 36 i.toNat ≤ k ∧ (J 37 i.toNat = -1 ∨ k < J 37 i.toNat) := k47
            refine rch_br rfl (cd := (1 : Int) = 0) (t1 := (104, [some (vR 49), some (vR 32), some (vI k), some (vI i), some (vI (J 52 (J 33 i.toNat).toNat)), some (vI (J 52 (J 34 i.toNat).toNat)), none], [], MW b J L)) (t2 := (57, [some (vR 49), some (vR 32), some (vI k), some (vI i), some (vI (J 52 (J 33 i.toNat).toNat)), some (vI (J 52 (J 34 i.toNat).toNat)), none], [], MW b J L)) rfl (fun c9 => absurd c9 (by decide)) (fun _ => ?_)
            refine rch_run rfl (by decide) 5 (t' := (64, [some (vR 49), some (vR 32), some (vI k), some (vI i), some (vI (J 52 (J 33 i.toNat).toNat)), some (vI (J 52 (J 34 i.toNat).toNat)), none], [vI 1, vI (J 35 i.toNat)], MW b J L)) (ps := [0 ≤ i ∧ i < ((20 : Nat) : Int)]) rfl (by (try (have hp8 := hp9 (by omega); have hx8 := hx9 (by omega))); simp only [all_, i32, i64]; first | omega | (simp; done) | (simp; omega)) ?_
            refine rch_br rfl (cd := J 35 i.toNat ≠ (1 : Int)) (t1 := (74, [some (vR 49), some (vR 32), some (vI k), some (vI i), some (vI (J 52 (J 33 i.toNat).toNat)), some (vI (J 52 (J 34 i.toNat).toNat)), none], [], MW b J L)) (t2 := (67, [some (vR 49), some (vR 32), some (vI k), some (vI i), some (vI (J 52 (J 33 i.toNat).toNat)), some (vI (J 52 (J 34 i.toNat).toNat)), none], [], MW b J L)) rfl (fun c64_5 => ?_) (fun c64_5 => ?_)
            · refine rch_run rfl (by decide) 23 (t' := (2, [some (vR 49), some (vR 32), some (vI k), some (vI (i + 1)), some (vI (J 52 (J 33 i.toNat).toNat)), some (vI (J 52 (J 34 i.toNat).toNat)), some (vR 55)], [], MW b (upI (upI J 55 (J 52 (J 33 i.toNat).toNat).toNat (bOr (J 55 (J 52 (J 33 i.toNat).toNat).toNat) (bShl 1 (J 52 (J 34 i.toNat).toNat)))) 55 (J 52 (J 34 i.toNat).toNat).toNat (bOr ((upI J 55 (J 52 (J 33 i.toNat).toNat).toNat (bOr (J 55 (J 52 (J 33 i.toNat).toNat).toNat) (bShl 1 (J 52 (J 34 i.toNat).toNat)))) 55 (J 52 (J 34 i.toNat).toNat).toNat) (bShl 1 (J 52 (J 33 i.toNat).toNat)))) L)) (ps := [0 ≤ J 52 (J 33 i.toNat).toNat ∧ J 52 (J 33 i.toNat).toNat < ((10 : Nat) : Int), 0 ≤ J 52 (J 33 i.toNat).toNat ∧ J 52 (J 33 i.toNat).toNat < ((10 : Nat) : Int), 0 ≤ J 52 (J 34 i.toNat).toNat ∧ J 52 (J 34 i.toNat).toNat < ((10 : Nat) : Int), 0 ≤ J 52 (J 34 i.toNat).toNat ∧ J 52 (J 34 i.toNat).toNat < ((10 : Nat) : Int), i32 (i + 1)]) rfl (by (try (have hp8 := hp9 (by omega); have hx8 := hx9 (by omega))); simp only [all_, i32, i64]; first | omega | (simp; done) | (simp; omega)) ?_
              refine rch_forget [4, 5, 6] ?_
              show Rch l E 2 22 _ _ _ _ (2, [some (vR 49), some (vR 32), some (vI k), some (vI (i + 1)), none, none, none], [], MW b (upI (upI J 55 (J 52 (J 33 i.toNat).toNat).toNat (bOr (J 55 (J 52 (J 33 i.toNat).toNat).toNat) (bShl 1 (J 52 (J 34 i.toNat).toNat)))) 55 (J 52 (J 34 i.toNat).toNat).toNat (bOr ((upI J 55 (J 52 (J 33 i.toNat).toNat).toNat (bOr (J 55 (J 52 (J 33 i.toNat).toNat).toNat) (bShl 1 (J 52 (J 34 i.toNat).toNat)))) 55 (J 52 (J 34 i.toNat).toNat).toNat) (bShl 1 (J 52 (J 33 i.toNat).toNat)))) L)
              have hp8 := hp9 (by omega)
              have he9 : (i + 1).toNat = i.toNat + 1 := by omega
              refine ih (i + 1) _ (by omega) (by omega) (by rw [he9]; exact Bnd_hit (v := false) (A := 55) h3 ⟨by omega, by omega⟩ (by first | exact ⟨fun _ => rfl, fun _ => by omega⟩ | exact ⟨fun z => absurd z (by omega), fun z => absurd z (by decide)⟩) rfl hp8.1 hp8.2.2.1 (by omega) (by omega) (by omega) rfl) (by omega)
            · refine rch_run rfl (by decide) 24 (t' := (2, [some (vR 49), some (vR 32), some (vI k), some (vI (i + 1)), some (vI (J 52 (J 33 i.toNat).toNat)), some (vI (J 52 (J 34 i.toNat).toNat)), some (vR 54)], [], MW b (upI (upI J 54 (J 52 (J 33 i.toNat).toNat).toNat (bOr (J 54 (J 52 (J 33 i.toNat).toNat).toNat) (bShl 1 (J 52 (J 34 i.toNat).toNat)))) 54 (J 52 (J 34 i.toNat).toNat).toNat (bOr ((upI J 54 (J 52 (J 33 i.toNat).toNat).toNat (bOr (J 54 (J 52 (J 33 i.toNat).toNat).toNat) (bShl 1 (J 52 (J 34 i.toNat).toNat)))) 54 (J 52 (J 34 i.toNat).toNat).toNat) (bShl 1 (J 52 (J 33 i.toNat).toNat)))) L)) (ps := [0 ≤ J 52 (J 33 i.toNat).toNat ∧ J 52 (J 33 i.toNat).toNat < ((10 : Nat) : Int), 0 ≤ J 52 (J 33 i.toNat).toNat ∧ J 52 (J 33 i.toNat).toNat < ((10 : Nat) : Int), 0 ≤ J 52 (J 34 i.toNat).toNat ∧ J 52 (J 34 i.toNat).toNat < ((10 : Nat) : Int), 0 ≤ J 52 (J 34 i.toNat).toNat ∧ J 52 (J 34 i.toNat).toNat < ((10 : Nat) : Int), i32 (i + 1)]) rfl (by (try (have hp8 := hp9 (by omega); have hx8 := hx9 (by omega))); simp only [all_, i32, i64]; first | omega | (simp; done) | (simp; omega)) ?_
              refine rch_forget [4, 5, 6] ?_
              show Rch l E 2 22 _ _ _ _ (2, [some (vR 49), some (vR 32), some (vI k), some (vI (i + 1)), none, none, none], [], MW b (upI (upI J 54 (J 52 (J 33 i.toNat).toNat).toNat (bOr (J 54 (J 52 (J 33 i.toNat).toNat).toNat) (bShl 1 (J 52 (J 34 i.toNat).toNat)))) 54 (J 52 (J 34 i.toNat).toNat).toNat (bOr ((upI J 54 (J 52 (J 33 i.toNat).toNat).toNat (bOr (J 54 (J 52 (J 33 i.toNat).toNat).toNat) (bShl 1 (J 52 (J 34 i.toNat).toNat)))) 54 (J 52 (J 34 i.toNat).toNat).toNat) (bShl 1 (J 52 (J 33 i.toNat).toNat)))) L)
              have hp8 := hp9 (by omega)
              have he9 : (i + 1).toNat = i.toNat + 1 := by omega
              refine ih (i + 1) _ (by omega) (by omega) (by rw [he9]; exact Bnd_hit (v := true) (A := 54) h3 ⟨by omega, by omega⟩ (by first | exact ⟨fun _ => rfl, fun _ => by omega⟩ | exact ⟨fun z => absurd z (by omega), fun z => absurd z (by decide)⟩) rfl hp8.1 hp8.2.2.1 (by omega) (by omega) (by omega) rfl) (by omega)
          · show Rch l E 2 22 _ _ _ _ (54, [some (vR 49), some (vR 32), some (vI k), some (vI i), some (vI (J 52 (J 33 i.toNat).toNat)), some (vI (J 52 (J 34 i.toNat).toNat)), none], [vI 0], MW b J L)
            have k47 : ¬ ((0 ≤ i ∧ i < J 32 0) ∧ J 36 i.toNat ≤ k ∧ (J 37 i.toNat = -1 ∨ k < J 37 i.toNat)) := k47
            refine rch_br rfl (cd := (0 : Int) = 0) (t1 := (104, [some (vR 49), some (vR 32), some (vI k), some (vI i), some (vI (J 52 (J 33 i.toNat).toNat)), some (vI (J 52 (J 34 i.toNat).toNat)), none], [], MW b J L)) (t2 := (57, [some (vR 49), some (vR 32), some (vI k), some (vI i), some (vI (J 52 (J 33 i.toNat).toNat)), some (vI (J 52 (J 34 i.toNat).toNat)), none], [], MW b J L)) rfl (fun _ => ?_) (fun c9 => absurd (by decide) c9)
            refine rch_run rfl (by decide) 2 (t' := (2, [some (vR 49), some (vR 32), some (vI k), some (vI (i + 1)), some (vI (J 52 (J 33 i.toNat).toNat)), some (vI (J 52 (J 34 i.toNat).toNat)), none], [], MW b J L)) (ps := [i32 (i + 1)]) rfl (by (try (have hp8 := hp9 (by omega); have hx8 := hx9 (by omega))); simp only [all_, i32, i64]; first | omega | (simp; done) | (simp; omega)) ?_
            refine rch_forget [4, 5, 6] ?_
            show Rch l E 2 22 _ _ _ _ (2, [some (vR 49), some (vR 32), some (vI k), some (vI (i + 1)), none, none, none], [], MW b J L)
            have hp8 := hp9 (by omega)
            have he9 : (i + 1).toNat = i.toNat + 1 := by omega
            refine ih (i + 1) J (by omega) (by omega) (by rw [he9]; refine Bnd_no h3 ?_; unfold hHeld; omega) (by omega)

theorem k_X3_bind (l : Launch) (E : AX) (b : Bool) (I L : Nat → Nat → Int) (k : Int) (hH : HOK I) (hz : ∀ i : Nat, (i : Int) < I 49 3 → I 54 i = 0 ∧ I 55 i = 0) : Con l E 2 22 [vR 49, vR 32, vI k] (MW b I L) 0 0 (fun rt w => ∃ J, rt = none ∧ w = MW b J L ∧ Bnd I J k (I 32 0).toNat) := by
  refine con_ok (fun hw9 hs9 => ?_)
  refine con_intro (by decide) (Nat.le_of_ble_eq_true rfl) ?_
  show Rch l E 2 22 _ _ _ _ (0, [some (vR 49), some (vR 32), some (vI k), none, none, none, none], [], MW b I L)
  refine rch_run rfl (by decide) 2 (t' := (2, [some (vR 49), some (vR 32), some (vI k), some (vI 0), none, none, none], [], MW b I L)) (ps := []) rfl trivial ?_
  exact lp_bind l E b I L k hH 21 0 I (by omega) hH.1.1 (Bnd_0 hz) (by have := hH.1; omega)
