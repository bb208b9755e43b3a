theorem k_X5_takeVersion (l : Launch) (E : AX) (b : Bool) (I L : Nat → Nat → Int) (i : Int) (hi : 0 ≤ i ∧ i < 150) (hr : (0 ≤ I 22 i.toNat ∧ I 22 i.toNat < 10) ∧ (0 ≤ I 23 i.toNat ∧ I 23 i.toNat ≤ 5) ∧ (I 27 i.toNat = 0 ∨ I 27 i.toNat = 1)) : Con l E 1 35 [vR 44, vR 21, vI i] (MW b I L) 0 0 (fun rt w => ((I 46 (((I 22 i.toNat) * 6) + (I 23 i.toNat)).toNat = -1 ∨ I 47 (((I 22 i.toNat) * 6) + (I 23 i.toNat)).toNat ≤ I 25 i.toNat) ∧ rt = none ∧ w = MW b (upI (upI (upI I 46 (((I 22 i.toNat) * 6) + (I 23 i.toNat)).toNat (I 24 i.toNat)) 47 (((I 22 i.toNat) * 6) + (I 23 i.toNat)).toNat (I 25 i.toNat)) 48 (((I 22 i.toNat) * 6) + (I 23 i.toNat)).toNat (I 27 i.toNat)) L) ∨ ((¬ (I 46 (((I 22 i.toNat) * 6) + (I 23 i.toNat)).toNat = -1 ∨ I 47 (((I 22 i.toNat) * 6) + (I 23 i.toNat)).toNat ≤ I 25 i.toNat)) ∧ rt = none ∧ w = MW b I L)) := by
  refine con_intro (by decide) (Nat.le_of_ble_eq_true rfl) ?_
  show Rch l E 1 35 _ _ _ _ (0, [some (vR 44), some (vR 21), some (vI i), none], [], MW b I L)
  refine rch_run rfl (by decide) 17 (t' := (24, [some (vR 44), some (vR 21), some (vI i), some (vI (((I 22 i.toNat) * 6) + (I 23 i.toNat)))], [vI (-1), vI (I 46 (((I 22 i.toNat) * 6) + (I 23 i.toNat)).toNat)], MW b I L)) (ps := [0 ≤ i ∧ i < ((150 : Nat) : Int), i32 ((I 22 i.toNat) * 6), 0 ≤ i ∧ i < ((150 : Nat) : Int), i32 (((I 22 i.toNat) * 6) + (I 23 i.toNat)), 0 ≤ ((I 22 i.toNat) * 6) + (I 23 i.toNat) ∧ ((I 22 i.toNat) * 6) + (I 23 i.toNat) < ((60 : Nat) : Int)]) rfl (by simp only [all_, i32, i64]; first | omega | (simp; done) | (simp; omega)) ?_
  refine rch_br rfl (cd := I 46 (((I 22 i.toNat) * 6) + (I 23 i.toNat)).toNat = ((-1) : Int)) (t1 := (42, [some (vR 44), some (vR 21), some (vI i), some (vI (((I 22 i.toNat) * 6) + (I 23 i.toNat)))], [], MW b I L)) (t2 := (27, [some (vR 44), some (vR 21), some (vI i), some (vI (((I 22 i.toNat) * 6) + (I 23 i.toNat)))], [], MW b I L)) rfl (fun c24_1 => ?_) (fun c24_1 => ?_)
  · refine rch_run rfl (by decide) 24 (t' := (78, [some (vR 44), some (vR 21), some (vI i), some (vI (((I 22 i.toNat) * 6) + (I 23 i.toNat)))], [], MW b (upI (upI (upI I 46 (((I 22 i.toNat) * 6) + (I 23 i.toNat)).toNat (I 24 i.toNat)) 47 (((I 22 i.toNat) * 6) + (I 23 i.toNat)).toNat (I 25 i.toNat)) 48 (((I 22 i.toNat) * 6) + (I 23 i.toNat)).toNat (I 27 i.toNat)) L)) (ps := [0 ≤ i ∧ i < ((150 : Nat) : Int), 0 ≤ ((I 22 i.toNat) * 6) + (I 23 i.toNat) ∧ ((I 22 i.toNat) * 6) + (I 23 i.toNat) < ((60 : Nat) : Int), 0 ≤ i ∧ i < ((150 : Nat) : Int), 0 ≤ ((I 22 i.toNat) * 6) + (I 23 i.toNat) ∧ ((I 22 i.toNat) * 6) + (I 23 i.toNat) < ((60 : Nat) : Int), 0 ≤ i ∧ i < ((150 : Nat) : Int), 0 ≤ ((I 22 i.toNat) * 6) + (I 23 i.toNat) ∧ ((I 22 i.toNat) * 6) + (I 23 i.toNat) < ((60 : Nat) : Int), I 27 i.toNat = 0 ∨ I 27 i.toNat = 1]) rfl (by simp only [all_, i32, i64]; first | omega | (simp; done) | (simp; omega)) ?_
    refine rch_ret rfl (rt := none) rfl trivial mw_c ?_
    first | exact Or.inl ⟨by omega, rfl, rfl⟩ | exact Or.inr (⟨by omega, rfl, rfl⟩) | (exfalso; omega)
  · refine rch_run rfl (by decide) 8 (t' := (39, [some (vR 44), some (vR 21), some (vI i), some (vI (((I 22 i.toNat) * 6) + (I 23 i.toNat)))], [vI (I 47 (((I 22 i.toNat) * 6) + (I 23 i.toNat)).toNat), vI (I 25 i.toNat)], MW b I L)) (ps := [0 ≤ i ∧ i < ((150 : Nat) : Int), 0 ≤ ((I 22 i.toNat) * 6) + (I 23 i.toNat) ∧ ((I 22 i.toNat) * 6) + (I 23 i.toNat) < ((60 : Nat) : Int)]) rfl (by simp only [all_, i32, i64]; first | omega | (simp; done) | (simp; omega)) ?_
    refine rch_br rfl (cd := I 25 i.toNat < I 47 (((I 22 i.toNat) * 6) + (I 23 i.toNat)).toNat) (t1 := (78, [some (vR 44), some (vR 21), some (vI i), some (vI (((I 22 i.toNat) * 6) + (I 23 i.toNat)))], [], MW b I L)) (t2 := (42, [some (vR 44), some (vR 21), some (vI i), some (vI (((I 22 i.toNat) * 6) + (I 23 i.toNat)))], [], MW b I L)) rfl (fun c39_2 => ?_) (fun c39_2 => ?_)
    · refine rch_ret rfl (rt := none) rfl trivial mw_c ?_
      first | exact Or.inl ⟨by omega, rfl, rfl⟩ | exact Or.inr (⟨by omega, rfl, rfl⟩) | (exfalso; omega)
    · refine rch_run rfl (by decide) 24 (t' := (78, [some (vR 44), some (vR 21), some (vI i), some (vI (((I 22 i.toNat) * 6) + (I 23 i.toNat)))], [], MW b (upI (upI (upI I 46 (((I 22 i.toNat) * 6) + (I 23 i.toNat)).toNat (I 24 i.toNat)) 47 (((I 22 i.toNat) * 6) + (I 23 i.toNat)).toNat (I 25 i.toNat)) 48 (((I 22 i.toNat) * 6) + (I 23 i.toNat)).toNat (I 27 i.toNat)) L)) (ps := [0 ≤ i ∧ i < ((150 : Nat) : Int), 0 ≤ ((I 22 i.toNat) * 6) + (I 23 i.toNat) ∧ ((I 22 i.toNat) * 6) + (I 23 i.toNat) < ((60 : Nat) : Int), 0 ≤ i ∧ i < ((150 : Nat) : Int), 0 ≤ ((I 22 i.toNat) * 6) + (I 23 i.toNat) ∧ ((I 22 i.toNat) * 6) + (I 23 i.toNat) < ((60 : Nat) : Int), 0 ≤ i ∧ i < ((150 : Nat) : Int), 0 ≤ ((I 22 i.toNat) * 6) + (I 23 i.toNat) ∧ ((I 22 i.toNat) * 6) + (I 23 i.toNat) < ((60 : Nat) : Int), I 27 i.toNat = 0 ∨ I 27 i.toNat = 1]) rfl (by simp only [all_, i32, i64]; first | omega | (simp; done) | (simp; omega)) ?_
      refine rch_ret rfl (rt := none) rfl trivial mw_c ?_
      first | exact Or.inl ⟨by omega, rfl, rfl⟩ | exact Or.inr (⟨by omega, rfl, rfl⟩) | (exfalso; omega)

theorem lp_take3 (l : Launch) (E : AX) (b : Bool) (I L : Nat → Nat → Int) (d k : Int) (hV : VOK I) : ∀ (n9 : Nat) (i : Int) (J : Nat → Nat → Int), 0 ≤ i → i ≤ I 21 0 → FrS I J → J 44 0 = d ∧ J 44 1 = k → (∀ r, r < 10 → J 45 r = thr I k r) → (∀ c, c < 60 → Cel I J d k i.toNat c) → I 21 0 - i < (n9 : Int) → Rch l E 2 34 (MW b I L) 0 0 (fun rt w => ∃ J, rt = none ∧ w = MW b J L ∧ Took I J d k) (87, [some (vR 44), some (vR 17), some (vR 21), some (vI d), some (vI k), some (vI i)], [], MW b J L) := by
  intro n9
  induction n9 with
  | zero =>
    intro i J h1 h2 h3 h4 h5 h6 hm
    exfalso; omega
  | succ n9 ih =>
    intro i J h1 h2 h3 h4 h5 h6 hm
    have hv := hV.2.1
    have q21 := h3 21 0 (by omega)
    have q22 := h3 22 i.toNat (by omega)
    have q23 := h3 23 i.toNat (by omega)
    have q24 := h3 24 i.toNat (by omega)
    have q25 := h3 25 i.toNat (by omega)
    have q26 := h3 26 i.toNat (by omega)
    have q27 := h3 27 i.toNat (by omega)
    have hx := hV.2.2 i.toNat
    refine rch_run rfl (by decide) 3 (t' := (93, [some (vR 44), some (vR 17), some (vR 21), some (vI d), some (vI k), some (vI i)], [vI (J 21 0), vI i], MW b J L)) (ps := []) rfl trivial ?_
    refine rch_br rfl (cd := J 21 0 ≤ i) (t1 := (147, [some (vR 44), some (vR 17), some (vR 21), some (vI d), some (vI k), some (vI i)], [], MW b J L)) (t2 := (96, [some (vR 44), some (vR 17), some (vR 21), some (vI d), some (vI k), some (vI i)], [], MW b J L)) rfl (fun c93_1 => ?_) (fun c93_1 => ?_)
    · refine rch_ret rfl (rt := none) rfl trivial mw_c ?_
      exact ⟨J, rfl, rfl, h3, h4.1, h4.2, h5, by rw [show (I 21 0).toNat = i.toNat by omega]; exact h6⟩
    · refine rch_run rfl (by decide) 5 (t' := (105, [some (vR 44), some (vR 17), some (vR 21), some (vI d), some (vI k), some (vI i)], [vI k, vI (J 26 i.toNat)], MW b J L)) (ps := [0 ≤ i ∧ i < ((150 : Nat) : Int)]) rfl (by (try have hx := hx (by omega)); simp only [all_, i32, i64]; first | omega | (simp; done) | (simp; omega)) ?_
      refine rch_br rfl (cd := k < J 26 i.toNat) (t1 := (141, [some (vR 44), some (vR 17), some (vR 21), some (vI d), some (vI k), some (vI i)], [], MW b J L)) (t2 := (108, [some (vR 44), some (vR 17), some (vR 21), some (vI d), some (vI k), some (vI i)], [], MW b J L)) rfl (fun c105_2 => ?_) (fun c105_2 => ?_)
      · refine rch_run rfl (by decide) 2 (t' := (87, [some (vR 44), some (vR 17), some (vR 21), some (vI d), some (vI k), some (vI (i + 1))], [], MW b J L)) (ps := [i32 (i + 1)]) rfl (by (try have hx := hx (by omega)); simp only [all_, i32, i64]; first | omega | (simp; done) | (simp; omega)) ?_
        have hth := h5 (J 22 i.toNat).toNat
        have hx := hx (by omega)
        refine ih (i + 1) J (by omega) (by omega) h3 h4 h5 (fun c hc => ?_) (by omega)
        rw [show (i + 1).toNat = i.toNat + 1 by omega]
        exact take_skip h6 hc q22 q23 q24 q25 q26 hx hth (by omega)
      · refine rch_run rfl (by decide) 5 (t' := (116, [some (vR 44), some (vR 17), some (vR 21), some (vI d), some (vI k), some (vI i)], [vI d, vI (J 25 i.toNat)], MW b J L)) (ps := [0 ≤ i ∧ i < ((150 : Nat) : Int)]) rfl (by (try have hx := hx (by omega)); simp only [all_, i32, i64]; first | omega | (simp; done) | (simp; omega)) ?_
        refine rch_br rfl (cd := d < J 25 i.toNat) (t1 := (141, [some (vR 44), some (vR 17), some (vR 21), some (vI d), some (vI k), some (vI i)], [], MW b J L)) (t2 := (119, [some (vR 44), some (vR 17), some (vR 21), some (vI d), some (vI k), some (vI i)], [], MW b J L)) rfl (fun c116_3 => ?_) (fun c116_3 => ?_)
        · refine rch_run rfl (by decide) 2 (t' := (87, [some (vR 44), some (vR 17), some (vR 21), some (vI d), some (vI k), some (vI (i + 1))], [], MW b J L)) (ps := [i32 (i + 1)]) rfl (by (try have hx := hx (by omega)); simp only [all_, i32, i64]; first | omega | (simp; done) | (simp; omega)) ?_
          have hth := h5 (J 22 i.toNat).toNat
          have hx := hx (by omega)
          refine ih (i + 1) J (by omega) (by omega) h3 h4 h5 (fun c hc => ?_) (by omega)
          rw [show (i + 1).toNat = i.toNat + 1 by omega]
          exact take_skip h6 hc q22 q23 q24 q25 q26 hx hth (by omega)
        · refine rch_run rfl (by decide) 7 (t' := (131, [some (vR 44), some (vR 17), some (vR 21), some (vI d), some (vI k), some (vI i)], [vI (J 45 (J 22 i.toNat).toNat)], MW b J L)) (ps := [0 ≤ i ∧ i < ((150 : Nat) : Int), 0 ≤ J 22 i.toNat ∧ J 22 i.toNat < ((10 : Nat) : Int)]) rfl (by (try have hx := hx (by omega)); simp only [all_, i32, i64]; first | omega | (simp; done) | (simp; omega)) ?_
          refine rch_br rfl (cd := J 45 (J 22 i.toNat).toNat = 0) (t1 := (141, [some (vR 44), some (vR 17), some (vR 21), some (vI d), some (vI k), some (vI i)], [], MW b J L)) (t2 := (134, [some (vR 44), some (vR 17), some (vR 21), some (vI d), some (vI k), some (vI i)], [], MW b J L)) rfl (fun c131_4 => ?_) (fun c131_4 => ?_)
          · refine rch_run rfl (by decide) 2 (t' := (87, [some (vR 44), some (vR 17), some (vR 21), some (vI d), some (vI k), some (vI (i + 1))], [], MW b J L)) (ps := [i32 (i + 1)]) rfl (by (try have hx := hx (by omega)); simp only [all_, i32, i64]; first | omega | (simp; done) | (simp; omega)) ?_
            have hth := h5 (J 22 i.toNat).toNat
            have hx := hx (by omega)
            refine ih (i + 1) J (by omega) (by omega) h3 h4 h5 (fun c hc => ?_) (by omega)
            rw [show (i + 1).toNat = i.toNat + 1 by omega]
            exact take_skip h6 hc q22 q23 q24 q25 q26 hx hth (by omega)
          · refine rch_run rfl (by decide) 3 (t' := (138, [some (vR 44), some (vR 17), some (vR 21), some (vI d), some (vI k), some (vI i)], [vI i, vR 21, vR 44], MW b J L)) (ps := []) rfl trivial ?_
            refine rch_call (h' := 1) (k' := 35) (as := [vR 44, vR 21, vI i]) (t1 := (141, [some (vR 44), some (vR 17), some (vR 21), some (vI d), some (vI k), some (vI i)], [], MW b J L)) rfl rfl (k_X5_takeVersion l E b J L i (by show 0 ≤ i ∧ i < 150; (have hx := hx (by omega); omega)) (by show (0 ≤ J 22 i.toNat ∧ J 22 i.toNat < 10) ∧ (0 ≤ J 23 i.toNat ∧ J 23 i.toNat ≤ 5) ∧ (J 27 i.toNat = 0 ∨ J 27 i.toNat = 1); (have hx := hx (by omega); omega))) (by decide) mw_le ?_
            rintro rt9 w9 (⟨k40, rfl, rfl⟩ | ⟨k40, rfl, rfl⟩) _ _
            · show Rch l E 2 34 _ _ _ _ (141, [some (vR 44), some (vR 17), some (vR 21), some (vI d), some (vI k), some (vI i)], [], MW b (upI (upI (upI J 46 (((J 22 i.toNat) * 6) + (J 23 i.toNat)).toNat (J 24 i.toNat)) 47 (((J 22 i.toNat) * 6) + (J 23 i.toNat)).toNat (J 25 i.toNat)) 48 (((J 22 i.toNat) * 6) + (J 23 i.toNat)).toNat (J 27 i.toNat)) L)
              have k40 : J 46 (((J 22 i.toNat) * 6) + (J 23 i.toNat)).toNat = -1 ∨ J 47 (((J 22 i.toNat) * 6) + (J 23 i.toNat)).toNat ≤ J 25 i.toNat := k40
              refine rch_run rfl (by decide) 2 (t' := (87, [some (vR 44), some (vR 17), some (vR 21), some (vI d), some (vI k), some (vI (i + 1))], [], MW b (upI (upI (upI J 46 (((J 22 i.toNat) * 6) + (J 23 i.toNat)).toNat (J 24 i.toNat)) 47 (((J 22 i.toNat) * 6) + (J 23 i.toNat)).toNat (J 25 i.toNat)) 48 (((J 22 i.toNat) * 6) + (J 23 i.toNat)).toNat (J 27 i.toNat)) L)) (ps := [i32 (i + 1)]) rfl (by (try have hx := hx (by omega)); simp only [all_, i32, i64]; first | omega | (simp; done) | (simp; omega)) ?_
              have hx := hx (by omega)
              have hth := h5 (J 22 i.toNat).toNat (by omega)
              refine ih (i + 1) (upI (upI (upI J 46 (((J 22 i.toNat) * 6) + (J 23 i.toNat)).toNat (J 24 i.toNat)) 47 (((J 22 i.toNat) * 6) + (J 23 i.toNat)).toNat (J 25 i.toNat)) 48 (((J 22 i.toNat) * 6) + (J 23 i.toNat)).toNat (J 27 i.toNat)) (by omega) (by omega) (fun a j ha => ?_) ⟨?_, ?_⟩ (fun r hr => ?_) (fun c hc => ?_) (by omega)
              · rw [upI_ne (by omega), upI_ne (by omega), upI_ne (by omega)]; exact h3 a j ha
              · exact h4.1
              · exact h4.2
              · exact h5 r hr
              · rw [show (i + 1).toNat = i.toNat + 1 by omega]
                by_cases hcc : c = ((((J 22 i.toNat) * 6) + (J 23 i.toNat))).toNat
                · exact take_hit hV (by omega) h6 hc hcc q22 q23 q24 q25 q26 q27 hth (by omega) (by omega) (by omega) (by omega)
                · refine Cel_skip (h6 c hc) (sv_skip (fun z => hcc ?_)) (by rw [upI_ne (by omega), upI_ne (by omega), upI_ne (by omega)]) (by rw [upI_ne (by omega), upI_ne (by omega), upI_ne (by omega)]) (by rw [upI_ne (by omega), upI_ne (by omega), upI_ne (by omega)])
                  omega
            · show Rch l E 2 34 _ _ _ _ (141, [some (vR 44), some (vR 17), some (vR 21), some (vI d), some (vI k), some (vI i)], [], MW b J L)
              have k40 : ¬ (J 46 (((J 22 i.toNat) * 6) + (J 23 i.toNat)).toNat = -1 ∨ J 47 (((J 22 i.toNat) * 6) + (J 23 i.toNat)).toNat ≤ J 25 i.toNat) := k40
              refine rch_run rfl (by decide) 2 (t' := (87, [some (vR 44), some (vR 17), some (vR 21), some (vI d), some (vI k), some (vI (i + 1))], [], MW b J L)) (ps := [i32 (i + 1)]) rfl (by (try have hx := hx (by omega)); simp only [all_, i32, i64]; first | omega | (simp; done) | (simp; omega)) ?_
              have hth := h5 (J 22 i.toNat).toNat
              have hx := hx (by omega)
              refine ih (i + 1) J (by omega) (by omega) h3 h4 h5 (fun c hc => ?_) (by omega)
              rw [show (i + 1).toNat = i.toNat + 1 by omega]
              exact take_skip h6 hc q22 q23 q24 q25 q26 hx hth (by omega)

theorem lp_take2 (l : Launch) (E : AX) (b : Bool) (I L : Nat → Nat → Int) (d k : Int) (hV : VOK I) : ∀ (n9 : Nat) (i : Int) (J : Nat → Nat → Int), 0 ≤ i → i ≤ 60 → FrS I J → J 44 0 = d ∧ J 44 1 = k → (∀ r, r < 10 → J 45 r = thr I k r) → (∀ c : Nat, (c : Int) < i → J 46 c = -1) → 60 - i < (n9 : Int) → Rch l E 2 34 (MW b I L) 0 0 (fun rt w => ∃ J, rt = none ∧ w = MW b J L ∧ Took I J d k) (63, [some (vR 44), some (vR 17), some (vR 21), some (vI d), some (vI k), some (vI i)], [], MW b J L) := by
  intro n9
  induction n9 with
  | zero =>
    intro i J h1 h2 h3 h4 h5 h6 hm
    exfalso; omega
  | succ n9 ih =>
    intro i J h1 h2 h3 h4 h5 h6 hm
    refine rch_run rfl (by decide) 2 (t' := (67, [some (vR 44), some (vR 17), some (vR 21), some (vI d), some (vI k), some (vI i)], [vI 60, vI i], MW b J L)) (ps := []) rfl trivial ?_
    refine rch_br rfl (cd := (60 : Int) ≤ i) (t1 := (84, [some (vR 44), some (vR 17), some (vR 21), some (vI d), some (vI k), some (vI i)], [], MW b J L)) (t2 := (70, [some (vR 44), some (vR 17), some (vR 21), some (vI d), some (vI k), some (vI i)], [], MW b J L)) rfl (fun c67_1 => ?_) (fun c67_1 => ?_)
    · refine rch_run rfl (by decide) 2 (t' := (87, [some (vR 44), some (vR 17), some (vR 21), some (vI d), some (vI k), some (vI 0)], [], MW b J L)) (ps := []) rfl trivial ?_
      exact lp_take3 l E b I L d k hV 151 0 J (by omega) hV.2.1.1 h3 h4 h5 (fun c hc => ⟨by show J 46 c = if sv I d k 0 c < 0 then -1 else _; rw [sv_0, if_pos (by omega)]; exact h6 c (by omega), fun h => by rw [show Int.toNat 0 = 0 from rfl, sv_0] at h; omega⟩) (by have := hV.2.1; omega)
    · refine rch_run rfl (by decide) 7 (t' := (63, [some (vR 44), some (vR 17), some (vR 21), some (vI d), some (vI k), some (vI (i + 1))], [], MW b (upI J 46 i.toNat (-1)) L)) (ps := [0 ≤ i ∧ i < ((60 : Nat) : Int), i32 (i + 1)]) rfl (by simp only [all_, i32, i64]; first | omega | (simp; done) | (simp; omega)) ?_
      refine ih (i + 1) (upI J 46 i.toNat (-1)) (by omega) (by omega) (fun a j ha => ?_) h4 h5 (fun c hc => ?_) (by omega)
      · rw [upI_ne (by omega)]; exact h3 a j ha
      · by_cases hcc : c = i.toNat
        · rw [upI_eq rfl hcc]
        · rw [upI_ne (by omega)]; exact h6 c (by omega)

theorem lp_take1 (l : Launch) (E : AX) (b : Bool) (I L : Nat → Nat → Int) (d k : Int) (hV : VOK I) : ∀ (n9 : Nat) (i : Int) (J : Nat → Nat → Int), 0 ≤ i → i ≤ 10 → FrS I J → J 44 0 = d ∧ J 44 1 = k → (∀ r : Nat, (r : Int) < i → J 45 r = thr I k r) → 10 - i < (n9 : Int) → Rch l E 2 34 (MW b I L) 0 0 (fun rt w => ∃ J, rt = none ∧ w = MW b J L ∧ Took I J d k) (14, [some (vR 44), some (vR 17), some (vR 21), some (vI d), some (vI k), some (vI i)], [], MW b J L) := by
  intro n9
  induction n9 with
  | zero =>
    intro i J h1 h2 h3 h4 h5 hm
    exfalso; omega
  | succ n9 ih =>
    intro i J h1 h2 h3 h4 h5 hm
    have hv := hV.1
    have q17 := h3 17 0 (by omega)
    have q19 := h3 19 i.toNat (by omega)
    have q20 := h3 20 i.toNat (by omega)
    refine rch_run rfl (by decide) 2 (t' := (18, [some (vR 44), some (vR 17), some (vR 21), some (vI d), some (vI k), some (vI i)], [vI 10, vI i], MW b J L)) (ps := []) rfl trivial ?_
    refine rch_br rfl (cd := (10 : Int) ≤ i) (t1 := (60, [some (vR 44), some (vR 17), some (vR 21), some (vI d), some (vI k), some (vI i)], [], MW b J L)) (t2 := (21, [some (vR 44), some (vR 17), some (vR 21), some (vI d), some (vI k), some (vI i)], [], MW b J L)) rfl (fun c18_1 => ?_) (fun c18_1 => ?_)
    · refine rch_run rfl (by decide) 2 (t' := (63, [some (vR 44), some (vR 17), some (vR 21), some (vI d), some (vI k), some (vI 0)], [], MW b J L)) (ps := []) rfl trivial ?_
      exact lp_take2 l E b I L d k hV 61 0 J (by omega) (by omega) h3 h4 (fun r hr => h5 r (by omega)) (fun c hc => by omega) (by omega)
    · refine rch_run rfl (by decide) 5 (t' := (30, [some (vR 44), some (vR 17), some (vR 21), some (vI d), some (vI k), some (vI i)], [vI i, vR 17, vI i, vR 45], MW b J L)) (ps := []) rfl trivial ?_
      refine rch_call (h' := 1) (k' := 32) (as := [vR 17, vI i]) (t1 := (33, [some (vR 44), some (vR 17), some (vR 21), some (vI d), some (vI k), some (vI i)], [vI i, vR 45], MW b J L)) rfl rfl (k_X4_isAlive l E b J L i (by show J 17 0 ≤ 10; omega)) (by decide) mw_le ?_
      rintro rt9 w9 (⟨k41, rfl, rfl⟩ | ⟨k41, rfl, rfl⟩) _ _
      · show Rch l E 2 34 _ _ _ _ (33, [some (vR 44), some (vR 17), some (vR 21), some (vI d), some (vI k), some (vI i)], [vI 1, vI i, vR 45], MW b J L)
        have k41 : 0 ≤ i ∧ i < J 17 0 ∧ J 20 i.toNat = 0 := k41
        refine rch_br rfl (cd := (1 : Int) = 0) (t1 := (52, [some (vR 44), some (vR 17), some (vR 21), some (vI d), some (vI k), some (vI i)], [vI i, vR 45], MW b J L)) (t2 := (36, [some (vR 44), some (vR 17), some (vR 21), some (vI d), some (vI k), some (vI i)], [vI i, vR 45], MW b J L)) rfl (fun c9 => absurd c9 (by decide)) (fun _ => ?_)
        refine rch_run rfl (by decide) 5 (t' := (45, [some (vR 44), some (vR 17), some (vR 21), some (vI d), some (vI k), some (vI i)], [vI k, vI (J 19 i.toNat), vI i, vR 45], MW b J L)) (ps := [0 ≤ i ∧ i < ((10 : Nat) : Int)]) rfl (by simp only [all_, i32, i64]; first | omega | (simp; done) | (simp; omega)) ?_
        refine rch_br rfl (cd := k < J 19 i.toNat) (t1 := (52, [some (vR 44), some (vR 17), some (vR 21), some (vI d), some (vI k), some (vI i)], [vI i, vR 45], MW b J L)) (t2 := (48, [some (vR 44), some (vR 17), some (vR 21), some (vI d), some (vI k), some (vI i)], [vI i, vR 45], MW b J L)) rfl (fun c45_3 => ?_) (fun c45_3 => ?_)
        · refine rch_run rfl (by decide) 4 (t' := (14, [some (vR 44), some (vR 17), some (vR 21), some (vI d), some (vI k), some (vI (i + 1))], [], MW b (upI J 45 i.toNat 0) L)) (ps := [0 ≤ i ∧ i < ((10 : Nat) : Int), (0 : Int) = 0 ∨ (0 : Int) = 1, i32 (i + 1)]) rfl (by simp only [all_, i32, i64]; first | omega | (simp; done) | (simp; omega)) ?_
          refine ih (i + 1) (upI J 45 i.toNat 0) (by omega) (by omega) (fun a j ha => ?_) h4 (fun r hr => ?_) (by omega)
          · rw [upI_ne (by omega)]; exact h3 a j ha
          · by_cases hcc : r = i.toNat
            · rw [upI_eq rfl hcc, hcc]; unfold thr; first | rw [if_pos (by omega)] | rw [if_neg (by omega)]
            · rw [upI_ne (by omega)]; exact h5 r (by omega)
        · refine rch_run rfl (by decide) 5 (t' := (14, [some (vR 44), some (vR 17), some (vR 21), some (vI d), some (vI k), some (vI (i + 1))], [], MW b (upI J 45 i.toNat 1) L)) (ps := [0 ≤ i ∧ i < ((10 : Nat) : Int), (1 : Int) = 0 ∨ (1 : Int) = 1, i32 (i + 1)]) rfl (by simp only [all_, i32, i64]; first | omega | (simp; done) | (simp; omega)) ?_
          refine ih (i + 1) (upI J 45 i.toNat 1) (by omega) (by omega) (fun a j ha => ?_) h4 (fun r hr => ?_) (by omega)
          · rw [upI_ne (by omega)]; exact h3 a j ha
          · by_cases hcc : r = i.toNat
            · rw [upI_eq rfl hcc, hcc]; unfold thr; first | rw [if_pos (by omega)] | rw [if_neg (by omega)]
            · rw [upI_ne (by omega)]; exact h5 r (by omega)
      · show Rch l E 2 34 _ _ _ _ (33, [some (vR 44), some (vR 17), some (vR 21), some (vI d), some (vI k), some (vI i)], [vI 0, vI i, vR 45], MW b J L)
        have k41 : ¬ (0 ≤ i ∧ i < J 17 0 ∧ J 20 i.toNat = 0) := k41
        refine rch_br rfl (cd := (0 : Int) = 0) (t1 := (52, [some (vR 44), some (vR 17), some (vR 21), some (vI d), some (vI k), some (vI i)], [vI i, vR 45], MW b J L)) (t2 := (36, [some (vR 44), some (vR 17), some (vR 21), some (vI d), some (vI k), some (vI i)], [vI i, vR 45], MW b J L)) rfl (fun _ => ?_) (fun c9 => absurd (by decide) c9)
        refine rch_run rfl (by decide) 4 (t' := (14, [some (vR 44), some (vR 17), some (vR 21), some (vI d), some (vI k), some (vI (i + 1))], [], MW b (upI J 45 i.toNat 0) L)) (ps := [0 ≤ i ∧ i < ((10 : Nat) : Int), (0 : Int) = 0 ∨ (0 : Int) = 1, i32 (i + 1)]) rfl (by simp only [all_, i32, i64]; first | omega | (simp; done) | (simp; omega)) ?_
        refine ih (i + 1) (upI J 45 i.toNat 0) (by omega) (by omega) (fun a j ha => ?_) h4 (fun r hr => ?_) (by omega)
        · rw [upI_ne (by omega)]; exact h3 a j ha
        · by_cases hcc : r = i.toNat
          · rw [upI_eq rfl hcc, hcc]; unfold thr; first | rw [if_pos (by omega)] | rw [if_neg (by omega)]
          · rw [upI_ne (by omega)]; exact h5 r (by omega)

theorem k_X5_take (l : Launch) (E : AX) (b : Bool) (I L : Nat → Nat → Int) (d k : Int) (hV : VOK I) : Con l E 2 34 [vR 44, vR 17, vR 21, vI d, vI k] (MW b I L) 0 0 (fun rt w => ∃ J, rt = none ∧ w = MW b J L ∧ Took I J d k) := by
  refine con_ok (fun hw9 hs9 => ?_)
  refine con_intro (by decide) (Nat.le_of_ble_eq_true rfl) ?_
  show Rch l E 2 34 _ _ _ _ (0, [some (vR 44), some (vR 17), some (vR 21), some (vI d), some (vI k), none], [], MW b I L)
  refine rch_run rfl (by decide) 8 (t' := (14, [some (vR 44), some (vR 17), some (vR 21), some (vI d), some (vI k), some (vI 0)], [], MW b (upI (upI I 44 0 d) 44 1 k) L)) (ps := []) rfl trivial ?_
  exact lp_take1 l E b I L d k hV 11 0 (upI (upI I 44 0 d) 44 1 k) (by omega) (by omega) (fun a j ha => by rw [upI_ne (by omega), upI_ne (by omega)]) ⟨rfl, rfl⟩ (fun r hr => by omega) (by omega)
