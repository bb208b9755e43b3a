theorem k_here (l : Launch) (E : AX) (b : Bool) (I L : Nat → Nat → Int) (k : Int) (hk : (0 ≤ k ∧ k ≤ 1000) ∧ (0 ≤ I 74 33 ∧ I 74 33 ≤ 1000) ∧ I 74 34 ≤ 500) : Con l E 1 122 [vR 74, vI k] (MW b I L) 0 0 (fun rt w => (((I 74 33) + k < I 74 34) ∧ rt = some (vI (I 97 ((I 74 33) + k).toNat)) ∧ w = MW b I L) ∨ ((¬ ((I 74 33) + k < I 74 34)) ∧ rt = some (vI (-1)) ∧ w = MW b I L)) := by
  refine con_intro (by decide) (Nat.le_of_ble_eq_true rfl) ?_
  show Rch l E 1 122 _ _ _ _ (0, [some (vR 74), some (vI k)], [], MW b I L)
  refine rch_run cdK122 (by decide) 6 (t' := (10, [some (vR 74), some (vI k)], [vI (I 74 34), vI ((I 74 33) + k)], MW b I L)) (ps := [i32 ((I 74 33) + k)]) rfl (by simp only [all_, i32, i64]; first | omega | (simp; done) | (simp; omega)) ?_
  refine rch_br cdK122 (cd := I 74 34 ≤ (I 74 33) + k) (t1 := (27, [some (vR 74), some (vI k)], [], MW b I L)) (t2 := (13, [some (vR 74), some (vI k)], [], MW b I L)) rfl (fun c10_1 => ?_) (fun c10_1 => ?_)
  · refine rch_run cdK122 (by decide) 1 (t' := (28, [some (vR 74), some (vI k)], [vI (-1)], MW b I L)) (ps := []) rfl trivial ?_
    refine rch_ret cdK122 (rt := some (vI (-1))) rfl trivial mw_c ?_
    first | exact Or.inl ⟨by omega, rfl, rfl⟩ | exact Or.inr (⟨by omega, rfl, rfl⟩) | (exfalso; omega)
  · refine rch_run cdK122 (by decide) 8 (t' := (28, [some (vR 74), some (vI k)], [vI (I 97 ((I 74 33) + k).toNat)], MW b I L)) (ps := [i32 ((I 74 33) + k), 0 ≤ (I 74 33) + k ∧ (I 74 33) + k < ((500 : Nat) : Int)]) rfl (by simp only [all_, i32, i64]; first | omega | (simp; done) | (simp; omega)) ?_
    refine rch_ret cdK122 (rt := some (vI (I 97 ((I 74 33) + k).toNat))) rfl trivial mw_c ?_
    first | exact Or.inl ⟨by omega, rfl, rfl⟩ | exact Or.inr (⟨by omega, rfl, rfl⟩) | (exfalso; omega)

theorem k_isLetter (l : Launch) (E : AX) (b : Bool) (I L : Nat → Nat → Int) (c : Int) : Con l E 1 123 [vI c] (MW b I L) 0 0 (fun rt w => ((97 ≤ c ∧ c ≤ 122) ∧ rt = some (vI 1) ∧ w = MW b I L) ∨ ((¬ (97 ≤ c ∧ c ≤ 122)) ∧ rt = some (vI 0) ∧ w = MW b I L)) := by
  refine con_intro (by decide) (Nat.le_of_ble_eq_true rfl) ?_
  show Rch l E 1 123 _ _ _ _ (0, [some (vI c)], [], MW b I L)
  refine rch_run cdK123 (by decide) 2 (t' := (3, [some (vI c)], [vI 97, vI c], MW b I L)) (ps := []) rfl trivial ?_
  refine rch_br cdK123 (cd := c < (97 : Int)) (t1 := (16, [some (vI c)], [], MW b I L)) (t2 := (6, [some (vI c)], [], MW b I L)) rfl (fun c3_1 => ?_) (fun c3_1 => ?_)
  · refine rch_run cdK123 (by decide) 1 (t' := (17, [some (vI c)], [vI 0], MW b I L)) (ps := []) rfl trivial ?_
    refine rch_ret cdK123 (rt := some (vI 0)) rfl (Or.inl rfl) mw_c ?_
    first | exact Or.inl ⟨by omega, rfl, rfl⟩ | exact Or.inr (⟨by omega, rfl, rfl⟩) | (exfalso; omega)
  · refine rch_run cdK123 (by decide) 2 (t' := (9, [some (vI c)], [vI 122, vI c], MW b I L)) (ps := []) rfl trivial ?_
    refine rch_br cdK123 (cd := (122 : Int) < c) (t1 := (16, [some (vI c)], [], MW b I L)) (t2 := (12, [some (vI c)], [], MW b I L)) rfl (fun c9_2 => ?_) (fun c9_2 => ?_)
    · refine rch_run cdK123 (by decide) 1 (t' := (17, [some (vI c)], [vI 0], MW b I L)) (ps := []) rfl trivial ?_
      refine rch_ret cdK123 (rt := some (vI 0)) rfl (Or.inl rfl) mw_c ?_
      first | exact Or.inl ⟨by omega, rfl, rfl⟩ | exact Or.inr (⟨by omega, rfl, rfl⟩) | (exfalso; omega)
    · refine rch_run cdK123 (by decide) 2 (t' := (17, [some (vI c)], [vI 1], MW b I L)) (ps := []) rfl trivial ?_
      refine rch_ret cdK123 (rt := some (vI 1)) rfl (Or.inr rfl) mw_c ?_
      first | exact Or.inl ⟨by omega, rfl, rfl⟩ | exact Or.inr (⟨by omega, rfl, rfl⟩) | (exfalso; omega)

theorem k_isDigit (l : Launch) (E : AX) (b : Bool) (I L : Nat → Nat → Int) (c : Int) : Con l E 1 124 [vI c] (MW b I L) 0 0 (fun rt w => ((48 ≤ c ∧ c ≤ 57) ∧ rt = some (vI 1) ∧ w = MW b I L) ∨ ((¬ (48 ≤ c ∧ c ≤ 57)) ∧ rt = some (vI 0) ∧ w = MW b I L)) := by
  refine con_intro (by decide) (Nat.le_of_ble_eq_true rfl) ?_
  show Rch l E 1 124 _ _ _ _ (0, [some (vI c)], [], MW b I L)
  refine rch_run cdK124 (by decide) 2 (t' := (3, [some (vI c)], [vI 48, vI c], MW b I L)) (ps := []) rfl trivial ?_
  refine rch_br cdK124 (cd := c < (48 : Int)) (t1 := (16, [some (vI c)], [], MW b I L)) (t2 := (6, [some (vI c)], [], MW b I L)) rfl (fun c3_1 => ?_) (fun c3_1 => ?_)
  · refine rch_run cdK124 (by decide) 1 (t' := (17, [some (vI c)], [vI 0], MW b I L)) (ps := []) rfl trivial ?_
    refine rch_ret cdK124 (rt := some (vI 0)) rfl (Or.inl rfl) mw_c ?_
    first | exact Or.inl ⟨by omega, rfl, rfl⟩ | exact Or.inr (⟨by omega, rfl, rfl⟩) | (exfalso; omega)
  · refine rch_run cdK124 (by decide) 2 (t' := (9, [some (vI c)], [vI 57, vI c], MW b I L)) (ps := []) rfl trivial ?_
    refine rch_br cdK124 (cd := (57 : Int) < c) (t1 := (16, [some (vI c)], [], MW b I L)) (t2 := (12, [some (vI c)], [], MW b I L)) rfl (fun c9_2 => ?_) (fun c9_2 => ?_)
    · refine rch_run cdK124 (by decide) 1 (t' := (17, [some (vI c)], [vI 0], MW b I L)) (ps := []) rfl trivial ?_
      refine rch_ret cdK124 (rt := some (vI 0)) rfl (Or.inl rfl) mw_c ?_
      first | exact Or.inl ⟨by omega, rfl, rfl⟩ | exact Or.inr (⟨by omega, rfl, rfl⟩) | (exfalso; omega)
    · refine rch_run cdK124 (by decide) 2 (t' := (17, [some (vI c)], [vI 1], MW b I L)) (ps := []) rfl trivial ?_
      refine rch_ret cdK124 (rt := some (vI 1)) rfl (Or.inr rfl) mw_c ?_
      first | exact Or.inl ⟨by omega, rfl, rfl⟩ | exact Or.inr (⟨by omega, rfl, rfl⟩) | (exfalso; omega)

set_option maxHeartbeats 20000000 in
set_option maxRecDepth 100000 in
theorem nx_let (l : Launch) (E : AX) (b : Bool) (I0 L0 J M : Nat → Nat → Int)  (c : Int) (Φ : Option AV → AW → Prop) (hN : NpK J) (hk : ∀ (n : Int) (M2 : Nat → Nat → Int), 0 ≤ n → J 74 33 + n = (runP (Pl (J 97) (J 74 34).toNat) 501 (J 74 33).toNat : Int) → FlN M M2 → (n ≤ 8 → M2 74 38 = wcd (J 97) (J 74 33).toNat n.toNat) → Rch l E 2 125 (MW b I0 L0) 0 0 Φ (119, [some (vR 74), some (vI c), some (vI n)], [], MW b J M2)) : ∀ (n9 : Nat) (n : Int) (M2 : Nat → Nat → Int), 0 ≤ n ∧ J 74 33 + n ≤ J 74 34 → (∀ x : Nat, (x : Int) < n → (97 ≤ J 97 ((J 74 33).toNat + x) ∧ J 97 ((J 74 33).toNat + x) ≤ 122)) → FlN M M2 → (n ≤ 8 → M2 74 38 = wcd (J 97) (J 74 33).toNat n.toNat) → (8 ≤ n → True) → J 74 34 - J 74 33 - n < (n9 : Int) → Rch l E 2 125 (MW b I0 L0) 0 0 (Φ) (78, [some (vR 74), some (vI c), some (vI n)], [], MW b J M2) := by
  intro n9
  induction n9 with
  | zero =>
    intro n M2 h1 h2 h3 h4 h5 hm
    exfalso; omega
  | succ n9 ih =>
    intro n M2 h1 h2 h3 h4 h5 hm
    have hN1 := hN.1
    have hi9 : (n + 1).toNat = n.toNat + 1 := by omega
    have he9 : ((J 74 33) + n).toNat = (J 74 33).toNat + n.toNat := by omega
    have hb9 : J 74 33 + n < J 74 34 → 0 ≤ J 97 ((J 74 33) + n).toNat ∧ J 97 ((J 74 33) + n).toNat ≤ 255 := fun z => hN.2 _ (by omega)
    have hw9 : n ≤ 7 → 0 ≤ M2 74 38 ∧ M2 74 38 ≤ 34902897112121343 := fun z => by rw [h4 (by omega)]; have := wcd_rg (B := J 97) (p := (J 74 33).toNat) n.toNat (by omega) (fun i hi => h2 i (by omega)); exact ⟨this.1, this.2.2 (by omega)⟩
    have hpl9 : Pl (J 97) (J 74 34).toNat ((J 74 33).toNat + n.toNat) = true ↔ J 74 33 + n < J 74 34 ∧ 97 ≤ J 97 ((J 74 33) + n).toNat ∧ J 97 ((J 74 33) + n).toNat ≤ 122 := by unfold Pl; rw [decide_eq_true_eq, ← he9]; omega
    refine rch_run cdK125 (by decide) 2 (t' := (80, [some (vR 74), some (vI c), some (vI n)], [vI n, vR 74], MW b J M2)) (ps := []) rfl trivial ?_
    refine rch_call (h' := 1) (k' := 122) (as := [vR 74, vI n]) (t1 := (83, [some (vR 74), some (vI c), some (vI n)], [], MW b J M2)) cdK125 rfl (k_here l E b J M2 n (by show (0 ≤ n ∧ n ≤ 1000) ∧ (0 ≤ J 74 33 ∧ J 74 33 ≤ 1000) ∧ J 74 34 ≤ 500; omega)) (by decide) mw_le ?_
    rintro rt9 w9 (⟨k91, rfl, rfl⟩ | ⟨k91, rfl, rfl⟩) _ _
    · show Rch l E 2 125 _ _ _ _ (83, [some (vR 74), some (vI c), some (vI n)], [vI (J 97 ((J 74 33) + n).toNat)], MW b J M2)
      have k91 : (J 74 33) + n < J 74 34 := k91
      refine rch_call (h' := 1) (k' := 123) (as := [vI (J 97 ((J 74 33) + n).toNat)]) (t1 := (86, [some (vR 74), some (vI c), some (vI n)], [], MW b J M2)) cdK125 rfl (k_isLetter l E b J M2 (J 97 ((J 74 33) + n).toNat) ) (by decide) mw_le ?_
      rintro rt9 w9 (⟨k92, rfl, rfl⟩ | ⟨k92, rfl, rfl⟩) _ _
      · show Rch l E 2 125 _ _ _ _ (86, [some (vR 74), some (vI c), some (vI n)], [vI 1], MW b J M2)
        have k92 : 97 ≤ J 97 ((J 74 33) + n).toNat ∧ J 97 ((J 74 33) + n).toNat ≤ 122 := k92
        refine rch_br cdK125 (cd := (1 : Int) = 0) (t1 := (119, [some (vR 74), some (vI c), some (vI n)], [], MW b J M2)) (t2 := (89, [some (vR 74), some (vI c), some (vI n)], [], MW b J M2)) rfl (fun c9 => absurd c9 (by decide)) (fun _ => ?_)
        refine rch_run cdK125 (by decide) 2 (t' := (92, [some (vR 74), some (vI c), some (vI n)], [vI 8, vI n], MW b J M2)) (ps := []) rfl trivial ?_
        refine rch_br cdK125 (cd := (8 : Int) ≤ n) (t1 := (113, [some (vR 74), some (vI c), some (vI n)], [], MW b J M2)) (t2 := (95, [some (vR 74), some (vI c), some (vI n)], [], MW b J M2)) rfl (fun c92_2 => ?_) (fun c92_2 => ?_)
        · refine rch_run cdK125 (by decide) 2 (t' := (78, [some (vR 74), some (vI c), some (vI (n + 1))], [], MW b J M2)) (ps := [i32 (n + 1)]) rfl (by simp only [all_, i32, i64]; first | omega | (simp; done) | (simp; omega)) ?_
          exact ih (n + 1) M2 (by omega) (fun x hx => by by_cases e : x = n.toNat; (rw [e, ← he9]; omega); exact h2 x (by omega)) h3 (fun z => by omega) (fun _ => trivial) (by omega)
        · refine rch_run cdK125 (by decide) 7 (t' := (105, [some (vR 74), some (vI c), some (vI n)], [vI n, vR 74, vL (lShl (M2 74 38) 8), vR 74], MW b J M2)) (ps := []) rfl trivial ?_
          refine rch_call (h' := 1) (k' := 122) (as := [vR 74, vI n]) (t1 := (108, [some (vR 74), some (vI c), some (vI n)], [vL (lShl (M2 74 38) 8), vR 74], MW b J M2)) cdK125 rfl (k_here l E b J M2 n (by show (0 ≤ n ∧ n ≤ 1000) ∧ (0 ≤ J 74 33 ∧ J 74 33 ≤ 1000) ∧ J 74 34 ≤ 500; omega)) (by decide) mw_le ?_
          rintro rt9 w9 (⟨k93, rfl, rfl⟩ | ⟨k93, rfl, rfl⟩) _ _
          · show Rch l E 2 125 _ _ _ _ (108, [some (vR 74), some (vI c), some (vI n)], [vI (J 97 ((J 74 33) + n).toNat), vL (lShl (M2 74 38) 8), vR 74], MW b J M2)
            have k93 : (J 74 33) + n < J 74 34 := k93
            refine rch_run cdK125 (by decide) 5 (t' := (78, [some (vR 74), some (vI c), some (vI (n + 1))], [], MW b J (upI M2 74 38 (lOr (lShl (M2 74 38) 8) (J 97 ((J 74 33) + n).toNat))))) (ps := [i32 (n + 1)]) rfl (by simp only [all_, i32, i64]; first | omega | (simp; done) | (simp; omega)) ?_
            first | (exfalso; omega) | (have hb8 := hb9 (by omega); have hw8 := hw9 (by omega); exact ih (n + 1) _ (by omega) (fun x hx => by by_cases e : x = n.toNat; (rw [e, ← he9]; omega); exact h2 x (by omega)) (fun a j ha => by rw [upI_ne (by omega)]; exact h3 a j ha) (fun _ => by rw [upI_eq rfl rfl, or_256 hw8 hb8, hi9, wcd_s, ← h4 (by omega), he9]) (fun _ => trivial) (by omega))
          · show Rch l E 2 125 _ _ _ _ (108, [some (vR 74), some (vI c), some (vI n)], [vI (-1), vL (lShl (M2 74 38) 8), vR 74], MW b J M2)
            have k93 : ¬ ((J 74 33) + n < J 74 34) := k93
            refine rch_run cdK125 (by decide) 5 (t' := (78, [some (vR 74), some (vI c), some (vI (n + 1))], [], MW b J (upI M2 74 38 (lOr (lShl (M2 74 38) 8) (-1))))) (ps := [i32 (n + 1)]) rfl (by simp only [all_, i32, i64]; first | omega | (simp; done) | (simp; omega)) ?_
            first | (exfalso; omega) | (have hb8 := hb9 (by omega); have hw8 := hw9 (by omega); exact ih (n + 1) _ (by omega) (fun x hx => by by_cases e : x = n.toNat; (rw [e, ← he9]; omega); exact h2 x (by omega)) (fun a j ha => by rw [upI_ne (by omega)]; exact h3 a j ha) (fun _ => by rw [upI_eq rfl rfl, or_256 hw8 hb8, hi9, wcd_s, ← h4 (by omega), he9]) (fun _ => trivial) (by omega))
      · show Rch l E 2 125 _ _ _ _ (86, [some (vR 74), some (vI c), some (vI n)], [vI 0], MW b J M2)
        have k92 : ¬ (97 ≤ J 97 ((J 74 33) + n).toNat ∧ J 97 ((J 74 33) + n).toNat ≤ 122) := k92
        refine rch_br cdK125 (cd := (0 : Int) = 0) (t1 := (119, [some (vR 74), some (vI c), some (vI n)], [], MW b J M2)) (t2 := (89, [some (vR 74), some (vI c), some (vI n)], [], MW b J M2)) rfl (fun _ => ?_) (fun c9 => absurd (by decide) c9)
        have hend : Pl (J 97) (J 74 34).toNat ((J 74 33).toNat + n.toNat) = false := by cases hq : Pl (J 97) (J 74 34).toNat ((J 74 33).toNat + n.toNat); (rfl); (have := hpl9.mp hq; exfalso; omega)
        have hr9 : runP (Pl (J 97) (J 74 34).toNat) 501 (J 74 33).toNat = (J 74 33).toNat + n.toNat := run_eq (run_mk (by omega) (fun x hx hx2 => decide_eq_true ⟨by omega, by have := h2 (x - (J 74 33).toNat) (by omega); rw [show (J 74 33).toNat + (x - (J 74 33).toNat) = x by omega] at this; exact this⟩) hend) (by omega)
        exact hk n M2 (by omega) (by rw [hr9]; omega) h3 h4
    · show Rch l E 2 125 _ _ _ _ (83, [some (vR 74), some (vI c), some (vI n)], [vI (-1)], MW b J M2)
      have k91 : ¬ ((J 74 33) + n < J 74 34) := k91
      refine rch_call (h' := 1) (k' := 123) (as := [vI (-1)]) (t1 := (86, [some (vR 74), some (vI c), some (vI n)], [], MW b J M2)) cdK125 rfl (k_isLetter l E b J M2 (-1) ) (by decide) mw_le ?_
      rintro rt9 w9 (⟨k94, rfl, rfl⟩ | ⟨k94, rfl, rfl⟩) _ _
      · show Rch l E 2 125 _ _ _ _ (86, [some (vR 74), some (vI c), some (vI n)], [vI 1], MW b J M2)
        have k94 : 97 ≤ (-1) ∧ (-1) ≤ 122 := k94
        refine rch_br cdK125 (cd := (1 : Int) = 0) (t1 := (119, [some (vR 74), some (vI c), some (vI n)], [], MW b J M2)) (t2 := (89, [some (vR 74), some (vI c), some (vI n)], [], MW b J M2)) rfl (fun c9 => absurd c9 (by decide)) (fun _ => ?_)
        refine rch_run cdK125 (by decide) 2 (t' := (92, [some (vR 74), some (vI c), some (vI n)], [vI 8, vI n], MW b J M2)) (ps := []) rfl trivial ?_
        refine rch_br cdK125 (cd := (8 : Int) ≤ n) (t1 := (113, [some (vR 74), some (vI c), some (vI n)], [], MW b J M2)) (t2 := (95, [some (vR 74), some (vI c), some (vI n)], [], MW b J M2)) rfl (fun c92_5 => ?_) (fun c92_5 => ?_)
        · refine rch_run cdK125 (by decide) 2 (t' := (78, [some (vR 74), some (vI c), some (vI (n + 1))], [], MW b J M2)) (ps := [i32 (n + 1)]) rfl (by simp only [all_, i32, i64]; first | omega | (simp; done) | (simp; omega)) ?_
          exact ih (n + 1) M2 (by omega) (fun x hx => by by_cases e : x = n.toNat; (rw [e, ← he9]; omega); exact h2 x (by omega)) h3 (fun z => by omega) (fun _ => trivial) (by omega)
        · refine rch_run cdK125 (by decide) 7 (t' := (105, [some (vR 74), some (vI c), some (vI n)], [vI n, vR 74, vL (lShl (M2 74 38) 8), vR 74], MW b J M2)) (ps := []) rfl trivial ?_
          refine rch_call (h' := 1) (k' := 122) (as := [vR 74, vI n]) (t1 := (108, [some (vR 74), some (vI c), some (vI n)], [vL (lShl (M2 74 38) 8), vR 74], MW b J M2)) cdK125 rfl (k_here l E b J M2 n (by show (0 ≤ n ∧ n ≤ 1000) ∧ (0 ≤ J 74 33 ∧ J 74 33 ≤ 1000) ∧ J 74 34 ≤ 500; omega)) (by decide) mw_le ?_
          rintro rt9 w9 (⟨k95, rfl, rfl⟩ | ⟨k95, rfl, rfl⟩) _ _
          · show Rch l E 2 125 _ _ _ _ (108, [some (vR 74), some (vI c), some (vI n)], [vI (J 97 ((J 74 33) + n).toNat), vL (lShl (M2 74 38) 8), vR 74], MW b J M2)
            have k95 : (J 74 33) + n < J 74 34 := k95
            refine rch_run cdK125 (by decide) 5 (t' := (78, [some (vR 74), some (vI c), some (vI (n + 1))], [], MW b J (upI M2 74 38 (lOr (lShl (M2 74 38) 8) (J 97 ((J 74 33) + n).toNat))))) (ps := [i32 (n + 1)]) rfl (by simp only [all_, i32, i64]; first | omega | (simp; done) | (simp; omega)) ?_
            first | (exfalso; omega) | (have hb8 := hb9 (by omega); have hw8 := hw9 (by omega); exact ih (n + 1) _ (by omega) (fun x hx => by by_cases e : x = n.toNat; (rw [e, ← he9]; omega); exact h2 x (by omega)) (fun a j ha => by rw [upI_ne (by omega)]; exact h3 a j ha) (fun _ => by rw [upI_eq rfl rfl, or_256 hw8 hb8, hi9, wcd_s, ← h4 (by omega), he9]) (fun _ => trivial) (by omega))
          · show Rch l E 2 125 _ _ _ _ (108, [some (vR 74), some (vI c), some (vI n)], [vI (-1), vL (lShl (M2 74 38) 8), vR 74], MW b J M2)
            have k95 : ¬ ((J 74 33) + n < J 74 34) := k95
            refine rch_run cdK125 (by decide) 5 (t' := (78, [some (vR 74), some (vI c), some (vI (n + 1))], [], MW b J (upI M2 74 38 (lOr (lShl (M2 74 38) 8) (-1))))) (ps := [i32 (n + 1)]) rfl (by simp only [all_, i32, i64]; first | omega | (simp; done) | (simp; omega)) ?_
            first | (exfalso; omega) | (have hb8 := hb9 (by omega); have hw8 := hw9 (by omega); exact ih (n + 1) _ (by omega) (fun x hx => by by_cases e : x = n.toNat; (rw [e, ← he9]; omega); exact h2 x (by omega)) (fun a j ha => by rw [upI_ne (by omega)]; exact h3 a j ha) (fun _ => by rw [upI_eq rfl rfl, or_256 hw8 hb8, hi9, wcd_s, ← h4 (by omega), he9]) (fun _ => trivial) (by omega))
      · show Rch l E 2 125 _ _ _ _ (86, [some (vR 74), some (vI c), some (vI n)], [vI 0], MW b J M2)
        have k94 : ¬ (97 ≤ (-1) ∧ (-1) ≤ 122) := k94
        refine rch_br cdK125 (cd := (0 : Int) = 0) (t1 := (119, [some (vR 74), some (vI c), some (vI n)], [], MW b J M2)) (t2 := (89, [some (vR 74), some (vI c), some (vI n)], [], MW b J M2)) rfl (fun _ => ?_) (fun c9 => absurd (by decide) c9)
        have hend : Pl (J 97) (J 74 34).toNat ((J 74 33).toNat + n.toNat) = false := by cases hq : Pl (J 97) (J 74 34).toNat ((J 74 33).toNat + n.toNat); (rfl); (have := hpl9.mp hq; exfalso; omega)
        have hr9 : runP (Pl (J 97) (J 74 34).toNat) 501 (J 74 33).toNat = (J 74 33).toNat + n.toNat := run_eq (run_mk (by omega) (fun x hx hx2 => decide_eq_true ⟨by omega, by have := h2 (x - (J 74 33).toNat) (by omega); rw [show (J 74 33).toNat + (x - (J 74 33).toNat) = x by omega] at this; exact this⟩) hend) (by omega)
        exact hk n M2 (by omega) (by rw [hr9]; omega) h3 h4

set_option maxHeartbeats 20000000 in
set_option maxRecDepth 100000 in
theorem nx_dig (l : Launch) (E : AX) (b : Bool) (I0 L0 J M : Nat → Nat → Int)  (c : Int) (Φ : Option AV → AW → Prop) (hN : NpK J) (hk : ∀ (n : Int) (J2 : Nat → Nat → Int), 0 ≤ n → J 74 33 + n = (runP (Pd (J 97) (J 74 34).toNat) 501 (J 74 33).toNat : Int) → (∀ a j, ¬ (a = 74 ∧ j = 37) → J2 a j = J a j) → (n ≤ 6 → J2 74 37 = nvl (J 97) (J 74 33).toNat n.toNat) → Rch l E 2 125 (MW b I0 L0) 0 0 Φ (187, [some (vR 74), some (vI c), some (vI n)], [], MW b J2 M)) : ∀ (n9 : Nat) (n : Int) (J2 : Nat → Nat → Int), 0 ≤ n ∧ J 74 33 + n ≤ J 74 34 → (∀ x : Nat, (x : Int) < n → (48 ≤ J 97 ((J 74 33).toNat + x) ∧ J 97 ((J 74 33).toNat + x) ≤ 57)) → (∀ a j, ¬ (a = 74 ∧ j = 37) → J2 a j = J a j) → (n ≤ 6 → J2 74 37 = nvl (J 97) (J 74 33).toNat n.toNat) → J 74 34 - J 74 33 - n < (n9 : Int) → Rch l E 2 125 (MW b I0 L0) 0 0 (Φ) (144, [some (vR 74), some (vI c), some (vI n)], [], MW b J2 M) := by
  intro n9
  induction n9 with
  | zero =>
    intro n J2 h1 h2 h3 h4 hm
    exfalso; omega
  | succ n9 ih =>
    intro n J2 h1 h2 h3 h4 hm
    have hN1 := hN.1
    have q33 := h3 74 33 (by omega)
    have q34 := h3 74 34 (by omega)
    have q97 := h3 97 ((J 74 33) + n).toNat (by omega)
    have hi9 : (n + 1).toNat = n.toNat + 1 := by omega
    have he9 : ((J 74 33) + n).toNat = (J 74 33).toNat + n.toNat := by omega
    have hj9 : ((J2 74 33) + n).toNat = ((J 74 33) + n).toNat := by rw [q33]
    have qj97 : J2 97 ((J2 74 33) + n).toNat = J 97 ((J 74 33) + n).toNat := by rw [hj9]; exact q97
    have hb9 : J 74 33 + n < J 74 34 → 0 ≤ J 97 ((J 74 33) + n).toNat ∧ J 97 ((J 74 33) + n).toNat ≤ 255 := fun z => hN.2 _ (by omega)
    have hw9 : n ≤ 5 → 0 ≤ J2 74 37 ∧ J2 74 37 ≤ 99999 := fun z => by rw [h4 (by omega)]; have := nvl_rg (B := J 97) (p := (J 74 33).toNat) n.toNat (by omega) (fun i hi => h2 i (by omega)); exact ⟨this.1, this.2.2 (by omega)⟩
    have hpl9 : Pd (J 97) (J 74 34).toNat ((J 74 33).toNat + n.toNat) = true ↔ J 74 33 + n < J 74 34 ∧ 48 ≤ J 97 ((J 74 33) + n).toNat ∧ J 97 ((J 74 33) + n).toNat ≤ 57 := by unfold Pd; rw [decide_eq_true_eq, ← he9]; omega
    refine rch_run cdK125 (by decide) 2 (t' := (146, [some (vR 74), some (vI c), some (vI n)], [vI n, vR 74], MW b J2 M)) (ps := []) rfl trivial ?_
    refine rch_call (h' := 1) (k' := 122) (as := [vR 74, vI n]) (t1 := (149, [some (vR 74), some (vI c), some (vI n)], [], MW b J2 M)) cdK125 rfl (k_here l E b J2 M n (by show (0 ≤ n ∧ n ≤ 1000) ∧ (0 ≤ J2 74 33 ∧ J2 74 33 ≤ 1000) ∧ J2 74 34 ≤ 500; omega)) (by decide) mw_le ?_
    rintro rt9 w9 (⟨k96, rfl, rfl⟩ | ⟨k96, rfl, rfl⟩) _ _
    · show Rch l E 2 125 _ _ _ _ (149, [some (vR 74), some (vI c), some (vI n)], [vI (J2 97 ((J2 74 33) + n).toNat)], MW b J2 M)
      have k96 : (J2 74 33) + n < J2 74 34 := k96
      refine rch_call (h' := 1) (k' := 124) (as := [vI (J2 97 ((J2 74 33) + n).toNat)]) (t1 := (152, [some (vR 74), some (vI c), some (vI n)], [], MW b J2 M)) cdK125 rfl (k_isDigit l E b J2 M (J2 97 ((J2 74 33) + n).toNat) ) (by decide) mw_le ?_
      rintro rt9 w9 (⟨k97, rfl, rfl⟩ | ⟨k97, rfl, rfl⟩) _ _
      · show Rch l E 2 125 _ _ _ _ (152, [some (vR 74), some (vI c), some (vI n)], [vI 1], MW b J2 M)
        have k97 : 48 ≤ J2 97 ((J2 74 33) + n).toNat ∧ J2 97 ((J2 74 33) + n).toNat ≤ 57 := k97
        refine rch_br cdK125 (cd := (1 : Int) = 0) (t1 := (187, [some (vR 74), some (vI c), some (vI n)], [], MW b J2 M)) (t2 := (155, [some (vR 74), some (vI c), some (vI n)], [], MW b J2 M)) rfl (fun c9 => absurd c9 (by decide)) (fun _ => ?_)
        refine rch_run cdK125 (by decide) 2 (t' := (158, [some (vR 74), some (vI c), some (vI n)], [vI 6, vI n], MW b J2 M)) (ps := []) rfl trivial ?_
        refine rch_br cdK125 (cd := (6 : Int) ≤ n) (t1 := (181, [some (vR 74), some (vI c), some (vI n)], [], MW b J2 M)) (t2 := (161, [some (vR 74), some (vI c), some (vI n)], [], MW b J2 M)) rfl (fun c158_2 => ?_) (fun c158_2 => ?_)
        · refine rch_run cdK125 (by decide) 2 (t' := (144, [some (vR 74), some (vI c), some (vI (n + 1))], [], MW b J2 M)) (ps := [i32 (n + 1)]) rfl (by (try (have hw8 := hw9 (by omega); have hb8 := hb9 (by omega))); simp only [all_, i32, i64]; first | omega | (simp; done) | (simp; omega)) ?_
          exact ih (n + 1) J2 (by omega) (fun x hx => by by_cases e : x = n.toNat; (rw [e, ← he9]; omega); exact h2 x (by omega)) h3 (fun z => by omega) (by omega)
        · refine rch_run cdK125 (by decide) 7 (t' := (171, [some (vR 74), some (vI c), some (vI n)], [vI n, vR 74, vI (10 * (J2 74 37)), vR 74], MW b J2 M)) (ps := [i32 (10 * (J2 74 37))]) rfl (by (try (have hw8 := hw9 (by omega); have hb8 := hb9 (by omega))); simp only [all_, i32, i64]; first | omega | (simp; done) | (simp; omega)) ?_
          refine rch_call (h' := 1) (k' := 122) (as := [vR 74, vI n]) (t1 := (174, [some (vR 74), some (vI c), some (vI n)], [vI (10 * (J2 74 37)), vR 74], MW b J2 M)) cdK125 rfl (k_here l E b J2 M n (by show (0 ≤ n ∧ n ≤ 1000) ∧ (0 ≤ J2 74 33 ∧ J2 74 33 ≤ 1000) ∧ J2 74 34 ≤ 500; omega)) (by decide) mw_le ?_
          rintro rt9 w9 (⟨k98, rfl, rfl⟩ | ⟨k98, rfl, rfl⟩) _ _
          · show Rch l E 2 125 _ _ _ _ (174, [some (vR 74), some (vI c), some (vI n)], [vI (J2 97 ((J2 74 33) + n).toNat), vI (10 * (J2 74 37)), vR 74], MW b J2 M)
            have k98 : (J2 74 33) + n < J2 74 34 := k98
            refine rch_run cdK125 (by decide) 6 (t' := (144, [some (vR 74), some (vI c), some (vI (n + 1))], [], MW b (upI J2 74 37 (((10 * (J2 74 37)) + (J2 97 ((J2 74 33) + n).toNat)) - 48)) M)) (ps := [i32 ((10 * (J2 74 37)) + (J2 97 ((J2 74 33) + n).toNat)), i32 (((10 * (J2 74 37)) + (J2 97 ((J2 74 33) + n).toNat)) - 48), i32 (n + 1)]) rfl (by (try (have hw8 := hw9 (by omega); have hb8 := hb9 (by omega))); simp only [all_, i32, i64]; first | omega | (simp; done) | (simp; omega)) ?_
            first | (exfalso; omega) | (have hb8 := hb9 (by omega); have hw8 := hw9 (by omega); exact ih (n + 1) _ (by omega) (fun x hx => by by_cases e : x = n.toNat; (rw [e, ← he9]; omega); exact h2 x (by omega)) (fun a j ha => by rw [upI_ne (by omega)]; exact h3 a j ha) (fun _ => by rw [upI_eq rfl rfl, hi9]; show _ = nvl (J 97) (J 74 33).toNat n.toNat * 10 + (J 97 ((J 74 33).toNat + n.toNat) - 48); rw [← h4 (by omega), ← he9]; omega) (by omega))
          · show Rch l E 2 125 _ _ _ _ (174, [some (vR 74), some (vI c), some (vI n)], [vI (-1), vI (10 * (J2 74 37)), vR 74], MW b J2 M)
            have k98 : ¬ ((J2 74 33) + n < J2 74 34) := k98
            refine rch_run cdK125 (by decide) 6 (t' := (144, [some (vR 74), some (vI c), some (vI (n + 1))], [], MW b (upI J2 74 37 (((10 * (J2 74 37)) + (-1)) - 48)) M)) (ps := [i32 ((10 * (J2 74 37)) + (-1)), i32 (((10 * (J2 74 37)) + (-1)) - 48), i32 (n + 1)]) rfl (by (try (have hw8 := hw9 (by omega); have hb8 := hb9 (by omega))); simp only [all_, i32, i64]; first | omega | (simp; done) | (simp; omega)) ?_
            first | (exfalso; omega) | (have hb8 := hb9 (by omega); have hw8 := hw9 (by omega); exact ih (n + 1) _ (by omega) (fun x hx => by by_cases e : x = n.toNat; (rw [e, ← he9]; omega); exact h2 x (by omega)) (fun a j ha => by rw [upI_ne (by omega)]; exact h3 a j ha) (fun _ => by rw [upI_eq rfl rfl, hi9]; show _ = nvl (J 97) (J 74 33).toNat n.toNat * 10 + (J 97 ((J 74 33).toNat + n.toNat) - 48); rw [← h4 (by omega), ← he9]; omega) (by omega))
      · show Rch l E 2 125 _ _ _ _ (152, [some (vR 74), some (vI c), some (vI n)], [vI 0], MW b J2 M)
        have k97 : ¬ (48 ≤ J2 97 ((J2 74 33) + n).toNat ∧ J2 97 ((J2 74 33) + n).toNat ≤ 57) := k97
        refine rch_br cdK125 (cd := (0 : Int) = 0) (t1 := (187, [some (vR 74), some (vI c), some (vI n)], [], MW b J2 M)) (t2 := (155, [some (vR 74), some (vI c), some (vI n)], [], MW b J2 M)) rfl (fun _ => ?_) (fun c9 => absurd (by decide) c9)
        have hend : Pd (J 97) (J 74 34).toNat ((J 74 33).toNat + n.toNat) = false := by cases hq : Pd (J 97) (J 74 34).toNat ((J 74 33).toNat + n.toNat); (rfl); (have := hpl9.mp hq; exfalso; omega)
        have hr9 : runP (Pd (J 97) (J 74 34).toNat) 501 (J 74 33).toNat = (J 74 33).toNat + n.toNat := run_eq (run_mk (by omega) (fun x hx hx2 => decide_eq_true ⟨by omega, by have := h2 (x - (J 74 33).toNat) (by omega); rw [show (J 74 33).toNat + (x - (J 74 33).toNat) = x by omega] at this; exact this⟩) hend) (by omega)
        exact hk n J2 (by omega) (by rw [hr9]; omega) h3 h4
    · show Rch l E 2 125 _ _ _ _ (149, [some (vR 74), some (vI c), some (vI n)], [vI (-1)], MW b J2 M)
      have k96 : ¬ ((J2 74 33) + n < J2 74 34) := k96
      refine rch_call (h' := 1) (k' := 124) (as := [vI (-1)]) (t1 := (152, [some (vR 74), some (vI c), some (vI n)], [], MW b J2 M)) cdK125 rfl (k_isDigit l E b J2 M (-1) ) (by decide) mw_le ?_
      rintro rt9 w9 (⟨k99, rfl, rfl⟩ | ⟨k99, rfl, rfl⟩) _ _
      · show Rch l E 2 125 _ _ _ _ (152, [some (vR 74), some (vI c), some (vI n)], [vI 1], MW b J2 M)
        have k99 : 48 ≤ (-1) ∧ (-1) ≤ 57 := k99
        refine rch_br cdK125 (cd := (1 : Int) = 0) (t1 := (187, [some (vR 74), some (vI c), some (vI n)], [], MW b J2 M)) (t2 := (155, [some (vR 74), some (vI c), some (vI n)], [], MW b J2 M)) rfl (fun c9 => absurd c9 (by decide)) (fun _ => ?_)
        refine rch_run cdK125 (by decide) 2 (t' := (158, [some (vR 74), some (vI c), some (vI n)], [vI 6, vI n], MW b J2 M)) (ps := []) rfl trivial ?_
        refine rch_br cdK125 (cd := (6 : Int) ≤ n) (t1 := (181, [some (vR 74), some (vI c), some (vI n)], [], MW b J2 M)) (t2 := (161, [some (vR 74), some (vI c), some (vI n)], [], MW b J2 M)) rfl (fun c158_5 => ?_) (fun c158_5 => ?_)
        · refine rch_run cdK125 (by decide) 2 (t' := (144, [some (vR 74), some (vI c), some (vI (n + 1))], [], MW b J2 M)) (ps := [i32 (n + 1)]) rfl (by (try (have hw8 := hw9 (by omega); have hb8 := hb9 (by omega))); simp only [all_, i32, i64]; first | omega | (simp; done) | (simp; omega)) ?_
          exact ih (n + 1) J2 (by omega) (fun x hx => by by_cases e : x = n.toNat; (rw [e, ← he9]; omega); exact h2 x (by omega)) h3 (fun z => by omega) (by omega)
        · refine rch_run cdK125 (by decide) 7 (t' := (171, [some (vR 74), some (vI c), some (vI n)], [vI n, vR 74, vI (10 * (J2 74 37)), vR 74], MW b J2 M)) (ps := [i32 (10 * (J2 74 37))]) rfl (by (try (have hw8 := hw9 (by omega); have hb8 := hb9 (by omega))); simp only [all_, i32, i64]; first | omega | (simp; done) | (simp; omega)) ?_
          refine rch_call (h' := 1) (k' := 122) (as := [vR 74, vI n]) (t1 := (174, [some (vR 74), some (vI c), some (vI n)], [vI (10 * (J2 74 37)), vR 74], MW b J2 M)) cdK125 rfl (k_here l E b J2 M n (by show (0 ≤ n ∧ n ≤ 1000) ∧ (0 ≤ J2 74 33 ∧ J2 74 33 ≤ 1000) ∧ J2 74 34 ≤ 500; omega)) (by decide) mw_le ?_
          rintro rt9 w9 (⟨k100, rfl, rfl⟩ | ⟨k100, rfl, rfl⟩) _ _
          · show Rch l E 2 125 _ _ _ _ (174, [some (vR 74), some (vI c), some (vI n)], [vI (J2 97 ((J2 74 33) + n).toNat), vI (10 * (J2 74 37)), vR 74], MW b J2 M)
            have k100 : (J2 74 33) + n < J2 74 34 := k100
            refine rch_run cdK125 (by decide) 6 (t' := (144, [some (vR 74), some (vI c), some (vI (n + 1))], [], MW b (upI J2 74 37 (((10 * (J2 74 37)) + (J2 97 ((J2 74 33) + n).toNat)) - 48)) M)) (ps := [i32 ((10 * (J2 74 37)) + (J2 97 ((J2 74 33) + n).toNat)), i32 (((10 * (J2 74 37)) + (J2 97 ((J2 74 33) + n).toNat)) - 48), i32 (n + 1)]) rfl (by (try (have hw8 := hw9 (by omega); have hb8 := hb9 (by omega))); simp only [all_, i32, i64]; first | omega | (simp; done) | (simp; omega)) ?_
            first | (exfalso; omega) | (have hb8 := hb9 (by omega); have hw8 := hw9 (by omega); exact ih (n + 1) _ (by omega) (fun x hx => by by_cases e : x = n.toNat; (rw [e, ← he9]; omega); exact h2 x (by omega)) (fun a j ha => by rw [upI_ne (by omega)]; exact h3 a j ha) (fun _ => by rw [upI_eq rfl rfl, hi9]; show _ = nvl (J 97) (J 74 33).toNat n.toNat * 10 + (J 97 ((J 74 33).toNat + n.toNat) - 48); rw [← h4 (by omega), ← he9]; omega) (by omega))
          · show Rch l E 2 125 _ _ _ _ (174, [some (vR 74), some (vI c), some (vI n)], [vI (-1), vI (10 * (J2 74 37)), vR 74], MW b J2 M)
            have k100 : ¬ ((J2 74 33) + n < J2 74 34) := k100
            refine rch_run cdK125 (by decide) 6 (t' := (144, [some (vR 74), some (vI c), some (vI (n + 1))], [], MW b (upI J2 74 37 (((10 * (J2 74 37)) + (-1)) - 48)) M)) (ps := [i32 ((10 * (J2 74 37)) + (-1)), i32 (((10 * (J2 74 37)) + (-1)) - 48), i32 (n + 1)]) rfl (by (try (have hw8 := hw9 (by omega); have hb8 := hb9 (by omega))); simp only [all_, i32, i64]; first | omega | (simp; done) | (simp; omega)) ?_
            first | (exfalso; omega) | (have hb8 := hb9 (by omega); have hw8 := hw9 (by omega); exact ih (n + 1) _ (by omega) (fun x hx => by by_cases e : x = n.toNat; (rw [e, ← he9]; omega); exact h2 x (by omega)) (fun a j ha => by rw [upI_ne (by omega)]; exact h3 a j ha) (fun _ => by rw [upI_eq rfl rfl, hi9]; show _ = nvl (J 97) (J 74 33).toNat n.toNat * 10 + (J 97 ((J 74 33).toNat + n.toNat) - 48); rw [← h4 (by omega), ← he9]; omega) (by omega))
      · show Rch l E 2 125 _ _ _ _ (152, [some (vR 74), some (vI c), some (vI n)], [vI 0], MW b J2 M)
        have k99 : ¬ (48 ≤ (-1) ∧ (-1) ≤ 57) := k99
        refine rch_br cdK125 (cd := (0 : Int) = 0) (t1 := (187, [some (vR 74), some (vI c), some (vI n)], [], MW b J2 M)) (t2 := (155, [some (vR 74), some (vI c), some (vI n)], [], MW b J2 M)) rfl (fun _ => ?_) (fun c9 => absurd (by decide) c9)
        have hend : Pd (J 97) (J 74 34).toNat ((J 74 33).toNat + n.toNat) = false := by cases hq : Pd (J 97) (J 74 34).toNat ((J 74 33).toNat + n.toNat); (rfl); (have := hpl9.mp hq; exfalso; omega)
        have hr9 : runP (Pd (J 97) (J 74 34).toNat) 501 (J 74 33).toNat = (J 74 33).toNat + n.toNat := run_eq (run_mk (by omega) (fun x hx hx2 => decide_eq_true ⟨by omega, by have := h2 (x - (J 74 33).toNat) (by omega); rw [show (J 74 33).toNat + (x - (J 74 33).toNat) = x by omega] at this; exact this⟩) hend) (by omega)
        exact hk n J2 (by omega) (by rw [hr9]; omega) h3 h4
