set_option maxHeartbeats 20000000 in
set_option maxRecDepth 100000 in
theorem nx_let3 (l : Launch) (E : AX) (b : Bool) (I0 L0 J M : Nat → Nat → Int)  (c : Int) (Φ : Option AV → AW → Prop) (hN : NpK J) (hk : ∀ (n : Int) (M2 : Nat → Nat → Int), 0 ≤ n → J 74 33 + n = (runP (Pl (J 97) (J 74 34).toNat) 501 (J 74 33).toNat : Int) → FlN M M2 → (n ≤ 8 → M2 74 38 = wcd (J 97) (J 74 33).toNat n.toNat) → Rch l E 3 125 (MW b I0 L0) 0 0 Φ (119, [some (vR 74), some (vI c), some (vI n)], [], MW b J M2)) : ∀ (n9 : Nat) (n : Int) (M2 : Nat → Nat → Int), 0 ≤ n ∧ J 74 33 + n ≤ J 74 34 → (∀ x : Nat, (x : Int) < n → (97 ≤ J 97 ((J 74 33).toNat + x) ∧ J 97 ((J 74 33).toNat + x) ≤ 122)) → FlN M M2 → (n ≤ 8 → M2 74 38 = wcd (J 97) (J 74 33).toNat n.toNat) → (8 ≤ n → True) → J 74 34 - J 74 33 - n < (n9 : Int) → Rch l E 3 125 (MW b I0 L0) 0 0 (Φ) (78, [some (vR 74), some (vI c), some (vI n)], [], MW b J M2) := by
  intro n9
  induction n9 with
  | zero =>
    intro n M2 h1 h2 h3 h4 h5 hm
    exfalso; omega
  | succ n9 ih =>
    intro n M2 h1 h2 h3 h4 h5 hm
    have hN1 := hN.1
    have hi9 : (n + 1).toNat = n.toNat + 1 := by omega
    have he9 : ((J 74 33) + n).toNat = (J 74 33).toNat + n.toNat := by omega
    have hb9 : J 74 33 + n < J 74 34 → 0 ≤ J 97 ((J 74 33) + n).toNat ∧ J 97 ((J 74 33) + n).toNat ≤ 255 := fun z => hN.2 _ (by omega)
    have hw9 : n ≤ 7 → 0 ≤ M2 74 38 ∧ M2 74 38 ≤ 34902897112121343 := fun z => by rw [h4 (by omega)]; have := wcd_rg (B := J 97) (p := (J 74 33).toNat) n.toNat (by omega) (fun i hi => h2 i (by omega)); exact ⟨this.1, this.2.2 (by omega)⟩
    have hpl9 : Pl (J 97) (J 74 34).toNat ((J 74 33).toNat + n.toNat) = true ↔ J 74 33 + n < J 74 34 ∧ 97 ≤ J 97 ((J 74 33) + n).toNat ∧ J 97 ((J 74 33) + n).toNat ≤ 122 := by unfold Pl; rw [decide_eq_true_eq, ← he9]; omega
    refine rch_run cdK125 (by decide) 2 (t' := (80, [some (vR 74), some (vI c), some (vI n)], [vI n, vR 74], MW b J M2)) (ps := []) rfl trivial ?_
    refine rch_call (h' := 1) (k' := 122) (as := [vR 74, vI n]) (t1 := (83, [some (vR 74), some (vI c), some (vI n)], [], MW b J M2)) cdK125 rfl (k_here l E b J M2 n (by show (0 ≤ n ∧ n ≤ 1000) ∧ (0 ≤ J 74 33 ∧ J 74 33 ≤ 1000) ∧ J 74 34 ≤ 500; omega)) (by decide) mw_le ?_
    rintro rt9 w9 (⟨k91, rfl, rfl⟩ | ⟨k91, rfl, rfl⟩) _ _
    · show Rch l E 3 125 _ _ _ _ (83, [some (vR 74), some (vI c), some (vI n)], [vI (J 97 ((J 74 33) + n).toNat)], MW b J M2)
      have k91 : (J 74 33) + n < J 74 34 := k91
      refine rch_call (h' := 1) (k' := 123) (as := [vI (J 97 ((J 74 33) + n).toNat)]) (t1 := (86, [some (vR 74), some (vI c), some (vI n)], [], MW b J M2)) cdK125 rfl (k_isLetter l E b J M2 (J 97 ((J 74 33) + n).toNat) ) (by decide) mw_le ?_
      rintro rt9 w9 (⟨k92, rfl, rfl⟩ | ⟨k92, rfl, rfl⟩) _ _
      · show Rch l E 3 125 _ _ _ _ (86, [some (vR 74), some (vI c), some (vI n)], [vI 1], MW b J M2)
        have k92 : 97 ≤ J 97 ((J 74 33) + n).toNat ∧ J 97 ((J 74 33) + n).toNat ≤ 122 := k92
        refine rch_br cdK125 (cd := (1 : Int) = 0) (t1 := (119, [some (vR 74), some (vI c), some (vI n)], [], MW b J M2)) (t2 := (89, [some (vR 74), some (vI c), some (vI n)], [], MW b J M2)) rfl (fun c9 => absurd c9 (by decide)) (fun _ => ?_)
        refine rch_run cdK125 (by decide) 2 (t' := (92, [some (vR 74), some (vI c), some (vI n)], [vI 8, vI n], MW b J M2)) (ps := []) rfl trivial ?_
        refine rch_br cdK125 (cd := (8 : Int) ≤ n) (t1 := (113, [some (vR 74), some (vI c), some (vI n)], [], MW b J M2)) (t2 := (95, [some (vR 74), some (vI c), some (vI n)], [], MW b J M2)) rfl (fun c92_2 => ?_) (fun c92_2 => ?_)
        · refine rch_run cdK125 (by decide) 2 (t' := (78, [some (vR 74), some (vI c), some (vI (n + 1))], [], MW b J M2)) (ps := [i32 (n + 1)]) rfl (by simp only [all_, i32, i64]; first | omega | (simp; done) | (simp; omega)) ?_
          exact ih (n + 1) M2 (by omega) (fun x hx => by by_cases e : x = n.toNat; (rw [e, ← he9]; omega); exact h2 x (by omega)) h3 (fun z => by omega) (fun _ => trivial) (by omega)
        · refine rch_run cdK125 (by decide) 7 (t' := (105, [some (vR 74), some (vI c), some (vI n)], [vI n, vR 74, vL (lShl (M2 74 38) 8), vR 74], MW b J M2)) (ps := []) rfl trivial ?_
          refine rch_call (h' := 1) (k' := 122) (as := [vR 74, vI n]) (t1 := (108, [some (vR 74), some (vI c), some (vI n)], [vL (lShl (M2 74 38) 8), vR 74], MW b J M2)) cdK125 rfl (k_here l E b J M2 n (by show (0 ≤ n ∧ n ≤ 1000) ∧ (0 ≤ J 74 33 ∧ J 74 33 ≤ 1000) ∧ J 74 34 ≤ 500; omega)) (by decide) mw_le ?_
          rintro rt9 w9 (⟨k93, rfl, rfl⟩ | ⟨k93, rfl, rfl⟩) _ _
          · show Rch l E 3 125 _ _ _ _ (108, [some (vR 74), some (vI c), some (vI n)], [vI (J 97 ((J 74 33) + n).toNat), vL (lShl (M2 74 38) 8), vR 74], MW b J M2)
            have k93 : (J 74 33) + n < J 74 34 := k93
            refine rch_run cdK125 (by decide) 5 (t' := (78, [some (vR 74), some (vI c), some (vI (n + 1))], [], MW b J (upI M2 74 38 (lOr (lShl (M2 74 38) 8) (J 97 ((J 74 33) + n).toNat))))) (ps := [i32 (n + 1)]) rfl (by simp only [all_, i32, i64]; first | omega | (simp; done) | (simp; omega)) ?_
            first | (exfalso; omega) | (have hb8 := hb9 (by omega); have hw8 := hw9 (by omega); exact ih (n + 1) _ (by omega) (fun x hx => by by_cases e : x = n.toNat; (rw [e, ← he9]; omega); exact h2 x (by omega)) (fun a j ha => by rw [upI_ne (by omega)]; exact h3 a j ha) (fun _ => by rw [upI_eq rfl rfl, or_256 hw8 hb8, hi9, wcd_s, ← h4 (by omega), he9]) (fun _ => trivial) (by omega))
          · show Rch l E 3 125 _ _ _ _ (108, [some (vR 74), some (vI c), some (vI n)], [vI (-1), vL (lShl (M2 74 38) 8), vR 74], MW b J M2)
            have k93 : ¬ ((J 74 33) + n < J 74 34) := k93
            refine rch_run cdK125 (by decide) 5 (t' := (78, [some (vR 74), some (vI c), some (vI (n + 1))], [], MW b J (upI M2 74 38 (lOr (lShl (M2 74 38) 8) (-1))))) (ps := [i32 (n + 1)]) rfl (by simp only [all_, i32, i64]; first | omega | (simp; done) | (simp; omega)) ?_
            first | (exfalso; omega) | (have hb8 := hb9 (by omega); have hw8 := hw9 (by omega); exact ih (n + 1) _ (by omega) (fun x hx => by by_cases e : x = n.toNat; (rw [e, ← he9]; omega); exact h2 x (by omega)) (fun a j ha => by rw [upI_ne (by omega)]; exact h3 a j ha) (fun _ => by rw [upI_eq rfl rfl, or_256 hw8 hb8, hi9, wcd_s, ← h4 (by omega), he9]) (fun _ => trivial) (by omega))
      · show Rch l E 3 125 _ _ _ _ (86, [some (vR 74), some (vI c), some (vI n)], [vI 0], MW b J M2)
        have k92 : ¬ (97 ≤ J 97 ((J 74 33) + n).toNat ∧ J 97 ((J 74 33) + n).toNat ≤ 122) := k92
        refine rch_br cdK125 (cd := (0 : Int) = 0) (t1 := (119, [some (vR 74), some (vI c), some (vI n)], [], MW b J M2)) (t2 := (89, [some (vR 74), some (vI c), some (vI n)], [], MW b J M2)) rfl (fun _ => ?_) (fun c9 => absurd (by decide) c9)
        have hend : Pl (J 97) (J 74 34).toNat ((J 74 33).toNat + n.toNat) = false := by cases hq : Pl (J 97) (J 74 34).toNat ((J 74 33).toNat + n.toNat); (rfl); (have := hpl9.mp hq; exfalso; omega)
        have hr9 : runP (Pl (J 97) (J 74 34).toNat) 501 (J 74 33).toNat = (J 74 33).toNat + n.toNat := run_eq (run_mk (by omega) (fun x hx hx2 => decide_eq_true ⟨by omega, by have := h2 (x - (J 74 33).toNat) (by omega); rw [show (J 74 33).toNat + (x - (J 74 33).toNat) = x by omega] at this; exact this⟩) hend) (by omega)
        exact hk n M2 (by omega) (by rw [hr9]; omega) h3 h4
    · show Rch l E 3 125 _ _ _ _ (83, [some (vR 74), some (vI c), some (vI n)], [vI (-1)], MW b J M2)
      have k91 : ¬ ((J 74 33) + n < J 74 34) := k91
      refine rch_call (h' := 1) (k' := 123) (as := [vI (-1)]) (t1 := (86, [some (vR 74), some (vI c), some (vI n)], [], MW b J M2)) cdK125 rfl (k_isLetter l E b J M2 (-1) ) (by decide) mw_le ?_
      rintro rt9 w9 (⟨k94, rfl, rfl⟩ | ⟨k94, rfl, rfl⟩) _ _
      · show Rch l E 3 125 _ _ _ _ (86, [some (vR 74), some (vI c), some (vI n)], [vI 1], MW b J M2)
        have k94 : 97 ≤ (-1) ∧ (-1) ≤ 122 := k94
        refine rch_br cdK125 (cd := (1 : Int) = 0) (t1 := (119, [some (vR 74), some (vI c), some (vI n)], [], MW b J M2)) (t2 := (89, [some (vR 74), some (vI c), some (vI n)], [], MW b J M2)) rfl (fun c9 => absurd c9 (by decide)) (fun _ => ?_)
        refine rch_run cdK125 (by decide) 2 (t' := (92, [some (vR 74), some (vI c), some (vI n)], [vI 8, vI n], MW b J M2)) (ps := []) rfl trivial ?_
        refine rch_br cdK125 (cd := (8 : Int) ≤ n) (t1 := (113, [some (vR 74), some (vI c), some (vI n)], [], MW b J M2)) (t2 := (95, [some (vR 74), some (vI c), some (vI n)], [], MW b J M2)) rfl (fun c92_5 => ?_) (fun c92_5 => ?_)
        · refine rch_run cdK125 (by decide) 2 (t' := (78, [some (vR 74), some (vI c), some (vI (n + 1))], [], MW b J M2)) (ps := [i32 (n + 1)]) rfl (by simp only [all_, i32, i64]; first | omega | (simp; done) | (simp; omega)) ?_
          exact ih (n + 1) M2 (by omega) (fun x hx => by by_cases e : x = n.toNat; (rw [e, ← he9]; omega); exact h2 x (by omega)) h3 (fun z => by omega) (fun _ => trivial) (by omega)
        · refine rch_run cdK125 (by decide) 7 (t' := (105, [some (vR 74), some (vI c), some (vI n)], [vI n, vR 74, vL (lShl (M2 74 38) 8), vR 74], MW b J M2)) (ps := []) rfl trivial ?_
          refine rch_call (h' := 1) (k' := 122) (as := [vR 74, vI n]) (t1 := (108, [some (vR 74), some (vI c), some (vI n)], [vL (lShl (M2 74 38) 8), vR 74], MW b J M2)) cdK125 rfl (k_here l E b J M2 n (by show (0 ≤ n ∧ n ≤ 1000) ∧ (0 ≤ J 74 33 ∧ J 74 33 ≤ 1000) ∧ J 74 34 ≤ 500; omega)) (by decide) mw_le ?_
          rintro rt9 w9 (⟨k95, rfl, rfl⟩ | ⟨k95, rfl, rfl⟩) _ _
          · show Rch l E 3 125 _ _ _ _ (108, [some (vR 74), some (vI c), some (vI n)], [vI (J 97 ((J 74 33) + n).toNat), vL (lShl (M2 74 38) 8), vR 74], MW b J M2)
            have k95 : (J 74 33) + n < J 74 34 := k95
            refine rch_run cdK125 (by decide) 5 (t' := (78, [some (vR 74), some (vI c), some (vI (n + 1))], [], MW b J (upI M2 74 38 (lOr (lShl (M2 74 38) 8) (J 97 ((J 74 33) + n).toNat))))) (ps := [i32 (n + 1)]) rfl (by simp only [all_, i32, i64]; first | omega | (simp; done) | (simp; omega)) ?_
            first | (exfalso; omega) | (have hb8 := hb9 (by omega); have hw8 := hw9 (by omega); exact ih (n + 1) _ (by omega) (fun x hx => by by_cases e : x = n.toNat; (rw [e, ← he9]; omega); exact h2 x (by omega)) (fun a j ha => by rw [upI_ne (by omega)]; exact h3 a j ha) (fun _ => by rw [upI_eq rfl rfl, or_256 hw8 hb8, hi9, wcd_s, ← h4 (by omega), he9]) (fun _ => trivial) (by omega))
          · show Rch l E 3 125 _ _ _ _ (108, [some (vR 74), some (vI c), some (vI n)], [vI (-1), vL (lShl (M2 74 38) 8), vR 74], MW b J M2)
            have k95 : ¬ ((J 74 33) + n < J 74 34) := k95
            refine rch_run cdK125 (by decide) 5 (t' := (78, [some (vR 74), some (vI c), some (vI (n + 1))], [], MW b J (upI M2 74 38 (lOr (lShl (M2 74 38) 8) (-1))))) (ps := [i32 (n + 1)]) rfl (by simp only [all_, i32, i64]; first | omega | (simp; done) | (simp; omega)) ?_
            first | (exfalso; omega) | (have hb8 := hb9 (by omega); have hw8 := hw9 (by omega); exact ih (n + 1) _ (by omega) (fun x hx => by by_cases e : x = n.toNat; (rw [e, ← he9]; omega); exact h2 x (by omega)) (fun a j ha => by rw [upI_ne (by omega)]; exact h3 a j ha) (fun _ => by rw [upI_eq rfl rfl, or_256 hw8 hb8, hi9, wcd_s, ← h4 (by omega), he9]) (fun _ => trivial) (by omega))
      · show Rch l E 3 125 _ _ _ _ (86, [some (vR 74), some (vI c), some (vI n)], [vI 0], MW b J M2)
        have k94 : ¬ (97 ≤ (-1) ∧ (-1) ≤ 122) := k94
        refine rch_br cdK125 (cd := (0 : Int) = 0) (t1 := (119, [some (vR 74), some (vI c), some (vI n)], [], MW b J M2)) (t2 := (89, [some (vR 74), some (vI c), some (vI n)], [], MW b J M2)) rfl (fun _ => ?_) (fun c9 => absurd (by decide) c9)
        have hend : Pl (J 97) (J 74 34).toNat ((J 74 33).toNat + n.toNat) = false := by cases hq : Pl (J 97) (J 74 34).toNat ((J 74 33).toNat + n.toNat); (rfl); (have := hpl9.mp hq; exfalso; omega)
        have hr9 : runP (Pl (J 97) (J 74 34).toNat) 501 (J 74 33).toNat = (J 74 33).toNat + n.toNat := run_eq (run_mk (by omega) (fun x hx hx2 => decide_eq_true ⟨by omega, by have := h2 (x - (J 74 33).toNat) (by omega); rw [show (J 74 33).toNat + (x - (J 74 33).toNat) = x by omega] at this; exact this⟩) hend) (by omega)
        exact hk n M2 (by omega) (by rw [hr9]; omega) h3 h4


set_option maxHeartbeats 20000000 in
set_option maxRecDepth 100000 in
theorem nx_dig3 (l : Launch) (E : AX) (b : Bool) (I0 L0 J M : Nat → Nat → Int)  (c : Int) (Φ : Option AV → AW → Prop) (hN : NpK J) (hk : ∀ (n : Int) (J2 : Nat → Nat → Int), 0 ≤ n → J 74 33 + n = (runP (Pd (J 97) (J 74 34).toNat) 501 (J 74 33).toNat : Int) → (∀ a j, ¬ (a = 74 ∧ j = 37) → J2 a j = J a j) → (n ≤ 6 → J2 74 37 = nvl (J 97) (J 74 33).toNat n.toNat) → Rch l E 3 125 (MW b I0 L0) 0 0 Φ (187, [some (vR 74), some (vI c), some (vI n)], [], MW b J2 M)) : ∀ (n9 : Nat) (n : Int) (J2 : Nat → Nat → Int), 0 ≤ n ∧ J 74 33 + n ≤ J 74 34 → (∀ x : Nat, (x : Int) < n → (48 ≤ J 97 ((J 74 33).toNat + x) ∧ J 97 ((J 74 33).toNat + x) ≤ 57)) → (∀ a j, ¬ (a = 74 ∧ j = 37) → J2 a j = J a j) → (n ≤ 6 → J2 74 37 = nvl (J 97) (J 74 33).toNat n.toNat) → J 74 34 - J 74 33 - n < (n9 : Int) → Rch l E 3 125 (MW b I0 L0) 0 0 (Φ) (144, [some (vR 74), some (vI c), some (vI n)], [], MW b J2 M) := by
  intro n9
  induction n9 with
  | zero =>
    intro n J2 h1 h2 h3 h4 hm
    exfalso; omega
  | succ n9 ih =>
    intro n J2 h1 h2 h3 h4 hm
    have hN1 := hN.1
    have q33 := h3 74 33 (by omega)
    have q34 := h3 74 34 (by omega)
    have q97 := h3 97 ((J 74 33) + n).toNat (by omega)
    have hi9 : (n + 1).toNat = n.toNat + 1 := by omega
    have he9 : ((J 74 33) + n).toNat = (J 74 33).toNat + n.toNat := by omega
    have hj9 : ((J2 74 33) + n).toNat = ((J 74 33) + n).toNat := by rw [q33]
    have qj97 : J2 97 ((J2 74 33) + n).toNat = J 97 ((J 74 33) + n).toNat := by rw [hj9]; exact q97
    have hb9 : J 74 33 + n < J 74 34 → 0 ≤ J 97 ((J 74 33) + n).toNat ∧ J 97 ((J 74 33) + n).toNat ≤ 255 := fun z => hN.2 _ (by omega)
    have hw9 : n ≤ 5 → 0 ≤ J2 74 37 ∧ J2 74 37 ≤ 99999 := fun z => by rw [h4 (by omega)]; have := nvl_rg (B := J 97) (p := (J 74 33).toNat) n.toNat (by omega) (fun i hi => h2 i (by omega)); exact ⟨this.1, this.2.2 (by omega)⟩
    have hpl9 : Pd (J 97) (J 74 34).toNat ((J 74 33).toNat + n.toNat) = true ↔ J 74 33 + n < J 74 34 ∧ 48 ≤ J 97 ((J 74 33) + n).toNat ∧ J 97 ((J 74 33) + n).toNat ≤ 57 := by unfold Pd; rw [decide_eq_true_eq, ← he9]; omega
    refine rch_run cdK125 (by decide) 2 (t' := (146, [some (vR 74), some (vI c), some (vI n)], [vI n, vR 74], MW b J2 M)) (ps := []) rfl trivial ?_
    refine rch_call (h' := 1) (k' := 122) (as := [vR 74, vI n]) (t1 := (149, [some (vR 74), some (vI c), some (vI n)], [], MW b J2 M)) cdK125 rfl (k_here l E b J2 M n (by show (0 ≤ n ∧ n ≤ 1000) ∧ (0 ≤ J2 74 33 ∧ J2 74 33 ≤ 1000) ∧ J2 74 34 ≤ 500; omega)) (by decide) mw_le ?_
    rintro rt9 w9 (⟨k96, rfl, rfl⟩ | ⟨k96, rfl, rfl⟩) _ _
    · show Rch l E 3 125 _ _ _ _ (149, [some (vR 74), some (vI c), some (vI n)], [vI (J2 97 ((J2 74 33) + n).toNat)], MW b J2 M)
      have k96 : (J2 74 33) + n < J2 74 34 := k96
      refine rch_call (h' := 1) (k' := 124) (as := [vI (J2 97 ((J2 74 33) + n).toNat)]) (t1 := (152, [some (vR 74), some (vI c), some (vI n)], [], MW b J2 M)) cdK125 rfl (k_isDigit l E b J2 M (J2 97 ((J2 74 33) + n).toNat) ) (by decide) mw_le ?_
      rintro rt9 w9 (⟨k97, rfl, rfl⟩ | ⟨k97, rfl, rfl⟩) _ _
      · show Rch l E 3 125 _ _ _ _ (152, [some (vR 74), some (vI c), some (vI n)], [vI 1], MW b J2 M)
        have k97 : 48 ≤ J2 97 ((J2 74 33) + n).toNat ∧ J2 97 ((J2 74 33) + n).toNat ≤ 57 := k97
        refine rch_br cdK125 (cd := (1 : Int) = 0) (t1 := (187, [some (vR 74), some (vI c), some (vI n)], [], MW b J2 M)) (t2 := (155, [some (vR 74), some (vI c), some (vI n)], [], MW b J2 M)) rfl (fun c9 => absurd c9 (by decide)) (fun _ => ?_)
        refine rch_run cdK125 (by decide) 2 (t' := (158, [some (vR 74), some (vI c), some (vI n)], [vI 6, vI n], MW b J2 M)) (ps := []) rfl trivial ?_
        refine rch_br cdK125 (cd := (6 : Int) ≤ n) (t1 := (181, [some (vR 74), some (vI c), some (vI n)], [], MW b J2 M)) (t2 := (161, [some (vR 74), some (vI c), some (vI n)], [], MW b J2 M)) rfl (fun c158_2 => ?_) (fun c158_2 => ?_)
        · refine rch_run cdK125 (by decide) 2 (t' := (144, [some (vR 74), some (vI c), some (vI (n + 1))], [], MW b J2 M)) (ps := [i32 (n + 1)]) rfl (by (try (have hw8 := hw9 (by omega); have hb8 := hb9 (by omega))); simp only [all_, i32, i64]; first | omega | (simp; done) | (simp; omega)) ?_
          exact ih (n + 1) J2 (by omega) (fun x hx => by by_cases e : x = n.toNat; (rw [e, ← he9]; omega); exact h2 x (by omega)) h3 (fun z => by omega) (by omega)
        · refine rch_run cdK125 (by decide) 7 (t' := (171, [some (vR 74), some (vI c), some (vI n)], [vI n, vR 74, vI (10 * (J2 74 37)), vR 74], MW b J2 M)) (ps := [i32 (10 * (J2 74 37))]) rfl (by (try (have hw8 := hw9 (by omega); have hb8 := hb9 (by omega))); simp only [all_, i32, i64]; first | omega | (simp; done) | (simp; omega)) ?_
          refine rch_call (h' := 1) (k' := 122) (as := [vR 74, vI n]) (t1 := (174, [some (vR 74), some (vI c), some (vI n)], [vI (10 * (J2 74 37)), vR 74], MW b J2 M)) cdK125 rfl (k_here l E b J2 M n (by show (0 ≤ n ∧ n ≤ 1000) ∧ (0 ≤ J2 74 33 ∧ J2 74 33 ≤ 1000) ∧ J2 74 34 ≤ 500; omega)) (by decide) mw_le ?_
          rintro rt9 w9 (⟨k98, rfl, rfl⟩ | ⟨k98, rfl, rfl⟩) _ _
          · show Rch l E 3 125 _ _ _ _ (174, [some (vR 74), some (vI c), some (vI n)], [vI (J2 97 ((J2 74 33) + n).toNat), vI (10 * (J2 74 37)), vR 74], MW b J2 M)
            have k98 : (J2 74 33) + n < J2 74 34 := k98
            refine rch_run cdK125 (by decide) 6 (t' := (144, [some (vR 74), some (vI c), some (vI (n + 1))], [], MW b (upI J2 74 37 (((10 * (J2 74 37)) + (J2 97 ((J2 74 33) + n).toNat)) - 48)) M)) (ps := [i32 ((10 * (J2 74 37)) + (J2 97 ((J2 74 33) + n).toNat)), i32 (((10 * (J2 74 37)) + (J2 97 ((J2 74 33) + n).toNat)) - 48), i32 (n + 1)]) rfl (by (try (have hw8 := hw9 (by omega); have hb8 := hb9 (by omega))); simp only [all_, i32, i64]; first | omega | (simp; done) | (simp; omega)) ?_
            first | (exfalso; omega) | (have hb8 := hb9 (by omega); have hw8 := hw9 (by omega); exact ih (n + 1) _ (by omega) (fun x hx => by by_cases e : x = n.toNat; (rw [e, ← he9]; omega); exact h2 x (by omega)) (fun a j ha => by rw [upI_ne (by omega)]; exact h3 a j ha) (fun _ => by rw [upI_eq rfl rfl, hi9]; show _ = nvl (J 97) (J 74 33).toNat n.toNat * 10 + (J 97 ((J 74 33).toNat + n.toNat) - 48); rw [← h4 (by omega), ← he9]; omega) (by omega))
          · show Rch l E 3 125 _ _ _ _ (174, [some (vR 74), some (vI c), some (vI n)], [vI (-1), vI (10 * (J2 74 37)), vR 74], MW b J2 M)
            have k98 : ¬ ((J2 74 33) + n < J2 74 34) := k98
            refine rch_run cdK125 (by decide) 6 (t' := (144, [some (vR 74), some (vI c), some (vI (n + 1))], [], MW b (upI J2 74 37 (((10 * (J2 74 37)) + (-1)) - 48)) M)) (ps := [i32 ((10 * (J2 74 37)) + (-1)), i32 (((10 * (J2 74 37)) + (-1)) - 48), i32 (n + 1)]) rfl (by (try (have hw8 := hw9 (by omega); have hb8 := hb9 (by omega))); simp only [all_, i32, i64]; first | omega | (simp; done) | (simp; omega)) ?_
            first | (exfalso; omega) | (have hb8 := hb9 (by omega); have hw8 := hw9 (by omega); exact ih (n + 1) _ (by omega) (fun x hx => by by_cases e : x = n.toNat; (rw [e, ← he9]; omega); exact h2 x (by omega)) (fun a j ha => by rw [upI_ne (by omega)]; exact h3 a j ha) (fun _ => by rw [upI_eq rfl rfl, hi9]; show _ = nvl (J 97) (J 74 33).toNat n.toNat * 10 + (J 97 ((J 74 33).toNat + n.toNat) - 48); rw [← h4 (by omega), ← he9]; omega) (by omega))
      · show Rch l E 3 125 _ _ _ _ (152, [some (vR 74), some (vI c), some (vI n)], [vI 0], MW b J2 M)
        have k97 : ¬ (48 ≤ J2 97 ((J2 74 33) + n).toNat ∧ J2 97 ((J2 74 33) + n).toNat ≤ 57) := k97
        refine rch_br cdK125 (cd := (0 : Int) = 0) (t1 := (187, [some (vR 74), some (vI c), some (vI n)], [], MW b J2 M)) (t2 := (155, [some (vR 74), some (vI c), some (vI n)], [], MW b J2 M)) rfl (fun _ => ?_) (fun c9 => absurd (by decide) c9)
        have hend : Pd (J 97) (J 74 34).toNat ((J 74 33).toNat + n.toNat) = false := by cases hq : Pd (J 97) (J 74 34).toNat ((J 74 33).toNat + n.toNat); (rfl); (have := hpl9.mp hq; exfalso; omega)
        have hr9 : runP (Pd (J 97) (J 74 34).toNat) 501 (J 74 33).toNat = (J 74 33).toNat + n.toNat := run_eq (run_mk (by omega) (fun x hx hx2 => decide_eq_true ⟨by omega, by have := h2 (x - (J 74 33).toNat) (by omega); rw [show (J 74 33).toNat + (x - (J 74 33).toNat) = x by omega] at this; exact this⟩) hend) (by omega)
        exact hk n J2 (by omega) (by rw [hr9]; omega) h3 h4
    · show Rch l E 3 125 _ _ _ _ (149, [some (vR 74), some (vI c), some (vI n)], [vI (-1)], MW b J2 M)
      have k96 : ¬ ((J2 74 33) + n < J2 74 34) := k96
      refine rch_call (h' := 1) (k' := 124) (as := [vI (-1)]) (t1 := (152, [some (vR 74), some (vI c), some (vI n)], [], MW b J2 M)) cdK125 rfl (k_isDigit l E b J2 M (-1) ) (by decide) mw_le ?_
      rintro rt9 w9 (⟨k99, rfl, rfl⟩ | ⟨k99, rfl, rfl⟩) _ _
      · show Rch l E 3 125 _ _ _ _ (152, [some (vR 74), some (vI c), some (vI n)], [vI 1], MW b J2 M)
        have k99 : 48 ≤ (-1) ∧ (-1) ≤ 57 := k99
        refine rch_br cdK125 (cd := (1 : Int) = 0) (t1 := (187, [some (vR 74), some (vI c), some (vI n)], [], MW b J2 M)) (t2 := (155, [some (vR 74), some (vI c), some (vI n)], [], MW b J2 M)) rfl (fun c9 => absurd c9 (by decide)) (fun _ => ?_)
        refine rch_run cdK125 (by decide) 2 (t' := (158, [some (vR 74), some (vI c), some (vI n)], [vI 6, vI n], MW b J2 M)) (ps := []) rfl trivial ?_
        refine rch_br cdK125 (cd := (6 : Int) ≤ n) (t1 := (181, [some (vR 74), some (vI c), some (vI n)], [], MW b J2 M)) (t2 := (161, [some (vR 74), some (vI c), some (vI n)], [], MW b J2 M)) rfl (fun c158_5 => ?_) (fun c158_5 => ?_)
        · refine rch_run cdK125 (by decide) 2 (t' := (144, [some (vR 74), some (vI c), some (vI (n + 1))], [], MW b J2 M)) (ps := [i32 (n + 1)]) rfl (by (try (have hw8 := hw9 (by omega); have hb8 := hb9 (by omega))); simp only [all_, i32, i64]; first | omega | (simp; done) | (simp; omega)) ?_
          exact ih (n + 1) J2 (by omega) (fun x hx => by by_cases e : x = n.toNat; (rw [e, ← he9]; omega); exact h2 x (by omega)) h3 (fun z => by omega) (by omega)
        · refine rch_run cdK125 (by decide) 7 (t' := (171, [some (vR 74), some (vI c), some (vI n)], [vI n, vR 74, vI (10 * (J2 74 37)), vR 74], MW b J2 M)) (ps := [i32 (10 * (J2 74 37))]) rfl (by (try (have hw8 := hw9 (by omega); have hb8 := hb9 (by omega))); simp only [all_, i32, i64]; first | omega | (simp; done) | (simp; omega)) ?_
          refine rch_call (h' := 1) (k' := 122) (as := [vR 74, vI n]) (t1 := (174, [some (vR 74), some (vI c), some (vI n)], [vI (10 * (J2 74 37)), vR 74], MW b J2 M)) cdK125 rfl (k_here l E b J2 M n (by show (0 ≤ n ∧ n ≤ 1000) ∧ (0 ≤ J2 74 33 ∧ J2 74 33 ≤ 1000) ∧ J2 74 34 ≤ 500; omega)) (by decide) mw_le ?_
          rintro rt9 w9 (⟨k100, rfl, rfl⟩ | ⟨k100, rfl, rfl⟩) _ _
          · show Rch l E 3 125 _ _ _ _ (174, [some (vR 74), some (vI c), some (vI n)], [vI (J2 97 ((J2 74 33) + n).toNat), vI (10 * (J2 74 37)), vR 74], MW b J2 M)
            have k100 : (J2 74 33) + n < J2 74 34 := k100
            refine rch_run cdK125 (by decide) 6 (t' := (144, [some (vR 74), some (vI c), some (vI (n + 1))], [], MW b (upI J2 74 37 (((10 * (J2 74 37)) + (J2 97 ((J2 74 33) + n).toNat)) - 48)) M)) (ps := [i32 ((10 * (J2 74 37)) + (J2 97 ((J2 74 33) + n).toNat)), i32 (((10 * (J2 74 37)) + (J2 97 ((J2 74 33) + n).toNat)) - 48), i32 (n + 1)]) rfl (by (try (have hw8 := hw9 (by omega); have hb8 := hb9 (by omega))); simp only [all_, i32, i64]; first | omega | (simp; done) | (simp; omega)) ?_
            first | (exfalso; omega) | (have hb8 := hb9 (by omega); have hw8 := hw9 (by omega); exact ih (n + 1) _ (by omega) (fun x hx => by by_cases e : x = n.toNat; (rw [e, ← he9]; omega); exact h2 x (by omega)) (fun a j ha => by rw [upI_ne (by omega)]; exact h3 a j ha) (fun _ => by rw [upI_eq rfl rfl, hi9]; show _ = nvl (J 97) (J 74 33).toNat n.toNat * 10 + (J 97 ((J 74 33).toNat + n.toNat) - 48); rw [← h4 (by omega), ← he9]; omega) (by omega))
          · show Rch l E 3 125 _ _ _ _ (174, [some (vR 74), some (vI c), some (vI n)], [vI (-1), vI (10 * (J2 74 37)), vR 74], MW b J2 M)
            have k100 : ¬ ((J2 74 33) + n < J2 74 34) := k100
            refine rch_run cdK125 (by decide) 6 (t' := (144, [some (vR 74), some (vI c), some (vI (n + 1))], [], MW b (upI J2 74 37 (((10 * (J2 74 37)) + (-1)) - 48)) M)) (ps := [i32 ((10 * (J2 74 37)) + (-1)), i32 (((10 * (J2 74 37)) + (-1)) - 48), i32 (n + 1)]) rfl (by (try (have hw8 := hw9 (by omega); have hb8 := hb9 (by omega))); simp only [all_, i32, i64]; first | omega | (simp; done) | (simp; omega)) ?_
            first | (exfalso; omega) | (have hb8 := hb9 (by omega); have hw8 := hw9 (by omega); exact ih (n + 1) _ (by omega) (fun x hx => by by_cases e : x = n.toNat; (rw [e, ← he9]; omega); exact h2 x (by omega)) (fun a j ha => by rw [upI_ne (by omega)]; exact h3 a j ha) (fun _ => by rw [upI_eq rfl rfl, hi9]; show _ = nvl (J 97) (J 74 33).toNat n.toNat * 10 + (J 97 ((J 74 33).toNat + n.toNat) - 48); rw [← h4 (by omega), ← he9]; omega) (by omega))
      · show Rch l E 3 125 _ _ _ _ (152, [some (vR 74), some (vI c), some (vI n)], [vI 0], MW b J2 M)
        have k99 : ¬ (48 ≤ (-1) ∧ (-1) ≤ 57) := k99
        refine rch_br cdK125 (cd := (0 : Int) = 0) (t1 := (187, [some (vR 74), some (vI c), some (vI n)], [], MW b J2 M)) (t2 := (155, [some (vR 74), some (vI c), some (vI n)], [], MW b J2 M)) rfl (fun _ => ?_) (fun c9 => absurd (by decide) c9)
        have hend : Pd (J 97) (J 74 34).toNat ((J 74 33).toNat + n.toNat) = false := by cases hq : Pd (J 97) (J 74 34).toNat ((J 74 33).toNat + n.toNat); (rfl); (have := hpl9.mp hq; exfalso; omega)
        have hr9 : runP (Pd (J 97) (J 74 34).toNat) 501 (J 74 33).toNat = (J 74 33).toNat + n.toNat := run_eq (run_mk (by omega) (fun x hx hx2 => decide_eq_true ⟨by omega, by have := h2 (x - (J 74 33).toNat) (by omega); rw [show (J 74 33).toNat + (x - (J 74 33).toNat) = x by omega] at this; exact this⟩) hend) (by omega)
        exact hk n J2 (by omega) (by rw [hr9]; omega) h3 h4

set_option maxHeartbeats 20000000 in
set_option maxRecDepth 100000 in
theorem nx_skip (l : Launch) (E : AX) (b : Bool) (I L : Nat → Nat → Int) (hN : NpK I) (Φ : Option AV → AW → Prop) (hk : ∀ J, I 74 33 ≤ J 74 33 → J 74 33 ≤ I 74 34 → tP (I 97) (I 74 34).toNat (I 74 33).toNat = (J 74 33).toNat → (∀ a j, ¬ (a = 74 ∧ j = 33) → J a j = I a j) → Rch l E 3 125 (MW b I L) 0 0 Φ (33, [some (vR 74), none, none], [], MW b J L)) : ∀ (n9 : Nat) (zz : Int) (J : Nat → Nat → Int), I 74 33 ≤ J 74 33 ∧ J 74 33 ≤ I 74 34 → (∀ x : Nat, I 74 33 ≤ x → (x : Int) < J 74 33 → Pb (I 97) (I 74 34).toNat x = true) → (∀ a j, ¬ (a = 74 ∧ j = 33) → J a j = I a j) → I 74 34 - J 74 33 < (n9 : Int) → Rch l E 3 125 (MW b I L) 0 0 (Φ) (0, [some (vR 74), none, none], [], MW b J L) := by
  intro n9
  induction n9 with
  | zero =>
    intro zz J h1 h2 h3 hm
    exfalso; omega
  | succ n9 ih =>
    intro zz J h1 h2 h3 hm
    have hN1 := hN.1
    have q34 := h3 74 34 (by omega)
    have e97 := h3 97 (J 74 33).toNat (by omega)
    have e0 : J 97 ((J 74 33) + 0).toNat = J 97 (J 74 33).toNat := by rw [Int.add_zero]
    have hb9 : J 74 33 < I 74 34 → 0 ≤ I 97 (J 74 33).toNat ∧ I 97 (J 74 33).toNat ≤ 255 := fun z => hN.2 _ (by omega)
    have hpb : Pb (I 97) (I 74 34).toNat (J 74 33).toNat = true ↔ J 74 33 < I 74 34 ∧ (I 97 (J 74 33).toNat = 32 ∨ I 97 (J 74 33).toNat = 10) := by unfold Pb; rw [decide_eq_true_eq]; omega
    refine rch_run cdK125 (by decide) 2 (t' := (2, [some (vR 74), none, none], [vI 0, vR 74], MW b J L)) (ps := []) rfl trivial ?_
    refine rch_call (h' := 1) (k' := 122) (as := [vR 74, vI 0]) (t1 := (5, [some (vR 74), none, none], [], MW b J L)) cdK125 rfl (k_here l E b J L 0 (by show (0 ≤ 0 ∧ 0 ≤ 1000) ∧ (0 ≤ J 74 33 ∧ J 74 33 ≤ 1000) ∧ J 74 34 ≤ 500; omega)) (by decide) mw_le ?_
    rintro rt9 w9 (⟨k101, rfl, rfl⟩ | ⟨k101, rfl, rfl⟩) _ _
    · show Rch l E 3 125 _ _ _ _ (5, [some (vR 74), none, none], [vI (J 97 ((J 74 33) + 0).toNat)], MW b J L)
      have k101 : (J 74 33) + 0 < J 74 34 := k101
      refine rch_run cdK125 (by decide) 1 (t' := (7, [some (vR 74), none, none], [vI 32, vI (J 97 ((J 74 33) + 0).toNat)], MW b J L)) (ps := []) rfl trivial ?_
      refine rch_br cdK125 (cd := J 97 ((J 74 33) + 0).toNat = (32 : Int)) (t1 := (20, [some (vR 74), none, none], [], MW b J L)) (t2 := (10, [some (vR 74), none, none], [], MW b J L)) rfl (fun c7_1 => ?_) (fun c7_1 => ?_)
      · refine rch_run cdK125 (by decide) 7 (t' := (0, [some (vR 74), none, none], [], MW b (upI J 74 33 ((J 74 33) + 1)) L)) (ps := [i32 ((J 74 33) + 1)]) rfl (by simp only [all_, i32, i64]; first | omega | (simp; done) | (simp; omega)) ?_
        first | (exfalso; omega) | (exact ih 0 _ (by rw [upI_eq rfl rfl]; omega) (fun x hx hx2 => by rw [upI_eq rfl rfl] at hx2; by_cases e : x = (J 74 33).toNat; (rw [e]; exact hpb.mpr (by omega)); exact h2 x hx (by omega)) (fun a j ha => by rw [upI_ne (by omega)]; exact h3 a j ha) (by rw [upI_eq rfl rfl]; omega))
      · refine rch_run cdK125 (by decide) 2 (t' := (12, [some (vR 74), none, none], [vI 0, vR 74], MW b J L)) (ps := []) rfl trivial ?_
        refine rch_call (h' := 1) (k' := 122) (as := [vR 74, vI 0]) (t1 := (15, [some (vR 74), none, none], [], MW b J L)) cdK125 rfl (k_here l E b J L 0 (by show (0 ≤ 0 ∧ 0 ≤ 1000) ∧ (0 ≤ J 74 33 ∧ J 74 33 ≤ 1000) ∧ J 74 34 ≤ 500; omega)) (by decide) mw_le ?_
        rintro rt9 w9 (⟨k102, rfl, rfl⟩ | ⟨k102, rfl, rfl⟩) _ _
        · show Rch l E 3 125 _ _ _ _ (15, [some (vR 74), none, none], [vI (J 97 ((J 74 33) + 0).toNat)], MW b J L)
          have k102 : (J 74 33) + 0 < J 74 34 := k102
          refine rch_run cdK125 (by decide) 1 (t' := (17, [some (vR 74), none, none], [vI 10, vI (J 97 ((J 74 33) + 0).toNat)], MW b J L)) (ps := []) rfl trivial ?_
          refine rch_br cdK125 (cd := J 97 ((J 74 33) + 0).toNat ≠ (10 : Int)) (t1 := (33, [some (vR 74), none, none], [], MW b J L)) (t2 := (20, [some (vR 74), none, none], [], MW b J L)) rfl (fun c17_2 => ?_) (fun c17_2 => ?_)
          · have hend : Pb (I 97) (I 74 34).toNat (J 74 33).toNat = false := by cases hq : Pb (I 97) (I 74 34).toNat (J 74 33).toNat; (rfl); (have := hpb.mp hq; exfalso; omega)
            exact hk J (by omega) (by omega) (run_eq (run_mk (by omega) (fun x hx hx2 => h2 x (by omega) (by omega)) hend) (by omega)) h3
          · refine rch_run cdK125 (by decide) 7 (t' := (0, [some (vR 74), none, none], [], MW b (upI J 74 33 ((J 74 33) + 1)) L)) (ps := [i32 ((J 74 33) + 1)]) rfl (by simp only [all_, i32, i64]; first | omega | (simp; done) | (simp; omega)) ?_
            first | (exfalso; omega) | (exact ih 0 _ (by rw [upI_eq rfl rfl]; omega) (fun x hx hx2 => by rw [upI_eq rfl rfl] at hx2; by_cases e : x = (J 74 33).toNat; (rw [e]; exact hpb.mpr (by omega)); exact h2 x hx (by omega)) (fun a j ha => by rw [upI_ne (by omega)]; exact h3 a j ha) (by rw [upI_eq rfl rfl]; omega))
        · show Rch l E 3 125 _ _ _ _ (15, [some (vR 74), none, none], [vI (-1)], MW b J L)
          have k102 : ¬ ((J 74 33) + 0 < J 74 34) := k102
          refine rch_run cdK125 (by decide) 1 (t' := (17, [some (vR 74), none, none], [vI 10, vI (-1)], MW b J L)) (ps := []) rfl trivial ?_
          refine rch_br cdK125 (cd := ((-1) : Int) ≠ (10 : Int)) (t1 := (33, [some (vR 74), none, none], [], MW b J L)) (t2 := (20, [some (vR 74), none, none], [], MW b J L)) rfl (fun _ => ?_) (fun c9 => absurd (by decide) c9)
          have hend : Pb (I 97) (I 74 34).toNat (J 74 33).toNat = false := by cases hq : Pb (I 97) (I 74 34).toNat (J 74 33).toNat; (rfl); (have := hpb.mp hq; exfalso; omega)
          exact hk J (by omega) (by omega) (run_eq (run_mk (by omega) (fun x hx hx2 => h2 x (by omega) (by omega)) hend) (by omega)) h3
    · show Rch l E 3 125 _ _ _ _ (5, [some (vR 74), none, none], [vI (-1)], MW b J L)
      have k101 : ¬ ((J 74 33) + 0 < J 74 34) := k101
      refine rch_run cdK125 (by decide) 1 (t' := (7, [some (vR 74), none, none], [vI 32, vI (-1)], MW b J L)) (ps := []) rfl trivial ?_
      refine rch_br cdK125 (cd := ((-1) : Int) = (32 : Int)) (t1 := (20, [some (vR 74), none, none], [], MW b J L)) (t2 := (10, [some (vR 74), none, none], [], MW b J L)) rfl (fun c9 => absurd c9 (by decide)) (fun _ => ?_)
      refine rch_run cdK125 (by decide) 2 (t' := (12, [some (vR 74), none, none], [vI 0, vR 74], MW b J L)) (ps := []) rfl trivial ?_
      refine rch_call (h' := 1) (k' := 122) (as := [vR 74, vI 0]) (t1 := (15, [some (vR 74), none, none], [], MW b J L)) cdK125 rfl (k_here l E b J L 0 (by show (0 ≤ 0 ∧ 0 ≤ 1000) ∧ (0 ≤ J 74 33 ∧ J 74 33 ≤ 1000) ∧ J 74 34 ≤ 500; omega)) (by decide) mw_le ?_
      rintro rt9 w9 (⟨k103, rfl, rfl⟩ | ⟨k103, rfl, rfl⟩) _ _
      · show Rch l E 3 125 _ _ _ _ (15, [some (vR 74), none, none], [vI (J 97 ((J 74 33) + 0).toNat)], MW b J L)
        have k103 : (J 74 33) + 0 < J 74 34 := k103
        refine rch_run cdK125 (by decide) 1 (t' := (17, [some (vR 74), none, none], [vI 10, vI (J 97 ((J 74 33) + 0).toNat)], MW b J L)) (ps := []) rfl trivial ?_
        refine rch_br cdK125 (cd := J 97 ((J 74 33) + 0).toNat ≠ (10 : Int)) (t1 := (33, [some (vR 74), none, none], [], MW b J L)) (t2 := (20, [some (vR 74), none, none], [], MW b J L)) rfl (fun c17_5 => ?_) (fun c17_5 => ?_)
        · have hend : Pb (I 97) (I 74 34).toNat (J 74 33).toNat = false := by cases hq : Pb (I 97) (I 74 34).toNat (J 74 33).toNat; (rfl); (have := hpb.mp hq; exfalso; omega)
          exact hk J (by omega) (by omega) (run_eq (run_mk (by omega) (fun x hx hx2 => h2 x (by omega) (by omega)) hend) (by omega)) h3
        · refine rch_run cdK125 (by decide) 7 (t' := (0, [some (vR 74), none, none], [], MW b (upI J 74 33 ((J 74 33) + 1)) L)) (ps := [i32 ((J 74 33) + 1)]) rfl (by simp only [all_, i32, i64]; first | omega | (simp; done) | (simp; omega)) ?_
          first | (exfalso; omega) | (exact ih 0 _ (by rw [upI_eq rfl rfl]; omega) (fun x hx hx2 => by rw [upI_eq rfl rfl] at hx2; by_cases e : x = (J 74 33).toNat; (rw [e]; exact hpb.mpr (by omega)); exact h2 x hx (by omega)) (fun a j ha => by rw [upI_ne (by omega)]; exact h3 a j ha) (by rw [upI_eq rfl rfl]; omega))
      · show Rch l E 3 125 _ _ _ _ (15, [some (vR 74), none, none], [vI (-1)], MW b J L)
        have k103 : ¬ ((J 74 33) + 0 < J 74 34) := k103
        refine rch_run cdK125 (by decide) 1 (t' := (17, [some (vR 74), none, none], [vI 10, vI (-1)], MW b J L)) (ps := []) rfl trivial ?_
        refine rch_br cdK125 (cd := ((-1) : Int) ≠ (10 : Int)) (t1 := (33, [some (vR 74), none, none], [], MW b J L)) (t2 := (20, [some (vR 74), none, none], [], MW b J L)) rfl (fun _ => ?_) (fun c9 => absurd (by decide) c9)
        have hend : Pb (I 97) (I 74 34).toNat (J 74 33).toNat = false := by cases hq : Pb (I 97) (I 74 34).toNat (J 74 33).toNat; (rfl); (have := hpb.mp hq; exfalso; omega)
        exact hk J (by omega) (by omega) (run_eq (run_mk (by omega) (fun x hx hx2 => h2 x (by omega) (by omega)) hend) (by omega)) h3

set_option maxHeartbeats 20000000 in
set_option maxRecDepth 100000 in
theorem nx_tail (l : Launch) (E : AX) (b : Bool) (I L : Nat → Nat → Int) (hN : NpK I) (J : Nat → Nat → Int) (hJ : I 74 33 ≤ J 74 33 ∧ J 74 33 ≤ I 74 34) (htP : tP (I 97) (I 74 34).toNat (I 74 33).toNat = (J 74 33).toNat) (h3 : (∀ a j, ¬ (a = 74 ∧ j = 33) → J a j = I a j)) : Rch l E 3 125 (MW b I L) 0 0 (fun rt w => ∃ J M, rt = none ∧ w = MW b J M ∧ FrN I J ∧ FlN L M ∧ Ntk J M (I 97) (I 74 34).toNat (I 74 33).toNat) (33, [some (vR 74), none, none], [], MW b J L) := by
  have hN1 := hN.1
  have q34 := h3 74 34 (by omega)
  have e97 := h3 97 (J 74 33).toNat (by omega)
  have hE97 : J 97 = I 97 := funext (fun z => h3 97 z (by omega))
  have e0 : J 97 ((J 74 33) + 0).toNat = J 97 (J 74 33).toNat := by rw [Int.add_zero]
  have hb9 : J 74 33 < I 74 34 → 0 ≤ I 97 (J 74 33).toNat ∧ I 97 (J 74 33).toNat ≤ 255 := fun z => hN.2 _ (by omega)
  have hpl : Pl (I 97) (I 74 34).toNat (J 74 33).toNat = true ↔ J 74 33 < I 74 34 ∧ 97 ≤ I 97 (J 74 33).toNat ∧ I 97 (J 74 33).toNat ≤ 122 := by unfold Pl; rw [decide_eq_true_eq]; omega
  have hpd : Pd (I 97) (I 74 34).toNat (J 74 33).toNat = true ↔ J 74 33 < I 74 34 ∧ 48 ≤ I 97 (J 74 33).toNat ∧ I 97 (J 74 33).toNat ≤ 57 := by unfold Pd; rw [decide_eq_true_eq]; omega
  refine rch_run cdK125 (by decide) 6 (t' := (43, [some (vR 74), none, none], [vI 0, vR 74], MW b (upI J 74 36 (J 74 33)) L)) (ps := []) rfl trivial ?_
  refine rch_call (h' := 1) (k' := 122) (as := [vR 74, vI 0]) (t1 := (46, [some (vR 74), none, none], [], MW b (upI J 74 36 (J 74 33)) L)) cdK125 rfl (k_here l E b (upI J 74 36 (J 74 33)) L 0 (by show (0 ≤ 0 ∧ 0 ≤ 1000) ∧ (0 ≤ J 74 33 ∧ J 74 33 ≤ 1000) ∧ J 74 34 ≤ 500; omega)) (by decide) mw_le ?_
  rintro rt9 w9 (⟨k104, rfl, rfl⟩ | ⟨k104, rfl, rfl⟩) _ _
  · show Rch l E 3 125 _ _ _ _ (46, [some (vR 74), none, none], [vI (J 97 ((J 74 33) + 0).toNat)], MW b (upI J 74 36 (J 74 33)) L)
    have k104 : (J 74 33) + 0 < J 74 34 := k104
    refine rch_run cdK125 (by decide) 10 (t' := (60, [some (vR 74), some (vI (J 97 ((J 74 33) + 0).toNat)), some (vI 0)], [vI (J 97 ((J 74 33) + 0).toNat)], MW b (upI (upI J 74 36 (J 74 33)) 74 37 0) (upI L 74 38 0))) (ps := []) rfl trivial ?_
    refine rch_br cdK125 (cd := 0 ≤ J 97 ((J 74 33) + 0).toNat) (t1 := (71, [some (vR 74), some (vI (J 97 ((J 74 33) + 0).toNat)), some (vI 0)], [], MW b (upI (upI J 74 36 (J 74 33)) 74 37 0) (upI L 74 38 0))) (t2 := (63, [some (vR 74), some (vI (J 97 ((J 74 33) + 0).toNat)), some (vI 0)], [], MW b (upI (upI J 74 36 (J 74 33)) 74 37 0) (upI L 74 38 0))) rfl (fun c60_1 => ?_) (fun c60_1 => ?_)
    · refine rch_run cdK125 (by decide) 1 (t' := (72, [some (vR 74), some (vI (J 97 ((J 74 33) + 0).toNat)), some (vI 0)], [vI (J 97 ((J 74 33) + 0).toNat)], MW b (upI (upI J 74 36 (J 74 33)) 74 37 0) (upI L 74 38 0))) (ps := []) rfl trivial ?_
      refine rch_call (h' := 1) (k' := 123) (as := [vI (J 97 ((J 74 33) + 0).toNat)]) (t1 := (75, [some (vR 74), some (vI (J 97 ((J 74 33) + 0).toNat)), some (vI 0)], [], MW b (upI (upI J 74 36 (J 74 33)) 74 37 0) (upI L 74 38 0))) cdK125 rfl (k_isLetter l E b (upI (upI J 74 36 (J 74 33)) 74 37 0) (upI L 74 38 0) (J 97 ((J 74 33) + 0).toNat) ) (by decide) mw_le ?_
      rintro rt9 w9 (⟨k105, rfl, rfl⟩ | ⟨k105, rfl, rfl⟩) _ _
      · show Rch l E 3 125 _ _ _ _ (75, [some (vR 74), some (vI (J 97 ((J 74 33) + 0).toNat)), some (vI 0)], [vI 1], MW b (upI (upI J 74 36 (J 74 33)) 74 37 0) (upI L 74 38 0))
        have k105 : 97 ≤ J 97 ((J 74 33) + 0).toNat ∧ J 97 ((J 74 33) + 0).toNat ≤ 122 := k105
        refine rch_br cdK125 (cd := (1 : Int) = 0) (t1 := (137, [some (vR 74), some (vI (J 97 ((J 74 33) + 0).toNat)), some (vI 0)], [], MW b (upI (upI J 74 36 (J 74 33)) 74 37 0) (upI L 74 38 0))) (t2 := (78, [some (vR 74), some (vI (J 97 ((J 74 33) + 0).toNat)), some (vI 0)], [], MW b (upI (upI J 74 36 (J 74 33)) 74 37 0) (upI L 74 38 0))) rfl (fun c9 => absurd c9 (by decide)) (fun _ => ?_)
        first | (exfalso; omega) | skip
        have hl : Pl (I 97) (I 74 34).toNat (J 74 33).toNat = true := hpl.mpr (by omega)
        have hX97 : (upI (upI J 74 36 (J 74 33)) 74 37 0) 97 = I 97 := funext (fun z => by rw [upI_ne (by omega), upI_ne (by omega)]; exact h3 97 z (by omega))
        have hX33 : (upI (upI J 74 36 (J 74 33)) 74 37 0) 74 33 = J 74 33 := by rw [upI_ne (by omega), upI_ne (by omega)]
        have hX34 : (upI (upI J 74 36 (J 74 33)) 74 37 0) 74 34 = I 74 34 := by rw [upI_ne (by omega), upI_ne (by omega)]; exact q34
        refine nx_let3 l E b I L (upI (upI J 74 36 (J 74 33)) 74 37 0) (upI L 74 38 0) (J 97 ((J 74 33) + 0).toNat) _ ⟨by rw [upI_ne (by omega), upI_ne (by omega), upI_ne (by omega), upI_ne (by omega)]; omega, fun j hj => by rw [upI_ne (by omega), upI_ne (by omega)] at hj; rw [upI_ne (by omega), upI_ne (by omega), hE97]; exact hN.2 j (by omega)⟩ (fun n M2 n0 g1 g3 g4 => ?_) 502 0 (upI L 74 38 0) (by rw [hX33, hX34]; omega) (fun x hx => by omega) (fun _ _ _ => rfl) (fun _ => upI_eq rfl rfl) (fun _ => trivial) (by rw [hX33, hX34]; omega)
        rw [hX97, hX33, hX34] at g1
        refine rch_run cdK125 (by decide) 3 (t' := (123, [some (vR 74), some (vI (J 97 ((J 74 33) + 0).toNat)), some (vI n)], [vI 8, vI n, vR 74], MW b (upI (upI J 74 36 (J 74 33)) 74 37 0) M2)) (ps := []) rfl trivial ?_
        refine rch_br cdK125 (cd := n ≤ (8 : Int)) (t1 := (130, [some (vR 74), some (vI (J 97 ((J 74 33) + 0).toNat)), some (vI n)], [vR 74], MW b (upI (upI J 74 36 (J 74 33)) 74 37 0) M2)) (t2 := (126, [some (vR 74), some (vI (J 97 ((J 74 33) + 0).toNat)), some (vI n)], [vR 74], MW b (upI (upI J 74 36 (J 74 33)) 74 37 0) M2)) rfl (fun c123_1 => ?_) (fun c123_1 => ?_)
        · refine rch_run cdK125 (by decide) 6 (t' := (250, [some (vR 74), some (vI (J 97 ((J 74 33) + 0).toNat)), some (vI n)], [vI 3, vI 1], MW b (upI (upI (upI J 74 36 (J 74 33)) 74 37 0) 74 35 1) M2)) (ps := []) rfl trivial ?_
          refine rch_br cdK125 (cd := (1 : Int) = (3 : Int)) (t1 := (263, [some (vR 74), some (vI (J 97 ((J 74 33) + 0).toNat)), some (vI n)], [], MW b (upI (upI (upI J 74 36 (J 74 33)) 74 37 0) 74 35 1) M2)) (t2 := (253, [some (vR 74), some (vI (J 97 ((J 74 33) + 0).toNat)), some (vI n)], [], MW b (upI (upI (upI J 74 36 (J 74 33)) 74 37 0) 74 35 1) M2)) rfl (fun c9 => absurd c9 (by decide)) (fun _ => ?_)
          refine rch_run cdK125 (by decide) 6 (t' := (263, [some (vR 74), some (vI (J 97 ((J 74 33) + 0).toNat)), some (vI n)], [], MW b (upI (upI (upI (upI J 74 36 (J 74 33)) 74 37 0) 74 35 1) 74 33 ((J 74 33) + n)) M2)) (ps := [i32 ((J 74 33) + n)]) rfl (by simp only [all_, i32, i64]; first | omega | (simp; done) | (simp; omega)) ?_
          refine rch_ret cdK125 (rt := none) rfl trivial mw_c ?_
          have hEE : tE (I 97) (I 74 34).toNat (J 74 33).toNat = (runP (Pl (I 97) (I 74 34).toNat) 501 (J 74 33).toNat) := by unfold tE; rw [if_neg (by omega), if_pos hl]
          have hK : tK (I 97) (I 74 34).toNat (I 74 33).toNat = 2 := by unfold tK tKp; rw [htP, if_neg (by omega), if_pos hl, hEE]; first | (rw [if_pos (by omega)]; done) | rw [if_neg (by omega)]
          have hE : tN (I 97) (I 74 34).toNat (I 74 33).toNat = (runP (Pl (I 97) (I 74 34).toNat) 501 (J 74 33).toNat) := by unfold tN tE; rw [htP, if_neg (by omega), if_pos hl]
          refine ⟨_, _, rfl, rfl, fun a j ha => by (repeat rw [upI_ne (by omega)]); exact h3 a j (by omega), fun a j ha => by rw [g3 a j ha, upI_ne (by omega)], by (repeat (first | rw [upI_eq rfl rfl] | rw [upI_ne (by omega)])); rw [htP]; omega, by rw [hK]; (repeat (first | rw [upI_eq rfl rfl] | rw [upI_ne (by omega)])); rfl, fun z => ?_, fun z => ?_, fun z => ?_⟩
          · first | exact absurd hK z | ((repeat (first | rw [upI_eq rfl rfl] | rw [upI_ne (by omega)])); rw [hE]; omega)
          · rw [hK] at z; exact absurd z (by decide)
          · first | (rw [hK] at z; exact absurd z (by decide)) | (rw [g4 (by omega), hE, htP, hX97, hX33, show n.toNat = (runP (Pl (I 97) (I 74 34).toNat) 501 (J 74 33).toNat) - (J 74 33).toNat by omega])
        · refine rch_run cdK125 (by decide) 7 (t' := (250, [some (vR 74), some (vI (J 97 ((J 74 33) + 0).toNat)), some (vI n)], [vI 3, vI 3], MW b (upI (upI (upI J 74 36 (J 74 33)) 74 37 0) 74 35 3) M2)) (ps := []) rfl trivial ?_
          refine rch_br cdK125 (cd := (3 : Int) = (3 : Int)) (t1 := (263, [some (vR 74), some (vI (J 97 ((J 74 33) + 0).toNat)), some (vI n)], [], MW b (upI (upI (upI J 74 36 (J 74 33)) 74 37 0) 74 35 3) M2)) (t2 := (253, [some (vR 74), some (vI (J 97 ((J 74 33) + 0).toNat)), some (vI n)], [], MW b (upI (upI (upI J 74 36 (J 74 33)) 74 37 0) 74 35 3) M2)) rfl (fun _ => ?_) (fun c9 => absurd (by decide) c9)
          refine rch_ret cdK125 (rt := none) rfl trivial mw_c ?_
          have hEE : tE (I 97) (I 74 34).toNat (J 74 33).toNat = (runP (Pl (I 97) (I 74 34).toNat) 501 (J 74 33).toNat) := by unfold tE; rw [if_neg (by omega), if_pos hl]
          have hK : tK (I 97) (I 74 34).toNat (I 74 33).toNat = 1 := by unfold tK tKp; rw [htP, if_neg (by omega), if_pos hl, hEE]; first | (rw [if_pos (by omega)]; done) | rw [if_neg (by omega)]
          have hE : tN (I 97) (I 74 34).toNat (I 74 33).toNat = (runP (Pl (I 97) (I 74 34).toNat) 501 (J 74 33).toNat) := by unfold tN tE; rw [htP, if_neg (by omega), if_pos hl]
          refine ⟨_, _, rfl, rfl, fun a j ha => by (repeat rw [upI_ne (by omega)]); exact h3 a j (by omega), fun a j ha => by rw [g3 a j ha, upI_ne (by omega)], by (repeat (first | rw [upI_eq rfl rfl] | rw [upI_ne (by omega)])); rw [htP]; omega, by rw [hK]; (repeat (first | rw [upI_eq rfl rfl] | rw [upI_ne (by omega)])); rfl, fun z => ?_, fun z => ?_, fun z => ?_⟩
          · first | exact absurd hK z | ((repeat (first | rw [upI_eq rfl rfl] | rw [upI_ne (by omega)])); rw [hE]; omega)
          · rw [hK] at z; exact absurd z (by decide)
          · first | (rw [hK] at z; exact absurd z (by decide)) | (rw [g4 (by omega), hE, htP, hX97, hX33, show n.toNat = (runP (Pl (I 97) (I 74 34).toNat) 501 (J 74 33).toNat) - (J 74 33).toNat by omega])
      · show Rch l E 3 125 _ _ _ _ (75, [some (vR 74), some (vI (J 97 ((J 74 33) + 0).toNat)), some (vI 0)], [vI 0], MW b (upI (upI J 74 36 (J 74 33)) 74 37 0) (upI L 74 38 0))
        have k105 : ¬ (97 ≤ J 97 ((J 74 33) + 0).toNat ∧ J 97 ((J 74 33) + 0).toNat ≤ 122) := k105
        refine rch_br cdK125 (cd := (0 : Int) = 0) (t1 := (137, [some (vR 74), some (vI (J 97 ((J 74 33) + 0).toNat)), some (vI 0)], [], MW b (upI (upI J 74 36 (J 74 33)) 74 37 0) (upI L 74 38 0))) (t2 := (78, [some (vR 74), some (vI (J 97 ((J 74 33) + 0).toNat)), some (vI 0)], [], MW b (upI (upI J 74 36 (J 74 33)) 74 37 0) (upI L 74 38 0))) rfl (fun _ => ?_) (fun c9 => absurd (by decide) c9)
        refine rch_run cdK125 (by decide) 1 (t' := (138, [some (vR 74), some (vI (J 97 ((J 74 33) + 0).toNat)), some (vI 0)], [vI (J 97 ((J 74 33) + 0).toNat)], MW b (upI (upI J 74 36 (J 74 33)) 74 37 0) (upI L 74 38 0))) (ps := []) rfl trivial ?_
        refine rch_call (h' := 1) (k' := 124) (as := [vI (J 97 ((J 74 33) + 0).toNat)]) (t1 := (141, [some (vR 74), some (vI (J 97 ((J 74 33) + 0).toNat)), some (vI 0)], [], MW b (upI (upI J 74 36 (J 74 33)) 74 37 0) (upI L 74 38 0))) cdK125 rfl (k_isDigit l E b (upI (upI J 74 36 (J 74 33)) 74 37 0) (upI L 74 38 0) (J 97 ((J 74 33) + 0).toNat) ) (by decide) mw_le ?_
        rintro rt9 w9 (⟨k106, rfl, rfl⟩ | ⟨k106, rfl, rfl⟩) _ _
        · show Rch l E 3 125 _ _ _ _ (141, [some (vR 74), some (vI (J 97 ((J 74 33) + 0).toNat)), some (vI 0)], [vI 1], MW b (upI (upI J 74 36 (J 74 33)) 74 37 0) (upI L 74 38 0))
          have k106 : 48 ≤ J 97 ((J 74 33) + 0).toNat ∧ J 97 ((J 74 33) + 0).toNat ≤ 57 := k106
          refine rch_br cdK125 (cd := (1 : Int) = 0) (t1 := (216, [some (vR 74), some (vI (J 97 ((J 74 33) + 0).toNat)), some (vI 0)], [], MW b (upI (upI J 74 36 (J 74 33)) 74 37 0) (upI L 74 38 0))) (t2 := (144, [some (vR 74), some (vI (J 97 ((J 74 33) + 0).toNat)), some (vI 0)], [], MW b (upI (upI J 74 36 (J 74 33)) 74 37 0) (upI L 74 38 0))) rfl (fun c9 => absurd c9 (by decide)) (fun _ => ?_)
          first | (exfalso; omega) | skip
          have hl : ¬ Pl (I 97) (I 74 34).toNat (J 74 33).toNat = true := fun z => by have := hpl.mp z; omega
          have hdd : Pd (I 97) (I 74 34).toNat (J 74 33).toNat = true := hpd.mpr (by omega)
          have hX97 : (upI (upI J 74 36 (J 74 33)) 74 37 0) 97 = I 97 := funext (fun z => by rw [upI_ne (by omega), upI_ne (by omega)]; exact h3 97 z (by omega))
          have hX33 : (upI (upI J 74 36 (J 74 33)) 74 37 0) 74 33 = J 74 33 := by rw [upI_ne (by omega), upI_ne (by omega)]
          have hX34 : (upI (upI J 74 36 (J 74 33)) 74 37 0) 74 34 = I 74 34 := by rw [upI_ne (by omega), upI_ne (by omega)]; exact q34
          refine nx_dig3 l E b I L (upI (upI J 74 36 (J 74 33)) 74 37 0) (upI L 74 38 0) (J 97 ((J 74 33) + 0).toNat) _ ⟨by rw [upI_ne (by omega), upI_ne (by omega), upI_ne (by omega), upI_ne (by omega)]; omega, fun j hj => by rw [upI_ne (by omega), upI_ne (by omega)] at hj; rw [upI_ne (by omega), upI_ne (by omega), hE97]; exact hN.2 j (by omega)⟩ (fun n J2 n0 g1 g3 g4 => ?_) 502 0 (upI (upI J 74 36 (J 74 33)) 74 37 0) (by rw [hX33, hX34]; omega) (fun x hx => by omega) (fun _ _ _ => rfl) (fun _ => upI_eq rfl rfl) (by rw [hX33, hX34]; omega)
          rw [hX97, hX33, hX34] at g1
          have p33 : J2 74 33 = J 74 33 := by rw [g3 74 33 (by omega), hX33]
          have p34 : J2 74 34 = I 74 34 := by rw [g3 74 34 (by omega), hX34]
          have p97 : J2 97 ((J2 74 33) + n).toNat = I 97 ((J 74 33) + n).toNat := by rw [p33, g3 97 _ (by omega), hX97]
          refine rch_run cdK125 (by decide) 3 (t' := (191, [some (vR 74), some (vI (J 97 ((J 74 33) + 0).toNat)), some (vI n)], [vI 6, vI n, vR 74], MW b J2 (upI L 74 38 0))) (ps := []) rfl trivial ?_
          refine rch_br cdK125 (cd := (6 : Int) < n) (t1 := (205, [some (vR 74), some (vI (J 97 ((J 74 33) + 0).toNat)), some (vI n)], [vR 74], MW b J2 (upI L 74 38 0))) (t2 := (194, [some (vR 74), some (vI (J 97 ((J 74 33) + 0).toNat)), some (vI n)], [vR 74], MW b J2 (upI L 74 38 0))) rfl (fun c191_1 => ?_) (fun c191_1 => ?_)
          · refine rch_run cdK125 (by decide) 7 (t' := (250, [some (vR 74), some (vI (J 97 ((J 74 33) + 0).toNat)), some (vI n)], [vI 3, vI 3], MW b (upI J2 74 35 3) (upI L 74 38 0))) (ps := []) rfl trivial ?_
            refine rch_br cdK125 (cd := (3 : Int) = (3 : Int)) (t1 := (263, [some (vR 74), some (vI (J 97 ((J 74 33) + 0).toNat)), some (vI n)], [], MW b (upI J2 74 35 3) (upI L 74 38 0))) (t2 := (253, [some (vR 74), some (vI (J 97 ((J 74 33) + 0).toNat)), some (vI n)], [], MW b (upI J2 74 35 3) (upI L 74 38 0))) rfl (fun _ => ?_) (fun c9 => absurd (by decide) c9)
            refine rch_ret cdK125 (rt := none) rfl trivial mw_c ?_
            have hlN : Pl (I 97) (I 74 34).toNat (runP (Pd (I 97) (I 74 34).toNat) 501 (J 74 33).toNat) = true ↔ J 74 33 + n < I 74 34 ∧ 97 ≤ I 97 ((J 74 33) + n).toNat ∧ I 97 ((J 74 33) + n).toNat ≤ 122 := by unfold Pl; rw [decide_eq_true_eq, show (runP (Pd (I 97) (I 74 34).toNat) 501 (J 74 33).toNat) = ((J 74 33) + n).toNat by omega]; omega
            have hEE : tE (I 97) (I 74 34).toNat (J 74 33).toNat = (runP (Pd (I 97) (I 74 34).toNat) 501 (J 74 33).toNat) := by unfold tE; rw [if_neg (by omega), if_neg hl, if_pos hdd]
            have hK : tK (I 97) (I 74 34).toNat (I 74 33).toNat = 1 := by unfold tK tKp; rw [htP, if_neg (by omega), if_neg hl, if_pos hdd, hEE]; first | (rw [if_pos (by rw [hlN]; omega)]; done) | rw [if_neg (by rw [hlN]; omega)]
            have hE : tN (I 97) (I 74 34).toNat (I 74 33).toNat = (runP (Pd (I 97) (I 74 34).toNat) 501 (J 74 33).toNat) := by unfold tN tE; rw [htP, if_neg (by omega), if_neg hl, if_pos hdd]
            refine ⟨_, _, rfl, rfl, fun a j ha => by (repeat rw [upI_ne (by omega)]); rw [g3 a j (by omega)]; (repeat rw [upI_ne (by omega)]); exact h3 a j (by omega), fun a j ha => by rw [upI_ne (by omega)], by (repeat rw [upI_ne (by omega)]); rw [g3 74 36 (by omega)]; (repeat (first | rw [upI_eq rfl rfl] | rw [upI_ne (by omega)])); rw [htP]; omega, by rw [hK]; (repeat (first | rw [upI_eq rfl rfl] | rw [upI_ne (by omega)])); rfl, fun z => ?_, fun z => ?_, fun z => ?_⟩
            · first | exact absurd hK z | ((repeat (first | rw [upI_eq rfl rfl] | rw [upI_ne (by omega)])); rw [hE]; rw [g3 74 33 (by omega), hX33]; omega)
            · first | (rw [hK] at z; exact absurd z (by decide)) | ((repeat rw [upI_ne (by omega)]); rw [g4 (by omega)]; unfold tV; rw [hE, htP, hX97, hX33, show n.toNat = (runP (Pd (I 97) (I 74 34).toNat) 501 (J 74 33).toNat) - (J 74 33).toNat by omega])
            · rw [hK] at z; exact absurd z (by decide)
          · refine rch_run cdK125 (by decide) 2 (t' := (196, [some (vR 74), some (vI (J 97 ((J 74 33) + 0).toNat)), some (vI n)], [vI n, vR 74, vR 74], MW b J2 (upI L 74 38 0))) (ps := []) rfl trivial ?_
            refine rch_call (h' := 1) (k' := 122) (as := [vR 74, vI n]) (t1 := (199, [some (vR 74), some (vI (J 97 ((J 74 33) + 0).toNat)), some (vI n)], [vR 74], MW b J2 (upI L 74 38 0))) cdK125 rfl (k_here l E b J2 (upI L 74 38 0) n (by show (0 ≤ n ∧ n ≤ 1000) ∧ (0 ≤ J2 74 33 ∧ J2 74 33 ≤ 1000) ∧ J2 74 34 ≤ 500; omega)) (by decide) mw_le ?_
            rintro rt9 w9 (⟨k107, rfl, rfl⟩ | ⟨k107, rfl, rfl⟩) _ _
            · show Rch l E 3 125 _ _ _ _ (199, [some (vR 74), some (vI (J 97 ((J 74 33) + 0).toNat)), some (vI n)], [vI (J2 97 ((J2 74 33) + n).toNat), vR 74], MW b J2 (upI L 74 38 0))
              have k107 : (J2 74 33) + n < J2 74 34 := k107
              refine rch_call (h' := 1) (k' := 123) (as := [vI (J2 97 ((J2 74 33) + n).toNat)]) (t1 := (202, [some (vR 74), some (vI (J 97 ((J 74 33) + 0).toNat)), some (vI n)], [vR 74], MW b J2 (upI L 74 38 0))) cdK125 rfl (k_isLetter l E b J2 (upI L 74 38 0) (J2 97 ((J2 74 33) + n).toNat) ) (by decide) mw_le ?_
              rintro rt9 w9 (⟨k108, rfl, rfl⟩ | ⟨k108, rfl, rfl⟩) _ _
              · show Rch l E 3 125 _ _ _ _ (202, [some (vR 74), some (vI (J 97 ((J 74 33) + 0).toNat)), some (vI n)], [vI 1, vR 74], MW b J2 (upI L 74 38 0))
                have k108 : 97 ≤ J2 97 ((J2 74 33) + n).toNat ∧ J2 97 ((J2 74 33) + n).toNat ≤ 122 := k108
                refine rch_br cdK125 (cd := (1 : Int) = 0) (t1 := (209, [some (vR 74), some (vI (J 97 ((J 74 33) + 0).toNat)), some (vI n)], [vR 74], MW b J2 (upI L 74 38 0))) (t2 := (205, [some (vR 74), some (vI (J 97 ((J 74 33) + 0).toNat)), some (vI n)], [vR 74], MW b J2 (upI L 74 38 0))) rfl (fun c9 => absurd c9 (by decide)) (fun _ => ?_)
                refine rch_run cdK125 (by decide) 7 (t' := (250, [some (vR 74), some (vI (J 97 ((J 74 33) + 0).toNat)), some (vI n)], [vI 3, vI 3], MW b (upI J2 74 35 3) (upI L 74 38 0))) (ps := []) rfl trivial ?_
                refine rch_br cdK125 (cd := (3 : Int) = (3 : Int)) (t1 := (263, [some (vR 74), some (vI (J 97 ((J 74 33) + 0).toNat)), some (vI n)], [], MW b (upI J2 74 35 3) (upI L 74 38 0))) (t2 := (253, [some (vR 74), some (vI (J 97 ((J 74 33) + 0).toNat)), some (vI n)], [], MW b (upI J2 74 35 3) (upI L 74 38 0))) rfl (fun _ => ?_) (fun c9 => absurd (by decide) c9)
                refine rch_ret cdK125 (rt := none) rfl trivial mw_c ?_
                have hlN : Pl (I 97) (I 74 34).toNat (runP (Pd (I 97) (I 74 34).toNat) 501 (J 74 33).toNat) = true ↔ J 74 33 + n < I 74 34 ∧ 97 ≤ I 97 ((J 74 33) + n).toNat ∧ I 97 ((J 74 33) + n).toNat ≤ 122 := by unfold Pl; rw [decide_eq_true_eq, show (runP (Pd (I 97) (I 74 34).toNat) 501 (J 74 33).toNat) = ((J 74 33) + n).toNat by omega]; omega
                have hEE : tE (I 97) (I 74 34).toNat (J 74 33).toNat = (runP (Pd (I 97) (I 74 34).toNat) 501 (J 74 33).toNat) := by unfold tE; rw [if_neg (by omega), if_neg hl, if_pos hdd]
                have hK : tK (I 97) (I 74 34).toNat (I 74 33).toNat = 1 := by unfold tK tKp; rw [htP, if_neg (by omega), if_neg hl, if_pos hdd, hEE]; first | (rw [if_pos (by rw [hlN]; omega)]; done) | rw [if_neg (by rw [hlN]; omega)]
                have hE : tN (I 97) (I 74 34).toNat (I 74 33).toNat = (runP (Pd (I 97) (I 74 34).toNat) 501 (J 74 33).toNat) := by unfold tN tE; rw [htP, if_neg (by omega), if_neg hl, if_pos hdd]
                refine ⟨_, _, rfl, rfl, fun a j ha => by (repeat rw [upI_ne (by omega)]); rw [g3 a j (by omega)]; (repeat rw [upI_ne (by omega)]); exact h3 a j (by omega), fun a j ha => by rw [upI_ne (by omega)], by (repeat rw [upI_ne (by omega)]); rw [g3 74 36 (by omega)]; (repeat (first | rw [upI_eq rfl rfl] | rw [upI_ne (by omega)])); rw [htP]; omega, by rw [hK]; (repeat (first | rw [upI_eq rfl rfl] | rw [upI_ne (by omega)])); rfl, fun z => ?_, fun z => ?_, fun z => ?_⟩
                · first | exact absurd hK z | ((repeat (first | rw [upI_eq rfl rfl] | rw [upI_ne (by omega)])); rw [hE]; rw [g3 74 33 (by omega), hX33]; omega)
                · first | (rw [hK] at z; exact absurd z (by decide)) | ((repeat rw [upI_ne (by omega)]); rw [g4 (by omega)]; unfold tV; rw [hE, htP, hX97, hX33, show n.toNat = (runP (Pd (I 97) (I 74 34).toNat) 501 (J 74 33).toNat) - (J 74 33).toNat by omega])
                · rw [hK] at z; exact absurd z (by decide)
              · show Rch l E 3 125 _ _ _ _ (202, [some (vR 74), some (vI (J 97 ((J 74 33) + 0).toNat)), some (vI n)], [vI 0, vR 74], MW b J2 (upI L 74 38 0))
                have k108 : ¬ (97 ≤ J2 97 ((J2 74 33) + n).toNat ∧ J2 97 ((J2 74 33) + n).toNat ≤ 122) := k108
                refine rch_br cdK125 (cd := (0 : Int) = 0) (t1 := (209, [some (vR 74), some (vI (J 97 ((J 74 33) + 0).toNat)), some (vI n)], [vR 74], MW b J2 (upI L 74 38 0))) (t2 := (205, [some (vR 74), some (vI (J 97 ((J 74 33) + 0).toNat)), some (vI n)], [vR 74], MW b J2 (upI L 74 38 0))) rfl (fun _ => ?_) (fun c9 => absurd (by decide) c9)
                refine rch_run cdK125 (by decide) 6 (t' := (250, [some (vR 74), some (vI (J 97 ((J 74 33) + 0).toNat)), some (vI n)], [vI 3, vI 2], MW b (upI J2 74 35 2) (upI L 74 38 0))) (ps := []) rfl trivial ?_
                refine rch_br cdK125 (cd := (2 : Int) = (3 : Int)) (t1 := (263, [some (vR 74), some (vI (J 97 ((J 74 33) + 0).toNat)), some (vI n)], [], MW b (upI J2 74 35 2) (upI L 74 38 0))) (t2 := (253, [some (vR 74), some (vI (J 97 ((J 74 33) + 0).toNat)), some (vI n)], [], MW b (upI J2 74 35 2) (upI L 74 38 0))) rfl (fun c9 => absurd c9 (by decide)) (fun _ => ?_)
                refine rch_run cdK125 (by decide) 6 (t' := (263, [some (vR 74), some (vI (J 97 ((J 74 33) + 0).toNat)), some (vI n)], [], MW b (upI (upI J2 74 35 2) 74 33 ((J2 74 33) + n)) (upI L 74 38 0))) (ps := [i32 ((J2 74 33) + n)]) rfl (by simp only [all_, i32, i64]; first | omega | (simp; done) | (simp; omega)) ?_
                refine rch_ret cdK125 (rt := none) rfl trivial mw_c ?_
                have hlN : Pl (I 97) (I 74 34).toNat (runP (Pd (I 97) (I 74 34).toNat) 501 (J 74 33).toNat) = true ↔ J 74 33 + n < I 74 34 ∧ 97 ≤ I 97 ((J 74 33) + n).toNat ∧ I 97 ((J 74 33) + n).toNat ≤ 122 := by unfold Pl; rw [decide_eq_true_eq, show (runP (Pd (I 97) (I 74 34).toNat) 501 (J 74 33).toNat) = ((J 74 33) + n).toNat by omega]; omega
                have hEE : tE (I 97) (I 74 34).toNat (J 74 33).toNat = (runP (Pd (I 97) (I 74 34).toNat) 501 (J 74 33).toNat) := by unfold tE; rw [if_neg (by omega), if_neg hl, if_pos hdd]
                have hK : tK (I 97) (I 74 34).toNat (I 74 33).toNat = 3 := by unfold tK tKp; rw [htP, if_neg (by omega), if_neg hl, if_pos hdd, hEE]; first | (rw [if_pos (by rw [hlN]; omega)]; done) | rw [if_neg (by rw [hlN]; omega)]
                have hE : tN (I 97) (I 74 34).toNat (I 74 33).toNat = (runP (Pd (I 97) (I 74 34).toNat) 501 (J 74 33).toNat) := by unfold tN tE; rw [htP, if_neg (by omega), if_neg hl, if_pos hdd]
                refine ⟨_, _, rfl, rfl, fun a j ha => by (repeat rw [upI_ne (by omega)]); rw [g3 a j (by omega)]; (repeat rw [upI_ne (by omega)]); exact h3 a j (by omega), fun a j ha => by rw [upI_ne (by omega)], by (repeat rw [upI_ne (by omega)]); rw [g3 74 36 (by omega)]; (repeat (first | rw [upI_eq rfl rfl] | rw [upI_ne (by omega)])); rw [htP]; omega, by rw [hK]; (repeat (first | rw [upI_eq rfl rfl] | rw [upI_ne (by omega)])); rfl, fun z => ?_, fun z => ?_, fun z => ?_⟩
                · first | exact absurd hK z | ((repeat (first | rw [upI_eq rfl rfl] | rw [upI_ne (by omega)])); rw [hE]; rw [g3 74 33 (by omega), hX33]; omega)
                · first | (rw [hK] at z; exact absurd z (by decide)) | ((repeat rw [upI_ne (by omega)]); rw [g4 (by omega)]; unfold tV; rw [hE, htP, hX97, hX33, show n.toNat = (runP (Pd (I 97) (I 74 34).toNat) 501 (J 74 33).toNat) - (J 74 33).toNat by omega])
                · rw [hK] at z; exact absurd z (by decide)
            · show Rch l E 3 125 _ _ _ _ (199, [some (vR 74), some (vI (J 97 ((J 74 33) + 0).toNat)), some (vI n)], [vI (-1), vR 74], MW b J2 (upI L 74 38 0))
              have k107 : ¬ ((J2 74 33) + n < J2 74 34) := k107
              refine rch_call (h' := 1) (k' := 123) (as := [vI (-1)]) (t1 := (202, [some (vR 74), some (vI (J 97 ((J 74 33) + 0).toNat)), some (vI n)], [vR 74], MW b J2 (upI L 74 38 0))) cdK125 rfl (k_isLetter l E b J2 (upI L 74 38 0) (-1) ) (by decide) mw_le ?_
              rintro rt9 w9 (⟨k109, rfl, rfl⟩ | ⟨k109, rfl, rfl⟩) _ _
              · show Rch l E 3 125 _ _ _ _ (202, [some (vR 74), some (vI (J 97 ((J 74 33) + 0).toNat)), some (vI n)], [vI 1, vR 74], MW b J2 (upI L 74 38 0))
                have k109 : 97 ≤ (-1) ∧ (-1) ≤ 122 := k109
                refine rch_br cdK125 (cd := (1 : Int) = 0) (t1 := (209, [some (vR 74), some (vI (J 97 ((J 74 33) + 0).toNat)), some (vI n)], [vR 74], MW b J2 (upI L 74 38 0))) (t2 := (205, [some (vR 74), some (vI (J 97 ((J 74 33) + 0).toNat)), some (vI n)], [vR 74], MW b J2 (upI L 74 38 0))) rfl (fun c9 => absurd c9 (by decide)) (fun _ => ?_)
                refine rch_run cdK125 (by decide) 7 (t' := (250, [some (vR 74), some (vI (J 97 ((J 74 33) + 0).toNat)), some (vI n)], [vI 3, vI 3], MW b (upI J2 74 35 3) (upI L 74 38 0))) (ps := []) rfl trivial ?_
                refine rch_br cdK125 (cd := (3 : Int) = (3 : Int)) (t1 := (263, [some (vR 74), some (vI (J 97 ((J 74 33) + 0).toNat)), some (vI n)], [], MW b (upI J2 74 35 3) (upI L 74 38 0))) (t2 := (253, [some (vR 74), some (vI (J 97 ((J 74 33) + 0).toNat)), some (vI n)], [], MW b (upI J2 74 35 3) (upI L 74 38 0))) rfl (fun _ => ?_) (fun c9 => absurd (by decide) c9)
                refine rch_ret cdK125 (rt := none) rfl trivial mw_c ?_
                have hlN : Pl (I 97) (I 74 34).toNat (runP (Pd (I 97) (I 74 34).toNat) 501 (J 74 33).toNat) = true ↔ J 74 33 + n < I 74 34 ∧ 97 ≤ I 97 ((J 74 33) + n).toNat ∧ I 97 ((J 74 33) + n).toNat ≤ 122 := by unfold Pl; rw [decide_eq_true_eq, show (runP (Pd (I 97) (I 74 34).toNat) 501 (J 74 33).toNat) = ((J 74 33) + n).toNat by omega]; omega
                have hEE : tE (I 97) (I 74 34).toNat (J 74 33).toNat = (runP (Pd (I 97) (I 74 34).toNat) 501 (J 74 33).toNat) := by unfold tE; rw [if_neg (by omega), if_neg hl, if_pos hdd]
                have hK : tK (I 97) (I 74 34).toNat (I 74 33).toNat = 1 := by unfold tK tKp; rw [htP, if_neg (by omega), if_neg hl, if_pos hdd, hEE]; first | (rw [if_pos (by rw [hlN]; omega)]; done) | rw [if_neg (by rw [hlN]; omega)]
                have hE : tN (I 97) (I 74 34).toNat (I 74 33).toNat = (runP (Pd (I 97) (I 74 34).toNat) 501 (J 74 33).toNat) := by unfold tN tE; rw [htP, if_neg (by omega), if_neg hl, if_pos hdd]
                refine ⟨_, _, rfl, rfl, fun a j ha => by (repeat rw [upI_ne (by omega)]); rw [g3 a j (by omega)]; (repeat rw [upI_ne (by omega)]); exact h3 a j (by omega), fun a j ha => by rw [upI_ne (by omega)], by (repeat rw [upI_ne (by omega)]); rw [g3 74 36 (by omega)]; (repeat (first | rw [upI_eq rfl rfl] | rw [upI_ne (by omega)])); rw [htP]; omega, by rw [hK]; (repeat (first | rw [upI_eq rfl rfl] | rw [upI_ne (by omega)])); rfl, fun z => ?_, fun z => ?_, fun z => ?_⟩
                · first | exact absurd hK z | ((repeat (first | rw [upI_eq rfl rfl] | rw [upI_ne (by omega)])); rw [hE]; rw [g3 74 33 (by omega), hX33]; omega)
                · first | (rw [hK] at z; exact absurd z (by decide)) | ((repeat rw [upI_ne (by omega)]); rw [g4 (by omega)]; unfold tV; rw [hE, htP, hX97, hX33, show n.toNat = (runP (Pd (I 97) (I 74 34).toNat) 501 (J 74 33).toNat) - (J 74 33).toNat by omega])
                · rw [hK] at z; exact absurd z (by decide)
              · show Rch l E 3 125 _ _ _ _ (202, [some (vR 74), some (vI (J 97 ((J 74 33) + 0).toNat)), some (vI n)], [vI 0, vR 74], MW b J2 (upI L 74 38 0))
                have k109 : ¬ (97 ≤ (-1) ∧ (-1) ≤ 122) := k109
                refine rch_br cdK125 (cd := (0 : Int) = 0) (t1 := (209, [some (vR 74), some (vI (J 97 ((J 74 33) + 0).toNat)), some (vI n)], [vR 74], MW b J2 (upI L 74 38 0))) (t2 := (205, [some (vR 74), some (vI (J 97 ((J 74 33) + 0).toNat)), some (vI n)], [vR 74], MW b J2 (upI L 74 38 0))) rfl (fun _ => ?_) (fun c9 => absurd (by decide) c9)
                refine rch_run cdK125 (by decide) 6 (t' := (250, [some (vR 74), some (vI (J 97 ((J 74 33) + 0).toNat)), some (vI n)], [vI 3, vI 2], MW b (upI J2 74 35 2) (upI L 74 38 0))) (ps := []) rfl trivial ?_
                refine rch_br cdK125 (cd := (2 : Int) = (3 : Int)) (t1 := (263, [some (vR 74), some (vI (J 97 ((J 74 33) + 0).toNat)), some (vI n)], [], MW b (upI J2 74 35 2) (upI L 74 38 0))) (t2 := (253, [some (vR 74), some (vI (J 97 ((J 74 33) + 0).toNat)), some (vI n)], [], MW b (upI J2 74 35 2) (upI L 74 38 0))) rfl (fun c9 => absurd c9 (by decide)) (fun _ => ?_)
                refine rch_run cdK125 (by decide) 6 (t' := (263, [some (vR 74), some (vI (J 97 ((J 74 33) + 0).toNat)), some (vI n)], [], MW b (upI (upI J2 74 35 2) 74 33 ((J2 74 33) + n)) (upI L 74 38 0))) (ps := [i32 ((J2 74 33) + n)]) rfl (by simp only [all_, i32, i64]; first | omega | (simp; done) | (simp; omega)) ?_
                refine rch_ret cdK125 (rt := none) rfl trivial mw_c ?_
                have hlN : Pl (I 97) (I 74 34).toNat (runP (Pd (I 97) (I 74 34).toNat) 501 (J 74 33).toNat) = true ↔ J 74 33 + n < I 74 34 ∧ 97 ≤ I 97 ((J 74 33) + n).toNat ∧ I 97 ((J 74 33) + n).toNat ≤ 122 := by unfold Pl; rw [decide_eq_true_eq, show (runP (Pd (I 97) (I 74 34).toNat) 501 (J 74 33).toNat) = ((J 74 33) + n).toNat by omega]; omega
                have hEE : tE (I 97) (I 74 34).toNat (J 74 33).toNat = (runP (Pd (I 97) (I 74 34).toNat) 501 (J 74 33).toNat) := by unfold tE; rw [if_neg (by omega), if_neg hl, if_pos hdd]
                have hK : tK (I 97) (I 74 34).toNat (I 74 33).toNat = 3 := by unfold tK tKp; rw [htP, if_neg (by omega), if_neg hl, if_pos hdd, hEE]; first | (rw [if_pos (by rw [hlN]; omega)]; done) | rw [if_neg (by rw [hlN]; omega)]
                have hE : tN (I 97) (I 74 34).toNat (I 74 33).toNat = (runP (Pd (I 97) (I 74 34).toNat) 501 (J 74 33).toNat) := by unfold tN tE; rw [htP, if_neg (by omega), if_neg hl, if_pos hdd]
                refine ⟨_, _, rfl, rfl, fun a j ha => by (repeat rw [upI_ne (by omega)]); rw [g3 a j (by omega)]; (repeat rw [upI_ne (by omega)]); exact h3 a j (by omega), fun a j ha => by rw [upI_ne (by omega)], by (repeat rw [upI_ne (by omega)]); rw [g3 74 36 (by omega)]; (repeat (first | rw [upI_eq rfl rfl] | rw [upI_ne (by omega)])); rw [htP]; omega, by rw [hK]; (repeat (first | rw [upI_eq rfl rfl] | rw [upI_ne (by omega)])); rfl, fun z => ?_, fun z => ?_, fun z => ?_⟩
                · first | exact absurd hK z | ((repeat (first | rw [upI_eq rfl rfl] | rw [upI_ne (by omega)])); rw [hE]; rw [g3 74 33 (by omega), hX33]; omega)
                · first | (rw [hK] at z; exact absurd z (by decide)) | ((repeat rw [upI_ne (by omega)]); rw [g4 (by omega)]; unfold tV; rw [hE, htP, hX97, hX33, show n.toNat = (runP (Pd (I 97) (I 74 34).toNat) 501 (J 74 33).toNat) - (J 74 33).toNat by omega])
                · rw [hK] at z; exact absurd z (by decide)
        · show Rch l E 3 125 _ _ _ _ (141, [some (vR 74), some (vI (J 97 ((J 74 33) + 0).toNat)), some (vI 0)], [vI 0], MW b (upI (upI J 74 36 (J 74 33)) 74 37 0) (upI L 74 38 0))
          have k106 : ¬ (48 ≤ J 97 ((J 74 33) + 0).toNat ∧ J 97 ((J 74 33) + 0).toNat ≤ 57) := k106
          refine rch_br cdK125 (cd := (0 : Int) = 0) (t1 := (216, [some (vR 74), some (vI (J 97 ((J 74 33) + 0).toNat)), some (vI 0)], [], MW b (upI (upI J 74 36 (J 74 33)) 74 37 0) (upI L 74 38 0))) (t2 := (144, [some (vR 74), some (vI (J 97 ((J 74 33) + 0).toNat)), some (vI 0)], [], MW b (upI (upI J 74 36 (J 74 33)) 74 37 0) (upI L 74 38 0))) rfl (fun _ => ?_) (fun c9 => absurd (by decide) c9)
          refine rch_run cdK125 (by decide) 5 (t' := (222, [some (vR 74), some (vI (J 97 ((J 74 33) + 0).toNat)), some (vI 1)], [vI 59, vI (J 97 ((J 74 33) + 0).toNat), vR 74], MW b (upI (upI J 74 36 (J 74 33)) 74 37 0) (upI L 74 38 0))) (ps := []) rfl trivial ?_
          refine rch_br cdK125 (cd := J 97 ((J 74 33) + 0).toNat = (59 : Int)) (t1 := (237, [some (vR 74), some (vI (J 97 ((J 74 33) + 0).toNat)), some (vI 1)], [vR 74], MW b (upI (upI J 74 36 (J 74 33)) 74 37 0) (upI L 74 38 0))) (t2 := (225, [some (vR 74), some (vI (J 97 ((J 74 33) + 0).toNat)), some (vI 1)], [vR 74], MW b (upI (upI J 74 36 (J 74 33)) 74 37 0) (upI L 74 38 0))) rfl (fun c222_6 => ?_) (fun c222_6 => ?_)
          · refine rch_run cdK125 (by decide) 6 (t' := (250, [some (vR 74), some (vI (J 97 ((J 74 33) + 0).toNat)), some (vI 1)], [vI 3, vI (J 97 ((J 74 33) + 0).toNat)], MW b (upI (upI (upI J 74 36 (J 74 33)) 74 37 0) 74 35 (J 97 ((J 74 33) + 0).toNat)) (upI L 74 38 0))) (ps := []) rfl trivial ?_
            refine rch_br cdK125 (cd := J 97 ((J 74 33) + 0).toNat = (3 : Int)) (t1 := (263, [some (vR 74), some (vI (J 97 ((J 74 33) + 0).toNat)), some (vI 1)], [], MW b (upI (upI (upI J 74 36 (J 74 33)) 74 37 0) 74 35 (J 97 ((J 74 33) + 0).toNat)) (upI L 74 38 0))) (t2 := (253, [some (vR 74), some (vI (J 97 ((J 74 33) + 0).toNat)), some (vI 1)], [], MW b (upI (upI (upI J 74 36 (J 74 33)) 74 37 0) 74 35 (J 97 ((J 74 33) + 0).toNat)) (upI L 74 38 0))) rfl (fun c250_7 => ?_) (fun c250_7 => ?_)
            · refine rch_ret cdK125 (rt := none) rfl trivial mw_c ?_
              have hl : ¬ Pl (I 97) (I 74 34).toNat (J 74 33).toNat = true := fun z => by have := hpl.mp z; omega
              have hdd : ¬ Pd (I 97) (I 74 34).toNat (J 74 33).toNat = true := fun z => by have := hpd.mp z; omega
              have hK : tK (I 97) (I 74 34).toNat (I 74 33).toNat = I 97 (J 74 33).toNat := by unfold tK tKp; rw [htP, if_neg (by omega), if_neg hl, if_neg hdd]; first | (rw [if_pos (by omega)]; done) | rw [if_neg (by omega)]
              have hE : tN (I 97) (I 74 34).toNat (I 74 33).toNat = (J 74 33).toNat + 1 := by unfold tN tE; rw [htP, if_neg (by omega), if_neg hl, if_neg hdd]
              refine ⟨_, _, rfl, rfl, fun a j ha => by (repeat rw [upI_ne (by omega)]); exact h3 a j (by omega), fun a j ha => by rw [upI_ne (by omega)], by (repeat (first | rw [upI_eq rfl rfl] | rw [upI_ne (by omega)])); rw [htP]; omega, ?_, fun z => ?_, fun z => ?_, fun z => ?_⟩
              · rw [hK]; (repeat (first | rw [upI_eq rfl rfl] | rw [upI_ne (by omega)])); first | rfl | (unfold srM2; rw [if_neg (by omega), if_neg (by omega), if_neg (by omega)]; omega)
              · first | exact absurd hK z | ((repeat (first | rw [upI_eq rfl rfl] | rw [upI_ne (by omega)])); rw [hE]; omega)
              · rw [hK] at z; exfalso; omega
              · rw [hK] at z; exfalso; omega
            · refine rch_run cdK125 (by decide) 6 (t' := (263, [some (vR 74), some (vI (J 97 ((J 74 33) + 0).toNat)), some (vI 1)], [], MW b (upI (upI (upI (upI J 74 36 (J 74 33)) 74 37 0) 74 35 (J 97 ((J 74 33) + 0).toNat)) 74 33 ((J 74 33) + 1)) (upI L 74 38 0))) (ps := [i32 ((J 74 33) + 1)]) rfl (by simp only [all_, i32, i64]; first | omega | (simp; done) | (simp; omega)) ?_
              refine rch_ret cdK125 (rt := none) rfl trivial mw_c ?_
              have hl : ¬ Pl (I 97) (I 74 34).toNat (J 74 33).toNat = true := fun z => by have := hpl.mp z; omega
              have hdd : ¬ Pd (I 97) (I 74 34).toNat (J 74 33).toNat = true := fun z => by have := hpd.mp z; omega
              have hK : tK (I 97) (I 74 34).toNat (I 74 33).toNat = I 97 (J 74 33).toNat := by unfold tK tKp; rw [htP, if_neg (by omega), if_neg hl, if_neg hdd]; first | (rw [if_pos (by omega)]; done) | rw [if_neg (by omega)]
              have hE : tN (I 97) (I 74 34).toNat (I 74 33).toNat = (J 74 33).toNat + 1 := by unfold tN tE; rw [htP, if_neg (by omega), if_neg hl, if_neg hdd]
              refine ⟨_, _, rfl, rfl, fun a j ha => by (repeat rw [upI_ne (by omega)]); exact h3 a j (by omega), fun a j ha => by rw [upI_ne (by omega)], by (repeat (first | rw [upI_eq rfl rfl] | rw [upI_ne (by omega)])); rw [htP]; omega, ?_, fun z => ?_, fun z => ?_, fun z => ?_⟩
              · rw [hK]; (repeat (first | rw [upI_eq rfl rfl] | rw [upI_ne (by omega)])); first | rfl | (unfold srM2; rw [if_neg (by omega), if_neg (by omega), if_neg (by omega)]; omega)
              · first | exact absurd hK z | ((repeat (first | rw [upI_eq rfl rfl] | rw [upI_ne (by omega)])); rw [hE]; omega)
              · rw [hK] at z; exfalso; omega
              · rw [hK] at z; exfalso; omega
          · refine rch_run cdK125 (by decide) 2 (t' := (228, [some (vR 74), some (vI (J 97 ((J 74 33) + 0).toNat)), some (vI 1)], [vI 40, vI (J 97 ((J 74 33) + 0).toNat), vR 74], MW b (upI (upI J 74 36 (J 74 33)) 74 37 0) (upI L 74 38 0))) (ps := []) rfl trivial ?_
            refine rch_br cdK125 (cd := J 97 ((J 74 33) + 0).toNat = (40 : Int)) (t1 := (237, [some (vR 74), some (vI (J 97 ((J 74 33) + 0).toNat)), some (vI 1)], [vR 74], MW b (upI (upI J 74 36 (J 74 33)) 74 37 0) (upI L 74 38 0))) (t2 := (231, [some (vR 74), some (vI (J 97 ((J 74 33) + 0).toNat)), some (vI 1)], [vR 74], MW b (upI (upI J 74 36 (J 74 33)) 74 37 0) (upI L 74 38 0))) rfl (fun c228_8 => ?_) (fun c228_8 => ?_)
            · refine rch_run cdK125 (by decide) 6 (t' := (250, [some (vR 74), some (vI (J 97 ((J 74 33) + 0).toNat)), some (vI 1)], [vI 3, vI (J 97 ((J 74 33) + 0).toNat)], MW b (upI (upI (upI J 74 36 (J 74 33)) 74 37 0) 74 35 (J 97 ((J 74 33) + 0).toNat)) (upI L 74 38 0))) (ps := []) rfl trivial ?_
              refine rch_br cdK125 (cd := J 97 ((J 74 33) + 0).toNat = (3 : Int)) (t1 := (263, [some (vR 74), some (vI (J 97 ((J 74 33) + 0).toNat)), some (vI 1)], [], MW b (upI (upI (upI J 74 36 (J 74 33)) 74 37 0) 74 35 (J 97 ((J 74 33) + 0).toNat)) (upI L 74 38 0))) (t2 := (253, [some (vR 74), some (vI (J 97 ((J 74 33) + 0).toNat)), some (vI 1)], [], MW b (upI (upI (upI J 74 36 (J 74 33)) 74 37 0) 74 35 (J 97 ((J 74 33) + 0).toNat)) (upI L 74 38 0))) rfl (fun c250_9 => ?_) (fun c250_9 => ?_)
              · refine rch_ret cdK125 (rt := none) rfl trivial mw_c ?_
                have hl : ¬ Pl (I 97) (I 74 34).toNat (J 74 33).toNat = true := fun z => by have := hpl.mp z; omega
                have hdd : ¬ Pd (I 97) (I 74 34).toNat (J 74 33).toNat = true := fun z => by have := hpd.mp z; omega
                have hK : tK (I 97) (I 74 34).toNat (I 74 33).toNat = I 97 (J 74 33).toNat := by unfold tK tKp; rw [htP, if_neg (by omega), if_neg hl, if_neg hdd]; first | (rw [if_pos (by omega)]; done) | rw [if_neg (by omega)]
                have hE : tN (I 97) (I 74 34).toNat (I 74 33).toNat = (J 74 33).toNat + 1 := by unfold tN tE; rw [htP, if_neg (by omega), if_neg hl, if_neg hdd]
                refine ⟨_, _, rfl, rfl, fun a j ha => by (repeat rw [upI_ne (by omega)]); exact h3 a j (by omega), fun a j ha => by rw [upI_ne (by omega)], by (repeat (first | rw [upI_eq rfl rfl] | rw [upI_ne (by omega)])); rw [htP]; omega, ?_, fun z => ?_, fun z => ?_, fun z => ?_⟩
                · rw [hK]; (repeat (first | rw [upI_eq rfl rfl] | rw [upI_ne (by omega)])); first | rfl | (unfold srM2; rw [if_neg (by omega), if_neg (by omega), if_neg (by omega)]; omega)
                · first | exact absurd hK z | ((repeat (first | rw [upI_eq rfl rfl] | rw [upI_ne (by omega)])); rw [hE]; omega)
                · rw [hK] at z; exfalso; omega
                · rw [hK] at z; exfalso; omega
              · refine rch_run cdK125 (by decide) 6 (t' := (263, [some (vR 74), some (vI (J 97 ((J 74 33) + 0).toNat)), some (vI 1)], [], MW b (upI (upI (upI (upI J 74 36 (J 74 33)) 74 37 0) 74 35 (J 97 ((J 74 33) + 0).toNat)) 74 33 ((J 74 33) + 1)) (upI L 74 38 0))) (ps := [i32 ((J 74 33) + 1)]) rfl (by simp only [all_, i32, i64]; first | omega | (simp; done) | (simp; omega)) ?_
                refine rch_ret cdK125 (rt := none) rfl trivial mw_c ?_
                have hl : ¬ Pl (I 97) (I 74 34).toNat (J 74 33).toNat = true := fun z => by have := hpl.mp z; omega
                have hdd : ¬ Pd (I 97) (I 74 34).toNat (J 74 33).toNat = true := fun z => by have := hpd.mp z; omega
                have hK : tK (I 97) (I 74 34).toNat (I 74 33).toNat = I 97 (J 74 33).toNat := by unfold tK tKp; rw [htP, if_neg (by omega), if_neg hl, if_neg hdd]; first | (rw [if_pos (by omega)]; done) | rw [if_neg (by omega)]
                have hE : tN (I 97) (I 74 34).toNat (I 74 33).toNat = (J 74 33).toNat + 1 := by unfold tN tE; rw [htP, if_neg (by omega), if_neg hl, if_neg hdd]
                refine ⟨_, _, rfl, rfl, fun a j ha => by (repeat rw [upI_ne (by omega)]); exact h3 a j (by omega), fun a j ha => by rw [upI_ne (by omega)], by (repeat (first | rw [upI_eq rfl rfl] | rw [upI_ne (by omega)])); rw [htP]; omega, ?_, fun z => ?_, fun z => ?_, fun z => ?_⟩
                · rw [hK]; (repeat (first | rw [upI_eq rfl rfl] | rw [upI_ne (by omega)])); first | rfl | (unfold srM2; rw [if_neg (by omega), if_neg (by omega), if_neg (by omega)]; omega)
                · first | exact absurd hK z | ((repeat (first | rw [upI_eq rfl rfl] | rw [upI_ne (by omega)])); rw [hE]; omega)
                · rw [hK] at z; exfalso; omega
                · rw [hK] at z; exfalso; omega
            · refine rch_run cdK125 (by decide) 2 (t' := (234, [some (vR 74), some (vI (J 97 ((J 74 33) + 0).toNat)), some (vI 1)], [vI 41, vI (J 97 ((J 74 33) + 0).toNat), vR 74], MW b (upI (upI J 74 36 (J 74 33)) 74 37 0) (upI L 74 38 0))) (ps := []) rfl trivial ?_
              refine rch_br cdK125 (cd := J 97 ((J 74 33) + 0).toNat ≠ (41 : Int)) (t1 := (241, [some (vR 74), some (vI (J 97 ((J 74 33) + 0).toNat)), some (vI 1)], [vR 74], MW b (upI (upI J 74 36 (J 74 33)) 74 37 0) (upI L 74 38 0))) (t2 := (237, [some (vR 74), some (vI (J 97 ((J 74 33) + 0).toNat)), some (vI 1)], [vR 74], MW b (upI (upI J 74 36 (J 74 33)) 74 37 0) (upI L 74 38 0))) rfl (fun c234_10 => ?_) (fun c234_10 => ?_)
              · refine rch_run cdK125 (by decide) 5 (t' := (250, [some (vR 74), some (vI (J 97 ((J 74 33) + 0).toNat)), some (vI 1)], [vI 3, vI 3], MW b (upI (upI (upI J 74 36 (J 74 33)) 74 37 0) 74 35 3) (upI L 74 38 0))) (ps := []) rfl trivial ?_
                refine rch_br cdK125 (cd := (3 : Int) = (3 : Int)) (t1 := (263, [some (vR 74), some (vI (J 97 ((J 74 33) + 0).toNat)), some (vI 1)], [], MW b (upI (upI (upI J 74 36 (J 74 33)) 74 37 0) 74 35 3) (upI L 74 38 0))) (t2 := (253, [some (vR 74), some (vI (J 97 ((J 74 33) + 0).toNat)), some (vI 1)], [], MW b (upI (upI (upI J 74 36 (J 74 33)) 74 37 0) 74 35 3) (upI L 74 38 0))) rfl (fun _ => ?_) (fun c9 => absurd (by decide) c9)
                refine rch_ret cdK125 (rt := none) rfl trivial mw_c ?_
                have hl : ¬ Pl (I 97) (I 74 34).toNat (J 74 33).toNat = true := fun z => by have := hpl.mp z; omega
                have hdd : ¬ Pd (I 97) (I 74 34).toNat (J 74 33).toNat = true := fun z => by have := hpd.mp z; omega
                have hK : tK (I 97) (I 74 34).toNat (I 74 33).toNat = 1 := by unfold tK tKp; rw [htP, if_neg (by omega), if_neg hl, if_neg hdd]; first | (rw [if_pos (by omega)]; done) | rw [if_neg (by omega)]
                have hE : tN (I 97) (I 74 34).toNat (I 74 33).toNat = (J 74 33).toNat + 1 := by unfold tN tE; rw [htP, if_neg (by omega), if_neg hl, if_neg hdd]
                refine ⟨_, _, rfl, rfl, fun a j ha => by (repeat rw [upI_ne (by omega)]); exact h3 a j (by omega), fun a j ha => by rw [upI_ne (by omega)], by (repeat (first | rw [upI_eq rfl rfl] | rw [upI_ne (by omega)])); rw [htP]; omega, ?_, fun z => ?_, fun z => ?_, fun z => ?_⟩
                · rw [hK]; (repeat (first | rw [upI_eq rfl rfl] | rw [upI_ne (by omega)])); first | rfl | (unfold srM2; rw [if_neg (by omega), if_neg (by omega), if_neg (by omega)]; omega)
                · first | exact absurd hK z | ((repeat (first | rw [upI_eq rfl rfl] | rw [upI_ne (by omega)])); rw [hE]; omega)
                · rw [hK] at z; exfalso; omega
                · rw [hK] at z; exfalso; omega
              · refine rch_run cdK125 (by decide) 6 (t' := (250, [some (vR 74), some (vI (J 97 ((J 74 33) + 0).toNat)), some (vI 1)], [vI 3, vI (J 97 ((J 74 33) + 0).toNat)], MW b (upI (upI (upI J 74 36 (J 74 33)) 74 37 0) 74 35 (J 97 ((J 74 33) + 0).toNat)) (upI L 74 38 0))) (ps := []) rfl trivial ?_
                refine rch_br cdK125 (cd := J 97 ((J 74 33) + 0).toNat = (3 : Int)) (t1 := (263, [some (vR 74), some (vI (J 97 ((J 74 33) + 0).toNat)), some (vI 1)], [], MW b (upI (upI (upI J 74 36 (J 74 33)) 74 37 0) 74 35 (J 97 ((J 74 33) + 0).toNat)) (upI L 74 38 0))) (t2 := (253, [some (vR 74), some (vI (J 97 ((J 74 33) + 0).toNat)), some (vI 1)], [], MW b (upI (upI (upI J 74 36 (J 74 33)) 74 37 0) 74 35 (J 97 ((J 74 33) + 0).toNat)) (upI L 74 38 0))) rfl (fun c250_12 => ?_) (fun c250_12 => ?_)
                · refine rch_ret cdK125 (rt := none) rfl trivial mw_c ?_
                  have hl : ¬ Pl (I 97) (I 74 34).toNat (J 74 33).toNat = true := fun z => by have := hpl.mp z; omega
                  have hdd : ¬ Pd (I 97) (I 74 34).toNat (J 74 33).toNat = true := fun z => by have := hpd.mp z; omega
                  have hK : tK (I 97) (I 74 34).toNat (I 74 33).toNat = I 97 (J 74 33).toNat := by unfold tK tKp; rw [htP, if_neg (by omega), if_neg hl, if_neg hdd]; first | (rw [if_pos (by omega)]; done) | rw [if_neg (by omega)]
                  have hE : tN (I 97) (I 74 34).toNat (I 74 33).toNat = (J 74 33).toNat + 1 := by unfold tN tE; rw [htP, if_neg (by omega), if_neg hl, if_neg hdd]
                  refine ⟨_, _, rfl, rfl, fun a j ha => by (repeat rw [upI_ne (by omega)]); exact h3 a j (by omega), fun a j ha => by rw [upI_ne (by omega)], by (repeat (first | rw [upI_eq rfl rfl] | rw [upI_ne (by omega)])); rw [htP]; omega, ?_, fun z => ?_, fun z => ?_, fun z => ?_⟩
                  · rw [hK]; (repeat (first | rw [upI_eq rfl rfl] | rw [upI_ne (by omega)])); first | rfl | (unfold srM2; rw [if_neg (by omega), if_neg (by omega), if_neg (by omega)]; omega)
                  · first | exact absurd hK z | ((repeat (first | rw [upI_eq rfl rfl] | rw [upI_ne (by omega)])); rw [hE]; omega)
                  · rw [hK] at z; exfalso; omega
                  · rw [hK] at z; exfalso; omega
                · refine rch_run cdK125 (by decide) 6 (t' := (263, [some (vR 74), some (vI (J 97 ((J 74 33) + 0).toNat)), some (vI 1)], [], MW b (upI (upI (upI (upI J 74 36 (J 74 33)) 74 37 0) 74 35 (J 97 ((J 74 33) + 0).toNat)) 74 33 ((J 74 33) + 1)) (upI L 74 38 0))) (ps := [i32 ((J 74 33) + 1)]) rfl (by simp only [all_, i32, i64]; first | omega | (simp; done) | (simp; omega)) ?_
                  refine rch_ret cdK125 (rt := none) rfl trivial mw_c ?_
                  have hl : ¬ Pl (I 97) (I 74 34).toNat (J 74 33).toNat = true := fun z => by have := hpl.mp z; omega
                  have hdd : ¬ Pd (I 97) (I 74 34).toNat (J 74 33).toNat = true := fun z => by have := hpd.mp z; omega
                  have hK : tK (I 97) (I 74 34).toNat (I 74 33).toNat = I 97 (J 74 33).toNat := by unfold tK tKp; rw [htP, if_neg (by omega), if_neg hl, if_neg hdd]; first | (rw [if_pos (by omega)]; done) | rw [if_neg (by omega)]
                  have hE : tN (I 97) (I 74 34).toNat (I 74 33).toNat = (J 74 33).toNat + 1 := by unfold tN tE; rw [htP, if_neg (by omega), if_neg hl, if_neg hdd]
                  refine ⟨_, _, rfl, rfl, fun a j ha => by (repeat rw [upI_ne (by omega)]); exact h3 a j (by omega), fun a j ha => by rw [upI_ne (by omega)], by (repeat (first | rw [upI_eq rfl rfl] | rw [upI_ne (by omega)])); rw [htP]; omega, ?_, fun z => ?_, fun z => ?_, fun z => ?_⟩
                  · rw [hK]; (repeat (first | rw [upI_eq rfl rfl] | rw [upI_ne (by omega)])); first | rfl | (unfold srM2; rw [if_neg (by omega), if_neg (by omega), if_neg (by omega)]; omega)
                  · first | exact absurd hK z | ((repeat (first | rw [upI_eq rfl rfl] | rw [upI_ne (by omega)])); rw [hE]; omega)
                  · rw [hK] at z; exfalso; omega
                  · rw [hK] at z; exfalso; omega
    · refine rch_run cdK125 (by decide) 7 (t' := (250, [some (vR 74), some (vI (J 97 ((J 74 33) + 0).toNat)), some (vI 0)], [vI 3, vI 0], MW b (upI (upI (upI J 74 36 (J 74 33)) 74 37 0) 74 35 0) (upI L 74 38 0))) (ps := []) rfl trivial ?_
      refine rch_br cdK125 (cd := (0 : Int) = (3 : Int)) (t1 := (263, [some (vR 74), some (vI (J 97 ((J 74 33) + 0).toNat)), some (vI 0)], [], MW b (upI (upI (upI J 74 36 (J 74 33)) 74 37 0) 74 35 0) (upI L 74 38 0))) (t2 := (253, [some (vR 74), some (vI (J 97 ((J 74 33) + 0).toNat)), some (vI 0)], [], MW b (upI (upI (upI J 74 36 (J 74 33)) 74 37 0) 74 35 0) (upI L 74 38 0))) rfl (fun c9 => absurd c9 (by decide)) (fun _ => ?_)
      refine rch_run cdK125 (by decide) 6 (t' := (263, [some (vR 74), some (vI (J 97 ((J 74 33) + 0).toNat)), some (vI 0)], [], MW b (upI (upI (upI (upI J 74 36 (J 74 33)) 74 37 0) 74 35 0) 74 33 ((J 74 33) + 0)) (upI L 74 38 0))) (ps := [i32 ((J 74 33) + 0)]) rfl (by simp only [all_, i32, i64]; first | omega | (simp; done) | (simp; omega)) ?_
      refine rch_ret cdK125 (rt := none) rfl trivial mw_c ?_
      have hl : ¬ Pl (I 97) (I 74 34).toNat (J 74 33).toNat = true := fun z => by have := hpl.mp z; omega
      have hdd : ¬ Pd (I 97) (I 74 34).toNat (J 74 33).toNat = true := fun z => by have := hpd.mp z; omega
      have hK : tK (I 97) (I 74 34).toNat (I 74 33).toNat = I 97 (J 74 33).toNat := by unfold tK tKp; rw [htP, if_neg (by omega), if_neg hl, if_neg hdd]; first | (rw [if_pos (by omega)]; done) | rw [if_neg (by omega)]
      have hE : tN (I 97) (I 74 34).toNat (I 74 33).toNat = (J 74 33).toNat + 1 := by unfold tN tE; rw [htP, if_neg (by omega), if_neg hl, if_neg hdd]
      refine ⟨_, _, rfl, rfl, fun a j ha => by (repeat rw [upI_ne (by omega)]); exact h3 a j (by omega), fun a j ha => by rw [upI_ne (by omega)], by (repeat (first | rw [upI_eq rfl rfl] | rw [upI_ne (by omega)])); rw [htP]; omega, ?_, fun z => ?_, fun z => ?_, fun z => ?_⟩
      · rw [hK]; (repeat (first | rw [upI_eq rfl rfl] | rw [upI_ne (by omega)])); first | rfl | (unfold srM2; rw [if_neg (by omega), if_neg (by omega), if_neg (by omega)]; omega)
      · first | exact absurd hK z | ((repeat (first | rw [upI_eq rfl rfl] | rw [upI_ne (by omega)])); rw [hE]; omega)
      · rw [hK] at z; exfalso; omega
      · rw [hK] at z; exfalso; omega
  · show Rch l E 3 125 _ _ _ _ (46, [some (vR 74), none, none], [vI (-1)], MW b (upI J 74 36 (J 74 33)) L)
    have k104 : ¬ ((J 74 33) + 0 < J 74 34) := k104
    refine rch_run cdK125 (by decide) 10 (t' := (60, [some (vR 74), some (vI (-1)), some (vI 0)], [vI (-1)], MW b (upI (upI J 74 36 (J 74 33)) 74 37 0) (upI L 74 38 0))) (ps := []) rfl trivial ?_
    refine rch_br cdK125 (cd := 0 ≤ ((-1) : Int)) (t1 := (71, [some (vR 74), some (vI (-1)), some (vI 0)], [], MW b (upI (upI J 74 36 (J 74 33)) 74 37 0) (upI L 74 38 0))) (t2 := (63, [some (vR 74), some (vI (-1)), some (vI 0)], [], MW b (upI (upI J 74 36 (J 74 33)) 74 37 0) (upI L 74 38 0))) rfl (fun c9 => absurd c9 (by decide)) (fun _ => ?_)
    refine rch_run cdK125 (by decide) 7 (t' := (250, [some (vR 74), some (vI (-1)), some (vI 0)], [vI 3, vI 0], MW b (upI (upI (upI J 74 36 (J 74 33)) 74 37 0) 74 35 0) (upI L 74 38 0))) (ps := []) rfl trivial ?_
    refine rch_br cdK125 (cd := (0 : Int) = (3 : Int)) (t1 := (263, [some (vR 74), some (vI (-1)), some (vI 0)], [], MW b (upI (upI (upI J 74 36 (J 74 33)) 74 37 0) 74 35 0) (upI L 74 38 0))) (t2 := (253, [some (vR 74), some (vI (-1)), some (vI 0)], [], MW b (upI (upI (upI J 74 36 (J 74 33)) 74 37 0) 74 35 0) (upI L 74 38 0))) rfl (fun c9 => absurd c9 (by decide)) (fun _ => ?_)
    refine rch_run cdK125 (by decide) 6 (t' := (263, [some (vR 74), some (vI (-1)), some (vI 0)], [], MW b (upI (upI (upI (upI J 74 36 (J 74 33)) 74 37 0) 74 35 0) 74 33 ((J 74 33) + 0)) (upI L 74 38 0))) (ps := [i32 ((J 74 33) + 0)]) rfl (by simp only [all_, i32, i64]; first | omega | (simp; done) | (simp; omega)) ?_
    refine rch_ret cdK125 (rt := none) rfl trivial mw_c ?_
    have hK : tK (I 97) (I 74 34).toNat (I 74 33).toNat = 0 := by unfold tK tKp; rw [htP, if_pos (by omega)]
    have hE : tN (I 97) (I 74 34).toNat (I 74 33).toNat = (J 74 33).toNat := by unfold tN tE; rw [htP, if_pos (by omega)]
    refine ⟨_, _, rfl, rfl, fun a j ha => by (repeat rw [upI_ne (by omega)]); exact h3 a j (by omega), fun a j ha => by rw [upI_ne (by omega)], by (repeat (first | rw [upI_eq rfl rfl] | rw [upI_ne (by omega)])); rw [htP]; omega, by rw [hK]; (repeat (first | rw [upI_eq rfl rfl] | rw [upI_ne (by omega)])); rfl, fun _ => by (repeat (first | rw [upI_eq rfl rfl] | rw [upI_ne (by omega)])); rw [hE]; omega, fun z => ?_, fun z => ?_⟩
    · rw [hK] at z; exact absurd z (by decide)
    · rw [hK] at z; exact absurd z (by decide)

theorem k_next (l : Launch) (E : AX) (b : Bool) (I L : Nat → Nat → Int) (hN : NpK I) : Con l E 3 125 [vR 74] (MW b I L) 0 0 (fun rt w => ∃ J M, rt = none ∧ w = MW b J M ∧ FrN I J ∧ FlN L M ∧ Ntk J M (I 97) (I 74 34).toNat (I 74 33).toNat) := by
  refine con_intro (by decide) (Nat.le_of_ble_eq_true rfl) ?_
  exact nx_skip l E b I L hN _ (fun J a1 a2 a3 a4 => nx_tail l E b I L hN J ⟨a1, a2⟩ a3 a4) 502 0 I (by have := hN.1; omega) (fun x hx hx2 => by omega) (fun _ _ _ => rfl) (by have := hN.1; omega)
