theorem k_hear (l : Launch) (E : AX) (b : Bool) (I L : Nat → Nat → Int) (p f : Int) (hK : VgK I p f) : Con l E 3 96 [vR 0, vI p, vI f] (MW b I L) 0 0 (fun rt w => ∃ J, rt = none ∧ w = MW b J L ∧ Hrd I J p f) := by
  refine con_ok (fun hw9 hs9 => ?_)
  refine con_intro (by decide) (Nat.le_of_ble_eq_true rfl) ?_
  show Rch l E 3 96 _ _ _ _ (0, [some (vR 0), some (vI p), some (vI f)], [], MW b I L)
  refine rch_run cdK96 (by decide) 12 (t' := (22, [some (vR 0), some (vI p), some (vI f)], [vI f, vI p, vR 13, vR 49, vR 17, vR 44, vR 61], MW b I L)) (ps := []) rfl trivial ?_
  refine rch_call (h' := 2) (k' := 49) (as := [vR 61, vR 44, vR 17, vR 49, vR 13, vI p, vI f]) (t1 := (25, [some (vR 0), some (vI p), some (vI f)], [], MW b I L)) cdK96 rfl (k_vgather l E b I L p f hK) (by decide) mw_le ?_
  rintro rt9 w9 (⟨J1, rfl, rfl, t1⟩) _ _
  show Rch l E 3 96 _ _ _ _ (25, [some (vR 0), some (vI p), some (vI f)], [], MW b J1 L)
  refine rch_run cdK96 (by decide) 2 (t' := (29, [some (vR 0), some (vI p), some (vI f)], [vR 61], MW b J1 L)) (ps := []) rfl trivial ?_
  refine rch_call (h' := 2) (k' := 50) (as := [vR 61]) (t1 := (32, [some (vR 0), some (vI p), some (vI f)], [], MW b J1 L)) cdK96 rfl (k_vchoose l E b J1 L (Vg_VOk hK t1)) (by decide) mw_le ?_
  rintro rt9 w9 (⟨J2, rfl, rfl, t2⟩) _ _
  show Rch l E 3 96 _ _ _ _ (32, [some (vR 0), some (vI p), some (vI f)], [], MW b J2 L)
  refine rch_ret cdK96 (rt := none) rfl trivial mw_c ?_
  exact ⟨J2, rfl, rfl, Hrd_mk t1 t2⟩

theorem lp_latestFix (l : Launch) (E : AX) (b : Bool) (I L : Nat → Nat → Int) (p f : Int) (hn : 0 ≤ I 38 0 ∧ I 38 0 ≤ 20) (hr : ∀ m : Nat, (m : Int) < I 38 0 → 0 ≤ I 39 m ∧ I 39 m < 10) : ∀ (n9 : Nat) (i : Int), -1 ≤ i → i < I 38 0 → lst (fxA I p f) (I 38 0).toNat = lst (fxA I p f) (i + 1).toNat → i + 1 < (n9 : Int) → Rch l E 2 98 (MW b I L) 0 0 (fun rt w => rt = some (vI (lst (fxA I p f) (I 38 0).toNat)) ∧ w = MW b I L) (10, [some (vR 0), some (vI p), some (vI f), some (vI i)], [], MW b I L) := by
  intro n9
  induction n9 with
  | zero =>
    intro i  h1 h2 h3 hm
    exfalso; omega
  | succ n9 ih =>
    intro i  h1 h2 h3 hm
    have hr9 : 0 ≤ i → _ := fun z => hr i.toNat (by omega)
    have hi9 : 0 ≤ i → (i + 1).toNat = i.toNat + 1 := fun z => by omega
    refine rch_run cdK98 (by decide) 1 (t' := (11, [some (vR 0), some (vI p), some (vI f), some (vI i)], [vI i], MW b I L)) (ps := []) rfl trivial ?_
    refine rch_br cdK98 (cd := i < 0) (t1 := (73, [some (vR 0), some (vI p), some (vI f), some (vI i)], [], MW b I L)) (t2 := (14, [some (vR 0), some (vI p), some (vI f), some (vI i)], [], MW b I L)) rfl (fun c11_1 => ?_) (fun c11_1 => ?_)
    · refine rch_run cdK98 (by decide) 1 (t' := (74, [some (vR 0), some (vI p), some (vI f), some (vI i)], [vI (-1)], MW b I L)) (ps := []) rfl trivial ?_
      refine rch_ret cdK98 (rt := some (vI (-1))) rfl trivial mw_c ?_
      exact ⟨by rw [h3, show (i + 1).toNat = 0 by omega]; rfl, rfl⟩
    · refine rch_run cdK98 (by decide) 6 (t' := (24, [some (vR 0), some (vI p), some (vI f), some (vI i)], [vI f, vI (I 40 i.toNat)], MW b I L)) (ps := [0 ≤ i ∧ i < ((20 : Nat) : Int)]) rfl (by (try have hr8 := hr9 (by omega)); simp only [all_, i32, i64]; first | omega | (simp; done) | (simp; omega)) ?_
      refine rch_br cdK98 (cd := I 40 i.toNat ≠ f) (t1 := (67, [some (vR 0), some (vI p), some (vI f), some (vI i)], [], MW b I L)) (t2 := (27, [some (vR 0), some (vI p), some (vI f), some (vI i)], [], MW b I L)) rfl (fun c24_2 => ?_) (fun c24_2 => ?_)
      · refine rch_run cdK98 (by decide) 2 (t' := (10, [some (vR 0), some (vI p), some (vI f), some (vI (i + (-1)))], [], MW b I L)) (ps := [i32 (i + (-1))]) rfl (by (try have hr8 := hr9 (by omega)); simp only [all_, i32, i64]; first | omega | (simp; done) | (simp; omega)) ?_
        have hr8 := hr9 (by omega)
        have hi8 := hi9 (by omega)
        have ha9 : fxA I p f i.toNat = false := decide_eq_false (by omega)
        refine ih (i + (-1)) (by omega) (by omega) ?_ (by omega)
        rw [h3, hi8, show (i + (-1) + 1).toNat = i.toNat by omega]
        show (if fxA I p f i.toNat = true then _ else _) = _
        rw [ha9]
        rfl
      · refine rch_run cdK98 (by decide) 6 (t' := (39, [some (vR 0), some (vI p), some (vI f), some (vI i)], [vI (I 44 1), vI i, vR 38], MW b I L)) (ps := []) rfl trivial ?_
        refine rch_call (h' := 1) (k' := 10) (as := [vR 38, vI i, vI (I 44 1)]) (t1 := (42, [some (vR 0), some (vI p), some (vI f), some (vI i)], [], MW b I L)) cdK98 rfl (k_fixes_isHeld l E b I L i (I 44 1) (by show 0 ≤ I 38 0 ∧ I 38 0 ≤ 20; omega)) (by decide) mw_le ?_
        rintro rt9 w9 (⟨k60, rfl, rfl⟩ | ⟨k60, rfl, rfl⟩) _ _
        · show Rch l E 2 98 _ _ _ _ (42, [some (vR 0), some (vI p), some (vI f), some (vI i)], [vI 1], MW b I L)
          have k60 : (0 ≤ i ∧ i < I 38 0) ∧ I 42 i.toNat ≤ I 44 1 ∧ (I 43 i.toNat = -1 ∨ I 44 1 < I 43 i.toNat) := k60
          refine rch_br cdK98 (cd := (1 : Int) = 0) (t1 := (67, [some (vR 0), some (vI p), some (vI f), some (vI i)], [], MW b I L)) (t2 := (45, [some (vR 0), some (vI p), some (vI f), some (vI i)], [], MW b I L)) rfl (fun c9 => absurd c9 (by decide)) (fun _ => ?_)
          refine rch_run cdK98 (by decide) 7 (t' := (58, [some (vR 0), some (vI p), some (vI f), some (vI i)], [vI (I 39 i.toNat), vR 49], MW b I L)) (ps := [0 ≤ i ∧ i < ((20 : Nat) : Int)]) rfl (by (try have hr8 := hr9 (by omega)); simp only [all_, i32, i64]; first | omega | (simp; done) | (simp; omega)) ?_
          refine rch_call (h' := 1) (k' := 20) (as := [vR 49, vI (I 39 i.toNat)]) (t1 := (61, [some (vR 0), some (vI p), some (vI f), some (vI i)], [], MW b I L)) cdK98 rfl (k_X3_personOf l E b I L (I 39 i.toNat) ) (by decide) mw_le ?_
          rintro rt9 w9 (⟨k61, rfl, rfl⟩ | ⟨k61, rfl, rfl⟩) _ _
          · show Rch l E 2 98 _ _ _ _ (61, [some (vR 0), some (vI p), some (vI f), some (vI i)], [vI (I 50 (I 39 i.toNat).toNat)], MW b I L)
            have k61 : 0 ≤ I 39 i.toNat ∧ I 39 i.toNat < 10 := k61
            refine rch_run cdK98 (by decide) 1 (t' := (62, [some (vR 0), some (vI p), some (vI f), some (vI i)], [vI p, vI (I 50 (I 39 i.toNat).toNat)], MW b I L)) (ps := []) rfl trivial ?_
            refine rch_br cdK98 (cd := I 50 (I 39 i.toNat).toNat ≠ p) (t1 := (67, [some (vR 0), some (vI p), some (vI f), some (vI i)], [], MW b I L)) (t2 := (65, [some (vR 0), some (vI p), some (vI f), some (vI i)], [], MW b I L)) rfl (fun c62_4 => ?_) (fun c62_4 => ?_)
            · refine rch_run cdK98 (by decide) 2 (t' := (10, [some (vR 0), some (vI p), some (vI f), some (vI (i + (-1)))], [], MW b I L)) (ps := [i32 (i + (-1))]) rfl (by (try have hr8 := hr9 (by omega)); simp only [all_, i32, i64]; first | omega | (simp; done) | (simp; omega)) ?_
              have hr8 := hr9 (by omega)
              have hi8 := hi9 (by omega)
              have ha9 : fxA I p f i.toNat = false := decide_eq_false (by omega)
              refine ih (i + (-1)) (by omega) (by omega) ?_ (by omega)
              rw [h3, hi8, show (i + (-1) + 1).toNat = i.toNat by omega]
              show (if fxA I p f i.toNat = true then _ else _) = _
              rw [ha9]
              rfl
            · refine rch_run cdK98 (by decide) 1 (t' := (66, [some (vR 0), some (vI p), some (vI f), some (vI i)], [vI i], MW b I L)) (ps := []) rfl trivial ?_
              refine rch_ret cdK98 (rt := some (vI i)) rfl trivial mw_c ?_
              have hr8 := hr9 (by omega)
              have hi8 := hi9 (by omega)
              have ha9 : fxA I p f i.toNat = true := decide_eq_true (by omega)
              refine ⟨?_, rfl⟩
              rw [h3, hi8]
              show _ = some (vI (if fxA I p f i.toNat = true then _ else _))
              rw [ha9, if_pos rfl, show ((i.toNat : Nat) : Int) = i by omega]
          · show Rch l E 2 98 _ _ _ _ (61, [some (vR 0), some (vI p), some (vI f), some (vI i)], [vI (-1)], MW b I L)
            have k61 : ¬ (0 ≤ I 39 i.toNat ∧ I 39 i.toNat < 10) := k61
            refine rch_run cdK98 (by decide) 1 (t' := (62, [some (vR 0), some (vI p), some (vI f), some (vI i)], [vI p, vI (-1)], MW b I L)) (ps := []) rfl trivial ?_
            refine rch_br cdK98 (cd := ((-1) : Int) ≠ p) (t1 := (67, [some (vR 0), some (vI p), some (vI f), some (vI i)], [], MW b I L)) (t2 := (65, [some (vR 0), some (vI p), some (vI f), some (vI i)], [], MW b I L)) rfl (fun c62_5 => ?_) (fun c62_5 => ?_)
            · refine rch_run cdK98 (by decide) 2 (t' := (10, [some (vR 0), some (vI p), some (vI f), some (vI (i + (-1)))], [], MW b I L)) (ps := [i32 (i + (-1))]) rfl (by (try have hr8 := hr9 (by omega)); simp only [all_, i32, i64]; first | omega | (simp; done) | (simp; omega)) ?_
              have hr8 := hr9 (by omega)
              have hi8 := hi9 (by omega)
              have ha9 : fxA I p f i.toNat = false := decide_eq_false (by omega)
              refine ih (i + (-1)) (by omega) (by omega) ?_ (by omega)
              rw [h3, hi8, show (i + (-1) + 1).toNat = i.toNat by omega]
              show (if fxA I p f i.toNat = true then _ else _) = _
              rw [ha9]
              rfl
            · refine rch_run cdK98 (by decide) 1 (t' := (66, [some (vR 0), some (vI p), some (vI f), some (vI i)], [vI i], MW b I L)) (ps := []) rfl trivial ?_
              refine rch_ret cdK98 (rt := some (vI i)) rfl trivial mw_c ?_
              have hr8 := hr9 (by omega)
              have hi8 := hi9 (by omega)
              have ha9 : fxA I p f i.toNat = true := decide_eq_true (by omega)
              refine ⟨?_, rfl⟩
              rw [h3, hi8]
              show _ = some (vI (if fxA I p f i.toNat = true then _ else _))
              rw [ha9, if_pos rfl, show ((i.toNat : Nat) : Int) = i by omega]
        · show Rch l E 2 98 _ _ _ _ (42, [some (vR 0), some (vI p), some (vI f), some (vI i)], [vI 0], MW b I L)
          have k60 : ¬ ((0 ≤ i ∧ i < I 38 0) ∧ I 42 i.toNat ≤ I 44 1 ∧ (I 43 i.toNat = -1 ∨ I 44 1 < I 43 i.toNat)) := k60
          refine rch_br cdK98 (cd := (0 : Int) = 0) (t1 := (67, [some (vR 0), some (vI p), some (vI f), some (vI i)], [], MW b I L)) (t2 := (45, [some (vR 0), some (vI p), some (vI f), some (vI i)], [], MW b I L)) rfl (fun _ => ?_) (fun c9 => absurd (by decide) c9)
          refine rch_run cdK98 (by decide) 2 (t' := (10, [some (vR 0), some (vI p), some (vI f), some (vI (i + (-1)))], [], MW b I L)) (ps := [i32 (i + (-1))]) rfl (by (try have hr8 := hr9 (by omega)); simp only [all_, i32, i64]; first | omega | (simp; done) | (simp; omega)) ?_
          have hr8 := hr9 (by omega)
          have hi8 := hi9 (by omega)
          have ha9 : fxA I p f i.toNat = false := decide_eq_false (by omega)
          refine ih (i + (-1)) (by omega) (by omega) ?_ (by omega)
          rw [h3, hi8, show (i + (-1) + 1).toNat = i.toNat by omega]
          show (if fxA I p f i.toNat = true then _ else _) = _
          rw [ha9]
          rfl

theorem k_latestFix (l : Launch) (E : AX) (b : Bool) (I L : Nat → Nat → Int) (p f : Int) (hn : 0 ≤ I 38 0 ∧ I 38 0 ≤ 20) (hr : ∀ m : Nat, (m : Int) < I 38 0 → 0 ≤ I 39 m ∧ I 39 m < 10) : Con l E 2 98 [vR 0, vI p, vI f] (MW b I L) 0 0 (fun rt w => rt = some (vI (lst (fxA I p f) (I 38 0).toNat)) ∧ w = MW b I L) := by
  refine con_ok (fun hw9 hs9 => ?_)
  refine con_intro (by decide) (Nat.le_of_ble_eq_true rfl) ?_
  show Rch l E 2 98 _ _ _ _ (0, [some (vR 0), some (vI p), some (vI f), none], [], MW b I L)
  refine rch_run cdK98 (by decide) 6 (t' := (10, [some (vR 0), some (vI p), some (vI f), some (vI ((I 38 0) - 1))], [], MW b I L)) (ps := [i32 ((I 38 0) - 1)]) rfl (by simp only [all_, i32, i64]; first | omega | (simp; done) | (simp; omega)) ?_
  exact lp_latestFix l E b I L p f hn hr 21 _ (by omega) (by omega) (by rw [show ((I 38 0) - 1 + 1).toNat = (I 38 0).toNat by omega]) (by omega)

theorem k_goldenOf (l : Launch) (E : AX) (b : Bool) (I L : Nat → Nat → Int) (p f : Int) (hn : 0 ≤ I 38 0 ∧ I 38 0 ≤ 20) (hr : ∀ m : Nat, (m : Int) < I 38 0 → 0 ≤ I 39 m ∧ I 39 m < 10) (hK : VgK I p f) : Con l E 4 97 [vR 0, vI p, vI f] (MW b I L) 0 0 (fun rt w => (lst (fxA I p f) (I 38 0).toNat ≠ -1 ∧ rt = some (vI (I 41 (lst (fxA I p f) (I 38 0).toNat).toNat)) ∧ w = MW b I L) ∨ (lst (fxA I p f) (I 38 0).toNat = -1 ∧ ∃ J, Hrd I J p f ∧ rt = some (vI (J 61 0)) ∧ w = MW b J L)) := by
  refine con_ok (fun hw9 hs9 => ?_)
  refine con_intro (by decide) (Nat.le_of_ble_eq_true rfl) ?_
  show Rch l E 4 97 _ _ _ _ (0, [some (vR 0), some (vI p), some (vI f), none], [], MW b I L)
  refine rch_run cdK97 (by decide) 3 (t' := (3, [some (vR 0), some (vI p), some (vI f), none], [vI f, vI p, vR 0], MW b I L)) (ps := []) rfl trivial ?_
  refine rch_call (h' := 2) (k' := 98) (as := [vR 0, vI p, vI f]) (t1 := (6, [some (vR 0), some (vI p), some (vI f), none], [], MW b I L)) cdK97 rfl (k_latestFix l E b I L p f hn hr) (by decide) mw_le ?_
  rintro rt9 w9 (⟨rfl, rfl⟩) _ _
  show Rch l E 4 97 _ _ _ _ (6, [some (vR 0), some (vI p), some (vI f), none], [vI (lst (fxA I p f) (I 38 0).toNat)], MW b I L)
  have hx9 := lst_rg (fxA I p f) (I 38 0).toNat
  refine rch_run cdK97 (by decide) 3 (t' := (9, [some (vR 0), some (vI p), some (vI f), some (vI (lst (fxA I p f) (I 38 0).toNat))], [vI (-1), vI (lst (fxA I p f) (I 38 0).toNat)], MW b I L)) (ps := []) rfl trivial ?_
  refine rch_br cdK97 (cd := lst (fxA I p f) (I 38 0).toNat = ((-1) : Int)) (t1 := (22, [some (vR 0), some (vI p), some (vI f), some (vI (lst (fxA I p f) (I 38 0).toNat))], [], MW b I L)) (t2 := (12, [some (vR 0), some (vI p), some (vI f), some (vI (lst (fxA I p f) (I 38 0).toNat))], [], MW b I L)) rfl (fun c9_1 => ?_) (fun c9_1 => ?_)
  · refine rch_run cdK97 (by decide) 3 (t' := (25, [some (vR 0), some (vI p), some (vI f), some (vI (lst (fxA I p f) (I 38 0).toNat))], [vI f, vI p, vR 0], MW b I L)) (ps := []) rfl trivial ?_
    refine rch_call (h' := 3) (k' := 96) (as := [vR 0, vI p, vI f]) (t1 := (28, [some (vR 0), some (vI p), some (vI f), some (vI (lst (fxA I p f) (I 38 0).toNat))], [], MW b I L)) cdK97 rfl (k_hear l E b I L p f hK) (by decide) mw_le ?_
    rintro rt9 w9 (⟨J2, rfl, rfl, t2⟩) _ _
    show Rch l E 4 97 _ _ _ _ (28, [some (vR 0), some (vI p), some (vI f), some (vI (lst (fxA I p f) (I 38 0).toNat))], [], MW b J2 L)
    refine rch_run cdK97 (by decide) 3 (t' := (35, [some (vR 0), some (vI p), some (vI f), some (vI (lst (fxA I p f) (I 38 0).toNat))], [vI (J2 61 0)], MW b J2 L)) (ps := []) rfl trivial ?_
    refine rch_ret cdK97 (rt := some (vI (J2 61 0))) rfl trivial mw_c ?_
    exact Or.inr ⟨by omega, J2, t2, rfl, rfl⟩
  · refine rch_run cdK97 (by decide) 5 (t' := (21, [some (vR 0), some (vI p), some (vI f), some (vI (lst (fxA I p f) (I 38 0).toNat))], [vI (I 41 (lst (fxA I p f) (I 38 0).toNat).toNat)], MW b I L)) (ps := [0 ≤ lst (fxA I p f) (I 38 0).toNat ∧ lst (fxA I p f) (I 38 0).toNat < ((20 : Nat) : Int)]) rfl (by simp only [all_, i32, i64]; first | omega | (simp; done) | (simp; omega)) ?_
    refine rch_ret cdK97 (rt := some (vI (I 41 (lst (fxA I p f) (I 38 0).toNat).toNat))) rfl trivial mw_c ?_
    exact Or.inl ⟨by omega, rfl, rfl⟩

theorem VOK_c {I J : Nat → Nat → Int} (h : ∀ a j, 17 ≤ a ∧ a ≤ 27 → J a j = I a j) (hV : VOK I) : VOK J := by
  unfold VOK
  rw [h 17 0 (by omega), h 21 0 (by omega), show J 22 = I 22 from funext (fun j => h 22 j (by omega)), show J 23 = I 23 from funext (fun j => h 23 j (by omega)), show J 24 = I 24 from funext (fun j => h 24 j (by omega)), show J 27 = I 27 from funext (fun j => h 27 j (by omega))]
  exact hV
theorem GOK_c {I J : Nat → Nat → Int} (h : ∀ a j, 14 ≤ a ∧ a ≤ 43 → J a j = I a j) (hG : GOK I) : GOK J := by
  have e : ∀ a, 14 ≤ a ∧ a ≤ 43 → J a = I a := fun a ha => funext (fun j => h a j ha)
  unfold GOK
  rw [e 14 (by omega), e 15 (by omega), e 17 (by omega), e 18 (by omega), e 21 (by omega), e 25 (by omega), e 24 (by omega), e 38 (by omega), e 39 (by omega), e 41 (by omega)]
  exact hG
/-- the person of a row as the class tells it -/
def pOf (J : Nat → Nat → Int) (r : Int) : Int := if J 49 0 ≠ 0 ∧ 0 ≤ r ∧ r < 10 then J 50 r.toNat else -1

theorem k_persons_f (l : Launch) (E : AX) (I L : Nat → Nat → Int) (d k : Int) (hP : POK 1 I) : Con l E 6 77 [vR 0, vI d, vI k] (MW false I L) 0 0 (fun rt w => ∃ J M, w = MW false J M ∧ Ptd 1 I L J M d k ∧ ((J 49 0 ≠ 0 ∧ rt = some (vI (J 49 1))) ∨ (J 49 0 = 0 ∧ rt = some (vI (-2))))) := by
  refine con_ok (fun hw9 hs9 => ?_)
  refine con_intro (by decide) (Nat.le_of_ble_eq_true rfl) ?_
  show Rch l E 6 77 _ _ _ _ (0, [some (vR 0), some (vI d), some (vI k)], [], MW false I L)
  refine rch_run cdK77 (by decide) 3 (t' := (3, [some (vR 0), some (vI d), some (vI k)], [vI k, vI d, vR 0], MW false I L)) (ps := []) rfl trivial ?_
  refine rch_call (h' := 5) (k' := 94) (as := [vR 0, vI d, vI k]) (t1 := (6, [some (vR 0), some (vI d), some (vI k)], [], MW false I L)) cdK77 rfl (k_part_f l E I L d k hP) (by decide) mw_le ?_
  rintro rt9 w9 (⟨J1, M1, rfl, rfl, t1⟩) _ _
  show Rch l E 6 77 _ _ _ _ (6, [some (vR 0), some (vI d), some (vI k)], [vI (J1 49 0)], MW false J1 M1)
  refine rch_br cdK77 (cd := J1 49 0 = 0) (t1 := (19, [some (vR 0), some (vI d), some (vI k)], [], MW false J1 M1)) (t2 := (9, [some (vR 0), some (vI d), some (vI k)], [], MW false J1 M1)) rfl (fun c6_1 => ?_) (fun c6_1 => ?_)
  · refine rch_run cdK77 (by decide) 1 (t' := (21, [some (vR 0), some (vI d), some (vI k)], [vI (-2)], MW false J1 M1)) (ps := []) rfl trivial ?_
    refine rch_ret cdK77 (rt := some (vI (-2))) rfl trivial mw_c ?_
    exact ⟨J1, M1, rfl, t1, by first | exact Or.inl ⟨by omega, rfl⟩ | exact Or.inr ⟨by omega, rfl⟩⟩
  · refine rch_run cdK77 (by decide) 4 (t' := (21, [some (vR 0), some (vI d), some (vI k)], [vI (J1 49 1)], MW false J1 M1)) (ps := []) rfl trivial ?_
    refine rch_ret cdK77 (rt := some (vI (J1 49 1))) rfl trivial mw_c ?_
    exact ⟨J1, M1, rfl, t1, by first | exact Or.inl ⟨by omega, rfl⟩ | exact Or.inr ⟨by omega, rfl⟩⟩

theorem k_worth_f (l : Launch) (E : AX) (I L : Nat → Nat → Int) (d k : Int) (hP : POK 1 I) : Con l E 6 78 [vR 0, vI d, vI k] (MW false I L) 0 0 (fun rt w => ∃ J M, w = MW false J M ∧ Ptd 1 I L J M d k ∧ ((J 49 0 ≠ 0 ∧ rt = some (vI (J 49 2))) ∨ (J 49 0 = 0 ∧ rt = some (vI (-2000000))))) := by
  refine con_ok (fun hw9 hs9 => ?_)
  refine con_intro (by decide) (Nat.le_of_ble_eq_true rfl) ?_
  show Rch l E 6 78 _ _ _ _ (0, [some (vR 0), some (vI d), some (vI k)], [], MW false I L)
  refine rch_run cdK78 (by decide) 3 (t' := (3, [some (vR 0), some (vI d), some (vI k)], [vI k, vI d, vR 0], MW false I L)) (ps := []) rfl trivial ?_
  refine rch_call (h' := 5) (k' := 94) (as := [vR 0, vI d, vI k]) (t1 := (6, [some (vR 0), some (vI d), some (vI k)], [], MW false I L)) cdK78 rfl (k_part_f l E I L d k hP) (by decide) mw_le ?_
  rintro rt9 w9 (⟨J1, M1, rfl, rfl, t1⟩) _ _
  show Rch l E 6 78 _ _ _ _ (6, [some (vR 0), some (vI d), some (vI k)], [vI (J1 49 0)], MW false J1 M1)
  refine rch_br cdK78 (cd := J1 49 0 = 0) (t1 := (19, [some (vR 0), some (vI d), some (vI k)], [], MW false J1 M1)) (t2 := (9, [some (vR 0), some (vI d), some (vI k)], [], MW false J1 M1)) rfl (fun c6_1 => ?_) (fun c6_1 => ?_)
  · refine rch_run cdK78 (by decide) 1 (t' := (21, [some (vR 0), some (vI d), some (vI k)], [vI (-2000000)], MW false J1 M1)) (ps := []) rfl trivial ?_
    refine rch_ret cdK78 (rt := some (vI (-2000000))) rfl trivial mw_c ?_
    exact ⟨J1, M1, rfl, t1, by first | exact Or.inl ⟨by omega, rfl⟩ | exact Or.inr ⟨by omega, rfl⟩⟩
  · refine rch_run cdK78 (by decide) 4 (t' := (21, [some (vR 0), some (vI d), some (vI k)], [vI (J1 49 2)], MW false J1 M1)) (ps := []) rfl trivial ?_
    refine rch_ret cdK78 (rt := some (vI (J1 49 2))) rfl trivial mw_c ?_
    exact ⟨J1, M1, rfl, t1, by first | exact Or.inl ⟨by omega, rfl⟩ | exact Or.inr ⟨by omega, rfl⟩⟩

theorem k_person_f (l : Launch) (E : AX) (I L : Nat → Nat → Int) (r d k : Int) (hP : POK 1 I) : Con l E 6 79 [vR 0, vI r, vI d, vI k] (MW false I L) 0 0 (fun rt w => ∃ J M, w = MW false J M ∧ Ptd 1 I L J M d k ∧ rt = some (vI (pOf J r))) := by
  refine con_ok (fun hw9 hs9 => ?_)
  refine con_intro (by decide) (Nat.le_of_ble_eq_true rfl) ?_
  show Rch l E 6 79 _ _ _ _ (0, [some (vR 0), some (vI r), some (vI d), some (vI k)], [], MW false I L)
  refine rch_run cdK79 (by decide) 3 (t' := (3, [some (vR 0), some (vI r), some (vI d), some (vI k)], [vI k, vI d, vR 0], MW false I L)) (ps := []) rfl trivial ?_
  refine rch_call (h' := 5) (k' := 94) (as := [vR 0, vI d, vI k]) (t1 := (6, [some (vR 0), some (vI r), some (vI d), some (vI k)], [], MW false I L)) cdK79 rfl (k_part_f l E I L d k hP) (by decide) mw_le ?_
  rintro rt9 w9 (⟨J1, M1, rfl, rfl, t1⟩) _ _
  show Rch l E 6 79 _ _ _ _ (6, [some (vR 0), some (vI r), some (vI d), some (vI k)], [vI (J1 49 0)], MW false J1 M1)
  refine rch_br cdK79 (cd := J1 49 0 = 0) (t1 := (20, [some (vR 0), some (vI r), some (vI d), some (vI k)], [], MW false J1 M1)) (t2 := (9, [some (vR 0), some (vI r), some (vI d), some (vI k)], [], MW false J1 M1)) rfl (fun c6_1 => ?_) (fun c6_1 => ?_)
  · refine rch_run cdK79 (by decide) 1 (t' := (21, [some (vR 0), some (vI r), some (vI d), some (vI k)], [vI (-1)], MW false J1 M1)) (ps := []) rfl trivial ?_
    refine rch_ret cdK79 (rt := some (vI (-1))) rfl trivial mw_c ?_
    exact ⟨J1, M1, rfl, t1, by unfold pOf; first | rw [if_pos (by omega)] | rw [if_neg (by omega)]⟩
  · refine rch_run cdK79 (by decide) 3 (t' := (14, [some (vR 0), some (vI r), some (vI d), some (vI k)], [vI r, vR 49], MW false J1 M1)) (ps := []) rfl trivial ?_
    refine rch_call (h' := 1) (k' := 20) (as := [vR 49, vI r]) (t1 := (17, [some (vR 0), some (vI r), some (vI d), some (vI k)], [], MW false J1 M1)) cdK79 rfl (k_X3_personOf l E false J1 M1 r ) (by decide) mw_le ?_
    rintro rt9 w9 (⟨k62, rfl, rfl⟩ | ⟨k62, rfl, rfl⟩) _ _
    · show Rch l E 6 79 _ _ _ _ (17, [some (vR 0), some (vI r), some (vI d), some (vI k)], [vI (J1 50 r.toNat)], MW false J1 M1)
      have k62 : 0 ≤ r ∧ r < 10 := k62
      refine rch_run cdK79 (by decide) 1 (t' := (21, [some (vR 0), some (vI r), some (vI d), some (vI k)], [vI (J1 50 r.toNat)], MW false J1 M1)) (ps := []) rfl trivial ?_
      refine rch_ret cdK79 (rt := some (vI (J1 50 r.toNat))) rfl trivial mw_c ?_
      exact ⟨J1, M1, rfl, t1, by unfold pOf; first | rw [if_pos (by omega)] | rw [if_neg (by omega)]⟩
    · show Rch l E 6 79 _ _ _ _ (17, [some (vR 0), some (vI r), some (vI d), some (vI k)], [vI (-1)], MW false J1 M1)
      have k62 : ¬ (0 ≤ r ∧ r < 10) := k62
      refine rch_run cdK79 (by decide) 1 (t' := (21, [some (vR 0), some (vI r), some (vI d), some (vI k)], [vI (-1)], MW false J1 M1)) (ps := []) rfl trivial ?_
      refine rch_ret cdK79 (rt := some (vI (-1))) rfl trivial mw_c ?_
      exact ⟨J1, M1, rfl, t1, by unfold pOf; first | rw [if_pos (by omega)] | rw [if_neg (by omega)]⟩

theorem k_personAsked_f (l : Launch) (E : AX) (I L : Nat → Nat → Int) (r f d k : Int) (hP : POK 1 I) : Con l E 6 95 [vR 0, vI r, vI f, vI d, vI k] (MW false I L) 0 0 (fun rt w => ((0 ≤ f ∧ f ≤ 5) ∧ ∃ J M, w = MW false J M ∧ Ptd 1 I L J M d k ∧ rt = some (vI (pOf J r))) ∨ (¬ (0 ≤ f ∧ f ≤ 5) ∧ rt = some (vI (-1)) ∧ w = MW false I L)) := by
  refine con_ok (fun hw9 hs9 => ?_)
  refine con_intro (by decide) (Nat.le_of_ble_eq_true rfl) ?_
  show Rch l E 6 95 _ _ _ _ (0, [some (vR 0), some (vI r), some (vI f), some (vI d), some (vI k)], [], MW false I L)
  refine rch_run cdK95 (by decide) 1 (t' := (1, [some (vR 0), some (vI r), some (vI f), some (vI d), some (vI k)], [vI f], MW false I L)) (ps := []) rfl trivial ?_
  refine rch_call (h' := 1) (k' := 91) (as := [vI f]) (t1 := (4, [some (vR 0), some (vI r), some (vI f), some (vI d), some (vI k)], [], MW false I L)) cdK95 rfl (k_X11_isField l E false I L f ) (by decide) mw_le ?_
  rintro rt9 w9 (⟨k63, rfl, rfl⟩ | ⟨k63, rfl, rfl⟩) _ _
  · show Rch l E 6 95 _ _ _ _ (4, [some (vR 0), some (vI r), some (vI f), some (vI d), some (vI k)], [vI 1], MW false I L)
    have k63 : 0 ≤ f ∧ f ≤ 5 := k63
    refine rch_br cdK95 (cd := (1 : Int) = 0) (t1 := (28, [some (vR 0), some (vI r), some (vI f), some (vI d), some (vI k)], [], MW false I L)) (t2 := (7, [some (vR 0), some (vI r), some (vI f), some (vI d), some (vI k)], [], MW false I L)) rfl (fun c9 => absurd c9 (by decide)) (fun _ => ?_)
    refine rch_run cdK95 (by decide) 3 (t' := (11, [some (vR 0), some (vI r), some (vI f), some (vI d), some (vI k)], [vI k, vI d, vR 0], MW false I L)) (ps := []) rfl trivial ?_
    refine rch_call (h' := 5) (k' := 94) (as := [vR 0, vI d, vI k]) (t1 := (14, [some (vR 0), some (vI r), some (vI f), some (vI d), some (vI k)], [], MW false I L)) cdK95 rfl (k_part_f l E I L d k hP) (by decide) mw_le ?_
    rintro rt9 w9 (⟨J1, M1, rfl, rfl, t1⟩) _ _
    show Rch l E 6 95 _ _ _ _ (14, [some (vR 0), some (vI r), some (vI f), some (vI d), some (vI k)], [vI (J1 49 0)], MW false J1 M1)
    refine rch_br cdK95 (cd := J1 49 0 = 0) (t1 := (28, [some (vR 0), some (vI r), some (vI f), some (vI d), some (vI k)], [], MW false J1 M1)) (t2 := (17, [some (vR 0), some (vI r), some (vI f), some (vI d), some (vI k)], [], MW false J1 M1)) rfl (fun c14_2 => ?_) (fun c14_2 => ?_)
    · refine rch_run cdK95 (by decide) 1 (t' := (29, [some (vR 0), some (vI r), some (vI f), some (vI d), some (vI k)], [vI (-1)], MW false J1 M1)) (ps := []) rfl trivial ?_
      refine rch_ret cdK95 (rt := some (vI (-1))) rfl trivial mw_c ?_
      exact Or.inl ⟨by omega, J1, M1, rfl, t1, by unfold pOf; first | rw [if_pos (by omega)] | rw [if_neg (by omega)]⟩
    · refine rch_run cdK95 (by decide) 3 (t' := (22, [some (vR 0), some (vI r), some (vI f), some (vI d), some (vI k)], [vI r, vR 49], MW false J1 M1)) (ps := []) rfl trivial ?_
      refine rch_call (h' := 1) (k' := 20) (as := [vR 49, vI r]) (t1 := (25, [some (vR 0), some (vI r), some (vI f), some (vI d), some (vI k)], [], MW false J1 M1)) cdK95 rfl (k_X3_personOf l E false J1 M1 r ) (by decide) mw_le ?_
      rintro rt9 w9 (⟨k64, rfl, rfl⟩ | ⟨k64, rfl, rfl⟩) _ _
      · show Rch l E 6 95 _ _ _ _ (25, [some (vR 0), some (vI r), some (vI f), some (vI d), some (vI k)], [vI (J1 50 r.toNat)], MW false J1 M1)
        have k64 : 0 ≤ r ∧ r < 10 := k64
        refine rch_run cdK95 (by decide) 1 (t' := (29, [some (vR 0), some (vI r), some (vI f), some (vI d), some (vI k)], [vI (J1 50 r.toNat)], MW false J1 M1)) (ps := []) rfl trivial ?_
        refine rch_ret cdK95 (rt := some (vI (J1 50 r.toNat))) rfl trivial mw_c ?_
        exact Or.inl ⟨by omega, J1, M1, rfl, t1, by unfold pOf; first | rw [if_pos (by omega)] | rw [if_neg (by omega)]⟩
      · show Rch l E 6 95 _ _ _ _ (25, [some (vR 0), some (vI r), some (vI f), some (vI d), some (vI k)], [vI (-1)], MW false J1 M1)
        have k64 : ¬ (0 ≤ r ∧ r < 10) := k64
        refine rch_run cdK95 (by decide) 1 (t' := (29, [some (vR 0), some (vI r), some (vI f), some (vI d), some (vI k)], [vI (-1)], MW false J1 M1)) (ps := []) rfl trivial ?_
        refine rch_ret cdK95 (rt := some (vI (-1))) rfl trivial mw_c ?_
        exact Or.inl ⟨by omega, J1, M1, rfl, t1, by unfold pOf; first | rw [if_pos (by omega)] | rw [if_neg (by omega)]⟩
  · show Rch l E 6 95 _ _ _ _ (4, [some (vR 0), some (vI r), some (vI f), some (vI d), some (vI k)], [vI 0], MW false I L)
    have k63 : ¬ (0 ≤ f ∧ f ≤ 5) := k63
    refine rch_br cdK95 (cd := (0 : Int) = 0) (t1 := (28, [some (vR 0), some (vI r), some (vI f), some (vI d), some (vI k)], [], MW false I L)) (t2 := (7, [some (vR 0), some (vI r), some (vI f), some (vI d), some (vI k)], [], MW false I L)) rfl (fun _ => ?_) (fun c9 => absurd (by decide) c9)
    refine rch_run cdK95 (by decide) 1 (t' := (29, [some (vR 0), some (vI r), some (vI f), some (vI d), some (vI k)], [vI (-1)], MW false I L)) (ps := []) rfl trivial ?_
    refine rch_ret cdK95 (rt := some (vI (-1))) rfl trivial mw_c ?_
    exact Or.inr ⟨by omega, rfl, rfl⟩

theorem k_golden_f (l : Launch) (E : AX) (I L : Nat → Nat → Int) (r f d k : Int) (hP : POK 1 I) (hG : GOK I) (hd : d ≤ 2147483647) : Con l E 7 80 [vR 0, vI r, vI f, vI d, vI k] (MW false I L) 0 0 (fun rt w => (¬ (0 ≤ f ∧ f ≤ 5) ∧ rt = some (vI (-1)) ∧ w = MW false I L) ∨ ((0 ≤ f ∧ f ≤ 5) ∧ ∃ J M, Ptd 1 I L J M d k ∧ ((pOf J r = -1 ∧ rt = some (vI (-1)) ∧ w = MW false J M) ∨ (pOf J r ≠ -1 ∧ ((lst (fxA J (pOf J r) f) (J 38 0).toNat ≠ -1 ∧ rt = some (vI (J 41 (lst (fxA J (pOf J r) f) (J 38 0).toNat).toNat)) ∧ w = MW false J M) ∨ (lst (fxA J (pOf J r) f) (J 38 0).toNat = -1 ∧ ∃ J2, Hrd J J2 (pOf J r) f ∧ rt = some (vI (J2 61 0)) ∧ w = MW false J2 M)))))) := by
  refine con_ok (fun hw9 hs9 => ?_)
  refine con_intro (by decide) (Nat.le_of_ble_eq_true rfl) ?_
  show Rch l E 7 80 _ _ _ _ (0, [some (vR 0), some (vI r), some (vI f), some (vI d), some (vI k), none], [], MW false I L)
  refine rch_run cdK80 (by decide) 5 (t' := (6, [some (vR 0), some (vI r), some (vI f), some (vI d), some (vI k), none], [vI k, vI d, vI f, vI r, vR 0], MW false I L)) (ps := []) rfl trivial ?_
  refine rch_call (h' := 6) (k' := 95) (as := [vR 0, vI r, vI f, vI d, vI k]) (t1 := (9, [some (vR 0), some (vI r), some (vI f), some (vI d), some (vI k), none], [], MW false I L)) cdK80 rfl (k_personAsked_f l E I L r f d k hP) (by decide) mw_le ?_
  rintro rt9 w9 (⟨hf, J1, M1, rfl, t1, rfl⟩ | ⟨hf, rfl, rfl⟩) _ _
  · show Rch l E 7 80 _ _ _ _ (9, [some (vR 0), some (vI r), some (vI f), some (vI d), some (vI k), none], [vI (pOf J1 r)], MW false J1 M1)
    have hV1 : VOK J1 := VOK_c (fun a j ha => t1.2.1 a j (by omega)) hP.1
    have hG1 : GOK J1 := GOK_c (fun a j ha => t1.2.1 a j (by omega)) hG
    have hK9 : pOf J1 r ≠ -1 → VgK J1 (pOf J1 r) f := fun z => VgK_mk t1.2.2.1 hV1 hG1 t1.2.2.2.2.2 hd hf z
    have hn1 := hG1.2.2.2.2.1
    have hr1 := fun m hm => (hG1.2.2.2.2.2 m hm).1
    refine rch_run cdK80 (by decide) 3 (t' := (14, [some (vR 0), some (vI r), some (vI f), some (vI d), some (vI k), some (vI (pOf J1 r))], [vI (-1), vI (pOf J1 r)], MW false J1 M1)) (ps := []) rfl trivial ?_
    refine rch_br cdK80 (cd := pOf J1 r ≠ ((-1) : Int)) (t1 := (21, [some (vR 0), some (vI r), some (vI f), some (vI d), some (vI k), some (vI (pOf J1 r))], [], MW false J1 M1)) (t2 := (17, [some (vR 0), some (vI r), some (vI f), some (vI d), some (vI k), some (vI (pOf J1 r))], [], MW false J1 M1)) rfl (fun c14_1 => ?_) (fun c14_1 => ?_)
    · refine rch_run cdK80 (by decide) 3 (t' := (25, [some (vR 0), some (vI r), some (vI f), some (vI d), some (vI k), some (vI (pOf J1 r))], [vI f, vI (pOf J1 r), vR 0], MW false J1 M1)) (ps := []) rfl trivial ?_
      refine rch_call (h' := 4) (k' := 97) (as := [vR 0, vI (pOf J1 r), vI f]) (t1 := (28, [some (vR 0), some (vI r), some (vI f), some (vI d), some (vI k), some (vI (pOf J1 r))], [], MW false J1 M1)) cdK80 rfl (k_goldenOf l E false J1 M1 (pOf J1 r) f hn1 hr1 (hK9 (by omega))) (by decide) mw_le ?_
      rintro rt9 w9 (⟨k9, rfl, rfl⟩ | ⟨k9, J2, t2, rfl, rfl⟩) _ _
      · show Rch l E 7 80 _ _ _ _ (28, [some (vR 0), some (vI r), some (vI f), some (vI d), some (vI k), some (vI (pOf J1 r))], [vI (J1 41 (lst (fxA J1 (pOf J1 r) f) (J1 38 0).toNat).toNat)], MW false J1 M1)
        refine rch_ret cdK80 (rt := some (vI (J1 41 (lst (fxA J1 (pOf J1 r) f) (J1 38 0).toNat).toNat))) rfl trivial mw_c ?_
        first | exact Or.inr ⟨hf, J1, M1, t1, Or.inl ⟨by omega, rfl, rfl⟩⟩ | exact Or.inr ⟨hf, J1, M1, t1, Or.inr ⟨by omega, Or.inl ⟨by omega, rfl, rfl⟩⟩⟩
      · show Rch l E 7 80 _ _ _ _ (28, [some (vR 0), some (vI r), some (vI f), some (vI d), some (vI k), some (vI (pOf J1 r))], [vI (J2 61 0)], MW false J2 M1)
        refine rch_ret cdK80 (rt := some (vI (J2 61 0))) rfl trivial mw_c ?_
        exact Or.inr ⟨hf, J1, M1, t1, Or.inr ⟨by omega, Or.inr ⟨by omega, J2, t2, rfl, rfl⟩⟩⟩
    · refine rch_run cdK80 (by decide) 2 (t' := (28, [some (vR 0), some (vI r), some (vI f), some (vI d), some (vI k), some (vI (pOf J1 r))], [vI (-1)], MW false J1 M1)) (ps := []) rfl trivial ?_
      refine rch_ret cdK80 (rt := some (vI (-1))) rfl trivial mw_c ?_
      first | exact Or.inr ⟨hf, J1, M1, t1, Or.inl ⟨by omega, rfl, rfl⟩⟩ | exact Or.inr ⟨hf, J1, M1, t1, Or.inr ⟨by omega, Or.inl ⟨by omega, rfl, rfl⟩⟩⟩
  · show Rch l E 7 80 _ _ _ _ (9, [some (vR 0), some (vI r), some (vI f), some (vI d), some (vI k), none], [vI (-1)], MW false I L)
    refine rch_run cdK80 (by decide) 3 (t' := (14, [some (vR 0), some (vI r), some (vI f), some (vI d), some (vI k), some (vI (-1))], [vI (-1), vI (-1)], MW false I L)) (ps := []) rfl trivial ?_
    refine rch_br cdK80 (cd := ((-1) : Int) ≠ ((-1) : Int)) (t1 := (21, [some (vR 0), some (vI r), some (vI f), some (vI d), some (vI k), some (vI (-1))], [], MW false I L)) (t2 := (17, [some (vR 0), some (vI r), some (vI f), some (vI d), some (vI k), some (vI (-1))], [], MW false I L)) rfl (fun c9 => absurd c9 (by decide)) (fun _ => ?_)
    refine rch_run cdK80 (by decide) 2 (t' := (28, [some (vR 0), some (vI r), some (vI f), some (vI d), some (vI k), some (vI (-1))], [vI (-1)], MW false I L)) (ps := []) rfl trivial ?_
    refine rch_ret cdK80 (rt := some (vI (-1))) rfl trivial mw_c ?_
    exact Or.inl ⟨hf, rfl, rfl⟩

theorem k_from_f (l : Launch) (E : AX) (I L : Nat → Nat → Int) (r f d k : Int) (hP : POK 1 I) (hG : GOK I) (hd : d ≤ 2147483647) : Con l E 7 81 [vR 0, vI r, vI f, vI d, vI k] (MW false I L) 0 0 (fun rt w => (¬ (0 ≤ f ∧ f ≤ 5) ∧ rt = some (vI (-1)) ∧ w = MW false I L) ∨ ((0 ≤ f ∧ f ≤ 5) ∧ ∃ J M, Ptd 1 I L J M d k ∧ ((pOf J r = -1 ∧ rt = some (vI (-1)) ∧ w = MW false J M) ∨ (pOf J r ≠ -1 ∧ ((lst (fxA J (pOf J r) f) (J 38 0).toNat ≠ -1 ∧ rt = some (vI (-2)) ∧ w = MW false J M) ∨ (lst (fxA J (pOf J r) f) (J 38 0).toNat = -1 ∧ ∃ J2, Hrd J J2 (pOf J r) f ∧ rt = some (vI (J2 61 1)) ∧ w = MW false J2 M)))))) := by
  refine con_ok (fun hw9 hs9 => ?_)
  refine con_intro (by decide) (Nat.le_of_ble_eq_true rfl) ?_
  show Rch l E 7 81 _ _ _ _ (0, [some (vR 0), some (vI r), some (vI f), some (vI d), some (vI k), none], [], MW false I L)
  refine rch_run cdK81 (by decide) 5 (t' := (6, [some (vR 0), some (vI r), some (vI f), some (vI d), some (vI k), none], [vI k, vI d, vI f, vI r, vR 0], MW false I L)) (ps := []) rfl trivial ?_
  refine rch_call (h' := 6) (k' := 95) (as := [vR 0, vI r, vI f, vI d, vI k]) (t1 := (9, [some (vR 0), some (vI r), some (vI f), some (vI d), some (vI k), none], [], MW false I L)) cdK81 rfl (k_personAsked_f l E I L r f d k hP) (by decide) mw_le ?_
  rintro rt9 w9 (⟨hf, J1, M1, rfl, t1, rfl⟩ | ⟨hf, rfl, rfl⟩) _ _
  · show Rch l E 7 81 _ _ _ _ (9, [some (vR 0), some (vI r), some (vI f), some (vI d), some (vI k), none], [vI (pOf J1 r)], MW false J1 M1)
    have hV1 : VOK J1 := VOK_c (fun a j ha => t1.2.1 a j (by omega)) hP.1
    have hG1 : GOK J1 := GOK_c (fun a j ha => t1.2.1 a j (by omega)) hG
    have hK9 : pOf J1 r ≠ -1 → VgK J1 (pOf J1 r) f := fun z => VgK_mk t1.2.2.1 hV1 hG1 t1.2.2.2.2.2 hd hf z
    have hn1 := hG1.2.2.2.2.1
    have hr1 := fun m hm => (hG1.2.2.2.2.2 m hm).1
    refine rch_run cdK81 (by decide) 3 (t' := (14, [some (vR 0), some (vI r), some (vI f), some (vI d), some (vI k), some (vI (pOf J1 r))], [vI (-1), vI (pOf J1 r)], MW false J1 M1)) (ps := []) rfl trivial ?_
    refine rch_br cdK81 (cd := pOf J1 r ≠ ((-1) : Int)) (t1 := (19, [some (vR 0), some (vI r), some (vI f), some (vI d), some (vI k), some (vI (pOf J1 r))], [], MW false J1 M1)) (t2 := (17, [some (vR 0), some (vI r), some (vI f), some (vI d), some (vI k), some (vI (pOf J1 r))], [], MW false J1 M1)) rfl (fun c14_1 => ?_) (fun c14_1 => ?_)
    · refine rch_run cdK81 (by decide) 3 (t' := (23, [some (vR 0), some (vI r), some (vI f), some (vI d), some (vI k), some (vI (pOf J1 r))], [vI f, vI (pOf J1 r), vR 0], MW false J1 M1)) (ps := []) rfl trivial ?_
      refine rch_call (h' := 2) (k' := 98) (as := [vR 0, vI (pOf J1 r), vI f]) (t1 := (26, [some (vR 0), some (vI r), some (vI f), some (vI d), some (vI k), some (vI (pOf J1 r))], [], MW false J1 M1)) cdK81 rfl (k_latestFix l E false J1 M1 (pOf J1 r) f hn1 hr1) (by decide) mw_le ?_
      rintro rt9 w9 (⟨rfl, rfl⟩) _ _
      show Rch l E 7 81 _ _ _ _ (26, [some (vR 0), some (vI r), some (vI f), some (vI d), some (vI k), some (vI (pOf J1 r))], [vI (lst (fxA J1 (pOf J1 r) f) (J1 38 0).toNat)], MW false J1 M1)
      refine rch_run cdK81 (by decide) 1 (t' := (27, [some (vR 0), some (vI r), some (vI f), some (vI d), some (vI k), some (vI (pOf J1 r))], [vI (-1), vI (lst (fxA J1 (pOf J1 r) f) (J1 38 0).toNat)], MW false J1 M1)) (ps := []) rfl trivial ?_
      refine rch_br cdK81 (cd := lst (fxA J1 (pOf J1 r) f) (J1 38 0).toNat = ((-1) : Int)) (t1 := (33, [some (vR 0), some (vI r), some (vI f), some (vI d), some (vI k), some (vI (pOf J1 r))], [], MW false J1 M1)) (t2 := (30, [some (vR 0), some (vI r), some (vI f), some (vI d), some (vI k), some (vI (pOf J1 r))], [], MW false J1 M1)) rfl (fun c27_2 => ?_) (fun c27_2 => ?_)
      · refine rch_run cdK81 (by decide) 3 (t' := (37, [some (vR 0), some (vI r), some (vI f), some (vI d), some (vI k), some (vI (pOf J1 r))], [vI f, vI (pOf J1 r), vR 0], MW false J1 M1)) (ps := []) rfl trivial ?_
        refine rch_call (h' := 3) (k' := 96) (as := [vR 0, vI (pOf J1 r), vI f]) (t1 := (40, [some (vR 0), some (vI r), some (vI f), some (vI d), some (vI k), some (vI (pOf J1 r))], [], MW false J1 M1)) cdK81 rfl (k_hear l E false J1 M1 (pOf J1 r) f (hK9 (by omega))) (by decide) mw_le ?_
        rintro rt9 w9 (⟨J2, rfl, rfl, t2⟩) _ _
        show Rch l E 7 81 _ _ _ _ (40, [some (vR 0), some (vI r), some (vI f), some (vI d), some (vI k), some (vI (pOf J1 r))], [], MW false J2 M1)
        refine rch_run cdK81 (by decide) 3 (t' := (47, [some (vR 0), some (vI r), some (vI f), some (vI d), some (vI k), some (vI (pOf J1 r))], [vI (J2 61 1)], MW false J2 M1)) (ps := []) rfl trivial ?_
        refine rch_ret cdK81 (rt := some (vI (J2 61 1))) rfl trivial mw_c ?_
        exact Or.inr ⟨hf, J1, M1, t1, Or.inr ⟨by omega, Or.inr ⟨by omega, J2, t2, rfl, rfl⟩⟩⟩
      · refine rch_run cdK81 (by decide) 1 (t' := (32, [some (vR 0), some (vI r), some (vI f), some (vI d), some (vI k), some (vI (pOf J1 r))], [vI (-2)], MW false J1 M1)) (ps := []) rfl trivial ?_
        refine rch_ret cdK81 (rt := some (vI (-2))) rfl trivial mw_c ?_
        first | exact Or.inr ⟨hf, J1, M1, t1, Or.inl ⟨by omega, rfl, rfl⟩⟩ | exact Or.inr ⟨hf, J1, M1, t1, Or.inr ⟨by omega, Or.inl ⟨by omega, rfl, rfl⟩⟩⟩
    · refine rch_run cdK81 (by decide) 1 (t' := (18, [some (vR 0), some (vI r), some (vI f), some (vI d), some (vI k), some (vI (pOf J1 r))], [vI (-1)], MW false J1 M1)) (ps := []) rfl trivial ?_
      refine rch_ret cdK81 (rt := some (vI (-1))) rfl trivial mw_c ?_
      first | exact Or.inr ⟨hf, J1, M1, t1, Or.inl ⟨by omega, rfl, rfl⟩⟩ | exact Or.inr ⟨hf, J1, M1, t1, Or.inr ⟨by omega, Or.inl ⟨by omega, rfl, rfl⟩⟩⟩
  · show Rch l E 7 81 _ _ _ _ (9, [some (vR 0), some (vI r), some (vI f), some (vI d), some (vI k), none], [vI (-1)], MW false I L)
    refine rch_run cdK81 (by decide) 3 (t' := (14, [some (vR 0), some (vI r), some (vI f), some (vI d), some (vI k), some (vI (-1))], [vI (-1), vI (-1)], MW false I L)) (ps := []) rfl trivial ?_
    refine rch_br cdK81 (cd := ((-1) : Int) ≠ ((-1) : Int)) (t1 := (19, [some (vR 0), some (vI r), some (vI f), some (vI d), some (vI k), some (vI (-1))], [], MW false I L)) (t2 := (17, [some (vR 0), some (vI r), some (vI f), some (vI d), some (vI k), some (vI (-1))], [], MW false I L)) rfl (fun c9 => absurd c9 (by decide)) (fun _ => ?_)
    refine rch_run cdK81 (by decide) 1 (t' := (18, [some (vR 0), some (vI r), some (vI f), some (vI d), some (vI k), some (vI (-1))], [vI (-1)], MW false I L)) (ps := []) rfl trivial ?_
    refine rch_ret cdK81 (rt := some (vI (-1))) rfl trivial mw_c ?_
    exact Or.inl ⟨hf, rfl, rfl⟩

theorem k_torn_f (l : Launch) (E : AX) (I L : Nat → Nat → Int) (r f d k : Int) (hP : POK 1 I) (hG : GOK I) (hd : d ≤ 2147483647) : Con l E 7 82 [vR 0, vI r, vI f, vI d, vI k] (MW false I L) 0 0 (fun rt w => (¬ (0 ≤ f ∧ f ≤ 5) ∧ rt = some (vI (-1)) ∧ w = MW false I L) ∨ ((0 ≤ f ∧ f ≤ 5) ∧ ∃ J M, Ptd 1 I L J M d k ∧ ((pOf J r = -1 ∧ rt = some (vI (-1)) ∧ w = MW false J M) ∨ (pOf J r ≠ -1 ∧ ∃ J2, Hrd J J2 (pOf J r) f ∧ rt = some (vI (J2 61 2)) ∧ w = MW false J2 M)))) := by
  refine con_ok (fun hw9 hs9 => ?_)
  refine con_intro (by decide) (Nat.le_of_ble_eq_true rfl) ?_
  show Rch l E 7 82 _ _ _ _ (0, [some (vR 0), some (vI r), some (vI f), some (vI d), some (vI k), none], [], MW false I L)
  refine rch_run cdK82 (by decide) 5 (t' := (6, [some (vR 0), some (vI r), some (vI f), some (vI d), some (vI k), none], [vI k, vI d, vI f, vI r, vR 0], MW false I L)) (ps := []) rfl trivial ?_
  refine rch_call (h' := 6) (k' := 95) (as := [vR 0, vI r, vI f, vI d, vI k]) (t1 := (9, [some (vR 0), some (vI r), some (vI f), some (vI d), some (vI k), none], [], MW false I L)) cdK82 rfl (k_personAsked_f l E I L r f d k hP) (by decide) mw_le ?_
  rintro rt9 w9 (⟨hf, J1, M1, rfl, t1, rfl⟩ | ⟨hf, rfl, rfl⟩) _ _
  · show Rch l E 7 82 _ _ _ _ (9, [some (vR 0), some (vI r), some (vI f), some (vI d), some (vI k), none], [vI (pOf J1 r)], MW false J1 M1)
    have hV1 : VOK J1 := VOK_c (fun a j ha => t1.2.1 a j (by omega)) hP.1
    have hG1 : GOK J1 := GOK_c (fun a j ha => t1.2.1 a j (by omega)) hG
    have hK9 : pOf J1 r ≠ -1 → VgK J1 (pOf J1 r) f := fun z => VgK_mk t1.2.2.1 hV1 hG1 t1.2.2.2.2.2 hd hf z
    have hn1 := hG1.2.2.2.2.1
    have hr1 := fun m hm => (hG1.2.2.2.2.2 m hm).1
    refine rch_run cdK82 (by decide) 3 (t' := (14, [some (vR 0), some (vI r), some (vI f), some (vI d), some (vI k), some (vI (pOf J1 r))], [vI (-1), vI (pOf J1 r)], MW false J1 M1)) (ps := []) rfl trivial ?_
    refine rch_br cdK82 (cd := pOf J1 r ≠ ((-1) : Int)) (t1 := (19, [some (vR 0), some (vI r), some (vI f), some (vI d), some (vI k), some (vI (pOf J1 r))], [], MW false J1 M1)) (t2 := (17, [some (vR 0), some (vI r), some (vI f), some (vI d), some (vI k), some (vI (pOf J1 r))], [], MW false J1 M1)) rfl (fun c14_1 => ?_) (fun c14_1 => ?_)
    · refine rch_run cdK82 (by decide) 3 (t' := (23, [some (vR 0), some (vI r), some (vI f), some (vI d), some (vI k), some (vI (pOf J1 r))], [vI f, vI (pOf J1 r), vR 0], MW false J1 M1)) (ps := []) rfl trivial ?_
      refine rch_call (h' := 3) (k' := 96) (as := [vR 0, vI (pOf J1 r), vI f]) (t1 := (26, [some (vR 0), some (vI r), some (vI f), some (vI d), some (vI k), some (vI (pOf J1 r))], [], MW false J1 M1)) cdK82 rfl (k_hear l E false J1 M1 (pOf J1 r) f (hK9 (by omega))) (by decide) mw_le ?_
      rintro rt9 w9 (⟨J2, rfl, rfl, t2⟩) _ _
      show Rch l E 7 82 _ _ _ _ (26, [some (vR 0), some (vI r), some (vI f), some (vI d), some (vI k), some (vI (pOf J1 r))], [], MW false J2 M1)
      refine rch_run cdK82 (by decide) 3 (t' := (33, [some (vR 0), some (vI r), some (vI f), some (vI d), some (vI k), some (vI (pOf J1 r))], [vI (J2 61 2)], MW false J2 M1)) (ps := []) rfl trivial ?_
      refine rch_ret cdK82 (rt := some (vI (J2 61 2))) rfl trivial mw_c ?_
      exact Or.inr ⟨hf, J1, M1, t1, Or.inr ⟨by omega, J2, t2, rfl, rfl⟩⟩
    · refine rch_run cdK82 (by decide) 1 (t' := (18, [some (vR 0), some (vI r), some (vI f), some (vI d), some (vI k), some (vI (pOf J1 r))], [vI (-1)], MW false J1 M1)) (ps := []) rfl trivial ?_
      refine rch_ret cdK82 (rt := some (vI (-1))) rfl trivial mw_c ?_
      exact Or.inr ⟨hf, J1, M1, t1, Or.inl ⟨by omega, rfl, rfl⟩⟩
  · show Rch l E 7 82 _ _ _ _ (9, [some (vR 0), some (vI r), some (vI f), some (vI d), some (vI k), none], [vI (-1)], MW false I L)
    refine rch_run cdK82 (by decide) 3 (t' := (14, [some (vR 0), some (vI r), some (vI f), some (vI d), some (vI k), some (vI (-1))], [vI (-1), vI (-1)], MW false I L)) (ps := []) rfl trivial ?_
    refine rch_br cdK82 (cd := ((-1) : Int) ≠ ((-1) : Int)) (t1 := (19, [some (vR 0), some (vI r), some (vI f), some (vI d), some (vI k), some (vI (-1))], [], MW false I L)) (t2 := (17, [some (vR 0), some (vI r), some (vI f), some (vI d), some (vI k), some (vI (-1))], [], MW false I L)) rfl (fun c9 => absurd c9 (by decide)) (fun _ => ?_)
    refine rch_run cdK82 (by decide) 1 (t' := (18, [some (vR 0), some (vI r), some (vI f), some (vI d), some (vI k), some (vI (-1))], [vI (-1)], MW false I L)) (ps := []) rfl trivial ?_
    refine rch_ret cdK82 (rt := some (vI (-1))) rfl trivial mw_c ?_
    exact Or.inl ⟨hf, rfl, rfl⟩

theorem k_persons_t (l : Launch) (E : AX) (I L : Nat → Nat → Int) (d k : Int) (hP : POK 7 I) : Con l E 6 77 [vR 0, vI d, vI k] (MW true I L) 0 0 (fun rt w => ∃ J M, w = MW true J M ∧ Ptd 7 I L J M d k ∧ ((J 49 0 ≠ 0 ∧ rt = some (vI (J 49 1))) ∨ (J 49 0 = 0 ∧ rt = some (vI (-2))))) := by
  refine con_ok (fun hw9 hs9 => ?_)
  refine con_intro (by decide) (Nat.le_of_ble_eq_true rfl) ?_
  show Rch l E 6 77 _ _ _ _ (0, [some (vR 0), some (vI d), some (vI k)], [], MW true I L)
  refine rch_run cdK77 (by decide) 3 (t' := (3, [some (vR 0), some (vI d), some (vI k)], [vI k, vI d, vR 0], MW true I L)) (ps := []) rfl trivial ?_
  refine rch_call (h' := 5) (k' := 94) (as := [vR 0, vI d, vI k]) (t1 := (6, [some (vR 0), some (vI d), some (vI k)], [], MW true I L)) cdK77 rfl (k_part_t l E I L d k hP) (by decide) mw_le ?_
  rintro rt9 w9 (⟨J1, M1, rfl, rfl, t1⟩) _ _
  show Rch l E 6 77 _ _ _ _ (6, [some (vR 0), some (vI d), some (vI k)], [vI (J1 49 0)], MW true J1 M1)
  refine rch_br cdK77 (cd := J1 49 0 = 0) (t1 := (19, [some (vR 0), some (vI d), some (vI k)], [], MW true J1 M1)) (t2 := (9, [some (vR 0), some (vI d), some (vI k)], [], MW true J1 M1)) rfl (fun c6_1 => ?_) (fun c6_1 => ?_)
  · refine rch_run cdK77 (by decide) 1 (t' := (21, [some (vR 0), some (vI d), some (vI k)], [vI (-2)], MW true J1 M1)) (ps := []) rfl trivial ?_
    refine rch_ret cdK77 (rt := some (vI (-2))) rfl trivial mw_c ?_
    exact ⟨J1, M1, rfl, t1, by first | exact Or.inl ⟨by omega, rfl⟩ | exact Or.inr ⟨by omega, rfl⟩⟩
  · refine rch_run cdK77 (by decide) 4 (t' := (21, [some (vR 0), some (vI d), some (vI k)], [vI (J1 49 1)], MW true J1 M1)) (ps := []) rfl trivial ?_
    refine rch_ret cdK77 (rt := some (vI (J1 49 1))) rfl trivial mw_c ?_
    exact ⟨J1, M1, rfl, t1, by first | exact Or.inl ⟨by omega, rfl⟩ | exact Or.inr ⟨by omega, rfl⟩⟩

theorem k_worth_t (l : Launch) (E : AX) (I L : Nat → Nat → Int) (d k : Int) (hP : POK 7 I) : Con l E 6 78 [vR 0, vI d, vI k] (MW true I L) 0 0 (fun rt w => ∃ J M, w = MW true J M ∧ Ptd 7 I L J M d k ∧ ((J 49 0 ≠ 0 ∧ rt = some (vI (J 49 2))) ∨ (J 49 0 = 0 ∧ rt = some (vI (-2000000))))) := by
  refine con_ok (fun hw9 hs9 => ?_)
  refine con_intro (by decide) (Nat.le_of_ble_eq_true rfl) ?_
  show Rch l E 6 78 _ _ _ _ (0, [some (vR 0), some (vI d), some (vI k)], [], MW true I L)
  refine rch_run cdK78 (by decide) 3 (t' := (3, [some (vR 0), some (vI d), some (vI k)], [vI k, vI d, vR 0], MW true I L)) (ps := []) rfl trivial ?_
  refine rch_call (h' := 5) (k' := 94) (as := [vR 0, vI d, vI k]) (t1 := (6, [some (vR 0), some (vI d), some (vI k)], [], MW true I L)) cdK78 rfl (k_part_t l E I L d k hP) (by decide) mw_le ?_
  rintro rt9 w9 (⟨J1, M1, rfl, rfl, t1⟩) _ _
  show Rch l E 6 78 _ _ _ _ (6, [some (vR 0), some (vI d), some (vI k)], [vI (J1 49 0)], MW true J1 M1)
  refine rch_br cdK78 (cd := J1 49 0 = 0) (t1 := (19, [some (vR 0), some (vI d), some (vI k)], [], MW true J1 M1)) (t2 := (9, [some (vR 0), some (vI d), some (vI k)], [], MW true J1 M1)) rfl (fun c6_1 => ?_) (fun c6_1 => ?_)
  · refine rch_run cdK78 (by decide) 1 (t' := (21, [some (vR 0), some (vI d), some (vI k)], [vI (-2000000)], MW true J1 M1)) (ps := []) rfl trivial ?_
    refine rch_ret cdK78 (rt := some (vI (-2000000))) rfl trivial mw_c ?_
    exact ⟨J1, M1, rfl, t1, by first | exact Or.inl ⟨by omega, rfl⟩ | exact Or.inr ⟨by omega, rfl⟩⟩
  · refine rch_run cdK78 (by decide) 4 (t' := (21, [some (vR 0), some (vI d), some (vI k)], [vI (J1 49 2)], MW true J1 M1)) (ps := []) rfl trivial ?_
    refine rch_ret cdK78 (rt := some (vI (J1 49 2))) rfl trivial mw_c ?_
    exact ⟨J1, M1, rfl, t1, by first | exact Or.inl ⟨by omega, rfl⟩ | exact Or.inr ⟨by omega, rfl⟩⟩

theorem k_person_t (l : Launch) (E : AX) (I L : Nat → Nat → Int) (r d k : Int) (hP : POK 7 I) : Con l E 6 79 [vR 0, vI r, vI d, vI k] (MW true I L) 0 0 (fun rt w => ∃ J M, w = MW true J M ∧ Ptd 7 I L J M d k ∧ rt = some (vI (pOf J r))) := by
  refine con_ok (fun hw9 hs9 => ?_)
  refine con_intro (by decide) (Nat.le_of_ble_eq_true rfl) ?_
  show Rch l E 6 79 _ _ _ _ (0, [some (vR 0), some (vI r), some (vI d), some (vI k)], [], MW true I L)
  refine rch_run cdK79 (by decide) 3 (t' := (3, [some (vR 0), some (vI r), some (vI d), some (vI k)], [vI k, vI d, vR 0], MW true I L)) (ps := []) rfl trivial ?_
  refine rch_call (h' := 5) (k' := 94) (as := [vR 0, vI d, vI k]) (t1 := (6, [some (vR 0), some (vI r), some (vI d), some (vI k)], [], MW true I L)) cdK79 rfl (k_part_t l E I L d k hP) (by decide) mw_le ?_
  rintro rt9 w9 (⟨J1, M1, rfl, rfl, t1⟩) _ _
  show Rch l E 6 79 _ _ _ _ (6, [some (vR 0), some (vI r), some (vI d), some (vI k)], [vI (J1 49 0)], MW true J1 M1)
  refine rch_br cdK79 (cd := J1 49 0 = 0) (t1 := (20, [some (vR 0), some (vI r), some (vI d), some (vI k)], [], MW true J1 M1)) (t2 := (9, [some (vR 0), some (vI r), some (vI d), some (vI k)], [], MW true J1 M1)) rfl (fun c6_1 => ?_) (fun c6_1 => ?_)
  · refine rch_run cdK79 (by decide) 1 (t' := (21, [some (vR 0), some (vI r), some (vI d), some (vI k)], [vI (-1)], MW true J1 M1)) (ps := []) rfl trivial ?_
    refine rch_ret cdK79 (rt := some (vI (-1))) rfl trivial mw_c ?_
    exact ⟨J1, M1, rfl, t1, by unfold pOf; first | rw [if_pos (by omega)] | rw [if_neg (by omega)]⟩
  · refine rch_run cdK79 (by decide) 3 (t' := (14, [some (vR 0), some (vI r), some (vI d), some (vI k)], [vI r, vR 49], MW true J1 M1)) (ps := []) rfl trivial ?_
    refine rch_call (h' := 1) (k' := 20) (as := [vR 49, vI r]) (t1 := (17, [some (vR 0), some (vI r), some (vI d), some (vI k)], [], MW true J1 M1)) cdK79 rfl (k_X3_personOf l E true J1 M1 r ) (by decide) mw_le ?_
    rintro rt9 w9 (⟨k65, rfl, rfl⟩ | ⟨k65, rfl, rfl⟩) _ _
    · show Rch l E 6 79 _ _ _ _ (17, [some (vR 0), some (vI r), some (vI d), some (vI k)], [vI (J1 50 r.toNat)], MW true J1 M1)
      have k65 : 0 ≤ r ∧ r < 10 := k65
      refine rch_run cdK79 (by decide) 1 (t' := (21, [some (vR 0), some (vI r), some (vI d), some (vI k)], [vI (J1 50 r.toNat)], MW true J1 M1)) (ps := []) rfl trivial ?_
      refine rch_ret cdK79 (rt := some (vI (J1 50 r.toNat))) rfl trivial mw_c ?_
      exact ⟨J1, M1, rfl, t1, by unfold pOf; first | rw [if_pos (by omega)] | rw [if_neg (by omega)]⟩
    · show Rch l E 6 79 _ _ _ _ (17, [some (vR 0), some (vI r), some (vI d), some (vI k)], [vI (-1)], MW true J1 M1)
      have k65 : ¬ (0 ≤ r ∧ r < 10) := k65
      refine rch_run cdK79 (by decide) 1 (t' := (21, [some (vR 0), some (vI r), some (vI d), some (vI k)], [vI (-1)], MW true J1 M1)) (ps := []) rfl trivial ?_
      refine rch_ret cdK79 (rt := some (vI (-1))) rfl trivial mw_c ?_
      exact ⟨J1, M1, rfl, t1, by unfold pOf; first | rw [if_pos (by omega)] | rw [if_neg (by omega)]⟩

theorem k_personAsked_t (l : Launch) (E : AX) (I L : Nat → Nat → Int) (r f d k : Int) (hP : POK 7 I) : Con l E 6 95 [vR 0, vI r, vI f, vI d, vI k] (MW true I L) 0 0 (fun rt w => ((0 ≤ f ∧ f ≤ 5) ∧ ∃ J M, w = MW true J M ∧ Ptd 7 I L J M d k ∧ rt = some (vI (pOf J r))) ∨ (¬ (0 ≤ f ∧ f ≤ 5) ∧ rt = some (vI (-1)) ∧ w = MW true I L)) := by
  refine con_ok (fun hw9 hs9 => ?_)
  refine con_intro (by decide) (Nat.le_of_ble_eq_true rfl) ?_
  show Rch l E 6 95 _ _ _ _ (0, [some (vR 0), some (vI r), some (vI f), some (vI d), some (vI k)], [], MW true I L)
  refine rch_run cdK95 (by decide) 1 (t' := (1, [some (vR 0), some (vI r), some (vI f), some (vI d), some (vI k)], [vI f], MW true I L)) (ps := []) rfl trivial ?_
  refine rch_call (h' := 1) (k' := 91) (as := [vI f]) (t1 := (4, [some (vR 0), some (vI r), some (vI f), some (vI d), some (vI k)], [], MW true I L)) cdK95 rfl (k_X11_isField l E true I L f ) (by decide) mw_le ?_
  rintro rt9 w9 (⟨k66, rfl, rfl⟩ | ⟨k66, rfl, rfl⟩) _ _
  · show Rch l E 6 95 _ _ _ _ (4, [some (vR 0), some (vI r), some (vI f), some (vI d), some (vI k)], [vI 1], MW true I L)
    have k66 : 0 ≤ f ∧ f ≤ 5 := k66
    refine rch_br cdK95 (cd := (1 : Int) = 0) (t1 := (28, [some (vR 0), some (vI r), some (vI f), some (vI d), some (vI k)], [], MW true I L)) (t2 := (7, [some (vR 0), some (vI r), some (vI f), some (vI d), some (vI k)], [], MW true I L)) rfl (fun c9 => absurd c9 (by decide)) (fun _ => ?_)
    refine rch_run cdK95 (by decide) 3 (t' := (11, [some (vR 0), some (vI r), some (vI f), some (vI d), some (vI k)], [vI k, vI d, vR 0], MW true I L)) (ps := []) rfl trivial ?_
    refine rch_call (h' := 5) (k' := 94) (as := [vR 0, vI d, vI k]) (t1 := (14, [some (vR 0), some (vI r), some (vI f), some (vI d), some (vI k)], [], MW true I L)) cdK95 rfl (k_part_t l E I L d k hP) (by decide) mw_le ?_
    rintro rt9 w9 (⟨J1, M1, rfl, rfl, t1⟩) _ _
    show Rch l E 6 95 _ _ _ _ (14, [some (vR 0), some (vI r), some (vI f), some (vI d), some (vI k)], [vI (J1 49 0)], MW true J1 M1)
    refine rch_br cdK95 (cd := J1 49 0 = 0) (t1 := (28, [some (vR 0), some (vI r), some (vI f), some (vI d), some (vI k)], [], MW true J1 M1)) (t2 := (17, [some (vR 0), some (vI r), some (vI f), some (vI d), some (vI k)], [], MW true J1 M1)) rfl (fun c14_2 => ?_) (fun c14_2 => ?_)
    · refine rch_run cdK95 (by decide) 1 (t' := (29, [some (vR 0), some (vI r), some (vI f), some (vI d), some (vI k)], [vI (-1)], MW true J1 M1)) (ps := []) rfl trivial ?_
      refine rch_ret cdK95 (rt := some (vI (-1))) rfl trivial mw_c ?_
      exact Or.inl ⟨by omega, J1, M1, rfl, t1, by unfold pOf; first | rw [if_pos (by omega)] | rw [if_neg (by omega)]⟩
    · refine rch_run cdK95 (by decide) 3 (t' := (22, [some (vR 0), some (vI r), some (vI f), some (vI d), some (vI k)], [vI r, vR 49], MW true J1 M1)) (ps := []) rfl trivial ?_
      refine rch_call (h' := 1) (k' := 20) (as := [vR 49, vI r]) (t1 := (25, [some (vR 0), some (vI r), some (vI f), some (vI d), some (vI k)], [], MW true J1 M1)) cdK95 rfl (k_X3_personOf l E true J1 M1 r ) (by decide) mw_le ?_
      rintro rt9 w9 (⟨k67, rfl, rfl⟩ | ⟨k67, rfl, rfl⟩) _ _
      · show Rch l E 6 95 _ _ _ _ (25, [some (vR 0), some (vI r), some (vI f), some (vI d), some (vI k)], [vI (J1 50 r.toNat)], MW true J1 M1)
        have k67 : 0 ≤ r ∧ r < 10 := k67
        refine rch_run cdK95 (by decide) 1 (t' := (29, [some (vR 0), some (vI r), some (vI f), some (vI d), some (vI k)], [vI (J1 50 r.toNat)], MW true J1 M1)) (ps := []) rfl trivial ?_
        refine rch_ret cdK95 (rt := some (vI (J1 50 r.toNat))) rfl trivial mw_c ?_
        exact Or.inl ⟨by omega, J1, M1, rfl, t1, by unfold pOf; first | rw [if_pos (by omega)] | rw [if_neg (by omega)]⟩
      · show Rch l E 6 95 _ _ _ _ (25, [some (vR 0), some (vI r), some (vI f), some (vI d), some (vI k)], [vI (-1)], MW true J1 M1)
        have k67 : ¬ (0 ≤ r ∧ r < 10) := k67
        refine rch_run cdK95 (by decide) 1 (t' := (29, [some (vR 0), some (vI r), some (vI f), some (vI d), some (vI k)], [vI (-1)], MW true J1 M1)) (ps := []) rfl trivial ?_
        refine rch_ret cdK95 (rt := some (vI (-1))) rfl trivial mw_c ?_
        exact Or.inl ⟨by omega, J1, M1, rfl, t1, by unfold pOf; first | rw [if_pos (by omega)] | rw [if_neg (by omega)]⟩
  · show Rch l E 6 95 _ _ _ _ (4, [some (vR 0), some (vI r), some (vI f), some (vI d), some (vI k)], [vI 0], MW true I L)
    have k66 : ¬ (0 ≤ f ∧ f ≤ 5) := k66
    refine rch_br cdK95 (cd := (0 : Int) = 0) (t1 := (28, [some (vR 0), some (vI r), some (vI f), some (vI d), some (vI k)], [], MW true I L)) (t2 := (7, [some (vR 0), some (vI r), some (vI f), some (vI d), some (vI k)], [], MW true I L)) rfl (fun _ => ?_) (fun c9 => absurd (by decide) c9)
    refine rch_run cdK95 (by decide) 1 (t' := (29, [some (vR 0), some (vI r), some (vI f), some (vI d), some (vI k)], [vI (-1)], MW true I L)) (ps := []) rfl trivial ?_
    refine rch_ret cdK95 (rt := some (vI (-1))) rfl trivial mw_c ?_
    exact Or.inr ⟨by omega, rfl, rfl⟩

theorem k_golden_t (l : Launch) (E : AX) (I L : Nat → Nat → Int) (r f d k : Int) (hP : POK 7 I) (hG : GOK I) (hd : d ≤ 2147483647) : Con l E 7 80 [vR 0, vI r, vI f, vI d, vI k] (MW true I L) 0 0 (fun rt w => (¬ (0 ≤ f ∧ f ≤ 5) ∧ rt = some (vI (-1)) ∧ w = MW true I L) ∨ ((0 ≤ f ∧ f ≤ 5) ∧ ∃ J M, Ptd 7 I L J M d k ∧ ((pOf J r = -1 ∧ rt = some (vI (-1)) ∧ w = MW true J M) ∨ (pOf J r ≠ -1 ∧ ((lst (fxA J (pOf J r) f) (J 38 0).toNat ≠ -1 ∧ rt = some (vI (J 41 (lst (fxA J (pOf J r) f) (J 38 0).toNat).toNat)) ∧ w = MW true J M) ∨ (lst (fxA J (pOf J r) f) (J 38 0).toNat = -1 ∧ ∃ J2, Hrd J J2 (pOf J r) f ∧ rt = some (vI (J2 61 0)) ∧ w = MW true J2 M)))))) := by
  refine con_ok (fun hw9 hs9 => ?_)
  refine con_intro (by decide) (Nat.le_of_ble_eq_true rfl) ?_
  show Rch l E 7 80 _ _ _ _ (0, [some (vR 0), some (vI r), some (vI f), some (vI d), some (vI k), none], [], MW true I L)
  refine rch_run cdK80 (by decide) 5 (t' := (6, [some (vR 0), some (vI r), some (vI f), some (vI d), some (vI k), none], [vI k, vI d, vI f, vI r, vR 0], MW true I L)) (ps := []) rfl trivial ?_
  refine rch_call (h' := 6) (k' := 95) (as := [vR 0, vI r, vI f, vI d, vI k]) (t1 := (9, [some (vR 0), some (vI r), some (vI f), some (vI d), some (vI k), none], [], MW true I L)) cdK80 rfl (k_personAsked_t l E I L r f d k hP) (by decide) mw_le ?_
  rintro rt9 w9 (⟨hf, J1, M1, rfl, t1, rfl⟩ | ⟨hf, rfl, rfl⟩) _ _
  · show Rch l E 7 80 _ _ _ _ (9, [some (vR 0), some (vI r), some (vI f), some (vI d), some (vI k), none], [vI (pOf J1 r)], MW true J1 M1)
    have hV1 : VOK J1 := VOK_c (fun a j ha => t1.2.1 a j (by omega)) hP.1
    have hG1 : GOK J1 := GOK_c (fun a j ha => t1.2.1 a j (by omega)) hG
    have hK9 : pOf J1 r ≠ -1 → VgK J1 (pOf J1 r) f := fun z => VgK_mk t1.2.2.1 hV1 hG1 t1.2.2.2.2.2 hd hf z
    have hn1 := hG1.2.2.2.2.1
    have hr1 := fun m hm => (hG1.2.2.2.2.2 m hm).1
    refine rch_run cdK80 (by decide) 3 (t' := (14, [some (vR 0), some (vI r), some (vI f), some (vI d), some (vI k), some (vI (pOf J1 r))], [vI (-1), vI (pOf J1 r)], MW true J1 M1)) (ps := []) rfl trivial ?_
    refine rch_br cdK80 (cd := pOf J1 r ≠ ((-1) : Int)) (t1 := (21, [some (vR 0), some (vI r), some (vI f), some (vI d), some (vI k), some (vI (pOf J1 r))], [], MW true J1 M1)) (t2 := (17, [some (vR 0), some (vI r), some (vI f), some (vI d), some (vI k), some (vI (pOf J1 r))], [], MW true J1 M1)) rfl (fun c14_1 => ?_) (fun c14_1 => ?_)
    · refine rch_run cdK80 (by decide) 3 (t' := (25, [some (vR 0), some (vI r), some (vI f), some (vI d), some (vI k), some (vI (pOf J1 r))], [vI f, vI (pOf J1 r), vR 0], MW true J1 M1)) (ps := []) rfl trivial ?_
      refine rch_call (h' := 4) (k' := 97) (as := [vR 0, vI (pOf J1 r), vI f]) (t1 := (28, [some (vR 0), some (vI r), some (vI f), some (vI d), some (vI k), some (vI (pOf J1 r))], [], MW true J1 M1)) cdK80 rfl (k_goldenOf l E true J1 M1 (pOf J1 r) f hn1 hr1 (hK9 (by omega))) (by decide) mw_le ?_
      rintro rt9 w9 (⟨k9, rfl, rfl⟩ | ⟨k9, J2, t2, rfl, rfl⟩) _ _
      · show Rch l E 7 80 _ _ _ _ (28, [some (vR 0), some (vI r), some (vI f), some (vI d), some (vI k), some (vI (pOf J1 r))], [vI (J1 41 (lst (fxA J1 (pOf J1 r) f) (J1 38 0).toNat).toNat)], MW true J1 M1)
        refine rch_ret cdK80 (rt := some (vI (J1 41 (lst (fxA J1 (pOf J1 r) f) (J1 38 0).toNat).toNat))) rfl trivial mw_c ?_
        first | exact Or.inr ⟨hf, J1, M1, t1, Or.inl ⟨by omega, rfl, rfl⟩⟩ | exact Or.inr ⟨hf, J1, M1, t1, Or.inr ⟨by omega, Or.inl ⟨by omega, rfl, rfl⟩⟩⟩
      · show Rch l E 7 80 _ _ _ _ (28, [some (vR 0), some (vI r), some (vI f), some (vI d), some (vI k), some (vI (pOf J1 r))], [vI (J2 61 0)], MW true J2 M1)
        refine rch_ret cdK80 (rt := some (vI (J2 61 0))) rfl trivial mw_c ?_
        exact Or.inr ⟨hf, J1, M1, t1, Or.inr ⟨by omega, Or.inr ⟨by omega, J2, t2, rfl, rfl⟩⟩⟩
    · refine rch_run cdK80 (by decide) 2 (t' := (28, [some (vR 0), some (vI r), some (vI f), some (vI d), some (vI k), some (vI (pOf J1 r))], [vI (-1)], MW true J1 M1)) (ps := []) rfl trivial ?_
      refine rch_ret cdK80 (rt := some (vI (-1))) rfl trivial mw_c ?_
      first | exact Or.inr ⟨hf, J1, M1, t1, Or.inl ⟨by omega, rfl, rfl⟩⟩ | exact Or.inr ⟨hf, J1, M1, t1, Or.inr ⟨by omega, Or.inl ⟨by omega, rfl, rfl⟩⟩⟩
  · show Rch l E 7 80 _ _ _ _ (9, [some (vR 0), some (vI r), some (vI f), some (vI d), some (vI k), none], [vI (-1)], MW true I L)
    refine rch_run cdK80 (by decide) 3 (t' := (14, [some (vR 0), some (vI r), some (vI f), some (vI d), some (vI k), some (vI (-1))], [vI (-1), vI (-1)], MW true I L)) (ps := []) rfl trivial ?_
    refine rch_br cdK80 (cd := ((-1) : Int) ≠ ((-1) : Int)) (t1 := (21, [some (vR 0), some (vI r), some (vI f), some (vI d), some (vI k), some (vI (-1))], [], MW true I L)) (t2 := (17, [some (vR 0), some (vI r), some (vI f), some (vI d), some (vI k), some (vI (-1))], [], MW true I L)) rfl (fun c9 => absurd c9 (by decide)) (fun _ => ?_)
    refine rch_run cdK80 (by decide) 2 (t' := (28, [some (vR 0), some (vI r), some (vI f), some (vI d), some (vI k), some (vI (-1))], [vI (-1)], MW true I L)) (ps := []) rfl trivial ?_
    refine rch_ret cdK80 (rt := some (vI (-1))) rfl trivial mw_c ?_
    exact Or.inl ⟨hf, rfl, rfl⟩

theorem k_from_t (l : Launch) (E : AX) (I L : Nat → Nat → Int) (r f d k : Int) (hP : POK 7 I) (hG : GOK I) (hd : d ≤ 2147483647) : Con l E 7 81 [vR 0, vI r, vI f, vI d, vI k] (MW true I L) 0 0 (fun rt w => (¬ (0 ≤ f ∧ f ≤ 5) ∧ rt = some (vI (-1)) ∧ w = MW true I L) ∨ ((0 ≤ f ∧ f ≤ 5) ∧ ∃ J M, Ptd 7 I L J M d k ∧ ((pOf J r = -1 ∧ rt = some (vI (-1)) ∧ w = MW true J M) ∨ (pOf J r ≠ -1 ∧ ((lst (fxA J (pOf J r) f) (J 38 0).toNat ≠ -1 ∧ rt = some (vI (-2)) ∧ w = MW true J M) ∨ (lst (fxA J (pOf J r) f) (J 38 0).toNat = -1 ∧ ∃ J2, Hrd J J2 (pOf J r) f ∧ rt = some (vI (J2 61 1)) ∧ w = MW true J2 M)))))) := by
  refine con_ok (fun hw9 hs9 => ?_)
  refine con_intro (by decide) (Nat.le_of_ble_eq_true rfl) ?_
  show Rch l E 7 81 _ _ _ _ (0, [some (vR 0), some (vI r), some (vI f), some (vI d), some (vI k), none], [], MW true I L)
  refine rch_run cdK81 (by decide) 5 (t' := (6, [some (vR 0), some (vI r), some (vI f), some (vI d), some (vI k), none], [vI k, vI d, vI f, vI r, vR 0], MW true I L)) (ps := []) rfl trivial ?_
  refine rch_call (h' := 6) (k' := 95) (as := [vR 0, vI r, vI f, vI d, vI k]) (t1 := (9, [some (vR 0), some (vI r), some (vI f), some (vI d), some (vI k), none], [], MW true I L)) cdK81 rfl (k_personAsked_t l E I L r f d k hP) (by decide) mw_le ?_
  rintro rt9 w9 (⟨hf, J1, M1, rfl, t1, rfl⟩ | ⟨hf, rfl, rfl⟩) _ _
  · show Rch l E 7 81 _ _ _ _ (9, [some (vR 0), some (vI r), some (vI f), some (vI d), some (vI k), none], [vI (pOf J1 r)], MW true J1 M1)
    have hV1 : VOK J1 := VOK_c (fun a j ha => t1.2.1 a j (by omega)) hP.1
    have hG1 : GOK J1 := GOK_c (fun a j ha => t1.2.1 a j (by omega)) hG
    have hK9 : pOf J1 r ≠ -1 → VgK J1 (pOf J1 r) f := fun z => VgK_mk t1.2.2.1 hV1 hG1 t1.2.2.2.2.2 hd hf z
    have hn1 := hG1.2.2.2.2.1
    have hr1 := fun m hm => (hG1.2.2.2.2.2 m hm).1
    refine rch_run cdK81 (by decide) 3 (t' := (14, [some (vR 0), some (vI r), some (vI f), some (vI d), some (vI k), some (vI (pOf J1 r))], [vI (-1), vI (pOf J1 r)], MW true J1 M1)) (ps := []) rfl trivial ?_
    refine rch_br cdK81 (cd := pOf J1 r ≠ ((-1) : Int)) (t1 := (19, [some (vR 0), some (vI r), some (vI f), some (vI d), some (vI k), some (vI (pOf J1 r))], [], MW true J1 M1)) (t2 := (17, [some (vR 0), some (vI r), some (vI f), some (vI d), some (vI k), some (vI (pOf J1 r))], [], MW true J1 M1)) rfl (fun c14_1 => ?_) (fun c14_1 => ?_)
    · refine rch_run cdK81 (by decide) 3 (t' := (23, [some (vR 0), some (vI r), some (vI f), some (vI d), some (vI k), some (vI (pOf J1 r))], [vI f, vI (pOf J1 r), vR 0], MW true J1 M1)) (ps := []) rfl trivial ?_
      refine rch_call (h' := 2) (k' := 98) (as := [vR 0, vI (pOf J1 r), vI f]) (t1 := (26, [some (vR 0), some (vI r), some (vI f), some (vI d), some (vI k), some (vI (pOf J1 r))], [], MW true J1 M1)) cdK81 rfl (k_latestFix l E true J1 M1 (pOf J1 r) f hn1 hr1) (by decide) mw_le ?_
      rintro rt9 w9 (⟨rfl, rfl⟩) _ _
      show Rch l E 7 81 _ _ _ _ (26, [some (vR 0), some (vI r), some (vI f), some (vI d), some (vI k), some (vI (pOf J1 r))], [vI (lst (fxA J1 (pOf J1 r) f) (J1 38 0).toNat)], MW true J1 M1)
      refine rch_run cdK81 (by decide) 1 (t' := (27, [some (vR 0), some (vI r), some (vI f), some (vI d), some (vI k), some (vI (pOf J1 r))], [vI (-1), vI (lst (fxA J1 (pOf J1 r) f) (J1 38 0).toNat)], MW true J1 M1)) (ps := []) rfl trivial ?_
      refine rch_br cdK81 (cd := lst (fxA J1 (pOf J1 r) f) (J1 38 0).toNat = ((-1) : Int)) (t1 := (33, [some (vR 0), some (vI r), some (vI f), some (vI d), some (vI k), some (vI (pOf J1 r))], [], MW true J1 M1)) (t2 := (30, [some (vR 0), some (vI r), some (vI f), some (vI d), some (vI k), some (vI (pOf J1 r))], [], MW true J1 M1)) rfl (fun c27_2 => ?_) (fun c27_2 => ?_)
      · refine rch_run cdK81 (by decide) 3 (t' := (37, [some (vR 0), some (vI r), some (vI f), some (vI d), some (vI k), some (vI (pOf J1 r))], [vI f, vI (pOf J1 r), vR 0], MW true J1 M1)) (ps := []) rfl trivial ?_
        refine rch_call (h' := 3) (k' := 96) (as := [vR 0, vI (pOf J1 r), vI f]) (t1 := (40, [some (vR 0), some (vI r), some (vI f), some (vI d), some (vI k), some (vI (pOf J1 r))], [], MW true J1 M1)) cdK81 rfl (k_hear l E true J1 M1 (pOf J1 r) f (hK9 (by omega))) (by decide) mw_le ?_
        rintro rt9 w9 (⟨J2, rfl, rfl, t2⟩) _ _
        show Rch l E 7 81 _ _ _ _ (40, [some (vR 0), some (vI r), some (vI f), some (vI d), some (vI k), some (vI (pOf J1 r))], [], MW true J2 M1)
        refine rch_run cdK81 (by decide) 3 (t' := (47, [some (vR 0), some (vI r), some (vI f), some (vI d), some (vI k), some (vI (pOf J1 r))], [vI (J2 61 1)], MW true J2 M1)) (ps := []) rfl trivial ?_
        refine rch_ret cdK81 (rt := some (vI (J2 61 1))) rfl trivial mw_c ?_
        exact Or.inr ⟨hf, J1, M1, t1, Or.inr ⟨by omega, Or.inr ⟨by omega, J2, t2, rfl, rfl⟩⟩⟩
      · refine rch_run cdK81 (by decide) 1 (t' := (32, [some (vR 0), some (vI r), some (vI f), some (vI d), some (vI k), some (vI (pOf J1 r))], [vI (-2)], MW true J1 M1)) (ps := []) rfl trivial ?_
        refine rch_ret cdK81 (rt := some (vI (-2))) rfl trivial mw_c ?_
        first | exact Or.inr ⟨hf, J1, M1, t1, Or.inl ⟨by omega, rfl, rfl⟩⟩ | exact Or.inr ⟨hf, J1, M1, t1, Or.inr ⟨by omega, Or.inl ⟨by omega, rfl, rfl⟩⟩⟩
    · refine rch_run cdK81 (by decide) 1 (t' := (18, [some (vR 0), some (vI r), some (vI f), some (vI d), some (vI k), some (vI (pOf J1 r))], [vI (-1)], MW true J1 M1)) (ps := []) rfl trivial ?_
      refine rch_ret cdK81 (rt := some (vI (-1))) rfl trivial mw_c ?_
      first | exact Or.inr ⟨hf, J1, M1, t1, Or.inl ⟨by omega, rfl, rfl⟩⟩ | exact Or.inr ⟨hf, J1, M1, t1, Or.inr ⟨by omega, Or.inl ⟨by omega, rfl, rfl⟩⟩⟩
  · show Rch l E 7 81 _ _ _ _ (9, [some (vR 0), some (vI r), some (vI f), some (vI d), some (vI k), none], [vI (-1)], MW true I L)
    refine rch_run cdK81 (by decide) 3 (t' := (14, [some (vR 0), some (vI r), some (vI f), some (vI d), some (vI k), some (vI (-1))], [vI (-1), vI (-1)], MW true I L)) (ps := []) rfl trivial ?_
    refine rch_br cdK81 (cd := ((-1) : Int) ≠ ((-1) : Int)) (t1 := (19, [some (vR 0), some (vI r), some (vI f), some (vI d), some (vI k), some (vI (-1))], [], MW true I L)) (t2 := (17, [some (vR 0), some (vI r), some (vI f), some (vI d), some (vI k), some (vI (-1))], [], MW true I L)) rfl (fun c9 => absurd c9 (by decide)) (fun _ => ?_)
    refine rch_run cdK81 (by decide) 1 (t' := (18, [some (vR 0), some (vI r), some (vI f), some (vI d), some (vI k), some (vI (-1))], [vI (-1)], MW true I L)) (ps := []) rfl trivial ?_
    refine rch_ret cdK81 (rt := some (vI (-1))) rfl trivial mw_c ?_
    exact Or.inl ⟨hf, rfl, rfl⟩

theorem k_torn_t (l : Launch) (E : AX) (I L : Nat → Nat → Int) (r f d k : Int) (hP : POK 7 I) (hG : GOK I) (hd : d ≤ 2147483647) : Con l E 7 82 [vR 0, vI r, vI f, vI d, vI k] (MW true I L) 0 0 (fun rt w => (¬ (0 ≤ f ∧ f ≤ 5) ∧ rt = some (vI (-1)) ∧ w = MW true I L) ∨ ((0 ≤ f ∧ f ≤ 5) ∧ ∃ J M, Ptd 7 I L J M d k ∧ ((pOf J r = -1 ∧ rt = some (vI (-1)) ∧ w = MW true J M) ∨ (pOf J r ≠ -1 ∧ ∃ J2, Hrd J J2 (pOf J r) f ∧ rt = some (vI (J2 61 2)) ∧ w = MW true J2 M)))) := by
  refine con_ok (fun hw9 hs9 => ?_)
  refine con_intro (by decide) (Nat.le_of_ble_eq_true rfl) ?_
  show Rch l E 7 82 _ _ _ _ (0, [some (vR 0), some (vI r), some (vI f), some (vI d), some (vI k), none], [], MW true I L)
  refine rch_run cdK82 (by decide) 5 (t' := (6, [some (vR 0), some (vI r), some (vI f), some (vI d), some (vI k), none], [vI k, vI d, vI f, vI r, vR 0], MW true I L)) (ps := []) rfl trivial ?_
  refine rch_call (h' := 6) (k' := 95) (as := [vR 0, vI r, vI f, vI d, vI k]) (t1 := (9, [some (vR 0), some (vI r), some (vI f), some (vI d), some (vI k), none], [], MW true I L)) cdK82 rfl (k_personAsked_t l E I L r f d k hP) (by decide) mw_le ?_
  rintro rt9 w9 (⟨hf, J1, M1, rfl, t1, rfl⟩ | ⟨hf, rfl, rfl⟩) _ _
  · show Rch l E 7 82 _ _ _ _ (9, [some (vR 0), some (vI r), some (vI f), some (vI d), some (vI k), none], [vI (pOf J1 r)], MW true J1 M1)
    have hV1 : VOK J1 := VOK_c (fun a j ha => t1.2.1 a j (by omega)) hP.1
    have hG1 : GOK J1 := GOK_c (fun a j ha => t1.2.1 a j (by omega)) hG
    have hK9 : pOf J1 r ≠ -1 → VgK J1 (pOf J1 r) f := fun z => VgK_mk t1.2.2.1 hV1 hG1 t1.2.2.2.2.2 hd hf z
    have hn1 := hG1.2.2.2.2.1
    have hr1 := fun m hm => (hG1.2.2.2.2.2 m hm).1
    refine rch_run cdK82 (by decide) 3 (t' := (14, [some (vR 0), some (vI r), some (vI f), some (vI d), some (vI k), some (vI (pOf J1 r))], [vI (-1), vI (pOf J1 r)], MW true J1 M1)) (ps := []) rfl trivial ?_
    refine rch_br cdK82 (cd := pOf J1 r ≠ ((-1) : Int)) (t1 := (19, [some (vR 0), some (vI r), some (vI f), some (vI d), some (vI k), some (vI (pOf J1 r))], [], MW true J1 M1)) (t2 := (17, [some (vR 0), some (vI r), some (vI f), some (vI d), some (vI k), some (vI (pOf J1 r))], [], MW true J1 M1)) rfl (fun c14_1 => ?_) (fun c14_1 => ?_)
    · refine rch_run cdK82 (by decide) 3 (t' := (23, [some (vR 0), some (vI r), some (vI f), some (vI d), some (vI k), some (vI (pOf J1 r))], [vI f, vI (pOf J1 r), vR 0], MW true J1 M1)) (ps := []) rfl trivial ?_
      refine rch_call (h' := 3) (k' := 96) (as := [vR 0, vI (pOf J1 r), vI f]) (t1 := (26, [some (vR 0), some (vI r), some (vI f), some (vI d), some (vI k), some (vI (pOf J1 r))], [], MW true J1 M1)) cdK82 rfl (k_hear l E true J1 M1 (pOf J1 r) f (hK9 (by omega))) (by decide) mw_le ?_
      rintro rt9 w9 (⟨J2, rfl, rfl, t2⟩) _ _
      show Rch l E 7 82 _ _ _ _ (26, [some (vR 0), some (vI r), some (vI f), some (vI d), some (vI k), some (vI (pOf J1 r))], [], MW true J2 M1)
      refine rch_run cdK82 (by decide) 3 (t' := (33, [some (vR 0), some (vI r), some (vI f), some (vI d), some (vI k), some (vI (pOf J1 r))], [vI (J2 61 2)], MW true J2 M1)) (ps := []) rfl trivial ?_
      refine rch_ret cdK82 (rt := some (vI (J2 61 2))) rfl trivial mw_c ?_
      exact Or.inr ⟨hf, J1, M1, t1, Or.inr ⟨by omega, J2, t2, rfl, rfl⟩⟩
    · refine rch_run cdK82 (by decide) 1 (t' := (18, [some (vR 0), some (vI r), some (vI f), some (vI d), some (vI k), some (vI (pOf J1 r))], [vI (-1)], MW true J1 M1)) (ps := []) rfl trivial ?_
      refine rch_ret cdK82 (rt := some (vI (-1))) rfl trivial mw_c ?_
      exact Or.inr ⟨hf, J1, M1, t1, Or.inl ⟨by omega, rfl, rfl⟩⟩
  · show Rch l E 7 82 _ _ _ _ (9, [some (vR 0), some (vI r), some (vI f), some (vI d), some (vI k), none], [vI (-1)], MW true I L)
    refine rch_run cdK82 (by decide) 3 (t' := (14, [some (vR 0), some (vI r), some (vI f), some (vI d), some (vI k), some (vI (-1))], [vI (-1), vI (-1)], MW true I L)) (ps := []) rfl trivial ?_
    refine rch_br cdK82 (cd := ((-1) : Int) ≠ ((-1) : Int)) (t1 := (19, [some (vR 0), some (vI r), some (vI f), some (vI d), some (vI k), some (vI (-1))], [], MW true I L)) (t2 := (17, [some (vR 0), some (vI r), some (vI f), some (vI d), some (vI k), some (vI (-1))], [], MW true I L)) rfl (fun c9 => absurd c9 (by decide)) (fun _ => ?_)
    refine rch_run cdK82 (by decide) 1 (t' := (18, [some (vR 0), some (vI r), some (vI f), some (vI d), some (vI k), some (vI (-1))], [vI (-1)], MW true I L)) (ps := []) rfl trivial ?_
    refine rch_ret cdK82 (rt := some (vI (-1))) rfl trivial mw_c ?_
    exact Or.inl ⟨hf, rfl, rfl⟩
