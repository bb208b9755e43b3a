def PMk (I : Nat → Nat → Int) : Prop := (0 ≤ I 74 4 ∧ I 74 4 ≤ 10) ∧ (0 ≤ I 74 43 ∧ I 74 43 ≤ 20) ∧ MBK I ∧ VMK I ∧ (I 114 0 = 0 ∧ I 115 0 = 0)
theorem GMk_c {I J : Nat → Nat → Int} {f d : Int} (h : ∀ a j, (74 ≤ a ∧ a ≤ 109) → ¬ (a = 99) → ¬ (a = 74 ∧ 55 ≤ j ∧ j ≤ 58) → J a j = I a j) (hG : GMk I f d) : GMk J f d := by
  have e : ∀ a, (75 ≤ a ∧ a ≤ 109) → a ≠ 99 → J a = I a := fun a ha hb => funext (fun j => h a j (by omega) hb (by omega))
  unfold GMk
  rw [h 74 4 (by omega) (by omega) (by omega), h 74 5 (by omega) (by omega) (by omega), h 74 44 (by omega) (by omega) (by omega), e 75 (by omega) (by omega), e 76 (by omega) (by omega), e 78 (by omega) (by omega), e 83 (by omega) (by omega), e 84 (by omega) (by omega), e 105 (by omega) (by omega)]
  exact hG
theorem PtM_01 {I J : Nat → Nat → Int} {d k : Int} (h : PtM I J d k) : J 74 58 = 0 ∨ J 74 58 = 1 := by
  rcases h.2.2.2.2.2.2 with ⟨_, z, _⟩ | ⟨_, ⟨z, _⟩ | ⟨z, _⟩⟩
  · exact Or.inr z
  · exact Or.inl z
  · exact Or.inr z
def rwK (I : Nat → Nat → Int) (r k : Int) : Prop := 0 ≤ r ∧ r < I 74 4 ∧ I 80 r.toNat = 0 ∧ I 79 r.toNat ≤ k

theorem k_personsM (l : Launch) (E : AX) (b : Bool) (I L : Nat → Nat → Int) (d k : Int) (hP : PMk I) : Con l E 6 150 [vR 74, vI d, vI k] (MW b I L) 0 0 (fun rt w => ∃ J, w = MW b J L ∧ PtM I J d k ∧ ((J 74 58 ≠ 0 ∧ rt = some (vI (J 74 57))) ∨ (J 74 58 = 0 ∧ rt = some (vI (-2))))) := by
  refine con_ok (fun hw9 hs9 => ?_)
  refine con_intro (by decide) (Nat.le_of_ble_eq_true rfl) ?_
  show Rch l E 6 150 _ _ _ _ (0, [some (vR 74), some (vI d), some (vI k)], [], MW b I L)
  refine rch_run cdK150 (by decide) 3 (t' := (3, [some (vR 74), some (vI d), some (vI k)], [vI k, vI d, vR 74], MW b I L)) (ps := []) rfl trivial ?_
  refine rch_call (h' := 5) (k' := 147) (as := [vR 74, vI d, vI k]) (t1 := (6, [some (vR 74), some (vI d), some (vI k)], [], MW b I L)) cdK150 rfl (k_partM l E b I L d k hP.1 hP.2.1 hP.2.2.1 hP.2.2.2.1 hP.2.2.2.2) (by decide) mw_le ?_
  rintro rt9 w9 (⟨J1, rfl, rfl, t1⟩) _ _
  show Rch l E 6 150 _ _ _ _ (6, [some (vR 74), some (vI d), some (vI k)], [], MW b J1 L)
  have h01 := PtM_01 t1
  refine rch_run cdK150 (by decide) 2 (t' := (10, [some (vR 74), some (vI d), some (vI k)], [vI (J1 74 58)], MW b J1 L)) (ps := []) rfl trivial ?_
  refine rch_br cdK150 (cd := J1 74 58 = 0) (t1 := (20, [some (vR 74), some (vI d), some (vI k)], [], MW b J1 L)) (t2 := (13, [some (vR 74), some (vI d), some (vI k)], [], MW b J1 L)) rfl (fun c10_1 => ?_) (fun c10_1 => ?_)
  · refine rch_run cdK150 (by decide) 1 (t' := (22, [some (vR 74), some (vI d), some (vI k)], [vI (-2)], MW b J1 L)) (ps := []) rfl trivial ?_
    refine rch_ret cdK150 (rt := some (vI (-2))) rfl trivial mw_c ?_
    exact ⟨J1, rfl, t1, by first | exact Or.inl ⟨by omega, rfl⟩ | exact Or.inr ⟨by omega, rfl⟩⟩
  · refine rch_run cdK150 (by decide) 3 (t' := (22, [some (vR 74), some (vI d), some (vI k)], [vI (J1 74 57)], MW b J1 L)) (ps := []) rfl trivial ?_
    refine rch_ret cdK150 (rt := some (vI (J1 74 57))) rfl trivial mw_c ?_
    exact ⟨J1, rfl, t1, by first | exact Or.inl ⟨by omega, rfl⟩ | exact Or.inr ⟨by omega, rfl⟩⟩

theorem k_worthM (l : Launch) (E : AX) (b : Bool) (I L : Nat → Nat → Int) (d k : Int) (hP : PMk I) : Con l E 6 151 [vR 74, vI d, vI k] (MW b I L) 0 0 (fun rt w => ∃ J, w = MW b J L ∧ PtM I J d k ∧ ((J 74 58 ≠ 0 ∧ rt = some (vI (J 74 56))) ∨ (J 74 58 = 0 ∧ rt = some (vI (-2000000))))) := by
  refine con_ok (fun hw9 hs9 => ?_)
  refine con_intro (by decide) (Nat.le_of_ble_eq_true rfl) ?_
  show Rch l E 6 151 _ _ _ _ (0, [some (vR 74), some (vI d), some (vI k)], [], MW b I L)
  refine rch_run cdK151 (by decide) 3 (t' := (3, [some (vR 74), some (vI d), some (vI k)], [vI k, vI d, vR 74], MW b I L)) (ps := []) rfl trivial ?_
  refine rch_call (h' := 5) (k' := 147) (as := [vR 74, vI d, vI k]) (t1 := (6, [some (vR 74), some (vI d), some (vI k)], [], MW b I L)) cdK151 rfl (k_partM l E b I L d k hP.1 hP.2.1 hP.2.2.1 hP.2.2.2.1 hP.2.2.2.2) (by decide) mw_le ?_
  rintro rt9 w9 (⟨J1, rfl, rfl, t1⟩) _ _
  show Rch l E 6 151 _ _ _ _ (6, [some (vR 74), some (vI d), some (vI k)], [], MW b J1 L)
  have h01 := PtM_01 t1
  refine rch_run cdK151 (by decide) 2 (t' := (10, [some (vR 74), some (vI d), some (vI k)], [vI (J1 74 58)], MW b J1 L)) (ps := []) rfl trivial ?_
  refine rch_br cdK151 (cd := J1 74 58 = 0) (t1 := (20, [some (vR 74), some (vI d), some (vI k)], [], MW b J1 L)) (t2 := (13, [some (vR 74), some (vI d), some (vI k)], [], MW b J1 L)) rfl (fun c10_1 => ?_) (fun c10_1 => ?_)
  · refine rch_run cdK151 (by decide) 1 (t' := (23, [some (vR 74), some (vI d), some (vI k)], [vI (-2000000)], MW b J1 L)) (ps := []) rfl trivial ?_
    refine rch_ret cdK151 (rt := some (vI (-2000000))) rfl trivial mw_c ?_
    exact ⟨J1, rfl, t1, by first | exact Or.inl ⟨by omega, rfl⟩ | exact Or.inr ⟨by omega, rfl⟩⟩
  · refine rch_run cdK151 (by decide) 3 (t' := (23, [some (vR 74), some (vI d), some (vI k)], [vI (J1 74 56)], MW b J1 L)) (ps := []) rfl trivial ?_
    refine rch_ret cdK151 (rt := some (vI (J1 74 56))) rfl trivial mw_c ?_
    exact ⟨J1, rfl, t1, by first | exact Or.inl ⟨by omega, rfl⟩ | exact Or.inr ⟨by omega, rfl⟩⟩

theorem k_personM (l : Launch) (E : AX) (b : Bool) (I L : Nat → Nat → Int) (r d k : Int) (hP : PMk I) : Con l E 6 152 [vR 74, vI r, vI d, vI k] (MW b I L) 0 0 (fun rt w => (rwK I r k ∧ ∃ J, w = MW b J L ∧ PtM I J d k ∧ ((J 74 58 ≠ 0 ∧ rt = some (vI (J 111 r.toNat))) ∨ (J 74 58 = 0 ∧ rt = some (vI (-1))))) ∨ (¬ rwK I r k ∧ rt = some (vI (-1)) ∧ w = MW b I L)) := by
  refine con_ok (fun hw9 hs9 => ?_)
  refine con_intro (by decide) (Nat.le_of_ble_eq_true rfl) ?_
  have hn9 := hP.1
  show Rch l E 6 152 _ _ _ _ (0, [some (vR 74), some (vI r), some (vI d), some (vI k)], [], MW b I L)
  refine rch_run cdK152 (by decide) 3 (t' := (3, [some (vR 74), some (vI r), some (vI d), some (vI k)], [vI k, vI r, vR 74], MW b I L)) (ps := []) rfl trivial ?_
  refine rch_call (h' := 2) (k' := 110) (as := [vR 74, vI r, vI k]) (t1 := (6, [some (vR 74), some (vI r), some (vI d), some (vI k)], [], MW b I L)) cdK152 rfl (k_X12_isThere l E b I L r k (by show I 74 4 ≤ 10; omega)) (by decide) mw_le ?_
  rintro rt9 w9 (⟨k70, rfl, rfl⟩ | ⟨k70, rfl, rfl⟩) _ _
  · show Rch l E 6 152 _ _ _ _ (6, [some (vR 74), some (vI r), some (vI d), some (vI k)], [vI 1], MW b I L)
    have k70 : (0 ≤ r ∧ r < I 74 4 ∧ I 80 r.toNat = 0) ∧ I 79 r.toNat ≤ k := k70
    refine rch_br cdK152 (cd := (1 : Int) ≠ 0) (t1 := (11, [some (vR 74), some (vI r), some (vI d), some (vI k)], [], MW b I L)) (t2 := (9, [some (vR 74), some (vI r), some (vI d), some (vI k)], [], MW b I L)) rfl (fun _ => ?_) (fun c9 => absurd (by decide) c9)
    refine rch_run cdK152 (by decide) 3 (t' := (14, [some (vR 74), some (vI r), some (vI d), some (vI k)], [vI k, vI d, vR 74], MW b I L)) (ps := []) rfl trivial ?_
    refine rch_call (h' := 5) (k' := 147) (as := [vR 74, vI d, vI k]) (t1 := (17, [some (vR 74), some (vI r), some (vI d), some (vI k)], [], MW b I L)) cdK152 rfl (k_partM l E b I L d k hP.1 hP.2.1 hP.2.2.1 hP.2.2.2.1 hP.2.2.2.2) (by decide) mw_le ?_
    rintro rt9 w9 (⟨J1, rfl, rfl, t1⟩) _ _
    show Rch l E 6 152 _ _ _ _ (17, [some (vR 74), some (vI r), some (vI d), some (vI k)], [], MW b J1 L)
    have h01 := PtM_01 t1
    refine rch_run cdK152 (by decide) 2 (t' := (21, [some (vR 74), some (vI r), some (vI d), some (vI k)], [vI (J1 74 58)], MW b J1 L)) (ps := []) rfl trivial ?_
    refine rch_br cdK152 (cd := J1 74 58 = 0) (t1 := (33, [some (vR 74), some (vI r), some (vI d), some (vI k)], [], MW b J1 L)) (t2 := (24, [some (vR 74), some (vI r), some (vI d), some (vI k)], [], MW b J1 L)) rfl (fun c21_2 => ?_) (fun c21_2 => ?_)
    · refine rch_run cdK152 (by decide) 1 (t' := (34, [some (vR 74), some (vI r), some (vI d), some (vI k)], [vI (-1)], MW b J1 L)) (ps := []) rfl trivial ?_
      refine rch_ret cdK152 (rt := some (vI (-1))) rfl trivial mw_c ?_
      exact Or.inl ⟨by unfold rwK; omega, J1, rfl, t1, by first | exact Or.inl ⟨by omega, rfl⟩ | exact Or.inr ⟨by omega, rfl⟩⟩
    · refine rch_run cdK152 (by decide) 5 (t' := (34, [some (vR 74), some (vI r), some (vI d), some (vI k)], [vI (J1 111 r.toNat)], MW b J1 L)) (ps := [0 ≤ r ∧ r < ((10 : Nat) : Int)]) rfl (by simp only [all_, i32, i64]; first | omega | (simp; done) | (simp; omega)) ?_
      refine rch_ret cdK152 (rt := some (vI (J1 111 r.toNat))) rfl trivial mw_c ?_
      exact Or.inl ⟨by unfold rwK; omega, J1, rfl, t1, by first | exact Or.inl ⟨by omega, rfl⟩ | exact Or.inr ⟨by omega, rfl⟩⟩
  · show Rch l E 6 152 _ _ _ _ (6, [some (vR 74), some (vI r), some (vI d), some (vI k)], [vI 0], MW b I L)
    have k70 : ¬ ((0 ≤ r ∧ r < I 74 4 ∧ I 80 r.toNat = 0) ∧ I 79 r.toNat ≤ k) := k70
    refine rch_br cdK152 (cd := (0 : Int) ≠ 0) (t1 := (11, [some (vR 74), some (vI r), some (vI d), some (vI k)], [], MW b I L)) (t2 := (9, [some (vR 74), some (vI r), some (vI d), some (vI k)], [], MW b I L)) rfl (fun c9 => absurd c9 (by decide)) (fun _ => ?_)
    refine rch_run cdK152 (by decide) 1 (t' := (10, [some (vR 74), some (vI r), some (vI d), some (vI k)], [vI (-1)], MW b I L)) (ps := []) rfl trivial ?_
    refine rch_ret cdK152 (rt := some (vI (-1))) rfl trivial mw_c ?_
    exact Or.inr ⟨by unfold rwK; omega, rfl, rfl⟩

theorem k_tells (l : Launch) (E : AX) (b : Bool) (I L : Nat → Nat → Int) (r f d k : Int) (hP : PMk I) (hG : (0 ≤ f ∧ f ≤ 5) → GMk I f d) : Con l E 6 154 [vR 74, vI r, vI f, vI d, vI k] (MW b I L) 0 0 (fun rt w => ((rwK I r k ∧ 0 ≤ f ∧ f ≤ 5) ∧ ∃ J, PtM I J d k ∧ ((J 74 58 = 0 ∧ rt = some (vI 0) ∧ w = MW b J L) ∨ (J 74 58 ≠ 0 ∧ ∃ J2 M2, Gld J L J2 M2 (J 111 r.toNat) f d k ∧ rt = some (vI 1) ∧ w = MW b J2 M2))) ∨ (¬ (rwK I r k ∧ 0 ≤ f ∧ f ≤ 5) ∧ rt = some (vI 0) ∧ w = MW b I L)) := by
  refine con_ok (fun hw9 hs9 => ?_)
  refine con_intro (by decide) (Nat.le_of_ble_eq_true rfl) ?_
  have hn9 := hP.1
  show Rch l E 6 154 _ _ _ _ (0, [some (vR 74), some (vI r), some (vI f), some (vI d), some (vI k)], [], MW b I L)
  refine rch_run cdK154 (by decide) 3 (t' := (4, [some (vR 74), some (vI r), some (vI f), some (vI d), some (vI k)], [vI k, vI r, vR 74], MW b I L)) (ps := []) rfl trivial ?_
  refine rch_call (h' := 2) (k' := 110) (as := [vR 74, vI r, vI k]) (t1 := (7, [some (vR 74), some (vI r), some (vI f), some (vI d), some (vI k)], [], MW b I L)) cdK154 rfl (k_X12_isThere l E b I L r k (by show I 74 4 ≤ 10; omega)) (by decide) mw_le ?_
  rintro rt9 w9 (⟨k71, rfl, rfl⟩ | ⟨k71, rfl, rfl⟩) _ _
  · show Rch l E 6 154 _ _ _ _ (7, [some (vR 74), some (vI r), some (vI f), some (vI d), some (vI k)], [vI 1], MW b I L)
    have k71 : (0 ≤ r ∧ r < I 74 4 ∧ I 80 r.toNat = 0) ∧ I 79 r.toNat ≤ k := k71
    refine rch_br cdK154 (cd := (1 : Int) = 0) (t1 := (17, [some (vR 74), some (vI r), some (vI f), some (vI d), some (vI k)], [], MW b I L)) (t2 := (10, [some (vR 74), some (vI r), some (vI f), some (vI d), some (vI k)], [], MW b I L)) rfl (fun c9 => absurd c9 (by decide)) (fun _ => ?_)
    refine rch_run cdK154 (by decide) 1 (t' := (11, [some (vR 74), some (vI r), some (vI f), some (vI d), some (vI k)], [vI f], MW b I L)) (ps := []) rfl trivial ?_
    refine rch_call (h' := 1) (k' := 104) (as := [vI f]) (t1 := (14, [some (vR 74), some (vI r), some (vI f), some (vI d), some (vI k)], [], MW b I L)) cdK154 rfl (k_X12_isField l E b I L f ) (by decide) mw_le ?_
    rintro rt9 w9 (⟨k72, rfl, rfl⟩ | ⟨k72, rfl, rfl⟩) _ _
    · show Rch l E 6 154 _ _ _ _ (14, [some (vR 74), some (vI r), some (vI f), some (vI d), some (vI k)], [vI 1], MW b I L)
      have k72 : 0 ≤ f ∧ f ≤ 5 := k72
      refine rch_br cdK154 (cd := (1 : Int) ≠ 0) (t1 := (19, [some (vR 74), some (vI r), some (vI f), some (vI d), some (vI k)], [], MW b I L)) (t2 := (17, [some (vR 74), some (vI r), some (vI f), some (vI d), some (vI k)], [], MW b I L)) rfl (fun _ => ?_) (fun c9 => absurd (by decide) c9)
      refine rch_run cdK154 (by decide) 3 (t' := (23, [some (vR 74), some (vI r), some (vI f), some (vI d), some (vI k)], [vI k, vI d, vR 74], MW b I L)) (ps := []) rfl trivial ?_
      refine rch_call (h' := 5) (k' := 147) (as := [vR 74, vI d, vI k]) (t1 := (26, [some (vR 74), some (vI r), some (vI f), some (vI d), some (vI k)], [], MW b I L)) cdK154 rfl (k_partM l E b I L d k hP.1 hP.2.1 hP.2.2.1 hP.2.2.2.1 hP.2.2.2.2) (by decide) mw_le ?_
      rintro rt9 w9 (⟨J1, rfl, rfl, t1⟩) _ _
      show Rch l E 6 154 _ _ _ _ (26, [some (vR 74), some (vI r), some (vI f), some (vI d), some (vI k)], [], MW b J1 L)
      have h01 := PtM_01 t1
      refine rch_run cdK154 (by decide) 2 (t' := (30, [some (vR 74), some (vI r), some (vI f), some (vI d), some (vI k)], [vI (J1 74 58)], MW b J1 L)) (ps := []) rfl trivial ?_
      refine rch_br cdK154 (cd := J1 74 58 = 0) (t1 := (42, [some (vR 74), some (vI r), some (vI f), some (vI d), some (vI k)], [], MW b J1 L)) (t2 := (33, [some (vR 74), some (vI r), some (vI f), some (vI d), some (vI k)], [], MW b J1 L)) rfl (fun c30_3 => ?_) (fun c30_3 => ?_)
      · refine rch_run cdK154 (by decide) 2 (t' := (46, [some (vR 74), some (vI r), some (vI f), some (vI d), some (vI k)], [vI (J1 74 58)], MW b J1 L)) (ps := []) rfl trivial ?_
        refine rch_ret cdK154 (rt := some (vI (J1 74 58))) rfl (by show _ ∨ _; omega) mw_c ?_
        exact Or.inl ⟨by unfold rwK; omega, J1, t1, Or.inl ⟨by omega, by rw [show J1 74 58 = 0 by omega], rfl⟩⟩
      · refine rch_run cdK154 (by decide) 5 (t' := (39, [some (vR 74), some (vI r), some (vI f), some (vI d), some (vI k)], [vI k, vI d, vI f, vI r, vR 74], MW b J1 L)) (ps := []) rfl trivial ?_
        refine rch_call (h' := 3) (k' := 153) (as := [vR 74, vI r, vI f, vI d, vI k]) (t1 := (42, [some (vR 74), some (vI r), some (vI f), some (vI d), some (vI k)], [], MW b J1 L)) cdK154 rfl (k_gold l E b J1 L r f d k (GMk_c (fun a j h1 h2 h3 => t1.1 a j (by omega)) (hG (by omega))) (by omega)) (by decide) mw_le ?_
        rintro rt9 w9 (⟨J2, M2, rfl, rfl, t2⟩) _ _
        show Rch l E 6 154 _ _ _ _ (42, [some (vR 74), some (vI r), some (vI f), some (vI d), some (vI k)], [], MW b J2 M2)
        have q58 := t2.1 74 58 (by omega)
        refine rch_run cdK154 (by decide) 2 (t' := (46, [some (vR 74), some (vI r), some (vI f), some (vI d), some (vI k)], [vI (J2 74 58)], MW b J2 M2)) (ps := []) rfl trivial ?_
        refine rch_ret cdK154 (rt := some (vI (J2 74 58))) rfl (by show _ ∨ _; omega) mw_c ?_
        exact Or.inl ⟨by unfold rwK; omega, J1, t1, Or.inr ⟨by omega, J2, M2, t2, by rw [show J2 74 58 = 1 by omega], rfl⟩⟩
    · show Rch l E 6 154 _ _ _ _ (14, [some (vR 74), some (vI r), some (vI f), some (vI d), some (vI k)], [vI 0], MW b I L)
      have k72 : ¬ (0 ≤ f ∧ f ≤ 5) := k72
      refine rch_br cdK154 (cd := (0 : Int) ≠ 0) (t1 := (19, [some (vR 74), some (vI r), some (vI f), some (vI d), some (vI k)], [], MW b I L)) (t2 := (17, [some (vR 74), some (vI r), some (vI f), some (vI d), some (vI k)], [], MW b I L)) rfl (fun c9 => absurd c9 (by decide)) (fun _ => ?_)
      refine rch_run cdK154 (by decide) 1 (t' := (18, [some (vR 74), some (vI r), some (vI f), some (vI d), some (vI k)], [vI 0], MW b I L)) (ps := []) rfl trivial ?_
      refine rch_ret cdK154 (rt := some (vI 0)) rfl (Or.inl rfl) mw_c ?_
      exact Or.inr ⟨by unfold rwK; omega, rfl, rfl⟩
  · show Rch l E 6 154 _ _ _ _ (7, [some (vR 74), some (vI r), some (vI f), some (vI d), some (vI k)], [vI 0], MW b I L)
    have k71 : ¬ ((0 ≤ r ∧ r < I 74 4 ∧ I 80 r.toNat = 0) ∧ I 79 r.toNat ≤ k) := k71
    refine rch_br cdK154 (cd := (0 : Int) = 0) (t1 := (17, [some (vR 74), some (vI r), some (vI f), some (vI d), some (vI k)], [], MW b I L)) (t2 := (10, [some (vR 74), some (vI r), some (vI f), some (vI d), some (vI k)], [], MW b I L)) rfl (fun _ => ?_) (fun c9 => absurd (by decide) c9)
    refine rch_run cdK154 (by decide) 1 (t' := (18, [some (vR 74), some (vI r), some (vI f), some (vI d), some (vI k)], [vI 0], MW b I L)) (ps := []) rfl trivial ?_
    refine rch_ret cdK154 (rt := some (vI 0)) rfl (Or.inl rfl) mw_c ?_
    exact Or.inr ⟨by unfold rwK; omega, rfl, rfl⟩

theorem con_split {l : Launch} {E : AX} {h k : Nat} {args : List AV} {w : AW} {nc ns : Nat} {A : Prop} {B : (Nat → Nat → Int) → Prop} {D F : (Nat → Nat → Int) → Option AV → AW → Prop} {G : Option AV → AW → Prop} (hc : Con l E h k args w nc ns (fun rt w => (A ∧ ∃ J, B J ∧ (D J rt w ∨ F J rt w)) ∨ G rt w)) : Con l E h k args w nc ns (fun rt w => (A ∧ ∃ J, B J ∧ D J rt w) ∨ (A ∧ ∃ J, B J ∧ F J rt w) ∨ G rt w) := by
  have : (fun rt w => (A ∧ ∃ J, B J ∧ (D J rt w ∨ F J rt w)) ∨ G rt w) = (fun rt w => (A ∧ ∃ J, B J ∧ D J rt w) ∨ (A ∧ ∃ J, B J ∧ F J rt w) ∨ G rt w) := by
    funext rt w
    apply propext
    constructor
    · rintro (⟨a, J, b, d | f⟩ | g)
      · exact Or.inl ⟨a, J, b, d⟩
      · exact Or.inr (Or.inl ⟨a, J, b, f⟩)
      · exact Or.inr (Or.inr g)
    · rintro (⟨a, J, b, d⟩ | ⟨a, J, b, f⟩ | g)
      · exact Or.inl ⟨a, J, b, Or.inl d⟩
      · exact Or.inl ⟨a, J, b, Or.inr f⟩
      · exact Or.inr g
  rw [← this]
  exact hc

theorem k_goldenM (l : Launch) (E : AX) (b : Bool) (I L : Nat → Nat → Int) (r f d k : Int) (hP : PMk I) (hG : (0 ≤ f ∧ f ≤ 5) → GMk I f d) : Con l E 7 155 [vR 74, vI r, vI f, vI d, vI k] (MW b I L) 0 0 (fun rt w => ((rwK I r k ∧ 0 ≤ f ∧ f ≤ 5) ∧ ∃ J, PtM I J d k ∧ ((J 74 58 = 0 ∧ rt = some (vI (-1)) ∧ w = MW b J L) ∨ (J 74 58 ≠ 0 ∧ ∃ J2 M2, Gld J L J2 M2 (J 111 r.toNat) f d k ∧ rt = some (vI (J2 74 67)) ∧ w = MW b J2 M2))) ∨ (¬ (rwK I r k ∧ 0 ≤ f ∧ f ≤ 5) ∧ rt = some (vI (-1)) ∧ w = MW b I L)) := by
  refine con_ok (fun hw9 hs9 => ?_)
  refine con_intro (by decide) (Nat.le_of_ble_eq_true rfl) ?_
  show Rch l E 7 155 _ _ _ _ (0, [some (vR 74), some (vI r), some (vI f), some (vI d), some (vI k)], [], MW b I L)
  refine rch_run cdK155 (by decide) 5 (t' := (6, [some (vR 74), some (vI r), some (vI f), some (vI d), some (vI k)], [vI k, vI d, vI f, vI r, vR 74], MW b I L)) (ps := []) rfl trivial ?_
  refine rch_call (h' := 6) (k' := 154) (as := [vR 74, vI r, vI f, vI d, vI k]) (t1 := (9, [some (vR 74), some (vI r), some (vI f), some (vI d), some (vI k)], [], MW b I L)) cdK155 rfl (con_split (k_tells l E b I L r f d k hP hG)) (by decide) mw_le ?_
  rintro rt9 w9 (⟨c9, J1, t1, k9, rfl, rfl⟩ | ⟨c9, J1, t1, k9, J2, M2, t2, rfl, rfl⟩ | ⟨c9, rfl, rfl⟩) _ _
  · show Rch l E 7 155 _ _ _ _ (9, [some (vR 74), some (vI r), some (vI f), some (vI d), some (vI k)], [vI 0], MW b J1 L)
    refine rch_br cdK155 (cd := (0 : Int) = 0) (t1 := (19, [some (vR 74), some (vI r), some (vI f), some (vI d), some (vI k)], [], MW b J1 L)) (t2 := (12, [some (vR 74), some (vI r), some (vI f), some (vI d), some (vI k)], [], MW b J1 L)) rfl (fun _ => ?_) (fun c9 => absurd (by decide) c9)
    refine rch_run cdK155 (by decide) 1 (t' := (20, [some (vR 74), some (vI r), some (vI f), some (vI d), some (vI k)], [vI (-1)], MW b J1 L)) (ps := []) rfl trivial ?_
    refine rch_ret cdK155 (rt := some (vI (-1))) rfl trivial mw_c ?_
    exact Or.inl ⟨c9, J1, t1, Or.inl ⟨k9, rfl, rfl⟩⟩
  · show Rch l E 7 155 _ _ _ _ (9, [some (vR 74), some (vI r), some (vI f), some (vI d), some (vI k)], [vI 1], MW b J2 M2)
    refine rch_br cdK155 (cd := (1 : Int) = 0) (t1 := (19, [some (vR 74), some (vI r), some (vI f), some (vI d), some (vI k)], [], MW b J2 M2)) (t2 := (12, [some (vR 74), some (vI r), some (vI f), some (vI d), some (vI k)], [], MW b J2 M2)) rfl (fun c9 => absurd c9 (by decide)) (fun _ => ?_)
    refine rch_run cdK155 (by decide) 3 (t' := (20, [some (vR 74), some (vI r), some (vI f), some (vI d), some (vI k)], [vI (J2 74 67)], MW b J2 M2)) (ps := []) rfl trivial ?_
    refine rch_ret cdK155 (rt := some (vI (J2 74 67))) rfl trivial mw_c ?_
    exact Or.inl ⟨c9, J1, t1, Or.inr ⟨k9, J2, M2, t2, rfl, rfl⟩⟩
  · show Rch l E 7 155 _ _ _ _ (9, [some (vR 74), some (vI r), some (vI f), some (vI d), some (vI k)], [vI 0], MW b I L)
    refine rch_br cdK155 (cd := (0 : Int) = 0) (t1 := (19, [some (vR 74), some (vI r), some (vI f), some (vI d), some (vI k)], [], MW b I L)) (t2 := (12, [some (vR 74), some (vI r), some (vI f), some (vI d), some (vI k)], [], MW b I L)) rfl (fun _ => ?_) (fun c9 => absurd (by decide) c9)
    refine rch_run cdK155 (by decide) 1 (t' := (20, [some (vR 74), some (vI r), some (vI f), some (vI d), some (vI k)], [vI (-1)], MW b I L)) (ps := []) rfl trivial ?_
    refine rch_ret cdK155 (rt := some (vI (-1))) rfl trivial mw_c ?_
    exact Or.inr ⟨c9, rfl, rfl⟩

theorem k_fromM (l : Launch) (E : AX) (b : Bool) (I L : Nat → Nat → Int) (r f d k : Int) (hP : PMk I) (hG : (0 ≤ f ∧ f ≤ 5) → GMk I f d) : Con l E 7 156 [vR 74, vI r, vI f, vI d, vI k] (MW b I L) 0 0 (fun rt w => ((rwK I r k ∧ 0 ≤ f ∧ f ≤ 5) ∧ ∃ J, PtM I J d k ∧ ((J 74 58 = 0 ∧ rt = some (vI (-1)) ∧ w = MW b J L) ∨ (J 74 58 ≠ 0 ∧ ∃ J2 M2, Gld J L J2 M2 (J 111 r.toNat) f d k ∧ rt = some (vI (J2 74 68)) ∧ w = MW b J2 M2))) ∨ (¬ (rwK I r k ∧ 0 ≤ f ∧ f ≤ 5) ∧ rt = some (vI (-1)) ∧ w = MW b I L)) := by
  refine con_ok (fun hw9 hs9 => ?_)
  refine con_intro (by decide) (Nat.le_of_ble_eq_true rfl) ?_
  show Rch l E 7 156 _ _ _ _ (0, [some (vR 74), some (vI r), some (vI f), some (vI d), some (vI k)], [], MW b I L)
  refine rch_run cdK156 (by decide) 5 (t' := (6, [some (vR 74), some (vI r), some (vI f), some (vI d), some (vI k)], [vI k, vI d, vI f, vI r, vR 74], MW b I L)) (ps := []) rfl trivial ?_
  refine rch_call (h' := 6) (k' := 154) (as := [vR 74, vI r, vI f, vI d, vI k]) (t1 := (9, [some (vR 74), some (vI r), some (vI f), some (vI d), some (vI k)], [], MW b I L)) cdK156 rfl (con_split (k_tells l E b I L r f d k hP hG)) (by decide) mw_le ?_
  rintro rt9 w9 (⟨c9, J1, t1, k9, rfl, rfl⟩ | ⟨c9, J1, t1, k9, J2, M2, t2, rfl, rfl⟩ | ⟨c9, rfl, rfl⟩) _ _
  · show Rch l E 7 156 _ _ _ _ (9, [some (vR 74), some (vI r), some (vI f), some (vI d), some (vI k)], [vI 0], MW b J1 L)
    refine rch_br cdK156 (cd := (0 : Int) = 0) (t1 := (19, [some (vR 74), some (vI r), some (vI f), some (vI d), some (vI k)], [], MW b J1 L)) (t2 := (12, [some (vR 74), some (vI r), some (vI f), some (vI d), some (vI k)], [], MW b J1 L)) rfl (fun _ => ?_) (fun c9 => absurd (by decide) c9)
    refine rch_run cdK156 (by decide) 1 (t' := (20, [some (vR 74), some (vI r), some (vI f), some (vI d), some (vI k)], [vI (-1)], MW b J1 L)) (ps := []) rfl trivial ?_
    refine rch_ret cdK156 (rt := some (vI (-1))) rfl trivial mw_c ?_
    exact Or.inl ⟨c9, J1, t1, Or.inl ⟨k9, rfl, rfl⟩⟩
  · show Rch l E 7 156 _ _ _ _ (9, [some (vR 74), some (vI r), some (vI f), some (vI d), some (vI k)], [vI 1], MW b J2 M2)
    refine rch_br cdK156 (cd := (1 : Int) = 0) (t1 := (19, [some (vR 74), some (vI r), some (vI f), some (vI d), some (vI k)], [], MW b J2 M2)) (t2 := (12, [some (vR 74), some (vI r), some (vI f), some (vI d), some (vI k)], [], MW b J2 M2)) rfl (fun c9 => absurd c9 (by decide)) (fun _ => ?_)
    refine rch_run cdK156 (by decide) 3 (t' := (20, [some (vR 74), some (vI r), some (vI f), some (vI d), some (vI k)], [vI (J2 74 68)], MW b J2 M2)) (ps := []) rfl trivial ?_
    refine rch_ret cdK156 (rt := some (vI (J2 74 68))) rfl trivial mw_c ?_
    exact Or.inl ⟨c9, J1, t1, Or.inr ⟨k9, J2, M2, t2, rfl, rfl⟩⟩
  · show Rch l E 7 156 _ _ _ _ (9, [some (vR 74), some (vI r), some (vI f), some (vI d), some (vI k)], [vI 0], MW b I L)
    refine rch_br cdK156 (cd := (0 : Int) = 0) (t1 := (19, [some (vR 74), some (vI r), some (vI f), some (vI d), some (vI k)], [], MW b I L)) (t2 := (12, [some (vR 74), some (vI r), some (vI f), some (vI d), some (vI k)], [], MW b I L)) rfl (fun _ => ?_) (fun c9 => absurd (by decide) c9)
    refine rch_run cdK156 (by decide) 1 (t' := (20, [some (vR 74), some (vI r), some (vI f), some (vI d), some (vI k)], [vI (-1)], MW b I L)) (ps := []) rfl trivial ?_
    refine rch_ret cdK156 (rt := some (vI (-1))) rfl trivial mw_c ?_
    exact Or.inr ⟨c9, rfl, rfl⟩

theorem k_tornM (l : Launch) (E : AX) (b : Bool) (I L : Nat → Nat → Int) (r f d k : Int) (hP : PMk I) (hG : (0 ≤ f ∧ f ≤ 5) → GMk I f d) : Con l E 7 157 [vR 74, vI r, vI f, vI d, vI k] (MW b I L) 0 0 (fun rt w => ((rwK I r k ∧ 0 ≤ f ∧ f ≤ 5) ∧ ∃ J, PtM I J d k ∧ ((J 74 58 = 0 ∧ rt = some (vI (-1)) ∧ w = MW b J L) ∨ (J 74 58 ≠ 0 ∧ ∃ J2 M2, Gld J L J2 M2 (J 111 r.toNat) f d k ∧ rt = some (vI (J2 74 69)) ∧ w = MW b J2 M2))) ∨ (¬ (rwK I r k ∧ 0 ≤ f ∧ f ≤ 5) ∧ rt = some (vI (-1)) ∧ w = MW b I L)) := by
  refine con_ok (fun hw9 hs9 => ?_)
  refine con_intro (by decide) (Nat.le_of_ble_eq_true rfl) ?_
  show Rch l E 7 157 _ _ _ _ (0, [some (vR 74), some (vI r), some (vI f), some (vI d), some (vI k)], [], MW b I L)
  refine rch_run cdK157 (by decide) 5 (t' := (6, [some (vR 74), some (vI r), some (vI f), some (vI d), some (vI k)], [vI k, vI d, vI f, vI r, vR 74], MW b I L)) (ps := []) rfl trivial ?_
  refine rch_call (h' := 6) (k' := 154) (as := [vR 74, vI r, vI f, vI d, vI k]) (t1 := (9, [some (vR 74), some (vI r), some (vI f), some (vI d), some (vI k)], [], MW b I L)) cdK157 rfl (con_split (k_tells l E b I L r f d k hP hG)) (by decide) mw_le ?_
  rintro rt9 w9 (⟨c9, J1, t1, k9, rfl, rfl⟩ | ⟨c9, J1, t1, k9, J2, M2, t2, rfl, rfl⟩ | ⟨c9, rfl, rfl⟩) _ _
  · show Rch l E 7 157 _ _ _ _ (9, [some (vR 74), some (vI r), some (vI f), some (vI d), some (vI k)], [vI 0], MW b J1 L)
    refine rch_br cdK157 (cd := (0 : Int) = 0) (t1 := (19, [some (vR 74), some (vI r), some (vI f), some (vI d), some (vI k)], [], MW b J1 L)) (t2 := (12, [some (vR 74), some (vI r), some (vI f), some (vI d), some (vI k)], [], MW b J1 L)) rfl (fun _ => ?_) (fun c9 => absurd (by decide) c9)
    refine rch_run cdK157 (by decide) 1 (t' := (20, [some (vR 74), some (vI r), some (vI f), some (vI d), some (vI k)], [vI (-1)], MW b J1 L)) (ps := []) rfl trivial ?_
    refine rch_ret cdK157 (rt := some (vI (-1))) rfl trivial mw_c ?_
    exact Or.inl ⟨c9, J1, t1, Or.inl ⟨k9, rfl, rfl⟩⟩
  · show Rch l E 7 157 _ _ _ _ (9, [some (vR 74), some (vI r), some (vI f), some (vI d), some (vI k)], [vI 1], MW b J2 M2)
    refine rch_br cdK157 (cd := (1 : Int) = 0) (t1 := (19, [some (vR 74), some (vI r), some (vI f), some (vI d), some (vI k)], [], MW b J2 M2)) (t2 := (12, [some (vR 74), some (vI r), some (vI f), some (vI d), some (vI k)], [], MW b J2 M2)) rfl (fun c9 => absurd c9 (by decide)) (fun _ => ?_)
    refine rch_run cdK157 (by decide) 3 (t' := (20, [some (vR 74), some (vI r), some (vI f), some (vI d), some (vI k)], [vI (J2 74 69)], MW b J2 M2)) (ps := []) rfl trivial ?_
    refine rch_ret cdK157 (rt := some (vI (J2 74 69))) rfl trivial mw_c ?_
    exact Or.inl ⟨c9, J1, t1, Or.inr ⟨k9, J2, M2, t2, rfl, rfl⟩⟩
  · show Rch l E 7 157 _ _ _ _ (9, [some (vR 74), some (vI r), some (vI f), some (vI d), some (vI k)], [vI 0], MW b I L)
    refine rch_br cdK157 (cd := (0 : Int) = 0) (t1 := (19, [some (vR 74), some (vI r), some (vI f), some (vI d), some (vI k)], [], MW b I L)) (t2 := (12, [some (vR 74), some (vI r), some (vI f), some (vI d), some (vI k)], [], MW b I L)) rfl (fun _ => ?_) (fun c9 => absurd (by decide) c9)
    refine rch_run cdK157 (by decide) 1 (t' := (20, [some (vR 74), some (vI r), some (vI f), some (vI d), some (vI k)], [vI (-1)], MW b I L)) (ps := []) rfl trivial ?_
    refine rch_ret cdK157 (rt := some (vI (-1))) rfl trivial mw_c ?_
    exact Or.inr ⟨c9, rfl, rfl⟩
