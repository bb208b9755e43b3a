theorem k_X11_trust (l : Launch) (E : AX) (b : Bool) (I L : Nat → Nat → Int) (s : Int) (f : Int) (t : Int) : Con l E 2 62 [vR 0, vI s, vI f, vI t] (MW b I L) 0 0 (fun rt w => (((0 ≤ s ∧ s ≤ 5) ∧ (0 ≤ f ∧ f ≤ 5) ∧ 0 ≤ t ∧ t ≤ 9) ∧ rt = some (vI 1) ∧ w = MW b (upI I 14 ((s * 6) + f).toNat t) L) ∨ ((¬ ((0 ≤ s ∧ s ≤ 5) ∧ (0 ≤ f ∧ f ≤ 5) ∧ 0 ≤ t ∧ t ≤ 9)) ∧ rt = some (vI 0) ∧ w = MW b I L)) := by
  refine con_intro (by decide) (Nat.le_of_ble_eq_true rfl) ?_
  show Rch l E 2 62 _ _ _ _ (0, [some (vR 0), some (vI s), some (vI f), some (vI t)], [], MW b I L)
  refine rch_run rfl (by decide) 1 (t' := (1, [some (vR 0), some (vI s), some (vI f), some (vI t)], [vI s], MW b I L)) (ps := []) rfl trivial ?_
  refine rch_call (h' := 1) (k' := 90) (as := [vI s]) (t1 := (4, [some (vR 0), some (vI s), some (vI f), some (vI t)], [], MW b I L)) rfl rfl (k_X11_isSource l E b I L s ) (by decide) mw_le ?_
  rintro rt9 w9 (⟨k1, rfl, rfl⟩ | ⟨k1, rfl, rfl⟩) _ _
  · show Rch l E 2 62 _ _ _ _ (4, [some (vR 0), some (vI s), some (vI f), some (vI t)], [vI 1], MW b I L)
    have k1 : 0 ≤ s ∧ s ≤ 5 := k1
    refine rch_br rfl (cd := (1 : Int) = 0) (t1 := (24, [some (vR 0), some (vI s), some (vI f), some (vI t)], [], MW b I L)) (t2 := (7, [some (vR 0), some (vI s), some (vI f), some (vI t)], [], MW b I L)) rfl (fun c9 => absurd c9 (by decide)) (fun _ => ?_)
    refine rch_run rfl (by decide) 1 (t' := (8, [some (vR 0), some (vI s), some (vI f), some (vI t)], [vI f], MW b I L)) (ps := []) rfl trivial ?_
    refine rch_call (h' := 1) (k' := 91) (as := [vI f]) (t1 := (11, [some (vR 0), some (vI s), some (vI f), some (vI t)], [], MW b I L)) rfl rfl (k_X11_isField l E b I L f ) (by decide) mw_le ?_
    rintro rt9 w9 (⟨k2, rfl, rfl⟩ | ⟨k2, rfl, rfl⟩) _ _
    · show Rch l E 2 62 _ _ _ _ (11, [some (vR 0), some (vI s), some (vI f), some (vI t)], [vI 1], MW b I L)
      have k2 : 0 ≤ f ∧ f ≤ 5 := k2
      refine rch_br rfl (cd := (1 : Int) = 0) (t1 := (24, [some (vR 0), some (vI s), some (vI f), some (vI t)], [], MW b I L)) (t2 := (14, [some (vR 0), some (vI s), some (vI f), some (vI t)], [], MW b I L)) rfl (fun c9 => absurd c9 (by decide)) (fun _ => ?_)
      refine rch_run rfl (by decide) 1 (t' := (15, [some (vR 0), some (vI s), some (vI f), some (vI t)], [vI t], MW b I L)) (ps := []) rfl trivial ?_
      refine rch_br rfl (cd := t < 0) (t1 := (24, [some (vR 0), some (vI s), some (vI f), some (vI t)], [], MW b I L)) (t2 := (18, [some (vR 0), some (vI s), some (vI f), some (vI t)], [], MW b I L)) rfl (fun c15_3 => ?_) (fun c15_3 => ?_)
      · refine rch_run rfl (by decide) 1 (t' := (25, [some (vR 0), some (vI s), some (vI f), some (vI t)], [vI 0], MW b I L)) (ps := []) rfl trivial ?_
        refine rch_ret rfl (rt := some (vI 0)) rfl (Or.inl rfl) mw_c ?_
        first | exact Or.inl ⟨by omega, rfl, rfl⟩ | exact Or.inr (⟨by omega, rfl, rfl⟩) | (exfalso; omega)
      · refine rch_run rfl (by decide) 2 (t' := (21, [some (vR 0), some (vI s), some (vI f), some (vI t)], [vI 9, vI t], MW b I L)) (ps := []) rfl trivial ?_
        refine rch_br rfl (cd := t ≤ (9 : Int)) (t1 := (26, [some (vR 0), some (vI s), some (vI f), some (vI t)], [], MW b I L)) (t2 := (24, [some (vR 0), some (vI s), some (vI f), some (vI t)], [], MW b I L)) rfl (fun c21_4 => ?_) (fun c21_4 => ?_)
        · refine rch_run rfl (by decide) 11 (t' := (42, [some (vR 0), some (vI s), some (vI f), some (vI t)], [vI 1], MW b (upI I 14 ((s * 6) + f).toNat t) L)) (ps := [i32 (s * 6), i32 ((s * 6) + f), 0 ≤ (s * 6) + f ∧ (s * 6) + f < ((36 : Nat) : Int)]) rfl (by simp only [all_, i32, i64]; first | omega | (simp; done) | (simp; omega)) ?_
          refine rch_ret rfl (rt := some (vI 1)) rfl (Or.inr rfl) mw_c ?_
          first | exact Or.inl ⟨by omega, rfl, rfl⟩ | exact Or.inr (⟨by omega, rfl, rfl⟩) | (exfalso; omega)
        · refine rch_run rfl (by decide) 1 (t' := (25, [some (vR 0), some (vI s), some (vI f), some (vI t)], [vI 0], MW b I L)) (ps := []) rfl trivial ?_
          refine rch_ret rfl (rt := some (vI 0)) rfl (Or.inl rfl) mw_c ?_
          first | exact Or.inl ⟨by omega, rfl, rfl⟩ | exact Or.inr (⟨by omega, rfl, rfl⟩) | (exfalso; omega)
    · show Rch l E 2 62 _ _ _ _ (11, [some (vR 0), some (vI s), some (vI f), some (vI t)], [vI 0], MW b I L)
      have k2 : ¬ (0 ≤ f ∧ f ≤ 5) := k2
      refine rch_br rfl (cd := (0 : Int) = 0) (t1 := (24, [some (vR 0), some (vI s), some (vI f), some (vI t)], [], MW b I L)) (t2 := (14, [some (vR 0), some (vI s), some (vI f), some (vI t)], [], MW b I L)) rfl (fun _ => ?_) (fun c9 => absurd (by decide) c9)
      refine rch_run rfl (by decide) 1 (t' := (25, [some (vR 0), some (vI s), some (vI f), some (vI t)], [vI 0], MW b I L)) (ps := []) rfl trivial ?_
      refine rch_ret rfl (rt := some (vI 0)) rfl (Or.inl rfl) mw_c ?_
      first | exact Or.inl ⟨by omega, rfl, rfl⟩ | exact Or.inr (⟨by omega, rfl, rfl⟩) | (exfalso; omega)
  · show Rch l E 2 62 _ _ _ _ (4, [some (vR 0), some (vI s), some (vI f), some (vI t)], [vI 0], MW b I L)
    have k1 : ¬ (0 ≤ s ∧ s ≤ 5) := k1
    refine rch_br rfl (cd := (0 : Int) = 0) (t1 := (24, [some (vR 0), some (vI s), some (vI f), some (vI t)], [], MW b I L)) (t2 := (7, [some (vR 0), some (vI s), some (vI f), some (vI t)], [], MW b I L)) rfl (fun _ => ?_) (fun c9 => absurd (by decide) c9)
    refine rch_run rfl (by decide) 1 (t' := (25, [some (vR 0), some (vI s), some (vI f), some (vI t)], [vI 0], MW b I L)) (ps := []) rfl trivial ?_
    refine rch_ret rfl (rt := some (vI 0)) rfl (Or.inl rfl) mw_c ?_
    first | exact Or.inl ⟨by omega, rfl, rfl⟩ | exact Or.inr (⟨by omega, rfl, rfl⟩) | (exfalso; omega)

theorem k_X12_trust (l : Launch) (E : AX) (b : Bool) (I L : Nat → Nat → Int) (s : Int) (f : Int) (t : Int) : Con l E 2 105 [vR 74, vI s, vI f, vI t] (MW b I L) 0 0 (fun rt w => (((0 ≤ s ∧ s ≤ 5) ∧ (0 ≤ f ∧ f ≤ 5) ∧ 0 ≤ t ∧ t ≤ 9) ∧ rt = some (vI 1) ∧ w = MW b (upI I 75 ((6 * s) + f).toNat t) L) ∨ ((¬ ((0 ≤ s ∧ s ≤ 5) ∧ (0 ≤ f ∧ f ≤ 5) ∧ 0 ≤ t ∧ t ≤ 9)) ∧ rt = some (vI 0) ∧ w = MW b I L)) := by
  refine con_intro (by decide) (Nat.le_of_ble_eq_true rfl) ?_
  show Rch l E 2 105 _ _ _ _ (0, [some (vR 74), some (vI s), some (vI f), some (vI t)], [], MW b I L)
  refine rch_run rfl (by decide) 1 (t' := (1, [some (vR 74), some (vI s), some (vI f), some (vI t)], [vI s], MW b I L)) (ps := []) rfl trivial ?_
  refine rch_call (h' := 1) (k' := 103) (as := [vI s]) (t1 := (4, [some (vR 74), some (vI s), some (vI f), some (vI t)], [], MW b I L)) rfl rfl (k_X12_isSource l E b I L s ) (by decide) mw_le ?_
  rintro rt9 w9 (⟨k3, rfl, rfl⟩ | ⟨k3, rfl, rfl⟩) _ _
  · show Rch l E 2 105 _ _ _ _ (4, [some (vR 74), some (vI s), some (vI f), some (vI t)], [vI 1], MW b I L)
    have k3 : 0 ≤ s ∧ s ≤ 5 := k3
    refine rch_br rfl (cd := (1 : Int) = 0) (t1 := (24, [some (vR 74), some (vI s), some (vI f), some (vI t)], [], MW b I L)) (t2 := (7, [some (vR 74), some (vI s), some (vI f), some (vI t)], [], MW b I L)) rfl (fun c9 => absurd c9 (by decide)) (fun _ => ?_)
    refine rch_run rfl (by decide) 1 (t' := (8, [some (vR 74), some (vI s), some (vI f), some (vI t)], [vI f], MW b I L)) (ps := []) rfl trivial ?_
    refine rch_call (h' := 1) (k' := 104) (as := [vI f]) (t1 := (11, [some (vR 74), some (vI s), some (vI f), some (vI t)], [], MW b I L)) rfl rfl (k_X12_isField l E b I L f ) (by decide) mw_le ?_
    rintro rt9 w9 (⟨k4, rfl, rfl⟩ | ⟨k4, rfl, rfl⟩) _ _
    · show Rch l E 2 105 _ _ _ _ (11, [some (vR 74), some (vI s), some (vI f), some (vI t)], [vI 1], MW b I L)
      have k4 : 0 ≤ f ∧ f ≤ 5 := k4
      refine rch_br rfl (cd := (1 : Int) = 0) (t1 := (24, [some (vR 74), some (vI s), some (vI f), some (vI t)], [], MW b I L)) (t2 := (14, [some (vR 74), some (vI s), some (vI f), some (vI t)], [], MW b I L)) rfl (fun c9 => absurd c9 (by decide)) (fun _ => ?_)
      refine rch_run rfl (by decide) 1 (t' := (15, [some (vR 74), some (vI s), some (vI f), some (vI t)], [vI t], MW b I L)) (ps := []) rfl trivial ?_
      refine rch_br rfl (cd := t < 0) (t1 := (24, [some (vR 74), some (vI s), some (vI f), some (vI t)], [], MW b I L)) (t2 := (18, [some (vR 74), some (vI s), some (vI f), some (vI t)], [], MW b I L)) rfl (fun c15_3 => ?_) (fun c15_3 => ?_)
      · refine rch_run rfl (by decide) 1 (t' := (25, [some (vR 74), some (vI s), some (vI f), some (vI t)], [vI 0], MW b I L)) (ps := []) rfl trivial ?_
        refine rch_ret rfl (rt := some (vI 0)) rfl (Or.inl rfl) mw_c ?_
        first | exact Or.inl ⟨by omega, rfl, rfl⟩ | exact Or.inr (⟨by omega, rfl, rfl⟩) | (exfalso; omega)
      · refine rch_run rfl (by decide) 2 (t' := (21, [some (vR 74), some (vI s), some (vI f), some (vI t)], [vI 9, vI t], MW b I L)) (ps := []) rfl trivial ?_
        refine rch_br rfl (cd := t ≤ (9 : Int)) (t1 := (26, [some (vR 74), some (vI s), some (vI f), some (vI t)], [], MW b I L)) (t2 := (24, [some (vR 74), some (vI s), some (vI f), some (vI t)], [], MW b I L)) rfl (fun c21_4 => ?_) (fun c21_4 => ?_)
        · refine rch_run rfl (by decide) 10 (t' := (39, [some (vR 74), some (vI s), some (vI f), some (vI t)], [vI 1], MW b (upI I 75 ((6 * s) + f).toNat t) L)) (ps := [i32 (6 * s), i32 ((6 * s) + f), 0 ≤ (6 * s) + f ∧ (6 * s) + f < ((36 : Nat) : Int)]) rfl (by simp only [all_, i32, i64]; first | omega | (simp; done) | (simp; omega)) ?_
          refine rch_ret rfl (rt := some (vI 1)) rfl (Or.inr rfl) mw_c ?_
          first | exact Or.inl ⟨by omega, rfl, rfl⟩ | exact Or.inr (⟨by omega, rfl, rfl⟩) | (exfalso; omega)
        · refine rch_run rfl (by decide) 1 (t' := (25, [some (vR 74), some (vI s), some (vI f), some (vI t)], [vI 0], MW b I L)) (ps := []) rfl trivial ?_
          refine rch_ret rfl (rt := some (vI 0)) rfl (Or.inl rfl) mw_c ?_
          first | exact Or.inl ⟨by omega, rfl, rfl⟩ | exact Or.inr (⟨by omega, rfl, rfl⟩) | (exfalso; omega)
    · show Rch l E 2 105 _ _ _ _ (11, [some (vR 74), some (vI s), some (vI f), some (vI t)], [vI 0], MW b I L)
      have k4 : ¬ (0 ≤ f ∧ f ≤ 5) := k4
      refine rch_br rfl (cd := (0 : Int) = 0) (t1 := (24, [some (vR 74), some (vI s), some (vI f), some (vI t)], [], MW b I L)) (t2 := (14, [some (vR 74), some (vI s), some (vI f), some (vI t)], [], MW b I L)) rfl (fun _ => ?_) (fun c9 => absurd (by decide) c9)
      refine rch_run rfl (by decide) 1 (t' := (25, [some (vR 74), some (vI s), some (vI f), some (vI t)], [vI 0], MW b I L)) (ps := []) rfl trivial ?_
      refine rch_ret rfl (rt := some (vI 0)) rfl (Or.inl rfl) mw_c ?_
      first | exact Or.inl ⟨by omega, rfl, rfl⟩ | exact Or.inr (⟨by omega, rfl, rfl⟩) | (exfalso; omega)
  · show Rch l E 2 105 _ _ _ _ (4, [some (vR 74), some (vI s), some (vI f), some (vI t)], [vI 0], MW b I L)
    have k3 : ¬ (0 ≤ s ∧ s ≤ 5) := k3
    refine rch_br rfl (cd := (0 : Int) = 0) (t1 := (24, [some (vR 74), some (vI s), some (vI f), some (vI t)], [], MW b I L)) (t2 := (7, [some (vR 74), some (vI s), some (vI f), some (vI t)], [], MW b I L)) rfl (fun _ => ?_) (fun c9 => absurd (by decide) c9)
    refine rch_run rfl (by decide) 1 (t' := (25, [some (vR 74), some (vI s), some (vI f), some (vI t)], [vI 0], MW b I L)) (ps := []) rfl trivial ?_
    refine rch_ret rfl (rt := some (vI 0)) rfl (Or.inl rfl) mw_c ?_
    first | exact Or.inl ⟨by omega, rfl, rfl⟩ | exact Or.inr (⟨by omega, rfl, rfl⟩) | (exfalso; omega)

theorem k_X11_fade (l : Launch) (E : AX) (b : Bool) (I L : Nat → Nat → Int) (f : Int) (t : Int) : Con l E 2 63 [vR 0, vI f, vI t] (MW b I L) 0 0 (fun rt w => (((0 ≤ f ∧ f ≤ 5) ∧ 0 ≤ t ∧ t ≤ 50) ∧ rt = some (vI 1) ∧ w = MW b (upI I 15 f.toNat t) L) ∨ ((¬ ((0 ≤ f ∧ f ≤ 5) ∧ 0 ≤ t ∧ t ≤ 50)) ∧ rt = some (vI 0) ∧ w = MW b I L)) := by
  refine con_intro (by decide) (Nat.le_of_ble_eq_true rfl) ?_
  show Rch l E 2 63 _ _ _ _ (0, [some (vR 0), some (vI f), some (vI t)], [], MW b I L)
  refine rch_run rfl (by decide) 1 (t' := (1, [some (vR 0), some (vI f), some (vI t)], [vI f], MW b I L)) (ps := []) rfl trivial ?_
  refine rch_call (h' := 1) (k' := 91) (as := [vI f]) (t1 := (4, [some (vR 0), some (vI f), some (vI t)], [], MW b I L)) rfl rfl (k_X11_isField l E b I L f ) (by decide) mw_le ?_
  rintro rt9 w9 (⟨k5, rfl, rfl⟩ | ⟨k5, rfl, rfl⟩) _ _
  · show Rch l E 2 63 _ _ _ _ (4, [some (vR 0), some (vI f), some (vI t)], [vI 1], MW b I L)
    have k5 : 0 ≤ f ∧ f ≤ 5 := k5
    refine rch_br rfl (cd := (1 : Int) = 0) (t1 := (17, [some (vR 0), some (vI f), some (vI t)], [], MW b I L)) (t2 := (7, [some (vR 0), some (vI f), some (vI t)], [], MW b I L)) rfl (fun c9 => absurd c9 (by decide)) (fun _ => ?_)
    refine rch_run rfl (by decide) 1 (t' := (8, [some (vR 0), some (vI f), some (vI t)], [vI t], MW b I L)) (ps := []) rfl trivial ?_
    refine rch_br rfl (cd := t < 0) (t1 := (17, [some (vR 0), some (vI f), some (vI t)], [], MW b I L)) (t2 := (11, [some (vR 0), some (vI f), some (vI t)], [], MW b I L)) rfl (fun c8_2 => ?_) (fun c8_2 => ?_)
    · refine rch_run rfl (by decide) 1 (t' := (18, [some (vR 0), some (vI f), some (vI t)], [vI 0], MW b I L)) (ps := []) rfl trivial ?_
      refine rch_ret rfl (rt := some (vI 0)) rfl (Or.inl rfl) mw_c ?_
      first | exact Or.inl ⟨by omega, rfl, rfl⟩ | exact Or.inr (⟨by omega, rfl, rfl⟩) | (exfalso; omega)
    · refine rch_run rfl (by decide) 2 (t' := (14, [some (vR 0), some (vI f), some (vI t)], [vI 50, vI t], MW b I L)) (ps := []) rfl trivial ?_
      refine rch_br rfl (cd := t ≤ (50 : Int)) (t1 := (19, [some (vR 0), some (vI f), some (vI t)], [], MW b I L)) (t2 := (17, [some (vR 0), some (vI f), some (vI t)], [], MW b I L)) rfl (fun c14_3 => ?_) (fun c14_3 => ?_)
      · refine rch_run rfl (by decide) 7 (t' := (30, [some (vR 0), some (vI f), some (vI t)], [vI 1], MW b (upI I 15 f.toNat t) L)) (ps := [0 ≤ f ∧ f < ((6 : Nat) : Int)]) rfl (by simp only [all_, i32, i64]; first | omega | (simp; done) | (simp; omega)) ?_
        refine rch_ret rfl (rt := some (vI 1)) rfl (Or.inr rfl) mw_c ?_
        first | exact Or.inl ⟨by omega, rfl, rfl⟩ | exact Or.inr (⟨by omega, rfl, rfl⟩) | (exfalso; omega)
      · refine rch_run rfl (by decide) 1 (t' := (18, [some (vR 0), some (vI f), some (vI t)], [vI 0], MW b I L)) (ps := []) rfl trivial ?_
        refine rch_ret rfl (rt := some (vI 0)) rfl (Or.inl rfl) mw_c ?_
        first | exact Or.inl ⟨by omega, rfl, rfl⟩ | exact Or.inr (⟨by omega, rfl, rfl⟩) | (exfalso; omega)
  · show Rch l E 2 63 _ _ _ _ (4, [some (vR 0), some (vI f), some (vI t)], [vI 0], MW b I L)
    have k5 : ¬ (0 ≤ f ∧ f ≤ 5) := k5
    refine rch_br rfl (cd := (0 : Int) = 0) (t1 := (17, [some (vR 0), some (vI f), some (vI t)], [], MW b I L)) (t2 := (7, [some (vR 0), some (vI f), some (vI t)], [], MW b I L)) rfl (fun _ => ?_) (fun c9 => absurd (by decide) c9)
    refine rch_run rfl (by decide) 1 (t' := (18, [some (vR 0), some (vI f), some (vI t)], [vI 0], MW b I L)) (ps := []) rfl trivial ?_
    refine rch_ret rfl (rt := some (vI 0)) rfl (Or.inl rfl) mw_c ?_
    first | exact Or.inl ⟨by omega, rfl, rfl⟩ | exact Or.inr (⟨by omega, rfl, rfl⟩) | (exfalso; omega)

theorem k_X12_fade (l : Launch) (E : AX) (b : Bool) (I L : Nat → Nat → Int) (f : Int) (t : Int) : Con l E 2 106 [vR 74, vI f, vI t] (MW b I L) 0 0 (fun rt w => (((0 ≤ f ∧ f ≤ 5) ∧ 0 ≤ t ∧ t ≤ 50) ∧ rt = some (vI 1) ∧ w = MW b (upI I 76 f.toNat t) L) ∨ ((¬ ((0 ≤ f ∧ f ≤ 5) ∧ 0 ≤ t ∧ t ≤ 50)) ∧ rt = some (vI 0) ∧ w = MW b I L)) := by
  refine con_intro (by decide) (Nat.le_of_ble_eq_true rfl) ?_
  show Rch l E 2 106 _ _ _ _ (0, [some (vR 74), some (vI f), some (vI t)], [], MW b I L)
  refine rch_run rfl (by decide) 1 (t' := (1, [some (vR 74), some (vI f), some (vI t)], [vI f], MW b I L)) (ps := []) rfl trivial ?_
  refine rch_call (h' := 1) (k' := 104) (as := [vI f]) (t1 := (4, [some (vR 74), some (vI f), some (vI t)], [], MW b I L)) rfl rfl (k_X12_isField l E b I L f ) (by decide) mw_le ?_
  rintro rt9 w9 (⟨k6, rfl, rfl⟩ | ⟨k6, rfl, rfl⟩) _ _
  · show Rch l E 2 106 _ _ _ _ (4, [some (vR 74), some (vI f), some (vI t)], [vI 1], MW b I L)
    have k6 : 0 ≤ f ∧ f ≤ 5 := k6
    refine rch_br rfl (cd := (1 : Int) = 0) (t1 := (17, [some (vR 74), some (vI f), some (vI t)], [], MW b I L)) (t2 := (7, [some (vR 74), some (vI f), some (vI t)], [], MW b I L)) rfl (fun c9 => absurd c9 (by decide)) (fun _ => ?_)
    refine rch_run rfl (by decide) 1 (t' := (8, [some (vR 74), some (vI f), some (vI t)], [vI t], MW b I L)) (ps := []) rfl trivial ?_
    refine rch_br rfl (cd := t < 0) (t1 := (17, [some (vR 74), some (vI f), some (vI t)], [], MW b I L)) (t2 := (11, [some (vR 74), some (vI f), some (vI t)], [], MW b I L)) rfl (fun c8_2 => ?_) (fun c8_2 => ?_)
    · refine rch_run rfl (by decide) 1 (t' := (18, [some (vR 74), some (vI f), some (vI t)], [vI 0], MW b I L)) (ps := []) rfl trivial ?_
      refine rch_ret rfl (rt := some (vI 0)) rfl (Or.inl rfl) mw_c ?_
      first | exact Or.inl ⟨by omega, rfl, rfl⟩ | exact Or.inr (⟨by omega, rfl, rfl⟩) | (exfalso; omega)
    · refine rch_run rfl (by decide) 2 (t' := (14, [some (vR 74), some (vI f), some (vI t)], [vI 50, vI t], MW b I L)) (ps := []) rfl trivial ?_
      refine rch_br rfl (cd := t ≤ (50 : Int)) (t1 := (19, [some (vR 74), some (vI f), some (vI t)], [], MW b I L)) (t2 := (17, [some (vR 74), some (vI f), some (vI t)], [], MW b I L)) rfl (fun c14_3 => ?_) (fun c14_3 => ?_)
      · refine rch_run rfl (by decide) 6 (t' := (27, [some (vR 74), some (vI f), some (vI t)], [vI 1], MW b (upI I 76 f.toNat t) L)) (ps := [0 ≤ f ∧ f < ((6 : Nat) : Int)]) rfl (by simp only [all_, i32, i64]; first | omega | (simp; done) | (simp; omega)) ?_
        refine rch_ret rfl (rt := some (vI 1)) rfl (Or.inr rfl) mw_c ?_
        first | exact Or.inl ⟨by omega, rfl, rfl⟩ | exact Or.inr (⟨by omega, rfl, rfl⟩) | (exfalso; omega)
      · refine rch_run rfl (by decide) 1 (t' := (18, [some (vR 74), some (vI f), some (vI t)], [vI 0], MW b I L)) (ps := []) rfl trivial ?_
        refine rch_ret rfl (rt := some (vI 0)) rfl (Or.inl rfl) mw_c ?_
        first | exact Or.inl ⟨by omega, rfl, rfl⟩ | exact Or.inr (⟨by omega, rfl, rfl⟩) | (exfalso; omega)
  · show Rch l E 2 106 _ _ _ _ (4, [some (vR 74), some (vI f), some (vI t)], [vI 0], MW b I L)
    have k6 : ¬ (0 ≤ f ∧ f ≤ 5) := k6
    refine rch_br rfl (cd := (0 : Int) = 0) (t1 := (17, [some (vR 74), some (vI f), some (vI t)], [], MW b I L)) (t2 := (7, [some (vR 74), some (vI f), some (vI t)], [], MW b I L)) rfl (fun _ => ?_) (fun c9 => absurd (by decide) c9)
    refine rch_run rfl (by decide) 1 (t' := (18, [some (vR 74), some (vI f), some (vI t)], [vI 0], MW b I L)) (ps := []) rfl trivial ?_
    refine rch_ret rfl (rt := some (vI 0)) rfl (Or.inl rfl) mw_c ?_
    first | exact Or.inl ⟨by omega, rfl, rfl⟩ | exact Or.inr (⟨by omega, rfl, rfl⟩) | (exfalso; omega)

theorem k_X11_rights (l : Launch) (E : AX) (b : Bool) (I L : Nat → Nat → Int) (f : Int) (t : Int) : Con l E 2 64 [vR 0, vI f, vI t] (MW b I L) 0 0 (fun rt w => (((0 ≤ f ∧ f ≤ 5) ∧ 0 ≤ t ∧ t ≤ 63) ∧ rt = some (vI 1) ∧ w = MW b (upI I 16 f.toNat t) L) ∨ ((¬ ((0 ≤ f ∧ f ≤ 5) ∧ 0 ≤ t ∧ t ≤ 63)) ∧ rt = some (vI 0) ∧ w = MW b I L)) := by
  refine con_intro (by decide) (Nat.le_of_ble_eq_true rfl) ?_
  show Rch l E 2 64 _ _ _ _ (0, [some (vR 0), some (vI f), some (vI t)], [], MW b I L)
  refine rch_run rfl (by decide) 1 (t' := (1, [some (vR 0), some (vI f), some (vI t)], [vI f], MW b I L)) (ps := []) rfl trivial ?_
  refine rch_call (h' := 1) (k' := 90) (as := [vI f]) (t1 := (4, [some (vR 0), some (vI f), some (vI t)], [], MW b I L)) rfl rfl (k_X11_isSource l E b I L f ) (by decide) mw_le ?_
  rintro rt9 w9 (⟨k7, rfl, rfl⟩ | ⟨k7, rfl, rfl⟩) _ _
  · show Rch l E 2 64 _ _ _ _ (4, [some (vR 0), some (vI f), some (vI t)], [vI 1], MW b I L)
    have k7 : 0 ≤ f ∧ f ≤ 5 := k7
    refine rch_br rfl (cd := (1 : Int) = 0) (t1 := (17, [some (vR 0), some (vI f), some (vI t)], [], MW b I L)) (t2 := (7, [some (vR 0), some (vI f), some (vI t)], [], MW b I L)) rfl (fun c9 => absurd c9 (by decide)) (fun _ => ?_)
    refine rch_run rfl (by decide) 1 (t' := (8, [some (vR 0), some (vI f), some (vI t)], [vI t], MW b I L)) (ps := []) rfl trivial ?_
    refine rch_br rfl (cd := t < 0) (t1 := (17, [some (vR 0), some (vI f), some (vI t)], [], MW b I L)) (t2 := (11, [some (vR 0), some (vI f), some (vI t)], [], MW b I L)) rfl (fun c8_2 => ?_) (fun c8_2 => ?_)
    · refine rch_run rfl (by decide) 1 (t' := (18, [some (vR 0), some (vI f), some (vI t)], [vI 0], MW b I L)) (ps := []) rfl trivial ?_
      refine rch_ret rfl (rt := some (vI 0)) rfl (Or.inl rfl) mw_c ?_
      first | exact Or.inl ⟨by omega, rfl, rfl⟩ | exact Or.inr (⟨by omega, rfl, rfl⟩) | (exfalso; omega)
    · refine rch_run rfl (by decide) 2 (t' := (14, [some (vR 0), some (vI f), some (vI t)], [vI 63, vI t], MW b I L)) (ps := []) rfl trivial ?_
      refine rch_br rfl (cd := t ≤ (63 : Int)) (t1 := (19, [some (vR 0), some (vI f), some (vI t)], [], MW b I L)) (t2 := (17, [some (vR 0), some (vI f), some (vI t)], [], MW b I L)) rfl (fun c14_3 => ?_) (fun c14_3 => ?_)
      · refine rch_run rfl (by decide) 6 (t' := (27, [some (vR 0), some (vI f), some (vI t)], [vI 1], MW b (upI I 16 f.toNat t) L)) (ps := [0 ≤ f ∧ f < ((6 : Nat) : Int)]) rfl (by simp only [all_, i32, i64]; first | omega | (simp; done) | (simp; omega)) ?_
        refine rch_ret rfl (rt := some (vI 1)) rfl (Or.inr rfl) mw_c ?_
        first | exact Or.inl ⟨by omega, rfl, rfl⟩ | exact Or.inr (⟨by omega, rfl, rfl⟩) | (exfalso; omega)
      · refine rch_run rfl (by decide) 1 (t' := (18, [some (vR 0), some (vI f), some (vI t)], [vI 0], MW b I L)) (ps := []) rfl trivial ?_
        refine rch_ret rfl (rt := some (vI 0)) rfl (Or.inl rfl) mw_c ?_
        first | exact Or.inl ⟨by omega, rfl, rfl⟩ | exact Or.inr (⟨by omega, rfl, rfl⟩) | (exfalso; omega)
  · show Rch l E 2 64 _ _ _ _ (4, [some (vR 0), some (vI f), some (vI t)], [vI 0], MW b I L)
    have k7 : ¬ (0 ≤ f ∧ f ≤ 5) := k7
    refine rch_br rfl (cd := (0 : Int) = 0) (t1 := (17, [some (vR 0), some (vI f), some (vI t)], [], MW b I L)) (t2 := (7, [some (vR 0), some (vI f), some (vI t)], [], MW b I L)) rfl (fun _ => ?_) (fun c9 => absurd (by decide) c9)
    refine rch_run rfl (by decide) 1 (t' := (18, [some (vR 0), some (vI f), some (vI t)], [vI 0], MW b I L)) (ps := []) rfl trivial ?_
    refine rch_ret rfl (rt := some (vI 0)) rfl (Or.inl rfl) mw_c ?_
    first | exact Or.inl ⟨by omega, rfl, rfl⟩ | exact Or.inr (⟨by omega, rfl, rfl⟩) | (exfalso; omega)

theorem k_X12_rights (l : Launch) (E : AX) (b : Bool) (I L : Nat → Nat → Int) (f : Int) (t : Int) : Con l E 2 107 [vR 74, vI f, vI t] (MW b I L) 0 0 (fun rt w => (((0 ≤ f ∧ f ≤ 5) ∧ 0 ≤ t ∧ t ≤ 63) ∧ rt = some (vI 1) ∧ w = MW b (upI I 77 f.toNat t) L) ∨ ((¬ ((0 ≤ f ∧ f ≤ 5) ∧ 0 ≤ t ∧ t ≤ 63)) ∧ rt = some (vI 0) ∧ w = MW b I L)) := by
  refine con_intro (by decide) (Nat.le_of_ble_eq_true rfl) ?_
  show Rch l E 2 107 _ _ _ _ (0, [some (vR 74), some (vI f), some (vI t)], [], MW b I L)
  refine rch_run rfl (by decide) 1 (t' := (1, [some (vR 74), some (vI f), some (vI t)], [vI f], MW b I L)) (ps := []) rfl trivial ?_
  refine rch_call (h' := 1) (k' := 103) (as := [vI f]) (t1 := (4, [some (vR 74), some (vI f), some (vI t)], [], MW b I L)) rfl rfl (k_X12_isSource l E b I L f ) (by decide) mw_le ?_
  rintro rt9 w9 (⟨k8, rfl, rfl⟩ | ⟨k8, rfl, rfl⟩) _ _
  · show Rch l E 2 107 _ _ _ _ (4, [some (vR 74), some (vI f), some (vI t)], [vI 1], MW b I L)
    have k8 : 0 ≤ f ∧ f ≤ 5 := k8
    refine rch_br rfl (cd := (1 : Int) = 0) (t1 := (17, [some (vR 74), some (vI f), some (vI t)], [], MW b I L)) (t2 := (7, [some (vR 74), some (vI f), some (vI t)], [], MW b I L)) rfl (fun c9 => absurd c9 (by decide)) (fun _ => ?_)
    refine rch_run rfl (by decide) 1 (t' := (8, [some (vR 74), some (vI f), some (vI t)], [vI t], MW b I L)) (ps := []) rfl trivial ?_
    refine rch_br rfl (cd := t < 0) (t1 := (17, [some (vR 74), some (vI f), some (vI t)], [], MW b I L)) (t2 := (11, [some (vR 74), some (vI f), some (vI t)], [], MW b I L)) rfl (fun c8_2 => ?_) (fun c8_2 => ?_)
    · refine rch_run rfl (by decide) 1 (t' := (18, [some (vR 74), some (vI f), some (vI t)], [vI 0], MW b I L)) (ps := []) rfl trivial ?_
      refine rch_ret rfl (rt := some (vI 0)) rfl (Or.inl rfl) mw_c ?_
      first | exact Or.inl ⟨by omega, rfl, rfl⟩ | exact Or.inr (⟨by omega, rfl, rfl⟩) | (exfalso; omega)
    · refine rch_run rfl (by decide) 2 (t' := (14, [some (vR 74), some (vI f), some (vI t)], [vI 63, vI t], MW b I L)) (ps := []) rfl trivial ?_
      refine rch_br rfl (cd := t ≤ (63 : Int)) (t1 := (19, [some (vR 74), some (vI f), some (vI t)], [], MW b I L)) (t2 := (17, [some (vR 74), some (vI f), some (vI t)], [], MW b I L)) rfl (fun c14_3 => ?_) (fun c14_3 => ?_)
      · refine rch_run rfl (by decide) 6 (t' := (27, [some (vR 74), some (vI f), some (vI t)], [vI 1], MW b (upI I 77 f.toNat t) L)) (ps := [0 ≤ f ∧ f < ((6 : Nat) : Int)]) rfl (by simp only [all_, i32, i64]; first | omega | (simp; done) | (simp; omega)) ?_
        refine rch_ret rfl (rt := some (vI 1)) rfl (Or.inr rfl) mw_c ?_
        first | exact Or.inl ⟨by omega, rfl, rfl⟩ | exact Or.inr (⟨by omega, rfl, rfl⟩) | (exfalso; omega)
      · refine rch_run rfl (by decide) 1 (t' := (18, [some (vR 74), some (vI f), some (vI t)], [vI 0], MW b I L)) (ps := []) rfl trivial ?_
        refine rch_ret rfl (rt := some (vI 0)) rfl (Or.inl rfl) mw_c ?_
        first | exact Or.inl ⟨by omega, rfl, rfl⟩ | exact Or.inr (⟨by omega, rfl, rfl⟩) | (exfalso; omega)
  · show Rch l E 2 107 _ _ _ _ (4, [some (vR 74), some (vI f), some (vI t)], [vI 0], MW b I L)
    have k8 : ¬ (0 ≤ f ∧ f ≤ 5) := k8
    refine rch_br rfl (cd := (0 : Int) = 0) (t1 := (17, [some (vR 74), some (vI f), some (vI t)], [], MW b I L)) (t2 := (7, [some (vR 74), some (vI f), some (vI t)], [], MW b I L)) rfl (fun _ => ?_) (fun c9 => absurd (by decide) c9)
    refine rch_run rfl (by decide) 1 (t' := (18, [some (vR 74), some (vI f), some (vI t)], [vI 0], MW b I L)) (ps := []) rfl trivial ?_
    refine rch_ret rfl (rt := some (vI 0)) rfl (Or.inl rfl) mw_c ?_
    first | exact Or.inl ⟨by omega, rfl, rfl⟩ | exact Or.inr (⟨by omega, rfl, rfl⟩) | (exfalso; omega)

theorem k_X11_later (l : Launch) (E : AX) (b : Bool) (I L : Nat → Nat → Int) (d : Int) (hd : 0 ≤ I 0 0 ∧ I 0 0 ≤ 100000) : Con l E 1 69 [vR 0, vI d] (MW b I L) 0 0 (fun rt w => ((0 ≤ d ∧ d ≤ 1000 ∧ I 0 0 + d ≤ 100000) ∧ rt = some (vI ((I 0 0) + d)) ∧ w = MW b (upI I 0 0 ((I 0 0) + d)) L) ∨ ((¬ (0 ≤ d ∧ d ≤ 1000 ∧ I 0 0 + d ≤ 100000)) ∧ rt = some (vI (-1)) ∧ w = MW b I L)) := by
  refine con_intro (by decide) (Nat.le_of_ble_eq_true rfl) ?_
  show Rch l E 1 69 _ _ _ _ (0, [some (vR 0), some (vI d)], [], MW b I L)
  refine rch_run rfl (by decide) 1 (t' := (1, [some (vR 0), some (vI d)], [vI d], MW b I L)) (ps := []) rfl trivial ?_
  refine rch_br rfl (cd := d < 0) (t1 := (22, [some (vR 0), some (vI d)], [], MW b I L)) (t2 := (4, [some (vR 0), some (vI d)], [], MW b I L)) rfl (fun c1_1 => ?_) (fun c1_1 => ?_)
  · refine rch_run rfl (by decide) 1 (t' := (23, [some (vR 0), some (vI d)], [vI (-1)], MW b I L)) (ps := []) rfl trivial ?_
    refine rch_ret rfl (rt := some (vI (-1))) rfl trivial mw_c ?_
    first | exact Or.inl ⟨by omega, rfl, rfl⟩ | exact Or.inr (⟨by omega, rfl, rfl⟩) | (exfalso; omega)
  · refine rch_run rfl (by decide) 2 (t' := (8, [some (vR 0), some (vI d)], [vI 1000, vI d], MW b I L)) (ps := []) rfl trivial ?_
    refine rch_br rfl (cd := (1000 : Int) < d) (t1 := (22, [some (vR 0), some (vI d)], [], MW b I L)) (t2 := (11, [some (vR 0), some (vI d)], [], MW b I L)) rfl (fun c8_2 => ?_) (fun c8_2 => ?_)
    · refine rch_run rfl (by decide) 1 (t' := (23, [some (vR 0), some (vI d)], [vI (-1)], MW b I L)) (ps := []) rfl trivial ?_
      refine rch_ret rfl (rt := some (vI (-1))) rfl trivial mw_c ?_
      first | exact Or.inl ⟨by omega, rfl, rfl⟩ | exact Or.inr (⟨by omega, rfl, rfl⟩) | (exfalso; omega)
    · refine rch_run rfl (by decide) 5 (t' := (19, [some (vR 0), some (vI d)], [vI 100000, vI ((I 0 0) + d)], MW b I L)) (ps := [i32 ((I 0 0) + d)]) rfl (by simp only [all_, i32, i64]; first | omega | (simp; done) | (simp; omega)) ?_
      refine rch_br rfl (cd := (I 0 0) + d ≤ (100000 : Int)) (t1 := (24, [some (vR 0), some (vI d)], [], MW b I L)) (t2 := (22, [some (vR 0), some (vI d)], [], MW b I L)) rfl (fun c19_3 => ?_) (fun c19_3 => ?_)
      · refine rch_run rfl (by decide) 8 (t' := (38, [some (vR 0), some (vI d)], [vI ((I 0 0) + d)], MW b (upI I 0 0 ((I 0 0) + d)) L)) (ps := [i32 ((I 0 0) + d)]) rfl (by simp only [all_, i32, i64]; first | omega | (simp; done) | (simp; omega)) ?_
        refine rch_ret rfl (rt := some (vI ((I 0 0) + d))) rfl trivial mw_c ?_
        first | exact Or.inl ⟨by omega, rfl, rfl⟩ | exact Or.inr (⟨by omega, rfl, rfl⟩) | (exfalso; omega)
      · refine rch_run rfl (by decide) 1 (t' := (23, [some (vR 0), some (vI d)], [vI (-1)], MW b I L)) (ps := []) rfl trivial ?_
        refine rch_ret rfl (rt := some (vI (-1))) rfl trivial mw_c ?_
        first | exact Or.inl ⟨by omega, rfl, rfl⟩ | exact Or.inr (⟨by omega, rfl, rfl⟩) | (exfalso; omega)

theorem k_X12_later (l : Launch) (E : AX) (b : Bool) (I L : Nat → Nat → Int) (d : Int) (hd : 0 ≤ I 74 0 ∧ I 74 0 ≤ 100000) : Con l E 1 118 [vR 74, vI d] (MW b I L) 0 0 (fun rt w => ((0 ≤ d ∧ d ≤ 1000 ∧ I 74 0 + d ≤ 100000) ∧ rt = some (vI ((I 74 0) + d)) ∧ w = MW b (upI I 74 0 ((I 74 0) + d)) L) ∨ ((¬ (0 ≤ d ∧ d ≤ 1000 ∧ I 74 0 + d ≤ 100000)) ∧ rt = some (vI (-1)) ∧ w = MW b I L)) := by
  refine con_intro (by decide) (Nat.le_of_ble_eq_true rfl) ?_
  show Rch l E 1 118 _ _ _ _ (0, [some (vR 74), some (vI d)], [], MW b I L)
  refine rch_run rfl (by decide) 1 (t' := (1, [some (vR 74), some (vI d)], [vI d], MW b I L)) (ps := []) rfl trivial ?_
  refine rch_br rfl (cd := d < 0) (t1 := (22, [some (vR 74), some (vI d)], [], MW b I L)) (t2 := (4, [some (vR 74), some (vI d)], [], MW b I L)) rfl (fun c1_1 => ?_) (fun c1_1 => ?_)
  · refine rch_run rfl (by decide) 1 (t' := (23, [some (vR 74), some (vI d)], [vI (-1)], MW b I L)) (ps := []) rfl trivial ?_
    refine rch_ret rfl (rt := some (vI (-1))) rfl trivial mw_c ?_
    first | exact Or.inl ⟨by omega, rfl, rfl⟩ | exact Or.inr (⟨by omega, rfl, rfl⟩) | (exfalso; omega)
  · refine rch_run rfl (by decide) 2 (t' := (8, [some (vR 74), some (vI d)], [vI 1000, vI d], MW b I L)) (ps := []) rfl trivial ?_
    refine rch_br rfl (cd := (1000 : Int) < d) (t1 := (22, [some (vR 74), some (vI d)], [], MW b I L)) (t2 := (11, [some (vR 74), some (vI d)], [], MW b I L)) rfl (fun c8_2 => ?_) (fun c8_2 => ?_)
    · refine rch_run rfl (by decide) 1 (t' := (23, [some (vR 74), some (vI d)], [vI (-1)], MW b I L)) (ps := []) rfl trivial ?_
      refine rch_ret rfl (rt := some (vI (-1))) rfl trivial mw_c ?_
      first | exact Or.inl ⟨by omega, rfl, rfl⟩ | exact Or.inr (⟨by omega, rfl, rfl⟩) | (exfalso; omega)
    · refine rch_run rfl (by decide) 5 (t' := (19, [some (vR 74), some (vI d)], [vI 100000, vI ((I 74 0) + d)], MW b I L)) (ps := [i32 ((I 74 0) + d)]) rfl (by simp only [all_, i32, i64]; first | omega | (simp; done) | (simp; omega)) ?_
      refine rch_br rfl (cd := (I 74 0) + d ≤ (100000 : Int)) (t1 := (24, [some (vR 74), some (vI d)], [], MW b I L)) (t2 := (22, [some (vR 74), some (vI d)], [], MW b I L)) rfl (fun c19_3 => ?_) (fun c19_3 => ?_)
      · refine rch_run rfl (by decide) 8 (t' := (38, [some (vR 74), some (vI d)], [vI ((I 74 0) + d)], MW b (upI I 74 0 ((I 74 0) + d)) L)) (ps := [i32 ((I 74 0) + d)]) rfl (by simp only [all_, i32, i64]; first | omega | (simp; done) | (simp; omega)) ?_
        refine rch_ret rfl (rt := some (vI ((I 74 0) + d))) rfl trivial mw_c ?_
        first | exact Or.inl ⟨by omega, rfl, rfl⟩ | exact Or.inr (⟨by omega, rfl, rfl⟩) | (exfalso; omega)
      · refine rch_run rfl (by decide) 1 (t' := (23, [some (vR 74), some (vI d)], [vI (-1)], MW b I L)) (ps := []) rfl trivial ?_
        refine rch_ret rfl (rt := some (vI (-1))) rfl trivial mw_c ?_
        first | exact Or.inl ⟨by omega, rfl, rfl⟩ | exact Or.inr (⟨by omega, rfl, rfl⟩) | (exfalso; omega)

theorem k_X11_end (l : Launch) (E : AX) (b : Bool) (I L : Nat → Nat → Int) (n : Int) : Con l E 1 71 [vR 0, vI n] (MW b I L) 0 0 (fun rt w => ((0 ≤ n ∧ n ≤ I 28 0) ∧ rt = some (vI n) ∧ w = MW b (upI I 28 0 n) L) ∨ ((¬ (0 ≤ n ∧ n ≤ I 28 0)) ∧ rt = some (vI (-1)) ∧ w = MW b I L)) := by
  refine con_intro (by decide) (Nat.le_of_ble_eq_true rfl) ?_
  show Rch l E 1 71 _ _ _ _ (0, [some (vR 0), some (vI n)], [], MW b I L)
  refine rch_run rfl (by decide) 1 (t' := (1, [some (vR 0), some (vI n)], [vI n], MW b I L)) (ps := []) rfl trivial ?_
  refine rch_br rfl (cd := n < 0) (t1 := (15, [some (vR 0), some (vI n)], [], MW b I L)) (t2 := (4, [some (vR 0), some (vI n)], [], MW b I L)) rfl (fun c1_1 => ?_) (fun c1_1 => ?_)
  · refine rch_run rfl (by decide) 1 (t' := (16, [some (vR 0), some (vI n)], [vI (-1)], MW b I L)) (ps := []) rfl trivial ?_
    refine rch_ret rfl (rt := some (vI (-1))) rfl trivial mw_c ?_
    first | exact Or.inl ⟨by omega, rfl, rfl⟩ | exact Or.inr (⟨by omega, rfl, rfl⟩) | (exfalso; omega)
  · refine rch_run rfl (by decide) 4 (t' := (12, [some (vR 0), some (vI n)], [vI (I 28 0), vI n], MW b I L)) (ps := []) rfl trivial ?_
    refine rch_br rfl (cd := n ≤ I 28 0) (t1 := (17, [some (vR 0), some (vI n)], [], MW b I L)) (t2 := (15, [some (vR 0), some (vI n)], [], MW b I L)) rfl (fun c12_2 => ?_) (fun c12_2 => ?_)
    · refine rch_run rfl (by decide) 5 (t' := (26, [some (vR 0), some (vI n)], [vI n], MW b (upI I 28 0 n) L)) (ps := []) rfl trivial ?_
      refine rch_ret rfl (rt := some (vI n)) rfl trivial mw_c ?_
      first | exact Or.inl ⟨by omega, rfl, rfl⟩ | exact Or.inr (⟨by omega, rfl, rfl⟩) | (exfalso; omega)
    · refine rch_run rfl (by decide) 1 (t' := (16, [some (vR 0), some (vI n)], [vI (-1)], MW b I L)) (ps := []) rfl trivial ?_
      refine rch_ret rfl (rt := some (vI (-1))) rfl trivial mw_c ?_
      first | exact Or.inl ⟨by omega, rfl, rfl⟩ | exact Or.inr (⟨by omega, rfl, rfl⟩) | (exfalso; omega)

theorem k_X12_end (l : Launch) (E : AX) (b : Bool) (I L : Nat → Nat → Int) (n : Int) : Con l E 1 121 [vR 74, vI n] (MW b I L) 0 0 (fun rt w => ((0 ≤ n ∧ n ≤ I 74 30) ∧ rt = some (vI n) ∧ w = MW b (upI I 74 30 n) L) ∨ ((¬ (0 ≤ n ∧ n ≤ I 74 30)) ∧ rt = some (vI (-1)) ∧ w = MW b I L)) := by
  refine con_intro (by decide) (Nat.le_of_ble_eq_true rfl) ?_
  show Rch l E 1 121 _ _ _ _ (0, [some (vR 74), some (vI n)], [], MW b I L)
  refine rch_run rfl (by decide) 1 (t' := (1, [some (vR 74), some (vI n)], [vI n], MW b I L)) (ps := []) rfl trivial ?_
  refine rch_br rfl (cd := n < 0) (t1 := (12, [some (vR 74), some (vI n)], [], MW b I L)) (t2 := (4, [some (vR 74), some (vI n)], [], MW b I L)) rfl (fun c1_1 => ?_) (fun c1_1 => ?_)
  · refine rch_run rfl (by decide) 1 (t' := (13, [some (vR 74), some (vI n)], [vI (-1)], MW b I L)) (ps := []) rfl trivial ?_
    refine rch_ret rfl (rt := some (vI (-1))) rfl trivial mw_c ?_
    first | exact Or.inl ⟨by omega, rfl, rfl⟩ | exact Or.inr (⟨by omega, rfl, rfl⟩) | (exfalso; omega)
  · refine rch_run rfl (by decide) 3 (t' := (9, [some (vR 74), some (vI n)], [vI (I 74 30), vI n], MW b I L)) (ps := []) rfl trivial ?_
    refine rch_br rfl (cd := n ≤ I 74 30) (t1 := (14, [some (vR 74), some (vI n)], [], MW b I L)) (t2 := (12, [some (vR 74), some (vI n)], [], MW b I L)) rfl (fun c9_2 => ?_) (fun c9_2 => ?_)
    · refine rch_run rfl (by decide) 4 (t' := (20, [some (vR 74), some (vI n)], [vI n], MW b (upI I 74 30 n) L)) (ps := []) rfl trivial ?_
      refine rch_ret rfl (rt := some (vI n)) rfl trivial mw_c ?_
      first | exact Or.inl ⟨by omega, rfl, rfl⟩ | exact Or.inr (⟨by omega, rfl, rfl⟩) | (exfalso; omega)
    · refine rch_run rfl (by decide) 1 (t' := (13, [some (vR 74), some (vI n)], [vI (-1)], MW b I L)) (ps := []) rfl trivial ?_
      refine rch_ret rfl (rt := some (vI (-1))) rfl trivial mw_c ?_
      first | exact Or.inl ⟨by omega, rfl, rfl⟩ | exact Or.inr (⟨by omega, rfl, rfl⟩) | (exfalso; omega)
