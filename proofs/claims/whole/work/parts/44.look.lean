def LookR (I J : Nat → Nat → Int) (d k : Int) : Prop := (J = I ∧ I 0 1 ≠ 0 ∧ I 44 0 = d ∧ I 44 1 = k) ∨ ∃ J1, Took I J1 d k ∧ J = upI (upI J1 0 1 1) 0 2 0

theorem k_X11_look (l : Launch) (E : AX) (b : Bool) (I L : Nat → Nat → Int) (d k : Int) (hV : VOK I) : Con l E 3 93 [vR 0, vI d, vI k] (MW b I L) 0 0 (fun rt w => ∃ J, rt = none ∧ w = MW b J L ∧ LookR I J d k) := by
  refine con_ok (fun hw9 hs9 => ?_)
  refine con_intro (by decide) (Nat.le_of_ble_eq_true rfl) ?_
  show Rch l E 3 93 _ _ _ _ (0, [some (vR 0), some (vI d), some (vI k)], [], MW b I L)
  refine rch_run rfl (by decide) 2 (t' := (4, [some (vR 0), some (vI d), some (vI k)], [vI (I 0 1)], MW b I L)) (ps := []) rfl trivial ?_
  refine rch_br rfl (cd := I 0 1 = 0) (t1 := (30, [some (vR 0), some (vI d), some (vI k)], [], MW b I L)) (t2 := (7, [some (vR 0), some (vI d), some (vI k)], [], MW b I L)) rfl (fun c4_1 => ?_) (fun c4_1 => ?_)
  · refine rch_run rfl (by decide) 8 (t' := (44, [some (vR 0), some (vI d), some (vI k)], [vI k, vI d, vR 21, vR 17, vR 44], MW b I L)) (ps := []) rfl trivial ?_
    refine rch_call (h' := 2) (k' := 34) (as := [vR 44, vR 17, vR 21, vI d, vI k]) (t1 := (47, [some (vR 0), some (vI d), some (vI k)], [], MW b I L)) rfl rfl (k_X5_take l E b I L d k hV) (by decide) mw_le ?_
    rintro rt9 w9 (⟨J1, rfl, rfl, t1⟩) _ _
    show Rch l E 3 93 _ _ _ _ (47, [some (vR 0), some (vI d), some (vI k)], [], MW b J1 L)
    refine rch_run rfl (by decide) 6 (t' := (57, [some (vR 0), some (vI d), some (vI k)], [], MW b (upI (upI J1 0 1 1) 0 2 0) L)) (ps := [(1 : Int) = 0 ∨ (1 : Int) = 1, (0 : Int) = 0 ∨ (0 : Int) = 1]) rfl (by simp only [all_, i32, i64]; first | omega | (simp; done) | (simp; omega)) ?_
    refine rch_ret rfl (rt := none) rfl trivial mw_c ?_
    exact ⟨_, rfl, rfl, Or.inr ⟨J1, t1, rfl⟩⟩
  · refine rch_run rfl (by decide) 4 (t' := (15, [some (vR 0), some (vI d), some (vI k)], [vI d, vI (I 44 0)], MW b I L)) (ps := []) rfl trivial ?_
    refine rch_br rfl (cd := I 44 0 ≠ d) (t1 := (30, [some (vR 0), some (vI d), some (vI k)], [], MW b I L)) (t2 := (18, [some (vR 0), some (vI d), some (vI k)], [], MW b I L)) rfl (fun c15_2 => ?_) (fun c15_2 => ?_)
    · refine rch_run rfl (by decide) 8 (t' := (44, [some (vR 0), some (vI d), some (vI k)], [vI k, vI d, vR 21, vR 17, vR 44], MW b I L)) (ps := []) rfl trivial ?_
      refine rch_call (h' := 2) (k' := 34) (as := [vR 44, vR 17, vR 21, vI d, vI k]) (t1 := (47, [some (vR 0), some (vI d), some (vI k)], [], MW b I L)) rfl rfl (k_X5_take l E b I L d k hV) (by decide) mw_le ?_
      rintro rt9 w9 (⟨J2, rfl, rfl, t2⟩) _ _
      show Rch l E 3 93 _ _ _ _ (47, [some (vR 0), some (vI d), some (vI k)], [], MW b J2 L)
      refine rch_run rfl (by decide) 6 (t' := (57, [some (vR 0), some (vI d), some (vI k)], [], MW b (upI (upI J2 0 1 1) 0 2 0) L)) (ps := [(1 : Int) = 0 ∨ (1 : Int) = 1, (0 : Int) = 0 ∨ (0 : Int) = 1]) rfl (by simp only [all_, i32, i64]; first | omega | (simp; done) | (simp; omega)) ?_
      refine rch_ret rfl (rt := none) rfl trivial mw_c ?_
      exact ⟨_, rfl, rfl, Or.inr ⟨J2, t2, rfl⟩⟩
    · refine rch_run rfl (by decide) 4 (t' := (26, [some (vR 0), some (vI d), some (vI k)], [vI k, vI (I 44 1)], MW b I L)) (ps := []) rfl trivial ?_
      refine rch_br rfl (cd := I 44 1 ≠ k) (t1 := (30, [some (vR 0), some (vI d), some (vI k)], [], MW b I L)) (t2 := (29, [some (vR 0), some (vI d), some (vI k)], [], MW b I L)) rfl (fun c26_3 => ?_) (fun c26_3 => ?_)
      · refine rch_run rfl (by decide) 8 (t' := (44, [some (vR 0), some (vI d), some (vI k)], [vI k, vI d, vR 21, vR 17, vR 44], MW b I L)) (ps := []) rfl trivial ?_
        refine rch_call (h' := 2) (k' := 34) (as := [vR 44, vR 17, vR 21, vI d, vI k]) (t1 := (47, [some (vR 0), some (vI d), some (vI k)], [], MW b I L)) rfl rfl (k_X5_take l E b I L d k hV) (by decide) mw_le ?_
        rintro rt9 w9 (⟨J3, rfl, rfl, t3⟩) _ _
        show Rch l E 3 93 _ _ _ _ (47, [some (vR 0), some (vI d), some (vI k)], [], MW b J3 L)
        refine rch_run rfl (by decide) 6 (t' := (57, [some (vR 0), some (vI d), some (vI k)], [], MW b (upI (upI J3 0 1 1) 0 2 0) L)) (ps := [(1 : Int) = 0 ∨ (1 : Int) = 1, (0 : Int) = 0 ∨ (0 : Int) = 1]) rfl (by simp only [all_, i32, i64]; first | omega | (simp; done) | (simp; omega)) ?_
        refine rch_ret rfl (rt := none) rfl trivial mw_c ?_
        exact ⟨_, rfl, rfl, Or.inr ⟨J3, t3, rfl⟩⟩
      · refine rch_ret rfl (rt := none) rfl trivial mw_c ?_
        exact ⟨I, rfl, rfl, Or.inl ⟨rfl, by omega, by omega, by omega⟩⟩

theorem k_X11_value (l : Launch) (E : AX) (b : Bool) (I L : Nat → Nat → Int) (r f d k : Int) (hV : VOK I) : Con l E 4 67 [vR 0, vI r, vI f, vI d, vI k] (MW b I L) 0 0 (fun rt w => ∃ J, w = MW b J L ∧ LookR I J d k ∧ (((0 ≤ r ∧ r < 10 ∧ J 45 r.toNat ≠ 0) ∧ 0 ≤ f ∧ f ≤ 5) ∧ rt = some (vI (J 46 ((r * 6) + f).toNat)) ∨ ¬ ((0 ≤ r ∧ r < 10 ∧ J 45 r.toNat ≠ 0) ∧ 0 ≤ f ∧ f ≤ 5) ∧ rt = some (vI (-1)))) := by
  refine con_ok (fun hw9 hs9 => ?_)
  refine con_intro (by decide) (Nat.le_of_ble_eq_true rfl) ?_
  show Rch l E 4 67 _ _ _ _ (0, [some (vR 0), some (vI r), some (vI f), some (vI d), some (vI k)], [], MW b I L)
  refine rch_run rfl (by decide) 3 (t' := (4, [some (vR 0), some (vI r), some (vI f), some (vI d), some (vI k)], [vI k, vI d, vR 0], MW b I L)) (ps := []) rfl trivial ?_
  refine rch_call (h' := 3) (k' := 93) (as := [vR 0, vI d, vI k]) (t1 := (7, [some (vR 0), some (vI r), some (vI f), some (vI d), some (vI k)], [], MW b I L)) rfl rfl (k_X11_look l E b I L d k hV) (by decide) mw_le ?_
  rintro rt9 w9 (⟨J11, rfl, rfl, t11⟩) _ _
  show Rch l E 4 67 _ _ _ _ (7, [some (vR 0), some (vI r), some (vI f), some (vI d), some (vI k)], [], MW b J11 L)
  refine rch_run rfl (by decide) 4 (t' := (13, [some (vR 0), some (vI r), some (vI f), some (vI d), some (vI k)], [vI f, vI r, vR 44], MW b J11 L)) (ps := []) rfl trivial ?_
  refine rch_call (h' := 2) (k' := 37) (as := [vR 44, vI r, vI f]) (t1 := (16, [some (vR 0), some (vI r), some (vI f), some (vI d), some (vI k)], [], MW b J11 L)) rfl rfl (k_X5_valueOf l E b J11 L r f ) (by decide) mw_le ?_
  rintro rt9 w9 (⟨k42, rfl, rfl⟩ | ⟨k42, rfl, rfl⟩) _ _
  · show Rch l E 4 67 _ _ _ _ (16, [some (vR 0), some (vI r), some (vI f), some (vI d), some (vI k)], [vI (J11 46 ((r * 6) + f).toNat)], MW b J11 L)
    have k42 : (0 ≤ r ∧ r < 10 ∧ J11 45 r.toNat ≠ 0) ∧ 0 ≤ f ∧ f ≤ 5 := k42
    refine rch_ret rfl (rt := some (vI (J11 46 ((r * 6) + f).toNat))) rfl trivial mw_c ?_
    exact ⟨J11, rfl, t11, by first | exact Or.inl ⟨by omega, rfl⟩ | exact Or.inr ⟨by omega, rfl⟩⟩
  · show Rch l E 4 67 _ _ _ _ (16, [some (vR 0), some (vI r), some (vI f), some (vI d), some (vI k)], [vI (-1)], MW b J11 L)
    have k42 : ¬ ((0 ≤ r ∧ r < 10 ∧ J11 45 r.toNat ≠ 0) ∧ 0 ≤ f ∧ f ≤ 5) := k42
    refine rch_ret rfl (rt := some (vI (-1))) rfl trivial mw_c ?_
    exact ⟨J11, rfl, t11, by first | exact Or.inl ⟨by omega, rfl⟩ | exact Or.inr ⟨by omega, rfl⟩⟩

theorem k_X12_value (l : Launch) (E : AX) (b : Bool) (I L : Nat → Nat → Int) (r f d k : Int) (hn : I 74 4 ≤ 10) (hv : 0 ≤ I 74 5 ∧ I 74 5 ≤ 150) : Con l E 3 116 [vR 74, vI r, vI f, vI d, vI k] (MW b I L) 0 0 (fun rt w => (((0 ≤ r ∧ r < I 74 4 ∧ I 80 r.toNat = 0) ∧ 0 ≤ f ∧ f ≤ 5) ∧ rt = some (vI (vo (I 81) (I 82) (I 83) (I 84) (I 85) r f d k (I 74 5).toNat)) ∧ w = MW b I L) ∨ (¬ ((0 ≤ r ∧ r < I 74 4 ∧ I 80 r.toNat = 0) ∧ 0 ≤ f ∧ f ≤ 5) ∧ rt = some (vI (-1)) ∧ w = MW b I L)) := by
  refine con_ok (fun hw9 hs9 => ?_)
  refine con_intro (by decide) (Nat.le_of_ble_eq_true rfl) ?_
  show Rch l E 3 116 _ _ _ _ (0, [some (vR 74), some (vI r), some (vI f), some (vI d), some (vI k)], [], MW b I L)
  refine rch_run rfl (by decide) 2 (t' := (2, [some (vR 74), some (vI r), some (vI f), some (vI d), some (vI k)], [vI r, vR 74], MW b I L)) (ps := []) rfl trivial ?_
  refine rch_call (h' := 1) (k' := 109) (as := [vR 74, vI r]) (t1 := (5, [some (vR 74), some (vI r), some (vI f), some (vI d), some (vI k)], [], MW b I L)) rfl rfl (k_X12_isRow l E b I L r (by show I 74 4 ≤ 10; omega)) (by decide) mw_le ?_
  rintro rt9 w9 (⟨k43, rfl, rfl⟩ | ⟨k43, rfl, rfl⟩) _ _
  · show Rch l E 3 116 _ _ _ _ (5, [some (vR 74), some (vI r), some (vI f), some (vI d), some (vI k)], [vI 1], MW b I L)
    have k43 : 0 ≤ r ∧ r < I 74 4 ∧ I 80 r.toNat = 0 := k43
    refine rch_br rfl (cd := (1 : Int) = 0) (t1 := (27, [some (vR 74), some (vI r), some (vI f), some (vI d), some (vI k)], [], MW b I L)) (t2 := (8, [some (vR 74), some (vI r), some (vI f), some (vI d), some (vI k)], [], MW b I L)) rfl (fun c9 => absurd c9 (by decide)) (fun _ => ?_)
    refine rch_run rfl (by decide) 1 (t' := (9, [some (vR 74), some (vI r), some (vI f), some (vI d), some (vI k)], [vI f], MW b I L)) (ps := []) rfl trivial ?_
    refine rch_call (h' := 1) (k' := 104) (as := [vI f]) (t1 := (12, [some (vR 74), some (vI r), some (vI f), some (vI d), some (vI k)], [], MW b I L)) rfl rfl (k_X12_isField l E b I L f ) (by decide) mw_le ?_
    rintro rt9 w9 (⟨k44, rfl, rfl⟩ | ⟨k44, rfl, rfl⟩) _ _
    · show Rch l E 3 116 _ _ _ _ (12, [some (vR 74), some (vI r), some (vI f), some (vI d), some (vI k)], [vI 1], MW b I L)
      have k44 : 0 ≤ f ∧ f ≤ 5 := k44
      refine rch_br rfl (cd := (1 : Int) = 0) (t1 := (27, [some (vR 74), some (vI r), some (vI f), some (vI d), some (vI k)], [], MW b I L)) (t2 := (15, [some (vR 74), some (vI r), some (vI f), some (vI d), some (vI k)], [], MW b I L)) rfl (fun c9 => absurd c9 (by decide)) (fun _ => ?_)
      refine rch_run rfl (by decide) 5 (t' := (21, [some (vR 74), some (vI r), some (vI f), some (vI d), some (vI k)], [vI k, vI d, vI f, vI r, vR 74], MW b I L)) (ps := []) rfl trivial ?_
      refine rch_call (h' := 2) (k' := 115) (as := [vR 74, vI r, vI f, vI d, vI k]) (t1 := (24, [some (vR 74), some (vI r), some (vI f), some (vI d), some (vI k)], [], MW b I L)) rfl rfl (k_X12_valueOf l E b I L r f d k (by show 0 ≤ I 74 5 ∧ I 74 5 ≤ 150; omega)) (by decide) mw_le ?_
      rintro rt9 w9 (⟨rfl, rfl⟩) _ _
      show Rch l E 3 116 _ _ _ _ (24, [some (vR 74), some (vI r), some (vI f), some (vI d), some (vI k)], [vI (vo (I 81) (I 82) (I 83) (I 84) (I 85) r f d k (I 74 5).toNat)], MW b I L)
      refine rch_run rfl (by decide) 1 (t' := (28, [some (vR 74), some (vI r), some (vI f), some (vI d), some (vI k)], [vI (vo (I 81) (I 82) (I 83) (I 84) (I 85) r f d k (I 74 5).toNat)], MW b I L)) (ps := []) rfl trivial ?_
      refine rch_ret rfl (rt := some (vI (vo (I 81) (I 82) (I 83) (I 84) (I 85) r f d k (I 74 5).toNat))) rfl trivial mw_c ?_
      first | exact Or.inl ⟨by omega, rfl, rfl⟩ | exact Or.inr ⟨by omega, rfl, rfl⟩
    · show Rch l E 3 116 _ _ _ _ (12, [some (vR 74), some (vI r), some (vI f), some (vI d), some (vI k)], [vI 0], MW b I L)
      have k44 : ¬ (0 ≤ f ∧ f ≤ 5) := k44
      refine rch_br rfl (cd := (0 : Int) = 0) (t1 := (27, [some (vR 74), some (vI r), some (vI f), some (vI d), some (vI k)], [], MW b I L)) (t2 := (15, [some (vR 74), some (vI r), some (vI f), some (vI d), some (vI k)], [], MW b I L)) rfl (fun _ => ?_) (fun c9 => absurd (by decide) c9)
      refine rch_run rfl (by decide) 1 (t' := (28, [some (vR 74), some (vI r), some (vI f), some (vI d), some (vI k)], [vI (-1)], MW b I L)) (ps := []) rfl trivial ?_
      refine rch_ret rfl (rt := some (vI (-1))) rfl trivial mw_c ?_
      first | exact Or.inl ⟨by omega, rfl, rfl⟩ | exact Or.inr ⟨by omega, rfl, rfl⟩
  · show Rch l E 3 116 _ _ _ _ (5, [some (vR 74), some (vI r), some (vI f), some (vI d), some (vI k)], [vI 0], MW b I L)
    have k43 : ¬ (0 ≤ r ∧ r < I 74 4 ∧ I 80 r.toNat = 0) := k43
    refine rch_br rfl (cd := (0 : Int) = 0) (t1 := (27, [some (vR 74), some (vI r), some (vI f), some (vI d), some (vI k)], [], MW b I L)) (t2 := (8, [some (vR 74), some (vI r), some (vI f), some (vI d), some (vI k)], [], MW b I L)) rfl (fun _ => ?_) (fun c9 => absurd (by decide) c9)
    refine rch_run rfl (by decide) 1 (t' := (28, [some (vR 74), some (vI r), some (vI f), some (vI d), some (vI k)], [vI (-1)], MW b I L)) (ps := []) rfl trivial ?_
    refine rch_ret rfl (rt := some (vI (-1))) rfl trivial mw_c ?_
    first | exact Or.inl ⟨by omega, rfl, rfl⟩ | exact Or.inr ⟨by omega, rfl, rfl⟩
