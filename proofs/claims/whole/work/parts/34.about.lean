theorem k_X12_about (l : Launch) (E : AX) (b : Bool) (I L : Nat → Nat → Int) (x : Int) : Con l E 1 165 [vR 74, vI x] (MW b I L) 0 0 (fun rt w => ((x = 0) ∧ rt = some (vI (I 74 0)) ∧ w = MW b I L) ∨ ((x = 1) ∧ rt = some (vI (I 74 4)) ∧ w = MW b I L) ∨ ((x = 2) ∧ rt = some (vI (I 74 5)) ∧ w = MW b I L) ∨ ((x = 3) ∧ rt = some (vI (I 74 43)) ∧ w = MW b I L) ∨ ((x = 4) ∧ rt = some (vI (I 74 44)) ∧ w = MW b I L) ∨ ((x = 5) ∧ rt = some (vI (I 74 20)) ∧ w = MW b I L) ∨ ((x = 6) ∧ rt = some (vI (I 74 75)) ∧ w = MW b I L) ∨ ((x = 7) ∧ rt = some (vI (I 74 30)) ∧ w = MW b I L) ∨ ((x < 0 ∨ 7 < x) ∧ rt = some (vI (-1)) ∧ w = MW b I L)) := by
  refine con_intro (by decide) (Nat.le_of_ble_eq_true rfl) ?_
  show Rch l E 1 165 _ _ _ _ (0, [some (vR 74), some (vI x)], [], MW b I L)
  refine rch_run rfl (by decide) 1 (t' := (1, [some (vR 74), some (vI x)], [vI x], MW b I L)) (ps := []) rfl trivial ?_
  refine rch_tsw (e := (1, .tableswitch 87 0 7 #[47, 52, 57, 62, 67, 72, 77, 82], 47, 0, 0, 0)) (d := 87) (lo := 0) (hi := 7) (offs := #[47, 52, 57, 62, 67, 72, 77, 82]) rfl rfl rfl (by decide) (by decide) (fun c1_1 => ?_) (fun n9 off9 c1_1 ho9 => ?_)
  · show Rch l E 1 165 _ _ _ _ (88, [some (vR 74), some (vI x)], [], MW b I L)
    refine rch_run rfl (by decide) 1 (t' := (89, [some (vR 74), some (vI x)], [vI (-1)], MW b I L)) (ps := []) rfl trivial ?_
    refine rch_ret rfl (rt := some (vI (-1))) rfl trivial mw_c ?_
    first | exact Or.inl ⟨by omega, rfl, rfl⟩ | exact Or.inr (Or.inl ⟨by omega, rfl, rfl⟩) | exact Or.inr (Or.inr (Or.inl ⟨by omega, rfl, rfl⟩)) | exact Or.inr (Or.inr (Or.inr (Or.inl ⟨by omega, rfl, rfl⟩))) | exact Or.inr (Or.inr (Or.inr (Or.inr (Or.inl ⟨by omega, rfl, rfl⟩)))) | exact Or.inr (Or.inr (Or.inr (Or.inr (Or.inr (Or.inl ⟨by omega, rfl, rfl⟩))))) | exact Or.inr (Or.inr (Or.inr (Or.inr (Or.inr (Or.inr (Or.inl ⟨by omega, rfl, rfl⟩)))))) | exact Or.inr (Or.inr (Or.inr (Or.inr (Or.inr (Or.inr (Or.inr (Or.inl ⟨by omega, rfl, rfl⟩))))))) | exact Or.inr (Or.inr (Or.inr (Or.inr (Or.inr (Or.inr (Or.inr (Or.inr (⟨by omega, rfl, rfl⟩)))))))) | (exfalso; omega)
  · match n9, c1_1, ho9 with
    | 0, c1_1, ho9 =>
      have c1_1 : x = 0 := by simpa using c1_1
      have ho9 : some (47 : Int) = some off9 := ho9
      cases ho9
      refine ⟨by decide, ?_⟩
      show Rch l E 1 165 _ _ _ _ (48, [some (vR 74), some (vI x)], [], MW b I L)
      refine rch_run rfl (by decide) 2 (t' := (52, [some (vR 74), some (vI x)], [vI (I 74 0)], MW b I L)) (ps := []) rfl trivial ?_
      refine rch_ret rfl (rt := some (vI (I 74 0))) rfl trivial mw_c ?_
      first | exact Or.inl ⟨by omega, rfl, rfl⟩ | exact Or.inr (Or.inl ⟨by omega, rfl, rfl⟩) | exact Or.inr (Or.inr (Or.inl ⟨by omega, rfl, rfl⟩)) | exact Or.inr (Or.inr (Or.inr (Or.inl ⟨by omega, rfl, rfl⟩))) | exact Or.inr (Or.inr (Or.inr (Or.inr (Or.inl ⟨by omega, rfl, rfl⟩)))) | exact Or.inr (Or.inr (Or.inr (Or.inr (Or.inr (Or.inl ⟨by omega, rfl, rfl⟩))))) | exact Or.inr (Or.inr (Or.inr (Or.inr (Or.inr (Or.inr (Or.inl ⟨by omega, rfl, rfl⟩)))))) | exact Or.inr (Or.inr (Or.inr (Or.inr (Or.inr (Or.inr (Or.inr (Or.inl ⟨by omega, rfl, rfl⟩))))))) | exact Or.inr (Or.inr (Or.inr (Or.inr (Or.inr (Or.inr (Or.inr (Or.inr (⟨by omega, rfl, rfl⟩)))))))) | (exfalso; omega)
    | 1, c1_1, ho9 =>
      have c1_1 : x = 1 := by simpa using c1_1
      have ho9 : some (52 : Int) = some off9 := ho9
      cases ho9
      refine ⟨by decide, ?_⟩
      show Rch l E 1 165 _ _ _ _ (53, [some (vR 74), some (vI x)], [], MW b I L)
      refine rch_run rfl (by decide) 2 (t' := (57, [some (vR 74), some (vI x)], [vI (I 74 4)], MW b I L)) (ps := []) rfl trivial ?_
      refine rch_ret rfl (rt := some (vI (I 74 4))) rfl trivial mw_c ?_
      first | exact Or.inl ⟨by omega, rfl, rfl⟩ | exact Or.inr (Or.inl ⟨by omega, rfl, rfl⟩) | exact Or.inr (Or.inr (Or.inl ⟨by omega, rfl, rfl⟩)) | exact Or.inr (Or.inr (Or.inr (Or.inl ⟨by omega, rfl, rfl⟩))) | exact Or.inr (Or.inr (Or.inr (Or.inr (Or.inl ⟨by omega, rfl, rfl⟩)))) | exact Or.inr (Or.inr (Or.inr (Or.inr (Or.inr (Or.inl ⟨by omega, rfl, rfl⟩))))) | exact Or.inr (Or.inr (Or.inr (Or.inr (Or.inr (Or.inr (Or.inl ⟨by omega, rfl, rfl⟩)))))) | exact Or.inr (Or.inr (Or.inr (Or.inr (Or.inr (Or.inr (Or.inr (Or.inl ⟨by omega, rfl, rfl⟩))))))) | exact Or.inr (Or.inr (Or.inr (Or.inr (Or.inr (Or.inr (Or.inr (Or.inr (⟨by omega, rfl, rfl⟩)))))))) | (exfalso; omega)
    | 2, c1_1, ho9 =>
      have c1_1 : x = 2 := by simpa using c1_1
      have ho9 : some (57 : Int) = some off9 := ho9
      cases ho9
      refine ⟨by decide, ?_⟩
      show Rch l E 1 165 _ _ _ _ (58, [some (vR 74), some (vI x)], [], MW b I L)
      refine rch_run rfl (by decide) 2 (t' := (62, [some (vR 74), some (vI x)], [vI (I 74 5)], MW b I L)) (ps := []) rfl trivial ?_
      refine rch_ret rfl (rt := some (vI (I 74 5))) rfl trivial mw_c ?_
      first | exact Or.inl ⟨by omega, rfl, rfl⟩ | exact Or.inr (Or.inl ⟨by omega, rfl, rfl⟩) | exact Or.inr (Or.inr (Or.inl ⟨by omega, rfl, rfl⟩)) | exact Or.inr (Or.inr (Or.inr (Or.inl ⟨by omega, rfl, rfl⟩))) | exact Or.inr (Or.inr (Or.inr (Or.inr (Or.inl ⟨by omega, rfl, rfl⟩)))) | exact Or.inr (Or.inr (Or.inr (Or.inr (Or.inr (Or.inl ⟨by omega, rfl, rfl⟩))))) | exact Or.inr (Or.inr (Or.inr (Or.inr (Or.inr (Or.inr (Or.inl ⟨by omega, rfl, rfl⟩)))))) | exact Or.inr (Or.inr (Or.inr (Or.inr (Or.inr (Or.inr (Or.inr (Or.inl ⟨by omega, rfl, rfl⟩))))))) | exact Or.inr (Or.inr (Or.inr (Or.inr (Or.inr (Or.inr (Or.inr (Or.inr (⟨by omega, rfl, rfl⟩)))))))) | (exfalso; omega)
    | 3, c1_1, ho9 =>
      have c1_1 : x = 3 := by simpa using c1_1
      have ho9 : some (62 : Int) = some off9 := ho9
      cases ho9
      refine ⟨by decide, ?_⟩
      show Rch l E 1 165 _ _ _ _ (63, [some (vR 74), some (vI x)], [], MW b I L)
      refine rch_run rfl (by decide) 2 (t' := (67, [some (vR 74), some (vI x)], [vI (I 74 43)], MW b I L)) (ps := []) rfl trivial ?_
      refine rch_ret rfl (rt := some (vI (I 74 43))) rfl trivial mw_c ?_
      first | exact Or.inl ⟨by omega, rfl, rfl⟩ | exact Or.inr (Or.inl ⟨by omega, rfl, rfl⟩) | exact Or.inr (Or.inr (Or.inl ⟨by omega, rfl, rfl⟩)) | exact Or.inr (Or.inr (Or.inr (Or.inl ⟨by omega, rfl, rfl⟩))) | exact Or.inr (Or.inr (Or.inr (Or.inr (Or.inl ⟨by omega, rfl, rfl⟩)))) | exact Or.inr (Or.inr (Or.inr (Or.inr (Or.inr (Or.inl ⟨by omega, rfl, rfl⟩))))) | exact Or.inr (Or.inr (Or.inr (Or.inr (Or.inr (Or.inr (Or.inl ⟨by omega, rfl, rfl⟩)))))) | exact Or.inr (Or.inr (Or.inr (Or.inr (Or.inr (Or.inr (Or.inr (Or.inl ⟨by omega, rfl, rfl⟩))))))) | exact Or.inr (Or.inr (Or.inr (Or.inr (Or.inr (Or.inr (Or.inr (Or.inr (⟨by omega, rfl, rfl⟩)))))))) | (exfalso; omega)
    | 4, c1_1, ho9 =>
      have c1_1 : x = 4 := by simpa using c1_1
      have ho9 : some (67 : Int) = some off9 := ho9
      cases ho9
      refine ⟨by decide, ?_⟩
      show Rch l E 1 165 _ _ _ _ (68, [some (vR 74), some (vI x)], [], MW b I L)
      refine rch_run rfl (by decide) 2 (t' := (72, [some (vR 74), some (vI x)], [vI (I 74 44)], MW b I L)) (ps := []) rfl trivial ?_
      refine rch_ret rfl (rt := some (vI (I 74 44))) rfl trivial mw_c ?_
      first | exact Or.inl ⟨by omega, rfl, rfl⟩ | exact Or.inr (Or.inl ⟨by omega, rfl, rfl⟩) | exact Or.inr (Or.inr (Or.inl ⟨by omega, rfl, rfl⟩)) | exact Or.inr (Or.inr (Or.inr (Or.inl ⟨by omega, rfl, rfl⟩))) | exact Or.inr (Or.inr (Or.inr (Or.inr (Or.inl ⟨by omega, rfl, rfl⟩)))) | exact Or.inr (Or.inr (Or.inr (Or.inr (Or.inr (Or.inl ⟨by omega, rfl, rfl⟩))))) | exact Or.inr (Or.inr (Or.inr (Or.inr (Or.inr (Or.inr (Or.inl ⟨by omega, rfl, rfl⟩)))))) | exact Or.inr (Or.inr (Or.inr (Or.inr (Or.inr (Or.inr (Or.inr (Or.inl ⟨by omega, rfl, rfl⟩))))))) | exact Or.inr (Or.inr (Or.inr (Or.inr (Or.inr (Or.inr (Or.inr (Or.inr (⟨by omega, rfl, rfl⟩)))))))) | (exfalso; omega)
    | 5, c1_1, ho9 =>
      have c1_1 : x = 5 := by simpa using c1_1
      have ho9 : some (72 : Int) = some off9 := ho9
      cases ho9
      refine ⟨by decide, ?_⟩
      show Rch l E 1 165 _ _ _ _ (73, [some (vR 74), some (vI x)], [], MW b I L)
      refine rch_run rfl (by decide) 2 (t' := (77, [some (vR 74), some (vI x)], [vI (I 74 20)], MW b I L)) (ps := []) rfl trivial ?_
      refine rch_ret rfl (rt := some (vI (I 74 20))) rfl trivial mw_c ?_
      first | exact Or.inl ⟨by omega, rfl, rfl⟩ | exact Or.inr (Or.inl ⟨by omega, rfl, rfl⟩) | exact Or.inr (Or.inr (Or.inl ⟨by omega, rfl, rfl⟩)) | exact Or.inr (Or.inr (Or.inr (Or.inl ⟨by omega, rfl, rfl⟩))) | exact Or.inr (Or.inr (Or.inr (Or.inr (Or.inl ⟨by omega, rfl, rfl⟩)))) | exact Or.inr (Or.inr (Or.inr (Or.inr (Or.inr (Or.inl ⟨by omega, rfl, rfl⟩))))) | exact Or.inr (Or.inr (Or.inr (Or.inr (Or.inr (Or.inr (Or.inl ⟨by omega, rfl, rfl⟩)))))) | exact Or.inr (Or.inr (Or.inr (Or.inr (Or.inr (Or.inr (Or.inr (Or.inl ⟨by omega, rfl, rfl⟩))))))) | exact Or.inr (Or.inr (Or.inr (Or.inr (Or.inr (Or.inr (Or.inr (Or.inr (⟨by omega, rfl, rfl⟩)))))))) | (exfalso; omega)
    | 6, c1_1, ho9 =>
      have c1_1 : x = 6 := by simpa using c1_1
      have ho9 : some (77 : Int) = some off9 := ho9
      cases ho9
      refine ⟨by decide, ?_⟩
      show Rch l E 1 165 _ _ _ _ (78, [some (vR 74), some (vI x)], [], MW b I L)
      refine rch_run rfl (by decide) 2 (t' := (82, [some (vR 74), some (vI x)], [vI (I 74 75)], MW b I L)) (ps := []) rfl trivial ?_
      refine rch_ret rfl (rt := some (vI (I 74 75))) rfl trivial mw_c ?_
      first | exact Or.inl ⟨by omega, rfl, rfl⟩ | exact Or.inr (Or.inl ⟨by omega, rfl, rfl⟩) | exact Or.inr (Or.inr (Or.inl ⟨by omega, rfl, rfl⟩)) | exact Or.inr (Or.inr (Or.inr (Or.inl ⟨by omega, rfl, rfl⟩))) | exact Or.inr (Or.inr (Or.inr (Or.inr (Or.inl ⟨by omega, rfl, rfl⟩)))) | exact Or.inr (Or.inr (Or.inr (Or.inr (Or.inr (Or.inl ⟨by omega, rfl, rfl⟩))))) | exact Or.inr (Or.inr (Or.inr (Or.inr (Or.inr (Or.inr (Or.inl ⟨by omega, rfl, rfl⟩)))))) | exact Or.inr (Or.inr (Or.inr (Or.inr (Or.inr (Or.inr (Or.inr (Or.inl ⟨by omega, rfl, rfl⟩))))))) | exact Or.inr (Or.inr (Or.inr (Or.inr (Or.inr (Or.inr (Or.inr (Or.inr (⟨by omega, rfl, rfl⟩)))))))) | (exfalso; omega)
    | 7, c1_1, ho9 =>
      have c1_1 : x = 7 := by simpa using c1_1
      have ho9 : some (82 : Int) = some off9 := ho9
      cases ho9
      refine ⟨by decide, ?_⟩
      show Rch l E 1 165 _ _ _ _ (83, [some (vR 74), some (vI x)], [], MW b I L)
      refine rch_run rfl (by decide) 2 (t' := (87, [some (vR 74), some (vI x)], [vI (I 74 30)], MW b I L)) (ps := []) rfl trivial ?_
      refine rch_ret rfl (rt := some (vI (I 74 30))) rfl trivial mw_c ?_
      first | exact Or.inl ⟨by omega, rfl, rfl⟩ | exact Or.inr (Or.inl ⟨by omega, rfl, rfl⟩) | exact Or.inr (Or.inr (Or.inl ⟨by omega, rfl, rfl⟩)) | exact Or.inr (Or.inr (Or.inr (Or.inl ⟨by omega, rfl, rfl⟩))) | exact Or.inr (Or.inr (Or.inr (Or.inr (Or.inl ⟨by omega, rfl, rfl⟩)))) | exact Or.inr (Or.inr (Or.inr (Or.inr (Or.inr (Or.inl ⟨by omega, rfl, rfl⟩))))) | exact Or.inr (Or.inr (Or.inr (Or.inr (Or.inr (Or.inr (Or.inl ⟨by omega, rfl, rfl⟩)))))) | exact Or.inr (Or.inr (Or.inr (Or.inr (Or.inr (Or.inr (Or.inr (Or.inl ⟨by omega, rfl, rfl⟩))))))) | exact Or.inr (Or.inr (Or.inr (Or.inr (Or.inr (Or.inr (Or.inr (Or.inr (⟨by omega, rfl, rfl⟩)))))))) | (exfalso; omega)
    | n9 + 8, _, ho9 => exact absurd ho9 (by simp)

theorem k_X11_about_f (l : Launch) (E : AX) (b : Bool) (I L : Nat → Nat → Int) (x : Int) : Con l E 1 89 [vR 0, vI x] (MW false I L) 0 0 (fun rt w => ((x = 0) ∧ rt = some (vI (I 0 0)) ∧ w = MW false I L) ∨ ((x = 1) ∧ rt = some (vI (I 17 0)) ∧ w = MW false I L) ∨ ((x = 2) ∧ rt = some (vI (I 21 0)) ∧ w = MW false I L) ∨ ((x = 3) ∧ rt = some (vI (I 32 0)) ∧ w = MW false I L) ∨ ((x = 4) ∧ rt = some (vI (I 38 0)) ∧ w = MW false I L) ∨ ((x = 5) ∧ rt = some (vI (I 1 0)) ∧ w = MW false I L) ∨ ((x = 6) ∧ rt = some (vI (I 66 0)) ∧ w = MW false I L) ∨ ((x = 7) ∧ rt = some (vI (I 28 0)) ∧ w = MW false I L) ∨ ((x < 0 ∨ 7 < x) ∧ rt = some (vI (-1)) ∧ w = MW false I L)) := by
  refine con_intro (by decide) (Nat.le_of_ble_eq_true rfl) ?_
  show Rch l E 1 89 _ _ _ _ (0, [some (vR 0), some (vI x)], [], MW false I L)
  refine rch_run rfl (by decide) 1 (t' := (1, [some (vR 0), some (vI x)], [vI x], MW false I L)) (ps := []) rfl trivial ?_
  refine rch_tsw (e := (1, .tableswitch 108 0 7 #[47, 52, 60, 68, 76, 84, 92, 100], 47, 0, 0, 0)) (d := 108) (lo := 0) (hi := 7) (offs := #[47, 52, 60, 68, 76, 84, 92, 100]) rfl rfl rfl (by decide) (by decide) (fun c1_1 => ?_) (fun n9 off9 c1_1 ho9 => ?_)
  · show Rch l E 1 89 _ _ _ _ (109, [some (vR 0), some (vI x)], [], MW false I L)
    refine rch_run rfl (by decide) 1 (t' := (110, [some (vR 0), some (vI x)], [vI (-1)], MW false I L)) (ps := []) rfl trivial ?_
    refine rch_ret rfl (rt := some (vI (-1))) rfl trivial mw_c ?_
    first | exact Or.inl ⟨by omega, rfl, rfl⟩ | exact Or.inr (Or.inl ⟨by omega, rfl, rfl⟩) | exact Or.inr (Or.inr (Or.inl ⟨by omega, rfl, rfl⟩)) | exact Or.inr (Or.inr (Or.inr (Or.inl ⟨by omega, rfl, rfl⟩))) | exact Or.inr (Or.inr (Or.inr (Or.inr (Or.inl ⟨by omega, rfl, rfl⟩)))) | exact Or.inr (Or.inr (Or.inr (Or.inr (Or.inr (Or.inl ⟨by omega, rfl, rfl⟩))))) | exact Or.inr (Or.inr (Or.inr (Or.inr (Or.inr (Or.inr (Or.inl ⟨by omega, rfl, rfl⟩)))))) | exact Or.inr (Or.inr (Or.inr (Or.inr (Or.inr (Or.inr (Or.inr (Or.inl ⟨by omega, rfl, rfl⟩))))))) | exact Or.inr (Or.inr (Or.inr (Or.inr (Or.inr (Or.inr (Or.inr (Or.inr (⟨by omega, rfl, rfl⟩)))))))) | (exfalso; omega)
  · match n9, c1_1, ho9 with
    | 0, c1_1, ho9 =>
      have c1_1 : x = 0 := by simpa using c1_1
      have ho9 : some (47 : Int) = some off9 := ho9
      cases ho9
      refine ⟨by decide, ?_⟩
      show Rch l E 1 89 _ _ _ _ (48, [some (vR 0), some (vI x)], [], MW false I L)
      refine rch_run rfl (by decide) 2 (t' := (52, [some (vR 0), some (vI x)], [vI (I 0 0)], MW false I L)) (ps := []) rfl trivial ?_
      refine rch_ret rfl (rt := some (vI (I 0 0))) rfl trivial mw_c ?_
      first | exact Or.inl ⟨by omega, rfl, rfl⟩ | exact Or.inr (Or.inl ⟨by omega, rfl, rfl⟩) | exact Or.inr (Or.inr (Or.inl ⟨by omega, rfl, rfl⟩)) | exact Or.inr (Or.inr (Or.inr (Or.inl ⟨by omega, rfl, rfl⟩))) | exact Or.inr (Or.inr (Or.inr (Or.inr (Or.inl ⟨by omega, rfl, rfl⟩)))) | exact Or.inr (Or.inr (Or.inr (Or.inr (Or.inr (Or.inl ⟨by omega, rfl, rfl⟩))))) | exact Or.inr (Or.inr (Or.inr (Or.inr (Or.inr (Or.inr (Or.inl ⟨by omega, rfl, rfl⟩)))))) | exact Or.inr (Or.inr (Or.inr (Or.inr (Or.inr (Or.inr (Or.inr (Or.inl ⟨by omega, rfl, rfl⟩))))))) | exact Or.inr (Or.inr (Or.inr (Or.inr (Or.inr (Or.inr (Or.inr (Or.inr (⟨by omega, rfl, rfl⟩)))))))) | (exfalso; omega)
    | 1, c1_1, ho9 =>
      have c1_1 : x = 1 := by simpa using c1_1
      have ho9 : some (52 : Int) = some off9 := ho9
      cases ho9
      refine ⟨by decide, ?_⟩
      show Rch l E 1 89 _ _ _ _ (53, [some (vR 0), some (vI x)], [], MW false I L)
      refine rch_run rfl (by decide) 3 (t' := (60, [some (vR 0), some (vI x)], [vI (I 17 0)], MW false I L)) (ps := []) rfl trivial ?_
      refine rch_ret rfl (rt := some (vI (I 17 0))) rfl trivial mw_c ?_
      first | exact Or.inl ⟨by omega, rfl, rfl⟩ | exact Or.inr (Or.inl ⟨by omega, rfl, rfl⟩) | exact Or.inr (Or.inr (Or.inl ⟨by omega, rfl, rfl⟩)) | exact Or.inr (Or.inr (Or.inr (Or.inl ⟨by omega, rfl, rfl⟩))) | exact Or.inr (Or.inr (Or.inr (Or.inr (Or.inl ⟨by omega, rfl, rfl⟩)))) | exact Or.inr (Or.inr (Or.inr (Or.inr (Or.inr (Or.inl ⟨by omega, rfl, rfl⟩))))) | exact Or.inr (Or.inr (Or.inr (Or.inr (Or.inr (Or.inr (Or.inl ⟨by omega, rfl, rfl⟩)))))) | exact Or.inr (Or.inr (Or.inr (Or.inr (Or.inr (Or.inr (Or.inr (Or.inl ⟨by omega, rfl, rfl⟩))))))) | exact Or.inr (Or.inr (Or.inr (Or.inr (Or.inr (Or.inr (Or.inr (Or.inr (⟨by omega, rfl, rfl⟩)))))))) | (exfalso; omega)
    | 2, c1_1, ho9 =>
      have c1_1 : x = 2 := by simpa using c1_1
      have ho9 : some (60 : Int) = some off9 := ho9
      cases ho9
      refine ⟨by decide, ?_⟩
      show Rch l E 1 89 _ _ _ _ (61, [some (vR 0), some (vI x)], [], MW false I L)
      refine rch_run rfl (by decide) 3 (t' := (68, [some (vR 0), some (vI x)], [vI (I 21 0)], MW false I L)) (ps := []) rfl trivial ?_
      refine rch_ret rfl (rt := some (vI (I 21 0))) rfl trivial mw_c ?_
      first | exact Or.inl ⟨by omega, rfl, rfl⟩ | exact Or.inr (Or.inl ⟨by omega, rfl, rfl⟩) | exact Or.inr (Or.inr (Or.inl ⟨by omega, rfl, rfl⟩)) | exact Or.inr (Or.inr (Or.inr (Or.inl ⟨by omega, rfl, rfl⟩))) | exact Or.inr (Or.inr (Or.inr (Or.inr (Or.inl ⟨by omega, rfl, rfl⟩)))) | exact Or.inr (Or.inr (Or.inr (Or.inr (Or.inr (Or.inl ⟨by omega, rfl, rfl⟩))))) | exact Or.inr (Or.inr (Or.inr (Or.inr (Or.inr (Or.inr (Or.inl ⟨by omega, rfl, rfl⟩)))))) | exact Or.inr (Or.inr (Or.inr (Or.inr (Or.inr (Or.inr (Or.inr (Or.inl ⟨by omega, rfl, rfl⟩))))))) | exact Or.inr (Or.inr (Or.inr (Or.inr (Or.inr (Or.inr (Or.inr (Or.inr (⟨by omega, rfl, rfl⟩)))))))) | (exfalso; omega)
    | 3, c1_1, ho9 =>
      have c1_1 : x = 3 := by simpa using c1_1
      have ho9 : some (68 : Int) = some off9 := ho9
      cases ho9
      refine ⟨by decide, ?_⟩
      show Rch l E 1 89 _ _ _ _ (69, [some (vR 0), some (vI x)], [], MW false I L)
      refine rch_run rfl (by decide) 3 (t' := (76, [some (vR 0), some (vI x)], [vI (I 32 0)], MW false I L)) (ps := []) rfl trivial ?_
      refine rch_ret rfl (rt := some (vI (I 32 0))) rfl trivial mw_c ?_
      first | exact Or.inl ⟨by omega, rfl, rfl⟩ | exact Or.inr (Or.inl ⟨by omega, rfl, rfl⟩) | exact Or.inr (Or.inr (Or.inl ⟨by omega, rfl, rfl⟩)) | exact Or.inr (Or.inr (Or.inr (Or.inl ⟨by omega, rfl, rfl⟩))) | exact Or.inr (Or.inr (Or.inr (Or.inr (Or.inl ⟨by omega, rfl, rfl⟩)))) | exact Or.inr (Or.inr (Or.inr (Or.inr (Or.inr (Or.inl ⟨by omega, rfl, rfl⟩))))) | exact Or.inr (Or.inr (Or.inr (Or.inr (Or.inr (Or.inr (Or.inl ⟨by omega, rfl, rfl⟩)))))) | exact Or.inr (Or.inr (Or.inr (Or.inr (Or.inr (Or.inr (Or.inr (Or.inl ⟨by omega, rfl, rfl⟩))))))) | exact Or.inr (Or.inr (Or.inr (Or.inr (Or.inr (Or.inr (Or.inr (Or.inr (⟨by omega, rfl, rfl⟩)))))))) | (exfalso; omega)
    | 4, c1_1, ho9 =>
      have c1_1 : x = 4 := by simpa using c1_1
      have ho9 : some (76 : Int) = some off9 := ho9
      cases ho9
      refine ⟨by decide, ?_⟩
      show Rch l E 1 89 _ _ _ _ (77, [some (vR 0), some (vI x)], [], MW false I L)
      refine rch_run rfl (by decide) 3 (t' := (84, [some (vR 0), some (vI x)], [vI (I 38 0)], MW false I L)) (ps := []) rfl trivial ?_
      refine rch_ret rfl (rt := some (vI (I 38 0))) rfl trivial mw_c ?_
      first | exact Or.inl ⟨by omega, rfl, rfl⟩ | exact Or.inr (Or.inl ⟨by omega, rfl, rfl⟩) | exact Or.inr (Or.inr (Or.inl ⟨by omega, rfl, rfl⟩)) | exact Or.inr (Or.inr (Or.inr (Or.inl ⟨by omega, rfl, rfl⟩))) | exact Or.inr (Or.inr (Or.inr (Or.inr (Or.inl ⟨by omega, rfl, rfl⟩)))) | exact Or.inr (Or.inr (Or.inr (Or.inr (Or.inr (Or.inl ⟨by omega, rfl, rfl⟩))))) | exact Or.inr (Or.inr (Or.inr (Or.inr (Or.inr (Or.inr (Or.inl ⟨by omega, rfl, rfl⟩)))))) | exact Or.inr (Or.inr (Or.inr (Or.inr (Or.inr (Or.inr (Or.inr (Or.inl ⟨by omega, rfl, rfl⟩))))))) | exact Or.inr (Or.inr (Or.inr (Or.inr (Or.inr (Or.inr (Or.inr (Or.inr (⟨by omega, rfl, rfl⟩)))))))) | (exfalso; omega)
    | 5, c1_1, ho9 =>
      have c1_1 : x = 5 := by simpa using c1_1
      have ho9 : some (84 : Int) = some off9 := ho9
      cases ho9
      refine ⟨by decide, ?_⟩
      show Rch l E 1 89 _ _ _ _ (85, [some (vR 0), some (vI x)], [], MW false I L)
      refine rch_run rfl (by decide) 3 (t' := (92, [some (vR 0), some (vI x)], [vI (I 1 0)], MW false I L)) (ps := []) rfl trivial ?_
      refine rch_ret rfl (rt := some (vI (I 1 0))) rfl trivial mw_c ?_
      first | exact Or.inl ⟨by omega, rfl, rfl⟩ | exact Or.inr (Or.inl ⟨by omega, rfl, rfl⟩) | exact Or.inr (Or.inr (Or.inl ⟨by omega, rfl, rfl⟩)) | exact Or.inr (Or.inr (Or.inr (Or.inl ⟨by omega, rfl, rfl⟩))) | exact Or.inr (Or.inr (Or.inr (Or.inr (Or.inl ⟨by omega, rfl, rfl⟩)))) | exact Or.inr (Or.inr (Or.inr (Or.inr (Or.inr (Or.inl ⟨by omega, rfl, rfl⟩))))) | exact Or.inr (Or.inr (Or.inr (Or.inr (Or.inr (Or.inr (Or.inl ⟨by omega, rfl, rfl⟩)))))) | exact Or.inr (Or.inr (Or.inr (Or.inr (Or.inr (Or.inr (Or.inr (Or.inl ⟨by omega, rfl, rfl⟩))))))) | exact Or.inr (Or.inr (Or.inr (Or.inr (Or.inr (Or.inr (Or.inr (Or.inr (⟨by omega, rfl, rfl⟩)))))))) | (exfalso; omega)
    | 6, c1_1, ho9 =>
      have c1_1 : x = 6 := by simpa using c1_1
      have ho9 : some (92 : Int) = some off9 := ho9
      cases ho9
      refine ⟨by decide, ?_⟩
      show Rch l E 1 89 _ _ _ _ (93, [some (vR 0), some (vI x)], [], MW false I L)
      refine rch_run rfl (by decide) 3 (t' := (100, [some (vR 0), some (vI x)], [vI (I 66 0)], MW false I L)) (ps := []) rfl trivial ?_
      refine rch_ret rfl (rt := some (vI (I 66 0))) rfl trivial mw_c ?_
      first | exact Or.inl ⟨by omega, rfl, rfl⟩ | exact Or.inr (Or.inl ⟨by omega, rfl, rfl⟩) | exact Or.inr (Or.inr (Or.inl ⟨by omega, rfl, rfl⟩)) | exact Or.inr (Or.inr (Or.inr (Or.inl ⟨by omega, rfl, rfl⟩))) | exact Or.inr (Or.inr (Or.inr (Or.inr (Or.inl ⟨by omega, rfl, rfl⟩)))) | exact Or.inr (Or.inr (Or.inr (Or.inr (Or.inr (Or.inl ⟨by omega, rfl, rfl⟩))))) | exact Or.inr (Or.inr (Or.inr (Or.inr (Or.inr (Or.inr (Or.inl ⟨by omega, rfl, rfl⟩)))))) | exact Or.inr (Or.inr (Or.inr (Or.inr (Or.inr (Or.inr (Or.inr (Or.inl ⟨by omega, rfl, rfl⟩))))))) | exact Or.inr (Or.inr (Or.inr (Or.inr (Or.inr (Or.inr (Or.inr (Or.inr (⟨by omega, rfl, rfl⟩)))))))) | (exfalso; omega)
    | 7, c1_1, ho9 =>
      have c1_1 : x = 7 := by simpa using c1_1
      have ho9 : some (100 : Int) = some off9 := ho9
      cases ho9
      refine ⟨by decide, ?_⟩
      show Rch l E 1 89 _ _ _ _ (101, [some (vR 0), some (vI x)], [], MW false I L)
      refine rch_run rfl (by decide) 3 (t' := (108, [some (vR 0), some (vI x)], [vI (I 28 0)], MW false I L)) (ps := []) rfl trivial ?_
      refine rch_ret rfl (rt := some (vI (I 28 0))) rfl trivial mw_c ?_
      first | exact Or.inl ⟨by omega, rfl, rfl⟩ | exact Or.inr (Or.inl ⟨by omega, rfl, rfl⟩) | exact Or.inr (Or.inr (Or.inl ⟨by omega, rfl, rfl⟩)) | exact Or.inr (Or.inr (Or.inr (Or.inl ⟨by omega, rfl, rfl⟩))) | exact Or.inr (Or.inr (Or.inr (Or.inr (Or.inl ⟨by omega, rfl, rfl⟩)))) | exact Or.inr (Or.inr (Or.inr (Or.inr (Or.inr (Or.inl ⟨by omega, rfl, rfl⟩))))) | exact Or.inr (Or.inr (Or.inr (Or.inr (Or.inr (Or.inr (Or.inl ⟨by omega, rfl, rfl⟩)))))) | exact Or.inr (Or.inr (Or.inr (Or.inr (Or.inr (Or.inr (Or.inr (Or.inl ⟨by omega, rfl, rfl⟩))))))) | exact Or.inr (Or.inr (Or.inr (Or.inr (Or.inr (Or.inr (Or.inr (Or.inr (⟨by omega, rfl, rfl⟩)))))))) | (exfalso; omega)
    | n9 + 8, _, ho9 => exact absurd ho9 (by simp)

theorem k_X11_about_t (l : Launch) (E : AX) (b : Bool) (I L : Nat → Nat → Int) (x : Int) : Con l E 1 89 [vR 0, vI x] (MW true I L) 0 0 (fun rt w => ((x = 0) ∧ rt = some (vI (I 0 0)) ∧ w = MW true I L) ∨ ((x = 1) ∧ rt = some (vI (I 17 0)) ∧ w = MW true I L) ∨ ((x = 2) ∧ rt = some (vI (I 21 0)) ∧ w = MW true I L) ∨ ((x = 3) ∧ rt = some (vI (I 32 0)) ∧ w = MW true I L) ∨ ((x = 4) ∧ rt = some (vI (I 38 0)) ∧ w = MW true I L) ∨ ((x = 5) ∧ rt = some (vI (I 7 0)) ∧ w = MW true I L) ∨ ((x = 6) ∧ rt = some (vI (I 66 0)) ∧ w = MW true I L) ∨ ((x = 7) ∧ rt = some (vI (I 28 0)) ∧ w = MW true I L) ∨ ((x < 0 ∨ 7 < x) ∧ rt = some (vI (-1)) ∧ w = MW true I L)) := by
  refine con_intro (by decide) (Nat.le_of_ble_eq_true rfl) ?_
  show Rch l E 1 89 _ _ _ _ (0, [some (vR 0), some (vI x)], [], MW true I L)
  refine rch_run rfl (by decide) 1 (t' := (1, [some (vR 0), some (vI x)], [vI x], MW true I L)) (ps := []) rfl trivial ?_
  refine rch_tsw (e := (1, .tableswitch 108 0 7 #[47, 52, 60, 68, 76, 84, 92, 100], 47, 0, 0, 0)) (d := 108) (lo := 0) (hi := 7) (offs := #[47, 52, 60, 68, 76, 84, 92, 100]) rfl rfl rfl (by decide) (by decide) (fun c1_1 => ?_) (fun n9 off9 c1_1 ho9 => ?_)
  · show Rch l E 1 89 _ _ _ _ (109, [some (vR 0), some (vI x)], [], MW true I L)
    refine rch_run rfl (by decide) 1 (t' := (110, [some (vR 0), some (vI x)], [vI (-1)], MW true I L)) (ps := []) rfl trivial ?_
    refine rch_ret rfl (rt := some (vI (-1))) rfl trivial mw_c ?_
    first | exact Or.inl ⟨by omega, rfl, rfl⟩ | exact Or.inr (Or.inl ⟨by omega, rfl, rfl⟩) | exact Or.inr (Or.inr (Or.inl ⟨by omega, rfl, rfl⟩)) | exact Or.inr (Or.inr (Or.inr (Or.inl ⟨by omega, rfl, rfl⟩))) | exact Or.inr (Or.inr (Or.inr (Or.inr (Or.inl ⟨by omega, rfl, rfl⟩)))) | exact Or.inr (Or.inr (Or.inr (Or.inr (Or.inr (Or.inl ⟨by omega, rfl, rfl⟩))))) | exact Or.inr (Or.inr (Or.inr (Or.inr (Or.inr (Or.inr (Or.inl ⟨by omega, rfl, rfl⟩)))))) | exact Or.inr (Or.inr (Or.inr (Or.inr (Or.inr (Or.inr (Or.inr (Or.inl ⟨by omega, rfl, rfl⟩))))))) | exact Or.inr (Or.inr (Or.inr (Or.inr (Or.inr (Or.inr (Or.inr (Or.inr (⟨by omega, rfl, rfl⟩)))))))) | (exfalso; omega)
  · match n9, c1_1, ho9 with
    | 0, c1_1, ho9 =>
      have c1_1 : x = 0 := by simpa using c1_1
      have ho9 : some (47 : Int) = some off9 := ho9
      cases ho9
      refine ⟨by decide, ?_⟩
      show Rch l E 1 89 _ _ _ _ (48, [some (vR 0), some (vI x)], [], MW true I L)
      refine rch_run rfl (by decide) 2 (t' := (52, [some (vR 0), some (vI x)], [vI (I 0 0)], MW true I L)) (ps := []) rfl trivial ?_
      refine rch_ret rfl (rt := some (vI (I 0 0))) rfl trivial mw_c ?_
      first | exact Or.inl ⟨by omega, rfl, rfl⟩ | exact Or.inr (Or.inl ⟨by omega, rfl, rfl⟩) | exact Or.inr (Or.inr (Or.inl ⟨by omega, rfl, rfl⟩)) | exact Or.inr (Or.inr (Or.inr (Or.inl ⟨by omega, rfl, rfl⟩))) | exact Or.inr (Or.inr (Or.inr (Or.inr (Or.inl ⟨by omega, rfl, rfl⟩)))) | exact Or.inr (Or.inr (Or.inr (Or.inr (Or.inr (Or.inl ⟨by omega, rfl, rfl⟩))))) | exact Or.inr (Or.inr (Or.inr (Or.inr (Or.inr (Or.inr (Or.inl ⟨by omega, rfl, rfl⟩)))))) | exact Or.inr (Or.inr (Or.inr (Or.inr (Or.inr (Or.inr (Or.inr (Or.inl ⟨by omega, rfl, rfl⟩))))))) | exact Or.inr (Or.inr (Or.inr (Or.inr (Or.inr (Or.inr (Or.inr (Or.inr (⟨by omega, rfl, rfl⟩)))))))) | (exfalso; omega)
    | 1, c1_1, ho9 =>
      have c1_1 : x = 1 := by simpa using c1_1
      have ho9 : some (52 : Int) = some off9 := ho9
      cases ho9
      refine ⟨by decide, ?_⟩
      show Rch l E 1 89 _ _ _ _ (53, [some (vR 0), some (vI x)], [], MW true I L)
      refine rch_run rfl (by decide) 3 (t' := (60, [some (vR 0), some (vI x)], [vI (I 17 0)], MW true I L)) (ps := []) rfl trivial ?_
      refine rch_ret rfl (rt := some (vI (I 17 0))) rfl trivial mw_c ?_
      first | exact Or.inl ⟨by omega, rfl, rfl⟩ | exact Or.inr (Or.inl ⟨by omega, rfl, rfl⟩) | exact Or.inr (Or.inr (Or.inl ⟨by omega, rfl, rfl⟩)) | exact Or.inr (Or.inr (Or.inr (Or.inl ⟨by omega, rfl, rfl⟩))) | exact Or.inr (Or.inr (Or.inr (Or.inr (Or.inl ⟨by omega, rfl, rfl⟩)))) | exact Or.inr (Or.inr (Or.inr (Or.inr (Or.inr (Or.inl ⟨by omega, rfl, rfl⟩))))) | exact Or.inr (Or.inr (Or.inr (Or.inr (Or.inr (Or.inr (Or.inl ⟨by omega, rfl, rfl⟩)))))) | exact Or.inr (Or.inr (Or.inr (Or.inr (Or.inr (Or.inr (Or.inr (Or.inl ⟨by omega, rfl, rfl⟩))))))) | exact Or.inr (Or.inr (Or.inr (Or.inr (Or.inr (Or.inr (Or.inr (Or.inr (⟨by omega, rfl, rfl⟩)))))))) | (exfalso; omega)
    | 2, c1_1, ho9 =>
      have c1_1 : x = 2 := by simpa using c1_1
      have ho9 : some (60 : Int) = some off9 := ho9
      cases ho9
      refine ⟨by decide, ?_⟩
      show Rch l E 1 89 _ _ _ _ (61, [some (vR 0), some (vI x)], [], MW true I L)
      refine rch_run rfl (by decide) 3 (t' := (68, [some (vR 0), some (vI x)], [vI (I 21 0)], MW true I L)) (ps := []) rfl trivial ?_
      refine rch_ret rfl (rt := some (vI (I 21 0))) rfl trivial mw_c ?_
      first | exact Or.inl ⟨by omega, rfl, rfl⟩ | exact Or.inr (Or.inl ⟨by omega, rfl, rfl⟩) | exact Or.inr (Or.inr (Or.inl ⟨by omega, rfl, rfl⟩)) | exact Or.inr (Or.inr (Or.inr (Or.inl ⟨by omega, rfl, rfl⟩))) | exact Or.inr (Or.inr (Or.inr (Or.inr (Or.inl ⟨by omega, rfl, rfl⟩)))) | exact Or.inr (Or.inr (Or.inr (Or.inr (Or.inr (Or.inl ⟨by omega, rfl, rfl⟩))))) | exact Or.inr (Or.inr (Or.inr (Or.inr (Or.inr (Or.inr (Or.inl ⟨by omega, rfl, rfl⟩)))))) | exact Or.inr (Or.inr (Or.inr (Or.inr (Or.inr (Or.inr (Or.inr (Or.inl ⟨by omega, rfl, rfl⟩))))))) | exact Or.inr (Or.inr (Or.inr (Or.inr (Or.inr (Or.inr (Or.inr (Or.inr (⟨by omega, rfl, rfl⟩)))))))) | (exfalso; omega)
    | 3, c1_1, ho9 =>
      have c1_1 : x = 3 := by simpa using c1_1
      have ho9 : some (68 : Int) = some off9 := ho9
      cases ho9
      refine ⟨by decide, ?_⟩
      show Rch l E 1 89 _ _ _ _ (69, [some (vR 0), some (vI x)], [], MW true I L)
      refine rch_run rfl (by decide) 3 (t' := (76, [some (vR 0), some (vI x)], [vI (I 32 0)], MW true I L)) (ps := []) rfl trivial ?_
      refine rch_ret rfl (rt := some (vI (I 32 0))) rfl trivial mw_c ?_
      first | exact Or.inl ⟨by omega, rfl, rfl⟩ | exact Or.inr (Or.inl ⟨by omega, rfl, rfl⟩) | exact Or.inr (Or.inr (Or.inl ⟨by omega, rfl, rfl⟩)) | exact Or.inr (Or.inr (Or.inr (Or.inl ⟨by omega, rfl, rfl⟩))) | exact Or.inr (Or.inr (Or.inr (Or.inr (Or.inl ⟨by omega, rfl, rfl⟩)))) | exact Or.inr (Or.inr (Or.inr (Or.inr (Or.inr (Or.inl ⟨by omega, rfl, rfl⟩))))) | exact Or.inr (Or.inr (Or.inr (Or.inr (Or.inr (Or.inr (Or.inl ⟨by omega, rfl, rfl⟩)))))) | exact Or.inr (Or.inr (Or.inr (Or.inr (Or.inr (Or.inr (Or.inr (Or.inl ⟨by omega, rfl, rfl⟩))))))) | exact Or.inr (Or.inr (Or.inr (Or.inr (Or.inr (Or.inr (Or.inr (Or.inr (⟨by omega, rfl, rfl⟩)))))))) | (exfalso; omega)
    | 4, c1_1, ho9 =>
      have c1_1 : x = 4 := by simpa using c1_1
      have ho9 : some (76 : Int) = some off9 := ho9
      cases ho9
      refine ⟨by decide, ?_⟩
      show Rch l E 1 89 _ _ _ _ (77, [some (vR 0), some (vI x)], [], MW true I L)
      refine rch_run rfl (by decide) 3 (t' := (84, [some (vR 0), some (vI x)], [vI (I 38 0)], MW true I L)) (ps := []) rfl trivial ?_
      refine rch_ret rfl (rt := some (vI (I 38 0))) rfl trivial mw_c ?_
      first | exact Or.inl ⟨by omega, rfl, rfl⟩ | exact Or.inr (Or.inl ⟨by omega, rfl, rfl⟩) | exact Or.inr (Or.inr (Or.inl ⟨by omega, rfl, rfl⟩)) | exact Or.inr (Or.inr (Or.inr (Or.inl ⟨by omega, rfl, rfl⟩))) | exact Or.inr (Or.inr (Or.inr (Or.inr (Or.inl ⟨by omega, rfl, rfl⟩)))) | exact Or.inr (Or.inr (Or.inr (Or.inr (Or.inr (Or.inl ⟨by omega, rfl, rfl⟩))))) | exact Or.inr (Or.inr (Or.inr (Or.inr (Or.inr (Or.inr (Or.inl ⟨by omega, rfl, rfl⟩)))))) | exact Or.inr (Or.inr (Or.inr (Or.inr (Or.inr (Or.inr (Or.inr (Or.inl ⟨by omega, rfl, rfl⟩))))))) | exact Or.inr (Or.inr (Or.inr (Or.inr (Or.inr (Or.inr (Or.inr (Or.inr (⟨by omega, rfl, rfl⟩)))))))) | (exfalso; omega)
    | 5, c1_1, ho9 =>
      have c1_1 : x = 5 := by simpa using c1_1
      have ho9 : some (84 : Int) = some off9 := ho9
      cases ho9
      refine ⟨by decide, ?_⟩
      show Rch l E 1 89 _ _ _ _ (85, [some (vR 0), some (vI x)], [], MW true I L)
      refine rch_run rfl (by decide) 3 (t' := (92, [some (vR 0), some (vI x)], [vI (I 7 0)], MW true I L)) (ps := []) rfl trivial ?_
      refine rch_ret rfl (rt := some (vI (I 7 0))) rfl trivial mw_c ?_
      first | exact Or.inl ⟨by omega, rfl, rfl⟩ | exact Or.inr (Or.inl ⟨by omega, rfl, rfl⟩) | exact Or.inr (Or.inr (Or.inl ⟨by omega, rfl, rfl⟩)) | exact Or.inr (Or.inr (Or.inr (Or.inl ⟨by omega, rfl, rfl⟩))) | exact Or.inr (Or.inr (Or.inr (Or.inr (Or.inl ⟨by omega, rfl, rfl⟩)))) | exact Or.inr (Or.inr (Or.inr (Or.inr (Or.inr (Or.inl ⟨by omega, rfl, rfl⟩))))) | exact Or.inr (Or.inr (Or.inr (Or.inr (Or.inr (Or.inr (Or.inl ⟨by omega, rfl, rfl⟩)))))) | exact Or.inr (Or.inr (Or.inr (Or.inr (Or.inr (Or.inr (Or.inr (Or.inl ⟨by omega, rfl, rfl⟩))))))) | exact Or.inr (Or.inr (Or.inr (Or.inr (Or.inr (Or.inr (Or.inr (Or.inr (⟨by omega, rfl, rfl⟩)))))))) | (exfalso; omega)
    | 6, c1_1, ho9 =>
      have c1_1 : x = 6 := by simpa using c1_1
      have ho9 : some (92 : Int) = some off9 := ho9
      cases ho9
      refine ⟨by decide, ?_⟩
      show Rch l E 1 89 _ _ _ _ (93, [some (vR 0), some (vI x)], [], MW true I L)
      refine rch_run rfl (by decide) 3 (t' := (100, [some (vR 0), some (vI x)], [vI (I 66 0)], MW true I L)) (ps := []) rfl trivial ?_
      refine rch_ret rfl (rt := some (vI (I 66 0))) rfl trivial mw_c ?_
      first | exact Or.inl ⟨by omega, rfl, rfl⟩ | exact Or.inr (Or.inl ⟨by omega, rfl, rfl⟩) | exact Or.inr (Or.inr (Or.inl ⟨by omega, rfl, rfl⟩)) | exact Or.inr (Or.inr (Or.inr (Or.inl ⟨by omega, rfl, rfl⟩))) | exact Or.inr (Or.inr (Or.inr (Or.inr (Or.inl ⟨by omega, rfl, rfl⟩)))) | exact Or.inr (Or.inr (Or.inr (Or.inr (Or.inr (Or.inl ⟨by omega, rfl, rfl⟩))))) | exact Or.inr (Or.inr (Or.inr (Or.inr (Or.inr (Or.inr (Or.inl ⟨by omega, rfl, rfl⟩)))))) | exact Or.inr (Or.inr (Or.inr (Or.inr (Or.inr (Or.inr (Or.inr (Or.inl ⟨by omega, rfl, rfl⟩))))))) | exact Or.inr (Or.inr (Or.inr (Or.inr (Or.inr (Or.inr (Or.inr (Or.inr (⟨by omega, rfl, rfl⟩)))))))) | (exfalso; omega)
    | 7, c1_1, ho9 =>
      have c1_1 : x = 7 := by simpa using c1_1
      have ho9 : some (100 : Int) = some off9 := ho9
      cases ho9
      refine ⟨by decide, ?_⟩
      show Rch l E 1 89 _ _ _ _ (101, [some (vR 0), some (vI x)], [], MW true I L)
      refine rch_run rfl (by decide) 3 (t' := (108, [some (vR 0), some (vI x)], [vI (I 28 0)], MW true I L)) (ps := []) rfl trivial ?_
      refine rch_ret rfl (rt := some (vI (I 28 0))) rfl trivial mw_c ?_
      first | exact Or.inl ⟨by omega, rfl, rfl⟩ | exact Or.inr (Or.inl ⟨by omega, rfl, rfl⟩) | exact Or.inr (Or.inr (Or.inl ⟨by omega, rfl, rfl⟩)) | exact Or.inr (Or.inr (Or.inr (Or.inl ⟨by omega, rfl, rfl⟩))) | exact Or.inr (Or.inr (Or.inr (Or.inr (Or.inl ⟨by omega, rfl, rfl⟩)))) | exact Or.inr (Or.inr (Or.inr (Or.inr (Or.inr (Or.inl ⟨by omega, rfl, rfl⟩))))) | exact Or.inr (Or.inr (Or.inr (Or.inr (Or.inr (Or.inr (Or.inl ⟨by omega, rfl, rfl⟩)))))) | exact Or.inr (Or.inr (Or.inr (Or.inr (Or.inr (Or.inr (Or.inr (Or.inl ⟨by omega, rfl, rfl⟩))))))) | exact Or.inr (Or.inr (Or.inr (Or.inr (Or.inr (Or.inr (Or.inr (Or.inr (⟨by omega, rfl, rfl⟩)))))))) | (exfalso; omega)
    | n9 + 8, _, ho9 => exact absurd ho9 (by simp)

theorem k_X12_fault (l : Launch) (E : AX) (b : Bool) (I L : Nat → Nat → Int) (x : Int) : Con l E 1 138 [vR 74, vI x] (MW b I L) 0 0 (fun rt w => ((x = 0) ∧ rt = some (vI (I 74 31)) ∧ w = MW b I L) ∨ ((x = 1) ∧ rt = some (vI (I 74 32)) ∧ w = MW b I L) ∨ ((x ≠ 0 ∧ x ≠ 1) ∧ rt = some (vI (-1)) ∧ w = MW b I L)) := by
  refine con_intro (by decide) (Nat.le_of_ble_eq_true rfl) ?_
  show Rch l E 1 138 _ _ _ _ (0, [some (vR 74), some (vI x)], [], MW b I L)
  refine rch_run rfl (by decide) 1 (t' := (1, [some (vR 74), some (vI x)], [vI x], MW b I L)) (ps := []) rfl trivial ?_
  refine rch_br rfl (cd := x ≠ 0) (t1 := (11, [some (vR 74), some (vI x)], [], MW b I L)) (t2 := (4, [some (vR 74), some (vI x)], [], MW b I L)) rfl (fun c1_1 => ?_) (fun c1_1 => ?_)
  · refine rch_run rfl (by decide) 2 (t' := (13, [some (vR 74), some (vI x)], [vI 1, vI x], MW b I L)) (ps := []) rfl trivial ?_
    refine rch_br rfl (cd := x ≠ (1 : Int)) (t1 := (23, [some (vR 74), some (vI x)], [], MW b I L)) (t2 := (16, [some (vR 74), some (vI x)], [], MW b I L)) rfl (fun c13_2 => ?_) (fun c13_2 => ?_)
    · refine rch_run rfl (by decide) 1 (t' := (24, [some (vR 74), some (vI x)], [vI (-1)], MW b I L)) (ps := []) rfl trivial ?_
      refine rch_ret rfl (rt := some (vI (-1))) rfl trivial mw_c ?_
      first | exact Or.inl ⟨by omega, rfl, rfl⟩ | exact Or.inr (Or.inl ⟨by omega, rfl, rfl⟩) | exact Or.inr (Or.inr (⟨by omega, rfl, rfl⟩)) | (exfalso; omega)
    · refine rch_run rfl (by decide) 3 (t' := (24, [some (vR 74), some (vI x)], [vI (I 74 32)], MW b I L)) (ps := []) rfl trivial ?_
      refine rch_ret rfl (rt := some (vI (I 74 32))) rfl trivial mw_c ?_
      first | exact Or.inl ⟨by omega, rfl, rfl⟩ | exact Or.inr (Or.inl ⟨by omega, rfl, rfl⟩) | exact Or.inr (Or.inr (⟨by omega, rfl, rfl⟩)) | (exfalso; omega)
  · refine rch_run rfl (by decide) 3 (t' := (24, [some (vR 74), some (vI x)], [vI (I 74 31)], MW b I L)) (ps := []) rfl trivial ?_
    refine rch_ret rfl (rt := some (vI (I 74 31))) rfl trivial mw_c ?_
    first | exact Or.inl ⟨by omega, rfl, rfl⟩ | exact Or.inr (Or.inl ⟨by omega, rfl, rfl⟩) | exact Or.inr (Or.inr (⟨by omega, rfl, rfl⟩)) | (exfalso; omega)

theorem k_X11_fault (l : Launch) (E : AX) (b : Bool) (I L : Nat → Nat → Int) (x : Int) : Con l E 1 73 [vR 0, vI x] (MW b I L) 0 0 (fun rt w => ((x = 0) ∧ rt = some (vI (I 31 0)) ∧ w = MW b I L) ∨ ((x = 1) ∧ rt = some (vI (I 31 1)) ∧ w = MW b I L) ∨ ((x ≠ 0 ∧ x ≠ 1) ∧ rt = some (vI (-1)) ∧ w = MW b I L)) := by
  refine con_intro (by decide) (Nat.le_of_ble_eq_true rfl) ?_
  show Rch l E 1 73 _ _ _ _ (0, [some (vR 0), some (vI x)], [], MW b I L)
  refine rch_run rfl (by decide) 1 (t' := (1, [some (vR 0), some (vI x)], [vI x], MW b I L)) (ps := []) rfl trivial ?_
  by_cases c1_1 : x = 0
  · refine rch_lsw (e := (1, .lookupswitch 43 #[(0, 27), (1, 35)], 27, 0, 0, 0)) (d := 43) (ps := #[(0, 27), (1, 35)]) 27 rfl rfl rfl (by decide) (by rw [c1_1]; decide) (by decide) ?_
    show Rch l E 1 73 _ _ _ _ (28, [some (vR 0), some (vI x)], [], MW b I L)
    refine rch_run rfl (by decide) 3 (t' := (35, [some (vR 0), some (vI x)], [vI (I 31 0)], MW b I L)) (ps := []) rfl trivial ?_
    refine rch_ret rfl (rt := some (vI (I 31 0))) rfl trivial mw_c ?_
    first | exact Or.inl ⟨by omega, rfl, rfl⟩ | exact Or.inr (Or.inl ⟨by omega, rfl, rfl⟩) | exact Or.inr (Or.inr (⟨by omega, rfl, rfl⟩)) | (exfalso; omega)
  by_cases c1_2 : x = 1
  · refine rch_lsw (e := (1, .lookupswitch 43 #[(0, 27), (1, 35)], 27, 0, 0, 0)) (d := 43) (ps := #[(0, 27), (1, 35)]) 35 rfl rfl rfl (by decide) (by rw [c1_2]; decide) (by decide) ?_
    show Rch l E 1 73 _ _ _ _ (36, [some (vR 0), some (vI x)], [], MW b I L)
    refine rch_run rfl (by decide) 3 (t' := (43, [some (vR 0), some (vI x)], [vI (I 31 1)], MW b I L)) (ps := []) rfl trivial ?_
    refine rch_ret rfl (rt := some (vI (I 31 1))) rfl trivial mw_c ?_
    first | exact Or.inl ⟨by omega, rfl, rfl⟩ | exact Or.inr (Or.inl ⟨by omega, rfl, rfl⟩) | exact Or.inr (Or.inr (⟨by omega, rfl, rfl⟩)) | (exfalso; omega)
  refine rch_lsw (e := (1, .lookupswitch 43 #[(0, 27), (1, 35)], 27, 0, 0, 0)) (d := 43) (ps := #[(0, 27), (1, 35)]) 43 rfl rfl rfl (by decide) (by simp [Op.lookupswitch.offset]; omega) (by decide) ?_
  show Rch l E 1 73 _ _ _ _ (44, [some (vR 0), some (vI x)], [], MW b I L)
  refine rch_run rfl (by decide) 1 (t' := (45, [some (vR 0), some (vI x)], [vI (-1)], MW b I L)) (ps := []) rfl trivial ?_
  refine rch_ret rfl (rt := some (vI (-1))) rfl trivial mw_c ?_
  first | exact Or.inl ⟨by omega, rfl, rfl⟩ | exact Or.inr (Or.inl ⟨by omega, rfl, rfl⟩) | exact Or.inr (Or.inr (⟨by omega, rfl, rfl⟩)) | (exfalso; omega)
