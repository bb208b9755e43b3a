theorem mw_leL {b : Bool} {I L : Nat → Nat → Int} : cN (MW b I L) + 0 ≤ cN wE + 129 ∧ sN (MW b I L) + 0 ≤ sN wE + 14022 := by
  rw [mw_cN, mw_sN]
  exact ⟨by decide, by decide⟩
theorem mw_cL {b : Bool} {I L : Nat → Nat → Int} : cN (MW b I L) = cN wE + 129 ∧ sN (MW b I L) = sN wE + 14022 := by
  rw [mw_cN, mw_sN]
  exact ⟨rfl, rfl⟩
set_option maxHeartbeats 20000000 in
set_option maxRecDepth 100000 in
theorem cs_trust (l : Launch) (E : AX) (b : Bool) (I L : Nat → Nat → Int) (i : Int) (hi : 0 ≤ i ∧ i + 6 ≤ (E.1 : Int)) (hE : E.1 ≤ 3072) (hI : Inv (bkb b) I) (hk : ∀ b J M, Inv (bkb b) J → Rch l E 1000 174 wE 129 14022 PhiL (1190, [some (vR 1000), some (vR 0), some (vR 74), some (vI i)], [], MW b J M)) : Rch l E 1000 174 wE 129 14022 PhiL (160, [some (vR 1000), some (vR 0), some (vR 74), some (vI i)], [], MW b I L) := by
  refine rch_run cdK174 (by decide) 16 (t' := (176, [some (vR 1000), some (vR 0), some (vR 74), some (vI i)], [vI ((E.2 (i + 3).toNat).toInt), vI ((E.2 (i + 2).toNat).toInt), vI ((E.2 (i + 1).toNat).toInt), vR 0], MW b I L)) (ps := [i32 (i + 1), 0 ≤ i + 1 ∧ i + 1 < (E.1 : Int), i32 (i + 2), 0 ≤ i + 2 ∧ i + 2 < (E.1 : Int), i32 (i + 3), 0 ≤ i + 3 ∧ i + 3 < (E.1 : Int)]) rfl (by simp only [all_, i32, i64]; first | omega | (simp; done) | (simp; omega)) ?_
  refine rch_call (h' := 2) (k' := 62) (as := [vR 0, vI ((E.2 (i + 1).toNat).toInt), vI ((E.2 (i + 2).toNat).toInt), vI ((E.2 (i + 3).toNat).toInt)]) (t1 := (179, [some (vR 1000), some (vR 0), some (vR 74), some (vI i)], [], MW b I L)) cdK174 rfl (pr_trust l E b I L ((E.2 (i + 1).toNat).toInt) ((E.2 (i + 2).toNat).toInt) ((E.2 (i + 3).toNat).toInt) hI) (by decide) mw_leL ?_
  rintro rt9 w9 (⟨b1, J1, M1, v1, rfl, rfl, hc1⟩) _ _
  show Rch l E 1000 174 _ _ _ _ (179, [some (vR 1000), some (vR 0), some (vR 74), some (vI i)], [vI v1], MW b1 J1 M1)
  refine rch_run cdK174 (by decide) 16 (t' := (195, [some (vR 1000), some (vR 0), some (vR 74), some (vI i)], [vI ((E.2 (i + 3).toNat).toInt), vI ((E.2 (i + 2).toNat).toInt), vI ((E.2 (i + 1).toNat).toInt), vR 74, vI v1], MW b1 J1 M1)) (ps := [i32 (i + 1), 0 ≤ i + 1 ∧ i + 1 < (E.1 : Int), i32 (i + 2), 0 ≤ i + 2 ∧ i + 2 < (E.1 : Int), i32 (i + 3), 0 ≤ i + 3 ∧ i + 3 < (E.1 : Int)]) rfl (by simp only [all_, i32, i64]; first | omega | (simp; done) | (simp; omega)) ?_
  refine rch_call (h' := 2) (k' := 105) (as := [vR 74, vI ((E.2 (i + 1).toNat).toInt), vI ((E.2 (i + 2).toNat).toInt), vI ((E.2 (i + 3).toNat).toInt)]) (t1 := (198, [some (vR 1000), some (vR 0), some (vR 74), some (vI i)], [vI v1], MW b1 J1 M1)) cdK174 rfl hc1 (by decide) mw_leL ?_
  rintro rt9 w9 (⟨J2, M2, rfl, rfl, hI2⟩) _ _
  show Rch l E 1000 174 _ _ _ _ (198, [some (vR 1000), some (vR 0), some (vR 74), some (vI i)], [vI v1, vI v1], MW b1 J2 M2)
  refine rch_br cdK174 (cd := v1 = v1) (t1 := (1190, [some (vR 1000), some (vR 0), some (vR 74), some (vI i)], [], MW b1 J2 M2)) (t2 := (201, [some (vR 1000), some (vR 0), some (vR 74), some (vI i)], [], MW b1 J2 M2)) rfl (fun c198_1 => ?_) (fun c9 => by exfalso; omega)
  exact hk b1 J2 M2 hI2

set_option maxHeartbeats 20000000 in
set_option maxRecDepth 100000 in
theorem cs_fade (l : Launch) (E : AX) (b : Bool) (I L : Nat → Nat → Int) (i : Int) (hi : 0 ≤ i ∧ i + 6 ≤ (E.1 : Int)) (hE : E.1 ≤ 3072) (hI : Inv (bkb b) I) (hk : ∀ b J M, Inv (bkb b) J → Rch l E 1000 174 wE 129 14022 PhiL (1190, [some (vR 1000), some (vR 0), some (vR 74), some (vI i)], [], MW b J M)) : Rch l E 1000 174 wE 129 14022 PhiL (203, [some (vR 1000), some (vR 0), some (vR 74), some (vI i)], [], MW b I L) := by
  refine rch_run cdK174 (by decide) 11 (t' := (214, [some (vR 1000), some (vR 0), some (vR 74), some (vI i)], [vI ((E.2 (i + 2).toNat).toInt), vI ((E.2 (i + 1).toNat).toInt), vR 0], MW b I L)) (ps := [i32 (i + 1), 0 ≤ i + 1 ∧ i + 1 < (E.1 : Int), i32 (i + 2), 0 ≤ i + 2 ∧ i + 2 < (E.1 : Int)]) rfl (by simp only [all_, i32, i64]; first | omega | (simp; done) | (simp; omega)) ?_
  refine rch_call (h' := 2) (k' := 63) (as := [vR 0, vI ((E.2 (i + 1).toNat).toInt), vI ((E.2 (i + 2).toNat).toInt)]) (t1 := (217, [some (vR 1000), some (vR 0), some (vR 74), some (vI i)], [], MW b I L)) cdK174 rfl (pr_fade l E b I L ((E.2 (i + 1).toNat).toInt) ((E.2 (i + 2).toNat).toInt) hI) (by decide) mw_leL ?_
  rintro rt9 w9 (⟨b1, J1, M1, v1, rfl, rfl, hc1⟩) _ _
  show Rch l E 1000 174 _ _ _ _ (217, [some (vR 1000), some (vR 0), some (vR 74), some (vI i)], [vI v1], MW b1 J1 M1)
  refine rch_run cdK174 (by decide) 11 (t' := (228, [some (vR 1000), some (vR 0), some (vR 74), some (vI i)], [vI ((E.2 (i + 2).toNat).toInt), vI ((E.2 (i + 1).toNat).toInt), vR 74, vI v1], MW b1 J1 M1)) (ps := [i32 (i + 1), 0 ≤ i + 1 ∧ i + 1 < (E.1 : Int), i32 (i + 2), 0 ≤ i + 2 ∧ i + 2 < (E.1 : Int)]) rfl (by simp only [all_, i32, i64]; first | omega | (simp; done) | (simp; omega)) ?_
  refine rch_call (h' := 2) (k' := 106) (as := [vR 74, vI ((E.2 (i + 1).toNat).toInt), vI ((E.2 (i + 2).toNat).toInt)]) (t1 := (231, [some (vR 1000), some (vR 0), some (vR 74), some (vI i)], [vI v1], MW b1 J1 M1)) cdK174 rfl hc1 (by decide) mw_leL ?_
  rintro rt9 w9 (⟨J2, M2, rfl, rfl, hI2⟩) _ _
  show Rch l E 1000 174 _ _ _ _ (231, [some (vR 1000), some (vR 0), some (vR 74), some (vI i)], [vI v1, vI v1], MW b1 J2 M2)
  refine rch_br cdK174 (cd := v1 = v1) (t1 := (1190, [some (vR 1000), some (vR 0), some (vR 74), some (vI i)], [], MW b1 J2 M2)) (t2 := (234, [some (vR 1000), some (vR 0), some (vR 74), some (vI i)], [], MW b1 J2 M2)) rfl (fun c231_1 => ?_) (fun c9 => by exfalso; omega)
  exact hk b1 J2 M2 hI2

set_option maxHeartbeats 20000000 in
set_option maxRecDepth 100000 in
theorem cs_rights (l : Launch) (E : AX) (b : Bool) (I L : Nat → Nat → Int) (i : Int) (hi : 0 ≤ i ∧ i + 6 ≤ (E.1 : Int)) (hE : E.1 ≤ 3072) (hI : Inv (bkb b) I) (hk : ∀ b J M, Inv (bkb b) J → Rch l E 1000 174 wE 129 14022 PhiL (1190, [some (vR 1000), some (vR 0), some (vR 74), some (vI i)], [], MW b J M)) : Rch l E 1000 174 wE 129 14022 PhiL (236, [some (vR 1000), some (vR 0), some (vR 74), some (vI i)], [], MW b I L) := by
  refine rch_run cdK174 (by decide) 11 (t' := (247, [some (vR 1000), some (vR 0), some (vR 74), some (vI i)], [vI ((E.2 (i + 2).toNat).toInt), vI ((E.2 (i + 1).toNat).toInt), vR 0], MW b I L)) (ps := [i32 (i + 1), 0 ≤ i + 1 ∧ i + 1 < (E.1 : Int), i32 (i + 2), 0 ≤ i + 2 ∧ i + 2 < (E.1 : Int)]) rfl (by simp only [all_, i32, i64]; first | omega | (simp; done) | (simp; omega)) ?_
  refine rch_call (h' := 2) (k' := 64) (as := [vR 0, vI ((E.2 (i + 1).toNat).toInt), vI ((E.2 (i + 2).toNat).toInt)]) (t1 := (250, [some (vR 1000), some (vR 0), some (vR 74), some (vI i)], [], MW b I L)) cdK174 rfl (pr_rights l E b I L ((E.2 (i + 1).toNat).toInt) ((E.2 (i + 2).toNat).toInt) hI) (by decide) mw_leL ?_
  rintro rt9 w9 (⟨b1, J1, M1, v1, rfl, rfl, hc1⟩) _ _
  show Rch l E 1000 174 _ _ _ _ (250, [some (vR 1000), some (vR 0), some (vR 74), some (vI i)], [vI v1], MW b1 J1 M1)
  refine rch_run cdK174 (by decide) 11 (t' := (261, [some (vR 1000), some (vR 0), some (vR 74), some (vI i)], [vI ((E.2 (i + 2).toNat).toInt), vI ((E.2 (i + 1).toNat).toInt), vR 74, vI v1], MW b1 J1 M1)) (ps := [i32 (i + 1), 0 ≤ i + 1 ∧ i + 1 < (E.1 : Int), i32 (i + 2), 0 ≤ i + 2 ∧ i + 2 < (E.1 : Int)]) rfl (by simp only [all_, i32, i64]; first | omega | (simp; done) | (simp; omega)) ?_
  refine rch_call (h' := 2) (k' := 107) (as := [vR 74, vI ((E.2 (i + 1).toNat).toInt), vI ((E.2 (i + 2).toNat).toInt)]) (t1 := (264, [some (vR 1000), some (vR 0), some (vR 74), some (vI i)], [vI v1], MW b1 J1 M1)) cdK174 rfl hc1 (by decide) mw_leL ?_
  rintro rt9 w9 (⟨J2, M2, rfl, rfl, hI2⟩) _ _
  show Rch l E 1000 174 _ _ _ _ (264, [some (vR 1000), some (vR 0), some (vR 74), some (vI i)], [vI v1, vI v1], MW b1 J2 M2)
  refine rch_br cdK174 (cd := v1 = v1) (t1 := (1190, [some (vR 1000), some (vR 0), some (vR 74), some (vI i)], [], MW b1 J2 M2)) (t2 := (267, [some (vR 1000), some (vR 0), some (vR 74), some (vI i)], [], MW b1 J2 M2)) rfl (fun c264_1 => ?_) (fun c9 => by exfalso; omega)
  exact hk b1 J2 M2 hI2

set_option maxHeartbeats 20000000 in
set_option maxRecDepth 100000 in
theorem cs_row (l : Launch) (E : AX) (b : Bool) (I L : Nat → Nat → Int) (i : Int) (hi : 0 ≤ i ∧ i + 6 ≤ (E.1 : Int)) (hE : E.1 ≤ 3072) (hI : Inv (bkb b) I) (hk : ∀ b J M, Inv (bkb b) J → Rch l E 1000 174 wE 129 14022 PhiL (1190, [some (vR 1000), some (vR 0), some (vR 74), some (vI i)], [], MW b J M)) : Rch l E 1000 174 wE 129 14022 PhiL (269, [some (vR 1000), some (vR 0), some (vR 74), some (vI i)], [], MW b I L) := by
  refine rch_run cdK174 (by decide) 6 (t' := (275, [some (vR 1000), some (vR 0), some (vR 74), some (vI i)], [vI ((E.2 (i + 1).toNat).toInt), vR 0], MW b I L)) (ps := [i32 (i + 1), 0 ≤ i + 1 ∧ i + 1 < (E.1 : Int)]) rfl (by simp only [all_, i32, i64]; first | omega | (simp; done) | (simp; omega)) ?_
  refine rch_call (h' := 2) (k' := 65) (as := [vR 0, vI ((E.2 (i + 1).toNat).toInt)]) (t1 := (278, [some (vR 1000), some (vR 0), some (vR 74), some (vI i)], [], MW b I L)) cdK174 rfl (pr_row l E b I L ((E.2 (i + 1).toNat).toInt) hI) (by decide) mw_leL ?_
  rintro rt9 w9 (⟨b1, J1, M1, v1, rfl, rfl, hc1⟩) _ _
  show Rch l E 1000 174 _ _ _ _ (278, [some (vR 1000), some (vR 0), some (vR 74), some (vI i)], [vI v1], MW b1 J1 M1)
  refine rch_run cdK174 (by decide) 6 (t' := (284, [some (vR 1000), some (vR 0), some (vR 74), some (vI i)], [vI ((E.2 (i + 1).toNat).toInt), vR 74, vI v1], MW b1 J1 M1)) (ps := [i32 (i + 1), 0 ≤ i + 1 ∧ i + 1 < (E.1 : Int)]) rfl (by simp only [all_, i32, i64]; first | omega | (simp; done) | (simp; omega)) ?_
  refine rch_call (h' := 2) (k' := 108) (as := [vR 74, vI ((E.2 (i + 1).toNat).toInt)]) (t1 := (287, [some (vR 1000), some (vR 0), some (vR 74), some (vI i)], [vI v1], MW b1 J1 M1)) cdK174 rfl hc1 (by decide) mw_leL ?_
  rintro rt9 w9 (⟨J2, M2, rfl, rfl, hI2⟩) _ _
  show Rch l E 1000 174 _ _ _ _ (287, [some (vR 1000), some (vR 0), some (vR 74), some (vI i)], [vI v1, vI v1], MW b1 J2 M2)
  refine rch_br cdK174 (cd := v1 = v1) (t1 := (1190, [some (vR 1000), some (vR 0), some (vR 74), some (vI i)], [], MW b1 J2 M2)) (t2 := (290, [some (vR 1000), some (vR 0), some (vR 74), some (vI i)], [], MW b1 J2 M2)) rfl (fun c287_1 => ?_) (fun c9 => by exfalso; omega)
  exact hk b1 J2 M2 hI2

set_option maxHeartbeats 20000000 in
set_option maxRecDepth 100000 in
theorem cs_set (l : Launch) (E : AX) (b : Bool) (I L : Nat → Nat → Int) (i : Int) (hi : 0 ≤ i ∧ i + 6 ≤ (E.1 : Int)) (hE : E.1 ≤ 3072) (hI : Inv (bkb b) I) (hk : ∀ b J M, Inv (bkb b) J → Rch l E 1000 174 wE 129 14022 PhiL (1190, [some (vR 1000), some (vR 0), some (vR 74), some (vI i)], [], MW b J M)) : Rch l E 1000 174 wE 129 14022 PhiL (292, [some (vR 1000), some (vR 0), some (vR 74), some (vI i)], [], MW b I L) := by
  refine rch_run cdK174 (by decide) 21 (t' := (313, [some (vR 1000), some (vR 0), some (vR 74), some (vI i)], [vI ((E.2 (i + 4).toNat).toInt), vI ((E.2 (i + 3).toNat).toInt), vI ((E.2 (i + 2).toNat).toInt), vI ((E.2 (i + 1).toNat).toInt), vR 0], MW b I L)) (ps := [i32 (i + 1), 0 ≤ i + 1 ∧ i + 1 < (E.1 : Int), i32 (i + 2), 0 ≤ i + 2 ∧ i + 2 < (E.1 : Int), i32 (i + 3), 0 ≤ i + 3 ∧ i + 3 < (E.1 : Int), i32 (i + 4), 0 ≤ i + 4 ∧ i + 4 < (E.1 : Int)]) rfl (by simp only [all_, i32, i64]; first | omega | (simp; done) | (simp; omega)) ?_
  refine rch_call (h' := 2) (k' := 66) (as := [vR 0, vI ((E.2 (i + 1).toNat).toInt), vI ((E.2 (i + 2).toNat).toInt), vI ((E.2 (i + 3).toNat).toInt), vI ((E.2 (i + 4).toNat).toInt)]) (t1 := (316, [some (vR 1000), some (vR 0), some (vR 74), some (vI i)], [], MW b I L)) cdK174 rfl (pr_set l E b I L ((E.2 (i + 1).toNat).toInt) ((E.2 (i + 2).toNat).toInt) ((E.2 (i + 3).toNat).toInt) ((E.2 (i + 4).toNat).toInt) hI) (by decide) mw_leL ?_
  rintro rt9 w9 (⟨b1, J1, M1, v1, rfl, rfl, hc1⟩) _ _
  show Rch l E 1000 174 _ _ _ _ (316, [some (vR 1000), some (vR 0), some (vR 74), some (vI i)], [vI v1], MW b1 J1 M1)
  refine rch_run cdK174 (by decide) 21 (t' := (337, [some (vR 1000), some (vR 0), some (vR 74), some (vI i)], [vI ((E.2 (i + 4).toNat).toInt), vI ((E.2 (i + 3).toNat).toInt), vI ((E.2 (i + 2).toNat).toInt), vI ((E.2 (i + 1).toNat).toInt), vR 74, vI v1], MW b1 J1 M1)) (ps := [i32 (i + 1), 0 ≤ i + 1 ∧ i + 1 < (E.1 : Int), i32 (i + 2), 0 ≤ i + 2 ∧ i + 2 < (E.1 : Int), i32 (i + 3), 0 ≤ i + 3 ∧ i + 3 < (E.1 : Int), i32 (i + 4), 0 ≤ i + 4 ∧ i + 4 < (E.1 : Int)]) rfl (by simp only [all_, i32, i64]; first | omega | (simp; done) | (simp; omega)) ?_
  refine rch_call (h' := 2) (k' := 113) (as := [vR 74, vI ((E.2 (i + 1).toNat).toInt), vI ((E.2 (i + 2).toNat).toInt), vI ((E.2 (i + 3).toNat).toInt), vI ((E.2 (i + 4).toNat).toInt)]) (t1 := (340, [some (vR 1000), some (vR 0), some (vR 74), some (vI i)], [vI v1], MW b1 J1 M1)) cdK174 rfl hc1 (by decide) mw_leL ?_
  rintro rt9 w9 (⟨J2, M2, rfl, rfl, hI2⟩) _ _
  show Rch l E 1000 174 _ _ _ _ (340, [some (vR 1000), some (vR 0), some (vR 74), some (vI i)], [vI v1, vI v1], MW b1 J2 M2)
  refine rch_br cdK174 (cd := v1 = v1) (t1 := (1190, [some (vR 1000), some (vR 0), some (vR 74), some (vI i)], [], MW b1 J2 M2)) (t2 := (343, [some (vR 1000), some (vR 0), some (vR 74), some (vI i)], [], MW b1 J2 M2)) rfl (fun c340_1 => ?_) (fun c9 => by exfalso; omega)
  exact hk b1 J2 M2 hI2

set_option maxHeartbeats 20000000 in
set_option maxRecDepth 100000 in
theorem cs_value (l : Launch) (E : AX) (b : Bool) (I L : Nat → Nat → Int) (i : Int) (hi : 0 ≤ i ∧ i + 6 ≤ (E.1 : Int)) (hE : E.1 ≤ 3072) (hI : Inv (bkb b) I) (hk : ∀ b J M, Inv (bkb b) J → Rch l E 1000 174 wE 129 14022 PhiL (1190, [some (vR 1000), some (vR 0), some (vR 74), some (vI i)], [], MW b J M)) : Rch l E 1000 174 wE 129 14022 PhiL (345, [some (vR 1000), some (vR 0), some (vR 74), some (vI i)], [], MW b I L) := by
  refine rch_run cdK174 (by decide) 21 (t' := (366, [some (vR 1000), some (vR 0), some (vR 74), some (vI i)], [vI ((E.2 (i + 4).toNat).toInt), vI ((E.2 (i + 3).toNat).toInt), vI ((E.2 (i + 2).toNat).toInt), vI ((E.2 (i + 1).toNat).toInt), vR 0], MW b I L)) (ps := [i32 (i + 1), 0 ≤ i + 1 ∧ i + 1 < (E.1 : Int), i32 (i + 2), 0 ≤ i + 2 ∧ i + 2 < (E.1 : Int), i32 (i + 3), 0 ≤ i + 3 ∧ i + 3 < (E.1 : Int), i32 (i + 4), 0 ≤ i + 4 ∧ i + 4 < (E.1 : Int)]) rfl (by simp only [all_, i32, i64]; first | omega | (simp; done) | (simp; omega)) ?_
  refine rch_call (h' := 4) (k' := 67) (as := [vR 0, vI ((E.2 (i + 1).toNat).toInt), vI ((E.2 (i + 2).toNat).toInt), vI ((E.2 (i + 3).toNat).toInt), vI ((E.2 (i + 4).toNat).toInt)]) (t1 := (369, [some (vR 1000), some (vR 0), some (vR 74), some (vI i)], [], MW b I L)) cdK174 rfl (pr_value l E b I L ((E.2 (i + 1).toNat).toInt) ((E.2 (i + 2).toNat).toInt) ((E.2 (i + 3).toNat).toInt) ((E.2 (i + 4).toNat).toInt) hI) (by decide) mw_leL ?_
  rintro rt9 w9 (⟨b1, J1, M1, v1, rfl, rfl, hc1⟩) _ _
  show Rch l E 1000 174 _ _ _ _ (369, [some (vR 1000), some (vR 0), some (vR 74), some (vI i)], [vI v1], MW b1 J1 M1)
  refine rch_run cdK174 (by decide) 21 (t' := (390, [some (vR 1000), some (vR 0), some (vR 74), some (vI i)], [vI ((E.2 (i + 4).toNat).toInt), vI ((E.2 (i + 3).toNat).toInt), vI ((E.2 (i + 2).toNat).toInt), vI ((E.2 (i + 1).toNat).toInt), vR 74, vI v1], MW b1 J1 M1)) (ps := [i32 (i + 1), 0 ≤ i + 1 ∧ i + 1 < (E.1 : Int), i32 (i + 2), 0 ≤ i + 2 ∧ i + 2 < (E.1 : Int), i32 (i + 3), 0 ≤ i + 3 ∧ i + 3 < (E.1 : Int), i32 (i + 4), 0 ≤ i + 4 ∧ i + 4 < (E.1 : Int)]) rfl (by simp only [all_, i32, i64]; first | omega | (simp; done) | (simp; omega)) ?_
  refine rch_call (h' := 3) (k' := 116) (as := [vR 74, vI ((E.2 (i + 1).toNat).toInt), vI ((E.2 (i + 2).toNat).toInt), vI ((E.2 (i + 3).toNat).toInt), vI ((E.2 (i + 4).toNat).toInt)]) (t1 := (393, [some (vR 1000), some (vR 0), some (vR 74), some (vI i)], [vI v1], MW b1 J1 M1)) cdK174 rfl hc1 (by decide) mw_leL ?_
  rintro rt9 w9 (⟨J2, M2, rfl, rfl, hI2⟩) _ _
  show Rch l E 1000 174 _ _ _ _ (393, [some (vR 1000), some (vR 0), some (vR 74), some (vI i)], [vI v1, vI v1], MW b1 J2 M2)
  refine rch_br cdK174 (cd := v1 = v1) (t1 := (1190, [some (vR 1000), some (vR 0), some (vR 74), some (vI i)], [], MW b1 J2 M2)) (t2 := (396, [some (vR 1000), some (vR 0), some (vR 74), some (vI i)], [], MW b1 J2 M2)) rfl (fun c393_1 => ?_) (fun c9 => by exfalso; omega)
  exact hk b1 J2 M2 hI2

set_option maxHeartbeats 20000000 in
set_option maxRecDepth 100000 in
theorem cs_forget (l : Launch) (E : AX) (b : Bool) (I L : Nat → Nat → Int) (i : Int) (hi : 0 ≤ i ∧ i + 6 ≤ (E.1 : Int)) (hE : E.1 ≤ 3072) (hI : Inv (bkb b) I) (hk : ∀ b J M, Inv (bkb b) J → Rch l E 1000 174 wE 129 14022 PhiL (1190, [some (vR 1000), some (vR 0), some (vR 74), some (vI i)], [], MW b J M)) : Rch l E 1000 174 wE 129 14022 PhiL (398, [some (vR 1000), some (vR 0), some (vR 74), some (vI i)], [], MW b I L) := by
  refine rch_run cdK174 (by decide) 6 (t' := (404, [some (vR 1000), some (vR 0), some (vR 74), some (vI i)], [vI ((E.2 (i + 1).toNat).toInt), vR 0], MW b I L)) (ps := [i32 (i + 1), 0 ≤ i + 1 ∧ i + 1 < (E.1 : Int)]) rfl (by simp only [all_, i32, i64]; first | omega | (simp; done) | (simp; omega)) ?_
  refine rch_call (h' := 2) (k' := 68) (as := [vR 0, vI ((E.2 (i + 1).toNat).toInt)]) (t1 := (407, [some (vR 1000), some (vR 0), some (vR 74), some (vI i)], [], MW b I L)) cdK174 rfl (pr_forget l E b I L ((E.2 (i + 1).toNat).toInt) hI) (by decide) mw_leL ?_
  rintro rt9 w9 (⟨b1, J1, M1, v1, rfl, rfl, hc1⟩) _ _
  show Rch l E 1000 174 _ _ _ _ (407, [some (vR 1000), some (vR 0), some (vR 74), some (vI i)], [vI v1], MW b1 J1 M1)
  refine rch_run cdK174 (by decide) 6 (t' := (413, [some (vR 1000), some (vR 0), some (vR 74), some (vI i)], [vI ((E.2 (i + 1).toNat).toInt), vR 74, vI v1], MW b1 J1 M1)) (ps := [i32 (i + 1), 0 ≤ i + 1 ∧ i + 1 < (E.1 : Int)]) rfl (by simp only [all_, i32, i64]; first | omega | (simp; done) | (simp; omega)) ?_
  refine rch_call (h' := 2) (k' := 117) (as := [vR 74, vI ((E.2 (i + 1).toNat).toInt)]) (t1 := (416, [some (vR 1000), some (vR 0), some (vR 74), some (vI i)], [vI v1], MW b1 J1 M1)) cdK174 rfl hc1 (by decide) mw_leL ?_
  rintro rt9 w9 (⟨J2, M2, rfl, rfl, hI2⟩) _ _
  show Rch l E 1000 174 _ _ _ _ (416, [some (vR 1000), some (vR 0), some (vR 74), some (vI i)], [vI v1, vI v1], MW b1 J2 M2)
  refine rch_br cdK174 (cd := v1 = v1) (t1 := (1190, [some (vR 1000), some (vR 0), some (vR 74), some (vI i)], [], MW b1 J2 M2)) (t2 := (419, [some (vR 1000), some (vR 0), some (vR 74), some (vI i)], [], MW b1 J2 M2)) rfl (fun c416_1 => ?_) (fun c9 => by exfalso; omega)
  exact hk b1 J2 M2 hI2
