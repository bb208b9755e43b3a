set_option maxHeartbeats 20000000 in
set_option maxRecDepth 100000 in
theorem cs_fix (l : Launch) (E : AX) (b : Bool) (I L : Nat → Nat → Int) (i : Int) (hi : 0 ≤ i ∧ i + 6 ≤ (E.1 : Int)) (hE : E.1 ≤ 3072) (hI : Inv (bkb b) I) (hk : ∀ b J M, Inv (bkb b) J → Rch l E 1000 174 wE 129 14022 PhiL (1190, [some (vR 1000), some (vR 0), some (vR 74), some (vI i)], [], MW b J M)) : Rch l E 1000 174 wE 129 14022 PhiL (969, [some (vR 1000), some (vR 0), some (vR 74), some (vI i)], [], MW b I L) := by
  refine rch_run cdK174 (by decide) 16 (t' := (985, [some (vR 1000), some (vR 0), some (vR 74), some (vI i)], [vI ((E.2 (i + 3).toNat).toInt), vI ((E.2 (i + 2).toNat).toInt), vI ((E.2 (i + 1).toNat).toInt), vR 0], MW b I L)) (ps := [i32 (i + 1), 0 ≤ i + 1 ∧ i + 1 < (E.1 : Int), i32 (i + 2), 0 ≤ i + 2 ∧ i + 2 < (E.1 : Int), i32 (i + 3), 0 ≤ i + 3 ∧ i + 3 < (E.1 : Int)]) rfl (by simp only [all_, i32, i64]; first | omega | (simp; done) | (simp; omega)) ?_
  refine rch_call (h' := 2) (k' := 83) (as := [vR 0, vI ((E.2 (i + 1).toNat).toInt), vI ((E.2 (i + 2).toNat).toInt), vI ((E.2 (i + 3).toNat).toInt)]) (t1 := (988, [some (vR 1000), some (vR 0), some (vR 74), some (vI i)], [], MW b I L)) cdK174 rfl (pr_fix l E b I L ((E.2 (i + 1).toNat).toInt) ((E.2 (i + 2).toNat).toInt) ((E.2 (i + 3).toNat).toInt) hI) (by decide) mw_leL ?_
  rintro rt9 w9 (⟨b1, J1, M1, v1, rfl, rfl, hc1⟩) _ _
  show Rch l E 1000 174 _ _ _ _ (988, [some (vR 1000), some (vR 0), some (vR 74), some (vI i)], [vI v1], MW b1 J1 M1)
  refine rch_run cdK174 (by decide) 16 (t' := (1004, [some (vR 1000), some (vR 0), some (vR 74), some (vI i)], [vI ((E.2 (i + 3).toNat).toInt), vI ((E.2 (i + 2).toNat).toInt), vI ((E.2 (i + 1).toNat).toInt), vR 74, vI v1], MW b1 J1 M1)) (ps := [i32 (i + 1), 0 ≤ i + 1 ∧ i + 1 < (E.1 : Int), i32 (i + 2), 0 ≤ i + 2 ∧ i + 2 < (E.1 : Int), i32 (i + 3), 0 ≤ i + 3 ∧ i + 3 < (E.1 : Int)]) rfl (by simp only [all_, i32, i64]; first | omega | (simp; done) | (simp; omega)) ?_
  refine rch_call (h' := 2) (k' := 145) (as := [vR 74, vI ((E.2 (i + 1).toNat).toInt), vI ((E.2 (i + 2).toNat).toInt), vI ((E.2 (i + 3).toNat).toInt)]) (t1 := (1007, [some (vR 1000), some (vR 0), some (vR 74), some (vI i)], [vI v1], MW b1 J1 M1)) cdK174 rfl hc1 (by decide) mw_leL ?_
  rintro rt9 w9 (⟨J2, M2, rfl, rfl, hI2⟩) _ _
  show Rch l E 1000 174 _ _ _ _ (1007, [some (vR 1000), some (vR 0), some (vR 74), some (vI i)], [vI v1, vI v1], MW b1 J2 M2)
  refine rch_br cdK174 (cd := v1 = v1) (t1 := (1190, [some (vR 1000), some (vR 0), some (vR 74), some (vI i)], [], MW b1 J2 M2)) (t2 := (1010, [some (vR 1000), some (vR 0), some (vR 74), some (vI i)], [], MW b1 J2 M2)) rfl (fun c1007_1 => ?_) (fun c9 => by exfalso; omega)
  exact hk b1 J2 M2 hI2

set_option maxHeartbeats 20000000 in
set_option maxRecDepth 100000 in
theorem cs_unfix (l : Launch) (E : AX) (b : Bool) (I L : Nat → Nat → Int) (i : Int) (hi : 0 ≤ i ∧ i + 6 ≤ (E.1 : Int)) (hE : E.1 ≤ 3072) (hI : Inv (bkb b) I) (hk : ∀ b J M, Inv (bkb b) J → Rch l E 1000 174 wE 129 14022 PhiL (1190, [some (vR 1000), some (vR 0), some (vR 74), some (vI i)], [], MW b J M)) : Rch l E 1000 174 wE 129 14022 PhiL (1012, [some (vR 1000), some (vR 0), some (vR 74), some (vI i)], [], MW b I L) := by
  refine rch_run cdK174 (by decide) 6 (t' := (1018, [some (vR 1000), some (vR 0), some (vR 74), some (vI i)], [vI ((E.2 (i + 1).toNat).toInt), vR 0], MW b I L)) (ps := [i32 (i + 1), 0 ≤ i + 1 ∧ i + 1 < (E.1 : Int)]) rfl (by simp only [all_, i32, i64]; first | omega | (simp; done) | (simp; omega)) ?_
  refine rch_call (h' := 2) (k' := 84) (as := [vR 0, vI ((E.2 (i + 1).toNat).toInt)]) (t1 := (1021, [some (vR 1000), some (vR 0), some (vR 74), some (vI i)], [], MW b I L)) cdK174 rfl (pr_unfix l E b I L ((E.2 (i + 1).toNat).toInt) hI) (by decide) mw_leL ?_
  rintro rt9 w9 (⟨b1, J1, M1, v1, rfl, rfl, hc1⟩) _ _
  show Rch l E 1000 174 _ _ _ _ (1021, [some (vR 1000), some (vR 0), some (vR 74), some (vI i)], [vI v1], MW b1 J1 M1)
  refine rch_run cdK174 (by decide) 6 (t' := (1027, [some (vR 1000), some (vR 0), some (vR 74), some (vI i)], [vI ((E.2 (i + 1).toNat).toInt), vR 74, vI v1], MW b1 J1 M1)) (ps := [i32 (i + 1), 0 ≤ i + 1 ∧ i + 1 < (E.1 : Int)]) rfl (by simp only [all_, i32, i64]; first | omega | (simp; done) | (simp; omega)) ?_
  refine rch_call (h' := 1) (k' := 146) (as := [vR 74, vI ((E.2 (i + 1).toNat).toInt)]) (t1 := (1030, [some (vR 1000), some (vR 0), some (vR 74), some (vI i)], [vI v1], MW b1 J1 M1)) cdK174 rfl hc1 (by decide) mw_leL ?_
  rintro rt9 w9 (⟨J2, M2, rfl, rfl, hI2⟩) _ _
  show Rch l E 1000 174 _ _ _ _ (1030, [some (vR 1000), some (vR 0), some (vR 74), some (vI i)], [vI v1, vI v1], MW b1 J2 M2)
  refine rch_br cdK174 (cd := v1 = v1) (t1 := (1190, [some (vR 1000), some (vR 0), some (vR 74), some (vI i)], [], MW b1 J2 M2)) (t2 := (1033, [some (vR 1000), some (vR 0), some (vR 74), some (vI i)], [], MW b1 J2 M2)) rfl (fun c1030_1 => ?_) (fun c9 => by exfalso; omega)
  exact hk b1 J2 M2 hI2

set_option maxHeartbeats 20000000 in
set_option maxRecDepth 100000 in
theorem cs_changes (l : Launch) (E : AX) (b : Bool) (I L : Nat → Nat → Int) (i : Int) (hi : 0 ≤ i ∧ i + 6 ≤ (E.1 : Int)) (hE : E.1 ≤ 3072) (hI : Inv (bkb b) I) (hk : ∀ b J M, Inv (bkb b) J → Rch l E 1000 174 wE 129 14022 PhiL (1190, [some (vR 1000), some (vR 0), some (vR 74), some (vI i)], [], MW b J M)) : Rch l E 1000 174 wE 129 14022 PhiL (1035, [some (vR 1000), some (vR 0), some (vR 74), some (vI i)], [], MW b I L) := by
  refine rch_run cdK174 (by decide) 6 (t' := (1041, [some (vR 1000), some (vR 0), some (vR 74), some (vI i)], [vI ((E.2 (i + 1).toNat).toInt), vR 0], MW b I L)) (ps := [i32 (i + 1), 0 ≤ i + 1 ∧ i + 1 < (E.1 : Int)]) rfl (by simp only [all_, i32, i64]; first | omega | (simp; done) | (simp; omega)) ?_
  refine rch_call (h' := 7) (k' := 85) (as := [vR 0, vI ((E.2 (i + 1).toNat).toInt)]) (t1 := (1044, [some (vR 1000), some (vR 0), some (vR 74), some (vI i)], [], MW b I L)) cdK174 rfl (pr_changes l E b I L ((E.2 (i + 1).toNat).toInt) hI) (by decide) mw_leL ?_
  rintro rt9 w9 (⟨b1, J1, M1, v1, rfl, rfl, hc1⟩) _ _
  show Rch l E 1000 174 _ _ _ _ (1044, [some (vR 1000), some (vR 0), some (vR 74), some (vI i)], [vI v1], MW b1 J1 M1)
  refine rch_run cdK174 (by decide) 6 (t' := (1050, [some (vR 1000), some (vR 0), some (vR 74), some (vI i)], [vI ((E.2 (i + 1).toNat).toInt), vR 74, vI v1], MW b1 J1 M1)) (ps := [i32 (i + 1), 0 ≤ i + 1 ∧ i + 1 < (E.1 : Int)]) rfl (by simp only [all_, i32, i64]; first | omega | (simp; done) | (simp; omega)) ?_
  refine rch_call (h' := 7) (k' := 160) (as := [vR 74, vI ((E.2 (i + 1).toNat).toInt)]) (t1 := (1053, [some (vR 1000), some (vR 0), some (vR 74), some (vI i)], [vI v1], MW b1 J1 M1)) cdK174 rfl hc1 (by decide) mw_leL ?_
  rintro rt9 w9 (⟨J2, M2, rfl, rfl, hI2⟩) _ _
  show Rch l E 1000 174 _ _ _ _ (1053, [some (vR 1000), some (vR 0), some (vR 74), some (vI i)], [vI v1, vI v1], MW b1 J2 M2)
  refine rch_br cdK174 (cd := v1 = v1) (t1 := (1190, [some (vR 1000), some (vR 0), some (vR 74), some (vI i)], [], MW b1 J2 M2)) (t2 := (1056, [some (vR 1000), some (vR 0), some (vR 74), some (vI i)], [], MW b1 J2 M2)) rfl (fun c1053_1 => ?_) (fun c9 => by exfalso; omega)
  exact hk b1 J2 M2 hI2

set_option maxHeartbeats 20000000 in
set_option maxRecDepth 100000 in
theorem cs_change (l : Launch) (E : AX) (b : Bool) (I L : Nat → Nat → Int) (i : Int) (hi : 0 ≤ i ∧ i + 6 ≤ (E.1 : Int)) (hE : E.1 ≤ 3072) (hI : Inv (bkb b) I) (hk : ∀ b J M, Inv (bkb b) J → Rch l E 1000 174 wE 129 14022 PhiL (1190, [some (vR 1000), some (vR 0), some (vR 74), some (vI i)], [], MW b J M)) : Rch l E 1000 174 wE 129 14022 PhiL (1058, [some (vR 1000), some (vR 0), some (vR 74), some (vI i)], [], MW b I L) := by
  refine rch_run cdK174 (by decide) 16 (t' := (1074, [some (vR 1000), some (vR 0), some (vR 74), some (vI i)], [vI ((E.2 (i + 3).toNat).toInt), vI ((E.2 (i + 2).toNat).toInt), vI ((E.2 (i + 1).toNat).toInt), vR 0], MW b I L)) (ps := [i32 (i + 1), 0 ≤ i + 1 ∧ i + 1 < (E.1 : Int), i32 (i + 2), 0 ≤ i + 2 ∧ i + 2 < (E.1 : Int), i32 (i + 3), 0 ≤ i + 3 ∧ i + 3 < (E.1 : Int)]) rfl (by simp only [all_, i32, i64]; first | omega | (simp; done) | (simp; omega)) ?_
  refine rch_call (h' := 8) (k' := 86) (as := [vR 0, vI ((E.2 (i + 1).toNat).toInt), vI ((E.2 (i + 2).toNat).toInt), vI ((E.2 (i + 3).toNat).toInt)]) (t1 := (1077, [some (vR 1000), some (vR 0), some (vR 74), some (vI i)], [], MW b I L)) cdK174 rfl (pr_change l E b I L ((E.2 (i + 1).toNat).toInt) ((E.2 (i + 2).toNat).toInt) ((E.2 (i + 3).toNat).toInt) hI) (by decide) mw_leL ?_
  rintro rt9 w9 (⟨b1, J1, M1, v1, rfl, rfl, hc1⟩) _ _
  show Rch l E 1000 174 _ _ _ _ (1077, [some (vR 1000), some (vR 0), some (vR 74), some (vI i)], [vI v1], MW b1 J1 M1)
  refine rch_run cdK174 (by decide) 16 (t' := (1093, [some (vR 1000), some (vR 0), some (vR 74), some (vI i)], [vI ((E.2 (i + 3).toNat).toInt), vI ((E.2 (i + 2).toNat).toInt), vI ((E.2 (i + 1).toNat).toInt), vR 74, vI v1], MW b1 J1 M1)) (ps := [i32 (i + 1), 0 ≤ i + 1 ∧ i + 1 < (E.1 : Int), i32 (i + 2), 0 ≤ i + 2 ∧ i + 2 < (E.1 : Int), i32 (i + 3), 0 ≤ i + 3 ∧ i + 3 < (E.1 : Int)]) rfl (by simp only [all_, i32, i64]; first | omega | (simp; done) | (simp; omega)) ?_
  refine rch_call (h' := 8) (k' := 162) (as := [vR 74, vI ((E.2 (i + 1).toNat).toInt), vI ((E.2 (i + 2).toNat).toInt), vI ((E.2 (i + 3).toNat).toInt)]) (t1 := (1096, [some (vR 1000), some (vR 0), some (vR 74), some (vI i)], [vI v1], MW b1 J1 M1)) cdK174 rfl hc1 (by decide) mw_leL ?_
  rintro rt9 w9 (⟨J2, M2, rfl, rfl, hI2⟩) _ _
  show Rch l E 1000 174 _ _ _ _ (1096, [some (vR 1000), some (vR 0), some (vR 74), some (vI i)], [vI v1, vI v1], MW b1 J2 M2)
  refine rch_br cdK174 (cd := v1 = v1) (t1 := (1190, [some (vR 1000), some (vR 0), some (vR 74), some (vI i)], [], MW b1 J2 M2)) (t2 := (1099, [some (vR 1000), some (vR 0), some (vR 74), some (vI i)], [], MW b1 J2 M2)) rfl (fun c1096_1 => ?_) (fun c9 => by exfalso; omega)
  exact hk b1 J2 M2 hI2

set_option maxHeartbeats 20000000 in
set_option maxRecDepth 100000 in
theorem cs_accept (l : Launch) (E : AX) (b : Bool) (I L : Nat → Nat → Int) (i : Int) (hi : 0 ≤ i ∧ i + 6 ≤ (E.1 : Int)) (hE : E.1 ≤ 3072) (hI : Inv (bkb b) I) (hk : ∀ b J M, Inv (bkb b) J → Rch l E 1000 174 wE 129 14022 PhiL (1190, [some (vR 1000), some (vR 0), some (vR 74), some (vI i)], [], MW b J M)) : Rch l E 1000 174 wE 129 14022 PhiL (1101, [some (vR 1000), some (vR 0), some (vR 74), some (vI i)], [], MW b I L) := by
  refine rch_run cdK174 (by decide) 11 (t' := (1112, [some (vR 1000), some (vR 0), some (vR 74), some (vI i)], [vI ((E.2 (i + 2).toNat).toInt), vI ((E.2 (i + 1).toNat).toInt), vR 0], MW b I L)) (ps := [i32 (i + 1), 0 ≤ i + 1 ∧ i + 1 < (E.1 : Int), i32 (i + 2), 0 ≤ i + 2 ∧ i + 2 < (E.1 : Int)]) rfl (by simp only [all_, i32, i64]; first | omega | (simp; done) | (simp; omega)) ?_
  refine rch_call (h' := 8) (k' := 87) (as := [vR 0, vI ((E.2 (i + 1).toNat).toInt), vI ((E.2 (i + 2).toNat).toInt)]) (t1 := (1115, [some (vR 1000), some (vR 0), some (vR 74), some (vI i)], [], MW b I L)) cdK174 rfl (pr_accept l E b I L ((E.2 (i + 1).toNat).toInt) ((E.2 (i + 2).toNat).toInt) hI) (by decide) mw_leL ?_
  rintro rt9 w9 (⟨b1, J1, M1, v1, rfl, rfl, hc1⟩) _ _
  show Rch l E 1000 174 _ _ _ _ (1115, [some (vR 1000), some (vR 0), some (vR 74), some (vI i)], [vI v1], MW b1 J1 M1)
  refine rch_run cdK174 (by decide) 11 (t' := (1126, [some (vR 1000), some (vR 0), some (vR 74), some (vI i)], [vI ((E.2 (i + 2).toNat).toInt), vI ((E.2 (i + 1).toNat).toInt), vR 74, vI v1], MW b1 J1 M1)) (ps := [i32 (i + 1), 0 ≤ i + 1 ∧ i + 1 < (E.1 : Int), i32 (i + 2), 0 ≤ i + 2 ∧ i + 2 < (E.1 : Int)]) rfl (by simp only [all_, i32, i64]; first | omega | (simp; done) | (simp; omega)) ?_
  refine rch_call (h' := 8) (k' := 163) (as := [vR 74, vI ((E.2 (i + 1).toNat).toInt), vI ((E.2 (i + 2).toNat).toInt)]) (t1 := (1129, [some (vR 1000), some (vR 0), some (vR 74), some (vI i)], [vI v1], MW b1 J1 M1)) cdK174 rfl hc1 (by decide) mw_leL ?_
  rintro rt9 w9 (⟨J2, M2, rfl, rfl, hI2⟩) _ _
  show Rch l E 1000 174 _ _ _ _ (1129, [some (vR 1000), some (vR 0), some (vR 74), some (vI i)], [vI v1, vI v1], MW b1 J2 M2)
  refine rch_br cdK174 (cd := v1 = v1) (t1 := (1190, [some (vR 1000), some (vR 0), some (vR 74), some (vI i)], [], MW b1 J2 M2)) (t2 := (1132, [some (vR 1000), some (vR 0), some (vR 74), some (vI i)], [], MW b1 J2 M2)) rfl (fun c1129_1 => ?_) (fun c9 => by exfalso; omega)
  exact hk b1 J2 M2 hI2

set_option maxHeartbeats 20000000 in
set_option maxRecDepth 100000 in
theorem cs_refuse (l : Launch) (E : AX) (b : Bool) (I L : Nat → Nat → Int) (i : Int) (hi : 0 ≤ i ∧ i + 6 ≤ (E.1 : Int)) (hE : E.1 ≤ 3072) (hI : Inv (bkb b) I) (hk : ∀ b J M, Inv (bkb b) J → Rch l E 1000 174 wE 129 14022 PhiL (1190, [some (vR 1000), some (vR 0), some (vR 74), some (vI i)], [], MW b J M)) : Rch l E 1000 174 wE 129 14022 PhiL (1134, [some (vR 1000), some (vR 0), some (vR 74), some (vI i)], [], MW b I L) := by
  refine rch_run cdK174 (by decide) 11 (t' := (1145, [some (vR 1000), some (vR 0), some (vR 74), some (vI i)], [vI ((E.2 (i + 2).toNat).toInt), vI ((E.2 (i + 1).toNat).toInt), vR 0], MW b I L)) (ps := [i32 (i + 1), 0 ≤ i + 1 ∧ i + 1 < (E.1 : Int), i32 (i + 2), 0 ≤ i + 2 ∧ i + 2 < (E.1 : Int)]) rfl (by simp only [all_, i32, i64]; first | omega | (simp; done) | (simp; omega)) ?_
  refine rch_call (h' := 8) (k' := 88) (as := [vR 0, vI ((E.2 (i + 1).toNat).toInt), vI ((E.2 (i + 2).toNat).toInt)]) (t1 := (1148, [some (vR 1000), some (vR 0), some (vR 74), some (vI i)], [], MW b I L)) cdK174 rfl (pr_refuse l E b I L ((E.2 (i + 1).toNat).toInt) ((E.2 (i + 2).toNat).toInt) hI) (by decide) mw_leL ?_
  rintro rt9 w9 (⟨b1, J1, M1, v1, rfl, rfl, hc1⟩) _ _
  show Rch l E 1000 174 _ _ _ _ (1148, [some (vR 1000), some (vR 0), some (vR 74), some (vI i)], [vI v1], MW b1 J1 M1)
  refine rch_run cdK174 (by decide) 11 (t' := (1159, [some (vR 1000), some (vR 0), some (vR 74), some (vI i)], [vI ((E.2 (i + 2).toNat).toInt), vI ((E.2 (i + 1).toNat).toInt), vR 74, vI v1], MW b1 J1 M1)) (ps := [i32 (i + 1), 0 ≤ i + 1 ∧ i + 1 < (E.1 : Int), i32 (i + 2), 0 ≤ i + 2 ∧ i + 2 < (E.1 : Int)]) rfl (by simp only [all_, i32, i64]; first | omega | (simp; done) | (simp; omega)) ?_
  refine rch_call (h' := 8) (k' := 164) (as := [vR 74, vI ((E.2 (i + 1).toNat).toInt), vI ((E.2 (i + 2).toNat).toInt)]) (t1 := (1162, [some (vR 1000), some (vR 0), some (vR 74), some (vI i)], [vI v1], MW b1 J1 M1)) cdK174 rfl hc1 (by decide) mw_leL ?_
  rintro rt9 w9 (⟨J2, M2, rfl, rfl, hI2⟩) _ _
  show Rch l E 1000 174 _ _ _ _ (1162, [some (vR 1000), some (vR 0), some (vR 74), some (vI i)], [vI v1, vI v1], MW b1 J2 M2)
  refine rch_br cdK174 (cd := v1 = v1) (t1 := (1190, [some (vR 1000), some (vR 0), some (vR 74), some (vI i)], [], MW b1 J2 M2)) (t2 := (1165, [some (vR 1000), some (vR 0), some (vR 74), some (vI i)], [], MW b1 J2 M2)) rfl (fun c1162_1 => ?_) (fun c9 => by exfalso; omega)
  exact hk b1 J2 M2 hI2

set_option maxHeartbeats 20000000 in
set_option maxRecDepth 100000 in
theorem cs_about (l : Launch) (E : AX) (b : Bool) (I L : Nat → Nat → Int) (i : Int) (hi : 0 ≤ i ∧ i + 6 ≤ (E.1 : Int)) (hE : E.1 ≤ 3072) (hI : Inv (bkb b) I) (hk : ∀ b J M, Inv (bkb b) J → Rch l E 1000 174 wE 129 14022 PhiL (1190, [some (vR 1000), some (vR 0), some (vR 74), some (vI i)], [], MW b J M)) : Rch l E 1000 174 wE 129 14022 PhiL (1167, [some (vR 1000), some (vR 0), some (vR 74), some (vI i)], [], MW b I L) := by
  refine rch_run cdK174 (by decide) 6 (t' := (1173, [some (vR 1000), some (vR 0), some (vR 74), some (vI i)], [vI ((E.2 (i + 1).toNat).toInt), vR 0], MW b I L)) (ps := [i32 (i + 1), 0 ≤ i + 1 ∧ i + 1 < (E.1 : Int)]) rfl (by simp only [all_, i32, i64]; first | omega | (simp; done) | (simp; omega)) ?_
  refine rch_call (h' := 1) (k' := 89) (as := [vR 0, vI ((E.2 (i + 1).toNat).toInt)]) (t1 := (1176, [some (vR 1000), some (vR 0), some (vR 74), some (vI i)], [], MW b I L)) cdK174 rfl (pr_about l E b I L ((E.2 (i + 1).toNat).toInt) hI) (by decide) mw_leL ?_
  rintro rt9 w9 (⟨b1, J1, M1, v1, rfl, rfl, hc1⟩) _ _
  show Rch l E 1000 174 _ _ _ _ (1176, [some (vR 1000), some (vR 0), some (vR 74), some (vI i)], [vI v1], MW b1 J1 M1)
  refine rch_run cdK174 (by decide) 6 (t' := (1182, [some (vR 1000), some (vR 0), some (vR 74), some (vI i)], [vI ((E.2 (i + 1).toNat).toInt), vR 74, vI v1], MW b1 J1 M1)) (ps := [i32 (i + 1), 0 ≤ i + 1 ∧ i + 1 < (E.1 : Int)]) rfl (by simp only [all_, i32, i64]; first | omega | (simp; done) | (simp; omega)) ?_
  refine rch_call (h' := 1) (k' := 165) (as := [vR 74, vI ((E.2 (i + 1).toNat).toInt)]) (t1 := (1185, [some (vR 1000), some (vR 0), some (vR 74), some (vI i)], [vI v1], MW b1 J1 M1)) cdK174 rfl hc1 (by decide) mw_leL ?_
  rintro rt9 w9 (⟨J2, M2, rfl, rfl, hI2⟩) _ _
  show Rch l E 1000 174 _ _ _ _ (1185, [some (vR 1000), some (vR 0), some (vR 74), some (vI i)], [vI v1, vI v1], MW b1 J2 M2)
  refine rch_br cdK174 (cd := v1 = v1) (t1 := (1190, [some (vR 1000), some (vR 0), some (vR 74), some (vI i)], [], MW b1 J2 M2)) (t2 := (1188, [some (vR 1000), some (vR 0), some (vR 74), some (vI i)], [], MW b1 J2 M2)) rfl (fun c1185_1 => ?_) (fun c9 => by exfalso; omega)
  exact hk b1 J2 M2 hI2
