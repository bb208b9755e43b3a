set_option maxHeartbeats 20000000 in
set_option maxRecDepth 100000 in
theorem cs_unhand (l : Launch) (E : AX) (b : Bool) (I L : Nat → Nat → Int) (i : Int) (hi : 0 ≤ i ∧ i + 6 ≤ (E.1 : Int)) (hE : E.1 ≤ 3072) (hI : Inv (bkb b) I) (hk : ∀ b J M, Inv (bkb b) J → Rch l E 1000 174 wE 129 14022 PhiL (1190, [some (vR 1000), some (vR 0), some (vR 74), some (vI i)], [], MW b J M)) : Rch l E 1000 174 wE 129 14022 PhiL (678, [some (vR 1000), some (vR 0), some (vR 74), some (vI i)], [], MW b I L) := by
  refine rch_run cdK174 (by decide) 6 (t' := (684, [some (vR 1000), some (vR 0), some (vR 74), some (vI i)], [vI ((E.2 (i + 1).toNat).toInt), vR 0], MW b I L)) (ps := [i32 (i + 1), 0 ≤ i + 1 ∧ i + 1 < (E.1 : Int)]) rfl (by simp only [all_, i32, i64]; first | omega | (simp; done) | (simp; omega)) ?_
  refine rch_call (h' := 2) (k' := 76) (as := [vR 0, vI ((E.2 (i + 1).toNat).toInt)]) (t1 := (687, [some (vR 1000), some (vR 0), some (vR 74), some (vI i)], [], MW b I L)) cdK174 rfl (pr_unhand l E b I L ((E.2 (i + 1).toNat).toInt) hI) (by decide) mw_leL ?_
  rintro rt9 w9 (⟨b1, J1, M1, v1, rfl, rfl, hc1⟩) _ _
  show Rch l E 1000 174 _ _ _ _ (687, [some (vR 1000), some (vR 0), some (vR 74), some (vI i)], [vI v1], MW b1 J1 M1)
  refine rch_run cdK174 (by decide) 6 (t' := (693, [some (vR 1000), some (vR 0), some (vR 74), some (vI i)], [vI ((E.2 (i + 1).toNat).toInt), vR 74, vI v1], MW b1 J1 M1)) (ps := [i32 (i + 1), 0 ≤ i + 1 ∧ i + 1 < (E.1 : Int)]) rfl (by simp only [all_, i32, i64]; first | omega | (simp; done) | (simp; omega)) ?_
  refine rch_call (h' := 1) (k' := 144) (as := [vR 74, vI ((E.2 (i + 1).toNat).toInt)]) (t1 := (696, [some (vR 1000), some (vR 0), some (vR 74), some (vI i)], [vI v1], MW b1 J1 M1)) cdK174 rfl hc1 (by decide) mw_leL ?_
  rintro rt9 w9 (⟨J2, M2, rfl, rfl, hI2⟩) _ _
  show Rch l E 1000 174 _ _ _ _ (696, [some (vR 1000), some (vR 0), some (vR 74), some (vI i)], [vI v1, vI v1], MW b1 J2 M2)
  refine rch_br cdK174 (cd := v1 = v1) (t1 := (1190, [some (vR 1000), some (vR 0), some (vR 74), some (vI i)], [], MW b1 J2 M2)) (t2 := (699, [some (vR 1000), some (vR 0), some (vR 74), some (vI i)], [], MW b1 J2 M2)) rfl (fun c696_1 => ?_) (fun c9 => by exfalso; omega)
  exact hk b1 J2 M2 hI2

set_option maxHeartbeats 20000000 in
set_option maxRecDepth 100000 in
theorem cs_persons (l : Launch) (E : AX) (b : Bool) (I L : Nat → Nat → Int) (i : Int) (hi : 0 ≤ i ∧ i + 6 ≤ (E.1 : Int)) (hE : E.1 ≤ 3072) (hI : Inv (bkb b) I) (hk : ∀ b J M, Inv (bkb b) J → Rch l E 1000 174 wE 129 14022 PhiL (1190, [some (vR 1000), some (vR 0), some (vR 74), some (vI i)], [], MW b J M)) : Rch l E 1000 174 wE 129 14022 PhiL (701, [some (vR 1000), some (vR 0), some (vR 74), some (vI i)], [], MW b I L) := by
  refine rch_run cdK174 (by decide) 11 (t' := (712, [some (vR 1000), some (vR 0), some (vR 74), some (vI i)], [vI ((E.2 (i + 2).toNat).toInt), vI ((E.2 (i + 1).toNat).toInt), vR 0], MW b I L)) (ps := [i32 (i + 1), 0 ≤ i + 1 ∧ i + 1 < (E.1 : Int), i32 (i + 2), 0 ≤ i + 2 ∧ i + 2 < (E.1 : Int)]) rfl (by simp only [all_, i32, i64]; first | omega | (simp; done) | (simp; omega)) ?_
  refine rch_call (h' := 6) (k' := 77) (as := [vR 0, vI ((E.2 (i + 1).toNat).toInt), vI ((E.2 (i + 2).toNat).toInt)]) (t1 := (715, [some (vR 1000), some (vR 0), some (vR 74), some (vI i)], [], MW b I L)) cdK174 rfl (pr_persons l E b I L ((E.2 (i + 1).toNat).toInt) ((E.2 (i + 2).toNat).toInt) hI) (by decide) mw_leL ?_
  rintro rt9 w9 (⟨b1, J1, M1, v1, rfl, rfl, hc1⟩) _ _
  show Rch l E 1000 174 _ _ _ _ (715, [some (vR 1000), some (vR 0), some (vR 74), some (vI i)], [vI v1], MW b1 J1 M1)
  refine rch_run cdK174 (by decide) 11 (t' := (726, [some (vR 1000), some (vR 0), some (vR 74), some (vI i)], [vI ((E.2 (i + 2).toNat).toInt), vI ((E.2 (i + 1).toNat).toInt), vR 74, vI v1], MW b1 J1 M1)) (ps := [i32 (i + 1), 0 ≤ i + 1 ∧ i + 1 < (E.1 : Int), i32 (i + 2), 0 ≤ i + 2 ∧ i + 2 < (E.1 : Int)]) rfl (by simp only [all_, i32, i64]; first | omega | (simp; done) | (simp; omega)) ?_
  refine rch_call (h' := 6) (k' := 150) (as := [vR 74, vI ((E.2 (i + 1).toNat).toInt), vI ((E.2 (i + 2).toNat).toInt)]) (t1 := (729, [some (vR 1000), some (vR 0), some (vR 74), some (vI i)], [vI v1], MW b1 J1 M1)) cdK174 rfl hc1 (by decide) mw_leL ?_
  rintro rt9 w9 (⟨J2, M2, rfl, rfl, hI2⟩) _ _
  show Rch l E 1000 174 _ _ _ _ (729, [some (vR 1000), some (vR 0), some (vR 74), some (vI i)], [vI v1, vI v1], MW b1 J2 M2)
  refine rch_br cdK174 (cd := v1 = v1) (t1 := (1190, [some (vR 1000), some (vR 0), some (vR 74), some (vI i)], [], MW b1 J2 M2)) (t2 := (732, [some (vR 1000), some (vR 0), some (vR 74), some (vI i)], [], MW b1 J2 M2)) rfl (fun c729_1 => ?_) (fun c9 => by exfalso; omega)
  exact hk b1 J2 M2 hI2

set_option maxHeartbeats 20000000 in
set_option maxRecDepth 100000 in
theorem cs_worth (l : Launch) (E : AX) (b : Bool) (I L : Nat → Nat → Int) (i : Int) (hi : 0 ≤ i ∧ i + 6 ≤ (E.1 : Int)) (hE : E.1 ≤ 3072) (hI : Inv (bkb b) I) (hk : ∀ b J M, Inv (bkb b) J → Rch l E 1000 174 wE 129 14022 PhiL (1190, [some (vR 1000), some (vR 0), some (vR 74), some (vI i)], [], MW b J M)) : Rch l E 1000 174 wE 129 14022 PhiL (734, [some (vR 1000), some (vR 0), some (vR 74), some (vI i)], [], MW b I L) := by
  refine rch_run cdK174 (by decide) 11 (t' := (745, [some (vR 1000), some (vR 0), some (vR 74), some (vI i)], [vI ((E.2 (i + 2).toNat).toInt), vI ((E.2 (i + 1).toNat).toInt), vR 0], MW b I L)) (ps := [i32 (i + 1), 0 ≤ i + 1 ∧ i + 1 < (E.1 : Int), i32 (i + 2), 0 ≤ i + 2 ∧ i + 2 < (E.1 : Int)]) rfl (by simp only [all_, i32, i64]; first | omega | (simp; done) | (simp; omega)) ?_
  refine rch_call (h' := 6) (k' := 78) (as := [vR 0, vI ((E.2 (i + 1).toNat).toInt), vI ((E.2 (i + 2).toNat).toInt)]) (t1 := (748, [some (vR 1000), some (vR 0), some (vR 74), some (vI i)], [], MW b I L)) cdK174 rfl (pr_worth l E b I L ((E.2 (i + 1).toNat).toInt) ((E.2 (i + 2).toNat).toInt) hI) (by decide) mw_leL ?_
  rintro rt9 w9 (⟨b1, J1, M1, v1, rfl, rfl, hc1⟩) _ _
  show Rch l E 1000 174 _ _ _ _ (748, [some (vR 1000), some (vR 0), some (vR 74), some (vI i)], [vI v1], MW b1 J1 M1)
  refine rch_run cdK174 (by decide) 11 (t' := (759, [some (vR 1000), some (vR 0), some (vR 74), some (vI i)], [vI ((E.2 (i + 2).toNat).toInt), vI ((E.2 (i + 1).toNat).toInt), vR 74, vI v1], MW b1 J1 M1)) (ps := [i32 (i + 1), 0 ≤ i + 1 ∧ i + 1 < (E.1 : Int), i32 (i + 2), 0 ≤ i + 2 ∧ i + 2 < (E.1 : Int)]) rfl (by simp only [all_, i32, i64]; first | omega | (simp; done) | (simp; omega)) ?_
  refine rch_call (h' := 6) (k' := 151) (as := [vR 74, vI ((E.2 (i + 1).toNat).toInt), vI ((E.2 (i + 2).toNat).toInt)]) (t1 := (762, [some (vR 1000), some (vR 0), some (vR 74), some (vI i)], [vI v1], MW b1 J1 M1)) cdK174 rfl hc1 (by decide) mw_leL ?_
  rintro rt9 w9 (⟨J2, M2, rfl, rfl, hI2⟩) _ _
  show Rch l E 1000 174 _ _ _ _ (762, [some (vR 1000), some (vR 0), some (vR 74), some (vI i)], [vI v1, vI v1], MW b1 J2 M2)
  refine rch_br cdK174 (cd := v1 = v1) (t1 := (1190, [some (vR 1000), some (vR 0), some (vR 74), some (vI i)], [], MW b1 J2 M2)) (t2 := (765, [some (vR 1000), some (vR 0), some (vR 74), some (vI i)], [], MW b1 J2 M2)) rfl (fun c762_1 => ?_) (fun c9 => by exfalso; omega)
  exact hk b1 J2 M2 hI2

set_option maxHeartbeats 20000000 in
set_option maxRecDepth 100000 in
theorem cs_person (l : Launch) (E : AX) (b : Bool) (I L : Nat → Nat → Int) (i : Int) (hi : 0 ≤ i ∧ i + 6 ≤ (E.1 : Int)) (hE : E.1 ≤ 3072) (hI : Inv (bkb b) I) (hk : ∀ b J M, Inv (bkb b) J → Rch l E 1000 174 wE 129 14022 PhiL (1190, [some (vR 1000), some (vR 0), some (vR 74), some (vI i)], [], MW b J M)) : Rch l E 1000 174 wE 129 14022 PhiL (767, [some (vR 1000), some (vR 0), some (vR 74), some (vI i)], [], MW b I L) := by
  refine rch_run cdK174 (by decide) 16 (t' := (783, [some (vR 1000), some (vR 0), some (vR 74), some (vI i)], [vI ((E.2 (i + 3).toNat).toInt), vI ((E.2 (i + 2).toNat).toInt), vI ((E.2 (i + 1).toNat).toInt), vR 0], MW b I L)) (ps := [i32 (i + 1), 0 ≤ i + 1 ∧ i + 1 < (E.1 : Int), i32 (i + 2), 0 ≤ i + 2 ∧ i + 2 < (E.1 : Int), i32 (i + 3), 0 ≤ i + 3 ∧ i + 3 < (E.1 : Int)]) rfl (by simp only [all_, i32, i64]; first | omega | (simp; done) | (simp; omega)) ?_
  refine rch_call (h' := 6) (k' := 79) (as := [vR 0, vI ((E.2 (i + 1).toNat).toInt), vI ((E.2 (i + 2).toNat).toInt), vI ((E.2 (i + 3).toNat).toInt)]) (t1 := (786, [some (vR 1000), some (vR 0), some (vR 74), some (vI i)], [], MW b I L)) cdK174 rfl (pr_person l E b I L ((E.2 (i + 1).toNat).toInt) ((E.2 (i + 2).toNat).toInt) ((E.2 (i + 3).toNat).toInt) hI) (by decide) mw_leL ?_
  rintro rt9 w9 (⟨b1, J1, M1, v1, rfl, rfl, hc1⟩) _ _
  show Rch l E 1000 174 _ _ _ _ (786, [some (vR 1000), some (vR 0), some (vR 74), some (vI i)], [vI v1], MW b1 J1 M1)
  refine rch_run cdK174 (by decide) 16 (t' := (802, [some (vR 1000), some (vR 0), some (vR 74), some (vI i)], [vI ((E.2 (i + 3).toNat).toInt), vI ((E.2 (i + 2).toNat).toInt), vI ((E.2 (i + 1).toNat).toInt), vR 74, vI v1], MW b1 J1 M1)) (ps := [i32 (i + 1), 0 ≤ i + 1 ∧ i + 1 < (E.1 : Int), i32 (i + 2), 0 ≤ i + 2 ∧ i + 2 < (E.1 : Int), i32 (i + 3), 0 ≤ i + 3 ∧ i + 3 < (E.1 : Int)]) rfl (by simp only [all_, i32, i64]; first | omega | (simp; done) | (simp; omega)) ?_
  refine rch_call (h' := 6) (k' := 152) (as := [vR 74, vI ((E.2 (i + 1).toNat).toInt), vI ((E.2 (i + 2).toNat).toInt), vI ((E.2 (i + 3).toNat).toInt)]) (t1 := (805, [some (vR 1000), some (vR 0), some (vR 74), some (vI i)], [vI v1], MW b1 J1 M1)) cdK174 rfl hc1 (by decide) mw_leL ?_
  rintro rt9 w9 (⟨J2, M2, rfl, rfl, hI2⟩) _ _
  show Rch l E 1000 174 _ _ _ _ (805, [some (vR 1000), some (vR 0), some (vR 74), some (vI i)], [vI v1, vI v1], MW b1 J2 M2)
  refine rch_br cdK174 (cd := v1 = v1) (t1 := (1190, [some (vR 1000), some (vR 0), some (vR 74), some (vI i)], [], MW b1 J2 M2)) (t2 := (808, [some (vR 1000), some (vR 0), some (vR 74), some (vI i)], [], MW b1 J2 M2)) rfl (fun c805_1 => ?_) (fun c9 => by exfalso; omega)
  exact hk b1 J2 M2 hI2

set_option maxHeartbeats 20000000 in
set_option maxRecDepth 100000 in
theorem cs_golden (l : Launch) (E : AX) (b : Bool) (I L : Nat → Nat → Int) (i : Int) (hi : 0 ≤ i ∧ i + 6 ≤ (E.1 : Int)) (hE : E.1 ≤ 3072) (hI : Inv (bkb b) I) (hk : ∀ b J M, Inv (bkb b) J → Rch l E 1000 174 wE 129 14022 PhiL (1190, [some (vR 1000), some (vR 0), some (vR 74), some (vI i)], [], MW b J M)) : Rch l E 1000 174 wE 129 14022 PhiL (810, [some (vR 1000), some (vR 0), some (vR 74), some (vI i)], [], MW b I L) := by
  refine rch_run cdK174 (by decide) 21 (t' := (831, [some (vR 1000), some (vR 0), some (vR 74), some (vI i)], [vI ((E.2 (i + 4).toNat).toInt), vI ((E.2 (i + 3).toNat).toInt), vI ((E.2 (i + 2).toNat).toInt), vI ((E.2 (i + 1).toNat).toInt), vR 0], MW b I L)) (ps := [i32 (i + 1), 0 ≤ i + 1 ∧ i + 1 < (E.1 : Int), i32 (i + 2), 0 ≤ i + 2 ∧ i + 2 < (E.1 : Int), i32 (i + 3), 0 ≤ i + 3 ∧ i + 3 < (E.1 : Int), i32 (i + 4), 0 ≤ i + 4 ∧ i + 4 < (E.1 : Int)]) rfl (by simp only [all_, i32, i64]; first | omega | (simp; done) | (simp; omega)) ?_
  refine rch_call (h' := 7) (k' := 80) (as := [vR 0, vI ((E.2 (i + 1).toNat).toInt), vI ((E.2 (i + 2).toNat).toInt), vI ((E.2 (i + 3).toNat).toInt), vI ((E.2 (i + 4).toNat).toInt)]) (t1 := (834, [some (vR 1000), some (vR 0), some (vR 74), some (vI i)], [], MW b I L)) cdK174 rfl (pr_golden l E b I L ((E.2 (i + 1).toNat).toInt) ((E.2 (i + 2).toNat).toInt) ((E.2 (i + 3).toNat).toInt) ((E.2 (i + 4).toNat).toInt) hI (i32_of _)) (by decide) mw_leL ?_
  rintro rt9 w9 (⟨b1, J1, M1, v1, rfl, rfl, hc1⟩) _ _
  show Rch l E 1000 174 _ _ _ _ (834, [some (vR 1000), some (vR 0), some (vR 74), some (vI i)], [vI v1], MW b1 J1 M1)
  refine rch_run cdK174 (by decide) 21 (t' := (855, [some (vR 1000), some (vR 0), some (vR 74), some (vI i)], [vI ((E.2 (i + 4).toNat).toInt), vI ((E.2 (i + 3).toNat).toInt), vI ((E.2 (i + 2).toNat).toInt), vI ((E.2 (i + 1).toNat).toInt), vR 74, vI v1], MW b1 J1 M1)) (ps := [i32 (i + 1), 0 ≤ i + 1 ∧ i + 1 < (E.1 : Int), i32 (i + 2), 0 ≤ i + 2 ∧ i + 2 < (E.1 : Int), i32 (i + 3), 0 ≤ i + 3 ∧ i + 3 < (E.1 : Int), i32 (i + 4), 0 ≤ i + 4 ∧ i + 4 < (E.1 : Int)]) rfl (by simp only [all_, i32, i64]; first | omega | (simp; done) | (simp; omega)) ?_
  refine rch_call (h' := 7) (k' := 155) (as := [vR 74, vI ((E.2 (i + 1).toNat).toInt), vI ((E.2 (i + 2).toNat).toInt), vI ((E.2 (i + 3).toNat).toInt), vI ((E.2 (i + 4).toNat).toInt)]) (t1 := (858, [some (vR 1000), some (vR 0), some (vR 74), some (vI i)], [vI v1], MW b1 J1 M1)) cdK174 rfl hc1 (by decide) mw_leL ?_
  rintro rt9 w9 (⟨J2, M2, rfl, rfl, hI2⟩) _ _
  show Rch l E 1000 174 _ _ _ _ (858, [some (vR 1000), some (vR 0), some (vR 74), some (vI i)], [vI v1, vI v1], MW b1 J2 M2)
  refine rch_br cdK174 (cd := v1 = v1) (t1 := (1190, [some (vR 1000), some (vR 0), some (vR 74), some (vI i)], [], MW b1 J2 M2)) (t2 := (861, [some (vR 1000), some (vR 0), some (vR 74), some (vI i)], [], MW b1 J2 M2)) rfl (fun c858_1 => ?_) (fun c9 => by exfalso; omega)
  exact hk b1 J2 M2 hI2

set_option maxHeartbeats 20000000 in
set_option maxRecDepth 100000 in
theorem cs_from (l : Launch) (E : AX) (b : Bool) (I L : Nat → Nat → Int) (i : Int) (hi : 0 ≤ i ∧ i + 6 ≤ (E.1 : Int)) (hE : E.1 ≤ 3072) (hI : Inv (bkb b) I) (hk : ∀ b J M, Inv (bkb b) J → Rch l E 1000 174 wE 129 14022 PhiL (1190, [some (vR 1000), some (vR 0), some (vR 74), some (vI i)], [], MW b J M)) : Rch l E 1000 174 wE 129 14022 PhiL (863, [some (vR 1000), some (vR 0), some (vR 74), some (vI i)], [], MW b I L) := by
  refine rch_run cdK174 (by decide) 21 (t' := (884, [some (vR 1000), some (vR 0), some (vR 74), some (vI i)], [vI ((E.2 (i + 4).toNat).toInt), vI ((E.2 (i + 3).toNat).toInt), vI ((E.2 (i + 2).toNat).toInt), vI ((E.2 (i + 1).toNat).toInt), vR 0], MW b I L)) (ps := [i32 (i + 1), 0 ≤ i + 1 ∧ i + 1 < (E.1 : Int), i32 (i + 2), 0 ≤ i + 2 ∧ i + 2 < (E.1 : Int), i32 (i + 3), 0 ≤ i + 3 ∧ i + 3 < (E.1 : Int), i32 (i + 4), 0 ≤ i + 4 ∧ i + 4 < (E.1 : Int)]) rfl (by simp only [all_, i32, i64]; first | omega | (simp; done) | (simp; omega)) ?_
  refine rch_call (h' := 7) (k' := 81) (as := [vR 0, vI ((E.2 (i + 1).toNat).toInt), vI ((E.2 (i + 2).toNat).toInt), vI ((E.2 (i + 3).toNat).toInt), vI ((E.2 (i + 4).toNat).toInt)]) (t1 := (887, [some (vR 1000), some (vR 0), some (vR 74), some (vI i)], [], MW b I L)) cdK174 rfl (pr_from l E b I L ((E.2 (i + 1).toNat).toInt) ((E.2 (i + 2).toNat).toInt) ((E.2 (i + 3).toNat).toInt) ((E.2 (i + 4).toNat).toInt) hI (i32_of _)) (by decide) mw_leL ?_
  rintro rt9 w9 (⟨b1, J1, M1, v1, rfl, rfl, hc1⟩) _ _
  show Rch l E 1000 174 _ _ _ _ (887, [some (vR 1000), some (vR 0), some (vR 74), some (vI i)], [vI v1], MW b1 J1 M1)
  refine rch_run cdK174 (by decide) 21 (t' := (908, [some (vR 1000), some (vR 0), some (vR 74), some (vI i)], [vI ((E.2 (i + 4).toNat).toInt), vI ((E.2 (i + 3).toNat).toInt), vI ((E.2 (i + 2).toNat).toInt), vI ((E.2 (i + 1).toNat).toInt), vR 74, vI v1], MW b1 J1 M1)) (ps := [i32 (i + 1), 0 ≤ i + 1 ∧ i + 1 < (E.1 : Int), i32 (i + 2), 0 ≤ i + 2 ∧ i + 2 < (E.1 : Int), i32 (i + 3), 0 ≤ i + 3 ∧ i + 3 < (E.1 : Int), i32 (i + 4), 0 ≤ i + 4 ∧ i + 4 < (E.1 : Int)]) rfl (by simp only [all_, i32, i64]; first | omega | (simp; done) | (simp; omega)) ?_
  refine rch_call (h' := 7) (k' := 156) (as := [vR 74, vI ((E.2 (i + 1).toNat).toInt), vI ((E.2 (i + 2).toNat).toInt), vI ((E.2 (i + 3).toNat).toInt), vI ((E.2 (i + 4).toNat).toInt)]) (t1 := (911, [some (vR 1000), some (vR 0), some (vR 74), some (vI i)], [vI v1], MW b1 J1 M1)) cdK174 rfl hc1 (by decide) mw_leL ?_
  rintro rt9 w9 (⟨J2, M2, rfl, rfl, hI2⟩) _ _
  show Rch l E 1000 174 _ _ _ _ (911, [some (vR 1000), some (vR 0), some (vR 74), some (vI i)], [vI v1, vI v1], MW b1 J2 M2)
  refine rch_br cdK174 (cd := v1 = v1) (t1 := (1190, [some (vR 1000), some (vR 0), some (vR 74), some (vI i)], [], MW b1 J2 M2)) (t2 := (914, [some (vR 1000), some (vR 0), some (vR 74), some (vI i)], [], MW b1 J2 M2)) rfl (fun c911_1 => ?_) (fun c9 => by exfalso; omega)
  exact hk b1 J2 M2 hI2

set_option maxHeartbeats 20000000 in
set_option maxRecDepth 100000 in
theorem cs_torn (l : Launch) (E : AX) (b : Bool) (I L : Nat → Nat → Int) (i : Int) (hi : 0 ≤ i ∧ i + 6 ≤ (E.1 : Int)) (hE : E.1 ≤ 3072) (hI : Inv (bkb b) I) (hk : ∀ b J M, Inv (bkb b) J → Rch l E 1000 174 wE 129 14022 PhiL (1190, [some (vR 1000), some (vR 0), some (vR 74), some (vI i)], [], MW b J M)) : Rch l E 1000 174 wE 129 14022 PhiL (916, [some (vR 1000), some (vR 0), some (vR 74), some (vI i)], [], MW b I L) := by
  refine rch_run cdK174 (by decide) 21 (t' := (937, [some (vR 1000), some (vR 0), some (vR 74), some (vI i)], [vI ((E.2 (i + 4).toNat).toInt), vI ((E.2 (i + 3).toNat).toInt), vI ((E.2 (i + 2).toNat).toInt), vI ((E.2 (i + 1).toNat).toInt), vR 0], MW b I L)) (ps := [i32 (i + 1), 0 ≤ i + 1 ∧ i + 1 < (E.1 : Int), i32 (i + 2), 0 ≤ i + 2 ∧ i + 2 < (E.1 : Int), i32 (i + 3), 0 ≤ i + 3 ∧ i + 3 < (E.1 : Int), i32 (i + 4), 0 ≤ i + 4 ∧ i + 4 < (E.1 : Int)]) rfl (by simp only [all_, i32, i64]; first | omega | (simp; done) | (simp; omega)) ?_
  refine rch_call (h' := 7) (k' := 82) (as := [vR 0, vI ((E.2 (i + 1).toNat).toInt), vI ((E.2 (i + 2).toNat).toInt), vI ((E.2 (i + 3).toNat).toInt), vI ((E.2 (i + 4).toNat).toInt)]) (t1 := (940, [some (vR 1000), some (vR 0), some (vR 74), some (vI i)], [], MW b I L)) cdK174 rfl (pr_torn l E b I L ((E.2 (i + 1).toNat).toInt) ((E.2 (i + 2).toNat).toInt) ((E.2 (i + 3).toNat).toInt) ((E.2 (i + 4).toNat).toInt) hI (i32_of _)) (by decide) mw_leL ?_
  rintro rt9 w9 (⟨b1, J1, M1, v1, rfl, rfl, hc1⟩) _ _
  show Rch l E 1000 174 _ _ _ _ (940, [some (vR 1000), some (vR 0), some (vR 74), some (vI i)], [vI v1], MW b1 J1 M1)
  refine rch_run cdK174 (by decide) 21 (t' := (961, [some (vR 1000), some (vR 0), some (vR 74), some (vI i)], [vI ((E.2 (i + 4).toNat).toInt), vI ((E.2 (i + 3).toNat).toInt), vI ((E.2 (i + 2).toNat).toInt), vI ((E.2 (i + 1).toNat).toInt), vR 74, vI v1], MW b1 J1 M1)) (ps := [i32 (i + 1), 0 ≤ i + 1 ∧ i + 1 < (E.1 : Int), i32 (i + 2), 0 ≤ i + 2 ∧ i + 2 < (E.1 : Int), i32 (i + 3), 0 ≤ i + 3 ∧ i + 3 < (E.1 : Int), i32 (i + 4), 0 ≤ i + 4 ∧ i + 4 < (E.1 : Int)]) rfl (by simp only [all_, i32, i64]; first | omega | (simp; done) | (simp; omega)) ?_
  refine rch_call (h' := 7) (k' := 157) (as := [vR 74, vI ((E.2 (i + 1).toNat).toInt), vI ((E.2 (i + 2).toNat).toInt), vI ((E.2 (i + 3).toNat).toInt), vI ((E.2 (i + 4).toNat).toInt)]) (t1 := (964, [some (vR 1000), some (vR 0), some (vR 74), some (vI i)], [vI v1], MW b1 J1 M1)) cdK174 rfl hc1 (by decide) mw_leL ?_
  rintro rt9 w9 (⟨J2, M2, rfl, rfl, hI2⟩) _ _
  show Rch l E 1000 174 _ _ _ _ (964, [some (vR 1000), some (vR 0), some (vR 74), some (vI i)], [vI v1, vI v1], MW b1 J2 M2)
  refine rch_br cdK174 (cd := v1 = v1) (t1 := (1190, [some (vR 1000), some (vR 0), some (vR 74), some (vI i)], [], MW b1 J2 M2)) (t2 := (967, [some (vR 1000), some (vR 0), some (vR 74), some (vI i)], [], MW b1 J2 M2)) rfl (fun c964_1 => ?_) (fun c9 => by exfalso; omega)
  exact hk b1 J2 M2 hI2
