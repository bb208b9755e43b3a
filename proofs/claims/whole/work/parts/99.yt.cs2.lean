set_option maxHeartbeats 20000000 in
set_option maxRecDepth 100000 in
theorem cs_later (l : Launch) (E : AX) (b : Bool) (I L : Nat → Nat → Int) (i : Int) (hi : 0 ≤ i ∧ i + 6 ≤ (E.1 : Int)) (hE : E.1 ≤ 3072) (hI : Inv (bkb b) I) (hk : ∀ b J M, Inv (bkb b) J → Rch l E 1000 174 wE 129 14022 PhiL (1190, [some (vR 1000), some (vR 0), some (vR 74), some (vI i)], [], MW b J M)) : Rch l E 1000 174 wE 129 14022 PhiL (421, [some (vR 1000), some (vR 0), some (vR 74), some (vI i)], [], MW b I L) := by
  refine rch_run cdK174 (by decide) 6 (t' := (427, [some (vR 1000), some (vR 0), some (vR 74), some (vI i)], [vI ((E.2 (i + 1).toNat).toInt), vR 0], MW b I L)) (ps := [i32 (i + 1), 0 ≤ i + 1 ∧ i + 1 < (E.1 : Int)]) rfl (by simp only [all_, i32, i64]; first | omega | (simp; done) | (simp; omega)) ?_
  refine rch_call (h' := 1) (k' := 69) (as := [vR 0, vI ((E.2 (i + 1).toNat).toInt)]) (t1 := (430, [some (vR 1000), some (vR 0), some (vR 74), some (vI i)], [], MW b I L)) cdK174 rfl (pr_later l E b I L ((E.2 (i + 1).toNat).toInt) hI) (by decide) mw_leL ?_
  rintro rt9 w9 (⟨b1, J1, M1, v1, rfl, rfl, hc1⟩) _ _
  show Rch l E 1000 174 _ _ _ _ (430, [some (vR 1000), some (vR 0), some (vR 74), some (vI i)], [vI v1], MW b1 J1 M1)
  refine rch_run cdK174 (by decide) 6 (t' := (436, [some (vR 1000), some (vR 0), some (vR 74), some (vI i)], [vI ((E.2 (i + 1).toNat).toInt), vR 74, vI v1], MW b1 J1 M1)) (ps := [i32 (i + 1), 0 ≤ i + 1 ∧ i + 1 < (E.1 : Int)]) rfl (by simp only [all_, i32, i64]; first | omega | (simp; done) | (simp; omega)) ?_
  refine rch_call (h' := 1) (k' := 118) (as := [vR 74, vI ((E.2 (i + 1).toNat).toInt)]) (t1 := (439, [some (vR 1000), some (vR 0), some (vR 74), some (vI i)], [vI v1], MW b1 J1 M1)) cdK174 rfl hc1 (by decide) mw_leL ?_
  rintro rt9 w9 (⟨J2, M2, rfl, rfl, hI2⟩) _ _
  show Rch l E 1000 174 _ _ _ _ (439, [some (vR 1000), some (vR 0), some (vR 74), some (vI i)], [vI v1, vI v1], MW b1 J2 M2)
  refine rch_br cdK174 (cd := v1 = v1) (t1 := (1190, [some (vR 1000), some (vR 0), some (vR 74), some (vI i)], [], MW b1 J2 M2)) (t2 := (442, [some (vR 1000), some (vR 0), some (vR 74), some (vI i)], [], MW b1 J2 M2)) rfl (fun c439_1 => ?_) (fun c9 => by exfalso; omega)
  exact hk b1 J2 M2 hI2

set_option maxHeartbeats 20000000 in
set_option maxRecDepth 100000 in
theorem cs_feed (l : Launch) (E : AX) (b : Bool) (I L : Nat → Nat → Int) (i : Int) (hi : 0 ≤ i ∧ i + 6 ≤ (E.1 : Int)) (hE : E.1 ≤ 3072) (hI : Inv (bkb b) I) (hk : ∀ b J M, Inv (bkb b) J → Rch l E 1000 174 wE 129 14022 PhiL (1190, [some (vR 1000), some (vR 0), some (vR 74), some (vI i)], [], MW b J M)) : Rch l E 1000 174 wE 129 14022 PhiL (444, [some (vR 1000), some (vR 0), some (vR 74), some (vI i)], [], MW b I L) := by
  refine rch_run cdK174 (by decide) 25 (t' := (469, [some (vR 1000), some (vR 0), some (vR 74), some (vI i)], [vI (i + 5), vR 1000, vI ((E.2 (i + 4).toNat).toInt), vI ((E.2 (i + 3).toNat).toInt), vI ((E.2 (i + 2).toNat).toInt), vI ((E.2 (i + 1).toNat).toInt), vR 0], MW b I L)) (ps := [i32 (i + 1), 0 ≤ i + 1 ∧ i + 1 < (E.1 : Int), i32 (i + 2), 0 ≤ i + 2 ∧ i + 2 < (E.1 : Int), i32 (i + 3), 0 ≤ i + 3 ∧ i + 3 < (E.1 : Int), i32 (i + 4), 0 ≤ i + 4 ∧ i + 4 < (E.1 : Int), i32 (i + 5)]) rfl (by simp only [all_, i32, i64]; first | omega | (simp; done) | (simp; omega)) ?_
  refine rch_run cdK174 (by decide) 1 (t' := (470, [some (vR 1000), some (vR 0), some (vR 74), some (vI i)], [vI ((E.2 (i + 5).toNat).toInt), vI ((E.2 (i + 4).toNat).toInt), vI ((E.2 (i + 3).toNat).toInt), vI ((E.2 (i + 2).toNat).toInt), vI ((E.2 (i + 1).toNat).toInt), vR 0], MW b I L)) (ps := [0 ≤ i + 5 ∧ i + 5 < (E.1 : Int)]) rfl (by simp only [all_, i32, i64]; first | omega | (simp; done) | (simp; omega)) ?_
  refine rch_call (h' := 3) (k' := 70) (as := [vR 0, vI ((E.2 (i + 1).toNat).toInt), vI ((E.2 (i + 2).toNat).toInt), vI ((E.2 (i + 3).toNat).toInt), vI ((E.2 (i + 4).toNat).toInt), vI ((E.2 (i + 5).toNat).toInt)]) (t1 := (473, [some (vR 1000), some (vR 0), some (vR 74), some (vI i)], [], MW b I L)) cdK174 rfl (pr_feed l E b I L ((E.2 (i + 1).toNat).toInt) ((E.2 (i + 2).toNat).toInt) ((E.2 (i + 3).toNat).toInt) ((E.2 (i + 4).toNat).toInt) ((E.2 (i + 5).toNat).toInt) hI) (by decide) mw_leL ?_
  rintro rt9 w9 (⟨b1, J1, M1, v1, rfl, rfl, hc1⟩) _ _
  show Rch l E 1000 174 _ _ _ _ (473, [some (vR 1000), some (vR 0), some (vR 74), some (vI i)], [vI v1], MW b1 J1 M1)
  refine rch_run cdK174 (by decide) 25 (t' := (498, [some (vR 1000), some (vR 0), some (vR 74), some (vI i)], [vI (i + 5), vR 1000, vI ((E.2 (i + 4).toNat).toInt), vI ((E.2 (i + 3).toNat).toInt), vI ((E.2 (i + 2).toNat).toInt), vI ((E.2 (i + 1).toNat).toInt), vR 74, vI v1], MW b1 J1 M1)) (ps := [i32 (i + 1), 0 ≤ i + 1 ∧ i + 1 < (E.1 : Int), i32 (i + 2), 0 ≤ i + 2 ∧ i + 2 < (E.1 : Int), i32 (i + 3), 0 ≤ i + 3 ∧ i + 3 < (E.1 : Int), i32 (i + 4), 0 ≤ i + 4 ∧ i + 4 < (E.1 : Int), i32 (i + 5)]) rfl (by simp only [all_, i32, i64]; first | omega | (simp; done) | (simp; omega)) ?_
  refine rch_run cdK174 (by decide) 1 (t' := (499, [some (vR 1000), some (vR 0), some (vR 74), some (vI i)], [vI ((E.2 (i + 5).toNat).toInt), vI ((E.2 (i + 4).toNat).toInt), vI ((E.2 (i + 3).toNat).toInt), vI ((E.2 (i + 2).toNat).toInt), vI ((E.2 (i + 1).toNat).toInt), vR 74, vI v1], MW b1 J1 M1)) (ps := [0 ≤ i + 5 ∧ i + 5 < (E.1 : Int)]) rfl (by simp only [all_, i32, i64]; first | omega | (simp; done) | (simp; omega)) ?_
  refine rch_call (h' := 2) (k' := 119) (as := [vR 74, vI ((E.2 (i + 1).toNat).toInt), vI ((E.2 (i + 2).toNat).toInt), vI ((E.2 (i + 3).toNat).toInt), vI ((E.2 (i + 4).toNat).toInt), vI ((E.2 (i + 5).toNat).toInt)]) (t1 := (502, [some (vR 1000), some (vR 0), some (vR 74), some (vI i)], [vI v1], MW b1 J1 M1)) cdK174 rfl hc1 (by decide) mw_leL ?_
  rintro rt9 w9 (⟨J2, M2, rfl, rfl, hI2⟩) _ _
  show Rch l E 1000 174 _ _ _ _ (502, [some (vR 1000), some (vR 0), some (vR 74), some (vI i)], [vI v1, vI v1], MW b1 J2 M2)
  refine rch_br cdK174 (cd := v1 = v1) (t1 := (1190, [some (vR 1000), some (vR 0), some (vR 74), some (vI i)], [], MW b1 J2 M2)) (t2 := (505, [some (vR 1000), some (vR 0), some (vR 74), some (vI i)], [], MW b1 J2 M2)) rfl (fun c502_1 => ?_) (fun c9 => by exfalso; omega)
  exact hk b1 J2 M2 hI2

set_option maxHeartbeats 20000000 in
set_option maxRecDepth 100000 in
theorem cs_end (l : Launch) (E : AX) (b : Bool) (I L : Nat → Nat → Int) (i : Int) (hi : 0 ≤ i ∧ i + 6 ≤ (E.1 : Int)) (hE : E.1 ≤ 3072) (hI : Inv (bkb b) I) (hk : ∀ b J M, Inv (bkb b) J → Rch l E 1000 174 wE 129 14022 PhiL (1190, [some (vR 1000), some (vR 0), some (vR 74), some (vI i)], [], MW b J M)) : Rch l E 1000 174 wE 129 14022 PhiL (507, [some (vR 1000), some (vR 0), some (vR 74), some (vI i)], [], MW b I L) := by
  refine rch_run cdK174 (by decide) 6 (t' := (513, [some (vR 1000), some (vR 0), some (vR 74), some (vI i)], [vI ((E.2 (i + 1).toNat).toInt), vR 0], MW b I L)) (ps := [i32 (i + 1), 0 ≤ i + 1 ∧ i + 1 < (E.1 : Int)]) rfl (by simp only [all_, i32, i64]; first | omega | (simp; done) | (simp; omega)) ?_
  refine rch_call (h' := 1) (k' := 71) (as := [vR 0, vI ((E.2 (i + 1).toNat).toInt)]) (t1 := (516, [some (vR 1000), some (vR 0), some (vR 74), some (vI i)], [], MW b I L)) cdK174 rfl (pr_end l E b I L ((E.2 (i + 1).toNat).toInt) hI) (by decide) mw_leL ?_
  rintro rt9 w9 (⟨b1, J1, M1, v1, rfl, rfl, hc1⟩) _ _
  show Rch l E 1000 174 _ _ _ _ (516, [some (vR 1000), some (vR 0), some (vR 74), some (vI i)], [vI v1], MW b1 J1 M1)
  refine rch_run cdK174 (by decide) 6 (t' := (522, [some (vR 1000), some (vR 0), some (vR 74), some (vI i)], [vI ((E.2 (i + 1).toNat).toInt), vR 74, vI v1], MW b1 J1 M1)) (ps := [i32 (i + 1), 0 ≤ i + 1 ∧ i + 1 < (E.1 : Int)]) rfl (by simp only [all_, i32, i64]; first | omega | (simp; done) | (simp; omega)) ?_
  refine rch_call (h' := 1) (k' := 121) (as := [vR 74, vI ((E.2 (i + 1).toNat).toInt)]) (t1 := (525, [some (vR 1000), some (vR 0), some (vR 74), some (vI i)], [vI v1], MW b1 J1 M1)) cdK174 rfl hc1 (by decide) mw_leL ?_
  rintro rt9 w9 (⟨J2, M2, rfl, rfl, hI2⟩) _ _
  show Rch l E 1000 174 _ _ _ _ (525, [some (vR 1000), some (vR 0), some (vR 74), some (vI i)], [vI v1, vI v1], MW b1 J2 M2)
  refine rch_br cdK174 (cd := v1 = v1) (t1 := (1190, [some (vR 1000), some (vR 0), some (vR 74), some (vI i)], [], MW b1 J2 M2)) (t2 := (528, [some (vR 1000), some (vR 0), some (vR 74), some (vI i)], [], MW b1 J2 M2)) rfl (fun c525_1 => ?_) (fun c9 => by exfalso; omega)
  exact hk b1 J2 M2 hI2

set_option maxHeartbeats 20000000 in
set_option maxRecDepth 100000 in
theorem cs_rules (l : Launch) (E : AX) (b : Bool) (I L : Nat → Nat → Int) (i : Int) (hi : 0 ≤ i ∧ i + 6 ≤ (E.1 : Int)) (hE : E.1 ≤ 3072) (hI : Inv (bkb b) I) (hk : ∀ b J M, Inv (bkb b) J → Rch l E 1000 174 wE 129 14022 PhiL (1190, [some (vR 1000), some (vR 0), some (vR 74), some (vI i)], [], MW b J M)) : Rch l E 1000 174 wE 129 14022 PhiL (530, [some (vR 1000), some (vR 0), some (vR 74), some (vI i)], [], MW b I L) := by
  refine rch_run cdK174 (by decide) 1 (t' := (531, [some (vR 1000), some (vR 0), some (vR 74), some (vI i)], [vR 0], MW b I L)) (ps := []) rfl trivial ?_
  refine rch_call (h' := 27) (k' := 72) (as := [vR 0]) (t1 := (534, [some (vR 1000), some (vR 0), some (vR 74), some (vI i)], [], MW b I L)) cdK174 rfl (pr_rules l E b I L  hI) (by decide) mw_leL ?_
  rintro rt9 w9 (⟨b1, J1, M1, v1, rfl, rfl, hc1⟩) _ _
  show Rch l E 1000 174 _ _ _ _ (534, [some (vR 1000), some (vR 0), some (vR 74), some (vI i)], [vI v1], MW b1 J1 M1)
  refine rch_run cdK174 (by decide) 1 (t' := (535, [some (vR 1000), some (vR 0), some (vR 74), some (vI i)], [vR 74, vI v1], MW b1 J1 M1)) (ps := []) rfl trivial ?_
  refine rch_call (h' := 7) (k' := 137) (as := [vR 74]) (t1 := (538, [some (vR 1000), some (vR 0), some (vR 74), some (vI i)], [vI v1], MW b1 J1 M1)) cdK174 rfl hc1 (by decide) mw_leL ?_
  rintro rt9 w9 (⟨J2, M2, rfl, rfl, hI2⟩) _ _
  show Rch l E 1000 174 _ _ _ _ (538, [some (vR 1000), some (vR 0), some (vR 74), some (vI i)], [vI v1, vI v1], MW b1 J2 M2)
  refine rch_br cdK174 (cd := v1 = v1) (t1 := (1190, [some (vR 1000), some (vR 0), some (vR 74), some (vI i)], [], MW b1 J2 M2)) (t2 := (541, [some (vR 1000), some (vR 0), some (vR 74), some (vI i)], [], MW b1 J2 M2)) rfl (fun c538_1 => ?_) (fun c9 => by exfalso; omega)
  exact hk b1 J2 M2 hI2

set_option maxHeartbeats 20000000 in
set_option maxRecDepth 100000 in
theorem cs_fault (l : Launch) (E : AX) (b : Bool) (I L : Nat → Nat → Int) (i : Int) (hi : 0 ≤ i ∧ i + 6 ≤ (E.1 : Int)) (hE : E.1 ≤ 3072) (hI : Inv (bkb b) I) (hk : ∀ b J M, Inv (bkb b) J → Rch l E 1000 174 wE 129 14022 PhiL (1190, [some (vR 1000), some (vR 0), some (vR 74), some (vI i)], [], MW b J M)) : Rch l E 1000 174 wE 129 14022 PhiL (543, [some (vR 1000), some (vR 0), some (vR 74), some (vI i)], [], MW b I L) := by
  refine rch_run cdK174 (by decide) 6 (t' := (549, [some (vR 1000), some (vR 0), some (vR 74), some (vI i)], [vI ((E.2 (i + 1).toNat).toInt), vR 0], MW b I L)) (ps := [i32 (i + 1), 0 ≤ i + 1 ∧ i + 1 < (E.1 : Int)]) rfl (by simp only [all_, i32, i64]; first | omega | (simp; done) | (simp; omega)) ?_
  refine rch_call (h' := 1) (k' := 73) (as := [vR 0, vI ((E.2 (i + 1).toNat).toInt)]) (t1 := (552, [some (vR 1000), some (vR 0), some (vR 74), some (vI i)], [], MW b I L)) cdK174 rfl (pr_fault l E b I L ((E.2 (i + 1).toNat).toInt) hI) (by decide) mw_leL ?_
  rintro rt9 w9 (⟨b1, J1, M1, v1, rfl, rfl, hc1⟩) _ _
  show Rch l E 1000 174 _ _ _ _ (552, [some (vR 1000), some (vR 0), some (vR 74), some (vI i)], [vI v1], MW b1 J1 M1)
  refine rch_run cdK174 (by decide) 6 (t' := (558, [some (vR 1000), some (vR 0), some (vR 74), some (vI i)], [vI ((E.2 (i + 1).toNat).toInt), vR 74, vI v1], MW b1 J1 M1)) (ps := [i32 (i + 1), 0 ≤ i + 1 ∧ i + 1 < (E.1 : Int)]) rfl (by simp only [all_, i32, i64]; first | omega | (simp; done) | (simp; omega)) ?_
  refine rch_call (h' := 1) (k' := 138) (as := [vR 74, vI ((E.2 (i + 1).toNat).toInt)]) (t1 := (561, [some (vR 1000), some (vR 0), some (vR 74), some (vI i)], [vI v1], MW b1 J1 M1)) cdK174 rfl hc1 (by decide) mw_leL ?_
  rintro rt9 w9 (⟨J2, M2, rfl, rfl, hI2⟩) _ _
  show Rch l E 1000 174 _ _ _ _ (561, [some (vR 1000), some (vR 0), some (vR 74), some (vI i)], [vI v1, vI v1], MW b1 J2 M2)
  refine rch_br cdK174 (cd := v1 = v1) (t1 := (1190, [some (vR 1000), some (vR 0), some (vR 74), some (vI i)], [], MW b1 J2 M2)) (t2 := (564, [some (vR 1000), some (vR 0), some (vR 74), some (vI i)], [], MW b1 J2 M2)) rfl (fun c561_1 => ?_) (fun c9 => by exfalso; omega)
  exact hk b1 J2 M2 hI2

set_option maxHeartbeats 20000000 in
set_option maxRecDepth 100000 in
theorem cs_score (l : Launch) (E : AX) (b : Bool) (I L : Nat → Nat → Int) (i : Int) (hi : 0 ≤ i ∧ i + 6 ≤ (E.1 : Int)) (hE : E.1 ≤ 3072) (hI : Inv (bkb b) I) (hk : ∀ b J M, Inv (bkb b) J → Rch l E 1000 174 wE 129 14022 PhiL (1190, [some (vR 1000), some (vR 0), some (vR 74), some (vI i)], [], MW b J M)) : Rch l E 1000 174 wE 129 14022 PhiL (566, [some (vR 1000), some (vR 0), some (vR 74), some (vI i)], [], MW b I L) := by
  refine rch_run cdK174 (by decide) 21 (t' := (587, [some (vR 1000), some (vR 0), some (vR 74), some (vI i)], [vI ((E.2 (i + 4).toNat).toInt), vI ((E.2 (i + 3).toNat).toInt), vI ((E.2 (i + 2).toNat).toInt), vI ((E.2 (i + 1).toNat).toInt), vR 0], MW b I L)) (ps := [i32 (i + 1), 0 ≤ i + 1 ∧ i + 1 < (E.1 : Int), i32 (i + 2), 0 ≤ i + 2 ∧ i + 2 < (E.1 : Int), i32 (i + 3), 0 ≤ i + 3 ∧ i + 3 < (E.1 : Int), i32 (i + 4), 0 ≤ i + 4 ∧ i + 4 < (E.1 : Int)]) rfl (by simp only [all_, i32, i64]; first | omega | (simp; done) | (simp; omega)) ?_
  refine rch_call (h' := 4) (k' := 74) (as := [vR 0, vI ((E.2 (i + 1).toNat).toInt), vI ((E.2 (i + 2).toNat).toInt), vI ((E.2 (i + 3).toNat).toInt), vI ((E.2 (i + 4).toNat).toInt)]) (t1 := (590, [some (vR 1000), some (vR 0), some (vR 74), some (vI i)], [], MW b I L)) cdK174 rfl (pr_score l E b I L ((E.2 (i + 1).toNat).toInt) ((E.2 (i + 2).toNat).toInt) ((E.2 (i + 3).toNat).toInt) ((E.2 (i + 4).toNat).toInt) hI) (by decide) mw_leL ?_
  rintro rt9 w9 (⟨b1, J1, M1, v1, rfl, rfl, hc1⟩) _ _
  show Rch l E 1000 174 _ _ _ _ (590, [some (vR 1000), some (vR 0), some (vR 74), some (vI i)], [vI v1], MW b1 J1 M1)
  refine rch_run cdK174 (by decide) 21 (t' := (611, [some (vR 1000), some (vR 0), some (vR 74), some (vI i)], [vI ((E.2 (i + 4).toNat).toInt), vI ((E.2 (i + 3).toNat).toInt), vI ((E.2 (i + 2).toNat).toInt), vI ((E.2 (i + 1).toNat).toInt), vR 74, vI v1], MW b1 J1 M1)) (ps := [i32 (i + 1), 0 ≤ i + 1 ∧ i + 1 < (E.1 : Int), i32 (i + 2), 0 ≤ i + 2 ∧ i + 2 < (E.1 : Int), i32 (i + 3), 0 ≤ i + 3 ∧ i + 3 < (E.1 : Int), i32 (i + 4), 0 ≤ i + 4 ∧ i + 4 < (E.1 : Int)]) rfl (by simp only [all_, i32, i64]; first | omega | (simp; done) | (simp; omega)) ?_
  refine rch_call (h' := 5) (k' := 141) (as := [vR 74, vI ((E.2 (i + 1).toNat).toInt), vI ((E.2 (i + 2).toNat).toInt), vI ((E.2 (i + 3).toNat).toInt), vI ((E.2 (i + 4).toNat).toInt)]) (t1 := (614, [some (vR 1000), some (vR 0), some (vR 74), some (vI i)], [vI v1], MW b1 J1 M1)) cdK174 rfl hc1 (by decide) mw_leL ?_
  rintro rt9 w9 (⟨J2, M2, rfl, rfl, hI2⟩) _ _
  show Rch l E 1000 174 _ _ _ _ (614, [some (vR 1000), some (vR 0), some (vR 74), some (vI i)], [vI v1, vI v1], MW b1 J2 M2)
  refine rch_br cdK174 (cd := v1 = v1) (t1 := (1190, [some (vR 1000), some (vR 0), some (vR 74), some (vI i)], [], MW b1 J2 M2)) (t2 := (617, [some (vR 1000), some (vR 0), some (vR 74), some (vI i)], [], MW b1 J2 M2)) rfl (fun c614_1 => ?_) (fun c9 => by exfalso; omega)
  exact hk b1 J2 M2 hI2

set_option maxHeartbeats 20000000 in
set_option maxRecDepth 100000 in
theorem cs_hand (l : Launch) (E : AX) (b : Bool) (I L : Nat → Nat → Int) (i : Int) (hi : 0 ≤ i ∧ i + 6 ≤ (E.1 : Int)) (hE : E.1 ≤ 3072) (hI : Inv (bkb b) I) (hk : ∀ b J M, Inv (bkb b) J → Rch l E 1000 174 wE 129 14022 PhiL (1190, [some (vR 1000), some (vR 0), some (vR 74), some (vI i)], [], MW b J M)) : Rch l E 1000 174 wE 129 14022 PhiL (619, [some (vR 1000), some (vR 0), some (vR 74), some (vI i)], [], MW b I L) := by
  refine rch_run cdK174 (by decide) 16 (t' := (635, [some (vR 1000), some (vR 0), some (vR 74), some (vI i)], [vI ((E.2 (i + 3).toNat).toInt), vI ((E.2 (i + 2).toNat).toInt), vI ((E.2 (i + 1).toNat).toInt), vR 0], MW b I L)) (ps := [i32 (i + 1), 0 ≤ i + 1 ∧ i + 1 < (E.1 : Int), i32 (i + 2), 0 ≤ i + 2 ∧ i + 2 < (E.1 : Int), i32 (i + 3), 0 ≤ i + 3 ∧ i + 3 < (E.1 : Int)]) rfl (by simp only [all_, i32, i64]; first | omega | (simp; done) | (simp; omega)) ?_
  refine rch_br cdK174 (cd := (E.2 (i + 3).toNat).toInt = 0) (t1 := (642, [some (vR 1000), some (vR 0), some (vR 74), some (vI i)], [vI ((E.2 (i + 2).toNat).toInt), vI ((E.2 (i + 1).toNat).toInt), vR 0], MW b I L)) (t2 := (638, [some (vR 1000), some (vR 0), some (vR 74), some (vI i)], [vI ((E.2 (i + 2).toNat).toInt), vI ((E.2 (i + 1).toNat).toInt), vR 0], MW b I L)) rfl (fun c635_1 => ?_) (fun c635_1 => ?_)
  · refine rch_run cdK174 (by decide) 1 (t' := (643, [some (vR 1000), some (vR 0), some (vR 74), some (vI i)], [vI 0, vI ((E.2 (i + 2).toNat).toInt), vI ((E.2 (i + 1).toNat).toInt), vR 0], MW b I L)) (ps := []) rfl trivial ?_
    refine rch_call (h' := 2) (k' := 75) (as := [vR 0, vI ((E.2 (i + 1).toNat).toInt), vI ((E.2 (i + 2).toNat).toInt), vI 0]) (t1 := (646, [some (vR 1000), some (vR 0), some (vR 74), some (vI i)], [], MW b I L)) cdK174 rfl (pr_hand l E b I L ((E.2 (i + 1).toNat).toInt) ((E.2 (i + 2).toNat).toInt) 0 (Or.inl rfl) hI) (by decide) mw_leL ?_
    rintro rt9 w9 (⟨b1, J1, M1, v1, rfl, rfl, hc1⟩) _ _
    show Rch l E 1000 174 _ _ _ _ (646, [some (vR 1000), some (vR 0), some (vR 74), some (vI i)], [vI v1], MW b1 J1 M1)
    refine rch_run cdK174 (by decide) 16 (t' := (662, [some (vR 1000), some (vR 0), some (vR 74), some (vI i)], [vI ((E.2 (i + 3).toNat).toInt), vI ((E.2 (i + 2).toNat).toInt), vI ((E.2 (i + 1).toNat).toInt), vR 74, vI v1], MW b1 J1 M1)) (ps := [i32 (i + 1), 0 ≤ i + 1 ∧ i + 1 < (E.1 : Int), i32 (i + 2), 0 ≤ i + 2 ∧ i + 2 < (E.1 : Int), i32 (i + 3), 0 ≤ i + 3 ∧ i + 3 < (E.1 : Int)]) rfl (by simp only [all_, i32, i64]; first | omega | (simp; done) | (simp; omega)) ?_
    refine rch_br cdK174 (cd := (E.2 (i + 3).toNat).toInt = 0) (t1 := (669, [some (vR 1000), some (vR 0), some (vR 74), some (vI i)], [vI ((E.2 (i + 2).toNat).toInt), vI ((E.2 (i + 1).toNat).toInt), vR 74, vI v1], MW b1 J1 M1)) (t2 := (665, [some (vR 1000), some (vR 0), some (vR 74), some (vI i)], [vI ((E.2 (i + 2).toNat).toInt), vI ((E.2 (i + 1).toNat).toInt), vR 74, vI v1], MW b1 J1 M1)) rfl (fun c662_2 => ?_) (fun c9 => by exfalso; omega)
    refine rch_run cdK174 (by decide) 1 (t' := (670, [some (vR 1000), some (vR 0), some (vR 74), some (vI i)], [vI 0, vI ((E.2 (i + 2).toNat).toInt), vI ((E.2 (i + 1).toNat).toInt), vR 74, vI v1], MW b1 J1 M1)) (ps := []) rfl trivial ?_
    refine rch_call (h' := 2) (k' := 143) (as := [vR 74, vI ((E.2 (i + 1).toNat).toInt), vI ((E.2 (i + 2).toNat).toInt), vI 0]) (t1 := (673, [some (vR 1000), some (vR 0), some (vR 74), some (vI i)], [vI v1], MW b1 J1 M1)) cdK174 rfl hc1 (by decide) mw_leL ?_
    rintro rt9 w9 (⟨J2, M2, rfl, rfl, hI2⟩) _ _
    show Rch l E 1000 174 _ _ _ _ (673, [some (vR 1000), some (vR 0), some (vR 74), some (vI i)], [vI v1, vI v1], MW b1 J2 M2)
    refine rch_br cdK174 (cd := v1 = v1) (t1 := (1190, [some (vR 1000), some (vR 0), some (vR 74), some (vI i)], [], MW b1 J2 M2)) (t2 := (676, [some (vR 1000), some (vR 0), some (vR 74), some (vI i)], [], MW b1 J2 M2)) rfl (fun c673_3 => ?_) (fun c9 => by exfalso; omega)
    exact hk b1 J2 M2 hI2
  · refine rch_run cdK174 (by decide) 2 (t' := (643, [some (vR 1000), some (vR 0), some (vR 74), some (vI i)], [vI 1, vI ((E.2 (i + 2).toNat).toInt), vI ((E.2 (i + 1).toNat).toInt), vR 0], MW b I L)) (ps := []) rfl trivial ?_
    refine rch_call (h' := 2) (k' := 75) (as := [vR 0, vI ((E.2 (i + 1).toNat).toInt), vI ((E.2 (i + 2).toNat).toInt), vI 1]) (t1 := (646, [some (vR 1000), some (vR 0), some (vR 74), some (vI i)], [], MW b I L)) cdK174 rfl (pr_hand l E b I L ((E.2 (i + 1).toNat).toInt) ((E.2 (i + 2).toNat).toInt) 1 (Or.inr rfl) hI) (by decide) mw_leL ?_
    rintro rt9 w9 (⟨b1, J1, M1, v1, rfl, rfl, hc1⟩) _ _
    show Rch l E 1000 174 _ _ _ _ (646, [some (vR 1000), some (vR 0), some (vR 74), some (vI i)], [vI v1], MW b1 J1 M1)
    refine rch_run cdK174 (by decide) 16 (t' := (662, [some (vR 1000), some (vR 0), some (vR 74), some (vI i)], [vI ((E.2 (i + 3).toNat).toInt), vI ((E.2 (i + 2).toNat).toInt), vI ((E.2 (i + 1).toNat).toInt), vR 74, vI v1], MW b1 J1 M1)) (ps := [i32 (i + 1), 0 ≤ i + 1 ∧ i + 1 < (E.1 : Int), i32 (i + 2), 0 ≤ i + 2 ∧ i + 2 < (E.1 : Int), i32 (i + 3), 0 ≤ i + 3 ∧ i + 3 < (E.1 : Int)]) rfl (by simp only [all_, i32, i64]; first | omega | (simp; done) | (simp; omega)) ?_
    refine rch_br cdK174 (cd := (E.2 (i + 3).toNat).toInt = 0) (t1 := (669, [some (vR 1000), some (vR 0), some (vR 74), some (vI i)], [vI ((E.2 (i + 2).toNat).toInt), vI ((E.2 (i + 1).toNat).toInt), vR 74, vI v1], MW b1 J1 M1)) (t2 := (665, [some (vR 1000), some (vR 0), some (vR 74), some (vI i)], [vI ((E.2 (i + 2).toNat).toInt), vI ((E.2 (i + 1).toNat).toInt), vR 74, vI v1], MW b1 J1 M1)) rfl (fun c9 => by exfalso; omega) (fun c662_4 => ?_)
    refine rch_run cdK174 (by decide) 2 (t' := (670, [some (vR 1000), some (vR 0), some (vR 74), some (vI i)], [vI 1, vI ((E.2 (i + 2).toNat).toInt), vI ((E.2 (i + 1).toNat).toInt), vR 74, vI v1], MW b1 J1 M1)) (ps := []) rfl trivial ?_
    refine rch_call (h' := 2) (k' := 143) (as := [vR 74, vI ((E.2 (i + 1).toNat).toInt), vI ((E.2 (i + 2).toNat).toInt), vI 1]) (t1 := (673, [some (vR 1000), some (vR 0), some (vR 74), some (vI i)], [vI v1], MW b1 J1 M1)) cdK174 rfl hc1 (by decide) mw_leL ?_
    rintro rt9 w9 (⟨J2, M2, rfl, rfl, hI2⟩) _ _
    show Rch l E 1000 174 _ _ _ _ (673, [some (vR 1000), some (vR 0), some (vR 74), some (vI i)], [vI v1, vI v1], MW b1 J2 M2)
    refine rch_br cdK174 (cd := v1 = v1) (t1 := (1190, [some (vR 1000), some (vR 0), some (vR 74), some (vI i)], [], MW b1 J2 M2)) (t2 := (676, [some (vR 1000), some (vR 0), some (vR 74), some (vI i)], [], MW b1 J2 M2)) rfl (fun c673_5 => ?_) (fun c9 => by exfalso; omega)
    exact hk b1 J2 M2 hI2
