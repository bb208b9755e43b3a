/-- what the class's parting asks -/
def POK (bk : Nat) (I : Nat → Nat → Int) : Prop := VOK I ∧ (∀ j : Nat, (j : Int) < I 21 0 → I 24 j ≤ 999999) ∧ CaS I ∧ HR I ∧ BKk I bk ∧ (I 0 1 ≠ 0 → I 0 2 ≠ 0 → PtOK bk I)
/-- what it gives -/
def Ptd (bk : Nat) (I L J M : Nat → Nat → Int) (d k : Int) : Prop := (∀ a j, ¬ (a = 59 ∨ a = 60) → M a j = L a j) ∧ FrP I J ∧ SG J d k ∧ J 0 1 ≠ 0 ∧ J 0 2 ≠ 0 ∧ PtOK bk J
theorem Ptd_old {bk : Nat} {I L J : Nat → Nat → Int} {d k : Int} (hP : POK bk I) (h : LookR I J d k) (h2 : J 0 2 ≠ 0) : Ptd bk I L J L d k := by
  obtain ⟨s1, s2, s3, s4⟩ := look_SG hP.2.2.1 h
  have e := s4 h2
  refine ⟨fun _ _ _ => rfl, fun a j ha => by rw [e], s1, s3, h2, ?_⟩
  rw [e] at s3 h2 ⊢
  exact hP.2.2.2.2.2 s3 h2
theorem Ptd_new {bk : Nat} {I L M J1 J2 J3 J4 J5 : Nat → Nat → Int} {d k : Int} (hbk : bk = 1 ∨ bk = 7) (hP : POK bk I) (h : LookR I J1 d k) (hg : Gth J1 J2) (hb : Bnd J2 J3 k (J2 32 0).toNat) (hp : Prs bk J3 J4) (hc : Chs J4 J5) (hM : ∀ a j, ¬ (a = 59 ∨ a = 60) → M a j = L a j) : Ptd bk I L (upI J5 0 2 1) M d k := by
  obtain ⟨s1, s2, s3, s4⟩ := look_SG hP.2.2.1 h
  have hR : HR J1 := by
    have := hP.2.2.2.1
    unfold HR
    rw [s2 32 0 (by omega), show J1 33 = I 33 from funext (fun z => s2 33 z (by omega)), show J1 34 = I 34 from funext (fun z => s2 34 z (by omega))]
    exact this
  obtain ⟨p1, p2⟩ := pt_mk hbk s1 hR hg hb hp hc
  refine ⟨hM, fun a j ha => by rw [p2 a j (by omega)]; exact s2 a j (by omega), SG_c (fun a j ha => p2 a j (by omega)) s1, by rw [p2 0 1 (by omega)]; exact s3, by rw [upI_eq rfl rfl]; omega, p1⟩
theorem POK_J {bk : Nat} {I J : Nat → Nat → Int} {d k : Int} (hbk : bk = 1 ∨ bk = 7) (hP : POK bk I) (h : LookR I J d k) : VOK J ∧ (∀ j : Nat, (j : Int) < J 21 0 → J 24 j ≤ 999999) ∧ HR J ∧ BKk J bk ∧ SG J d k := by
  obtain ⟨s1, s2, s3, s4⟩ := look_SG hP.2.2.1 h
  have e : ∀ a, ¬ (44 ≤ a ∧ a ≤ 48) → a ≠ 0 → J a = I a := fun a h1 h2 => funext (fun z => s2 a z (by omega))
  refine ⟨?_, ?_, ?_, ?_, s1⟩
  · unfold VOK
    rw [e 17 (by omega) (by omega), e 21 (by omega) (by omega), e 22 (by omega) (by omega), e 23 (by omega) (by omega), e 24 (by omega) (by omega), e 27 (by omega) (by omega)]
    exact hP.1
  · rw [e 21 (by omega) (by omega), e 24 (by omega) (by omega)]
    exact hP.2.1
  · unfold HR
    rw [e 32 (by omega) (by omega), e 33 (by omega) (by omega), e 34 (by omega) (by omega)]
    exact hP.2.2.2.1
  · unfold BKk
    rw [e bk (by omega) (by omega), e (bk + 1) (by omega) (by omega), e (bk + 2) (by omega) (by omega), e (bk + 3) (by omega) (by omega), e (bk + 4) (by omega) (by omega)]
    exact hP.2.2.2.2.1

theorem k_part_f (l : Launch) (E : AX) (I L : Nat → Nat → Int) (d k : Int) (hP : POK 1 I) : Con l E 5 94 [vR 0, vI d, vI k] (MW false I L) 0 0 (fun rt w => ∃ J M, rt = some (vI (J 49 0)) ∧ w = MW false J M ∧ Ptd 1 I L J M d k) := by
  refine con_intro (by decide) (Nat.le_of_ble_eq_true rfl) ?_
  show Rch l E 5 94 _ _ _ _ (0, [some (vR 0), some (vI d), some (vI k)], [], MW false I L)
  refine rch_run rfl (by decide) 3 (t' := (3, [some (vR 0), some (vI d), some (vI k)], [vI k, vI d, vR 0], MW false I L)) (ps := []) rfl trivial ?_
  refine rch_call (h' := 3) (k' := 93) (as := [vR 0, vI d, vI k]) (t1 := (6, [some (vR 0), some (vI d), some (vI k)], [], MW false I L)) rfl rfl (k_X11_look l E false I L d k hP.1) (by decide) mw_le ?_
  rintro rt9 w9 (⟨J1, rfl, rfl, t1⟩) _ _
  show Rch l E 5 94 _ _ _ _ (6, [some (vR 0), some (vI d), some (vI k)], [], MW false J1 L)
  have hJ := POK_J (bk := 1) (by omega) hP t1
  have h10 := cnt_le (thB J1) 10
  refine rch_run rfl (by decide) 2 (t' := (10, [some (vR 0), some (vI d), some (vI k)], [vI (J1 0 2)], MW false J1 L)) (ps := []) rfl trivial ?_
  refine rch_br rfl (cd := J1 0 2 ≠ 0) (t1 := (67, [some (vR 0), some (vI d), some (vI k)], [], MW false J1 L)) (t2 := (13, [some (vR 0), some (vI d), some (vI k)], [], MW false J1 L)) rfl (fun c10_1 => ?_) (fun c10_1 => ?_)
  · refine rch_run rfl (by decide) 3 (t' := (74, [some (vR 0), some (vI d), some (vI k)], [vI (J1 49 0)], MW false J1 L)) (ps := []) rfl trivial ?_
    have hR9 := Ptd_old (L := L) hP t1 (by omega)
    have h01 := PtOK_01 hR9.2.2.2.2.2
    refine rch_ret rfl (rt := some (vI (J1 49 0))) rfl (by show _ ∨ _; omega) mw_c ?_
    exact ⟨J1, L, rfl, rfl, hR9⟩
  · refine rch_run rfl (by decide) 4 (t' := (21, [some (vR 0), some (vI d), some (vI k)], [vR 44, vR 49], MW false J1 L)) (ps := []) rfl trivial ?_
    refine rch_call (h' := 1) (k' := 21) (as := [vR 49, vR 44]) (t1 := (24, [some (vR 0), some (vI d), some (vI k)], [], MW false J1 L)) rfl rfl (k_X3_gather l E false J1 L) (by decide) mw_le ?_
    rintro rt9 w9 (⟨J2, rfl, rfl, t2⟩) _ _
    show Rch l E 5 94 _ _ _ _ (24, [some (vR 0), some (vI d), some (vI k)], [], MW false J2 L)
    have hs2 := t2.2.1
    refine rch_run rfl (by decide) 5 (t' := (33, [some (vR 0), some (vI d), some (vI k)], [vI k, vR 32, vR 49], MW false J2 L)) (ps := []) rfl trivial ?_
    refine rch_call (h' := 2) (k' := 22) (as := [vR 49, vR 32, vI k]) (t1 := (36, [some (vR 0), some (vI d), some (vI k)], [], MW false J2 L)) rfl rfl (k_X3_bind l E false J2 L k (Gth_HOK t2 hJ.2.2.1) t2.2.2.2) (by decide) mw_le ?_
    rintro rt9 w9 (⟨J3, rfl, rfl, t3⟩) _ _
    show Rch l E 5 94 _ _ _ _ (36, [some (vR 0), some (vI d), some (vI k)], [], MW false J3 L)
    have q3 : J3 49 3 = J2 49 3 := t3.1 49 3 (by omega)
    have e3 : ∀ a, a < 49 → J3 a = J1 a := fun a ha => funext (fun z => by rw [t3.1 a z (by omega), t2.1 a z (by omega)])
    have hB3 : BKk J3 1 := by unfold BKk; rw [e3 _ (by decide), e3 _ (by decide), e3 _ (by decide), e3 _ (by decide), e3 _ (by decide)]; exact hJ.2.2.2.1
    refine rch_run rfl (by decide) 8 (t' := (52, [some (vR 0), some (vI d), some (vI k)], [vR 17, vR 44, vR 1, vR 49], MW false J3 L)) (ps := []) rfl trivial ?_
    refine rch_call (h' := 4) (k' := 23) (as := [vR 49, vR 1, vR 44, vR 17]) (t1 := (55, [some (vR 0), some (vI d), some (vI k)], [], MW false J3 L)) rfl rfl (k_weighPairs_1 l E false J3 L (by omega) (fun i hi => by obtain ⟨r, r1, r2, r3, _⟩ := Gth_row t2 (i := i) (by omega); rw [t3.1 51 i (by omega), r3]; omega) hB3 (by rw [e3 46 (by decide)]; exact SG_vals hJ.2.2.2.2 hJ.1 hJ.2.1)) (by decide) mw_le ?_
    rintro rt9 w9 (⟨J4, rfl, rfl, t4⟩) _ _
    show Rch l E 5 94 _ _ _ _ (55, [some (vR 0), some (vI d), some (vI k)], [], MW false J4 L)
    refine rch_run rfl (by decide) 2 (t' := (59, [some (vR 0), some (vI d), some (vI k)], [vR 49], MW false J4 L)) (ps := []) rfl trivial ?_
    refine rch_call (h' := 4) (k' := 24) (as := [vR 49]) (t1 := (62, [some (vR 0), some (vI d), some (vI k)], [], MW false J4 L)) rfl rfl (k_choose l E false J4 L (pt_COK (bk := 1) t2 t3 t4 hB3)) (by decide) mw_le ?_
    rintro rt9 w9 (⟨J5, M5, rfl, rfl, t5, t6⟩) _ _
    show Rch l E 5 94 _ _ _ _ (62, [some (vR 0), some (vI d), some (vI k)], [], MW false J5 M5)
    refine rch_run rfl (by decide) 6 (t' := (74, [some (vR 0), some (vI d), some (vI k)], [vI (J5 49 0)], MW false (upI J5 0 2 1) M5)) (ps := [(1 : Int) = 0 ∨ (1 : Int) = 1]) rfl (by simp only [all_, i32, i64]; first | omega | (simp; done) | (simp; omega)) ?_
    have hR9 := Ptd_new (bk := 1) (by omega) hP t1 t2 t3 t4 t6 t5
    have h01 := PtOK_01 hR9.2.2.2.2.2
    rw [upI_ne (by omega)] at h01
    refine rch_ret rfl (rt := some (vI (J5 49 0))) rfl (by show _ ∨ _; omega) mw_c ?_
    exact ⟨upI J5 0 2 1, M5, rfl, rfl, hR9⟩

theorem k_part_t (l : Launch) (E : AX) (I L : Nat → Nat → Int) (d k : Int) (hP : POK 7 I) : Con l E 5 94 [vR 0, vI d, vI k] (MW true I L) 0 0 (fun rt w => ∃ J M, rt = some (vI (J 49 0)) ∧ w = MW true J M ∧ Ptd 7 I L J M d k) := by
  refine con_intro (by decide) (Nat.le_of_ble_eq_true rfl) ?_
  show Rch l E 5 94 _ _ _ _ (0, [some (vR 0), some (vI d), some (vI k)], [], MW true I L)
  refine rch_run rfl (by decide) 3 (t' := (3, [some (vR 0), some (vI d), some (vI k)], [vI k, vI d, vR 0], MW true I L)) (ps := []) rfl trivial ?_
  refine rch_call (h' := 3) (k' := 93) (as := [vR 0, vI d, vI k]) (t1 := (6, [some (vR 0), some (vI d), some (vI k)], [], MW true I L)) rfl rfl (k_X11_look l E true I L d k hP.1) (by decide) mw_le ?_
  rintro rt9 w9 (⟨J1, rfl, rfl, t1⟩) _ _
  show Rch l E 5 94 _ _ _ _ (6, [some (vR 0), some (vI d), some (vI k)], [], MW true J1 L)
  have hJ := POK_J (bk := 7) (by omega) hP t1
  have h10 := cnt_le (thB J1) 10
  refine rch_run rfl (by decide) 2 (t' := (10, [some (vR 0), some (vI d), some (vI k)], [vI (J1 0 2)], MW true J1 L)) (ps := []) rfl trivial ?_
  refine rch_br rfl (cd := J1 0 2 ≠ 0) (t1 := (67, [some (vR 0), some (vI d), some (vI k)], [], MW true J1 L)) (t2 := (13, [some (vR 0), some (vI d), some (vI k)], [], MW true J1 L)) rfl (fun c10_1 => ?_) (fun c10_1 => ?_)
  · refine rch_run rfl (by decide) 3 (t' := (74, [some (vR 0), some (vI d), some (vI k)], [vI (J1 49 0)], MW true J1 L)) (ps := []) rfl trivial ?_
    have hR9 := Ptd_old (L := L) hP t1 (by omega)
    have h01 := PtOK_01 hR9.2.2.2.2.2
    refine rch_ret rfl (rt := some (vI (J1 49 0))) rfl (by show _ ∨ _; omega) mw_c ?_
    exact ⟨J1, L, rfl, rfl, hR9⟩
  · refine rch_run rfl (by decide) 4 (t' := (21, [some (vR 0), some (vI d), some (vI k)], [vR 44, vR 49], MW true J1 L)) (ps := []) rfl trivial ?_
    refine rch_call (h' := 1) (k' := 21) (as := [vR 49, vR 44]) (t1 := (24, [some (vR 0), some (vI d), some (vI k)], [], MW true J1 L)) rfl rfl (k_X3_gather l E true J1 L) (by decide) mw_le ?_
    rintro rt9 w9 (⟨J2, rfl, rfl, t2⟩) _ _
    show Rch l E 5 94 _ _ _ _ (24, [some (vR 0), some (vI d), some (vI k)], [], MW true J2 L)
    have hs2 := t2.2.1
    refine rch_run rfl (by decide) 5 (t' := (33, [some (vR 0), some (vI d), some (vI k)], [vI k, vR 32, vR 49], MW true J2 L)) (ps := []) rfl trivial ?_
    refine rch_call (h' := 2) (k' := 22) (as := [vR 49, vR 32, vI k]) (t1 := (36, [some (vR 0), some (vI d), some (vI k)], [], MW true J2 L)) rfl rfl (k_X3_bind l E true J2 L k (Gth_HOK t2 hJ.2.2.1) t2.2.2.2) (by decide) mw_le ?_
    rintro rt9 w9 (⟨J3, rfl, rfl, t3⟩) _ _
    show Rch l E 5 94 _ _ _ _ (36, [some (vR 0), some (vI d), some (vI k)], [], MW true J3 L)
    have q3 : J3 49 3 = J2 49 3 := t3.1 49 3 (by omega)
    have e3 : ∀ a, a < 49 → J3 a = J1 a := fun a ha => funext (fun z => by rw [t3.1 a z (by omega), t2.1 a z (by omega)])
    have hB3 : BKk J3 7 := by unfold BKk; rw [e3 _ (by decide), e3 _ (by decide), e3 _ (by decide), e3 _ (by decide), e3 _ (by decide)]; exact hJ.2.2.2.1
    refine rch_run rfl (by decide) 8 (t' := (52, [some (vR 0), some (vI d), some (vI k)], [vR 17, vR 44, vR 7, vR 49], MW true J3 L)) (ps := []) rfl trivial ?_
    refine rch_call (h' := 4) (k' := 23) (as := [vR 49, vR 7, vR 44, vR 17]) (t1 := (55, [some (vR 0), some (vI d), some (vI k)], [], MW true J3 L)) rfl rfl (k_weighPairs_7 l E true J3 L (by omega) (fun i hi => by obtain ⟨r, r1, r2, r3, _⟩ := Gth_row t2 (i := i) (by omega); rw [t3.1 51 i (by omega), r3]; omega) hB3 (by rw [e3 46 (by decide)]; exact SG_vals hJ.2.2.2.2 hJ.1 hJ.2.1)) (by decide) mw_le ?_
    rintro rt9 w9 (⟨J4, rfl, rfl, t4⟩) _ _
    show Rch l E 5 94 _ _ _ _ (55, [some (vR 0), some (vI d), some (vI k)], [], MW true J4 L)
    refine rch_run rfl (by decide) 2 (t' := (59, [some (vR 0), some (vI d), some (vI k)], [vR 49], MW true J4 L)) (ps := []) rfl trivial ?_
    refine rch_call (h' := 4) (k' := 24) (as := [vR 49]) (t1 := (62, [some (vR 0), some (vI d), some (vI k)], [], MW true J4 L)) rfl rfl (k_choose l E true J4 L (pt_COK (bk := 7) t2 t3 t4 hB3)) (by decide) mw_le ?_
    rintro rt9 w9 (⟨J5, M5, rfl, rfl, t5, t6⟩) _ _
    show Rch l E 5 94 _ _ _ _ (62, [some (vR 0), some (vI d), some (vI k)], [], MW true J5 M5)
    refine rch_run rfl (by decide) 6 (t' := (74, [some (vR 0), some (vI d), some (vI k)], [vI (J5 49 0)], MW true (upI J5 0 2 1) M5)) (ps := [(1 : Int) = 0 ∨ (1 : Int) = 1]) rfl (by simp only [all_, i32, i64]; first | omega | (simp; done) | (simp; omega)) ?_
    have hR9 := Ptd_new (bk := 7) (by omega) hP t1 t2 t3 t4 t6 t5
    have h01 := PtOK_01 hR9.2.2.2.2.2
    rw [upI_ne (by omega)] at h01
    refine rch_ret rfl (rt := some (vI (J5 49 0))) rfl (by show _ ∨ _; omega) mw_c ?_
    exact ⟨upI J5 0 2 1, M5, rfl, rfl, hR9⟩
