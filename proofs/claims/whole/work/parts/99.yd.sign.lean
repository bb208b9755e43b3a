def wl (w : Bool) : List Int := if w = true then [6] else []
theorem wl_t : wl true = [6] := rfl
theorem wl_f : wl false = [] := rfl
theorem wl_m {w : Bool} {c : Int} (h : c ∈ wl w) : c = 6 := by
  cases w
  · exact absurd h (by simp [wl])
  · simpa [wl] using h
def SgQ (I L : Nat → Nat → Int) (s : Pst) (Y : List Int) (w : Bool) (W : List Int) (x : Int) (J M : Nat → Nat → Int) : Prop :=
  (x = 0 ∧ wdq (I 97) (nM I) s.1 8 = true ∧ MSt I L J M (tN (I 97) (nM I) s.1, (flush (Y ++ wl w) s).2) (some (6 :: W))) ∨
  (x = 0 ∧ wdq (I 97) (nM I) s.1 9 = true ∧ MSt I L J M (tN (I 97) (nM I) s.1, (flush Y s).2) (some (7 :: (wl w ++ W)))) ∨
  (x = 1 ∧ tK (I 97) (nM I) s.1 = 41 ∧ ∃ W1, W = 8 :: W1 ∧ MSt I L J M (tN (I 97) (nM I) s.1, (flush (Y ++ wl w) s).2) (some W1)) ∨
  (x = 1 ∧ wdq (I 97) (nM I) s.1 8 = false ∧ wdq (I 97) (nM I) s.1 9 = false ∧ ¬ (tK (I 97) (nM I) s.1 = 41 ∧ W ≠ []) ∧ FlM I L J M (flt (I 97) (nM I) s.1 2))
def Shp (W : List Int) : Prop := W = [] ∨ ∃ t, W = 8 :: t
theorem Shp_h {W : List Int} (h : Shp W) : W.headD 8 = 8 := by
  rcases h with h | ⟨t, h⟩ <;> (rw [h]; rfl)
theorem mem_8 {Y W : List Int} {w : Bool} (hY : ∀ c ∈ Y, c ≠ 6 ∧ c ≠ 8) (hW : Shp W) : 8 ∈ (Y ++ wl w) ++ W ↔ W ≠ [] := by
  constructor
  · intro h e
    rw [e, List.append_nil] at h
    rcases List.mem_append.mp h with h | h
    · exact (hY 8 h).2 rfl
    · exact absurd (wl_m h) (by decide)
  · intro h
    rcases hW with e | ⟨t, e⟩
    · exact absurd e h
    · rw [e]
      exact List.mem_append_right _ List.mem_cons_self
theorem st_0 {Y : List Int} {w : Bool} (hY : ∀ c ∈ Y, c ≠ 6 ∧ c ≠ 8) : ∀ c ∈ Y ++ wl w, ¬ stpc 0 c := fun c hc z => by
  rcases z with z | z
  · rcases List.mem_append.mp hc with h | h
    · exact (hY c h).2 z
    · have := wl_m h
      omega
  · exact z.1 rfl
theorem st_1 {Y : List Int} (hY : ∀ c ∈ Y, c ≠ 6 ∧ c ≠ 8) : ∀ c ∈ Y, ¬ stpc 1 c := fun c hc z => by
  rcases z with z | z
  · exact (hY c hc).2 z
  · exact (hY c hc).1 z.2
theorem st_1h {W : List Int} {w : Bool} (hW : Shp W) : stpc 1 ((wl w ++ W).headD 8) := by
  cases w
  · exact Or.inl (Shp_h hW)
  · exact Or.inr ⟨by decide, rfl⟩
theorem flush_1 (X : List Int) (s : Pst) : (flush X s).1 = s.1 := (flush_l X s).1
theorem MSt_app {I L J M : Nat → Nat → Int} {s : Pst} {X Y Z : List Int} (h : MSt I L J M s (some ((X ++ Y) ++ Z))) : MSt I L J M s (some (X ++ (Y ++ Z))) := by rw [← List.append_assoc]; exact h

theorem k_sign (l : Launch) (E : AX) (b : Bool) (I L J M : Nat → Nat → Int) {s : Pst} (Y : List Int) (w : Bool) (W : List Int) (h0 : Mp0 I) (hs : MSt I L J M s (some ((Y ++ wl w) ++ W))) (hY : ∀ c ∈ Y, c ≠ 6 ∧ c ≠ 8) (hW : Shp W) (hl : W.length ≤ 97) (hb : s.2.2.length + Y.length + 1 ≤ 500) : Con l E 4 136 [vR 74] (MW b J M) 0 0 (fun rt w9 => ∃ x J2 M2, rt = some (vI x) ∧ w9 = MW b J2 M2 ∧ SgQ I L s Y w W x J2 M2) := by
  refine con_ok (fun hw9 hs9 => ?_)
  refine con_intro (by decide) (Nat.le_of_ble_eq_true rfl) ?_
  obtain ⟨r1, r2, hz, r4, r5, r6, r7⟩ := MSt_r h0 hs
  have hk41 := (sr_1 (tK (I 97) (nM I) s.1)).2.2.2.2.2.1
  rw [← r7] at hk41
  have ha : s.1 ≤ nM I := hs.2.2.1
  have hwl : (wl w).length ≤ 1 := by cases w <;> decide
  show Rch l E 4 136 _ _ _ _ (0, [some (vR 74), none], [], MW b J M)
  refine rch_run cdK136 (by decide) 2 (t' := (4, [some (vR 74), none], [vL 6385252, vR 74], MW b J M)) (ps := []) rfl trivial ?_
  refine rch_call (h' := 1) (k' := 127) (as := [vR 74, vL 6385252]) (t1 := (7, [some (vR 74), none], [], MW b J M)) cdK136 rfl (k_wd_9 l E b I L J M h0 hs) (by decide) mw_le ?_
  rintro rt9 w9 (⟨hq9, rfl, rfl⟩ | ⟨hq9, rfl, rfl⟩) _ _
  · show Rch l E 4 136 _ _ _ _ (7, [some (vR 74), none], [vI 1], MW b J M)
    have hw2 := wdq_2 hq9
    refine rch_br cdK136 (cd := (1 : Int) ≠ 0) (t1 := (20, [some (vR 74), none], [], MW b J M)) (t2 := (10, [some (vR 74), none], [], MW b J M)) rfl (fun _ => ?_) (fun c9 => absurd (by decide) c9)
    refine rch_run cdK136 (by decide) 2 (t' := (24, [some (vR 74), none], [vL 6385252, vR 74], MW b J M)) (ps := []) rfl trivial ?_
    refine rch_call (h' := 1) (k' := 127) (as := [vR 74, vL 6385252]) (t1 := (27, [some (vR 74), none], [], MW b J M)) cdK136 rfl (con_imp (k_wd_9 l E b I L J M h0 hs) (rd1 hq9)) (by decide) mw_le ?_
    rintro rt9 w9 (⟨rfl, rfl⟩) _ _
    show Rch l E 4 136 _ _ _ _ (27, [some (vR 74), none], [vI 1], MW b J M)
    refine rch_run cdK136 (by decide) 3 (t' := (30, [some (vR 74), some (vI 1)], [vI 1, vR 74], MW b J M)) (ps := []) rfl trivial ?_
    refine rch_call (h' := 3) (k' := 132) (as := [vR 74, vI 1]) (t1 := (33, [some (vR 74), some (vI 1)], [], MW b J M)) cdK136 rfl (k_settle l E b I L J M 1 Y (wl w ++ W) (MSt_app hs) (st_1 hY) (st_1h hW) (by omega)) (by decide) mw_le ?_
    rintro rt9 w9 (⟨J167, rfl, rfl, hs⟩) _ _
    show Rch l E 4 136 _ _ _ _ (33, [some (vR 74), some (vI 1)], [], MW b J167 M)
    refine rch_run cdK136 (by decide) 2 (t' := (35, [some (vR 74), some (vI 1)], [vI 1, vR 74], MW b J167 M)) (ps := []) rfl trivial ?_
    refine rch_br cdK136 (cd := (1 : Int) = 0) (t1 := (43, [some (vR 74), some (vI 1)], [vR 74], MW b J167 M)) (t2 := (38, [some (vR 74), some (vI 1)], [vR 74], MW b J167 M)) rfl (fun c9 => absurd c9 (by decide)) (fun _ => ?_)
    refine rch_run cdK136 (by decide) 2 (t' := (45, [some (vR 74), some (vI 1)], [vI 7, vR 74], MW b J167 M)) (ps := []) rfl trivial ?_
    refine rch_call (h' := 1) (k' := 130) (as := [vR 74, vI 7]) (t1 := (48, [some (vR 74), some (vI 1)], [], MW b J167 M)) cdK136 rfl (k_hold l E b I L J167 M 7 hs (by first | omega | (rw [List.length_append]; omega))) (by decide) mw_le ?_
    rintro rt9 w9 (⟨J168, rfl, rfl, hs⟩) _ _
    show Rch l E 4 136 _ _ _ _ (48, [some (vR 74), some (vI 1)], [], MW b J168 M)
    refine rch_run cdK136 (by decide) 1 (t' := (49, [some (vR 74), some (vI 1)], [vR 74], MW b J168 M)) (ps := []) rfl trivial ?_
    refine rch_call (h' := 3) (k' := 125) (as := [vR 74]) (t1 := (52, [some (vR 74), some (vI 1)], [], MW b J168 M)) cdK136 rfl (k_nxt l E b I L J168 M h0 hs (by rw [flush_1]; have := wdq_2 hq9; omega)) (by decide) mw_le ?_
    rintro rt9 w9 (⟨J169, M169, rfl, rfl, hs⟩) _ _
    show Rch l E 4 136 _ _ _ _ (52, [some (vR 74), some (vI 1)], [], MW b J169 M169)
    have hz := (MSt_r h0 hs).2.2.1
    refine rch_run cdK136 (by decide) 1 (t' := (53, [some (vR 74), some (vI 1)], [vI 0], MW b J169 M169)) (ps := []) rfl trivial ?_
    refine rch_ret cdK136 (rt := some (vI 0)) rfl (Or.inl rfl) mw_c ?_
    rw [flush_1] at hs
    exact ⟨_, _, _, rfl, rfl, Or.inr (Or.inl ⟨rfl, hq9, hs⟩)⟩
  · show Rch l E 4 136 _ _ _ _ (7, [some (vR 74), none], [vI 0], MW b J M)
    refine rch_br cdK136 (cd := (0 : Int) ≠ 0) (t1 := (20, [some (vR 74), none], [], MW b J M)) (t2 := (10, [some (vR 74), none], [], MW b J M)) rfl (fun c9 => absurd c9 (by decide)) (fun _ => ?_)
    refine rch_run cdK136 (by decide) 2 (t' := (14, [some (vR 74), none], [vL 28530, vR 74], MW b J M)) (ps := []) rfl trivial ?_
    refine rch_call (h' := 1) (k' := 127) (as := [vR 74, vL 28530]) (t1 := (17, [some (vR 74), none], [], MW b J M)) cdK136 rfl (k_wd_8 l E b I L J M h0 hs) (by decide) mw_le ?_
    rintro rt9 w9 (⟨hq8, rfl, rfl⟩ | ⟨hq8, rfl, rfl⟩) _ _
    · show Rch l E 4 136 _ _ _ _ (17, [some (vR 74), none], [vI 1], MW b J M)
      have hw2 := wdq_2 hq8
      refine rch_br cdK136 (cd := (1 : Int) = 0) (t1 := (54, [some (vR 74), none], [], MW b J M)) (t2 := (20, [some (vR 74), none], [], MW b J M)) rfl (fun c9 => absurd c9 (by decide)) (fun _ => ?_)
      refine rch_run cdK136 (by decide) 2 (t' := (24, [some (vR 74), none], [vL 6385252, vR 74], MW b J M)) (ps := []) rfl trivial ?_
      refine rch_call (h' := 1) (k' := 127) (as := [vR 74, vL 6385252]) (t1 := (27, [some (vR 74), none], [], MW b J M)) cdK136 rfl (con_imp (k_wd_9 l E b I L J M h0 hs) (rd0 (wdq_ne hq8 (by omega) (by omega) (by omega)))) (by decide) mw_le ?_
      rintro rt9 w9 (⟨rfl, rfl⟩) _ _
      show Rch l E 4 136 _ _ _ _ (27, [some (vR 74), none], [vI 0], MW b J M)
      refine rch_run cdK136 (by decide) 3 (t' := (30, [some (vR 74), some (vI 0)], [vI 0, vR 74], MW b J M)) (ps := []) rfl trivial ?_
      refine rch_call (h' := 3) (k' := 132) (as := [vR 74, vI 0]) (t1 := (33, [some (vR 74), some (vI 0)], [], MW b J M)) cdK136 rfl (k_settle l E b I L J M 0 (Y ++ wl w) W hs (st_0 hY) (by rw [Shp_h hW]; exact Or.inl rfl) (by rw [List.length_append]; omega)) (by decide) mw_le ?_
      rintro rt9 w9 (⟨J170, rfl, rfl, hs⟩) _ _
      show Rch l E 4 136 _ _ _ _ (33, [some (vR 74), some (vI 0)], [], MW b J170 M)
      refine rch_run cdK136 (by decide) 2 (t' := (35, [some (vR 74), some (vI 0)], [vI 0, vR 74], MW b J170 M)) (ps := []) rfl trivial ?_
      refine rch_br cdK136 (cd := (0 : Int) = 0) (t1 := (43, [some (vR 74), some (vI 0)], [vR 74], MW b J170 M)) (t2 := (38, [some (vR 74), some (vI 0)], [vR 74], MW b J170 M)) rfl (fun _ => ?_) (fun c9 => absurd (by decide) c9)
      refine rch_run cdK136 (by decide) 1 (t' := (45, [some (vR 74), some (vI 0)], [vI 6, vR 74], MW b J170 M)) (ps := []) rfl trivial ?_
      refine rch_call (h' := 1) (k' := 130) (as := [vR 74, vI 6]) (t1 := (48, [some (vR 74), some (vI 0)], [], MW b J170 M)) cdK136 rfl (k_hold l E b I L J170 M 6 hs (by first | omega | (rw [List.length_append]; omega))) (by decide) mw_le ?_
      rintro rt9 w9 (⟨J171, rfl, rfl, hs⟩) _ _
      show Rch l E 4 136 _ _ _ _ (48, [some (vR 74), some (vI 0)], [], MW b J171 M)
      refine rch_run cdK136 (by decide) 1 (t' := (49, [some (vR 74), some (vI 0)], [vR 74], MW b J171 M)) (ps := []) rfl trivial ?_
      refine rch_call (h' := 3) (k' := 125) (as := [vR 74]) (t1 := (52, [some (vR 74), some (vI 0)], [], MW b J171 M)) cdK136 rfl (k_nxt l E b I L J171 M h0 hs (by rw [flush_1]; have := wdq_2 hq8; omega)) (by decide) mw_le ?_
      rintro rt9 w9 (⟨J172, M172, rfl, rfl, hs⟩) _ _
      show Rch l E 4 136 _ _ _ _ (52, [some (vR 74), some (vI 0)], [], MW b J172 M172)
      have hz := (MSt_r h0 hs).2.2.1
      refine rch_run cdK136 (by decide) 1 (t' := (53, [some (vR 74), some (vI 0)], [vI 0], MW b J172 M172)) (ps := []) rfl trivial ?_
      refine rch_ret cdK136 (rt := some (vI 0)) rfl (Or.inl rfl) mw_c ?_
      rw [flush_1] at hs
      exact ⟨_, _, _, rfl, rfl, Or.inl ⟨rfl, hq8, hs⟩⟩
    · show Rch l E 4 136 _ _ _ _ (17, [some (vR 74), none], [vI 0], MW b J M)
      refine rch_br cdK136 (cd := (0 : Int) = 0) (t1 := (54, [some (vR 74), none], [], MW b J M)) (t2 := (20, [some (vR 74), none], [], MW b J M)) rfl (fun _ => ?_) (fun c9 => absurd (by decide) c9)
      refine rch_run cdK136 (by decide) 3 (t' := (60, [some (vR 74), none], [vI 41, vI (J 74 35)], MW b J M)) (ps := []) rfl trivial ?_
      refine rch_br cdK136 (cd := J 74 35 ≠ (41 : Int)) (t1 := (101, [some (vR 74), none], [], MW b J M)) (t2 := (63, [some (vR 74), none], [], MW b J M)) rfl (fun c60_7 => ?_) (fun c60_7 => ?_)
      · refine rch_run cdK136 (by decide) 2 (t' := (103, [some (vR 74), none], [vI 2, vR 74], MW b J M)) (ps := []) rfl trivial ?_
        refine rch_call (h' := 1) (k' := 126) (as := [vR 74, vI 2]) (t1 := (106, [some (vR 74), none], [], MW b J M)) cdK136 rfl (k_wrg l E b I L J M 2 (by omega) h0 hs) (by decide) mw_le ?_
        rintro rt9 w9 (⟨J173, rfl, rfl, hf⟩) _ _
        show Rch l E 4 136 _ _ _ _ (106, [some (vR 74), none], [], MW b J173 M)
        have hf1 := hf.2.2.1
        have hf2 := hf.2.2.2.2
        refine rch_run cdK136 (by decide) 1 (t' := (107, [some (vR 74), none], [vI 1], MW b J173 M)) (ps := []) rfl trivial ?_
        refine rch_ret cdK136 (rt := some (vI 1)) rfl (Or.inr rfl) mw_c ?_
        exact ⟨_, _, _, rfl, rfl, Or.inr (Or.inr (Or.inr ⟨rfl, hq8, hq9, (fun z => by first | omega | exact ho8 ((mem_8 hY hW).mpr z.2)), hf⟩))⟩
      · refine rch_run cdK136 (by decide) 1 (t' := (64, [some (vR 74), none], [vR 74], MW b J M)) (ps := []) rfl trivial ?_
        refine rch_call (h' := 1) (k' := 133) (as := [vR 74]) (t1 := (67, [some (vR 74), none], [], MW b J M)) cdK136 rfl (k_isOpen l E b I L J M hs) (by decide) mw_le ?_
        rintro rt9 w9 (⟨ho8, rfl, rfl⟩ | ⟨ho8, rfl, rfl⟩) _ _
        · show Rch l E 4 136 _ _ _ _ (67, [some (vR 74), none], [vI 1], MW b J M)
          refine rch_br cdK136 (cd := (1 : Int) = 0) (t1 := (101, [some (vR 74), none], [], MW b J M)) (t2 := (70, [some (vR 74), none], [], MW b J M)) rfl (fun c9 => absurd c9 (by decide)) (fun _ => ?_)
          refine rch_run cdK136 (by decide) 2 (t' := (72, [some (vR 74), none], [vI 0, vR 74], MW b J M)) (ps := []) rfl trivial ?_
          refine rch_call (h' := 3) (k' := 132) (as := [vR 74, vI 0]) (t1 := (75, [some (vR 74), none], [], MW b J M)) cdK136 rfl (k_settle l E b I L J M 0 (Y ++ wl w) W hs (st_0 hY) (by rw [Shp_h hW]; exact Or.inl rfl) (by rw [List.length_append]; omega)) (by decide) mw_le ?_
          rintro rt9 w9 (⟨J174, rfl, rfl, hs⟩) _ _
          show Rch l E 4 136 _ _ _ _ (75, [some (vR 74), none], [], MW b J174 M)
          refine rch_run cdK136 (by decide) 13 (t' := (96, [some (vR 74), none], [vR 74], MW b (upI (upI J174 74 40 ((J174 74 40) - 1)) 74 41 ((J174 74 41) - 1)) M)) (ps := [i32 ((J174 74 40) - 1), i32 ((J174 74 41) - 1)]) rfl (by have hw9 : ∀ {W9 : List Int} {s9 : Pst} {J9 M9 : Nat → Nat → Int}, MSt I L J9 M9 s9 (some W9) → J9 74 40 = (W9.length : Int) ∧ W9.length ≤ 100 ∧ J9 74 41 = dpw W9 ∧ 0 ≤ dpw W9 ∧ dpw W9 ≤ (W9.length : Int) := fun h => ⟨h.2.2.2.2.2.1.1, h.2.2.2.2.2.1.2.1, h.2.2.2.2.2.2, dpw_rg _⟩; have hw8 := hw9 hs; simp only [all_, i32, i64]; omega) ?_
          obtain ⟨W1, rfl⟩ : ∃ t, W = 8 :: t := by have h9 := (mem_8 hY hW).mp ho8; rcases hW with e | e; (exact absurd e h9); exact e
          have hs := MSt_drop (J2 := (upI (upI J174 74 40 ((J174 74 40) - 1)) 74 41 ((J174 74 41) - 1))) hs (fun a j ha => by rw [upI_ne (by omega), upI_ne (by omega)]) (by rw [upI_ne (by omega), upI_eq rfl rfl]) (by rw [upI_eq rfl rfl, if_pos (by omega)])
          refine rch_call (h' := 3) (k' := 125) (as := [vR 74]) (t1 := (99, [some (vR 74), none], [], MW b (upI (upI J174 74 40 ((J174 74 40) - 1)) 74 41 ((J174 74 41) - 1)) M)) cdK136 rfl (k_nxt l E b I L (upI (upI J174 74 40 ((J174 74 40) - 1)) 74 41 ((J174 74 41) - 1)) M h0 hs (by rw [flush_1]; omega)) (by decide) mw_le ?_
          rintro rt9 w9 (⟨J175, M175, rfl, rfl, hs⟩) _ _
          show Rch l E 4 136 _ _ _ _ (99, [some (vR 74), none], [], MW b J175 M175)
          have hz := (MSt_r h0 hs).2.2.1
          refine rch_run cdK136 (by decide) 1 (t' := (100, [some (vR 74), none], [vI 1], MW b J175 M175)) (ps := []) rfl trivial ?_
          refine rch_ret cdK136 (rt := some (vI 1)) rfl (Or.inr rfl) mw_c ?_
          rw [flush_1] at hs
          exact ⟨_, _, _, rfl, rfl, Or.inr (Or.inr (Or.inl ⟨rfl, by omega, W1, rfl, hs⟩))⟩
        · show Rch l E 4 136 _ _ _ _ (67, [some (vR 74), none], [vI 0], MW b J M)
          refine rch_br cdK136 (cd := (0 : Int) = 0) (t1 := (101, [some (vR 74), none], [], MW b J M)) (t2 := (70, [some (vR 74), none], [], MW b J M)) rfl (fun _ => ?_) (fun c9 => absurd (by decide) c9)
          refine rch_run cdK136 (by decide) 2 (t' := (103, [some (vR 74), none], [vI 2, vR 74], MW b J M)) (ps := []) rfl trivial ?_
          refine rch_call (h' := 1) (k' := 126) (as := [vR 74, vI 2]) (t1 := (106, [some (vR 74), none], [], MW b J M)) cdK136 rfl (k_wrg l E b I L J M 2 (by omega) h0 hs) (by decide) mw_le ?_
          rintro rt9 w9 (⟨J176, rfl, rfl, hf⟩) _ _
          show Rch l E 4 136 _ _ _ _ (106, [some (vR 74), none], [], MW b J176 M)
          have hf1 := hf.2.2.1
          have hf2 := hf.2.2.2.2
          refine rch_run cdK136 (by decide) 1 (t' := (107, [some (vR 74), none], [vI 1], MW b J176 M)) (ps := []) rfl trivial ?_
          refine rch_ret cdK136 (rt := some (vI 1)) rfl (Or.inr rfl) mw_c ?_
          exact ⟨_, _, _, rfl, rfl, Or.inr (Or.inr (Or.inr ⟨rfl, hq8, hq9, (fun z => by first | omega | exact ho8 ((mem_8 hY hW).mpr z.2)), hf⟩))⟩

theorem ge_fault (l : Launch) (E : AX) (b : Bool) (I0 L0 : Nat → Nat → Int) (Φ : Option AV → AW → Prop) (I L J M : Nat → Nat → Int) (x : Int) {f : Int × Int} (hf : FlM I L J M f) (hk : Φ none (MW b J M)) : Rch l E 6 134 (MW b I0 L0) 0 0 Φ (12, [some (vR 74), some (vI x)], [], MW b J M) := by
  have hf1 := hf.2.2.1
  have hf2 := hf.2.2.2.2
  refine rch_run cdK134 (by decide) 2 (t' := (16, [some (vR 74), some (vI x)], [vI (J 74 31)], MW b J M)) (ps := []) rfl trivial ?_
  refine rch_br cdK134 (cd := J 74 31 ≠ 0) (t1 := (58, [some (vR 74), some (vI x)], [], MW b J M)) (t2 := (19, [some (vR 74), some (vI x)], [], MW b J M)) rfl (fun c16_1 => ?_) (fun c9 => by exfalso; omega)
  refine rch_run cdK134 (by decide) 2 (t' := (62, [some (vR 74), some (vI x)], [vI (J 74 31)], MW b J M)) (ps := []) rfl trivial ?_
  refine rch_br cdK134 (cd := J 74 31 ≠ 0) (t1 := (70, [some (vR 74), some (vI x)], [], MW b J M)) (t2 := (65, [some (vR 74), some (vI x)], [], MW b J M)) rfl (fun c62_2 => ?_) (fun c9 => by exfalso; omega)
  refine rch_ret cdK134 (rt := none) rfl trivial mw_c ?_
  exact hk

theorem ge_op (l : Launch) (E : AX) (b : Bool) (I0 L0 : Nat → Nat → Int) (Φ : Option AV → AW → Prop) (I L J M : Nat → Nat → Int) {s : Pst} {W : List Int} (h0 : Mp0 I) (hs : MSt I L J M s (some W)) (hW : W.length ≤ 99) (hb : s.2.2.length ≤ s.1) (hk : ∀ x J2 M2, OpQ I L s W x J2 M2 → Rch l E 6 134 (MW b I0 L0) 0 0 Φ (12, [some (vR 74), some (vI x)], [], MW b J2 M2)) : Rch l E 6 134 (MW b I0 L0) 0 0 Φ (12, [some (vR 74), some (vI 0)], [], MW b J M) := by
  have hz := (MSt_r h0 hs).2.2.1
  refine rch_run cdK134 (by decide) 2 (t' := (16, [some (vR 74), some (vI 0)], [vI (J 74 31)], MW b J M)) (ps := []) rfl trivial ?_
  refine rch_br cdK134 (cd := J 74 31 ≠ 0) (t1 := (58, [some (vR 74), some (vI 0)], [], MW b J M)) (t2 := (19, [some (vR 74), some (vI 0)], [], MW b J M)) rfl (fun c9 => by exfalso; omega) (fun c16_1 => ?_)
  refine rch_run cdK134 (by decide) 1 (t' := (20, [some (vR 74), some (vI 0)], [vI 0], MW b J M)) (ps := []) rfl trivial ?_
  refine rch_br cdK134 (cd := (0 : Int) = 0) (t1 := (39, [some (vR 74), some (vI 0)], [], MW b J M)) (t2 := (23, [some (vR 74), some (vI 0)], [], MW b J M)) rfl (fun _ => ?_) (fun c9 => absurd (by decide) c9)
  refine rch_run cdK134 (by decide) 1 (t' := (40, [some (vR 74), some (vI 0)], [vI 0], MW b J M)) (ps := []) rfl trivial ?_
  refine rch_br cdK134 (cd := (0 : Int) = 0) (t1 := (50, [some (vR 74), some (vI 0)], [], MW b J M)) (t2 := (43, [some (vR 74), some (vI 0)], [], MW b J M)) rfl (fun _ => ?_) (fun c9 => absurd (by decide) c9)
  refine rch_run cdK134 (by decide) 1 (t' := (51, [some (vR 74), some (vI 0)], [vR 74], MW b J M)) (ps := []) rfl trivial ?_
  refine rch_call (h' := 5) (k' := 135) (as := [vR 74]) (t1 := (54, [some (vR 74), some (vI 0)], [], MW b J M)) cdK134 rfl (k_operand l E b I L J M h0 hs hW hb) (by decide) mw_le ?_
  rintro rt9 w9 (⟨x9, J177, M177, rfl, rfl, hq9⟩) _ _
  show Rch l E 6 134 _ _ _ _ (54, [some (vR 74), some (vI 0)], [vI x9], MW b J177 M177)
  refine rch_run cdK134 (by decide) 2 (t' := (12, [some (vR 74), some (vI x9)], [], MW b J177 M177)) (ps := []) rfl trivial ?_
  exact hk _ _ _ hq9

theorem op1 {q : Prop} {W : AW} (hq : q) : ∀ (rt : Option AV) (w : AW), ((q ∧ rt = some (vI 1) ∧ w = W) ∨ (¬ q ∧ rt = some (vI 0) ∧ w = W)) → (rt = some (vI 1) ∧ w = W) := fun rt w h => by
  rcases h with h | h
  · exact h.2
  · exact absurd hq h.1
theorem op0 {q : Prop} {W : AW} (hq : ¬ q) : ∀ (rt : Option AV) (w : AW), ((q ∧ rt = some (vI 1) ∧ w = W) ∨ (¬ q ∧ rt = some (vI 0) ∧ w = W)) → (rt = some (vI 0) ∧ w = W) := fun rt w h => by
  rcases h with h | h
  · exact absurd h.1 hq
  · exact h.2
theorem ge_sign (l : Launch) (E : AX) (b : Bool) (I0 L0 : Nat → Nat → Int) (Φ : Option AV → AW → Prop) (I L J M : Nat → Nat → Int) {s : Pst} (Y : List Int) (w : Bool) (W : List Int) (h0 : Mp0 I) (hs : MSt I L J M s (some ((Y ++ wl w) ++ W))) (hY : ∀ c ∈ Y, c ≠ 6 ∧ c ≠ 8) (hW : Shp W) (hl : W.length ≤ 97) (hb : s.2.2.length + Y.length + 1 ≤ 500) (h9 : tK (I 97) (nM I) s.1 ≠ 59 ∨ W ≠ []) (hk : ∀ x J2 M2, SgQ I L s Y w W x J2 M2 → Rch l E 6 134 (MW b I0 L0) 0 0 Φ (12, [some (vR 74), some (vI x)], [], MW b J2 M2)) : Rch l E 6 134 (MW b I0 L0) 0 0 Φ (12, [some (vR 74), some (vI 1)], [], MW b J M) := by
  obtain ⟨r1, r2, hz, r4, r5, r6, r7⟩ := MSt_r h0 hs
  have hk59 := (sr_1 (tK (I 97) (nM I) s.1)).2.2.2.2.2.2
  rw [← r7] at hk59
  refine rch_run cdK134 (by decide) 2 (t' := (16, [some (vR 74), some (vI 1)], [vI (J 74 31)], MW b J M)) (ps := []) rfl trivial ?_
  refine rch_br cdK134 (cd := J 74 31 ≠ 0) (t1 := (58, [some (vR 74), some (vI 1)], [], MW b J M)) (t2 := (19, [some (vR 74), some (vI 1)], [], MW b J M)) rfl (fun c9 => by exfalso; omega) (fun c16_1 => ?_)
  refine rch_run cdK134 (by decide) 1 (t' := (20, [some (vR 74), some (vI 1)], [vI 1], MW b J M)) (ps := []) rfl trivial ?_
  refine rch_br cdK134 (cd := (1 : Int) = 0) (t1 := (39, [some (vR 74), some (vI 1)], [], MW b J M)) (t2 := (23, [some (vR 74), some (vI 1)], [], MW b J M)) rfl (fun c9 => absurd c9 (by decide)) (fun _ => ?_)
  refine rch_run cdK134 (by decide) 3 (t' := (29, [some (vR 74), some (vI 1)], [vI 59, vI (J 74 35)], MW b J M)) (ps := []) rfl trivial ?_
  refine rch_br cdK134 (cd := J 74 35 ≠ (59 : Int)) (t1 := (39, [some (vR 74), some (vI 1)], [], MW b J M)) (t2 := (32, [some (vR 74), some (vI 1)], [], MW b J M)) rfl (fun c29_3 => ?_) (fun c29_3 => ?_)
  · refine rch_run cdK134 (by decide) 1 (t' := (40, [some (vR 74), some (vI 1)], [vI 1], MW b J M)) (ps := []) rfl trivial ?_
    refine rch_br cdK134 (cd := (1 : Int) = 0) (t1 := (50, [some (vR 74), some (vI 1)], [], MW b J M)) (t2 := (43, [some (vR 74), some (vI 1)], [], MW b J M)) rfl (fun c9 => absurd c9 (by decide)) (fun _ => ?_)
    refine rch_run cdK134 (by decide) 1 (t' := (44, [some (vR 74), some (vI 1)], [vR 74], MW b J M)) (ps := []) rfl trivial ?_
    refine rch_call (h' := 4) (k' := 136) (as := [vR 74]) (t1 := (47, [some (vR 74), some (vI 1)], [], MW b J M)) cdK134 rfl (k_sign l E b I L J M Y w W h0 hs hY hW hl hb) (by decide) mw_le ?_
    rintro rt9 w9 (⟨x9, J178, M178, rfl, rfl, hq9⟩) _ _
    show Rch l E 6 134 _ _ _ _ (47, [some (vR 74), some (vI 1)], [vI x9], MW b J178 M178)
    refine rch_run cdK134 (by decide) 3 (t' := (12, [some (vR 74), some (vI x9)], [], MW b J178 M178)) (ps := []) rfl trivial ?_
    exact hk _ _ _ hq9
  · refine rch_run cdK134 (by decide) 1 (t' := (33, [some (vR 74), some (vI 1)], [vR 74], MW b J M)) (ps := []) rfl trivial ?_
    refine rch_call (h' := 1) (k' := 133) (as := [vR 74]) (t1 := (36, [some (vR 74), some (vI 1)], [], MW b J M)) cdK134 rfl (con_imp (k_isOpen l E b I L J M hs) (op1 ((mem_8 hY hW).mpr (by rcases h9 with h9 | h9; (exact absurd (hk59.mp (by omega)) h9); exact h9)))) (by decide) mw_le ?_
    rintro rt9 w9 (⟨rfl, rfl⟩) _ _
    show Rch l E 6 134 _ _ _ _ (36, [some (vR 74), some (vI 1)], [vI 1], MW b J M)
    refine rch_br cdK134 (cd := (1 : Int) = 0) (t1 := (58, [some (vR 74), some (vI 1)], [], MW b J M)) (t2 := (39, [some (vR 74), some (vI 1)], [], MW b J M)) rfl (fun c9 => absurd c9 (by decide)) (fun _ => ?_)
    refine rch_run cdK134 (by decide) 1 (t' := (40, [some (vR 74), some (vI 1)], [vI 1], MW b J M)) (ps := []) rfl trivial ?_
    refine rch_br cdK134 (cd := (1 : Int) = 0) (t1 := (50, [some (vR 74), some (vI 1)], [], MW b J M)) (t2 := (43, [some (vR 74), some (vI 1)], [], MW b J M)) rfl (fun c9 => absurd c9 (by decide)) (fun _ => ?_)
    refine rch_run cdK134 (by decide) 1 (t' := (44, [some (vR 74), some (vI 1)], [vR 74], MW b J M)) (ps := []) rfl trivial ?_
    refine rch_call (h' := 4) (k' := 136) (as := [vR 74]) (t1 := (47, [some (vR 74), some (vI 1)], [], MW b J M)) cdK134 rfl (k_sign l E b I L J M Y w W h0 hs hY hW hl hb) (by decide) mw_le ?_
    rintro rt9 w9 (⟨x9, J179, M179, rfl, rfl, hq9⟩) _ _
    show Rch l E 6 134 _ _ _ _ (47, [some (vR 74), some (vI 1)], [vI x9], MW b J179 M179)
    refine rch_run cdK134 (by decide) 3 (t' := (12, [some (vR 74), some (vI x9)], [], MW b J179 M179)) (ps := []) rfl trivial ?_
    exact hk _ _ _ hq9

theorem ge_end (l : Launch) (E : AX) (b : Bool) (I0 L0 : Nat → Nat → Int) (Φ : Option AV → AW → Prop) (I L J M : Nat → Nat → Int) {s : Pst} (Y : List Int) (w : Bool) (h0 : Mp0 I) (hs : MSt I L J M s (some ((Y ++ wl w) ++ []))) (hY : ∀ c ∈ Y, c ≠ 6 ∧ c ≠ 8) (hb : s.2.2.length + Y.length + 1 ≤ 500) (h9 : tK (I 97) (nM I) s.1 = 59) (hk : ∀ J2, MSt I L J2 M (flush (Y ++ wl w) s) (some []) → Φ none (MW b J2 M)) : Rch l E 6 134 (MW b I0 L0) 0 0 Φ (12, [some (vR 74), some (vI 1)], [], MW b J M) := by
  obtain ⟨r1, r2, hz, r4, r5, r6, r7⟩ := MSt_r h0 hs
  have hk59 := (sr_1 (tK (I 97) (nM I) s.1)).2.2.2.2.2.2
  rw [← r7] at hk59
  have hwl : (wl w).length ≤ 1 := by cases w <;> decide
  refine rch_run cdK134 (by decide) 2 (t' := (16, [some (vR 74), some (vI 1)], [vI (J 74 31)], MW b J M)) (ps := []) rfl trivial ?_
  refine rch_br cdK134 (cd := J 74 31 ≠ 0) (t1 := (58, [some (vR 74), some (vI 1)], [], MW b J M)) (t2 := (19, [some (vR 74), some (vI 1)], [], MW b J M)) rfl (fun c9 => by exfalso; omega) (fun c16_1 => ?_)
  refine rch_run cdK134 (by decide) 1 (t' := (20, [some (vR 74), some (vI 1)], [vI 1], MW b J M)) (ps := []) rfl trivial ?_
  refine rch_br cdK134 (cd := (1 : Int) = 0) (t1 := (39, [some (vR 74), some (vI 1)], [], MW b J M)) (t2 := (23, [some (vR 74), some (vI 1)], [], MW b J M)) rfl (fun c9 => absurd c9 (by decide)) (fun _ => ?_)
  refine rch_run cdK134 (by decide) 3 (t' := (29, [some (vR 74), some (vI 1)], [vI 59, vI (J 74 35)], MW b J M)) (ps := []) rfl trivial ?_
  refine rch_br cdK134 (cd := J 74 35 ≠ (59 : Int)) (t1 := (39, [some (vR 74), some (vI 1)], [], MW b J M)) (t2 := (32, [some (vR 74), some (vI 1)], [], MW b J M)) rfl (fun c9 => by exfalso; omega) (fun c29_3 => ?_)
  refine rch_run cdK134 (by decide) 1 (t' := (33, [some (vR 74), some (vI 1)], [vR 74], MW b J M)) (ps := []) rfl trivial ?_
  refine rch_call (h' := 1) (k' := 133) (as := [vR 74]) (t1 := (36, [some (vR 74), some (vI 1)], [], MW b J M)) cdK134 rfl (con_imp (k_isOpen l E b I L J M hs) (op0 (fun z => (mem_8 hY (Or.inl rfl)).mp z rfl))) (by decide) mw_le ?_
  rintro rt9 w9 (⟨rfl, rfl⟩) _ _
  show Rch l E 6 134 _ _ _ _ (36, [some (vR 74), some (vI 1)], [vI 0], MW b J M)
  refine rch_br cdK134 (cd := (0 : Int) = 0) (t1 := (58, [some (vR 74), some (vI 1)], [], MW b J M)) (t2 := (39, [some (vR 74), some (vI 1)], [], MW b J M)) rfl (fun _ => ?_) (fun c9 => absurd (by decide) c9)
  refine rch_run cdK134 (by decide) 2 (t' := (62, [some (vR 74), some (vI 1)], [vI (J 74 31)], MW b J M)) (ps := []) rfl trivial ?_
  refine rch_br cdK134 (cd := J 74 31 ≠ 0) (t1 := (70, [some (vR 74), some (vI 1)], [], MW b J M)) (t2 := (65, [some (vR 74), some (vI 1)], [], MW b J M)) rfl (fun c9 => by exfalso; omega) (fun c62_5 => ?_)
  refine rch_run cdK134 (by decide) 2 (t' := (67, [some (vR 74), some (vI 1)], [vI 0, vR 74], MW b J M)) (ps := []) rfl trivial ?_
  refine rch_call (h' := 3) (k' := 132) (as := [vR 74, vI 0]) (t1 := (70, [some (vR 74), some (vI 1)], [], MW b J M)) cdK134 rfl (k_settle l E b I L J M 0 (Y ++ wl w) [] hs (st_0 hY) (Or.inl rfl) (by rw [List.length_append]; omega)) (by decide) mw_le ?_
  rintro rt9 w9 (⟨J180, rfl, rfl, hs⟩) _ _
  show Rch l E 6 134 _ _ _ _ (70, [some (vR 74), some (vI 1)], [], MW b J180 M)
  refine rch_ret cdK134 (rt := none) rfl trivial mw_c ?_
  exact hk _ hs
