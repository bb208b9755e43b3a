theorem PtOK_c {bk : Nat} {I J : Nat → Nat → Int} (hbk : bk ≤ 7) (h : ∀ a j, a ≤ 60 → J a j = I a j) (hP : PtOK bk I) : PtOK bk J := by
  have e : ∀ a, a ≤ 60 → J a = I a := fun a ha => funext (fun j => h a j ha)
  have eT : thB J = thB I := funext (fun r => by unfold thB; rw [e 45 (by omega)])
  have eN : nTh J = nTh I := by unfold nTh; rw [eT]
  have eH : ∀ v i j, HBR J v i j ↔ HBR I v i j := fun v i j => by
    unfold HBR hHeld
    rw [e 32 (by omega), e 33 (by omega), e 34 (by omega), e 35 (by omega), e 36 (by omega), e 37 (by omega), e 44 (by omega), e 51 (by omega)]
  have eW : wtH J = wtH I := funext (fun i => funext (fun j => by unfold wtH; rw [eN, propext (eH true i j)]))
  have eO : woH J = woH I := funext (fun i => funext (fun j => by unfold woH; rw [eN, propext (eH false i j)]))
  have eS : scH bk J = scH bk I := funext (fun i => funext (fun j => by unfold scH; rw [e 51 (by omega)]; exact csc_c _ _ (fun a ha => e a (by omega))))
  unfold PtOK
  rw [eN, eT, eW, eO, eS, e 49 (by omega), e 50 (by omega), e 51 (by omega)]
  exact hP
theorem POK_c {bk : Nat} {I J : Nat → Nat → Int} (hbk : bk ≤ 7) (h : ∀ a j, a ≤ 60 → J a j = I a j) (hP : POK bk I) : POK bk J := by
  have e : ∀ a, a ≤ 60 → J a = I a := fun a ha => funext (fun j => h a j ha)
  obtain ⟨h1, h2, h3, h4, h5, h6⟩ := hP
  refine ⟨VOK_c (fun a j ha => h a j (by omega)) h1, by rw [e 21 (by omega), e 24 (by omega)]; exact h2, fun z => ?_, ?_, ?_, fun z1 z2 => ?_⟩
  · rw [h 0 1 (by omega)] at z
    rw [h 44 0 (by omega), h 44 1 (by omega)]
    exact SG_c (fun a j ha => h a j (by omega)) (h3 z)
  · unfold HR
    rw [e 32 (by omega), e 33 (by omega), e 34 (by omega)]
    exact h4
  · unfold BKk
    rw [e bk (by omega), e (bk + 1) (by omega), e (bk + 2) (by omega), e (bk + 3) (by omega), e (bk + 4) (by omega)]
    exact h5
  · rw [h 0 1 (by omega)] at z1
    rw [h 0 2 (by omega)] at z2
    exact PtOK_c hbk h (h6 z1 z2)
theorem PtOK_pos {bk : Nat} {J : Nat → Nat → Int} (h : PtOK bk J) (h0 : J 49 0 ≠ 0) {r : Nat} (hr : r < 10) (ht : thB J r = true) : 0 ≤ J 50 r := by
  obtain ⟨p1, p2, p3, p4⟩ := h
  have hl : cnt (thB J) r < nTh J := cnt_lt (T := thB J) hr ht
  rcases p4 with ⟨z, _⟩ | ⟨_, K, _, ⟨_, z⟩ | ⟨_, _, _, z, _⟩⟩
  · omega
  · exact absurd z h0
  · have a := z (nTh J - 1 - cnt (thB J) r) (by omega)
    rw [p2 r hr ht, show ((r : Int)).toNat = r by omega] at a
    rw [a]
    unfold dg
    omega
theorem LwK_mk {bk : Nat} {J : Nat → Nat → Int} {d k : Int} (hs : SG J d k) (hV : VOK J) (hG : GOK J) (hP : PtOK bk J) (hd : d ≤ 2147483647) (h66 : 0 ≤ J 66 0 ∧ J 66 0 ≤ 60) (h0 : J 49 0 ≠ 0) : LwK J := by
  refine ⟨hV.1, h66, hG.2.2.2.2.1, fun m hm => (hG.2.2.2.2.2 m hm).1, fun r hr h45 f f0 f5 => VgK_mk hs hV hG hP hd ⟨f0, f5⟩ ?_⟩
  have := PtOK_pos hP h0 hr (decide_eq_true h45)
  omega
/-- the class's list of wishes of a source -/
def LWR (bk : Nat) (I L J M : Nat → Nat → Int) (s : Int) : Prop := ∃ J1, Ptd bk (upI I 70 0 0) L J1 M (I 0 0) (I 0 0) ∧ Wsd J1 J s
theorem LWR_rg {bk : Nat} {I L J M : Nat → Nat → Int} {s : Int} (h : LWR bk I L J M s) : 0 ≤ J 70 0 ∧ J 70 0 ≤ 60 := by
  obtain ⟨J1, _, _, ⟨_, z⟩ | ⟨_, z, _⟩⟩ := h
  · omega
  · have := cnt_le (wQ J1 s) 60
    omega

theorem lp_lw_f (l : Launch) (E : AX) (I0 L0 I L : Nat → Nat → Int) (s : Int) (hK : LwK I) (hs : 0 ≤ s ∧ s < 6) (Φ : Option AV → AW → Prop) (hend : ∀ J, WsL I J s (6 * (I 17 0).toNat) → Φ none (MW false J L)) : ∀ (n9 : Nat) (r : Int) (J : Nat → Nat → Int), 0 ≤ r → r ≤ I 17 0 → WsL I J s (6 * r.toNat) → I 17 0 - r < (n9 : Int) → Rch l E 6 100 (MW false I0 L0) 0 0 (Φ) (26, [some (vR 0), some (vI s), some (vI r)], [], MW false J L) := by
  intro n9
  induction n9 with
  | zero =>
    intro r J h1 h2 h3 hm
    exfalso; omega
  | succ n9 ih =>
    intro r J h1 h2 h3 hm
    have hf9 := h3.1
    have hK1 := hK.1
    have q17 := hf9 17 0 (by omega)
    have q18 := hf9 18 r.toNat (by omega)
    have q45 := hf9 45 r.toNat (by omega)
    have q16 := hf9 16 s.toNat (by omega)
    have hi9 : (r + 1).toNat = r.toNat + 1 := by omega
    refine rch_run cdK100 (by decide) 4 (t' := (34, [some (vR 0), some (vI s), some (vI r)], [vI (J 17 0), vI r], MW false J L)) (ps := []) rfl trivial ?_
    refine rch_br cdK100 (cd := J 17 0 ≤ r) (t1 := (78, [some (vR 0), some (vI s), some (vI r)], [], MW false J L)) (t2 := (37, [some (vR 0), some (vI s), some (vI r)], [], MW false J L)) rfl (fun c34_1 => ?_) (fun c34_1 => ?_)
    · refine rch_ret cdK100 (rt := none) rfl trivial mw_c ?_
      exact hend J (by rw [show (I 17 0).toNat = r.toNat by omega]; exact h3)
    · refine rch_run cdK100 (by decide) 6 (t' := (47, [some (vR 0), some (vI s), some (vI r)], [vI s, vI (J 18 r.toNat)], MW false J L)) (ps := [0 ≤ r ∧ r < ((10 : Nat) : Int)]) rfl (by simp only [all_, i32, i64]; first | omega | (simp; done) | (simp; omega)) ?_
      refine rch_br cdK100 (cd := J 18 r.toNat ≠ s) (t1 := (72, [some (vR 0), some (vI s), some (vI r)], [], MW false J L)) (t2 := (50, [some (vR 0), some (vI s), some (vI r)], [], MW false J L)) rfl (fun c47_2 => ?_) (fun c47_2 => ?_)
      · refine rch_run cdK100 (by decide) 2 (t' := (26, [some (vR 0), some (vI s), some (vI (r + 1))], [], MW false J L)) (ps := [i32 (r + 1)]) rfl (by simp only [all_, i32, i64]; first | omega | (simp; done) | (simp; omega)) ?_
        exact ih (r + 1) J (by omega) (by omega) (by rw [hi9]; exact Ws_row h3 (fun z => by omega)) (by omega)
      · refine rch_run cdK100 (by decide) 3 (t' := (55, [some (vR 0), some (vI s), some (vI r)], [vI r, vR 44], MW false J L)) (ps := []) rfl trivial ?_
        refine rch_call (h' := 1) (k' := 36) (as := [vR 44, vI r]) (t1 := (58, [some (vR 0), some (vI s), some (vI r)], [], MW false J L)) cdK100 rfl (k_X5_isThere l E false J L r ) (by decide) mw_le ?_
        rintro rt9 w9 (⟨k77, rfl, rfl⟩ | ⟨k77, rfl, rfl⟩) _ _
        · show Rch l E 6 100 _ _ _ _ (58, [some (vR 0), some (vI s), some (vI r)], [vI 1], MW false J L)
          have k77 : 0 ≤ r ∧ r < 10 ∧ J 45 r.toNat ≠ 0 := k77
          refine rch_br cdK100 (cd := (1 : Int) = 0) (t1 := (72, [some (vR 0), some (vI s), some (vI r)], [], MW false J L)) (t2 := (61, [some (vR 0), some (vI s), some (vI r)], [], MW false J L)) rfl (fun c9 => absurd c9 (by decide)) (fun _ => ?_)
          refine rch_run cdK100 (by decide) 6 (t' := (69, [some (vR 0), some (vI s), some (vI r)], [vI (J 16 s.toNat), vI r, vR 0], MW false J L)) (ps := [0 ≤ s ∧ s < ((6 : Nat) : Int)]) rfl (by simp only [all_, i32, i64]; first | omega | (simp; done) | (simp; omega)) ?_
          refine rch_call (h' := 5) (k' := 101) (as := [vR 0, vI r, vI (J 16 s.toNat)]) (t1 := (72, [some (vR 0), some (vI s), some (vI r)], [], MW false J L)) cdK100 rfl (k_lwo l E false I J L s r (J 16 s.toNat) hK (by omega) hs (by omega) (by omega) q16 h3) (by decide) mw_le ?_
          rintro rt9 w9 (⟨J2, rfl, rfl, t2⟩) _ _
          show Rch l E 6 100 _ _ _ _ (72, [some (vR 0), some (vI s), some (vI r)], [], MW false J2 L)
          refine rch_run cdK100 (by decide) 2 (t' := (26, [some (vR 0), some (vI s), some (vI (r + 1))], [], MW false J2 L)) (ps := [i32 (r + 1)]) rfl (by simp only [all_, i32, i64]; first | omega | (simp; done) | (simp; omega)) ?_
          exact ih (r + 1) J2 (by omega) (by omega) (by rw [hi9]; exact t2) (by omega)
        · show Rch l E 6 100 _ _ _ _ (58, [some (vR 0), some (vI s), some (vI r)], [vI 0], MW false J L)
          have k77 : ¬ (0 ≤ r ∧ r < 10 ∧ J 45 r.toNat ≠ 0) := k77
          refine rch_br cdK100 (cd := (0 : Int) = 0) (t1 := (72, [some (vR 0), some (vI s), some (vI r)], [], MW false J L)) (t2 := (61, [some (vR 0), some (vI s), some (vI r)], [], MW false J L)) rfl (fun _ => ?_) (fun c9 => absurd (by decide) c9)
          refine rch_run cdK100 (by decide) 2 (t' := (26, [some (vR 0), some (vI s), some (vI (r + 1))], [], MW false J L)) (ps := [i32 (r + 1)]) rfl (by simp only [all_, i32, i64]; first | omega | (simp; done) | (simp; omega)) ?_
          exact ih (r + 1) J (by omega) (by omega) (by rw [hi9]; exact Ws_row h3 (fun z => by omega)) (by omega)

theorem k_lw_f (l : Launch) (E : AX) (I L : Nat → Nat → Int) (s : Int) (hP : POK 1 I) (hG : GOK I) (hd : I 0 0 ≤ 100000) (hs : 0 ≤ s ∧ s < 6) (h66 : 0 ≤ I 66 0 ∧ I 66 0 ≤ 60) : Con l E 6 100 [vR 0, vI s] (MW false I L) 0 0 (fun rt w => ∃ J M, rt = none ∧ w = MW false J M ∧ LWR 1 I L J M s) := by
  refine con_ok (fun hw9 hs9 => ?_)
  refine con_intro (by decide) (Nat.le_of_ble_eq_true rfl) ?_
  show Rch l E 6 100 _ _ _ _ (0, [some (vR 0), some (vI s), none], [], MW false I L)
  refine rch_run cdK100 (by decide) 9 (t' := (17, [some (vR 0), some (vI s), none], [vI (I 0 0), vI (I 0 0), vR 0], MW false (upI I 70 0 0) L)) (ps := []) rfl trivial ?_
  refine rch_call (h' := 5) (k' := 94) (as := [vR 0, vI (I 0 0), vI (I 0 0)]) (t1 := (20, [some (vR 0), some (vI s), none], [], MW false (upI I 70 0 0) L)) cdK100 rfl (k_part_f l E (upI I 70 0 0) L (I 0 0) (I 0 0) (POK_c (by omega) (fun a j ha => upI_ne (by omega)) hP)) (by decide) mw_le ?_
  rintro rt9 w9 (⟨J1, M1, rfl, rfl, t1⟩) _ _
  show Rch l E 6 100 _ _ _ _ (20, [some (vR 0), some (vI s), none], [vI (J1 49 0)], MW false J1 M1)
  have hV1 : VOK J1 := VOK_c (fun a j ha => by rw [t1.2.1 a j (by omega), upI_ne (by omega)]) hP.1
  have hG1 : GOK J1 := GOK_c (fun a j ha => by rw [t1.2.1 a j (by omega), upI_ne (by omega)]) hG
  have q66 : J1 66 0 = I 66 0 := by rw [t1.2.1 66 0 (by omega), upI_ne (by omega)]
  have q70 : J1 70 0 = 0 := by rw [t1.2.1 70 0 (by omega), upI_eq rfl rfl]
  have h01 := PtOK_01 t1.2.2.2.2.2
  refine rch_br cdK100 (cd := J1 49 0 ≠ 0) (t1 := (24, [some (vR 0), some (vI s), none], [], MW false J1 M1)) (t2 := (23, [some (vR 0), some (vI s), none], [], MW false J1 M1)) rfl (fun c20_1 => ?_) (fun c20_1 => ?_)
  · refine rch_run cdK100 (by decide) 2 (t' := (26, [some (vR 0), some (vI s), some (vI 0)], [], MW false J1 M1)) (ps := []) rfl trivial ?_
    have hK := LwK_mk t1.2.2.1 hV1 hG1 t1.2.2.2.2.2 (by omega) (by omega) (by omega)
    exact lp_lw_f l E I L J1 M1 s hK hs _ (fun J hW => ⟨J, M1, rfl, rfl, J1, t1, Ws_end hW (by have := hK.1; omega) (by have := hK.1; omega) (by omega)⟩) 11 0 J1 (by omega) hK.1.1 ⟨fun _ _ _ => rfl, q70, fun q hq => absurd hq (by simp)⟩ (by have := hK.1; omega)
  · refine rch_ret cdK100 (rt := none) rfl trivial mw_c ?_
    exact ⟨J1, M1, rfl, rfl, J1, t1, fun _ _ _ => rfl, Or.inl ⟨by omega, q70⟩⟩

theorem k_hasWish_f (l : Launch) (E : AX) (I L : Nat → Nat → Int) (s k : Int) (hP : POK 1 I) (hG : GOK I) (hd : I 0 0 ≤ 100000) (h66 : 0 ≤ I 66 0 ∧ I 66 0 ≤ 60) : Con l E 7 99 [vR 0, vI s, vI k] (MW false I L) 0 0 (fun rt w => ((0 ≤ s ∧ s < 6) ∧ ∃ J M, LWR 1 I L J M s ∧ (0 ≤ k ∧ k < J 70 0) ∧ rt = some (vI 1) ∧ w = MW false J M) ∨ ((0 ≤ s ∧ s < 6) ∧ ∃ J M, LWR 1 I L J M s ∧ ¬ (0 ≤ k ∧ k < J 70 0) ∧ rt = some (vI 0) ∧ w = MW false J M) ∨ (¬ (0 ≤ s ∧ s < 6) ∧ rt = some (vI 0) ∧ w = MW false I L)) := by
  refine con_ok (fun hw9 hs9 => ?_)
  refine con_intro (by decide) (Nat.le_of_ble_eq_true rfl) ?_
  show Rch l E 7 99 _ _ _ _ (0, [some (vR 0), some (vI s), some (vI k)], [], MW false I L)
  refine rch_run cdK99 (by decide) 1 (t' := (1, [some (vR 0), some (vI s), some (vI k)], [vI s], MW false I L)) (ps := []) rfl trivial ?_
  refine rch_call (h' := 1) (k' := 90) (as := [vI s]) (t1 := (4, [some (vR 0), some (vI s), some (vI k)], [], MW false I L)) cdK99 rfl (k_X11_isSource l E false I L s ) (by decide) mw_le ?_
  rintro rt9 w9 (⟨k78, rfl, rfl⟩ | ⟨k78, rfl, rfl⟩) _ _
  · show Rch l E 7 99 _ _ _ _ (4, [some (vR 0), some (vI s), some (vI k)], [vI 1], MW false I L)
    have k78 : 0 ≤ s ∧ s ≤ 5 := k78
    refine rch_br cdK99 (cd := (1 : Int) ≠ 0) (t1 := (9, [some (vR 0), some (vI s), some (vI k)], [], MW false I L)) (t2 := (7, [some (vR 0), some (vI s), some (vI k)], [], MW false I L)) rfl (fun _ => ?_) (fun c9 => absurd (by decide) c9)
    refine rch_run cdK99 (by decide) 2 (t' := (11, [some (vR 0), some (vI s), some (vI k)], [vI s, vR 0], MW false I L)) (ps := []) rfl trivial ?_
    refine rch_call (h' := 6) (k' := 100) (as := [vR 0, vI s]) (t1 := (14, [some (vR 0), some (vI s), some (vI k)], [], MW false I L)) cdK99 rfl (k_lw_f l E I L s hP hG hd (by omega) h66) (by decide) mw_le ?_
    rintro rt9 w9 (⟨J1, M1, rfl, rfl, t1⟩) _ _
    show Rch l E 7 99 _ _ _ _ (14, [some (vR 0), some (vI s), some (vI k)], [], MW false J1 M1)
    have hrg := LWR_rg t1
    refine rch_run cdK99 (by decide) 1 (t' := (15, [some (vR 0), some (vI s), some (vI k)], [vI k], MW false J1 M1)) (ps := []) rfl trivial ?_
    refine rch_br cdK99 (cd := k < 0) (t1 := (33, [some (vR 0), some (vI s), some (vI k)], [], MW false J1 M1)) (t2 := (18, [some (vR 0), some (vI s), some (vI k)], [], MW false J1 M1)) rfl (fun c15_2 => ?_) (fun c15_2 => ?_)
    · refine rch_run cdK99 (by decide) 1 (t' := (34, [some (vR 0), some (vI s), some (vI k)], [vI 0], MW false J1 M1)) (ps := []) rfl trivial ?_
      refine rch_ret cdK99 (rt := some (vI 0)) rfl (Or.inl rfl) mw_c ?_
      exact Or.inr (Or.inl ⟨by omega, J1, M1, t1, by omega, rfl, rfl⟩)
    · refine rch_run cdK99 (by decide) 4 (t' := (26, [some (vR 0), some (vI s), some (vI k)], [vI (J1 70 0), vI k], MW false J1 M1)) (ps := []) rfl trivial ?_
      refine rch_br cdK99 (cd := J1 70 0 ≤ k) (t1 := (33, [some (vR 0), some (vI s), some (vI k)], [], MW false J1 M1)) (t2 := (29, [some (vR 0), some (vI s), some (vI k)], [], MW false J1 M1)) rfl (fun c26_3 => ?_) (fun c26_3 => ?_)
      · refine rch_run cdK99 (by decide) 1 (t' := (34, [some (vR 0), some (vI s), some (vI k)], [vI 0], MW false J1 M1)) (ps := []) rfl trivial ?_
        refine rch_ret cdK99 (rt := some (vI 0)) rfl (Or.inl rfl) mw_c ?_
        exact Or.inr (Or.inl ⟨by omega, J1, M1, t1, by omega, rfl, rfl⟩)
      · refine rch_run cdK99 (by decide) 2 (t' := (34, [some (vR 0), some (vI s), some (vI k)], [vI 1], MW false J1 M1)) (ps := []) rfl trivial ?_
        refine rch_ret cdK99 (rt := some (vI 1)) rfl (Or.inr rfl) mw_c ?_
        exact Or.inl ⟨by omega, J1, M1, t1, by omega, rfl, rfl⟩
  · show Rch l E 7 99 _ _ _ _ (4, [some (vR 0), some (vI s), some (vI k)], [vI 0], MW false I L)
    have k78 : ¬ (0 ≤ s ∧ s ≤ 5) := k78
    refine rch_br cdK99 (cd := (0 : Int) ≠ 0) (t1 := (9, [some (vR 0), some (vI s), some (vI k)], [], MW false I L)) (t2 := (7, [some (vR 0), some (vI s), some (vI k)], [], MW false I L)) rfl (fun c9 => absurd c9 (by decide)) (fun _ => ?_)
    refine rch_run cdK99 (by decide) 1 (t' := (8, [some (vR 0), some (vI s), some (vI k)], [vI 0], MW false I L)) (ps := []) rfl trivial ?_
    refine rch_ret cdK99 (rt := some (vI 0)) rfl (Or.inl rfl) mw_c ?_
    exact Or.inr (Or.inr ⟨by omega, rfl, rfl⟩)

theorem k_changes_f (l : Launch) (E : AX) (I L : Nat → Nat → Int) (s : Int) (hP : POK 1 I) (hG : GOK I) (hd : I 0 0 ≤ 100000) (h66 : 0 ≤ I 66 0 ∧ I 66 0 ≤ 60) : Con l E 7 85 [vR 0, vI s] (MW false I L) 0 0 (fun rt w => ((0 ≤ s ∧ s < 6) ∧ ∃ J M, LWR 1 I L J M s ∧ rt = some (vI (J 70 0)) ∧ w = MW false J M) ∨ (¬ (0 ≤ s ∧ s < 6) ∧ rt = some (vI (-1)) ∧ w = MW false I L)) := by
  refine con_ok (fun hw9 hs9 => ?_)
  refine con_intro (by decide) (Nat.le_of_ble_eq_true rfl) ?_
  show Rch l E 7 85 _ _ _ _ (0, [some (vR 0), some (vI s)], [], MW false I L)
  refine rch_run cdK85 (by decide) 1 (t' := (1, [some (vR 0), some (vI s)], [vI s], MW false I L)) (ps := []) rfl trivial ?_
  refine rch_call (h' := 1) (k' := 90) (as := [vI s]) (t1 := (4, [some (vR 0), some (vI s)], [], MW false I L)) cdK85 rfl (k_X11_isSource l E false I L s ) (by decide) mw_le ?_
  rintro rt9 w9 (⟨k79, rfl, rfl⟩ | ⟨k79, rfl, rfl⟩) _ _
  · show Rch l E 7 85 _ _ _ _ (4, [some (vR 0), some (vI s)], [vI 1], MW false I L)
    have k79 : 0 ≤ s ∧ s ≤ 5 := k79
    refine rch_br cdK85 (cd := (1 : Int) ≠ 0) (t1 := (9, [some (vR 0), some (vI s)], [], MW false I L)) (t2 := (7, [some (vR 0), some (vI s)], [], MW false I L)) rfl (fun _ => ?_) (fun c9 => absurd (by decide) c9)
    refine rch_run cdK85 (by decide) 2 (t' := (11, [some (vR 0), some (vI s)], [vI s, vR 0], MW false I L)) (ps := []) rfl trivial ?_
    refine rch_call (h' := 6) (k' := 100) (as := [vR 0, vI s]) (t1 := (14, [some (vR 0), some (vI s)], [], MW false I L)) cdK85 rfl (k_lw_f l E I L s hP hG hd (by omega) h66) (by decide) mw_le ?_
    rintro rt9 w9 (⟨J1, M1, rfl, rfl, t1⟩) _ _
    show Rch l E 7 85 _ _ _ _ (14, [some (vR 0), some (vI s)], [], MW false J1 M1)
    have hrg := LWR_rg t1
    refine rch_run cdK85 (by decide) 3 (t' := (21, [some (vR 0), some (vI s)], [vI (J1 70 0)], MW false J1 M1)) (ps := []) rfl trivial ?_
    refine rch_ret cdK85 (rt := some (vI (J1 70 0))) rfl trivial mw_c ?_
    exact Or.inl ⟨by omega, J1, M1, t1, rfl, rfl⟩
  · show Rch l E 7 85 _ _ _ _ (4, [some (vR 0), some (vI s)], [vI 0], MW false I L)
    have k79 : ¬ (0 ≤ s ∧ s ≤ 5) := k79
    refine rch_br cdK85 (cd := (0 : Int) ≠ 0) (t1 := (9, [some (vR 0), some (vI s)], [], MW false I L)) (t2 := (7, [some (vR 0), some (vI s)], [], MW false I L)) rfl (fun c9 => absurd c9 (by decide)) (fun _ => ?_)
    refine rch_run cdK85 (by decide) 1 (t' := (8, [some (vR 0), some (vI s)], [vI (-1)], MW false I L)) (ps := []) rfl trivial ?_
    refine rch_ret cdK85 (rt := some (vI (-1))) rfl trivial mw_c ?_
    exact Or.inr ⟨by omega, rfl, rfl⟩

def whC (J : Nat → Nat → Int) (k q : Int) : Int := if q = 0 then J 71 k.toNat else if q = 1 then J 72 k.toNat else if q = 2 then J 73 k.toNat else -1

theorem k_change_f (l : Launch) (E : AX) (I L : Nat → Nat → Int) (s k q : Int) (hP : POK 1 I) (hG : GOK I) (hd : I 0 0 ≤ 100000) (h66 : 0 ≤ I 66 0 ∧ I 66 0 ≤ 60) : Con l E 8 86 [vR 0, vI s, vI k, vI q] (MW false I L) 0 0 (fun rt w => ((0 ≤ s ∧ s < 6) ∧ ∃ J M, LWR 1 I L J M s ∧ (0 ≤ k ∧ k < J 70 0) ∧ rt = some (vI (whC J k q)) ∧ w = MW false J M) ∨ ((0 ≤ s ∧ s < 6) ∧ ∃ J M, LWR 1 I L J M s ∧ ¬ (0 ≤ k ∧ k < J 70 0) ∧ rt = some (vI (-1)) ∧ w = MW false J M) ∨ (¬ (0 ≤ s ∧ s < 6) ∧ rt = some (vI (-1)) ∧ w = MW false I L)) := by
  refine con_ok (fun hw9 hs9 => ?_)
  refine con_intro (by decide) (Nat.le_of_ble_eq_true rfl) ?_
  show Rch l E 8 86 _ _ _ _ (0, [some (vR 0), some (vI s), some (vI k), some (vI q)], [], MW false I L)
  refine rch_run cdK86 (by decide) 3 (t' := (3, [some (vR 0), some (vI s), some (vI k), some (vI q)], [vI k, vI s, vR 0], MW false I L)) (ps := []) rfl trivial ?_
  refine rch_call (h' := 7) (k' := 99) (as := [vR 0, vI s, vI k]) (t1 := (6, [some (vR 0), some (vI s), some (vI k), some (vI q)], [], MW false I L)) cdK86 rfl (k_hasWish_f l E I L s k hP hG hd h66) (by decide) mw_le ?_
  rintro rt9 w9 (⟨c9, J1, M1, t1, k9, rfl, rfl⟩ | ⟨c9, J1, M1, t1, k9, rfl, rfl⟩ | ⟨c9, rfl, rfl⟩) _ _
  · show Rch l E 8 86 _ _ _ _ (6, [some (vR 0), some (vI s), some (vI k), some (vI q)], [vI 1], MW false J1 M1)
    have hrg := LWR_rg t1
    refine rch_br cdK86 (cd := (1 : Int) ≠ 0) (t1 := (11, [some (vR 0), some (vI s), some (vI k), some (vI q)], [], MW false J1 M1)) (t2 := (9, [some (vR 0), some (vI s), some (vI k), some (vI q)], [], MW false J1 M1)) rfl (fun _ => ?_) (fun c9 => absurd (by decide) c9)
    refine rch_run cdK86 (by decide) 1 (t' := (12, [some (vR 0), some (vI s), some (vI k), some (vI q)], [vI q], MW false J1 M1)) (ps := []) rfl trivial ?_
    refine rch_tsw (e := (12, .tableswitch 58 0 2 #[28, 38, 48], 28, 0, 0, 0)) (d := 58) (lo := 0) (hi := 2) (offs := #[28, 38, 48]) cdK86 rfl rfl (by decide) (by decide) (fun c12_2 => ?_) (fun n9 off9 c12_2 ho9 => ?_)
    · show Rch l E 8 86 _ _ _ _ (70, [some (vR 0), some (vI s), some (vI k), some (vI q)], [], MW false J1 M1)
      refine rch_run cdK86 (by decide) 1 (t' := (71, [some (vR 0), some (vI s), some (vI k), some (vI q)], [vI (-1)], MW false J1 M1)) (ps := []) rfl trivial ?_
      refine rch_ret cdK86 (rt := some (vI (-1))) rfl trivial mw_c ?_
      first | exact Or.inr (Or.inl ⟨c9, J1, M1, t1, k9, rfl, rfl⟩) | exact Or.inl ⟨c9, J1, M1, t1, k9, by unfold whC; rw [if_neg (by omega), if_neg (by omega), if_neg (by omega)], rfl⟩
    · match n9, c12_2, ho9 with
      | 0, c12_2, ho9 =>
        have c12_2 : q = 0 := by simpa using c12_2
        have ho9 : some (28 : Int) = some off9 := ho9
        cases ho9
        refine ⟨by decide, ?_⟩
        show Rch l E 8 86 _ _ _ _ (40, [some (vR 0), some (vI s), some (vI k), some (vI q)], [], MW false J1 M1)
        refine rch_run cdK86 (by decide) 5 (t' := (49, [some (vR 0), some (vI s), some (vI k), some (vI q)], [vI (J1 71 k.toNat)], MW false J1 M1)) (ps := [0 ≤ k ∧ k < ((60 : Nat) : Int)]) rfl (by simp only [all_, i32, i64]; first | omega | (simp; done) | (simp; omega)) ?_
        refine rch_ret cdK86 (rt := some (vI (J1 71 k.toNat))) rfl trivial mw_c ?_
        exact Or.inl ⟨c9, J1, M1, t1, k9, by unfold whC; first | rw [if_pos (by omega)] | rw [if_neg (by omega), if_pos (by omega)] | rw [if_neg (by omega), if_neg (by omega), if_pos (by omega)], rfl⟩
      | 1, c12_2, ho9 =>
        have c12_2 : q = 1 := by simpa using c12_2
        have ho9 : some (38 : Int) = some off9 := ho9
        cases ho9
        refine ⟨by decide, ?_⟩
        show Rch l E 8 86 _ _ _ _ (50, [some (vR 0), some (vI s), some (vI k), some (vI q)], [], MW false J1 M1)
        refine rch_run cdK86 (by decide) 5 (t' := (59, [some (vR 0), some (vI s), some (vI k), some (vI q)], [vI (J1 72 k.toNat)], MW false J1 M1)) (ps := [0 ≤ k ∧ k < ((60 : Nat) : Int)]) rfl (by simp only [all_, i32, i64]; first | omega | (simp; done) | (simp; omega)) ?_
        refine rch_ret cdK86 (rt := some (vI (J1 72 k.toNat))) rfl trivial mw_c ?_
        exact Or.inl ⟨c9, J1, M1, t1, k9, by unfold whC; first | rw [if_pos (by omega)] | rw [if_neg (by omega), if_pos (by omega)] | rw [if_neg (by omega), if_neg (by omega), if_pos (by omega)], rfl⟩
      | 2, c12_2, ho9 =>
        have c12_2 : q = 2 := by simpa using c12_2
        have ho9 : some (48 : Int) = some off9 := ho9
        cases ho9
        refine ⟨by decide, ?_⟩
        show Rch l E 8 86 _ _ _ _ (60, [some (vR 0), some (vI s), some (vI k), some (vI q)], [], MW false J1 M1)
        refine rch_run cdK86 (by decide) 5 (t' := (69, [some (vR 0), some (vI s), some (vI k), some (vI q)], [vI (J1 73 k.toNat)], MW false J1 M1)) (ps := [0 ≤ k ∧ k < ((60 : Nat) : Int)]) rfl (by simp only [all_, i32, i64]; first | omega | (simp; done) | (simp; omega)) ?_
        refine rch_ret cdK86 (rt := some (vI (J1 73 k.toNat))) rfl trivial mw_c ?_
        exact Or.inl ⟨c9, J1, M1, t1, k9, by unfold whC; first | rw [if_pos (by omega)] | rw [if_neg (by omega), if_pos (by omega)] | rw [if_neg (by omega), if_neg (by omega), if_pos (by omega)], rfl⟩
      | n9 + 3, _, ho9 => exact absurd ho9 (by simp)
  · show Rch l E 8 86 _ _ _ _ (6, [some (vR 0), some (vI s), some (vI k), some (vI q)], [vI 0], MW false J1 M1)
    refine rch_br cdK86 (cd := (0 : Int) ≠ 0) (t1 := (11, [some (vR 0), some (vI s), some (vI k), some (vI q)], [], MW false J1 M1)) (t2 := (9, [some (vR 0), some (vI s), some (vI k), some (vI q)], [], MW false J1 M1)) rfl (fun c9 => absurd c9 (by decide)) (fun _ => ?_)
    refine rch_run cdK86 (by decide) 1 (t' := (10, [some (vR 0), some (vI s), some (vI k), some (vI q)], [vI (-1)], MW false J1 M1)) (ps := []) rfl trivial ?_
    refine rch_ret cdK86 (rt := some (vI (-1))) rfl trivial mw_c ?_
    first | exact Or.inr (Or.inl ⟨c9, J1, M1, t1, k9, rfl, rfl⟩) | exact Or.inl ⟨c9, J1, M1, t1, k9, by unfold whC; rw [if_neg (by omega), if_neg (by omega), if_neg (by omega)], rfl⟩
  · show Rch l E 8 86 _ _ _ _ (6, [some (vR 0), some (vI s), some (vI k), some (vI q)], [vI 0], MW false I L)
    refine rch_br cdK86 (cd := (0 : Int) ≠ 0) (t1 := (11, [some (vR 0), some (vI s), some (vI k), some (vI q)], [], MW false I L)) (t2 := (9, [some (vR 0), some (vI s), some (vI k), some (vI q)], [], MW false I L)) rfl (fun c9 => absurd c9 (by decide)) (fun _ => ?_)
    refine rch_run cdK86 (by decide) 1 (t' := (10, [some (vR 0), some (vI s), some (vI k), some (vI q)], [vI (-1)], MW false I L)) (ps := []) rfl trivial ?_
    refine rch_ret cdK86 (rt := some (vI (-1))) rfl trivial mw_c ?_
    exact Or.inr (Or.inr ⟨c9, rfl, rfl⟩)

theorem k_accept_f (l : Launch) (E : AX) (I L : Nat → Nat → Int) (s k : Int) (hP : POK 1 I) (hG : GOK I) (hd : I 0 0 ≤ 100000) (h66 : 0 ≤ I 66 0 ∧ I 66 0 ≤ 60) : Con l E 8 87 [vR 0, vI s, vI k] (MW false I L) 0 0 (fun rt w => ((0 ≤ s ∧ s < 6) ∧ ∃ J M, LWR 1 I L J M s ∧ ((((0 ≤ k ∧ k < J 70 0) ∧ J 21 0 < 150) ∧ rt = some (vI 1) ∧ w = MW false (upI (upI (upI (upI (upI (upI (upI (upI J 0 1 0) 22 (J 21 0).toNat (J 71 k.toNat)) 23 (J 21 0).toNat (J 72 k.toNat)) 24 (J 21 0).toNat (J 73 k.toNat)) 25 (J 21 0).toNat (J 0 0)) 26 (J 21 0).toNat (J 0 0)) 27 (J 21 0).toNat 1) 21 0 ((J 21 0) + 1)) M) ∨ (¬ ((0 ≤ k ∧ k < J 70 0) ∧ J 21 0 < 150) ∧ rt = some (vI 0) ∧ w = MW false J M))) ∨ (¬ (0 ≤ s ∧ s < 6) ∧ rt = some (vI 0) ∧ w = MW false I L)) := by
  refine con_ok (fun hw9 hs9 => ?_)
  refine con_intro (by decide) (Nat.le_of_ble_eq_true rfl) ?_
  show Rch l E 8 87 _ _ _ _ (0, [some (vR 0), some (vI s), some (vI k)], [], MW false I L)
  refine rch_run cdK87 (by decide) 3 (t' := (3, [some (vR 0), some (vI s), some (vI k)], [vI k, vI s, vR 0], MW false I L)) (ps := []) rfl trivial ?_
  refine rch_call (h' := 7) (k' := 99) (as := [vR 0, vI s, vI k]) (t1 := (6, [some (vR 0), some (vI s), some (vI k)], [], MW false I L)) cdK87 rfl (k_hasWish_f l E I L s k hP hG hd h66) (by decide) mw_le ?_
  rintro rt9 w9 (⟨c9, J1, M1, t1, k9, rfl, rfl⟩ | ⟨c9, J1, M1, t1, k9, rfl, rfl⟩ | ⟨c9, rfl, rfl⟩) _ _
  · show Rch l E 8 87 _ _ _ _ (6, [some (vR 0), some (vI s), some (vI k)], [vI 1], MW false J1 M1)
    have hrg := LWR_rg t1
    have q21 : J1 21 0 = I 21 0 := by obtain ⟨J0, p0, p1⟩ := t1; rw [p1.1 21 0 (by omega), p0.2.1 21 0 (by omega), upI_ne (by omega)]
    have q66 : J1 66 0 = I 66 0 := by obtain ⟨J0, p0, p1⟩ := t1; rw [p1.1 66 0 (by omega), p0.2.1 66 0 (by omega), upI_ne (by omega)]
    have hv9 := hP.1.2.1
    refine rch_br cdK87 (cd := (1 : Int) = 0) (t1 := (22, [some (vR 0), some (vI s), some (vI k)], [], MW false J1 M1)) (t2 := (9, [some (vR 0), some (vI s), some (vI k)], [], MW false J1 M1)) rfl (fun c9 => absurd c9 (by decide)) (fun _ => ?_)
    refine rch_run cdK87 (by decide) 4 (t' := (19, [some (vR 0), some (vI s), some (vI k)], [vI 150, vI (J1 21 0)], MW false J1 M1)) (ps := []) rfl trivial ?_
    refine rch_br cdK87 (cd := J1 21 0 < (150 : Int)) (t1 := (24, [some (vR 0), some (vI s), some (vI k)], [], MW false J1 M1)) (t2 := (22, [some (vR 0), some (vI s), some (vI k)], [], MW false J1 M1)) rfl (fun c19_2 => ?_) (fun c19_2 => ?_)
    · refine rch_run cdK87 (by decide) 25 (t' := (69, [some (vR 0), some (vI s), some (vI k)], [vI 1, vI (J1 0 0), vI (J1 0 0), vI (J1 73 k.toNat), vI (J1 72 k.toNat), vI (J1 71 k.toNat), vR 21], MW false (upI J1 0 1 0) M1)) (ps := [(0 : Int) = 0 ∨ (0 : Int) = 1, 0 ≤ k ∧ k < ((60 : Nat) : Int), 0 ≤ k ∧ k < ((60 : Nat) : Int), 0 ≤ k ∧ k < ((60 : Nat) : Int)]) rfl (by simp only [all_, i32, i64]; first | omega | (simp; done) | (simp; omega)) ?_
      refine rch_call (h' := 1) (k' := 47) (as := [vR 21, vI (J1 71 k.toNat), vI (J1 72 k.toNat), vI (J1 73 k.toNat), vI (J1 0 0), vI (J1 0 0), vI 1]) (t1 := (72, [some (vR 0), some (vI s), some (vI k)], [], MW false (upI J1 0 1 0) M1)) cdK87 rfl (k_X7_add l E false (upI J1 0 1 0) M1 (J1 71 k.toNat) (J1 72 k.toNat) (J1 73 k.toNat) (J1 0 0) (J1 0 0) 1 (by show 0 ≤ J1 21 0 ∧ J1 21 0 ≤ 150; omega) (by show 1 = 0 ∨ 1 = 1; omega)) (by decide) mw_le ?_
      rintro rt9 w9 (⟨k80, rfl, rfl⟩ | ⟨k80, rfl, rfl⟩) _ _
      · show Rch l E 8 87 _ _ _ _ (72, [some (vR 0), some (vI s), some (vI k)], [], MW false (upI (upI (upI (upI (upI (upI (upI (upI J1 0 1 0) 22 (J1 21 0).toNat (J1 71 k.toNat)) 23 (J1 21 0).toNat (J1 72 k.toNat)) 24 (J1 21 0).toNat (J1 73 k.toNat)) 25 (J1 21 0).toNat (J1 0 0)) 26 (J1 21 0).toNat (J1 0 0)) 27 (J1 21 0).toNat 1) 21 0 ((J1 21 0) + 1)) M1)
        have k80 : J1 21 0 < 150 := k80
        refine rch_run cdK87 (by decide) 1 (t' := (73, [some (vR 0), some (vI s), some (vI k)], [vI 1], MW false (upI (upI (upI (upI (upI (upI (upI (upI J1 0 1 0) 22 (J1 21 0).toNat (J1 71 k.toNat)) 23 (J1 21 0).toNat (J1 72 k.toNat)) 24 (J1 21 0).toNat (J1 73 k.toNat)) 25 (J1 21 0).toNat (J1 0 0)) 26 (J1 21 0).toNat (J1 0 0)) 27 (J1 21 0).toNat 1) 21 0 ((J1 21 0) + 1)) M1)) (ps := []) rfl trivial ?_
        refine rch_ret cdK87 (rt := some (vI 1)) rfl (Or.inr rfl) mw_c ?_
        first | exact Or.inl ⟨c9, J1, M1, t1, Or.inl ⟨by omega, rfl, rfl⟩⟩ | exact Or.inl ⟨c9, J1, M1, t1, Or.inr ⟨by omega, rfl, rfl⟩⟩ | (exfalso; omega)
      · show Rch l E 8 87 _ _ _ _ (72, [some (vR 0), some (vI s), some (vI k)], [], MW false (upI J1 0 1 0) M1)
        have k80 : ¬ (J1 21 0 < 150) := k80
        refine rch_run cdK87 (by decide) 1 (t' := (73, [some (vR 0), some (vI s), some (vI k)], [vI 1], MW false (upI J1 0 1 0) M1)) (ps := []) rfl trivial ?_
        refine rch_ret cdK87 (rt := some (vI 1)) rfl (Or.inr rfl) mw_c ?_
        first | exact Or.inl ⟨c9, J1, M1, t1, Or.inl ⟨by omega, rfl, rfl⟩⟩ | exact Or.inl ⟨c9, J1, M1, t1, Or.inr ⟨by omega, rfl, rfl⟩⟩ | (exfalso; omega)
    · refine rch_run cdK87 (by decide) 1 (t' := (23, [some (vR 0), some (vI s), some (vI k)], [vI 0], MW false J1 M1)) (ps := []) rfl trivial ?_
      refine rch_ret cdK87 (rt := some (vI 0)) rfl (Or.inl rfl) mw_c ?_
      first | exact Or.inl ⟨c9, J1, M1, t1, Or.inl ⟨by omega, rfl, rfl⟩⟩ | exact Or.inl ⟨c9, J1, M1, t1, Or.inr ⟨by omega, rfl, rfl⟩⟩ | (exfalso; omega)
  · show Rch l E 8 87 _ _ _ _ (6, [some (vR 0), some (vI s), some (vI k)], [vI 0], MW false J1 M1)
    refine rch_br cdK87 (cd := (0 : Int) = 0) (t1 := (22, [some (vR 0), some (vI s), some (vI k)], [], MW false J1 M1)) (t2 := (9, [some (vR 0), some (vI s), some (vI k)], [], MW false J1 M1)) rfl (fun _ => ?_) (fun c9 => absurd (by decide) c9)
    refine rch_run cdK87 (by decide) 1 (t' := (23, [some (vR 0), some (vI s), some (vI k)], [vI 0], MW false J1 M1)) (ps := []) rfl trivial ?_
    refine rch_ret cdK87 (rt := some (vI 0)) rfl (Or.inl rfl) mw_c ?_
    first | exact Or.inl ⟨c9, J1, M1, t1, Or.inl ⟨by omega, rfl, rfl⟩⟩ | exact Or.inl ⟨c9, J1, M1, t1, Or.inr ⟨by omega, rfl, rfl⟩⟩ | (exfalso; omega)
  · show Rch l E 8 87 _ _ _ _ (6, [some (vR 0), some (vI s), some (vI k)], [vI 0], MW false I L)
    refine rch_br cdK87 (cd := (0 : Int) = 0) (t1 := (22, [some (vR 0), some (vI s), some (vI k)], [], MW false I L)) (t2 := (9, [some (vR 0), some (vI s), some (vI k)], [], MW false I L)) rfl (fun _ => ?_) (fun c9 => absurd (by decide) c9)
    refine rch_run cdK87 (by decide) 1 (t' := (23, [some (vR 0), some (vI s), some (vI k)], [vI 0], MW false I L)) (ps := []) rfl trivial ?_
    refine rch_ret cdK87 (rt := some (vI 0)) rfl (Or.inl rfl) mw_c ?_
    exact Or.inr ⟨c9, rfl, rfl⟩

theorem k_refuse_f (l : Launch) (E : AX) (I L : Nat → Nat → Int) (s k : Int) (hP : POK 1 I) (hG : GOK I) (hd : I 0 0 ≤ 100000) (h66 : 0 ≤ I 66 0 ∧ I 66 0 ≤ 60) : Con l E 8 88 [vR 0, vI s, vI k] (MW false I L) 0 0 (fun rt w => ((0 ≤ s ∧ s < 6) ∧ ∃ J M, LWR 1 I L J M s ∧ ((((0 ≤ k ∧ k < J 70 0) ∧ J 66 0 < 60) ∧ rt = some (vI 1) ∧ w = MW false (upI (upI (upI (upI J 67 (J 66 0).toNat (J 71 k.toNat)) 68 (J 66 0).toNat (J 72 k.toNat)) 69 (J 66 0).toNat (J 73 k.toNat)) 66 0 ((J 66 0) + 1)) M) ∨ (¬ ((0 ≤ k ∧ k < J 70 0) ∧ J 66 0 < 60) ∧ rt = some (vI 0) ∧ w = MW false J M))) ∨ (¬ (0 ≤ s ∧ s < 6) ∧ rt = some (vI 0) ∧ w = MW false I L)) := by
  refine con_ok (fun hw9 hs9 => ?_)
  refine con_intro (by decide) (Nat.le_of_ble_eq_true rfl) ?_
  show Rch l E 8 88 _ _ _ _ (0, [some (vR 0), some (vI s), some (vI k)], [], MW false I L)
  refine rch_run cdK88 (by decide) 3 (t' := (3, [some (vR 0), some (vI s), some (vI k)], [vI k, vI s, vR 0], MW false I L)) (ps := []) rfl trivial ?_
  refine rch_call (h' := 7) (k' := 99) (as := [vR 0, vI s, vI k]) (t1 := (6, [some (vR 0), some (vI s), some (vI k)], [], MW false I L)) cdK88 rfl (k_hasWish_f l E I L s k hP hG hd h66) (by decide) mw_le ?_
  rintro rt9 w9 (⟨c9, J1, M1, t1, k9, rfl, rfl⟩ | ⟨c9, J1, M1, t1, k9, rfl, rfl⟩ | ⟨c9, rfl, rfl⟩) _ _
  · show Rch l E 8 88 _ _ _ _ (6, [some (vR 0), some (vI s), some (vI k)], [vI 1], MW false J1 M1)
    have hrg := LWR_rg t1
    have q21 : J1 21 0 = I 21 0 := by obtain ⟨J0, p0, p1⟩ := t1; rw [p1.1 21 0 (by omega), p0.2.1 21 0 (by omega), upI_ne (by omega)]
    have q66 : J1 66 0 = I 66 0 := by obtain ⟨J0, p0, p1⟩ := t1; rw [p1.1 66 0 (by omega), p0.2.1 66 0 (by omega), upI_ne (by omega)]
    have hv9 := hP.1.2.1
    refine rch_br cdK88 (cd := (1 : Int) = 0) (t1 := (21, [some (vR 0), some (vI s), some (vI k)], [], MW false J1 M1)) (t2 := (9, [some (vR 0), some (vI s), some (vI k)], [], MW false J1 M1)) rfl (fun c9 => absurd c9 (by decide)) (fun _ => ?_)
    refine rch_run cdK88 (by decide) 4 (t' := (18, [some (vR 0), some (vI s), some (vI k)], [vI 60, vI (J1 66 0)], MW false J1 M1)) (ps := []) rfl trivial ?_
    refine rch_br cdK88 (cd := J1 66 0 < (60 : Int)) (t1 := (23, [some (vR 0), some (vI s), some (vI k)], [], MW false J1 M1)) (t2 := (21, [some (vR 0), some (vI s), some (vI k)], [], MW false J1 M1)) rfl (fun c18_2 => ?_) (fun c18_2 => ?_)
    · refine rch_run cdK88 (by decide) 17 (t' := (54, [some (vR 0), some (vI s), some (vI k)], [vI (J1 73 k.toNat), vI (J1 72 k.toNat), vI (J1 71 k.toNat), vR 66], MW false J1 M1)) (ps := [0 ≤ k ∧ k < ((60 : Nat) : Int), 0 ≤ k ∧ k < ((60 : Nat) : Int), 0 ≤ k ∧ k < ((60 : Nat) : Int)]) rfl (by simp only [all_, i32, i64]; first | omega | (simp; done) | (simp; omega)) ?_
      refine rch_call (h' := 1) (k' := 59) (as := [vR 66, vI (J1 71 k.toNat), vI (J1 72 k.toNat), vI (J1 73 k.toNat)]) (t1 := (57, [some (vR 0), some (vI s), some (vI k)], [], MW false J1 M1)) cdK88 rfl (k_refused_add l E false J1 M1 (J1 71 k.toNat) (J1 72 k.toNat) (J1 73 k.toNat) (by show 0 ≤ J1 66 0 ∧ J1 66 0 ≤ 60; omega)) (by decide) mw_le ?_
      rintro rt9 w9 (⟨k81, rfl, rfl⟩ | ⟨k81, rfl, rfl⟩) _ _
      · show Rch l E 8 88 _ _ _ _ (57, [some (vR 0), some (vI s), some (vI k)], [], MW false (upI (upI (upI (upI J1 67 (J1 66 0).toNat (J1 71 k.toNat)) 68 (J1 66 0).toNat (J1 72 k.toNat)) 69 (J1 66 0).toNat (J1 73 k.toNat)) 66 0 ((J1 66 0) + 1)) M1)
        have k81 : J1 66 0 < 60 := k81
        refine rch_run cdK88 (by decide) 1 (t' := (58, [some (vR 0), some (vI s), some (vI k)], [vI 1], MW false (upI (upI (upI (upI J1 67 (J1 66 0).toNat (J1 71 k.toNat)) 68 (J1 66 0).toNat (J1 72 k.toNat)) 69 (J1 66 0).toNat (J1 73 k.toNat)) 66 0 ((J1 66 0) + 1)) M1)) (ps := []) rfl trivial ?_
        refine rch_ret cdK88 (rt := some (vI 1)) rfl (Or.inr rfl) mw_c ?_
        first | exact Or.inl ⟨c9, J1, M1, t1, Or.inl ⟨by omega, rfl, rfl⟩⟩ | exact Or.inl ⟨c9, J1, M1, t1, Or.inr ⟨by omega, rfl, rfl⟩⟩ | (exfalso; omega)
      · show Rch l E 8 88 _ _ _ _ (57, [some (vR 0), some (vI s), some (vI k)], [], MW false J1 M1)
        have k81 : ¬ (J1 66 0 < 60) := k81
        refine rch_run cdK88 (by decide) 1 (t' := (58, [some (vR 0), some (vI s), some (vI k)], [vI 1], MW false J1 M1)) (ps := []) rfl trivial ?_
        refine rch_ret cdK88 (rt := some (vI 1)) rfl (Or.inr rfl) mw_c ?_
        first | exact Or.inl ⟨c9, J1, M1, t1, Or.inl ⟨by omega, rfl, rfl⟩⟩ | exact Or.inl ⟨c9, J1, M1, t1, Or.inr ⟨by omega, rfl, rfl⟩⟩ | (exfalso; omega)
    · refine rch_run cdK88 (by decide) 1 (t' := (22, [some (vR 0), some (vI s), some (vI k)], [vI 0], MW false J1 M1)) (ps := []) rfl trivial ?_
      refine rch_ret cdK88 (rt := some (vI 0)) rfl (Or.inl rfl) mw_c ?_
      first | exact Or.inl ⟨c9, J1, M1, t1, Or.inl ⟨by omega, rfl, rfl⟩⟩ | exact Or.inl ⟨c9, J1, M1, t1, Or.inr ⟨by omega, rfl, rfl⟩⟩ | (exfalso; omega)
  · show Rch l E 8 88 _ _ _ _ (6, [some (vR 0), some (vI s), some (vI k)], [vI 0], MW false J1 M1)
    refine rch_br cdK88 (cd := (0 : Int) = 0) (t1 := (21, [some (vR 0), some (vI s), some (vI k)], [], MW false J1 M1)) (t2 := (9, [some (vR 0), some (vI s), some (vI k)], [], MW false J1 M1)) rfl (fun _ => ?_) (fun c9 => absurd (by decide) c9)
    refine rch_run cdK88 (by decide) 1 (t' := (22, [some (vR 0), some (vI s), some (vI k)], [vI 0], MW false J1 M1)) (ps := []) rfl trivial ?_
    refine rch_ret cdK88 (rt := some (vI 0)) rfl (Or.inl rfl) mw_c ?_
    first | exact Or.inl ⟨c9, J1, M1, t1, Or.inl ⟨by omega, rfl, rfl⟩⟩ | exact Or.inl ⟨c9, J1, M1, t1, Or.inr ⟨by omega, rfl, rfl⟩⟩ | (exfalso; omega)
  · show Rch l E 8 88 _ _ _ _ (6, [some (vR 0), some (vI s), some (vI k)], [vI 0], MW false I L)
    refine rch_br cdK88 (cd := (0 : Int) = 0) (t1 := (21, [some (vR 0), some (vI s), some (vI k)], [], MW false I L)) (t2 := (9, [some (vR 0), some (vI s), some (vI k)], [], MW false I L)) rfl (fun _ => ?_) (fun c9 => absurd (by decide) c9)
    refine rch_run cdK88 (by decide) 1 (t' := (22, [some (vR 0), some (vI s), some (vI k)], [vI 0], MW false I L)) (ps := []) rfl trivial ?_
    refine rch_ret cdK88 (rt := some (vI 0)) rfl (Or.inl rfl) mw_c ?_
    exact Or.inr ⟨c9, rfl, rfl⟩

theorem lp_lw_t (l : Launch) (E : AX) (I0 L0 I L : Nat → Nat → Int) (s : Int) (hK : LwK I) (hs : 0 ≤ s ∧ s < 6) (Φ : Option AV → AW → Prop) (hend : ∀ J, WsL I J s (6 * (I 17 0).toNat) → Φ none (MW true J L)) : ∀ (n9 : Nat) (r : Int) (J : Nat → Nat → Int), 0 ≤ r → r ≤ I 17 0 → WsL I J s (6 * r.toNat) → I 17 0 - r < (n9 : Int) → Rch l E 6 100 (MW true I0 L0) 0 0 (Φ) (26, [some (vR 0), some (vI s), some (vI r)], [], MW true J L) := by
  intro n9
  induction n9 with
  | zero =>
    intro r J h1 h2 h3 hm
    exfalso; omega
  | succ n9 ih =>
    intro r J h1 h2 h3 hm
    have hf9 := h3.1
    have hK1 := hK.1
    have q17 := hf9 17 0 (by omega)
    have q18 := hf9 18 r.toNat (by omega)
    have q45 := hf9 45 r.toNat (by omega)
    have q16 := hf9 16 s.toNat (by omega)
    have hi9 : (r + 1).toNat = r.toNat + 1 := by omega
    refine rch_run cdK100 (by decide) 4 (t' := (34, [some (vR 0), some (vI s), some (vI r)], [vI (J 17 0), vI r], MW true J L)) (ps := []) rfl trivial ?_
    refine rch_br cdK100 (cd := J 17 0 ≤ r) (t1 := (78, [some (vR 0), some (vI s), some (vI r)], [], MW true J L)) (t2 := (37, [some (vR 0), some (vI s), some (vI r)], [], MW true J L)) rfl (fun c34_1 => ?_) (fun c34_1 => ?_)
    · refine rch_ret cdK100 (rt := none) rfl trivial mw_c ?_
      exact hend J (by rw [show (I 17 0).toNat = r.toNat by omega]; exact h3)
    · refine rch_run cdK100 (by decide) 6 (t' := (47, [some (vR 0), some (vI s), some (vI r)], [vI s, vI (J 18 r.toNat)], MW true J L)) (ps := [0 ≤ r ∧ r < ((10 : Nat) : Int)]) rfl (by simp only [all_, i32, i64]; first | omega | (simp; done) | (simp; omega)) ?_
      refine rch_br cdK100 (cd := J 18 r.toNat ≠ s) (t1 := (72, [some (vR 0), some (vI s), some (vI r)], [], MW true J L)) (t2 := (50, [some (vR 0), some (vI s), some (vI r)], [], MW true J L)) rfl (fun c47_2 => ?_) (fun c47_2 => ?_)
      · refine rch_run cdK100 (by decide) 2 (t' := (26, [some (vR 0), some (vI s), some (vI (r + 1))], [], MW true J L)) (ps := [i32 (r + 1)]) rfl (by simp only [all_, i32, i64]; first | omega | (simp; done) | (simp; omega)) ?_
        exact ih (r + 1) J (by omega) (by omega) (by rw [hi9]; exact Ws_row h3 (fun z => by omega)) (by omega)
      · refine rch_run cdK100 (by decide) 3 (t' := (55, [some (vR 0), some (vI s), some (vI r)], [vI r, vR 44], MW true J L)) (ps := []) rfl trivial ?_
        refine rch_call (h' := 1) (k' := 36) (as := [vR 44, vI r]) (t1 := (58, [some (vR 0), some (vI s), some (vI r)], [], MW true J L)) cdK100 rfl (k_X5_isThere l E true J L r ) (by decide) mw_le ?_
        rintro rt9 w9 (⟨k82, rfl, rfl⟩ | ⟨k82, rfl, rfl⟩) _ _
        · show Rch l E 6 100 _ _ _ _ (58, [some (vR 0), some (vI s), some (vI r)], [vI 1], MW true J L)
          have k82 : 0 ≤ r ∧ r < 10 ∧ J 45 r.toNat ≠ 0 := k82
          refine rch_br cdK100 (cd := (1 : Int) = 0) (t1 := (72, [some (vR 0), some (vI s), some (vI r)], [], MW true J L)) (t2 := (61, [some (vR 0), some (vI s), some (vI r)], [], MW true J L)) rfl (fun c9 => absurd c9 (by decide)) (fun _ => ?_)
          refine rch_run cdK100 (by decide) 6 (t' := (69, [some (vR 0), some (vI s), some (vI r)], [vI (J 16 s.toNat), vI r, vR 0], MW true J L)) (ps := [0 ≤ s ∧ s < ((6 : Nat) : Int)]) rfl (by simp only [all_, i32, i64]; first | omega | (simp; done) | (simp; omega)) ?_
          refine rch_call (h' := 5) (k' := 101) (as := [vR 0, vI r, vI (J 16 s.toNat)]) (t1 := (72, [some (vR 0), some (vI s), some (vI r)], [], MW true J L)) cdK100 rfl (k_lwo l E true I J L s r (J 16 s.toNat) hK (by omega) hs (by omega) (by omega) q16 h3) (by decide) mw_le ?_
          rintro rt9 w9 (⟨J2, rfl, rfl, t2⟩) _ _
          show Rch l E 6 100 _ _ _ _ (72, [some (vR 0), some (vI s), some (vI r)], [], MW true J2 L)
          refine rch_run cdK100 (by decide) 2 (t' := (26, [some (vR 0), some (vI s), some (vI (r + 1))], [], MW true J2 L)) (ps := [i32 (r + 1)]) rfl (by simp only [all_, i32, i64]; first | omega | (simp; done) | (simp; omega)) ?_
          exact ih (r + 1) J2 (by omega) (by omega) (by rw [hi9]; exact t2) (by omega)
        · show Rch l E 6 100 _ _ _ _ (58, [some (vR 0), some (vI s), some (vI r)], [vI 0], MW true J L)
          have k82 : ¬ (0 ≤ r ∧ r < 10 ∧ J 45 r.toNat ≠ 0) := k82
          refine rch_br cdK100 (cd := (0 : Int) = 0) (t1 := (72, [some (vR 0), some (vI s), some (vI r)], [], MW true J L)) (t2 := (61, [some (vR 0), some (vI s), some (vI r)], [], MW true J L)) rfl (fun _ => ?_) (fun c9 => absurd (by decide) c9)
          refine rch_run cdK100 (by decide) 2 (t' := (26, [some (vR 0), some (vI s), some (vI (r + 1))], [], MW true J L)) (ps := [i32 (r + 1)]) rfl (by simp only [all_, i32, i64]; first | omega | (simp; done) | (simp; omega)) ?_
          exact ih (r + 1) J (by omega) (by omega) (by rw [hi9]; exact Ws_row h3 (fun z => by omega)) (by omega)

theorem k_lw_t (l : Launch) (E : AX) (I L : Nat → Nat → Int) (s : Int) (hP : POK 7 I) (hG : GOK I) (hd : I 0 0 ≤ 100000) (hs : 0 ≤ s ∧ s < 6) (h66 : 0 ≤ I 66 0 ∧ I 66 0 ≤ 60) : Con l E 6 100 [vR 0, vI s] (MW true I L) 0 0 (fun rt w => ∃ J M, rt = none ∧ w = MW true J M ∧ LWR 7 I L J M s) := by
  refine con_ok (fun hw9 hs9 => ?_)
  refine con_intro (by decide) (Nat.le_of_ble_eq_true rfl) ?_
  show Rch l E 6 100 _ _ _ _ (0, [some (vR 0), some (vI s), none], [], MW true I L)
  refine rch_run cdK100 (by decide) 9 (t' := (17, [some (vR 0), some (vI s), none], [vI (I 0 0), vI (I 0 0), vR 0], MW true (upI I 70 0 0) L)) (ps := []) rfl trivial ?_
  refine rch_call (h' := 5) (k' := 94) (as := [vR 0, vI (I 0 0), vI (I 0 0)]) (t1 := (20, [some (vR 0), some (vI s), none], [], MW true (upI I 70 0 0) L)) cdK100 rfl (k_part_t l E (upI I 70 0 0) L (I 0 0) (I 0 0) (POK_c (by omega) (fun a j ha => upI_ne (by omega)) hP)) (by decide) mw_le ?_
  rintro rt9 w9 (⟨J1, M1, rfl, rfl, t1⟩) _ _
  show Rch l E 6 100 _ _ _ _ (20, [some (vR 0), some (vI s), none], [vI (J1 49 0)], MW true J1 M1)
  have hV1 : VOK J1 := VOK_c (fun a j ha => by rw [t1.2.1 a j (by omega), upI_ne (by omega)]) hP.1
  have hG1 : GOK J1 := GOK_c (fun a j ha => by rw [t1.2.1 a j (by omega), upI_ne (by omega)]) hG
  have q66 : J1 66 0 = I 66 0 := by rw [t1.2.1 66 0 (by omega), upI_ne (by omega)]
  have q70 : J1 70 0 = 0 := by rw [t1.2.1 70 0 (by omega), upI_eq rfl rfl]
  have h01 := PtOK_01 t1.2.2.2.2.2
  refine rch_br cdK100 (cd := J1 49 0 ≠ 0) (t1 := (24, [some (vR 0), some (vI s), none], [], MW true J1 M1)) (t2 := (23, [some (vR 0), some (vI s), none], [], MW true J1 M1)) rfl (fun c20_1 => ?_) (fun c20_1 => ?_)
  · refine rch_run cdK100 (by decide) 2 (t' := (26, [some (vR 0), some (vI s), some (vI 0)], [], MW true J1 M1)) (ps := []) rfl trivial ?_
    have hK := LwK_mk t1.2.2.1 hV1 hG1 t1.2.2.2.2.2 (by omega) (by omega) (by omega)
    exact lp_lw_t l E I L J1 M1 s hK hs _ (fun J hW => ⟨J, M1, rfl, rfl, J1, t1, Ws_end hW (by have := hK.1; omega) (by have := hK.1; omega) (by omega)⟩) 11 0 J1 (by omega) hK.1.1 ⟨fun _ _ _ => rfl, q70, fun q hq => absurd hq (by simp)⟩ (by have := hK.1; omega)
  · refine rch_ret cdK100 (rt := none) rfl trivial mw_c ?_
    exact ⟨J1, M1, rfl, rfl, J1, t1, fun _ _ _ => rfl, Or.inl ⟨by omega, q70⟩⟩

theorem k_hasWish_t (l : Launch) (E : AX) (I L : Nat → Nat → Int) (s k : Int) (hP : POK 7 I) (hG : GOK I) (hd : I 0 0 ≤ 100000) (h66 : 0 ≤ I 66 0 ∧ I 66 0 ≤ 60) : Con l E 7 99 [vR 0, vI s, vI k] (MW true I L) 0 0 (fun rt w => ((0 ≤ s ∧ s < 6) ∧ ∃ J M, LWR 7 I L J M s ∧ (0 ≤ k ∧ k < J 70 0) ∧ rt = some (vI 1) ∧ w = MW true J M) ∨ ((0 ≤ s ∧ s < 6) ∧ ∃ J M, LWR 7 I L J M s ∧ ¬ (0 ≤ k ∧ k < J 70 0) ∧ rt = some (vI 0) ∧ w = MW true J M) ∨ (¬ (0 ≤ s ∧ s < 6) ∧ rt = some (vI 0) ∧ w = MW true I L)) := by
  refine con_ok (fun hw9 hs9 => ?_)
  refine con_intro (by decide) (Nat.le_of_ble_eq_true rfl) ?_
  show Rch l E 7 99 _ _ _ _ (0, [some (vR 0), some (vI s), some (vI k)], [], MW true I L)
  refine rch_run cdK99 (by decide) 1 (t' := (1, [some (vR 0), some (vI s), some (vI k)], [vI s], MW true I L)) (ps := []) rfl trivial ?_
  refine rch_call (h' := 1) (k' := 90) (as := [vI s]) (t1 := (4, [some (vR 0), some (vI s), some (vI k)], [], MW true I L)) cdK99 rfl (k_X11_isSource l E true I L s ) (by decide) mw_le ?_
  rintro rt9 w9 (⟨k83, rfl, rfl⟩ | ⟨k83, rfl, rfl⟩) _ _
  · show Rch l E 7 99 _ _ _ _ (4, [some (vR 0), some (vI s), some (vI k)], [vI 1], MW true I L)
    have k83 : 0 ≤ s ∧ s ≤ 5 := k83
    refine rch_br cdK99 (cd := (1 : Int) ≠ 0) (t1 := (9, [some (vR 0), some (vI s), some (vI k)], [], MW true I L)) (t2 := (7, [some (vR 0), some (vI s), some (vI k)], [], MW true I L)) rfl (fun _ => ?_) (fun c9 => absurd (by decide) c9)
    refine rch_run cdK99 (by decide) 2 (t' := (11, [some (vR 0), some (vI s), some (vI k)], [vI s, vR 0], MW true I L)) (ps := []) rfl trivial ?_
    refine rch_call (h' := 6) (k' := 100) (as := [vR 0, vI s]) (t1 := (14, [some (vR 0), some (vI s), some (vI k)], [], MW true I L)) cdK99 rfl (k_lw_t l E I L s hP hG hd (by omega) h66) (by decide) mw_le ?_
    rintro rt9 w9 (⟨J1, M1, rfl, rfl, t1⟩) _ _
    show Rch l E 7 99 _ _ _ _ (14, [some (vR 0), some (vI s), some (vI k)], [], MW true J1 M1)
    have hrg := LWR_rg t1
    refine rch_run cdK99 (by decide) 1 (t' := (15, [some (vR 0), some (vI s), some (vI k)], [vI k], MW true J1 M1)) (ps := []) rfl trivial ?_
    refine rch_br cdK99 (cd := k < 0) (t1 := (33, [some (vR 0), some (vI s), some (vI k)], [], MW true J1 M1)) (t2 := (18, [some (vR 0), some (vI s), some (vI k)], [], MW true J1 M1)) rfl (fun c15_2 => ?_) (fun c15_2 => ?_)
    · refine rch_run cdK99 (by decide) 1 (t' := (34, [some (vR 0), some (vI s), some (vI k)], [vI 0], MW true J1 M1)) (ps := []) rfl trivial ?_
      refine rch_ret cdK99 (rt := some (vI 0)) rfl (Or.inl rfl) mw_c ?_
      exact Or.inr (Or.inl ⟨by omega, J1, M1, t1, by omega, rfl, rfl⟩)
    · refine rch_run cdK99 (by decide) 4 (t' := (26, [some (vR 0), some (vI s), some (vI k)], [vI (J1 70 0), vI k], MW true J1 M1)) (ps := []) rfl trivial ?_
      refine rch_br cdK99 (cd := J1 70 0 ≤ k) (t1 := (33, [some (vR 0), some (vI s), some (vI k)], [], MW true J1 M1)) (t2 := (29, [some (vR 0), some (vI s), some (vI k)], [], MW true J1 M1)) rfl (fun c26_3 => ?_) (fun c26_3 => ?_)
      · refine rch_run cdK99 (by decide) 1 (t' := (34, [some (vR 0), some (vI s), some (vI k)], [vI 0], MW true J1 M1)) (ps := []) rfl trivial ?_
        refine rch_ret cdK99 (rt := some (vI 0)) rfl (Or.inl rfl) mw_c ?_
        exact Or.inr (Or.inl ⟨by omega, J1, M1, t1, by omega, rfl, rfl⟩)
      · refine rch_run cdK99 (by decide) 2 (t' := (34, [some (vR 0), some (vI s), some (vI k)], [vI 1], MW true J1 M1)) (ps := []) rfl trivial ?_
        refine rch_ret cdK99 (rt := some (vI 1)) rfl (Or.inr rfl) mw_c ?_
        exact Or.inl ⟨by omega, J1, M1, t1, by omega, rfl, rfl⟩
  · show Rch l E 7 99 _ _ _ _ (4, [some (vR 0), some (vI s), some (vI k)], [vI 0], MW true I L)
    have k83 : ¬ (0 ≤ s ∧ s ≤ 5) := k83
    refine rch_br cdK99 (cd := (0 : Int) ≠ 0) (t1 := (9, [some (vR 0), some (vI s), some (vI k)], [], MW true I L)) (t2 := (7, [some (vR 0), some (vI s), some (vI k)], [], MW true I L)) rfl (fun c9 => absurd c9 (by decide)) (fun _ => ?_)
    refine rch_run cdK99 (by decide) 1 (t' := (8, [some (vR 0), some (vI s), some (vI k)], [vI 0], MW true I L)) (ps := []) rfl trivial ?_
    refine rch_ret cdK99 (rt := some (vI 0)) rfl (Or.inl rfl) mw_c ?_
    exact Or.inr (Or.inr ⟨by omega, rfl, rfl⟩)

theorem k_changes_t (l : Launch) (E : AX) (I L : Nat → Nat → Int) (s : Int) (hP : POK 7 I) (hG : GOK I) (hd : I 0 0 ≤ 100000) (h66 : 0 ≤ I 66 0 ∧ I 66 0 ≤ 60) : Con l E 7 85 [vR 0, vI s] (MW true I L) 0 0 (fun rt w => ((0 ≤ s ∧ s < 6) ∧ ∃ J M, LWR 7 I L J M s ∧ rt = some (vI (J 70 0)) ∧ w = MW true J M) ∨ (¬ (0 ≤ s ∧ s < 6) ∧ rt = some (vI (-1)) ∧ w = MW true I L)) := by
  refine con_ok (fun hw9 hs9 => ?_)
  refine con_intro (by decide) (Nat.le_of_ble_eq_true rfl) ?_
  show Rch l E 7 85 _ _ _ _ (0, [some (vR 0), some (vI s)], [], MW true I L)
  refine rch_run cdK85 (by decide) 1 (t' := (1, [some (vR 0), some (vI s)], [vI s], MW true I L)) (ps := []) rfl trivial ?_
  refine rch_call (h' := 1) (k' := 90) (as := [vI s]) (t1 := (4, [some (vR 0), some (vI s)], [], MW true I L)) cdK85 rfl (k_X11_isSource l E true I L s ) (by decide) mw_le ?_
  rintro rt9 w9 (⟨k84, rfl, rfl⟩ | ⟨k84, rfl, rfl⟩) _ _
  · show Rch l E 7 85 _ _ _ _ (4, [some (vR 0), some (vI s)], [vI 1], MW true I L)
    have k84 : 0 ≤ s ∧ s ≤ 5 := k84
    refine rch_br cdK85 (cd := (1 : Int) ≠ 0) (t1 := (9, [some (vR 0), some (vI s)], [], MW true I L)) (t2 := (7, [some (vR 0), some (vI s)], [], MW true I L)) rfl (fun _ => ?_) (fun c9 => absurd (by decide) c9)
    refine rch_run cdK85 (by decide) 2 (t' := (11, [some (vR 0), some (vI s)], [vI s, vR 0], MW true I L)) (ps := []) rfl trivial ?_
    refine rch_call (h' := 6) (k' := 100) (as := [vR 0, vI s]) (t1 := (14, [some (vR 0), some (vI s)], [], MW true I L)) cdK85 rfl (k_lw_t l E I L s hP hG hd (by omega) h66) (by decide) mw_le ?_
    rintro rt9 w9 (⟨J1, M1, rfl, rfl, t1⟩) _ _
    show Rch l E 7 85 _ _ _ _ (14, [some (vR 0), some (vI s)], [], MW true J1 M1)
    have hrg := LWR_rg t1
    refine rch_run cdK85 (by decide) 3 (t' := (21, [some (vR 0), some (vI s)], [vI (J1 70 0)], MW true J1 M1)) (ps := []) rfl trivial ?_
    refine rch_ret cdK85 (rt := some (vI (J1 70 0))) rfl trivial mw_c ?_
    exact Or.inl ⟨by omega, J1, M1, t1, rfl, rfl⟩
  · show Rch l E 7 85 _ _ _ _ (4, [some (vR 0), some (vI s)], [vI 0], MW true I L)
    have k84 : ¬ (0 ≤ s ∧ s ≤ 5) := k84
    refine rch_br cdK85 (cd := (0 : Int) ≠ 0) (t1 := (9, [some (vR 0), some (vI s)], [], MW true I L)) (t2 := (7, [some (vR 0), some (vI s)], [], MW true I L)) rfl (fun c9 => absurd c9 (by decide)) (fun _ => ?_)
    refine rch_run cdK85 (by decide) 1 (t' := (8, [some (vR 0), some (vI s)], [vI (-1)], MW true I L)) (ps := []) rfl trivial ?_
    refine rch_ret cdK85 (rt := some (vI (-1))) rfl trivial mw_c ?_
    exact Or.inr ⟨by omega, rfl, rfl⟩

theorem k_change_t (l : Launch) (E : AX) (I L : Nat → Nat → Int) (s k q : Int) (hP : POK 7 I) (hG : GOK I) (hd : I 0 0 ≤ 100000) (h66 : 0 ≤ I 66 0 ∧ I 66 0 ≤ 60) : Con l E 8 86 [vR 0, vI s, vI k, vI q] (MW true I L) 0 0 (fun rt w => ((0 ≤ s ∧ s < 6) ∧ ∃ J M, LWR 7 I L J M s ∧ (0 ≤ k ∧ k < J 70 0) ∧ rt = some (vI (whC J k q)) ∧ w = MW true J M) ∨ ((0 ≤ s ∧ s < 6) ∧ ∃ J M, LWR 7 I L J M s ∧ ¬ (0 ≤ k ∧ k < J 70 0) ∧ rt = some (vI (-1)) ∧ w = MW true J M) ∨ (¬ (0 ≤ s ∧ s < 6) ∧ rt = some (vI (-1)) ∧ w = MW true I L)) := by
  refine con_ok (fun hw9 hs9 => ?_)
  refine con_intro (by decide) (Nat.le_of_ble_eq_true rfl) ?_
  show Rch l E 8 86 _ _ _ _ (0, [some (vR 0), some (vI s), some (vI k), some (vI q)], [], MW true I L)
  refine rch_run cdK86 (by decide) 3 (t' := (3, [some (vR 0), some (vI s), some (vI k), some (vI q)], [vI k, vI s, vR 0], MW true I L)) (ps := []) rfl trivial ?_
  refine rch_call (h' := 7) (k' := 99) (as := [vR 0, vI s, vI k]) (t1 := (6, [some (vR 0), some (vI s), some (vI k), some (vI q)], [], MW true I L)) cdK86 rfl (k_hasWish_t l E I L s k hP hG hd h66) (by decide) mw_le ?_
  rintro rt9 w9 (⟨c9, J1, M1, t1, k9, rfl, rfl⟩ | ⟨c9, J1, M1, t1, k9, rfl, rfl⟩ | ⟨c9, rfl, rfl⟩) _ _
  · show Rch l E 8 86 _ _ _ _ (6, [some (vR 0), some (vI s), some (vI k), some (vI q)], [vI 1], MW true J1 M1)
    have hrg := LWR_rg t1
    refine rch_br cdK86 (cd := (1 : Int) ≠ 0) (t1 := (11, [some (vR 0), some (vI s), some (vI k), some (vI q)], [], MW true J1 M1)) (t2 := (9, [some (vR 0), some (vI s), some (vI k), some (vI q)], [], MW true J1 M1)) rfl (fun _ => ?_) (fun c9 => absurd (by decide) c9)
    refine rch_run cdK86 (by decide) 1 (t' := (12, [some (vR 0), some (vI s), some (vI k), some (vI q)], [vI q], MW true J1 M1)) (ps := []) rfl trivial ?_
    refine rch_tsw (e := (12, .tableswitch 58 0 2 #[28, 38, 48], 28, 0, 0, 0)) (d := 58) (lo := 0) (hi := 2) (offs := #[28, 38, 48]) cdK86 rfl rfl (by decide) (by decide) (fun c12_2 => ?_) (fun n9 off9 c12_2 ho9 => ?_)
    · show Rch l E 8 86 _ _ _ _ (70, [some (vR 0), some (vI s), some (vI k), some (vI q)], [], MW true J1 M1)
      refine rch_run cdK86 (by decide) 1 (t' := (71, [some (vR 0), some (vI s), some (vI k), some (vI q)], [vI (-1)], MW true J1 M1)) (ps := []) rfl trivial ?_
      refine rch_ret cdK86 (rt := some (vI (-1))) rfl trivial mw_c ?_
      first | exact Or.inr (Or.inl ⟨c9, J1, M1, t1, k9, rfl, rfl⟩) | exact Or.inl ⟨c9, J1, M1, t1, k9, by unfold whC; rw [if_neg (by omega), if_neg (by omega), if_neg (by omega)], rfl⟩
    · match n9, c12_2, ho9 with
      | 0, c12_2, ho9 =>
        have c12_2 : q = 0 := by simpa using c12_2
        have ho9 : some (28 : Int) = some off9 := ho9
        cases ho9
        refine ⟨by decide, ?_⟩
        show Rch l E 8 86 _ _ _ _ (40, [some (vR 0), some (vI s), some (vI k), some (vI q)], [], MW true J1 M1)
        refine rch_run cdK86 (by decide) 5 (t' := (49, [some (vR 0), some (vI s), some (vI k), some (vI q)], [vI (J1 71 k.toNat)], MW true J1 M1)) (ps := [0 ≤ k ∧ k < ((60 : Nat) : Int)]) rfl (by simp only [all_, i32, i64]; first | omega | (simp; done) | (simp; omega)) ?_
        refine rch_ret cdK86 (rt := some (vI (J1 71 k.toNat))) rfl trivial mw_c ?_
        exact Or.inl ⟨c9, J1, M1, t1, k9, by unfold whC; first | rw [if_pos (by omega)] | rw [if_neg (by omega), if_pos (by omega)] | rw [if_neg (by omega), if_neg (by omega), if_pos (by omega)], rfl⟩
      | 1, c12_2, ho9 =>
        have c12_2 : q = 1 := by simpa using c12_2
        have ho9 : some (38 : Int) = some off9 := ho9
        cases ho9
        refine ⟨by decide, ?_⟩
        show Rch l E 8 86 _ _ _ _ (50, [some (vR 0), some (vI s), some (vI k), some (vI q)], [], MW true J1 M1)
        refine rch_run cdK86 (by decide) 5 (t' := (59, [some (vR 0), some (vI s), some (vI k), some (vI q)], [vI (J1 72 k.toNat)], MW true J1 M1)) (ps := [0 ≤ k ∧ k < ((60 : Nat) : Int)]) rfl (by simp only [all_, i32, i64]; first | omega | (simp; done) | (simp; omega)) ?_
        refine rch_ret cdK86 (rt := some (vI (J1 72 k.toNat))) rfl trivial mw_c ?_
        exact Or.inl ⟨c9, J1, M1, t1, k9, by unfold whC; first | rw [if_pos (by omega)] | rw [if_neg (by omega), if_pos (by omega)] | rw [if_neg (by omega), if_neg (by omega), if_pos (by omega)], rfl⟩
      | 2, c12_2, ho9 =>
        have c12_2 : q = 2 := by simpa using c12_2
        have ho9 : some (48 : Int) = some off9 := ho9
        cases ho9
        refine ⟨by decide, ?_⟩
        show Rch l E 8 86 _ _ _ _ (60, [some (vR 0), some (vI s), some (vI k), some (vI q)], [], MW true J1 M1)
        refine rch_run cdK86 (by decide) 5 (t' := (69, [some (vR 0), some (vI s), some (vI k), some (vI q)], [vI (J1 73 k.toNat)], MW true J1 M1)) (ps := [0 ≤ k ∧ k < ((60 : Nat) : Int)]) rfl (by simp only [all_, i32, i64]; first | omega | (simp; done) | (simp; omega)) ?_
        refine rch_ret cdK86 (rt := some (vI (J1 73 k.toNat))) rfl trivial mw_c ?_
        exact Or.inl ⟨c9, J1, M1, t1, k9, by unfold whC; first | rw [if_pos (by omega)] | rw [if_neg (by omega), if_pos (by omega)] | rw [if_neg (by omega), if_neg (by omega), if_pos (by omega)], rfl⟩
      | n9 + 3, _, ho9 => exact absurd ho9 (by simp)
  · show Rch l E 8 86 _ _ _ _ (6, [some (vR 0), some (vI s), some (vI k), some (vI q)], [vI 0], MW true J1 M1)
    refine rch_br cdK86 (cd := (0 : Int) ≠ 0) (t1 := (11, [some (vR 0), some (vI s), some (vI k), some (vI q)], [], MW true J1 M1)) (t2 := (9, [some (vR 0), some (vI s), some (vI k), some (vI q)], [], MW true J1 M1)) rfl (fun c9 => absurd c9 (by decide)) (fun _ => ?_)
    refine rch_run cdK86 (by decide) 1 (t' := (10, [some (vR 0), some (vI s), some (vI k), some (vI q)], [vI (-1)], MW true J1 M1)) (ps := []) rfl trivial ?_
    refine rch_ret cdK86 (rt := some (vI (-1))) rfl trivial mw_c ?_
    first | exact Or.inr (Or.inl ⟨c9, J1, M1, t1, k9, rfl, rfl⟩) | exact Or.inl ⟨c9, J1, M1, t1, k9, by unfold whC; rw [if_neg (by omega), if_neg (by omega), if_neg (by omega)], rfl⟩
  · show Rch l E 8 86 _ _ _ _ (6, [some (vR 0), some (vI s), some (vI k), some (vI q)], [vI 0], MW true I L)
    refine rch_br cdK86 (cd := (0 : Int) ≠ 0) (t1 := (11, [some (vR 0), some (vI s), some (vI k), some (vI q)], [], MW true I L)) (t2 := (9, [some (vR 0), some (vI s), some (vI k), some (vI q)], [], MW true I L)) rfl (fun c9 => absurd c9 (by decide)) (fun _ => ?_)
    refine rch_run cdK86 (by decide) 1 (t' := (10, [some (vR 0), some (vI s), some (vI k), some (vI q)], [vI (-1)], MW true I L)) (ps := []) rfl trivial ?_
    refine rch_ret cdK86 (rt := some (vI (-1))) rfl trivial mw_c ?_
    exact Or.inr (Or.inr ⟨c9, rfl, rfl⟩)

theorem k_accept_t (l : Launch) (E : AX) (I L : Nat → Nat → Int) (s k : Int) (hP : POK 7 I) (hG : GOK I) (hd : I 0 0 ≤ 100000) (h66 : 0 ≤ I 66 0 ∧ I 66 0 ≤ 60) : Con l E 8 87 [vR 0, vI s, vI k] (MW true I L) 0 0 (fun rt w => ((0 ≤ s ∧ s < 6) ∧ ∃ J M, LWR 7 I L J M s ∧ ((((0 ≤ k ∧ k < J 70 0) ∧ J 21 0 < 150) ∧ rt = some (vI 1) ∧ w = MW true (upI (upI (upI (upI (upI (upI (upI (upI J 0 1 0) 22 (J 21 0).toNat (J 71 k.toNat)) 23 (J 21 0).toNat (J 72 k.toNat)) 24 (J 21 0).toNat (J 73 k.toNat)) 25 (J 21 0).toNat (J 0 0)) 26 (J 21 0).toNat (J 0 0)) 27 (J 21 0).toNat 1) 21 0 ((J 21 0) + 1)) M) ∨ (¬ ((0 ≤ k ∧ k < J 70 0) ∧ J 21 0 < 150) ∧ rt = some (vI 0) ∧ w = MW true J M))) ∨ (¬ (0 ≤ s ∧ s < 6) ∧ rt = some (vI 0) ∧ w = MW true I L)) := by
  refine con_ok (fun hw9 hs9 => ?_)
  refine con_intro (by decide) (Nat.le_of_ble_eq_true rfl) ?_
  show Rch l E 8 87 _ _ _ _ (0, [some (vR 0), some (vI s), some (vI k)], [], MW true I L)
  refine rch_run cdK87 (by decide) 3 (t' := (3, [some (vR 0), some (vI s), some (vI k)], [vI k, vI s, vR 0], MW true I L)) (ps := []) rfl trivial ?_
  refine rch_call (h' := 7) (k' := 99) (as := [vR 0, vI s, vI k]) (t1 := (6, [some (vR 0), some (vI s), some (vI k)], [], MW true I L)) cdK87 rfl (k_hasWish_t l E I L s k hP hG hd h66) (by decide) mw_le ?_
  rintro rt9 w9 (⟨c9, J1, M1, t1, k9, rfl, rfl⟩ | ⟨c9, J1, M1, t1, k9, rfl, rfl⟩ | ⟨c9, rfl, rfl⟩) _ _
  · show Rch l E 8 87 _ _ _ _ (6, [some (vR 0), some (vI s), some (vI k)], [vI 1], MW true J1 M1)
    have hrg := LWR_rg t1
    have q21 : J1 21 0 = I 21 0 := by obtain ⟨J0, p0, p1⟩ := t1; rw [p1.1 21 0 (by omega), p0.2.1 21 0 (by omega), upI_ne (by omega)]
    have q66 : J1 66 0 = I 66 0 := by obtain ⟨J0, p0, p1⟩ := t1; rw [p1.1 66 0 (by omega), p0.2.1 66 0 (by omega), upI_ne (by omega)]
    have hv9 := hP.1.2.1
    refine rch_br cdK87 (cd := (1 : Int) = 0) (t1 := (22, [some (vR 0), some (vI s), some (vI k)], [], MW true J1 M1)) (t2 := (9, [some (vR 0), some (vI s), some (vI k)], [], MW true J1 M1)) rfl (fun c9 => absurd c9 (by decide)) (fun _ => ?_)
    refine rch_run cdK87 (by decide) 4 (t' := (19, [some (vR 0), some (vI s), some (vI k)], [vI 150, vI (J1 21 0)], MW true J1 M1)) (ps := []) rfl trivial ?_
    refine rch_br cdK87 (cd := J1 21 0 < (150 : Int)) (t1 := (24, [some (vR 0), some (vI s), some (vI k)], [], MW true J1 M1)) (t2 := (22, [some (vR 0), some (vI s), some (vI k)], [], MW true J1 M1)) rfl (fun c19_2 => ?_) (fun c19_2 => ?_)
    · refine rch_run cdK87 (by decide) 25 (t' := (69, [some (vR 0), some (vI s), some (vI k)], [vI 1, vI (J1 0 0), vI (J1 0 0), vI (J1 73 k.toNat), vI (J1 72 k.toNat), vI (J1 71 k.toNat), vR 21], MW true (upI J1 0 1 0) M1)) (ps := [(0 : Int) = 0 ∨ (0 : Int) = 1, 0 ≤ k ∧ k < ((60 : Nat) : Int), 0 ≤ k ∧ k < ((60 : Nat) : Int), 0 ≤ k ∧ k < ((60 : Nat) : Int)]) rfl (by simp only [all_, i32, i64]; first | omega | (simp; done) | (simp; omega)) ?_
      refine rch_call (h' := 1) (k' := 47) (as := [vR 21, vI (J1 71 k.toNat), vI (J1 72 k.toNat), vI (J1 73 k.toNat), vI (J1 0 0), vI (J1 0 0), vI 1]) (t1 := (72, [some (vR 0), some (vI s), some (vI k)], [], MW true (upI J1 0 1 0) M1)) cdK87 rfl (k_X7_add l E true (upI J1 0 1 0) M1 (J1 71 k.toNat) (J1 72 k.toNat) (J1 73 k.toNat) (J1 0 0) (J1 0 0) 1 (by show 0 ≤ J1 21 0 ∧ J1 21 0 ≤ 150; omega) (by show 1 = 0 ∨ 1 = 1; omega)) (by decide) mw_le ?_
      rintro rt9 w9 (⟨k85, rfl, rfl⟩ | ⟨k85, rfl, rfl⟩) _ _
      · show Rch l E 8 87 _ _ _ _ (72, [some (vR 0), some (vI s), some (vI k)], [], MW true (upI (upI (upI (upI (upI (upI (upI (upI J1 0 1 0) 22 (J1 21 0).toNat (J1 71 k.toNat)) 23 (J1 21 0).toNat (J1 72 k.toNat)) 24 (J1 21 0).toNat (J1 73 k.toNat)) 25 (J1 21 0).toNat (J1 0 0)) 26 (J1 21 0).toNat (J1 0 0)) 27 (J1 21 0).toNat 1) 21 0 ((J1 21 0) + 1)) M1)
        have k85 : J1 21 0 < 150 := k85
        refine rch_run cdK87 (by decide) 1 (t' := (73, [some (vR 0), some (vI s), some (vI k)], [vI 1], MW true (upI (upI (upI (upI (upI (upI (upI (upI J1 0 1 0) 22 (J1 21 0).toNat (J1 71 k.toNat)) 23 (J1 21 0).toNat (J1 72 k.toNat)) 24 (J1 21 0).toNat (J1 73 k.toNat)) 25 (J1 21 0).toNat (J1 0 0)) 26 (J1 21 0).toNat (J1 0 0)) 27 (J1 21 0).toNat 1) 21 0 ((J1 21 0) + 1)) M1)) (ps := []) rfl trivial ?_
        refine rch_ret cdK87 (rt := some (vI 1)) rfl (Or.inr rfl) mw_c ?_
        first | exact Or.inl ⟨c9, J1, M1, t1, Or.inl ⟨by omega, rfl, rfl⟩⟩ | exact Or.inl ⟨c9, J1, M1, t1, Or.inr ⟨by omega, rfl, rfl⟩⟩ | (exfalso; omega)
      · show Rch l E 8 87 _ _ _ _ (72, [some (vR 0), some (vI s), some (vI k)], [], MW true (upI J1 0 1 0) M1)
        have k85 : ¬ (J1 21 0 < 150) := k85
        refine rch_run cdK87 (by decide) 1 (t' := (73, [some (vR 0), some (vI s), some (vI k)], [vI 1], MW true (upI J1 0 1 0) M1)) (ps := []) rfl trivial ?_
        refine rch_ret cdK87 (rt := some (vI 1)) rfl (Or.inr rfl) mw_c ?_
        first | exact Or.inl ⟨c9, J1, M1, t1, Or.inl ⟨by omega, rfl, rfl⟩⟩ | exact Or.inl ⟨c9, J1, M1, t1, Or.inr ⟨by omega, rfl, rfl⟩⟩ | (exfalso; omega)
    · refine rch_run cdK87 (by decide) 1 (t' := (23, [some (vR 0), some (vI s), some (vI k)], [vI 0], MW true J1 M1)) (ps := []) rfl trivial ?_
      refine rch_ret cdK87 (rt := some (vI 0)) rfl (Or.inl rfl) mw_c ?_
      first | exact Or.inl ⟨c9, J1, M1, t1, Or.inl ⟨by omega, rfl, rfl⟩⟩ | exact Or.inl ⟨c9, J1, M1, t1, Or.inr ⟨by omega, rfl, rfl⟩⟩ | (exfalso; omega)
  · show Rch l E 8 87 _ _ _ _ (6, [some (vR 0), some (vI s), some (vI k)], [vI 0], MW true J1 M1)
    refine rch_br cdK87 (cd := (0 : Int) = 0) (t1 := (22, [some (vR 0), some (vI s), some (vI k)], [], MW true J1 M1)) (t2 := (9, [some (vR 0), some (vI s), some (vI k)], [], MW true J1 M1)) rfl (fun _ => ?_) (fun c9 => absurd (by decide) c9)
    refine rch_run cdK87 (by decide) 1 (t' := (23, [some (vR 0), some (vI s), some (vI k)], [vI 0], MW true J1 M1)) (ps := []) rfl trivial ?_
    refine rch_ret cdK87 (rt := some (vI 0)) rfl (Or.inl rfl) mw_c ?_
    first | exact Or.inl ⟨c9, J1, M1, t1, Or.inl ⟨by omega, rfl, rfl⟩⟩ | exact Or.inl ⟨c9, J1, M1, t1, Or.inr ⟨by omega, rfl, rfl⟩⟩ | (exfalso; omega)
  · show Rch l E 8 87 _ _ _ _ (6, [some (vR 0), some (vI s), some (vI k)], [vI 0], MW true I L)
    refine rch_br cdK87 (cd := (0 : Int) = 0) (t1 := (22, [some (vR 0), some (vI s), some (vI k)], [], MW true I L)) (t2 := (9, [some (vR 0), some (vI s), some (vI k)], [], MW true I L)) rfl (fun _ => ?_) (fun c9 => absurd (by decide) c9)
    refine rch_run cdK87 (by decide) 1 (t' := (23, [some (vR 0), some (vI s), some (vI k)], [vI 0], MW true I L)) (ps := []) rfl trivial ?_
    refine rch_ret cdK87 (rt := some (vI 0)) rfl (Or.inl rfl) mw_c ?_
    exact Or.inr ⟨c9, rfl, rfl⟩

theorem k_refuse_t (l : Launch) (E : AX) (I L : Nat → Nat → Int) (s k : Int) (hP : POK 7 I) (hG : GOK I) (hd : I 0 0 ≤ 100000) (h66 : 0 ≤ I 66 0 ∧ I 66 0 ≤ 60) : Con l E 8 88 [vR 0, vI s, vI k] (MW true I L) 0 0 (fun rt w => ((0 ≤ s ∧ s < 6) ∧ ∃ J M, LWR 7 I L J M s ∧ ((((0 ≤ k ∧ k < J 70 0) ∧ J 66 0 < 60) ∧ rt = some (vI 1) ∧ w = MW true (upI (upI (upI (upI J 67 (J 66 0).toNat (J 71 k.toNat)) 68 (J 66 0).toNat (J 72 k.toNat)) 69 (J 66 0).toNat (J 73 k.toNat)) 66 0 ((J 66 0) + 1)) M) ∨ (¬ ((0 ≤ k ∧ k < J 70 0) ∧ J 66 0 < 60) ∧ rt = some (vI 0) ∧ w = MW true J M))) ∨ (¬ (0 ≤ s ∧ s < 6) ∧ rt = some (vI 0) ∧ w = MW true I L)) := by
  refine con_ok (fun hw9 hs9 => ?_)
  refine con_intro (by decide) (Nat.le_of_ble_eq_true rfl) ?_
  show Rch l E 8 88 _ _ _ _ (0, [some (vR 0), some (vI s), some (vI k)], [], MW true I L)
  refine rch_run cdK88 (by decide) 3 (t' := (3, [some (vR 0), some (vI s), some (vI k)], [vI k, vI s, vR 0], MW true I L)) (ps := []) rfl trivial ?_
  refine rch_call (h' := 7) (k' := 99) (as := [vR 0, vI s, vI k]) (t1 := (6, [some (vR 0), some (vI s), some (vI k)], [], MW true I L)) cdK88 rfl (k_hasWish_t l E I L s k hP hG hd h66) (by decide) mw_le ?_
  rintro rt9 w9 (⟨c9, J1, M1, t1, k9, rfl, rfl⟩ | ⟨c9, J1, M1, t1, k9, rfl, rfl⟩ | ⟨c9, rfl, rfl⟩) _ _
  · show Rch l E 8 88 _ _ _ _ (6, [some (vR 0), some (vI s), some (vI k)], [vI 1], MW true J1 M1)
    have hrg := LWR_rg t1
    have q21 : J1 21 0 = I 21 0 := by obtain ⟨J0, p0, p1⟩ := t1; rw [p1.1 21 0 (by omega), p0.2.1 21 0 (by omega), upI_ne (by omega)]
    have q66 : J1 66 0 = I 66 0 := by obtain ⟨J0, p0, p1⟩ := t1; rw [p1.1 66 0 (by omega), p0.2.1 66 0 (by omega), upI_ne (by omega)]
    have hv9 := hP.1.2.1
    refine rch_br cdK88 (cd := (1 : Int) = 0) (t1 := (21, [some (vR 0), some (vI s), some (vI k)], [], MW true J1 M1)) (t2 := (9, [some (vR 0), some (vI s), some (vI k)], [], MW true J1 M1)) rfl (fun c9 => absurd c9 (by decide)) (fun _ => ?_)
    refine rch_run cdK88 (by decide) 4 (t' := (18, [some (vR 0), some (vI s), some (vI k)], [vI 60, vI (J1 66 0)], MW true J1 M1)) (ps := []) rfl trivial ?_
    refine rch_br cdK88 (cd := J1 66 0 < (60 : Int)) (t1 := (23, [some (vR 0), some (vI s), some (vI k)], [], MW true J1 M1)) (t2 := (21, [some (vR 0), some (vI s), some (vI k)], [], MW true J1 M1)) rfl (fun c18_2 => ?_) (fun c18_2 => ?_)
    · refine rch_run cdK88 (by decide) 17 (t' := (54, [some (vR 0), some (vI s), some (vI k)], [vI (J1 73 k.toNat), vI (J1 72 k.toNat), vI (J1 71 k.toNat), vR 66], MW true J1 M1)) (ps := [0 ≤ k ∧ k < ((60 : Nat) : Int), 0 ≤ k ∧ k < ((60 : Nat) : Int), 0 ≤ k ∧ k < ((60 : Nat) : Int)]) rfl (by simp only [all_, i32, i64]; first | omega | (simp; done) | (simp; omega)) ?_
      refine rch_call (h' := 1) (k' := 59) (as := [vR 66, vI (J1 71 k.toNat), vI (J1 72 k.toNat), vI (J1 73 k.toNat)]) (t1 := (57, [some (vR 0), some (vI s), some (vI k)], [], MW true J1 M1)) cdK88 rfl (k_refused_add l E true J1 M1 (J1 71 k.toNat) (J1 72 k.toNat) (J1 73 k.toNat) (by show 0 ≤ J1 66 0 ∧ J1 66 0 ≤ 60; omega)) (by decide) mw_le ?_
      rintro rt9 w9 (⟨k86, rfl, rfl⟩ | ⟨k86, rfl, rfl⟩) _ _
      · show Rch l E 8 88 _ _ _ _ (57, [some (vR 0), some (vI s), some (vI k)], [], MW true (upI (upI (upI (upI J1 67 (J1 66 0).toNat (J1 71 k.toNat)) 68 (J1 66 0).toNat (J1 72 k.toNat)) 69 (J1 66 0).toNat (J1 73 k.toNat)) 66 0 ((J1 66 0) + 1)) M1)
        have k86 : J1 66 0 < 60 := k86
        refine rch_run cdK88 (by decide) 1 (t' := (58, [some (vR 0), some (vI s), some (vI k)], [vI 1], MW true (upI (upI (upI (upI J1 67 (J1 66 0).toNat (J1 71 k.toNat)) 68 (J1 66 0).toNat (J1 72 k.toNat)) 69 (J1 66 0).toNat (J1 73 k.toNat)) 66 0 ((J1 66 0) + 1)) M1)) (ps := []) rfl trivial ?_
        refine rch_ret cdK88 (rt := some (vI 1)) rfl (Or.inr rfl) mw_c ?_
        first | exact Or.inl ⟨c9, J1, M1, t1, Or.inl ⟨by omega, rfl, rfl⟩⟩ | exact Or.inl ⟨c9, J1, M1, t1, Or.inr ⟨by omega, rfl, rfl⟩⟩ | (exfalso; omega)
      · show Rch l E 8 88 _ _ _ _ (57, [some (vR 0), some (vI s), some (vI k)], [], MW true J1 M1)
        have k86 : ¬ (J1 66 0 < 60) := k86
        refine rch_run cdK88 (by decide) 1 (t' := (58, [some (vR 0), some (vI s), some (vI k)], [vI 1], MW true J1 M1)) (ps := []) rfl trivial ?_
        refine rch_ret cdK88 (rt := some (vI 1)) rfl (Or.inr rfl) mw_c ?_
        first | exact Or.inl ⟨c9, J1, M1, t1, Or.inl ⟨by omega, rfl, rfl⟩⟩ | exact Or.inl ⟨c9, J1, M1, t1, Or.inr ⟨by omega, rfl, rfl⟩⟩ | (exfalso; omega)
    · refine rch_run cdK88 (by decide) 1 (t' := (22, [some (vR 0), some (vI s), some (vI k)], [vI 0], MW true J1 M1)) (ps := []) rfl trivial ?_
      refine rch_ret cdK88 (rt := some (vI 0)) rfl (Or.inl rfl) mw_c ?_
      first | exact Or.inl ⟨c9, J1, M1, t1, Or.inl ⟨by omega, rfl, rfl⟩⟩ | exact Or.inl ⟨c9, J1, M1, t1, Or.inr ⟨by omega, rfl, rfl⟩⟩ | (exfalso; omega)
  · show Rch l E 8 88 _ _ _ _ (6, [some (vR 0), some (vI s), some (vI k)], [vI 0], MW true J1 M1)
    refine rch_br cdK88 (cd := (0 : Int) = 0) (t1 := (21, [some (vR 0), some (vI s), some (vI k)], [], MW true J1 M1)) (t2 := (9, [some (vR 0), some (vI s), some (vI k)], [], MW true J1 M1)) rfl (fun _ => ?_) (fun c9 => absurd (by decide) c9)
    refine rch_run cdK88 (by decide) 1 (t' := (22, [some (vR 0), some (vI s), some (vI k)], [vI 0], MW true J1 M1)) (ps := []) rfl trivial ?_
    refine rch_ret cdK88 (rt := some (vI 0)) rfl (Or.inl rfl) mw_c ?_
    first | exact Or.inl ⟨c9, J1, M1, t1, Or.inl ⟨by omega, rfl, rfl⟩⟩ | exact Or.inl ⟨c9, J1, M1, t1, Or.inr ⟨by omega, rfl, rfl⟩⟩ | (exfalso; omega)
  · show Rch l E 8 88 _ _ _ _ (6, [some (vR 0), some (vI s), some (vI k)], [vI 0], MW true I L)
    refine rch_br cdK88 (cd := (0 : Int) = 0) (t1 := (21, [some (vR 0), some (vI s), some (vI k)], [], MW true I L)) (t2 := (9, [some (vR 0), some (vI s), some (vI k)], [], MW true I L)) rfl (fun _ => ?_) (fun c9 => absurd (by decide) c9)
    refine rch_run cdK88 (by decide) 1 (t' := (22, [some (vR 0), some (vI s), some (vI k)], [vI 0], MW true I L)) (ps := []) rfl trivial ?_
    refine rch_ret cdK88 (rt := some (vI 0)) rfl (Or.inl rfl) mw_c ?_
    exact Or.inr ⟨c9, rfl, rfl⟩
