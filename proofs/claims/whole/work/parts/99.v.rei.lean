theorem pOne_0 (B : Nat → Int) (n : Nat) (s : Pst) : pOne B n 0 s = .inl (flt B n s.1 2) := rfl
theorem pOne_nF {B : Nat → Int} {n D : Nat} {s : Pst} {f : Int × Int} (h : wdq B n s.1 3 = true) (h1 : pOne B n D (tN B n s.1, s.2) = .inl f) : pOne B n (D + 1) s = .inl f := by
  unfold pOne
  rw [if_pos h, h1]
theorem pOne_n {B : Nat → Int} {n D : Nat} {s s1 : Pst} (h : wdq B n s.1 3 = true) (h1 : pOne B n D (tN B n s.1, s.2) = .inr s1) : pOne B n (D + 1) s = .inr (psh s1 5) := by
  unfold pOne
  rw [if_pos h, h1]
theorem pOne_t {B : Nat → Int} {n D : Nat} {s : Pst} (h : wdq B n s.1 3 = false) (h2 : tK B n s.1 ≠ 40) : pOne B n (D + 1) s = pTest B n s := by
  show (if wdq B n s.1 3 = true then _ else if tK B n s.1 = 40 then _ else pTest B n s) = _
  rw [if_neg (by rw [h]; decide), if_neg h2]
theorem pOne_p {B : Nat → Int} {n D : Nat} {s : Pst} (h2 : tK B n s.1 = 40) : pOne B n (D + 1) s = (match pEi B n D (tN B n s.1, s.2) with
  | .inl f => .inl f
  | .inr s2 => if tK B n s2.1 = 41 then .inr (tN B n s2.1, s2.2) else .inl (flt B n s2.1 2)) := by
  have h : ¬ wdq B n s.1 3 = true := fun z => by
    have := (of_decide_eq_true z).1
    omega
  unfold pEi
  show (if wdq B n s.1 3 = true then _ else if tK B n s.1 = 40 then _ else pTest B n s) = _
  rw [if_neg h, if_pos h2]
  cases pOne B n D (tN B n s.1, s.2) <;> rfl
theorem pOne_pF {B : Nat → Int} {n D : Nat} {s : Pst} {f : Int × Int} (h2 : tK B n s.1 = 40) (h1 : pEi B n D (tN B n s.1, s.2) = .inl f) : pOne B n (D + 1) s = .inl f := by rw [pOne_p h2, h1]
theorem pOne_pN {B : Nat → Int} {n D : Nat} {s s2 : Pst} (h2 : tK B n s.1 = 40) (h1 : pEi B n D (tN B n s.1, s.2) = .inr s2) (h3 : tK B n s2.1 ≠ 41) : pOne B n (D + 1) s = .inl (flt B n s2.1 2) := by
  rw [pOne_p h2, h1]
  exact if_neg h3
theorem pOne_pY {B : Nat → Int} {n D : Nat} {s s2 : Pst} (h2 : tK B n s.1 = 40) (h1 : pEi B n D (tN B n s.1, s.2) = .inr s2) (h3 : tK B n s2.1 = 41) : pOne B n (D + 1) s = .inr (tN B n s2.1, s2.2) := by
  rw [pOne_p h2, h1]
  exact if_pos h3
theorem pEi_F {B : Nat → Int} {n D : Nat} {s : Pst} {f : Int × Int} (h : pOne B n D s = .inl f) : pEi B n D s = .inl f := by
  unfold pEi
  rw [h]
theorem pEi_Y {B : Nat → Int} {n D : Nat} {s s1 : Pst} (h : pOne B n D s = .inr s1) : pEi B n D s = pLoop B n (pOne B n D) 500 false s1 := by
  unfold pEi
  rw [h]
theorem pEi_bd {B : Nat → Int} {n : Nat} (hn : n ≤ 500) {D : Nat} {s s2 : Pst} (ha : s.1 ≤ n) (h : pEi B n D s = .inr s2) : Bd n 0 s s2 := by
  cases ho : pOne B n D s with
  | inl f => rw [pEi_F ho] at h; exact absurd h (by simp)
  | inr s1 =>
    rw [pEi_Y ho] at h
    obtain ⟨x1, x2, x3⟩ := pOne_bd hn D s s1 ha ho
    obtain ⟨y1, y2, y3⟩ := pLoop_bd hn (fun s s2 a b => pOne_bd hn D s s2 a b) 500 false s1 s2 x2 h
    have y3 : 2 * s2.2.2.length + s1.1 ≤ 2 * s1.2.2.length + s2.1 + 0 := y3
    exact ⟨by omega, y2, by omega⟩
abbrev Pon : Type := Pst → (Int × Int) ⊕ Pst
theorem pLoop_e {B : Nat → Int} {n : Nat} {one : Pon} {k : Nat} {w : Bool} {s : Pst} (h8 : wdq B n s.1 8 = false) (h9 : wdq B n s.1 9 = false) : pLoop B n one k w s = .inr (if w = true then psh s 6 else s) := by
  cases k with
  | zero => rfl
  | succ k =>
    unfold pLoop
    rw [if_neg (by rw [h8]; decide), if_neg (by rw [h9]; decide)]
theorem pLoop_0 {B : Nat → Int} {n : Nat} {one : Pon} {w : Bool} {s : Pst} : pLoop B n one 0 w s = .inr (if w = true then psh s 6 else s) := rfl
theorem pLoop_oF {B : Nat → Int} {n : Nat} {one : Pon} {k : Nat} {w : Bool} {s : Pst} {f : Int × Int} (h8 : wdq B n s.1 8 = true) (h : one (tN B n s.1, (if w = true then psh s 6 else s).2) = .inl f) : pLoop B n one (k + 1) w s = .inl f := by
  unfold pLoop
  rw [if_pos h8, h]
theorem pLoop_o {B : Nat → Int} {n : Nat} {one : Pon} {k : Nat} {w : Bool} {s s1 : Pst} (h8 : wdq B n s.1 8 = true) (h : one (tN B n s.1, (if w = true then psh s 6 else s).2) = .inr s1) : pLoop B n one (k + 1) w s = pLoop B n one k true s1 := by
  conv => lhs; unfold pLoop
  rw [if_pos h8, h]
theorem pLoop_aF {B : Nat → Int} {n : Nat} {one : Pon} {k : Nat} {w : Bool} {s : Pst} {f : Int × Int} (h9 : wdq B n s.1 9 = true) (h : one (tN B n s.1, s.2) = .inl f) : pLoop B n one (k + 1) w s = .inl f := by
  unfold pLoop
  rw [if_neg (by rw [wdq_ne h9 (by omega) (by omega) (by omega)]; decide), if_pos h9, h]
theorem pLoop_a {B : Nat → Int} {n : Nat} {one : Pon} {k : Nat} {w : Bool} {s s1 : Pst} (h9 : wdq B n s.1 9 = true) (h : one (tN B n s.1, s.2) = .inr s1) : pLoop B n one (k + 1) w s = pLoop B n one k w (psh s1 7) := by
  conv => lhs; unfold pLoop
  rw [if_neg (by rw [wdq_ne h9 (by omega) (by omega) (by omega)]; decide), if_pos h9, h]
theorem b2i_t {w : Bool} (h : ¬ b2i w = 0) : w = true := by
  cases w
  · exact absurd rfl h
  · rfl
theorem b2i_n {w : Bool} (h : b2i w = 0) : ¬ w = true := by
  cases w
  · decide
  · exact absurd h (by decide)

theorem k_one0_1 (l : Launch) (E : AX) (b : Bool) (I J L : Nat → Nat → Int) (s : Pst) (dp : Int) (h0 : Tp0 I) (hs : PSx 1 I J s) (hd : dp = 8) : Con l E 7 17 [vR 31, vR 28, vR 1, vI dp] (MW b J L) 0 0 (PR2 1 I b L (pOne (I 29) (nTp I) 0 s)) := by
  refine con_ok (fun hw9 hs9 => ?_)
  refine con_intro (by decide) (Nat.le_of_ble_eq_true rfl) ?_
  have hk : 1 = 1 ∨ 1 = 7 := by omega
  have ha : s.1 ≤ nTp I := hs.1.2.2.1
  have hn : nTp I ≤ 500 := by have := h0.1; unfold nTp; omega
  show Rch l E 7 17 _ _ _ _ (0, [some (vR 31), some (vR 28), some (vR 1), some (vI dp)], [], MW b J L)
  refine rch_run cdK17 (by decide) 2 (t' := (3, [some (vR 31), some (vR 28), some (vR 1), some (vI dp)], [vI 8, vI dp], MW b J L)) (ps := []) rfl trivial ?_
  refine rch_br cdK17 (cd := dp < (8 : Int)) (t1 := (13, [some (vR 31), some (vR 28), some (vR 1), some (vI dp)], [], MW b J L)) (t2 := (6, [some (vR 31), some (vR 28), some (vR 1), some (vI dp)], [], MW b J L)) rfl (fun c9 => by exfalso; omega) (fun c3_1 => ?_)
  refine rch_run cdK17 (by decide) 3 (t' := (9, [some (vR 31), some (vR 28), some (vR 1), some (vI dp)], [vI 2, vR 28, vR 31], MW b J L)) (ps := []) rfl trivial ?_
  refine rch_call (h' := 1) (k' := 13) (as := [vR 31, vR 28, vI 2]) (t1 := (12, [some (vR 31), some (vR 28), some (vR 1), some (vI dp)], [], MW b J L)) cdK17 rfl (k_stp l E b I J L 2 hk hs) (by decide) mw_le ?_
  rintro rt9 w9 (⟨J44, rfl, rfl, hf⟩) _ _
  show Rch l E 7 17 _ _ _ _ (12, [some (vR 31), some (vR 28), some (vR 1), some (vI dp)], [vI 0], MW b J44 L)
  refine rch_ret cdK17 (rt := some (vI 0)) rfl (Or.inl rfl) mw_c ?_
  exact Or.inr ⟨_, _, rfl, rfl, rfl, hf⟩

theorem k_one_1 (l : Launch) (E : AX) (b : Bool) (I J L : Nat → Nat → Int) (s : Pst) (D : Nat) (dp : Int) (h0 : Tp0 I) (hs : PSx 1 I J s) (hb : 2 * s.2.2.length ≤ s.1) (hd : 0 ≤ dp ∧ dp + (D + 1 : Nat) = 8) (hO : ∀ (J : Nat → Nat → Int) (s : Pst), PSx 1 I J s → 2 * s.2.2.length ≤ s.1 → Con l E (7 + 2 * D) 17 [vR 31, vR 28, vR 1, vI (dp + 1)] (MW b J L) 0 0 (PR2 1 I b L (pOne (I 29) (nTp I) D s))) (hE : ∀ (J : Nat → Nat → Int) (s : Pst), PSx 1 I J s → 2 * s.2.2.length ≤ s.1 → Con l E (8 + 2 * D) 16 [vR 31, vR 28, vR 1, vI (dp + 1)] (MW b J L) 0 0 (PR2 1 I b L (pEi (I 29) (nTp I) D s))) : Con l E (9 + 2 * D) 17 [vR 31, vR 28, vR 1, vI dp] (MW b J L) 0 0 (PR2 1 I b L (pOne (I 29) (nTp I) (D + 1) s)) := by
  refine con_ok (fun hw9 hs9 => ?_)
  refine con_intro (by omega) (Nat.le_of_ble_eq_true rfl) ?_
  have hk : 1 = 1 ∨ 1 = 7 := by omega
  have ha : s.1 ≤ nTp I := hs.1.2.2.1
  have hn : nTp I ≤ 500 := by have := h0.1; unfold nTp; omega
  have htk1 : J 28 1 = tK (I 29) (nTp I) s.1 := hs.1.2.1.2.1
  show Rch l E (9 + 2 * D) 17 _ _ _ _ (0, [some (vR 31), some (vR 28), some (vR 1), some (vI dp)], [], MW b J L)
  refine rch_run cdK17 (by omega) 2 (t' := (3, [some (vR 31), some (vR 28), some (vR 1), some (vI dp)], [vI 8, vI dp], MW b J L)) (ps := []) rfl trivial ?_
  refine rch_br cdK17 (cd := dp < (8 : Int)) (t1 := (13, [some (vR 31), some (vR 28), some (vR 1), some (vI dp)], [], MW b J L)) (t2 := (6, [some (vR 31), some (vR 28), some (vR 1), some (vI dp)], [], MW b J L)) rfl (fun c3_1 => ?_) (fun c9 => by exfalso; omega)
  refine rch_run cdK17 (by omega) 2 (t' := (16, [some (vR 31), some (vR 28), some (vR 1), some (vI dp)], [vR 2003, vR 28], MW b J L)) (ps := []) rfl trivial ?_
  refine rch_call (h' := 5) (k' := 45) (as := [vR 28, vR 2003]) (t1 := (19, [some (vR 31), some (vR 28), some (vR 1), some (vI dp)], [], MW b J L)) cdK17 rfl (k_rd_3 l E b I J L hk h0 hs) (by omega) mw_le ?_
  rintro rt9 w9 (⟨hq3, rfl, rfl⟩ | ⟨hq3, rfl, rfl⟩) _ _
  · show Rch l E (9 + 2 * D) 17 _ _ _ _ (19, [some (vR 31), some (vR 28), some (vR 1), some (vI dp)], [vI 1], MW b J L)
    refine rch_br cdK17 (cd := (1 : Int) = 0) (t1 := (49, [some (vR 31), some (vR 28), some (vR 1), some (vI dp)], [], MW b J L)) (t2 := (22, [some (vR 31), some (vR 28), some (vR 1), some (vI dp)], [], MW b J L)) rfl (fun c9 => absurd c9 (by omega)) (fun _ => ?_)
    refine rch_run cdK17 (by omega) 1 (t' := (23, [some (vR 31), some (vR 28), some (vR 1), some (vI dp)], [vR 28], MW b J L)) (ps := []) rfl trivial ?_
    have hl3 := wd_l2 (by omega) hn ha hq3
    refine rch_call (h' := 2) (k' := 42) (as := [vR 28]) (t1 := (26, [some (vR 31), some (vR 28), some (vR 1), some (vI dp)], [], MW b J L)) cdK17 rfl (k_adv l E b I J L hk h0 hs) (by omega) mw_le ?_
    rintro rt9 w9 (⟨J45, rfl, rfl, hs⟩) _ _
    show Rch l E (9 + 2 * D) 17 _ _ _ _ (26, [some (vR 31), some (vR 28), some (vR 1), some (vI dp)], [], MW b J45 L)
    refine rch_run cdK17 (by omega) 6 (t' := (32, [some (vR 31), some (vR 28), some (vR 1), some (vI dp)], [vI (dp + 1), vR 1, vR 28, vR 31], MW b J45 L)) (ps := [i32 (dp + 1)]) rfl (by simp only [all_, i32, i64]; first | omega | (simp; done) | (simp; omega)) ?_
    refine rch_call (h' := 7 + 2 * D) (k' := 17) (as := [vR 31, vR 28, vR 1, vI (dp + 1)]) (t1 := (35, [some (vR 31), some (vR 28), some (vR 1), some (vI dp)], [], MW b J45 L)) cdK17 rfl (hO J45 _ hs (by dsimp only; omega)) (by omega) mw_le ?_
    rintro rt9 w9 (⟨J46, s45, rfl, hr1, rfl, hs⟩ | ⟨J46, f9, rfl, hr1, rfl, hf⟩) _ _
    · show Rch l E (9 + 2 * D) 17 _ _ _ _ (35, [some (vR 31), some (vR 28), some (vR 1), some (vI dp)], [vI 1], MW b J46 L)
      have hbd := (pOne_bd hn D _ _ (by dsimp only; omega) hr1).2
      dsimp only at hbd
      refine rch_br cdK17 (cd := (1 : Int) ≠ 0) (t1 := (40, [some (vR 31), some (vR 28), some (vR 1), some (vI dp)], [], MW b J46 L)) (t2 := (38, [some (vR 31), some (vR 28), some (vR 1), some (vI dp)], [], MW b J46 L)) rfl (fun _ => ?_) (fun c9 => absurd (by omega) c9)
      refine rch_run cdK17 (by omega) 4 (t' := (44, [some (vR 31), some (vR 28), some (vR 1), some (vI dp)], [vI 0, vI 0, vI 3, vR 1], MW b J46 L)) (ps := []) rfl trivial ?_
      refine rch_call (h' := 1) (k' := 2) (as := [vR 1, vI 3, vI 0, vI 0]) (t1 := (47, [some (vR 31), some (vR 28), some (vR 1), some (vI dp)], [], MW b J46 L)) cdK17 rfl (k_push_1 l E b I J46 L (c := 5) hs (by decide) rfl rfl (by have hl9 := hs.1.2.2.1; (try dsimp only at hl9 ⊢); omega)) (by omega) mw_le ?_
      rintro rt9 w9 (⟨J47, rfl, rfl, hs⟩) _ _
      show Rch l E (9 + 2 * D) 17 _ _ _ _ (47, [some (vR 31), some (vR 28), some (vR 1), some (vI dp)], [], MW b J47 L)
      refine rch_run cdK17 (by omega) 1 (t' := (48, [some (vR 31), some (vR 28), some (vR 1), some (vI dp)], [vI 1], MW b J47 L)) (ps := []) rfl trivial ?_
      refine rch_ret cdK17 (rt := some (vI 1)) rfl (Or.inr rfl) mw_c ?_
      exact Or.inl ⟨_, _, rfl, pOne_n hq3 hr1, rfl, hs⟩
    · show Rch l E (9 + 2 * D) 17 _ _ _ _ (35, [some (vR 31), some (vR 28), some (vR 1), some (vI dp)], [vI 0], MW b J46 L)
      refine rch_br cdK17 (cd := (0 : Int) ≠ 0) (t1 := (40, [some (vR 31), some (vR 28), some (vR 1), some (vI dp)], [], MW b J46 L)) (t2 := (38, [some (vR 31), some (vR 28), some (vR 1), some (vI dp)], [], MW b J46 L)) rfl (fun c9 => absurd c9 (by omega)) (fun _ => ?_)
      refine rch_run cdK17 (by omega) 1 (t' := (39, [some (vR 31), some (vR 28), some (vR 1), some (vI dp)], [vI 0], MW b J46 L)) (ps := []) rfl trivial ?_
      refine rch_ret cdK17 (rt := some (vI 0)) rfl (Or.inl rfl) mw_c ?_
      exact Or.inr ⟨_, _, rfl, pOne_nF hq3 hr1, rfl, hf⟩
  · show Rch l E (9 + 2 * D) 17 _ _ _ _ (19, [some (vR 31), some (vR 28), some (vR 1), some (vI dp)], [vI 0], MW b J L)
    refine rch_br cdK17 (cd := (0 : Int) = 0) (t1 := (49, [some (vR 31), some (vR 28), some (vR 1), some (vI dp)], [], MW b J L)) (t2 := (22, [some (vR 31), some (vR 28), some (vR 1), some (vI dp)], [], MW b J L)) rfl (fun _ => ?_) (fun c9 => absurd (by omega) c9)
    refine rch_run cdK17 (by omega) 3 (t' := (55, [some (vR 31), some (vR 28), some (vR 1), some (vI dp)], [vI 40, vI (J 28 1)], MW b J L)) (ps := []) rfl trivial ?_
    refine rch_br cdK17 (cd := J 28 1 = (40 : Int)) (t1 := (65, [some (vR 31), some (vR 28), some (vR 1), some (vI dp)], [], MW b J L)) (t2 := (58, [some (vR 31), some (vR 28), some (vR 1), some (vI dp)], [], MW b J L)) rfl (fun c55_6 => ?_) (fun c55_6 => ?_)
    · refine rch_run cdK17 (by omega) 1 (t' := (66, [some (vR 31), some (vR 28), some (vR 1), some (vI dp)], [vR 28], MW b J L)) (ps := []) rfl trivial ?_
      have htk : tK (I 29) (nTp I) s.1 = 40 := by omega
      have hl4 := tN_bd (B := I 29) hn ha
      have hl5 := tP_bd (B := I 29) hn ha
      refine rch_call (h' := 2) (k' := 42) (as := [vR 28]) (t1 := (69, [some (vR 31), some (vR 28), some (vR 1), some (vI dp)], [], MW b J L)) cdK17 rfl (k_adv l E b I J L hk h0 hs) (by omega) mw_le ?_
      rintro rt9 w9 (⟨J48, rfl, rfl, hs⟩) _ _
      show Rch l E (9 + 2 * D) 17 _ _ _ _ (69, [some (vR 31), some (vR 28), some (vR 1), some (vI dp)], [], MW b J48 L)
      refine rch_run cdK17 (by omega) 6 (t' := (75, [some (vR 31), some (vR 28), some (vR 1), some (vI dp)], [vI (dp + 1), vR 1, vR 28, vR 31], MW b J48 L)) (ps := [i32 (dp + 1)]) rfl (by simp only [all_, i32, i64]; first | omega | (simp; done) | (simp; omega)) ?_
      refine rch_call (h' := 8 + 2 * D) (k' := 16) (as := [vR 31, vR 28, vR 1, vI (dp + 1)]) (t1 := (78, [some (vR 31), some (vR 28), some (vR 1), some (vI dp)], [], MW b J48 L)) cdK17 rfl (hE J48 _ hs (by dsimp only; omega)) (by omega) mw_le ?_
      rintro rt9 w9 (⟨J49, s48, rfl, hr2, rfl, hs⟩ | ⟨J49, f9, rfl, hr2, rfl, hf⟩) _ _
      · show Rch l E (9 + 2 * D) 17 _ _ _ _ (78, [some (vR 31), some (vR 28), some (vR 1), some (vI dp)], [vI 1], MW b J49 L)
        have htk2 : J49 28 1 = tK (I 29) (nTp I) s48.1 := hs.1.2.1.2.1
        refine rch_br cdK17 (cd := (1 : Int) ≠ 0) (t1 := (83, [some (vR 31), some (vR 28), some (vR 1), some (vI dp)], [], MW b J49 L)) (t2 := (81, [some (vR 31), some (vR 28), some (vR 1), some (vI dp)], [], MW b J49 L)) rfl (fun _ => ?_) (fun c9 => absurd (by omega) c9)
        refine rch_run cdK17 (by omega) 3 (t' := (89, [some (vR 31), some (vR 28), some (vR 1), some (vI dp)], [vI 41, vI (J49 28 1)], MW b J49 L)) (ps := []) rfl trivial ?_
        refine rch_br cdK17 (cd := J49 28 1 = (41 : Int)) (t1 := (99, [some (vR 31), some (vR 28), some (vR 1), some (vI dp)], [], MW b J49 L)) (t2 := (92, [some (vR 31), some (vR 28), some (vR 1), some (vI dp)], [], MW b J49 L)) rfl (fun c89_8 => ?_) (fun c89_8 => ?_)
        · refine rch_run cdK17 (by omega) 1 (t' := (100, [some (vR 31), some (vR 28), some (vR 1), some (vI dp)], [vR 28], MW b J49 L)) (ps := []) rfl trivial ?_
          refine rch_call (h' := 2) (k' := 42) (as := [vR 28]) (t1 := (103, [some (vR 31), some (vR 28), some (vR 1), some (vI dp)], [], MW b J49 L)) cdK17 rfl (k_adv l E b I J49 L hk h0 hs) (by omega) mw_le ?_
          rintro rt9 w9 (⟨J50, rfl, rfl, hs⟩) _ _
          show Rch l E (9 + 2 * D) 17 _ _ _ _ (103, [some (vR 31), some (vR 28), some (vR 1), some (vI dp)], [], MW b J50 L)
          refine rch_run cdK17 (by omega) 1 (t' := (104, [some (vR 31), some (vR 28), some (vR 1), some (vI dp)], [vI 1], MW b J50 L)) (ps := []) rfl trivial ?_
          refine rch_ret cdK17 (rt := some (vI 1)) rfl (Or.inr rfl) mw_c ?_
          exact Or.inl ⟨_, _, rfl, pOne_pY htk hr2 (by omega), rfl, hs⟩
        · refine rch_run cdK17 (by omega) 3 (t' := (95, [some (vR 31), some (vR 28), some (vR 1), some (vI dp)], [vI 2, vR 28, vR 31], MW b J49 L)) (ps := []) rfl trivial ?_
          refine rch_call (h' := 1) (k' := 13) (as := [vR 31, vR 28, vI 2]) (t1 := (98, [some (vR 31), some (vR 28), some (vR 1), some (vI dp)], [], MW b J49 L)) cdK17 rfl (k_stp l E b I J49 L 2 hk hs) (by omega) mw_le ?_
          rintro rt9 w9 (⟨J51, rfl, rfl, hf⟩) _ _
          show Rch l E (9 + 2 * D) 17 _ _ _ _ (98, [some (vR 31), some (vR 28), some (vR 1), some (vI dp)], [vI 0], MW b J51 L)
          refine rch_ret cdK17 (rt := some (vI 0)) rfl (Or.inl rfl) mw_c ?_
          exact Or.inr ⟨_, _, rfl, pOne_pN htk hr2 (by omega), rfl, hf⟩
      · show Rch l E (9 + 2 * D) 17 _ _ _ _ (78, [some (vR 31), some (vR 28), some (vR 1), some (vI dp)], [vI 0], MW b J49 L)
        refine rch_br cdK17 (cd := (0 : Int) ≠ 0) (t1 := (83, [some (vR 31), some (vR 28), some (vR 1), some (vI dp)], [], MW b J49 L)) (t2 := (81, [some (vR 31), some (vR 28), some (vR 1), some (vI dp)], [], MW b J49 L)) rfl (fun c9 => absurd c9 (by omega)) (fun _ => ?_)
        refine rch_run cdK17 (by omega) 1 (t' := (82, [some (vR 31), some (vR 28), some (vR 1), some (vI dp)], [vI 0], MW b J49 L)) (ps := []) rfl trivial ?_
        refine rch_ret cdK17 (rt := some (vI 0)) rfl (Or.inl rfl) mw_c ?_
        exact Or.inr ⟨_, _, rfl, pOne_pF htk hr2, rfl, hf⟩
    · refine rch_run cdK17 (by omega) 3 (t' := (61, [some (vR 31), some (vR 28), some (vR 1), some (vI dp)], [vR 1, vR 28, vR 31], MW b J L)) (ps := []) rfl trivial ?_
      refine rch_call (h' := 6) (k' := 18) (as := [vR 31, vR 28, vR 1]) (t1 := (64, [some (vR 31), some (vR 28), some (vR 1), some (vI dp)], [], MW b J L)) cdK17 rfl (k_readTest_1 l E b I J L s h0 hs hb) (by omega) mw_le ?_
      rintro rt9 w9 (⟨J52, s9, rfl, hr9, rfl, hs⟩ | ⟨J52, f9, rfl, hr9, rfl, hf⟩) _ _
      · show Rch l E (9 + 2 * D) 17 _ _ _ _ (64, [some (vR 31), some (vR 28), some (vR 1), some (vI dp)], [vI 1], MW b J52 L)
        have ht9 : PR2 1 I b L (pTest (I 29) (nTp I) s) (some (vI 1)) (MW b J52 L) := Or.inl ⟨_, _, rfl, hr9, rfl, hs⟩
        refine rch_ret cdK17 (rt := some (vI 1)) rfl (Or.inr rfl) mw_c ?_
        rw [pOne_t hq3 (by omega)]
        exact ht9
      · show Rch l E (9 + 2 * D) 17 _ _ _ _ (64, [some (vR 31), some (vR 28), some (vR 1), some (vI dp)], [vI 0], MW b J52 L)
        have ht9 : PR2 1 I b L (pTest (I 29) (nTp I) s) (some (vI 0)) (MW b J52 L) := Or.inr ⟨_, _, rfl, hr9, rfl, hf⟩
        refine rch_ret cdK17 (rt := some (vI 0)) rfl (Or.inl rfl) mw_c ?_
        rw [pOne_t hq3 (by omega)]
        exact ht9

theorem lp_ei_1 (l : Launch) (E : AX) (b : Bool) (I L : Nat → Nat → Int) (D : Nat) (dp : Int) (r : (Int × Int) ⊕ Pst) (h0 : Tp0 I) (hO : ∀ (J : Nat → Nat → Int) (s : Pst), PSx 1 I J s → 2 * s.2.2.length ≤ s.1 → Con l E (7 + 2 * D) 17 [vR 31, vR 28, vR 1, vI dp] (MW b J L) 0 0 (PR2 1 I b L (pOne (I 29) (nTp I) D s))) (J0 : Nat → Nat → Int) : ∀ (n9 : Nat) (i : Int) (J : Nat → Nat → Int) (w : Bool) (s : Pst), 0 ≤ i ∧ i ≤ 500 → PSx 1 I J s → 2 * s.2.2.length + (if w = true then 2 else 0) ≤ s.1 → pLoop (I 29) (nTp I) (pOne (I 29) (nTp I) D) (500 - i).toNat w s = r → 500 - i < (n9 : Int) → Rch l E (8 + 2 * D) 16 (MW b J0 L) 0 0 (PR2 1 I b L r) (18, [some (vR 31), some (vR 28), some (vR 1), some (vI dp), some (vI (b2i w)), some (vI i), none], [], MW b J L) := by
  intro n9
  induction n9 with
  | zero =>
    intro i J w s h1 h2 h3 h4 hm
    exfalso; omega
  | succ n9 ih =>
    intro i J w s h1 h2 h3 h4 hm
    have hs := h2
    have hk : 1 = 1 ∨ 1 = 7 := by omega
    have ha : s.1 ≤ nTp I := hs.1.2.2.1
    have hn : nTp I ≤ 500 := by have := h0.1; unfold nTp; omega
    have hl : 2 * s.2.2.length ≤ s.1 := by omega
    have hfu : i < 500 → (500 - i).toNat = (500 - (i + 1)).toNat + 1 := fun z => by omega
    refine rch_run cdK16 (by omega) 2 (t' := (23, [some (vR 31), some (vR 28), some (vR 1), some (vI dp), some (vI (b2i w)), some (vI i), none], [vI 500, vI i], MW b J L)) (ps := []) rfl trivial ?_
    refine rch_br cdK16 (cd := (500 : Int) ≤ i) (t1 := (120, [some (vR 31), some (vR 28), some (vR 1), some (vI dp), some (vI (b2i w)), some (vI i), none], [], MW b J L)) (t2 := (26, [some (vR 31), some (vR 28), some (vR 1), some (vI dp), some (vI (b2i w)), some (vI i), none], [], MW b J L)) rfl (fun c23_1 => ?_) (fun c23_1 => ?_)
    · refine rch_run cdK16 (by omega) 1 (t' := (122, [some (vR 31), some (vR 28), some (vR 1), some (vI dp), some (vI (b2i w)), some (vI i), none], [vI (b2i w)], MW b J L)) (ps := []) rfl trivial ?_
      refine rch_br cdK16 (cd := b2i w = 0) (t1 := (132, [some (vR 31), some (vR 28), some (vR 1), some (vI dp), some (vI (b2i w)), some (vI i), none], [], MW b J L)) (t2 := (125, [some (vR 31), some (vR 28), some (vR 1), some (vI dp), some (vI (b2i w)), some (vI i), none], [], MW b J L)) rfl (fun c122 => ?_) (fun c122 => ?_)
      · refine rch_run cdK16 (by omega) 1 (t' := (133, [some (vR 31), some (vR 28), some (vR 1), some (vI dp), some (vI (b2i w)), some (vI i), none], [vI 1], MW b J L)) (ps := []) rfl trivial ?_
        refine rch_ret cdK16 (rt := some (vI 1)) rfl (Or.inr rfl) mw_c ?_
        first | exact Or.inl ⟨_, (if w = true then psh s 6 else s), rfl, (by rw [← h4, pLoop_e hq8 hq9]), rfl, (by first | (rw [if_pos hwt]; exact hs) | (rw [if_neg (b2i_n c122)]; exact hs))⟩ | exact Or.inl ⟨_, (if w = true then psh s 6 else s), rfl, (by rw [← h4, show (500 - i).toNat = 0 by omega]; exact pLoop_0), rfl, (by first | (rw [if_pos hwt]; exact hs) | (rw [if_neg (b2i_n c122)]; exact hs))⟩
      · refine rch_run cdK16 (by omega) 4 (t' := (129, [some (vR 31), some (vR 28), some (vR 1), some (vI dp), some (vI (b2i w)), some (vI i), none], [vI 0, vI 0, vI 5, vR 1], MW b J L)) (ps := []) rfl trivial ?_
        have hwt : w = true := b2i_t c122
        rw [if_pos hwt] at h3
        refine rch_call (h' := 1) (k' := 2) (as := [vR 1, vI 5, vI 0, vI 0]) (t1 := (132, [some (vR 31), some (vR 28), some (vR 1), some (vI dp), some (vI (b2i w)), some (vI i), none], [], MW b J L)) cdK16 rfl (k_push_1 l E b I J L (c := 6) hs (by decide) rfl rfl (by have hl9 := hs.1.2.2.1; (try dsimp only at hl9 ⊢); omega)) (by omega) mw_le ?_
        rintro rt9 w9 (⟨J53, rfl, rfl, hs⟩) _ _
        show Rch l E (8 + 2 * D) 16 _ _ _ _ (132, [some (vR 31), some (vR 28), some (vR 1), some (vI dp), some (vI (b2i w)), some (vI i), none], [], MW b J53 L)
        refine rch_run cdK16 (by omega) 1 (t' := (133, [some (vR 31), some (vR 28), some (vR 1), some (vI dp), some (vI (b2i w)), some (vI i), none], [vI 1], MW b J53 L)) (ps := []) rfl trivial ?_
        refine rch_ret cdK16 (rt := some (vI 1)) rfl (Or.inr rfl) mw_c ?_
        first | exact Or.inl ⟨_, (if w = true then psh s 6 else s), rfl, (by rw [← h4, pLoop_e hq8 hq9]), rfl, (by first | (rw [if_pos hwt]; exact hs) | (rw [if_neg (b2i_n c122)]; exact hs))⟩ | exact Or.inl ⟨_, (if w = true then psh s 6 else s), rfl, (by rw [← h4, show (500 - i).toNat = 0 by omega]; exact pLoop_0), rfl, (by first | (rw [if_pos hwt]; exact hs) | (rw [if_neg (b2i_n c122)]; exact hs))⟩
    · refine rch_run cdK16 (by omega) 2 (t' := (29, [some (vR 31), some (vR 28), some (vR 1), some (vI dp), some (vI (b2i w)), some (vI i), none], [vR 2008, vR 28], MW b J L)) (ps := []) rfl trivial ?_
      refine rch_call (h' := 5) (k' := 45) (as := [vR 28, vR 2008]) (t1 := (32, [some (vR 31), some (vR 28), some (vR 1), some (vI dp), some (vI (b2i w)), some (vI i), none], [], MW b J L)) cdK16 rfl (k_rd_8 l E b I J L hk h0 hs) (by omega) mw_le ?_
      rintro rt9 w9 (⟨hq8, rfl, rfl⟩ | ⟨hq8, rfl, rfl⟩) _ _
      · show Rch l E (8 + 2 * D) 16 _ _ _ _ (32, [some (vR 31), some (vR 28), some (vR 1), some (vI dp), some (vI (b2i w)), some (vI i), none], [vI 1], MW b J L)
        refine rch_br cdK16 (cd := (1 : Int) ≠ 0) (t1 := (44, [some (vR 31), some (vR 28), some (vR 1), some (vI dp), some (vI (b2i w)), some (vI i), none], [], MW b J L)) (t2 := (35, [some (vR 31), some (vR 28), some (vR 1), some (vI dp), some (vI (b2i w)), some (vI i), none], [], MW b J L)) rfl (fun _ => ?_) (fun c9 => absurd (by omega) c9)
        refine rch_run cdK16 (by omega) 2 (t' := (47, [some (vR 31), some (vR 28), some (vR 1), some (vI dp), some (vI (b2i w)), some (vI i), none], [vR 2008, vR 28], MW b J L)) (ps := []) rfl trivial ?_
        refine rch_call (h' := 5) (k' := 45) (as := [vR 28, vR 2008]) (t1 := (50, [some (vR 31), some (vR 28), some (vR 1), some (vI dp), some (vI (b2i w)), some (vI i), none], [], MW b J L)) cdK16 rfl (con_imp (k_rd_8 l E b I J L hk h0 hs) (rd1 hq8)) (by omega) mw_le ?_
        rintro rt9 w9 (⟨rfl, rfl⟩) _ _
        show Rch l E (8 + 2 * D) 16 _ _ _ _ (50, [some (vR 31), some (vR 28), some (vR 1), some (vI dp), some (vI (b2i w)), some (vI i), none], [vI 1], MW b J L)
        refine rch_run cdK16 (by omega) 2 (t' := (54, [some (vR 31), some (vR 28), some (vR 1), some (vI dp), some (vI (b2i w)), some (vI i), some (vI 1)], [vI 1], MW b J L)) (ps := []) rfl trivial ?_
        refine rch_br cdK16 (cd := (1 : Int) = 0) (t1 := (69, [some (vR 31), some (vR 28), some (vR 1), some (vI dp), some (vI (b2i w)), some (vI i), some (vI 1)], [], MW b J L)) (t2 := (57, [some (vR 31), some (vR 28), some (vR 1), some (vI dp), some (vI (b2i w)), some (vI i), some (vI 1)], [], MW b J L)) rfl (fun c9 => absurd c9 (by omega)) (fun _ => ?_)
        refine rch_run cdK16 (by omega) 1 (t' := (59, [some (vR 31), some (vR 28), some (vR 1), some (vI dp), some (vI (b2i w)), some (vI i), some (vI 1)], [vI (b2i w)], MW b J L)) (ps := []) rfl trivial ?_
        refine rch_br cdK16 (cd := b2i w = 0) (t1 := (69, [some (vR 31), some (vR 28), some (vR 1), some (vI dp), some (vI (b2i w)), some (vI i), some (vI 1)], [], MW b J L)) (t2 := (62, [some (vR 31), some (vR 28), some (vR 1), some (vI dp), some (vI (b2i w)), some (vI i), some (vI 1)], [], MW b J L)) rfl (fun c59 => ?_) (fun c59 => ?_)
        · refine rch_run cdK16 (by omega) 1 (t' := (71, [some (vR 31), some (vR 28), some (vR 1), some (vI dp), some (vI (b2i w)), some (vI i), some (vI 1)], [vI (b2i w)], MW b J L)) (ps := []) rfl trivial ?_
          refine rch_br cdK16 (cd := b2i w ≠ 0) (t1 := (79, [some (vR 31), some (vR 28), some (vR 1), some (vI dp), some (vI (b2i w)), some (vI i), some (vI 1)], [], MW b J L)) (t2 := (74, [some (vR 31), some (vR 28), some (vR 1), some (vI dp), some (vI (b2i w)), some (vI i), some (vI 1)], [], MW b J L)) rfl (fun c71 => ?_) (fun c71 => ?_)
          · refine rch_run cdK16 (by omega) 4 (t' := (87, [some (vR 31), some (vR 28), some (vR 1), some (vI dp), some (vI 1), some (vI i), some (vI 1)], [vR 28], MW b J L)) (ps := []) rfl trivial ?_
            have hl8 := wd_l2 (by omega) hn ha hq8
            refine rch_call (h' := 2) (k' := 42) (as := [vR 28]) (t1 := (90, [some (vR 31), some (vR 28), some (vR 1), some (vI dp), some (vI 1), some (vI i), some (vI 1)], [], MW b J L)) cdK16 rfl (k_adv l E b I J L hk h0 hs) (by omega) mw_le ?_
            rintro rt9 w9 (⟨J54, rfl, rfl, hs⟩) _ _
            show Rch l E (8 + 2 * D) 16 _ _ _ _ (90, [some (vR 31), some (vR 28), some (vR 1), some (vI dp), some (vI 1), some (vI i), some (vI 1)], [], MW b J54 L)
            refine rch_run cdK16 (by omega) 4 (t' := (94, [some (vR 31), some (vR 28), some (vR 1), some (vI dp), some (vI 1), some (vI i), some (vI 1)], [vI dp, vR 1, vR 28, vR 31], MW b J54 L)) (ps := []) rfl trivial ?_
            refine rch_call (h' := 7 + 2 * D) (k' := 17) (as := [vR 31, vR 28, vR 1, vI dp]) (t1 := (97, [some (vR 31), some (vR 28), some (vR 1), some (vI dp), some (vI 1), some (vI i), some (vI 1)], [], MW b J54 L)) cdK16 rfl (hO J54 _ hs (by (try dsimp only); (try rw [List.length_append, List.length_singleton]); omega)) (by omega) mw_le ?_
            rintro rt9 w9 (⟨J55, s54, rfl, hr1, rfl, hs⟩ | ⟨J55, f9, rfl, hr1, rfl, hf⟩) _ _
            · show Rch l E (8 + 2 * D) 16 _ _ _ _ (97, [some (vR 31), some (vR 28), some (vR 1), some (vI dp), some (vI 1), some (vI i), some (vI 1)], [vI 1], MW b J55 L)
              have hbd := (pOne_bd hn D _ _ (by dsimp only; omega) hr1).2
              (try dsimp only at hbd); (try rw [List.length_append, List.length_singleton] at hbd)
              refine rch_br cdK16 (cd := (1 : Int) ≠ 0) (t1 := (102, [some (vR 31), some (vR 28), some (vR 1), some (vI dp), some (vI 1), some (vI i), some (vI 1)], [], MW b J55 L)) (t2 := (100, [some (vR 31), some (vR 28), some (vR 1), some (vI dp), some (vI 1), some (vI i), some (vI 1)], [], MW b J55 L)) rfl (fun _ => ?_) (fun c9 => absurd (by omega) c9)
              refine rch_run cdK16 (by omega) 1 (t' := (104, [some (vR 31), some (vR 28), some (vR 1), some (vI dp), some (vI 1), some (vI i), some (vI 1)], [vI 1], MW b J55 L)) (ps := []) rfl trivial ?_
              refine rch_br cdK16 (cd := (1 : Int) ≠ 0) (t1 := (114, [some (vR 31), some (vR 28), some (vR 1), some (vI dp), some (vI 1), some (vI i), some (vI 1)], [], MW b J55 L)) (t2 := (107, [some (vR 31), some (vR 28), some (vR 1), some (vI dp), some (vI 1), some (vI i), some (vI 1)], [], MW b J55 L)) rfl (fun _ => ?_) (fun c9 => absurd (by omega) c9)
              refine rch_run cdK16 (by omega) 2 (t' := (18, [some (vR 31), some (vR 28), some (vR 1), some (vI dp), some (vI 1), some (vI (i + 1)), some (vI 1)], [], MW b J55 L)) (ps := [i32 (i + 1)]) rfl (by simp only [all_, i32, i64]; first | omega | (simp; done) | (simp; omega)) ?_
              refine rch_forget [6] ?_
              have e9 : b2i true = 1 := rfl
              have hx := ih (i + 1) _ true _ (by omega) hs (by rw [if_pos rfl]; omega) (by rw [← h4, hfu (by omega)]; exact (pLoop_o hq8 (by first | exact (by rw [if_pos hwt]; exact hr1) | exact (by rw [if_neg (b2i_n c59)]; exact hr1))).symm) (by omega)
              rw [e9] at hx
              exact hx
            · show Rch l E (8 + 2 * D) 16 _ _ _ _ (97, [some (vR 31), some (vR 28), some (vR 1), some (vI dp), some (vI 1), some (vI i), some (vI 1)], [vI 0], MW b J55 L)
              refine rch_br cdK16 (cd := (0 : Int) ≠ 0) (t1 := (102, [some (vR 31), some (vR 28), some (vR 1), some (vI dp), some (vI 1), some (vI i), some (vI 1)], [], MW b J55 L)) (t2 := (100, [some (vR 31), some (vR 28), some (vR 1), some (vI dp), some (vI 1), some (vI i), some (vI 1)], [], MW b J55 L)) rfl (fun c9 => absurd c9 (by omega)) (fun _ => ?_)
              refine rch_run cdK16 (by omega) 1 (t' := (101, [some (vR 31), some (vR 28), some (vR 1), some (vI dp), some (vI 1), some (vI i), some (vI 1)], [vI 0], MW b J55 L)) (ps := []) rfl trivial ?_
              refine rch_ret cdK16 (rt := some (vI 0)) rfl (Or.inl rfl) mw_c ?_
              exact Or.inr ⟨_, _, rfl, (by rw [← h4, hfu (by omega)]; exact pLoop_oF hq8 (by first | exact (by rw [if_pos hwt]; exact hr1) | exact (by rw [if_neg (b2i_n c59)]; exact hr1))), rfl, hf⟩
          · refine rch_run cdK16 (by omega) 1 (t' := (76, [some (vR 31), some (vR 28), some (vR 1), some (vI dp), some (vI (b2i w)), some (vI i), some (vI 1)], [vI 1], MW b J L)) (ps := []) rfl trivial ?_
            refine rch_br cdK16 (cd := (1 : Int) = 0) (t1 := (83, [some (vR 31), some (vR 28), some (vR 1), some (vI dp), some (vI (b2i w)), some (vI i), some (vI 1)], [], MW b J L)) (t2 := (79, [some (vR 31), some (vR 28), some (vR 1), some (vI dp), some (vI (b2i w)), some (vI i), some (vI 1)], [], MW b J L)) rfl (fun c9 => absurd c9 (by omega)) (fun _ => ?_)
            refine rch_run cdK16 (by omega) 4 (t' := (87, [some (vR 31), some (vR 28), some (vR 1), some (vI dp), some (vI 1), some (vI i), some (vI 1)], [vR 28], MW b J L)) (ps := []) rfl trivial ?_
            have hl8 := wd_l2 (by omega) hn ha hq8
            refine rch_call (h' := 2) (k' := 42) (as := [vR 28]) (t1 := (90, [some (vR 31), some (vR 28), some (vR 1), some (vI dp), some (vI 1), some (vI i), some (vI 1)], [], MW b J L)) cdK16 rfl (k_adv l E b I J L hk h0 hs) (by omega) mw_le ?_
            rintro rt9 w9 (⟨J56, rfl, rfl, hs⟩) _ _
            show Rch l E (8 + 2 * D) 16 _ _ _ _ (90, [some (vR 31), some (vR 28), some (vR 1), some (vI dp), some (vI 1), some (vI i), some (vI 1)], [], MW b J56 L)
            refine rch_run cdK16 (by omega) 4 (t' := (94, [some (vR 31), some (vR 28), some (vR 1), some (vI dp), some (vI 1), some (vI i), some (vI 1)], [vI dp, vR 1, vR 28, vR 31], MW b J56 L)) (ps := []) rfl trivial ?_
            refine rch_call (h' := 7 + 2 * D) (k' := 17) (as := [vR 31, vR 28, vR 1, vI dp]) (t1 := (97, [some (vR 31), some (vR 28), some (vR 1), some (vI dp), some (vI 1), some (vI i), some (vI 1)], [], MW b J56 L)) cdK16 rfl (hO J56 _ hs (by (try dsimp only); (try rw [List.length_append, List.length_singleton]); omega)) (by omega) mw_le ?_
            rintro rt9 w9 (⟨J57, s56, rfl, hr1, rfl, hs⟩ | ⟨J57, f9, rfl, hr1, rfl, hf⟩) _ _
            · show Rch l E (8 + 2 * D) 16 _ _ _ _ (97, [some (vR 31), some (vR 28), some (vR 1), some (vI dp), some (vI 1), some (vI i), some (vI 1)], [vI 1], MW b J57 L)
              have hbd := (pOne_bd hn D _ _ (by dsimp only; omega) hr1).2
              (try dsimp only at hbd); (try rw [List.length_append, List.length_singleton] at hbd)
              refine rch_br cdK16 (cd := (1 : Int) ≠ 0) (t1 := (102, [some (vR 31), some (vR 28), some (vR 1), some (vI dp), some (vI 1), some (vI i), some (vI 1)], [], MW b J57 L)) (t2 := (100, [some (vR 31), some (vR 28), some (vR 1), some (vI dp), some (vI 1), some (vI i), some (vI 1)], [], MW b J57 L)) rfl (fun _ => ?_) (fun c9 => absurd (by omega) c9)
              refine rch_run cdK16 (by omega) 1 (t' := (104, [some (vR 31), some (vR 28), some (vR 1), some (vI dp), some (vI 1), some (vI i), some (vI 1)], [vI 1], MW b J57 L)) (ps := []) rfl trivial ?_
              refine rch_br cdK16 (cd := (1 : Int) ≠ 0) (t1 := (114, [some (vR 31), some (vR 28), some (vR 1), some (vI dp), some (vI 1), some (vI i), some (vI 1)], [], MW b J57 L)) (t2 := (107, [some (vR 31), some (vR 28), some (vR 1), some (vI dp), some (vI 1), some (vI i), some (vI 1)], [], MW b J57 L)) rfl (fun _ => ?_) (fun c9 => absurd (by omega) c9)
              refine rch_run cdK16 (by omega) 2 (t' := (18, [some (vR 31), some (vR 28), some (vR 1), some (vI dp), some (vI 1), some (vI (i + 1)), some (vI 1)], [], MW b J57 L)) (ps := [i32 (i + 1)]) rfl (by simp only [all_, i32, i64]; first | omega | (simp; done) | (simp; omega)) ?_
              refine rch_forget [6] ?_
              have e9 : b2i true = 1 := rfl
              have hx := ih (i + 1) _ true _ (by omega) hs (by rw [if_pos rfl]; omega) (by rw [← h4, hfu (by omega)]; exact (pLoop_o hq8 (by first | exact (by rw [if_pos hwt]; exact hr1) | exact (by rw [if_neg (b2i_n c59)]; exact hr1))).symm) (by omega)
              rw [e9] at hx
              exact hx
            · show Rch l E (8 + 2 * D) 16 _ _ _ _ (97, [some (vR 31), some (vR 28), some (vR 1), some (vI dp), some (vI 1), some (vI i), some (vI 1)], [vI 0], MW b J57 L)
              refine rch_br cdK16 (cd := (0 : Int) ≠ 0) (t1 := (102, [some (vR 31), some (vR 28), some (vR 1), some (vI dp), some (vI 1), some (vI i), some (vI 1)], [], MW b J57 L)) (t2 := (100, [some (vR 31), some (vR 28), some (vR 1), some (vI dp), some (vI 1), some (vI i), some (vI 1)], [], MW b J57 L)) rfl (fun c9 => absurd c9 (by omega)) (fun _ => ?_)
              refine rch_run cdK16 (by omega) 1 (t' := (101, [some (vR 31), some (vR 28), some (vR 1), some (vI dp), some (vI 1), some (vI i), some (vI 1)], [vI 0], MW b J57 L)) (ps := []) rfl trivial ?_
              refine rch_ret cdK16 (rt := some (vI 0)) rfl (Or.inl rfl) mw_c ?_
              exact Or.inr ⟨_, _, rfl, (by rw [← h4, hfu (by omega)]; exact pLoop_oF hq8 (by first | exact (by rw [if_pos hwt]; exact hr1) | exact (by rw [if_neg (b2i_n c59)]; exact hr1))), rfl, hf⟩
        · refine rch_run cdK16 (by omega) 4 (t' := (66, [some (vR 31), some (vR 28), some (vR 1), some (vI dp), some (vI (b2i w)), some (vI i), some (vI 1)], [vI 0, vI 0, vI 5, vR 1], MW b J L)) (ps := []) rfl trivial ?_
          have hwt : w = true := b2i_t c59
          rw [if_pos hwt] at h3
          refine rch_call (h' := 1) (k' := 2) (as := [vR 1, vI 5, vI 0, vI 0]) (t1 := (69, [some (vR 31), some (vR 28), some (vR 1), some (vI dp), some (vI (b2i w)), some (vI i), some (vI 1)], [], MW b J L)) cdK16 rfl (k_push_1 l E b I J L (c := 6) hs (by decide) rfl rfl (by have hl9 := hs.1.2.2.1; (try dsimp only at hl9 ⊢); omega)) (by omega) mw_le ?_
          rintro rt9 w9 (⟨J58, rfl, rfl, hs⟩) _ _
          show Rch l E (8 + 2 * D) 16 _ _ _ _ (69, [some (vR 31), some (vR 28), some (vR 1), some (vI dp), some (vI (b2i w)), some (vI i), some (vI 1)], [], MW b J58 L)
          refine rch_run cdK16 (by omega) 1 (t' := (71, [some (vR 31), some (vR 28), some (vR 1), some (vI dp), some (vI (b2i w)), some (vI i), some (vI 1)], [vI (b2i w)], MW b J58 L)) (ps := []) rfl trivial ?_
          refine rch_br cdK16 (cd := b2i w ≠ 0) (t1 := (79, [some (vR 31), some (vR 28), some (vR 1), some (vI dp), some (vI (b2i w)), some (vI i), some (vI 1)], [], MW b J58 L)) (t2 := (74, [some (vR 31), some (vR 28), some (vR 1), some (vI dp), some (vI (b2i w)), some (vI i), some (vI 1)], [], MW b J58 L)) rfl (fun c71 => ?_) (fun c71 => ?_)
          · refine rch_run cdK16 (by omega) 4 (t' := (87, [some (vR 31), some (vR 28), some (vR 1), some (vI dp), some (vI 1), some (vI i), some (vI 1)], [vR 28], MW b J58 L)) (ps := []) rfl trivial ?_
            have hl8 := wd_l2 (by omega) hn ha hq8
            refine rch_call (h' := 2) (k' := 42) (as := [vR 28]) (t1 := (90, [some (vR 31), some (vR 28), some (vR 1), some (vI dp), some (vI 1), some (vI i), some (vI 1)], [], MW b J58 L)) cdK16 rfl (k_adv l E b I J58 L hk h0 hs) (by omega) mw_le ?_
            rintro rt9 w9 (⟨J59, rfl, rfl, hs⟩) _ _
            show Rch l E (8 + 2 * D) 16 _ _ _ _ (90, [some (vR 31), some (vR 28), some (vR 1), some (vI dp), some (vI 1), some (vI i), some (vI 1)], [], MW b J59 L)
            refine rch_run cdK16 (by omega) 4 (t' := (94, [some (vR 31), some (vR 28), some (vR 1), some (vI dp), some (vI 1), some (vI i), some (vI 1)], [vI dp, vR 1, vR 28, vR 31], MW b J59 L)) (ps := []) rfl trivial ?_
            refine rch_call (h' := 7 + 2 * D) (k' := 17) (as := [vR 31, vR 28, vR 1, vI dp]) (t1 := (97, [some (vR 31), some (vR 28), some (vR 1), some (vI dp), some (vI 1), some (vI i), some (vI 1)], [], MW b J59 L)) cdK16 rfl (hO J59 _ hs (by (try dsimp only); (try rw [List.length_append, List.length_singleton]); omega)) (by omega) mw_le ?_
            rintro rt9 w9 (⟨J60, s59, rfl, hr1, rfl, hs⟩ | ⟨J60, f9, rfl, hr1, rfl, hf⟩) _ _
            · show Rch l E (8 + 2 * D) 16 _ _ _ _ (97, [some (vR 31), some (vR 28), some (vR 1), some (vI dp), some (vI 1), some (vI i), some (vI 1)], [vI 1], MW b J60 L)
              have hbd := (pOne_bd hn D _ _ (by dsimp only; omega) hr1).2
              (try dsimp only at hbd); (try rw [List.length_append, List.length_singleton] at hbd)
              refine rch_br cdK16 (cd := (1 : Int) ≠ 0) (t1 := (102, [some (vR 31), some (vR 28), some (vR 1), some (vI dp), some (vI 1), some (vI i), some (vI 1)], [], MW b J60 L)) (t2 := (100, [some (vR 31), some (vR 28), some (vR 1), some (vI dp), some (vI 1), some (vI i), some (vI 1)], [], MW b J60 L)) rfl (fun _ => ?_) (fun c9 => absurd (by omega) c9)
              refine rch_run cdK16 (by omega) 1 (t' := (104, [some (vR 31), some (vR 28), some (vR 1), some (vI dp), some (vI 1), some (vI i), some (vI 1)], [vI 1], MW b J60 L)) (ps := []) rfl trivial ?_
              refine rch_br cdK16 (cd := (1 : Int) ≠ 0) (t1 := (114, [some (vR 31), some (vR 28), some (vR 1), some (vI dp), some (vI 1), some (vI i), some (vI 1)], [], MW b J60 L)) (t2 := (107, [some (vR 31), some (vR 28), some (vR 1), some (vI dp), some (vI 1), some (vI i), some (vI 1)], [], MW b J60 L)) rfl (fun _ => ?_) (fun c9 => absurd (by omega) c9)
              refine rch_run cdK16 (by omega) 2 (t' := (18, [some (vR 31), some (vR 28), some (vR 1), some (vI dp), some (vI 1), some (vI (i + 1)), some (vI 1)], [], MW b J60 L)) (ps := [i32 (i + 1)]) rfl (by simp only [all_, i32, i64]; first | omega | (simp; done) | (simp; omega)) ?_
              refine rch_forget [6] ?_
              have e9 : b2i true = 1 := rfl
              have hx := ih (i + 1) _ true _ (by omega) hs (by rw [if_pos rfl]; omega) (by rw [← h4, hfu (by omega)]; exact (pLoop_o hq8 (by first | exact (by rw [if_pos hwt]; exact hr1) | exact (by rw [if_neg (b2i_n c59)]; exact hr1))).symm) (by omega)
              rw [e9] at hx
              exact hx
            · show Rch l E (8 + 2 * D) 16 _ _ _ _ (97, [some (vR 31), some (vR 28), some (vR 1), some (vI dp), some (vI 1), some (vI i), some (vI 1)], [vI 0], MW b J60 L)
              refine rch_br cdK16 (cd := (0 : Int) ≠ 0) (t1 := (102, [some (vR 31), some (vR 28), some (vR 1), some (vI dp), some (vI 1), some (vI i), some (vI 1)], [], MW b J60 L)) (t2 := (100, [some (vR 31), some (vR 28), some (vR 1), some (vI dp), some (vI 1), some (vI i), some (vI 1)], [], MW b J60 L)) rfl (fun c9 => absurd c9 (by omega)) (fun _ => ?_)
              refine rch_run cdK16 (by omega) 1 (t' := (101, [some (vR 31), some (vR 28), some (vR 1), some (vI dp), some (vI 1), some (vI i), some (vI 1)], [vI 0], MW b J60 L)) (ps := []) rfl trivial ?_
              refine rch_ret cdK16 (rt := some (vI 0)) rfl (Or.inl rfl) mw_c ?_
              exact Or.inr ⟨_, _, rfl, (by rw [← h4, hfu (by omega)]; exact pLoop_oF hq8 (by first | exact (by rw [if_pos hwt]; exact hr1) | exact (by rw [if_neg (b2i_n c59)]; exact hr1))), rfl, hf⟩
          · refine rch_run cdK16 (by omega) 1 (t' := (76, [some (vR 31), some (vR 28), some (vR 1), some (vI dp), some (vI (b2i w)), some (vI i), some (vI 1)], [vI 1], MW b J58 L)) (ps := []) rfl trivial ?_
            refine rch_br cdK16 (cd := (1 : Int) = 0) (t1 := (83, [some (vR 31), some (vR 28), some (vR 1), some (vI dp), some (vI (b2i w)), some (vI i), some (vI 1)], [], MW b J58 L)) (t2 := (79, [some (vR 31), some (vR 28), some (vR 1), some (vI dp), some (vI (b2i w)), some (vI i), some (vI 1)], [], MW b J58 L)) rfl (fun c9 => absurd c9 (by omega)) (fun _ => ?_)
            refine rch_run cdK16 (by omega) 4 (t' := (87, [some (vR 31), some (vR 28), some (vR 1), some (vI dp), some (vI 1), some (vI i), some (vI 1)], [vR 28], MW b J58 L)) (ps := []) rfl trivial ?_
            have hl8 := wd_l2 (by omega) hn ha hq8
            refine rch_call (h' := 2) (k' := 42) (as := [vR 28]) (t1 := (90, [some (vR 31), some (vR 28), some (vR 1), some (vI dp), some (vI 1), some (vI i), some (vI 1)], [], MW b J58 L)) cdK16 rfl (k_adv l E b I J58 L hk h0 hs) (by omega) mw_le ?_
            rintro rt9 w9 (⟨J61, rfl, rfl, hs⟩) _ _
            show Rch l E (8 + 2 * D) 16 _ _ _ _ (90, [some (vR 31), some (vR 28), some (vR 1), some (vI dp), some (vI 1), some (vI i), some (vI 1)], [], MW b J61 L)
            refine rch_run cdK16 (by omega) 4 (t' := (94, [some (vR 31), some (vR 28), some (vR 1), some (vI dp), some (vI 1), some (vI i), some (vI 1)], [vI dp, vR 1, vR 28, vR 31], MW b J61 L)) (ps := []) rfl trivial ?_
            refine rch_call (h' := 7 + 2 * D) (k' := 17) (as := [vR 31, vR 28, vR 1, vI dp]) (t1 := (97, [some (vR 31), some (vR 28), some (vR 1), some (vI dp), some (vI 1), some (vI i), some (vI 1)], [], MW b J61 L)) cdK16 rfl (hO J61 _ hs (by (try dsimp only); (try rw [List.length_append, List.length_singleton]); omega)) (by omega) mw_le ?_
            rintro rt9 w9 (⟨J62, s61, rfl, hr1, rfl, hs⟩ | ⟨J62, f9, rfl, hr1, rfl, hf⟩) _ _
            · show Rch l E (8 + 2 * D) 16 _ _ _ _ (97, [some (vR 31), some (vR 28), some (vR 1), some (vI dp), some (vI 1), some (vI i), some (vI 1)], [vI 1], MW b J62 L)
              have hbd := (pOne_bd hn D _ _ (by dsimp only; omega) hr1).2
              (try dsimp only at hbd); (try rw [List.length_append, List.length_singleton] at hbd)
              refine rch_br cdK16 (cd := (1 : Int) ≠ 0) (t1 := (102, [some (vR 31), some (vR 28), some (vR 1), some (vI dp), some (vI 1), some (vI i), some (vI 1)], [], MW b J62 L)) (t2 := (100, [some (vR 31), some (vR 28), some (vR 1), some (vI dp), some (vI 1), some (vI i), some (vI 1)], [], MW b J62 L)) rfl (fun _ => ?_) (fun c9 => absurd (by omega) c9)
              refine rch_run cdK16 (by omega) 1 (t' := (104, [some (vR 31), some (vR 28), some (vR 1), some (vI dp), some (vI 1), some (vI i), some (vI 1)], [vI 1], MW b J62 L)) (ps := []) rfl trivial ?_
              refine rch_br cdK16 (cd := (1 : Int) ≠ 0) (t1 := (114, [some (vR 31), some (vR 28), some (vR 1), some (vI dp), some (vI 1), some (vI i), some (vI 1)], [], MW b J62 L)) (t2 := (107, [some (vR 31), some (vR 28), some (vR 1), some (vI dp), some (vI 1), some (vI i), some (vI 1)], [], MW b J62 L)) rfl (fun _ => ?_) (fun c9 => absurd (by omega) c9)
              refine rch_run cdK16 (by omega) 2 (t' := (18, [some (vR 31), some (vR 28), some (vR 1), some (vI dp), some (vI 1), some (vI (i + 1)), some (vI 1)], [], MW b J62 L)) (ps := [i32 (i + 1)]) rfl (by simp only [all_, i32, i64]; first | omega | (simp; done) | (simp; omega)) ?_
              refine rch_forget [6] ?_
              have e9 : b2i true = 1 := rfl
              have hx := ih (i + 1) _ true _ (by omega) hs (by rw [if_pos rfl]; omega) (by rw [← h4, hfu (by omega)]; exact (pLoop_o hq8 (by first | exact (by rw [if_pos hwt]; exact hr1) | exact (by rw [if_neg (b2i_n c59)]; exact hr1))).symm) (by omega)
              rw [e9] at hx
              exact hx
            · show Rch l E (8 + 2 * D) 16 _ _ _ _ (97, [some (vR 31), some (vR 28), some (vR 1), some (vI dp), some (vI 1), some (vI i), some (vI 1)], [vI 0], MW b J62 L)
              refine rch_br cdK16 (cd := (0 : Int) ≠ 0) (t1 := (102, [some (vR 31), some (vR 28), some (vR 1), some (vI dp), some (vI 1), some (vI i), some (vI 1)], [], MW b J62 L)) (t2 := (100, [some (vR 31), some (vR 28), some (vR 1), some (vI dp), some (vI 1), some (vI i), some (vI 1)], [], MW b J62 L)) rfl (fun c9 => absurd c9 (by omega)) (fun _ => ?_)
              refine rch_run cdK16 (by omega) 1 (t' := (101, [some (vR 31), some (vR 28), some (vR 1), some (vI dp), some (vI 1), some (vI i), some (vI 1)], [vI 0], MW b J62 L)) (ps := []) rfl trivial ?_
              refine rch_ret cdK16 (rt := some (vI 0)) rfl (Or.inl rfl) mw_c ?_
              exact Or.inr ⟨_, _, rfl, (by rw [← h4, hfu (by omega)]; exact pLoop_oF hq8 (by first | exact (by rw [if_pos hwt]; exact hr1) | exact (by rw [if_neg (b2i_n c59)]; exact hr1))), rfl, hf⟩
      · show Rch l E (8 + 2 * D) 16 _ _ _ _ (32, [some (vR 31), some (vR 28), some (vR 1), some (vI dp), some (vI (b2i w)), some (vI i), none], [vI 0], MW b J L)
        refine rch_br cdK16 (cd := (0 : Int) ≠ 0) (t1 := (44, [some (vR 31), some (vR 28), some (vR 1), some (vI dp), some (vI (b2i w)), some (vI i), none], [], MW b J L)) (t2 := (35, [some (vR 31), some (vR 28), some (vR 1), some (vI dp), some (vI (b2i w)), some (vI i), none], [], MW b J L)) rfl (fun c9 => absurd c9 (by omega)) (fun _ => ?_)
        refine rch_run cdK16 (by omega) 2 (t' := (38, [some (vR 31), some (vR 28), some (vR 1), some (vI dp), some (vI (b2i w)), some (vI i), none], [vR 2009, vR 28], MW b J L)) (ps := []) rfl trivial ?_
        refine rch_call (h' := 5) (k' := 45) (as := [vR 28, vR 2009]) (t1 := (41, [some (vR 31), some (vR 28), some (vR 1), some (vI dp), some (vI (b2i w)), some (vI i), none], [], MW b J L)) cdK16 rfl (k_rd_9 l E b I J L hk h0 hs) (by omega) mw_le ?_
        rintro rt9 w9 (⟨hq9, rfl, rfl⟩ | ⟨hq9, rfl, rfl⟩) _ _
        · show Rch l E (8 + 2 * D) 16 _ _ _ _ (41, [some (vR 31), some (vR 28), some (vR 1), some (vI dp), some (vI (b2i w)), some (vI i), none], [vI 1], MW b J L)
          refine rch_br cdK16 (cd := (1 : Int) = 0) (t1 := (120, [some (vR 31), some (vR 28), some (vR 1), some (vI dp), some (vI (b2i w)), some (vI i), none], [], MW b J L)) (t2 := (44, [some (vR 31), some (vR 28), some (vR 1), some (vI dp), some (vI (b2i w)), some (vI i), none], [], MW b J L)) rfl (fun c9 => absurd c9 (by omega)) (fun _ => ?_)
          refine rch_run cdK16 (by omega) 2 (t' := (47, [some (vR 31), some (vR 28), some (vR 1), some (vI dp), some (vI (b2i w)), some (vI i), none], [vR 2008, vR 28], MW b J L)) (ps := []) rfl trivial ?_
          refine rch_call (h' := 5) (k' := 45) (as := [vR 28, vR 2008]) (t1 := (50, [some (vR 31), some (vR 28), some (vR 1), some (vI dp), some (vI (b2i w)), some (vI i), none], [], MW b J L)) cdK16 rfl (con_imp (k_rd_8 l E b I J L hk h0 hs) (rd0 (wdq_ne hq9 (by omega) (by omega) (by omega)))) (by omega) mw_le ?_
          rintro rt9 w9 (⟨rfl, rfl⟩) _ _
          show Rch l E (8 + 2 * D) 16 _ _ _ _ (50, [some (vR 31), some (vR 28), some (vR 1), some (vI dp), some (vI (b2i w)), some (vI i), none], [vI 0], MW b J L)
          refine rch_run cdK16 (by omega) 2 (t' := (54, [some (vR 31), some (vR 28), some (vR 1), some (vI dp), some (vI (b2i w)), some (vI i), some (vI 0)], [vI 0], MW b J L)) (ps := []) rfl trivial ?_
          refine rch_br cdK16 (cd := (0 : Int) = 0) (t1 := (69, [some (vR 31), some (vR 28), some (vR 1), some (vI dp), some (vI (b2i w)), some (vI i), some (vI 0)], [], MW b J L)) (t2 := (57, [some (vR 31), some (vR 28), some (vR 1), some (vI dp), some (vI (b2i w)), some (vI i), some (vI 0)], [], MW b J L)) rfl (fun _ => ?_) (fun c9 => absurd (by omega) c9)
          refine rch_run cdK16 (by omega) 1 (t' := (71, [some (vR 31), some (vR 28), some (vR 1), some (vI dp), some (vI (b2i w)), some (vI i), some (vI 0)], [vI (b2i w)], MW b J L)) (ps := []) rfl trivial ?_
          refine rch_br cdK16 (cd := b2i w ≠ 0) (t1 := (79, [some (vR 31), some (vR 28), some (vR 1), some (vI dp), some (vI (b2i w)), some (vI i), some (vI 0)], [], MW b J L)) (t2 := (74, [some (vR 31), some (vR 28), some (vR 1), some (vI dp), some (vI (b2i w)), some (vI i), some (vI 0)], [], MW b J L)) rfl (fun c71 => ?_) (fun c71 => ?_)
          · refine rch_run cdK16 (by omega) 4 (t' := (87, [some (vR 31), some (vR 28), some (vR 1), some (vI dp), some (vI 1), some (vI i), some (vI 0)], [vR 28], MW b J L)) (ps := []) rfl trivial ?_
            have hl9 := wd_l2 (by omega) hn ha hq9
            refine rch_call (h' := 2) (k' := 42) (as := [vR 28]) (t1 := (90, [some (vR 31), some (vR 28), some (vR 1), some (vI dp), some (vI 1), some (vI i), some (vI 0)], [], MW b J L)) cdK16 rfl (k_adv l E b I J L hk h0 hs) (by omega) mw_le ?_
            rintro rt9 w9 (⟨J63, rfl, rfl, hs⟩) _ _
            show Rch l E (8 + 2 * D) 16 _ _ _ _ (90, [some (vR 31), some (vR 28), some (vR 1), some (vI dp), some (vI 1), some (vI i), some (vI 0)], [], MW b J63 L)
            refine rch_run cdK16 (by omega) 4 (t' := (94, [some (vR 31), some (vR 28), some (vR 1), some (vI dp), some (vI 1), some (vI i), some (vI 0)], [vI dp, vR 1, vR 28, vR 31], MW b J63 L)) (ps := []) rfl trivial ?_
            refine rch_call (h' := 7 + 2 * D) (k' := 17) (as := [vR 31, vR 28, vR 1, vI dp]) (t1 := (97, [some (vR 31), some (vR 28), some (vR 1), some (vI dp), some (vI 1), some (vI i), some (vI 0)], [], MW b J63 L)) cdK16 rfl (hO J63 _ hs (by (try dsimp only); (try rw [List.length_append, List.length_singleton]); omega)) (by omega) mw_le ?_
            rintro rt9 w9 (⟨J64, s63, rfl, hr1, rfl, hs⟩ | ⟨J64, f9, rfl, hr1, rfl, hf⟩) _ _
            · show Rch l E (8 + 2 * D) 16 _ _ _ _ (97, [some (vR 31), some (vR 28), some (vR 1), some (vI dp), some (vI 1), some (vI i), some (vI 0)], [vI 1], MW b J64 L)
              have hbd := (pOne_bd hn D _ _ (by dsimp only; omega) hr1).2
              (try dsimp only at hbd); (try rw [List.length_append, List.length_singleton] at hbd)
              refine rch_br cdK16 (cd := (1 : Int) ≠ 0) (t1 := (102, [some (vR 31), some (vR 28), some (vR 1), some (vI dp), some (vI 1), some (vI i), some (vI 0)], [], MW b J64 L)) (t2 := (100, [some (vR 31), some (vR 28), some (vR 1), some (vI dp), some (vI 1), some (vI i), some (vI 0)], [], MW b J64 L)) rfl (fun _ => ?_) (fun c9 => absurd (by omega) c9)
              refine rch_run cdK16 (by omega) 1 (t' := (104, [some (vR 31), some (vR 28), some (vR 1), some (vI dp), some (vI 1), some (vI i), some (vI 0)], [vI 0], MW b J64 L)) (ps := []) rfl trivial ?_
              refine rch_br cdK16 (cd := (0 : Int) ≠ 0) (t1 := (114, [some (vR 31), some (vR 28), some (vR 1), some (vI dp), some (vI 1), some (vI i), some (vI 0)], [], MW b J64 L)) (t2 := (107, [some (vR 31), some (vR 28), some (vR 1), some (vI dp), some (vI 1), some (vI i), some (vI 0)], [], MW b J64 L)) rfl (fun c9 => absurd c9 (by omega)) (fun _ => ?_)
              refine rch_run cdK16 (by omega) 4 (t' := (111, [some (vR 31), some (vR 28), some (vR 1), some (vI dp), some (vI 1), some (vI i), some (vI 0)], [vI 0, vI 0, vI 4, vR 1], MW b J64 L)) (ps := []) rfl trivial ?_
              refine rch_call (h' := 1) (k' := 2) (as := [vR 1, vI 4, vI 0, vI 0]) (t1 := (114, [some (vR 31), some (vR 28), some (vR 1), some (vI dp), some (vI 1), some (vI i), some (vI 0)], [], MW b J64 L)) cdK16 rfl (k_push_1 l E b I J64 L (c := 7) hs (by decide) rfl rfl (by have hl9 := hs.1.2.2.1; (try dsimp only at hl9 ⊢); omega)) (by omega) mw_le ?_
              rintro rt9 w9 (⟨J65, rfl, rfl, hs⟩) _ _
              show Rch l E (8 + 2 * D) 16 _ _ _ _ (114, [some (vR 31), some (vR 28), some (vR 1), some (vI dp), some (vI 1), some (vI i), some (vI 0)], [], MW b J65 L)
              refine rch_run cdK16 (by omega) 2 (t' := (18, [some (vR 31), some (vR 28), some (vR 1), some (vI dp), some (vI 1), some (vI (i + 1)), some (vI 0)], [], MW b J65 L)) (ps := [i32 (i + 1)]) rfl (by simp only [all_, i32, i64]; first | omega | (simp; done) | (simp; omega)) ?_
              refine rch_forget [6] ?_
              have e9 : b2i w = 1 := by rw [b2i_t c71]; rfl
              have hx := ih (i + 1) _ w _ (by omega) hs (by dsimp only; rw [List.length_append, List.length_singleton]; omega) (by rw [← h4, hfu (by omega)]; exact (pLoop_a hq9 hr1).symm) (by omega)
              rw [e9] at hx
              exact hx
            · show Rch l E (8 + 2 * D) 16 _ _ _ _ (97, [some (vR 31), some (vR 28), some (vR 1), some (vI dp), some (vI 1), some (vI i), some (vI 0)], [vI 0], MW b J64 L)
              refine rch_br cdK16 (cd := (0 : Int) ≠ 0) (t1 := (102, [some (vR 31), some (vR 28), some (vR 1), some (vI dp), some (vI 1), some (vI i), some (vI 0)], [], MW b J64 L)) (t2 := (100, [some (vR 31), some (vR 28), some (vR 1), some (vI dp), some (vI 1), some (vI i), some (vI 0)], [], MW b J64 L)) rfl (fun c9 => absurd c9 (by omega)) (fun _ => ?_)
              refine rch_run cdK16 (by omega) 1 (t' := (101, [some (vR 31), some (vR 28), some (vR 1), some (vI dp), some (vI 1), some (vI i), some (vI 0)], [vI 0], MW b J64 L)) (ps := []) rfl trivial ?_
              refine rch_ret cdK16 (rt := some (vI 0)) rfl (Or.inl rfl) mw_c ?_
              exact Or.inr ⟨_, _, rfl, (by rw [← h4, hfu (by omega)]; exact pLoop_aF hq9 hr1), rfl, hf⟩
          · refine rch_run cdK16 (by omega) 1 (t' := (76, [some (vR 31), some (vR 28), some (vR 1), some (vI dp), some (vI (b2i w)), some (vI i), some (vI 0)], [vI 0], MW b J L)) (ps := []) rfl trivial ?_
            refine rch_br cdK16 (cd := (0 : Int) = 0) (t1 := (83, [some (vR 31), some (vR 28), some (vR 1), some (vI dp), some (vI (b2i w)), some (vI i), some (vI 0)], [], MW b J L)) (t2 := (79, [some (vR 31), some (vR 28), some (vR 1), some (vI dp), some (vI (b2i w)), some (vI i), some (vI 0)], [], MW b J L)) rfl (fun _ => ?_) (fun c9 => absurd (by omega) c9)
            refine rch_run cdK16 (by omega) 3 (t' := (87, [some (vR 31), some (vR 28), some (vR 1), some (vI dp), some (vI 0), some (vI i), some (vI 0)], [vR 28], MW b J L)) (ps := []) rfl trivial ?_
            have hl9 := wd_l2 (by omega) hn ha hq9
            refine rch_call (h' := 2) (k' := 42) (as := [vR 28]) (t1 := (90, [some (vR 31), some (vR 28), some (vR 1), some (vI dp), some (vI 0), some (vI i), some (vI 0)], [], MW b J L)) cdK16 rfl (k_adv l E b I J L hk h0 hs) (by omega) mw_le ?_
            rintro rt9 w9 (⟨J66, rfl, rfl, hs⟩) _ _
            show Rch l E (8 + 2 * D) 16 _ _ _ _ (90, [some (vR 31), some (vR 28), some (vR 1), some (vI dp), some (vI 0), some (vI i), some (vI 0)], [], MW b J66 L)
            refine rch_run cdK16 (by omega) 4 (t' := (94, [some (vR 31), some (vR 28), some (vR 1), some (vI dp), some (vI 0), some (vI i), some (vI 0)], [vI dp, vR 1, vR 28, vR 31], MW b J66 L)) (ps := []) rfl trivial ?_
            refine rch_call (h' := 7 + 2 * D) (k' := 17) (as := [vR 31, vR 28, vR 1, vI dp]) (t1 := (97, [some (vR 31), some (vR 28), some (vR 1), some (vI dp), some (vI 0), some (vI i), some (vI 0)], [], MW b J66 L)) cdK16 rfl (hO J66 _ hs (by (try dsimp only); (try rw [List.length_append, List.length_singleton]); omega)) (by omega) mw_le ?_
            rintro rt9 w9 (⟨J67, s66, rfl, hr1, rfl, hs⟩ | ⟨J67, f9, rfl, hr1, rfl, hf⟩) _ _
            · show Rch l E (8 + 2 * D) 16 _ _ _ _ (97, [some (vR 31), some (vR 28), some (vR 1), some (vI dp), some (vI 0), some (vI i), some (vI 0)], [vI 1], MW b J67 L)
              have hbd := (pOne_bd hn D _ _ (by dsimp only; omega) hr1).2
              (try dsimp only at hbd); (try rw [List.length_append, List.length_singleton] at hbd)
              refine rch_br cdK16 (cd := (1 : Int) ≠ 0) (t1 := (102, [some (vR 31), some (vR 28), some (vR 1), some (vI dp), some (vI 0), some (vI i), some (vI 0)], [], MW b J67 L)) (t2 := (100, [some (vR 31), some (vR 28), some (vR 1), some (vI dp), some (vI 0), some (vI i), some (vI 0)], [], MW b J67 L)) rfl (fun _ => ?_) (fun c9 => absurd (by omega) c9)
              refine rch_run cdK16 (by omega) 1 (t' := (104, [some (vR 31), some (vR 28), some (vR 1), some (vI dp), some (vI 0), some (vI i), some (vI 0)], [vI 0], MW b J67 L)) (ps := []) rfl trivial ?_
              refine rch_br cdK16 (cd := (0 : Int) ≠ 0) (t1 := (114, [some (vR 31), some (vR 28), some (vR 1), some (vI dp), some (vI 0), some (vI i), some (vI 0)], [], MW b J67 L)) (t2 := (107, [some (vR 31), some (vR 28), some (vR 1), some (vI dp), some (vI 0), some (vI i), some (vI 0)], [], MW b J67 L)) rfl (fun c9 => absurd c9 (by omega)) (fun _ => ?_)
              refine rch_run cdK16 (by omega) 4 (t' := (111, [some (vR 31), some (vR 28), some (vR 1), some (vI dp), some (vI 0), some (vI i), some (vI 0)], [vI 0, vI 0, vI 4, vR 1], MW b J67 L)) (ps := []) rfl trivial ?_
              refine rch_call (h' := 1) (k' := 2) (as := [vR 1, vI 4, vI 0, vI 0]) (t1 := (114, [some (vR 31), some (vR 28), some (vR 1), some (vI dp), some (vI 0), some (vI i), some (vI 0)], [], MW b J67 L)) cdK16 rfl (k_push_1 l E b I J67 L (c := 7) hs (by decide) rfl rfl (by have hl9 := hs.1.2.2.1; (try dsimp only at hl9 ⊢); omega)) (by omega) mw_le ?_
              rintro rt9 w9 (⟨J68, rfl, rfl, hs⟩) _ _
              show Rch l E (8 + 2 * D) 16 _ _ _ _ (114, [some (vR 31), some (vR 28), some (vR 1), some (vI dp), some (vI 0), some (vI i), some (vI 0)], [], MW b J68 L)
              refine rch_run cdK16 (by omega) 2 (t' := (18, [some (vR 31), some (vR 28), some (vR 1), some (vI dp), some (vI 0), some (vI (i + 1)), some (vI 0)], [], MW b J68 L)) (ps := [i32 (i + 1)]) rfl (by simp only [all_, i32, i64]; first | omega | (simp; done) | (simp; omega)) ?_
              refine rch_forget [6] ?_
              have e9 : b2i w = 0 := by omega
              have hx := ih (i + 1) _ w _ (by omega) hs (by dsimp only; rw [List.length_append, List.length_singleton]; omega) (by rw [← h4, hfu (by omega)]; exact (pLoop_a hq9 hr1).symm) (by omega)
              rw [e9] at hx
              exact hx
            · show Rch l E (8 + 2 * D) 16 _ _ _ _ (97, [some (vR 31), some (vR 28), some (vR 1), some (vI dp), some (vI 0), some (vI i), some (vI 0)], [vI 0], MW b J67 L)
              refine rch_br cdK16 (cd := (0 : Int) ≠ 0) (t1 := (102, [some (vR 31), some (vR 28), some (vR 1), some (vI dp), some (vI 0), some (vI i), some (vI 0)], [], MW b J67 L)) (t2 := (100, [some (vR 31), some (vR 28), some (vR 1), some (vI dp), some (vI 0), some (vI i), some (vI 0)], [], MW b J67 L)) rfl (fun c9 => absurd c9 (by omega)) (fun _ => ?_)
              refine rch_run cdK16 (by omega) 1 (t' := (101, [some (vR 31), some (vR 28), some (vR 1), some (vI dp), some (vI 0), some (vI i), some (vI 0)], [vI 0], MW b J67 L)) (ps := []) rfl trivial ?_
              refine rch_ret cdK16 (rt := some (vI 0)) rfl (Or.inl rfl) mw_c ?_
              exact Or.inr ⟨_, _, rfl, (by rw [← h4, hfu (by omega)]; exact pLoop_aF hq9 hr1), rfl, hf⟩
        · show Rch l E (8 + 2 * D) 16 _ _ _ _ (41, [some (vR 31), some (vR 28), some (vR 1), some (vI dp), some (vI (b2i w)), some (vI i), none], [vI 0], MW b J L)
          refine rch_br cdK16 (cd := (0 : Int) = 0) (t1 := (120, [some (vR 31), some (vR 28), some (vR 1), some (vI dp), some (vI (b2i w)), some (vI i), none], [], MW b J L)) (t2 := (44, [some (vR 31), some (vR 28), some (vR 1), some (vI dp), some (vI (b2i w)), some (vI i), none], [], MW b J L)) rfl (fun _ => ?_) (fun c9 => absurd (by omega) c9)
          refine rch_run cdK16 (by omega) 1 (t' := (122, [some (vR 31), some (vR 28), some (vR 1), some (vI dp), some (vI (b2i w)), some (vI i), none], [vI (b2i w)], MW b J L)) (ps := []) rfl trivial ?_
          refine rch_br cdK16 (cd := b2i w = 0) (t1 := (132, [some (vR 31), some (vR 28), some (vR 1), some (vI dp), some (vI (b2i w)), some (vI i), none], [], MW b J L)) (t2 := (125, [some (vR 31), some (vR 28), some (vR 1), some (vI dp), some (vI (b2i w)), some (vI i), none], [], MW b J L)) rfl (fun c122 => ?_) (fun c122 => ?_)
          · refine rch_run cdK16 (by omega) 1 (t' := (133, [some (vR 31), some (vR 28), some (vR 1), some (vI dp), some (vI (b2i w)), some (vI i), none], [vI 1], MW b J L)) (ps := []) rfl trivial ?_
            refine rch_ret cdK16 (rt := some (vI 1)) rfl (Or.inr rfl) mw_c ?_
            first | exact Or.inl ⟨_, (if w = true then psh s 6 else s), rfl, (by rw [← h4, pLoop_e hq8 hq9]), rfl, (by first | (rw [if_pos hwt]; exact hs) | (rw [if_neg (b2i_n c122)]; exact hs))⟩ | exact Or.inl ⟨_, (if w = true then psh s 6 else s), rfl, (by rw [← h4, show (500 - i).toNat = 0 by omega]; exact pLoop_0), rfl, (by first | (rw [if_pos hwt]; exact hs) | (rw [if_neg (b2i_n c122)]; exact hs))⟩
          · refine rch_run cdK16 (by omega) 4 (t' := (129, [some (vR 31), some (vR 28), some (vR 1), some (vI dp), some (vI (b2i w)), some (vI i), none], [vI 0, vI 0, vI 5, vR 1], MW b J L)) (ps := []) rfl trivial ?_
            have hwt : w = true := b2i_t c122
            rw [if_pos hwt] at h3
            refine rch_call (h' := 1) (k' := 2) (as := [vR 1, vI 5, vI 0, vI 0]) (t1 := (132, [some (vR 31), some (vR 28), some (vR 1), some (vI dp), some (vI (b2i w)), some (vI i), none], [], MW b J L)) cdK16 rfl (k_push_1 l E b I J L (c := 6) hs (by decide) rfl rfl (by have hl9 := hs.1.2.2.1; (try dsimp only at hl9 ⊢); omega)) (by omega) mw_le ?_
            rintro rt9 w9 (⟨J69, rfl, rfl, hs⟩) _ _
            show Rch l E (8 + 2 * D) 16 _ _ _ _ (132, [some (vR 31), some (vR 28), some (vR 1), some (vI dp), some (vI (b2i w)), some (vI i), none], [], MW b J69 L)
            refine rch_run cdK16 (by omega) 1 (t' := (133, [some (vR 31), some (vR 28), some (vR 1), some (vI dp), some (vI (b2i w)), some (vI i), none], [vI 1], MW b J69 L)) (ps := []) rfl trivial ?_
            refine rch_ret cdK16 (rt := some (vI 1)) rfl (Or.inr rfl) mw_c ?_
            first | exact Or.inl ⟨_, (if w = true then psh s 6 else s), rfl, (by rw [← h4, pLoop_e hq8 hq9]), rfl, (by first | (rw [if_pos hwt]; exact hs) | (rw [if_neg (b2i_n c122)]; exact hs))⟩ | exact Or.inl ⟨_, (if w = true then psh s 6 else s), rfl, (by rw [← h4, show (500 - i).toNat = 0 by omega]; exact pLoop_0), rfl, (by first | (rw [if_pos hwt]; exact hs) | (rw [if_neg (b2i_n c122)]; exact hs))⟩

theorem k_ei_1 (l : Launch) (E : AX) (b : Bool) (I J L : Nat → Nat → Int) (s : Pst) (D : Nat) (dp : Int) (h0 : Tp0 I) (hs : PSx 1 I J s) (hb : 2 * s.2.2.length ≤ s.1) (hO : ∀ (J : Nat → Nat → Int) (s : Pst), PSx 1 I J s → 2 * s.2.2.length ≤ s.1 → Con l E (7 + 2 * D) 17 [vR 31, vR 28, vR 1, vI dp] (MW b J L) 0 0 (PR2 1 I b L (pOne (I 29) (nTp I) D s))) : Con l E (8 + 2 * D) 16 [vR 31, vR 28, vR 1, vI dp] (MW b J L) 0 0 (PR2 1 I b L (pEi (I 29) (nTp I) D s)) := by
  refine con_ok (fun hw9 hs9 => ?_)
  refine con_intro (by omega) (Nat.le_of_ble_eq_true rfl) ?_
  have hk : 1 = 1 ∨ 1 = 7 := by omega
  have ha : s.1 ≤ nTp I := hs.1.2.2.1
  have hn : nTp I ≤ 500 := by have := h0.1; unfold nTp; omega
  show Rch l E (8 + 2 * D) 16 _ _ _ _ (0, [some (vR 31), some (vR 28), some (vR 1), some (vI dp), none, none, none], [], MW b J L)
  refine rch_run cdK16 (by omega) 4 (t' := (4, [some (vR 31), some (vR 28), some (vR 1), some (vI dp), none, none, none], [vI dp, vR 1, vR 28, vR 31], MW b J L)) (ps := []) rfl trivial ?_
  refine rch_call (h' := 7 + 2 * D) (k' := 17) (as := [vR 31, vR 28, vR 1, vI dp]) (t1 := (7, [some (vR 31), some (vR 28), some (vR 1), some (vI dp), none, none, none], [], MW b J L)) cdK16 rfl (hO J s hs hb) (by omega) mw_le ?_
  rintro rt9 w9 (⟨J70, s69, rfl, hr1, rfl, hs⟩ | ⟨J70, f9, rfl, hr1, rfl, hf⟩) _ _
  · show Rch l E (8 + 2 * D) 16 _ _ _ _ (7, [some (vR 31), some (vR 28), some (vR 1), some (vI dp), none, none, none], [vI 1], MW b J70 L)
    have hbd := (pOne_bd hn D _ _ ha hr1).2
    refine rch_br cdK16 (cd := (1 : Int) ≠ 0) (t1 := (12, [some (vR 31), some (vR 28), some (vR 1), some (vI dp), none, none, none], [], MW b J70 L)) (t2 := (10, [some (vR 31), some (vR 28), some (vR 1), some (vI dp), none, none, none], [], MW b J70 L)) rfl (fun _ => ?_) (fun c9 => absurd (by omega) c9)
    refine rch_run cdK16 (by omega) 4 (t' := (18, [some (vR 31), some (vR 28), some (vR 1), some (vI dp), some (vI 0), some (vI 0), none], [], MW b J70 L)) (ps := []) rfl trivial ?_
    exact lp_ei_1 l E b I L D dp (pEi (I 29) (nTp I) D s) h0 hO J 501 0 _ false _ (by omega) hs (by rw [if_neg Bool.false_ne_true]; omega) (pEi_Y hr1).symm (by omega)
  · show Rch l E (8 + 2 * D) 16 _ _ _ _ (7, [some (vR 31), some (vR 28), some (vR 1), some (vI dp), none, none, none], [vI 0], MW b J70 L)
    refine rch_br cdK16 (cd := (0 : Int) ≠ 0) (t1 := (12, [some (vR 31), some (vR 28), some (vR 1), some (vI dp), none, none, none], [], MW b J70 L)) (t2 := (10, [some (vR 31), some (vR 28), some (vR 1), some (vI dp), none, none, none], [], MW b J70 L)) rfl (fun c9 => absurd c9 (by omega)) (fun _ => ?_)
    refine rch_run cdK16 (by omega) 1 (t' := (11, [some (vR 31), some (vR 28), some (vR 1), some (vI dp), none, none, none], [vI 0], MW b J70 L)) (ps := []) rfl trivial ?_
    refine rch_ret cdK16 (rt := some (vI 0)) rfl (Or.inl rfl) mw_c ?_
    exact Or.inr ⟨_, _, rfl, pEi_F hr1, rfl, hf⟩

theorem k_oneD_1 (l : Launch) (E : AX) (b : Bool) (I L : Nat → Nat → Int) (h0 : Tp0 I) : ∀ (D : Nat) (dp : Int), 0 ≤ dp ∧ dp + (D : Nat) = 8 → ∀ (J : Nat → Nat → Int) (s : Pst), PSx 1 I J s → 2 * s.2.2.length ≤ s.1 → Con l E (7 + 2 * D) 17 [vR 31, vR 28, vR 1, vI dp] (MW b J L) 0 0 (PR2 1 I b L (pOne (I 29) (nTp I) D s))
  | 0, dp, hd, J, s, hs, hb => k_one0_1 l E b I J L s dp h0 hs (by omega)
  | D + 1, dp, hd, J, s, hs, hb => by
    rw [show 7 + 2 * (D + 1) = 9 + 2 * D by omega]
    exact k_one_1 l E b I J L s D dp h0 hs hb hd (fun J s hs hb => k_oneD_1 l E b I L h0 D (dp + 1) (by omega) J s hs hb) (fun J s hs hb => k_ei_1 l E b I J L s D (dp + 1) h0 hs hb (fun J s hs hb => k_oneD_1 l E b I L h0 D (dp + 1) (by omega) J s hs hb))
theorem k_eiD_1 (l : Launch) (E : AX) (b : Bool) (I J L : Nat → Nat → Int) {s : Pst} (h0 : Tp0 I) (hs : PSx 1 I J s) (hb : 2 * s.2.2.length ≤ s.1) : Con l E 24 16 [vR 31, vR 28, vR 1, vI 0] (MW b J L) 0 0 (PR2 1 I b L (pEi (I 29) (nTp I) 8 s)) := k_ei_1 l E b I J L s 8 0 h0 hs hb (fun J s hs hb => k_oneD_1 l E b I L h0 8 0 (by omega) J s hs hb)

theorem k_one0_7 (l : Launch) (E : AX) (b : Bool) (I J L : Nat → Nat → Int) (s : Pst) (dp : Int) (h0 : Tp0 I) (hs : PSx 7 I J s) (hd : dp = 8) : Con l E 7 17 [vR 31, vR 28, vR 7, vI dp] (MW b J L) 0 0 (PR2 7 I b L (pOne (I 29) (nTp I) 0 s)) := by
  refine con_ok (fun hw9 hs9 => ?_)
  refine con_intro (by decide) (Nat.le_of_ble_eq_true rfl) ?_
  have hk : 7 = 1 ∨ 7 = 7 := by omega
  have ha : s.1 ≤ nTp I := hs.1.2.2.1
  have hn : nTp I ≤ 500 := by have := h0.1; unfold nTp; omega
  show Rch l E 7 17 _ _ _ _ (0, [some (vR 31), some (vR 28), some (vR 7), some (vI dp)], [], MW b J L)
  refine rch_run cdK17 (by decide) 2 (t' := (3, [some (vR 31), some (vR 28), some (vR 7), some (vI dp)], [vI 8, vI dp], MW b J L)) (ps := []) rfl trivial ?_
  refine rch_br cdK17 (cd := dp < (8 : Int)) (t1 := (13, [some (vR 31), some (vR 28), some (vR 7), some (vI dp)], [], MW b J L)) (t2 := (6, [some (vR 31), some (vR 28), some (vR 7), some (vI dp)], [], MW b J L)) rfl (fun c9 => by exfalso; omega) (fun c3_1 => ?_)
  refine rch_run cdK17 (by decide) 3 (t' := (9, [some (vR 31), some (vR 28), some (vR 7), some (vI dp)], [vI 2, vR 28, vR 31], MW b J L)) (ps := []) rfl trivial ?_
  refine rch_call (h' := 1) (k' := 13) (as := [vR 31, vR 28, vI 2]) (t1 := (12, [some (vR 31), some (vR 28), some (vR 7), some (vI dp)], [], MW b J L)) cdK17 rfl (k_stp l E b I J L 2 hk hs) (by decide) mw_le ?_
  rintro rt9 w9 (⟨J71, rfl, rfl, hf⟩) _ _
  show Rch l E 7 17 _ _ _ _ (12, [some (vR 31), some (vR 28), some (vR 7), some (vI dp)], [vI 0], MW b J71 L)
  refine rch_ret cdK17 (rt := some (vI 0)) rfl (Or.inl rfl) mw_c ?_
  exact Or.inr ⟨_, _, rfl, rfl, rfl, hf⟩

theorem k_one_7 (l : Launch) (E : AX) (b : Bool) (I J L : Nat → Nat → Int) (s : Pst) (D : Nat) (dp : Int) (h0 : Tp0 I) (hs : PSx 7 I J s) (hb : 2 * s.2.2.length ≤ s.1) (hd : 0 ≤ dp ∧ dp + (D + 1 : Nat) = 8) (hO : ∀ (J : Nat → Nat → Int) (s : Pst), PSx 7 I J s → 2 * s.2.2.length ≤ s.1 → Con l E (7 + 2 * D) 17 [vR 31, vR 28, vR 7, vI (dp + 1)] (MW b J L) 0 0 (PR2 7 I b L (pOne (I 29) (nTp I) D s))) (hE : ∀ (J : Nat → Nat → Int) (s : Pst), PSx 7 I J s → 2 * s.2.2.length ≤ s.1 → Con l E (8 + 2 * D) 16 [vR 31, vR 28, vR 7, vI (dp + 1)] (MW b J L) 0 0 (PR2 7 I b L (pEi (I 29) (nTp I) D s))) : Con l E (9 + 2 * D) 17 [vR 31, vR 28, vR 7, vI dp] (MW b J L) 0 0 (PR2 7 I b L (pOne (I 29) (nTp I) (D + 1) s)) := by
  refine con_ok (fun hw9 hs9 => ?_)
  refine con_intro (by omega) (Nat.le_of_ble_eq_true rfl) ?_
  have hk : 7 = 1 ∨ 7 = 7 := by omega
  have ha : s.1 ≤ nTp I := hs.1.2.2.1
  have hn : nTp I ≤ 500 := by have := h0.1; unfold nTp; omega
  have htk1 : J 28 1 = tK (I 29) (nTp I) s.1 := hs.1.2.1.2.1
  show Rch l E (9 + 2 * D) 17 _ _ _ _ (0, [some (vR 31), some (vR 28), some (vR 7), some (vI dp)], [], MW b J L)
  refine rch_run cdK17 (by omega) 2 (t' := (3, [some (vR 31), some (vR 28), some (vR 7), some (vI dp)], [vI 8, vI dp], MW b J L)) (ps := []) rfl trivial ?_
  refine rch_br cdK17 (cd := dp < (8 : Int)) (t1 := (13, [some (vR 31), some (vR 28), some (vR 7), some (vI dp)], [], MW b J L)) (t2 := (6, [some (vR 31), some (vR 28), some (vR 7), some (vI dp)], [], MW b J L)) rfl (fun c3_1 => ?_) (fun c9 => by exfalso; omega)
  refine rch_run cdK17 (by omega) 2 (t' := (16, [some (vR 31), some (vR 28), some (vR 7), some (vI dp)], [vR 2003, vR 28], MW b J L)) (ps := []) rfl trivial ?_
  refine rch_call (h' := 5) (k' := 45) (as := [vR 28, vR 2003]) (t1 := (19, [some (vR 31), some (vR 28), some (vR 7), some (vI dp)], [], MW b J L)) cdK17 rfl (k_rd_3 l E b I J L hk h0 hs) (by omega) mw_le ?_
  rintro rt9 w9 (⟨hq3, rfl, rfl⟩ | ⟨hq3, rfl, rfl⟩) _ _
  · show Rch l E (9 + 2 * D) 17 _ _ _ _ (19, [some (vR 31), some (vR 28), some (vR 7), some (vI dp)], [vI 1], MW b J L)
    refine rch_br cdK17 (cd := (1 : Int) = 0) (t1 := (49, [some (vR 31), some (vR 28), some (vR 7), some (vI dp)], [], MW b J L)) (t2 := (22, [some (vR 31), some (vR 28), some (vR 7), some (vI dp)], [], MW b J L)) rfl (fun c9 => absurd c9 (by omega)) (fun _ => ?_)
    refine rch_run cdK17 (by omega) 1 (t' := (23, [some (vR 31), some (vR 28), some (vR 7), some (vI dp)], [vR 28], MW b J L)) (ps := []) rfl trivial ?_
    have hl3 := wd_l2 (by omega) hn ha hq3
    refine rch_call (h' := 2) (k' := 42) (as := [vR 28]) (t1 := (26, [some (vR 31), some (vR 28), some (vR 7), some (vI dp)], [], MW b J L)) cdK17 rfl (k_adv l E b I J L hk h0 hs) (by omega) mw_le ?_
    rintro rt9 w9 (⟨J72, rfl, rfl, hs⟩) _ _
    show Rch l E (9 + 2 * D) 17 _ _ _ _ (26, [some (vR 31), some (vR 28), some (vR 7), some (vI dp)], [], MW b J72 L)
    refine rch_run cdK17 (by omega) 6 (t' := (32, [some (vR 31), some (vR 28), some (vR 7), some (vI dp)], [vI (dp + 1), vR 7, vR 28, vR 31], MW b J72 L)) (ps := [i32 (dp + 1)]) rfl (by simp only [all_, i32, i64]; first | omega | (simp; done) | (simp; omega)) ?_
    refine rch_call (h' := 7 + 2 * D) (k' := 17) (as := [vR 31, vR 28, vR 7, vI (dp + 1)]) (t1 := (35, [some (vR 31), some (vR 28), some (vR 7), some (vI dp)], [], MW b J72 L)) cdK17 rfl (hO J72 _ hs (by dsimp only; omega)) (by omega) mw_le ?_
    rintro rt9 w9 (⟨J73, s72, rfl, hr1, rfl, hs⟩ | ⟨J73, f9, rfl, hr1, rfl, hf⟩) _ _
    · show Rch l E (9 + 2 * D) 17 _ _ _ _ (35, [some (vR 31), some (vR 28), some (vR 7), some (vI dp)], [vI 1], MW b J73 L)
      have hbd := (pOne_bd hn D _ _ (by dsimp only; omega) hr1).2
      dsimp only at hbd
      refine rch_br cdK17 (cd := (1 : Int) ≠ 0) (t1 := (40, [some (vR 31), some (vR 28), some (vR 7), some (vI dp)], [], MW b J73 L)) (t2 := (38, [some (vR 31), some (vR 28), some (vR 7), some (vI dp)], [], MW b J73 L)) rfl (fun _ => ?_) (fun c9 => absurd (by omega) c9)
      refine rch_run cdK17 (by omega) 4 (t' := (44, [some (vR 31), some (vR 28), some (vR 7), some (vI dp)], [vI 0, vI 0, vI 3, vR 7], MW b J73 L)) (ps := []) rfl trivial ?_
      refine rch_call (h' := 1) (k' := 2) (as := [vR 7, vI 3, vI 0, vI 0]) (t1 := (47, [some (vR 31), some (vR 28), some (vR 7), some (vI dp)], [], MW b J73 L)) cdK17 rfl (k_push_7 l E b I J73 L (c := 5) hs (by decide) rfl rfl (by have hl9 := hs.1.2.2.1; (try dsimp only at hl9 ⊢); omega)) (by omega) mw_le ?_
      rintro rt9 w9 (⟨J74, rfl, rfl, hs⟩) _ _
      show Rch l E (9 + 2 * D) 17 _ _ _ _ (47, [some (vR 31), some (vR 28), some (vR 7), some (vI dp)], [], MW b J74 L)
      refine rch_run cdK17 (by omega) 1 (t' := (48, [some (vR 31), some (vR 28), some (vR 7), some (vI dp)], [vI 1], MW b J74 L)) (ps := []) rfl trivial ?_
      refine rch_ret cdK17 (rt := some (vI 1)) rfl (Or.inr rfl) mw_c ?_
      exact Or.inl ⟨_, _, rfl, pOne_n hq3 hr1, rfl, hs⟩
    · show Rch l E (9 + 2 * D) 17 _ _ _ _ (35, [some (vR 31), some (vR 28), some (vR 7), some (vI dp)], [vI 0], MW b J73 L)
      refine rch_br cdK17 (cd := (0 : Int) ≠ 0) (t1 := (40, [some (vR 31), some (vR 28), some (vR 7), some (vI dp)], [], MW b J73 L)) (t2 := (38, [some (vR 31), some (vR 28), some (vR 7), some (vI dp)], [], MW b J73 L)) rfl (fun c9 => absurd c9 (by omega)) (fun _ => ?_)
      refine rch_run cdK17 (by omega) 1 (t' := (39, [some (vR 31), some (vR 28), some (vR 7), some (vI dp)], [vI 0], MW b J73 L)) (ps := []) rfl trivial ?_
      refine rch_ret cdK17 (rt := some (vI 0)) rfl (Or.inl rfl) mw_c ?_
      exact Or.inr ⟨_, _, rfl, pOne_nF hq3 hr1, rfl, hf⟩
  · show Rch l E (9 + 2 * D) 17 _ _ _ _ (19, [some (vR 31), some (vR 28), some (vR 7), some (vI dp)], [vI 0], MW b J L)
    refine rch_br cdK17 (cd := (0 : Int) = 0) (t1 := (49, [some (vR 31), some (vR 28), some (vR 7), some (vI dp)], [], MW b J L)) (t2 := (22, [some (vR 31), some (vR 28), some (vR 7), some (vI dp)], [], MW b J L)) rfl (fun _ => ?_) (fun c9 => absurd (by omega) c9)
    refine rch_run cdK17 (by omega) 3 (t' := (55, [some (vR 31), some (vR 28), some (vR 7), some (vI dp)], [vI 40, vI (J 28 1)], MW b J L)) (ps := []) rfl trivial ?_
    refine rch_br cdK17 (cd := J 28 1 = (40 : Int)) (t1 := (65, [some (vR 31), some (vR 28), some (vR 7), some (vI dp)], [], MW b J L)) (t2 := (58, [some (vR 31), some (vR 28), some (vR 7), some (vI dp)], [], MW b J L)) rfl (fun c55_6 => ?_) (fun c55_6 => ?_)
    · refine rch_run cdK17 (by omega) 1 (t' := (66, [some (vR 31), some (vR 28), some (vR 7), some (vI dp)], [vR 28], MW b J L)) (ps := []) rfl trivial ?_
      have htk : tK (I 29) (nTp I) s.1 = 40 := by omega
      have hl4 := tN_bd (B := I 29) hn ha
      have hl5 := tP_bd (B := I 29) hn ha
      refine rch_call (h' := 2) (k' := 42) (as := [vR 28]) (t1 := (69, [some (vR 31), some (vR 28), some (vR 7), some (vI dp)], [], MW b J L)) cdK17 rfl (k_adv l E b I J L hk h0 hs) (by omega) mw_le ?_
      rintro rt9 w9 (⟨J75, rfl, rfl, hs⟩) _ _
      show Rch l E (9 + 2 * D) 17 _ _ _ _ (69, [some (vR 31), some (vR 28), some (vR 7), some (vI dp)], [], MW b J75 L)
      refine rch_run cdK17 (by omega) 6 (t' := (75, [some (vR 31), some (vR 28), some (vR 7), some (vI dp)], [vI (dp + 1), vR 7, vR 28, vR 31], MW b J75 L)) (ps := [i32 (dp + 1)]) rfl (by simp only [all_, i32, i64]; first | omega | (simp; done) | (simp; omega)) ?_
      refine rch_call (h' := 8 + 2 * D) (k' := 16) (as := [vR 31, vR 28, vR 7, vI (dp + 1)]) (t1 := (78, [some (vR 31), some (vR 28), some (vR 7), some (vI dp)], [], MW b J75 L)) cdK17 rfl (hE J75 _ hs (by dsimp only; omega)) (by omega) mw_le ?_
      rintro rt9 w9 (⟨J76, s75, rfl, hr2, rfl, hs⟩ | ⟨J76, f9, rfl, hr2, rfl, hf⟩) _ _
      · show Rch l E (9 + 2 * D) 17 _ _ _ _ (78, [some (vR 31), some (vR 28), some (vR 7), some (vI dp)], [vI 1], MW b J76 L)
        have htk2 : J76 28 1 = tK (I 29) (nTp I) s75.1 := hs.1.2.1.2.1
        refine rch_br cdK17 (cd := (1 : Int) ≠ 0) (t1 := (83, [some (vR 31), some (vR 28), some (vR 7), some (vI dp)], [], MW b J76 L)) (t2 := (81, [some (vR 31), some (vR 28), some (vR 7), some (vI dp)], [], MW b J76 L)) rfl (fun _ => ?_) (fun c9 => absurd (by omega) c9)
        refine rch_run cdK17 (by omega) 3 (t' := (89, [some (vR 31), some (vR 28), some (vR 7), some (vI dp)], [vI 41, vI (J76 28 1)], MW b J76 L)) (ps := []) rfl trivial ?_
        refine rch_br cdK17 (cd := J76 28 1 = (41 : Int)) (t1 := (99, [some (vR 31), some (vR 28), some (vR 7), some (vI dp)], [], MW b J76 L)) (t2 := (92, [some (vR 31), some (vR 28), some (vR 7), some (vI dp)], [], MW b J76 L)) rfl (fun c89_8 => ?_) (fun c89_8 => ?_)
        · refine rch_run cdK17 (by omega) 1 (t' := (100, [some (vR 31), some (vR 28), some (vR 7), some (vI dp)], [vR 28], MW b J76 L)) (ps := []) rfl trivial ?_
          refine rch_call (h' := 2) (k' := 42) (as := [vR 28]) (t1 := (103, [some (vR 31), some (vR 28), some (vR 7), some (vI dp)], [], MW b J76 L)) cdK17 rfl (k_adv l E b I J76 L hk h0 hs) (by omega) mw_le ?_
          rintro rt9 w9 (⟨J77, rfl, rfl, hs⟩) _ _
          show Rch l E (9 + 2 * D) 17 _ _ _ _ (103, [some (vR 31), some (vR 28), some (vR 7), some (vI dp)], [], MW b J77 L)
          refine rch_run cdK17 (by omega) 1 (t' := (104, [some (vR 31), some (vR 28), some (vR 7), some (vI dp)], [vI 1], MW b J77 L)) (ps := []) rfl trivial ?_
          refine rch_ret cdK17 (rt := some (vI 1)) rfl (Or.inr rfl) mw_c ?_
          exact Or.inl ⟨_, _, rfl, pOne_pY htk hr2 (by omega), rfl, hs⟩
        · refine rch_run cdK17 (by omega) 3 (t' := (95, [some (vR 31), some (vR 28), some (vR 7), some (vI dp)], [vI 2, vR 28, vR 31], MW b J76 L)) (ps := []) rfl trivial ?_
          refine rch_call (h' := 1) (k' := 13) (as := [vR 31, vR 28, vI 2]) (t1 := (98, [some (vR 31), some (vR 28), some (vR 7), some (vI dp)], [], MW b J76 L)) cdK17 rfl (k_stp l E b I J76 L 2 hk hs) (by omega) mw_le ?_
          rintro rt9 w9 (⟨J78, rfl, rfl, hf⟩) _ _
          show Rch l E (9 + 2 * D) 17 _ _ _ _ (98, [some (vR 31), some (vR 28), some (vR 7), some (vI dp)], [vI 0], MW b J78 L)
          refine rch_ret cdK17 (rt := some (vI 0)) rfl (Or.inl rfl) mw_c ?_
          exact Or.inr ⟨_, _, rfl, pOne_pN htk hr2 (by omega), rfl, hf⟩
      · show Rch l E (9 + 2 * D) 17 _ _ _ _ (78, [some (vR 31), some (vR 28), some (vR 7), some (vI dp)], [vI 0], MW b J76 L)
        refine rch_br cdK17 (cd := (0 : Int) ≠ 0) (t1 := (83, [some (vR 31), some (vR 28), some (vR 7), some (vI dp)], [], MW b J76 L)) (t2 := (81, [some (vR 31), some (vR 28), some (vR 7), some (vI dp)], [], MW b J76 L)) rfl (fun c9 => absurd c9 (by omega)) (fun _ => ?_)
        refine rch_run cdK17 (by omega) 1 (t' := (82, [some (vR 31), some (vR 28), some (vR 7), some (vI dp)], [vI 0], MW b J76 L)) (ps := []) rfl trivial ?_
        refine rch_ret cdK17 (rt := some (vI 0)) rfl (Or.inl rfl) mw_c ?_
        exact Or.inr ⟨_, _, rfl, pOne_pF htk hr2, rfl, hf⟩
    · refine rch_run cdK17 (by omega) 3 (t' := (61, [some (vR 31), some (vR 28), some (vR 7), some (vI dp)], [vR 7, vR 28, vR 31], MW b J L)) (ps := []) rfl trivial ?_
      refine rch_call (h' := 6) (k' := 18) (as := [vR 31, vR 28, vR 7]) (t1 := (64, [some (vR 31), some (vR 28), some (vR 7), some (vI dp)], [], MW b J L)) cdK17 rfl (k_readTest_7 l E b I J L s h0 hs hb) (by omega) mw_le ?_
      rintro rt9 w9 (⟨J79, s9, rfl, hr9, rfl, hs⟩ | ⟨J79, f9, rfl, hr9, rfl, hf⟩) _ _
      · show Rch l E (9 + 2 * D) 17 _ _ _ _ (64, [some (vR 31), some (vR 28), some (vR 7), some (vI dp)], [vI 1], MW b J79 L)
        have ht9 : PR2 7 I b L (pTest (I 29) (nTp I) s) (some (vI 1)) (MW b J79 L) := Or.inl ⟨_, _, rfl, hr9, rfl, hs⟩
        refine rch_ret cdK17 (rt := some (vI 1)) rfl (Or.inr rfl) mw_c ?_
        rw [pOne_t hq3 (by omega)]
        exact ht9
      · show Rch l E (9 + 2 * D) 17 _ _ _ _ (64, [some (vR 31), some (vR 28), some (vR 7), some (vI dp)], [vI 0], MW b J79 L)
        have ht9 : PR2 7 I b L (pTest (I 29) (nTp I) s) (some (vI 0)) (MW b J79 L) := Or.inr ⟨_, _, rfl, hr9, rfl, hf⟩
        refine rch_ret cdK17 (rt := some (vI 0)) rfl (Or.inl rfl) mw_c ?_
        rw [pOne_t hq3 (by omega)]
        exact ht9

theorem lp_ei_7 (l : Launch) (E : AX) (b : Bool) (I L : Nat → Nat → Int) (D : Nat) (dp : Int) (r : (Int × Int) ⊕ Pst) (h0 : Tp0 I) (hO : ∀ (J : Nat → Nat → Int) (s : Pst), PSx 7 I J s → 2 * s.2.2.length ≤ s.1 → Con l E (7 + 2 * D) 17 [vR 31, vR 28, vR 7, vI dp] (MW b J L) 0 0 (PR2 7 I b L (pOne (I 29) (nTp I) D s))) (J0 : Nat → Nat → Int) : ∀ (n9 : Nat) (i : Int) (J : Nat → Nat → Int) (w : Bool) (s : Pst), 0 ≤ i ∧ i ≤ 500 → PSx 7 I J s → 2 * s.2.2.length + (if w = true then 2 else 0) ≤ s.1 → pLoop (I 29) (nTp I) (pOne (I 29) (nTp I) D) (500 - i).toNat w s = r → 500 - i < (n9 : Int) → Rch l E (8 + 2 * D) 16 (MW b J0 L) 0 0 (PR2 7 I b L r) (18, [some (vR 31), some (vR 28), some (vR 7), some (vI dp), some (vI (b2i w)), some (vI i), none], [], MW b J L) := by
  intro n9
  induction n9 with
  | zero =>
    intro i J w s h1 h2 h3 h4 hm
    exfalso; omega
  | succ n9 ih =>
    intro i J w s h1 h2 h3 h4 hm
    have hs := h2
    have hk : 7 = 1 ∨ 7 = 7 := by omega
    have ha : s.1 ≤ nTp I := hs.1.2.2.1
    have hn : nTp I ≤ 500 := by have := h0.1; unfold nTp; omega
    have hl : 2 * s.2.2.length ≤ s.1 := by omega
    have hfu : i < 500 → (500 - i).toNat = (500 - (i + 1)).toNat + 1 := fun z => by omega
    refine rch_run cdK16 (by omega) 2 (t' := (23, [some (vR 31), some (vR 28), some (vR 7), some (vI dp), some (vI (b2i w)), some (vI i), none], [vI 500, vI i], MW b J L)) (ps := []) rfl trivial ?_
    refine rch_br cdK16 (cd := (500 : Int) ≤ i) (t1 := (120, [some (vR 31), some (vR 28), some (vR 7), some (vI dp), some (vI (b2i w)), some (vI i), none], [], MW b J L)) (t2 := (26, [some (vR 31), some (vR 28), some (vR 7), some (vI dp), some (vI (b2i w)), some (vI i), none], [], MW b J L)) rfl (fun c23_1 => ?_) (fun c23_1 => ?_)
    · refine rch_run cdK16 (by omega) 1 (t' := (122, [some (vR 31), some (vR 28), some (vR 7), some (vI dp), some (vI (b2i w)), some (vI i), none], [vI (b2i w)], MW b J L)) (ps := []) rfl trivial ?_
      refine rch_br cdK16 (cd := b2i w = 0) (t1 := (132, [some (vR 31), some (vR 28), some (vR 7), some (vI dp), some (vI (b2i w)), some (vI i), none], [], MW b J L)) (t2 := (125, [some (vR 31), some (vR 28), some (vR 7), some (vI dp), some (vI (b2i w)), some (vI i), none], [], MW b J L)) rfl (fun c122 => ?_) (fun c122 => ?_)
      · refine rch_run cdK16 (by omega) 1 (t' := (133, [some (vR 31), some (vR 28), some (vR 7), some (vI dp), some (vI (b2i w)), some (vI i), none], [vI 1], MW b J L)) (ps := []) rfl trivial ?_
        refine rch_ret cdK16 (rt := some (vI 1)) rfl (Or.inr rfl) mw_c ?_
        first | exact Or.inl ⟨_, (if w = true then psh s 6 else s), rfl, (by rw [← h4, pLoop_e hq8 hq9]), rfl, (by first | (rw [if_pos hwt]; exact hs) | (rw [if_neg (b2i_n c122)]; exact hs))⟩ | exact Or.inl ⟨_, (if w = true then psh s 6 else s), rfl, (by rw [← h4, show (500 - i).toNat = 0 by omega]; exact pLoop_0), rfl, (by first | (rw [if_pos hwt]; exact hs) | (rw [if_neg (b2i_n c122)]; exact hs))⟩
      · refine rch_run cdK16 (by omega) 4 (t' := (129, [some (vR 31), some (vR 28), some (vR 7), some (vI dp), some (vI (b2i w)), some (vI i), none], [vI 0, vI 0, vI 5, vR 7], MW b J L)) (ps := []) rfl trivial ?_
        have hwt : w = true := b2i_t c122
        rw [if_pos hwt] at h3
        refine rch_call (h' := 1) (k' := 2) (as := [vR 7, vI 5, vI 0, vI 0]) (t1 := (132, [some (vR 31), some (vR 28), some (vR 7), some (vI dp), some (vI (b2i w)), some (vI i), none], [], MW b J L)) cdK16 rfl (k_push_7 l E b I J L (c := 6) hs (by decide) rfl rfl (by have hl9 := hs.1.2.2.1; (try dsimp only at hl9 ⊢); omega)) (by omega) mw_le ?_
        rintro rt9 w9 (⟨J80, rfl, rfl, hs⟩) _ _
        show Rch l E (8 + 2 * D) 16 _ _ _ _ (132, [some (vR 31), some (vR 28), some (vR 7), some (vI dp), some (vI (b2i w)), some (vI i), none], [], MW b J80 L)
        refine rch_run cdK16 (by omega) 1 (t' := (133, [some (vR 31), some (vR 28), some (vR 7), some (vI dp), some (vI (b2i w)), some (vI i), none], [vI 1], MW b J80 L)) (ps := []) rfl trivial ?_
        refine rch_ret cdK16 (rt := some (vI 1)) rfl (Or.inr rfl) mw_c ?_
        first | exact Or.inl ⟨_, (if w = true then psh s 6 else s), rfl, (by rw [← h4, pLoop_e hq8 hq9]), rfl, (by first | (rw [if_pos hwt]; exact hs) | (rw [if_neg (b2i_n c122)]; exact hs))⟩ | exact Or.inl ⟨_, (if w = true then psh s 6 else s), rfl, (by rw [← h4, show (500 - i).toNat = 0 by omega]; exact pLoop_0), rfl, (by first | (rw [if_pos hwt]; exact hs) | (rw [if_neg (b2i_n c122)]; exact hs))⟩
    · refine rch_run cdK16 (by omega) 2 (t' := (29, [some (vR 31), some (vR 28), some (vR 7), some (vI dp), some (vI (b2i w)), some (vI i), none], [vR 2008, vR 28], MW b J L)) (ps := []) rfl trivial ?_
      refine rch_call (h' := 5) (k' := 45) (as := [vR 28, vR 2008]) (t1 := (32, [some (vR 31), some (vR 28), some (vR 7), some (vI dp), some (vI (b2i w)), some (vI i), none], [], MW b J L)) cdK16 rfl (k_rd_8 l E b I J L hk h0 hs) (by omega) mw_le ?_
      rintro rt9 w9 (⟨hq8, rfl, rfl⟩ | ⟨hq8, rfl, rfl⟩) _ _
      · show Rch l E (8 + 2 * D) 16 _ _ _ _ (32, [some (vR 31), some (vR 28), some (vR 7), some (vI dp), some (vI (b2i w)), some (vI i), none], [vI 1], MW b J L)
        refine rch_br cdK16 (cd := (1 : Int) ≠ 0) (t1 := (44, [some (vR 31), some (vR 28), some (vR 7), some (vI dp), some (vI (b2i w)), some (vI i), none], [], MW b J L)) (t2 := (35, [some (vR 31), some (vR 28), some (vR 7), some (vI dp), some (vI (b2i w)), some (vI i), none], [], MW b J L)) rfl (fun _ => ?_) (fun c9 => absurd (by omega) c9)
        refine rch_run cdK16 (by omega) 2 (t' := (47, [some (vR 31), some (vR 28), some (vR 7), some (vI dp), some (vI (b2i w)), some (vI i), none], [vR 2008, vR 28], MW b J L)) (ps := []) rfl trivial ?_
        refine rch_call (h' := 5) (k' := 45) (as := [vR 28, vR 2008]) (t1 := (50, [some (vR 31), some (vR 28), some (vR 7), some (vI dp), some (vI (b2i w)), some (vI i), none], [], MW b J L)) cdK16 rfl (con_imp (k_rd_8 l E b I J L hk h0 hs) (rd1 hq8)) (by omega) mw_le ?_
        rintro rt9 w9 (⟨rfl, rfl⟩) _ _
        show Rch l E (8 + 2 * D) 16 _ _ _ _ (50, [some (vR 31), some (vR 28), some (vR 7), some (vI dp), some (vI (b2i w)), some (vI i), none], [vI 1], MW b J L)
        refine rch_run cdK16 (by omega) 2 (t' := (54, [some (vR 31), some (vR 28), some (vR 7), some (vI dp), some (vI (b2i w)), some (vI i), some (vI 1)], [vI 1], MW b J L)) (ps := []) rfl trivial ?_
        refine rch_br cdK16 (cd := (1 : Int) = 0) (t1 := (69, [some (vR 31), some (vR 28), some (vR 7), some (vI dp), some (vI (b2i w)), some (vI i), some (vI 1)], [], MW b J L)) (t2 := (57, [some (vR 31), some (vR 28), some (vR 7), some (vI dp), some (vI (b2i w)), some (vI i), some (vI 1)], [], MW b J L)) rfl (fun c9 => absurd c9 (by omega)) (fun _ => ?_)
        refine rch_run cdK16 (by omega) 1 (t' := (59, [some (vR 31), some (vR 28), some (vR 7), some (vI dp), some (vI (b2i w)), some (vI i), some (vI 1)], [vI (b2i w)], MW b J L)) (ps := []) rfl trivial ?_
        refine rch_br cdK16 (cd := b2i w = 0) (t1 := (69, [some (vR 31), some (vR 28), some (vR 7), some (vI dp), some (vI (b2i w)), some (vI i), some (vI 1)], [], MW b J L)) (t2 := (62, [some (vR 31), some (vR 28), some (vR 7), some (vI dp), some (vI (b2i w)), some (vI i), some (vI 1)], [], MW b J L)) rfl (fun c59 => ?_) (fun c59 => ?_)
        · refine rch_run cdK16 (by omega) 1 (t' := (71, [some (vR 31), some (vR 28), some (vR 7), some (vI dp), some (vI (b2i w)), some (vI i), some (vI 1)], [vI (b2i w)], MW b J L)) (ps := []) rfl trivial ?_
          refine rch_br cdK16 (cd := b2i w ≠ 0) (t1 := (79, [some (vR 31), some (vR 28), some (vR 7), some (vI dp), some (vI (b2i w)), some (vI i), some (vI 1)], [], MW b J L)) (t2 := (74, [some (vR 31), some (vR 28), some (vR 7), some (vI dp), some (vI (b2i w)), some (vI i), some (vI 1)], [], MW b J L)) rfl (fun c71 => ?_) (fun c71 => ?_)
          · refine rch_run cdK16 (by omega) 4 (t' := (87, [some (vR 31), some (vR 28), some (vR 7), some (vI dp), some (vI 1), some (vI i), some (vI 1)], [vR 28], MW b J L)) (ps := []) rfl trivial ?_
            have hl8 := wd_l2 (by omega) hn ha hq8
            refine rch_call (h' := 2) (k' := 42) (as := [vR 28]) (t1 := (90, [some (vR 31), some (vR 28), some (vR 7), some (vI dp), some (vI 1), some (vI i), some (vI 1)], [], MW b J L)) cdK16 rfl (k_adv l E b I J L hk h0 hs) (by omega) mw_le ?_
            rintro rt9 w9 (⟨J81, rfl, rfl, hs⟩) _ _
            show Rch l E (8 + 2 * D) 16 _ _ _ _ (90, [some (vR 31), some (vR 28), some (vR 7), some (vI dp), some (vI 1), some (vI i), some (vI 1)], [], MW b J81 L)
            refine rch_run cdK16 (by omega) 4 (t' := (94, [some (vR 31), some (vR 28), some (vR 7), some (vI dp), some (vI 1), some (vI i), some (vI 1)], [vI dp, vR 7, vR 28, vR 31], MW b J81 L)) (ps := []) rfl trivial ?_
            refine rch_call (h' := 7 + 2 * D) (k' := 17) (as := [vR 31, vR 28, vR 7, vI dp]) (t1 := (97, [some (vR 31), some (vR 28), some (vR 7), some (vI dp), some (vI 1), some (vI i), some (vI 1)], [], MW b J81 L)) cdK16 rfl (hO J81 _ hs (by (try dsimp only); (try rw [List.length_append, List.length_singleton]); omega)) (by omega) mw_le ?_
            rintro rt9 w9 (⟨J82, s81, rfl, hr1, rfl, hs⟩ | ⟨J82, f9, rfl, hr1, rfl, hf⟩) _ _
            · show Rch l E (8 + 2 * D) 16 _ _ _ _ (97, [some (vR 31), some (vR 28), some (vR 7), some (vI dp), some (vI 1), some (vI i), some (vI 1)], [vI 1], MW b J82 L)
              have hbd := (pOne_bd hn D _ _ (by dsimp only; omega) hr1).2
              (try dsimp only at hbd); (try rw [List.length_append, List.length_singleton] at hbd)
              refine rch_br cdK16 (cd := (1 : Int) ≠ 0) (t1 := (102, [some (vR 31), some (vR 28), some (vR 7), some (vI dp), some (vI 1), some (vI i), some (vI 1)], [], MW b J82 L)) (t2 := (100, [some (vR 31), some (vR 28), some (vR 7), some (vI dp), some (vI 1), some (vI i), some (vI 1)], [], MW b J82 L)) rfl (fun _ => ?_) (fun c9 => absurd (by omega) c9)
              refine rch_run cdK16 (by omega) 1 (t' := (104, [some (vR 31), some (vR 28), some (vR 7), some (vI dp), some (vI 1), some (vI i), some (vI 1)], [vI 1], MW b J82 L)) (ps := []) rfl trivial ?_
              refine rch_br cdK16 (cd := (1 : Int) ≠ 0) (t1 := (114, [some (vR 31), some (vR 28), some (vR 7), some (vI dp), some (vI 1), some (vI i), some (vI 1)], [], MW b J82 L)) (t2 := (107, [some (vR 31), some (vR 28), some (vR 7), some (vI dp), some (vI 1), some (vI i), some (vI 1)], [], MW b J82 L)) rfl (fun _ => ?_) (fun c9 => absurd (by omega) c9)
              refine rch_run cdK16 (by omega) 2 (t' := (18, [some (vR 31), some (vR 28), some (vR 7), some (vI dp), some (vI 1), some (vI (i + 1)), some (vI 1)], [], MW b J82 L)) (ps := [i32 (i + 1)]) rfl (by simp only [all_, i32, i64]; first | omega | (simp; done) | (simp; omega)) ?_
              refine rch_forget [6] ?_
              have e9 : b2i true = 1 := rfl
              have hx := ih (i + 1) _ true _ (by omega) hs (by rw [if_pos rfl]; omega) (by rw [← h4, hfu (by omega)]; exact (pLoop_o hq8 (by first | exact (by rw [if_pos hwt]; exact hr1) | exact (by rw [if_neg (b2i_n c59)]; exact hr1))).symm) (by omega)
              rw [e9] at hx
              exact hx
            · show Rch l E (8 + 2 * D) 16 _ _ _ _ (97, [some (vR 31), some (vR 28), some (vR 7), some (vI dp), some (vI 1), some (vI i), some (vI 1)], [vI 0], MW b J82 L)
              refine rch_br cdK16 (cd := (0 : Int) ≠ 0) (t1 := (102, [some (vR 31), some (vR 28), some (vR 7), some (vI dp), some (vI 1), some (vI i), some (vI 1)], [], MW b J82 L)) (t2 := (100, [some (vR 31), some (vR 28), some (vR 7), some (vI dp), some (vI 1), some (vI i), some (vI 1)], [], MW b J82 L)) rfl (fun c9 => absurd c9 (by omega)) (fun _ => ?_)
              refine rch_run cdK16 (by omega) 1 (t' := (101, [some (vR 31), some (vR 28), some (vR 7), some (vI dp), some (vI 1), some (vI i), some (vI 1)], [vI 0], MW b J82 L)) (ps := []) rfl trivial ?_
              refine rch_ret cdK16 (rt := some (vI 0)) rfl (Or.inl rfl) mw_c ?_
              exact Or.inr ⟨_, _, rfl, (by rw [← h4, hfu (by omega)]; exact pLoop_oF hq8 (by first | exact (by rw [if_pos hwt]; exact hr1) | exact (by rw [if_neg (b2i_n c59)]; exact hr1))), rfl, hf⟩
          · refine rch_run cdK16 (by omega) 1 (t' := (76, [some (vR 31), some (vR 28), some (vR 7), some (vI dp), some (vI (b2i w)), some (vI i), some (vI 1)], [vI 1], MW b J L)) (ps := []) rfl trivial ?_
            refine rch_br cdK16 (cd := (1 : Int) = 0) (t1 := (83, [some (vR 31), some (vR 28), some (vR 7), some (vI dp), some (vI (b2i w)), some (vI i), some (vI 1)], [], MW b J L)) (t2 := (79, [some (vR 31), some (vR 28), some (vR 7), some (vI dp), some (vI (b2i w)), some (vI i), some (vI 1)], [], MW b J L)) rfl (fun c9 => absurd c9 (by omega)) (fun _ => ?_)
            refine rch_run cdK16 (by omega) 4 (t' := (87, [some (vR 31), some (vR 28), some (vR 7), some (vI dp), some (vI 1), some (vI i), some (vI 1)], [vR 28], MW b J L)) (ps := []) rfl trivial ?_
            have hl8 := wd_l2 (by omega) hn ha hq8
            refine rch_call (h' := 2) (k' := 42) (as := [vR 28]) (t1 := (90, [some (vR 31), some (vR 28), some (vR 7), some (vI dp), some (vI 1), some (vI i), some (vI 1)], [], MW b J L)) cdK16 rfl (k_adv l E b I J L hk h0 hs) (by omega) mw_le ?_
            rintro rt9 w9 (⟨J83, rfl, rfl, hs⟩) _ _
            show Rch l E (8 + 2 * D) 16 _ _ _ _ (90, [some (vR 31), some (vR 28), some (vR 7), some (vI dp), some (vI 1), some (vI i), some (vI 1)], [], MW b J83 L)
            refine rch_run cdK16 (by omega) 4 (t' := (94, [some (vR 31), some (vR 28), some (vR 7), some (vI dp), some (vI 1), some (vI i), some (vI 1)], [vI dp, vR 7, vR 28, vR 31], MW b J83 L)) (ps := []) rfl trivial ?_
            refine rch_call (h' := 7 + 2 * D) (k' := 17) (as := [vR 31, vR 28, vR 7, vI dp]) (t1 := (97, [some (vR 31), some (vR 28), some (vR 7), some (vI dp), some (vI 1), some (vI i), some (vI 1)], [], MW b J83 L)) cdK16 rfl (hO J83 _ hs (by (try dsimp only); (try rw [List.length_append, List.length_singleton]); omega)) (by omega) mw_le ?_
            rintro rt9 w9 (⟨J84, s83, rfl, hr1, rfl, hs⟩ | ⟨J84, f9, rfl, hr1, rfl, hf⟩) _ _
            · show Rch l E (8 + 2 * D) 16 _ _ _ _ (97, [some (vR 31), some (vR 28), some (vR 7), some (vI dp), some (vI 1), some (vI i), some (vI 1)], [vI 1], MW b J84 L)
              have hbd := (pOne_bd hn D _ _ (by dsimp only; omega) hr1).2
              (try dsimp only at hbd); (try rw [List.length_append, List.length_singleton] at hbd)
              refine rch_br cdK16 (cd := (1 : Int) ≠ 0) (t1 := (102, [some (vR 31), some (vR 28), some (vR 7), some (vI dp), some (vI 1), some (vI i), some (vI 1)], [], MW b J84 L)) (t2 := (100, [some (vR 31), some (vR 28), some (vR 7), some (vI dp), some (vI 1), some (vI i), some (vI 1)], [], MW b J84 L)) rfl (fun _ => ?_) (fun c9 => absurd (by omega) c9)
              refine rch_run cdK16 (by omega) 1 (t' := (104, [some (vR 31), some (vR 28), some (vR 7), some (vI dp), some (vI 1), some (vI i), some (vI 1)], [vI 1], MW b J84 L)) (ps := []) rfl trivial ?_
              refine rch_br cdK16 (cd := (1 : Int) ≠ 0) (t1 := (114, [some (vR 31), some (vR 28), some (vR 7), some (vI dp), some (vI 1), some (vI i), some (vI 1)], [], MW b J84 L)) (t2 := (107, [some (vR 31), some (vR 28), some (vR 7), some (vI dp), some (vI 1), some (vI i), some (vI 1)], [], MW b J84 L)) rfl (fun _ => ?_) (fun c9 => absurd (by omega) c9)
              refine rch_run cdK16 (by omega) 2 (t' := (18, [some (vR 31), some (vR 28), some (vR 7), some (vI dp), some (vI 1), some (vI (i + 1)), some (vI 1)], [], MW b J84 L)) (ps := [i32 (i + 1)]) rfl (by simp only [all_, i32, i64]; first | omega | (simp; done) | (simp; omega)) ?_
              refine rch_forget [6] ?_
              have e9 : b2i true = 1 := rfl
              have hx := ih (i + 1) _ true _ (by omega) hs (by rw [if_pos rfl]; omega) (by rw [← h4, hfu (by omega)]; exact (pLoop_o hq8 (by first | exact (by rw [if_pos hwt]; exact hr1) | exact (by rw [if_neg (b2i_n c59)]; exact hr1))).symm) (by omega)
              rw [e9] at hx
              exact hx
            · show Rch l E (8 + 2 * D) 16 _ _ _ _ (97, [some (vR 31), some (vR 28), some (vR 7), some (vI dp), some (vI 1), some (vI i), some (vI 1)], [vI 0], MW b J84 L)
              refine rch_br cdK16 (cd := (0 : Int) ≠ 0) (t1 := (102, [some (vR 31), some (vR 28), some (vR 7), some (vI dp), some (vI 1), some (vI i), some (vI 1)], [], MW b J84 L)) (t2 := (100, [some (vR 31), some (vR 28), some (vR 7), some (vI dp), some (vI 1), some (vI i), some (vI 1)], [], MW b J84 L)) rfl (fun c9 => absurd c9 (by omega)) (fun _ => ?_)
              refine rch_run cdK16 (by omega) 1 (t' := (101, [some (vR 31), some (vR 28), some (vR 7), some (vI dp), some (vI 1), some (vI i), some (vI 1)], [vI 0], MW b J84 L)) (ps := []) rfl trivial ?_
              refine rch_ret cdK16 (rt := some (vI 0)) rfl (Or.inl rfl) mw_c ?_
              exact Or.inr ⟨_, _, rfl, (by rw [← h4, hfu (by omega)]; exact pLoop_oF hq8 (by first | exact (by rw [if_pos hwt]; exact hr1) | exact (by rw [if_neg (b2i_n c59)]; exact hr1))), rfl, hf⟩
        · refine rch_run cdK16 (by omega) 4 (t' := (66, [some (vR 31), some (vR 28), some (vR 7), some (vI dp), some (vI (b2i w)), some (vI i), some (vI 1)], [vI 0, vI 0, vI 5, vR 7], MW b J L)) (ps := []) rfl trivial ?_
          have hwt : w = true := b2i_t c59
          rw [if_pos hwt] at h3
          refine rch_call (h' := 1) (k' := 2) (as := [vR 7, vI 5, vI 0, vI 0]) (t1 := (69, [some (vR 31), some (vR 28), some (vR 7), some (vI dp), some (vI (b2i w)), some (vI i), some (vI 1)], [], MW b J L)) cdK16 rfl (k_push_7 l E b I J L (c := 6) hs (by decide) rfl rfl (by have hl9 := hs.1.2.2.1; (try dsimp only at hl9 ⊢); omega)) (by omega) mw_le ?_
          rintro rt9 w9 (⟨J85, rfl, rfl, hs⟩) _ _
          show Rch l E (8 + 2 * D) 16 _ _ _ _ (69, [some (vR 31), some (vR 28), some (vR 7), some (vI dp), some (vI (b2i w)), some (vI i), some (vI 1)], [], MW b J85 L)
          refine rch_run cdK16 (by omega) 1 (t' := (71, [some (vR 31), some (vR 28), some (vR 7), some (vI dp), some (vI (b2i w)), some (vI i), some (vI 1)], [vI (b2i w)], MW b J85 L)) (ps := []) rfl trivial ?_
          refine rch_br cdK16 (cd := b2i w ≠ 0) (t1 := (79, [some (vR 31), some (vR 28), some (vR 7), some (vI dp), some (vI (b2i w)), some (vI i), some (vI 1)], [], MW b J85 L)) (t2 := (74, [some (vR 31), some (vR 28), some (vR 7), some (vI dp), some (vI (b2i w)), some (vI i), some (vI 1)], [], MW b J85 L)) rfl (fun c71 => ?_) (fun c71 => ?_)
          · refine rch_run cdK16 (by omega) 4 (t' := (87, [some (vR 31), some (vR 28), some (vR 7), some (vI dp), some (vI 1), some (vI i), some (vI 1)], [vR 28], MW b J85 L)) (ps := []) rfl trivial ?_
            have hl8 := wd_l2 (by omega) hn ha hq8
            refine rch_call (h' := 2) (k' := 42) (as := [vR 28]) (t1 := (90, [some (vR 31), some (vR 28), some (vR 7), some (vI dp), some (vI 1), some (vI i), some (vI 1)], [], MW b J85 L)) cdK16 rfl (k_adv l E b I J85 L hk h0 hs) (by omega) mw_le ?_
            rintro rt9 w9 (⟨J86, rfl, rfl, hs⟩) _ _
            show Rch l E (8 + 2 * D) 16 _ _ _ _ (90, [some (vR 31), some (vR 28), some (vR 7), some (vI dp), some (vI 1), some (vI i), some (vI 1)], [], MW b J86 L)
            refine rch_run cdK16 (by omega) 4 (t' := (94, [some (vR 31), some (vR 28), some (vR 7), some (vI dp), some (vI 1), some (vI i), some (vI 1)], [vI dp, vR 7, vR 28, vR 31], MW b J86 L)) (ps := []) rfl trivial ?_
            refine rch_call (h' := 7 + 2 * D) (k' := 17) (as := [vR 31, vR 28, vR 7, vI dp]) (t1 := (97, [some (vR 31), some (vR 28), some (vR 7), some (vI dp), some (vI 1), some (vI i), some (vI 1)], [], MW b J86 L)) cdK16 rfl (hO J86 _ hs (by (try dsimp only); (try rw [List.length_append, List.length_singleton]); omega)) (by omega) mw_le ?_
            rintro rt9 w9 (⟨J87, s86, rfl, hr1, rfl, hs⟩ | ⟨J87, f9, rfl, hr1, rfl, hf⟩) _ _
            · show Rch l E (8 + 2 * D) 16 _ _ _ _ (97, [some (vR 31), some (vR 28), some (vR 7), some (vI dp), some (vI 1), some (vI i), some (vI 1)], [vI 1], MW b J87 L)
              have hbd := (pOne_bd hn D _ _ (by dsimp only; omega) hr1).2
              (try dsimp only at hbd); (try rw [List.length_append, List.length_singleton] at hbd)
              refine rch_br cdK16 (cd := (1 : Int) ≠ 0) (t1 := (102, [some (vR 31), some (vR 28), some (vR 7), some (vI dp), some (vI 1), some (vI i), some (vI 1)], [], MW b J87 L)) (t2 := (100, [some (vR 31), some (vR 28), some (vR 7), some (vI dp), some (vI 1), some (vI i), some (vI 1)], [], MW b J87 L)) rfl (fun _ => ?_) (fun c9 => absurd (by omega) c9)
              refine rch_run cdK16 (by omega) 1 (t' := (104, [some (vR 31), some (vR 28), some (vR 7), some (vI dp), some (vI 1), some (vI i), some (vI 1)], [vI 1], MW b J87 L)) (ps := []) rfl trivial ?_
              refine rch_br cdK16 (cd := (1 : Int) ≠ 0) (t1 := (114, [some (vR 31), some (vR 28), some (vR 7), some (vI dp), some (vI 1), some (vI i), some (vI 1)], [], MW b J87 L)) (t2 := (107, [some (vR 31), some (vR 28), some (vR 7), some (vI dp), some (vI 1), some (vI i), some (vI 1)], [], MW b J87 L)) rfl (fun _ => ?_) (fun c9 => absurd (by omega) c9)
              refine rch_run cdK16 (by omega) 2 (t' := (18, [some (vR 31), some (vR 28), some (vR 7), some (vI dp), some (vI 1), some (vI (i + 1)), some (vI 1)], [], MW b J87 L)) (ps := [i32 (i + 1)]) rfl (by simp only [all_, i32, i64]; first | omega | (simp; done) | (simp; omega)) ?_
              refine rch_forget [6] ?_
              have e9 : b2i true = 1 := rfl
              have hx := ih (i + 1) _ true _ (by omega) hs (by rw [if_pos rfl]; omega) (by rw [← h4, hfu (by omega)]; exact (pLoop_o hq8 (by first | exact (by rw [if_pos hwt]; exact hr1) | exact (by rw [if_neg (b2i_n c59)]; exact hr1))).symm) (by omega)
              rw [e9] at hx
              exact hx
            · show Rch l E (8 + 2 * D) 16 _ _ _ _ (97, [some (vR 31), some (vR 28), some (vR 7), some (vI dp), some (vI 1), some (vI i), some (vI 1)], [vI 0], MW b J87 L)
              refine rch_br cdK16 (cd := (0 : Int) ≠ 0) (t1 := (102, [some (vR 31), some (vR 28), some (vR 7), some (vI dp), some (vI 1), some (vI i), some (vI 1)], [], MW b J87 L)) (t2 := (100, [some (vR 31), some (vR 28), some (vR 7), some (vI dp), some (vI 1), some (vI i), some (vI 1)], [], MW b J87 L)) rfl (fun c9 => absurd c9 (by omega)) (fun _ => ?_)
              refine rch_run cdK16 (by omega) 1 (t' := (101, [some (vR 31), some (vR 28), some (vR 7), some (vI dp), some (vI 1), some (vI i), some (vI 1)], [vI 0], MW b J87 L)) (ps := []) rfl trivial ?_
              refine rch_ret cdK16 (rt := some (vI 0)) rfl (Or.inl rfl) mw_c ?_
              exact Or.inr ⟨_, _, rfl, (by rw [← h4, hfu (by omega)]; exact pLoop_oF hq8 (by first | exact (by rw [if_pos hwt]; exact hr1) | exact (by rw [if_neg (b2i_n c59)]; exact hr1))), rfl, hf⟩
          · refine rch_run cdK16 (by omega) 1 (t' := (76, [some (vR 31), some (vR 28), some (vR 7), some (vI dp), some (vI (b2i w)), some (vI i), some (vI 1)], [vI 1], MW b J85 L)) (ps := []) rfl trivial ?_
            refine rch_br cdK16 (cd := (1 : Int) = 0) (t1 := (83, [some (vR 31), some (vR 28), some (vR 7), some (vI dp), some (vI (b2i w)), some (vI i), some (vI 1)], [], MW b J85 L)) (t2 := (79, [some (vR 31), some (vR 28), some (vR 7), some (vI dp), some (vI (b2i w)), some (vI i), some (vI 1)], [], MW b J85 L)) rfl (fun c9 => absurd c9 (by omega)) (fun _ => ?_)
            refine rch_run cdK16 (by omega) 4 (t' := (87, [some (vR 31), some (vR 28), some (vR 7), some (vI dp), some (vI 1), some (vI i), some (vI 1)], [vR 28], MW b J85 L)) (ps := []) rfl trivial ?_
            have hl8 := wd_l2 (by omega) hn ha hq8
            refine rch_call (h' := 2) (k' := 42) (as := [vR 28]) (t1 := (90, [some (vR 31), some (vR 28), some (vR 7), some (vI dp), some (vI 1), some (vI i), some (vI 1)], [], MW b J85 L)) cdK16 rfl (k_adv l E b I J85 L hk h0 hs) (by omega) mw_le ?_
            rintro rt9 w9 (⟨J88, rfl, rfl, hs⟩) _ _
            show Rch l E (8 + 2 * D) 16 _ _ _ _ (90, [some (vR 31), some (vR 28), some (vR 7), some (vI dp), some (vI 1), some (vI i), some (vI 1)], [], MW b J88 L)
            refine rch_run cdK16 (by omega) 4 (t' := (94, [some (vR 31), some (vR 28), some (vR 7), some (vI dp), some (vI 1), some (vI i), some (vI 1)], [vI dp, vR 7, vR 28, vR 31], MW b J88 L)) (ps := []) rfl trivial ?_
            refine rch_call (h' := 7 + 2 * D) (k' := 17) (as := [vR 31, vR 28, vR 7, vI dp]) (t1 := (97, [some (vR 31), some (vR 28), some (vR 7), some (vI dp), some (vI 1), some (vI i), some (vI 1)], [], MW b J88 L)) cdK16 rfl (hO J88 _ hs (by (try dsimp only); (try rw [List.length_append, List.length_singleton]); omega)) (by omega) mw_le ?_
            rintro rt9 w9 (⟨J89, s88, rfl, hr1, rfl, hs⟩ | ⟨J89, f9, rfl, hr1, rfl, hf⟩) _ _
            · show Rch l E (8 + 2 * D) 16 _ _ _ _ (97, [some (vR 31), some (vR 28), some (vR 7), some (vI dp), some (vI 1), some (vI i), some (vI 1)], [vI 1], MW b J89 L)
              have hbd := (pOne_bd hn D _ _ (by dsimp only; omega) hr1).2
              (try dsimp only at hbd); (try rw [List.length_append, List.length_singleton] at hbd)
              refine rch_br cdK16 (cd := (1 : Int) ≠ 0) (t1 := (102, [some (vR 31), some (vR 28), some (vR 7), some (vI dp), some (vI 1), some (vI i), some (vI 1)], [], MW b J89 L)) (t2 := (100, [some (vR 31), some (vR 28), some (vR 7), some (vI dp), some (vI 1), some (vI i), some (vI 1)], [], MW b J89 L)) rfl (fun _ => ?_) (fun c9 => absurd (by omega) c9)
              refine rch_run cdK16 (by omega) 1 (t' := (104, [some (vR 31), some (vR 28), some (vR 7), some (vI dp), some (vI 1), some (vI i), some (vI 1)], [vI 1], MW b J89 L)) (ps := []) rfl trivial ?_
              refine rch_br cdK16 (cd := (1 : Int) ≠ 0) (t1 := (114, [some (vR 31), some (vR 28), some (vR 7), some (vI dp), some (vI 1), some (vI i), some (vI 1)], [], MW b J89 L)) (t2 := (107, [some (vR 31), some (vR 28), some (vR 7), some (vI dp), some (vI 1), some (vI i), some (vI 1)], [], MW b J89 L)) rfl (fun _ => ?_) (fun c9 => absurd (by omega) c9)
              refine rch_run cdK16 (by omega) 2 (t' := (18, [some (vR 31), some (vR 28), some (vR 7), some (vI dp), some (vI 1), some (vI (i + 1)), some (vI 1)], [], MW b J89 L)) (ps := [i32 (i + 1)]) rfl (by simp only [all_, i32, i64]; first | omega | (simp; done) | (simp; omega)) ?_
              refine rch_forget [6] ?_
              have e9 : b2i true = 1 := rfl
              have hx := ih (i + 1) _ true _ (by omega) hs (by rw [if_pos rfl]; omega) (by rw [← h4, hfu (by omega)]; exact (pLoop_o hq8 (by first | exact (by rw [if_pos hwt]; exact hr1) | exact (by rw [if_neg (b2i_n c59)]; exact hr1))).symm) (by omega)
              rw [e9] at hx
              exact hx
            · show Rch l E (8 + 2 * D) 16 _ _ _ _ (97, [some (vR 31), some (vR 28), some (vR 7), some (vI dp), some (vI 1), some (vI i), some (vI 1)], [vI 0], MW b J89 L)
              refine rch_br cdK16 (cd := (0 : Int) ≠ 0) (t1 := (102, [some (vR 31), some (vR 28), some (vR 7), some (vI dp), some (vI 1), some (vI i), some (vI 1)], [], MW b J89 L)) (t2 := (100, [some (vR 31), some (vR 28), some (vR 7), some (vI dp), some (vI 1), some (vI i), some (vI 1)], [], MW b J89 L)) rfl (fun c9 => absurd c9 (by omega)) (fun _ => ?_)
              refine rch_run cdK16 (by omega) 1 (t' := (101, [some (vR 31), some (vR 28), some (vR 7), some (vI dp), some (vI 1), some (vI i), some (vI 1)], [vI 0], MW b J89 L)) (ps := []) rfl trivial ?_
              refine rch_ret cdK16 (rt := some (vI 0)) rfl (Or.inl rfl) mw_c ?_
              exact Or.inr ⟨_, _, rfl, (by rw [← h4, hfu (by omega)]; exact pLoop_oF hq8 (by first | exact (by rw [if_pos hwt]; exact hr1) | exact (by rw [if_neg (b2i_n c59)]; exact hr1))), rfl, hf⟩
      · show Rch l E (8 + 2 * D) 16 _ _ _ _ (32, [some (vR 31), some (vR 28), some (vR 7), some (vI dp), some (vI (b2i w)), some (vI i), none], [vI 0], MW b J L)
        refine rch_br cdK16 (cd := (0 : Int) ≠ 0) (t1 := (44, [some (vR 31), some (vR 28), some (vR 7), some (vI dp), some (vI (b2i w)), some (vI i), none], [], MW b J L)) (t2 := (35, [some (vR 31), some (vR 28), some (vR 7), some (vI dp), some (vI (b2i w)), some (vI i), none], [], MW b J L)) rfl (fun c9 => absurd c9 (by omega)) (fun _ => ?_)
        refine rch_run cdK16 (by omega) 2 (t' := (38, [some (vR 31), some (vR 28), some (vR 7), some (vI dp), some (vI (b2i w)), some (vI i), none], [vR 2009, vR 28], MW b J L)) (ps := []) rfl trivial ?_
        refine rch_call (h' := 5) (k' := 45) (as := [vR 28, vR 2009]) (t1 := (41, [some (vR 31), some (vR 28), some (vR 7), some (vI dp), some (vI (b2i w)), some (vI i), none], [], MW b J L)) cdK16 rfl (k_rd_9 l E b I J L hk h0 hs) (by omega) mw_le ?_
        rintro rt9 w9 (⟨hq9, rfl, rfl⟩ | ⟨hq9, rfl, rfl⟩) _ _
        · show Rch l E (8 + 2 * D) 16 _ _ _ _ (41, [some (vR 31), some (vR 28), some (vR 7), some (vI dp), some (vI (b2i w)), some (vI i), none], [vI 1], MW b J L)
          refine rch_br cdK16 (cd := (1 : Int) = 0) (t1 := (120, [some (vR 31), some (vR 28), some (vR 7), some (vI dp), some (vI (b2i w)), some (vI i), none], [], MW b J L)) (t2 := (44, [some (vR 31), some (vR 28), some (vR 7), some (vI dp), some (vI (b2i w)), some (vI i), none], [], MW b J L)) rfl (fun c9 => absurd c9 (by omega)) (fun _ => ?_)
          refine rch_run cdK16 (by omega) 2 (t' := (47, [some (vR 31), some (vR 28), some (vR 7), some (vI dp), some (vI (b2i w)), some (vI i), none], [vR 2008, vR 28], MW b J L)) (ps := []) rfl trivial ?_
          refine rch_call (h' := 5) (k' := 45) (as := [vR 28, vR 2008]) (t1 := (50, [some (vR 31), some (vR 28), some (vR 7), some (vI dp), some (vI (b2i w)), some (vI i), none], [], MW b J L)) cdK16 rfl (con_imp (k_rd_8 l E b I J L hk h0 hs) (rd0 (wdq_ne hq9 (by omega) (by omega) (by omega)))) (by omega) mw_le ?_
          rintro rt9 w9 (⟨rfl, rfl⟩) _ _
          show Rch l E (8 + 2 * D) 16 _ _ _ _ (50, [some (vR 31), some (vR 28), some (vR 7), some (vI dp), some (vI (b2i w)), some (vI i), none], [vI 0], MW b J L)
          refine rch_run cdK16 (by omega) 2 (t' := (54, [some (vR 31), some (vR 28), some (vR 7), some (vI dp), some (vI (b2i w)), some (vI i), some (vI 0)], [vI 0], MW b J L)) (ps := []) rfl trivial ?_
          refine rch_br cdK16 (cd := (0 : Int) = 0) (t1 := (69, [some (vR 31), some (vR 28), some (vR 7), some (vI dp), some (vI (b2i w)), some (vI i), some (vI 0)], [], MW b J L)) (t2 := (57, [some (vR 31), some (vR 28), some (vR 7), some (vI dp), some (vI (b2i w)), some (vI i), some (vI 0)], [], MW b J L)) rfl (fun _ => ?_) (fun c9 => absurd (by omega) c9)
          refine rch_run cdK16 (by omega) 1 (t' := (71, [some (vR 31), some (vR 28), some (vR 7), some (vI dp), some (vI (b2i w)), some (vI i), some (vI 0)], [vI (b2i w)], MW b J L)) (ps := []) rfl trivial ?_
          refine rch_br cdK16 (cd := b2i w ≠ 0) (t1 := (79, [some (vR 31), some (vR 28), some (vR 7), some (vI dp), some (vI (b2i w)), some (vI i), some (vI 0)], [], MW b J L)) (t2 := (74, [some (vR 31), some (vR 28), some (vR 7), some (vI dp), some (vI (b2i w)), some (vI i), some (vI 0)], [], MW b J L)) rfl (fun c71 => ?_) (fun c71 => ?_)
          · refine rch_run cdK16 (by omega) 4 (t' := (87, [some (vR 31), some (vR 28), some (vR 7), some (vI dp), some (vI 1), some (vI i), some (vI 0)], [vR 28], MW b J L)) (ps := []) rfl trivial ?_
            have hl9 := wd_l2 (by omega) hn ha hq9
            refine rch_call (h' := 2) (k' := 42) (as := [vR 28]) (t1 := (90, [some (vR 31), some (vR 28), some (vR 7), some (vI dp), some (vI 1), some (vI i), some (vI 0)], [], MW b J L)) cdK16 rfl (k_adv l E b I J L hk h0 hs) (by omega) mw_le ?_
            rintro rt9 w9 (⟨J90, rfl, rfl, hs⟩) _ _
            show Rch l E (8 + 2 * D) 16 _ _ _ _ (90, [some (vR 31), some (vR 28), some (vR 7), some (vI dp), some (vI 1), some (vI i), some (vI 0)], [], MW b J90 L)
            refine rch_run cdK16 (by omega) 4 (t' := (94, [some (vR 31), some (vR 28), some (vR 7), some (vI dp), some (vI 1), some (vI i), some (vI 0)], [vI dp, vR 7, vR 28, vR 31], MW b J90 L)) (ps := []) rfl trivial ?_
            refine rch_call (h' := 7 + 2 * D) (k' := 17) (as := [vR 31, vR 28, vR 7, vI dp]) (t1 := (97, [some (vR 31), some (vR 28), some (vR 7), some (vI dp), some (vI 1), some (vI i), some (vI 0)], [], MW b J90 L)) cdK16 rfl (hO J90 _ hs (by (try dsimp only); (try rw [List.length_append, List.length_singleton]); omega)) (by omega) mw_le ?_
            rintro rt9 w9 (⟨J91, s90, rfl, hr1, rfl, hs⟩ | ⟨J91, f9, rfl, hr1, rfl, hf⟩) _ _
            · show Rch l E (8 + 2 * D) 16 _ _ _ _ (97, [some (vR 31), some (vR 28), some (vR 7), some (vI dp), some (vI 1), some (vI i), some (vI 0)], [vI 1], MW b J91 L)
              have hbd := (pOne_bd hn D _ _ (by dsimp only; omega) hr1).2
              (try dsimp only at hbd); (try rw [List.length_append, List.length_singleton] at hbd)
              refine rch_br cdK16 (cd := (1 : Int) ≠ 0) (t1 := (102, [some (vR 31), some (vR 28), some (vR 7), some (vI dp), some (vI 1), some (vI i), some (vI 0)], [], MW b J91 L)) (t2 := (100, [some (vR 31), some (vR 28), some (vR 7), some (vI dp), some (vI 1), some (vI i), some (vI 0)], [], MW b J91 L)) rfl (fun _ => ?_) (fun c9 => absurd (by omega) c9)
              refine rch_run cdK16 (by omega) 1 (t' := (104, [some (vR 31), some (vR 28), some (vR 7), some (vI dp), some (vI 1), some (vI i), some (vI 0)], [vI 0], MW b J91 L)) (ps := []) rfl trivial ?_
              refine rch_br cdK16 (cd := (0 : Int) ≠ 0) (t1 := (114, [some (vR 31), some (vR 28), some (vR 7), some (vI dp), some (vI 1), some (vI i), some (vI 0)], [], MW b J91 L)) (t2 := (107, [some (vR 31), some (vR 28), some (vR 7), some (vI dp), some (vI 1), some (vI i), some (vI 0)], [], MW b J91 L)) rfl (fun c9 => absurd c9 (by omega)) (fun _ => ?_)
              refine rch_run cdK16 (by omega) 4 (t' := (111, [some (vR 31), some (vR 28), some (vR 7), some (vI dp), some (vI 1), some (vI i), some (vI 0)], [vI 0, vI 0, vI 4, vR 7], MW b J91 L)) (ps := []) rfl trivial ?_
              refine rch_call (h' := 1) (k' := 2) (as := [vR 7, vI 4, vI 0, vI 0]) (t1 := (114, [some (vR 31), some (vR 28), some (vR 7), some (vI dp), some (vI 1), some (vI i), some (vI 0)], [], MW b J91 L)) cdK16 rfl (k_push_7 l E b I J91 L (c := 7) hs (by decide) rfl rfl (by have hl9 := hs.1.2.2.1; (try dsimp only at hl9 ⊢); omega)) (by omega) mw_le ?_
              rintro rt9 w9 (⟨J92, rfl, rfl, hs⟩) _ _
              show Rch l E (8 + 2 * D) 16 _ _ _ _ (114, [some (vR 31), some (vR 28), some (vR 7), some (vI dp), some (vI 1), some (vI i), some (vI 0)], [], MW b J92 L)
              refine rch_run cdK16 (by omega) 2 (t' := (18, [some (vR 31), some (vR 28), some (vR 7), some (vI dp), some (vI 1), some (vI (i + 1)), some (vI 0)], [], MW b J92 L)) (ps := [i32 (i + 1)]) rfl (by simp only [all_, i32, i64]; first | omega | (simp; done) | (simp; omega)) ?_
              refine rch_forget [6] ?_
              have e9 : b2i w = 1 := by rw [b2i_t c71]; rfl
              have hx := ih (i + 1) _ w _ (by omega) hs (by dsimp only; rw [List.length_append, List.length_singleton]; omega) (by rw [← h4, hfu (by omega)]; exact (pLoop_a hq9 hr1).symm) (by omega)
              rw [e9] at hx
              exact hx
            · show Rch l E (8 + 2 * D) 16 _ _ _ _ (97, [some (vR 31), some (vR 28), some (vR 7), some (vI dp), some (vI 1), some (vI i), some (vI 0)], [vI 0], MW b J91 L)
              refine rch_br cdK16 (cd := (0 : Int) ≠ 0) (t1 := (102, [some (vR 31), some (vR 28), some (vR 7), some (vI dp), some (vI 1), some (vI i), some (vI 0)], [], MW b J91 L)) (t2 := (100, [some (vR 31), some (vR 28), some (vR 7), some (vI dp), some (vI 1), some (vI i), some (vI 0)], [], MW b J91 L)) rfl (fun c9 => absurd c9 (by omega)) (fun _ => ?_)
              refine rch_run cdK16 (by omega) 1 (t' := (101, [some (vR 31), some (vR 28), some (vR 7), some (vI dp), some (vI 1), some (vI i), some (vI 0)], [vI 0], MW b J91 L)) (ps := []) rfl trivial ?_
              refine rch_ret cdK16 (rt := some (vI 0)) rfl (Or.inl rfl) mw_c ?_
              exact Or.inr ⟨_, _, rfl, (by rw [← h4, hfu (by omega)]; exact pLoop_aF hq9 hr1), rfl, hf⟩
          · refine rch_run cdK16 (by omega) 1 (t' := (76, [some (vR 31), some (vR 28), some (vR 7), some (vI dp), some (vI (b2i w)), some (vI i), some (vI 0)], [vI 0], MW b J L)) (ps := []) rfl trivial ?_
            refine rch_br cdK16 (cd := (0 : Int) = 0) (t1 := (83, [some (vR 31), some (vR 28), some (vR 7), some (vI dp), some (vI (b2i w)), some (vI i), some (vI 0)], [], MW b J L)) (t2 := (79, [some (vR 31), some (vR 28), some (vR 7), some (vI dp), some (vI (b2i w)), some (vI i), some (vI 0)], [], MW b J L)) rfl (fun _ => ?_) (fun c9 => absurd (by omega) c9)
            refine rch_run cdK16 (by omega) 3 (t' := (87, [some (vR 31), some (vR 28), some (vR 7), some (vI dp), some (vI 0), some (vI i), some (vI 0)], [vR 28], MW b J L)) (ps := []) rfl trivial ?_
            have hl9 := wd_l2 (by omega) hn ha hq9
            refine rch_call (h' := 2) (k' := 42) (as := [vR 28]) (t1 := (90, [some (vR 31), some (vR 28), some (vR 7), some (vI dp), some (vI 0), some (vI i), some (vI 0)], [], MW b J L)) cdK16 rfl (k_adv l E b I J L hk h0 hs) (by omega) mw_le ?_
            rintro rt9 w9 (⟨J93, rfl, rfl, hs⟩) _ _
            show Rch l E (8 + 2 * D) 16 _ _ _ _ (90, [some (vR 31), some (vR 28), some (vR 7), some (vI dp), some (vI 0), some (vI i), some (vI 0)], [], MW b J93 L)
            refine rch_run cdK16 (by omega) 4 (t' := (94, [some (vR 31), some (vR 28), some (vR 7), some (vI dp), some (vI 0), some (vI i), some (vI 0)], [vI dp, vR 7, vR 28, vR 31], MW b J93 L)) (ps := []) rfl trivial ?_
            refine rch_call (h' := 7 + 2 * D) (k' := 17) (as := [vR 31, vR 28, vR 7, vI dp]) (t1 := (97, [some (vR 31), some (vR 28), some (vR 7), some (vI dp), some (vI 0), some (vI i), some (vI 0)], [], MW b J93 L)) cdK16 rfl (hO J93 _ hs (by (try dsimp only); (try rw [List.length_append, List.length_singleton]); omega)) (by omega) mw_le ?_
            rintro rt9 w9 (⟨J94, s93, rfl, hr1, rfl, hs⟩ | ⟨J94, f9, rfl, hr1, rfl, hf⟩) _ _
            · show Rch l E (8 + 2 * D) 16 _ _ _ _ (97, [some (vR 31), some (vR 28), some (vR 7), some (vI dp), some (vI 0), some (vI i), some (vI 0)], [vI 1], MW b J94 L)
              have hbd := (pOne_bd hn D _ _ (by dsimp only; omega) hr1).2
              (try dsimp only at hbd); (try rw [List.length_append, List.length_singleton] at hbd)
              refine rch_br cdK16 (cd := (1 : Int) ≠ 0) (t1 := (102, [some (vR 31), some (vR 28), some (vR 7), some (vI dp), some (vI 0), some (vI i), some (vI 0)], [], MW b J94 L)) (t2 := (100, [some (vR 31), some (vR 28), some (vR 7), some (vI dp), some (vI 0), some (vI i), some (vI 0)], [], MW b J94 L)) rfl (fun _ => ?_) (fun c9 => absurd (by omega) c9)
              refine rch_run cdK16 (by omega) 1 (t' := (104, [some (vR 31), some (vR 28), some (vR 7), some (vI dp), some (vI 0), some (vI i), some (vI 0)], [vI 0], MW b J94 L)) (ps := []) rfl trivial ?_
              refine rch_br cdK16 (cd := (0 : Int) ≠ 0) (t1 := (114, [some (vR 31), some (vR 28), some (vR 7), some (vI dp), some (vI 0), some (vI i), some (vI 0)], [], MW b J94 L)) (t2 := (107, [some (vR 31), some (vR 28), some (vR 7), some (vI dp), some (vI 0), some (vI i), some (vI 0)], [], MW b J94 L)) rfl (fun c9 => absurd c9 (by omega)) (fun _ => ?_)
              refine rch_run cdK16 (by omega) 4 (t' := (111, [some (vR 31), some (vR 28), some (vR 7), some (vI dp), some (vI 0), some (vI i), some (vI 0)], [vI 0, vI 0, vI 4, vR 7], MW b J94 L)) (ps := []) rfl trivial ?_
              refine rch_call (h' := 1) (k' := 2) (as := [vR 7, vI 4, vI 0, vI 0]) (t1 := (114, [some (vR 31), some (vR 28), some (vR 7), some (vI dp), some (vI 0), some (vI i), some (vI 0)], [], MW b J94 L)) cdK16 rfl (k_push_7 l E b I J94 L (c := 7) hs (by decide) rfl rfl (by have hl9 := hs.1.2.2.1; (try dsimp only at hl9 ⊢); omega)) (by omega) mw_le ?_
              rintro rt9 w9 (⟨J95, rfl, rfl, hs⟩) _ _
              show Rch l E (8 + 2 * D) 16 _ _ _ _ (114, [some (vR 31), some (vR 28), some (vR 7), some (vI dp), some (vI 0), some (vI i), some (vI 0)], [], MW b J95 L)
              refine rch_run cdK16 (by omega) 2 (t' := (18, [some (vR 31), some (vR 28), some (vR 7), some (vI dp), some (vI 0), some (vI (i + 1)), some (vI 0)], [], MW b J95 L)) (ps := [i32 (i + 1)]) rfl (by simp only [all_, i32, i64]; first | omega | (simp; done) | (simp; omega)) ?_
              refine rch_forget [6] ?_
              have e9 : b2i w = 0 := by omega
              have hx := ih (i + 1) _ w _ (by omega) hs (by dsimp only; rw [List.length_append, List.length_singleton]; omega) (by rw [← h4, hfu (by omega)]; exact (pLoop_a hq9 hr1).symm) (by omega)
              rw [e9] at hx
              exact hx
            · show Rch l E (8 + 2 * D) 16 _ _ _ _ (97, [some (vR 31), some (vR 28), some (vR 7), some (vI dp), some (vI 0), some (vI i), some (vI 0)], [vI 0], MW b J94 L)
              refine rch_br cdK16 (cd := (0 : Int) ≠ 0) (t1 := (102, [some (vR 31), some (vR 28), some (vR 7), some (vI dp), some (vI 0), some (vI i), some (vI 0)], [], MW b J94 L)) (t2 := (100, [some (vR 31), some (vR 28), some (vR 7), some (vI dp), some (vI 0), some (vI i), some (vI 0)], [], MW b J94 L)) rfl (fun c9 => absurd c9 (by omega)) (fun _ => ?_)
              refine rch_run cdK16 (by omega) 1 (t' := (101, [some (vR 31), some (vR 28), some (vR 7), some (vI dp), some (vI 0), some (vI i), some (vI 0)], [vI 0], MW b J94 L)) (ps := []) rfl trivial ?_
              refine rch_ret cdK16 (rt := some (vI 0)) rfl (Or.inl rfl) mw_c ?_
              exact Or.inr ⟨_, _, rfl, (by rw [← h4, hfu (by omega)]; exact pLoop_aF hq9 hr1), rfl, hf⟩
        · show Rch l E (8 + 2 * D) 16 _ _ _ _ (41, [some (vR 31), some (vR 28), some (vR 7), some (vI dp), some (vI (b2i w)), some (vI i), none], [vI 0], MW b J L)
          refine rch_br cdK16 (cd := (0 : Int) = 0) (t1 := (120, [some (vR 31), some (vR 28), some (vR 7), some (vI dp), some (vI (b2i w)), some (vI i), none], [], MW b J L)) (t2 := (44, [some (vR 31), some (vR 28), some (vR 7), some (vI dp), some (vI (b2i w)), some (vI i), none], [], MW b J L)) rfl (fun _ => ?_) (fun c9 => absurd (by omega) c9)
          refine rch_run cdK16 (by omega) 1 (t' := (122, [some (vR 31), some (vR 28), some (vR 7), some (vI dp), some (vI (b2i w)), some (vI i), none], [vI (b2i w)], MW b J L)) (ps := []) rfl trivial ?_
          refine rch_br cdK16 (cd := b2i w = 0) (t1 := (132, [some (vR 31), some (vR 28), some (vR 7), some (vI dp), some (vI (b2i w)), some (vI i), none], [], MW b J L)) (t2 := (125, [some (vR 31), some (vR 28), some (vR 7), some (vI dp), some (vI (b2i w)), some (vI i), none], [], MW b J L)) rfl (fun c122 => ?_) (fun c122 => ?_)
          · refine rch_run cdK16 (by omega) 1 (t' := (133, [some (vR 31), some (vR 28), some (vR 7), some (vI dp), some (vI (b2i w)), some (vI i), none], [vI 1], MW b J L)) (ps := []) rfl trivial ?_
            refine rch_ret cdK16 (rt := some (vI 1)) rfl (Or.inr rfl) mw_c ?_
            first | exact Or.inl ⟨_, (if w = true then psh s 6 else s), rfl, (by rw [← h4, pLoop_e hq8 hq9]), rfl, (by first | (rw [if_pos hwt]; exact hs) | (rw [if_neg (b2i_n c122)]; exact hs))⟩ | exact Or.inl ⟨_, (if w = true then psh s 6 else s), rfl, (by rw [← h4, show (500 - i).toNat = 0 by omega]; exact pLoop_0), rfl, (by first | (rw [if_pos hwt]; exact hs) | (rw [if_neg (b2i_n c122)]; exact hs))⟩
          · refine rch_run cdK16 (by omega) 4 (t' := (129, [some (vR 31), some (vR 28), some (vR 7), some (vI dp), some (vI (b2i w)), some (vI i), none], [vI 0, vI 0, vI 5, vR 7], MW b J L)) (ps := []) rfl trivial ?_
            have hwt : w = true := b2i_t c122
            rw [if_pos hwt] at h3
            refine rch_call (h' := 1) (k' := 2) (as := [vR 7, vI 5, vI 0, vI 0]) (t1 := (132, [some (vR 31), some (vR 28), some (vR 7), some (vI dp), some (vI (b2i w)), some (vI i), none], [], MW b J L)) cdK16 rfl (k_push_7 l E b I J L (c := 6) hs (by decide) rfl rfl (by have hl9 := hs.1.2.2.1; (try dsimp only at hl9 ⊢); omega)) (by omega) mw_le ?_
            rintro rt9 w9 (⟨J96, rfl, rfl, hs⟩) _ _
            show Rch l E (8 + 2 * D) 16 _ _ _ _ (132, [some (vR 31), some (vR 28), some (vR 7), some (vI dp), some (vI (b2i w)), some (vI i), none], [], MW b J96 L)
            refine rch_run cdK16 (by omega) 1 (t' := (133, [some (vR 31), some (vR 28), some (vR 7), some (vI dp), some (vI (b2i w)), some (vI i), none], [vI 1], MW b J96 L)) (ps := []) rfl trivial ?_
            refine rch_ret cdK16 (rt := some (vI 1)) rfl (Or.inr rfl) mw_c ?_
            first | exact Or.inl ⟨_, (if w = true then psh s 6 else s), rfl, (by rw [← h4, pLoop_e hq8 hq9]), rfl, (by first | (rw [if_pos hwt]; exact hs) | (rw [if_neg (b2i_n c122)]; exact hs))⟩ | exact Or.inl ⟨_, (if w = true then psh s 6 else s), rfl, (by rw [← h4, show (500 - i).toNat = 0 by omega]; exact pLoop_0), rfl, (by first | (rw [if_pos hwt]; exact hs) | (rw [if_neg (b2i_n c122)]; exact hs))⟩

theorem k_ei_7 (l : Launch) (E : AX) (b : Bool) (I J L : Nat → Nat → Int) (s : Pst) (D : Nat) (dp : Int) (h0 : Tp0 I) (hs : PSx 7 I J s) (hb : 2 * s.2.2.length ≤ s.1) (hO : ∀ (J : Nat → Nat → Int) (s : Pst), PSx 7 I J s → 2 * s.2.2.length ≤ s.1 → Con l E (7 + 2 * D) 17 [vR 31, vR 28, vR 7, vI dp] (MW b J L) 0 0 (PR2 7 I b L (pOne (I 29) (nTp I) D s))) : Con l E (8 + 2 * D) 16 [vR 31, vR 28, vR 7, vI dp] (MW b J L) 0 0 (PR2 7 I b L (pEi (I 29) (nTp I) D s)) := by
  refine con_ok (fun hw9 hs9 => ?_)
  refine con_intro (by omega) (Nat.le_of_ble_eq_true rfl) ?_
  have hk : 7 = 1 ∨ 7 = 7 := by omega
  have ha : s.1 ≤ nTp I := hs.1.2.2.1
  have hn : nTp I ≤ 500 := by have := h0.1; unfold nTp; omega
  show Rch l E (8 + 2 * D) 16 _ _ _ _ (0, [some (vR 31), some (vR 28), some (vR 7), some (vI dp), none, none, none], [], MW b J L)
  refine rch_run cdK16 (by omega) 4 (t' := (4, [some (vR 31), some (vR 28), some (vR 7), some (vI dp), none, none, none], [vI dp, vR 7, vR 28, vR 31], MW b J L)) (ps := []) rfl trivial ?_
  refine rch_call (h' := 7 + 2 * D) (k' := 17) (as := [vR 31, vR 28, vR 7, vI dp]) (t1 := (7, [some (vR 31), some (vR 28), some (vR 7), some (vI dp), none, none, none], [], MW b J L)) cdK16 rfl (hO J s hs hb) (by omega) mw_le ?_
  rintro rt9 w9 (⟨J97, s96, rfl, hr1, rfl, hs⟩ | ⟨J97, f9, rfl, hr1, rfl, hf⟩) _ _
  · show Rch l E (8 + 2 * D) 16 _ _ _ _ (7, [some (vR 31), some (vR 28), some (vR 7), some (vI dp), none, none, none], [vI 1], MW b J97 L)
    have hbd := (pOne_bd hn D _ _ ha hr1).2
    refine rch_br cdK16 (cd := (1 : Int) ≠ 0) (t1 := (12, [some (vR 31), some (vR 28), some (vR 7), some (vI dp), none, none, none], [], MW b J97 L)) (t2 := (10, [some (vR 31), some (vR 28), some (vR 7), some (vI dp), none, none, none], [], MW b J97 L)) rfl (fun _ => ?_) (fun c9 => absurd (by omega) c9)
    refine rch_run cdK16 (by omega) 4 (t' := (18, [some (vR 31), some (vR 28), some (vR 7), some (vI dp), some (vI 0), some (vI 0), none], [], MW b J97 L)) (ps := []) rfl trivial ?_
    exact lp_ei_7 l E b I L D dp (pEi (I 29) (nTp I) D s) h0 hO J 501 0 _ false _ (by omega) hs (by rw [if_neg Bool.false_ne_true]; omega) (pEi_Y hr1).symm (by omega)
  · show Rch l E (8 + 2 * D) 16 _ _ _ _ (7, [some (vR 31), some (vR 28), some (vR 7), some (vI dp), none, none, none], [vI 0], MW b J97 L)
    refine rch_br cdK16 (cd := (0 : Int) ≠ 0) (t1 := (12, [some (vR 31), some (vR 28), some (vR 7), some (vI dp), none, none, none], [], MW b J97 L)) (t2 := (10, [some (vR 31), some (vR 28), some (vR 7), some (vI dp), none, none, none], [], MW b J97 L)) rfl (fun c9 => absurd c9 (by omega)) (fun _ => ?_)
    refine rch_run cdK16 (by omega) 1 (t' := (11, [some (vR 31), some (vR 28), some (vR 7), some (vI dp), none, none, none], [vI 0], MW b J97 L)) (ps := []) rfl trivial ?_
    refine rch_ret cdK16 (rt := some (vI 0)) rfl (Or.inl rfl) mw_c ?_
    exact Or.inr ⟨_, _, rfl, pEi_F hr1, rfl, hf⟩

theorem k_oneD_7 (l : Launch) (E : AX) (b : Bool) (I L : Nat → Nat → Int) (h0 : Tp0 I) : ∀ (D : Nat) (dp : Int), 0 ≤ dp ∧ dp + (D : Nat) = 8 → ∀ (J : Nat → Nat → Int) (s : Pst), PSx 7 I J s → 2 * s.2.2.length ≤ s.1 → Con l E (7 + 2 * D) 17 [vR 31, vR 28, vR 7, vI dp] (MW b J L) 0 0 (PR2 7 I b L (pOne (I 29) (nTp I) D s))
  | 0, dp, hd, J, s, hs, hb => k_one0_7 l E b I J L s dp h0 hs (by omega)
  | D + 1, dp, hd, J, s, hs, hb => by
    rw [show 7 + 2 * (D + 1) = 9 + 2 * D by omega]
    exact k_one_7 l E b I J L s D dp h0 hs hb hd (fun J s hs hb => k_oneD_7 l E b I L h0 D (dp + 1) (by omega) J s hs hb) (fun J s hs hb => k_ei_7 l E b I J L s D (dp + 1) h0 hs hb (fun J s hs hb => k_oneD_7 l E b I L h0 D (dp + 1) (by omega) J s hs hb))
theorem k_eiD_7 (l : Launch) (E : AX) (b : Bool) (I J L : Nat → Nat → Int) {s : Pst} (h0 : Tp0 I) (hs : PSx 7 I J s) (hb : 2 * s.2.2.length ≤ s.1) : Con l E 24 16 [vR 31, vR 28, vR 7, vI 0] (MW b J L) 0 0 (PR2 7 I b L (pEi (I 29) (nTp I) 8 s)) := k_ei_7 l E b I J L s 8 0 h0 hs hb (fun J s hs hb => k_oneD_7 l E b I L h0 8 0 (by omega) J s hs hb)
