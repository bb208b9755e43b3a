-- LINES of RULES, pure
def pLine (B : Nat → Int) (n : Nat) (s : Pst) : (Int × Int) ⊕ (Int × Pst) :=
  if wdq B n s.1 0 = false ∧ wdq B n s.1 1 = false then .inl (flt B n s.1 2) else
  match pNum B n (tN B n s.1) 1 1000 with
  | some f => .inl f
  | none => if wdq B n (tN B n (tN B n s.1)) 2 = false then .inl (flt B n (tN B n (tN B n s.1)) 2) else
    match pEi B n 8 (tN B n (tN B n (tN B n s.1)), s.2) with
    | .inl f => .inl f
    | .inr s1 => if tK B n s1.1 = 59 then .inr (if wdq B n s.1 0 = true then -(tV B n (tN B n s.1)) else tV B n (tN B n s.1), tN B n s1.1, s1.2) else .inl (flt B n s1.1 2)
def pAll (B : Nat → Int) (n : Nat) : Nat → List (Int × Int) → Pst → (Int × Int) ⊕ (List (Int × Int) × Pst)
  | 0, G, s => if tK B n s.1 = 0 then .inr (G, s) else .inl (flt B n s.1 2)
  | m + 1, G, s => if tK B n s.1 = 0 then .inr (G, s) else match pLine B n s with
    | .inl f => .inl f
    | .inr q => pAll B n m (G ++ [(q.1, (q.2.2.2.length : Int))]) q.2
def pRul (B : Nat → Int) (n : Nat) : (Int × Int) ⊕ (List (Int × Int) × Pst) := pAll B n 10 [] (0, 0, [])
theorem pLine_1 {B : Nat → Int} {n : Nat} {s : Pst} (h : wdq B n s.1 0 = false) (h1 : wdq B n s.1 1 = false) : pLine B n s = .inl (flt B n s.1 2) := if_pos ⟨h, h1⟩
theorem pLine_w {B : Nat → Int} {n : Nat} {s : Pst} (h : wdq B n s.1 0 = true ∨ wdq B n s.1 1 = true) : ¬ (wdq B n s.1 0 = false ∧ wdq B n s.1 1 = false) := fun z => by
  rcases h with h | h
  · rw [h] at z; exact absurd z.1 (by decide)
  · rw [h] at z; exact absurd z.2 (by decide)
theorem pLine_2 {B : Nat → Int} {n : Nat} {s : Pst} {f : Int × Int} (h : wdq B n s.1 0 = true ∨ wdq B n s.1 1 = true) (h2 : pNum B n (tN B n s.1) 1 1000 = some f) : pLine B n s = .inl f := by
  unfold pLine
  rw [if_neg (pLine_w h), h2]
theorem pLine_3 {B : Nat → Int} {n : Nat} {s : Pst} (h : wdq B n s.1 0 = true ∨ wdq B n s.1 1 = true) (h2 : pNum B n (tN B n s.1) 1 1000 = none) (h3 : wdq B n (tN B n (tN B n s.1)) 2 = false) : pLine B n s = .inl (flt B n (tN B n (tN B n s.1)) 2) := by
  unfold pLine
  rw [if_neg (pLine_w h), h2]
  exact if_pos h3
theorem pLine_4 {B : Nat → Int} {n : Nat} {s : Pst} {f : Int × Int} (h : wdq B n s.1 0 = true ∨ wdq B n s.1 1 = true) (h2 : pNum B n (tN B n s.1) 1 1000 = none) (h3 : wdq B n (tN B n (tN B n s.1)) 2 = true) (h4 : pEi B n 8 (tN B n (tN B n (tN B n s.1)), s.2) = .inl f) : pLine B n s = .inl f := by
  unfold pLine
  rw [if_neg (pLine_w h), h2]
  dsimp only
  rw [if_neg (by rw [h3]; decide), h4]
theorem pLine_5 {B : Nat → Int} {n : Nat} {s s1 : Pst} (h : wdq B n s.1 0 = true ∨ wdq B n s.1 1 = true) (h2 : pNum B n (tN B n s.1) 1 1000 = none) (h3 : wdq B n (tN B n (tN B n s.1)) 2 = true) (h4 : pEi B n 8 (tN B n (tN B n (tN B n s.1)), s.2) = .inr s1) (h5 : tK B n s1.1 ≠ 59) : pLine B n s = .inl (flt B n s1.1 2) := by
  unfold pLine
  rw [if_neg (pLine_w h), h2]
  dsimp only
  rw [if_neg (by rw [h3]; decide), h4]
  exact if_neg h5
theorem pLine_6 {B : Nat → Int} {n : Nat} {s s1 : Pst} (h : wdq B n s.1 0 = true ∨ wdq B n s.1 1 = true) (h2 : pNum B n (tN B n s.1) 1 1000 = none) (h3 : wdq B n (tN B n (tN B n s.1)) 2 = true) (h4 : pEi B n 8 (tN B n (tN B n (tN B n s.1)), s.2) = .inr s1) (h5 : tK B n s1.1 = 59) : pLine B n s = .inr (if wdq B n s.1 0 = true then -(tV B n (tN B n s.1)) else tV B n (tN B n s.1), tN B n s1.1, s1.2) := by
  unfold pLine
  rw [if_neg (pLine_w h), h2]
  dsimp only
  rw [if_neg (by rw [h3]; decide), h4]
  exact if_pos h5
theorem pLine_bd {B : Nat → Int} {n : Nat} (hn : n ≤ 500) {s : Pst} {q : Int × Pst} (ha : s.1 ≤ n) (h : pLine B n s = .inr q) : Bd n 0 s q.2 := by
  have h0 := h
  unfold pLine at h
  split at h
  · exact absurd h (by simp)
  · cases hp : pNum B n (tN B n s.1) 1 1000 with
    | some f => rw [hp] at h; exact absurd h (by simp)
    | none =>
      rw [hp] at h
      dsimp only at h
      split at h
      · exact absurd h (by simp)
      · cases he : pEi B n 8 (tN B n (tN B n (tN B n s.1)), s.2) with
        | inl f => rw [he] at h; exact absurd h (by simp)
        | inr s1 =>
          rw [he] at h
          dsimp only at h
          split at h
          · cases h
            have b1 := tN_bd (B := B) hn ha
            have a1 := tP_bd (B := B) hn ha
            have b2 := tN_bd (B := B) hn b1.2.1
            have a2 := tP_bd (B := B) hn b1.2.1
            have b3 := tN_bd (B := B) hn b2.2.1
            have a3 := tP_bd (B := B) hn b2.2.1
            obtain ⟨x1, x2, x3⟩ := pEi_bd hn (s := (tN B n (tN B n (tN B n s.1)), s.2)) b3.2.1 he
            have b4 := tN_bd (B := B) hn x2
            have a4 := tP_bd (B := B) hn x2
            have x1 : tN B n (tN B n (tN B n s.1)) ≤ s1.1 := x1
            have x3 : 2 * s1.2.2.length + tN B n (tN B n (tN B n s.1)) ≤ 2 * s.2.2.length + s1.1 + 0 := x3
            exact ⟨by show s.1 ≤ tN B n s1.1; omega, b4.2.1, by show 2 * s1.2.2.length + s.1 ≤ 2 * s.2.2.length + tN B n s1.1 + 0; omega⟩
          · exact absurd h (by simp)
def LnW (k : Nat) (I J : Nat → Nat → Int) (v m : Int) : Nat → Nat → Int := upI (upI (upI J (k + 1) (I k 0).toNat v) (k + 2) (I k 0).toNat m) k 0 (I k 0 + 1)
def LnR (k : Nat) (I : Nat → Nat → Int) (b : Bool) (L : Nat → Nat → Int) (r : (Int × Int) ⊕ (Int × Pst)) (rt : Option AV) (w : AW) : Prop := (∃ J v s, w = MW b (LnW k I J v (s.2.2.length : Int)) L ∧ r = .inr (v, s) ∧ rt = some (vI 1) ∧ PSx k I J s) ∨ (∃ J f, w = MW b J L ∧ r = .inl f ∧ rt = some (vI 0) ∧ FlR k I J f)

theorem k_close_1 (l : Launch) (E : AX) (b : Bool) (I J L : Nat → Nat → Int) {s : Pst} (x : Int) (hs : PSx 1 I J s) (hl : 0 ≤ I 1 0 ∧ I 1 0 < 10) : Con l E 1 3 [vR 1, vI x] (MW b J L) 0 0 (fun rt w => ∃ J2, rt = none ∧ w = MW b J2 L ∧ J2 = LnW 1 I J x (s.2.2.length : Int)) := by
  have e0 : J 1 0 = I 1 0 := hs.1.1 1 0 (by omega)
  have e2 : J 1 2 = (s.2.2.length : Int) := hs.1.2.2.2.2.1
  refine con_imp (k_closeLine_1 l E b J L x (by omega)) ?_
  rintro rt w (⟨h1, h2, h3⟩ | ⟨h1, h2, h3⟩)
  · refine ⟨_, h2, h3, ?_⟩
    rw [e0, e2]
    rfl
  · exfalso
    omega

theorem k_line_1 (l : Launch) (E : AX) (b : Bool) (I J L : Nat → Nat → Int) (s : Pst) (h0 : Tp0 I) (hs : PSx 1 I J s) (hb : 2 * s.2.2.length ≤ s.1) (hl : 0 ≤ I 1 0 ∧ I 1 0 < 10) : Con l E 25 14 [vR 31, vR 28, vR 1] (MW b J L) 0 0 (LnR 1 I b L (pLine (I 29) (nTp I) s)) := by
  refine con_ok (fun hw9 hs9 => ?_)
  refine con_intro (by decide) (Nat.le_of_ble_eq_true rfl) ?_
  have hk : 1 = 1 ∨ 1 = 7 := by omega
  have ha : s.1 ≤ nTp I := hs.1.2.2.1
  have hn : nTp I ≤ 500 := by have := h0.1; unfold nTp; omega
  show Rch l E 25 14 _ _ _ _ (0, [some (vR 31), some (vR 28), some (vR 1), none, none], [], MW b J L)
  refine rch_run cdK14 (by decide) 2 (t' := (3, [some (vR 31), some (vR 28), some (vR 1), none, none], [vR 2000, vR 28], MW b J L)) (ps := []) rfl trivial ?_
  refine rch_call (h' := 5) (k' := 45) (as := [vR 28, vR 2000]) (t1 := (6, [some (vR 31), some (vR 28), some (vR 1), none, none], [], MW b J L)) cdK14 rfl (k_rd_0 l E b I J L hk h0 hs) (by decide) mw_le ?_
  rintro rt9 w9 (⟨hq0, rfl, rfl⟩ | ⟨hq0, rfl, rfl⟩) _ _
  · show Rch l E 25 14 _ _ _ _ (6, [some (vR 31), some (vR 28), some (vR 1), none, none], [vI 1], MW b J L)
    refine rch_run cdK14 (by decide) 2 (t' := (8, [some (vR 31), some (vR 28), some (vR 1), some (vI 1), none], [vI 1], MW b J L)) (ps := []) rfl trivial ?_
    refine rch_br cdK14 (cd := (1 : Int) ≠ 0) (t1 := (27, [some (vR 31), some (vR 28), some (vR 1), some (vI 1), none], [], MW b J L)) (t2 := (11, [some (vR 31), some (vR 28), some (vR 1), some (vI 1), none], [], MW b J L)) rfl (fun _ => ?_) (fun c9 => absurd (by decide) c9)
    refine rch_run cdK14 (by decide) 1 (t' := (28, [some (vR 31), some (vR 28), some (vR 1), some (vI 1), none], [vR 28], MW b J L)) (ps := []) rfl trivial ?_
    have b1 := tN_bd (B := I 29) hn ha
    have a1 := tP_bd (B := I 29) hn ha
    have b2 := tN_bd (B := I 29) hn b1.2.1
    have a2 := tP_bd (B := I 29) hn b1.2.1
    have b3 := tN_bd (B := I 29) hn b2.2.1
    have a3 := tP_bd (B := I 29) hn b2.2.1
    refine rch_call (h' := 2) (k' := 42) (as := [vR 28]) (t1 := (31, [some (vR 31), some (vR 28), some (vR 1), some (vI 1), none], [], MW b J L)) cdK14 rfl (k_adv l E b I J L hk h0 hs) (by decide) mw_le ?_
    rintro rt9 w9 (⟨J84, rfl, rfl, hs⟩) _ _
    show Rch l E 25 14 _ _ _ _ (31, [some (vR 31), some (vR 28), some (vR 1), some (vI 1), none], [], MW b J84 L)
    refine rch_run cdK14 (by decide) 4 (t' := (37, [some (vR 31), some (vR 28), some (vR 1), some (vI 1), none], [vI 1000, vI 1, vR 28, vR 31], MW b J84 L)) (ps := []) rfl trivial ?_
    refine rch_call (h' := 2) (k' := 15) (as := [vR 31, vR 28, vI 1, vI 1000]) (t1 := (40, [some (vR 31), some (vR 28), some (vR 1), some (vI 1), none], [], MW b J84 L)) cdK14 rfl (k_num_1 l E b I J84 L 1 1000 h0 hs) (by decide) mw_le ?_
    rintro rt9 w9 (⟨hp1, rfl, rfl⟩ | ⟨J85, f9, hp1, rfl, rfl, hf⟩) _ _
    · show Rch l E 25 14 _ _ _ _ (40, [some (vR 31), some (vR 28), some (vR 1), some (vI 1), none], [vI 1], MW b J84 L)
      have hv1v := hs.1.2.1.2.2.2 (pNum_3 hp1).1
      refine rch_br cdK14 (cd := (1 : Int) ≠ 0) (t1 := (45, [some (vR 31), some (vR 28), some (vR 1), some (vI 1), none], [], MW b J84 L)) (t2 := (43, [some (vR 31), some (vR 28), some (vR 1), some (vI 1), none], [], MW b J84 L)) rfl (fun _ => ?_) (fun c9 => absurd (by decide) c9)
      refine rch_run cdK14 (by decide) 4 (t' := (52, [some (vR 31), some (vR 28), some (vR 1), some (vI 1), some (vI (J84 28 3))], [vR 28], MW b J84 L)) (ps := []) rfl trivial ?_
      refine rch_call (h' := 2) (k' := 42) (as := [vR 28]) (t1 := (55, [some (vR 31), some (vR 28), some (vR 1), some (vI 1), some (vI (J84 28 3))], [], MW b J84 L)) cdK14 rfl (k_adv l E b I J84 L hk h0 hs) (by decide) mw_le ?_
      rintro rt9 w9 (⟨J86, rfl, rfl, hs⟩) _ _
      show Rch l E 25 14 _ _ _ _ (55, [some (vR 31), some (vR 28), some (vR 1), some (vI 1), some (vI (J84 28 3))], [], MW b J86 L)
      refine rch_run cdK14 (by decide) 2 (t' := (58, [some (vR 31), some (vR 28), some (vR 1), some (vI 1), some (vI (J84 28 3))], [vR 2002, vR 28], MW b J86 L)) (ps := []) rfl trivial ?_
      refine rch_call (h' := 5) (k' := 45) (as := [vR 28, vR 2002]) (t1 := (61, [some (vR 31), some (vR 28), some (vR 1), some (vI 1), some (vI (J84 28 3))], [], MW b J86 L)) cdK14 rfl (k_rd_2 l E b I J86 L hk h0 hs) (by decide) mw_le ?_
      rintro rt9 w9 (⟨hq2, rfl, rfl⟩ | ⟨hq2, rfl, rfl⟩) _ _
      · show Rch l E 25 14 _ _ _ _ (61, [some (vR 31), some (vR 28), some (vR 1), some (vI 1), some (vI (J84 28 3))], [vI 1], MW b J86 L)
        refine rch_br cdK14 (cd := (1 : Int) ≠ 0) (t1 := (71, [some (vR 31), some (vR 28), some (vR 1), some (vI 1), some (vI (J84 28 3))], [], MW b J86 L)) (t2 := (64, [some (vR 31), some (vR 28), some (vR 1), some (vI 1), some (vI (J84 28 3))], [], MW b J86 L)) rfl (fun _ => ?_) (fun c9 => absurd (by decide) c9)
        refine rch_run cdK14 (by decide) 1 (t' := (72, [some (vR 31), some (vR 28), some (vR 1), some (vI 1), some (vI (J84 28 3))], [vR 28], MW b J86 L)) (ps := []) rfl trivial ?_
        refine rch_call (h' := 2) (k' := 42) (as := [vR 28]) (t1 := (75, [some (vR 31), some (vR 28), some (vR 1), some (vI 1), some (vI (J84 28 3))], [], MW b J86 L)) cdK14 rfl (k_adv l E b I J86 L hk h0 hs) (by decide) mw_le ?_
        rintro rt9 w9 (⟨J87, rfl, rfl, hs⟩) _ _
        show Rch l E 25 14 _ _ _ _ (75, [some (vR 31), some (vR 28), some (vR 1), some (vI 1), some (vI (J84 28 3))], [], MW b J87 L)
        refine rch_run cdK14 (by decide) 4 (t' := (79, [some (vR 31), some (vR 28), some (vR 1), some (vI 1), some (vI (J84 28 3))], [vI 0, vR 1, vR 28, vR 31], MW b J87 L)) (ps := []) rfl trivial ?_
        refine rch_call (h' := 24) (k' := 16) (as := [vR 31, vR 28, vR 1, vI 0]) (t1 := (82, [some (vR 31), some (vR 28), some (vR 1), some (vI 1), some (vI (J84 28 3))], [], MW b J87 L)) cdK14 rfl (k_eiD_1 l E b I J87 L h0 hs (by dsimp only; omega)) (by decide) mw_le ?_
        rintro rt9 w9 (⟨J88, s87, rfl, hr2, rfl, hs⟩ | ⟨J88, f9, rfl, hr2, rfl, hf⟩) _ _
        · show Rch l E 25 14 _ _ _ _ (82, [some (vR 31), some (vR 28), some (vR 1), some (vI 1), some (vI (J84 28 3))], [vI 1], MW b J88 L)
          have htk2 : J88 28 1 = tK (I 29) (nTp I) s87.1 := hs.1.2.1.2.1
          refine rch_br cdK14 (cd := (1 : Int) ≠ 0) (t1 := (87, [some (vR 31), some (vR 28), some (vR 1), some (vI 1), some (vI (J84 28 3))], [], MW b J88 L)) (t2 := (85, [some (vR 31), some (vR 28), some (vR 1), some (vI 1), some (vI (J84 28 3))], [], MW b J88 L)) rfl (fun _ => ?_) (fun c9 => absurd (by decide) c9)
          refine rch_run cdK14 (by decide) 3 (t' := (93, [some (vR 31), some (vR 28), some (vR 1), some (vI 1), some (vI (J84 28 3))], [vI 59, vI (J88 28 1)], MW b J88 L)) (ps := []) rfl trivial ?_
          refine rch_br cdK14 (cd := J88 28 1 = (59 : Int)) (t1 := (103, [some (vR 31), some (vR 28), some (vR 1), some (vI 1), some (vI (J84 28 3))], [], MW b J88 L)) (t2 := (96, [some (vR 31), some (vR 28), some (vR 1), some (vI 1), some (vI (J84 28 3))], [], MW b J88 L)) rfl (fun c93_5 => ?_) (fun c93_5 => ?_)
          · refine rch_run cdK14 (by decide) 1 (t' := (104, [some (vR 31), some (vR 28), some (vR 1), some (vI 1), some (vI (J84 28 3))], [vR 28], MW b J88 L)) (ps := []) rfl trivial ?_
            refine rch_call (h' := 2) (k' := 42) (as := [vR 28]) (t1 := (107, [some (vR 31), some (vR 28), some (vR 1), some (vI 1), some (vI (J84 28 3))], [], MW b J88 L)) cdK14 rfl (k_adv l E b I J88 L hk h0 hs) (by decide) mw_le ?_
            rintro rt9 w9 (⟨J89, rfl, rfl, hs⟩) _ _
            show Rch l E 25 14 _ _ _ _ (107, [some (vR 31), some (vR 28), some (vR 1), some (vI 1), some (vI (J84 28 3))], [], MW b J89 L)
            refine rch_run cdK14 (by decide) 2 (t' := (109, [some (vR 31), some (vR 28), some (vR 1), some (vI 1), some (vI (J84 28 3))], [vI 1, vR 1], MW b J89 L)) (ps := []) rfl trivial ?_
            refine rch_br cdK14 (cd := (1 : Int) = 0) (t1 := (118, [some (vR 31), some (vR 28), some (vR 1), some (vI 1), some (vI (J84 28 3))], [vR 1], MW b J89 L)) (t2 := (112, [some (vR 31), some (vR 28), some (vR 1), some (vI 1), some (vI (J84 28 3))], [vR 1], MW b J89 L)) rfl (fun c9 => absurd c9 (by decide)) (fun _ => ?_)
            refine rch_run cdK14 (by decide) 3 (t' := (120, [some (vR 31), some (vR 28), some (vR 1), some (vI 1), some (vI (J84 28 3))], [vI (-(J84 28 3)), vR 1], MW b J89 L)) (ps := [i32 (-(J84 28 3))]) rfl (by have hv9 := pNum_3 hp1; simp only [all_, i32, i64]; dsimp only at hv9 hv1v; omega) ?_
            refine rch_call (h' := 1) (k' := 3) (as := [vR 1, vI (-(J84 28 3))]) (t1 := (123, [some (vR 31), some (vR 28), some (vR 1), some (vI 1), some (vI (J84 28 3))], [], MW b J89 L)) cdK14 rfl (k_close_1 l E b I J89 L (-(J84 28 3)) hs hl) (by decide) mw_le ?_
            rintro rt9 w9 (⟨J90, rfl, rfl, hx9⟩) _ _
            show Rch l E 25 14 _ _ _ _ (123, [some (vR 31), some (vR 28), some (vR 1), some (vI 1), some (vI (J84 28 3))], [], MW b J90 L)
            refine rch_run cdK14 (by decide) 1 (t' := (124, [some (vR 31), some (vR 28), some (vR 1), some (vI 1), some (vI (J84 28 3))], [vI 1], MW b J90 L)) (ps := []) rfl trivial ?_
            refine rch_ret cdK14 (rt := some (vI 1)) rfl (Or.inr rfl) mw_c ?_
            exact Or.inl ⟨_, _, _, congrArg (fun z => MW b z L) hx9, (by rw [pLine_6 (by first | exact Or.inl hq0 | exact Or.inr hq1) hp1 hq2 hr2 (by omega), if_pos hq0, hv1v]), rfl, hs⟩
          · refine rch_run cdK14 (by decide) 3 (t' := (99, [some (vR 31), some (vR 28), some (vR 1), some (vI 1), some (vI (J84 28 3))], [vI 2, vR 28, vR 31], MW b J88 L)) (ps := []) rfl trivial ?_
            refine rch_call (h' := 1) (k' := 13) (as := [vR 31, vR 28, vI 2]) (t1 := (102, [some (vR 31), some (vR 28), some (vR 1), some (vI 1), some (vI (J84 28 3))], [], MW b J88 L)) cdK14 rfl (k_stp l E b I J88 L 2 hk hs) (by decide) mw_le ?_
            rintro rt9 w9 (⟨J91, rfl, rfl, hf⟩) _ _
            show Rch l E 25 14 _ _ _ _ (102, [some (vR 31), some (vR 28), some (vR 1), some (vI 1), some (vI (J84 28 3))], [vI 0], MW b J91 L)
            refine rch_ret cdK14 (rt := some (vI 0)) rfl (Or.inl rfl) mw_c ?_
            exact Or.inr ⟨_, _, rfl, pLine_5 (by first | exact Or.inl hq0 | exact Or.inr hq1) hp1 hq2 hr2 (by omega), rfl, hf⟩
        · show Rch l E 25 14 _ _ _ _ (82, [some (vR 31), some (vR 28), some (vR 1), some (vI 1), some (vI (J84 28 3))], [vI 0], MW b J88 L)
          refine rch_br cdK14 (cd := (0 : Int) ≠ 0) (t1 := (87, [some (vR 31), some (vR 28), some (vR 1), some (vI 1), some (vI (J84 28 3))], [], MW b J88 L)) (t2 := (85, [some (vR 31), some (vR 28), some (vR 1), some (vI 1), some (vI (J84 28 3))], [], MW b J88 L)) rfl (fun c9 => absurd c9 (by decide)) (fun _ => ?_)
          refine rch_run cdK14 (by decide) 1 (t' := (86, [some (vR 31), some (vR 28), some (vR 1), some (vI 1), some (vI (J84 28 3))], [vI 0], MW b J88 L)) (ps := []) rfl trivial ?_
          refine rch_ret cdK14 (rt := some (vI 0)) rfl (Or.inl rfl) mw_c ?_
          exact Or.inr ⟨_, _, rfl, pLine_4 (by first | exact Or.inl hq0 | exact Or.inr hq1) hp1 hq2 hr2, rfl, hf⟩
      · show Rch l E 25 14 _ _ _ _ (61, [some (vR 31), some (vR 28), some (vR 1), some (vI 1), some (vI (J84 28 3))], [vI 0], MW b J86 L)
        refine rch_br cdK14 (cd := (0 : Int) ≠ 0) (t1 := (71, [some (vR 31), some (vR 28), some (vR 1), some (vI 1), some (vI (J84 28 3))], [], MW b J86 L)) (t2 := (64, [some (vR 31), some (vR 28), some (vR 1), some (vI 1), some (vI (J84 28 3))], [], MW b J86 L)) rfl (fun c9 => absurd c9 (by decide)) (fun _ => ?_)
        refine rch_run cdK14 (by decide) 3 (t' := (67, [some (vR 31), some (vR 28), some (vR 1), some (vI 1), some (vI (J84 28 3))], [vI 2, vR 28, vR 31], MW b J86 L)) (ps := []) rfl trivial ?_
        refine rch_call (h' := 1) (k' := 13) (as := [vR 31, vR 28, vI 2]) (t1 := (70, [some (vR 31), some (vR 28), some (vR 1), some (vI 1), some (vI (J84 28 3))], [], MW b J86 L)) cdK14 rfl (k_stp l E b I J86 L 2 hk hs) (by decide) mw_le ?_
        rintro rt9 w9 (⟨J92, rfl, rfl, hf⟩) _ _
        show Rch l E 25 14 _ _ _ _ (70, [some (vR 31), some (vR 28), some (vR 1), some (vI 1), some (vI (J84 28 3))], [vI 0], MW b J92 L)
        refine rch_ret cdK14 (rt := some (vI 0)) rfl (Or.inl rfl) mw_c ?_
        exact Or.inr ⟨_, _, rfl, pLine_3 (by first | exact Or.inl hq0 | exact Or.inr hq1) hp1 hq2, rfl, hf⟩
    · show Rch l E 25 14 _ _ _ _ (40, [some (vR 31), some (vR 28), some (vR 1), some (vI 1), none], [vI 0], MW b J85 L)
      refine rch_br cdK14 (cd := (0 : Int) ≠ 0) (t1 := (45, [some (vR 31), some (vR 28), some (vR 1), some (vI 1), none], [], MW b J85 L)) (t2 := (43, [some (vR 31), some (vR 28), some (vR 1), some (vI 1), none], [], MW b J85 L)) rfl (fun c9 => absurd c9 (by decide)) (fun _ => ?_)
      refine rch_run cdK14 (by decide) 1 (t' := (44, [some (vR 31), some (vR 28), some (vR 1), some (vI 1), none], [vI 0], MW b J85 L)) (ps := []) rfl trivial ?_
      refine rch_ret cdK14 (rt := some (vI 0)) rfl (Or.inl rfl) mw_c ?_
      exact Or.inr ⟨_, _, rfl, pLine_2 (by first | exact Or.inl hq0 | exact Or.inr hq1) hp1, rfl, hf⟩
  · show Rch l E 25 14 _ _ _ _ (6, [some (vR 31), some (vR 28), some (vR 1), none, none], [vI 0], MW b J L)
    refine rch_run cdK14 (by decide) 2 (t' := (8, [some (vR 31), some (vR 28), some (vR 1), some (vI 0), none], [vI 0], MW b J L)) (ps := []) rfl trivial ?_
    refine rch_br cdK14 (cd := (0 : Int) ≠ 0) (t1 := (27, [some (vR 31), some (vR 28), some (vR 1), some (vI 0), none], [], MW b J L)) (t2 := (11, [some (vR 31), some (vR 28), some (vR 1), some (vI 0), none], [], MW b J L)) rfl (fun c9 => absurd c9 (by decide)) (fun _ => ?_)
    refine rch_run cdK14 (by decide) 2 (t' := (14, [some (vR 31), some (vR 28), some (vR 1), some (vI 0), none], [vR 2001, vR 28], MW b J L)) (ps := []) rfl trivial ?_
    refine rch_call (h' := 5) (k' := 45) (as := [vR 28, vR 2001]) (t1 := (17, [some (vR 31), some (vR 28), some (vR 1), some (vI 0), none], [], MW b J L)) cdK14 rfl (k_rd_1 l E b I J L hk h0 hs) (by decide) mw_le ?_
    rintro rt9 w9 (⟨hq1, rfl, rfl⟩ | ⟨hq1, rfl, rfl⟩) _ _
    · show Rch l E 25 14 _ _ _ _ (17, [some (vR 31), some (vR 28), some (vR 1), some (vI 0), none], [vI 1], MW b J L)
      refine rch_br cdK14 (cd := (1 : Int) ≠ 0) (t1 := (27, [some (vR 31), some (vR 28), some (vR 1), some (vI 0), none], [], MW b J L)) (t2 := (20, [some (vR 31), some (vR 28), some (vR 1), some (vI 0), none], [], MW b J L)) rfl (fun _ => ?_) (fun c9 => absurd (by decide) c9)
      refine rch_run cdK14 (by decide) 1 (t' := (28, [some (vR 31), some (vR 28), some (vR 1), some (vI 0), none], [vR 28], MW b J L)) (ps := []) rfl trivial ?_
      have b1 := tN_bd (B := I 29) hn ha
      have a1 := tP_bd (B := I 29) hn ha
      have b2 := tN_bd (B := I 29) hn b1.2.1
      have a2 := tP_bd (B := I 29) hn b1.2.1
      have b3 := tN_bd (B := I 29) hn b2.2.1
      have a3 := tP_bd (B := I 29) hn b2.2.1
      refine rch_call (h' := 2) (k' := 42) (as := [vR 28]) (t1 := (31, [some (vR 31), some (vR 28), some (vR 1), some (vI 0), none], [], MW b J L)) cdK14 rfl (k_adv l E b I J L hk h0 hs) (by decide) mw_le ?_
      rintro rt9 w9 (⟨J93, rfl, rfl, hs⟩) _ _
      show Rch l E 25 14 _ _ _ _ (31, [some (vR 31), some (vR 28), some (vR 1), some (vI 0), none], [], MW b J93 L)
      refine rch_run cdK14 (by decide) 4 (t' := (37, [some (vR 31), some (vR 28), some (vR 1), some (vI 0), none], [vI 1000, vI 1, vR 28, vR 31], MW b J93 L)) (ps := []) rfl trivial ?_
      refine rch_call (h' := 2) (k' := 15) (as := [vR 31, vR 28, vI 1, vI 1000]) (t1 := (40, [some (vR 31), some (vR 28), some (vR 1), some (vI 0), none], [], MW b J93 L)) cdK14 rfl (k_num_1 l E b I J93 L 1 1000 h0 hs) (by decide) mw_le ?_
      rintro rt9 w9 (⟨hp1, rfl, rfl⟩ | ⟨J94, f9, hp1, rfl, rfl, hf⟩) _ _
      · show Rch l E 25 14 _ _ _ _ (40, [some (vR 31), some (vR 28), some (vR 1), some (vI 0), none], [vI 1], MW b J93 L)
        have hv1v := hs.1.2.1.2.2.2 (pNum_3 hp1).1
        refine rch_br cdK14 (cd := (1 : Int) ≠ 0) (t1 := (45, [some (vR 31), some (vR 28), some (vR 1), some (vI 0), none], [], MW b J93 L)) (t2 := (43, [some (vR 31), some (vR 28), some (vR 1), some (vI 0), none], [], MW b J93 L)) rfl (fun _ => ?_) (fun c9 => absurd (by decide) c9)
        refine rch_run cdK14 (by decide) 4 (t' := (52, [some (vR 31), some (vR 28), some (vR 1), some (vI 0), some (vI (J93 28 3))], [vR 28], MW b J93 L)) (ps := []) rfl trivial ?_
        refine rch_call (h' := 2) (k' := 42) (as := [vR 28]) (t1 := (55, [some (vR 31), some (vR 28), some (vR 1), some (vI 0), some (vI (J93 28 3))], [], MW b J93 L)) cdK14 rfl (k_adv l E b I J93 L hk h0 hs) (by decide) mw_le ?_
        rintro rt9 w9 (⟨J95, rfl, rfl, hs⟩) _ _
        show Rch l E 25 14 _ _ _ _ (55, [some (vR 31), some (vR 28), some (vR 1), some (vI 0), some (vI (J93 28 3))], [], MW b J95 L)
        refine rch_run cdK14 (by decide) 2 (t' := (58, [some (vR 31), some (vR 28), some (vR 1), some (vI 0), some (vI (J93 28 3))], [vR 2002, vR 28], MW b J95 L)) (ps := []) rfl trivial ?_
        refine rch_call (h' := 5) (k' := 45) (as := [vR 28, vR 2002]) (t1 := (61, [some (vR 31), some (vR 28), some (vR 1), some (vI 0), some (vI (J93 28 3))], [], MW b J95 L)) cdK14 rfl (k_rd_2 l E b I J95 L hk h0 hs) (by decide) mw_le ?_
        rintro rt9 w9 (⟨hq2, rfl, rfl⟩ | ⟨hq2, rfl, rfl⟩) _ _
        · show Rch l E 25 14 _ _ _ _ (61, [some (vR 31), some (vR 28), some (vR 1), some (vI 0), some (vI (J93 28 3))], [vI 1], MW b J95 L)
          refine rch_br cdK14 (cd := (1 : Int) ≠ 0) (t1 := (71, [some (vR 31), some (vR 28), some (vR 1), some (vI 0), some (vI (J93 28 3))], [], MW b J95 L)) (t2 := (64, [some (vR 31), some (vR 28), some (vR 1), some (vI 0), some (vI (J93 28 3))], [], MW b J95 L)) rfl (fun _ => ?_) (fun c9 => absurd (by decide) c9)
          refine rch_run cdK14 (by decide) 1 (t' := (72, [some (vR 31), some (vR 28), some (vR 1), some (vI 0), some (vI (J93 28 3))], [vR 28], MW b J95 L)) (ps := []) rfl trivial ?_
          refine rch_call (h' := 2) (k' := 42) (as := [vR 28]) (t1 := (75, [some (vR 31), some (vR 28), some (vR 1), some (vI 0), some (vI (J93 28 3))], [], MW b J95 L)) cdK14 rfl (k_adv l E b I J95 L hk h0 hs) (by decide) mw_le ?_
          rintro rt9 w9 (⟨J96, rfl, rfl, hs⟩) _ _
          show Rch l E 25 14 _ _ _ _ (75, [some (vR 31), some (vR 28), some (vR 1), some (vI 0), some (vI (J93 28 3))], [], MW b J96 L)
          refine rch_run cdK14 (by decide) 4 (t' := (79, [some (vR 31), some (vR 28), some (vR 1), some (vI 0), some (vI (J93 28 3))], [vI 0, vR 1, vR 28, vR 31], MW b J96 L)) (ps := []) rfl trivial ?_
          refine rch_call (h' := 24) (k' := 16) (as := [vR 31, vR 28, vR 1, vI 0]) (t1 := (82, [some (vR 31), some (vR 28), some (vR 1), some (vI 0), some (vI (J93 28 3))], [], MW b J96 L)) cdK14 rfl (k_eiD_1 l E b I J96 L h0 hs (by dsimp only; omega)) (by decide) mw_le ?_
          rintro rt9 w9 (⟨J97, s96, rfl, hr2, rfl, hs⟩ | ⟨J97, f9, rfl, hr2, rfl, hf⟩) _ _
          · show Rch l E 25 14 _ _ _ _ (82, [some (vR 31), some (vR 28), some (vR 1), some (vI 0), some (vI (J93 28 3))], [vI 1], MW b J97 L)
            have htk2 : J97 28 1 = tK (I 29) (nTp I) s96.1 := hs.1.2.1.2.1
            refine rch_br cdK14 (cd := (1 : Int) ≠ 0) (t1 := (87, [some (vR 31), some (vR 28), some (vR 1), some (vI 0), some (vI (J93 28 3))], [], MW b J97 L)) (t2 := (85, [some (vR 31), some (vR 28), some (vR 1), some (vI 0), some (vI (J93 28 3))], [], MW b J97 L)) rfl (fun _ => ?_) (fun c9 => absurd (by decide) c9)
            refine rch_run cdK14 (by decide) 3 (t' := (93, [some (vR 31), some (vR 28), some (vR 1), some (vI 0), some (vI (J93 28 3))], [vI 59, vI (J97 28 1)], MW b J97 L)) (ps := []) rfl trivial ?_
            refine rch_br cdK14 (cd := J97 28 1 = (59 : Int)) (t1 := (103, [some (vR 31), some (vR 28), some (vR 1), some (vI 0), some (vI (J93 28 3))], [], MW b J97 L)) (t2 := (96, [some (vR 31), some (vR 28), some (vR 1), some (vI 0), some (vI (J93 28 3))], [], MW b J97 L)) rfl (fun c93_15 => ?_) (fun c93_15 => ?_)
            · refine rch_run cdK14 (by decide) 1 (t' := (104, [some (vR 31), some (vR 28), some (vR 1), some (vI 0), some (vI (J93 28 3))], [vR 28], MW b J97 L)) (ps := []) rfl trivial ?_
              refine rch_call (h' := 2) (k' := 42) (as := [vR 28]) (t1 := (107, [some (vR 31), some (vR 28), some (vR 1), some (vI 0), some (vI (J93 28 3))], [], MW b J97 L)) cdK14 rfl (k_adv l E b I J97 L hk h0 hs) (by decide) mw_le ?_
              rintro rt9 w9 (⟨J98, rfl, rfl, hs⟩) _ _
              show Rch l E 25 14 _ _ _ _ (107, [some (vR 31), some (vR 28), some (vR 1), some (vI 0), some (vI (J93 28 3))], [], MW b J98 L)
              refine rch_run cdK14 (by decide) 2 (t' := (109, [some (vR 31), some (vR 28), some (vR 1), some (vI 0), some (vI (J93 28 3))], [vI 0, vR 1], MW b J98 L)) (ps := []) rfl trivial ?_
              refine rch_br cdK14 (cd := (0 : Int) = 0) (t1 := (118, [some (vR 31), some (vR 28), some (vR 1), some (vI 0), some (vI (J93 28 3))], [vR 1], MW b J98 L)) (t2 := (112, [some (vR 31), some (vR 28), some (vR 1), some (vI 0), some (vI (J93 28 3))], [vR 1], MW b J98 L)) rfl (fun _ => ?_) (fun c9 => absurd (by decide) c9)
              refine rch_run cdK14 (by decide) 1 (t' := (120, [some (vR 31), some (vR 28), some (vR 1), some (vI 0), some (vI (J93 28 3))], [vI (J93 28 3), vR 1], MW b J98 L)) (ps := []) rfl trivial ?_
              refine rch_call (h' := 1) (k' := 3) (as := [vR 1, vI (J93 28 3)]) (t1 := (123, [some (vR 31), some (vR 28), some (vR 1), some (vI 0), some (vI (J93 28 3))], [], MW b J98 L)) cdK14 rfl (k_close_1 l E b I J98 L (J93 28 3) hs hl) (by decide) mw_le ?_
              rintro rt9 w9 (⟨J99, rfl, rfl, hx9⟩) _ _
              show Rch l E 25 14 _ _ _ _ (123, [some (vR 31), some (vR 28), some (vR 1), some (vI 0), some (vI (J93 28 3))], [], MW b J99 L)
              refine rch_run cdK14 (by decide) 1 (t' := (124, [some (vR 31), some (vR 28), some (vR 1), some (vI 0), some (vI (J93 28 3))], [vI 1], MW b J99 L)) (ps := []) rfl trivial ?_
              refine rch_ret cdK14 (rt := some (vI 1)) rfl (Or.inr rfl) mw_c ?_
              exact Or.inl ⟨_, _, _, congrArg (fun z => MW b z L) hx9, (by rw [pLine_6 (by first | exact Or.inl hq0 | exact Or.inr hq1) hp1 hq2 hr2 (by omega), if_neg (by rw [hq0]; decide), hv1v]), rfl, hs⟩
            · refine rch_run cdK14 (by decide) 3 (t' := (99, [some (vR 31), some (vR 28), some (vR 1), some (vI 0), some (vI (J93 28 3))], [vI 2, vR 28, vR 31], MW b J97 L)) (ps := []) rfl trivial ?_
              refine rch_call (h' := 1) (k' := 13) (as := [vR 31, vR 28, vI 2]) (t1 := (102, [some (vR 31), some (vR 28), some (vR 1), some (vI 0), some (vI (J93 28 3))], [], MW b J97 L)) cdK14 rfl (k_stp l E b I J97 L 2 hk hs) (by decide) mw_le ?_
              rintro rt9 w9 (⟨J100, rfl, rfl, hf⟩) _ _
              show Rch l E 25 14 _ _ _ _ (102, [some (vR 31), some (vR 28), some (vR 1), some (vI 0), some (vI (J93 28 3))], [vI 0], MW b J100 L)
              refine rch_ret cdK14 (rt := some (vI 0)) rfl (Or.inl rfl) mw_c ?_
              exact Or.inr ⟨_, _, rfl, pLine_5 (by first | exact Or.inl hq0 | exact Or.inr hq1) hp1 hq2 hr2 (by omega), rfl, hf⟩
          · show Rch l E 25 14 _ _ _ _ (82, [some (vR 31), some (vR 28), some (vR 1), some (vI 0), some (vI (J93 28 3))], [vI 0], MW b J97 L)
            refine rch_br cdK14 (cd := (0 : Int) ≠ 0) (t1 := (87, [some (vR 31), some (vR 28), some (vR 1), some (vI 0), some (vI (J93 28 3))], [], MW b J97 L)) (t2 := (85, [some (vR 31), some (vR 28), some (vR 1), some (vI 0), some (vI (J93 28 3))], [], MW b J97 L)) rfl (fun c9 => absurd c9 (by decide)) (fun _ => ?_)
            refine rch_run cdK14 (by decide) 1 (t' := (86, [some (vR 31), some (vR 28), some (vR 1), some (vI 0), some (vI (J93 28 3))], [vI 0], MW b J97 L)) (ps := []) rfl trivial ?_
            refine rch_ret cdK14 (rt := some (vI 0)) rfl (Or.inl rfl) mw_c ?_
            exact Or.inr ⟨_, _, rfl, pLine_4 (by first | exact Or.inl hq0 | exact Or.inr hq1) hp1 hq2 hr2, rfl, hf⟩
        · show Rch l E 25 14 _ _ _ _ (61, [some (vR 31), some (vR 28), some (vR 1), some (vI 0), some (vI (J93 28 3))], [vI 0], MW b J95 L)
          refine rch_br cdK14 (cd := (0 : Int) ≠ 0) (t1 := (71, [some (vR 31), some (vR 28), some (vR 1), some (vI 0), some (vI (J93 28 3))], [], MW b J95 L)) (t2 := (64, [some (vR 31), some (vR 28), some (vR 1), some (vI 0), some (vI (J93 28 3))], [], MW b J95 L)) rfl (fun c9 => absurd c9 (by decide)) (fun _ => ?_)
          refine rch_run cdK14 (by decide) 3 (t' := (67, [some (vR 31), some (vR 28), some (vR 1), some (vI 0), some (vI (J93 28 3))], [vI 2, vR 28, vR 31], MW b J95 L)) (ps := []) rfl trivial ?_
          refine rch_call (h' := 1) (k' := 13) (as := [vR 31, vR 28, vI 2]) (t1 := (70, [some (vR 31), some (vR 28), some (vR 1), some (vI 0), some (vI (J93 28 3))], [], MW b J95 L)) cdK14 rfl (k_stp l E b I J95 L 2 hk hs) (by decide) mw_le ?_
          rintro rt9 w9 (⟨J101, rfl, rfl, hf⟩) _ _
          show Rch l E 25 14 _ _ _ _ (70, [some (vR 31), some (vR 28), some (vR 1), some (vI 0), some (vI (J93 28 3))], [vI 0], MW b J101 L)
          refine rch_ret cdK14 (rt := some (vI 0)) rfl (Or.inl rfl) mw_c ?_
          exact Or.inr ⟨_, _, rfl, pLine_3 (by first | exact Or.inl hq0 | exact Or.inr hq1) hp1 hq2, rfl, hf⟩
      · show Rch l E 25 14 _ _ _ _ (40, [some (vR 31), some (vR 28), some (vR 1), some (vI 0), none], [vI 0], MW b J94 L)
        refine rch_br cdK14 (cd := (0 : Int) ≠ 0) (t1 := (45, [some (vR 31), some (vR 28), some (vR 1), some (vI 0), none], [], MW b J94 L)) (t2 := (43, [some (vR 31), some (vR 28), some (vR 1), some (vI 0), none], [], MW b J94 L)) rfl (fun c9 => absurd c9 (by decide)) (fun _ => ?_)
        refine rch_run cdK14 (by decide) 1 (t' := (44, [some (vR 31), some (vR 28), some (vR 1), some (vI 0), none], [vI 0], MW b J94 L)) (ps := []) rfl trivial ?_
        refine rch_ret cdK14 (rt := some (vI 0)) rfl (Or.inl rfl) mw_c ?_
        exact Or.inr ⟨_, _, rfl, pLine_2 (by first | exact Or.inl hq0 | exact Or.inr hq1) hp1, rfl, hf⟩
    · show Rch l E 25 14 _ _ _ _ (17, [some (vR 31), some (vR 28), some (vR 1), some (vI 0), none], [vI 0], MW b J L)
      refine rch_br cdK14 (cd := (0 : Int) ≠ 0) (t1 := (27, [some (vR 31), some (vR 28), some (vR 1), some (vI 0), none], [], MW b J L)) (t2 := (20, [some (vR 31), some (vR 28), some (vR 1), some (vI 0), none], [], MW b J L)) rfl (fun c9 => absurd c9 (by decide)) (fun _ => ?_)
      refine rch_run cdK14 (by decide) 3 (t' := (23, [some (vR 31), some (vR 28), some (vR 1), some (vI 0), none], [vI 2, vR 28, vR 31], MW b J L)) (ps := []) rfl trivial ?_
      refine rch_call (h' := 1) (k' := 13) (as := [vR 31, vR 28, vI 2]) (t1 := (26, [some (vR 31), some (vR 28), some (vR 1), some (vI 0), none], [], MW b J L)) cdK14 rfl (k_stp l E b I J L 2 hk hs) (by decide) mw_le ?_
      rintro rt9 w9 (⟨J102, rfl, rfl, hf⟩) _ _
      show Rch l E 25 14 _ _ _ _ (26, [some (vR 31), some (vR 28), some (vR 1), some (vI 0), none], [vI 0], MW b J102 L)
      refine rch_ret cdK14 (rt := some (vI 0)) rfl (Or.inl rfl) mw_c ?_
      exact Or.inr ⟨_, _, rfl, pLine_1 hq0 hq1, rfl, hf⟩

theorem k_close_7 (l : Launch) (E : AX) (b : Bool) (I J L : Nat → Nat → Int) {s : Pst} (x : Int) (hs : PSx 7 I J s) (hl : 0 ≤ I 7 0 ∧ I 7 0 < 10) : Con l E 1 3 [vR 7, vI x] (MW b J L) 0 0 (fun rt w => ∃ J2, rt = none ∧ w = MW b J2 L ∧ J2 = LnW 7 I J x (s.2.2.length : Int)) := by
  have e0 : J 7 0 = I 7 0 := hs.1.1 7 0 (by omega)
  have e2 : J 7 2 = (s.2.2.length : Int) := hs.1.2.2.2.2.1
  refine con_imp (k_closeLine_7 l E b J L x (by omega)) ?_
  rintro rt w (⟨h1, h2, h3⟩ | ⟨h1, h2, h3⟩)
  · refine ⟨_, h2, h3, ?_⟩
    rw [e0, e2]
    rfl
  · exfalso
    omega

theorem k_line_7 (l : Launch) (E : AX) (b : Bool) (I J L : Nat → Nat → Int) (s : Pst) (h0 : Tp0 I) (hs : PSx 7 I J s) (hb : 2 * s.2.2.length ≤ s.1) (hl : 0 ≤ I 7 0 ∧ I 7 0 < 10) : Con l E 25 14 [vR 31, vR 28, vR 7] (MW b J L) 0 0 (LnR 7 I b L (pLine (I 29) (nTp I) s)) := by
  refine con_ok (fun hw9 hs9 => ?_)
  refine con_intro (by decide) (Nat.le_of_ble_eq_true rfl) ?_
  have hk : 7 = 1 ∨ 7 = 7 := by omega
  have ha : s.1 ≤ nTp I := hs.1.2.2.1
  have hn : nTp I ≤ 500 := by have := h0.1; unfold nTp; omega
  show Rch l E 25 14 _ _ _ _ (0, [some (vR 31), some (vR 28), some (vR 7), none, none], [], MW b J L)
  refine rch_run cdK14 (by decide) 2 (t' := (3, [some (vR 31), some (vR 28), some (vR 7), none, none], [vR 2000, vR 28], MW b J L)) (ps := []) rfl trivial ?_
  refine rch_call (h' := 5) (k' := 45) (as := [vR 28, vR 2000]) (t1 := (6, [some (vR 31), some (vR 28), some (vR 7), none, none], [], MW b J L)) cdK14 rfl (k_rd_0 l E b I J L hk h0 hs) (by decide) mw_le ?_
  rintro rt9 w9 (⟨hq0, rfl, rfl⟩ | ⟨hq0, rfl, rfl⟩) _ _
  · show Rch l E 25 14 _ _ _ _ (6, [some (vR 31), some (vR 28), some (vR 7), none, none], [vI 1], MW b J L)
    refine rch_run cdK14 (by decide) 2 (t' := (8, [some (vR 31), some (vR 28), some (vR 7), some (vI 1), none], [vI 1], MW b J L)) (ps := []) rfl trivial ?_
    refine rch_br cdK14 (cd := (1 : Int) ≠ 0) (t1 := (27, [some (vR 31), some (vR 28), some (vR 7), some (vI 1), none], [], MW b J L)) (t2 := (11, [some (vR 31), some (vR 28), some (vR 7), some (vI 1), none], [], MW b J L)) rfl (fun _ => ?_) (fun c9 => absurd (by decide) c9)
    refine rch_run cdK14 (by decide) 1 (t' := (28, [some (vR 31), some (vR 28), some (vR 7), some (vI 1), none], [vR 28], MW b J L)) (ps := []) rfl trivial ?_
    have b1 := tN_bd (B := I 29) hn ha
    have a1 := tP_bd (B := I 29) hn ha
    have b2 := tN_bd (B := I 29) hn b1.2.1
    have a2 := tP_bd (B := I 29) hn b1.2.1
    have b3 := tN_bd (B := I 29) hn b2.2.1
    have a3 := tP_bd (B := I 29) hn b2.2.1
    refine rch_call (h' := 2) (k' := 42) (as := [vR 28]) (t1 := (31, [some (vR 31), some (vR 28), some (vR 7), some (vI 1), none], [], MW b J L)) cdK14 rfl (k_adv l E b I J L hk h0 hs) (by decide) mw_le ?_
    rintro rt9 w9 (⟨J103, rfl, rfl, hs⟩) _ _
    show Rch l E 25 14 _ _ _ _ (31, [some (vR 31), some (vR 28), some (vR 7), some (vI 1), none], [], MW b J103 L)
    refine rch_run cdK14 (by decide) 4 (t' := (37, [some (vR 31), some (vR 28), some (vR 7), some (vI 1), none], [vI 1000, vI 1, vR 28, vR 31], MW b J103 L)) (ps := []) rfl trivial ?_
    refine rch_call (h' := 2) (k' := 15) (as := [vR 31, vR 28, vI 1, vI 1000]) (t1 := (40, [some (vR 31), some (vR 28), some (vR 7), some (vI 1), none], [], MW b J103 L)) cdK14 rfl (k_num_7 l E b I J103 L 1 1000 h0 hs) (by decide) mw_le ?_
    rintro rt9 w9 (⟨hp1, rfl, rfl⟩ | ⟨J104, f9, hp1, rfl, rfl, hf⟩) _ _
    · show Rch l E 25 14 _ _ _ _ (40, [some (vR 31), some (vR 28), some (vR 7), some (vI 1), none], [vI 1], MW b J103 L)
      have hv1v := hs.1.2.1.2.2.2 (pNum_3 hp1).1
      refine rch_br cdK14 (cd := (1 : Int) ≠ 0) (t1 := (45, [some (vR 31), some (vR 28), some (vR 7), some (vI 1), none], [], MW b J103 L)) (t2 := (43, [some (vR 31), some (vR 28), some (vR 7), some (vI 1), none], [], MW b J103 L)) rfl (fun _ => ?_) (fun c9 => absurd (by decide) c9)
      refine rch_run cdK14 (by decide) 4 (t' := (52, [some (vR 31), some (vR 28), some (vR 7), some (vI 1), some (vI (J103 28 3))], [vR 28], MW b J103 L)) (ps := []) rfl trivial ?_
      refine rch_call (h' := 2) (k' := 42) (as := [vR 28]) (t1 := (55, [some (vR 31), some (vR 28), some (vR 7), some (vI 1), some (vI (J103 28 3))], [], MW b J103 L)) cdK14 rfl (k_adv l E b I J103 L hk h0 hs) (by decide) mw_le ?_
      rintro rt9 w9 (⟨J105, rfl, rfl, hs⟩) _ _
      show Rch l E 25 14 _ _ _ _ (55, [some (vR 31), some (vR 28), some (vR 7), some (vI 1), some (vI (J103 28 3))], [], MW b J105 L)
      refine rch_run cdK14 (by decide) 2 (t' := (58, [some (vR 31), some (vR 28), some (vR 7), some (vI 1), some (vI (J103 28 3))], [vR 2002, vR 28], MW b J105 L)) (ps := []) rfl trivial ?_
      refine rch_call (h' := 5) (k' := 45) (as := [vR 28, vR 2002]) (t1 := (61, [some (vR 31), some (vR 28), some (vR 7), some (vI 1), some (vI (J103 28 3))], [], MW b J105 L)) cdK14 rfl (k_rd_2 l E b I J105 L hk h0 hs) (by decide) mw_le ?_
      rintro rt9 w9 (⟨hq2, rfl, rfl⟩ | ⟨hq2, rfl, rfl⟩) _ _
      · show Rch l E 25 14 _ _ _ _ (61, [some (vR 31), some (vR 28), some (vR 7), some (vI 1), some (vI (J103 28 3))], [vI 1], MW b J105 L)
        refine rch_br cdK14 (cd := (1 : Int) ≠ 0) (t1 := (71, [some (vR 31), some (vR 28), some (vR 7), some (vI 1), some (vI (J103 28 3))], [], MW b J105 L)) (t2 := (64, [some (vR 31), some (vR 28), some (vR 7), some (vI 1), some (vI (J103 28 3))], [], MW b J105 L)) rfl (fun _ => ?_) (fun c9 => absurd (by decide) c9)
        refine rch_run cdK14 (by decide) 1 (t' := (72, [some (vR 31), some (vR 28), some (vR 7), some (vI 1), some (vI (J103 28 3))], [vR 28], MW b J105 L)) (ps := []) rfl trivial ?_
        refine rch_call (h' := 2) (k' := 42) (as := [vR 28]) (t1 := (75, [some (vR 31), some (vR 28), some (vR 7), some (vI 1), some (vI (J103 28 3))], [], MW b J105 L)) cdK14 rfl (k_adv l E b I J105 L hk h0 hs) (by decide) mw_le ?_
        rintro rt9 w9 (⟨J106, rfl, rfl, hs⟩) _ _
        show Rch l E 25 14 _ _ _ _ (75, [some (vR 31), some (vR 28), some (vR 7), some (vI 1), some (vI (J103 28 3))], [], MW b J106 L)
        refine rch_run cdK14 (by decide) 4 (t' := (79, [some (vR 31), some (vR 28), some (vR 7), some (vI 1), some (vI (J103 28 3))], [vI 0, vR 7, vR 28, vR 31], MW b J106 L)) (ps := []) rfl trivial ?_
        refine rch_call (h' := 24) (k' := 16) (as := [vR 31, vR 28, vR 7, vI 0]) (t1 := (82, [some (vR 31), some (vR 28), some (vR 7), some (vI 1), some (vI (J103 28 3))], [], MW b J106 L)) cdK14 rfl (k_eiD_7 l E b I J106 L h0 hs (by dsimp only; omega)) (by decide) mw_le ?_
        rintro rt9 w9 (⟨J107, s106, rfl, hr2, rfl, hs⟩ | ⟨J107, f9, rfl, hr2, rfl, hf⟩) _ _
        · show Rch l E 25 14 _ _ _ _ (82, [some (vR 31), some (vR 28), some (vR 7), some (vI 1), some (vI (J103 28 3))], [vI 1], MW b J107 L)
          have htk2 : J107 28 1 = tK (I 29) (nTp I) s106.1 := hs.1.2.1.2.1
          refine rch_br cdK14 (cd := (1 : Int) ≠ 0) (t1 := (87, [some (vR 31), some (vR 28), some (vR 7), some (vI 1), some (vI (J103 28 3))], [], MW b J107 L)) (t2 := (85, [some (vR 31), some (vR 28), some (vR 7), some (vI 1), some (vI (J103 28 3))], [], MW b J107 L)) rfl (fun _ => ?_) (fun c9 => absurd (by decide) c9)
          refine rch_run cdK14 (by decide) 3 (t' := (93, [some (vR 31), some (vR 28), some (vR 7), some (vI 1), some (vI (J103 28 3))], [vI 59, vI (J107 28 1)], MW b J107 L)) (ps := []) rfl trivial ?_
          refine rch_br cdK14 (cd := J107 28 1 = (59 : Int)) (t1 := (103, [some (vR 31), some (vR 28), some (vR 7), some (vI 1), some (vI (J103 28 3))], [], MW b J107 L)) (t2 := (96, [some (vR 31), some (vR 28), some (vR 7), some (vI 1), some (vI (J103 28 3))], [], MW b J107 L)) rfl (fun c93_5 => ?_) (fun c93_5 => ?_)
          · refine rch_run cdK14 (by decide) 1 (t' := (104, [some (vR 31), some (vR 28), some (vR 7), some (vI 1), some (vI (J103 28 3))], [vR 28], MW b J107 L)) (ps := []) rfl trivial ?_
            refine rch_call (h' := 2) (k' := 42) (as := [vR 28]) (t1 := (107, [some (vR 31), some (vR 28), some (vR 7), some (vI 1), some (vI (J103 28 3))], [], MW b J107 L)) cdK14 rfl (k_adv l E b I J107 L hk h0 hs) (by decide) mw_le ?_
            rintro rt9 w9 (⟨J108, rfl, rfl, hs⟩) _ _
            show Rch l E 25 14 _ _ _ _ (107, [some (vR 31), some (vR 28), some (vR 7), some (vI 1), some (vI (J103 28 3))], [], MW b J108 L)
            refine rch_run cdK14 (by decide) 2 (t' := (109, [some (vR 31), some (vR 28), some (vR 7), some (vI 1), some (vI (J103 28 3))], [vI 1, vR 7], MW b J108 L)) (ps := []) rfl trivial ?_
            refine rch_br cdK14 (cd := (1 : Int) = 0) (t1 := (118, [some (vR 31), some (vR 28), some (vR 7), some (vI 1), some (vI (J103 28 3))], [vR 7], MW b J108 L)) (t2 := (112, [some (vR 31), some (vR 28), some (vR 7), some (vI 1), some (vI (J103 28 3))], [vR 7], MW b J108 L)) rfl (fun c9 => absurd c9 (by decide)) (fun _ => ?_)
            refine rch_run cdK14 (by decide) 3 (t' := (120, [some (vR 31), some (vR 28), some (vR 7), some (vI 1), some (vI (J103 28 3))], [vI (-(J103 28 3)), vR 7], MW b J108 L)) (ps := [i32 (-(J103 28 3))]) rfl (by have hv9 := pNum_3 hp1; simp only [all_, i32, i64]; dsimp only at hv9 hv1v; omega) ?_
            refine rch_call (h' := 1) (k' := 3) (as := [vR 7, vI (-(J103 28 3))]) (t1 := (123, [some (vR 31), some (vR 28), some (vR 7), some (vI 1), some (vI (J103 28 3))], [], MW b J108 L)) cdK14 rfl (k_close_7 l E b I J108 L (-(J103 28 3)) hs hl) (by decide) mw_le ?_
            rintro rt9 w9 (⟨J109, rfl, rfl, hx9⟩) _ _
            show Rch l E 25 14 _ _ _ _ (123, [some (vR 31), some (vR 28), some (vR 7), some (vI 1), some (vI (J103 28 3))], [], MW b J109 L)
            refine rch_run cdK14 (by decide) 1 (t' := (124, [some (vR 31), some (vR 28), some (vR 7), some (vI 1), some (vI (J103 28 3))], [vI 1], MW b J109 L)) (ps := []) rfl trivial ?_
            refine rch_ret cdK14 (rt := some (vI 1)) rfl (Or.inr rfl) mw_c ?_
            exact Or.inl ⟨_, _, _, congrArg (fun z => MW b z L) hx9, (by rw [pLine_6 (by first | exact Or.inl hq0 | exact Or.inr hq1) hp1 hq2 hr2 (by omega), if_pos hq0, hv1v]), rfl, hs⟩
          · refine rch_run cdK14 (by decide) 3 (t' := (99, [some (vR 31), some (vR 28), some (vR 7), some (vI 1), some (vI (J103 28 3))], [vI 2, vR 28, vR 31], MW b J107 L)) (ps := []) rfl trivial ?_
            refine rch_call (h' := 1) (k' := 13) (as := [vR 31, vR 28, vI 2]) (t1 := (102, [some (vR 31), some (vR 28), some (vR 7), some (vI 1), some (vI (J103 28 3))], [], MW b J107 L)) cdK14 rfl (k_stp l E b I J107 L 2 hk hs) (by decide) mw_le ?_
            rintro rt9 w9 (⟨J110, rfl, rfl, hf⟩) _ _
            show Rch l E 25 14 _ _ _ _ (102, [some (vR 31), some (vR 28), some (vR 7), some (vI 1), some (vI (J103 28 3))], [vI 0], MW b J110 L)
            refine rch_ret cdK14 (rt := some (vI 0)) rfl (Or.inl rfl) mw_c ?_
            exact Or.inr ⟨_, _, rfl, pLine_5 (by first | exact Or.inl hq0 | exact Or.inr hq1) hp1 hq2 hr2 (by omega), rfl, hf⟩
        · show Rch l E 25 14 _ _ _ _ (82, [some (vR 31), some (vR 28), some (vR 7), some (vI 1), some (vI (J103 28 3))], [vI 0], MW b J107 L)
          refine rch_br cdK14 (cd := (0 : Int) ≠ 0) (t1 := (87, [some (vR 31), some (vR 28), some (vR 7), some (vI 1), some (vI (J103 28 3))], [], MW b J107 L)) (t2 := (85, [some (vR 31), some (vR 28), some (vR 7), some (vI 1), some (vI (J103 28 3))], [], MW b J107 L)) rfl (fun c9 => absurd c9 (by decide)) (fun _ => ?_)
          refine rch_run cdK14 (by decide) 1 (t' := (86, [some (vR 31), some (vR 28), some (vR 7), some (vI 1), some (vI (J103 28 3))], [vI 0], MW b J107 L)) (ps := []) rfl trivial ?_
          refine rch_ret cdK14 (rt := some (vI 0)) rfl (Or.inl rfl) mw_c ?_
          exact Or.inr ⟨_, _, rfl, pLine_4 (by first | exact Or.inl hq0 | exact Or.inr hq1) hp1 hq2 hr2, rfl, hf⟩
      · show Rch l E 25 14 _ _ _ _ (61, [some (vR 31), some (vR 28), some (vR 7), some (vI 1), some (vI (J103 28 3))], [vI 0], MW b J105 L)
        refine rch_br cdK14 (cd := (0 : Int) ≠ 0) (t1 := (71, [some (vR 31), some (vR 28), some (vR 7), some (vI 1), some (vI (J103 28 3))], [], MW b J105 L)) (t2 := (64, [some (vR 31), some (vR 28), some (vR 7), some (vI 1), some (vI (J103 28 3))], [], MW b J105 L)) rfl (fun c9 => absurd c9 (by decide)) (fun _ => ?_)
        refine rch_run cdK14 (by decide) 3 (t' := (67, [some (vR 31), some (vR 28), some (vR 7), some (vI 1), some (vI (J103 28 3))], [vI 2, vR 28, vR 31], MW b J105 L)) (ps := []) rfl trivial ?_
        refine rch_call (h' := 1) (k' := 13) (as := [vR 31, vR 28, vI 2]) (t1 := (70, [some (vR 31), some (vR 28), some (vR 7), some (vI 1), some (vI (J103 28 3))], [], MW b J105 L)) cdK14 rfl (k_stp l E b I J105 L 2 hk hs) (by decide) mw_le ?_
        rintro rt9 w9 (⟨J111, rfl, rfl, hf⟩) _ _
        show Rch l E 25 14 _ _ _ _ (70, [some (vR 31), some (vR 28), some (vR 7), some (vI 1), some (vI (J103 28 3))], [vI 0], MW b J111 L)
        refine rch_ret cdK14 (rt := some (vI 0)) rfl (Or.inl rfl) mw_c ?_
        exact Or.inr ⟨_, _, rfl, pLine_3 (by first | exact Or.inl hq0 | exact Or.inr hq1) hp1 hq2, rfl, hf⟩
    · show Rch l E 25 14 _ _ _ _ (40, [some (vR 31), some (vR 28), some (vR 7), some (vI 1), none], [vI 0], MW b J104 L)
      refine rch_br cdK14 (cd := (0 : Int) ≠ 0) (t1 := (45, [some (vR 31), some (vR 28), some (vR 7), some (vI 1), none], [], MW b J104 L)) (t2 := (43, [some (vR 31), some (vR 28), some (vR 7), some (vI 1), none], [], MW b J104 L)) rfl (fun c9 => absurd c9 (by decide)) (fun _ => ?_)
      refine rch_run cdK14 (by decide) 1 (t' := (44, [some (vR 31), some (vR 28), some (vR 7), some (vI 1), none], [vI 0], MW b J104 L)) (ps := []) rfl trivial ?_
      refine rch_ret cdK14 (rt := some (vI 0)) rfl (Or.inl rfl) mw_c ?_
      exact Or.inr ⟨_, _, rfl, pLine_2 (by first | exact Or.inl hq0 | exact Or.inr hq1) hp1, rfl, hf⟩
  · show Rch l E 25 14 _ _ _ _ (6, [some (vR 31), some (vR 28), some (vR 7), none, none], [vI 0], MW b J L)
    refine rch_run cdK14 (by decide) 2 (t' := (8, [some (vR 31), some (vR 28), some (vR 7), some (vI 0), none], [vI 0], MW b J L)) (ps := []) rfl trivial ?_
    refine rch_br cdK14 (cd := (0 : Int) ≠ 0) (t1 := (27, [some (vR 31), some (vR 28), some (vR 7), some (vI 0), none], [], MW b J L)) (t2 := (11, [some (vR 31), some (vR 28), some (vR 7), some (vI 0), none], [], MW b J L)) rfl (fun c9 => absurd c9 (by decide)) (fun _ => ?_)
    refine rch_run cdK14 (by decide) 2 (t' := (14, [some (vR 31), some (vR 28), some (vR 7), some (vI 0), none], [vR 2001, vR 28], MW b J L)) (ps := []) rfl trivial ?_
    refine rch_call (h' := 5) (k' := 45) (as := [vR 28, vR 2001]) (t1 := (17, [some (vR 31), some (vR 28), some (vR 7), some (vI 0), none], [], MW b J L)) cdK14 rfl (k_rd_1 l E b I J L hk h0 hs) (by decide) mw_le ?_
    rintro rt9 w9 (⟨hq1, rfl, rfl⟩ | ⟨hq1, rfl, rfl⟩) _ _
    · show Rch l E 25 14 _ _ _ _ (17, [some (vR 31), some (vR 28), some (vR 7), some (vI 0), none], [vI 1], MW b J L)
      refine rch_br cdK14 (cd := (1 : Int) ≠ 0) (t1 := (27, [some (vR 31), some (vR 28), some (vR 7), some (vI 0), none], [], MW b J L)) (t2 := (20, [some (vR 31), some (vR 28), some (vR 7), some (vI 0), none], [], MW b J L)) rfl (fun _ => ?_) (fun c9 => absurd (by decide) c9)
      refine rch_run cdK14 (by decide) 1 (t' := (28, [some (vR 31), some (vR 28), some (vR 7), some (vI 0), none], [vR 28], MW b J L)) (ps := []) rfl trivial ?_
      have b1 := tN_bd (B := I 29) hn ha
      have a1 := tP_bd (B := I 29) hn ha
      have b2 := tN_bd (B := I 29) hn b1.2.1
      have a2 := tP_bd (B := I 29) hn b1.2.1
      have b3 := tN_bd (B := I 29) hn b2.2.1
      have a3 := tP_bd (B := I 29) hn b2.2.1
      refine rch_call (h' := 2) (k' := 42) (as := [vR 28]) (t1 := (31, [some (vR 31), some (vR 28), some (vR 7), some (vI 0), none], [], MW b J L)) cdK14 rfl (k_adv l E b I J L hk h0 hs) (by decide) mw_le ?_
      rintro rt9 w9 (⟨J112, rfl, rfl, hs⟩) _ _
      show Rch l E 25 14 _ _ _ _ (31, [some (vR 31), some (vR 28), some (vR 7), some (vI 0), none], [], MW b J112 L)
      refine rch_run cdK14 (by decide) 4 (t' := (37, [some (vR 31), some (vR 28), some (vR 7), some (vI 0), none], [vI 1000, vI 1, vR 28, vR 31], MW b J112 L)) (ps := []) rfl trivial ?_
      refine rch_call (h' := 2) (k' := 15) (as := [vR 31, vR 28, vI 1, vI 1000]) (t1 := (40, [some (vR 31), some (vR 28), some (vR 7), some (vI 0), none], [], MW b J112 L)) cdK14 rfl (k_num_7 l E b I J112 L 1 1000 h0 hs) (by decide) mw_le ?_
      rintro rt9 w9 (⟨hp1, rfl, rfl⟩ | ⟨J113, f9, hp1, rfl, rfl, hf⟩) _ _
      · show Rch l E 25 14 _ _ _ _ (40, [some (vR 31), some (vR 28), some (vR 7), some (vI 0), none], [vI 1], MW b J112 L)
        have hv1v := hs.1.2.1.2.2.2 (pNum_3 hp1).1
        refine rch_br cdK14 (cd := (1 : Int) ≠ 0) (t1 := (45, [some (vR 31), some (vR 28), some (vR 7), some (vI 0), none], [], MW b J112 L)) (t2 := (43, [some (vR 31), some (vR 28), some (vR 7), some (vI 0), none], [], MW b J112 L)) rfl (fun _ => ?_) (fun c9 => absurd (by decide) c9)
        refine rch_run cdK14 (by decide) 4 (t' := (52, [some (vR 31), some (vR 28), some (vR 7), some (vI 0), some (vI (J112 28 3))], [vR 28], MW b J112 L)) (ps := []) rfl trivial ?_
        refine rch_call (h' := 2) (k' := 42) (as := [vR 28]) (t1 := (55, [some (vR 31), some (vR 28), some (vR 7), some (vI 0), some (vI (J112 28 3))], [], MW b J112 L)) cdK14 rfl (k_adv l E b I J112 L hk h0 hs) (by decide) mw_le ?_
        rintro rt9 w9 (⟨J114, rfl, rfl, hs⟩) _ _
        show Rch l E 25 14 _ _ _ _ (55, [some (vR 31), some (vR 28), some (vR 7), some (vI 0), some (vI (J112 28 3))], [], MW b J114 L)
        refine rch_run cdK14 (by decide) 2 (t' := (58, [some (vR 31), some (vR 28), some (vR 7), some (vI 0), some (vI (J112 28 3))], [vR 2002, vR 28], MW b J114 L)) (ps := []) rfl trivial ?_
        refine rch_call (h' := 5) (k' := 45) (as := [vR 28, vR 2002]) (t1 := (61, [some (vR 31), some (vR 28), some (vR 7), some (vI 0), some (vI (J112 28 3))], [], MW b J114 L)) cdK14 rfl (k_rd_2 l E b I J114 L hk h0 hs) (by decide) mw_le ?_
        rintro rt9 w9 (⟨hq2, rfl, rfl⟩ | ⟨hq2, rfl, rfl⟩) _ _
        · show Rch l E 25 14 _ _ _ _ (61, [some (vR 31), some (vR 28), some (vR 7), some (vI 0), some (vI (J112 28 3))], [vI 1], MW b J114 L)
          refine rch_br cdK14 (cd := (1 : Int) ≠ 0) (t1 := (71, [some (vR 31), some (vR 28), some (vR 7), some (vI 0), some (vI (J112 28 3))], [], MW b J114 L)) (t2 := (64, [some (vR 31), some (vR 28), some (vR 7), some (vI 0), some (vI (J112 28 3))], [], MW b J114 L)) rfl (fun _ => ?_) (fun c9 => absurd (by decide) c9)
          refine rch_run cdK14 (by decide) 1 (t' := (72, [some (vR 31), some (vR 28), some (vR 7), some (vI 0), some (vI (J112 28 3))], [vR 28], MW b J114 L)) (ps := []) rfl trivial ?_
          refine rch_call (h' := 2) (k' := 42) (as := [vR 28]) (t1 := (75, [some (vR 31), some (vR 28), some (vR 7), some (vI 0), some (vI (J112 28 3))], [], MW b J114 L)) cdK14 rfl (k_adv l E b I J114 L hk h0 hs) (by decide) mw_le ?_
          rintro rt9 w9 (⟨J115, rfl, rfl, hs⟩) _ _
          show Rch l E 25 14 _ _ _ _ (75, [some (vR 31), some (vR 28), some (vR 7), some (vI 0), some (vI (J112 28 3))], [], MW b J115 L)
          refine rch_run cdK14 (by decide) 4 (t' := (79, [some (vR 31), some (vR 28), some (vR 7), some (vI 0), some (vI (J112 28 3))], [vI 0, vR 7, vR 28, vR 31], MW b J115 L)) (ps := []) rfl trivial ?_
          refine rch_call (h' := 24) (k' := 16) (as := [vR 31, vR 28, vR 7, vI 0]) (t1 := (82, [some (vR 31), some (vR 28), some (vR 7), some (vI 0), some (vI (J112 28 3))], [], MW b J115 L)) cdK14 rfl (k_eiD_7 l E b I J115 L h0 hs (by dsimp only; omega)) (by decide) mw_le ?_
          rintro rt9 w9 (⟨J116, s115, rfl, hr2, rfl, hs⟩ | ⟨J116, f9, rfl, hr2, rfl, hf⟩) _ _
          · show Rch l E 25 14 _ _ _ _ (82, [some (vR 31), some (vR 28), some (vR 7), some (vI 0), some (vI (J112 28 3))], [vI 1], MW b J116 L)
            have htk2 : J116 28 1 = tK (I 29) (nTp I) s115.1 := hs.1.2.1.2.1
            refine rch_br cdK14 (cd := (1 : Int) ≠ 0) (t1 := (87, [some (vR 31), some (vR 28), some (vR 7), some (vI 0), some (vI (J112 28 3))], [], MW b J116 L)) (t2 := (85, [some (vR 31), some (vR 28), some (vR 7), some (vI 0), some (vI (J112 28 3))], [], MW b J116 L)) rfl (fun _ => ?_) (fun c9 => absurd (by decide) c9)
            refine rch_run cdK14 (by decide) 3 (t' := (93, [some (vR 31), some (vR 28), some (vR 7), some (vI 0), some (vI (J112 28 3))], [vI 59, vI (J116 28 1)], MW b J116 L)) (ps := []) rfl trivial ?_
            refine rch_br cdK14 (cd := J116 28 1 = (59 : Int)) (t1 := (103, [some (vR 31), some (vR 28), some (vR 7), some (vI 0), some (vI (J112 28 3))], [], MW b J116 L)) (t2 := (96, [some (vR 31), some (vR 28), some (vR 7), some (vI 0), some (vI (J112 28 3))], [], MW b J116 L)) rfl (fun c93_15 => ?_) (fun c93_15 => ?_)
            · refine rch_run cdK14 (by decide) 1 (t' := (104, [some (vR 31), some (vR 28), some (vR 7), some (vI 0), some (vI (J112 28 3))], [vR 28], MW b J116 L)) (ps := []) rfl trivial ?_
              refine rch_call (h' := 2) (k' := 42) (as := [vR 28]) (t1 := (107, [some (vR 31), some (vR 28), some (vR 7), some (vI 0), some (vI (J112 28 3))], [], MW b J116 L)) cdK14 rfl (k_adv l E b I J116 L hk h0 hs) (by decide) mw_le ?_
              rintro rt9 w9 (⟨J117, rfl, rfl, hs⟩) _ _
              show Rch l E 25 14 _ _ _ _ (107, [some (vR 31), some (vR 28), some (vR 7), some (vI 0), some (vI (J112 28 3))], [], MW b J117 L)
              refine rch_run cdK14 (by decide) 2 (t' := (109, [some (vR 31), some (vR 28), some (vR 7), some (vI 0), some (vI (J112 28 3))], [vI 0, vR 7], MW b J117 L)) (ps := []) rfl trivial ?_
              refine rch_br cdK14 (cd := (0 : Int) = 0) (t1 := (118, [some (vR 31), some (vR 28), some (vR 7), some (vI 0), some (vI (J112 28 3))], [vR 7], MW b J117 L)) (t2 := (112, [some (vR 31), some (vR 28), some (vR 7), some (vI 0), some (vI (J112 28 3))], [vR 7], MW b J117 L)) rfl (fun _ => ?_) (fun c9 => absurd (by decide) c9)
              refine rch_run cdK14 (by decide) 1 (t' := (120, [some (vR 31), some (vR 28), some (vR 7), some (vI 0), some (vI (J112 28 3))], [vI (J112 28 3), vR 7], MW b J117 L)) (ps := []) rfl trivial ?_
              refine rch_call (h' := 1) (k' := 3) (as := [vR 7, vI (J112 28 3)]) (t1 := (123, [some (vR 31), some (vR 28), some (vR 7), some (vI 0), some (vI (J112 28 3))], [], MW b J117 L)) cdK14 rfl (k_close_7 l E b I J117 L (J112 28 3) hs hl) (by decide) mw_le ?_
              rintro rt9 w9 (⟨J118, rfl, rfl, hx9⟩) _ _
              show Rch l E 25 14 _ _ _ _ (123, [some (vR 31), some (vR 28), some (vR 7), some (vI 0), some (vI (J112 28 3))], [], MW b J118 L)
              refine rch_run cdK14 (by decide) 1 (t' := (124, [some (vR 31), some (vR 28), some (vR 7), some (vI 0), some (vI (J112 28 3))], [vI 1], MW b J118 L)) (ps := []) rfl trivial ?_
              refine rch_ret cdK14 (rt := some (vI 1)) rfl (Or.inr rfl) mw_c ?_
              exact Or.inl ⟨_, _, _, congrArg (fun z => MW b z L) hx9, (by rw [pLine_6 (by first | exact Or.inl hq0 | exact Or.inr hq1) hp1 hq2 hr2 (by omega), if_neg (by rw [hq0]; decide), hv1v]), rfl, hs⟩
            · refine rch_run cdK14 (by decide) 3 (t' := (99, [some (vR 31), some (vR 28), some (vR 7), some (vI 0), some (vI (J112 28 3))], [vI 2, vR 28, vR 31], MW b J116 L)) (ps := []) rfl trivial ?_
              refine rch_call (h' := 1) (k' := 13) (as := [vR 31, vR 28, vI 2]) (t1 := (102, [some (vR 31), some (vR 28), some (vR 7), some (vI 0), some (vI (J112 28 3))], [], MW b J116 L)) cdK14 rfl (k_stp l E b I J116 L 2 hk hs) (by decide) mw_le ?_
              rintro rt9 w9 (⟨J119, rfl, rfl, hf⟩) _ _
              show Rch l E 25 14 _ _ _ _ (102, [some (vR 31), some (vR 28), some (vR 7), some (vI 0), some (vI (J112 28 3))], [vI 0], MW b J119 L)
              refine rch_ret cdK14 (rt := some (vI 0)) rfl (Or.inl rfl) mw_c ?_
              exact Or.inr ⟨_, _, rfl, pLine_5 (by first | exact Or.inl hq0 | exact Or.inr hq1) hp1 hq2 hr2 (by omega), rfl, hf⟩
          · show Rch l E 25 14 _ _ _ _ (82, [some (vR 31), some (vR 28), some (vR 7), some (vI 0), some (vI (J112 28 3))], [vI 0], MW b J116 L)
            refine rch_br cdK14 (cd := (0 : Int) ≠ 0) (t1 := (87, [some (vR 31), some (vR 28), some (vR 7), some (vI 0), some (vI (J112 28 3))], [], MW b J116 L)) (t2 := (85, [some (vR 31), some (vR 28), some (vR 7), some (vI 0), some (vI (J112 28 3))], [], MW b J116 L)) rfl (fun c9 => absurd c9 (by decide)) (fun _ => ?_)
            refine rch_run cdK14 (by decide) 1 (t' := (86, [some (vR 31), some (vR 28), some (vR 7), some (vI 0), some (vI (J112 28 3))], [vI 0], MW b J116 L)) (ps := []) rfl trivial ?_
            refine rch_ret cdK14 (rt := some (vI 0)) rfl (Or.inl rfl) mw_c ?_
            exact Or.inr ⟨_, _, rfl, pLine_4 (by first | exact Or.inl hq0 | exact Or.inr hq1) hp1 hq2 hr2, rfl, hf⟩
        · show Rch l E 25 14 _ _ _ _ (61, [some (vR 31), some (vR 28), some (vR 7), some (vI 0), some (vI (J112 28 3))], [vI 0], MW b J114 L)
          refine rch_br cdK14 (cd := (0 : Int) ≠ 0) (t1 := (71, [some (vR 31), some (vR 28), some (vR 7), some (vI 0), some (vI (J112 28 3))], [], MW b J114 L)) (t2 := (64, [some (vR 31), some (vR 28), some (vR 7), some (vI 0), some (vI (J112 28 3))], [], MW b J114 L)) rfl (fun c9 => absurd c9 (by decide)) (fun _ => ?_)
          refine rch_run cdK14 (by decide) 3 (t' := (67, [some (vR 31), some (vR 28), some (vR 7), some (vI 0), some (vI (J112 28 3))], [vI 2, vR 28, vR 31], MW b J114 L)) (ps := []) rfl trivial ?_
          refine rch_call (h' := 1) (k' := 13) (as := [vR 31, vR 28, vI 2]) (t1 := (70, [some (vR 31), some (vR 28), some (vR 7), some (vI 0), some (vI (J112 28 3))], [], MW b J114 L)) cdK14 rfl (k_stp l E b I J114 L 2 hk hs) (by decide) mw_le ?_
          rintro rt9 w9 (⟨J120, rfl, rfl, hf⟩) _ _
          show Rch l E 25 14 _ _ _ _ (70, [some (vR 31), some (vR 28), some (vR 7), some (vI 0), some (vI (J112 28 3))], [vI 0], MW b J120 L)
          refine rch_ret cdK14 (rt := some (vI 0)) rfl (Or.inl rfl) mw_c ?_
          exact Or.inr ⟨_, _, rfl, pLine_3 (by first | exact Or.inl hq0 | exact Or.inr hq1) hp1 hq2, rfl, hf⟩
      · show Rch l E 25 14 _ _ _ _ (40, [some (vR 31), some (vR 28), some (vR 7), some (vI 0), none], [vI 0], MW b J113 L)
        refine rch_br cdK14 (cd := (0 : Int) ≠ 0) (t1 := (45, [some (vR 31), some (vR 28), some (vR 7), some (vI 0), none], [], MW b J113 L)) (t2 := (43, [some (vR 31), some (vR 28), some (vR 7), some (vI 0), none], [], MW b J113 L)) rfl (fun c9 => absurd c9 (by decide)) (fun _ => ?_)
        refine rch_run cdK14 (by decide) 1 (t' := (44, [some (vR 31), some (vR 28), some (vR 7), some (vI 0), none], [vI 0], MW b J113 L)) (ps := []) rfl trivial ?_
        refine rch_ret cdK14 (rt := some (vI 0)) rfl (Or.inl rfl) mw_c ?_
        exact Or.inr ⟨_, _, rfl, pLine_2 (by first | exact Or.inl hq0 | exact Or.inr hq1) hp1, rfl, hf⟩
    · show Rch l E 25 14 _ _ _ _ (17, [some (vR 31), some (vR 28), some (vR 7), some (vI 0), none], [vI 0], MW b J L)
      refine rch_br cdK14 (cd := (0 : Int) ≠ 0) (t1 := (27, [some (vR 31), some (vR 28), some (vR 7), some (vI 0), none], [], MW b J L)) (t2 := (20, [some (vR 31), some (vR 28), some (vR 7), some (vI 0), none], [], MW b J L)) rfl (fun c9 => absurd c9 (by decide)) (fun _ => ?_)
      refine rch_run cdK14 (by decide) 3 (t' := (23, [some (vR 31), some (vR 28), some (vR 7), some (vI 0), none], [vI 2, vR 28, vR 31], MW b J L)) (ps := []) rfl trivial ?_
      refine rch_call (h' := 1) (k' := 13) (as := [vR 31, vR 28, vI 2]) (t1 := (26, [some (vR 31), some (vR 28), some (vR 7), some (vI 0), none], [], MW b J L)) cdK14 rfl (k_stp l E b I J L 2 hk hs) (by decide) mw_le ?_
      rintro rt9 w9 (⟨J121, rfl, rfl, hf⟩) _ _
      show Rch l E 25 14 _ _ _ _ (26, [some (vR 31), some (vR 28), some (vR 7), some (vI 0), none], [vI 0], MW b J121 L)
      refine rch_ret cdK14 (rt := some (vI 0)) rfl (Or.inl rfl) mw_c ?_
      exact Or.inr ⟨_, _, rfl, pLine_1 hq0 hq1, rfl, hf⟩
