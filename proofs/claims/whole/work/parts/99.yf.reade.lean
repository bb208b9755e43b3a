theorem MSt_none {I L J M : Nat → Nat → Int} {s : Pst} {W : Option (List Int)} (h : MSt I L J M s W) : MSt I L J M s none := ⟨h.1, h.2.1, h.2.2.1, h.2.2.2.1, h.2.2.2.2.1, trivial⟩
def REq (I L : Nat → Nat → Int) (s : Pst) (b : Bool) (rt : Option AV) (w : AW) : Prop :=
  (∃ J2 M2 s1, rt = none ∧ w = MW b J2 M2 ∧ pEi (I 97) (nM I) 8 s = .inr s1 ∧ tK (I 97) (nM I) s1.1 = 59 ∧ MSt I L J2 M2 s1 none) ∨
  (∃ J2 M2 f, rt = none ∧ w = MW b J2 M2 ∧ FlM I L J2 M2 f ∧ (pEi (I 97) (nM I) 8 s = .inl f ∨ ∃ s1, pEi (I 97) (nM I) 8 s = .inr s1 ∧ tK (I 97) (nM I) s1.1 ≠ 59 ∧ f = flt (I 97) (nM I) s1.1 2))
theorem re_top (l : Launch) (E : AX) (b : Bool) (I0 L0 I L J M : Nat → Nat → Int) {s : Pst} (h0 : Mp0 I) (hs : MSt I L J M s (some [])) (hb : 2 * s.2.2.length ≤ s.1) : Rch l E 6 134 (MW b I0 L0) 0 0 (REq I L s b) (12, [some (vR 74), some (vI 0)], [], MW b J M) := by
  have hn : nM I ≤ 500 := (MSt_r h0 hs).2.2.2.1
  have ha : s.1 ≤ nM I := hs.2.2.1
  let R : Int → (Nat → Nat → Int) → (Nat → Nat → Int) → Prop := fun x J M => Rch l E 6 134 (MW b I0 L0) 0 0 (REq I L s b) (12, [some (vR 74), some (vI x)], [], MW b J M)
  have hOp : HOp I L R := fun s W J M hs hW hb hk => ge_op l E b I0 L0 _ I L J M h0 hs hW hb hk
  have hSg : HSg I L R := fun s Y w W J M hs hY hS hl hb h9 hk => ge_sign l E b I0 L0 _ I L J M Y w W h0 hs hY hS hl hb h9 hk
  have key : R 0 J M := by
    refine cps_ei (R := R) hn hSg (D := 8) (by omega) (cps_one hn hOp hSg 8 (by omega)) (W0 := []) (Or.inl rfl) (by decide) (by decide) hs (by show s.2.2.length + 0 ≤ s.1; omega) ?_ ?_
    · intro f hf x J2 M2 hfl
      exact ge_fault l E b I0 L0 _ I L J2 M2 x hfl (Or.inr ⟨_, _, _, rfl, rfl, hfl, Or.inl hf⟩)
    · intro s2 h2 J3 M3 s3 Y w hs3 hfl hY hYl hb3 n8 n9
      have bd := pEi_bd hn ha h2
      have b1 := bd.1
      have b2 := bd.2.1
      have b3 := bd.2.2
      have fl := flush_l (Y ++ wl w) s3
      rw [hfl, List.length_append] at fl
      by_cases t : tK (I 97) (nM I) s3.1 = 59
      · exact ge_end l E b I0 L0 _ I L J3 M3 Y w h0 hs3 hY (by omega) t (fun J4 hs4 => Or.inl ⟨_, _, s2, rfl, rfl, h2, by rw [fl.1]; exact t, by rw [hfl] at hs4; exact MSt_none hs4⟩)
      · refine hSg s3 Y w [] J3 M3 hs3 hY (Or.inl rfl) (by show 0 ≤ 97; omega) (by omega) (Or.inl t) ?_
        rintro x J4 M4 (⟨_, q1, _⟩ | ⟨_, q1, _⟩ | ⟨_, _, W1, e, _⟩ | ⟨_, _, _, _, hf⟩)
        · rw [n8] at q1
          exact absurd q1 (by decide)
        · rw [n9] at q1
          exact absurd q1 (by decide)
        · exact absurd e (by simp)
        · exact ge_fault l E b I0 L0 _ I L J4 M4 x hf (Or.inr ⟨_, _, _, rfl, rfl, hf, Or.inr ⟨s2, h2, by rw [fl.1]; exact t, by rw [fl.1]⟩⟩)
  exact key
theorem MSt_0 {I L J M J2 : Nat → Nat → Int} {s : Pst} {W : Option (List Int)} (h : MSt I L J M s W) (h1 : ∀ a j, ¬ (a = 74 ∧ (j = 40 ∨ j = 41)) → J2 a j = J a j) (h2 : J2 74 40 = 0) (h3 : J2 74 41 = 0) : MSt I L J2 M s (some []) := by
  obtain ⟨⟨f, g⟩, t, a, u, v, w⟩ := h
  refine ⟨⟨fun x j hx => by rw [h1 x j (by omega)]; exact f x j hx, g⟩, ?_, a, by rw [h1 74 28 (by omega)]; exact u, ⟨by rw [h1 74 27 (by omega)]; exact v.1, fun i hi => by rw [h1 92 i (by omega), h1 93 i (by omega), h1 94 i (by omega)]; exact v.2 i hi⟩, ⟨h2, Nat.zero_le _, fun i hi => absurd hi (by simp)⟩, h3⟩
  unfold Ntk
  rw [h1 74 36 (by omega), h1 74 35 (by omega), h1 74 33 (by omega), h1 74 37 (by omega)]
  exact t

theorem k_readE (l : Launch) (E : AX) (b : Bool) (I L J M : Nat → Nat → Int) {s : Pst} {W : Option (List Int)} (h0 : Mp0 I) (hs : MSt I L J M s W) (hb : 2 * s.2.2.length ≤ s.1) : Con l E 6 134 [vR 74] (MW b J M) 0 0 (REq I L s b) := by
  refine con_ok (fun hw9 hs9 => ?_)
  refine con_intro (by decide) (Nat.le_of_ble_eq_true rfl) ?_
  show Rch l E 6 134 _ _ _ _ (0, [some (vR 74), none], [], MW b J M)
  refine rch_run cdK134 (by decide) 8 (t' := (12, [some (vR 74), some (vI 0)], [], MW b (upI (upI J 74 40 0) 74 41 0) M)) (ps := []) rfl trivial ?_
  exact re_top l E b J M I L _ M h0 (MSt_0 hs (fun a j ha => by rw [upI_ne (by omega), upI_ne (by omega)]) (by rw [upI_ne (by omega), upI_eq rfl rfl]) (by rw [upI_eq rfl rfl])) hb

-- LINES of the reference
def strt (G : List (Int × Int)) : Nat → Int
  | 0 => 0
  | i + 1 => (G.getD i (0, 0)).2
def FrA (I J : Nat → Nat → Int) : Prop := ∀ a j, ¬ ((a = 74 ∧ (j = 26 ∨ j = 27 ∨ j = 28 ∨ j = 33 ∨ j = 35 ∨ j = 36 ∨ j = 37 ∨ j = 40 ∨ j = 41)) ∨ (92 ≤ a ∧ a ≤ 96) ∨ a = 98) → J a j = I a j
def FaA (I L J M : Nat → Nat → Int) (f : Int × Int) : Prop := (∀ a j, ¬ ((a = 74 ∧ (j = 26 ∨ j = 27 ∨ j = 28 ∨ j = 31 ∨ j = 32 ∨ j = 33 ∨ j = 35 ∨ j = 36 ∨ j = 37 ∨ j = 40 ∨ j = 41)) ∨ (92 ≤ a ∧ a ≤ 96) ∨ a = 98) → J a j = I a j) ∧ FlN L M ∧ J 74 31 = f.1 ∧ J 74 32 = f.2 ∧ 0 < f.1
def LnM (J : Nat → Nat → Int) (G : List (Int × Int)) (m : Nat) : Prop := J 74 26 = (G.length : Int) ∧ (∀ i, i < G.length → J 95 i = strt G i ∧ J 96 i = (G.getD i (0, 0)).1) ∧ (m : Int) = strt G G.length
def LSM (I L J M : Nat → Nat → Int) (G : List (Int × Int)) (s : Pst) : Prop := FrA I J ∧ FlN L M ∧ MSt J M J M s none ∧ LnM J G s.2.2.length ∧ 2 * s.2.2.length ≤ s.1
theorem FrA_t {I J : Nat → Nat → Int} (h : FrA I J) : J 97 = I 97 ∧ nM J = nM I ∧ (Mp0 I → Mp0 J) := by
  have e0 := h 74 34 (by omega)
  have e1 := h 74 31 (by omega)
  refine ⟨funext (fun j => h 97 j (by omega)), by unfold nM; rw [e0], fun z => ⟨by rw [e0, e1]; exact z.1, fun j hj => ?_⟩⟩
  rw [e0] at hj
  rw [h 97 j (by omega)]
  exact z.2 j hj
theorem FlN_tr {L M M2 : Nat → Nat → Int} (h : FlN L M) (h2 : FlN M M2) : FlN L M2 := fun a j ha => by rw [h2 a j ha]; exact h a j ha
theorem FaA_1 {I L J M J2 M2 : Nat → Nat → Int} {f : Int × Int} (h : FrA I J) (hL : FlN L M) (h2 : FlM J M J2 M2 f) : FaA I L J2 M2 f := ⟨fun a j ha => by rw [h2.1 a j (by omega)]; exact h a j (by omega), FlN_tr hL h2.2.1, h2.2.2⟩
/-- the base is put anew: line tables may have changed -/
theorem MSt_reb {I L J M J2 : Nat → Nat → Int} {s : Pst} (h : MSt I L J M s none) (h1 : ∀ a j, ¬ (a = 95 ∨ a = 96 ∨ (a = 74 ∧ j = 26)) → J2 a j = J a j) : MSt J2 M J2 M s none ∧ J2 97 = I 97 ∧ nM J2 = nM I ∧ (Mp0 I → Mp0 J2) := by
  obtain ⟨⟨f, g⟩, t, a, u, v, w⟩ := h
  have q : J2 97 = I 97 := funext (fun j => by rw [h1 97 j (by omega)]; exact f 97 j (by omega))
  have e0 : J2 74 34 = I 74 34 := by rw [h1 74 34 (by omega)]; exact f 74 34 (by omega)
  have e1 : J2 74 31 = I 74 31 := by rw [h1 74 31 (by omega)]; exact f 74 31 (by omega)
  have q2 : nM J2 = nM I := by unfold nM; rw [e0]
  refine ⟨⟨⟨fun _ _ _ => rfl, fun _ _ _ => rfl⟩, ?_, by rw [q2]; exact a, by rw [h1 74 28 (by omega)]; exact u, ⟨by rw [h1 74 27 (by omega)]; exact v.1, fun i hi => by rw [h1 92 i (by omega), h1 93 i (by omega), h1 94 i (by omega)]; exact v.2 i hi⟩, trivial⟩, q, q2, fun z => ⟨by rw [e0, e1]; exact z.1, fun j hj => ?_⟩⟩
  · rw [q, q2]
    unfold Ntk
    rw [h1 74 36 (by omega), h1 74 35 (by omega), h1 74 33 (by omega), h1 74 37 (by omega)]
    exact t
  · rw [e0] at hj
    rw [q]
    exact z.2 j hj
theorem strt_a {G : List (Int × Int)} {x : Int × Int} {i : Nat} (h : i ≤ G.length) : strt (G ++ [x]) i = strt G i := by
  cases i with
  | zero => rfl
  | succ i =>
    show ((G ++ [x]).getD i (0, 0)).2 = (G.getD i (0, 0)).2
    rw [getD2, if_neg (by omega)]
theorem strt_l {G : List (Int × Int)} {x : Int × Int} : strt (G ++ [x]) (G.length + 1) = x.2 := by
  show ((G ++ [x]).getD G.length (0, 0)).2 = x.2
  rw [getD2, if_pos rfl]
/-- a line is done -/
theorem LSM_line {I0 L0 I L J M I2 J3 M3 J4 : Nat → Nat → Int} {G : List (Int × Int)} {s s1 : Pst} {v : Int} (h : LSM I0 L0 I L G s) (h1 : FrM I J) (h1L : FlN L M) (hI2 : ∀ a j, ¬ (a = 95 ∨ a = 96) → I2 a j = J a j) (h95 : ∀ i, I2 95 i = if i = G.length then (s.2.2.length : Int) else I 95 i) (h96 : ∀ i, I2 96 i = if i = G.length then v else I 96 i) (hs : MSt I2 M J3 M3 s1 none) (hJ4 : J4 = upI J3 74 26 (J3 74 26 + 1)) (hb : 2 * s1.2.2.length ≤ s1.1) : LSM I0 L0 J4 M3 (G ++ [(v, (s1.2.2.length : Int))]) s1 := by
  obtain ⟨a1, a2, a3, a4, a5⟩ := h
  have hr := MSt_reb (J2 := J4) hs (fun a j ha => by rw [hJ4, upI_ne (by omega)])
  have q : ∀ a j, ¬ (a = 74 ∧ j = 26) → J4 a j = J3 a j := fun a j ha => by rw [hJ4, upI_ne (by omega)]
  have q3 : ∀ a j, ¬ ((a = 74 ∧ (j = 27 ∨ j = 28 ∨ j = 33 ∨ j = 35 ∨ j = 36 ∨ j = 37 ∨ j = 40 ∨ j = 41)) ∨ (92 ≤ a ∧ a ≤ 94) ∨ a = 98) → J3 a j = I2 a j := hs.1.1
  have g26 : J3 74 26 = (G.length : Int) := by rw [q3 74 26 (by omega), hI2 74 26 (by omega), h1 74 26 (by omega)]; exact a4.1
  refine ⟨fun a j ha => by rw [q a j (by omega), q3 a j (by omega), hI2 a j (by omega), h1 a j (by omega)]; exact a1 a j ha, FlN_tr a2 (FlN_tr h1L hs.1.2), hr.1, ⟨by rw [hJ4, upI_eq rfl rfl, g26, List.length_append, List.length_singleton]; omega, fun i hi => ?_, ?_⟩, hb⟩
  · rw [List.length_append, List.length_singleton] at hi
    rw [q 95 i (by omega), q 96 i (by omega), q3 95 i (by omega), q3 96 i (by omega), h95, h96, strt_a (by omega), getD2]
    by_cases e : i = G.length
    · rw [if_pos e, if_pos e, if_pos e, e]
      exact ⟨a4.2.2, rfl⟩
    · rw [if_neg e, if_neg e, if_neg e]
      exact a4.2.1 i (by omega)
  · rw [List.length_append, List.length_singleton, strt_l]
def clM (I : Nat → Nat → Int) : Nat → Nat → Int := upI (upI (upI (upI (upI (upI (upI (upI I 74 34 (I 74 30)) 74 30 0) 74 33 0) 74 31 0) 74 32 (-1)) 74 26 0) 74 27 0) 74 28 0
