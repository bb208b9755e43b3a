-- THE REFERENCE'S PARSER does what the pure one does: by continuations
theorem dpw_wl (w : Bool) (W : List Int) : dpw (wl w ++ W) = dpw W := by
  cases w
  · rfl
  · show (if (6 : Int) = 5 ∨ (6 : Int) = 8 then 1 else 0) + dpw W = dpw W
    rw [if_neg (by omega)]
    omega
theorem dpw_6 (W : List Int) : dpw (6 :: W) = dpw W := by
  show (if (6 : Int) = 5 ∨ (6 : Int) = 8 then 1 else 0) + dpw W = dpw W
  rw [if_neg (by omega)]
  omega
theorem dpw_7 (W : List Int) : dpw (7 :: W) = dpw W := by
  show (if (7 : Int) = 5 ∨ (7 : Int) = 8 then 1 else 0) + dpw W = dpw W
  rw [if_neg (by omega)]
  omega
theorem dpw_5 (W : List Int) : dpw (5 :: W) = 1 + dpw W := rfl
theorem dpw_8 (W : List Int) : dpw (8 :: W) = 1 + dpw W := rfl
theorem wl_len (w : Bool) : (wl w).length ≤ 1 := by cases w <;> decide
theorem flush_w (w : Bool) (Y : List Int) (s : Pst) : flush (Y ++ wl w) s = (if w = true then psh (flush Y s) 6 else flush Y s) := by
  rw [flush_a]
  cases w <;> rfl
theorem rep_5 {m : Nat} : ∀ c ∈ List.replicate m (5 : Int), c ≠ 6 ∧ c ≠ 8 := fun c hc => by
  have := (List.mem_replicate.mp hc).2
  omega
theorem rep_57 {m : Nat} : ∀ c ∈ List.replicate m (5 : Int) ++ [7], c ≠ 6 ∧ c ≠ 8 := fun c hc => by
  rcases List.mem_append.mp hc with h | h
  · exact rep_5 c h
  · have := List.mem_singleton.mp h
    omega
section CPS
variable (I L : Nat → Nat → Int) (R : Int → (Nat → Nat → Int) → (Nat → Nat → Int) → Prop)
def KF (r : (Int × Int) ⊕ Pst) : Prop := ∀ f, r = .inl f → ∀ x J M, FlM I L J M f → R x J M
def OneC (D : Nat) : Prop := ∀ (s : Pst) (W : List Int) (J M : Nat → Nat → Int), MSt I L J M s (some W) → dpw W + (D : Int) = 8 → (W.length : Int) ≤ 3 * dpw W + 2 → s.2.2.length + W.length ≤ s.1 → KF I L R (pOne (I 97) (nM I) D s) → (∀ s1, pOne (I 97) (nM I) D s = .inr s1 → ∀ (J M : Nat → Nat → Int) (m : Nat) (s0 : Pst), m ≤ D → MSt I L J M s0 (some (List.replicate m 5 ++ W)) → flush (List.replicate m 5) s0 = s1 → R 1 J M) → R 0 J M
def KE (W0 : List Int) (r : (Int × Int) ⊕ Pst) : Prop := ∀ s2, r = .inr s2 → ∀ (J M : Nat → Nat → Int) (s0 : Pst) (Y : List Int) (w : Bool), MSt I L J M s0 (some ((Y ++ wl w) ++ W0)) → flush (Y ++ wl w) s0 = s2 → (∀ c ∈ Y, c ≠ 6 ∧ c ≠ 8) → Y.length ≤ 9 → s0.2.2.length + (Y.length + (wl w).length + W0.length) ≤ s0.1 → wdq (I 97) (nM I) s0.1 8 = false → wdq (I 97) (nM I) s0.1 9 = false → R 1 J M
def HOp : Prop := ∀ (s : Pst) (W : List Int) (J M : Nat → Nat → Int), MSt I L J M s (some W) → W.length ≤ 99 → s.2.2.length ≤ s.1 → (∀ x J2 M2, OpQ I L s W x J2 M2 → R x J2 M2) → R 0 J M
def HSg : Prop := ∀ (s : Pst) (Y : List Int) (w : Bool) (W : List Int) (J M : Nat → Nat → Int), MSt I L J M s (some ((Y ++ wl w) ++ W)) → (∀ c ∈ Y, c ≠ 6 ∧ c ≠ 8) → Shp W → W.length ≤ 97 → s.2.2.length + Y.length + 1 ≤ 500 → (tK (I 97) (nM I) s.1 ≠ 59 ∨ W ≠ []) → (∀ x J2 M2, SgQ I L s Y w W x J2 M2 → R x J2 M2) → R 1 J M
variable {I L R}
theorem cps_loop (hn : nM I ≤ 500) (hSg : HSg I L R) {D : Nat} (hD : D ≤ 8) (hO : OneC I L R D) {W0 : List Int} (hS : Shp W0) (hd : dpw W0 + (D : Int) = 8) (hl : (W0.length : Int) ≤ 3 * dpw W0) : ∀ (k : Nat) (w : Bool) (Y : List Int) (s0 : Pst) (J M : Nat → Nat → Int), MSt I L J M s0 (some ((Y ++ wl w) ++ W0)) → (∀ c ∈ Y, c ≠ 6 ∧ c ≠ 8) → Y.length ≤ 9 → s0.2.2.length + (Y.length + (wl w).length + W0.length) ≤ s0.1 → nM I ≤ s0.1 + k → KF I L R (pLoop (I 97) (nM I) (pOne (I 97) (nM I) D) k w (flush Y s0)) → KE I L R W0 (pLoop (I 97) (nM I) (pOne (I 97) (nM I) D) k w (flush Y s0)) → R 1 J M := by
  intro k
  induction k with
  | zero =>
    intro w Y s0 J M hs hY hYl hb hfu hF hE
    have ha : s0.1 ≤ nM I := hs.2.2.1
    have c8 : wdq (I 97) (nM I) s0.1 8 = false := by
      cases hq : wdq (I 97) (nM I) s0.1 8
      · rfl
      · have := wd_l2 (by omega) hn ha hq
        omega
    have c9 : wdq (I 97) (nM I) s0.1 9 = false := by
      cases hq : wdq (I 97) (nM I) s0.1 9
      · rfl
      · have := wd_l2 (by omega) hn ha hq
        omega
    exact hE _ (pLoop_e (by rw [flush_1]; exact c8) (by rw [flush_1]; exact c9)) J M s0 Y w hs (flush_w w Y s0) hY hYl hb c8 c9
  | succ k ih =>
    intro w Y s0 J M hs hY hYl hb hfu hF hE
    have ha : s0.1 ≤ nM I := hs.2.2.1
    have hwl := wl_len w
    have hdr := dpw_rg W0
    cases c8 : wdq (I 97) (nM I) s0.1 8 with
    | true =>
      have hw2 := wdq_2 c8
      have hl2 := wd_l2 (by omega) hn ha c8
      refine hSg s0 Y w W0 J M hs hY hS (by omega) (by omega) (Or.inl (by omega)) ?_
      rintro x J2 M2 (⟨rfl, q1, hs2⟩ | ⟨_, q1, _⟩ | ⟨_, q1, _⟩ | ⟨_, q1, _⟩)
      · have fl := flush_l (Y ++ wl w) s0
        rw [List.length_append] at fl
        have hb2 : (flush (Y ++ wl w) s0).2.2.length + (W0.length + 1) ≤ tN (I 97) (nM I) s0.1 := by omega
        refine hO (tN (I 97) (nM I) s0.1, (flush (Y ++ wl w) s0).2) (6 :: W0) J2 M2 hs2 (by rw [dpw_6]; exact hd) (by rw [dpw_6, List.length_cons]; omega) hb2 ?_ ?_
        · intro f hf
          exact hF f (pLoop_oF (by rw [flush_1]; exact c8) (by rw [flush_1, ← flush_w]; exact hf))
        · intro s1 h1 J3 M3 m s3 hm hs3 hfl
          have bd := pOne_bd hn D _ _ (show tN (I 97) (nM I) s0.1 ≤ nM I by omega) h1
          have b1 : tN (I 97) (nM I) s0.1 ≤ s1.1 := bd.1
          have b2 := bd.2.1
          have b3 : 2 * s1.2.2.length + tN (I 97) (nM I) s0.1 ≤ 2 * (flush (Y ++ wl w) s0).2.2.length + s1.1 + 0 := bd.2.2
          have fm := flush_l (List.replicate m (5 : Int)) s3
          rw [hfl, List.length_replicate] at fm
          have e1 := pLoop_o (one := pOne (I 97) (nM I) D) (k := k) (w := w) (s := flush Y s0) (s1 := s1) (by rw [flush_1]; exact c8) (by rw [flush_1, ← flush_w]; exact h1)
          refine ih true (List.replicate m 5) s3 J3 M3 (by rw [wl_t, List.append_assoc]; exact hs3) rep_5 (by rw [List.length_replicate]; omega) (by rw [List.length_replicate, wl_t, List.length_singleton]; omega) (by omega) (fun f hf => hF f (by rw [e1, ← hfl]; exact hf)) (fun s2 h2 => hE s2 (by rw [e1, ← hfl]; exact h2))
      · rw [wdq_ne c8 (by omega) (by omega) (by omega)] at q1
        exact absurd q1 (by decide)
      · omega
      · rw [c8] at q1
        exact absurd q1 (by decide)
    | false =>
      cases c9 : wdq (I 97) (nM I) s0.1 9 with
      | true =>
        have hw2 := wdq_2 c9
        have hl2 := wd_l2 (by omega) hn ha c9
        refine hSg s0 Y w W0 J M hs hY hS (by omega) (by omega) (Or.inl (by omega)) ?_
        rintro x J2 M2 (⟨_, q1, _⟩ | ⟨rfl, q1, hs2⟩ | ⟨_, q1, _⟩ | ⟨_, _, q1, _⟩)
        · rw [c8] at q1
          exact absurd q1 (by decide)
        · have fl := flush_l Y s0
          have hb2 : (flush Y s0).2.2.length + ((wl w).length + W0.length + 1) ≤ tN (I 97) (nM I) s0.1 := by omega
          refine hO (tN (I 97) (nM I) s0.1, (flush Y s0).2) (7 :: (wl w ++ W0)) J2 M2 hs2 (by rw [dpw_7, dpw_wl]; exact hd) (by rw [dpw_7, dpw_wl, List.length_cons, List.length_append]; omega) (by rw [List.length_cons, List.length_append]; exact hb2) ?_ ?_
          · intro f hf
            exact hF f (pLoop_aF (by rw [flush_1]; exact c9) (by rw [flush_1]; exact hf))
          · intro s1 h1 J3 M3 m s3 hm hs3 hfl
            have bd := pOne_bd hn D _ _ (show tN (I 97) (nM I) s0.1 ≤ nM I by omega) h1
            have b1 : tN (I 97) (nM I) s0.1 ≤ s1.1 := bd.1
            have b2 := bd.2.1
            have b3 : 2 * s1.2.2.length + tN (I 97) (nM I) s0.1 ≤ 2 * (flush Y s0).2.2.length + s1.1 + 0 := bd.2.2
            have fm := flush_l (List.replicate m (5 : Int)) s3
            rw [hfl, List.length_replicate] at fm
            have e1 := pLoop_a (one := pOne (I 97) (nM I) D) (k := k) (w := w) (s := flush Y s0) (s1 := s1) (by rw [flush_1]; exact c9) (by rw [flush_1]; exact h1)
            have e2 : flush (List.replicate m (5 : Int) ++ [7]) s3 = psh s1 7 := by
              rw [flush_a, hfl]
              rfl
            refine ih w (List.replicate m 5 ++ [7]) s3 J3 M3 (by rw [List.append_assoc, List.append_assoc]; exact hs3) rep_57 (by rw [List.length_append, List.length_replicate, List.length_singleton]; omega) (by rw [List.length_append, List.length_replicate, List.length_singleton]; omega) (by omega) (fun f hf => hF f (by rw [e1, ← e2]; exact hf)) (fun s2 h2 => hE s2 (by rw [e1, ← e2]; exact h2))
        · omega
        · rw [c9] at q1
          exact absurd q1 (by decide)
      | false => exact hE _ (pLoop_e (by rw [flush_1]; exact c8) (by rw [flush_1]; exact c9)) J M s0 Y w hs (flush_w w Y s0) hY hYl hb c8 c9
theorem cps_ei (hn : nM I ≤ 500) (hSg : HSg I L R) {D : Nat} (hD : D ≤ 8) (hO : OneC I L R D) {W0 : List Int} (hS : Shp W0) (hd : dpw W0 + (D : Int) = 8) (hl : (W0.length : Int) ≤ 3 * dpw W0) {s : Pst} {J M : Nat → Nat → Int} (hs : MSt I L J M s (some W0)) (hb : s.2.2.length + W0.length ≤ s.1) (hF : KF I L R (pEi (I 97) (nM I) D s)) (hE : KE I L R W0 (pEi (I 97) (nM I) D s)) : R 0 J M := by
  refine hO s W0 J M hs hd (by omega) hb ?_ ?_
  · intro f hf
    exact hF f (pEi_F hf)
  · intro s1 h1 J3 M3 m s3 hm hs3 hfl
    have bd := pOne_bd hn D _ _ hs.2.2.1 h1
    have b1 := bd.1
    have b2 := bd.2.1
    have b3 := bd.2.2
    have fm := flush_l (List.replicate m (5 : Int)) s3
    rw [hfl, List.length_replicate] at fm
    have e1 := pEi_Y h1
    exact cps_loop hn hSg hD hO hS hd hl 500 false (List.replicate m 5) s3 J3 M3 (by rw [wl_f, List.append_nil]; exact hs3) rep_5 (by rw [List.length_replicate]; omega) (by rw [List.length_replicate, wl_f, List.length_nil]; omega) (by omega) (fun f hf => hF f (by rw [e1, ← hfl]; exact hf)) (fun s2 h2 => hE s2 (by rw [e1, ← hfl]; exact h2))
theorem cps_one (hn : nM I ≤ 500) (hOp : HOp I L R) (hSg : HSg I L R) : ∀ D : Nat, D ≤ 8 → OneC I L R D := by
  intro D
  induction D with
  | zero =>
    intro _ s W J M hs hd hl hb hF hK
    refine hOp s W J M hs (by omega) (by omega) ?_
    rintro x J2 M2 (⟨f, hf, (⟨_, e⟩ | ⟨a, _⟩)⟩ | ⟨_, a, _⟩ | ⟨_, a, _⟩ | ⟨_, a, _⟩)
    · exact hF f (by rw [e]; rfl) x J2 M2 hf
    · omega
    · omega
    · omega
    · omega
  | succ D ih =>
    intro hD s W J M hs hd hl hb hF hK
    have ih := ih (by omega)
    have ha : s.1 ≤ nM I := hs.2.2.1
    have hdr := dpw_rg W
    refine hOp s W J M hs (by omega) (by omega) ?_
    rintro x J2 M2 (⟨f, hf, (⟨a, _⟩ | ⟨_, q3, q4, qt⟩)⟩ | ⟨rfl, _, q3, hs2⟩ | ⟨rfl, _, q4, hs2⟩ | ⟨rfl, _, q3, q4, s1, qt, hs2⟩)
    · omega
    · exact hF f (by rw [pOne_t q3 q4]; exact qt) x J2 M2 hf
    · have hl2 := wd_l2 (by omega) hn ha q3
      refine ih (tN (I 97) (nM I) s.1, s.2) (5 :: W) J2 M2 hs2 (by rw [dpw_5]; omega) (by rw [dpw_5, List.length_cons]; omega) (by show s.2.2.length + (5 :: W).length ≤ tN (I 97) (nM I) s.1; rw [List.length_cons]; omega) (fun f hf => hF f (pOne_nF q3 hf)) ?_
      intro s1 h1 J3 M3 m s3 hm hs3 hfl
      exact hK (psh s1 5) (pOne_n q3 h1) J3 M3 (m + 1) s3 (by omega) (by rw [List.replicate_succ', List.append_assoc]; exact hs3) (by rw [List.replicate_succ', flush_a, hfl]; rfl)
    · have t1 := tN_bd (B := I 97) hn ha
      have t2 := tP_bd (B := I 97) hn ha
      have t3 : tP (I 97) (nM I) s.1 < nM I := by
        rcases Nat.lt_or_ge (tP (I 97) (nM I) s.1) (nM I) with z | z
        · exact z
        · unfold tK tKp at q4
          rw [if_pos z] at q4
          exact absurd q4 (by decide)
      have t4 := t1.2.2 t3
      refine cps_ei hn hSg (by omega) ih (W0 := 8 :: W) (Or.inr ⟨W, rfl⟩) (by rw [dpw_8]; omega) (by rw [dpw_8, List.length_cons]; omega) hs2 (by show s.2.2.length + (8 :: W).length ≤ tN (I 97) (nM I) s.1; rw [List.length_cons]; omega) (fun f hf => hF f (pOne_pF q4 hf)) ?_
      intro s2 h2 J3 M3 s3 Y w hs3 hfl hY hYl hb3 n8 n9
      have ha3 : s3.1 ≤ nM I := hs3.2.2.1
      have e1 : s3.1 = s2.1 := by rw [← hfl, flush_1]
      rw [List.length_cons] at hb3
      refine hSg s3 Y w (8 :: W) J3 M3 hs3 hY (Or.inr ⟨W, rfl⟩) (by rw [List.length_cons]; omega) (by omega) (Or.inr (by simp)) ?_
      rintro x J4 M4 (⟨_, q1, _⟩ | ⟨_, q1, _⟩ | ⟨rfl, q1, W1, e, hs4⟩ | ⟨_, _, _, q1, hf⟩)
      · rw [n8] at q1
        exact absurd q1 (by decide)
      · rw [n9] at q1
        exact absurd q1 (by decide)
      · have e3 : W1 = W := by
          injection e with _ e
          exact e.symm
        rw [e3, hfl, e1] at hs4
        exact hK (tN (I 97) (nM I) s2.1, s2.2) (pOne_pY q4 h2 (by rw [← e1]; exact q1)) J4 M4 0 _ (by omega) hs4 rfl
      · rw [e1] at hf
        exact hF _ (pOne_pN q4 h2 (by rw [← e1]; exact fun z => q1 ⟨z, by simp⟩)) x J4 M4 hf
    · exact hK s1 (by rw [pOne_t q3 q4]; exact qt) J2 M2 0 s1 (by omega) hs2 rfl
end CPS
