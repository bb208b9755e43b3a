-- WHAT IS READ can be done: each line's steps leave one answer
def nxd (k h : Int) : Int := if k = 3 then h else if k = 4 ∨ k = 5 then h - 1 else h + 1
def Sg : List (Int × Int × Int) → Int → Int → Int → Prop
  | [], h, e, _ => h = e
  | x :: T, h, e, b => h ≤ b ∧ (cmc x.1 = 3 → 1 ≤ h) ∧ (cmc x.1 = 4 ∨ cmc x.1 = 5 → 2 ≤ h) ∧ Sg T (nxd (cmc x.1) h) e b
def okEs (x : Int × Int × Int) : Prop := (1 ≤ x.1 ∧ x.1 ≤ 7) ∧ (0 ≤ x.2.1 ∧ x.2.1 ≤ 5) ∧ (x.1 = 1 → x.2.2 = 0)
theorem Sg_app {b : Int} : ∀ {T U : List (Int × Int × Int)} {h m e : Int}, Sg T h m b → Sg U m e b → Sg (T ++ U) h e b
  | [], U, h, m, e, h1, h2 => by
    have h1 : h = m := h1
    rw [h1]
    exact h2
  | x :: T, U, h, m, e, h1, h2 => ⟨h1.1, h1.2.1, h1.2.2.1, Sg_app h1.2.2.2 h2⟩
theorem Sg_mono {b b2 : Int} (hb : b ≤ b2) : ∀ {T : List (Int × Int × Int)} {h e : Int}, Sg T h e b → Sg T h e b2
  | [], h, e, h1 => h1
  | x :: T, h, e, h1 => ⟨by have := h1.1; omega, h1.2.1, h1.2.2.1, Sg_mono hb h1.2.2.2⟩
theorem cmc_t4 {c : Int} (h : 1 ≤ c ∧ c ≤ 4) : cmc c ≠ 3 ∧ cmc c ≠ 4 ∧ cmc c ≠ 5 := by
  rcases (show c = 1 ∨ c = 2 ∨ c = 3 ∨ c = 4 by omega) with e | e | e | e <;> (subst e; decide)
theorem Sg_test {c f n h b : Int} (hc : 1 ≤ c ∧ c ≤ 4) (hb : h ≤ b) : Sg [(c, f, n)] h (h + 1) b := by
  have := cmc_t4 hc
  refine ⟨hb, fun z => absurd z this.1, fun z => (z.elim this.2.1 this.2.2).elim, ?_⟩
  show nxd (cmc c) h = h + 1
  unfold nxd
  rw [if_neg this.1, if_neg (by omega)]
theorem Sg_5 {h b : Int} (h1 : 1 ≤ h) (hb : h ≤ b) : Sg [(5, 0, 0)] h h b := ⟨hb, fun _ => h1, fun z => absurd z (by decide), rfl⟩
theorem Sg_6 {h b : Int} (h1 : 2 ≤ h) (hb : h ≤ b) : Sg [(6, 0, 0)] h (h - 1) b := ⟨hb, fun z => absurd z (by decide), fun _ => h1, rfl⟩
theorem Sg_7 {h b : Int} (h1 : 2 ≤ h) (hb : h ≤ b) : Sg [(7, 0, 0)] h (h - 1) b := ⟨hb, fun z => absurd z (by decide), fun _ => h1, rfl⟩
/-- from state s to s1 an expression was read -/
def Exq (s s1 : Pst) (b : Int) : Prop := ∃ T, s1.2.2 = s.2.2 ++ T ∧ (∀ x ∈ T, okEs x) ∧ ∀ h : Int, 0 ≤ h → Sg T h (h + 1) (h + b)
theorem okE1 {c f n : Int} (h1 : 1 ≤ c ∧ c ≤ 7) (h2 : 0 ≤ f ∧ f ≤ 5) (h3 : c = 1 → n = 0) : ∀ x ∈ [(c, f, n)], okEs x := fun x hx => by
  rw [List.mem_singleton.mp hx]
  exact ⟨h1, h2, h3⟩
theorem pTest_sg {B : Nat → Int} {n : Nat} {s s1 : Pst} (h : pTest B n s = .inr s1) : Exq s s1 0 := by
  unfold pTest at h
  split at h
  · exact absurd h (by simp)
  · split at h
    · cases h
      exact ⟨[(4, 0, 0)], rfl, okE1 (by omega) (by omega) (by omega), fun z hz => Sg_test (by omega) (by omega)⟩
    · cases hp : pNum B n (tN B n s.1) 0 5 with
      | some f => rw [hp] at h; exact absurd h (by simp)
      | none =>
        rw [hp] at h
        dsimp only at h
        have h3 := (pNum_3 hp).2
        split at h
        · cases hp2 : pNum B n (tN B n (tN B n s.1)) 0 999999 with
          | some f => rw [hp2] at h; exact absurd h (by simp)
          | none =>
            rw [hp2] at h
            cases h
            exact ⟨_, rfl, okE1 (by omega) h3 (by omega), fun z hz => Sg_test (by omega) (by omega)⟩
        · cases h
          refine ⟨_, rfl, okE1 (by split <;> omega) h3 (fun _ => rfl), fun z hz => Sg_test (by split <;> omega) (by omega)⟩
def w1 (w : Bool) : Int := if w = true then 1 else 0
theorem pLoop_sg {B : Nat → Int} {n : Nat} {one : Pon} {m : Int} (hm : 0 ≤ m) (h1 : ∀ s s1, one s = .inr s1 → Exq s s1 m) : ∀ (k : Nat) (w : Bool) (s s2 : Pst), pLoop B n one k w s = .inr s2 → ∃ T, s2.2.2 = s.2.2 ++ T ∧ (∀ x ∈ T, okEs x) ∧ ∀ h : Int, 0 ≤ h → Sg T (h + 1 + w1 w) (h + 1) (h + m + 3)
  | 0, w, s, s2, h => by
    unfold pLoop at h
    cases h
    cases w
    · exact ⟨[], (List.append_nil _).symm, fun x hx => absurd hx (by simp), fun h hz => by show h + 1 + 0 = h + 1; omega⟩
    · refine ⟨[(6, 0, 0)], rfl, okE1 (by omega) (by omega) (by omega), fun h hz => ?_⟩
      have := Sg_6 (h := h + 1 + 1) (b := h + m + 3) (by omega) (by omega)
      rw [show h + 1 + 1 - 1 = h + 1 by omega] at this
      exact this
  | k + 1, w, s, s2, h => by
    by_cases c8 : wdq B n s.1 8 = true
    · unfold pLoop at h
      rw [if_pos c8] at h
      cases ho : one (tN B n s.1, (if w = true then psh s 6 else s).2) with
      | inl f => rw [ho] at h; exact absurd h (by simp)
      | inr t1 =>
        rw [ho] at h
        obtain ⟨T1, e1, o1, g1⟩ := h1 _ _ ho
        obtain ⟨T2, e2, o2, g2⟩ := pLoop_sg hm h1 k true t1 s2 h
        cases w
        · refine ⟨T1 ++ T2, by rw [e2, e1, List.append_assoc]; rfl, fun x hx => (List.mem_append.mp hx).elim (o1 x) (o2 x), fun h hz => ?_⟩
          have q1 := Sg_mono (b2 := h + m + 3) (by omega) (g1 (h + 1) (by omega))
          have q2 := g2 h hz
          have e3 : h + 1 + w1 false = h + 1 := by show h + 1 + 0 = h + 1; omega
          rw [e3]
          exact Sg_app q1 q2
        · refine ⟨[(6, 0, 0)] ++ (T1 ++ T2), by rw [e2, e1, ← List.append_assoc, ← List.append_assoc]; rfl, fun x hx => (List.mem_append.mp hx).elim (okE1 (by omega) (by omega) (by omega) x) (fun hx => (List.mem_append.mp hx).elim (o1 x) (o2 x)), fun h hz => ?_⟩
          have q0 := Sg_6 (h := h + 1 + 1) (b := h + m + 3) (by omega) (by omega)
          rw [show h + 1 + 1 - 1 = h + 1 by omega] at q0
          have q1 := Sg_mono (b2 := h + m + 3) (by omega) (g1 (h + 1) (by omega))
          exact Sg_app q0 (Sg_app q1 (g2 h hz))
    · by_cases c9 : wdq B n s.1 9 = true
      · unfold pLoop at h
        rw [if_neg c8, if_pos c9] at h
        cases ho : one (tN B n s.1, s.2) with
        | inl f => rw [ho] at h; exact absurd h (by simp)
        | inr t1 =>
          rw [ho] at h
          obtain ⟨T1, e1, o1, g1⟩ := h1 _ _ ho
          obtain ⟨T2, e2, o2, g2⟩ := pLoop_sg hm h1 k w (psh t1 7) s2 h
          have e1 : t1.2.2 = s.2.2 ++ T1 := e1
          have e2 : s2.2.2 = (t1.2.2 ++ [(7, 0, 0)]) ++ T2 := e2
          refine ⟨T1 ++ ([(7, 0, 0)] ++ T2), by rw [e2, e1, List.append_assoc, List.append_assoc], fun x hx => (List.mem_append.mp hx).elim (o1 x) (fun hx => (List.mem_append.mp hx).elim (okE1 (by omega) (by omega) (by omega) x) (o2 x)), fun h hz => ?_⟩
          have hw : 0 ≤ w1 w ∧ w1 w ≤ 1 := by unfold w1; split <;> omega
          have q1 := Sg_mono (b2 := h + m + 3) (by omega) (g1 (h + 1 + w1 w) (by omega))
          have q0 := Sg_7 (h := h + 1 + w1 w + 1) (b := h + m + 3) (by omega) (by omega)
          rw [show h + 1 + w1 w + 1 - 1 = h + 1 + w1 w by omega] at q0
          exact Sg_app q1 (Sg_app q0 (g2 h hz))
      · have c8 : wdq B n s.1 8 = false := by cases hq : wdq B n s.1 8; (rfl); (exact absurd hq c8)
        have c9 : wdq B n s.1 9 = false := by cases hq : wdq B n s.1 9; (rfl); (exact absurd hq c9)
        rw [pLoop_e c8 c9] at h
        cases h
        cases w
        · exact ⟨[], (List.append_nil _).symm, fun x hx => absurd hx (by simp), fun h hz => by show h + 1 + 0 = h + 1; omega⟩
        · refine ⟨[(6, 0, 0)], rfl, okE1 (by omega) (by omega) (by omega), fun h hz => ?_⟩
          have := Sg_6 (h := h + 1 + 1) (b := h + m + 3) (by omega) (by omega)
          rw [show h + 1 + 1 - 1 = h + 1 by omega] at this
          exact this
theorem ei_sg {B : Nat → Int} {n D : Nat} {m : Int} (hm : 0 ≤ m) (h1 : ∀ s s1, pOne B n D s = .inr s1 → Exq s s1 m) {s s2 : Pst} (h : pEi B n D s = .inr s2) : Exq s s2 (m + 3) := by
  cases ho : pOne B n D s with
  | inl f => rw [pEi_F ho] at h; exact absurd h (by simp)
  | inr s1 =>
    rw [pEi_Y ho] at h
    obtain ⟨T1, e1, o1, g1⟩ := h1 _ _ ho
    obtain ⟨T2, e2, o2, g2⟩ := pLoop_sg hm h1 500 false s1 s2 h
    refine ⟨T1 ++ T2, by rw [e2, e1, List.append_assoc], fun x hx => (List.mem_append.mp hx).elim (o1 x) (o2 x), fun h hz => ?_⟩
    have q1 := Sg_mono (b2 := h + (m + 3)) (by omega) (g1 h hz)
    have q2 := g2 h hz
    rw [show h + 1 + w1 false = h + 1 by show h + 1 + 0 = h + 1; omega, show h + m + 3 = h + (m + 3) by omega] at q2
    exact Sg_app q1 q2
theorem one_sg {B : Nat → Int} {n : Nat} : ∀ (D : Nat) (s s1 : Pst), pOne B n D s = .inr s1 → Exq s s1 (3 * (D : Int))
  | 0, s, s1, h => by rw [pOne_0] at h; exact absurd h (by simp)
  | D + 1, s, s1, h => by
    have ih := one_sg (B := B) (n := n) D
    by_cases c3 : wdq B n s.1 3 = true
    · cases ho : pOne B n D (tN B n s.1, s.2) with
      | inl f => rw [pOne_nF c3 ho] at h; exact absurd h (by simp)
      | inr t1 =>
        rw [pOne_n c3 ho] at h
        cases h
        obtain ⟨T1, e1, o1, g1⟩ := ih _ _ ho
        have e1 : t1.2.2 = s.2.2 ++ T1 := e1
        refine ⟨T1 ++ [(5, 0, 0)], by show t1.2.2 ++ [(5, 0, 0)] = _; rw [e1, List.append_assoc], fun x hx => (List.mem_append.mp hx).elim (o1 x) (okE1 (by omega) (by omega) (by omega) x), fun h hz => ?_⟩
        exact Sg_app (Sg_mono (by omega) (g1 h hz)) (Sg_5 (by omega) (by omega))
    · have c3f : wdq B n s.1 3 = false := by cases hq : wdq B n s.1 3; (rfl); (exact absurd hq c3)
      by_cases c4 : tK B n s.1 = 40
      · cases ho : pEi B n D (tN B n s.1, s.2) with
        | inl f => rw [pOne_pF c4 ho] at h; exact absurd h (by simp)
        | inr t2 =>
          by_cases c41 : tK B n t2.1 = 41
          · rw [pOne_pY c4 ho c41] at h
            cases h
            obtain ⟨T1, e1, o1, g1⟩ := ei_sg (by omega) ih ho
            exact ⟨T1, e1, o1, fun h hz => Sg_mono (by omega) (g1 h hz)⟩
          · rw [pOne_pN c4 ho c41] at h
            exact absurd h (by simp)
      · rw [pOne_t c3f c4] at h
        obtain ⟨T1, e1, o1, g1⟩ := pTest_sg h
        exact ⟨T1, e1, o1, fun h hz => Sg_mono (by omega) (g1 h hz)⟩
theorem line_sg {B : Nat → Int} {n : Nat} {s s1 : Pst} {v : Int} (h : pLine B n s = .inr (v, s1)) : (-1000 ≤ v ∧ v ≤ 1000) ∧ ∃ T, s1.2.2 = s.2.2 ++ T ∧ (∀ x ∈ T, okEs x) ∧ Sg T 0 1 40 := by
  unfold pLine at h
  split at h
  · exact absurd h (by simp)
  · cases hp : pNum B n (tN B n s.1) 1 1000 with
    | some f => rw [hp] at h; exact absurd h (by simp)
    | none =>
      rw [hp] at h
      have h3 := (pNum_3 hp).2
      dsimp only at h
      split at h
      · exact absurd h (by simp)
      · cases he : pEi B n 8 (tN B n (tN B n (tN B n s.1)), s.2) with
        | inl f => rw [he] at h; exact absurd h (by simp)
        | inr t1 =>
          rw [he] at h
          dsimp only at h
          split at h
          · cases h
            obtain ⟨T1, e1, o1, g1⟩ := ei_sg (by omega) (one_sg 8) he
            exact ⟨by split <;> omega, T1, e1, o1, Sg_mono (by omega) (g1 0 (by omega))⟩
          · exact absurd h (by simp)
/-- all lines can be done -/
def LnG (G : List (Int × Int)) (S : List (Int × Int × Int)) : Prop := (∀ x ∈ S, okEs x) ∧ (S.length : Int) = strt G G.length ∧ ∀ i, i < G.length → (-1000 ≤ (G.getD i (0, 0)).1 ∧ (G.getD i (0, 0)).1 ≤ 1000) ∧ ∃ S0 T R, S = S0 ++ (T ++ R) ∧ (S0.length : Int) = strt G i ∧ ((S0.length + T.length : Nat) : Int) = strt G (i + 1) ∧ Sg T 0 1 40
theorem all_sg {B : Nat → Int} {n : Nat} : ∀ (m : Nat) (G : List (Int × Int)) (s : Pst) {G2 : List (Int × Int)} {s2 : Pst}, LnG G s.2.2 → pAll B n m G s = .inr (G2, s2) → LnG G2 s2.2.2
  | 0, G, s, G2, s2, hG, h => by
    unfold pAll at h
    split at h
    · cases h
      exact hG
    · exact absurd h (by simp)
  | m + 1, G, s, G2, s2, hG, h => by
    unfold pAll at h
    split at h
    · cases h
      exact hG
    · cases hp : pLine B n s with
      | inl f => rw [hp] at h; exact absurd h (by simp)
      | inr q =>
        rw [hp] at h
        obtain ⟨v, s1⟩ := q
        obtain ⟨hv, T, e1, o1, g1⟩ := line_sg hp
        refine all_sg m _ _ ?_ h
        obtain ⟨k1, k2, k3⟩ := hG
        dsimp only
        refine ⟨fun x hx => ?_, ?_, fun i hi => ?_⟩
        · rw [e1] at hx
          exact (List.mem_append.mp hx).elim (k1 x) (o1 x)
        · rw [List.length_append, List.length_singleton, strt_l]
        · rw [List.length_append, List.length_singleton] at hi
          by_cases c : i = G.length
          · rw [getD2, if_pos c, c]
            refine ⟨hv, s.2.2, T, [], by rw [List.append_nil]; exact e1, by rw [strt_a (Nat.le_refl _)]; exact k2, ?_, g1⟩
            rw [strt_l, e1, List.length_append]
          · obtain ⟨k4, S0, U, R, k5, k6, k7, k8⟩ := k3 i (by omega)
            rw [getD2, if_neg c]
            exact ⟨k4, S0, U, R ++ T, by rw [e1, k5]; simp [List.append_assoc], by rw [strt_a (by omega)]; exact k6, by rw [strt_a (by omega)]; exact k7, k8⟩
theorem rul_sg {B : Nat → Int} {n : Nat} {G : List (Int × Int)} {s : Pst} (h : pRul B n = .inr (G, s)) : LnG G s.2.2 := by
  refine all_sg 10 [] (0, 0, []) ?_ h
  exact ⟨fun x hx => absurd hx (by simp), rfl, fun i hi => absurd hi (by simp)⟩
theorem Sg_dep {kd : Nat → Int} {a : Nat} : ∀ (T : List (Int × Int × Int)) (p : Nat) {h e : Int}, dep kd a p = h → (∀ m, m < T.length → kd (a + (p + m)) = cmc (T.getD m (0, 0, 0)).1) → Sg T h e 40 → (∀ m, m < T.length → (kd (a + (p + m)) = 3 → 1 ≤ dep kd a (p + m)) ∧ (kd (a + (p + m)) = 4 ∨ kd (a + (p + m)) = 5 → 2 ≤ dep kd a (p + m)) ∧ dep kd a (p + m) ≤ 40) ∧ dep kd a (p + T.length) = e
  | [], p, h, e, hd, hk, hs => by
    have hs : h = e := hs
    exact ⟨fun m hm => absurd hm (by simp), by rw [← hs]; exact hd⟩
  | x :: T, p, h, e, hd, hk, hs => by
    have h0 := hk 0 (by simp)
    rw [Nat.add_zero] at h0
    have h0 : kd (a + p) = cmc x.1 := h0
    have hd1 : dep kd a (p + 1) = nxd (cmc x.1) h := by
      show (if kd (a + p) = 3 then dep kd a p else if kd (a + p) = 4 ∨ kd (a + p) = 5 then dep kd a p - 1 else dep kd a p + 1) = _
      rw [h0, hd]
      rfl
    obtain ⟨i1, i2⟩ := Sg_dep T (p + 1) hd1 (fun m hm => by
      have := hk (m + 1) (by rw [List.length_cons]; omega)
      rw [show p + (m + 1) = p + 1 + m by omega] at this
      exact this) hs.2.2.2
    refine ⟨fun m hm => ?_, by rw [List.length_cons, show p + (T.length + 1) = p + 1 + T.length by omega]; exact i2⟩
    cases m with
    | zero =>
      rw [Nat.add_zero, h0, hd]
      exact ⟨hs.2.1, hs.2.2.1, hs.1⟩
    | succ m =>
      rw [List.length_cons] at hm
      have := i1 m (by omega)
      rw [show p + 1 + m = p + (m + 1) by omega] at this
      exact this
theorem Sg_WFs {kd : Nat → Int} {a : Nat} {T : List (Int × Int × Int)} (hk : ∀ m, m < T.length → kd (a + m) = cmc (T.getD m (0, 0, 0)).1) (hs : Sg T 0 1 40) : WFs kd a T.length := by
  obtain ⟨h1, h2⟩ := Sg_dep (kd := kd) (a := a) T 0 rfl (fun m hm => by rw [Nat.zero_add]; exact hk m hm) hs
  rw [Nat.zero_add] at h2
  refine ⟨fun m hm => ?_, h2⟩
  have := h1 m hm
  rw [Nat.zero_add] at this
  exact this
