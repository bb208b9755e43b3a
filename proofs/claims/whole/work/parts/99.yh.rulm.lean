def FrBM (I J : Nat → Nat → Int) : Prop := ∀ a j, ¬ ((a = 74 ∧ (j = 20 ∨ j = 26 ∨ j = 27 ∨ j = 28 ∨ j = 33 ∨ j = 35 ∨ j = 36 ∨ j = 37 ∨ j = 40 ∨ j = 41)) ∨ (87 ≤ a ∧ a ≤ 96) ∨ a = 98) → J a j = I a j
def RdM (I L J M : Nat → Nat → Int) (G : List (Int × Int)) (s : Pst) : Prop := FrBM I J ∧ FlN L M ∧ J 74 20 = (G.length : Int) ∧ (∀ i, i < s.2.2.length → J 87 i = (s.2.2.getD i (0, 0, 0)).1 ∧ J 88 i = (s.2.2.getD i (0, 0, 0)).2.1 ∧ J 89 i = (s.2.2.getD i (0, 0, 0)).2.2) ∧ (∀ i, i < G.length → J 91 i = (G.getD i (0, 0)).1) ∧ ∀ i, i ≤ G.length → J 90 i = strt G i
theorem RdM_mk {I L J M J1 J2 J3 J4 J5 : Nat → Nat → Int} {G : List (Int × Int)} {s : Pst} (h : LSM I L J M G s) (h1 : J1 = upI J 95 (J 74 26).toNat (J 74 27)) (a2 : ∀ a j, ¬ (a = 87 ∨ a = 88 ∨ a = 89) → J2 a j = J1 a j) (b2 : ∀ j : Nat, (j : Int) < J1 74 27 → J2 87 j = J1 92 j ∧ J2 88 j = J1 93 j ∧ J2 89 j = J1 94 j) (a3 : ∀ a j, ¬ (a = 91) → J3 a j = J2 a j) (b3 : ∀ j : Nat, (j : Int) < J2 74 26 → J3 91 j = J2 96 j) (a4 : ∀ a j, ¬ (a = 90) → J4 a j = J3 a j) (b4 : ∀ j : Nat, (j : Int) < J3 74 26 + 1 → J4 90 j = J3 95 j) (h5 : J5 = upI J4 74 20 (J4 74 26)) : RdM I L J5 M G s := by
  obtain ⟨c1, c2, c3, c4, c5⟩ := h
  have q1 : ∀ a j, ¬ (a = 95) → J1 a j = J a j := fun a j ha => by rw [h1, upI_ne (by omega)]
  have q5 : ∀ a j, ¬ (a = 74 ∧ j = 20) → J5 a j = J4 a j := fun a j ha => by rw [h5, upI_ne (by omega)]
  have s27 : J 74 27 = (s.2.2.length : Int) := c3.2.2.2.2.1.1
  have s26 : J 74 26 = (G.length : Int) := c4.1
  have n1 : J1 74 27 = (s.2.2.length : Int) := by rw [q1 74 27 (by omega)]; exact s27
  have n2 : J2 74 26 = (G.length : Int) := by rw [a2 74 26 (by omega), q1 74 26 (by omega)]; exact s26
  have n3 : J3 74 26 = (G.length : Int) := by rw [a3 74 26 (by omega)]; exact n2
  have n4 : J4 74 26 = (G.length : Int) := by rw [a4 74 26 (by omega)]; exact n3
  refine ⟨fun a j ha => by rw [q5 a j (by omega), a4 a j (by omega), a3 a j (by omega), a2 a j (by omega), q1 a j (by omega)]; exact c1 a j (by omega), c2, by rw [h5, upI_eq rfl rfl]; exact n4, fun i hi => ?_, fun i hi => ?_, fun i hi => ?_⟩
  · have hb := b2 i (by omega)
    have hc := c3.2.2.2.2.1.2 i hi
    rw [q5 87 i (by omega), q5 88 i (by omega), q5 89 i (by omega), a4 87 i (by omega), a4 88 i (by omega), a4 89 i (by omega), a3 87 i (by omega), a3 88 i (by omega), a3 89 i (by omega), hb.1, hb.2.1, hb.2.2, q1 92 i (by omega), q1 93 i (by omega), q1 94 i (by omega)]
    exact hc
  · rw [q5 91 i (by omega), a4 91 i (by omega), b3 i (by omega), a2 96 i (by omega), q1 96 i (by omega)]
    exact (c4.2.1 i hi).2
  · rw [q5 90 i (by omega), b4 i (by omega), a3 95 i (by omega), a2 95 i (by omega), h1]
    by_cases e : i = G.length
    · rw [upI_eq rfl (by omega), s27, e]
      exact c4.2.2
    · rw [upI_ne (by omega)]
      exact (c4.2.1 i (by omega)).1
theorem clM_t {I : Nat → Nat → Int} : (∀ a j, ¬ (a = 74 ∧ (26 ≤ j ∧ j ≤ 34)) → clM I a j = I a j) ∧ clM I 97 = I 97 ∧ nM (clM I) = (I 74 30).toNat ∧ clM I 74 34 = I 74 30 ∧ clM I 74 33 = 0 ∧ clM I 74 31 = 0 ∧ clM I 74 32 = -1 ∧ clM I 74 26 = 0 ∧ clM I 74 27 = 0 ∧ clM I 74 28 = 0 ∧ clM I 74 30 = 0 ∧ clM I 74 29 = I 74 29 := by
  have q : ∀ a j, ¬ (a = 74 ∧ (26 ≤ j ∧ j ≤ 34)) → clM I a j = I a j := fun a j ha => by
    unfold clM
    rw [upI_ne (by omega), upI_ne (by omega), upI_ne (by omega), upI_ne (by omega), upI_ne (by omega), upI_ne (by omega), upI_ne (by omega), upI_ne (by omega)]
  have e34 : clM I 74 34 = I 74 30 := by
    unfold clM
    rw [upI_ne (by omega), upI_ne (by omega), upI_ne (by omega), upI_ne (by omega), upI_ne (by omega), upI_ne (by omega), upI_ne (by omega), upI_eq rfl rfl]
  refine ⟨q, funext (fun z => q 97 z (by omega)), by unfold nM; rw [e34], e34, ?_, ?_, ?_, ?_, ?_, ?_, ?_, ?_⟩
  · unfold clM
    rw [upI_ne (by omega), upI_ne (by omega), upI_ne (by omega), upI_ne (by omega), upI_ne (by omega), upI_eq rfl rfl]
  · unfold clM
    rw [upI_ne (by omega), upI_ne (by omega), upI_ne (by omega), upI_ne (by omega), upI_eq rfl rfl]
  · unfold clM
    rw [upI_ne (by omega), upI_ne (by omega), upI_ne (by omega), upI_eq rfl rfl]
  · unfold clM
    rw [upI_ne (by omega), upI_ne (by omega), upI_eq rfl rfl]
  · unfold clM
    rw [upI_ne (by omega), upI_eq rfl rfl]
  · unfold clM
    rw [upI_eq rfl rfl]
  · unfold clM
    rw [upI_ne (by omega), upI_ne (by omega), upI_ne (by omega), upI_ne (by omega), upI_ne (by omega), upI_ne (by omega), upI_eq rfl rfl]
  · unfold clM
    rw [upI_ne (by omega), upI_ne (by omega), upI_ne (by omega), upI_ne (by omega), upI_ne (by omega), upI_ne (by omega), upI_ne (by omega), upI_ne (by omega)]
/-- what the reference's tape keeps -/
def Tm0 (I : Nat → Nat → Int) : Prop := (0 ≤ I 74 30 ∧ I 74 30 ≤ 500) ∧ ∀ j : Nat, (j : Int) < I 74 30 → 0 ≤ I 97 j ∧ I 97 j ≤ 255
theorem Tm0_c {I : Nat → Nat → Int} (h : Tm0 I) : Mp0 (clM I) ∧ NpK (clM I) := by
  obtain ⟨t1, t2, t3, t4, t5, t6, t7, t8, t9, t10, t11, t12⟩ := clM_t (I := I)
  have h1 := h.1
  refine ⟨⟨⟨by rw [t4]; exact h1, t6⟩, fun j hj => ?_⟩, ⟨by rw [t5, t4]; omega, fun j hj => ?_⟩⟩
  · rw [t4] at hj
    rw [t2]
    exact h.2 j hj
  · rw [t4] at hj
    rw [t2]
    exact h.2 j hj
theorem LSM_0 {I L J M : Nat → Nat → Int} (h1 : FrN (clM I) J) (h2 : FlN L M) (h3 : Ntk J M (clM I 97) (clM I 74 34).toNat (clM I 74 33).toNat) : LSM (clM I) L J M [] (0, 0, []) := by
  obtain ⟨t1, t2, t3, t4, t5, t6, t7, t8, t9, t10, t11, t12⟩ := clM_t (I := I)
  have e97 : J 97 = clM I 97 := funext (fun j => h1 97 j (by omega))
  have e34 : nM J = (clM I 74 34).toNat := by unfold nM; rw [h1 74 34 (by omega)]
  rw [t5] at h3
  refine ⟨fun a j ha => h1 a j (by omega), h2, ⟨⟨fun _ _ _ => rfl, fun _ _ _ => rfl⟩, by rw [e97, e34]; exact h3, Nat.zero_le _, ⟨by rw [h1 74 28 (by omega)]; exact t10, by show (0 : Int) ≤ 0; omega, by show (0 : Int) ≤ 60; omega⟩, ⟨by rw [h1 74 27 (by omega)]; exact t9, fun i hi => absurd hi (by simp)⟩, trivial⟩, ⟨by rw [h1 74 26 (by omega)]; exact t8, fun i hi => absurd hi (by simp), rfl⟩, by show 0 ≤ 0; omega⟩

set_option maxHeartbeats 20000000 in
set_option maxRecDepth 100000 in
theorem ru_end (l : Launch) (E : AX) (b : Bool) (I0 L0 : Nat → Nat → Int) (Φ : Option AV → AW → Prop) (J M : Nat → Nat → Int) (hk : Φ (some (vI (J 74 26))) (MW b (upI J 74 20 (J 74 26)) M)) : Rch l E 7 137 (MW b I0 L0) 0 0 Φ (346, [some (vR 74), none, none], [], MW b J M) := by
  refine rch_run cdK137 (by decide) 6 (t' := (358, [some (vR 74), none, none], [vI (J 74 26)], MW b (upI J 74 20 (J 74 26)) M)) (ps := []) rfl trivial ?_
  refine rch_ret cdK137 (rt := some (vI (J 74 26))) rfl trivial mw_c ?_
  exact hk

set_option maxHeartbeats 20000000 in
set_option maxRecDepth 100000 in
theorem ru_fin (l : Launch) (E : AX) (b : Bool) (I0 L0 : Nat → Nat → Int) (Φ : Option AV → AW → Prop) (I L J M : Nat → Nat → Int) {G : List (Int × Int)} {s : Pst} (h : LSM I L J M G s) (hG : G.length ≤ 10) (hS : s.1 ≤ 500) (hk : ∀ J2, RdM I L J2 M G s → Φ (some (vI (G.length : Int))) (MW b J2 M)) : Rch l E 7 137 (MW b I0 L0) 0 0 Φ (225, [some (vR 74), none, none], [], MW b J M) := by
  have s27 : J 74 27 = (s.2.2.length : Int) := h.2.2.1.2.2.2.2.1.1
  have s26 : J 74 26 = (G.length : Int) := h.2.2.2.1.1
  have hb := h.2.2.2.2
  refine rch_run cdK137 (by decide) 9 (t' := (240, [some (vR 74), some (vI 0), none], [], MW b (upI J 95 (J 74 26).toNat (J 74 27)) M)) (ps := [0 ≤ J 74 26 ∧ J 74 26 < ((11 : Nat) : Int)]) rfl (by simp only [all_, i32, i64]; first | omega | (simp; done) | (simp; omega)) ?_
  have e1 : (upI J 95 (J 74 26).toNat (J 74 27)) 74 27 = J 74 27 := upI_ne (by omega)
  have e2 : (upI J 95 (J 74 26).toNat (J 74 27)) 74 26 = J 74 26 := upI_ne (by omega)
  exact cp_1 l E b I0 L0 (upI J 95 (J 74 26).toNat (J 74 27)) M (by omega) Φ (fun J2 a2 b2 => cp_2 l E b I0 L0 J2 M (by rw [a2 74 26 (by omega)]; omega) Φ (fun J3 a3 b3 => cp_3 l E b I0 L0 J3 M (by rw [a3 74 26 (by omega), a2 74 26 (by omega)]; omega) Φ (fun J4 a4 b4 => ru_end l E b I0 L0 Φ J4 M (by rw [show J4 74 26 = (G.length : Int) by rw [a4 74 26 (by omega), a3 74 26 (by omega), a2 74 26 (by omega)]; omega]; exact hk _ (RdM_mk h rfl a2 b2 a3 b3 a4 b4 (by rw [show J4 74 26 = (G.length : Int) by rw [a4 74 26 (by omega), a3 74 26 (by omega), a2 74 26 (by omega)]; omega])))) (G.length + 2) 0 J3 (by rw [a3 74 26 (by omega), a2 74 26 (by omega)]; omega) (fun _ _ _ => rfl) (fun j hj => by omega) (by rw [a3 74 26 (by omega), a2 74 26 (by omega)]; omega)) (G.length + 1) 0 J2 (by rw [a2 74 26 (by omega)]; omega) (fun _ _ _ => rfl) (fun j hj => by omega) (by rw [a2 74 26 (by omega)]; omega)) (s.2.2.length + 1) 0 _ (by omega) (fun _ _ _ => rfl) (fun j hj => by omega) (by omega)

theorem pAll_len {B : Nat → Int} {n : Nat} : ∀ (m : Nat) (G : List (Int × Int)) (s : Pst) {G2 : List (Int × Int)} {s2 : Pst}, pAll B n m G s = .inr (G2, s2) → G2.length ≤ G.length + m
  | 0, G, s, G2, s2, h => by
    unfold pAll at h
    split at h
    · cases h
      omega
    · exact absurd h (by simp)
  | m + 1, G, s, G2, s2, h => by
    unfold pAll at h
    split at h
    · cases h
      omega
    · cases hp : pLine B n s with
      | inl f => rw [hp] at h; exact absurd h (by simp)
      | inr q =>
        rw [hp] at h
        have := pAll_len m _ _ h
        rw [List.length_append, List.length_singleton] at this
        omega

set_option maxHeartbeats 20000000 in
set_option maxRecDepth 100000 in
theorem k_rulesM (l : Launch) (E : AX) (b : Bool) (I L : Nat → Nat → Int) (hT : Tm0 I) : Con l E 7 137 [vR 74] (MW b I L) 0 0 (fun rt w => (∃ J2 M2 G s, pRul (I 97) (I 74 30).toNat = .inr (G, s) ∧ rt = some (vI (G.length : Int)) ∧ w = MW b J2 M2 ∧ RdM (clM I) L J2 M2 G s) ∨ (∃ J2 M2 f, pRul (I 97) (I 74 30).toNat = .inl f ∧ rt = some (vI (-1)) ∧ w = MW b J2 M2 ∧ FaA (clM I) L J2 M2 f)) := by
  refine con_ok (fun hw9 hs9 => ?_)
  refine con_intro (by decide) (Nat.le_of_ble_eq_true rfl) ?_
  show Rch l E 7 137 _ _ _ _ (0, [some (vR 74), none, none], [], MW b I L)
  refine rch_run cdK137 (by decide) 25 (t' := (43, [some (vR 74), none, none], [], MW b (upI (upI (upI (upI (upI (upI (upI (upI I 74 34 (I 74 30)) 74 30 0) 74 33 0) 74 31 0) 74 32 (-1)) 74 26 0) 74 27 0) 74 28 0) L)) (ps := []) rfl trivial ?_
  refine rch_run cdK137 (by decide) 1 (t' := (44, [some (vR 74), none, none], [vR 74], MW b (upI (upI (upI (upI (upI (upI (upI (upI I 74 34 (I 74 30)) 74 30 0) 74 33 0) 74 31 0) 74 32 (-1)) 74 26 0) 74 27 0) 74 28 0) L)) (ps := []) rfl trivial ?_
  refine rch_call (h' := 3) (k' := 125) (as := [vR 74]) (t1 := (47, [some (vR 74), none, none], [], MW b (upI (upI (upI (upI (upI (upI (upI (upI I 74 34 (I 74 30)) 74 30 0) 74 33 0) 74 31 0) 74 32 (-1)) 74 26 0) 74 27 0) 74 28 0) L)) cdK137 rfl (k_next l E b (clM I) L (Tm0_c hT).2) (by decide) mw_le ?_
  rintro rt9 w9 (⟨J196, M196, rfl, rfl, n1, n2, n3⟩) _ _
  show Rch l E 7 137 _ _ _ _ (47, [some (vR 74), none, none], [], MW b J196 M196)
  exact lp_rulM l E b (clM I) L I L (pRul (I 97) (I 74 30).toNat) (Tm0_c hT).1 _ (fun f J M hr hf => Or.inr ⟨J, M, f, hr, rfl, rfl, hf⟩) (fun G s J M hr hL => ru_fin l E b I L _ (clM I) L J M hL (pAll_len 10 _ _ hr) (by have h9 := hL.2.2.1.2.2.1; have := (MSt_r ((FrA_t hL.1).2.2 (Tm0_c hT).1) hL.2.2.1).2.2.2.1; omega) (fun J2 hR => Or.inl ⟨J2, M, G, s, hr, rfl, rfl, hR⟩)) 11 0 J196 M196 [] (0, 0, []) (LSM_0 n1 n2 n3) rfl (by omega) (by rw [clM_t.2.1, clM_t.2.2.1]; rfl) (by omega)
