-- THE CLASS'S PARSER: contracts by pure states
theorem con_imp {l : Launch} {E : AX} {h k : Nat} {args : List AV} {w : AW} {nc ns : Nat} {Φ Ψ : Option AV → AW → Prop} (hc : Con l E h k args w nc ns Φ) (hi : ∀ rt w, Φ rt w → Ψ rt w) : Con l E h k args w nc ns Ψ := by
  intro hw hs D cs base sp hsp
  have h0 := hc hw hs D cs base sp hsp
  intro p e ha hb hk s m av below hf happ hP hK
  obtain ⟨k1, o, h1, h2, h3, ⟨⟨rt, wf, a1, a2⟩, c1⟩, d1⟩ := h0 p e ha hb hk s m av below hf happ hP hK
  exact ⟨k1, o, h1, h2, h3, ⟨⟨rt, wf, hi _ _ a1, a2⟩, c1⟩, d1⟩
abbrev Pst : Type := Nat × Int × List (Int × Int × Int)
def PSx (k : Nat) (I J : Nat → Nat → Int) (s : Pst) : Prop := PSt k I J s ∧ ∀ j, J 31 j = I 31 j
def PR2 (k : Nat) (I : Nat → Nat → Int) (b : Bool) (L : Nat → Nat → Int) (r : (Int × Int) ⊕ Pst) (rt : Option AV) (w : AW) : Prop := (∃ J s, w = MW b J L ∧ r = .inr s ∧ rt = some (vI 1) ∧ PSx k I J s) ∨ (∃ J f, w = MW b J L ∧ r = .inl f ∧ rt = some (vI 0) ∧ FlR k I J f)
theorem strB_inj : ∀ i, i < 10 → ∀ j, j < 10 → (strB.getD i []).length = (strB.getD j []).length → (∀ x, x < (strB.getD i []).length → (strB.getD i []).getD x 0 = (strB.getD j []).getD x 0) → i = j := by decide
theorem wdq_ne {B : Nat → Int} {n a i j : Nat} (h : wdq B n a i = true) (hi : i < 10) (hj : j < 10) (hij : i ≠ j) : wdq B n a j = false := by
  cases hq : wdq B n a j
  · rfl
  · have h1 := of_decide_eq_true h
    have h2 := of_decide_eq_true hq
    exact absurd (strB_inj i hi j hj (h1.2.1.trans h2.2.1.symm) (fun x hx => (h1.2.2 x hx).symm.trans (h2.2.2 x (by have := h1.2.1; have := h2.2.1; omega)))) hij
theorem isT_i {B : Nat → Int} {n a : Nat} (i : Nat) (hi : 4 ≤ i ∧ i ≤ 7) (h : wdq B n a i = true) : isT B n a = true := by
  unfold isT
  rcases (show i = 4 ∨ i = 5 ∨ i = 6 ∨ i = 7 by omega) with e | e | e | e <;> (subst e; rw [h]; simp)
theorem isT_f {B : Nat → Int} {n a : Nat} (h4 : wdq B n a 4 = false) (h5 : wdq B n a 5 = false) (h6 : wdq B n a 6 = false) (h7 : wdq B n a 7 = false) : isT B n a = false := by
  unfold isT
  rw [h4, h5, h6, h7]
  rfl
theorem wd_l2 {B : Nat → Int} {n a i : Nat} (hi : i < 10) (hn : n ≤ 500) (ha : a ≤ n) (h : wdq B n a i = true) : a + 2 ≤ tN B n a ∧ tN B n a ≤ n := by
  have h1 := wd_len hn ha h
  have h2 := wd_2 i hi
  omega
theorem isT_2 {B : Nat → Int} {n a : Nat} (hn : n ≤ 500) (ha : a ≤ n) (h : isT B n a = true) : a + 2 ≤ tN B n a ∧ tN B n a ≤ n := by
  unfold isT at h
  rw [Bool.or_eq_true, Bool.or_eq_true, Bool.or_eq_true] at h
  rcases h with ((q | q) | q) | q
  · exact wd_l2 (by omega) hn ha q
  · exact wd_l2 (by omega) hn ha q
  · exact wd_l2 (by omega) hn ha q
  · exact wd_l2 (by omega) hn ha q
theorem pNum_3 {B : Nat → Int} {n a : Nat} {lo hi : Int} (h : pNum B n a lo hi = none) : tK B n a = 3 ∧ lo ≤ tV B n a ∧ tV B n a ≤ hi := by
  unfold pNum at h
  split at h
  · exact absurd h (by simp)
  · split at h
    · exact absurd h (by simp)
    · omega
theorem pTest_bad {B : Nat → Int} {n : Nat} {s : Pst} (h : isT B n s.1 = false ∨ 60 ≤ s.2.1) : pTest B n s = .inl (flt B n s.1 2) := if_pos h
theorem pTest_ok {B : Nat → Int} {n : Nat} {s : Pst} (hT : isT B n s.1 = true) (h6 : s.2.1 < 60) : ¬ (isT B n s.1 = false ∨ 60 ≤ s.2.1) := fun z => by
  rcases z with z | z
  · rw [hT] at z
    exact absurd z (by decide)
  · omega
theorem pTest_src {B : Nat → Int} {n : Nat} {s : Pst} (h6 : s.2.1 < 60) (h : wdq B n s.1 4 = true) : pTest B n s = .inr (tN B n s.1, s.2.1 + 1, s.2.2 ++ [(4, 0, 0)]) := by
  unfold pTest
  rw [if_neg (pTest_ok (isT_i 4 (by omega) h) h6), if_pos h]
theorem pTest_n1 {B : Nat → Int} {n : Nat} {s : Pst} {f : Int × Int} (hT : isT B n s.1 = true) (h6 : s.2.1 < 60) (h : wdq B n s.1 4 = false) (hp : pNum B n (tN B n s.1) 0 5 = some f) : pTest B n s = .inl f := by
  unfold pTest
  rw [if_neg (pTest_ok hT h6), if_neg (by rw [h]; decide), hp]
theorem pTest_n2 {B : Nat → Int} {n : Nat} {s : Pst} {f : Int × Int} (h6 : s.2.1 < 60) (h : wdq B n s.1 6 = true) (hp : pNum B n (tN B n s.1) 0 5 = none) (hp2 : pNum B n (tN B n (tN B n s.1)) 0 999999 = some f) : pTest B n s = .inl f := by
  unfold pTest
  rw [if_neg (pTest_ok (isT_i 6 (by omega) h) h6), if_neg (by rw [wdq_ne h (by omega) (by omega) (by omega)]; decide), hp]
  dsimp only
  rw [if_pos h, hp2]
theorem pTest_nr {B : Nat → Int} {n : Nat} {s : Pst} (h6 : s.2.1 < 60) (h : wdq B n s.1 6 = true) (hp : pNum B n (tN B n s.1) 0 5 = none) (hp2 : pNum B n (tN B n (tN B n s.1)) 0 999999 = none) : pTest B n s = .inr (tN B n (tN B n (tN B n s.1)), s.2.1 + 1, s.2.2 ++ [(2, tV B n (tN B n s.1), tV B n (tN B n (tN B n s.1)))]) := by
  unfold pTest
  rw [if_neg (pTest_ok (isT_i 6 (by omega) h) h6), if_neg (by rw [wdq_ne h (by omega) (by omega) (by omega)]; decide), hp]
  dsimp only
  rw [if_pos h, hp2]
theorem pTest_la {B : Nat → Int} {n : Nat} {s : Pst} (h6 : s.2.1 < 60) (h : wdq B n s.1 5 = true) (hp : pNum B n (tN B n s.1) 0 5 = none) : pTest B n s = .inr (tN B n (tN B n s.1), s.2.1 + 1, s.2.2 ++ [(3, tV B n (tN B n s.1), 0)]) := by
  unfold pTest
  rw [if_neg (pTest_ok (isT_i 5 (by omega) h) h6), if_neg (by rw [wdq_ne h (by omega) (by omega) (by omega)]; decide), hp]
  dsimp only
  rw [if_neg (by rw [wdq_ne h (by omega) (by omega) (by omega)]; decide), if_pos h]
theorem pTest_sa {B : Nat → Int} {n : Nat} {s : Pst} (h6 : s.2.1 < 60) (h : wdq B n s.1 7 = true) (hp : pNum B n (tN B n s.1) 0 5 = none) : pTest B n s = .inr (tN B n (tN B n s.1), s.2.1 + 1, s.2.2 ++ [(1, tV B n (tN B n s.1), 0)]) := by
  unfold pTest
  rw [if_neg (pTest_ok (isT_i 7 (by omega) h) h6), if_neg (by rw [wdq_ne h (by omega) (by omega) (by omega)]; decide), hp]
  dsimp only
  rw [if_neg (by rw [wdq_ne h (by omega) (by omega) (by omega)]; decide), if_neg (by rw [wdq_ne h (by omega) (by omega) (by omega)]; decide)]
theorem PSx_tests {k : Nat} {I J : Nat → Nat → Int} {s : Pst} (hk : k = 1 ∨ k = 7) (h : PSx k I J s) (h60 : s.2.1 < 60) : PSx k I (upI J k 1 (J k 1 + 1)) (s.1, s.2.1 + 1, s.2.2) := ⟨PSt_tests hk h.1 h60, fun j => by rw [upI_ne (by omega)]; exact h.2 j⟩
theorem k_adv (l : Launch) (E : AX) (b : Bool) (I J L : Nat → Nat → Int) {k : Nat} {s : Pst} (hk : k = 1 ∨ k = 7) (h0 : Tp0 I) (hs : PSx k I J s) : Con l E 2 42 [vR 28] (MW b J L) 0 0 (fun rt w => ∃ J2, rt = none ∧ w = MW b J2 L ∧ PSx k I J2 (tN (I 29) (nTp I) s.1, s.2)) := by
  refine con_imp (k_advance l E b J L (PSt_r hk h0 hs.1).1) ?_
  rintro rt w ⟨J2, h1, h2, h3, h4⟩
  exact ⟨J2, h1, h2, PSt_adv hk h0 hs.1 h3 h4, fun j => by rw [h3 31 j (by omega)]; exact hs.2 j⟩
theorem k_stp (l : Launch) (E : AX) (b : Bool) (I J L : Nat → Nat → Int) {k : Nat} {s : Pst} (c : Int) (hk : k = 1 ∨ k = 7) (hs : PSx k I J s) : Con l E 1 13 [vR 31, vR 28, vI c] (MW b J L) 0 0 (fun rt w => ∃ J2, rt = some (vI 0) ∧ w = MW b J2 L ∧ FlR k I J2 (flt (I 29) (nTp I) s.1 c)) := by
  refine con_imp (k_stop l E b J L c) ?_
  rintro rt w (⟨h1, h2, h3⟩ | ⟨h1, h2, h3⟩)
  · exact ⟨_, h2, h3, PSt_stop hs.1 (Or.inl ⟨h1, rfl⟩) rfl hk⟩
  · exact ⟨_, h2, h3, PSt_stop hs.1 (Or.inr ⟨h1, rfl⟩) rfl hk⟩
theorem rdb {q : Bool} {W : AW} : ∀ (rt : Option AV) (w : AW), (rt = some (vI (b2i q)) ∧ w = W) → (q = true ∧ rt = some (vI 1) ∧ w = W) ∨ (q = false ∧ rt = some (vI 0) ∧ w = W) := fun rt w h => by
  cases q
  · exact Or.inr ⟨rfl, h⟩
  · exact Or.inl ⟨rfl, h⟩
theorem rd1 {q : Bool} {W : AW} (hq : q = true) : ∀ (rt : Option AV) (w : AW), ((q = true ∧ rt = some (vI 1) ∧ w = W) ∨ (q = false ∧ rt = some (vI 0) ∧ w = W)) → (rt = some (vI 1) ∧ w = W) := fun rt w h => by
  rcases h with h | h
  · exact h.2
  · rw [hq] at h
    exact absurd h.1 (by decide)
theorem rd0 {q : Bool} {W : AW} (hq : q = false) : ∀ (rt : Option AV) (w : AW), ((q = true ∧ rt = some (vI 1) ∧ w = W) ∨ (q = false ∧ rt = some (vI 0) ∧ w = W)) → (rt = some (vI 0) ∧ w = W) := fun rt w h => by
  rcases h with h | h
  · rw [hq] at h
    exact absurd h.1 (by decide)
  · exact h.2
theorem k_rd_0 (l : Launch) (E : AX) (b : Bool) (I J L : Nat → Nat → Int) {k : Nat} {s : Pst} (hk : k = 1 ∨ k = 7) (h0 : Tp0 I) (hs : PSx k I J s) : Con l E 5 45 [vR 28, vR 2000] (MW b J L) 0 0 (fun rt w => (wdq (I 29) (nTp I) s.1 0 = true ∧ rt = some (vI 1) ∧ w = MW b J L) ∨ (wdq (I 29) (nTp I) s.1 0 = false ∧ rt = some (vI 0) ∧ w = MW b J L)) := by
  obtain ⟨r1, r2, r3, r4, r5, r6, r7⟩ := PSt_r hk h0 hs.1
  have e : rdJ J (strB.getD 0 []) = wdq (I 29) (nTp I) s.1 0 := rd_t hs.1.2.1 r2 r7
  rw [← e]
  exact con_imp (k_reads_0 l E b J L r1 r5) rdb
theorem k_rd_1 (l : Launch) (E : AX) (b : Bool) (I J L : Nat → Nat → Int) {k : Nat} {s : Pst} (hk : k = 1 ∨ k = 7) (h0 : Tp0 I) (hs : PSx k I J s) : Con l E 5 45 [vR 28, vR 2001] (MW b J L) 0 0 (fun rt w => (wdq (I 29) (nTp I) s.1 1 = true ∧ rt = some (vI 1) ∧ w = MW b J L) ∨ (wdq (I 29) (nTp I) s.1 1 = false ∧ rt = some (vI 0) ∧ w = MW b J L)) := by
  obtain ⟨r1, r2, r3, r4, r5, r6, r7⟩ := PSt_r hk h0 hs.1
  have e : rdJ J (strB.getD 1 []) = wdq (I 29) (nTp I) s.1 1 := rd_t hs.1.2.1 r2 r7
  rw [← e]
  exact con_imp (k_reads_1 l E b J L r1 r5) rdb
theorem k_rd_2 (l : Launch) (E : AX) (b : Bool) (I J L : Nat → Nat → Int) {k : Nat} {s : Pst} (hk : k = 1 ∨ k = 7) (h0 : Tp0 I) (hs : PSx k I J s) : Con l E 5 45 [vR 28, vR 2002] (MW b J L) 0 0 (fun rt w => (wdq (I 29) (nTp I) s.1 2 = true ∧ rt = some (vI 1) ∧ w = MW b J L) ∨ (wdq (I 29) (nTp I) s.1 2 = false ∧ rt = some (vI 0) ∧ w = MW b J L)) := by
  obtain ⟨r1, r2, r3, r4, r5, r6, r7⟩ := PSt_r hk h0 hs.1
  have e : rdJ J (strB.getD 2 []) = wdq (I 29) (nTp I) s.1 2 := rd_t hs.1.2.1 r2 r7
  rw [← e]
  exact con_imp (k_reads_2 l E b J L r1 r5) rdb
theorem k_rd_3 (l : Launch) (E : AX) (b : Bool) (I J L : Nat → Nat → Int) {k : Nat} {s : Pst} (hk : k = 1 ∨ k = 7) (h0 : Tp0 I) (hs : PSx k I J s) : Con l E 5 45 [vR 28, vR 2003] (MW b J L) 0 0 (fun rt w => (wdq (I 29) (nTp I) s.1 3 = true ∧ rt = some (vI 1) ∧ w = MW b J L) ∨ (wdq (I 29) (nTp I) s.1 3 = false ∧ rt = some (vI 0) ∧ w = MW b J L)) := by
  obtain ⟨r1, r2, r3, r4, r5, r6, r7⟩ := PSt_r hk h0 hs.1
  have e : rdJ J (strB.getD 3 []) = wdq (I 29) (nTp I) s.1 3 := rd_t hs.1.2.1 r2 r7
  rw [← e]
  exact con_imp (k_reads_3 l E b J L r1 r5) rdb
theorem k_rd_4 (l : Launch) (E : AX) (b : Bool) (I J L : Nat → Nat → Int) {k : Nat} {s : Pst} (hk : k = 1 ∨ k = 7) (h0 : Tp0 I) (hs : PSx k I J s) : Con l E 5 45 [vR 28, vR 2004] (MW b J L) 0 0 (fun rt w => (wdq (I 29) (nTp I) s.1 4 = true ∧ rt = some (vI 1) ∧ w = MW b J L) ∨ (wdq (I 29) (nTp I) s.1 4 = false ∧ rt = some (vI 0) ∧ w = MW b J L)) := by
  obtain ⟨r1, r2, r3, r4, r5, r6, r7⟩ := PSt_r hk h0 hs.1
  have e : rdJ J (strB.getD 4 []) = wdq (I 29) (nTp I) s.1 4 := rd_t hs.1.2.1 r2 r7
  rw [← e]
  exact con_imp (k_reads_4 l E b J L r1 r5) rdb
theorem k_rd_5 (l : Launch) (E : AX) (b : Bool) (I J L : Nat → Nat → Int) {k : Nat} {s : Pst} (hk : k = 1 ∨ k = 7) (h0 : Tp0 I) (hs : PSx k I J s) : Con l E 5 45 [vR 28, vR 2005] (MW b J L) 0 0 (fun rt w => (wdq (I 29) (nTp I) s.1 5 = true ∧ rt = some (vI 1) ∧ w = MW b J L) ∨ (wdq (I 29) (nTp I) s.1 5 = false ∧ rt = some (vI 0) ∧ w = MW b J L)) := by
  obtain ⟨r1, r2, r3, r4, r5, r6, r7⟩ := PSt_r hk h0 hs.1
  have e : rdJ J (strB.getD 5 []) = wdq (I 29) (nTp I) s.1 5 := rd_t hs.1.2.1 r2 r7
  rw [← e]
  exact con_imp (k_reads_5 l E b J L r1 r5) rdb
theorem k_rd_6 (l : Launch) (E : AX) (b : Bool) (I J L : Nat → Nat → Int) {k : Nat} {s : Pst} (hk : k = 1 ∨ k = 7) (h0 : Tp0 I) (hs : PSx k I J s) : Con l E 5 45 [vR 28, vR 2006] (MW b J L) 0 0 (fun rt w => (wdq (I 29) (nTp I) s.1 6 = true ∧ rt = some (vI 1) ∧ w = MW b J L) ∨ (wdq (I 29) (nTp I) s.1 6 = false ∧ rt = some (vI 0) ∧ w = MW b J L)) := by
  obtain ⟨r1, r2, r3, r4, r5, r6, r7⟩ := PSt_r hk h0 hs.1
  have e : rdJ J (strB.getD 6 []) = wdq (I 29) (nTp I) s.1 6 := rd_t hs.1.2.1 r2 r7
  rw [← e]
  exact con_imp (k_reads_6 l E b J L r1 r5) rdb
theorem k_rd_7 (l : Launch) (E : AX) (b : Bool) (I J L : Nat → Nat → Int) {k : Nat} {s : Pst} (hk : k = 1 ∨ k = 7) (h0 : Tp0 I) (hs : PSx k I J s) : Con l E 5 45 [vR 28, vR 2007] (MW b J L) 0 0 (fun rt w => (wdq (I 29) (nTp I) s.1 7 = true ∧ rt = some (vI 1) ∧ w = MW b J L) ∨ (wdq (I 29) (nTp I) s.1 7 = false ∧ rt = some (vI 0) ∧ w = MW b J L)) := by
  obtain ⟨r1, r2, r3, r4, r5, r6, r7⟩ := PSt_r hk h0 hs.1
  have e : rdJ J (strB.getD 7 []) = wdq (I 29) (nTp I) s.1 7 := rd_t hs.1.2.1 r2 r7
  rw [← e]
  exact con_imp (k_reads_7 l E b J L r1 r5) rdb
theorem k_rd_8 (l : Launch) (E : AX) (b : Bool) (I J L : Nat → Nat → Int) {k : Nat} {s : Pst} (hk : k = 1 ∨ k = 7) (h0 : Tp0 I) (hs : PSx k I J s) : Con l E 5 45 [vR 28, vR 2008] (MW b J L) 0 0 (fun rt w => (wdq (I 29) (nTp I) s.1 8 = true ∧ rt = some (vI 1) ∧ w = MW b J L) ∨ (wdq (I 29) (nTp I) s.1 8 = false ∧ rt = some (vI 0) ∧ w = MW b J L)) := by
  obtain ⟨r1, r2, r3, r4, r5, r6, r7⟩ := PSt_r hk h0 hs.1
  have e : rdJ J (strB.getD 8 []) = wdq (I 29) (nTp I) s.1 8 := rd_t hs.1.2.1 r2 r7
  rw [← e]
  exact con_imp (k_reads_8 l E b J L r1 r5) rdb
theorem k_rd_9 (l : Launch) (E : AX) (b : Bool) (I J L : Nat → Nat → Int) {k : Nat} {s : Pst} (hk : k = 1 ∨ k = 7) (h0 : Tp0 I) (hs : PSx k I J s) : Con l E 5 45 [vR 28, vR 2009] (MW b J L) 0 0 (fun rt w => (wdq (I 29) (nTp I) s.1 9 = true ∧ rt = some (vI 1) ∧ w = MW b J L) ∨ (wdq (I 29) (nTp I) s.1 9 = false ∧ rt = some (vI 0) ∧ w = MW b J L)) := by
  obtain ⟨r1, r2, r3, r4, r5, r6, r7⟩ := PSt_r hk h0 hs.1
  have e : rdJ J (strB.getD 9 []) = wdq (I 29) (nTp I) s.1 9 := rd_t hs.1.2.1 r2 r7
  rw [← e]
  exact con_imp (k_reads_9 l E b J L r1 r5) rdb
theorem k_push_1 (l : Launch) (E : AX) (b : Bool) (I J L : Nat → Nat → Int) {s : Pst} {c x f n f2 n2 : Int} (hs : PSx 1 I J s) (hx : x = cmc c) (hf : f = f2) (hn : n = n2) (hb : s.2.2.length < 250) : Con l E 1 2 [vR 1, vI x, vI f, vI n] (MW b J L) 0 0 (fun rt w => ∃ J2, rt = none ∧ w = MW b J2 L ∧ PSx 1 I J2 (s.1, s.2.1, s.2.2 ++ [(c, f2, n2)])) := by
  subst hf hn
  have hl : J 1 2 = (s.2.2.length : Int) := hs.1.2.2.2.2.1
  refine con_imp (k_addStep_1 l E b J L x f n (by omega)) ?_
  rintro rt w (⟨h1, h2, h3⟩ | ⟨h1, h2, h3⟩)
  · exact ⟨_, h2, h3, PSt_push (by omega) hs.1 hx rfl, fun j => by rw [upI_ne (by omega), upI_ne (by omega), upI_ne (by omega), upI_ne (by omega)]; exact hs.2 j⟩
  · exfalso
    omega
theorem k_num_1 (l : Launch) (E : AX) (b : Bool) (I J L : Nat → Nat → Int) {s : Pst} (lo hi : Int) (h0 : Tp0 I) (hs : PSx 1 I J s) : Con l E 2 15 [vR 31, vR 28, vI lo, vI hi] (MW b J L) 0 0 (fun rt w => (pNum (I 29) (nTp I) s.1 lo hi = none ∧ rt = some (vI 1) ∧ w = MW b J L) ∨ (∃ J2 f, pNum (I 29) (nTp I) s.1 lo hi = some f ∧ rt = some (vI 0) ∧ w = MW b J2 L ∧ FlR 1 I J2 f)) := by
  refine con_imp (k_readNumber_1 l E b I J L s lo hi h0 hs.1) ?_
  rintro rt w ⟨J2, h1, ⟨h2, h3, h4⟩ | ⟨f, h2, h3, h4⟩⟩
  · exact Or.inl ⟨h2, h3, by rw [h1, h4]⟩
  · exact Or.inr ⟨J2, f, h2, h3, h1, h4⟩
theorem k_push_7 (l : Launch) (E : AX) (b : Bool) (I J L : Nat → Nat → Int) {s : Pst} {c x f n f2 n2 : Int} (hs : PSx 7 I J s) (hx : x = cmc c) (hf : f = f2) (hn : n = n2) (hb : s.2.2.length < 250) : Con l E 1 2 [vR 7, vI x, vI f, vI n] (MW b J L) 0 0 (fun rt w => ∃ J2, rt = none ∧ w = MW b J2 L ∧ PSx 7 I J2 (s.1, s.2.1, s.2.2 ++ [(c, f2, n2)])) := by
  subst hf hn
  have hl : J 7 2 = (s.2.2.length : Int) := hs.1.2.2.2.2.1
  refine con_imp (k_addStep_7 l E b J L x f n (by omega)) ?_
  rintro rt w (⟨h1, h2, h3⟩ | ⟨h1, h2, h3⟩)
  · exact ⟨_, h2, h3, PSt_push (by omega) hs.1 hx rfl, fun j => by rw [upI_ne (by omega), upI_ne (by omega), upI_ne (by omega), upI_ne (by omega)]; exact hs.2 j⟩
  · exfalso
    omega
theorem k_num_7 (l : Launch) (E : AX) (b : Bool) (I J L : Nat → Nat → Int) {s : Pst} (lo hi : Int) (h0 : Tp0 I) (hs : PSx 7 I J s) : Con l E 2 15 [vR 31, vR 28, vI lo, vI hi] (MW b J L) 0 0 (fun rt w => (pNum (I 29) (nTp I) s.1 lo hi = none ∧ rt = some (vI 1) ∧ w = MW b J L) ∨ (∃ J2 f, pNum (I 29) (nTp I) s.1 lo hi = some f ∧ rt = some (vI 0) ∧ w = MW b J2 L ∧ FlR 7 I J2 f)) := by
  refine con_imp (k_readNumber_7 l E b I J L s lo hi h0 hs.1) ?_
  rintro rt w ⟨J2, h1, ⟨h2, h3, h4⟩ | ⟨f, h2, h3, h4⟩⟩
  · exact Or.inl ⟨h2, h3, by rw [h1, h4]⟩
  · exact Or.inr ⟨J2, f, h2, h3, h1, h4⟩
