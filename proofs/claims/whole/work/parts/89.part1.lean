theorem msm_d {I J : Nat → Nat → Int} (h : ∀ a j, ((75 ≤ a ∧ a ≤ 91) ∨ (a = 74 ∧ j = 5)) → J a j = I a j) (p q d k : Int) : ∀ n : Nat, msm J p q d k n = msm I p q d k n
  | 0 => rfl
  | n + 1 => by
    have g : ∀ a, (75 ≤ a ∧ a ≤ 91) → J a = I a := fun a ha => funext (fun z => h a z (by omega))
    have e : mhl J p q d k n = mhl I p q d k n := by
      unfold mhl mTst
      rw [g 90 (by omega), g 87 (by omega), g 89 (by omega), g 88 (by omega), g 78 (by omega), g 81 (by omega), g 82 (by omega), g 83 (by omega), g 84 (by omega), g 85 (by omega), h 74 5 (by omega)]
    show msm J p q d k n + _ = msm I p q d k n + _
    rw [msm_d h p q d k n, e, g 91 (by omega)]

theorem knM_c {I J : Nat → Nat → Int} (h : ∀ a j, 100 ≤ a ∧ a ≤ 104 → J a j = I a j) {k : Int} {q : Nat} : knM J k q ↔ knM I k q := by
  unfold knM
  rw [h 102 q (by omega), h 103 q (by omega)]
theorem SYm_c {I J : Nat → Nat → Int} (h : ∀ a j, 100 ≤ a ∧ a ≤ 104 → J a j = I a j) {k x y : Int} {v : Bool} {m : Nat} : SYm J k v x y m ↔ SYm I k v x y m := by
  unfold SYm
  constructor
  · rintro ⟨q, q1, q2, q3, q4⟩
    rw [h 104 q (by omega)] at q3
    rw [h 100 q (by omega), h 101 q (by omega)] at q4
    exact ⟨q, q1, (knM_c h).mp q2, q3, q4⟩
  · rintro ⟨q, q1, q2, q3, q4⟩
    refine ⟨q, q1, (knM_c h).mpr q2, ?_, ?_⟩
    · rw [h 104 q (by omega)]
      exact q3
    · rw [h 100 q (by omega), h 101 q (by omega)]
      exact q4
theorem Sy3_c {I J : Nat → Nat → Int} (h : ∀ a j, 100 ≤ a ∧ a ≤ 104 → J a j = I a j) {k x y s : Int} {m : Nat} (hs : Sy3 J k x y s m) : Sy3 I k x y s m := ⟨hs.1, by rw [← SYm_c h]; exact hs.2.1, by rw [← SYm_c h]; exact hs.2.2⟩
/-- the world in which the search begins -/
def I3c (J : Nat → Nat → Int) (z : Int) : Nat → Nat → Int := upI (upI (upI (upI J 74 58 z) 74 56 0) 74 57 0) 113 0 0
theorem I3_f (J : Nat → Nat → Int) (z : Int) (a j : Nat) (h : ¬ ((a = 74 ∧ (j = 56 ∨ j = 57 ∨ j = 58)) ∨ (a = 113 ∧ j = 0))) : I3c J z a j = J a j := by
  unfold I3c
  rw [upI_ne (by omega), upI_ne (by omega), upI_ne (by omega), upI_ne (by omega)]
theorem pt_rows {I J1 J2 J4 : Nat → Nat → Int} {d k : Int} (h1 : Gt1 I J1 k 10) (h2 : FR2 J1 J2) (hp : ∀ x y : Nat, y < x → x < cnt (thM I k) 10 → Pr2 J1 J2 d k x y) (f4 : ∀ a j, ¬ ((111 ≤ a ∧ a ≤ 115) ∨ (a = 74 ∧ 56 ≤ j ∧ j ≤ 58)) → J4 a j = J2 a j) (f5 : ∀ r, r < 10 → thM I k r = false → J4 111 r = J2 111 r) (h0 : J4 114 0 = 0 ∧ J4 115 0 = 0)
    (hend : (cnt (thM I k) 10 = 0 ∧ J4 74 58 = 1 ∧ J4 74 56 = 0 ∧ J4 74 57 = 0) ∨ (0 < cnt (thM I k) 10 ∧ DFe (muM J4) (mnM J4) (srM J4) (cnt (thM I k) 10) J4)) : PtM I J4 d k := by
  obtain ⟨g1, g2, g3, g4⟩ := h1
  refine ⟨fun a j ha => by rw [f4 a j (by omega), h2 a j (by omega), g1 a j (by omega)], by rw [f4 74 55 (by omega), h2 74 55 (by omega), g2], fun r hr ht => by rw [f4 110 _ (by omega), h2 110 _ (by omega)]; exact g3 r hr ht, fun r hr ht => by rw [f5 r hr ht, h2 111 r (by omega)]; exact g4 r hr, h0, fun x y hxy hx => ?_, hend⟩
  obtain ⟨p1, p2⟩ := hp x y hxy hx
  have e : ∀ j, J4 110 j = J1 110 j := fun j => by rw [f4 110 j (by omega), h2 110 j (by omega)]
  unfold srM
  rw [f4 116 _ (by omega), f4 117 _ (by omega), e, e, p1]
  refine ⟨?_, ?_⟩
  · rw [g1 74 20 (by omega)]
    exact msm_d (fun a j ha => g1 a j (by omega)) _ _ _ _ _
  · rw [g1 74 43 (by omega)] at p2
    exact Sy3_c (fun a j ha => g1 a j (by omega)) p2

set_option maxHeartbeats 20000000 in
set_option maxRecDepth 100000 in
theorem lp_part1 (l : Launch) (E : AX) (b : Bool) (I L : Nat → Nat → Int) (d k : Int) (hn : 0 ≤ I 74 4 ∧ I 74 4 ≤ 10) (Φ : Option AV → AW → Prop) (hk : ∀ J, Gt1 I J k 10 → Rch l E 5 147 (MW b I L) 0 0 Φ (60, [some (vR 74), some (vI d), some (vI k), some (vI 0), none, none, none, none], [], MW b J L)) : ∀ (n9 : Nat) (r : Int) (J : Nat → Nat → Int), 0 ≤ r → r ≤ 10 → Gt1 I J k r.toNat → 10 - r < (n9 : Int) → Rch l E 5 147 (MW b I L) 0 0 (Φ) (7, [some (vR 74), some (vI d), some (vI k), some (vI r), none, none, none, none], [], MW b J L) := by
  intro n9
  induction n9 with
  | zero =>
    intro r J h1 h2 h3 hm
    exfalso; omega
  | succ n9 ih =>
    intro r J h1 h2 h3 hm
    have hc9 := cnt_le (thM I k) r.toNat
    have hg9 := h3.2.1
    have q4 := h3.1 74 4 (by omega)
    refine rch_run cdK147 (by decide) 2 (t' := (10, [some (vR 74), some (vI d), some (vI k), some (vI r), none, none, none, none], [vI 10, vI r], MW b J L)) (ps := []) rfl trivial ?_
    refine rch_br cdK147 (cd := (10 : Int) ≤ r) (t1 := (58, [some (vR 74), some (vI d), some (vI k), some (vI r), none, none, none, none], [], MW b J L)) (t2 := (13, [some (vR 74), some (vI d), some (vI k), some (vI r), none, none, none, none], [], MW b J L)) rfl (fun c10_1 => ?_) (fun c10_1 => ?_)
    · refine rch_run cdK147 (by decide) 2 (t' := (60, [some (vR 74), some (vI d), some (vI k), some (vI 0), none, none, none, none], [], MW b J L)) (ps := []) rfl trivial ?_
      exact hk J (by rw [show (10 : Nat) = r.toNat by omega]; exact h3)
    · refine rch_run cdK147 (by decide) 8 (t' := (23, [some (vR 74), some (vI d), some (vI k), some (vI r), none, none, none, none], [vI k, vI r, vR 74], MW b (upI J 111 r.toNat (-1)) L)) (ps := [0 ≤ r ∧ r < ((10 : Nat) : Int)]) rfl (by simp only [all_, i32, i64]; first | omega | (simp; done) | (simp; omega)) ?_
      refine rch_call (h' := 2) (k' := 110) (as := [vR 74, vI r, vI k]) (t1 := (26, [some (vR 74), some (vI d), some (vI k), some (vI r), none, none, none, none], [], MW b (upI J 111 r.toNat (-1)) L)) cdK147 rfl (k_X12_isThere l E b (upI J 111 r.toNat (-1)) L r k (by show J 74 4 ≤ 10; omega)) (by decide) mw_le ?_
      rintro rt9 w9 (⟨k57, rfl, rfl⟩ | ⟨k57, rfl, rfl⟩) _ _
      · show Rch l E 5 147 _ _ _ _ (26, [some (vR 74), some (vI d), some (vI k), some (vI r), none, none, none, none], [vI 1], MW b (upI J 111 r.toNat (-1)) L)
        have k57 : (0 ≤ r ∧ r < J 74 4 ∧ J 80 r.toNat = 0) ∧ J 79 r.toNat ≤ k := k57
        refine rch_br cdK147 (cd := (1 : Int) ≠ 0) (t1 := (32, [some (vR 74), some (vI d), some (vI k), some (vI r), none, none, none, none], [], MW b (upI J 111 r.toNat (-1)) L)) (t2 := (29, [some (vR 74), some (vI d), some (vI k), some (vI r), none, none, none, none], [], MW b (upI J 111 r.toNat (-1)) L)) rfl (fun _ => ?_) (fun c9 => absurd (by decide) c9)
        refine rch_run cdK147 (by decide) 14 (t' := (7, [some (vR 74), some (vI d), some (vI k), some (vI (r + 1)), none, none, none, none], [], MW b (upI (upI (upI J 111 r.toNat (-1)) 110 (J 74 55).toNat r) 74 55 ((J 74 55) + 1)) L)) (ps := [0 ≤ J 74 55 ∧ J 74 55 < ((10 : Nat) : Int), i32 ((J 74 55) + 1), i32 (r + 1)]) rfl (by simp only [all_, i32, i64]; first | omega | (simp; done) | (simp; omega)) ?_
        exact ih (r + 1) _ (by omega) (by omega) (Gt1_yes h3 (by omega) (by omega)) (by omega)
      · show Rch l E 5 147 _ _ _ _ (26, [some (vR 74), some (vI d), some (vI k), some (vI r), none, none, none, none], [vI 0], MW b (upI J 111 r.toNat (-1)) L)
        have k57 : ¬ ((0 ≤ r ∧ r < J 74 4 ∧ J 80 r.toNat = 0) ∧ J 79 r.toNat ≤ k) := k57
        refine rch_br cdK147 (cd := (0 : Int) ≠ 0) (t1 := (32, [some (vR 74), some (vI d), some (vI k), some (vI r), none, none, none, none], [], MW b (upI J 111 r.toNat (-1)) L)) (t2 := (29, [some (vR 74), some (vI d), some (vI k), some (vI r), none, none, none, none], [], MW b (upI J 111 r.toNat (-1)) L)) rfl (fun c9 => absurd c9 (by decide)) (fun _ => ?_)
        refine rch_run cdK147 (by decide) 3 (t' := (7, [some (vR 74), some (vI d), some (vI k), some (vI (r + 1)), none, none, none, none], [], MW b (upI J 111 r.toNat (-1)) L)) (ps := [i32 (r + 1)]) rfl (by simp only [all_, i32, i64]; first | omega | (simp; done) | (simp; omega)) ?_
        exact ih (r + 1) _ (by omega) (by omega) (Gt1_no h3 (by omega) (by omega)) (by omega)

set_option maxHeartbeats 20000000 in
set_option maxRecDepth 100000 in
theorem k_partM (l : Launch) (E : AX) (b : Bool) (I L : Nat → Nat → Int) (d k : Int) (hn : 0 ≤ I 74 4 ∧ I 74 4 ≤ 10) (hH : 0 ≤ I 74 43 ∧ I 74 43 ≤ 20) (hB : MBK I) (hM : VMK I) (h0 : I 114 0 = 0 ∧ I 115 0 = 0) : Con l E 5 147 [vR 74, vI d, vI k] (MW b I L) 0 0 (fun rt w => ∃ J, rt = none ∧ w = MW b J L ∧ PtM I J d k) := by
  refine con_ok (fun hw9 hs9 => ?_)
  refine con_intro (by decide) (Nat.le_of_ble_eq_true rfl) ?_
  show Rch l E 5 147 _ _ _ _ (0, [some (vR 74), some (vI d), some (vI k), none, none, none, none, none], [], MW b I L)
  refine rch_run cdK147 (by decide) 5 (t' := (7, [some (vR 74), some (vI d), some (vI k), some (vI 0), none, none, none, none], [], MW b (upI I 74 55 0) L)) (ps := []) rfl trivial ?_
  refine lp_part1 l E b I L d k hn _ (fun J1 g1 => ?_) 11 0 _ (by omega) (by omega) ⟨fun a j ha => upI_ne (by omega), upI_eq rfl rfl, fun q hq => absurd hq (by simp), fun q hq => absurd hq (by simp)⟩ (by omega)
  have h10 := cnt_le (thM I k) 10
  have h55 := g1.2.1
  have hB9 : MBK J1 := by unfold MBK; rw [g1.1 74 20 (by omega), show J1 90 = I 90 from funext (fun z => g1.1 90 z (by omega)), show J1 87 = I 87 from funext (fun z => g1.1 87 z (by omega)), show J1 91 = I 91 from funext (fun z => g1.1 91 z (by omega))]; exact hB
  have hM9 : VMK J1 := by unfold VMK; rw [g1.1 74 5 (by omega), show J1 83 = I 83 from funext (fun z => g1.1 83 z (by omega))]; exact hM
  have hro : ∀ j : Nat, j < cnt (thM I k) 10 → 0 ≤ J1 110 j ∧ J1 110 j < 10 := fun j hj => by obtain ⟨r, r1, r2, r3, r4⟩ := Gt1_row g1 (i := j) (by omega); rw [r3]; omega
  refine lp_part2 l E b I J1 L d k (cnt (thM I k) 10) h10 h55 (by rw [g1.1 74 43 (by omega)]; exact hH) hro hB9 hM9 _ (fun J2 g2 g3 => ?_) 11 0 J1 (by omega) (by omega) (fun _ _ _ => rfl) (fun x y hxy hc => by omega) (by omega)
  have q55 : J2 74 55 = (cnt (thM I k) 10 : Int) := by rw [g2 74 55 (by omega)]; exact h55
  have e114 : J2 114 0 = 0 := by rw [g2 114 0 (by omega), g1.1 114 0 (by omega)]; exact h0.1
  have e115 : J2 115 0 = 0 := by rw [g2 115 0 (by omega), g1.1 115 0 (by omega)]; exact h0.2
  refine rch_run cdK147 (by decide) 3 (t' := (279, [some (vR 74), some (vI d), some (vI k), some (vI ((cnt (thM I k) 10 : Nat) : Int)), none, none, none, none], [vI (J2 74 55), vR 74], MW b J2 L)) (ps := []) rfl trivial ?_
  refine rch_br cdK147 (cd := J2 74 55 ≠ 0) (t1 := (286, [some (vR 74), some (vI d), some (vI k), some (vI ((cnt (thM I k) 10 : Nat) : Int)), none, none, none, none], [vR 74], MW b J2 L)) (t2 := (282, [some (vR 74), some (vI d), some (vI k), some (vI ((cnt (thM I k) 10 : Nat) : Int)), none, none, none, none], [vR 74], MW b J2 L)) rfl (fun c279_1 => ?_) (fun c279_1 => ?_)
  · refine rch_run cdK147 (by decide) 15 (t' := (309, [some (vR 74), some (vI d), some (vI k), some (vI 0), none, none, none, none], [], MW b (upI (upI (upI (upI J2 74 58 0) 74 56 0) 74 57 0) 113 0 0) L)) (ps := [(0 : Int) = 0 ∨ (0 : Int) = 1, 0 ≤ (0 : Int) ∧ (0 : Int) < ((10 : Nat) : Int)]) rfl (by simp only [all_, i32, i64]; first | omega | (simp; done) | (simp; omega)) ?_
    refine rch_forget [4, 5, 6, 7] ?_
    show Rch l E 5 147 _ _ _ _ (309, [some (vR 74), some (vI d), some (vI k), some (vI 0), none, none, none, none], [], MW b (upI (upI (upI (upI J2 74 58 0) 74 56 0) 74 57 0) 113 0 0) L)
    refine lp_part3 l E b I (I3c J2 0) L d k (cnt (thM I k) 10) (by omega) (by rw [I3_f J2 0 74 55 (by omega)]; omega) (fun i j hj hi => ?_) (fun j hj => ?_) (fun i j hi hj he => ?_) _ (fun J4 hz hz0 => ?_) 1792160394040 0 (I3c J2 0) (by omega) (PZ_0 (by omega) (fun _ _ _ => rfl) (fun _ => rfl) rfl ((I3_f J2 0 114 0 (by omega)).trans e114) ((I3_f J2 0 115 0 (by omega)).trans e115) rfl) ⟨(I3_f J2 0 114 0 (by omega)).trans e114, (I3_f J2 0 115 0 (by omega)).trans e115⟩ ?_
    · unfold srM; rw [I3_f J2 0 116 _ (by omega), (g3 i j hj hi).1]; have := msm_rg hB9 (J1 110 j) (J1 110 i) d k (J1 74 20).toNat (by have := hB9.1; omega); have := hB9.1; omega
    · rw [I3_f J2 0 74 55 (by omega)] at hj; rw [I3_f J2 0 110 j (by omega), g2 110 j (by omega)]; exact hro j (by omega)
    · rw [I3_f J2 0 74 55 (by omega)] at hi hj; rw [I3_f J2 0 110 i (by omega), I3_f J2 0 110 j (by omega), g2 110 i (by omega), g2 110 j (by omega)] at he
      obtain ⟨r, r1, r2, r3, r4⟩ := Gt1_row g1 (i := i) (by omega)
      obtain ⟨q, q1, q2, q3, q4⟩ := Gt1_row g1 (i := j) (by omega)
      rw [r3, q3] at he
      rw [r4, q4, show r = q by omega]
    · obtain ⟨z1, z2, z3⟩ := hz
      have z4 : DFe (muM (I3c J2 0)) (mnM (I3c J2 0)) (srM (I3c J2 0)) (cnt (thM I k) 10) J4 := by rcases z3 with ⟨w1, _⟩ | ⟨_, w⟩; (exfalso; omega); exact w
      have e117 : J4 117 = (I3c J2 0) 117 := funext (fun j => z1 117 j (by omega))
      have e116 : J4 116 = (I3c J2 0) 116 := funext (fun j => z1 116 j (by omega))
      refine ⟨J4, rfl, rfl, pt_rows g1 g2 g3 (fun a j ha => by rw [z1 a j (by omega)]; exact I3_f J2 0 a j (by omega)) (fun r hr ht => ?_) hz0 (Or.inr ⟨by omega, ?_⟩)⟩
      · rw [z2 r (fun j hj => ?_)]; exact I3_f J2 0 111 r (by omega)
        obtain ⟨q, q1, q2, q3, q4⟩ := Gt1_row g1 (i := j) (by omega)
        rw [I3_f J2 0 110 j (by omega), g2 110 j (by omega), q3]
        intro e
        rw [show q = r by omega, ht] at q2
        exact absurd q2 (by decide)
      · unfold muM mnM srM at z4 ⊢
        rw [e117, e116]
        exact z4
    · rw [show ((0 : Int) + 1).toNat = 0 + 1 from rfl, tot_s, show tot (I3c J2 0 113) 0 = 0 from rfl, show I3c J2 0 113 0 = 0 from rfl]
      decide
  · refine rch_run cdK147 (by decide) 16 (t' := (309, [some (vR 74), some (vI d), some (vI k), some (vI 0), none, none, none, none], [], MW b (upI (upI (upI (upI J2 74 58 1) 74 56 0) 74 57 0) 113 0 0) L)) (ps := [(1 : Int) = 0 ∨ (1 : Int) = 1, 0 ≤ (0 : Int) ∧ (0 : Int) < ((10 : Nat) : Int)]) rfl (by simp only [all_, i32, i64]; first | omega | (simp; done) | (simp; omega)) ?_
    refine rch_forget [4, 5, 6, 7] ?_
    show Rch l E 5 147 _ _ _ _ (309, [some (vR 74), some (vI d), some (vI k), some (vI 0), none, none, none, none], [], MW b (upI (upI (upI (upI J2 74 58 1) 74 56 0) 74 57 0) 113 0 0) L)
    exact p3_zero l E b I (upI (upI (upI (upI J2 74 58 1) 74 56 0) 74 57 0) 113 0 0) L d k (by show (I3c J2 1) 74 55 = 0; rw [I3_f J2 1 74 55 (by omega)]; omega) _ ⟨_, rfl, rfl, pt_rows g1 g2 g3 (fun a j ha => I3_f J2 1 a j (by omega)) (fun r _ _ => I3_f J2 1 111 r (by omega)) ⟨(I3_f J2 1 114 0 (by omega)).trans e114, (I3_f J2 1 115 0 (by omega)).trans e115⟩ (Or.inl ⟨by omega, rfl, rfl, rfl⟩)⟩
