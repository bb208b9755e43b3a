-- PAIRS of questions
theorem kb_about (l : Launch) (E : AX) (b : Bool) (I L : Nat → Nat → Int) (x : Int) : Con l E 1 89 [vR 0, vI x] (MW b I L) 0 0 (fun rt w => ((x = 0) ∧ rt = some (vI (I 0 0)) ∧ w = MW b I L) ∨ ((x = 1) ∧ rt = some (vI (I 17 0)) ∧ w = MW b I L) ∨ ((x = 2) ∧ rt = some (vI (I 21 0)) ∧ w = MW b I L) ∨ ((x = 3) ∧ rt = some (vI (I 32 0)) ∧ w = MW b I L) ∨ ((x = 4) ∧ rt = some (vI (I 38 0)) ∧ w = MW b I L) ∨ ((x = 5) ∧ rt = some (vI (I (bkb b) 0)) ∧ w = MW b I L) ∨ ((x = 6) ∧ rt = some (vI (I 66 0)) ∧ w = MW b I L) ∨ ((x = 7) ∧ rt = some (vI (I 28 0)) ∧ w = MW b I L) ∨ ((x < 0 ∨ 7 < x) ∧ rt = some (vI (-1)) ∧ w = MW b I L)) := by
  cases b
  · exact k_X11_about_f l E false I L x
  · exact k_X11_about_t l E true I L x
theorem pr_about (l : Launch) (E : AX) (b : Bool) (I L : Nat → Nat → Int) (x : Int) (hI : Inv (bkb b) I) : Pair l E b I L 1 89 1 165 [vI x] := by
  have hI0 := hI
  obtain ⟨a1, a2, a3, a4, a5, a6, a7, a8, a9, a10, a11, a12⟩ := hI0
  have e0 := a1.1
  have e1 : I 17 0 = I 74 4 := a4.2.2.1.1
  have e2 : I 21 0 = I 74 5 := a4.2.2.1.2.1
  have e3 : I 32 0 = I 74 43 := a5.2.1
  have e4 : I 38 0 = I 74 44 := a6.1.1
  have e5 : I (bkb b) 0 = I 74 20 := a10.2.1
  have e6 : I 66 0 = I 74 75 := a7.1
  have e7 : I 28 0 = I 74 30 := a8.1
  refine con_imp (kb_about l E b I L x) ?_
  rintro rt w (⟨c1, h0, h1⟩ | ⟨c1, h0, h1⟩ | ⟨c1, h0, h1⟩ | ⟨c1, h0, h1⟩ | ⟨c1, h0, h1⟩ | ⟨c1, h0, h1⟩ | ⟨c1, h0, h1⟩ | ⟨c1, h0, h1⟩ | ⟨c1, h0, h1⟩)
  all_goals
    refine ⟨b, I, L, _, h0, h1, ?_⟩
    refine con_imp (k_X12_about l E b I L x) ?_
    rintro rt w (⟨c2, h0, h2⟩ | ⟨c2, h0, h2⟩ | ⟨c2, h0, h2⟩ | ⟨c2, h0, h2⟩ | ⟨c2, h0, h2⟩ | ⟨c2, h0, h2⟩ | ⟨c2, h0, h2⟩ | ⟨c2, h0, h2⟩ | ⟨c2, h0, h2⟩)
    all_goals first
      | (exfalso; omega)
      | exact ⟨I, L, by rw [h0]; first | rw [e0] | rw [e1] | rw [e2] | rw [e3] | rw [e4] | rw [e5] | rw [e6] | rw [e7], h2, hI⟩
      | exact ⟨I, L, h0, h2, hI⟩
-- feed
def FdC (I0 J : Nat → Nat → Int) (n m : Nat) (f : Nat → Int) : Prop := J 28 0 = ((n + m : Nat) : Int) ∧ (∀ j, j < m → J 29 (n + j) = f j ∧ J 30 (n + j) = srt (f j)) ∧ ∀ a i, ¬ (a = 28 ∧ i = 0) → ¬ ((a = 29 ∨ a = 30) ∧ n ≤ i ∧ i < n + m) → J a i = I0 a i
def FdM (I0 J : Nat → Nat → Int) (n m : Nat) (f : Nat → Int) : Prop := J 74 30 = ((n + m : Nat) : Int) ∧ (∀ j, j < m → J 97 (n + j) = f j) ∧ ∀ a i, ¬ (a = 74 ∧ i = 30) → ¬ (a = 97 ∧ n ≤ i ∧ i < n + m) → J a i = I0 a i
def fdN (m : Nat) (f : Nat → Int) (x : Int) : Nat → Int := fun j => if j < m then f j else by4 x (j - m)
theorem FdC_s {I0 J J2 : Nat → Nat → Int} {n m : Nat} {f : Nat → Int} {x : Int} (h : FdC I0 J n m f) (h2 : ApC J J2 x) : FdC I0 J2 n (m + 4) (fdN m f x) := by
  obtain ⟨a1, a2, a3⟩ := h
  obtain ⟨b1, b2, b3⟩ := h2
  have e : (J 28 0).toNat = n + m := by omega
  rw [e] at b2 b3
  refine ⟨by omega, fun j hj => ?_, fun a i h1 h3 => by rw [b3 a i h1 (by omega)]; exact a3 a i h1 (by omega)⟩
  unfold fdN
  by_cases c : j < m
  · rw [if_pos c, b3 29 _ (by omega) (by omega), b3 30 _ (by omega) (by omega)]
    exact a2 j c
  · rw [if_neg c, show n + j = n + m + (j - m) by omega]
    exact b2 (j - m) (by omega)
theorem FdM_s {I0 J J2 : Nat → Nat → Int} {n m : Nat} {f : Nat → Int} {x : Int} (h : FdM I0 J n m f) (h2 : ApM J J2 x) : FdM I0 J2 n (m + 4) (fdN m f x) := by
  obtain ⟨a1, a2, a3⟩ := h
  obtain ⟨b1, b2, b3⟩ := h2
  have e : (J 74 30).toNat = n + m := by omega
  rw [e] at b2 b3
  refine ⟨by omega, fun j hj => ?_, fun a i h1 h3 => by rw [b3 a i h1 (by omega)]; exact a3 a i h1 (by omega)⟩
  unfold fdN
  by_cases c : j < m
  · rw [if_pos c, b3 97 _ (by omega) (by omega)]
    exact a2 j c
  · rw [if_neg c, show n + j = n + m + (j - m) by omega]
    exact b2 (j - m) (by omega)
theorem fdN_rg {m : Nat} {f : Nat → Int} {x : Int} (h : ∀ j, 0 ≤ f j ∧ f j ≤ 255) : ∀ j, 0 ≤ fdN m f x j ∧ fdN m f x j ≤ 255 := fun j => by
  unfold fdN
  split
  · exact h j
  · exact by4_rg _ _
theorem inv_feed {bk : Nat} {I J K : Nat → Nat → Int} (hI : Inv bk I) (hbk : bk = 1 ∨ bk = 7) {f : Nat → Int} (hR : ∀ j, 0 ≤ f j ∧ f j ≤ 255) (h480 : I 28 0 ≤ 480) (h1 : FdC I J (I 28 0).toNat 20 f) (h2 : FdM J K (I 28 0).toNat 20 f) : Inv bk K := by
  obtain ⟨a1, a2, a3, a4, a5, a6, a7, a8, a9, a10, a11, a12⟩ := hI
  have fr : ∀ a j, ¬ ((a = 28 ∧ j = 0) ∨ a = 29 ∨ a = 30 ∨ (a = 74 ∧ j = 30) ∨ a = 97) → K a j = I a j := fun a j z => by
    rw [h2.2.2 a j (by omega) (by omega)]
    exact h1.2.2 a j (by omega) (by omega)
  refine ⟨A1_c (fun a j z => fr a j (by omega)) a1, A2_c (fun a j z => fr a j (by omega)) a2, A3_c (fun a j z => fr a j (by omega)) a3, A4_c (fun a j z => fr a j (by omega)) a4, A5_c (fun a j z => fr a j (by omega)) a5, A6_c (fun a j z => fr a j (by omega)) a6, A7_c (fun a j z => fr a j (by omega)) a7, ?_, A9_c (fun a j z => fr a j (by omega)) a9, A10_c (fun a j z => fr a j (by omega)) a10, A11_c (fun a j z => fr a j (by omega)) a11, A12_c (fun a j z => fr a j (by omega)) a12⟩
  obtain ⟨t1, t2, t3⟩ := a8
  have t4 := t2.1
  have k28 : K 28 0 = (((I 28 0).toNat + 20 : Nat) : Int) := by rw [h2.2.2 28 0 (by omega) (by omega)]; exact h1.1
  have k29 : ∀ j, K 29 j = J 29 j := fun j => h2.2.2 29 j (by omega) (by omega)
  have k30 : ∀ j, K 30 j = J 30 j := fun j => h2.2.2 30 j (by omega) (by omega)
  refine ⟨by rw [k28]; exact h2.1.symm, ⟨by omega, fun j hj => ?_⟩, fun j => ?_⟩
  · rw [k28] at hj
    rw [k29, k30]
    by_cases c : j < (I 28 0).toNat
    · rw [h1.2.2 29 j (by omega) (by omega), h1.2.2 30 j (by omega) (by omega)]
      exact t2.2 j (by omega)
    · have h3 := h1.2.1 (j - (I 28 0).toNat) (by omega)
      rw [show (I 28 0).toNat + (j - (I 28 0).toNat) = j by omega] at h3
      rw [h3.1, h3.2]
      exact ⟨hR _, rfl⟩
  · rw [k29]
    by_cases c : j < (I 28 0).toNat ∨ (I 28 0).toNat + 20 ≤ j
    · rw [h1.2.2 29 j (by omega) (by omega), h2.2.2 97 j (by omega) (by omega), h1.2.2 97 j (by omega) (by omega)]
      exact t3 j
    · have h3 := h1.2.1 (j - (I 28 0).toNat) (by omega)
      have h4 := h2.2.1 (j - (I 28 0).toNat) (by omega)
      rw [show (I 28 0).toNat + (j - (I 28 0).toNat) = j by omega] at h3 h4
      rw [h3.1, h4]
theorem pr_feed (l : Launch) (E : AX) (b : Bool) (I L : Nat → Nat → Int) (x y z p q : Int) (hI : Inv (bkb b) I) : Pair l E b I L 3 70 2 119 [vI x, vI y, vI z, vI p, vI q] := by
  have hbk := bk_b b
  have hI0 := hI
  obtain ⟨a1, a2, a3, a4, a5, a6, a7, a8, a9, a10, a11, a12⟩ := hI0
  have e8 := a8.1
  have t8 := a8.2.1.1
  refine con_imp (k_X11_feed l E b I L x y z p q t8) ?_
  rintro rt w (⟨c1, I1, I2, I3, I4, I5, h0, h1, g1, g2, g3, g4, g5⟩ | ⟨c1, h0, h1⟩)
  · have F0 : FdC I I (I 28 0).toNat 0 (fun _ => 0) := ⟨by omega, fun j hj => absurd hj (by omega), fun _ _ _ _ => rfl⟩
    have F := FdC_s (FdC_s (FdC_s (FdC_s (FdC_s F0 g1) g2) g3) g4) g5
    have R := fdN_rg (m := 0 + 4 + 4 + 4 + 4) (x := q) (fdN_rg (m := 0 + 4 + 4 + 4) (x := p) (fdN_rg (m := 0 + 4 + 4) (x := z) (fdN_rg (m := 0 + 4) (x := y) (fdN_rg (m := 0) (x := x) (f := fun _ => 0) (fun _ => ⟨by omega, by omega⟩)))))
    have f30 : I5 74 30 = I 74 30 := F.2.2 74 30 (by omega) (by omega)
    refine ⟨b, I5, L, _, h0, h1, con_imp (k_X12_feed l E b I5 L x y z p q (by rw [f30]; omega)) ?_⟩
    rintro rt w (⟨c2, K1, K2, K3, K4, K5, h0, h2, d1, d2, d3, d4, d5⟩ | ⟨c2, h0, h2⟩)
    · have G0 : FdM I5 I5 (I 28 0).toNat 0 (fun _ => 0) := ⟨by rw [f30]; omega, fun j hj => absurd hj (by omega), fun _ _ _ _ => rfl⟩
      have G := FdM_s (FdM_s (FdM_s (FdM_s (FdM_s G0 d1) d2) d3) d4) d5
      exact ⟨K5, L, by rw [h0, G.1, F.1], h2, inv_feed hI hbk R c1 F G⟩
    · rw [f30] at c2
      exfalso
      omega
  · refine ⟨b, I, L, _, h0, h1, con_imp (k_X12_feed l E b I L x y z p q (by omega)) ?_⟩
    rintro rt w (⟨c2, _⟩ | ⟨c2, h0, h2⟩)
    · exfalso
      omega
    · exact ⟨I, L, h0, h2, hI⟩
theorem look_inv {bk : Nat} {I J : Nat → Nat → Int} {d k : Int} (hbk : bk = 1 ∨ bk = 7) (hI : Inv bk I) (h : LookR I J d k) : Inv bk J ∧ SG J d k := by
  have hI0 := hI
  obtain ⟨a1, a2, a3, a4, a5, a6, a7, a8, a9, a10, a11, a12⟩ := hI0
  obtain ⟨s1, s2, s3, s4⟩ := look_SG a11.1 h
  refine ⟨Inv_q (fun a j z => s2 a j (by unfold Core at z; omega)) hI ⟨fun _ => by rw [s1.1, s1.2.1]; exact s1, fun z1 z2 => ?_⟩ (A12_c (fun a j z => s2 a j (by omega)) a12), s1⟩
  have e := s4 z2
  rw [e] at z1 z2 ⊢
  exact a11.2 z1 z2
theorem th_iff {J : Nat → Nat → Int} {d k : Int} (h : A4 J) (hs : SG J d k) (p : Int) : (0 ≤ p ∧ p < 10 ∧ J 45 p.toNat ≠ 0) ↔ rwK J p k := by
  have hT := h.2.2.1
  have h17 := h.1.1
  have e0 : J 17 0 = J 74 4 := hT.1
  unfold rwK
  constructor
  · rintro ⟨p0, p1, p2⟩
    have hr := (thB_row hs (show p.toNat < 10 by omega)).mp (decide_eq_true p2)
    obtain ⟨q1, q2, q3⟩ := hT.2.2.1 p.toNat hr.1
    exact ⟨p0, by omega, by rw [← q3]; exact hr.2.1, by rw [← q2]; exact hr.2.2⟩
  · rintro ⟨p0, p1, p2, p3⟩
    obtain ⟨q1, q2, q3⟩ := hT.2.2.1 p.toNat (by omega)
    have hr := (thB_row hs (show p.toNat < 10 by omega)).mpr ⟨by omega, by rw [q3]; exact p2, by rw [q2]; exact p3⟩
    exact ⟨p0, by omega, of_decide_eq_true hr⟩
theorem vo_none {J : Nat → Nat → Int} (h : A4 J) {r f d k : Int} (hr : 0 ≤ r ∧ r < J 17 0) (hk : k < J 19 r.toNat) : vo (J 81) (J 82) (J 83) (J 84) (J 85) r f d k (J 74 5).toNat = -1 := by
  unfold vo
  have hb := bv_rg (J 81) (J 82) (J 84) (J 85) r f d k (J 74 5).toNat
  have ho := bv_ok (ro := J 81) (fi := J 82) (fr := J 84) (to := J 85) (r := r) (f := f) (d := d) (k := k) (J 74 5).toNat
  generalize bv (J 81) (J 82) (J 84) (J 85) r f d k (J 74 5).toNat = v at hb ho ⊢
  rcases Int.lt_or_le v 0 with z | z
  · rw [if_pos z]
  · exfalso
    obtain ⟨o1, o2, o3, o4⟩ := ho z
    have e5 : J 21 0 = J 74 5 := h.2.2.1.2.1
    have v5 := h.1.2.1
    obtain ⟨_, _, _, hv⟩ := h.2.1 v.toNat (by omega)
    obtain ⟨t1, _, _, _, t5, _⟩ := h.2.2.1.2.2.2 v.toNat (by omega)
    rw [t1, o3, t5] at hv
    omega
theorem val_eq {J : Nat → Nat → Int} {d k : Int} (h : A4 J) (hs : SG J d k) (r f : Int) : (if (0 ≤ r ∧ r < 10 ∧ J 45 r.toNat ≠ 0) ∧ 0 ≤ f ∧ f ≤ 5 then J 46 ((r * 6) + f).toNat else -1) = (if (0 ≤ r ∧ r < J 74 4 ∧ J 80 r.toNat = 0) ∧ 0 ≤ f ∧ f ≤ 5 then vo (J 81) (J 82) (J 83) (J 84) (J 85) r f d k (J 74 5).toNat else -1) := by
  have hth := th_iff h hs r
  have e0 : J 17 0 = J 74 4 := h.2.2.1.1
  have h17 := h.1.1
  by_cases c : (0 ≤ r ∧ r < 10 ∧ J 45 r.toNat ≠ 0) ∧ 0 ≤ f ∧ f ≤ 5
  · have hr := hth.mp c.1
    unfold rwK at hr
    rw [if_pos c, if_pos ⟨⟨hr.1, hr.2.1, hr.2.2.1⟩, c.2⟩]
    have := val_vo h.2.2.1 h.1 hs (r := r.toNat) (f := f) (by omega) c.2 (decide_eq_true c.1.2.2)
    rw [show ((r.toNat : Nat) : Int) = r by omega] at this
    exact this
  · rw [if_neg c]
    by_cases c2 : (0 ≤ r ∧ r < J 74 4 ∧ J 80 r.toNat = 0) ∧ 0 ≤ f ∧ f ≤ 5
    · rw [if_pos c2]
      have hn : ¬ rwK J r k := fun z => c ⟨hth.mpr z, c2.2⟩
      have ht := h.2.2.1.2.2.1 r.toNat (by omega)
      refine (vo_none h ⟨c2.1.1, by omega⟩ ?_).symm
      rcases Int.lt_or_le k (J 19 r.toNat) with z | z
      · exact z
      · exact absurd ⟨c2.1.1, c2.1.2.1, c2.1.2.2, by rw [← ht.2.1]; exact z⟩ hn
    · rw [if_neg c2]
theorem pr_value (l : Launch) (E : AX) (b : Bool) (I L : Nat → Nat → Int) (r f d k : Int) (hI : Inv (bkb b) I) : Pair l E b I L 4 67 3 116 [vI r, vI f, vI d, vI k] := by
  have hbk := bk_b b
  refine con_imp (k_X11_value l E b I L r f d k hI.2.2.2.1.1) ?_
  rintro rt w ⟨J, h1, hL, hv⟩
  obtain ⟨hJ, hs⟩ := look_inv hbk hI hL
  have h4 := hJ.2.2.2.1
  have ve := val_eq h4 hs r f
  have hrt : rt = some (vI (if (0 ≤ r ∧ r < 10 ∧ J 45 r.toNat ≠ 0) ∧ 0 ≤ f ∧ f ≤ 5 then J 46 ((r * 6) + f).toNat else -1)) := by
    rcases hv with ⟨c, e⟩ | ⟨c, e⟩
    · rw [if_pos c]; exact e
    · rw [if_neg c]; exact e
  refine ⟨b, J, L, _, hrt, h1, con_imp (k_X12_value l E b J L r f d k (by rw [← h4.2.2.1.1]; exact h4.1.1.2) (by rw [← h4.2.2.1.2.1]; exact h4.1.2.1)) ?_⟩
  rintro rt w (⟨c2, h0, h2⟩ | ⟨c2, h0, h2⟩)
  · exact ⟨J, L, by rw [h0, ve, if_pos c2], h2, hJ⟩
  · exact ⟨J, L, by rw [h0, ve, if_neg c2], h2, hJ⟩
theorem kb_score (l : Launch) (E : AX) (b : Bool) (I L : Nat → Nat → Int) (p q d k : Int) (hP : POK (bkb b) I) : Con l E 4 74 [vR 0, vI p, vI q, vI d, vI k] (MW b I L) 0 0 (fun rt w => ∃ J, w = MW b J L ∧ LookR I J d k ∧ (((p ≠ q ∧ (0 ≤ p ∧ p < 10 ∧ J 45 p.toNat ≠ 0) ∧ (0 ≤ q ∧ q < 10 ∧ J 45 q.toNat ≠ 0)) ∧ rt = some (vI (csc J (bkb b) p q))) ∨ (¬ (p ≠ q ∧ (0 ≤ p ∧ p < 10 ∧ J 45 p.toNat ≠ 0) ∧ (0 ≤ q ∧ q < 10 ∧ J 45 q.toNat ≠ 0)) ∧ rt = some (vI 0)))) := by
  cases b
  · exact k_X11_score_f l E I L p q d k hP
  · exact k_X11_score_t l E I L p q d k hP
theorem inv_99 {bk : Nat} {J J2 : Nat → Nat → Int} (hbk : bk = 1 ∨ bk = 7) (hJ : Inv bk J) (fr : ∀ a i, a ≠ 99 → J2 a i = J a i) : Inv bk J2 :=
  Inv_q (fun a j z => fr a j (by unfold Core at z; omega)) hJ (A11_c (fun a j z => fr a j (by omega)) hJ.2.2.2.2.2.2.2.2.2.2.1) (A12_c (fun a j z => fr a j (by omega)) hJ.2.2.2.2.2.2.2.2.2.2.2)
theorem pr_score (l : Launch) (E : AX) (b : Bool) (I L : Nat → Nat → Int) (p q d k : Int) (hI : Inv (bkb b) I) : Pair l E b I L 4 74 5 141 [vI p, vI q, vI d, vI k] := by
  have hbk := bk_b b
  refine con_imp (kb_score l E b I L p q d k (POK_of hI)) ?_
  rintro rt w ⟨J, h1, hL, hv⟩
  obtain ⟨hJ, hs⟩ := look_inv hbk hI hL
  have h4 := hJ.2.2.2.1
  have hp := th_iff h4 hs p
  have hq := th_iff h4 hs q
  have hPM := PMk_of hJ
  have hA := hJ.2.2.2.2.2.2.2.2.2.1
  have key : ∀ v, rt = some (vI v) → (((p ≠ q ∧ rwK J p k ∧ rwK J q k) ∧ v = msm J p q d k (J 74 20).toNat) ∨ (¬ (p ≠ q ∧ rwK J p k ∧ rwK J q k) ∧ v = 0)) → ∃ b1 J1 M v, rt = some (vI v) ∧ w = MW b1 J1 M ∧ Con l E 5 141 (vR 74 :: [vI p, vI q, vI d, vI k]) (MW b1 J1 M) 0 0 (fun rt w => ∃ J2 M2, rt = some (vI v) ∧ w = MW b1 J2 M2 ∧ Inv (bkb b1) J2) := by
    intro v hr hv
    refine ⟨b, J, L, v, hr, h1, con_imp (k_X12_score l E b J L p q d k hPM.1 hPM.2.2.1 hPM.2.2.2.1) ?_⟩
    rintro rt w ⟨J2, h2, f2, ⟨c2, h0⟩ | ⟨c2, h0⟩⟩
    · rcases hv with ⟨_, hv⟩ | ⟨hn, _⟩
      · exact ⟨J2, L, by rw [h0, hv], h2, inv_99 hbk hJ f2⟩
      · exact absurd c2 hn
    · rcases hv with ⟨hn, _⟩ | ⟨_, hv⟩
      · exact absurd hn c2
      · exact ⟨J2, L, by rw [h0, hv], h2, inv_99 hbk hJ f2⟩
  rcases hv with ⟨c, e⟩ | ⟨c, e⟩
  · refine key _ e (Or.inl ⟨⟨c.1, hp.mp c.2.1, hq.mp c.2.2⟩, ?_⟩)
    have := csc_msm (p := p.toNat) (q := q.toNat) h4.2.2.1 h4.1 hs hA.2 hA.1 hPM.2.2.2.1 (by omega) (by omega) (decide_eq_true c.2.1.2.2) (decide_eq_true c.2.2.2.2)
    rw [show ((p.toNat : Nat) : Int) = p by omega, show ((q.toNat : Nat) : Int) = q by omega] at this
    exact this
  · exact key _ e (Or.inr ⟨fun z => c ⟨z.1, hp.mpr z.2.1, hq.mpr z.2.2⟩, rfl⟩)
