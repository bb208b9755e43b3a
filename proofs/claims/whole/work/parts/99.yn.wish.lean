-- PAIRS of wishes
theorem bsx_rg2 {S T : Int → Int} {lo hi : Int} : ∀ (l : List Int) (c : Int), lo ≤ c ∧ c ≤ hi → (∀ x ∈ l, lo ≤ x ∧ x ≤ hi) → lo ≤ l.foldl (pik S T) c ∧ l.foldl (pik S T) c ≤ hi
  | [], c, hc, _ => hc
  | x :: l, c, hc, h => by
    rw [List.foldl_cons]
    refine bsx_rg2 l _ ?_ (fun y hy => h y (List.mem_cons_of_mem _ hy))
    unfold pik
    split
    · exact h x List.mem_cons_self
    · exact hc
theorem rV_rg {Q : Nat → Bool} {A S W : Nat → Int} (h : ∀ r, r < 10 → Q r = true → -1 ≤ A r ∧ A r ≤ 999999) : -1 ≤ rV Q A S W ∧ rV Q A S W ≤ 999999 := by
  unfold rV bsx
  refine bsx_rg2 _ _ ⟨by omega, by omega⟩ (fun x hx => ?_)
  obtain ⟨i, h1, h2⟩ := dst_mem.mp hx
  obtain ⟨r, r1, r2, r3⟩ := cnt_at h1
  have e : vva Q A i = A r := by
    unfold vva
    rw [← r3, fi_at r1 r2]
  rw [← h2, e]
  exact h r r1 r2
theorem gdC_rg {bk : Nat} {J : Nat → Nat → Int} {d k : Int} (hJ : Inv bk J) (hs : SG J d k) (p : Int) {f : Int} (hf : 0 ≤ f ∧ f ≤ 5) : -1 ≤ gdC J p f ∧ gdC J p f ≤ 999999 := by
  have hv := SG_vals hs hJ.2.2.2.1.1 (fun j hj => (hJ.2.2.2.1.2.1 j hj).2.1)
  have h6 := hJ.2.2.2.2.2.1
  have h38 := h6.2.1
  have hl := lst_rg (fxA J p f) (J 38 0).toNat
  unfold gdC
  by_cases c : lst (fxA J p f) (J 38 0).toNat = -1
  · rw [if_neg (fun h => h c)]
    exact rV_rg (fun r hr _ => hv _ (by omega))
  · rw [if_pos c]
    have := (h6.2.2 (lst (fxA J p f) (J 38 0).toNat).toNat (by omega)).2
    omega
theorem wQ_eq {bk : Nat} {J K : Nat → Nat → Int} {s : Int} (hJ : Inv bk J) (hs : SG J (J 0 0) (J 0 0)) (hP : PtOK bk J) (hM : PtM J K (J 0 0) (J 0 0)) (h0 : J 49 0 = 1) (hsr : 0 ≤ s ∧ s < 6) : ∀ c, c < 60 → wQ J s c = mwQ K s c ∧ (wQ J s c = true → gdC J (J 50 (c / 6)) ((c % 6 : Nat) : Int) = gM K (c / 6) ((c % 6 : Nat) : Int) ∧ ((c / 6 : Nat) : Int) < J 17 0 ∧ 0 ≤ gdC J (J 50 (c / 6)) ((c % 6 : Nat) : Int) ∧ gdC J (J 50 (c / 6)) ((c % 6 : Nat) : Int) ≤ 999999) := by
  intro c hc
  have hJ0 := hJ
  obtain ⟨a1, a2, a3, a4, a5, a6, a7, a8, a9, a10, a11, a12⟩ := hJ0
  have e0 : J 17 0 = J 74 4 := a4.2.2.1.1
  have h17 := a4.1.1
  have hth := th_iff a4 hs ((c / 6 : Nat) : Int)
  have hfr := hM.1
  have k0 : K 74 0 = J 0 0 := by rw [hfr 74 0 (by omega)]; exact a1.1.symm
  have hrr : ((c / 6 : Nat) : Int).toNat = c / 6 := by omega
  -- a row that is alive is there today
  have hal : ((c / 6 : Nat) : Int) < J 17 0 → J 80 (c / 6) = 0 → J 45 (c / 6) ≠ 0 := fun q1 q2 => by
    have t := a4.2.2.1.2.2.1 (c / 6) q1
    have := (hth.mpr ⟨by omega, by rw [← e0]; exact q1, by rw [hrr]; exact q2, by rw [hrr, ← t.2.1]; exact (a4.2.2.2.1 (c / 6) q1).2⟩).2.2
    rw [hrr] at this
    exact this
  have hbits := bAnd1_01 (bShr (J 16 s.toNat) ((c % 6 : Nat) : Int))
  have r16 : K 77 s.toNat = J 16 s.toNat := by rw [hfr 77 _ (by omega), a3 s.toNat (by omega)]
  by_cases hr : ((c / 6 : Nat) : Int) < J 17 0 ∧ J 45 (c / 6) ≠ 0
  · have hrw : rwK J ((c / 6 : Nat) : Int) (J 0 0) := hth.mp ⟨by omega, by omega, by rw [hrr]; exact hr.2⟩
    have t := a4.2.2.1.2.2.1 (c / 6) hr.1
    have q := ptE hJ hs hP hM
    rcases q with ⟨q1, _⟩ | ⟨q1, q2, q3, q4, q5⟩
    · omega
    · have h5 := q5 (c / 6) (by omega)
      have h6 := h5.2.1 (decide_eq_true hr.2)
      have ge := (gd_eq hJ hs hM (p := J 50 (c / 6)) (f := ((c % 6 : Nat) : Int)) (by omega) (by omega) (fun r hr => ⟨(q5 r hr).1, (q5 r hr).2.2⟩)).1
      have eg : gdC J (J 50 (c / 6)) ((c % 6 : Nat) : Int) = gM K (c / 6) ((c % 6 : Nat) : Int) := by
        unfold gM
        rw [k0, ← h5.1]
        exact ge
      have hv := val_vo a4.2.2.1 a4.1 hs (r := c / 6) (f := ((c % 6 : Nat) : Int)) (by omega) (by omega) (decide_eq_true hr.2)
      rw [show ((((c / 6 : Nat) : Int) * 6) + ((c % 6 : Nat) : Int)).toNat = c by omega] at hv
      have ev : voM K ((c / 6 : Nat) : Int) ((c % 6 : Nat) : Int) = J 46 c := by
        unfold voM
        rw [k0, hv, hfr 74 5 (by omega), show K 81 = J 81 from funext (fun j => hfr 81 j (by omega)), show K 82 = J 82 from funext (fun j => hfr 82 j (by omega)), show K 83 = J 83 from funext (fun j => hfr 83 j (by omega)), show K 84 = J 84 from funext (fun j => hfr 84 j (by omega)), show K 85 = J 85 from funext (fun j => hfr 85 j (by omega))]
      have eh : hasB (K 123) (K 124) (K 125) ((c / 6 : Nat) : Int) ((c % 6 : Nat) : Int) (gM K (c / 6) ((c % 6 : Nat) : Int)) (K 74 75).toNat = hasB (J 67) (J 68) (J 69) ((c / 6 : Nat) : Int) ((c % 6 : Nat) : Int) (gdC J (J 50 (c / 6)) ((c % 6 : Nat) : Int)) (J 66 0).toNat := by
        rw [hfr 74 75 (by omega), ← a7.1, ← eg]
        refine hasB_c (fun i hi => ?_)
        have := a7.2.2 i (by have := a7.2.1; omega)
        rw [hfr 123 i (by omega), hfr 124 i (by omega), hfr 125 i (by omega)]
        exact ⟨this.1.symm, this.2.1.symm, this.2.2.symm⟩
      have hg := gdC_rg hJ hs (J 50 (c / 6)) (f := ((c % 6 : Nat) : Int)) (by omega)
      have h80 : J 80 (c / 6) = 0 := by
        have := hrw.2.2.1
        rw [hrr] at this
        exact this
      refine ⟨?_, fun hw => ⟨eg, hr.1, ?_, hg.2⟩⟩
      · unfold wQ mwQ
        rw [eh, ev, ← eg, hfr 74 4 (by omega), hfr 80 _ (by omega), hfr 78 _ (by omega), r16, ← t.1]
        refine decide_eq_decide.mpr ⟨?_, ?_⟩
        · rintro ⟨w1, w2, w3, w4, w5, w6, w7⟩
          exact ⟨by omega, h80, w2, by omega, by omega, w6, w7⟩
        · rintro ⟨w1, w2, w3, w4, w5, w6, w7⟩
          exact ⟨hr.1, w3, hr.2, by omega, by omega, w6, w7⟩
      · have := of_decide_eq_true hw
        have := this.2.2.2.2.1
        omega
  · have w1 : wQ J s c = false := decide_eq_false (fun z => hr ⟨z.1, z.2.2.1⟩)
    have w2 : mwQ K s c = false := decide_eq_false (fun z => by
      have z1 := z.1
      have z2 := z.2.1
      rw [hfr 74 4 (by omega), ← e0] at z1
      rw [hfr 80 _ (by omega)] at z2
      exact hr ⟨z1, hal z1 z2⟩)
    exact ⟨by rw [w1, w2], fun z => by rw [w1] at z; exact absurd z (by decide)⟩
/-- both lists of wishes are one -/
def WEq (J J2 : Nat → Nat → Int) : Prop := J 70 0 = J2 74 76 ∧ ∀ k : Nat, (k : Int) < J 70 0 → J 71 k = J2 126 k ∧ J 72 k = J2 127 k ∧ J 73 k = J2 128 k ∧ (0 ≤ J 71 k ∧ J 71 k < J 17 0) ∧ (0 ≤ J 72 k ∧ J 72 k ≤ 5) ∧ 0 ≤ J 73 k ∧ J 73 k ≤ 999999
theorem wQ_c {I J : Nat → Nat → Int} (h : ∀ a j, a ≤ 60 ∨ (66 ≤ a ∧ a ≤ 69) → J a j = I a j) (s : Int) : wQ J s = wQ I s := funext (fun c => by
  unfold wQ
  rw [gdC_c (fun a j ha => h a j (by omega)), h 17 0 (by omega), h 18 _ (by omega), h 45 _ (by omega), h 16 _ (by omega), h 50 _ (by omega), h 46 _ (by omega), h 66 0 (by omega), show J 67 = I 67 from funext (fun j => h 67 j (by omega)), show J 68 = I 68 from funext (fun j => h 68 j (by omega)), show J 69 = I 69 from funext (fun j => h 69 j (by omega))])
theorem lwr_inv {bk : Nat} {I L J M : Nat → Nat → Int} {s : Int} (hbk : bk = 1 ∨ bk = 7) (hI : Inv bk I) (h : LWR bk I L J M s) : Inv bk J ∧ SG J (J 0 0) (J 0 0) ∧ PtOK bk J ∧ J 0 0 = I 0 0 ∧ ((J 49 0 = 0 ∧ J 70 0 = 0) ∨ (J 49 0 ≠ 0 ∧ J 70 0 = (cnt (wQ J s) 60 : Int) ∧ ∀ q, q < 60 → wQ J s q = true → J 71 (cnt (wQ J s) q) = ((q / 6 : Nat) : Int) ∧ J 72 (cnt (wQ J s) q) = ((q % 6 : Nat) : Int) ∧ J 73 (cnt (wQ J s) q) = gdC J (J 50 (q / 6)) ((q % 6 : Nat) : Int))) := by
  obtain ⟨J1, hp, hw⟩ := h
  have hI2 : Inv bk (upI I 70 0 0) := Inv_q (fun a j z => upI_ne (by unfold Core at z; omega)) hI (A11_c (fun a j z => upI_ne (by omega)) hI.2.2.2.2.2.2.2.2.2.2.1) (A12_c (fun a j z => upI_ne (by omega)) hI.2.2.2.2.2.2.2.2.2.2.2)
  obtain ⟨h1, h2, h3⟩ := part_inv hbk hI2 hp
  have fr := hw.1
  have e0 : J 0 0 = I 0 0 := by rw [fr 0 0 (by omega), hp.2.1 0 0 (by omega), upI_ne (by omega)]
  have hq := wQ_c (J := J) (I := J1) (fun a j ha => fr a j (by omega)) s
  refine ⟨Inv_q (fun a j z => fr a j (by unfold Core at z; omega)) h1 (A11_c (fun a j z => fr a j (by omega)) h1.2.2.2.2.2.2.2.2.2.2.1) (A12_c (fun a j z => fr a j (by omega)) h1.2.2.2.2.2.2.2.2.2.2.2), ?_, PtOK_c2 (fun a j z => fr a j (by omega)) h3, e0, ?_⟩
  · rw [e0]
    exact SG_c (fun a j z => fr a j (by omega)) h2
  · rw [hq, fr 49 0 (by omega)]
    rcases hw.2 with z | ⟨z1, z2, z3⟩
    · exact Or.inl z
    · refine Or.inr ⟨z1, z2, fun q hq2 hq3 => ?_⟩
      rw [fr 50 _ (by omega), gdC_c (fun a j ha => fr a j (by omega))]
      exact z3 q hq2 hq3
theorem wish_eq {bk : Nat} {I L J M J2 M2 : Nat → Nat → Int} {s : Int} (hbk : bk = 1 ∨ bk = 7) (hI : Inv bk I) (h : LWR bk I L J M s) (hk : SKR J M J2 M2 s) (hsr : 0 ≤ s ∧ s < 6) : Inv bk J ∧ Inv bk J2 ∧ WEq J J2 ∧ J2 0 0 = I 0 0 ∧ (∀ a j, a ≤ 73 → J2 a j = J a j) ∧ ∀ a j, (75 ≤ a ∧ a ≤ 91) ∨ (a = 74 ∧ (j = 0 ∨ j = 4 ∨ j = 5 ∨ j = 75)) ∨ (123 ≤ a ∧ a ≤ 125) → J2 a j = J a j := by
  obtain ⟨hJ, hs, hP, e0, hw⟩ := lwr_inv hbk hI h
  obtain ⟨K, hm, hd⟩ := hk
  have fz : ∀ a j, ¬ (a = 74 ∧ j = 76) → (upI J 74 76 0) a j = J a j := fun a j ha => upI_ne (by omega)
  have hZ : Inv bk (upI J 74 76 0) := Inv_q (fun a j z => fz a j (by unfold Core at z; omega)) hJ (A11_c (fun a j z => fz a j (by omega)) hJ.2.2.2.2.2.2.2.2.2.2.1) (A12_c (fun a j z => fz a j (by omega)) hJ.2.2.2.2.2.2.2.2.2.2.2)
  have ed : J 74 0 = (upI J 74 76 0) 0 0 := by rw [fz 0 0 (by omega)]; exact hJ.1.1.symm
  have hsZ : SG (upI J 74 76 0) ((upI J 74 76 0) 0 0) ((upI J 74 76 0) 0 0) := by
    rw [fz 0 0 (by omega)]
    exact SG_c (fun a j z => fz a j (by omega)) hs
  have hPZ : PtOK bk (upI J 74 76 0) := PtOK_c2 (fun a j z => fz a j (by omega)) hP
  rw [ed] at hm
  have hK := partM_inv hbk hZ hm
  have fd := hd.1
  have hJ2 : Inv bk J2 := Inv_q (fun a j z => fd a j (by unfold Core at z; omega)) hK (A11_c (fun a j z => fd a j (by omega)) hK.2.2.2.2.2.2.2.2.2.2.1) (A12_c (fun a j z => fd a j (by omega)) hK.2.2.2.2.2.2.2.2.2.2.2)
  have f73 : ∀ a j, a ≤ 73 → J2 a j = J a j := fun a j ha => by rw [fd a j (by omega), hm.1 a j (by omega), fz a j (by omega)]
  have hwZ := wQ_c (J := upI J 74 76 0) (I := J) (fun a j ha => fz a j (by omega)) s
  refine ⟨hJ, hJ2, ?_, by rw [f73 0 0 (by omega)]; exact e0, f73, fun a j ha => by rw [fd a j (by omega), hm.1 a j (by omega), fz a j (by omega)]⟩
  have hq := ptE hZ hsZ hPZ hm
  rw [fz 49 0 (by omega)] at hq
  rcases hq with ⟨q1, q2⟩ | ⟨q1, q2, _⟩
  · rcases hw with ⟨_, w2⟩ | ⟨w1, _⟩
    · rcases hd.2.2 with ⟨_, d2⟩ | ⟨d1, _⟩
      · exact ⟨by rw [w2, d2], fun k hk => by rw [w2] at hk; omega⟩
      · exact absurd q2 d1
    · exact absurd q1 w1
  · rcases hw with ⟨w1, _⟩ | ⟨_, w2, w3⟩
    · omega
    · rcases hd.2.2 with ⟨d1, _⟩ | ⟨_, d2, d3⟩
      · omega
      · have hE := wQ_eq hZ hsZ hPZ hm (by rw [fz 49 0 (by omega)]; exact q1) hsr
        rw [hwZ] at hE
        have hc : ∀ n, n ≤ 60 → cnt (wQ J s) n = cnt (mwQ K s) n := fun n hn => cnt_c (fun r hr => (hE r (by omega)).1)
        refine ⟨by rw [w2, d2, hc 60 (Nat.le_refl _)], fun k hk => ?_⟩
        rw [w2] at hk
        obtain ⟨q, g1, g2, g3⟩ := cnt_at (T := wQ J s) (n := 60) (j := k) (by omega)
        have x1 := w3 q g1 g2
        have g2' : mwQ K s q = true := by rw [← (hE q g1).1]; exact g2
        have x2 := d3 q g1 g2'
        obtain ⟨y1, y2, y3, y4⟩ := (hE q g1).2 g2
        rw [fz 50 _ (by omega), gdC_c (fun a j ha => fz a j (by omega))] at y1 y3 y4
        rw [fz 17 0 (by omega)] at y2
        rw [← hc q (by omega), g3] at x2
        rw [g3] at x1
        rw [x1.1, x1.2.1, x1.2.2, x2.1, x2.2.1, x2.2.2]
        exact ⟨rfl, rfl, y1, ⟨by omega, y2⟩, ⟨by omega, by omega⟩, y3, y4⟩
