-- BOTH GOLDS ARE ONE
def TbG (I : Nat → Nat → Int) : Prop := (∀ c, c < 36 → I 14 c = I 75 c) ∧ ∀ c, c < 6 → I 15 c = I 76 c
def TbF (I : Nat → Nat → Int) : Prop := I 38 0 = I 74 44 ∧ ∀ m : Nat, (m : Int) < I 38 0 → I 39 m = I 105 m ∧ I 40 m = I 106 m ∧ I 41 m = I 107 m ∧ I 42 m = I 108 m ∧ I 43 m = I 109 m ∧ -1 ≤ I 43 m
theorem cell_eq {I : Nat → Nat → Int} {d k : Int} (hs : SG I d k) (hT : TbV I) (hV : VOK I) {r : Nat} {f : Int} (hr : r < 10) (hf : 0 ≤ f ∧ f ≤ 5) (ht : thB I r = true) : I 46 (((r : Int) * 6) + f).toNat = (if mB I f d k r < 0 then -1 else I 83 (mB I f d k r).toNat) ∧ (0 ≤ mB I f d k r → I 47 (((r : Int) * 6) + f).toNat = I 84 (mB I f d k r).toNat ∧ I 48 (((r : Int) * 6) + f).toNat = I 86 (mB I f d k r).toNat) ∧ (0 ≤ mB I f d k r → 0 ≤ I 83 (mB I f d k r).toNat) := by
  have ht1 : thr I k r = 1 := by
    have h1 := hs.2.2.1 r hr
    have h2 : I 45 r ≠ 0 := of_decide_eq_true ht
    rcases thr_01 I k r with z | z
    · omega
    · exact z
  obtain ⟨c1, c2⟩ := hs.2.2.2 (r * 6 + f.toNat) (by omega)
  have h4 := sv_bv hT hV (d := d) (f := f.toNat) (by omega) ht1
  rw [show ((f.toNat : Nat) : Int) = f by omega] at h4
  have h4 : sv I d k (I 21 0).toNat (r * 6 + f.toNat) = mB I f d k r := h4
  have hb := bv_rg (I 81) (I 82) (I 84) (I 85) (r : Int) f d k (I 74 5).toNat
  have hb : -1 ≤ mB I f d k r ∧ mB I f d k r < ((I 74 5).toNat : Int) := hb
  have hv1 := hV.2.1
  have ht2 := hT.2.1
  rw [h4] at c1 c2
  rw [show (((r : Int) * 6) + f).toNat = r * 6 + f.toNat by omega]
  refine ⟨?_, fun h0 => ?_, fun h0 => ?_⟩
  · rw [c1]
    by_cases e : mB I f d k r < 0
    · rw [if_pos e, if_pos e]
    · rw [if_neg e, if_neg e]
      exact (hT.2.2.2 _ (by omega)).2.2.1
  · obtain ⟨a1, a2⟩ := c2 h0
    obtain ⟨b1, b2, b3, b4, b5, b6⟩ := hT.2.2.2 (mB I f d k r).toNat (by omega)
    rw [a1, a2, b4, b6]
    exact ⟨rfl, rfl⟩
  · rw [← (hT.2.2.2 (mB I f d k r).toNat (by omega)).2.2.1]
    exact (hV.2.2 _ (by omega)).2.2.1
theorem gold_eq {I J : Nat → Nat → Int} {d k p f : Int} (hs : SG I d k) (hT : TbV I) (hV : VOK I) (hG : GOK I) (hTG : TbG I) (hTF : TbF I) (hJ : ∀ a j, (75 ≤ a ∧ a ≤ 109 ∧ a ≠ 99) ∨ (a = 74 ∧ (j = 4 ∨ j = 5 ∨ j = 44)) → J a j = I a j) (hpo : ∀ r : Nat, r < 10 → I 50 r = J 111 r ∧ (thB I r = false → I 50 r = -1)) (hp : p ≠ -1) (hf : 0 ≤ f ∧ f ≤ 5) :
    (rV (vQ I p f) (vA I f) (vSi I f) (vW I f) = rV (mQ J p f d k) (mA J f d k) (mSi J f d k) (mWt J f d k) ∧ rF (vQ I p f) (vA I f) (vSi I f) (vW I f) = rF (mQ J p f d k) (mA J f d k) (mSi J f d k) (mWt J f d k) ∧ rN (vQ I p f) (vA I f) = rN (mQ J p f d k) (mA J f d k)) ∧ lst (fxA I p f) (I 38 0).toNat = lst (fxM J p f k) (J 74 44).toNat ∧ (∀ m : Nat, (m : Int) < I 38 0 → I 41 m = J 107 m) := by
  have e : ∀ a, (75 ≤ a ∧ a ≤ 109 ∧ a ≠ 99) → J a = I a := fun a ha => funext (fun j => hJ a j (Or.inl ha))
  have eB : ∀ r, mB J f d k r = mB I f d k r := fun r => by
    unfold mB
    rw [e 81 (by omega), e 82 (by omega), e 84 (by omega), e 85 (by omega), hJ 74 5 (by omega)]
  have hthere : ∀ r : Nat, r < 10 → I 50 r = p → thB I r = true := fun r hr h => by
    cases hb : thB I r
    · have := (hpo r hr).2 hb
      omega
    · rfl
  have hQ : ∀ r, r < 10 → vQ I p f r = mQ J p f d k r := fun r hr => by
    unfold vQ mQ
    rw [eB r, hJ 74 4 (by omega), e 86 (by omega), ← (hpo r hr).1]
    refine decide_eq_decide.mpr ⟨?_, ?_⟩
    · rintro ⟨a1, a2, a3⟩
      have ht := hthere r hr a1
      obtain ⟨c1, c2, c3⟩ := cell_eq hs hT hV hr hf ht
      have h0 : 0 ≤ mB I f d k r := by
        rcases Int.lt_or_le (mB I f d k r) 0 with z | z
        · rw [if_pos z] at c1
          exact absurd c1 a2
        · exact z
      have hrw := (thB_row hs hr).mp ht
      exact ⟨by rw [← hT.1]; exact hrw.1, a1, h0, by rw [← (c2 h0).2]; exact a3⟩
    · rintro ⟨a1, a2, a3, a4⟩
      have ht := hthere r hr a2
      obtain ⟨c1, c2, c3⟩ := cell_eq hs hT hV hr hf ht
      rw [if_neg (by omega)] at c1
      have := c3 a3
      exact ⟨a2, by omega, by rw [(c2 a3).2]; exact a4⟩
  refine ⟨r_c hQ (fun r hr hq => ?_), ?_, fun m hm => by rw [e 107 (by omega)]; exact (hTF.2 m hm).2.2.1⟩
  · have hq2 : I 50 r = p ∧ I 46 (((r : Int) * 6) + f).toNat ≠ -1 ∧ I 48 (((r : Int) * 6) + f).toNat = 0 := of_decide_eq_true hq
    have ht := hthere r hr hq2.1
    obtain ⟨c1, c2, c3⟩ := cell_eq hs hT hV hr hf ht
    have h0 : 0 ≤ mB I f d k r := by
      rcases Int.lt_or_le (mB I f d k r) 0 with z | z
      · rw [if_pos z] at c1
        exact absurd c1 hq2.2.1
      · exact z
    rw [if_neg (by omega)] at c1
    have hrw := (thB_row hs hr).mp ht
    have h18 := hG.2.2.1 r hrw.1
    have e18 := (hT.2.2.1 r hrw.1).1
    refine ⟨?_, ?_, ?_⟩
    · unfold vA mA
      rw [eB, e 83 (by omega)]
      exact c1
    · unfold vSi mSi
      rw [eB, e 84 (by omega)]
      exact (c2 h0).1
    · have hW : (100 * (I 14 (((I 18 r) * 6) + f).toNat)) - ((I 15 f.toNat) * ((I 44 0) - (I 47 (((r : Int) * 6) + f).toNat))) = mW0 J f d k r := by
        unfold mW0
        rw [eB, e 75 (by omega), e 76 (by omega), e 78 (by omega), e 84 (by omega), hs.1, (c2 h0).1, hTG.2 f.toNat (by omega), hTG.1 (((I 18 r) * 6) + f).toNat (by omega), e18, show ((I 78 r) * 6) + f = (6 * (I 78 r)) + f by omega]
      unfold vW mWt
      rw [hW]
      split
      · rw [if_neg (by omega)]
      · split <;> omega
  · rw [hJ 74 44 (by omega), ← hTF.1]
    refine lst_c (fun m hm => ?_)
    have hm2 : (m : Int) < I 38 0 := by have := hG.2.2.2.2.1; omega
    obtain ⟨b1, b2, b3, b4, b5, b6⟩ := hTF.2 m hm2
    have hr := (hG.2.2.2.2.2 m hm2).1
    unfold fxA fxM
    rw [e 105 (by omega), e 106 (by omega), e 108 (by omega), e 109 (by omega), e 80 (by omega), hJ 74 4 (by omega), ← b1, ← b2, ← b4, ← b5, hs.2.1, ← (hpo (I 39 m).toNat (by omega)).1]
    refine decide_eq_decide.mpr ⟨?_, ?_⟩
    · rintro ⟨a1, a2, a3⟩
      have ht := hthere (I 39 m).toNat (by omega) a3
      have hrw := (thB_row hs (show (I 39 m).toNat < 10 by omega)).mp ht
      have h20 := (hT.2.2.1 (I 39 m).toNat hrw.1).2.2
      have h17 := hT.1
      refine ⟨⟨by omega, by omega, ?_⟩, a3, a1, by omega, by omega⟩
      rw [← h20]
      exact hrw.2.1
    · rintro ⟨a1, a2, a3, a4, a5⟩
      exact ⟨a3, ⟨by omega, by omega⟩, a2⟩
