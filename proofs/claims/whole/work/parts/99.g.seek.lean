-- THE REFERENCE'S CHANGES
def gdM (I : Nat → Nat → Int) (p f d k : Int) : Int := if lst (fxM I p f k) (I 74 44).toNat < 0 then rV (mQ I p f d k) (mA I f d k) (mSi I f d k) (mWt I f d k) else I 107 (lst (fxM I p f k) (I 74 44).toNat).toNat
def FRs (I J : Nat → Nat → Int) : Prop := ∀ a j, ¬ ((a = 74 ∧ ((67 ≤ j ∧ j ≤ 69) ∨ j = 76)) ∨ (118 ≤ a ∧ a ≤ 120) ∨ (126 ≤ a ∧ a ≤ 128)) → J a j = I a j
theorem mB_c {I J : Nat → Nat → Int} (h : FRs I J) (f d k : Int) : mB J f d k = mB I f d k := funext (fun r => by
  unfold mB
  rw [show J 81 = I 81 from funext (fun j => h 81 j (by omega)), show J 82 = I 82 from funext (fun j => h 82 j (by omega)), show J 84 = I 84 from funext (fun j => h 84 j (by omega)), show J 85 = I 85 from funext (fun j => h 85 j (by omega)), h 74 5 (by omega)])
theorem gdM_c {I J : Nat → Nat → Int} (h : FRs I J) (p f d k : Int) : gdM J p f d k = gdM I p f d k := by
  have e1 : fxM J p f k = fxM I p f k := funext (fun m => by
    unfold fxM
    rw [h 105 m (by omega), h 106 m (by omega), h 108 m (by omega), h 109 m (by omega), h 74 4 (by omega), h 80 _ (by omega), h 111 _ (by omega)])
  have e2 : mQ J p f d k = mQ I p f d k := funext (fun r => by
    unfold mQ
    rw [mB_c h, h 74 4 (by omega), h 111 r (by omega), h 86 _ (by omega)])
  have e3 : mA J f d k = mA I f d k := funext (fun r => by
    unfold mA
    rw [mB_c h, h 83 _ (by omega)])
  have e4 : mSi J f d k = mSi I f d k := funext (fun r => by
    unfold mSi
    rw [mB_c h, h 84 _ (by omega)])
  have e5 : mWt J f d k = mWt I f d k := funext (fun r => by
    unfold mWt mW0
    rw [mB_c h, h 78 r (by omega), h 75 _ (by omega), h 76 _ (by omega), h 84 _ (by omega)])
  unfold gdM
  rw [e1, e2, e3, e4, e5, h 74 44 (by omega), h 107 _ (by omega)]
theorem GMk_s {I J : Nat → Nat → Int} (h : FRs I J) {f d : Int} (hG : GMk I f d) : GMk J f d := by
  unfold GMk
  rw [h 74 4 (by omega), h 74 5 (by omega), h 74 44 (by omega), show J 75 = I 75 from funext (fun j => h 75 j (by omega)), show J 76 = I 76 from funext (fun j => h 76 j (by omega)), show J 78 = I 78 from funext (fun j => h 78 j (by omega)), show J 83 = I 83 from funext (fun j => h 83 j (by omega)), show J 84 = I 84 from funext (fun j => h 84 j (by omega)), show J 105 = I 105 from funext (fun j => h 105 j (by omega))]
  exact hG
def voM (I : Nat → Nat → Int) (r f : Int) : Int := vo (I 81) (I 82) (I 83) (I 84) (I 85) r f (I 74 0) (I 74 0) (I 74 5).toNat
theorem voM_c {I J : Nat → Nat → Int} (h : FRs I J) (r f : Int) : voM J r f = voM I r f := by
  unfold voM
  rw [show J 81 = I 81 from funext (fun j => h 81 j (by omega)), show J 82 = I 82 from funext (fun j => h 82 j (by omega)), show J 83 = I 83 from funext (fun j => h 83 j (by omega)), show J 84 = I 84 from funext (fun j => h 84 j (by omega)), show J 85 = I 85 from funext (fun j => h 85 j (by omega)), h 74 5 (by omega), h 74 0 (by omega)]
def gM (I : Nat → Nat → Int) (r : Nat) (f : Int) : Int := gdM I (I 111 r) f (I 74 0) (I 74 0)
def mwQ (I : Nat → Nat → Int) (s : Int) : Nat → Bool := fun c => decide (((c / 6 : Nat) : Int) < I 74 4 ∧ I 80 (c / 6) = 0 ∧ I 78 (c / 6) = s ∧ bAnd (bShr (I 77 s.toNat) ((c % 6 : Nat) : Int)) 1 ≠ 0 ∧ 0 ≤ gM I (c / 6) ((c % 6 : Nat) : Int) ∧ gM I (c / 6) ((c % 6 : Nat) : Int) ≠ voM I ((c / 6 : Nat) : Int) ((c % 6 : Nat) : Int) ∧ hasB (I 123) (I 124) (I 125) ((c / 6 : Nat) : Int) ((c % 6 : Nat) : Int) (gM I (c / 6) ((c % 6 : Nat) : Int)) (I 74 75).toNat = false)
def MsL (I L J M : Nat → Nat → Int) (s : Int) (c : Nat) : Prop := FRs I J ∧ FLg L M ∧ J 74 76 = (cnt (mwQ I s) c : Int) ∧ ∀ q, q < c → mwQ I s q = true → J 126 (cnt (mwQ I s) q) = ((q / 6 : Nat) : Int) ∧ J 127 (cnt (mwQ I s) q) = ((q % 6 : Nat) : Int) ∧ J 128 (cnt (mwQ I s) q) = gM I (q / 6) ((q % 6 : Nat) : Int)
theorem Ms_no {I L J M J' M' : Nat → Nat → Int} {s : Int} {c : Nat} (h : MsL I L J M s c) (hq : mwQ I s c = false) (hJ : ∀ a j, ¬ ((a = 74 ∧ (67 ≤ j ∧ j ≤ 69)) ∨ (118 ≤ a ∧ a ≤ 120)) → J' a j = J a j) (hM : FLg M M') : MsL I L J' M' s (c + 1) := by
  obtain ⟨h1, h0, h2, h3⟩ := h
  refine ⟨fun a j ha => by rw [hJ a j (by omega)]; exact h1 a j ha, fun a j ha => by rw [hM a j ha]; exact h0 a j ha, by rw [hJ 74 76 (by omega), cnt_s, hq]; exact h2, fun q hq2 hq3 => ?_⟩
  rw [hJ 126 _ (by omega), hJ 127 _ (by omega), hJ 128 _ (by omega)]
  refine h3 q ?_ hq3
  by_cases e : q = c
  · rw [e, hq] at hq3
    exact absurd hq3 (by decide)
  · omega
theorem Ms_yes {I L J M J' M' J2 : Nat → Nat → Int} {s : Int} {c : Nat} {x y z : Int} (h : MsL I L J M s c) (hq : mwQ I s c = true) (hJ : ∀ a j, ¬ ((a = 74 ∧ (67 ≤ j ∧ j ≤ 69)) ∨ (118 ≤ a ∧ a ≤ 120)) → J' a j = J a j) (hM : FLg M M') (hx : x = ((c / 6 : Nat) : Int)) (hy : y = ((c % 6 : Nat) : Int)) (hz : z = gM I (c / 6) ((c % 6 : Nat) : Int)) (hJ2 : J2 = upI (upI (upI (upI J' 126 (J' 74 76).toNat x) 127 (J' 74 76).toNat y) 128 (J' 74 76).toNat z) 74 76 (J' 74 76 + 1)) : MsL I L J2 M' s (c + 1) := by
  obtain ⟨h1, h0, h2, h3⟩ := h
  have e70 : J' 74 76 = (cnt (mwQ I s) c : Int) := by rw [hJ 74 76 (by omega)]; exact h2
  refine ⟨fun a j ha => by rw [hJ2, upI_ne (by omega), upI_ne (by omega), upI_ne (by omega), upI_ne (by omega), hJ a j (by omega)]; exact h1 a j ha, fun a j ha => by rw [hM a j ha]; exact h0 a j ha, by rw [hJ2, upI_eq rfl rfl, cnt_s, hq, e70]; rfl, fun q hq2 hq3 => ?_⟩
  by_cases e : q = c
  · have ec : cnt (mwQ I s) q = (J' 74 76).toNat := by rw [e]; omega
    rw [ec, e]
    refine ⟨?_, ?_, ?_⟩
    · rw [hJ2, upI_ne (by omega), upI_ne (by omega), upI_ne (by omega), upI_eq rfl rfl]
      exact hx
    · rw [hJ2, upI_ne (by omega), upI_ne (by omega), upI_eq rfl rfl]
      exact hy
    · rw [hJ2, upI_ne (by omega), upI_eq rfl rfl]
      exact hz
  · have hl := cnt_lt (T := mwQ I s) (show q < c by omega) hq3
    have f2 : ∀ a, 126 ≤ a ∧ a ≤ 128 → J2 a (cnt (mwQ I s) q) = J a (cnt (mwQ I s) q) := fun a ha => by
      rw [hJ2, upI_ne (by omega), upI_ne (by omega), upI_ne (by omega), upI_ne (by omega), hJ a _ (by omega)]
    rw [f2 126 (by omega), f2 127 (by omega), f2 128 (by omega)]
    exact h3 q (by omega) hq3
def SkK (I : Nat → Nat → Int) : Prop := (0 ≤ I 74 4 ∧ I 74 4 ≤ 10) ∧ (0 ≤ I 74 75 ∧ I 74 75 ≤ 60) ∧ (0 ≤ I 74 5 ∧ I 74 5 ≤ 150) ∧ ∀ f : Int, 0 ≤ f → f ≤ 5 → GMk I f (I 74 0)
def Msd (I L J M : Nat → Nat → Int) (s : Int) : Prop := FRs I J ∧ FLg L M ∧ ((I 74 58 = 0 ∧ J 74 76 = 0) ∨ (I 74 58 ≠ 0 ∧ J 74 76 = (cnt (mwQ I s) 60 : Int) ∧ ∀ q, q < 60 → mwQ I s q = true → J 126 (cnt (mwQ I s) q) = ((q / 6 : Nat) : Int) ∧ J 127 (cnt (mwQ I s) q) = ((q % 6 : Nat) : Int) ∧ J 128 (cnt (mwQ I s) q) = gM I (q / 6) ((q % 6 : Nat) : Int)))
theorem Ms_end {I L J M : Nat → Nat → Int} {s : Int} {n : Nat} (h : MsL I L J M s (6 * n)) (hn : I 74 4 = (n : Int)) (h10 : n ≤ 10) (h0 : I 74 58 ≠ 0) : Msd I L J M s := by
  obtain ⟨h1, hl, h2, h3⟩ := h
  have hz : ∀ q, 6 * n ≤ q → mwQ I s q = false := fun q hq => decide_eq_false (fun z => by
    have := z.1
    omega)
  have hc : cnt (mwQ I s) 60 = cnt (mwQ I s) (6 * n) := by
    have := cnt_ext (Q := mwQ I s) (n := 6 * n) (60 - 6 * n) hz
    rw [show 6 * n + (60 - 6 * n) = 60 by omega] at this
    exact this
  refine ⟨h1, hl, Or.inr ⟨h0, by rw [hc]; exact h2, fun q hq hq2 => h3 q ?_ hq2⟩⟩
  rcases Nat.lt_or_ge q (6 * n) with z | z
  · exact z
  · rw [hz q z] at hq2
    exact absurd hq2 (by decide)
