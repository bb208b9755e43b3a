-- THE REFERENCE'S GOLD
def mB (I : Nat → Nat → Int) (f d k : Int) (r : Nat) : Int := bv (I 81) (I 82) (I 84) (I 85) (r : Int) f d k (I 74 5).toNat
def mQ (I : Nat → Nat → Int) (p f d k : Int) : Nat → Bool := fun r => decide ((r : Int) < I 74 4 ∧ I 111 r = p ∧ 0 ≤ mB I f d k r ∧ I 86 (mB I f d k r).toNat = 0)
def mA (I : Nat → Nat → Int) (f d k : Int) (r : Nat) : Int := I 83 (mB I f d k r).toNat
def mSi (I : Nat → Nat → Int) (f d k : Int) (r : Nat) : Int := I 84 (mB I f d k r).toNat
def mW0 (I : Nat → Nat → Int) (f d k : Int) (r : Nat) : Int := (100 * (I 75 ((6 * (I 78 r)) + f).toNat)) - ((I 76 f.toNat) * (d - (I 84 (mB I f d k r).toNat)))
def mWt (I : Nat → Nat → Int) (f d k : Int) (r : Nat) : Int := if mW0 I f d k r < 0 then 0 else mW0 I f d k r
def rwI : Nat → Int := fun r => (r : Int)
def FRg (I J : Nat → Nat → Int) : Prop := ∀ a j, ¬ ((a = 74 ∧ (j = 67 ∨ j = 68 ∨ j = 69)) ∨ (118 ≤ a ∧ a ≤ 120)) → J a j = I a j
def FLg (L M : Nat → Nat → Int) : Prop := ∀ a j, ¬ (a = 121 ∨ a = 122) → M a j = L a j
def GRw (I L J M : Nat → Nat → Int) (p f d k : Int) (r : Nat) : Prop := FRg I J ∧ FLg L M ∧ J 74 67 = -1 ∧ J 74 68 = -1 ∧ GPs J M (vva (mQ I p f d k) (mA I f d k)) (vva (mQ I p f d k) (mWt I f d k)) (vva (mQ I p f d k) (mSi I f d k)) (vva (mQ I p f d k) rwI) (cnt (mQ I p f d k) r)
theorem GR_no {I L J M : Nat → Nat → Int} {p f d k : Int} {r : Nat} (h : GRw I L J M p f d k r) (hq : mQ I p f d k r = false) : GRw I L J M p f d k (r + 1) := by
  obtain ⟨h1, h2, h3, h4, h5⟩ := h
  refine ⟨h1, h2, h3, h4, ?_⟩
  rw [cnt_s, hq]
  exact h5
theorem GR_yes {I L J M J' M' : Nat → Nat → Int} {p f d k : Int} {r j : Nat} (h : GRw I L J M p f d k r) (hr : r < 10) (hq : mQ I p f d k r = true) (hw : 0 ≤ mWt I f d k r) (hj : (j : Int) ≤ J 74 69) (h1 : ∀ i, i < j → J 118 i ≠ mA I f d k r) (h2 : (j : Int) < J 74 69 → J 118 j = mA I f d k r) (hU : GUp J M J' M' j (mA I f d k r) (mWt I f d k r) (mSi I f d k r) (r : Int)) : GRw I L J' M' p f d k (r + 1) := by
  obtain ⟨a1, a2, a3, a4, a5⟩ := h
  have hfi : fi (mQ I p f d k) 10 (cnt (mQ I p f d k) r) = r := fi_at hr hq
  have e : ∀ A : Nat → Int, vva (mQ I p f d k) A (cnt (mQ I p f d k) r) = A r := fun A => by unfold vva; rw [hfi]
  refine ⟨fun a i ha => by rw [hU.1 a i (by omega)]; exact a1 a i ha, fun a i ha => by rw [hU.2.1 a i (by omega)]; exact a2 a i ha, by rw [hU.1 74 67 (by omega)]; exact a3, by rw [hU.1 74 68 (by omega)]; exact a4, ?_⟩
  rw [cnt_s, if_pos hq]
  refine GP_step a5 (by rw [e]; exact hw) hj (fun i hi => by rw [e]; exact h1 i hi) (fun hi => by rw [e]; exact h2 hi) ?_
  rw [e, e, e, e]
  exact hU
theorem cnt_ext {Q : Nat → Bool} {n : Nat} : ∀ d : Nat, (∀ r, n ≤ r → Q r = false) → cnt Q (n + d) = cnt Q n
  | 0, _ => rfl
  | d + 1, h => by
    show cnt Q (n + d + 1) = _
    rw [cnt_s, h (n + d) (by omega)]
    exact cnt_ext d h
/-- the best of the first j groups -/
def BLp (J : Nat → Nat → Int) (S T : Int → Int) (l : List Int) (j : Nat) (best : Int) : Prop := j ≤ l.length ∧ ((best = -1 ∧ j = 0) ∨ (0 ≤ best ∧ best < (j : Int) ∧ bsx S T (l.take j) = J 118 best.toNat))
theorem take_s {l : List Int} {j : Nat} (h : j < l.length) : l.take (j + 1) = l.take j ++ [l.getD j 0] := by
  rw [List.take_succ, List.getD_eq_getElem?_getD, List.getElem?_eq_getElem h]
  rfl
theorem BL_s {J : Nat → Nat → Int} {S T : Int → Int} {l : List Int} {j : Nat} {best best' : Int} (h : BLp J S T l j best) (hj : j < l.length) (hx : J 118 j = l.getD j 0) (hpos : ∀ i, i < l.length → J 118 i ≠ -1)
    (hc : (best' = (j : Int) ∧ (best < 0 ∨ S (J 118 best.toNat) < S (J 118 j) ∨ (S (J 118 best.toNat) = S (J 118 j) ∧ (T (J 118 best.toNat) < T (J 118 j) ∨ (T (J 118 best.toNat) = T (J 118 j) ∧ J 118 j < J 118 best.toNat))))) ∨
      (best' = best ∧ ¬ (best < 0 ∨ S (J 118 best.toNat) < S (J 118 j) ∨ (S (J 118 best.toNat) = S (J 118 j) ∧ (T (J 118 best.toNat) < T (J 118 j) ∨ (T (J 118 best.toNat) = T (J 118 j) ∧ J 118 j < J 118 best.toNat)))))) : BLp J S T l (j + 1) best' := by
  obtain ⟨h0, h1⟩ := h
  refine ⟨by omega, Or.inr ?_⟩
  rw [take_s hj, bsx_s, ← hx]
  rcases hc with ⟨c1, c2⟩ | ⟨c1, c2⟩
  · rw [c1]
    refine ⟨by omega, by omega, ?_⟩
    rw [show ((j : Int)).toNat = j by omega]
    refine pik_t ?_
    rcases h1 with ⟨a1, a2⟩ | ⟨a1, a2, a3⟩
    · rw [a2]
      exact Or.inl rfl
    · rw [a3]
      rcases c2 with c2 | c2
      · omega
      · exact Or.inr c2
  · rcases h1 with ⟨a1, a2⟩ | ⟨a1, a2, a3⟩
    · exact absurd (Or.inl (by omega)) c2
    · rw [c1]
      refine ⟨a1, by omega, ?_⟩
      rw [a3]
      refine pik_f (fun z => ?_)
      rcases z with z | z
      · exact hpos best.toNat (by omega) z
      · exact c2 (Or.inr z)
-- fixes
def fxM (I : Nat → Nat → Int) (p f k : Int) : Nat → Bool := fun m => decide ((0 ≤ I 105 m ∧ I 105 m < I 74 4 ∧ I 80 (I 105 m).toNat = 0) ∧ I 111 (I 105 m).toNat = p ∧ I 106 m = f ∧ (I 108 m ≤ k ∧ ¬ (0 ≤ I 109 m ∧ I 109 m ≤ k)))
def Fxd (I J : Nat → Nat → Int) (p f k V F : Int) (m : Nat) : Prop := J 74 67 = (if lst (fxM I p f k) m < 0 then V else I 107 (lst (fxM I p f k) m).toNat) ∧ J 74 68 = (if lst (fxM I p f k) m < 0 then F else -2)
theorem lst_s (ap : Nat → Bool) (m : Nat) : lst ap (m + 1) = if ap m = true then (m : Int) else lst ap m := rfl
theorem Fx_no {I J : Nat → Nat → Int} {p f k V F : Int} {m : Nat} (h : Fxd I J p f k V F m) (hq : fxM I p f k m = false) : Fxd I J p f k V F (m + 1) := by
  unfold Fxd
  rw [lst_s, hq]
  exact h
theorem Fx_yes {I J : Nat → Nat → Int} {p f k V F x : Int} {m : Nat} (hq : fxM I p f k m = true) (hx : x = I 107 m) : Fxd I (upI (upI J 74 67 x) 74 68 (-2)) p f k V F (m + 1) := by
  unfold Fxd
  rw [lst_s, if_pos hq, if_neg (by omega), if_neg (by omega), show ((m : Int)).toNat = m by omega]
  exact ⟨by rw [upI_ne (by omega), upI_eq rfl rfl]; exact hx, upI_eq rfl rfl⟩
/-- what gold leaves -/
def Gld (I L J M : Nat → Nat → Int) (p f d k : Int) : Prop := FRg I J ∧ FLg L M ∧ J 74 69 = rN (mQ I p f d k) (mA I f d k) ∧ Fxd I J p f k (rV (mQ I p f d k) (mA I f d k) (mSi I f d k) (mWt I f d k)) (rF (mQ I p f d k) (mA I f d k) (mSi I f d k) (mWt I f d k)) (I 74 44).toNat
def GMk (I : Nat → Nat → Int) (f d : Int) : Prop := (0 ≤ f ∧ f ≤ 5) ∧ (-2147483648 ≤ d ∧ d ≤ 2147483647) ∧ (0 ≤ I 74 4 ∧ I 74 4 ≤ 10) ∧ (0 ≤ I 74 5 ∧ I 74 5 ≤ 150) ∧ (∀ c, c < 36 → 0 ≤ I 75 c ∧ I 75 c ≤ 9) ∧ (∀ c, c < 6 → 0 ≤ I 76 c ∧ I 76 c ≤ 50) ∧ (∀ r : Nat, (r : Int) < I 74 4 → 0 ≤ I 78 r ∧ I 78 r ≤ 5) ∧ (∀ j : Nat, (j : Int) < I 74 5 → (0 ≤ I 83 j ∧ I 83 j ≤ 999999) ∧ 0 ≤ I 84 j ∧ I 84 j ≤ 100000) ∧ (0 ≤ I 74 44 ∧ I 74 44 ≤ 20) ∧ ∀ m : Nat, (m : Int) < I 74 44 → 0 ≤ I 105 m ∧ I 105 m < 10
theorem mQ_f {I : Nat → Nat → Int} {p f d k : Int} {r : Nat} (hq : mQ I p f d k r = true) : (r : Int) < I 74 4 ∧ I 111 r = p ∧ 0 ≤ mB I f d k r ∧ I 86 (mB I f d k r).toNat = 0 := of_decide_eq_true hq
theorem mB_rg {I : Nat → Nat → Int} {f d : Int} (hG : GMk I f d) (k : Int) (r : Nat) : -1 ≤ mB I f d k r ∧ mB I f d k r < I 74 5 := by
  have := bv_rg (I 81) (I 82) (I 84) (I 85) (r : Int) f d k (I 74 5).toNat
  have h2 := hG.2.2.2.1
  unfold mB
  omega
theorem mW_rg {I : Nat → Nat → Int} {f d : Int} (hG : GMk I f d) {k : Int} {r : Nat} (hr : (r : Int) < I 74 4) (hb : 0 ≤ mB I f d k r) : (0 ≤ d - (I 84 (mB I f d k r).toNat) ∧ d - (I 84 (mB I f d k r).toNat) ≤ 2147483647) ∧ (0 ≤ (I 76 f.toNat) * (d - (I 84 (mB I f d k r).toNat)) ∧ (I 76 f.toNat) * (d - (I 84 (mB I f d k r).toNat)) ≤ 50 * 2147483647) ∧ (0 ≤ I 75 ((6 * (I 78 r)) + f).toNat ∧ I 75 ((6 * (I 78 r)) + f).toNat ≤ 9) ∧ 0 ≤ mWt I f d k r ∧ mWt I f d k r ≤ 900 := by
  obtain ⟨g1, g2, g3, g4, g5, g6, g7, g8, g9⟩ := hG
  have h1 := (bv_ok (I 74 5).toNat (ro := I 81) (fi := I 82) (fr := I 84) (to := I 85) (r := (r : Int)) (f := f) (d := d) (k := k) hb).1
  have h1 : I 84 (mB I f d k r).toNat ≤ d := h1
  have h0 := bv_rg (I 81) (I 82) (I 84) (I 85) (r : Int) f d k (I 74 5).toNat
  have h2 := (g8 (mB I f d k r).toNat (by unfold mB at hb ⊢; omega)).2
  have h3 := g6 f.toNat (by omega)
  have h4 := g7 r hr
  have h5 := g5 ((6 * (I 78 r)) + f).toNat (by omega)
  have a1 : 0 ≤ d - (I 84 (mB I f d k r).toNat) ∧ d - (I 84 (mB I f d k r).toNat) ≤ 2147483647 := by omega
  have a2 : 0 ≤ (I 76 f.toNat) * (d - (I 84 (mB I f d k r).toNat)) ∧ (I 76 f.toNat) * (d - (I 84 (mB I f d k r).toNat)) ≤ 50 * 2147483647 := ⟨Int.mul_nonneg h3.1 a1.1, Int.le_trans (Int.mul_le_mul_of_nonneg_right h3.2 a1.1) (Int.mul_le_mul_of_nonneg_left a1.2 (by omega))⟩
  refine ⟨a1, a2, h5, ?_⟩
  unfold mWt mW0
  generalize (I 76 f.toNat) * (d - (I 84 (mB I f d k r).toNat)) = z at *
  split <;> omega
