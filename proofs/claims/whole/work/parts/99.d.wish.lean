-- WISHES
def hasB (A B C : Nat → Int) (r f x : Int) : Nat → Bool
  | 0 => false
  | n + 1 => hasB A B C r f x n || decide (A n = r ∧ B n = f ∧ C n = x)
theorem hasB_s (A B C : Nat → Int) (r f x : Int) (n : Nat) : hasB A B C r f x (n + 1) = (hasB A B C r f x n || decide (A n = r ∧ B n = f ∧ C n = x)) := rfl
theorem hasB_c {A B C A' B' C' : Nat → Int} {r f x : Int} : ∀ {n : Nat}, (∀ i, i < n → A i = A' i ∧ B i = B' i ∧ C i = C' i) → hasB A B C r f x n = hasB A' B' C' r f x n
  | 0, _ => rfl
  | n + 1, h => by
    obtain ⟨h1, h2, h3⟩ := h n (by omega)
    rw [hasB_s, hasB_s, hasB_c (fun i hi => h i (by omega)), h1, h2, h3]
theorem hasB_up {A B C : Nat → Int} {r f x : Int} {n : Nat} (h : hasB A B C r f x n = true) : ∀ d : Nat, hasB A B C r f x (n + d) = true
  | 0 => h
  | d + 1 => by
    show hasB A B C r f x (n + d + 1) = true
    rw [hasB_s, hasB_up h d]
    rfl
theorem bAnd1_01 (x : Int) : bAnd x 1 = 0 ∨ bAnd x 1 = 1 := by
  unfold bAnd
  rw [show Int32.ofInt 1 = 1 from rfl, pk_and (Int32.ofInt x) (m := 1) 1 (by decide), nI_toInt (by omega)]
  omega
/-- the class's golden value for a person and a field -/
def gdC (I : Nat → Nat → Int) (p f : Int) : Int := if lst (fxA I p f) (I 38 0).toNat ≠ -1 then I 41 (lst (fxA I p f) (I 38 0).toNat).toNat else rV (vQ I p f) (vA I f) (vSi I f) (vW I f)
theorem vQ_c {I J : Nat → Nat → Int} (h : ∀ a j, a ≤ 60 → J a j = I a j) (p f : Int) : vQ J p f = vQ I p f := funext (fun r => by
  unfold vQ
  rw [h 50 _ (by omega), h 46 _ (by omega), h 48 _ (by omega)])
theorem vW_c {I J : Nat → Nat → Int} (h : ∀ a j, a ≤ 60 → J a j = I a j) (f : Int) : vW J f = vW I f := funext (fun r => by
  unfold vW
  rw [h 18 _ (by omega), h 14 _ (by omega), h 15 _ (by omega), h 44 _ (by omega), h 47 _ (by omega)])
theorem fxA_c {I J : Nat → Nat → Int} (h : ∀ a j, a ≤ 60 → J a j = I a j) (p f : Int) : fxA J p f = fxA I p f := funext (fun m => by
  unfold fxA
  rw [h 40 _ (by omega), h 42 _ (by omega), h 43 _ (by omega), h 44 _ (by omega), h 39 _ (by omega), h 50 _ (by omega)])
theorem rVC_c {I J : Nat → Nat → Int} (h : ∀ a j, a ≤ 60 → J a j = I a j) (p f : Int) : rV (vQ J p f) (vA J f) (vSi J f) (vW J f) = rV (vQ I p f) (vA I f) (vSi I f) (vW I f) := by
  rw [vQ_c h, vW_c h, show vA J f = vA I f from funext (fun r => h 46 _ (by omega)), show vSi J f = vSi I f from funext (fun r => h 47 _ (by omega))]
theorem gdC_c {I J : Nat → Nat → Int} (h : ∀ a j, a ≤ 60 → J a j = I a j) (p f : Int) : gdC J p f = gdC I p f := by
  unfold gdC
  rw [fxA_c h, rVC_c h, h 38 0 (by omega), h 41 _ (by omega)]
theorem VgK_c {I J : Nat → Nat → Int} (h : ∀ a j, a ≤ 60 → J a j = I a j) {p f : Int} (hK : VgK I p f) : VgK J p f := by
  have e : ∀ a, a ≤ 60 → J a = I a := fun a ha => funext (fun j => h a j ha)
  unfold VgK
  rw [vQ_c h, h 44 0 (by omega), e 14 (by omega), e 15 (by omega), e 18 (by omega), e 46 (by omega), e 47 (by omega)]
  exact hK
/-- what is wished: cell c of the table of rows and fields -/
def wQ (I : Nat → Nat → Int) (s : Int) : Nat → Bool := fun c => decide (((c / 6 : Nat) : Int) < I 17 0 ∧ I 18 (c / 6) = s ∧ I 45 (c / 6) ≠ 0 ∧ bAnd (bShr (I 16 s.toNat) ((c % 6 : Nat) : Int)) 1 = 1 ∧ gdC I (I 50 (c / 6)) ((c % 6 : Nat) : Int) ≠ -1 ∧ gdC I (I 50 (c / 6)) ((c % 6 : Nat) : Int) ≠ I 46 c ∧ hasB (I 67) (I 68) (I 69) ((c / 6 : Nat) : Int) ((c % 6 : Nat) : Int) (gdC I (I 50 (c / 6)) ((c % 6 : Nat) : Int)) (I 66 0).toNat = false)
def WsL (I J : Nat → Nat → Int) (s : Int) (c : Nat) : Prop := (∀ a j, ¬ ((61 ≤ a ∧ a ≤ 65) ∨ (70 ≤ a ∧ a ≤ 73)) → J a j = I a j) ∧ J 70 0 = (cnt (wQ I s) c : Int) ∧ ∀ q, q < c → wQ I s q = true → J 71 (cnt (wQ I s) q) = ((q / 6 : Nat) : Int) ∧ J 72 (cnt (wQ I s) q) = ((q % 6 : Nat) : Int) ∧ J 73 (cnt (wQ I s) q) = gdC I (I 50 (q / 6)) ((q % 6 : Nat) : Int)
theorem Ws_no {I J J' : Nat → Nat → Int} {s : Int} {c : Nat} (h : WsL I J s c) (hq : wQ I s c = false) (hJ : ∀ a j, ¬ (61 ≤ a ∧ a ≤ 65) → J' a j = J a j) : WsL I J' s (c + 1) := by
  obtain ⟨h1, h2, h3⟩ := h
  refine ⟨fun a j ha => by rw [hJ a j (by omega)]; exact h1 a j ha, by rw [hJ 70 0 (by omega), cnt_s, hq]; exact h2, fun q hq2 hq3 => ?_⟩
  rw [hJ 71 _ (by omega), hJ 72 _ (by omega), hJ 73 _ (by omega)]
  refine h3 q ?_ hq3
  by_cases e : q = c
  · rw [e, hq] at hq3
    exact absurd hq3 (by decide)
  · omega
theorem Ws_yes {I J J' J2 : Nat → Nat → Int} {s : Int} {c : Nat} {x y z : Int} (h : WsL I J s c) (hq : wQ I s c = true) (hJ : ∀ a j, ¬ (61 ≤ a ∧ a ≤ 65) → J' a j = J a j) (hx : x = ((c / 6 : Nat) : Int)) (hy : y = ((c % 6 : Nat) : Int)) (hz : z = gdC I (I 50 (c / 6)) ((c % 6 : Nat) : Int)) (hJ2 : J2 = upI (upI (upI (upI J' 71 (J' 70 0).toNat x) 72 (J' 70 0).toNat y) 73 (J' 70 0).toNat z) 70 0 (J' 70 0 + 1)) : WsL I J2 s (c + 1) := by
  obtain ⟨h1, h2, h3⟩ := h
  have e70 : J' 70 0 = (cnt (wQ I s) c : Int) := by rw [hJ 70 0 (by omega)]; exact h2
  refine ⟨fun a j ha => by rw [hJ2, upI_ne (by omega), upI_ne (by omega), upI_ne (by omega), upI_ne (by omega), hJ a j (by omega)]; exact h1 a j ha, by rw [hJ2, upI_eq rfl rfl, cnt_s, hq, e70]; rfl, fun q hq2 hq3 => ?_⟩
  by_cases e : q = c
  · have ec : cnt (wQ I s) q = (J' 70 0).toNat := by rw [e]; omega
    rw [ec, e]
    refine ⟨?_, ?_, ?_⟩
    · rw [hJ2, upI_ne (by omega), upI_ne (by omega), upI_ne (by omega), upI_eq rfl rfl]
      exact hx
    · rw [hJ2, upI_ne (by omega), upI_ne (by omega), upI_eq rfl rfl]
      exact hy
    · rw [hJ2, upI_ne (by omega), upI_eq rfl rfl]
      exact hz
  · have hl := cnt_lt (T := wQ I s) (show q < c by omega) hq3
    have f2 : ∀ a, 71 ≤ a ∧ a ≤ 73 → J2 a (cnt (wQ I s) q) = J a (cnt (wQ I s) q) := fun a ha => by
      rw [hJ2, upI_ne (by omega), upI_ne (by omega), upI_ne (by omega), upI_ne (by omega), hJ a _ (by omega)]
    rw [f2 71 (by omega), f2 72 (by omega), f2 73 (by omega)]
    exact h3 q (by omega) hq3
/-- a row that is passed over -/
theorem Ws_row {I J : Nat → Nat → Int} {s : Int} {r : Nat} (h : WsL I J s (6 * r)) (hr : ¬ (I 18 r = s ∧ I 45 r ≠ 0)) : WsL I J s (6 * (r + 1)) := by
  have hq : ∀ f, f < 6 → wQ I s (6 * r + f) = false := fun f hf => decide_eq_false (fun z => by
    rw [show (6 * r + f) / 6 = r by omega] at z
    exact hr ⟨z.2.1, z.2.2.1⟩)
  have h1 := Ws_no h (hq 0 (by omega)) (fun _ _ _ => rfl)
  have h2 := Ws_no h1 (hq 1 (by omega)) (fun _ _ _ => rfl)
  have h3 := Ws_no h2 (hq 2 (by omega)) (fun _ _ _ => rfl)
  have h4 := Ws_no h3 (hq 3 (by omega)) (fun _ _ _ => rfl)
  have h5 := Ws_no h4 (hq 4 (by omega)) (fun _ _ _ => rfl)
  have h6 := Ws_no h5 (hq 5 (by omega)) (fun _ _ _ => rfl)
  rw [show 6 * (r + 1) = 6 * r + 5 + 1 by omega]
  exact h6
/-- what listing asks of the world behind the parting -/
def LwK (I : Nat → Nat → Int) : Prop := (0 ≤ I 17 0 ∧ I 17 0 ≤ 10) ∧ (0 ≤ I 66 0 ∧ I 66 0 ≤ 60) ∧ (0 ≤ I 38 0 ∧ I 38 0 ≤ 20) ∧ (∀ m : Nat, (m : Int) < I 38 0 → 0 ≤ I 39 m ∧ I 39 m < 10) ∧ ∀ r : Nat, r < 10 → I 45 r ≠ 0 → ∀ f : Int, 0 ≤ f → f ≤ 5 → VgK I (I 50 r) f
def Wsd (I J : Nat → Nat → Int) (s : Int) : Prop := (∀ a j, ¬ ((61 ≤ a ∧ a ≤ 65) ∨ (70 ≤ a ∧ a ≤ 73)) → J a j = I a j) ∧ ((I 49 0 = 0 ∧ J 70 0 = 0) ∨ (I 49 0 ≠ 0 ∧ J 70 0 = (cnt (wQ I s) 60 : Int) ∧ ∀ q, q < 60 → wQ I s q = true → J 71 (cnt (wQ I s) q) = ((q / 6 : Nat) : Int) ∧ J 72 (cnt (wQ I s) q) = ((q % 6 : Nat) : Int) ∧ J 73 (cnt (wQ I s) q) = gdC I (I 50 (q / 6)) ((q % 6 : Nat) : Int)))
theorem Ws_end {I J : Nat → Nat → Int} {s : Int} {n : Nat} (h : WsL I J s (6 * n)) (hn : I 17 0 = (n : Int)) (h10 : n ≤ 10) (h0 : I 49 0 ≠ 0) : Wsd I J s := by
  obtain ⟨h1, h2, h3⟩ := h
  have hz : ∀ q, 6 * n ≤ q → wQ I s q = false := fun q hq => decide_eq_false (fun z => by
    have := z.1
    omega)
  have hc : cnt (wQ I s) 60 = cnt (wQ I s) (6 * n) := by
    have := cnt_ext (Q := wQ I s) (n := 6 * n) (60 - 6 * n) hz
    rw [show 6 * n + (60 - 6 * n) = 60 by omega] at this
    exact this
  refine ⟨h1, Or.inr ⟨h0, by rw [hc]; exact h2, fun q hq hq2 => h3 q ?_ hq2⟩⟩
  rcases Nat.lt_or_ge q (6 * n) with z | z
  · exact z
  · rw [hz q z] at hq2
    exact absurd hq2 (by decide)
