-- VOICES: gather, choose
theorem pik_t {S T : Int → Int} {c x : Int} (h : c = -1 ∨ S c < S x ∨ (S c = S x ∧ (T c < T x ∨ (T c = T x ∧ x < c)))) : pik S T c x = x := if_pos h
theorem pik_f {S T : Int → Int} {c x : Int} (h : ¬ (c = -1 ∨ S c < S x ∨ (S c = S x ∧ (T c < T x ∨ (T c = T x ∧ x < c))))) : pik S T c x = c := if_neg h
def vS (I : Nat → Nat → Int) (x : Int) : Int := sumF (I 63) (I 65) x (I 61 3).toNat
def vT (I : Nat → Nat → Int) (x : Int) : Int := latF (I 63) (I 64) x (I 61 3).toNat
def VOk (I : Nat → Nat → Int) : Prop := (0 ≤ I 61 3 ∧ I 61 3 ≤ 10) ∧ ∀ i : Nat, (i : Int) < I 61 3 → (0 ≤ I 63 i ∧ I 63 i ≤ 999999) ∧ (0 ≤ I 64 i ∧ I 64 i ≤ 100000) ∧ 0 ≤ I 65 i ∧ I 65 i ≤ 900
/-- the choice among the first i voices -/
def ChL (I J : Nat → Nat → Int) (i : Nat) (gs la : Int) : Prop := (∀ a j, ¬ (a = 61 ∧ j ≤ 2) → J a j = I a j) ∧ J 61 2 = ((dst (I 63) i).length : Int) ∧ J 61 0 = bsx (vS I) (vT I) (dst (I 63) i) ∧ gs = (if J 61 0 = -1 then -1 else vS I (J 61 0)) ∧ la = (if J 61 0 = -1 then -1 else vT I (J 61 0))
theorem ChL_rg {I J : Nat → Nat → Int} {i : Nat} {gs la : Int} (hV : VOk I) (h : ChL I J i gs la) (hi : (i : Int) ≤ I 61 3) : (-1 ≤ gs ∧ gs ≤ 9000) ∧ (-1 ≤ la ∧ la ≤ 100000) ∧ (-1 ≤ J 61 0 ∧ J 61 0 ≤ 999999) ∧ (0 ≤ J 61 2 ∧ J 61 2 ≤ 10) ∧ (∀ x, 0 ≤ vS I x ∧ vS I x ≤ 9000) ∧ ∀ x, -1 ≤ vT I x ∧ vT I x ≤ 100000 := by
  obtain ⟨h1, h2, h3, h4, h5⟩ := h
  have hV1 := hV.1
  have s1 : ∀ x, 0 ≤ vS I x ∧ vS I x ≤ 9000 := fun x => by
    have := sumF_rg (va := I 63) (we := I 65) (x := x) (n := (I 61 3).toNat) (fun z hz => (hV.2 z (by omega)).2.2)
    unfold vS
    omega
  have s2 : ∀ x, -1 ≤ vT I x ∧ vT I x ≤ 100000 := fun x => latF_rg (fun z hz => (hV.2 z (by omega)).2.1)
  have s3 := bsx_rg (vS I) (vT I) (I 63) i (fun z hz => (hV.2 z (by omega)).1)
  have s4 := dst_len (I 63) i
  have a1 := s1 (J 61 0)
  have a2 := s2 (J 61 0)
  refine ⟨?_, ?_, by omega, by omega, s1, s2⟩
  · rw [h4]
    split <;> omega
  · rw [h5]
    split <;> omega
theorem ChL_old {I J : Nat → Nat → Int} {i : Nat} {gs la : Int} (h : ChL I J i gs la) (hf : ¬ ∀ j : Nat, j < i → I 63 j ≠ I 63 i) : ChL I J (i + 1) gs la := by
  obtain ⟨h1, h2, h3, h4, h5⟩ := h
  have hin : I 63 i ∈ dst (I 63) i := dst_mem.mpr (Classical.byContradiction (fun z => hf (fun j hj e => z ⟨j, hj, e⟩)))
  refine ⟨h1, ?_, ?_, h4, h5⟩
  · rw [dst_s, if_pos hin]
    exact h2
  · rw [dst_s, if_pos hin]
    exact h3
theorem ChL_new {I J J' : Nat → Nat → Int} {i : Nat} {gs la gs' la' : Int} (hV : VOk I) (hi : (i : Int) < I 61 3) (h : ChL I J i gs la) (hf : ∀ j : Nat, j < i → I 63 j ≠ I 63 i)
    (hc : ((0 < vS I (I 63 i) - gs ∨ (vS I (I 63 i) - gs = 0 ∧ (0 < vT I (I 63 i) - la ∨ (vT I (I 63 i) - la = 0 ∧ 0 < J 61 0 - I 63 i)))) ∧ J' = upI (upI J 61 2 (J 61 2 + 1)) 61 0 (I 63 i) ∧ gs' = vS I (I 63 i) ∧ la' = vT I (I 63 i)) ∨
      (¬ (0 < vS I (I 63 i) - gs ∨ (vS I (I 63 i) - gs = 0 ∧ (0 < vT I (I 63 i) - la ∨ (vT I (I 63 i) - la = 0 ∧ 0 < J 61 0 - I 63 i)))) ∧ J' = upI J 61 2 (J 61 2 + 1) ∧ gs' = gs ∧ la' = la)) : ChL I J' (i + 1) gs' la' := by
  have hr := ChL_rg hV h (by omega)
  obtain ⟨h1, h2, h3, h4, h5⟩ := h
  have hni : I 63 i ∉ dst (I 63) i := fun z => by
    obtain ⟨j, j1, j2⟩ := dst_mem.mp z
    exact hf j j1 j2
  have hs := hr.2.2.2.2.1 (I 63 i)
  have hx := (hV.2 i hi).1
  unfold ChL
  rw [dst_s, if_neg hni, bsx_s, ← h3, List.length_append, List.length_singleton]
  rcases hc with ⟨c1, c2, c3, c4⟩ | ⟨c1, c2, c3, c4⟩
  · have e0 : J' 61 0 = I 63 i := by rw [c2, upI_eq rfl rfl]
    refine ⟨fun a j ha => by rw [c2, upI_ne (by omega), upI_ne (by omega)]; exact h1 a j ha, by rw [c2, upI_ne (by omega), upI_eq rfl rfl]; omega, ?_, by rw [e0, if_neg (by omega)]; exact c3, by rw [e0, if_neg (by omega)]; exact c4⟩
    rw [e0, pik_t]
    by_cases e : J 61 0 = -1
    · exact Or.inl e
    · rw [if_neg e] at h4 h5
      right
      omega
  · have e0 : J' 61 0 = J 61 0 := by rw [c2, upI_ne (by omega)]
    refine ⟨fun a j ha => by rw [c2, upI_ne (by omega)]; exact h1 a j ha, by rw [c2, upI_eq rfl rfl]; omega, ?_, by rw [e0, c3]; exact h4, by rw [e0, c4]; exact h5⟩
    rw [e0, pik_f]
    intro z
    apply c1
    by_cases e : J 61 0 = -1
    · rw [if_pos e] at h4
      left
      omega
    · rw [if_neg e] at h4 h5
      omega
def ChV (I J : Nat → Nat → Int) : Prop := (∀ a j, ¬ (a = 61 ∧ j ≤ 2) → J a j = I a j) ∧ J 61 0 = bsx (vS I) (vT I) (dst (I 63) (I 61 3).toNat) ∧ J 61 2 = ((dst (I 63) (I 61 3).toNat).length : Int) ∧ J 61 1 = (strF (I 63) (I 65) (I 62) (J 61 0) (I 61 3).toNat).2
-- gather
def vQ (I : Nat → Nat → Int) (p f : Int) : Nat → Bool := fun r => decide (I 50 r = p ∧ I 46 (((r : Int) * 6) + f).toNat ≠ -1 ∧ I 48 (((r : Int) * 6) + f).toNat = 0)
def vW (I : Nat → Nat → Int) (f : Int) (r : Nat) : Int := if 0 < (100 * (I 14 (((I 18 r) * 6) + f).toNat)) - ((I 15 f.toNat) * ((I 44 0) - (I 47 (((r : Int) * 6) + f).toNat))) then (100 * (I 14 (((I 18 r) * 6) + f).toNat)) - ((I 15 f.toNat) * ((I 44 0) - (I 47 (((r : Int) * 6) + f).toNat))) else 0
def VgL (I J : Nat → Nat → Int) (p f : Int) (r : Nat) : Prop := (∀ a j, ¬ ((a = 61 ∧ j = 3) ∨ (62 ≤ a ∧ a ≤ 65)) → J a j = I a j) ∧ J 61 3 = (cnt (vQ I p f) r : Int) ∧ ∀ q, q < r → vQ I p f q = true → J 62 (cnt (vQ I p f) q) = (q : Int) ∧ J 63 (cnt (vQ I p f) q) = I 46 (((q : Int) * 6) + f).toNat ∧ J 64 (cnt (vQ I p f) q) = I 47 (((q : Int) * 6) + f).toNat ∧ J 65 (cnt (vQ I p f) q) = vW I f q
theorem Vg_no {I J : Nat → Nat → Int} {p f r : Int} (h : VgL I J p f r.toNat) (h0 : 0 ≤ r) (hq : ¬ (J 50 r.toNat = p ∧ J 46 ((r * 6) + f).toNat ≠ -1 ∧ J 48 ((r * 6) + f).toNat = 0)) : VgL I J p f (r + 1).toNat := by
  obtain ⟨h1, h2, h3⟩ := h
  rw [h1 50 _ (by omega), h1 46 _ (by omega), h1 48 _ (by omega)] at hq
  have hQ : vQ I p f r.toNat = false := decide_eq_false (by rw [show ((r.toNat : Nat) : Int) = r by omega]; exact hq)
  rw [show (r + 1).toNat = r.toNat + 1 by omega]
  refine ⟨h1, by rw [cnt_s, hQ]; exact h2, fun q hq2 hq3 => h3 q ?_ hq3⟩
  by_cases e : q = r.toNat
  · rw [e, hQ] at hq3
    exact absurd hq3 (by decide)
  · omega
theorem Vg_yes {I J J' : Nat → Nat → Int} {p f r z : Int} (h : VgL I J p f r.toNat) (h0 : 0 ≤ r) (hq : J 50 r.toNat = p ∧ J 46 ((r * 6) + f).toNat ≠ -1 ∧ J 48 ((r * 6) + f).toNat = 0) (hz : z = vW I f r.toNat) (hJ : J' = upI (upI (upI (upI (upI J 62 (J 61 3).toNat r) 63 (J 61 3).toNat (J 46 ((r * 6) + f).toNat)) 64 (J 61 3).toNat (J 47 ((r * 6) + f).toNat)) 65 (J 61 3).toNat z) 61 3 (J 61 3 + 1)) : VgL I J' p f (r + 1).toNat := by
  obtain ⟨h1, h2, h3⟩ := h
  rw [h1 50 _ (by omega), h1 46 _ (by omega), h1 48 _ (by omega)] at hq
  rw [h1 46 _ (by omega), h1 47 _ (by omega)] at hJ
  have hQ : vQ I p f r.toNat = true := decide_eq_true (by rw [show ((r.toNat : Nat) : Int) = r by omega]; exact hq)
  rw [show (r + 1).toNat = r.toNat + 1 by omega]
  refine ⟨fun a j ha => by rw [hJ, upI_ne (by omega), upI_ne (by omega), upI_ne (by omega), upI_ne (by omega), upI_ne (by omega)]; exact h1 a j ha, by rw [hJ, upI_eq rfl rfl, cnt_s, hQ, h2]; rfl, fun q hq2 hq3 => ?_⟩
  by_cases e : q = r.toNat
  · have ec : cnt (vQ I p f) q = (J 61 3).toNat := by rw [e]; omega
    rw [ec, e, show ((r.toNat : Nat) : Int) = r by omega]
    refine ⟨?_, ?_, ?_, ?_⟩
    · rw [hJ, upI_ne (by omega), upI_ne (by omega), upI_ne (by omega), upI_ne (by omega), upI_eq rfl rfl]
    · rw [hJ, upI_ne (by omega), upI_ne (by omega), upI_ne (by omega), upI_eq rfl rfl]
    · rw [hJ, upI_ne (by omega), upI_ne (by omega), upI_eq rfl rfl]
    · rw [hJ, upI_ne (by omega), upI_eq rfl rfl]
      exact hz
  · have hl := cnt_lt (T := vQ I p f) (show q < r.toNat by omega) hq3
    have f2 : ∀ a, 62 ≤ a ∧ a ≤ 65 → J' a (cnt (vQ I p f) q) = J a (cnt (vQ I p f) q) := fun a ha => by
      rw [hJ, upI_ne (by omega), upI_ne (by omega), upI_ne (by omega), upI_ne (by omega), upI_ne (by omega)]
    rw [f2 62 (by omega), f2 63 (by omega), f2 64 (by omega), f2 65 (by omega)]
    exact h3 q (by omega) hq3
/-- what the rows' speaking asks -/
def VgK (I : Nat → Nat → Int) (p f : Int) : Prop := (0 ≤ f ∧ f ≤ 5) ∧ I 44 0 ≤ 2147483647 ∧ (∀ c, c < 36 → 0 ≤ I 14 c ∧ I 14 c ≤ 9) ∧ (∀ c, c < 6 → 0 ≤ I 15 c ∧ I 15 c ≤ 50) ∧ ∀ r : Nat, r < 10 → vQ I p f r = true → (0 ≤ I 18 r ∧ I 18 r ≤ 5) ∧ (0 ≤ I 46 (((r : Int) * 6) + f).toNat ∧ I 46 (((r : Int) * 6) + f).toNat ≤ 999999) ∧ (0 ≤ I 47 (((r : Int) * 6) + f).toNat ∧ I 47 (((r : Int) * 6) + f).toNat ≤ 100000 ∧ I 47 (((r : Int) * 6) + f).toNat ≤ I 44 0)
theorem vW_rg {I : Nat → Nat → Int} {p f : Int} (h : VgK I p f) {r : Nat} (hr : r < 10) (hq : vQ I p f r = true) : 0 ≤ vW I f r ∧ vW I f r ≤ 900 := by
  obtain ⟨h1, h2, h3, h4, h5⟩ := h
  obtain ⟨a1, a2, a3⟩ := h5 r hr hq
  have b1 := h3 (((I 18 r) * 6) + f).toNat (by omega)
  have b2 := h4 f.toNat (by omega)
  have b3 : 0 ≤ (I 15 f.toNat) * ((I 44 0) - (I 47 (((r : Int) * 6) + f).toNat)) := Int.mul_nonneg b2.1 (by omega)
  unfold vW
  generalize (I 15 f.toNat) * ((I 44 0) - (I 47 (((r : Int) * 6) + f).toNat)) = z at *
  split <;> omega
theorem Vg_VOk {I J : Nat → Nat → Int} {p f : Int} (hK : VgK I p f) (h : VgL I J p f 10) : VOk J := by
  obtain ⟨h1, h2, h3⟩ := h
  have hc := cnt_le (vQ I p f) 10
  refine ⟨by omega, fun i hi => ?_⟩
  obtain ⟨r, r1, r2, r3⟩ := cnt_at (T := vQ I p f) (n := 10) (j := i) (by omega)
  obtain ⟨_, b2, b3, b4⟩ := h3 r r1 r2
  rw [r3] at b2 b3 b4
  obtain ⟨_, a2, a3⟩ := hK.2.2.2.2 r r1 r2
  rw [b2, b3, b4]
  exact ⟨a2, ⟨a3.1, a3.2.1⟩, vW_rg hK r1 r2⟩
