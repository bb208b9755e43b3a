-- THE SIGHT: what the class's Sight holds on d as known on k
def thr (I : Nat → Nat → Int) (k : Int) (r : Nat) : Int := if (r : Int) < I 17 0 ∧ I 20 r = 0 ∧ I 19 r ≤ k then 1 else 0
/-- the number of the version that a cell shows, of the first n -/
def sv (I : Nat → Nat → Int) (d k : Int) (n c : Nat) : Int := if thr I k (c / 6) = 1 then bv (I 22) (I 23) (I 25) (I 26) ((c / 6 : Nat) : Int) ((c % 6 : Nat) : Int) d k n else -1
def Cel (I J : Nat → Nat → Int) (d k : Int) (n c : Nat) : Prop := J 46 c = (if sv I d k n c < 0 then -1 else I 24 (sv I d k n c).toNat) ∧ (0 ≤ sv I d k n c → J 47 c = I 25 (sv I d k n c).toNat ∧ J 48 c = I 27 (sv I d k n c).toNat)
def FrS (I J : Nat → Nat → Int) : Prop := ∀ a j, ¬ (44 ≤ a ∧ a ≤ 48) → J a j = I a j
def Took (I J : Nat → Nat → Int) (d k : Int) : Prop := FrS I J ∧ J 44 0 = d ∧ J 44 1 = k ∧ (∀ r, r < 10 → J 45 r = thr I k r) ∧ ∀ c, c < 60 → Cel I J d k (I 21 0).toNat c
/-- what is known of the class's rows and versions -/
def VOK (I : Nat → Nat → Int) : Prop := (0 ≤ I 17 0 ∧ I 17 0 ≤ 10) ∧ (0 ≤ I 21 0 ∧ I 21 0 ≤ 150) ∧ ∀ j : Nat, (j : Int) < I 21 0 → (0 ≤ I 22 j ∧ I 22 j < 10) ∧ (0 ≤ I 23 j ∧ I 23 j ≤ 5) ∧ 0 ≤ I 24 j ∧ (I 27 j = 0 ∨ I 27 j = 1)
theorem sv_rg (I : Nat → Nat → Int) (d k : Int) (n c : Nat) : -1 ≤ sv I d k n c ∧ sv I d k n c < (n : Int) := by
  unfold sv
  split
  · exact bv_rg _ _ _ _ _ _ _ _ n
  · omega
theorem sv_0 (I : Nat → Nat → Int) (d k : Int) (c : Nat) : sv I d k 0 c = -1 := by
  unfold sv
  split <;> rfl
/-- a version that isn't this cell's, or doesn't count, changes nothing here -/
theorem sv_skip {I : Nat → Nat → Int} {d k : Int} {n c : Nat} (h : ¬ (I 22 n = ((c / 6 : Nat) : Int) ∧ I 23 n = ((c % 6 : Nat) : Int) ∧ I 26 n ≤ k ∧ I 25 n ≤ d ∧ thr I k (c / 6) = 1)) : sv I d k (n + 1) c = sv I d k n c := by
  unfold sv
  split
  · next ht => rw [bv_s, if_neg (fun z => h ⟨z.1, z.2.1, z.2.2.1, z.2.2.2.1, ht⟩)]
  · rfl
theorem sv_hit {I : Nat → Nat → Int} {d k : Int} {n c : Nat} (h : I 22 n = ((c / 6 : Nat) : Int) ∧ I 23 n = ((c % 6 : Nat) : Int) ∧ I 26 n ≤ k ∧ I 25 n ≤ d ∧ thr I k (c / 6) = 1) : sv I d k (n + 1) c = if sv I d k n c < 0 ∨ I 25 (sv I d k n c).toNat ≤ I 25 n then (n : Int) else sv I d k n c := by
  unfold sv
  rw [if_pos h.2.2.2.2, if_pos h.2.2.2.2, bv_s]
  by_cases hc : bv (I 22) (I 23) (I 25) (I 26) ((c / 6 : Nat) : Int) ((c % 6 : Nat) : Int) d k n < 0 ∨ I 25 (bv (I 22) (I 23) (I 25) (I 26) ((c / 6 : Nat) : Int) ((c % 6 : Nat) : Int) d k n).toNat ≤ I 25 n
  · rw [if_pos hc, if_pos ⟨h.1, h.2.1, h.2.2.1, h.2.2.2.1, hc⟩]
  · rw [if_neg hc, if_neg (fun z => hc z.2.2.2.2)]
theorem Cel_skip {I J J' : Nat → Nat → Int} {d k : Int} {n c : Nat} (h : Cel I J d k n c) (hs : sv I d k (n + 1) c = sv I d k n c) (h1 : J' 46 c = J 46 c) (h2 : J' 47 c = J 47 c) (h3 : J' 48 c = J 48 c) : Cel I J' d k (n + 1) c := by
  unfold Cel at h ⊢
  rw [hs, h1, h2, h3]
  exact h
theorem thr_01 (I : Nat → Nat → Int) (k : Int) (r : Nat) : thr I k r = 0 ∨ thr I k r = 1 := by
  unfold thr
  split
  · exact Or.inr rfl
  · exact Or.inl rfl
theorem take_skip {I J : Nat → Nat → Int} {d k : Int} {n c : Nat} (h6 : ∀ c, c < 60 → Cel I J d k n c) (hc : c < 60) (q22 : J 22 n = I 22 n) (q23 : J 23 n = I 23 n) (q24 : J 24 n = I 24 n) (q25 : J 25 n = I 25 n) (q26 : J 26 n = I 26 n) (hx : (0 ≤ I 22 n ∧ I 22 n < 10) ∧ (0 ≤ I 23 n ∧ I 23 n ≤ 5) ∧ 0 ≤ I 24 n ∧ (I 27 n = 0 ∨ I 27 n = 1)) (hth : (J 22 n).toNat < 10 → J 45 (J 22 n).toNat = thr I k (J 22 n).toNat)
    (hcase : k < J 26 n ∨ d < J 25 n ∨ J 45 (J 22 n).toNat = 0 ∨ (J 46 ((J 22 n * 6) + J 23 n).toNat ≠ -1 ∧ J 25 n < J 47 ((J 22 n * 6) + J 23 n).toNat)) : Cel I J d k (n + 1) c := by
  by_cases hm : I 22 n = ((c / 6 : Nat) : Int) ∧ I 23 n = ((c % 6 : Nat) : Int) ∧ I 26 n ≤ k ∧ I 25 n ≤ d ∧ thr I k (c / 6) = 1
  · obtain ⟨m1, m2, m3, m4, m5⟩ := id hm
    have hth := hth (by omega)
    rw [show (J 22 n).toNat = c / 6 by omega] at hth hcase
    have ce : ((J 22 n * 6) + J 23 n).toNat = c := by omega
    rw [ce] at hcase
    have hC := h6 c hc
    have hs := sv_hit hm
    have hsv : 0 ≤ sv I d k n c := by
      rcases Int.lt_or_le (sv I d k n c) 0 with h | h
      · have := hC.1
        rw [if_pos h] at this
        omega
      · exact h
    have h47 := (hC.2 hsv).1
    refine Cel_skip hC ?_ rfl rfl rfl
    rw [hs, if_neg (by omega)]
  · exact Cel_skip (h6 c hc) (sv_skip hm) rfl rfl rfl
theorem take_hit {I J : Nat → Nat → Int} {d k : Int} {n c : Nat} (hV : VOK I) (hn : (n : Int) < I 21 0) (h6 : ∀ c, c < 60 → Cel I J d k n c) (hc : c < 60) (hcc : c = ((J 22 n * 6) + J 23 n).toNat) (q22 : J 22 n = I 22 n) (q23 : J 23 n = I 23 n) (q24 : J 24 n = I 24 n) (q25 : J 25 n = I 25 n) (q26 : J 26 n = I 26 n) (q27 : J 27 n = I 27 n) (hth : J 45 (J 22 n).toNat = thr I k (J 22 n).toNat)
    (h26 : J 26 n ≤ k) (h25 : J 25 n ≤ d) (h45 : J 45 (J 22 n).toNat ≠ 0) (hb : J 46 ((J 22 n * 6) + J 23 n).toNat = -1 ∨ J 47 ((J 22 n * 6) + J 23 n).toNat ≤ J 25 n) :
    Cel I (upI (upI (upI J 46 ((J 22 n * 6) + J 23 n).toNat (J 24 n)) 47 ((J 22 n * 6) + J 23 n).toNat (J 25 n)) 48 ((J 22 n * 6) + J 23 n).toNat (J 27 n)) d k (n + 1) c := by
  have hx := hV.2.2 n hn
  rw [hth] at h45
  have ht := (thr_01 I k (J 22 n).toNat).resolve_left h45
  rw [show (J 22 n).toNat = c / 6 by omega] at ht
  have hm : I 22 n = ((c / 6 : Nat) : Int) ∧ I 23 n = ((c % 6 : Nat) : Int) ∧ I 26 n ≤ k ∧ I 25 n ≤ d ∧ thr I k (c / 6) = 1 := ⟨by omega, by omega, by omega, by omega, ht⟩
  have hC := h6 c hc
  rw [← hcc] at hb ⊢
  have hr := sv_rg I d k n c
  have hs := sv_hit hm
  have hsn : sv I d k (n + 1) c = (n : Int) := by
    rw [hs, if_pos ?_]
    rcases Int.lt_or_le (sv I d k n c) 0 with h | h
    · exact Or.inl h
    · right
      have h1 := hC.1
      rw [if_neg (by omega)] at h1
      have h2 := (hC.2 h).1
      have h3 := (hV.2.2 (sv I d k n c).toNat (by omega)).2.2.1
      omega
  unfold Cel
  rw [hsn]
  refine ⟨?_, fun _ => ⟨?_, ?_⟩⟩
  · rw [upI_ne (by omega), upI_ne (by omega), upI_eq rfl rfl, if_neg (by omega)]
    exact q24
  · rw [upI_ne (by omega), upI_eq rfl rfl]
    exact q25
  · rw [upI_eq rfl rfl]
    exact q27
