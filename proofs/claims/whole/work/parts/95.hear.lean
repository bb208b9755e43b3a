-- WHAT IS HEARD, from the rows that speak (Q), their values (A), days (S), weights (W)
def vva (Q : Nat → Bool) (A : Nat → Int) : Nat → Int := fun i => A (fi Q 10 i)
def rV (Q : Nat → Bool) (A S W : Nat → Int) : Int := bsx (fun x => sumF (vva Q A) (vva Q W) x (cnt Q 10)) (fun x => latF (vva Q A) (vva Q S) x (cnt Q 10)) (dst (vva Q A) (cnt Q 10))
def rF (Q : Nat → Bool) (A S W : Nat → Int) : Int := (strF (vva Q A) (vva Q W) (vva Q (fun r => (r : Int))) (rV Q A S W) (cnt Q 10)).2
def rN (Q : Nat → Bool) (A : Nat → Int) : Int := ((dst (vva Q A) (cnt Q 10)).length : Int)
theorem r_of {Q : Nat → Bool} {A S W va si we rw : Nat → Int} (h : ∀ r, r < 10 → Q r = true → rw (cnt Q r) = (r : Int) ∧ va (cnt Q r) = A r ∧ si (cnt Q r) = S r ∧ we (cnt Q r) = W r) : bsx (fun x => sumF va we x (cnt Q 10)) (fun x => latF va si x (cnt Q 10)) (dst va (cnt Q 10)) = rV Q A S W ∧ (strF va we rw (rV Q A S W) (cnt Q 10)).2 = rF Q A S W ∧ ((dst va (cnt Q 10)).length : Int) = rN Q A := by
  have e : ∀ i, i < cnt Q 10 → va i = vva Q A i ∧ we i = vva Q W i ∧ si i = vva Q S i ∧ rw i = vva Q (fun r => (r : Int)) i := fun i hi => by
    obtain ⟨r, r1, r2, r3⟩ := cnt_at hi
    obtain ⟨a1, a2, a3, a4⟩ := h r r1 r2
    rw [r3] at a1 a2 a3 a4
    have hf : fi Q 10 i = r := by rw [← r3]; exact fi_at r1 r2
    unfold vva
    rw [hf]
    exact ⟨a2, a4, a3, a1⟩
  have d := (F_c (x := 0) e).2.2.2
  refine ⟨?_, ?_, ?_⟩
  · unfold rV
    rw [d]
    exact bsx_c (fun x => (F_c (x := x) e).1) (fun x => (F_c (x := x) e).2.1) _
  · unfold rF
    rw [(F_c (x := rV Q A S W) e).2.2.1]
  · unfold rN
    rw [d]
theorem r_c {Q Q' : Nat → Bool} {A S W A' S' W' : Nat → Int} (hQ : ∀ r, r < 10 → Q r = Q' r) (h : ∀ r, r < 10 → Q r = true → A r = A' r ∧ S r = S' r ∧ W r = W' r) : rV Q A S W = rV Q' A' S' W' ∧ rF Q A S W = rF Q' A' S' W' ∧ rN Q A = rN Q' A' := by
  have ec : ∀ r, r ≤ 10 → cnt Q r = cnt Q' r := fun r hr => cnt_c (fun z hz => hQ z (by omega))
  have := r_of (Q := Q') (A := A') (S := S') (W := W') (va := vva Q A) (si := vva Q S) (we := vva Q W) (rw := vva Q (fun r => (r : Int))) (fun r hr hq => by
    rw [← hQ r hr] at hq
    have hf : fi Q 10 (cnt Q' r) = r := by rw [← ec r (by omega)]; exact fi_at hr hq
    unfold vva
    rw [hf]
    have := h r hr hq
    exact ⟨rfl, this.1, this.2.1, this.2.2⟩)
  rw [← ec 10 (by omega)] at this
  have t1 : rV Q A S W = rV Q' A' S' W' := this.1
  refine ⟨t1, ?_, this.2.2⟩
  have t2 := this.2.1
  rw [← t1] at t2
  exact t2
def vA (I : Nat → Nat → Int) (f : Int) : Nat → Int := fun r => I 46 (((r : Int) * 6) + f).toNat
def vSi (I : Nat → Nat → Int) (f : Int) : Nat → Int := fun r => I 47 (((r : Int) * 6) + f).toNat
/-- the class's voices have spoken -/
def Hrd (I J : Nat → Nat → Int) (p f : Int) : Prop := (∀ a j, ¬ (61 ≤ a ∧ a ≤ 65) → J a j = I a j) ∧ J 61 0 = rV (vQ I p f) (vA I f) (vSi I f) (vW I f) ∧ J 61 1 = rF (vQ I p f) (vA I f) (vSi I f) (vW I f) ∧ J 61 2 = rN (vQ I p f) (vA I f)
theorem Hrd_mk {I J1 J : Nat → Nat → Int} {p f : Int} (h1 : VgL I J1 p f 10) (h2 : ChV J1 J) : Hrd I J p f := by
  obtain ⟨a1, a2, a3⟩ := h1
  obtain ⟨c1, c2, c3, c4⟩ := h2
  have hn : (J1 61 3).toNat = cnt (vQ I p f) 10 := by omega
  obtain ⟨e1, e2, e3⟩ := r_of (Q := vQ I p f) (A := vA I f) (S := vSi I f) (W := vW I f) (va := J1 63) (si := J1 64) (we := J1 65) (rw := J1 62) a3
  have e0 : J 61 0 = rV (vQ I p f) (vA I f) (vSi I f) (vW I f) := by
    rw [c2]
    unfold vS vT
    rw [hn]
    exact e1
  refine ⟨fun a j ha => by rw [c1 a j (by omega), a1 a j (by omega)], e0, ?_, ?_⟩
  · rw [c4, hn, e0]
    exact e2
  · rw [c3, hn]
    exact e3
-- fixes
def fxA (I : Nat → Nat → Int) (p f : Int) : Nat → Bool := fun m => decide (I 40 m = f ∧ (I 42 m ≤ I 44 1 ∧ (I 43 m = -1 ∨ I 44 1 < I 43 m)) ∧ I 50 (I 39 m).toNat = p)
def GOK (I : Nat → Nat → Int) : Prop := (∀ c, c < 36 → 0 ≤ I 14 c ∧ I 14 c ≤ 9) ∧ (∀ c, c < 6 → 0 ≤ I 15 c ∧ I 15 c ≤ 50) ∧ (∀ r : Nat, (r : Int) < I 17 0 → 0 ≤ I 18 r ∧ I 18 r ≤ 5) ∧ (∀ j : Nat, (j : Int) < I 21 0 → (0 ≤ I 25 j ∧ I 25 j ≤ 100000) ∧ I 24 j ≤ 999999) ∧ (0 ≤ I 38 0 ∧ I 38 0 ≤ 20) ∧ ∀ m : Nat, (m : Int) < I 38 0 → (0 ≤ I 39 m ∧ I 39 m < 10) ∧ 0 ≤ I 41 m ∧ I 41 m ≤ 999999
theorem bv_ok {ro fi fr to : Nat → Int} {r f d k : Int} : ∀ n : Nat, 0 ≤ bv ro fi fr to r f d k n → fr (bv ro fi fr to r f d k n).toNat ≤ d ∧ to (bv ro fi fr to r f d k n).toNat ≤ k ∧ ro (bv ro fi fr to r f d k n).toNat = r ∧ fi (bv ro fi fr to r f d k n).toNat = f
  | 0, h => absurd h (by show ¬ (0 : Int) ≤ -1; omega)
  | n + 1, h => by
    have ih := bv_ok (ro := ro) (fi := fi) (fr := fr) (to := to) (r := r) (f := f) (d := d) (k := k) n
    rw [bv_s] at h ⊢
    by_cases e : ro n = r ∧ fi n = f ∧ to n ≤ k ∧ fr n ≤ d ∧ (bv ro fi fr to r f d k n < 0 ∨ fr (bv ro fi fr to r f d k n).toNat ≤ fr n)
    · rw [if_pos e, show ((n : Int)).toNat = n by omega]
      exact ⟨e.2.2.2.1, e.2.2.1, e.1, e.2.1⟩
    · rw [if_neg e] at h ⊢
      exact ih h
/-- a row that speaks: what its cell shows -/
theorem sg_cell {I : Nat → Nat → Int} {d k : Int} (hs : SG I d k) (hV : VOK I) {r : Nat} {f : Int} (hr : r < 10) (hf : 0 ≤ f ∧ f ≤ 5) (ht : thB I r = true) (hv : I 46 (((r : Int) * 6) + f).toNat ≠ -1) : ∃ s : Nat, (s : Int) < I 21 0 ∧ sv I d k (I 21 0).toNat (r * 6 + f.toNat) = (s : Int) ∧ I 46 (((r : Int) * 6) + f).toNat = I 24 s ∧ I 47 (((r : Int) * 6) + f).toNat = I 25 s ∧ I 48 (((r : Int) * 6) + f).toNat = I 27 s ∧ I 25 s ≤ d := by
  rw [show (((r : Int) * 6) + f).toNat = r * 6 + f.toNat by omega] at hv ⊢
  obtain ⟨c1, c2⟩ := hs.2.2.2 (r * 6 + f.toNat) (by omega)
  have h1 := sv_rg I d k (I 21 0).toNat (r * 6 + f.toNat)
  have h0 : 0 ≤ sv I d k (I 21 0).toNat (r * 6 + f.toNat) := by
    rcases Int.lt_or_le (sv I d k (I 21 0).toNat (r * 6 + f.toNat)) 0 with z | z
    · rw [if_pos z] at c1
      exact absurd c1 hv
    · exact z
  rw [if_neg (by omega)] at c1
  obtain ⟨c3, c4⟩ := c2 h0
  refine ⟨(sv I d k (I 21 0).toNat (r * 6 + f.toNat)).toNat, by have := hV.2.1; omega, by omega, c1, c3, c4, ?_⟩
  have e : sv I d k (I 21 0).toNat (r * 6 + f.toNat) = bv (I 22) (I 23) (I 25) (I 26) (((r * 6 + f.toNat) / 6 : Nat) : Int) (((r * 6 + f.toNat) % 6 : Nat) : Int) d k (I 21 0).toNat := by
    unfold sv
    have h5 := hs.2.2.1 r hr
    have h6 : I 45 r ≠ 0 := of_decide_eq_true ht
    rw [show (r * 6 + f.toNat) / 6 = r by omega]
    rcases thr_01 I k r with z | z
    · omega
    · rw [if_pos z]
  have := (bv_ok (I 21 0).toNat (by rw [← e]; exact h0)).1
  rw [← e] at this
  exact this
theorem VgK_mk {bk : Nat} {I : Nat → Nat → Int} {d k p f : Int} (hs : SG I d k) (hV : VOK I) (hG : GOK I) (hP : PtOK bk I) (hd : d ≤ 2147483647) (hf : 0 ≤ f ∧ f ≤ 5) (hp : p ≠ -1) : VgK I p f := by
  refine ⟨hf, by rw [hs.1]; exact hd, hG.1, hG.2.1, fun r hr hq => ?_⟩
  have hq2 : I 50 r = p ∧ I 46 (((r : Int) * 6) + f).toNat ≠ -1 ∧ I 48 (((r : Int) * 6) + f).toNat = 0 := of_decide_eq_true hq
  have ht : thB I r = true := by
    cases hb : thB I r
    · have := hP.2.2.1 r hr hb
      omega
    · rfl
  obtain ⟨s, s1, s2, s3, s4, s5, s6⟩ := sg_cell hs hV hr hf ht hq2.2.1
  have a := hG.2.2.2.1 s s1
  have c := (hV.2.2 s s1).2.2.1
  have e := (thB_row hs hr).mp ht
  rw [s3, s4, hs.1]
  exact ⟨hG.2.2.1 r e.1, ⟨c, a.2⟩, a.1.1, a.1.2, s6⟩
