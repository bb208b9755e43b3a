-- BOTH PARTINGS ARE ONE
def TbH (I : Nat → Nat → Int) : Prop := I 32 0 = I 74 43 ∧ ∀ h : Nat, (h : Int) < I 32 0 → I 33 h = I 100 h ∧ I 34 h = I 101 h ∧ (I 35 h = 1 ↔ I 104 h ≠ 0) ∧ I 36 h = I 102 h ∧ I 37 h = I 103 h ∧ -1 ≤ I 37 h
theorem held_kn {I : Nat → Nat → Int} (hT : TbH I) {k : Int} {h : Nat} (hh : (h : Int) < I 32 0) : hHeld I k h ↔ knM I k h := by
  obtain ⟨_, _, _, e1, e2, e3⟩ := hT.2 h hh
  unfold hHeld knM
  omega
theorem HBR_SY {I : Nat → Nat → Int} (hT : TbH I) (h0 : 0 ≤ I 32 0) {k : Int} (hk : I 44 1 = k) {v : Bool} {i j : Nat} {x y : Int} (ex : x = I 51 j) (ey : y = I 51 i) : HBR I v i j ↔ SYm I k v x y (I 74 43).toNat := by
  unfold HBR SYm
  rw [hk]
  constructor
  · rintro ⟨h, h1, h2, h3, h4⟩
    obtain ⟨a1, a2, a3, _⟩ := hT.2 h h1
    refine ⟨h, by have := hT.1; omega, (held_kn hT h1).mp h2, by rw [← a3]; exact h3, ?_⟩
    rw [← a1, ← a2, ex, ey]
    exact h4.symm
  · rintro ⟨h, h1, h2, h3, h4⟩
    have h1' : (h : Int) < I 32 0 := by have := hT.1; omega
    obtain ⟨a1, a2, a3, _⟩ := hT.2 h h1'
    refine ⟨h, h1', (held_kn hT h1').mpr h2, by rw [a3]; exact h3, ?_⟩
    rw [← a1, ← a2, ex, ey] at h4
    exact h4.symm
theorem pt_eq {bk : Nat} {I J : Nat → Nat → Int} {d k : Int} (hs : SG I d k) (hP : PtOK bk I) (hT : TbV I) (hH : TbH I) (hR : RBk bk I) (hB : BKk I bk) (hV : VOK I) (hM : VMK I) (hHR : HR I) (hJ : PtM I J d k) :
    (I 49 0 = 0 ∧ J 74 58 = 0) ∨ (I 49 0 = 1 ∧ J 74 58 = 1 ∧ I 49 2 = J 74 56 ∧ I 49 1 = J 74 57 ∧ ∀ r : Nat, r < 10 → I 50 r = J 111 r ∧ (thB I r = true → 0 ≤ I 50 r ∧ I 50 r ≤ 9) ∧ (thB I r = false → I 50 r = -1)) := by
  obtain ⟨m1, m2, m3, m4, m5, m6, m7⟩ := hJ
  obtain ⟨p1, p2, p3, p4⟩ := hP
  have eT : ∀ r, r < 10 → thM I k r = thB I r := fun r hr => by
    cases hb : thB I r
    · refine decide_eq_false (fun z => ?_)
      rw [← hT.1] at z
      have a := hT.2.2.1 r z.1
      rw [← a.2.2, ← a.2.1] at z
      rw [(thB_row hs hr).mpr z] at hb
      exact absurd hb (by decide)
    · have z := (thB_row hs hr).mp hb
      have a := hT.2.2.1 r z.1
      refine decide_eq_true ?_
      rw [← hT.1, ← a.2.2, ← a.2.1]
      exact z
  have eN : cnt (thM I k) 10 = nTh I := cnt_c eT
  have ecr : ∀ r, r ≤ 10 → cnt (thM I k) r = cnt (thB I) r := fun r hr => cnt_c (fun q hq => eT q (by omega))
  rw [eN] at m2 m6 m7
  have h10 : nTh I ≤ 10 := cnt_le _ _
  have h3' : ∀ r, r < 10 → thB I r = true → J 110 (cnt (thB I) r) = (r : Int) := fun r hr ht => by
    have := m3 r hr (by rw [eT r hr]; exact ht)
    rw [ecr r (by omega)] at this
    exact this
  have hrow : ∀ i, i < nTh I → ∃ r : Nat, r < 10 ∧ thB I r = true ∧ I 51 i = (r : Int) ∧ J 110 (nTh I - 1 - i) = (r : Int) ∧ cnt (thB I) r = nTh I - 1 - i := fun i hi => by
    obtain ⟨r, r1, r2, r3⟩ := cnt_at (T := thB I) (n := 10) (j := nTh I - 1 - i) (show _ < nTh I by omega)
    have a := p2 r r1 r2
    rw [r3, show nTh I - 1 - (nTh I - 1 - i) = i by omega] at a
    have c := h3' r r1 r2
    rw [r3] at c
    exact ⟨r, r1, r2, a, c, r3⟩
  have hnt : ∀ r : Nat, r < 10 → thB I r = false → I 50 r = J 111 r ∧ I 50 r = -1 := fun r hr ht => by
    rw [p3 r hr ht, m4 r hr (by rw [eT r hr]; exact ht)]
    exact ⟨rfl, rfl⟩
  rcases p4 with ⟨n0, q1, q2, q3⟩ | ⟨n0, K, hK, q⟩
  · rcases m7 with ⟨_, r1, r2, r3⟩ | ⟨r0, _⟩
    · refine Or.inr ⟨q1, r1, by rw [q3, r2], by rw [q2, r3], fun r hr => ?_⟩
      cases ht : thB I r
      · exact ⟨(hnt r hr ht).1, fun z => absurd z (by decide), fun _ => (hnt r hr ht).2⟩
      · have := cnt_lt (T := thB I) hr ht
        have e : cnt (thB I) 10 = nTh I := rfl
        omega
    · omega
  · rcases m7 with ⟨r0, _⟩ | ⟨r0, hD⟩
    · omega
    · have hM' : Mir (wtH I) (woH I) (muM J) (mnM J) (scH bk I) (srM J) (nTh I) := by
        refine ⟨fun i j hij => ⟨hij.1, hij.2.1, fun e => ?_⟩, fun i j hji hi => ?_⟩
        · obtain ⟨_, _, h, h1, _, _, h4⟩ := hij
          have := (hHR.2 h h1).2.2
          rw [e] at h4
          rcases h4 with ⟨a, c⟩ | ⟨a, c⟩ <;> omega
        · obtain ⟨a, a1, a2, a3, a4, a5⟩ := hrow i hi
          obtain ⟨c, c1, c2, c3, c4, c5⟩ := hrow j (by omega)
          obtain ⟨s1, s2⟩ := m6 (nTh I - 1 - j) (nTh I - 1 - i) (by omega) (by omega)
          rw [c4, a4] at s1 s2
          have hsym : ∀ v, HBR I v i j ↔ HBR I v j i := fun v => by
            unfold HBR
            constructor
            · rintro ⟨h, h1, h2, h3, h4⟩
              exact ⟨h, h1, h2, h3, h4.symm⟩
            · rintro ⟨h, h1, h2, h3, h4⟩
              exact ⟨h, h1, h2, h3, h4.symm⟩
          have e1 : HBR I true i j ↔ muM J (nTh I - 1 - j) (nTh I - 1 - i) := by
            unfold muM
            rw [s2.2.1]
            exact HBR_SY hH hHR.1.1 hs.2.1 c3.symm a3.symm
          have e2 : HBR I false i j ↔ mnM J (nTh I - 1 - j) (nTh I - 1 - i) := by
            unfold mnM
            rw [s2.2.2]
            exact HBR_SY hH hHR.1.1 hs.2.1 c3.symm a3.symm
          refine ⟨?_, ?_, ?_, ?_⟩
          · rw [← e1]
            exact ⟨fun z => z.2.2, fun z => ⟨hi, by omega, z⟩⟩
          · rw [← e1, hsym]
            exact ⟨fun z => z.2.2, fun z => ⟨by omega, hi, z⟩⟩
          · rw [← e2]
            exact ⟨fun z => z.2.2, fun z => ⟨hi, by omega, z⟩⟩
          · rw [s1]
            unfold scH
            rw [a3, c3]
            exact csc_msm hT hV hs hR hB hM a1 c1 a2 c2
      have hb := best_eq h10 n0 hM' hK hD (fun _ _ => trivial)
      rcases q with ⟨k1, k2⟩ | ⟨k1, k2, k3, k4, k5, k6⟩
      · rcases hb with ⟨_, b2⟩ | ⟨b1, _⟩
        · exact Or.inl ⟨k2, b2⟩
        · exact absurd k1 b1
      · rcases hb with ⟨b1, _⟩ | ⟨b1, b2, b3, b4, b5⟩
        · exact absurd b1 k1
        · have hper : ∀ r : Nat, r < 10 → thB I r = true → I 50 r = J 111 r ∧ 0 ≤ I 50 r ∧ I 50 r ≤ 9 ∧ I 50 r = dg K (nTh I - 1 - cnt (thB I) r) := fun r hr ht => by
            have hl : cnt (thB I) r < nTh I := cnt_lt (T := thB I) hr ht
            have a := p2 r hr ht
            have a4 := k4 (nTh I - 1 - cnt (thB I) r) (by omega)
            rw [a, show ((r : Int)).toNat = r by omega] at a4
            obtain ⟨c1, c2, c3, c4⟩ := b4 (cnt (thB I) r) hl
            rw [h3' r hr ht, show ((r : Int)).toNat = r by omega] at c1 c2 c3
            have : dg K (nTh I - 1 - cnt (thB I) r) = J 111 r := c3
            rw [a4, this]
            exact ⟨rfl, c1, c2, rfl⟩
          refine Or.inr ⟨k2, b2, by rw [k3]; exact b3, ?_, fun r hr => ?_⟩
          · obtain ⟨i, i1, i2⟩ := k6
            obtain ⟨j, j1, j2⟩ := b5
            obtain ⟨a, a1, a2, a3, a4, a5⟩ := hrow i i1
            obtain ⟨c, c1, c2, c3, c4, c5⟩ := hrow (nTh I - 1 - j) (by omega)
            rw [show nTh I - 1 - (nTh I - 1 - j) = j by omega] at c4 c5
            have u1 := (b4 (nTh I - 1 - i) (by omega)).2.2.2
            have u2 := (b4 (nTh I - 1 - i) (by omega)).2.2.1
            rw [show nTh I - 1 - (nTh I - 1 - i) = i by omega] at u2
            have u3 := k5 (nTh I - 1 - j) (by omega)
            have u4 := (b4 j j1).2.2.1
            have u5 : dg K i = K / ((16 ^ i : Nat) : Int) % 16 := rfl
            have u6 : dg K (nTh I - 1 - j) = K / ((16 ^ (nTh I - 1 - j) : Nat) : Int) % 16 := rfl
            omega
          · cases ht : thB I r
            · exact ⟨(hnt r hr ht).1, fun z => absurd z (by decide), fun _ => (hnt r hr ht).2⟩
            · obtain ⟨a1, a2, a3, _⟩ := hper r hr ht
              exact ⟨a1, fun _ => ⟨a2, a3⟩, fun z => absurd z (by decide)⟩
