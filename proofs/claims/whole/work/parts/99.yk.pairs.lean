-- PAIRS: each call on both sides
theorem mw_gen {b : Bool} {w : AW} {J L : Nat → Nat → Int} (h : w = MW b J L) : ∃ J1, J1 = J ∧ w = MW b J1 L := ⟨J, rfl, h⟩
theorem pr_trust (l : Launch) (E : AX) (b : Bool) (I L : Nat → Nat → Int) (s f t : Int) (hI : Inv (bkb b) I) : Pair l E b I L 2 62 2 105 [vI s, vI f, vI t] := by
  have hbk := bk_b b
  have hI0 := hI
  obtain ⟨a1, a2, a3, a4, a5, a6, a7, a8, a9, a10, a11, a12⟩ := hI0
  refine con_imp (k_X11_trust l E b I L s f t) ?_
  rintro rt w (⟨c1, h0, h1⟩ | ⟨c1, h0, h1⟩)
  · rw [h0]
    obtain ⟨J1, hJ1, h1⟩ := mw_gen h1
    have f1 : ∀ a j, ¬ (a = 14) → J1 a j = I a j := fun a j z => by rw [hJ1]; repeat rw [upI_ne (by omega)]
    refine ⟨b, J1, L, _, rfl, h1, ?_⟩
    refine con_imp (k_X12_trust l E b J1 L s f t) ?_
    rintro rt w (⟨c2, h0, h2⟩ | ⟨c2, h0, h2⟩)
    · obtain ⟨J2, hJ2, h2⟩ := mw_gen h2
      have f2 : ∀ a j, ¬ (a = 75) → J2 a j = J1 a j := fun a j z => by rw [hJ2]; repeat rw [upI_ne (by omega)]
      have s14 : ∀ c, J1 14 c = if c = ((s * 6) + f).toNat then t else I 14 c := fun c => by rw [hJ1]; by_cases e : c = ((s * 6) + f).toNat; (rw [if_pos e]; exact upI_eq rfl (by omega)); (rw [if_neg e]; repeat rw [upI_ne (by omega)])
      have r14 : ∀ c, J2 14 c = if c = ((s * 6) + f).toNat then t else I 14 c := fun c => by rw [f2 14 c (by omega)]; exact s14 c
      have s75 : ∀ c, J2 75 c = if c = ((s * 6) + f).toNat then t else J1 75 c := fun c => by rw [hJ2]; by_cases e : c = ((s * 6) + f).toNat; (rw [if_pos e]; exact upI_eq rfl (by omega)); (rw [if_neg e]; repeat rw [upI_ne (by omega)])
      have r75 : ∀ c, J2 75 c = if c = ((s * 6) + f).toNat then t else I 75 c := fun c => by rw [s75 c, f1 75 c (by omega)]
      refine ⟨J2, L, h0, h2, ?_⟩
      exact inv_trust hI hbk (by omega) r14 r75 (fun a j z => by rw [f2 a j (by omega)]; exact f1 a j (by omega))
    · exfalso
      omega
  · rw [h0]
    obtain ⟨J1, hJ1, h1⟩ := mw_gen h1
    have f1 : ∀ a j, J1 a j = I a j := fun a j => by rw [hJ1]
    refine ⟨b, J1, L, _, rfl, h1, ?_⟩
    refine con_imp (k_X12_trust l E b J1 L s f t) ?_
    rintro rt w (⟨c2, h0, h2⟩ | ⟨c2, h0, h2⟩)
    · exfalso
      omega
    · obtain ⟨J2, hJ2, h2⟩ := mw_gen h2
      have f2 : ∀ a j, J2 a j = J1 a j := fun a j => by rw [hJ2]
      refine ⟨J2, L, h0, h2, ?_⟩
      have e : J2 = I := by rw [hJ2, hJ1]
      rw [e]
      exact hI
theorem pr_fade (l : Launch) (E : AX) (b : Bool) (I L : Nat → Nat → Int) (f t : Int) (hI : Inv (bkb b) I) : Pair l E b I L 2 63 2 106 [vI f, vI t] := by
  have hbk := bk_b b
  have hI0 := hI
  obtain ⟨a1, a2, a3, a4, a5, a6, a7, a8, a9, a10, a11, a12⟩ := hI0
  refine con_imp (k_X11_fade l E b I L f t) ?_
  rintro rt w (⟨c1, h0, h1⟩ | ⟨c1, h0, h1⟩)
  · rw [h0]
    obtain ⟨J1, hJ1, h1⟩ := mw_gen h1
    have f1 : ∀ a j, ¬ (a = 15) → J1 a j = I a j := fun a j z => by rw [hJ1]; repeat rw [upI_ne (by omega)]
    refine ⟨b, J1, L, _, rfl, h1, ?_⟩
    refine con_imp (k_X12_fade l E b J1 L f t) ?_
    rintro rt w (⟨c2, h0, h2⟩ | ⟨c2, h0, h2⟩)
    · obtain ⟨J2, hJ2, h2⟩ := mw_gen h2
      have f2 : ∀ a j, ¬ (a = 76) → J2 a j = J1 a j := fun a j z => by rw [hJ2]; repeat rw [upI_ne (by omega)]
      have s15 : ∀ c, J1 15 c = if c = f.toNat then t else I 15 c := fun c => by rw [hJ1]; by_cases e : c = f.toNat; (rw [if_pos e]; exact upI_eq rfl (by omega)); (rw [if_neg e]; repeat rw [upI_ne (by omega)])
      have r15 : ∀ c, J2 15 c = if c = f.toNat then t else I 15 c := fun c => by rw [f2 15 c (by omega)]; exact s15 c
      have s76 : ∀ c, J2 76 c = if c = f.toNat then t else J1 76 c := fun c => by rw [hJ2]; by_cases e : c = f.toNat; (rw [if_pos e]; exact upI_eq rfl (by omega)); (rw [if_neg e]; repeat rw [upI_ne (by omega)])
      have r76 : ∀ c, J2 76 c = if c = f.toNat then t else I 76 c := fun c => by rw [s76 c, f1 76 c (by omega)]
      refine ⟨J2, L, h0, h2, ?_⟩
      exact inv_fade hI hbk (by omega) r15 r76 (fun a j z => by rw [f2 a j (by omega)]; exact f1 a j (by omega))
    · exfalso
      omega
  · rw [h0]
    obtain ⟨J1, hJ1, h1⟩ := mw_gen h1
    have f1 : ∀ a j, J1 a j = I a j := fun a j => by rw [hJ1]
    refine ⟨b, J1, L, _, rfl, h1, ?_⟩
    refine con_imp (k_X12_fade l E b J1 L f t) ?_
    rintro rt w (⟨c2, h0, h2⟩ | ⟨c2, h0, h2⟩)
    · exfalso
      omega
    · obtain ⟨J2, hJ2, h2⟩ := mw_gen h2
      have f2 : ∀ a j, J2 a j = J1 a j := fun a j => by rw [hJ2]
      refine ⟨J2, L, h0, h2, ?_⟩
      have e : J2 = I := by rw [hJ2, hJ1]
      rw [e]
      exact hI
theorem pr_rights (l : Launch) (E : AX) (b : Bool) (I L : Nat → Nat → Int) (f t : Int) (hI : Inv (bkb b) I) : Pair l E b I L 2 64 2 107 [vI f, vI t] := by
  have hbk := bk_b b
  have hI0 := hI
  obtain ⟨a1, a2, a3, a4, a5, a6, a7, a8, a9, a10, a11, a12⟩ := hI0
  refine con_imp (k_X11_rights l E b I L f t) ?_
  rintro rt w (⟨c1, h0, h1⟩ | ⟨c1, h0, h1⟩)
  · rw [h0]
    obtain ⟨J1, hJ1, h1⟩ := mw_gen h1
    have f1 : ∀ a j, ¬ (a = 16) → J1 a j = I a j := fun a j z => by rw [hJ1]; repeat rw [upI_ne (by omega)]
    refine ⟨b, J1, L, _, rfl, h1, ?_⟩
    refine con_imp (k_X12_rights l E b J1 L f t) ?_
    rintro rt w (⟨c2, h0, h2⟩ | ⟨c2, h0, h2⟩)
    · obtain ⟨J2, hJ2, h2⟩ := mw_gen h2
      have f2 : ∀ a j, ¬ (a = 77) → J2 a j = J1 a j := fun a j z => by rw [hJ2]; repeat rw [upI_ne (by omega)]
      have s16 : ∀ c, J1 16 c = if c = f.toNat then t else I 16 c := fun c => by rw [hJ1]; by_cases e : c = f.toNat; (rw [if_pos e]; exact upI_eq rfl (by omega)); (rw [if_neg e]; repeat rw [upI_ne (by omega)])
      have r16 : ∀ c, J2 16 c = if c = f.toNat then t else I 16 c := fun c => by rw [f2 16 c (by omega)]; exact s16 c
      have s77 : ∀ c, J2 77 c = if c = f.toNat then t else J1 77 c := fun c => by rw [hJ2]; by_cases e : c = f.toNat; (rw [if_pos e]; exact upI_eq rfl (by omega)); (rw [if_neg e]; repeat rw [upI_ne (by omega)])
      have r77 : ∀ c, J2 77 c = if c = f.toNat then t else I 77 c := fun c => by rw [s77 c, f1 77 c (by omega)]
      refine ⟨J2, L, h0, h2, ?_⟩
      exact inv_rights hI hbk r16 r77 (fun a j z => by rw [f2 a j (by omega)]; exact f1 a j (by omega))
    · exfalso
      omega
  · rw [h0]
    obtain ⟨J1, hJ1, h1⟩ := mw_gen h1
    have f1 : ∀ a j, J1 a j = I a j := fun a j => by rw [hJ1]
    refine ⟨b, J1, L, _, rfl, h1, ?_⟩
    refine con_imp (k_X12_rights l E b J1 L f t) ?_
    rintro rt w (⟨c2, h0, h2⟩ | ⟨c2, h0, h2⟩)
    · exfalso
      omega
    · obtain ⟨J2, hJ2, h2⟩ := mw_gen h2
      have f2 : ∀ a j, J2 a j = J1 a j := fun a j => by rw [hJ2]
      refine ⟨J2, L, h0, h2, ?_⟩
      have e : J2 = I := by rw [hJ2, hJ1]
      rw [e]
      exact hI
theorem pr_later (l : Launch) (E : AX) (b : Bool) (I L : Nat → Nat → Int) (d : Int) (hI : Inv (bkb b) I) : Pair l E b I L 1 69 1 118 [vI d] := by
  have hbk := bk_b b
  have hI0 := hI
  obtain ⟨a1, a2, a3, a4, a5, a6, a7, a8, a9, a10, a11, a12⟩ := hI0
  have e0 := a1.1
  refine con_imp (k_X11_later l E b I L d (by have := a1.2; omega)) ?_
  rintro rt w (⟨c1, h0, h1⟩ | ⟨c1, h0, h1⟩)
  · rw [h0]
    obtain ⟨J1, hJ1, h1⟩ := mw_gen h1
    have f1 : ∀ a j, ¬ ((a = 0 ∧ j = 0)) → J1 a j = I a j := fun a j z => by rw [hJ1]; repeat rw [upI_ne (by omega)]
    refine ⟨b, J1, L, _, rfl, h1, ?_⟩
    refine con_imp (k_X12_later l E b J1 L d (by first | (rw [f1 74 0 (by omega), ← a1.1]; exact a1.2) | (rw [f1 74 0, ← a1.1]; exact a1.2))) ?_
    rintro rt w (⟨c2, h0, h2⟩ | ⟨c2, h0, h2⟩)
    · obtain ⟨J2, hJ2, h2⟩ := mw_gen h2
      have f2 : ∀ a j, ¬ ((a = 74 ∧ j = 0)) → J2 a j = J1 a j := fun a j z => by rw [hJ2]; repeat rw [upI_ne (by omega)]
      have s0_0 : J1 0 0 = (I 0 0) + d := by rw [hJ1]; exact upI_eq rfl rfl
      have r0_0 : J2 0 0 = (I 0 0) + d := by rw [f2 0 0 (by omega)]; exact s0_0
      have s74_0 : J2 74 0 = (J1 74 0) + d := by rw [hJ2]; exact upI_eq rfl rfl
      have r74_0 : J2 74 0 = (I 74 0) + d := by rw [s74_0, f1 74 0 (by omega)]
      refine ⟨J2, L, by rw [h0, f1 74 0 (by omega), e0], h2, ?_⟩
      exact inv_later hI hbk (x := (I 0 0) + d) (by omega) r0_0 (by rw [r74_0, e0]) (fun a j z => by rw [f2 a j (by omega)]; exact f1 a j (by omega))
    · exfalso
      (first | (rw [f1 74 0 (by omega)] at c2; omega) | (rw [f1 74 0] at c2; omega))
  · rw [h0]
    obtain ⟨J1, hJ1, h1⟩ := mw_gen h1
    have f1 : ∀ a j, J1 a j = I a j := fun a j => by rw [hJ1]
    refine ⟨b, J1, L, _, rfl, h1, ?_⟩
    refine con_imp (k_X12_later l E b J1 L d (by first | (rw [f1 74 0 (by omega), ← a1.1]; exact a1.2) | (rw [f1 74 0, ← a1.1]; exact a1.2))) ?_
    rintro rt w (⟨c2, h0, h2⟩ | ⟨c2, h0, h2⟩)
    · exfalso
      (first | (rw [f1 74 0 (by omega)] at c2; omega) | (rw [f1 74 0] at c2; omega))
    · obtain ⟨J2, hJ2, h2⟩ := mw_gen h2
      have f2 : ∀ a j, J2 a j = J1 a j := fun a j => by rw [hJ2]
      refine ⟨J2, L, h0, h2, ?_⟩
      have e : J2 = I := by rw [hJ2, hJ1]
      rw [e]
      exact hI
theorem pr_end (l : Launch) (E : AX) (b : Bool) (I L : Nat → Nat → Int) (n : Int) (hI : Inv (bkb b) I) : Pair l E b I L 1 71 1 121 [vI n] := by
  have hbk := bk_b b
  have hI0 := hI
  obtain ⟨a1, a2, a3, a4, a5, a6, a7, a8, a9, a10, a11, a12⟩ := hI0
  have e0 := a8.1
  refine con_imp (k_X11_end l E b I L n) ?_
  rintro rt w (⟨c1, h0, h1⟩ | ⟨c1, h0, h1⟩)
  · rw [h0]
    obtain ⟨J1, hJ1, h1⟩ := mw_gen h1
    have f1 : ∀ a j, ¬ ((a = 28 ∧ j = 0)) → J1 a j = I a j := fun a j z => by rw [hJ1]; repeat rw [upI_ne (by omega)]
    refine ⟨b, J1, L, _, rfl, h1, ?_⟩
    refine con_imp (k_X12_end l E b J1 L n) ?_
    rintro rt w (⟨c2, h0, h2⟩ | ⟨c2, h0, h2⟩)
    · obtain ⟨J2, hJ2, h2⟩ := mw_gen h2
      have f2 : ∀ a j, ¬ ((a = 74 ∧ j = 30)) → J2 a j = J1 a j := fun a j z => by rw [hJ2]; repeat rw [upI_ne (by omega)]
      have s28_0 : J1 28 0 = n := by rw [hJ1]; exact upI_eq rfl rfl
      have r28_0 : J2 28 0 = n := by rw [f2 28 0 (by omega)]; exact s28_0
      have s74_30 : J2 74 30 = n := by rw [hJ2]; exact upI_eq rfl rfl
      have r74_30 : J2 74 30 = n := by rw [s74_30]
      refine ⟨J2, L, h0, h2, ?_⟩
      exact inv_end hI hbk (n := n) (by omega) r28_0 r74_30 (fun a j z => by rw [f2 a j (by omega)]; exact f1 a j (by omega))
    · exfalso
      (first | (rw [f1 74 30 (by omega)] at c2; omega) | (rw [f1 74 30] at c2; omega))
  · rw [h0]
    obtain ⟨J1, hJ1, h1⟩ := mw_gen h1
    have f1 : ∀ a j, J1 a j = I a j := fun a j => by rw [hJ1]
    refine ⟨b, J1, L, _, rfl, h1, ?_⟩
    refine con_imp (k_X12_end l E b J1 L n) ?_
    rintro rt w (⟨c2, h0, h2⟩ | ⟨c2, h0, h2⟩)
    · exfalso
      (first | (rw [f1 74 30 (by omega)] at c2; omega) | (rw [f1 74 30] at c2; omega))
    · obtain ⟨J2, hJ2, h2⟩ := mw_gen h2
      have f2 : ∀ a j, J2 a j = J1 a j := fun a j => by rw [hJ2]
      refine ⟨J2, L, h0, h2, ?_⟩
      have e : J2 = I := by rw [hJ2, hJ1]
      rw [e]
      exact hI
theorem pr_row (l : Launch) (E : AX) (b : Bool) (I L : Nat → Nat → Int) (s : Int) (hI : Inv (bkb b) I) : Pair l E b I L 2 65 2 108 [vI s] := by
  have hbk := bk_b b
  have hI0 := hI
  obtain ⟨a1, a2, a3, a4, a5, a6, a7, a8, a9, a10, a11, a12⟩ := hI0
  have e0 : I 17 0 = I 74 4 := a4.2.2.1.1
  have h17 := a4.1.1
  refine con_imp (k_X11_row l E b I L s a4.1.1) ?_
  rintro rt w (⟨c1, h0, h1⟩ | ⟨c1, h0, h1⟩ | ⟨c1, h0, h1⟩)
  · rw [h0]
    obtain ⟨J1, hJ1, h1⟩ := mw_gen h1
    have f1 : ∀ a j, ¬ ((a = 0 ∧ j = 1) ∨ a = 18 ∨ a = 19 ∨ (a = 17 ∧ j = 0)) → J1 a j = I a j := fun a j z => by rw [hJ1]; repeat rw [upI_ne (by omega)]
    refine ⟨b, J1, L, _, rfl, h1, ?_⟩
    refine con_imp (k_X12_row l E b J1 L s (by first | (rw [f1 74 4 (by omega), ← e0]; exact a4.1.1) | (rw [f1 74 4, ← e0]; exact a4.1.1))) ?_
    rintro rt w (⟨c2, h0, h2⟩ | ⟨c2, h0, h2⟩)
    · obtain ⟨J2, hJ2, h2⟩ := mw_gen h2
      have f2 : ∀ a j, ¬ (a = 78 ∨ a = 79 ∨ (a = 74 ∧ j = 4)) → J2 a j = J1 a j := fun a j z => by rw [hJ2]; repeat rw [upI_ne (by omega)]
      have e1 := f1 74 4 (by omega)
      have s0_1 : J1 0 1 = 0 := by rw [hJ1, upI_ne (by omega), upI_ne (by omega), upI_ne (by omega)]; exact upI_eq rfl rfl
      have r0_1 : J2 0 1 = 0 := by rw [f2 0 1 (by omega)]; exact s0_1
      have s18 : ∀ c, J1 18 c = if c = (I 17 0).toNat then s else I 18 c := fun c => by rw [hJ1]; by_cases e : c = (I 17 0).toNat; (rw [if_pos e, upI_ne (by omega), upI_ne (by omega)]; exact upI_eq rfl (by omega)); (rw [if_neg e]; repeat rw [upI_ne (by omega)])
      have r18 : ∀ c, J2 18 c = if c = (I 17 0).toNat then s else I 18 c := fun c => by rw [f2 18 c (by omega)]; exact s18 c
      have s19 : ∀ c, J1 19 c = if c = (I 17 0).toNat then I 0 0 else I 19 c := fun c => by rw [hJ1]; by_cases e : c = (I 17 0).toNat; (rw [if_pos e, upI_ne (by omega)]; exact upI_eq rfl (by omega)); (rw [if_neg e]; repeat rw [upI_ne (by omega)])
      have r19 : ∀ c, J2 19 c = if c = (I 17 0).toNat then I 0 0 else I 19 c := fun c => by rw [f2 19 c (by omega)]; exact s19 c
      have s17_0 : J1 17 0 = (I 17 0) + 1 := by rw [hJ1]; exact upI_eq rfl rfl
      have r17_0 : J2 17 0 = (I 17 0) + 1 := by rw [f2 17 0 (by omega)]; exact s17_0
      have s78 : ∀ c, J2 78 c = if c = (I 17 0).toNat then s else J1 78 c := fun c => by rw [hJ2]; by_cases e : c = (I 17 0).toNat; (rw [if_pos e, upI_ne (by omega), upI_ne (by omega)]; exact upI_eq rfl (by omega)); (rw [if_neg e]; repeat rw [upI_ne (by omega)])
      have r78 : ∀ c, J2 78 c = if c = (I 17 0).toNat then s else I 78 c := fun c => by rw [s78 c, f1 78 c (by omega)]
      have s79 : ∀ c, J2 79 c = if c = (I 17 0).toNat then J1 74 0 else J1 79 c := fun c => by rw [hJ2]; by_cases e : c = (I 17 0).toNat; (rw [if_pos e, upI_ne (by omega)]; exact upI_eq rfl (by omega)); (rw [if_neg e]; repeat rw [upI_ne (by omega)])
      have r79 : ∀ c, J2 79 c = if c = (I 17 0).toNat then I 74 0 else I 79 c := fun c => by rw [s79 c, f1 79 c (by omega), f1 74 0 (by omega)]
      have s74_4 : J2 74 4 = (J1 74 4) + 1 := by rw [hJ2]; exact upI_eq rfl rfl
      have r74_4 : J2 74 4 = (I 74 4) + 1 := by rw [s74_4, f1 74 4 (by omega)]
      refine ⟨J2, L, by rw [h0, e1]; congr 2; omega, h2, ?_⟩
      exact inv_row hI hbk (n := (I 17 0).toNat) (by omega) c1.1 c1.2 r0_1 r17_0 r74_4 r18 r19 r78 r79 (fun a j z => by rw [f2 a j (by omega)]; exact f1 a j (by omega))
    · exfalso
      (first | (rw [f1 74 4 (by omega)] at c2; omega) | (rw [f1 74 4] at c2; omega))
  · rw [h0]
    obtain ⟨J1, hJ1, h1⟩ := mw_gen h1
    have f1 : ∀ a j, ¬ ((a = 0 ∧ j = 1)) → J1 a j = I a j := fun a j z => by rw [hJ1]; repeat rw [upI_ne (by omega)]
    refine ⟨b, J1, L, _, rfl, h1, ?_⟩
    refine con_imp (k_X12_row l E b J1 L s (by first | (rw [f1 74 4 (by omega), ← e0]; exact a4.1.1) | (rw [f1 74 4, ← e0]; exact a4.1.1))) ?_
    rintro rt w (⟨c2, h0, h2⟩ | ⟨c2, h0, h2⟩)
    · exfalso
      (first | (rw [f1 74 4 (by omega)] at c2; omega) | (rw [f1 74 4] at c2; omega))
    · obtain ⟨J2, hJ2, h2⟩ := mw_gen h2
      have f2 : ∀ a j, J2 a j = J1 a j := fun a j => by rw [hJ2]
      have s0_1 : J1 0 1 = 0 := by rw [hJ1]; exact upI_eq rfl rfl
      have r0_1 : J2 0 1 = 0 := by rw [f2 0 1]; exact s0_1
      refine ⟨J2, L, h0, h2, ?_⟩
      exact inv_seen hI hbk r0_1 (fun a j z => by rw [f2 a j]; exact f1 a j (by omega))
  · rw [h0]
    obtain ⟨J1, hJ1, h1⟩ := mw_gen h1
    have f1 : ∀ a j, J1 a j = I a j := fun a j => by rw [hJ1]
    refine ⟨b, J1, L, _, rfl, h1, ?_⟩
    refine con_imp (k_X12_row l E b J1 L s (by first | (rw [f1 74 4 (by omega), ← e0]; exact a4.1.1) | (rw [f1 74 4, ← e0]; exact a4.1.1))) ?_
    rintro rt w (⟨c2, h0, h2⟩ | ⟨c2, h0, h2⟩)
    · exfalso
      (first | (rw [f1 74 4 (by omega)] at c2; omega) | (rw [f1 74 4] at c2; omega))
    · obtain ⟨J2, hJ2, h2⟩ := mw_gen h2
      have f2 : ∀ a j, J2 a j = J1 a j := fun a j => by rw [hJ2]
      refine ⟨J2, L, h0, h2, ?_⟩
      have e : J2 = I := by rw [hJ2, hJ1]
      rw [e]
      exact hI
theorem pr_forget (l : Launch) (E : AX) (b : Bool) (I L : Nat → Nat → Int) (r : Int) (hI : Inv (bkb b) I) : Pair l E b I L 2 68 2 117 [vI r] := by
  have hbk := bk_b b
  have hI0 := hI
  obtain ⟨a1, a2, a3, a4, a5, a6, a7, a8, a9, a10, a11, a12⟩ := hI0
  have e0 : I 17 0 = I 74 4 := a4.2.2.1.1
  refine con_imp (k_X11_forget l E b I L r (by have := a4.1.1; omega)) ?_
  rintro rt w (⟨c1, h0, h1⟩ | ⟨c1, h0, h1⟩)
  · rw [h0]
    obtain ⟨J1, hJ1, h1⟩ := mw_gen h1
    have f1 : ∀ a j, ¬ ((a = 0 ∧ j = 1) ∨ a = 20) → J1 a j = I a j := fun a j z => by rw [hJ1]; repeat rw [upI_ne (by omega)]
    refine ⟨b, J1, L, _, rfl, h1, ?_⟩
    refine con_imp (k_X12_forget l E b J1 L r (by have := a4.1.1; first | (rw [f1 74 4 (by omega)]; omega) | (rw [f1 74 4]; omega))) ?_
    rintro rt w (⟨c2, h0, h2⟩ | ⟨c2, h0, h2⟩)
    · obtain ⟨J2, hJ2, h2⟩ := mw_gen h2
      have f2 : ∀ a j, ¬ (a = 80) → J2 a j = J1 a j := fun a j z => by rw [hJ2]; repeat rw [upI_ne (by omega)]
      have s0_1 : J1 0 1 = 0 := by rw [hJ1, upI_ne (by omega)]; exact upI_eq rfl rfl
      have r0_1 : J2 0 1 = 0 := by rw [f2 0 1 (by omega)]; exact s0_1
      have s20 : ∀ c, J1 20 c = if c = r.toNat then 1 else I 20 c := fun c => by rw [hJ1]; by_cases e : c = r.toNat; (rw [if_pos e]; exact upI_eq rfl (by omega)); (rw [if_neg e]; repeat rw [upI_ne (by omega)])
      have r20 : ∀ c, J2 20 c = if c = r.toNat then 1 else I 20 c := fun c => by rw [f2 20 c (by omega)]; exact s20 c
      have s80 : ∀ c, J2 80 c = if c = r.toNat then 1 else J1 80 c := fun c => by rw [hJ2]; by_cases e : c = r.toNat; (rw [if_pos e]; exact upI_eq rfl (by omega)); (rw [if_neg e]; repeat rw [upI_ne (by omega)])
      have r80 : ∀ c, J2 80 c = if c = r.toNat then 1 else I 80 c := fun c => by rw [s80 c, f1 80 c (by omega)]
      refine ⟨J2, L, h0, h2, ?_⟩
      exact inv_forget hI hbk (n := r.toNat) (by omega) r0_1 r20 r80 (fun a j z => by rw [f2 a j (by omega)]; exact f1 a j (by omega))
    · exfalso
      (have e9 := a4.2.2.1.2.2.1 r.toNat; first | (rw [f1 74 4 (by omega), f1 80 _ (by omega)] at c2; omega) | (rw [f1 74 4, f1 80] at c2; omega))
  · rw [h0]
    obtain ⟨J1, hJ1, h1⟩ := mw_gen h1
    have f1 : ∀ a j, J1 a j = I a j := fun a j => by rw [hJ1]
    refine ⟨b, J1, L, _, rfl, h1, ?_⟩
    refine con_imp (k_X12_forget l E b J1 L r (by have := a4.1.1; first | (rw [f1 74 4 (by omega)]; omega) | (rw [f1 74 4]; omega))) ?_
    rintro rt w (⟨c2, h0, h2⟩ | ⟨c2, h0, h2⟩)
    · exfalso
      (have e9 := a4.2.2.1.2.2.1 r.toNat; first | (rw [f1 74 4 (by omega), f1 80 _ (by omega)] at c2; omega) | (rw [f1 74 4, f1 80] at c2; omega))
    · obtain ⟨J2, hJ2, h2⟩ := mw_gen h2
      have f2 : ∀ a j, J2 a j = J1 a j := fun a j => by rw [hJ2]
      refine ⟨J2, L, h0, h2, ?_⟩
      have e : J2 = I := by rw [hJ2, hJ1]
      rw [e]
      exact hI
theorem pr_set (l : Launch) (E : AX) (b : Bool) (I L : Nat → Nat → Int) (r f x d : Int) (hI : Inv (bkb b) I) : Pair l E b I L 2 66 2 113 [vI r, vI f, vI x, vI d] := by
  have hbk := bk_b b
  have hI0 := hI
  obtain ⟨a1, a2, a3, a4, a5, a6, a7, a8, a9, a10, a11, a12⟩ := hI0
  have e0 : I 17 0 = I 74 4 := a4.2.2.1.1
  have e5 : I 21 0 = I 74 5 := a4.2.2.1.2.1
  have q9 := a4.1.2.1
  refine con_imp (k_X11_set l E b I L r f x d (by have := a4.1.1; omega) a4.1.2.1) ?_
  rintro rt w (⟨c1, h0, h1⟩ | ⟨c1, h0, h1⟩)
  · rw [h0]
    obtain ⟨J1, hJ1, h1⟩ := mw_gen h1
    have f1 : ∀ a j, ¬ ((a = 0 ∧ j = 1) ∨ a = 22 ∨ a = 23 ∨ a = 24 ∨ a = 25 ∨ a = 26 ∨ a = 27 ∨ (a = 21 ∧ j = 0)) → J1 a j = I a j := fun a j z => by rw [hJ1]; repeat rw [upI_ne (by omega)]
    refine ⟨b, J1, L, _, rfl, h1, ?_⟩
    refine con_imp (k_X12_set l E b J1 L r f x d (by have := a4.1.1; first | (rw [f1 74 4 (by omega)]; omega) | (rw [f1 74 4]; omega)) (by have := a4.1.2.1; first | (rw [f1 74 5 (by omega)]; omega) | (rw [f1 74 5]; omega))) ?_
    rintro rt w (⟨c2, h0, h2⟩ | ⟨c2, h0, h2⟩)
    · obtain ⟨J2, hJ2, h2⟩ := mw_gen h2
      have f2 : ∀ a j, ¬ (a = 81 ∨ a = 82 ∨ a = 83 ∨ a = 84 ∨ a = 85 ∨ a = 86 ∨ (a = 74 ∧ j = 5)) → J2 a j = J1 a j := fun a j z => by rw [hJ2]; repeat rw [upI_ne (by omega)]
      have e1 := f1 74 5 (by omega)
      have h21 := a4.1.2.1
      have s0_1 : J1 0 1 = 0 := by rw [hJ1, upI_ne (by omega), upI_ne (by omega), upI_ne (by omega), upI_ne (by omega), upI_ne (by omega), upI_ne (by omega), upI_ne (by omega)]; exact upI_eq rfl rfl
      have r0_1 : J2 0 1 = 0 := by rw [f2 0 1 (by omega)]; exact s0_1
      have s22 : ∀ c, J1 22 c = if c = (I 21 0).toNat then r else I 22 c := fun c => by rw [hJ1]; by_cases e : c = (I 21 0).toNat; (rw [if_pos e, upI_ne (by omega), upI_ne (by omega), upI_ne (by omega), upI_ne (by omega), upI_ne (by omega), upI_ne (by omega)]; exact upI_eq rfl (by omega)); (rw [if_neg e]; repeat rw [upI_ne (by omega)])
      have r22 : ∀ c, J2 22 c = if c = (I 21 0).toNat then r else I 22 c := fun c => by rw [f2 22 c (by omega)]; exact s22 c
      have s23 : ∀ c, J1 23 c = if c = (I 21 0).toNat then f else I 23 c := fun c => by rw [hJ1]; by_cases e : c = (I 21 0).toNat; (rw [if_pos e, upI_ne (by omega), upI_ne (by omega), upI_ne (by omega), upI_ne (by omega), upI_ne (by omega)]; exact upI_eq rfl (by omega)); (rw [if_neg e]; repeat rw [upI_ne (by omega)])
      have r23 : ∀ c, J2 23 c = if c = (I 21 0).toNat then f else I 23 c := fun c => by rw [f2 23 c (by omega)]; exact s23 c
      have s24 : ∀ c, J1 24 c = if c = (I 21 0).toNat then x else I 24 c := fun c => by rw [hJ1]; by_cases e : c = (I 21 0).toNat; (rw [if_pos e, upI_ne (by omega), upI_ne (by omega), upI_ne (by omega), upI_ne (by omega)]; exact upI_eq rfl (by omega)); (rw [if_neg e]; repeat rw [upI_ne (by omega)])
      have r24 : ∀ c, J2 24 c = if c = (I 21 0).toNat then x else I 24 c := fun c => by rw [f2 24 c (by omega)]; exact s24 c
      have s25 : ∀ c, J1 25 c = if c = (I 21 0).toNat then d else I 25 c := fun c => by rw [hJ1]; by_cases e : c = (I 21 0).toNat; (rw [if_pos e, upI_ne (by omega), upI_ne (by omega), upI_ne (by omega)]; exact upI_eq rfl (by omega)); (rw [if_neg e]; repeat rw [upI_ne (by omega)])
      have r25 : ∀ c, J2 25 c = if c = (I 21 0).toNat then d else I 25 c := fun c => by rw [f2 25 c (by omega)]; exact s25 c
      have s26 : ∀ c, J1 26 c = if c = (I 21 0).toNat then I 0 0 else I 26 c := fun c => by rw [hJ1]; by_cases e : c = (I 21 0).toNat; (rw [if_pos e, upI_ne (by omega), upI_ne (by omega)]; exact upI_eq rfl (by omega)); (rw [if_neg e]; repeat rw [upI_ne (by omega)])
      have r26 : ∀ c, J2 26 c = if c = (I 21 0).toNat then I 0 0 else I 26 c := fun c => by rw [f2 26 c (by omega)]; exact s26 c
      have s27 : ∀ c, J1 27 c = if c = (I 21 0).toNat then 0 else I 27 c := fun c => by rw [hJ1]; by_cases e : c = (I 21 0).toNat; (rw [if_pos e, upI_ne (by omega)]; exact upI_eq rfl (by omega)); (rw [if_neg e]; repeat rw [upI_ne (by omega)])
      have r27 : ∀ c, J2 27 c = if c = (I 21 0).toNat then 0 else I 27 c := fun c => by rw [f2 27 c (by omega)]; exact s27 c
      have s21_0 : J1 21 0 = (I 21 0) + 1 := by rw [hJ1]; exact upI_eq rfl rfl
      have r21_0 : J2 21 0 = (I 21 0) + 1 := by rw [f2 21 0 (by omega)]; exact s21_0
      have s81 : ∀ c, J2 81 c = if c = (I 21 0).toNat then r else J1 81 c := fun c => by rw [hJ2]; by_cases e : c = (I 21 0).toNat; (rw [if_pos e, upI_ne (by omega), upI_ne (by omega), upI_ne (by omega), upI_ne (by omega), upI_ne (by omega), upI_ne (by omega)]; exact upI_eq rfl (by omega)); (rw [if_neg e]; repeat rw [upI_ne (by omega)])
      have r81 : ∀ c, J2 81 c = if c = (I 21 0).toNat then r else I 81 c := fun c => by rw [s81 c, f1 81 c (by omega)]
      have s82 : ∀ c, J2 82 c = if c = (I 21 0).toNat then f else J1 82 c := fun c => by rw [hJ2]; by_cases e : c = (I 21 0).toNat; (rw [if_pos e, upI_ne (by omega), upI_ne (by omega), upI_ne (by omega), upI_ne (by omega), upI_ne (by omega)]; exact upI_eq rfl (by omega)); (rw [if_neg e]; repeat rw [upI_ne (by omega)])
      have r82 : ∀ c, J2 82 c = if c = (I 21 0).toNat then f else I 82 c := fun c => by rw [s82 c, f1 82 c (by omega)]
      have s83 : ∀ c, J2 83 c = if c = (I 21 0).toNat then x else J1 83 c := fun c => by rw [hJ2]; by_cases e : c = (I 21 0).toNat; (rw [if_pos e, upI_ne (by omega), upI_ne (by omega), upI_ne (by omega), upI_ne (by omega)]; exact upI_eq rfl (by omega)); (rw [if_neg e]; repeat rw [upI_ne (by omega)])
      have r83 : ∀ c, J2 83 c = if c = (I 21 0).toNat then x else I 83 c := fun c => by rw [s83 c, f1 83 c (by omega)]
      have s84 : ∀ c, J2 84 c = if c = (I 21 0).toNat then d else J1 84 c := fun c => by rw [hJ2]; by_cases e : c = (I 21 0).toNat; (rw [if_pos e, upI_ne (by omega), upI_ne (by omega), upI_ne (by omega)]; exact upI_eq rfl (by omega)); (rw [if_neg e]; repeat rw [upI_ne (by omega)])
      have r84 : ∀ c, J2 84 c = if c = (I 21 0).toNat then d else I 84 c := fun c => by rw [s84 c, f1 84 c (by omega)]
      have s85 : ∀ c, J2 85 c = if c = (I 21 0).toNat then J1 74 0 else J1 85 c := fun c => by rw [hJ2]; by_cases e : c = (I 21 0).toNat; (rw [if_pos e, upI_ne (by omega), upI_ne (by omega)]; exact upI_eq rfl (by omega)); (rw [if_neg e]; repeat rw [upI_ne (by omega)])
      have r85 : ∀ c, J2 85 c = if c = (I 21 0).toNat then I 74 0 else I 85 c := fun c => by rw [s85 c, f1 85 c (by omega), f1 74 0 (by omega)]
      have s86 : ∀ c, J2 86 c = if c = (I 21 0).toNat then 0 else J1 86 c := fun c => by rw [hJ2]; by_cases e : c = (I 21 0).toNat; (rw [if_pos e, upI_ne (by omega)]; exact upI_eq rfl (by omega)); (rw [if_neg e]; repeat rw [upI_ne (by omega)])
      have r86 : ∀ c, J2 86 c = if c = (I 21 0).toNat then 0 else I 86 c := fun c => by rw [s86 c, f1 86 c (by omega)]
      have s74_5 : J2 74 5 = (J1 74 5) + 1 := by rw [hJ2]; exact upI_eq rfl rfl
      have r74_5 : J2 74 5 = (I 74 5) + 1 := by rw [s74_5, f1 74 5 (by omega)]
      refine ⟨J2, L, by rw [h0, e1, e5], h2, ?_⟩
      exact inv_tell hI hbk (n := (I 21 0).toNat) (by omega) (by omega) c1.2.1 c1.2.2.1 (by omega) (Or.inl rfl) (by omega) r0_1 r21_0 r74_5 r22 r23 r24 r25 r26 r27 r81 r82 r83 r84 r85 r86 (fun a j z => by rw [f2 a j (by omega)]; exact f1 a j (by omega))
    · exfalso
      (have e9 := a4.2.2.1.2.2.1 r.toNat; first | (rw [f1 74 4 (by omega), f1 80 _ (by omega), f1 74 5 (by omega)] at c2; omega) | (rw [f1 74 4, f1 80, f1 74 5] at c2; omega))
  · rw [h0]
    obtain ⟨J1, hJ1, h1⟩ := mw_gen h1
    have f1 : ∀ a j, J1 a j = I a j := fun a j => by rw [hJ1]
    refine ⟨b, J1, L, _, rfl, h1, ?_⟩
    refine con_imp (k_X12_set l E b J1 L r f x d (by have := a4.1.1; first | (rw [f1 74 4 (by omega)]; omega) | (rw [f1 74 4]; omega)) (by have := a4.1.2.1; first | (rw [f1 74 5 (by omega)]; omega) | (rw [f1 74 5]; omega))) ?_
    rintro rt w (⟨c2, h0, h2⟩ | ⟨c2, h0, h2⟩)
    · exfalso
      (have e9 := a4.2.2.1.2.2.1 r.toNat; first | (rw [f1 74 4 (by omega), f1 80 _ (by omega), f1 74 5 (by omega)] at c2; omega) | (rw [f1 74 4, f1 80, f1 74 5] at c2; omega))
    · obtain ⟨J2, hJ2, h2⟩ := mw_gen h2
      have f2 : ∀ a j, J2 a j = J1 a j := fun a j => by rw [hJ2]
      refine ⟨J2, L, h0, h2, ?_⟩
      have e : J2 = I := by rw [hJ2, hJ1]
      rw [e]
      exact hI
theorem pr_hand (l : Launch) (E : AX) (b : Bool) (I L : Nat → Nat → Int) (x y m : Int) (hm : m = 0 ∨ m = 1) (hI : Inv (bkb b) I) : Pair l E b I L 2 75 2 143 [vI x, vI y, vI m] := by
  have hbk := bk_b b
  have hI0 := hI
  obtain ⟨a1, a2, a3, a4, a5, a6, a7, a8, a9, a10, a11, a12⟩ := hI0
  have e0 : I 17 0 = I 74 4 := a4.2.2.1.1
  have e5 : I 32 0 = I 74 43 := a5.2.1
  have q9 := a5.1.1
  refine con_imp (k_X11_hand l E b I L x y m (by have := a4.1.1; omega) a5.1.1) ?_
  rintro rt w (⟨c1, h0, h1⟩ | ⟨c1, h0, h1⟩ | ⟨c1, h0, h1⟩ | ⟨c1, h0, h1⟩)
  · rw [h0]
    obtain ⟨J1, hJ1, h1⟩ := mw_gen h1
    have f1 : ∀ a j, ¬ ((a = 0 ∧ j = 1) ∨ a = 33 ∨ a = 34 ∨ a = 35 ∨ a = 36 ∨ a = 37 ∨ (a = 32 ∧ j = 0)) → J1 a j = I a j := fun a j z => by rw [hJ1]; repeat rw [upI_ne (by omega)]
    refine ⟨b, J1, L, _, rfl, h1, ?_⟩
    refine con_imp (k_X12_hand l E b J1 L x y m (by have := a4.1.1; first | (rw [f1 74 4 (by omega)]; omega) | (rw [f1 74 4]; omega)) (by have := a5.1.1; first | (rw [f1 74 43 (by omega)]; omega) | (rw [f1 74 43]; omega)) hm) ?_
    rintro rt w (⟨c2, h0, h2⟩ | ⟨c2, h0, h2⟩)
    · obtain ⟨J2, hJ2, h2⟩ := mw_gen h2
      have f2 : ∀ a j, ¬ (a = 100 ∨ a = 101 ∨ a = 104 ∨ a = 102 ∨ a = 103 ∨ (a = 74 ∧ j = 43)) → J2 a j = J1 a j := fun a j z => by rw [hJ2]; repeat rw [upI_ne (by omega)]
      have e1 := f1 74 43 (by omega)
      have h32 := a5.1.1
      have s0_1 : J1 0 1 = 0 := by rw [hJ1, upI_ne (by omega), upI_ne (by omega), upI_ne (by omega), upI_ne (by omega), upI_ne (by omega), upI_ne (by omega)]; exact upI_eq rfl rfl
      have r0_1 : J2 0 1 = 0 := by rw [f2 0 1 (by omega)]; exact s0_1
      have s33 : ∀ c, J1 33 c = if c = (I 32 0).toNat then x else I 33 c := fun c => by rw [hJ1]; by_cases e : c = (I 32 0).toNat; (rw [if_pos e, upI_ne (by omega), upI_ne (by omega), upI_ne (by omega), upI_ne (by omega), upI_ne (by omega)]; exact upI_eq rfl (by omega)); (rw [if_neg e]; repeat rw [upI_ne (by omega)])
      have r33 : ∀ c, J2 33 c = if c = (I 32 0).toNat then x else I 33 c := fun c => by rw [f2 33 c (by omega)]; exact s33 c
      have s34 : ∀ c, J1 34 c = if c = (I 32 0).toNat then y else I 34 c := fun c => by rw [hJ1]; by_cases e : c = (I 32 0).toNat; (rw [if_pos e, upI_ne (by omega), upI_ne (by omega), upI_ne (by omega), upI_ne (by omega)]; exact upI_eq rfl (by omega)); (rw [if_neg e]; repeat rw [upI_ne (by omega)])
      have r34 : ∀ c, J2 34 c = if c = (I 32 0).toNat then y else I 34 c := fun c => by rw [f2 34 c (by omega)]; exact s34 c
      have s35 : ∀ c, J1 35 c = if c = (I 32 0).toNat then 1 else I 35 c := fun c => by rw [hJ1]; by_cases e : c = (I 32 0).toNat; (rw [if_pos e, upI_ne (by omega), upI_ne (by omega), upI_ne (by omega)]; exact upI_eq rfl (by omega)); (rw [if_neg e]; repeat rw [upI_ne (by omega)])
      have r35 : ∀ c, J2 35 c = if c = (I 32 0).toNat then 1 else I 35 c := fun c => by rw [f2 35 c (by omega)]; exact s35 c
      have s36 : ∀ c, J1 36 c = if c = (I 32 0).toNat then I 0 0 else I 36 c := fun c => by rw [hJ1]; by_cases e : c = (I 32 0).toNat; (rw [if_pos e, upI_ne (by omega), upI_ne (by omega)]; exact upI_eq rfl (by omega)); (rw [if_neg e]; repeat rw [upI_ne (by omega)])
      have r36 : ∀ c, J2 36 c = if c = (I 32 0).toNat then I 0 0 else I 36 c := fun c => by rw [f2 36 c (by omega)]; exact s36 c
      have s37 : ∀ c, J1 37 c = if c = (I 32 0).toNat then (-1) else I 37 c := fun c => by rw [hJ1]; by_cases e : c = (I 32 0).toNat; (rw [if_pos e, upI_ne (by omega)]; exact upI_eq rfl (by omega)); (rw [if_neg e]; repeat rw [upI_ne (by omega)])
      have r37 : ∀ c, J2 37 c = if c = (I 32 0).toNat then (-1) else I 37 c := fun c => by rw [f2 37 c (by omega)]; exact s37 c
      have s32_0 : J1 32 0 = (I 32 0) + 1 := by rw [hJ1]; exact upI_eq rfl rfl
      have r32_0 : J2 32 0 = (I 32 0) + 1 := by rw [f2 32 0 (by omega)]; exact s32_0
      have s100 : ∀ c, J2 100 c = if c = (I 32 0).toNat then x else J1 100 c := fun c => by rw [hJ2]; by_cases e : c = (I 32 0).toNat; (rw [if_pos e, upI_ne (by omega), upI_ne (by omega), upI_ne (by omega), upI_ne (by omega), upI_ne (by omega)]; exact upI_eq rfl (by omega)); (rw [if_neg e]; repeat rw [upI_ne (by omega)])
      have r100 : ∀ c, J2 100 c = if c = (I 32 0).toNat then x else I 100 c := fun c => by rw [s100 c, f1 100 c (by omega)]
      have s101 : ∀ c, J2 101 c = if c = (I 32 0).toNat then y else J1 101 c := fun c => by rw [hJ2]; by_cases e : c = (I 32 0).toNat; (rw [if_pos e, upI_ne (by omega), upI_ne (by omega), upI_ne (by omega), upI_ne (by omega)]; exact upI_eq rfl (by omega)); (rw [if_neg e]; repeat rw [upI_ne (by omega)])
      have r101 : ∀ c, J2 101 c = if c = (I 32 0).toNat then y else I 101 c := fun c => by rw [s101 c, f1 101 c (by omega)]
      have s104 : ∀ c, J2 104 c = if c = (I 32 0).toNat then m else J1 104 c := fun c => by rw [hJ2]; by_cases e : c = (I 32 0).toNat; (rw [if_pos e, upI_ne (by omega), upI_ne (by omega), upI_ne (by omega)]; exact upI_eq rfl (by omega)); (rw [if_neg e]; repeat rw [upI_ne (by omega)])
      have r104 : ∀ c, J2 104 c = if c = (I 32 0).toNat then m else I 104 c := fun c => by rw [s104 c, f1 104 c (by omega)]
      have s102 : ∀ c, J2 102 c = if c = (I 32 0).toNat then J1 74 0 else J1 102 c := fun c => by rw [hJ2]; by_cases e : c = (I 32 0).toNat; (rw [if_pos e, upI_ne (by omega), upI_ne (by omega)]; exact upI_eq rfl (by omega)); (rw [if_neg e]; repeat rw [upI_ne (by omega)])
      have r102 : ∀ c, J2 102 c = if c = (I 32 0).toNat then I 74 0 else I 102 c := fun c => by rw [s102 c, f1 102 c (by omega), f1 74 0 (by omega)]
      have s103 : ∀ c, J2 103 c = if c = (I 32 0).toNat then (-1) else J1 103 c := fun c => by rw [hJ2]; by_cases e : c = (I 32 0).toNat; (rw [if_pos e, upI_ne (by omega)]; exact upI_eq rfl (by omega)); (rw [if_neg e]; repeat rw [upI_ne (by omega)])
      have r103 : ∀ c, J2 103 c = if c = (I 32 0).toNat then (-1) else I 103 c := fun c => by rw [s103 c, f1 103 c (by omega)]
      have s74_43 : J2 74 43 = (J1 74 43) + 1 := by rw [hJ2]; exact upI_eq rfl rfl
      have r74_43 : J2 74 43 = (I 74 43) + 1 := by rw [s74_43, f1 74 43 (by omega)]
      refine ⟨J2, L, by rw [h0, e1]; congr 2; omega, h2, ?_⟩
      have h17 := a4.1.1
      exact inv_hand hI hbk (n := (I 32 0).toNat) (m2 := m) (by omega) (by omega) (by omega) (by omega) (by omega) (by omega) r0_1 r32_0 r74_43 r33 r34 r35 r36 r37 r100 r101 r104 r102 r103 (fun a j z => by rw [f2 a j (by omega)]; exact f1 a j (by omega))
    · exfalso
      (have e9 := a4.2.2.1.2.2.1 x.toNat; have e8 := a4.2.2.1.2.2.1 y.toNat; first | (rw [f1 74 4 (by omega), f1 80 _ (by omega), f1 80 _ (by omega), f1 74 43 (by omega)] at c2; omega) | (rw [f1 74 4, f1 80, f1 80, f1 74 43] at c2; omega))
  · rw [h0]
    obtain ⟨J1, hJ1, h1⟩ := mw_gen h1
    have f1 : ∀ a j, ¬ ((a = 0 ∧ j = 1) ∨ a = 33 ∨ a = 34 ∨ a = 35 ∨ a = 36 ∨ a = 37 ∨ (a = 32 ∧ j = 0)) → J1 a j = I a j := fun a j z => by rw [hJ1]; repeat rw [upI_ne (by omega)]
    refine ⟨b, J1, L, _, rfl, h1, ?_⟩
    refine con_imp (k_X12_hand l E b J1 L x y m (by have := a4.1.1; first | (rw [f1 74 4 (by omega)]; omega) | (rw [f1 74 4]; omega)) (by have := a5.1.1; first | (rw [f1 74 43 (by omega)]; omega) | (rw [f1 74 43]; omega)) hm) ?_
    rintro rt w (⟨c2, h0, h2⟩ | ⟨c2, h0, h2⟩)
    · obtain ⟨J2, hJ2, h2⟩ := mw_gen h2
      have f2 : ∀ a j, ¬ (a = 100 ∨ a = 101 ∨ a = 104 ∨ a = 102 ∨ a = 103 ∨ (a = 74 ∧ j = 43)) → J2 a j = J1 a j := fun a j z => by rw [hJ2]; repeat rw [upI_ne (by omega)]
      have e1 := f1 74 43 (by omega)
      have h32 := a5.1.1
      have s0_1 : J1 0 1 = 0 := by rw [hJ1, upI_ne (by omega), upI_ne (by omega), upI_ne (by omega), upI_ne (by omega), upI_ne (by omega), upI_ne (by omega)]; exact upI_eq rfl rfl
      have r0_1 : J2 0 1 = 0 := by rw [f2 0 1 (by omega)]; exact s0_1
      have s33 : ∀ c, J1 33 c = if c = (I 32 0).toNat then x else I 33 c := fun c => by rw [hJ1]; by_cases e : c = (I 32 0).toNat; (rw [if_pos e, upI_ne (by omega), upI_ne (by omega), upI_ne (by omega), upI_ne (by omega), upI_ne (by omega)]; exact upI_eq rfl (by omega)); (rw [if_neg e]; repeat rw [upI_ne (by omega)])
      have r33 : ∀ c, J2 33 c = if c = (I 32 0).toNat then x else I 33 c := fun c => by rw [f2 33 c (by omega)]; exact s33 c
      have s34 : ∀ c, J1 34 c = if c = (I 32 0).toNat then y else I 34 c := fun c => by rw [hJ1]; by_cases e : c = (I 32 0).toNat; (rw [if_pos e, upI_ne (by omega), upI_ne (by omega), upI_ne (by omega), upI_ne (by omega)]; exact upI_eq rfl (by omega)); (rw [if_neg e]; repeat rw [upI_ne (by omega)])
      have r34 : ∀ c, J2 34 c = if c = (I 32 0).toNat then y else I 34 c := fun c => by rw [f2 34 c (by omega)]; exact s34 c
      have s35 : ∀ c, J1 35 c = if c = (I 32 0).toNat then 0 else I 35 c := fun c => by rw [hJ1]; by_cases e : c = (I 32 0).toNat; (rw [if_pos e, upI_ne (by omega), upI_ne (by omega), upI_ne (by omega)]; exact upI_eq rfl (by omega)); (rw [if_neg e]; repeat rw [upI_ne (by omega)])
      have r35 : ∀ c, J2 35 c = if c = (I 32 0).toNat then 0 else I 35 c := fun c => by rw [f2 35 c (by omega)]; exact s35 c
      have s36 : ∀ c, J1 36 c = if c = (I 32 0).toNat then I 0 0 else I 36 c := fun c => by rw [hJ1]; by_cases e : c = (I 32 0).toNat; (rw [if_pos e, upI_ne (by omega), upI_ne (by omega)]; exact upI_eq rfl (by omega)); (rw [if_neg e]; repeat rw [upI_ne (by omega)])
      have r36 : ∀ c, J2 36 c = if c = (I 32 0).toNat then I 0 0 else I 36 c := fun c => by rw [f2 36 c (by omega)]; exact s36 c
      have s37 : ∀ c, J1 37 c = if c = (I 32 0).toNat then (-1) else I 37 c := fun c => by rw [hJ1]; by_cases e : c = (I 32 0).toNat; (rw [if_pos e, upI_ne (by omega)]; exact upI_eq rfl (by omega)); (rw [if_neg e]; repeat rw [upI_ne (by omega)])
      have r37 : ∀ c, J2 37 c = if c = (I 32 0).toNat then (-1) else I 37 c := fun c => by rw [f2 37 c (by omega)]; exact s37 c
      have s32_0 : J1 32 0 = (I 32 0) + 1 := by rw [hJ1]; exact upI_eq rfl rfl
      have r32_0 : J2 32 0 = (I 32 0) + 1 := by rw [f2 32 0 (by omega)]; exact s32_0
      have s100 : ∀ c, J2 100 c = if c = (I 32 0).toNat then x else J1 100 c := fun c => by rw [hJ2]; by_cases e : c = (I 32 0).toNat; (rw [if_pos e, upI_ne (by omega), upI_ne (by omega), upI_ne (by omega), upI_ne (by omega), upI_ne (by omega)]; exact upI_eq rfl (by omega)); (rw [if_neg e]; repeat rw [upI_ne (by omega)])
      have r100 : ∀ c, J2 100 c = if c = (I 32 0).toNat then x else I 100 c := fun c => by rw [s100 c, f1 100 c (by omega)]
      have s101 : ∀ c, J2 101 c = if c = (I 32 0).toNat then y else J1 101 c := fun c => by rw [hJ2]; by_cases e : c = (I 32 0).toNat; (rw [if_pos e, upI_ne (by omega), upI_ne (by omega), upI_ne (by omega), upI_ne (by omega)]; exact upI_eq rfl (by omega)); (rw [if_neg e]; repeat rw [upI_ne (by omega)])
      have r101 : ∀ c, J2 101 c = if c = (I 32 0).toNat then y else I 101 c := fun c => by rw [s101 c, f1 101 c (by omega)]
      have s104 : ∀ c, J2 104 c = if c = (I 32 0).toNat then m else J1 104 c := fun c => by rw [hJ2]; by_cases e : c = (I 32 0).toNat; (rw [if_pos e, upI_ne (by omega), upI_ne (by omega), upI_ne (by omega)]; exact upI_eq rfl (by omega)); (rw [if_neg e]; repeat rw [upI_ne (by omega)])
      have r104 : ∀ c, J2 104 c = if c = (I 32 0).toNat then m else I 104 c := fun c => by rw [s104 c, f1 104 c (by omega)]
      have s102 : ∀ c, J2 102 c = if c = (I 32 0).toNat then J1 74 0 else J1 102 c := fun c => by rw [hJ2]; by_cases e : c = (I 32 0).toNat; (rw [if_pos e, upI_ne (by omega), upI_ne (by omega)]; exact upI_eq rfl (by omega)); (rw [if_neg e]; repeat rw [upI_ne (by omega)])
      have r102 : ∀ c, J2 102 c = if c = (I 32 0).toNat then I 74 0 else I 102 c := fun c => by rw [s102 c, f1 102 c (by omega), f1 74 0 (by omega)]
      have s103 : ∀ c, J2 103 c = if c = (I 32 0).toNat then (-1) else J1 103 c := fun c => by rw [hJ2]; by_cases e : c = (I 32 0).toNat; (rw [if_pos e, upI_ne (by omega)]; exact upI_eq rfl (by omega)); (rw [if_neg e]; repeat rw [upI_ne (by omega)])
      have r103 : ∀ c, J2 103 c = if c = (I 32 0).toNat then (-1) else I 103 c := fun c => by rw [s103 c, f1 103 c (by omega)]
      have s74_43 : J2 74 43 = (J1 74 43) + 1 := by rw [hJ2]; exact upI_eq rfl rfl
      have r74_43 : J2 74 43 = (I 74 43) + 1 := by rw [s74_43, f1 74 43 (by omega)]
      refine ⟨J2, L, by rw [h0, e1]; congr 2; omega, h2, ?_⟩
      have h17 := a4.1.1
      exact inv_hand hI hbk (n := (I 32 0).toNat) (m2 := m) (by omega) (by omega) (by omega) (by omega) (by omega) (by omega) r0_1 r32_0 r74_43 r33 r34 r35 r36 r37 r100 r101 r104 r102 r103 (fun a j z => by rw [f2 a j (by omega)]; exact f1 a j (by omega))
    · exfalso
      (have e9 := a4.2.2.1.2.2.1 x.toNat; have e8 := a4.2.2.1.2.2.1 y.toNat; first | (rw [f1 74 4 (by omega), f1 80 _ (by omega), f1 80 _ (by omega), f1 74 43 (by omega)] at c2; omega) | (rw [f1 74 4, f1 80, f1 80, f1 74 43] at c2; omega))
  · rw [h0]
    obtain ⟨J1, hJ1, h1⟩ := mw_gen h1
    have f1 : ∀ a j, ¬ ((a = 0 ∧ j = 1)) → J1 a j = I a j := fun a j z => by rw [hJ1]; repeat rw [upI_ne (by omega)]
    refine ⟨b, J1, L, _, rfl, h1, ?_⟩
    refine con_imp (k_X12_hand l E b J1 L x y m (by have := a4.1.1; first | (rw [f1 74 4 (by omega)]; omega) | (rw [f1 74 4]; omega)) (by have := a5.1.1; first | (rw [f1 74 43 (by omega)]; omega) | (rw [f1 74 43]; omega)) hm) ?_
    rintro rt w (⟨c2, h0, h2⟩ | ⟨c2, h0, h2⟩)
    · exfalso
      (have e9 := a4.2.2.1.2.2.1 x.toNat; have e8 := a4.2.2.1.2.2.1 y.toNat; first | (rw [f1 74 4 (by omega), f1 80 _ (by omega), f1 80 _ (by omega), f1 74 43 (by omega)] at c2; omega) | (rw [f1 74 4, f1 80, f1 80, f1 74 43] at c2; omega))
    · obtain ⟨J2, hJ2, h2⟩ := mw_gen h2
      have f2 : ∀ a j, J2 a j = J1 a j := fun a j => by rw [hJ2]
      have s0_1 : J1 0 1 = 0 := by rw [hJ1]; exact upI_eq rfl rfl
      have r0_1 : J2 0 1 = 0 := by rw [f2 0 1]; exact s0_1
      refine ⟨J2, L, h0, h2, ?_⟩
      exact inv_seen hI hbk r0_1 (fun a j z => by rw [f2 a j]; exact f1 a j (by omega))
  · rw [h0]
    obtain ⟨J1, hJ1, h1⟩ := mw_gen h1
    have f1 : ∀ a j, J1 a j = I a j := fun a j => by rw [hJ1]
    refine ⟨b, J1, L, _, rfl, h1, ?_⟩
    refine con_imp (k_X12_hand l E b J1 L x y m (by have := a4.1.1; first | (rw [f1 74 4 (by omega)]; omega) | (rw [f1 74 4]; omega)) (by have := a5.1.1; first | (rw [f1 74 43 (by omega)]; omega) | (rw [f1 74 43]; omega)) hm) ?_
    rintro rt w (⟨c2, h0, h2⟩ | ⟨c2, h0, h2⟩)
    · exfalso
      (have e9 := a4.2.2.1.2.2.1 x.toNat; have e8 := a4.2.2.1.2.2.1 y.toNat; first | (rw [f1 74 4 (by omega), f1 80 _ (by omega), f1 80 _ (by omega), f1 74 43 (by omega)] at c2; omega) | (rw [f1 74 4, f1 80, f1 80, f1 74 43] at c2; omega))
    · obtain ⟨J2, hJ2, h2⟩ := mw_gen h2
      have f2 : ∀ a j, J2 a j = J1 a j := fun a j => by rw [hJ2]
      refine ⟨J2, L, h0, h2, ?_⟩
      have e : J2 = I := by rw [hJ2, hJ1]
      rw [e]
      exact hI
theorem pr_unhand (l : Launch) (E : AX) (b : Bool) (I L : Nat → Nat → Int) (i : Int) (hI : Inv (bkb b) I) : Pair l E b I L 2 76 1 144 [vI i] := by
  have hbk := bk_b b
  have hI0 := hI
  obtain ⟨a1, a2, a3, a4, a5, a6, a7, a8, a9, a10, a11, a12⟩ := hI0
  have e5 : I 32 0 = I 74 43 := a5.2.1
  have q9 := a5.1.1
  refine con_imp (k_X11_unhand l E b I L i a5.1.1) ?_
  rintro rt w (⟨c1, h0, h1⟩ | ⟨c1, h0, h1⟩)
  · rw [h0]
    obtain ⟨J1, hJ1, h1⟩ := mw_gen h1
    have f1 : ∀ a j, ¬ ((a = 0 ∧ j = 1) ∨ a = 37) → J1 a j = I a j := fun a j z => by rw [hJ1]; repeat rw [upI_ne (by omega)]
    refine ⟨b, J1, L, _, rfl, h1, ?_⟩
    refine con_imp (k_X12_unhand l E b J1 L i (by have := a5.1.1; first | (rw [f1 74 43 (by omega)]; omega) | (rw [f1 74 43]; omega))) ?_
    rintro rt w (⟨c2, h0, h2⟩ | ⟨c2, h0, h2⟩)
    · obtain ⟨J2, hJ2, h2⟩ := mw_gen h2
      have f2 : ∀ a j, ¬ (a = 103) → J2 a j = J1 a j := fun a j z => by rw [hJ2]; repeat rw [upI_ne (by omega)]
      have s0_1 : J1 0 1 = 0 := by rw [hJ1, upI_ne (by omega)]; exact upI_eq rfl rfl
      have r0_1 : J2 0 1 = 0 := by rw [f2 0 1 (by omega)]; exact s0_1
      have s37 : ∀ c, J1 37 c = if c = i.toNat then I 0 0 else I 37 c := fun c => by rw [hJ1]; by_cases e : c = i.toNat; (rw [if_pos e]; exact upI_eq rfl (by omega)); (rw [if_neg e]; repeat rw [upI_ne (by omega)])
      have r37 : ∀ c, J2 37 c = if c = i.toNat then I 0 0 else I 37 c := fun c => by rw [f2 37 c (by omega)]; exact s37 c
      have s103 : ∀ c, J2 103 c = if c = i.toNat then J1 74 0 else J1 103 c := fun c => by rw [hJ2]; by_cases e : c = i.toNat; (rw [if_pos e]; exact upI_eq rfl (by omega)); (rw [if_neg e]; repeat rw [upI_ne (by omega)])
      have r103 : ∀ c, J2 103 c = if c = i.toNat then I 74 0 else I 103 c := fun c => by rw [s103 c, f1 103 c (by omega), f1 74 0 (by omega)]
      refine ⟨J2, L, h0, h2, ?_⟩
      exact inv_unhand hI hbk (n := i.toNat) r0_1 r37 r103 (fun a j z => by rw [f2 a j (by omega)]; exact f1 a j (by omega))
    · exfalso
      (have e9 := a5.2.2 i.toNat; first | (rw [f1 74 43 (by omega), f1 103 _ (by omega)] at c2; omega) | (rw [f1 74 43, f1 103] at c2; omega))
  · rw [h0]
    obtain ⟨J1, hJ1, h1⟩ := mw_gen h1
    have f1 : ∀ a j, ¬ ((a = 0 ∧ j = 1)) → J1 a j = I a j := fun a j z => by rw [hJ1]; repeat rw [upI_ne (by omega)]
    refine ⟨b, J1, L, _, rfl, h1, ?_⟩
    refine con_imp (k_X12_unhand l E b J1 L i (by have := a5.1.1; first | (rw [f1 74 43 (by omega)]; omega) | (rw [f1 74 43]; omega))) ?_
    rintro rt w (⟨c2, h0, h2⟩ | ⟨c2, h0, h2⟩)
    · exfalso
      (have e9 := a5.2.2 i.toNat; first | (rw [f1 74 43 (by omega), f1 103 _ (by omega)] at c2; omega) | (rw [f1 74 43, f1 103] at c2; omega))
    · obtain ⟨J2, hJ2, h2⟩ := mw_gen h2
      have f2 : ∀ a j, J2 a j = J1 a j := fun a j => by rw [hJ2]
      have s0_1 : J1 0 1 = 0 := by rw [hJ1]; exact upI_eq rfl rfl
      have r0_1 : J2 0 1 = 0 := by rw [f2 0 1]; exact s0_1
      refine ⟨J2, L, h0, h2, ?_⟩
      exact inv_seen hI hbk r0_1 (fun a j z => by rw [f2 a j]; exact f1 a j (by omega))
theorem pr_fix (l : Launch) (E : AX) (b : Bool) (I L : Nat → Nat → Int) (r f x : Int) (hI : Inv (bkb b) I) : Pair l E b I L 2 83 2 145 [vI r, vI f, vI x] := by
  have hbk := bk_b b
  have hI0 := hI
  obtain ⟨a1, a2, a3, a4, a5, a6, a7, a8, a9, a10, a11, a12⟩ := hI0
  have e0 : I 17 0 = I 74 4 := a4.2.2.1.1
  have e5 : I 38 0 = I 74 44 := a6.1.1
  have q9 := a6.2.1
  refine con_imp (k_X11_fix l E b I L r f x (by have := a4.1.1; omega) a6.2.1) ?_
  rintro rt w (⟨c1, h0, h1⟩ | ⟨c1, h0, h1⟩)
  · rw [h0]
    obtain ⟨J1, hJ1, h1⟩ := mw_gen h1
    have f1 : ∀ a j, ¬ (a = 39 ∨ a = 40 ∨ a = 41 ∨ a = 42 ∨ a = 43 ∨ (a = 38 ∧ j = 0)) → J1 a j = I a j := fun a j z => by rw [hJ1]; repeat rw [upI_ne (by omega)]
    refine ⟨b, J1, L, _, rfl, h1, ?_⟩
    refine con_imp (k_X12_fix l E b J1 L r f x (by have := a4.1.1; first | (rw [f1 74 4 (by omega)]; omega) | (rw [f1 74 4]; omega)) (by have := a6.2.1; have := a6.1.1; first | (rw [f1 74 44 (by omega)]; omega) | (rw [f1 74 44]; omega))) ?_
    rintro rt w (⟨c2, h0, h2⟩ | ⟨c2, h0, h2⟩)
    · obtain ⟨J2, hJ2, h2⟩ := mw_gen h2
      have f2 : ∀ a j, ¬ (a = 105 ∨ a = 106 ∨ a = 107 ∨ a = 108 ∨ a = 109 ∨ (a = 74 ∧ j = 44)) → J2 a j = J1 a j := fun a j z => by rw [hJ2]; repeat rw [upI_ne (by omega)]
      have e1 := f1 74 44 (by omega)
      have h38 := a6.2.1
      have h17 := a4.1.1
      have s39 : ∀ c, J1 39 c = if c = (I 38 0).toNat then r else I 39 c := fun c => by rw [hJ1]; by_cases e : c = (I 38 0).toNat; (rw [if_pos e, upI_ne (by omega), upI_ne (by omega), upI_ne (by omega), upI_ne (by omega), upI_ne (by omega)]; exact upI_eq rfl (by omega)); (rw [if_neg e]; repeat rw [upI_ne (by omega)])
      have r39 : ∀ c, J2 39 c = if c = (I 38 0).toNat then r else I 39 c := fun c => by rw [f2 39 c (by omega)]; exact s39 c
      have s40 : ∀ c, J1 40 c = if c = (I 38 0).toNat then f else I 40 c := fun c => by rw [hJ1]; by_cases e : c = (I 38 0).toNat; (rw [if_pos e, upI_ne (by omega), upI_ne (by omega), upI_ne (by omega), upI_ne (by omega)]; exact upI_eq rfl (by omega)); (rw [if_neg e]; repeat rw [upI_ne (by omega)])
      have r40 : ∀ c, J2 40 c = if c = (I 38 0).toNat then f else I 40 c := fun c => by rw [f2 40 c (by omega)]; exact s40 c
      have s41 : ∀ c, J1 41 c = if c = (I 38 0).toNat then x else I 41 c := fun c => by rw [hJ1]; by_cases e : c = (I 38 0).toNat; (rw [if_pos e, upI_ne (by omega), upI_ne (by omega), upI_ne (by omega)]; exact upI_eq rfl (by omega)); (rw [if_neg e]; repeat rw [upI_ne (by omega)])
      have r41 : ∀ c, J2 41 c = if c = (I 38 0).toNat then x else I 41 c := fun c => by rw [f2 41 c (by omega)]; exact s41 c
      have s42 : ∀ c, J1 42 c = if c = (I 38 0).toNat then I 0 0 else I 42 c := fun c => by rw [hJ1]; by_cases e : c = (I 38 0).toNat; (rw [if_pos e, upI_ne (by omega), upI_ne (by omega)]; exact upI_eq rfl (by omega)); (rw [if_neg e]; repeat rw [upI_ne (by omega)])
      have r42 : ∀ c, J2 42 c = if c = (I 38 0).toNat then I 0 0 else I 42 c := fun c => by rw [f2 42 c (by omega)]; exact s42 c
      have s43 : ∀ c, J1 43 c = if c = (I 38 0).toNat then (-1) else I 43 c := fun c => by rw [hJ1]; by_cases e : c = (I 38 0).toNat; (rw [if_pos e, upI_ne (by omega)]; exact upI_eq rfl (by omega)); (rw [if_neg e]; repeat rw [upI_ne (by omega)])
      have r43 : ∀ c, J2 43 c = if c = (I 38 0).toNat then (-1) else I 43 c := fun c => by rw [f2 43 c (by omega)]; exact s43 c
      have s38_0 : J1 38 0 = (I 38 0) + 1 := by rw [hJ1]; exact upI_eq rfl rfl
      have r38_0 : J2 38 0 = (I 38 0) + 1 := by rw [f2 38 0 (by omega)]; exact s38_0
      have s105 : ∀ c, J2 105 c = if c = (I 38 0).toNat then r else J1 105 c := fun c => by rw [hJ2]; by_cases e : c = (I 38 0).toNat; (rw [if_pos e, upI_ne (by omega), upI_ne (by omega), upI_ne (by omega), upI_ne (by omega), upI_ne (by omega)]; exact upI_eq rfl (by omega)); (rw [if_neg e]; repeat rw [upI_ne (by omega)])
      have r105 : ∀ c, J2 105 c = if c = (I 38 0).toNat then r else I 105 c := fun c => by rw [s105 c, f1 105 c (by omega)]
      have s106 : ∀ c, J2 106 c = if c = (I 38 0).toNat then f else J1 106 c := fun c => by rw [hJ2]; by_cases e : c = (I 38 0).toNat; (rw [if_pos e, upI_ne (by omega), upI_ne (by omega), upI_ne (by omega), upI_ne (by omega)]; exact upI_eq rfl (by omega)); (rw [if_neg e]; repeat rw [upI_ne (by omega)])
      have r106 : ∀ c, J2 106 c = if c = (I 38 0).toNat then f else I 106 c := fun c => by rw [s106 c, f1 106 c (by omega)]
      have s107 : ∀ c, J2 107 c = if c = (I 38 0).toNat then x else J1 107 c := fun c => by rw [hJ2]; by_cases e : c = (I 38 0).toNat; (rw [if_pos e, upI_ne (by omega), upI_ne (by omega), upI_ne (by omega)]; exact upI_eq rfl (by omega)); (rw [if_neg e]; repeat rw [upI_ne (by omega)])
      have r107 : ∀ c, J2 107 c = if c = (I 38 0).toNat then x else I 107 c := fun c => by rw [s107 c, f1 107 c (by omega)]
      have s108 : ∀ c, J2 108 c = if c = (I 38 0).toNat then J1 74 0 else J1 108 c := fun c => by rw [hJ2]; by_cases e : c = (I 38 0).toNat; (rw [if_pos e, upI_ne (by omega), upI_ne (by omega)]; exact upI_eq rfl (by omega)); (rw [if_neg e]; repeat rw [upI_ne (by omega)])
      have r108 : ∀ c, J2 108 c = if c = (I 38 0).toNat then I 74 0 else I 108 c := fun c => by rw [s108 c, f1 108 c (by omega), f1 74 0 (by omega)]
      have s109 : ∀ c, J2 109 c = if c = (I 38 0).toNat then (-1) else J1 109 c := fun c => by rw [hJ2]; by_cases e : c = (I 38 0).toNat; (rw [if_pos e, upI_ne (by omega)]; exact upI_eq rfl (by omega)); (rw [if_neg e]; repeat rw [upI_ne (by omega)])
      have r109 : ∀ c, J2 109 c = if c = (I 38 0).toNat then (-1) else I 109 c := fun c => by rw [s109 c, f1 109 c (by omega)]
      have s74_44 : J2 74 44 = (J1 74 44) + 1 := by rw [hJ2]; exact upI_eq rfl rfl
      have r74_44 : J2 74 44 = (I 74 44) + 1 := by rw [s74_44, f1 74 44 (by omega)]
      refine ⟨J2, L, by rw [h0, e1]; congr 2; omega, h2, ?_⟩
      exact inv_fix hI hbk (n := (I 38 0).toNat) (by omega) (by omega) (by omega) (by omega) r38_0 r74_44 r39 r40 r41 r42 r43 r105 r106 r107 r108 r109 (fun a j z => by rw [f2 a j (by omega)]; exact f1 a j (by omega))
    · exfalso
      (have e9 := a4.2.2.1.2.2.1 r.toNat; first | (rw [f1 74 4 (by omega), f1 80 _ (by omega), f1 74 44 (by omega)] at c2; omega) | (rw [f1 74 4, f1 80, f1 74 44] at c2; omega))
  · rw [h0]
    obtain ⟨J1, hJ1, h1⟩ := mw_gen h1
    have f1 : ∀ a j, J1 a j = I a j := fun a j => by rw [hJ1]
    refine ⟨b, J1, L, _, rfl, h1, ?_⟩
    refine con_imp (k_X12_fix l E b J1 L r f x (by have := a4.1.1; first | (rw [f1 74 4 (by omega)]; omega) | (rw [f1 74 4]; omega)) (by have := a6.2.1; have := a6.1.1; first | (rw [f1 74 44 (by omega)]; omega) | (rw [f1 74 44]; omega))) ?_
    rintro rt w (⟨c2, h0, h2⟩ | ⟨c2, h0, h2⟩)
    · exfalso
      (have e9 := a4.2.2.1.2.2.1 r.toNat; first | (rw [f1 74 4 (by omega), f1 80 _ (by omega), f1 74 44 (by omega)] at c2; omega) | (rw [f1 74 4, f1 80, f1 74 44] at c2; omega))
    · obtain ⟨J2, hJ2, h2⟩ := mw_gen h2
      have f2 : ∀ a j, J2 a j = J1 a j := fun a j => by rw [hJ2]
      refine ⟨J2, L, h0, h2, ?_⟩
      have e : J2 = I := by rw [hJ2, hJ1]
      rw [e]
      exact hI
theorem pr_unfix (l : Launch) (E : AX) (b : Bool) (I L : Nat → Nat → Int) (i : Int) (hI : Inv (bkb b) I) : Pair l E b I L 2 84 1 146 [vI i] := by
  have hbk := bk_b b
  have hI0 := hI
  obtain ⟨a1, a2, a3, a4, a5, a6, a7, a8, a9, a10, a11, a12⟩ := hI0
  have e5 : I 38 0 = I 74 44 := a6.1.1
  have q9 := a6.2.1
  refine con_imp (k_X11_unfix l E b I L i a6.2.1) ?_
  rintro rt w (⟨c1, h0, h1⟩ | ⟨c1, h0, h1⟩)
  · rw [h0]
    obtain ⟨J1, hJ1, h1⟩ := mw_gen h1
    have f1 : ∀ a j, ¬ (a = 43) → J1 a j = I a j := fun a j z => by rw [hJ1]; repeat rw [upI_ne (by omega)]
    refine ⟨b, J1, L, _, rfl, h1, ?_⟩
    refine con_imp (k_X12_unfix l E b J1 L i (by have := a6.2.1; have := a6.1.1; first | (rw [f1 74 44 (by omega)]; omega) | (rw [f1 74 44]; omega))) ?_
    rintro rt w (⟨c2, h0, h2⟩ | ⟨c2, h0, h2⟩)
    · obtain ⟨J2, hJ2, h2⟩ := mw_gen h2
      have f2 : ∀ a j, ¬ (a = 109) → J2 a j = J1 a j := fun a j z => by rw [hJ2]; repeat rw [upI_ne (by omega)]
      have s43 : ∀ c, J1 43 c = if c = i.toNat then I 0 0 else I 43 c := fun c => by rw [hJ1]; by_cases e : c = i.toNat; (rw [if_pos e]; exact upI_eq rfl (by omega)); (rw [if_neg e]; repeat rw [upI_ne (by omega)])
      have r43 : ∀ c, J2 43 c = if c = i.toNat then I 0 0 else I 43 c := fun c => by rw [f2 43 c (by omega)]; exact s43 c
      have s109 : ∀ c, J2 109 c = if c = i.toNat then J1 74 0 else J1 109 c := fun c => by rw [hJ2]; by_cases e : c = i.toNat; (rw [if_pos e]; exact upI_eq rfl (by omega)); (rw [if_neg e]; repeat rw [upI_ne (by omega)])
      have r109 : ∀ c, J2 109 c = if c = i.toNat then I 74 0 else I 109 c := fun c => by rw [s109 c, f1 109 c (by omega), f1 74 0 (by omega)]
      refine ⟨J2, L, h0, h2, ?_⟩
      exact inv_unfix hI hbk (n := i.toNat) r43 r109 (fun a j z => by rw [f2 a j (by omega)]; exact f1 a j (by omega))
    · exfalso
      (have e9 := a6.1.2 i.toNat; first | (rw [f1 74 44 (by omega), f1 109 _ (by omega)] at c2; omega) | (rw [f1 74 44, f1 109] at c2; omega))
  · rw [h0]
    obtain ⟨J1, hJ1, h1⟩ := mw_gen h1
    have f1 : ∀ a j, J1 a j = I a j := fun a j => by rw [hJ1]
    refine ⟨b, J1, L, _, rfl, h1, ?_⟩
    refine con_imp (k_X12_unfix l E b J1 L i (by have := a6.2.1; have := a6.1.1; first | (rw [f1 74 44 (by omega)]; omega) | (rw [f1 74 44]; omega))) ?_
    rintro rt w (⟨c2, h0, h2⟩ | ⟨c2, h0, h2⟩)
    · exfalso
      (have e9 := a6.1.2 i.toNat; first | (rw [f1 74 44 (by omega), f1 109 _ (by omega)] at c2; omega) | (rw [f1 74 44, f1 109] at c2; omega))
    · obtain ⟨J2, hJ2, h2⟩ := mw_gen h2
      have f2 : ∀ a j, J2 a j = J1 a j := fun a j => by rw [hJ2]
      refine ⟨J2, L, h0, h2, ?_⟩
      have e : J2 = I := by rw [hJ2, hJ1]
      rw [e]
      exact hI
theorem pr_fault (l : Launch) (E : AX) (b : Bool) (I L : Nat → Nat → Int) (x : Int) (hI : Inv (bkb b) I) : Pair l E b I L 1 73 1 138 [vI x] := by
  have hbk := bk_b b
  have hI0 := hI
  obtain ⟨a1, a2, a3, a4, a5, a6, a7, a8, a9, a10, a11, a12⟩ := hI0
  have e0 := a9.1
  have e1 := a9.2
  refine con_imp (k_X11_fault l E b I L x) ?_
  rintro rt w (⟨c1, h0, h1⟩ | ⟨c1, h0, h1⟩ | ⟨c1, h0, h1⟩)
  · rw [h0]
    obtain ⟨J1, hJ1, h1⟩ := mw_gen h1
    have f1 : ∀ a j, J1 a j = I a j := fun a j => by rw [hJ1]
    refine ⟨b, J1, L, _, rfl, h1, ?_⟩
    refine con_imp (k_X12_fault l E b J1 L x) ?_
    rintro rt w (⟨c2, h0, h2⟩ | ⟨c2, h0, h2⟩ | ⟨c2, h0, h2⟩)
    · obtain ⟨J2, hJ2, h2⟩ := mw_gen h2
      have f2 : ∀ a j, J2 a j = J1 a j := fun a j => by rw [hJ2]
      refine ⟨J2, L, by rw [h0, f1, e0], h2, ?_⟩
      have e : J2 = I := by rw [hJ2, hJ1]
      rw [e]
      exact hI
    · exfalso
      omega
    · exfalso
      omega
  · rw [h0]
    obtain ⟨J1, hJ1, h1⟩ := mw_gen h1
    have f1 : ∀ a j, J1 a j = I a j := fun a j => by rw [hJ1]
    refine ⟨b, J1, L, _, rfl, h1, ?_⟩
    refine con_imp (k_X12_fault l E b J1 L x) ?_
    rintro rt w (⟨c2, h0, h2⟩ | ⟨c2, h0, h2⟩ | ⟨c2, h0, h2⟩)
    · exfalso
      omega
    · obtain ⟨J2, hJ2, h2⟩ := mw_gen h2
      have f2 : ∀ a j, J2 a j = J1 a j := fun a j => by rw [hJ2]
      refine ⟨J2, L, by rw [h0, f1, e1], h2, ?_⟩
      have e : J2 = I := by rw [hJ2, hJ1]
      rw [e]
      exact hI
    · exfalso
      omega
  · rw [h0]
    obtain ⟨J1, hJ1, h1⟩ := mw_gen h1
    have f1 : ∀ a j, J1 a j = I a j := fun a j => by rw [hJ1]
    refine ⟨b, J1, L, _, rfl, h1, ?_⟩
    refine con_imp (k_X12_fault l E b J1 L x) ?_
    rintro rt w (⟨c2, h0, h2⟩ | ⟨c2, h0, h2⟩ | ⟨c2, h0, h2⟩)
    · exfalso
      omega
    · exfalso
      omega
    · obtain ⟨J2, hJ2, h2⟩ := mw_gen h2
      have f2 : ∀ a j, J2 a j = J1 a j := fun a j => by rw [hJ2]
      refine ⟨J2, L, by rw [h0], h2, ?_⟩
      have e : J2 = I := by rw [hJ2, hJ1]
      rw [e]
      exact hI
