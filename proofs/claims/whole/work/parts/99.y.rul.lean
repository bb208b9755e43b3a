theorem rf_x (b : Bool) {a j : Nat} (h : ¬ (a = 0 ∧ (j = 3 ∨ j = 4))) : RF b a j = (rfT.getD a []).getD j none := by
  unfold RF
  rw [if_neg (fun z => by rw [Bool.and_eq_true] at z; have h1 := Nat.eq_of_beq_eq_true z.1; have h2 := Nat.eq_of_beq_eq_true z.2; omega), if_neg (fun z => by rw [Bool.and_eq_true] at z; have h1 := Nat.eq_of_beq_eq_true z.1; have h2 := Nat.eq_of_beq_eq_true z.2; omega)]

theorem sw_f (I L : Nat → Nat → Int) : uR (uR (MW false I L) 0 3 (some 7)) 0 4 (some 1) = MW true I L := by
  have h : (fun (a j : Nat) => if a = 0 ∧ j = 4 then some 1 else if a = 0 ∧ j = 3 then some 7 else RF false a j) = RF true := by
    funext a j
    by_cases e4 : a = 0 ∧ j = 4
    · rw [if_pos e4, e4.1, e4.2]
      rfl
    · rw [if_neg e4]
      by_cases e3 : a = 0 ∧ j = 3
      · rw [if_pos e3, e3.1, e3.2]
        rfl
      · rw [if_neg e3, rf_x _ (by omega), rf_x _ (by omega)]
  show (LAY, I, L, (fun (a j : Nat) => if a = 0 ∧ j = 4 then some 1 else if a = 0 ∧ j = 3 then some 7 else RF false a j)) = (LAY, I, L, RF true)
  rw [h]

theorem k_rules_f (l : Launch) (E : AX) (I L : Nat → Nat → Int) (h0 : Tp0 I) : Con l E 27 72 [vR 0] (MW false I L) 0 0 (fun rt w => (∃ J G s, pRul (I 29) (nTp I) = .inr (G, s) ∧ LSt 7 (clr 7 I) J G s ∧ rt = some (vI (G.length : Int)) ∧ w = MW true (upI (upI J 28 0 0) 0 1 0) L) ∨ (∃ J f, pRul (I 29) (nTp I) = .inl f ∧ FlA 7 (clr 7 I) J f ∧ rt = some (vI (-1)) ∧ w = MW false (upI J 28 0 0) L)) := by
  refine con_ok (fun hw9 hs9 => ?_)
  refine con_intro (by decide) (Nat.le_of_ble_eq_true rfl) ?_
  show Rch l E 27 72 _ _ _ _ (0, [some (vR 0), none, none], [], MW false I L)
  refine rch_run cdK72 (by decide) 6 (t' := (12, [some (vR 0), none, none], [vR 7, vR 28, vR 31], MW false I L)) (ps := []) rfl trivial ?_
  refine rch_call (h' := 26) (k' := 12) (as := [vR 31, vR 28, vR 7]) (t1 := (15, [some (vR 0), none, none], [], MW false I L)) cdK72 rfl (k_all_7 l E false I L h0) (by decide) mw_le ?_
  rintro rt9 w9 (⟨J130, G9, s9, rfl, hr9, rfl, hs⟩ | ⟨J130, f9, rfl, hr9, rfl, hf⟩) _ _
  · show Rch l E 27 72 _ _ _ _ (15, [some (vR 0), none, none], [vI 1], MW false J130 L)
    have hg9 : J130 7 0 = (G9.length : Int) := hs.2.2.1.1
    refine rch_run cdK72 (by decide) 6 (t' := (25, [some (vR 0), some (vI 1), none], [vI 1], MW false (upI J130 28 0 0) L)) (ps := []) rfl trivial ?_
    refine rch_br cdK72 (cd := (1 : Int) ≠ 0) (t1 := (30, [some (vR 0), some (vI 1), none], [], MW false (upI J130 28 0 0) L)) (t2 := (28, [some (vR 0), some (vI 1), none], [], MW false (upI J130 28 0 0) L)) rfl (fun _ => ?_) (fun c9 => absurd (by decide) c9)
    refine rch_run cdK72 (by decide) 10 (t' := (48, [some (vR 0), some (vI 1), some (vR 1)], [], uR (uR (MW false (upI J130 28 0 0) L) 0 3 (some 7)) 0 4 (some 1))) (ps := []) rfl trivial ?_
    rw [sw_f]
    refine rch_run cdK72 (by decide) 6 (t' := (60, [some (vR 0), some (vI 1), some (vR 1)], [vI ((upI J130 28 0 0) 7 0)], MW true (upI (upI J130 28 0 0) 0 1 0) L)) (ps := [(0 : Int) = 0 ∨ (0 : Int) = 1]) rfl (by simp only [all_, i32, i64]; first | omega | (simp; done) | (simp; omega)) ?_
    refine rch_ret cdK72 (rt := some (vI ((upI J130 28 0 0) 7 0))) rfl trivial mw_c ?_
    exact Or.inl ⟨_, _, _, hr9, hs, (by rw [← hg9, upI_ne (by omega)]), rfl⟩
  · show Rch l E 27 72 _ _ _ _ (15, [some (vR 0), none, none], [vI 0], MW false J130 L)
    refine rch_run cdK72 (by decide) 6 (t' := (25, [some (vR 0), some (vI 0), none], [vI 0], MW false (upI J130 28 0 0) L)) (ps := []) rfl trivial ?_
    refine rch_br cdK72 (cd := (0 : Int) ≠ 0) (t1 := (30, [some (vR 0), some (vI 0), none], [], MW false (upI J130 28 0 0) L)) (t2 := (28, [some (vR 0), some (vI 0), none], [], MW false (upI J130 28 0 0) L)) rfl (fun c9 => absurd c9 (by decide)) (fun _ => ?_)
    refine rch_run cdK72 (by decide) 1 (t' := (29, [some (vR 0), some (vI 0), none], [vI (-1)], MW false (upI J130 28 0 0) L)) (ps := []) rfl trivial ?_
    refine rch_ret cdK72 (rt := some (vI (-1))) rfl trivial mw_c ?_
    exact Or.inr ⟨_, _, hr9, hf, rfl, rfl⟩

theorem sw_t (I L : Nat → Nat → Int) : uR (uR (MW true I L) 0 3 (some 1)) 0 4 (some 7) = MW false I L := by
  have h : (fun (a j : Nat) => if a = 0 ∧ j = 4 then some 7 else if a = 0 ∧ j = 3 then some 1 else RF true a j) = RF false := by
    funext a j
    by_cases e4 : a = 0 ∧ j = 4
    · rw [if_pos e4, e4.1, e4.2]
      rfl
    · rw [if_neg e4]
      by_cases e3 : a = 0 ∧ j = 3
      · rw [if_pos e3, e3.1, e3.2]
        rfl
      · rw [if_neg e3, rf_x _ (by omega), rf_x _ (by omega)]
  show (LAY, I, L, (fun (a j : Nat) => if a = 0 ∧ j = 4 then some 7 else if a = 0 ∧ j = 3 then some 1 else RF true a j)) = (LAY, I, L, RF false)
  rw [h]

theorem k_rules_t (l : Launch) (E : AX) (I L : Nat → Nat → Int) (h0 : Tp0 I) : Con l E 27 72 [vR 0] (MW true I L) 0 0 (fun rt w => (∃ J G s, pRul (I 29) (nTp I) = .inr (G, s) ∧ LSt 1 (clr 1 I) J G s ∧ rt = some (vI (G.length : Int)) ∧ w = MW false (upI (upI J 28 0 0) 0 1 0) L) ∨ (∃ J f, pRul (I 29) (nTp I) = .inl f ∧ FlA 1 (clr 1 I) J f ∧ rt = some (vI (-1)) ∧ w = MW true (upI J 28 0 0) L)) := by
  refine con_ok (fun hw9 hs9 => ?_)
  refine con_intro (by decide) (Nat.le_of_ble_eq_true rfl) ?_
  show Rch l E 27 72 _ _ _ _ (0, [some (vR 0), none, none], [], MW true I L)
  refine rch_run cdK72 (by decide) 6 (t' := (12, [some (vR 0), none, none], [vR 1, vR 28, vR 31], MW true I L)) (ps := []) rfl trivial ?_
  refine rch_call (h' := 26) (k' := 12) (as := [vR 31, vR 28, vR 1]) (t1 := (15, [some (vR 0), none, none], [], MW true I L)) cdK72 rfl (k_all_1 l E true I L h0) (by decide) mw_le ?_
  rintro rt9 w9 (⟨J131, G9, s9, rfl, hr9, rfl, hs⟩ | ⟨J131, f9, rfl, hr9, rfl, hf⟩) _ _
  · show Rch l E 27 72 _ _ _ _ (15, [some (vR 0), none, none], [vI 1], MW true J131 L)
    have hg9 : J131 1 0 = (G9.length : Int) := hs.2.2.1.1
    refine rch_run cdK72 (by decide) 6 (t' := (25, [some (vR 0), some (vI 1), none], [vI 1], MW true (upI J131 28 0 0) L)) (ps := []) rfl trivial ?_
    refine rch_br cdK72 (cd := (1 : Int) ≠ 0) (t1 := (30, [some (vR 0), some (vI 1), none], [], MW true (upI J131 28 0 0) L)) (t2 := (28, [some (vR 0), some (vI 1), none], [], MW true (upI J131 28 0 0) L)) rfl (fun _ => ?_) (fun c9 => absurd (by decide) c9)
    refine rch_run cdK72 (by decide) 10 (t' := (48, [some (vR 0), some (vI 1), some (vR 7)], [], uR (uR (MW true (upI J131 28 0 0) L) 0 3 (some 1)) 0 4 (some 7))) (ps := []) rfl trivial ?_
    rw [sw_t]
    refine rch_run cdK72 (by decide) 6 (t' := (60, [some (vR 0), some (vI 1), some (vR 7)], [vI ((upI J131 28 0 0) 1 0)], MW false (upI (upI J131 28 0 0) 0 1 0) L)) (ps := [(0 : Int) = 0 ∨ (0 : Int) = 1]) rfl (by simp only [all_, i32, i64]; first | omega | (simp; done) | (simp; omega)) ?_
    refine rch_ret cdK72 (rt := some (vI ((upI J131 28 0 0) 1 0))) rfl trivial mw_c ?_
    exact Or.inl ⟨_, _, _, hr9, hs, (by rw [← hg9, upI_ne (by omega)]), rfl⟩
  · show Rch l E 27 72 _ _ _ _ (15, [some (vR 0), none, none], [vI 0], MW true J131 L)
    refine rch_run cdK72 (by decide) 6 (t' := (25, [some (vR 0), some (vI 0), none], [vI 0], MW true (upI J131 28 0 0) L)) (ps := []) rfl trivial ?_
    refine rch_br cdK72 (cd := (0 : Int) ≠ 0) (t1 := (30, [some (vR 0), some (vI 0), none], [], MW true (upI J131 28 0 0) L)) (t2 := (28, [some (vR 0), some (vI 0), none], [], MW true (upI J131 28 0 0) L)) rfl (fun c9 => absurd c9 (by decide)) (fun _ => ?_)
    refine rch_run cdK72 (by decide) 1 (t' := (29, [some (vR 0), some (vI 0), none], [vI (-1)], MW true (upI J131 28 0 0) L)) (ps := []) rfl trivial ?_
    refine rch_ret cdK72 (rt := some (vI (-1))) rfl trivial mw_c ?_
    exact Or.inr ⟨_, _, hr9, hf, rfl, rfl⟩
