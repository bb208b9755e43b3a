set_option maxRecDepth 100000 in
theorem con_X0_init_1 (l : Launch) (E : AX) : Con l E 1 0 [vR 1] W2 5 770 (fun rt w => rt = none ∧ w = W12) := by
  refine con_intro (by decide) (by decide) ?_
  show Rch l E 1 0 _ _ _ _ (0, [some (vR 1)], [], W2)
  refine rch_run rfl (by decide) 4 (t' := (7, [some (vR 1)], [vI 10, vR 1], W2)) (ps := []) rfl trivial ?_
  refine rch_new rfl (t' := (9, [some (vR 1)], [vR 2, vR 1], W3)) rfl ⟨by decide, by decide⟩ (by decide) ?_
  refine rch_run rfl (by decide) 3 (t' := (15, [some (vR 1)], [vI 10, vR 1], W4)) (ps := []) rfl trivial ?_
  refine rch_new rfl (t' := (17, [some (vR 1)], [vR 3, vR 1], W5)) rfl ⟨by decide, by decide⟩ (by decide) ?_
  refine rch_run rfl (by decide) 3 (t' := (24, [some (vR 1)], [vI 250, vR 1], W6)) (ps := []) rfl trivial ?_
  refine rch_new rfl (t' := (26, [some (vR 1)], [vR 4, vR 1], W7)) rfl ⟨by decide, by decide⟩ (by decide) ?_
  refine rch_run rfl (by decide) 3 (t' := (33, [some (vR 1)], [vI 250, vR 1], W8)) (ps := []) rfl trivial ?_
  refine rch_new rfl (t' := (35, [some (vR 1)], [vR 5, vR 1], W9)) rfl ⟨by decide, by decide⟩ (by decide) ?_
  refine rch_run rfl (by decide) 3 (t' := (42, [some (vR 1)], [vI 250, vR 1], W10)) (ps := []) rfl trivial ?_
  refine rch_new rfl (t' := (44, [some (vR 1)], [vR 6, vR 1], W11)) rfl ⟨by decide, by decide⟩ (by decide) ?_
  refine rch_run rfl (by decide) 1 (t' := (47, [some (vR 1)], [], W12)) (ps := []) rfl trivial ?_
  exact rch_ret rfl (rt := none) rfl trivial ⟨by decide, by decide⟩ ⟨rfl, rfl⟩

set_option maxRecDepth 100000 in
theorem con_X0_init_7 (l : Launch) (E : AX) : Con l E 1 0 [vR 7] W14 5 770 (fun rt w => rt = none ∧ w = W24) := by
  refine con_intro (by decide) (by decide) ?_
  show Rch l E 1 0 _ _ _ _ (0, [some (vR 7)], [], W14)
  refine rch_run rfl (by decide) 4 (t' := (7, [some (vR 7)], [vI 10, vR 7], W14)) (ps := []) rfl trivial ?_
  refine rch_new rfl (t' := (9, [some (vR 7)], [vR 8, vR 7], W15)) rfl ⟨by decide, by decide⟩ (by decide) ?_
  refine rch_run rfl (by decide) 3 (t' := (15, [some (vR 7)], [vI 10, vR 7], W16)) (ps := []) rfl trivial ?_
  refine rch_new rfl (t' := (17, [some (vR 7)], [vR 9, vR 7], W17)) rfl ⟨by decide, by decide⟩ (by decide) ?_
  refine rch_run rfl (by decide) 3 (t' := (24, [some (vR 7)], [vI 250, vR 7], W18)) (ps := []) rfl trivial ?_
  refine rch_new rfl (t' := (26, [some (vR 7)], [vR 10, vR 7], W19)) rfl ⟨by decide, by decide⟩ (by decide) ?_
  refine rch_run rfl (by decide) 3 (t' := (33, [some (vR 7)], [vI 250, vR 7], W20)) (ps := []) rfl trivial ?_
  refine rch_new rfl (t' := (35, [some (vR 7)], [vR 11, vR 7], W21)) rfl ⟨by decide, by decide⟩ (by decide) ?_
  refine rch_run rfl (by decide) 3 (t' := (42, [some (vR 7)], [vI 250, vR 7], W22)) (ps := []) rfl trivial ?_
  refine rch_new rfl (t' := (44, [some (vR 7)], [vR 12, vR 7], W23)) rfl ⟨by decide, by decide⟩ (by decide) ?_
  refine rch_run rfl (by decide) 1 (t' := (47, [some (vR 7)], [], W24)) (ps := []) rfl trivial ?_
  exact rch_ret rfl (rt := none) rfl trivial ⟨by decide, by decide⟩ ⟨rfl, rfl⟩

set_option maxRecDepth 100000 in
theorem con_X9_init_13 (l : Launch) (E : AX) : Con l E 1 56 [vR 13] W26 2 42 (fun rt w => rt = none ∧ w = W66) := by
  refine con_intro (by decide) (by decide) ?_
  show Rch l E 1 56 _ _ _ _ (0, [some (vR 13), none], [], W26)
  refine rch_run rfl (by decide) 4 (t' := (7, [some (vR 13), none], [vI 36, vR 13], W26)) (ps := []) rfl trivial ?_
  refine rch_new rfl (t' := (9, [some (vR 13), none], [vR 14, vR 13], W27)) rfl ⟨by decide, by decide⟩ (by decide) ?_
  refine rch_run rfl (by decide) 3 (t' := (15, [some (vR 13), none], [vI 6, vR 13], W28)) (ps := []) rfl trivial ?_
  refine rch_new rfl (t' := (17, [some (vR 13), none], [vR 15, vR 13], W29)) rfl ⟨by decide, by decide⟩ (by decide) ?_
  refine rch_run rfl (by decide) 7 (t' := (28, [some (vR 13), some (vI 0)], [vI 36, vI 0], W30)) (ps := []) rfl trivial ?_
  refine rch_br rfl (cd := (36 : Int) ≤ 0) (t1 := (44, [some (vR 13), some (vI 0)], [], W30)) (t2 := (31, [some (vR 13), some (vI 0)], [], W30)) rfl (fun c9 => absurd c9 (by decide)) (fun _ => ?_)
  refine rch_run rfl (by decide) 11 (t' := (28, [some (vR 13), some (vI 1)], [vI 36, vI 1], W31)) (ps := [0 ≤ 0 ∧ 0 < ((36 : Nat) : Int), i32 (0 + 1)]) rfl (by simp only [all_, i32]; decide) ?_
  refine rch_br rfl (cd := (36 : Int) ≤ 1) (t1 := (44, [some (vR 13), some (vI 1)], [], W31)) (t2 := (31, [some (vR 13), some (vI 1)], [], W31)) rfl (fun c9 => absurd c9 (by decide)) (fun _ => ?_)
  refine rch_run rfl (by decide) 11 (t' := (28, [some (vR 13), some (vI 2)], [vI 36, vI 2], W32)) (ps := [0 ≤ 1 ∧ 1 < ((36 : Nat) : Int), i32 (1 + 1)]) rfl (by simp only [all_, i32]; decide) ?_
  refine rch_br rfl (cd := (36 : Int) ≤ 2) (t1 := (44, [some (vR 13), some (vI 2)], [], W32)) (t2 := (31, [some (vR 13), some (vI 2)], [], W32)) rfl (fun c9 => absurd c9 (by decide)) (fun _ => ?_)
  refine rch_run rfl (by decide) 11 (t' := (28, [some (vR 13), some (vI 3)], [vI 36, vI 3], W33)) (ps := [0 ≤ 2 ∧ 2 < ((36 : Nat) : Int), i32 (2 + 1)]) rfl (by simp only [all_, i32]; decide) ?_
  refine rch_br rfl (cd := (36 : Int) ≤ 3) (t1 := (44, [some (vR 13), some (vI 3)], [], W33)) (t2 := (31, [some (vR 13), some (vI 3)], [], W33)) rfl (fun c9 => absurd c9 (by decide)) (fun _ => ?_)
  refine rch_run rfl (by decide) 11 (t' := (28, [some (vR 13), some (vI 4)], [vI 36, vI 4], W34)) (ps := [0 ≤ 3 ∧ 3 < ((36 : Nat) : Int), i32 (3 + 1)]) rfl (by simp only [all_, i32]; decide) ?_
  refine rch_br rfl (cd := (36 : Int) ≤ 4) (t1 := (44, [some (vR 13), some (vI 4)], [], W34)) (t2 := (31, [some (vR 13), some (vI 4)], [], W34)) rfl (fun c9 => absurd c9 (by decide)) (fun _ => ?_)
  refine rch_run rfl (by decide) 11 (t' := (28, [some (vR 13), some (vI 5)], [vI 36, vI 5], W35)) (ps := [0 ≤ 4 ∧ 4 < ((36 : Nat) : Int), i32 (4 + 1)]) rfl (by simp only [all_, i32]; decide) ?_
  refine rch_br rfl (cd := (36 : Int) ≤ 5) (t1 := (44, [some (vR 13), some (vI 5)], [], W35)) (t2 := (31, [some (vR 13), some (vI 5)], [], W35)) rfl (fun c9 => absurd c9 (by decide)) (fun _ => ?_)
  refine rch_run rfl (by decide) 11 (t' := (28, [some (vR 13), some (vI 6)], [vI 36, vI 6], W36)) (ps := [0 ≤ 5 ∧ 5 < ((36 : Nat) : Int), i32 (5 + 1)]) rfl (by simp only [all_, i32]; decide) ?_
  refine rch_br rfl (cd := (36 : Int) ≤ 6) (t1 := (44, [some (vR 13), some (vI 6)], [], W36)) (t2 := (31, [some (vR 13), some (vI 6)], [], W36)) rfl (fun c9 => absurd c9 (by decide)) (fun _ => ?_)
  refine rch_run rfl (by decide) 11 (t' := (28, [some (vR 13), some (vI 7)], [vI 36, vI 7], W37)) (ps := [0 ≤ 6 ∧ 6 < ((36 : Nat) : Int), i32 (6 + 1)]) rfl (by simp only [all_, i32]; decide) ?_
  refine rch_br rfl (cd := (36 : Int) ≤ 7) (t1 := (44, [some (vR 13), some (vI 7)], [], W37)) (t2 := (31, [some (vR 13), some (vI 7)], [], W37)) rfl (fun c9 => absurd c9 (by decide)) (fun _ => ?_)
  refine rch_run rfl (by decide) 11 (t' := (28, [some (vR 13), some (vI 8)], [vI 36, vI 8], W38)) (ps := [0 ≤ 7 ∧ 7 < ((36 : Nat) : Int), i32 (7 + 1)]) rfl (by simp only [all_, i32]; decide) ?_
  refine rch_br rfl (cd := (36 : Int) ≤ 8) (t1 := (44, [some (vR 13), some (vI 8)], [], W38)) (t2 := (31, [some (vR 13), some (vI 8)], [], W38)) rfl (fun c9 => absurd c9 (by decide)) (fun _ => ?_)
  refine rch_run rfl (by decide) 11 (t' := (28, [some (vR 13), some (vI 9)], [vI 36, vI 9], W39)) (ps := [0 ≤ 8 ∧ 8 < ((36 : Nat) : Int), i32 (8 + 1)]) rfl (by simp only [all_, i32]; decide) ?_
  refine rch_br rfl (cd := (36 : Int) ≤ 9) (t1 := (44, [some (vR 13), some (vI 9)], [], W39)) (t2 := (31, [some (vR 13), some (vI 9)], [], W39)) rfl (fun c9 => absurd c9 (by decide)) (fun _ => ?_)
  refine rch_run rfl (by decide) 11 (t' := (28, [some (vR 13), some (vI 10)], [vI 36, vI 10], W40)) (ps := [0 ≤ 9 ∧ 9 < ((36 : Nat) : Int), i32 (9 + 1)]) rfl (by simp only [all_, i32]; decide) ?_
  refine rch_br rfl (cd := (36 : Int) ≤ 10) (t1 := (44, [some (vR 13), some (vI 10)], [], W40)) (t2 := (31, [some (vR 13), some (vI 10)], [], W40)) rfl (fun c9 => absurd c9 (by decide)) (fun _ => ?_)
  refine rch_run rfl (by decide) 11 (t' := (28, [some (vR 13), some (vI 11)], [vI 36, vI 11], W41)) (ps := [0 ≤ 10 ∧ 10 < ((36 : Nat) : Int), i32 (10 + 1)]) rfl (by simp only [all_, i32]; decide) ?_
  refine rch_br rfl (cd := (36 : Int) ≤ 11) (t1 := (44, [some (vR 13), some (vI 11)], [], W41)) (t2 := (31, [some (vR 13), some (vI 11)], [], W41)) rfl (fun c9 => absurd c9 (by decide)) (fun _ => ?_)
  refine rch_run rfl (by decide) 11 (t' := (28, [some (vR 13), some (vI 12)], [vI 36, vI 12], W42)) (ps := [0 ≤ 11 ∧ 11 < ((36 : Nat) : Int), i32 (11 + 1)]) rfl (by simp only [all_, i32]; decide) ?_
  refine rch_br rfl (cd := (36 : Int) ≤ 12) (t1 := (44, [some (vR 13), some (vI 12)], [], W42)) (t2 := (31, [some (vR 13), some (vI 12)], [], W42)) rfl (fun c9 => absurd c9 (by decide)) (fun _ => ?_)
  refine rch_run rfl (by decide) 11 (t' := (28, [some (vR 13), some (vI 13)], [vI 36, vI 13], W43)) (ps := [0 ≤ 12 ∧ 12 < ((36 : Nat) : Int), i32 (12 + 1)]) rfl (by simp only [all_, i32]; decide) ?_
  refine rch_br rfl (cd := (36 : Int) ≤ 13) (t1 := (44, [some (vR 13), some (vI 13)], [], W43)) (t2 := (31, [some (vR 13), some (vI 13)], [], W43)) rfl (fun c9 => absurd c9 (by decide)) (fun _ => ?_)
  refine rch_run rfl (by decide) 11 (t' := (28, [some (vR 13), some (vI 14)], [vI 36, vI 14], W44)) (ps := [0 ≤ 13 ∧ 13 < ((36 : Nat) : Int), i32 (13 + 1)]) rfl (by simp only [all_, i32]; decide) ?_
  refine rch_br rfl (cd := (36 : Int) ≤ 14) (t1 := (44, [some (vR 13), some (vI 14)], [], W44)) (t2 := (31, [some (vR 13), some (vI 14)], [], W44)) rfl (fun c9 => absurd c9 (by decide)) (fun _ => ?_)
  refine rch_run rfl (by decide) 11 (t' := (28, [some (vR 13), some (vI 15)], [vI 36, vI 15], W45)) (ps := [0 ≤ 14 ∧ 14 < ((36 : Nat) : Int), i32 (14 + 1)]) rfl (by simp only [all_, i32]; decide) ?_
  refine rch_br rfl (cd := (36 : Int) ≤ 15) (t1 := (44, [some (vR 13), some (vI 15)], [], W45)) (t2 := (31, [some (vR 13), some (vI 15)], [], W45)) rfl (fun c9 => absurd c9 (by decide)) (fun _ => ?_)
  refine rch_run rfl (by decide) 11 (t' := (28, [some (vR 13), some (vI 16)], [vI 36, vI 16], W46)) (ps := [0 ≤ 15 ∧ 15 < ((36 : Nat) : Int), i32 (15 + 1)]) rfl (by simp only [all_, i32]; decide) ?_
  refine rch_br rfl (cd := (36 : Int) ≤ 16) (t1 := (44, [some (vR 13), some (vI 16)], [], W46)) (t2 := (31, [some (vR 13), some (vI 16)], [], W46)) rfl (fun c9 => absurd c9 (by decide)) (fun _ => ?_)
  refine rch_run rfl (by decide) 11 (t' := (28, [some (vR 13), some (vI 17)], [vI 36, vI 17], W47)) (ps := [0 ≤ 16 ∧ 16 < ((36 : Nat) : Int), i32 (16 + 1)]) rfl (by simp only [all_, i32]; decide) ?_
  refine rch_br rfl (cd := (36 : Int) ≤ 17) (t1 := (44, [some (vR 13), some (vI 17)], [], W47)) (t2 := (31, [some (vR 13), some (vI 17)], [], W47)) rfl (fun c9 => absurd c9 (by decide)) (fun _ => ?_)
  refine rch_run rfl (by decide) 11 (t' := (28, [some (vR 13), some (vI 18)], [vI 36, vI 18], W48)) (ps := [0 ≤ 17 ∧ 17 < ((36 : Nat) : Int), i32 (17 + 1)]) rfl (by simp only [all_, i32]; decide) ?_
  refine rch_br rfl (cd := (36 : Int) ≤ 18) (t1 := (44, [some (vR 13), some (vI 18)], [], W48)) (t2 := (31, [some (vR 13), some (vI 18)], [], W48)) rfl (fun c9 => absurd c9 (by decide)) (fun _ => ?_)
  refine rch_run rfl (by decide) 11 (t' := (28, [some (vR 13), some (vI 19)], [vI 36, vI 19], W49)) (ps := [0 ≤ 18 ∧ 18 < ((36 : Nat) : Int), i32 (18 + 1)]) rfl (by simp only [all_, i32]; decide) ?_
  refine rch_br rfl (cd := (36 : Int) ≤ 19) (t1 := (44, [some (vR 13), some (vI 19)], [], W49)) (t2 := (31, [some (vR 13), some (vI 19)], [], W49)) rfl (fun c9 => absurd c9 (by decide)) (fun _ => ?_)
  refine rch_run rfl (by decide) 11 (t' := (28, [some (vR 13), some (vI 20)], [vI 36, vI 20], W50)) (ps := [0 ≤ 19 ∧ 19 < ((36 : Nat) : Int), i32 (19 + 1)]) rfl (by simp only [all_, i32]; decide) ?_
  refine rch_br rfl (cd := (36 : Int) ≤ 20) (t1 := (44, [some (vR 13), some (vI 20)], [], W50)) (t2 := (31, [some (vR 13), some (vI 20)], [], W50)) rfl (fun c9 => absurd c9 (by decide)) (fun _ => ?_)
  refine rch_run rfl (by decide) 11 (t' := (28, [some (vR 13), some (vI 21)], [vI 36, vI 21], W51)) (ps := [0 ≤ 20 ∧ 20 < ((36 : Nat) : Int), i32 (20 + 1)]) rfl (by simp only [all_, i32]; decide) ?_
  refine rch_br rfl (cd := (36 : Int) ≤ 21) (t1 := (44, [some (vR 13), some (vI 21)], [], W51)) (t2 := (31, [some (vR 13), some (vI 21)], [], W51)) rfl (fun c9 => absurd c9 (by decide)) (fun _ => ?_)
  refine rch_run rfl (by decide) 11 (t' := (28, [some (vR 13), some (vI 22)], [vI 36, vI 22], W52)) (ps := [0 ≤ 21 ∧ 21 < ((36 : Nat) : Int), i32 (21 + 1)]) rfl (by simp only [all_, i32]; decide) ?_
  refine rch_br rfl (cd := (36 : Int) ≤ 22) (t1 := (44, [some (vR 13), some (vI 22)], [], W52)) (t2 := (31, [some (vR 13), some (vI 22)], [], W52)) rfl (fun c9 => absurd c9 (by decide)) (fun _ => ?_)
  refine rch_run rfl (by decide) 11 (t' := (28, [some (vR 13), some (vI 23)], [vI 36, vI 23], W53)) (ps := [0 ≤ 22 ∧ 22 < ((36 : Nat) : Int), i32 (22 + 1)]) rfl (by simp only [all_, i32]; decide) ?_
  refine rch_br rfl (cd := (36 : Int) ≤ 23) (t1 := (44, [some (vR 13), some (vI 23)], [], W53)) (t2 := (31, [some (vR 13), some (vI 23)], [], W53)) rfl (fun c9 => absurd c9 (by decide)) (fun _ => ?_)
  refine rch_run rfl (by decide) 11 (t' := (28, [some (vR 13), some (vI 24)], [vI 36, vI 24], W54)) (ps := [0 ≤ 23 ∧ 23 < ((36 : Nat) : Int), i32 (23 + 1)]) rfl (by simp only [all_, i32]; decide) ?_
  refine rch_br rfl (cd := (36 : Int) ≤ 24) (t1 := (44, [some (vR 13), some (vI 24)], [], W54)) (t2 := (31, [some (vR 13), some (vI 24)], [], W54)) rfl (fun c9 => absurd c9 (by decide)) (fun _ => ?_)
  refine rch_run rfl (by decide) 11 (t' := (28, [some (vR 13), some (vI 25)], [vI 36, vI 25], W55)) (ps := [0 ≤ 24 ∧ 24 < ((36 : Nat) : Int), i32 (24 + 1)]) rfl (by simp only [all_, i32]; decide) ?_
  refine rch_br rfl (cd := (36 : Int) ≤ 25) (t1 := (44, [some (vR 13), some (vI 25)], [], W55)) (t2 := (31, [some (vR 13), some (vI 25)], [], W55)) rfl (fun c9 => absurd c9 (by decide)) (fun _ => ?_)
  refine rch_run rfl (by decide) 11 (t' := (28, [some (vR 13), some (vI 26)], [vI 36, vI 26], W56)) (ps := [0 ≤ 25 ∧ 25 < ((36 : Nat) : Int), i32 (25 + 1)]) rfl (by simp only [all_, i32]; decide) ?_
  refine rch_br rfl (cd := (36 : Int) ≤ 26) (t1 := (44, [some (vR 13), some (vI 26)], [], W56)) (t2 := (31, [some (vR 13), some (vI 26)], [], W56)) rfl (fun c9 => absurd c9 (by decide)) (fun _ => ?_)
  refine rch_run rfl (by decide) 11 (t' := (28, [some (vR 13), some (vI 27)], [vI 36, vI 27], W57)) (ps := [0 ≤ 26 ∧ 26 < ((36 : Nat) : Int), i32 (26 + 1)]) rfl (by simp only [all_, i32]; decide) ?_
  refine rch_br rfl (cd := (36 : Int) ≤ 27) (t1 := (44, [some (vR 13), some (vI 27)], [], W57)) (t2 := (31, [some (vR 13), some (vI 27)], [], W57)) rfl (fun c9 => absurd c9 (by decide)) (fun _ => ?_)
  refine rch_run rfl (by decide) 11 (t' := (28, [some (vR 13), some (vI 28)], [vI 36, vI 28], W58)) (ps := [0 ≤ 27 ∧ 27 < ((36 : Nat) : Int), i32 (27 + 1)]) rfl (by simp only [all_, i32]; decide) ?_
  refine rch_br rfl (cd := (36 : Int) ≤ 28) (t1 := (44, [some (vR 13), some (vI 28)], [], W58)) (t2 := (31, [some (vR 13), some (vI 28)], [], W58)) rfl (fun c9 => absurd c9 (by decide)) (fun _ => ?_)
  refine rch_run rfl (by decide) 11 (t' := (28, [some (vR 13), some (vI 29)], [vI 36, vI 29], W59)) (ps := [0 ≤ 28 ∧ 28 < ((36 : Nat) : Int), i32 (28 + 1)]) rfl (by simp only [all_, i32]; decide) ?_
  refine rch_br rfl (cd := (36 : Int) ≤ 29) (t1 := (44, [some (vR 13), some (vI 29)], [], W59)) (t2 := (31, [some (vR 13), some (vI 29)], [], W59)) rfl (fun c9 => absurd c9 (by decide)) (fun _ => ?_)
  refine rch_run rfl (by decide) 11 (t' := (28, [some (vR 13), some (vI 30)], [vI 36, vI 30], W60)) (ps := [0 ≤ 29 ∧ 29 < ((36 : Nat) : Int), i32 (29 + 1)]) rfl (by simp only [all_, i32]; decide) ?_
  refine rch_br rfl (cd := (36 : Int) ≤ 30) (t1 := (44, [some (vR 13), some (vI 30)], [], W60)) (t2 := (31, [some (vR 13), some (vI 30)], [], W60)) rfl (fun c9 => absurd c9 (by decide)) (fun _ => ?_)
  refine rch_run rfl (by decide) 11 (t' := (28, [some (vR 13), some (vI 31)], [vI 36, vI 31], W61)) (ps := [0 ≤ 30 ∧ 30 < ((36 : Nat) : Int), i32 (30 + 1)]) rfl (by simp only [all_, i32]; decide) ?_
  refine rch_br rfl (cd := (36 : Int) ≤ 31) (t1 := (44, [some (vR 13), some (vI 31)], [], W61)) (t2 := (31, [some (vR 13), some (vI 31)], [], W61)) rfl (fun c9 => absurd c9 (by decide)) (fun _ => ?_)
  refine rch_run rfl (by decide) 11 (t' := (28, [some (vR 13), some (vI 32)], [vI 36, vI 32], W62)) (ps := [0 ≤ 31 ∧ 31 < ((36 : Nat) : Int), i32 (31 + 1)]) rfl (by simp only [all_, i32]; decide) ?_
  refine rch_br rfl (cd := (36 : Int) ≤ 32) (t1 := (44, [some (vR 13), some (vI 32)], [], W62)) (t2 := (31, [some (vR 13), some (vI 32)], [], W62)) rfl (fun c9 => absurd c9 (by decide)) (fun _ => ?_)
  refine rch_run rfl (by decide) 11 (t' := (28, [some (vR 13), some (vI 33)], [vI 36, vI 33], W63)) (ps := [0 ≤ 32 ∧ 32 < ((36 : Nat) : Int), i32 (32 + 1)]) rfl (by simp only [all_, i32]; decide) ?_
  refine rch_br rfl (cd := (36 : Int) ≤ 33) (t1 := (44, [some (vR 13), some (vI 33)], [], W63)) (t2 := (31, [some (vR 13), some (vI 33)], [], W63)) rfl (fun c9 => absurd c9 (by decide)) (fun _ => ?_)
  refine rch_run rfl (by decide) 11 (t' := (28, [some (vR 13), some (vI 34)], [vI 36, vI 34], W64)) (ps := [0 ≤ 33 ∧ 33 < ((36 : Nat) : Int), i32 (33 + 1)]) rfl (by simp only [all_, i32]; decide) ?_
  refine rch_br rfl (cd := (36 : Int) ≤ 34) (t1 := (44, [some (vR 13), some (vI 34)], [], W64)) (t2 := (31, [some (vR 13), some (vI 34)], [], W64)) rfl (fun c9 => absurd c9 (by decide)) (fun _ => ?_)
  refine rch_run rfl (by decide) 11 (t' := (28, [some (vR 13), some (vI 35)], [vI 36, vI 35], W65)) (ps := [0 ≤ 34 ∧ 34 < ((36 : Nat) : Int), i32 (34 + 1)]) rfl (by simp only [all_, i32]; decide) ?_
  refine rch_br rfl (cd := (36 : Int) ≤ 35) (t1 := (44, [some (vR 13), some (vI 35)], [], W65)) (t2 := (31, [some (vR 13), some (vI 35)], [], W65)) rfl (fun c9 => absurd c9 (by decide)) (fun _ => ?_)
  refine rch_run rfl (by decide) 11 (t' := (28, [some (vR 13), some (vI 36)], [vI 36, vI 36], W66)) (ps := [0 ≤ 35 ∧ 35 < ((36 : Nat) : Int), i32 (35 + 1)]) rfl (by simp only [all_, i32]; decide) ?_
  refine rch_br rfl (cd := (36 : Int) ≤ 36) (t1 := (44, [some (vR 13), some (vI 36)], [], W66)) (t2 := (31, [some (vR 13), some (vI 36)], [], W66)) rfl (fun _ => ?_) (fun c9 => absurd (by decide) c9)
  exact rch_ret rfl (rt := none) rfl trivial ⟨by decide, by decide⟩ ⟨rfl, rfl⟩

set_option maxRecDepth 100000 in
theorem con_X4_init_17 (l : Launch) (E : AX) : Con l E 1 30 [vR 17] W70 3 30 (fun rt w => rt = none ∧ w = W76) := by
  refine con_intro (by decide) (by decide) ?_
  show Rch l E 1 30 _ _ _ _ (0, [some (vR 17)], [], W70)
  refine rch_run rfl (by decide) 4 (t' := (7, [some (vR 17)], [vI 10, vR 17], W70)) (ps := []) rfl trivial ?_
  refine rch_new rfl (t' := (9, [some (vR 17)], [vR 18, vR 17], W71)) rfl ⟨by decide, by decide⟩ (by decide) ?_
  refine rch_run rfl (by decide) 3 (t' := (15, [some (vR 17)], [vI 10, vR 17], W72)) (ps := []) rfl trivial ?_
  refine rch_new rfl (t' := (17, [some (vR 17)], [vR 19, vR 17], W73)) rfl ⟨by decide, by decide⟩ (by decide) ?_
  refine rch_run rfl (by decide) 3 (t' := (23, [some (vR 17)], [vI 10, vR 17], W74)) (ps := []) rfl trivial ?_
  refine rch_new rfl (t' := (25, [some (vR 17)], [vR 20, vR 17], W75)) rfl ⟨by decide, by decide⟩ (by decide) ?_
  refine rch_run rfl (by decide) 1 (t' := (28, [some (vR 17)], [], W76)) (ps := []) rfl trivial ?_
  exact rch_ret rfl (rt := none) rfl trivial ⟨by decide, by decide⟩ ⟨rfl, rfl⟩

set_option maxRecDepth 100000 in
theorem con_X7_init_21 (l : Launch) (E : AX) : Con l E 1 46 [vR 21] W78 6 900 (fun rt w => rt = none ∧ w = W90) := by
  refine con_intro (by decide) (by decide) ?_
  show Rch l E 1 46 _ _ _ _ (0, [some (vR 21)], [], W78)
  refine rch_run rfl (by decide) 4 (t' := (8, [some (vR 21)], [vI 150, vR 21], W78)) (ps := []) rfl trivial ?_
  refine rch_new rfl (t' := (10, [some (vR 21)], [vR 22, vR 21], W79)) rfl ⟨by decide, by decide⟩ (by decide) ?_
  refine rch_run rfl (by decide) 3 (t' := (17, [some (vR 21)], [vI 150, vR 21], W80)) (ps := []) rfl trivial ?_
  refine rch_new rfl (t' := (19, [some (vR 21)], [vR 23, vR 21], W81)) rfl ⟨by decide, by decide⟩ (by decide) ?_
  refine rch_run rfl (by decide) 3 (t' := (26, [some (vR 21)], [vI 150, vR 21], W82)) (ps := []) rfl trivial ?_
  refine rch_new rfl (t' := (28, [some (vR 21)], [vR 24, vR 21], W83)) rfl ⟨by decide, by decide⟩ (by decide) ?_
  refine rch_run rfl (by decide) 3 (t' := (35, [some (vR 21)], [vI 150, vR 21], W84)) (ps := []) rfl trivial ?_
  refine rch_new rfl (t' := (37, [some (vR 21)], [vR 25, vR 21], W85)) rfl ⟨by decide, by decide⟩ (by decide) ?_
  refine rch_run rfl (by decide) 3 (t' := (44, [some (vR 21)], [vI 150, vR 21], W86)) (ps := []) rfl trivial ?_
  refine rch_new rfl (t' := (46, [some (vR 21)], [vR 26, vR 21], W87)) rfl ⟨by decide, by decide⟩ (by decide) ?_
  refine rch_run rfl (by decide) 3 (t' := (53, [some (vR 21)], [vI 150, vR 21], W88)) (ps := []) rfl trivial ?_
  refine rch_new rfl (t' := (55, [some (vR 21)], [vR 27, vR 21], W89)) rfl ⟨by decide, by decide⟩ (by decide) ?_
  refine rch_run rfl (by decide) 1 (t' := (58, [some (vR 21)], [], W90)) (ps := []) rfl trivial ?_
  exact rch_ret rfl (rt := none) rfl trivial ⟨by decide, by decide⟩ ⟨rfl, rfl⟩

set_option maxRecDepth 100000 in
theorem con_X6_init_28 (l : Launch) (E : AX) : Con l E 1 38 [vR 28] W92 2 1000 (fun rt w => rt = none ∧ w = W96) := by
  refine con_intro (by decide) (by decide) ?_
  show Rch l E 1 38 _ _ _ _ (0, [some (vR 28)], [], W92)
  refine rch_run rfl (by decide) 4 (t' := (8, [some (vR 28)], [vI 500, vR 28], W92)) (ps := []) rfl trivial ?_
  refine rch_new rfl (t' := (10, [some (vR 28)], [vR 29, vR 28], W93)) rfl ⟨by decide, by decide⟩ (by decide) ?_
  refine rch_run rfl (by decide) 3 (t' := (17, [some (vR 28)], [vI 500, vR 28], W94)) (ps := []) rfl trivial ?_
  refine rch_new rfl (t' := (19, [some (vR 28)], [vR 30, vR 28], W95)) rfl ⟨by decide, by decide⟩ (by decide) ?_
  refine rch_run rfl (by decide) 1 (t' := (22, [some (vR 28)], [], W96)) (ps := []) rfl trivial ?_
  exact rch_ret rfl (rt := none) rfl trivial ⟨by decide, by decide⟩ ⟨rfl, rfl⟩

set_option maxRecDepth 100000 in
theorem con_X2_init_31 (l : Launch) (E : AX) : Con l E 1 11 [vR 31] W98 0 0 (fun rt w => rt = none ∧ w = W99) := by
  refine con_intro (by decide) (by decide) ?_
  show Rch l E 1 11 _ _ _ _ (0, [some (vR 31)], [], W98)
  refine rch_run rfl (by decide) 5 (t' := (9, [some (vR 31)], [], W99)) (ps := []) rfl trivial ?_
  exact rch_ret rfl (rt := none) rfl trivial ⟨by decide, by decide⟩ ⟨rfl, rfl⟩

set_option maxRecDepth 100000 in
theorem con_X1_init_32 (l : Launch) (E : AX) : Con l E 1 7 [vR 32, vI 20] W101 5 100 (fun rt w => rt = none ∧ w = W111) := by
  refine con_intro (by decide) (by decide) ?_
  show Rch l E 1 7 _ _ _ _ (0, [some (vR 32), some (vI 20), none], [], W101)
  refine rch_run rfl (by decide) 8 (t' := (12, [some (vR 32), some (vI 20), some (vI 20)], [vI 20, vR 32], W101)) (ps := []) rfl trivial ?_
  refine rch_new rfl (t' := (14, [some (vR 32), some (vI 20), some (vI 20)], [vR 33, vR 32], W102)) rfl ⟨by decide, by decide⟩ (by decide) ?_
  refine rch_run rfl (by decide) 3 (t' := (19, [some (vR 32), some (vI 20), some (vI 20)], [vI 20, vR 32], W103)) (ps := []) rfl trivial ?_
  refine rch_new rfl (t' := (21, [some (vR 32), some (vI 20), some (vI 20)], [vR 34, vR 32], W104)) rfl ⟨by decide, by decide⟩ (by decide) ?_
  refine rch_run rfl (by decide) 3 (t' := (26, [some (vR 32), some (vI 20), some (vI 20)], [vI 20, vR 32], W105)) (ps := []) rfl trivial ?_
  refine rch_new rfl (t' := (28, [some (vR 32), some (vI 20), some (vI 20)], [vR 35, vR 32], W106)) rfl ⟨by decide, by decide⟩ (by decide) ?_
  refine rch_run rfl (by decide) 3 (t' := (33, [some (vR 32), some (vI 20), some (vI 20)], [vI 20, vR 32], W107)) (ps := []) rfl trivial ?_
  refine rch_new rfl (t' := (35, [some (vR 32), some (vI 20), some (vI 20)], [vR 36, vR 32], W108)) rfl ⟨by decide, by decide⟩ (by decide) ?_
  refine rch_run rfl (by decide) 3 (t' := (40, [some (vR 32), some (vI 20), some (vI 20)], [vI 20, vR 32], W109)) (ps := []) rfl trivial ?_
  refine rch_new rfl (t' := (42, [some (vR 32), some (vI 20), some (vI 20)], [vR 37, vR 32], W110)) rfl ⟨by decide, by decide⟩ (by decide) ?_
  refine rch_run rfl (by decide) 1 (t' := (45, [some (vR 32), some (vI 20), some (vI 20)], [], W111)) (ps := []) rfl trivial ?_
  exact rch_ret rfl (rt := none) rfl trivial ⟨by decide, by decide⟩ ⟨rfl, rfl⟩

set_option maxRecDepth 100000 in
theorem con_X1_init_38 (l : Launch) (E : AX) : Con l E 1 7 [vR 38, vI 20] W113 5 100 (fun rt w => rt = none ∧ w = W123) := by
  refine con_intro (by decide) (by decide) ?_
  show Rch l E 1 7 _ _ _ _ (0, [some (vR 38), some (vI 20), none], [], W113)
  refine rch_run rfl (by decide) 8 (t' := (12, [some (vR 38), some (vI 20), some (vI 20)], [vI 20, vR 38], W113)) (ps := []) rfl trivial ?_
  refine rch_new rfl (t' := (14, [some (vR 38), some (vI 20), some (vI 20)], [vR 39, vR 38], W114)) rfl ⟨by decide, by decide⟩ (by decide) ?_
  refine rch_run rfl (by decide) 3 (t' := (19, [some (vR 38), some (vI 20), some (vI 20)], [vI 20, vR 38], W115)) (ps := []) rfl trivial ?_
  refine rch_new rfl (t' := (21, [some (vR 38), some (vI 20), some (vI 20)], [vR 40, vR 38], W116)) rfl ⟨by decide, by decide⟩ (by decide) ?_
  refine rch_run rfl (by decide) 3 (t' := (26, [some (vR 38), some (vI 20), some (vI 20)], [vI 20, vR 38], W117)) (ps := []) rfl trivial ?_
  refine rch_new rfl (t' := (28, [some (vR 38), some (vI 20), some (vI 20)], [vR 41, vR 38], W118)) rfl ⟨by decide, by decide⟩ (by decide) ?_
  refine rch_run rfl (by decide) 3 (t' := (33, [some (vR 38), some (vI 20), some (vI 20)], [vI 20, vR 38], W119)) (ps := []) rfl trivial ?_
  refine rch_new rfl (t' := (35, [some (vR 38), some (vI 20), some (vI 20)], [vR 42, vR 38], W120)) rfl ⟨by decide, by decide⟩ (by decide) ?_
  refine rch_run rfl (by decide) 3 (t' := (40, [some (vR 38), some (vI 20), some (vI 20)], [vI 20, vR 38], W121)) (ps := []) rfl trivial ?_
  refine rch_new rfl (t' := (42, [some (vR 38), some (vI 20), some (vI 20)], [vR 43, vR 38], W122)) rfl ⟨by decide, by decide⟩ (by decide) ?_
  refine rch_run rfl (by decide) 1 (t' := (45, [some (vR 38), some (vI 20), some (vI 20)], [], W123)) (ps := []) rfl trivial ?_
  exact rch_ret rfl (rt := none) rfl trivial ⟨by decide, by decide⟩ ⟨rfl, rfl⟩

set_option maxRecDepth 100000 in
theorem con_X5_init_44 (l : Launch) (E : AX) : Con l E 1 33 [vR 44] W125 4 190 (fun rt w => rt = none ∧ w = W133) := by
  refine con_intro (by decide) (by decide) ?_
  show Rch l E 1 33 _ _ _ _ (0, [some (vR 44)], [], W125)
  refine rch_run rfl (by decide) 4 (t' := (7, [some (vR 44)], [vI 10, vR 44], W125)) (ps := []) rfl trivial ?_
  refine rch_new rfl (t' := (9, [some (vR 44)], [vR 45, vR 44], W126)) rfl ⟨by decide, by decide⟩ (by decide) ?_
  refine rch_run rfl (by decide) 3 (t' := (15, [some (vR 44)], [vI 60, vR 44], W127)) (ps := []) rfl trivial ?_
  refine rch_new rfl (t' := (17, [some (vR 44)], [vR 46, vR 44], W128)) rfl ⟨by decide, by decide⟩ (by decide) ?_
  refine rch_run rfl (by decide) 3 (t' := (23, [some (vR 44)], [vI 60, vR 44], W129)) (ps := []) rfl trivial ?_
  refine rch_new rfl (t' := (25, [some (vR 44)], [vR 47, vR 44], W130)) rfl ⟨by decide, by decide⟩ (by decide) ?_
  refine rch_run rfl (by decide) 3 (t' := (31, [some (vR 44)], [vI 60, vR 44], W131)) (ps := []) rfl trivial ?_
  refine rch_new rfl (t' := (33, [some (vR 44)], [vR 48, vR 44], W132)) rfl ⟨by decide, by decide⟩ (by decide) ?_
  refine rch_run rfl (by decide) 1 (t' := (36, [some (vR 44)], [], W133)) (ps := []) rfl trivial ?_
  exact rch_ret rfl (rt := none) rfl trivial ⟨by decide, by decide⟩ ⟨rfl, rfl⟩

set_option maxRecDepth 100000 in
theorem con_X3_init_49 (l : Launch) (E : AX) : Con l E 1 19 [vR 49] W135 11 3734 (fun rt w => rt = none ∧ w = W157) := by
  refine con_intro (by decide) (by decide) ?_
  show Rch l E 1 19 _ _ _ _ (0, [some (vR 49)], [], W135)
  refine rch_run rfl (by decide) 4 (t' := (7, [some (vR 49)], [vI 10, vR 49], W135)) (ps := []) rfl trivial ?_
  refine rch_new rfl (t' := (9, [some (vR 49)], [vR 50, vR 49], W136)) rfl ⟨by decide, by decide⟩ (by decide) ?_
  refine rch_run rfl (by decide) 3 (t' := (15, [some (vR 49)], [vI 10, vR 49], W137)) (ps := []) rfl trivial ?_
  refine rch_new rfl (t' := (17, [some (vR 49)], [vR 51, vR 49], W138)) rfl ⟨by decide, by decide⟩ (by decide) ?_
  refine rch_run rfl (by decide) 3 (t' := (23, [some (vR 49)], [vI 10, vR 49], W139)) (ps := []) rfl trivial ?_
  refine rch_new rfl (t' := (25, [some (vR 49)], [vR 52, vR 49], W140)) rfl ⟨by decide, by decide⟩ (by decide) ?_
  refine rch_run rfl (by decide) 3 (t' := (31, [some (vR 49)], [vI 100, vR 49], W141)) (ps := []) rfl trivial ?_
  refine rch_new rfl (t' := (33, [some (vR 49)], [vR 53, vR 49], W142)) rfl ⟨by decide, by decide⟩ (by decide) ?_
  refine rch_run rfl (by decide) 3 (t' := (39, [some (vR 49)], [vI 10, vR 49], W143)) (ps := []) rfl trivial ?_
  refine rch_new rfl (t' := (41, [some (vR 49)], [vR 54, vR 49], W144)) rfl ⟨by decide, by decide⟩ (by decide) ?_
  refine rch_run rfl (by decide) 3 (t' := (47, [some (vR 49)], [vI 10, vR 49], W145)) (ps := []) rfl trivial ?_
  refine rch_new rfl (t' := (49, [some (vR 49)], [vR 55, vR 49], W146)) rfl ⟨by decide, by decide⟩ (by decide) ?_
  refine rch_run rfl (by decide) 3 (t' := (56, [some (vR 49)], [vI 512, vR 49], W147)) (ps := []) rfl trivial ?_
  refine rch_new rfl (t' := (58, [some (vR 49)], [vR 56, vR 49], W148)) rfl ⟨by decide, by decide⟩ (by decide) ?_
  refine rch_run rfl (by decide) 3 (t' := (65, [some (vR 49)], [vI 1024, vR 49], W149)) (ps := []) rfl trivial ?_
  refine rch_new rfl (t' := (67, [some (vR 49)], [vR 57, vR 49], W150)) rfl ⟨by decide, by decide⟩ (by decide) ?_
  refine rch_run rfl (by decide) 3 (t' := (74, [some (vR 49)], [vI 1024, vR 49], W151)) (ps := []) rfl trivial ?_
  refine rch_new rfl (t' := (76, [some (vR 49)], [vR 58, vR 49], W152)) rfl ⟨by decide, by decide⟩ (by decide) ?_
  refine rch_run rfl (by decide) 3 (t' := (83, [some (vR 49)], [vI 512, vR 49], W153)) (ps := []) rfl trivial ?_
  refine rch_new rfl (t' := (85, [some (vR 49)], [vR 59, vR 49], W154)) rfl ⟨by decide, by decide⟩ (by decide) ?_
  refine rch_run rfl (by decide) 3 (t' := (92, [some (vR 49)], [vI 512, vR 49], W155)) (ps := []) rfl trivial ?_
  refine rch_new rfl (t' := (94, [some (vR 49)], [vR 60, vR 49], W156)) rfl ⟨by decide, by decide⟩ (by decide) ?_
  refine rch_run rfl (by decide) 1 (t' := (97, [some (vR 49)], [], W157)) (ps := []) rfl trivial ?_
  exact rch_ret rfl (rt := none) rfl trivial ⟨by decide, by decide⟩ ⟨rfl, rfl⟩

set_option maxRecDepth 100000 in
theorem con_X8_init_61 (l : Launch) (E : AX) : Con l E 1 48 [vR 61] W159 4 40 (fun rt w => rt = none ∧ w = W167) := by
  refine con_intro (by decide) (by decide) ?_
  show Rch l E 1 48 _ _ _ _ (0, [some (vR 61)], [], W159)
  refine rch_run rfl (by decide) 4 (t' := (7, [some (vR 61)], [vI 10, vR 61], W159)) (ps := []) rfl trivial ?_
  refine rch_new rfl (t' := (9, [some (vR 61)], [vR 62, vR 61], W160)) rfl ⟨by decide, by decide⟩ (by decide) ?_
  refine rch_run rfl (by decide) 3 (t' := (15, [some (vR 61)], [vI 10, vR 61], W161)) (ps := []) rfl trivial ?_
  refine rch_new rfl (t' := (17, [some (vR 61)], [vR 63, vR 61], W162)) rfl ⟨by decide, by decide⟩ (by decide) ?_
  refine rch_run rfl (by decide) 3 (t' := (23, [some (vR 61)], [vI 10, vR 61], W163)) (ps := []) rfl trivial ?_
  refine rch_new rfl (t' := (25, [some (vR 61)], [vR 64, vR 61], W164)) rfl ⟨by decide, by decide⟩ (by decide) ?_
  refine rch_run rfl (by decide) 3 (t' := (31, [some (vR 61)], [vI 10, vR 61], W165)) (ps := []) rfl trivial ?_
  refine rch_new rfl (t' := (33, [some (vR 61)], [vR 65, vR 61], W166)) rfl ⟨by decide, by decide⟩ (by decide) ?_
  refine rch_run rfl (by decide) 1 (t' := (36, [some (vR 61)], [], W167)) (ps := []) rfl trivial ?_
  exact rch_ret rfl (rt := none) rfl trivial ⟨by decide, by decide⟩ ⟨rfl, rfl⟩

set_option maxRecDepth 100000 in
theorem con_X10_init_66 (l : Launch) (E : AX) : Con l E 1 58 [vR 66, vI 60] W169 3 180 (fun rt w => rt = none ∧ w = W175) := by
  refine con_intro (by decide) (by decide) ?_
  show Rch l E 1 58 _ _ _ _ (0, [some (vR 66), some (vI 60), none], [], W169)
  refine rch_run rfl (by decide) 8 (t' := (12, [some (vR 66), some (vI 60), some (vI 60)], [vI 60, vR 66], W169)) (ps := []) rfl trivial ?_
  refine rch_new rfl (t' := (14, [some (vR 66), some (vI 60), some (vI 60)], [vR 67, vR 66], W170)) rfl ⟨by decide, by decide⟩ (by decide) ?_
  refine rch_run rfl (by decide) 3 (t' := (19, [some (vR 66), some (vI 60), some (vI 60)], [vI 60, vR 66], W171)) (ps := []) rfl trivial ?_
  refine rch_new rfl (t' := (21, [some (vR 66), some (vI 60), some (vI 60)], [vR 68, vR 66], W172)) rfl ⟨by decide, by decide⟩ (by decide) ?_
  refine rch_run rfl (by decide) 3 (t' := (26, [some (vR 66), some (vI 60), some (vI 60)], [vI 60, vR 66], W173)) (ps := []) rfl trivial ?_
  refine rch_new rfl (t' := (28, [some (vR 66), some (vI 60), some (vI 60)], [vR 69, vR 66], W174)) rfl ⟨by decide, by decide⟩ (by decide) ?_
  refine rch_run rfl (by decide) 1 (t' := (31, [some (vR 66), some (vI 60), some (vI 60)], [], W175)) (ps := []) rfl trivial ?_
  exact rch_ret rfl (rt := none) rfl trivial ⟨by decide, by decide⟩ ⟨rfl, rfl⟩

set_option maxRecDepth 100000 in
theorem con_X10_init_70 (l : Launch) (E : AX) : Con l E 1 58 [vR 70, vI 60] W177 3 180 (fun rt w => rt = none ∧ w = W183) := by
  refine con_intro (by decide) (by decide) ?_
  show Rch l E 1 58 _ _ _ _ (0, [some (vR 70), some (vI 60), none], [], W177)
  refine rch_run rfl (by decide) 8 (t' := (12, [some (vR 70), some (vI 60), some (vI 60)], [vI 60, vR 70], W177)) (ps := []) rfl trivial ?_
  refine rch_new rfl (t' := (14, [some (vR 70), some (vI 60), some (vI 60)], [vR 71, vR 70], W178)) rfl ⟨by decide, by decide⟩ (by decide) ?_
  refine rch_run rfl (by decide) 3 (t' := (19, [some (vR 70), some (vI 60), some (vI 60)], [vI 60, vR 70], W179)) (ps := []) rfl trivial ?_
  refine rch_new rfl (t' := (21, [some (vR 70), some (vI 60), some (vI 60)], [vR 72, vR 70], W180)) rfl ⟨by decide, by decide⟩ (by decide) ?_
  refine rch_run rfl (by decide) 3 (t' := (26, [some (vR 70), some (vI 60), some (vI 60)], [vI 60, vR 70], W181)) (ps := []) rfl trivial ?_
  refine rch_new rfl (t' := (28, [some (vR 70), some (vI 60), some (vI 60)], [vR 73, vR 70], W182)) rfl ⟨by decide, by decide⟩ (by decide) ?_
  refine rch_run rfl (by decide) 1 (t' := (31, [some (vR 70), some (vI 60), some (vI 60)], [], W183)) (ps := []) rfl trivial ?_
  exact rch_ret rfl (rt := none) rfl trivial ⟨by decide, by decide⟩ ⟨rfl, rfl⟩
