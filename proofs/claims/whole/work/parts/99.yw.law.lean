set_option maxHeartbeats 20000000 in
set_option maxRecDepth 100000 in
theorem lw_step (l : Launch) (E : AX) (b : Bool) (I L : Nat → Nat → Int) (i : Int) (hi : 0 ≤ i ∧ i ≤ (E.1 : Int)) (hE : E.1 ≤ 3072) (hk : Rch l E 1000 174 wE 129 14022 PhiL (18, [some (vR 1000), some (vR 0), some (vR 74), some (vI (i + 6))], [], MW b I L)) : Rch l E 1000 174 wE 129 14022 PhiL (1190, [some (vR 1000), some (vR 0), some (vR 74), some (vI i)], [], MW b I L) := by
  refine rch_run cdK174 (by decide) 2 (t' := (18, [some (vR 1000), some (vR 0), some (vR 74), some (vI (i + 6))], [], MW b I L)) (ps := [i32 (i + 6)]) rfl (by simp only [all_, i32, i64]; first | omega | (simp; done) | (simp; omega)) ?_
  exact hk

set_option maxHeartbeats 20000000 in
set_option maxRecDepth 100000 in
theorem lw_loop (l : Launch) (E : AX) (hE : E.1 ≤ 3072) : ∀ (n9 : Nat) (i : Int) (b : Bool) (I L : Nat → Nat → Int), Inv (bkb b) I → 0 ≤ i ∧ i ≤ (E.1 : Int) → (E.1 : Int) - i < (n9 : Int) → Rch l E 1000 174 wE 129 14022 PhiL (18, [some (vR 1000), some (vR 0), some (vR 74), some (vI i)], [], MW b I L) := by
  intro n9
  induction n9 with
  | zero =>
    intro i b I L h1 h2 hm
    exfalso; omega
  | succ n9 ih =>
    intro i b I L h1 h2 hm
    refine rch_run cdK174 (by decide) 5 (t' := (24, [some (vR 1000), some (vR 0), some (vR 74), some (vI i)], [vI ((E.1 : Int) - 6), vI i], MW b I L)) (ps := [E.1 < 100000, i32 ((E.1 : Int) - 6)]) rfl (by simp only [all_, i32, i64]; first | omega | (simp; done) | (simp; omega)) ?_
    refine rch_br cdK174 (cd := (E.1 : Int) - 6 < i) (t1 := (1196, [some (vR 1000), some (vR 0), some (vR 74), some (vI i)], [], MW b I L)) (t2 := (27, [some (vR 1000), some (vR 0), some (vR 74), some (vI i)], [], MW b I L)) rfl (fun c24_1 => ?_) (fun c24_1 => ?_)
    · refine rch_run cdK174 (by decide) 1 (t' := (1197, [some (vR 1000), some (vR 0), some (vR 74), some (vI i)], [vI 1], MW b I L)) (ps := []) rfl trivial ?_
      refine rch_ret cdK174 (rt := some (vI 1)) rfl (Or.inr rfl) mw_cL ?_
      exact rfl
    · refine rch_run cdK174 (by decide) 5 (t' := (33, [some (vR 1000), some (vR 0), some (vR 74), some (vI i)], [vI (bAnd ((E.2 i.toNat).toInt) 31)], MW b I L)) (ps := [0 ≤ i ∧ i < (E.1 : Int)]) rfl (by simp only [all_, i32, i64]; first | omega | (simp; done) | (simp; omega)) ?_
      refine rch_tsw (e := (33, .tableswitch 1157 0 27 #[127, 170, 203, 236, 259, 312, 365, 388, 411, 474, 497, 510, 533, 586, 645, 668, 701, 734, 777, 830, 883, 936, 979, 1002, 1025, 1068, 1101, 1134], 127, 0, 0, 0)) (d := 1157) (lo := 0) (hi := 27) (offs := #[127, 170, 203, 236, 259, 312, 365, 388, 411, 474, 497, 510, 533, 586, 645, 668, 701, 734, 777, 830, 883, 936, 979, 1002, 1025, 1068, 1101, 1134]) cdK174 rfl rfl (by decide) (by decide) (fun c33_2 => ?_) (fun n9 off9 c33_2 ho9 => ?_)
      · show Rch l E 1000 174 _ _ _ _ (1190, [some (vR 1000), some (vR 0), some (vR 74), some (vI i)], [], MW b I L)
        exact lw_step l E b I L i (by omega) hE (ih (i + 6) b I L h1 (by omega) (by omega))
      · match n9, c33_2, ho9 with
        | 0, c33_2, ho9 =>
          have c33_2 : bAnd ((E.2 i.toNat).toInt) 31 = 0 := by simpa using c33_2
          have ho9 : some (127 : Int) = some off9 := ho9
          cases ho9
          refine ⟨by decide, ?_⟩
          show Rch l E 1000 174 _ _ _ _ (160, [some (vR 1000), some (vR 0), some (vR 74), some (vI i)], [], MW b I L)
          exact cs_trust l E b I L i (by omega) hE h1 (fun b J M hJ => lw_step l E b J M i (by omega) hE (ih (i + 6) b J M hJ (by omega) (by omega)))
        | 1, c33_2, ho9 =>
          have c33_2 : bAnd ((E.2 i.toNat).toInt) 31 = 1 := by simpa using c33_2
          have ho9 : some (170 : Int) = some off9 := ho9
          cases ho9
          refine ⟨by decide, ?_⟩
          show Rch l E 1000 174 _ _ _ _ (203, [some (vR 1000), some (vR 0), some (vR 74), some (vI i)], [], MW b I L)
          exact cs_fade l E b I L i (by omega) hE h1 (fun b J M hJ => lw_step l E b J M i (by omega) hE (ih (i + 6) b J M hJ (by omega) (by omega)))
        | 2, c33_2, ho9 =>
          have c33_2 : bAnd ((E.2 i.toNat).toInt) 31 = 2 := by simpa using c33_2
          have ho9 : some (203 : Int) = some off9 := ho9
          cases ho9
          refine ⟨by decide, ?_⟩
          show Rch l E 1000 174 _ _ _ _ (236, [some (vR 1000), some (vR 0), some (vR 74), some (vI i)], [], MW b I L)
          exact cs_rights l E b I L i (by omega) hE h1 (fun b J M hJ => lw_step l E b J M i (by omega) hE (ih (i + 6) b J M hJ (by omega) (by omega)))
        | 3, c33_2, ho9 =>
          have c33_2 : bAnd ((E.2 i.toNat).toInt) 31 = 3 := by simpa using c33_2
          have ho9 : some (236 : Int) = some off9 := ho9
          cases ho9
          refine ⟨by decide, ?_⟩
          show Rch l E 1000 174 _ _ _ _ (269, [some (vR 1000), some (vR 0), some (vR 74), some (vI i)], [], MW b I L)
          exact cs_row l E b I L i (by omega) hE h1 (fun b J M hJ => lw_step l E b J M i (by omega) hE (ih (i + 6) b J M hJ (by omega) (by omega)))
        | 4, c33_2, ho9 =>
          have c33_2 : bAnd ((E.2 i.toNat).toInt) 31 = 4 := by simpa using c33_2
          have ho9 : some (259 : Int) = some off9 := ho9
          cases ho9
          refine ⟨by decide, ?_⟩
          show Rch l E 1000 174 _ _ _ _ (292, [some (vR 1000), some (vR 0), some (vR 74), some (vI i)], [], MW b I L)
          exact cs_set l E b I L i (by omega) hE h1 (fun b J M hJ => lw_step l E b J M i (by omega) hE (ih (i + 6) b J M hJ (by omega) (by omega)))
        | 5, c33_2, ho9 =>
          have c33_2 : bAnd ((E.2 i.toNat).toInt) 31 = 5 := by simpa using c33_2
          have ho9 : some (312 : Int) = some off9 := ho9
          cases ho9
          refine ⟨by decide, ?_⟩
          show Rch l E 1000 174 _ _ _ _ (345, [some (vR 1000), some (vR 0), some (vR 74), some (vI i)], [], MW b I L)
          exact cs_value l E b I L i (by omega) hE h1 (fun b J M hJ => lw_step l E b J M i (by omega) hE (ih (i + 6) b J M hJ (by omega) (by omega)))
        | 6, c33_2, ho9 =>
          have c33_2 : bAnd ((E.2 i.toNat).toInt) 31 = 6 := by simpa using c33_2
          have ho9 : some (365 : Int) = some off9 := ho9
          cases ho9
          refine ⟨by decide, ?_⟩
          show Rch l E 1000 174 _ _ _ _ (398, [some (vR 1000), some (vR 0), some (vR 74), some (vI i)], [], MW b I L)
          exact cs_forget l E b I L i (by omega) hE h1 (fun b J M hJ => lw_step l E b J M i (by omega) hE (ih (i + 6) b J M hJ (by omega) (by omega)))
        | 7, c33_2, ho9 =>
          have c33_2 : bAnd ((E.2 i.toNat).toInt) 31 = 7 := by simpa using c33_2
          have ho9 : some (388 : Int) = some off9 := ho9
          cases ho9
          refine ⟨by decide, ?_⟩
          show Rch l E 1000 174 _ _ _ _ (421, [some (vR 1000), some (vR 0), some (vR 74), some (vI i)], [], MW b I L)
          exact cs_later l E b I L i (by omega) hE h1 (fun b J M hJ => lw_step l E b J M i (by omega) hE (ih (i + 6) b J M hJ (by omega) (by omega)))
        | 8, c33_2, ho9 =>
          have c33_2 : bAnd ((E.2 i.toNat).toInt) 31 = 8 := by simpa using c33_2
          have ho9 : some (411 : Int) = some off9 := ho9
          cases ho9
          refine ⟨by decide, ?_⟩
          show Rch l E 1000 174 _ _ _ _ (444, [some (vR 1000), some (vR 0), some (vR 74), some (vI i)], [], MW b I L)
          exact cs_feed l E b I L i (by omega) hE h1 (fun b J M hJ => lw_step l E b J M i (by omega) hE (ih (i + 6) b J M hJ (by omega) (by omega)))
        | 9, c33_2, ho9 =>
          have c33_2 : bAnd ((E.2 i.toNat).toInt) 31 = 9 := by simpa using c33_2
          have ho9 : some (474 : Int) = some off9 := ho9
          cases ho9
          refine ⟨by decide, ?_⟩
          show Rch l E 1000 174 _ _ _ _ (507, [some (vR 1000), some (vR 0), some (vR 74), some (vI i)], [], MW b I L)
          exact cs_end l E b I L i (by omega) hE h1 (fun b J M hJ => lw_step l E b J M i (by omega) hE (ih (i + 6) b J M hJ (by omega) (by omega)))
        | 10, c33_2, ho9 =>
          have c33_2 : bAnd ((E.2 i.toNat).toInt) 31 = 10 := by simpa using c33_2
          have ho9 : some (497 : Int) = some off9 := ho9
          cases ho9
          refine ⟨by decide, ?_⟩
          show Rch l E 1000 174 _ _ _ _ (530, [some (vR 1000), some (vR 0), some (vR 74), some (vI i)], [], MW b I L)
          exact cs_rules l E b I L i (by omega) hE h1 (fun b J M hJ => lw_step l E b J M i (by omega) hE (ih (i + 6) b J M hJ (by omega) (by omega)))
        | 11, c33_2, ho9 =>
          have c33_2 : bAnd ((E.2 i.toNat).toInt) 31 = 11 := by simpa using c33_2
          have ho9 : some (510 : Int) = some off9 := ho9
          cases ho9
          refine ⟨by decide, ?_⟩
          show Rch l E 1000 174 _ _ _ _ (543, [some (vR 1000), some (vR 0), some (vR 74), some (vI i)], [], MW b I L)
          exact cs_fault l E b I L i (by omega) hE h1 (fun b J M hJ => lw_step l E b J M i (by omega) hE (ih (i + 6) b J M hJ (by omega) (by omega)))
        | 12, c33_2, ho9 =>
          have c33_2 : bAnd ((E.2 i.toNat).toInt) 31 = 12 := by simpa using c33_2
          have ho9 : some (533 : Int) = some off9 := ho9
          cases ho9
          refine ⟨by decide, ?_⟩
          show Rch l E 1000 174 _ _ _ _ (566, [some (vR 1000), some (vR 0), some (vR 74), some (vI i)], [], MW b I L)
          exact cs_score l E b I L i (by omega) hE h1 (fun b J M hJ => lw_step l E b J M i (by omega) hE (ih (i + 6) b J M hJ (by omega) (by omega)))
        | 13, c33_2, ho9 =>
          have c33_2 : bAnd ((E.2 i.toNat).toInt) 31 = 13 := by simpa using c33_2
          have ho9 : some (586 : Int) = some off9 := ho9
          cases ho9
          refine ⟨by decide, ?_⟩
          show Rch l E 1000 174 _ _ _ _ (619, [some (vR 1000), some (vR 0), some (vR 74), some (vI i)], [], MW b I L)
          exact cs_hand l E b I L i (by omega) hE h1 (fun b J M hJ => lw_step l E b J M i (by omega) hE (ih (i + 6) b J M hJ (by omega) (by omega)))
        | 14, c33_2, ho9 =>
          have c33_2 : bAnd ((E.2 i.toNat).toInt) 31 = 14 := by simpa using c33_2
          have ho9 : some (645 : Int) = some off9 := ho9
          cases ho9
          refine ⟨by decide, ?_⟩
          show Rch l E 1000 174 _ _ _ _ (678, [some (vR 1000), some (vR 0), some (vR 74), some (vI i)], [], MW b I L)
          exact cs_unhand l E b I L i (by omega) hE h1 (fun b J M hJ => lw_step l E b J M i (by omega) hE (ih (i + 6) b J M hJ (by omega) (by omega)))
        | 15, c33_2, ho9 =>
          have c33_2 : bAnd ((E.2 i.toNat).toInt) 31 = 15 := by simpa using c33_2
          have ho9 : some (668 : Int) = some off9 := ho9
          cases ho9
          refine ⟨by decide, ?_⟩
          show Rch l E 1000 174 _ _ _ _ (701, [some (vR 1000), some (vR 0), some (vR 74), some (vI i)], [], MW b I L)
          exact cs_persons l E b I L i (by omega) hE h1 (fun b J M hJ => lw_step l E b J M i (by omega) hE (ih (i + 6) b J M hJ (by omega) (by omega)))
        | 16, c33_2, ho9 =>
          have c33_2 : bAnd ((E.2 i.toNat).toInt) 31 = 16 := by simpa using c33_2
          have ho9 : some (701 : Int) = some off9 := ho9
          cases ho9
          refine ⟨by decide, ?_⟩
          show Rch l E 1000 174 _ _ _ _ (734, [some (vR 1000), some (vR 0), some (vR 74), some (vI i)], [], MW b I L)
          exact cs_worth l E b I L i (by omega) hE h1 (fun b J M hJ => lw_step l E b J M i (by omega) hE (ih (i + 6) b J M hJ (by omega) (by omega)))
        | 17, c33_2, ho9 =>
          have c33_2 : bAnd ((E.2 i.toNat).toInt) 31 = 17 := by simpa using c33_2
          have ho9 : some (734 : Int) = some off9 := ho9
          cases ho9
          refine ⟨by decide, ?_⟩
          show Rch l E 1000 174 _ _ _ _ (767, [some (vR 1000), some (vR 0), some (vR 74), some (vI i)], [], MW b I L)
          exact cs_person l E b I L i (by omega) hE h1 (fun b J M hJ => lw_step l E b J M i (by omega) hE (ih (i + 6) b J M hJ (by omega) (by omega)))
        | 18, c33_2, ho9 =>
          have c33_2 : bAnd ((E.2 i.toNat).toInt) 31 = 18 := by simpa using c33_2
          have ho9 : some (777 : Int) = some off9 := ho9
          cases ho9
          refine ⟨by decide, ?_⟩
          show Rch l E 1000 174 _ _ _ _ (810, [some (vR 1000), some (vR 0), some (vR 74), some (vI i)], [], MW b I L)
          exact cs_golden l E b I L i (by omega) hE h1 (fun b J M hJ => lw_step l E b J M i (by omega) hE (ih (i + 6) b J M hJ (by omega) (by omega)))
        | 19, c33_2, ho9 =>
          have c33_2 : bAnd ((E.2 i.toNat).toInt) 31 = 19 := by simpa using c33_2
          have ho9 : some (830 : Int) = some off9 := ho9
          cases ho9
          refine ⟨by decide, ?_⟩
          show Rch l E 1000 174 _ _ _ _ (863, [some (vR 1000), some (vR 0), some (vR 74), some (vI i)], [], MW b I L)
          exact cs_from l E b I L i (by omega) hE h1 (fun b J M hJ => lw_step l E b J M i (by omega) hE (ih (i + 6) b J M hJ (by omega) (by omega)))
        | 20, c33_2, ho9 =>
          have c33_2 : bAnd ((E.2 i.toNat).toInt) 31 = 20 := by simpa using c33_2
          have ho9 : some (883 : Int) = some off9 := ho9
          cases ho9
          refine ⟨by decide, ?_⟩
          show Rch l E 1000 174 _ _ _ _ (916, [some (vR 1000), some (vR 0), some (vR 74), some (vI i)], [], MW b I L)
          exact cs_torn l E b I L i (by omega) hE h1 (fun b J M hJ => lw_step l E b J M i (by omega) hE (ih (i + 6) b J M hJ (by omega) (by omega)))
        | 21, c33_2, ho9 =>
          have c33_2 : bAnd ((E.2 i.toNat).toInt) 31 = 21 := by simpa using c33_2
          have ho9 : some (936 : Int) = some off9 := ho9
          cases ho9
          refine ⟨by decide, ?_⟩
          show Rch l E 1000 174 _ _ _ _ (969, [some (vR 1000), some (vR 0), some (vR 74), some (vI i)], [], MW b I L)
          exact cs_fix l E b I L i (by omega) hE h1 (fun b J M hJ => lw_step l E b J M i (by omega) hE (ih (i + 6) b J M hJ (by omega) (by omega)))
        | 22, c33_2, ho9 =>
          have c33_2 : bAnd ((E.2 i.toNat).toInt) 31 = 22 := by simpa using c33_2
          have ho9 : some (979 : Int) = some off9 := ho9
          cases ho9
          refine ⟨by decide, ?_⟩
          show Rch l E 1000 174 _ _ _ _ (1012, [some (vR 1000), some (vR 0), some (vR 74), some (vI i)], [], MW b I L)
          exact cs_unfix l E b I L i (by omega) hE h1 (fun b J M hJ => lw_step l E b J M i (by omega) hE (ih (i + 6) b J M hJ (by omega) (by omega)))
        | 23, c33_2, ho9 =>
          have c33_2 : bAnd ((E.2 i.toNat).toInt) 31 = 23 := by simpa using c33_2
          have ho9 : some (1002 : Int) = some off9 := ho9
          cases ho9
          refine ⟨by decide, ?_⟩
          show Rch l E 1000 174 _ _ _ _ (1035, [some (vR 1000), some (vR 0), some (vR 74), some (vI i)], [], MW b I L)
          exact cs_changes l E b I L i (by omega) hE h1 (fun b J M hJ => lw_step l E b J M i (by omega) hE (ih (i + 6) b J M hJ (by omega) (by omega)))
        | 24, c33_2, ho9 =>
          have c33_2 : bAnd ((E.2 i.toNat).toInt) 31 = 24 := by simpa using c33_2
          have ho9 : some (1025 : Int) = some off9 := ho9
          cases ho9
          refine ⟨by decide, ?_⟩
          show Rch l E 1000 174 _ _ _ _ (1058, [some (vR 1000), some (vR 0), some (vR 74), some (vI i)], [], MW b I L)
          exact cs_change l E b I L i (by omega) hE h1 (fun b J M hJ => lw_step l E b J M i (by omega) hE (ih (i + 6) b J M hJ (by omega) (by omega)))
        | 25, c33_2, ho9 =>
          have c33_2 : bAnd ((E.2 i.toNat).toInt) 31 = 25 := by simpa using c33_2
          have ho9 : some (1068 : Int) = some off9 := ho9
          cases ho9
          refine ⟨by decide, ?_⟩
          show Rch l E 1000 174 _ _ _ _ (1101, [some (vR 1000), some (vR 0), some (vR 74), some (vI i)], [], MW b I L)
          exact cs_accept l E b I L i (by omega) hE h1 (fun b J M hJ => lw_step l E b J M i (by omega) hE (ih (i + 6) b J M hJ (by omega) (by omega)))
        | 26, c33_2, ho9 =>
          have c33_2 : bAnd ((E.2 i.toNat).toInt) 31 = 26 := by simpa using c33_2
          have ho9 : some (1101 : Int) = some off9 := ho9
          cases ho9
          refine ⟨by decide, ?_⟩
          show Rch l E 1000 174 _ _ _ _ (1134, [some (vR 1000), some (vR 0), some (vR 74), some (vI i)], [], MW b I L)
          exact cs_refuse l E b I L i (by omega) hE h1 (fun b J M hJ => lw_step l E b J M i (by omega) hE (ih (i + 6) b J M hJ (by omega) (by omega)))
        | 27, c33_2, ho9 =>
          have c33_2 : bAnd ((E.2 i.toNat).toInt) 31 = 27 := by simpa using c33_2
          have ho9 : some (1134 : Int) = some off9 := ho9
          cases ho9
          refine ⟨by decide, ?_⟩
          show Rch l E 1000 174 _ _ _ _ (1167, [some (vR 1000), some (vR 0), some (vR 74), some (vI i)], [], MW b I L)
          exact cs_about l E b I L i (by omega) hE h1 (fun b J M hJ => lw_step l E b J M i (by omega) hE (ih (i + 6) b J M hJ (by omega) (by omega)))
        | n9 + 28, _, ho9 => exact absurd ho9 (by simp)

theorem i0_b {a j : Nat} (h : ¬ (a = 14 ∨ a = 75 ∨ (a = 31 ∧ j = 1) ∨ (a = 74 ∧ j = 32))) : I0 a j = 0 := by
  unfold I0
  rw [if_neg (by omega), if_neg (by omega)]
theorem inv_0 : Inv (bkb false) I0 := by
  show Inv 1 I0
  have z : ∀ {a j : Nat}, ¬ (a = 14 ∨ a = 75 ∨ (a = 31 ∧ j = 1) ∨ (a = 74 ∧ j = 32)) → I0 a j = 0 := fun h => i0_b h
  have e14 : ∀ c, c < 36 → I0 14 c = 1 := fun c hc => by unfold I0; rw [if_pos (by omega)]
  have e75 : ∀ c, c < 36 → I0 75 c = 1 := fun c hc => by unfold I0; rw [if_pos (by omega)]
  have e31 : I0 31 1 = -1 := rfl
  have e32 : I0 74 32 = -1 := rfl
  refine ⟨⟨by rw [z (by omega), z (by omega)], by rw [z (by omega)]; omega, by rw [z (by omega)]; omega⟩, ⟨⟨fun c hc => by rw [e14 c hc, e75 c hc], fun c hc => by rw [z (by omega), z (by omega)]⟩, fun c hc => by rw [e14 c hc]; omega, fun c hc => by rw [z (by omega)]; omega⟩, fun c hc => by rw [z (by omega), z (by omega)], ⟨⟨by rw [z (by omega)]; omega, by rw [z (by omega)]; omega, fun j hj => by rw [z (by omega)] at hj; omega⟩, fun j hj => by rw [z (by omega)] at hj; omega, ⟨by rw [z (by omega), z (by omega)], by rw [z (by omega), z (by omega)], fun j hj => by rw [z (by omega)] at hj; omega, fun j hj => by rw [z (by omega)] at hj; omega⟩, fun j hj => by rw [z (by omega)] at hj; omega, fun r _ => ⟨z (by omega), z (by omega)⟩⟩, ⟨⟨by rw [z (by omega)]; omega, fun j hj => by rw [z (by omega)] at hj; omega⟩, ⟨by rw [z (by omega), z (by omega)], fun j hj => by rw [z (by omega)] at hj; omega⟩⟩, ⟨⟨by rw [z (by omega), z (by omega)], fun j hj => by rw [z (by omega)] at hj; omega⟩, by rw [z (by omega)]; omega, fun j hj => by rw [z (by omega)] at hj; omega⟩, ⟨by rw [z (by omega), z (by omega)], by rw [z (by omega)]; omega, fun j hj => by rw [z (by omega)] at hj; omega⟩, ⟨by rw [z (by omega), z (by omega)], ⟨by rw [z (by omega)]; omega, fun j hj => by rw [z (by omega)] at hj; omega⟩, fun j => by rw [z (by omega), z (by omega)]⟩, ⟨by rw [z (by omega), z (by omega)], by rw [e31, e32]⟩, ⟨⟨by rw [z (by omega)]; omega, fun n hn => by rw [z (by omega)] at hn; omega⟩, ⟨by rw [z (by omega), z (by omega)], z (by omega), fun n hn => by rw [z (by omega)] at hn; omega⟩⟩, A11_0 (z (by omega)), ⟨z (by omega), z (by omega)⟩⟩
set_option maxHeartbeats 20000000 in
set_option maxRecDepth 100000 in
theorem lw_all (l : Launch) (E : AX) (hE : E.1 ≤ 3072) : Rch l E 1000 174 wE 129 14022 PhiL (0, enL [vR 1000] 4, [], wE) := by
  show Rch l E 1000 174 wE 129 14022 PhiL (0, [some (vR 1000), none, none, none], [], wE)
  refine rch_new cdK174 (t' := (3, [some (vR 1000), none, none, none], [vR 0], W1)) rfl ⟨by decide, by decide⟩ (by decide) ?_
  refine rch_run cdK174 (by decide) 1 (t' := (4, [some (vR 1000), none, none, none], [vR 0, vR 0], W1)) (ps := []) rfl trivial ?_
  refine rch_call (h' := 2) (k' := 61) (as := [vR 0]) (t1 := (7, [some (vR 1000), none, none, none], [vR 0], W1)) cdK174 rfl (con_X11_init_0 l E) (by decide) ⟨by decide, by decide⟩ ?_
  rintro rt w9 ⟨rfl, rfl⟩ _ _
  show Rch l E 1000 174 wE 129 14022 PhiL (7, [some (vR 1000), none, none, none], [vR 0], W184)
  refine rch_run cdK174 (by decide) 1 (t' := (8, [some (vR 1000), some (vR 0), none, none], [], W184)) (ps := []) rfl trivial ?_
  refine rch_new cdK174 (t' := (11, [some (vR 1000), some (vR 0), none, none], [vR 74], W185)) rfl ⟨by decide, by decide⟩ (by decide) ?_
  refine rch_run cdK174 (by decide) 1 (t' := (12, [some (vR 1000), some (vR 0), none, none], [vR 74, vR 74], W185)) (ps := []) rfl trivial ?_
  refine rch_call (h' := 2) (k' := 102) (as := [vR 74]) (t1 := (15, [some (vR 1000), some (vR 0), none, none], [vR 74], W185)) cdK174 rfl (con_X12_init_74 l E) (by decide) ⟨by decide, by decide⟩ ?_
  rintro rt w9 ⟨rfl, rfl⟩ _ _
  show Rch l E 1000 174 wE 129 14022 PhiL (15, [some (vR 1000), some (vR 0), none, none], [vR 74], W330)
  refine rch_made ?_
  refine rch_run cdK174 (by decide) 3 (t' := (18, [some (vR 1000), some (vR 0), some (vR 74), some (vI 0)], [], MW false I0 L0)) (ps := []) rfl trivial ?_
  exact lw_loop l E hE 4000 0 false I0 L0 inv_0 (by omega) (by omega)
