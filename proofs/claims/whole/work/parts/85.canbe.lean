def muM (I : Nat → Nat → Int) (i j : Nat) : Prop := bAnd (I 117 (10 * i + j)) 1 = 1
def mnM (I : Nat → Nat → Int) (i j : Nat) : Prop := bAnd (I 117 (10 * i + j)) 2 = 2
def srM (I : Nat → Nat → Int) (i j : Nat) : Int := I 116 (10 * i + j)
def NoB (I : Nat → Nat → Int) (i : Nat) (c : Int) (n : Nat) : Prop := ∀ j, j < n → (muM I i j → I 112 j = c) ∧ (mnM I i j → I 112 j ≠ c)
def cbS (I : Nat → Nat → Int) (i : Nat) (c : Int) (n : Nat) : Int := sm (fun j => if I 112 j = c then srM I i j else 0) n
theorem cbS_rg {I : Nat → Nat → Int} {i : Nat} {c : Int} {n : Nat} (hn : n ≤ 10) (h : ∀ j, j < n → -10000 ≤ srM I i j ∧ srM I i j ≤ 10000) : -100000 ≤ cbS I i c n ∧ cbS I i c n ≤ 100000 := by
  have := sm_rg (f := fun j => if I 112 j = c then srM I i j else 0) (a := 10000) (n := n) (fun j hj => by
    have := h j hj
    show -10000 ≤ (if _ then _ else _) ∧ (if _ then _ else _) ≤ (10000 : Int)
    split <;> omega)
  unfold cbS
  omega

theorem lp_canBe (l : Launch) (E : AX) (b : Bool) (I L : Nat → Nat → Int) (i c : Int) (hi : 0 ≤ i ∧ i < 10) (hs : ∀ j : Nat, (j : Int) < i → -10000 ≤ srM I i.toNat j ∧ srM I i.toNat j ≤ 10000) (hw : -2000000 ≤ I 115 i.toNat ∧ I 115 i.toNat ≤ 2000000) : ∀ (n9 : Nat) (j v : Int), 0 ≤ j → j ≤ i → v = I 115 i.toNat + cbS I i.toNat c j.toNat → NoB I i.toNat c j.toNat → i - j < (n9 : Int) → Rch l E 1 148 (MW b I L) 0 0 (fun rt w => (NoB I i.toNat c i.toNat ∧ rt = some (vI 1) ∧ w = MW b (upI I 115 (i + 1).toNat (I 115 i.toNat + cbS I i.toNat c i.toNat)) L) ∨ (¬ NoB I i.toNat c i.toNat ∧ rt = some (vI 0) ∧ w = MW b I L)) (10, [some (vR 74), some (vI i), some (vI c), some (vI v), some (vI j), none, none], [], MW b I L) := by
  intro n9
  induction n9 with
  | zero =>
    intro j v  h1 h2 h3 h4 hm
    exfalso; omega
  | succ n9 ih =>
    intro j v  h1 h2 h3 h4 hm
    have hx9 : ((10 * i) + j).toNat = 10 * i.toNat + j.toNat := by omega
    have hs9 : j < i → _ := fun z => hs j.toNat (by omega)
    have e6 : I 116 ((10 * i) + j).toNat = srM I i.toNat j.toNat := by unfold srM; rw [hx9]
    have hg9 := cbS_rg (I := I) (i := i.toNat) (c := c) (n := j.toNat) (by omega) (fun z hz => hs z (by omega))
    have m1 : bAnd (I 117 ((10 * i) + j).toNat) 1 = 1 ↔ muM I i.toNat j.toNat := by unfold muM; rw [hx9]
    have m2 : bAnd (I 117 ((10 * i) + j).toNat) 2 = 2 ↔ mnM I i.toNat j.toNat := by unfold mnM; rw [hx9]
    have hj9 : (j + 1).toNat = j.toNat + 1 := by omega
    refine rch_run cdK148 (by decide) 2 (t' := (13, [some (vR 74), some (vI i), some (vI c), some (vI v), some (vI j), none, none], [vI i, vI j], MW b I L)) (ps := []) rfl trivial ?_
    refine rch_br cdK148 (cd := i ≤ j) (t1 := (102, [some (vR 74), some (vI i), some (vI c), some (vI v), some (vI j), none, none], [], MW b I L)) (t2 := (16, [some (vR 74), some (vI i), some (vI c), some (vI v), some (vI j), none, none], [], MW b I L)) rfl (fun c13_1 => ?_) (fun c13_1 => ?_)
    · refine rch_run cdK148 (by decide) 8 (t' := (112, [some (vR 74), some (vI i), some (vI c), some (vI v), some (vI j), none, none], [vI 1], MW b (upI I 115 (i + 1).toNat v) L)) (ps := [i32 (i + 1), 0 ≤ i + 1 ∧ i + 1 < ((11 : Nat) : Int)]) rfl (by (try have hs8 := hs9 (by omega)); simp only [all_, i32, i64]; first | omega | (simp; done) | (simp; omega)) ?_
      refine rch_ret cdK148 (rt := some (vI 1)) rfl (Or.inr rfl) mw_c ?_
      refine Or.inl ⟨by rw [show i.toNat = j.toNat by omega] at h4 ⊢; exact h4, rfl, ?_⟩
      rw [h3, show j.toNat = i.toNat by omega]
    · refine rch_run cdK148 (by decide) 5 (t' := (24, [some (vR 74), some (vI i), some (vI c), some (vI v), some (vI j), none, none], [vI c, vI (I 112 j.toNat)], MW b I L)) (ps := [0 ≤ j ∧ j < ((10 : Nat) : Int)]) rfl (by (try have hs8 := hs9 (by omega)); simp only [all_, i32, i64]; first | omega | (simp; done) | (simp; omega)) ?_
      refine rch_br cdK148 (cd := I 112 j.toNat ≠ c) (t1 := (31, [some (vR 74), some (vI i), some (vI c), some (vI v), some (vI j), none, none], [], MW b I L)) (t2 := (27, [some (vR 74), some (vI i), some (vI c), some (vI v), some (vI j), none, none], [], MW b I L)) rfl (fun c24_2 => ?_) (fun c24_2 => ?_)
      · refine rch_run cdK148 (by decide) 15 (t' := (53, [some (vR 74), some (vI i), some (vI c), some (vI v), some (vI j), some (vI 0), some (vI (I 117 ((10 * i) + j).toNat))], [vI 1, vI (bAnd (I 117 ((10 * i) + j).toNat) 1)], MW b I L)) (ps := [i32 (10 * i), i32 ((10 * i) + j), 0 ≤ (10 * i) + j ∧ (10 * i) + j < ((100 : Nat) : Int)]) rfl (by (try have hs8 := hs9 (by omega)); simp only [all_, i32, i64]; first | omega | (simp; done) | (simp; omega)) ?_
        refine rch_br cdK148 (cd := bAnd (I 117 ((10 * i) + j).toNat) 1 ≠ (1 : Int)) (t1 := (61, [some (vR 74), some (vI i), some (vI c), some (vI v), some (vI j), some (vI 0), some (vI (I 117 ((10 * i) + j).toNat))], [], MW b I L)) (t2 := (56, [some (vR 74), some (vI i), some (vI c), some (vI v), some (vI j), some (vI 0), some (vI (I 117 ((10 * i) + j).toNat))], [], MW b I L)) rfl (fun c53_3 => ?_) (fun c53_3 => ?_)
        · refine rch_run cdK148 (by decide) 4 (t' := (66, [some (vR 74), some (vI i), some (vI c), some (vI v), some (vI j), some (vI 0), some (vI (I 117 ((10 * i) + j).toNat))], [vI 2, vI (bAnd (I 117 ((10 * i) + j).toNat) 2)], MW b I L)) (ps := []) rfl trivial ?_
          refine rch_br cdK148 (cd := bAnd (I 117 ((10 * i) + j).toNat) 2 ≠ (2 : Int)) (t1 := (76, [some (vR 74), some (vI i), some (vI c), some (vI v), some (vI j), some (vI 0), some (vI (I 117 ((10 * i) + j).toNat))], [], MW b I L)) (t2 := (69, [some (vR 74), some (vI i), some (vI c), some (vI v), some (vI j), some (vI 0), some (vI (I 117 ((10 * i) + j).toNat))], [], MW b I L)) rfl (fun c66_4 => ?_) (fun c66_4 => ?_)
          · refine rch_run cdK148 (by decide) 1 (t' := (78, [some (vR 74), some (vI i), some (vI c), some (vI v), some (vI j), some (vI 0), some (vI (I 117 ((10 * i) + j).toNat))], [vI 0], MW b I L)) (ps := []) rfl trivial ?_
            refine rch_br cdK148 (cd := (0 : Int) = 0) (t1 := (96, [some (vR 74), some (vI i), some (vI c), some (vI v), some (vI j), some (vI 0), some (vI (I 117 ((10 * i) + j).toNat))], [], MW b I L)) (t2 := (81, [some (vR 74), some (vI i), some (vI c), some (vI v), some (vI j), some (vI 0), some (vI (I 117 ((10 * i) + j).toNat))], [], MW b I L)) rfl (fun _ => ?_) (fun c9 => absurd (by decide) c9)
            refine rch_run cdK148 (by decide) 2 (t' := (10, [some (vR 74), some (vI i), some (vI c), some (vI v), some (vI (j + 1)), some (vI 0), some (vI (I 117 ((10 * i) + j).toNat))], [], MW b I L)) (ps := [i32 (j + 1)]) rfl (by (try have hs8 := hs9 (by omega)); simp only [all_, i32, i64]; first | omega | (simp; done) | (simp; omega)) ?_
            refine rch_forget [5, 6] ?_
            show Rch l E 1 148 _ _ _ _ (10, [some (vR 74), some (vI i), some (vI c), some (vI v), some (vI (j + 1)), none, none], [], MW b I L)
            refine ih (j + 1) _ (by omega) (by omega) ?_ (fun z hz => ?_) (by omega)
            · rw [hj9]; show _ = I 115 i.toNat + (cbS I i.toNat c j.toNat + if I 112 j.toNat = c then srM I i.toNat j.toNat else 0)
              rw [if_neg (by omega), h3]; omega
            · rw [hj9] at hz
              by_cases e : z = j.toNat
              · rw [e, ← m1, ← m2]; refine ⟨fun q => ?_, fun q => ?_⟩ <;> omega
              · exact h4 z (by omega)
          · refine rch_run cdK148 (by decide) 1 (t' := (71, [some (vR 74), some (vI i), some (vI c), some (vI v), some (vI j), some (vI 0), some (vI (I 117 ((10 * i) + j).toNat))], [vI 0], MW b I L)) (ps := []) rfl trivial ?_
            refine rch_br cdK148 (cd := (0 : Int) = 0) (t1 := (76, [some (vR 74), some (vI i), some (vI c), some (vI v), some (vI j), some (vI 0), some (vI (I 117 ((10 * i) + j).toNat))], [], MW b I L)) (t2 := (74, [some (vR 74), some (vI i), some (vI c), some (vI v), some (vI j), some (vI 0), some (vI (I 117 ((10 * i) + j).toNat))], [], MW b I L)) rfl (fun _ => ?_) (fun c9 => absurd (by decide) c9)
            refine rch_run cdK148 (by decide) 1 (t' := (78, [some (vR 74), some (vI i), some (vI c), some (vI v), some (vI j), some (vI 0), some (vI (I 117 ((10 * i) + j).toNat))], [vI 0], MW b I L)) (ps := []) rfl trivial ?_
            refine rch_br cdK148 (cd := (0 : Int) = 0) (t1 := (96, [some (vR 74), some (vI i), some (vI c), some (vI v), some (vI j), some (vI 0), some (vI (I 117 ((10 * i) + j).toNat))], [], MW b I L)) (t2 := (81, [some (vR 74), some (vI i), some (vI c), some (vI v), some (vI j), some (vI 0), some (vI (I 117 ((10 * i) + j).toNat))], [], MW b I L)) rfl (fun _ => ?_) (fun c9 => absurd (by decide) c9)
            refine rch_run cdK148 (by decide) 2 (t' := (10, [some (vR 74), some (vI i), some (vI c), some (vI v), some (vI (j + 1)), some (vI 0), some (vI (I 117 ((10 * i) + j).toNat))], [], MW b I L)) (ps := [i32 (j + 1)]) rfl (by (try have hs8 := hs9 (by omega)); simp only [all_, i32, i64]; first | omega | (simp; done) | (simp; omega)) ?_
            refine rch_forget [5, 6] ?_
            show Rch l E 1 148 _ _ _ _ (10, [some (vR 74), some (vI i), some (vI c), some (vI v), some (vI (j + 1)), none, none], [], MW b I L)
            refine ih (j + 1) _ (by omega) (by omega) ?_ (fun z hz => ?_) (by omega)
            · rw [hj9]; show _ = I 115 i.toNat + (cbS I i.toNat c j.toNat + if I 112 j.toNat = c then srM I i.toNat j.toNat else 0)
              rw [if_neg (by omega), h3]; omega
            · rw [hj9] at hz
              by_cases e : z = j.toNat
              · rw [e, ← m1, ← m2]; refine ⟨fun q => ?_, fun q => ?_⟩ <;> omega
              · exact h4 z (by omega)
        · refine rch_run cdK148 (by decide) 1 (t' := (58, [some (vR 74), some (vI i), some (vI c), some (vI v), some (vI j), some (vI 0), some (vI (I 117 ((10 * i) + j).toNat))], [vI 0], MW b I L)) (ps := []) rfl trivial ?_
          refine rch_br cdK148 (cd := (0 : Int) = 0) (t1 := (74, [some (vR 74), some (vI i), some (vI c), some (vI v), some (vI j), some (vI 0), some (vI (I 117 ((10 * i) + j).toNat))], [], MW b I L)) (t2 := (61, [some (vR 74), some (vI i), some (vI c), some (vI v), some (vI j), some (vI 0), some (vI (I 117 ((10 * i) + j).toNat))], [], MW b I L)) rfl (fun _ => ?_) (fun c9 => absurd (by decide) c9)
          refine rch_run cdK148 (by decide) 1 (t' := (75, [some (vR 74), some (vI i), some (vI c), some (vI v), some (vI j), some (vI 0), some (vI (I 117 ((10 * i) + j).toNat))], [vI 0], MW b I L)) (ps := []) rfl trivial ?_
          refine rch_ret cdK148 (rt := some (vI 0)) rfl (Or.inl rfl) mw_c ?_
          refine Or.inr ⟨fun z => ?_, rfl, rfl⟩
          have := z j.toNat (by omega)
          rw [← m1, ← m2] at this
          omega
      · refine rch_run cdK148 (by decide) 16 (t' := (53, [some (vR 74), some (vI i), some (vI c), some (vI v), some (vI j), some (vI 1), some (vI (I 117 ((10 * i) + j).toNat))], [vI 1, vI (bAnd (I 117 ((10 * i) + j).toNat) 1)], MW b I L)) (ps := [i32 (10 * i), i32 ((10 * i) + j), 0 ≤ (10 * i) + j ∧ (10 * i) + j < ((100 : Nat) : Int)]) rfl (by (try have hs8 := hs9 (by omega)); simp only [all_, i32, i64]; first | omega | (simp; done) | (simp; omega)) ?_
        refine rch_br cdK148 (cd := bAnd (I 117 ((10 * i) + j).toNat) 1 ≠ (1 : Int)) (t1 := (61, [some (vR 74), some (vI i), some (vI c), some (vI v), some (vI j), some (vI 1), some (vI (I 117 ((10 * i) + j).toNat))], [], MW b I L)) (t2 := (56, [some (vR 74), some (vI i), some (vI c), some (vI v), some (vI j), some (vI 1), some (vI (I 117 ((10 * i) + j).toNat))], [], MW b I L)) rfl (fun c53_9 => ?_) (fun c53_9 => ?_)
        · refine rch_run cdK148 (by decide) 4 (t' := (66, [some (vR 74), some (vI i), some (vI c), some (vI v), some (vI j), some (vI 1), some (vI (I 117 ((10 * i) + j).toNat))], [vI 2, vI (bAnd (I 117 ((10 * i) + j).toNat) 2)], MW b I L)) (ps := []) rfl trivial ?_
          refine rch_br cdK148 (cd := bAnd (I 117 ((10 * i) + j).toNat) 2 ≠ (2 : Int)) (t1 := (76, [some (vR 74), some (vI i), some (vI c), some (vI v), some (vI j), some (vI 1), some (vI (I 117 ((10 * i) + j).toNat))], [], MW b I L)) (t2 := (69, [some (vR 74), some (vI i), some (vI c), some (vI v), some (vI j), some (vI 1), some (vI (I 117 ((10 * i) + j).toNat))], [], MW b I L)) rfl (fun c66_10 => ?_) (fun c66_10 => ?_)
          · refine rch_run cdK148 (by decide) 1 (t' := (78, [some (vR 74), some (vI i), some (vI c), some (vI v), some (vI j), some (vI 1), some (vI (I 117 ((10 * i) + j).toNat))], [vI 1], MW b I L)) (ps := []) rfl trivial ?_
            refine rch_br cdK148 (cd := (1 : Int) = 0) (t1 := (96, [some (vR 74), some (vI i), some (vI c), some (vI v), some (vI j), some (vI 1), some (vI (I 117 ((10 * i) + j).toNat))], [], MW b I L)) (t2 := (81, [some (vR 74), some (vI i), some (vI c), some (vI v), some (vI j), some (vI 1), some (vI (I 117 ((10 * i) + j).toNat))], [], MW b I L)) rfl (fun c9 => absurd c9 (by decide)) (fun _ => ?_)
            refine rch_run cdK148 (by decide) 13 (t' := (10, [some (vR 74), some (vI i), some (vI c), some (vI (v + (I 116 ((10 * i) + j).toNat))), some (vI (j + 1)), some (vI 1), some (vI (I 117 ((10 * i) + j).toNat))], [], MW b I L)) (ps := [i32 (10 * i), i32 ((10 * i) + j), 0 ≤ (10 * i) + j ∧ (10 * i) + j < ((100 : Nat) : Int), i32 (v + (I 116 ((10 * i) + j).toNat)), i32 (j + 1)]) rfl (by (try have hs8 := hs9 (by omega)); simp only [all_, i32, i64]; first | omega | (simp; done) | (simp; omega)) ?_
            refine rch_forget [5, 6] ?_
            show Rch l E 1 148 _ _ _ _ (10, [some (vR 74), some (vI i), some (vI c), some (vI (v + (I 116 ((10 * i) + j).toNat))), some (vI (j + 1)), none, none], [], MW b I L)
            refine ih (j + 1) _ (by omega) (by omega) ?_ (fun z hz => ?_) (by omega)
            · rw [hj9]; show _ = I 115 i.toNat + (cbS I i.toNat c j.toNat + if I 112 j.toNat = c then srM I i.toNat j.toNat else 0)
              rw [if_pos (by omega), h3, e6]; omega
            · rw [hj9] at hz
              by_cases e : z = j.toNat
              · rw [e, ← m1, ← m2]; refine ⟨fun q => ?_, fun q => ?_⟩ <;> omega
              · exact h4 z (by omega)
          · refine rch_run cdK148 (by decide) 1 (t' := (71, [some (vR 74), some (vI i), some (vI c), some (vI v), some (vI j), some (vI 1), some (vI (I 117 ((10 * i) + j).toNat))], [vI 1], MW b I L)) (ps := []) rfl trivial ?_
            refine rch_br cdK148 (cd := (1 : Int) = 0) (t1 := (76, [some (vR 74), some (vI i), some (vI c), some (vI v), some (vI j), some (vI 1), some (vI (I 117 ((10 * i) + j).toNat))], [], MW b I L)) (t2 := (74, [some (vR 74), some (vI i), some (vI c), some (vI v), some (vI j), some (vI 1), some (vI (I 117 ((10 * i) + j).toNat))], [], MW b I L)) rfl (fun c9 => absurd c9 (by decide)) (fun _ => ?_)
            refine rch_run cdK148 (by decide) 1 (t' := (75, [some (vR 74), some (vI i), some (vI c), some (vI v), some (vI j), some (vI 1), some (vI (I 117 ((10 * i) + j).toNat))], [vI 0], MW b I L)) (ps := []) rfl trivial ?_
            refine rch_ret cdK148 (rt := some (vI 0)) rfl (Or.inl rfl) mw_c ?_
            refine Or.inr ⟨fun z => ?_, rfl, rfl⟩
            have := z j.toNat (by omega)
            rw [← m1, ← m2] at this
            omega
        · refine rch_run cdK148 (by decide) 1 (t' := (58, [some (vR 74), some (vI i), some (vI c), some (vI v), some (vI j), some (vI 1), some (vI (I 117 ((10 * i) + j).toNat))], [vI 1], MW b I L)) (ps := []) rfl trivial ?_
          refine rch_br cdK148 (cd := (1 : Int) = 0) (t1 := (74, [some (vR 74), some (vI i), some (vI c), some (vI v), some (vI j), some (vI 1), some (vI (I 117 ((10 * i) + j).toNat))], [], MW b I L)) (t2 := (61, [some (vR 74), some (vI i), some (vI c), some (vI v), some (vI j), some (vI 1), some (vI (I 117 ((10 * i) + j).toNat))], [], MW b I L)) rfl (fun c9 => absurd c9 (by decide)) (fun _ => ?_)
          refine rch_run cdK148 (by decide) 4 (t' := (66, [some (vR 74), some (vI i), some (vI c), some (vI v), some (vI j), some (vI 1), some (vI (I 117 ((10 * i) + j).toNat))], [vI 2, vI (bAnd (I 117 ((10 * i) + j).toNat) 2)], MW b I L)) (ps := []) rfl trivial ?_
          refine rch_br cdK148 (cd := bAnd (I 117 ((10 * i) + j).toNat) 2 ≠ (2 : Int)) (t1 := (76, [some (vR 74), some (vI i), some (vI c), some (vI v), some (vI j), some (vI 1), some (vI (I 117 ((10 * i) + j).toNat))], [], MW b I L)) (t2 := (69, [some (vR 74), some (vI i), some (vI c), some (vI v), some (vI j), some (vI 1), some (vI (I 117 ((10 * i) + j).toNat))], [], MW b I L)) rfl (fun c66_14 => ?_) (fun c66_14 => ?_)
          · refine rch_run cdK148 (by decide) 1 (t' := (78, [some (vR 74), some (vI i), some (vI c), some (vI v), some (vI j), some (vI 1), some (vI (I 117 ((10 * i) + j).toNat))], [vI 1], MW b I L)) (ps := []) rfl trivial ?_
            refine rch_br cdK148 (cd := (1 : Int) = 0) (t1 := (96, [some (vR 74), some (vI i), some (vI c), some (vI v), some (vI j), some (vI 1), some (vI (I 117 ((10 * i) + j).toNat))], [], MW b I L)) (t2 := (81, [some (vR 74), some (vI i), some (vI c), some (vI v), some (vI j), some (vI 1), some (vI (I 117 ((10 * i) + j).toNat))], [], MW b I L)) rfl (fun c9 => absurd c9 (by decide)) (fun _ => ?_)
            refine rch_run cdK148 (by decide) 13 (t' := (10, [some (vR 74), some (vI i), some (vI c), some (vI (v + (I 116 ((10 * i) + j).toNat))), some (vI (j + 1)), some (vI 1), some (vI (I 117 ((10 * i) + j).toNat))], [], MW b I L)) (ps := [i32 (10 * i), i32 ((10 * i) + j), 0 ≤ (10 * i) + j ∧ (10 * i) + j < ((100 : Nat) : Int), i32 (v + (I 116 ((10 * i) + j).toNat)), i32 (j + 1)]) rfl (by (try have hs8 := hs9 (by omega)); simp only [all_, i32, i64]; first | omega | (simp; done) | (simp; omega)) ?_
            refine rch_forget [5, 6] ?_
            show Rch l E 1 148 _ _ _ _ (10, [some (vR 74), some (vI i), some (vI c), some (vI (v + (I 116 ((10 * i) + j).toNat))), some (vI (j + 1)), none, none], [], MW b I L)
            refine ih (j + 1) _ (by omega) (by omega) ?_ (fun z hz => ?_) (by omega)
            · rw [hj9]; show _ = I 115 i.toNat + (cbS I i.toNat c j.toNat + if I 112 j.toNat = c then srM I i.toNat j.toNat else 0)
              rw [if_pos (by omega), h3, e6]; omega
            · rw [hj9] at hz
              by_cases e : z = j.toNat
              · rw [e, ← m1, ← m2]; refine ⟨fun q => ?_, fun q => ?_⟩ <;> omega
              · exact h4 z (by omega)
          · refine rch_run cdK148 (by decide) 1 (t' := (71, [some (vR 74), some (vI i), some (vI c), some (vI v), some (vI j), some (vI 1), some (vI (I 117 ((10 * i) + j).toNat))], [vI 1], MW b I L)) (ps := []) rfl trivial ?_
            refine rch_br cdK148 (cd := (1 : Int) = 0) (t1 := (76, [some (vR 74), some (vI i), some (vI c), some (vI v), some (vI j), some (vI 1), some (vI (I 117 ((10 * i) + j).toNat))], [], MW b I L)) (t2 := (74, [some (vR 74), some (vI i), some (vI c), some (vI v), some (vI j), some (vI 1), some (vI (I 117 ((10 * i) + j).toNat))], [], MW b I L)) rfl (fun c9 => absurd c9 (by decide)) (fun _ => ?_)
            refine rch_run cdK148 (by decide) 1 (t' := (75, [some (vR 74), some (vI i), some (vI c), some (vI v), some (vI j), some (vI 1), some (vI (I 117 ((10 * i) + j).toNat))], [vI 0], MW b I L)) (ps := []) rfl trivial ?_
            refine rch_ret cdK148 (rt := some (vI 0)) rfl (Or.inl rfl) mw_c ?_
            refine Or.inr ⟨fun z => ?_, rfl, rfl⟩
            have := z j.toNat (by omega)
            rw [← m1, ← m2] at this
            omega

theorem k_canBe (l : Launch) (E : AX) (b : Bool) (I L : Nat → Nat → Int) (i c : Int) (hi : 0 ≤ i ∧ i < 10) (hs : ∀ j : Nat, (j : Int) < i → -10000 ≤ srM I i.toNat j ∧ srM I i.toNat j ≤ 10000) (hw : -2000000 ≤ I 115 i.toNat ∧ I 115 i.toNat ≤ 2000000) : Con l E 1 148 [vR 74, vI i, vI c] (MW b I L) 0 0 (fun rt w => (NoB I i.toNat c i.toNat ∧ rt = some (vI 1) ∧ w = MW b (upI I 115 (i + 1).toNat (I 115 i.toNat + cbS I i.toNat c i.toNat)) L) ∨ (¬ NoB I i.toNat c i.toNat ∧ rt = some (vI 0) ∧ w = MW b I L)) := by
  refine con_ok (fun hw9 hs9 => ?_)
  refine con_intro (by decide) (Nat.le_of_ble_eq_true rfl) ?_
  show Rch l E 1 148 _ _ _ _ (0, [some (vR 74), some (vI i), some (vI c), none, none, none, none], [], MW b I L)
  refine rch_run cdK148 (by decide) 7 (t' := (10, [some (vR 74), some (vI i), some (vI c), some (vI (I 115 i.toNat)), some (vI 0), none, none], [], MW b I L)) (ps := [0 ≤ i ∧ i < ((11 : Nat) : Int)]) rfl (by simp only [all_, i32, i64]; first | omega | (simp; done) | (simp; omega)) ?_
  exact lp_canBe l E b I L i c hi hs hw 11 0 _ (by omega) hi.1 (by show _ = _ + (0 : Int); omega) (fun z hz => absurd hz (by simp)) (by omega)

theorem lp_lookM (l : Launch) (E : AX) (b : Bool) (I L : Nat → Nat → Int) (hn : 0 ≤ I 74 55 ∧ I 74 55 ≤ 10) (hro : ∀ j : Nat, (j : Int) < I 74 55 → 0 ≤ I 110 j ∧ I 110 j < 10) (hinj : ∀ i j : Nat, (i : Int) < I 74 55 → (j : Int) < I 74 55 → I 110 i = I 110 j → i = j) : ∀ (n9 : Nat) (i : Int) (J : Nat → Nat → Int), 0 ≤ i → i ≤ I 74 55 → ¬ (I 74 58 ≠ 0 ∧ I 115 (I 74 55).toNat ≤ I 74 56) → (∀ a j, ¬ ((a = 74 ∧ (j = 56 ∨ j = 57 ∨ j = 58)) ∨ a = 111) → J a j = I a j) → J 74 58 = 1 ∧ J 74 56 = I 115 (I 74 55).toNat ∧ J 74 57 = I 114 (I 74 55).toNat → (∀ j : Nat, (j : Int) < i → J 111 (I 110 j).toNat = I 112 j) → (∀ r, (∀ j : Nat, (j : Int) < i → (I 110 j).toNat ≠ r) → J 111 r = I 111 r) → I 74 55 - i < (n9 : Int) → Rch l E 1 149 (MW b I L) 0 0 (fun rt w => ∃ J, rt = none ∧ w = MW b J L ∧ Lkr I J) (57, [some (vR 74), some (vI i)], [], MW b J L) := by
  intro n9
  induction n9 with
  | zero =>
    intro i J h1 h2 h3 h4 h5 h6 h7 hm
    exfalso; omega
  | succ n9 ih =>
    intro i J h1 h2 h3 h4 h5 h6 h7 hm
    have q55 := h4 74 55 (by omega)
    have q110 := h4 110 i.toNat (by omega)
    have q112 := h4 112 i.toNat (by omega)
    have hr9 : i < I 74 55 → _ := fun z => hro i.toNat (by omega)
    refine rch_run cdK149 (by decide) 3 (t' := (62, [some (vR 74), some (vI i)], [vI (J 74 55), vI i], MW b J L)) (ps := []) rfl trivial ?_
    refine rch_br cdK149 (cd := J 74 55 ≤ i) (t1 := (88, [some (vR 74), some (vI i)], [], MW b J L)) (t2 := (65, [some (vR 74), some (vI i)], [], MW b J L)) rfl (fun c62_1 => ?_) (fun c62_1 => ?_)
    · refine rch_ret cdK149 (rt := none) rfl trivial mw_c ?_
      exact ⟨J, rfl, rfl, Or.inr ⟨h3, h4, h5.1, h5.2.1, h5.2.2, fun j hj => h6 j (by omega), fun r hr => h7 r (fun j hj => hr j (by omega))⟩⟩
    · refine rch_run cdK149 (by decide) 13 (t' := (57, [some (vR 74), some (vI (i + 1))], [], MW b (upI J 111 (J 110 i.toNat).toNat (J 112 i.toNat)) L)) (ps := [0 ≤ i ∧ i < ((10 : Nat) : Int), 0 ≤ i ∧ i < ((10 : Nat) : Int), 0 ≤ J 110 i.toNat ∧ J 110 i.toNat < ((10 : Nat) : Int), i32 (i + 1)]) rfl (by (try have hr8 := hr9 (by omega)); simp only [all_, i32, i64]; first | omega | (simp; done) | (simp; omega)) ?_
      have hr8 := hr9 (by omega)
      refine ih (i + 1) _ (by omega) (by omega) h3 (fun a j ha => by rw [upI_ne (by omega)]; exact h4 a j ha) (by rw [upI_ne (by omega), upI_ne (by omega), upI_ne (by omega)]; exact h5) (fun j hj => ?_) (fun r hr => ?_) (by omega)
      · by_cases e : j = i.toNat
        · rw [e, upI_eq rfl (by rw [q110]), q112]
        · have h8 : I 110 j ≠ I 110 i.toNat := fun z => e (hinj j i.toNat (by omega) (by omega) z)
          have h9 := hro j (by omega)
          rw [upI_ne (by omega)]; exact h6 j (by omega)
      · have h8 := hr i.toNat (by omega)
        rw [upI_ne (by omega)]; exact h7 r (fun j hj => hr j (by omega))

theorem k_lookM (l : Launch) (E : AX) (b : Bool) (I L : Nat → Nat → Int) (hn : 0 ≤ I 74 55 ∧ I 74 55 ≤ 10) (hro : ∀ j : Nat, (j : Int) < I 74 55 → 0 ≤ I 110 j ∧ I 110 j < 10) (hinj : ∀ i j : Nat, (i : Int) < I 74 55 → (j : Int) < I 74 55 → I 110 i = I 110 j → i = j) : Con l E 1 149 [vR 74] (MW b I L) 0 0 (fun rt w => ∃ J, rt = none ∧ w = MW b J L ∧ Lkr I J) := by
  refine con_ok (fun hw9 hs9 => ?_)
  refine con_intro (by decide) (Nat.le_of_ble_eq_true rfl) ?_
  show Rch l E 1 149 _ _ _ _ (0, [some (vR 74), none], [], MW b I L)
  refine rch_run cdK149 (by decide) 2 (t' := (4, [some (vR 74), none], [vI (I 74 58)], MW b I L)) (ps := []) rfl trivial ?_
  refine rch_br cdK149 (cd := I 74 58 = 0) (t1 := (24, [some (vR 74), none], [], MW b I L)) (t2 := (7, [some (vR 74), none], [], MW b I L)) rfl (fun c4_1 => ?_) (fun c4_1 => ?_)
  · refine rch_run cdK149 (by decide) 19 (t' := (57, [some (vR 74), some (vI 0)], [], MW b (upI (upI (upI I 74 58 1) 74 56 (I 115 (I 74 55).toNat)) 74 57 (I 114 (I 74 55).toNat)) L)) (ps := [(1 : Int) = 0 ∨ (1 : Int) = 1, 0 ≤ I 74 55 ∧ I 74 55 < ((11 : Nat) : Int), 0 ≤ I 74 55 ∧ I 74 55 < ((11 : Nat) : Int)]) rfl (by simp only [all_, i32, i64]; first | omega | (simp; done) | (simp; omega)) ?_
    exact lp_lookM l E b I L hn hro hinj 11 0 _ (by omega) hn.1 (by omega) (fun a j ha => by rw [upI_ne (by omega), upI_ne (by omega), upI_ne (by omega)]) ⟨by rw [upI_ne (by omega), upI_ne (by omega), upI_eq rfl rfl], by rw [upI_ne (by omega), upI_eq rfl rfl], by rw [upI_eq rfl rfl]⟩ (fun j hj => by omega) (fun r _ => by rw [upI_ne (by omega), upI_ne (by omega), upI_ne (by omega)]) (by omega)
  · refine rch_run cdK149 (by decide) 7 (t' := (20, [some (vR 74), none], [vI (I 74 56), vI (I 115 (I 74 55).toNat)], MW b I L)) (ps := [0 ≤ I 74 55 ∧ I 74 55 < ((11 : Nat) : Int)]) rfl (by simp only [all_, i32, i64]; first | omega | (simp; done) | (simp; omega)) ?_
    refine rch_br cdK149 (cd := I 74 56 < I 115 (I 74 55).toNat) (t1 := (24, [some (vR 74), none], [], MW b I L)) (t2 := (23, [some (vR 74), none], [], MW b I L)) rfl (fun c20_2 => ?_) (fun c20_2 => ?_)
    · refine rch_run cdK149 (by decide) 19 (t' := (57, [some (vR 74), some (vI 0)], [], MW b (upI (upI (upI I 74 58 1) 74 56 (I 115 (I 74 55).toNat)) 74 57 (I 114 (I 74 55).toNat)) L)) (ps := [(1 : Int) = 0 ∨ (1 : Int) = 1, 0 ≤ I 74 55 ∧ I 74 55 < ((11 : Nat) : Int), 0 ≤ I 74 55 ∧ I 74 55 < ((11 : Nat) : Int)]) rfl (by simp only [all_, i32, i64]; first | omega | (simp; done) | (simp; omega)) ?_
      exact lp_lookM l E b I L hn hro hinj 11 0 _ (by omega) hn.1 (by omega) (fun a j ha => by rw [upI_ne (by omega), upI_ne (by omega), upI_ne (by omega)]) ⟨by rw [upI_ne (by omega), upI_ne (by omega), upI_eq rfl rfl], by rw [upI_ne (by omega), upI_eq rfl rfl], by rw [upI_eq rfl rfl]⟩ (fun j hj => by omega) (fun r _ => by rw [upI_ne (by omega), upI_ne (by omega), upI_ne (by omega)]) (by omega)
    · refine rch_ret cdK149 (rt := none) rfl trivial mw_c ?_
      exact ⟨I, rfl, rfl, Or.inl ⟨by omega, rfl⟩⟩
