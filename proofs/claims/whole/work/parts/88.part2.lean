/-- what the reference's part gives -/
def PtM (I J : Nat → Nat → Int) (d k : Int) : Prop := (∀ a j, ¬ (a = 99 ∨ (110 ≤ a ∧ a ≤ 117) ∨ (a = 74 ∧ 55 ≤ j ∧ j ≤ 58)) → J a j = I a j) ∧ J 74 55 = (cnt (thM I k) 10 : Int) ∧ (∀ r : Nat, r < 10 → thM I k r = true → J 110 (cnt (thM I k) r) = (r : Int)) ∧ (∀ r : Nat, r < 10 → thM I k r = false → J 111 r = -1) ∧ (J 114 0 = 0 ∧ J 115 0 = 0) ∧ (∀ x y : Nat, y < x → x < cnt (thM I k) 10 → srM J x y = msm I (J 110 y) (J 110 x) d k (I 74 20).toNat ∧ Sy3 I k (J 110 x) (J 110 y) (J 117 (10 * x + y)) (I 74 43).toNat) ∧ ((cnt (thM I k) 10 = 0 ∧ J 74 58 = 1 ∧ J 74 56 = 0 ∧ J 74 57 = 0) ∨ (0 < cnt (thM I k) 10 ∧ DFe (muM J) (mnM J) (srM J) (cnt (thM I k) 10) J))

set_option maxHeartbeats 20000000 in
set_option maxRecDepth 100000 in
theorem p3_zero (l : Launch) (E : AX) (b : Bool) (I0 J L : Nat → Nat → Int) (d k : Int) (hz : J 74 55 = 0) (Φ : Option AV → AW → Prop) (hend : Φ none (MW b J L)) : Rch l E 5 147 (MW b I0 L) 0 0 Φ (309, [some (vR 74), some (vI d), some (vI k), some (vI 0), none, none, none, none], [], MW b J L) := by
  refine rch_run cdK147 (by decide) 1 (t' := (310, [some (vR 74), some (vI d), some (vI k), some (vI 0), none, none, none, none], [vI 0], MW b J L)) (ps := []) rfl trivial ?_
  refine rch_br cdK147 (cd := (0 : Int) < 0) (t1 := (437, [some (vR 74), some (vI d), some (vI k), some (vI 0), none, none, none, none], [], MW b J L)) (t2 := (313, [some (vR 74), some (vI d), some (vI k), some (vI 0), none, none, none, none], [], MW b J L)) rfl (fun c9 => absurd c9 (by decide)) (fun _ => ?_)
  refine rch_run cdK147 (by decide) 2 (t' := (317, [some (vR 74), some (vI d), some (vI k), some (vI 0), none, none, none, none], [vI (J 74 55)], MW b J L)) (ps := []) rfl trivial ?_
  refine rch_br cdK147 (cd := J 74 55 ≤ 0) (t1 := (437, [some (vR 74), some (vI d), some (vI k), some (vI 0), none, none, none, none], [], MW b J L)) (t2 := (320, [some (vR 74), some (vI d), some (vI k), some (vI 0), none, none, none, none], [], MW b J L)) rfl (fun c317_2 => ?_) (fun c9 => by exfalso; omega)
  refine rch_ret cdK147 (rt := none) rfl trivial mw_c ?_
  exact hend

set_option maxHeartbeats 20000000 in
set_option maxRecDepth 100000 in
theorem lp_part2h (l : Launch) (E : AX) (b : Bool) (I0 I L : Nat → Nat → Int) (d k : Int) (n : Nat) (hn : n ≤ 10) (h55 : I 74 55 = (n : Int)) (hH : 0 ≤ I 74 43 ∧ I 74 43 ≤ 20) (hro : ∀ j : Nat, j < n → 0 ≤ I 110 j ∧ I 110 j < 10) (hB : MBK I) (hM : VMK I) (Φ : Option AV → AW → Prop) (J : Nat → Nat → Int) (hf : FR2 I J) (i j : Int) (hij : (0 ≤ j ∧ j < i) ∧ i < (n : Int)) (hk : ∀ s, Sy3 I k (I 110 i.toNat) (I 110 j.toNat) s (I 74 43).toNat → Rch l E 5 147 (MW b I0 L) 0 0 Φ (71, [some (vR 74), some (vI d), some (vI k), some (vI i), some (vI (j + 1)), none, none, none], [], MW b (upI J 117 ((10 * i) + j).toNat s) L)) : ∀ (n9 : Nat) (h s : Int), 0 ≤ h → h ≤ I 74 43 → Sy3 I k (I 110 i.toNat) (I 110 j.toNat) s h.toNat → I 74 43 - h < (n9 : Int) → Rch l E 5 147 (MW b I0 L) 0 0 (Φ) (114, [some (vR 74), some (vI d), some (vI k), some (vI i), some (vI j), some (vI s), some (vI h), none], [], MW b J L) := by
  intro n9
  induction n9 with
  | zero =>
    intro h s  h1 h2 h3 hm
    exfalso; omega
  | succ n9 ih =>
    intro h s  h1 h2 h3 hm
    have q43 := hf 74 43 (by omega)
    have q100 := hf 100 h.toNat (by omega)
    have q101 := hf 101 h.toNat (by omega)
    have q102 := hf 102 h.toNat (by omega)
    have q103 := hf 103 h.toNat (by omega)
    have q104 := hf 104 h.toNat (by omega)
    have q110 := hf 110 i.toNat (by omega)
    have q111 := hf 110 j.toNat (by omega)
    have hh9 : (h + 1).toNat = h.toNat + 1 := by omega
    have hs9 := h3.1
    refine rch_run cdK147 (by decide) 3 (t' := (120, [some (vR 74), some (vI d), some (vI k), some (vI i), some (vI j), some (vI s), some (vI h), none], [vI (J 74 43), vI h], MW b J L)) (ps := []) rfl trivial ?_
    refine rch_br cdK147 (cd := J 74 43 ≤ h) (t1 := (248, [some (vR 74), some (vI d), some (vI k), some (vI i), some (vI j), some (vI s), some (vI h), none], [], MW b J L)) (t2 := (123, [some (vR 74), some (vI d), some (vI k), some (vI i), some (vI j), some (vI s), some (vI h), none], [], MW b J L)) rfl (fun c120_1 => ?_) (fun c120_1 => ?_)
    · refine rch_run cdK147 (by decide) 11 (t' := (71, [some (vR 74), some (vI d), some (vI k), some (vI i), some (vI (j + 1)), some (vI s), some (vI h), none], [], MW b (upI J 117 ((10 * i) + j).toNat s) L)) (ps := [i32 (10 * i), i32 ((10 * i) + j), 0 ≤ (10 * i) + j ∧ (10 * i) + j < ((100 : Nat) : Int), i32 (j + 1)]) rfl (by simp only [all_, i32, i64]; first | omega | (simp; done) | (simp; omega)) ?_
      refine rch_forget [5, 6, 7] ?_
      show Rch l E 5 147 _ _ _ _ (71, [some (vR 74), some (vI d), some (vI k), some (vI i), some (vI (j + 1)), none, none, none], [], MW b (upI J 117 ((10 * i) + j).toNat s) L)
      exact hk s (by rw [show (I 74 43).toNat = h.toNat by omega]; exact h3)
    · refine rch_run cdK147 (by decide) 8 (t' := (136, [some (vR 74), some (vI d), some (vI k), some (vI i), some (vI j), some (vI s), some (vI h), none], [vI (J 110 i.toNat), vI (J 100 h.toNat)], MW b J L)) (ps := [0 ≤ h ∧ h < ((20 : Nat) : Int), 0 ≤ i ∧ i < ((10 : Nat) : Int)]) rfl (by simp only [all_, i32, i64]; first | omega | (simp; done) | (simp; omega)) ?_
      refine rch_br cdK147 (cd := J 100 h.toNat ≠ J 110 i.toNat) (t1 := (156, [some (vR 74), some (vI d), some (vI k), some (vI i), some (vI j), some (vI s), some (vI h), none], [], MW b J L)) (t2 := (139, [some (vR 74), some (vI d), some (vI k), some (vI i), some (vI j), some (vI s), some (vI h), none], [], MW b J L)) rfl (fun c136_2 => ?_) (fun c136_2 => ?_)
      · refine rch_run cdK147 (by decide) 8 (t' := (170, [some (vR 74), some (vI d), some (vI k), some (vI i), some (vI j), some (vI s), some (vI h), none], [vI (J 110 j.toNat), vI (J 100 h.toNat)], MW b J L)) (ps := [0 ≤ h ∧ h < ((20 : Nat) : Int), 0 ≤ j ∧ j < ((10 : Nat) : Int)]) rfl (by simp only [all_, i32, i64]; first | omega | (simp; done) | (simp; omega)) ?_
        refine rch_br cdK147 (cd := J 100 h.toNat ≠ J 110 j.toNat) (t1 := (193, [some (vR 74), some (vI d), some (vI k), some (vI i), some (vI j), some (vI s), some (vI h), none], [], MW b J L)) (t2 := (173, [some (vR 74), some (vI d), some (vI k), some (vI i), some (vI j), some (vI s), some (vI h), none], [], MW b J L)) rfl (fun c170_3 => ?_) (fun c170_3 => ?_)
        · refine rch_run cdK147 (by decide) 3 (t' := (198, [some (vR 74), some (vI d), some (vI k), some (vI i), some (vI j), some (vI s), some (vI h), some (vI 0)], [vI 0], MW b J L)) (ps := []) rfl trivial ?_
          refine rch_br cdK147 (cd := (0 : Int) = 0) (t1 := (242, [some (vR 74), some (vI d), some (vI k), some (vI i), some (vI j), some (vI s), some (vI h), some (vI 0)], [], MW b J L)) (t2 := (201, [some (vR 74), some (vI d), some (vI k), some (vI i), some (vI j), some (vI s), some (vI h), some (vI 0)], [], MW b J L)) rfl (fun _ => ?_) (fun c9 => absurd (by decide) c9)
          refine rch_run cdK147 (by decide) 2 (t' := (114, [some (vR 74), some (vI d), some (vI k), some (vI i), some (vI j), some (vI s), some (vI (h + 1)), some (vI 0)], [], MW b J L)) (ps := [i32 (h + 1)]) rfl (by simp only [all_, i32, i64]; first | omega | (simp; done) | (simp; omega)) ?_
          refine rch_forget [7] ?_
          show Rch l E 5 147 _ _ _ _ (114, [some (vR 74), some (vI d), some (vI k), some (vI i), some (vI j), some (vI s), some (vI (h + 1)), none], [], MW b J L)
          exact ih (h + 1) s (by omega) (by omega) (by rw [hh9]; refine Sy_no h3 ?_; unfold knM; omega) (by omega)
        · refine rch_run cdK147 (by decide) 8 (t' := (186, [some (vR 74), some (vI d), some (vI k), some (vI i), some (vI j), some (vI s), some (vI h), none], [vI (J 110 i.toNat), vI (J 101 h.toNat)], MW b J L)) (ps := [0 ≤ h ∧ h < ((20 : Nat) : Int), 0 ≤ i ∧ i < ((10 : Nat) : Int)]) rfl (by simp only [all_, i32, i64]; first | omega | (simp; done) | (simp; omega)) ?_
          refine rch_br cdK147 (cd := J 101 h.toNat ≠ J 110 i.toNat) (t1 := (193, [some (vR 74), some (vI d), some (vI k), some (vI i), some (vI j), some (vI s), some (vI h), none], [], MW b J L)) (t2 := (189, [some (vR 74), some (vI d), some (vI k), some (vI i), some (vI j), some (vI s), some (vI h), none], [], MW b J L)) rfl (fun c186_5 => ?_) (fun c186_5 => ?_)
          · refine rch_run cdK147 (by decide) 3 (t' := (198, [some (vR 74), some (vI d), some (vI k), some (vI i), some (vI j), some (vI s), some (vI h), some (vI 0)], [vI 0], MW b J L)) (ps := []) rfl trivial ?_
            refine rch_br cdK147 (cd := (0 : Int) = 0) (t1 := (242, [some (vR 74), some (vI d), some (vI k), some (vI i), some (vI j), some (vI s), some (vI h), some (vI 0)], [], MW b J L)) (t2 := (201, [some (vR 74), some (vI d), some (vI k), some (vI i), some (vI j), some (vI s), some (vI h), some (vI 0)], [], MW b J L)) rfl (fun _ => ?_) (fun c9 => absurd (by decide) c9)
            refine rch_run cdK147 (by decide) 2 (t' := (114, [some (vR 74), some (vI d), some (vI k), some (vI i), some (vI j), some (vI s), some (vI (h + 1)), some (vI 0)], [], MW b J L)) (ps := [i32 (h + 1)]) rfl (by simp only [all_, i32, i64]; first | omega | (simp; done) | (simp; omega)) ?_
            refine rch_forget [7] ?_
            show Rch l E 5 147 _ _ _ _ (114, [some (vR 74), some (vI d), some (vI k), some (vI i), some (vI j), some (vI s), some (vI (h + 1)), none], [], MW b J L)
            exact ih (h + 1) s (by omega) (by omega) (by rw [hh9]; refine Sy_no h3 ?_; unfold knM; omega) (by omega)
          · refine rch_run cdK147 (by decide) 4 (t' := (198, [some (vR 74), some (vI d), some (vI k), some (vI i), some (vI j), some (vI s), some (vI h), some (vI 1)], [vI 1], MW b J L)) (ps := []) rfl trivial ?_
            refine rch_br cdK147 (cd := (1 : Int) = 0) (t1 := (242, [some (vR 74), some (vI d), some (vI k), some (vI i), some (vI j), some (vI s), some (vI h), some (vI 1)], [], MW b J L)) (t2 := (201, [some (vR 74), some (vI d), some (vI k), some (vI i), some (vI j), some (vI s), some (vI h), some (vI 1)], [], MW b J L)) rfl (fun c9 => absurd c9 (by decide)) (fun _ => ?_)
            refine rch_run cdK147 (by decide) 9 (t' := (216, [some (vR 74), some (vI d), some (vI k), some (vI i), some (vI j), some (vI s), some (vI h), some (vI 1)], [vI k, vI (J 103 h.toNat), vI (J 102 h.toNat)], MW b J L)) (ps := [0 ≤ h ∧ h < ((20 : Nat) : Int), 0 ≤ h ∧ h < ((20 : Nat) : Int)]) rfl (by simp only [all_, i32, i64]; first | omega | (simp; done) | (simp; omega)) ?_
            refine rch_call (h' := 1) (k' := 142) (as := [vI (J 102 h.toNat), vI (J 103 h.toNat), vI k]) (t1 := (219, [some (vR 74), some (vI d), some (vI k), some (vI i), some (vI j), some (vI s), some (vI h), some (vI 1)], [], MW b J L)) cdK147 rfl (k_X12_isKnown l E b J L (J 102 h.toNat) (J 103 h.toNat) k ) (by decide) mw_le ?_
            rintro rt9 w9 (⟨k54, rfl, rfl⟩ | ⟨k54, rfl, rfl⟩) _ _
            · show Rch l E 5 147 _ _ _ _ (219, [some (vR 74), some (vI d), some (vI k), some (vI i), some (vI j), some (vI s), some (vI h), some (vI 1)], [vI 1], MW b J L)
              have k54 : J 102 h.toNat ≤ k ∧ ¬ (0 ≤ J 103 h.toNat ∧ J 103 h.toNat ≤ k) := k54
              refine rch_br cdK147 (cd := (1 : Int) = 0) (t1 := (242, [some (vR 74), some (vI d), some (vI k), some (vI i), some (vI j), some (vI s), some (vI h), some (vI 1)], [], MW b J L)) (t2 := (222, [some (vR 74), some (vI d), some (vI k), some (vI i), some (vI j), some (vI s), some (vI h), some (vI 1)], [], MW b J L)) rfl (fun c9 => absurd c9 (by decide)) (fun _ => ?_)
              refine rch_run cdK147 (by decide) 5 (t' := (231, [some (vR 74), some (vI d), some (vI k), some (vI i), some (vI j), some (vI s), some (vI h), some (vI 1)], [vI (J 104 h.toNat), vI s], MW b J L)) (ps := [0 ≤ h ∧ h < ((20 : Nat) : Int)]) rfl (by simp only [all_, i32, i64]; first | omega | (simp; done) | (simp; omega)) ?_
              refine rch_br cdK147 (cd := J 104 h.toNat = 0) (t1 := (238, [some (vR 74), some (vI d), some (vI k), some (vI i), some (vI j), some (vI s), some (vI h), some (vI 1)], [vI s], MW b J L)) (t2 := (234, [some (vR 74), some (vI d), some (vI k), some (vI i), some (vI j), some (vI s), some (vI h), some (vI 1)], [vI s], MW b J L)) rfl (fun c231_9 => ?_) (fun c231_9 => ?_)
              · refine rch_run cdK147 (by decide) 5 (t' := (114, [some (vR 74), some (vI d), some (vI k), some (vI i), some (vI j), some (vI (bOr s 2)), some (vI (h + 1)), some (vI 1)], [], MW b J L)) (ps := [i32 (h + 1)]) rfl (by simp only [all_, i32, i64]; first | omega | (simp; done) | (simp; omega)) ?_
                refine rch_forget [7] ?_
                show Rch l E 5 147 _ _ _ _ (114, [some (vR 74), some (vI d), some (vI k), some (vI i), some (vI j), some (vI (bOr s 2)), some (vI (h + 1)), none], [], MW b J L)
                exact ih (h + 1) _ (by omega) (by omega) (by rw [hh9]; exact Sy_yes h3 (by unfold knM; omega) (by omega) (by first | exact Or.inl ⟨by omega, rfl⟩ | exact Or.inr ⟨by omega, rfl⟩)) (by omega)
              · refine rch_run cdK147 (by decide) 6 (t' := (114, [some (vR 74), some (vI d), some (vI k), some (vI i), some (vI j), some (vI (bOr s 1)), some (vI (h + 1)), some (vI 1)], [], MW b J L)) (ps := [i32 (h + 1)]) rfl (by simp only [all_, i32, i64]; first | omega | (simp; done) | (simp; omega)) ?_
                refine rch_forget [7] ?_
                show Rch l E 5 147 _ _ _ _ (114, [some (vR 74), some (vI d), some (vI k), some (vI i), some (vI j), some (vI (bOr s 1)), some (vI (h + 1)), none], [], MW b J L)
                exact ih (h + 1) _ (by omega) (by omega) (by rw [hh9]; exact Sy_yes h3 (by unfold knM; omega) (by omega) (by first | exact Or.inl ⟨by omega, rfl⟩ | exact Or.inr ⟨by omega, rfl⟩)) (by omega)
            · show Rch l E 5 147 _ _ _ _ (219, [some (vR 74), some (vI d), some (vI k), some (vI i), some (vI j), some (vI s), some (vI h), some (vI 1)], [vI 0], MW b J L)
              have k54 : ¬ (J 102 h.toNat ≤ k ∧ ¬ (0 ≤ J 103 h.toNat ∧ J 103 h.toNat ≤ k)) := k54
              refine rch_br cdK147 (cd := (0 : Int) = 0) (t1 := (242, [some (vR 74), some (vI d), some (vI k), some (vI i), some (vI j), some (vI s), some (vI h), some (vI 1)], [], MW b J L)) (t2 := (222, [some (vR 74), some (vI d), some (vI k), some (vI i), some (vI j), some (vI s), some (vI h), some (vI 1)], [], MW b J L)) rfl (fun _ => ?_) (fun c9 => absurd (by decide) c9)
              refine rch_run cdK147 (by decide) 2 (t' := (114, [some (vR 74), some (vI d), some (vI k), some (vI i), some (vI j), some (vI s), some (vI (h + 1)), some (vI 1)], [], MW b J L)) (ps := [i32 (h + 1)]) rfl (by simp only [all_, i32, i64]; first | omega | (simp; done) | (simp; omega)) ?_
              refine rch_forget [7] ?_
              show Rch l E 5 147 _ _ _ _ (114, [some (vR 74), some (vI d), some (vI k), some (vI i), some (vI j), some (vI s), some (vI (h + 1)), none], [], MW b J L)
              exact ih (h + 1) s (by omega) (by omega) (by rw [hh9]; refine Sy_no h3 ?_; unfold knM; omega) (by omega)
      · refine rch_run cdK147 (by decide) 8 (t' := (153, [some (vR 74), some (vI d), some (vI k), some (vI i), some (vI j), some (vI s), some (vI h), none], [vI (J 110 j.toNat), vI (J 101 h.toNat)], MW b J L)) (ps := [0 ≤ h ∧ h < ((20 : Nat) : Int), 0 ≤ j ∧ j < ((10 : Nat) : Int)]) rfl (by simp only [all_, i32, i64]; first | omega | (simp; done) | (simp; omega)) ?_
        refine rch_br cdK147 (cd := J 101 h.toNat = J 110 j.toNat) (t1 := (189, [some (vR 74), some (vI d), some (vI k), some (vI i), some (vI j), some (vI s), some (vI h), none], [], MW b J L)) (t2 := (156, [some (vR 74), some (vI d), some (vI k), some (vI i), some (vI j), some (vI s), some (vI h), none], [], MW b J L)) rfl (fun c153_11 => ?_) (fun c153_11 => ?_)
        · refine rch_run cdK147 (by decide) 4 (t' := (198, [some (vR 74), some (vI d), some (vI k), some (vI i), some (vI j), some (vI s), some (vI h), some (vI 1)], [vI 1], MW b J L)) (ps := []) rfl trivial ?_
          refine rch_br cdK147 (cd := (1 : Int) = 0) (t1 := (242, [some (vR 74), some (vI d), some (vI k), some (vI i), some (vI j), some (vI s), some (vI h), some (vI 1)], [], MW b J L)) (t2 := (201, [some (vR 74), some (vI d), some (vI k), some (vI i), some (vI j), some (vI s), some (vI h), some (vI 1)], [], MW b J L)) rfl (fun c9 => absurd c9 (by decide)) (fun _ => ?_)
          refine rch_run cdK147 (by decide) 9 (t' := (216, [some (vR 74), some (vI d), some (vI k), some (vI i), some (vI j), some (vI s), some (vI h), some (vI 1)], [vI k, vI (J 103 h.toNat), vI (J 102 h.toNat)], MW b J L)) (ps := [0 ≤ h ∧ h < ((20 : Nat) : Int), 0 ≤ h ∧ h < ((20 : Nat) : Int)]) rfl (by simp only [all_, i32, i64]; first | omega | (simp; done) | (simp; omega)) ?_
          refine rch_call (h' := 1) (k' := 142) (as := [vI (J 102 h.toNat), vI (J 103 h.toNat), vI k]) (t1 := (219, [some (vR 74), some (vI d), some (vI k), some (vI i), some (vI j), some (vI s), some (vI h), some (vI 1)], [], MW b J L)) cdK147 rfl (k_X12_isKnown l E b J L (J 102 h.toNat) (J 103 h.toNat) k ) (by decide) mw_le ?_
          rintro rt9 w9 (⟨k55, rfl, rfl⟩ | ⟨k55, rfl, rfl⟩) _ _
          · show Rch l E 5 147 _ _ _ _ (219, [some (vR 74), some (vI d), some (vI k), some (vI i), some (vI j), some (vI s), some (vI h), some (vI 1)], [vI 1], MW b J L)
            have k55 : J 102 h.toNat ≤ k ∧ ¬ (0 ≤ J 103 h.toNat ∧ J 103 h.toNat ≤ k) := k55
            refine rch_br cdK147 (cd := (1 : Int) = 0) (t1 := (242, [some (vR 74), some (vI d), some (vI k), some (vI i), some (vI j), some (vI s), some (vI h), some (vI 1)], [], MW b J L)) (t2 := (222, [some (vR 74), some (vI d), some (vI k), some (vI i), some (vI j), some (vI s), some (vI h), some (vI 1)], [], MW b J L)) rfl (fun c9 => absurd c9 (by decide)) (fun _ => ?_)
            refine rch_run cdK147 (by decide) 5 (t' := (231, [some (vR 74), some (vI d), some (vI k), some (vI i), some (vI j), some (vI s), some (vI h), some (vI 1)], [vI (J 104 h.toNat), vI s], MW b J L)) (ps := [0 ≤ h ∧ h < ((20 : Nat) : Int)]) rfl (by simp only [all_, i32, i64]; first | omega | (simp; done) | (simp; omega)) ?_
            refine rch_br cdK147 (cd := J 104 h.toNat = 0) (t1 := (238, [some (vR 74), some (vI d), some (vI k), some (vI i), some (vI j), some (vI s), some (vI h), some (vI 1)], [vI s], MW b J L)) (t2 := (234, [some (vR 74), some (vI d), some (vI k), some (vI i), some (vI j), some (vI s), some (vI h), some (vI 1)], [vI s], MW b J L)) rfl (fun c231_14 => ?_) (fun c231_14 => ?_)
            · refine rch_run cdK147 (by decide) 5 (t' := (114, [some (vR 74), some (vI d), some (vI k), some (vI i), some (vI j), some (vI (bOr s 2)), some (vI (h + 1)), some (vI 1)], [], MW b J L)) (ps := [i32 (h + 1)]) rfl (by simp only [all_, i32, i64]; first | omega | (simp; done) | (simp; omega)) ?_
              refine rch_forget [7] ?_
              show Rch l E 5 147 _ _ _ _ (114, [some (vR 74), some (vI d), some (vI k), some (vI i), some (vI j), some (vI (bOr s 2)), some (vI (h + 1)), none], [], MW b J L)
              exact ih (h + 1) _ (by omega) (by omega) (by rw [hh9]; exact Sy_yes h3 (by unfold knM; omega) (by omega) (by first | exact Or.inl ⟨by omega, rfl⟩ | exact Or.inr ⟨by omega, rfl⟩)) (by omega)
            · refine rch_run cdK147 (by decide) 6 (t' := (114, [some (vR 74), some (vI d), some (vI k), some (vI i), some (vI j), some (vI (bOr s 1)), some (vI (h + 1)), some (vI 1)], [], MW b J L)) (ps := [i32 (h + 1)]) rfl (by simp only [all_, i32, i64]; first | omega | (simp; done) | (simp; omega)) ?_
              refine rch_forget [7] ?_
              show Rch l E 5 147 _ _ _ _ (114, [some (vR 74), some (vI d), some (vI k), some (vI i), some (vI j), some (vI (bOr s 1)), some (vI (h + 1)), none], [], MW b J L)
              exact ih (h + 1) _ (by omega) (by omega) (by rw [hh9]; exact Sy_yes h3 (by unfold knM; omega) (by omega) (by first | exact Or.inl ⟨by omega, rfl⟩ | exact Or.inr ⟨by omega, rfl⟩)) (by omega)
          · show Rch l E 5 147 _ _ _ _ (219, [some (vR 74), some (vI d), some (vI k), some (vI i), some (vI j), some (vI s), some (vI h), some (vI 1)], [vI 0], MW b J L)
            have k55 : ¬ (J 102 h.toNat ≤ k ∧ ¬ (0 ≤ J 103 h.toNat ∧ J 103 h.toNat ≤ k)) := k55
            refine rch_br cdK147 (cd := (0 : Int) = 0) (t1 := (242, [some (vR 74), some (vI d), some (vI k), some (vI i), some (vI j), some (vI s), some (vI h), some (vI 1)], [], MW b J L)) (t2 := (222, [some (vR 74), some (vI d), some (vI k), some (vI i), some (vI j), some (vI s), some (vI h), some (vI 1)], [], MW b J L)) rfl (fun _ => ?_) (fun c9 => absurd (by decide) c9)
            refine rch_run cdK147 (by decide) 2 (t' := (114, [some (vR 74), some (vI d), some (vI k), some (vI i), some (vI j), some (vI s), some (vI (h + 1)), some (vI 1)], [], MW b J L)) (ps := [i32 (h + 1)]) rfl (by simp only [all_, i32, i64]; first | omega | (simp; done) | (simp; omega)) ?_
            refine rch_forget [7] ?_
            show Rch l E 5 147 _ _ _ _ (114, [some (vR 74), some (vI d), some (vI k), some (vI i), some (vI j), some (vI s), some (vI (h + 1)), none], [], MW b J L)
            exact ih (h + 1) s (by omega) (by omega) (by rw [hh9]; refine Sy_no h3 ?_; unfold knM; omega) (by omega)
        · refine rch_run cdK147 (by decide) 8 (t' := (170, [some (vR 74), some (vI d), some (vI k), some (vI i), some (vI j), some (vI s), some (vI h), none], [vI (J 110 j.toNat), vI (J 100 h.toNat)], MW b J L)) (ps := [0 ≤ h ∧ h < ((20 : Nat) : Int), 0 ≤ j ∧ j < ((10 : Nat) : Int)]) rfl (by simp only [all_, i32, i64]; first | omega | (simp; done) | (simp; omega)) ?_
          refine rch_br cdK147 (cd := J 100 h.toNat ≠ J 110 j.toNat) (t1 := (193, [some (vR 74), some (vI d), some (vI k), some (vI i), some (vI j), some (vI s), some (vI h), none], [], MW b J L)) (t2 := (173, [some (vR 74), some (vI d), some (vI k), some (vI i), some (vI j), some (vI s), some (vI h), none], [], MW b J L)) rfl (fun c170_16 => ?_) (fun c170_16 => ?_)
          · refine rch_run cdK147 (by decide) 3 (t' := (198, [some (vR 74), some (vI d), some (vI k), some (vI i), some (vI j), some (vI s), some (vI h), some (vI 0)], [vI 0], MW b J L)) (ps := []) rfl trivial ?_
            refine rch_br cdK147 (cd := (0 : Int) = 0) (t1 := (242, [some (vR 74), some (vI d), some (vI k), some (vI i), some (vI j), some (vI s), some (vI h), some (vI 0)], [], MW b J L)) (t2 := (201, [some (vR 74), some (vI d), some (vI k), some (vI i), some (vI j), some (vI s), some (vI h), some (vI 0)], [], MW b J L)) rfl (fun _ => ?_) (fun c9 => absurd (by decide) c9)
            refine rch_run cdK147 (by decide) 2 (t' := (114, [some (vR 74), some (vI d), some (vI k), some (vI i), some (vI j), some (vI s), some (vI (h + 1)), some (vI 0)], [], MW b J L)) (ps := [i32 (h + 1)]) rfl (by simp only [all_, i32, i64]; first | omega | (simp; done) | (simp; omega)) ?_
            refine rch_forget [7] ?_
            show Rch l E 5 147 _ _ _ _ (114, [some (vR 74), some (vI d), some (vI k), some (vI i), some (vI j), some (vI s), some (vI (h + 1)), none], [], MW b J L)
            exact ih (h + 1) s (by omega) (by omega) (by rw [hh9]; refine Sy_no h3 ?_; unfold knM; omega) (by omega)
          · refine rch_run cdK147 (by decide) 8 (t' := (186, [some (vR 74), some (vI d), some (vI k), some (vI i), some (vI j), some (vI s), some (vI h), none], [vI (J 110 i.toNat), vI (J 101 h.toNat)], MW b J L)) (ps := [0 ≤ h ∧ h < ((20 : Nat) : Int), 0 ≤ i ∧ i < ((10 : Nat) : Int)]) rfl (by simp only [all_, i32, i64]; first | omega | (simp; done) | (simp; omega)) ?_
            refine rch_br cdK147 (cd := J 101 h.toNat ≠ J 110 i.toNat) (t1 := (193, [some (vR 74), some (vI d), some (vI k), some (vI i), some (vI j), some (vI s), some (vI h), none], [], MW b J L)) (t2 := (189, [some (vR 74), some (vI d), some (vI k), some (vI i), some (vI j), some (vI s), some (vI h), none], [], MW b J L)) rfl (fun c186_18 => ?_) (fun c186_18 => ?_)
            · refine rch_run cdK147 (by decide) 3 (t' := (198, [some (vR 74), some (vI d), some (vI k), some (vI i), some (vI j), some (vI s), some (vI h), some (vI 0)], [vI 0], MW b J L)) (ps := []) rfl trivial ?_
              refine rch_br cdK147 (cd := (0 : Int) = 0) (t1 := (242, [some (vR 74), some (vI d), some (vI k), some (vI i), some (vI j), some (vI s), some (vI h), some (vI 0)], [], MW b J L)) (t2 := (201, [some (vR 74), some (vI d), some (vI k), some (vI i), some (vI j), some (vI s), some (vI h), some (vI 0)], [], MW b J L)) rfl (fun _ => ?_) (fun c9 => absurd (by decide) c9)
              refine rch_run cdK147 (by decide) 2 (t' := (114, [some (vR 74), some (vI d), some (vI k), some (vI i), some (vI j), some (vI s), some (vI (h + 1)), some (vI 0)], [], MW b J L)) (ps := [i32 (h + 1)]) rfl (by simp only [all_, i32, i64]; first | omega | (simp; done) | (simp; omega)) ?_
              refine rch_forget [7] ?_
              show Rch l E 5 147 _ _ _ _ (114, [some (vR 74), some (vI d), some (vI k), some (vI i), some (vI j), some (vI s), some (vI (h + 1)), none], [], MW b J L)
              exact ih (h + 1) s (by omega) (by omega) (by rw [hh9]; refine Sy_no h3 ?_; unfold knM; omega) (by omega)
            · refine rch_run cdK147 (by decide) 4 (t' := (198, [some (vR 74), some (vI d), some (vI k), some (vI i), some (vI j), some (vI s), some (vI h), some (vI 1)], [vI 1], MW b J L)) (ps := []) rfl trivial ?_
              refine rch_br cdK147 (cd := (1 : Int) = 0) (t1 := (242, [some (vR 74), some (vI d), some (vI k), some (vI i), some (vI j), some (vI s), some (vI h), some (vI 1)], [], MW b J L)) (t2 := (201, [some (vR 74), some (vI d), some (vI k), some (vI i), some (vI j), some (vI s), some (vI h), some (vI 1)], [], MW b J L)) rfl (fun c9 => absurd c9 (by decide)) (fun _ => ?_)
              refine rch_run cdK147 (by decide) 9 (t' := (216, [some (vR 74), some (vI d), some (vI k), some (vI i), some (vI j), some (vI s), some (vI h), some (vI 1)], [vI k, vI (J 103 h.toNat), vI (J 102 h.toNat)], MW b J L)) (ps := [0 ≤ h ∧ h < ((20 : Nat) : Int), 0 ≤ h ∧ h < ((20 : Nat) : Int)]) rfl (by simp only [all_, i32, i64]; first | omega | (simp; done) | (simp; omega)) ?_
              refine rch_call (h' := 1) (k' := 142) (as := [vI (J 102 h.toNat), vI (J 103 h.toNat), vI k]) (t1 := (219, [some (vR 74), some (vI d), some (vI k), some (vI i), some (vI j), some (vI s), some (vI h), some (vI 1)], [], MW b J L)) cdK147 rfl (k_X12_isKnown l E b J L (J 102 h.toNat) (J 103 h.toNat) k ) (by decide) mw_le ?_
              rintro rt9 w9 (⟨k56, rfl, rfl⟩ | ⟨k56, rfl, rfl⟩) _ _
              · show Rch l E 5 147 _ _ _ _ (219, [some (vR 74), some (vI d), some (vI k), some (vI i), some (vI j), some (vI s), some (vI h), some (vI 1)], [vI 1], MW b J L)
                have k56 : J 102 h.toNat ≤ k ∧ ¬ (0 ≤ J 103 h.toNat ∧ J 103 h.toNat ≤ k) := k56
                refine rch_br cdK147 (cd := (1 : Int) = 0) (t1 := (242, [some (vR 74), some (vI d), some (vI k), some (vI i), some (vI j), some (vI s), some (vI h), some (vI 1)], [], MW b J L)) (t2 := (222, [some (vR 74), some (vI d), some (vI k), some (vI i), some (vI j), some (vI s), some (vI h), some (vI 1)], [], MW b J L)) rfl (fun c9 => absurd c9 (by decide)) (fun _ => ?_)
                refine rch_run cdK147 (by decide) 5 (t' := (231, [some (vR 74), some (vI d), some (vI k), some (vI i), some (vI j), some (vI s), some (vI h), some (vI 1)], [vI (J 104 h.toNat), vI s], MW b J L)) (ps := [0 ≤ h ∧ h < ((20 : Nat) : Int)]) rfl (by simp only [all_, i32, i64]; first | omega | (simp; done) | (simp; omega)) ?_
                refine rch_br cdK147 (cd := J 104 h.toNat = 0) (t1 := (238, [some (vR 74), some (vI d), some (vI k), some (vI i), some (vI j), some (vI s), some (vI h), some (vI 1)], [vI s], MW b J L)) (t2 := (234, [some (vR 74), some (vI d), some (vI k), some (vI i), some (vI j), some (vI s), some (vI h), some (vI 1)], [vI s], MW b J L)) rfl (fun c231_22 => ?_) (fun c231_22 => ?_)
                · refine rch_run cdK147 (by decide) 5 (t' := (114, [some (vR 74), some (vI d), some (vI k), some (vI i), some (vI j), some (vI (bOr s 2)), some (vI (h + 1)), some (vI 1)], [], MW b J L)) (ps := [i32 (h + 1)]) rfl (by simp only [all_, i32, i64]; first | omega | (simp; done) | (simp; omega)) ?_
                  refine rch_forget [7] ?_
                  show Rch l E 5 147 _ _ _ _ (114, [some (vR 74), some (vI d), some (vI k), some (vI i), some (vI j), some (vI (bOr s 2)), some (vI (h + 1)), none], [], MW b J L)
                  exact ih (h + 1) _ (by omega) (by omega) (by rw [hh9]; exact Sy_yes h3 (by unfold knM; omega) (by omega) (by first | exact Or.inl ⟨by omega, rfl⟩ | exact Or.inr ⟨by omega, rfl⟩)) (by omega)
                · refine rch_run cdK147 (by decide) 6 (t' := (114, [some (vR 74), some (vI d), some (vI k), some (vI i), some (vI j), some (vI (bOr s 1)), some (vI (h + 1)), some (vI 1)], [], MW b J L)) (ps := [i32 (h + 1)]) rfl (by simp only [all_, i32, i64]; first | omega | (simp; done) | (simp; omega)) ?_
                  refine rch_forget [7] ?_
                  show Rch l E 5 147 _ _ _ _ (114, [some (vR 74), some (vI d), some (vI k), some (vI i), some (vI j), some (vI (bOr s 1)), some (vI (h + 1)), none], [], MW b J L)
                  exact ih (h + 1) _ (by omega) (by omega) (by rw [hh9]; exact Sy_yes h3 (by unfold knM; omega) (by omega) (by first | exact Or.inl ⟨by omega, rfl⟩ | exact Or.inr ⟨by omega, rfl⟩)) (by omega)
              · show Rch l E 5 147 _ _ _ _ (219, [some (vR 74), some (vI d), some (vI k), some (vI i), some (vI j), some (vI s), some (vI h), some (vI 1)], [vI 0], MW b J L)
                have k56 : ¬ (J 102 h.toNat ≤ k ∧ ¬ (0 ≤ J 103 h.toNat ∧ J 103 h.toNat ≤ k)) := k56
                refine rch_br cdK147 (cd := (0 : Int) = 0) (t1 := (242, [some (vR 74), some (vI d), some (vI k), some (vI i), some (vI j), some (vI s), some (vI h), some (vI 1)], [], MW b J L)) (t2 := (222, [some (vR 74), some (vI d), some (vI k), some (vI i), some (vI j), some (vI s), some (vI h), some (vI 1)], [], MW b J L)) rfl (fun _ => ?_) (fun c9 => absurd (by decide) c9)
                refine rch_run cdK147 (by decide) 2 (t' := (114, [some (vR 74), some (vI d), some (vI k), some (vI i), some (vI j), some (vI s), some (vI (h + 1)), some (vI 1)], [], MW b J L)) (ps := [i32 (h + 1)]) rfl (by simp only [all_, i32, i64]; first | omega | (simp; done) | (simp; omega)) ?_
                refine rch_forget [7] ?_
                show Rch l E 5 147 _ _ _ _ (114, [some (vR 74), some (vI d), some (vI k), some (vI i), some (vI j), some (vI s), some (vI (h + 1)), none], [], MW b J L)
                exact ih (h + 1) s (by omega) (by omega) (by rw [hh9]; refine Sy_no h3 ?_; unfold knM; omega) (by omega)

theorem msm_c {I J : Nat → Nat → Int} (h : ∀ a, (74 ≤ a ∧ a ≤ 91) → J a = I a) (p q d k : Int) : ∀ n : Nat, msm J p q d k n = msm I p q d k n
  | 0 => rfl
  | n + 1 => by
    have e : mhl J p q d k n = mhl I p q d k n := by
      unfold mhl mTst
      rw [h 90 (by omega), h 87 (by omega), h 89 (by omega), h 88 (by omega), h 78 (by omega), h 81 (by omega), h 82 (by omega), h 83 (by omega), h 84 (by omega), h 85 (by omega), h 74 (by omega)]
    show msm J p q d k n + _ = msm I p q d k n + _
    rw [msm_c h p q d k n, e, h 91 (by omega)]

set_option maxHeartbeats 20000000 in
set_option maxRecDepth 100000 in
theorem lp_part2j (l : Launch) (E : AX) (b : Bool) (I0 I L : Nat → Nat → Int) (d k : Int) (n : Nat) (hn : n ≤ 10) (h55 : I 74 55 = (n : Int)) (hH : 0 ≤ I 74 43 ∧ I 74 43 ≤ 20) (hro : ∀ j : Nat, j < n → 0 ≤ I 110 j ∧ I 110 j < 10) (hB : MBK I) (hM : VMK I) (Φ : Option AV → AW → Prop) (i : Int) (hi : 0 ≤ i ∧ i < (n : Int)) (hk : ∀ J, FR2 I J → (∀ x y : Nat, y < x → (x : Int) < i + 1 → Pr2 I J d k x y) → Rch l E 5 147 (MW b I0 L) 0 0 Φ (60, [some (vR 74), some (vI d), some (vI k), some (vI (i + 1)), none, none, none, none], [], MW b J L)) : ∀ (n9 : Nat) (j : Int) (J : Nat → Nat → Int), 0 ≤ j → j ≤ i → FR2 I J → (∀ x y : Nat, y < x → ((x : Int) < i ∨ ((x : Int) = i ∧ (y : Int) < j)) → Pr2 I J d k x y) → i - j < (n9 : Int) → Rch l E 5 147 (MW b I0 L) 0 0 (Φ) (71, [some (vR 74), some (vI d), some (vI k), some (vI i), some (vI j), none, none, none], [], MW b J L) := by
  intro n9
  induction n9 with
  | zero =>
    intro j J h1 h2 h3 h4 hm
    exfalso; omega
  | succ n9 ih =>
    intro j J h1 h2 h3 h4 hm
    have q110 := h3 110 i.toNat (by omega)
    have q111 := h3 110 j.toNat (by omega)
    have hJ : ∀ a, ¬ (a = 99 ∨ a = 116 ∨ a = 117) → J a = I a := fun a ha => funext (fun z => h3 a z ha)
    refine rch_run cdK147 (by decide) 2 (t' := (74, [some (vR 74), some (vI d), some (vI k), some (vI i), some (vI j), none, none, none], [vI i, vI j], MW b J L)) (ps := []) rfl trivial ?_
    refine rch_br cdK147 (cd := i ≤ j) (t1 := (268, [some (vR 74), some (vI d), some (vI k), some (vI i), some (vI j), none, none, none], [], MW b J L)) (t2 := (77, [some (vR 74), some (vI d), some (vI k), some (vI i), some (vI j), none, none, none], [], MW b J L)) rfl (fun c74_1 => ?_) (fun c74_1 => ?_)
    · refine rch_run cdK147 (by decide) 2 (t' := (60, [some (vR 74), some (vI d), some (vI k), some (vI (i + 1)), some (vI j), none, none, none], [], MW b J L)) (ps := [i32 (i + 1)]) rfl (by simp only [all_, i32, i64]; first | omega | (simp; done) | (simp; omega)) ?_
      refine rch_forget [4] ?_
      show Rch l E 5 147 _ _ _ _ (60, [some (vR 74), some (vI d), some (vI k), some (vI (i + 1)), none, none, none, none], [], MW b J L)
      exact hk J h3 (fun x y hxy hc => h4 x y hxy (by omega))
    · refine rch_run cdK147 (by decide) 18 (t' := (104, [some (vR 74), some (vI d), some (vI k), some (vI i), some (vI j), none, none, none], [vI k, vI d, vI (J 110 i.toNat), vI (J 110 j.toNat), vR 74, vI ((10 * i) + j), vR 116], MW b J L)) (ps := [i32 (10 * i), i32 ((10 * i) + j), 0 ≤ j ∧ j < ((10 : Nat) : Int), 0 ≤ i ∧ i < ((10 : Nat) : Int)]) rfl (by simp only [all_, i32, i64]; first | omega | (simp; done) | (simp; omega)) ?_
      refine rch_call (h' := 4) (k' := 140) (as := [vR 74, vI (J 110 j.toNat), vI (J 110 i.toNat), vI d, vI k]) (t1 := (107, [some (vR 74), some (vI d), some (vI k), some (vI i), some (vI j), none, none, none], [vI ((10 * i) + j), vR 116], MW b J L)) cdK147 rfl (k_scoreOf l E b J L (J 110 j.toNat) (J 110 i.toNat) d k (by rw [q110, q111]; have h6 := hro i.toNat (by omega); have h7 := hro j.toNat (by omega); omega) (by unfold MBK; rw [hJ 74 (by decide), hJ 90 (by decide), hJ 87 (by decide), hJ 91 (by decide)]; exact hB) (by unfold VMK; rw [hJ 74 (by decide), hJ 83 (by decide)]; exact hM)) (by decide) mw_le ?_
      rintro rt9 w9 (⟨J2, rfl, f2, e9⟩) _ _
      have e8 : msm J (J 110 j.toNat) (J 110 i.toNat) d k (J 74 20).toNat = msm I (I 110 j.toNat) (I 110 i.toNat) d k (I 74 20).toNat := by rw [q110, q111, hJ 74 (by decide)]; exact msm_c (fun a ha => hJ a (by omega)) _ _ _ _ _
      rw [e8] at e9
      subst e9
      show Rch l E 5 147 _ _ _ _ (107, [some (vR 74), some (vI d), some (vI k), some (vI i), some (vI j), none, none, none], [vI (msm I (I 110 j.toNat) (I 110 i.toNat) d k (I 74 20).toNat), vI ((10 * i) + j), vR 116], MW b J2 L)
      refine rch_run cdK147 (by decide) 5 (t' := (114, [some (vR 74), some (vI d), some (vI k), some (vI i), some (vI j), some (vI 0), some (vI 0), none], [], MW b (upI J2 116 ((10 * i) + j).toNat (msm I (I 110 j.toNat) (I 110 i.toNat) d k (I 74 20).toNat)) L)) (ps := [0 ≤ (10 * i) + j ∧ (10 * i) + j < ((100 : Nat) : Int)]) rfl (by simp only [all_, i32, i64]; first | omega | (simp; done) | (simp; omega)) ?_
      refine rch_forget [7] ?_
      show Rch l E 5 147 _ _ _ _ (114, [some (vR 74), some (vI d), some (vI k), some (vI i), some (vI j), some (vI 0), some (vI 0), none], [], MW b (upI J2 116 ((10 * i) + j).toNat (msm I (I 110 j.toNat) (I 110 i.toNat) d k (I 74 20).toNat)) L)
      refine lp_part2h l E b I0 I L d k n hn h55 hH hro hB hM _ _ (fun a z hz => by rw [upI_ne (by omega), f2 a z (by omega)]; exact h3 a z hz) i j (by omega) (fun s hs => ?_) 21 0 0 (by omega) hH.1 ⟨by omega, ⟨fun z => absurd z (by decide), fun ⟨q, q1, _⟩ => absurd q1 (by simp)⟩, ⟨fun z => absurd z (by decide), fun ⟨q, q1, _⟩ => absurd q1 (by simp)⟩⟩ (by omega)
      have hx9 : ((10 * i) + j).toNat = 10 * i.toNat + j.toNat := by omega
      refine ih (j + 1) _ (by omega) (by omega) (fun a z hz => by rw [upI_ne (by omega), upI_ne (by omega), f2 a z (by omega)]; exact h3 a z hz) (fun x y hxy hc => ?_) (by omega)
      by_cases e : x = i.toNat ∧ y = j.toNat
      · rw [e.1, e.2]; exact ⟨by rw [upI_ne (by omega), upI_eq rfl hx9.symm], by rw [upI_eq rfl hx9.symm]; exact hs⟩
      · unfold Pr2; rw [upI_ne (by omega), upI_ne (by omega), upI_ne (by omega), upI_ne (by omega), f2 116 _ (by omega), f2 117 _ (by omega)]; exact h4 x y hxy (by omega)

set_option maxHeartbeats 20000000 in
set_option maxRecDepth 100000 in
theorem lp_part2 (l : Launch) (E : AX) (b : Bool) (I0 I L : Nat → Nat → Int) (d k : Int) (n : Nat) (hn : n ≤ 10) (h55 : I 74 55 = (n : Int)) (hH : 0 ≤ I 74 43 ∧ I 74 43 ≤ 20) (hro : ∀ j : Nat, j < n → 0 ≤ I 110 j ∧ I 110 j < 10) (hB : MBK I) (hM : VMK I) (Φ : Option AV → AW → Prop) (hk : ∀ J, FR2 I J → (∀ x y : Nat, y < x → x < n → Pr2 I J d k x y) → Rch l E 5 147 (MW b I0 L) 0 0 Φ (274, [some (vR 74), some (vI d), some (vI k), some (vI (n : Int)), none, none, none, none], [], MW b J L)) : ∀ (n9 : Nat) (i : Int) (J : Nat → Nat → Int), 0 ≤ i → i ≤ (n : Int) → FR2 I J → (∀ x y : Nat, y < x → (x : Int) < i → Pr2 I J d k x y) → (n : Int) - i < (n9 : Int) → Rch l E 5 147 (MW b I0 L) 0 0 (Φ) (60, [some (vR 74), some (vI d), some (vI k), some (vI i), none, none, none, none], [], MW b J L) := by
  intro n9
  induction n9 with
  | zero =>
    intro i J h1 h2 h3 h4 hm
    exfalso; omega
  | succ n9 ih =>
    intro i J h1 h2 h3 h4 hm
    have q55 := h3 74 55 (by omega)
    refine rch_run cdK147 (by decide) 3 (t' := (65, [some (vR 74), some (vI d), some (vI k), some (vI i), none, none, none, none], [vI (J 74 55), vI i], MW b J L)) (ps := []) rfl trivial ?_
    refine rch_br cdK147 (cd := J 74 55 ≤ i) (t1 := (274, [some (vR 74), some (vI d), some (vI k), some (vI i), none, none, none, none], [], MW b J L)) (t2 := (68, [some (vR 74), some (vI d), some (vI k), some (vI i), none, none, none, none], [], MW b J L)) rfl (fun c65_1 => ?_) (fun c65_1 => ?_)
    · have hin : i = (n : Int) := by omega
      rw [hin]
      exact hk J h3 (fun x y hxy hc => h4 x y hxy (by omega))
    · refine rch_run cdK147 (by decide) 2 (t' := (71, [some (vR 74), some (vI d), some (vI k), some (vI i), some (vI 0), none, none, none], [], MW b J L)) (ps := []) rfl trivial ?_
      exact lp_part2j l E b I0 I L d k n hn h55 hH hro hB hM _ i (by omega) (fun J2 h5 h6 => ih (i + 1) J2 (by omega) (by omega) h5 (fun x y hxy hc => h6 x y hxy (by omega)) (by omega)) 11 0 J (by omega) (by omega) h3 (fun x y hxy hc => h4 x y hxy (by omega)) (by omega)
