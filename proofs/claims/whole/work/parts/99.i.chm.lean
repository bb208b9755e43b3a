theorem k_changesM (l : Launch) (E : AX) (b : Bool) (I L : Nat → Nat → Int) (s : Int) (hP : PMk I) (hG : ∀ f : Int, 0 ≤ f → f ≤ 5 → GMk I f (I 74 0)) (h75 : 0 ≤ I 74 75 ∧ I 74 75 ≤ 60) : Con l E 7 160 [vR 74, vI s] (MW b I L) 0 0 (fun rt w => ((0 ≤ s ∧ s < 6) ∧ ∃ J M, SKR I L J M s ∧ rt = some (vI (J 74 76)) ∧ w = MW b J M) ∨ (¬ (0 ≤ s ∧ s < 6) ∧ rt = some (vI (-1)) ∧ w = MW b I L)) := by
  refine con_ok (fun hw9 hs9 => ?_)
  refine con_intro (by decide) (Nat.le_of_ble_eq_true rfl) ?_
  show Rch l E 7 160 _ _ _ _ (0, [some (vR 74), some (vI s)], [], MW b I L)
  refine rch_run cdK160 (by decide) 1 (t' := (1, [some (vR 74), some (vI s)], [vI s], MW b I L)) (ps := []) rfl trivial ?_
  refine rch_call (h' := 1) (k' := 103) (as := [vI s]) (t1 := (4, [some (vR 74), some (vI s)], [], MW b I L)) cdK160 rfl (k_X12_isSource l E b I L s ) (by decide) mw_le ?_
  rintro rt9 w9 (⟨k88, rfl, rfl⟩ | ⟨k88, rfl, rfl⟩) _ _
  · show Rch l E 7 160 _ _ _ _ (4, [some (vR 74), some (vI s)], [vI 1], MW b I L)
    have k88 : 0 ≤ s ∧ s ≤ 5 := k88
    refine rch_br cdK160 (cd := (1 : Int) ≠ 0) (t1 := (9, [some (vR 74), some (vI s)], [], MW b I L)) (t2 := (7, [some (vR 74), some (vI s)], [], MW b I L)) rfl (fun _ => ?_) (fun c9 => absurd (by decide) c9)
    refine rch_run cdK160 (by decide) 2 (t' := (11, [some (vR 74), some (vI s)], [vI s, vR 74], MW b I L)) (ps := []) rfl trivial ?_
    refine rch_call (h' := 6) (k' := 159) (as := [vR 74, vI s]) (t1 := (14, [some (vR 74), some (vI s)], [], MW b I L)) cdK160 rfl (k_seek l E b I L s hP hG (by omega) h75) (by decide) mw_le ?_
    rintro rt9 w9 (⟨J1, M1, rfl, rfl, t1⟩) _ _
    show Rch l E 7 160 _ _ _ _ (14, [some (vR 74), some (vI s)], [], MW b J1 M1)
    have hrg := SKR_rg t1
    refine rch_run cdK160 (by decide) 2 (t' := (18, [some (vR 74), some (vI s)], [vI (J1 74 76)], MW b J1 M1)) (ps := []) rfl trivial ?_
    refine rch_ret cdK160 (rt := some (vI (J1 74 76))) rfl trivial mw_c ?_
    exact Or.inl ⟨by omega, J1, M1, t1, rfl, rfl⟩
  · show Rch l E 7 160 _ _ _ _ (4, [some (vR 74), some (vI s)], [vI 0], MW b I L)
    have k88 : ¬ (0 ≤ s ∧ s ≤ 5) := k88
    refine rch_br cdK160 (cd := (0 : Int) ≠ 0) (t1 := (9, [some (vR 74), some (vI s)], [], MW b I L)) (t2 := (7, [some (vR 74), some (vI s)], [], MW b I L)) rfl (fun c9 => absurd c9 (by decide)) (fun _ => ?_)
    refine rch_run cdK160 (by decide) 1 (t' := (8, [some (vR 74), some (vI s)], [vI (-1)], MW b I L)) (ps := []) rfl trivial ?_
    refine rch_ret cdK160 (rt := some (vI (-1))) rfl trivial mw_c ?_
    exact Or.inr ⟨by omega, rfl, rfl⟩

theorem k_isChange (l : Launch) (E : AX) (b : Bool) (I L : Nat → Nat → Int) (s k : Int) (hP : PMk I) (hG : ∀ f : Int, 0 ≤ f → f ≤ 5 → GMk I f (I 74 0)) (h75 : 0 ≤ I 74 75 ∧ I 74 75 ≤ 60) : Con l E 7 161 [vR 74, vI s, vI k] (MW b I L) 0 0 (fun rt w => (((0 ≤ s ∧ s < 6) ∧ 0 ≤ k) ∧ ∃ J M, SKR I L J M s ∧ k < J 74 76 ∧ rt = some (vI 1) ∧ w = MW b J M) ∨ (((0 ≤ s ∧ s < 6) ∧ 0 ≤ k) ∧ ∃ J M, SKR I L J M s ∧ ¬ k < J 74 76 ∧ rt = some (vI 0) ∧ w = MW b J M) ∨ (¬ ((0 ≤ s ∧ s < 6) ∧ 0 ≤ k) ∧ rt = some (vI 0) ∧ w = MW b I L)) := by
  refine con_ok (fun hw9 hs9 => ?_)
  refine con_intro (by decide) (Nat.le_of_ble_eq_true rfl) ?_
  show Rch l E 7 161 _ _ _ _ (0, [some (vR 74), some (vI s), some (vI k)], [], MW b I L)
  refine rch_run cdK161 (by decide) 1 (t' := (1, [some (vR 74), some (vI s), some (vI k)], [vI s], MW b I L)) (ps := []) rfl trivial ?_
  refine rch_call (h' := 1) (k' := 103) (as := [vI s]) (t1 := (4, [some (vR 74), some (vI s), some (vI k)], [], MW b I L)) cdK161 rfl (k_X12_isSource l E b I L s ) (by decide) mw_le ?_
  rintro rt9 w9 (⟨k89, rfl, rfl⟩ | ⟨k89, rfl, rfl⟩) _ _
  · show Rch l E 7 161 _ _ _ _ (4, [some (vR 74), some (vI s), some (vI k)], [vI 1], MW b I L)
    have k89 : 0 ≤ s ∧ s ≤ 5 := k89
    refine rch_br cdK161 (cd := (1 : Int) = 0) (t1 := (11, [some (vR 74), some (vI s), some (vI k)], [], MW b I L)) (t2 := (7, [some (vR 74), some (vI s), some (vI k)], [], MW b I L)) rfl (fun c9 => absurd c9 (by decide)) (fun _ => ?_)
    refine rch_run cdK161 (by decide) 1 (t' := (8, [some (vR 74), some (vI s), some (vI k)], [vI k], MW b I L)) (ps := []) rfl trivial ?_
    refine rch_br cdK161 (cd := 0 ≤ k) (t1 := (13, [some (vR 74), some (vI s), some (vI k)], [], MW b I L)) (t2 := (11, [some (vR 74), some (vI s), some (vI k)], [], MW b I L)) rfl (fun c8_2 => ?_) (fun c8_2 => ?_)
    · refine rch_run cdK161 (by decide) 2 (t' := (15, [some (vR 74), some (vI s), some (vI k)], [vI s, vR 74], MW b I L)) (ps := []) rfl trivial ?_
      refine rch_call (h' := 6) (k' := 159) (as := [vR 74, vI s]) (t1 := (18, [some (vR 74), some (vI s), some (vI k)], [], MW b I L)) cdK161 rfl (k_seek l E b I L s hP hG (by omega) h75) (by decide) mw_le ?_
      rintro rt9 w9 (⟨J1, M1, rfl, rfl, t1⟩) _ _
      show Rch l E 7 161 _ _ _ _ (18, [some (vR 74), some (vI s), some (vI k)], [], MW b J1 M1)
      have hrg := SKR_rg t1
      refine rch_run cdK161 (by decide) 3 (t' := (23, [some (vR 74), some (vI s), some (vI k)], [vI (J1 74 76), vI k], MW b J1 M1)) (ps := []) rfl trivial ?_
      refine rch_br cdK161 (cd := J1 74 76 ≤ k) (t1 := (30, [some (vR 74), some (vI s), some (vI k)], [], MW b J1 M1)) (t2 := (26, [some (vR 74), some (vI s), some (vI k)], [], MW b J1 M1)) rfl (fun c23_3 => ?_) (fun c23_3 => ?_)
      · refine rch_run cdK161 (by decide) 1 (t' := (31, [some (vR 74), some (vI s), some (vI k)], [vI 0], MW b J1 M1)) (ps := []) rfl trivial ?_
        refine rch_ret cdK161 (rt := some (vI 0)) rfl (Or.inl rfl) mw_c ?_
        exact Or.inr (Or.inl ⟨by omega, J1, M1, t1, by omega, rfl, rfl⟩)
      · refine rch_run cdK161 (by decide) 2 (t' := (31, [some (vR 74), some (vI s), some (vI k)], [vI 1], MW b J1 M1)) (ps := []) rfl trivial ?_
        refine rch_ret cdK161 (rt := some (vI 1)) rfl (Or.inr rfl) mw_c ?_
        exact Or.inl ⟨by omega, J1, M1, t1, by omega, rfl, rfl⟩
    · refine rch_run cdK161 (by decide) 1 (t' := (12, [some (vR 74), some (vI s), some (vI k)], [vI 0], MW b I L)) (ps := []) rfl trivial ?_
      refine rch_ret cdK161 (rt := some (vI 0)) rfl (Or.inl rfl) mw_c ?_
      exact Or.inr (Or.inr ⟨by omega, rfl, rfl⟩)
  · show Rch l E 7 161 _ _ _ _ (4, [some (vR 74), some (vI s), some (vI k)], [vI 0], MW b I L)
    have k89 : ¬ (0 ≤ s ∧ s ≤ 5) := k89
    refine rch_br cdK161 (cd := (0 : Int) = 0) (t1 := (11, [some (vR 74), some (vI s), some (vI k)], [], MW b I L)) (t2 := (7, [some (vR 74), some (vI s), some (vI k)], [], MW b I L)) rfl (fun _ => ?_) (fun c9 => absurd (by decide) c9)
    refine rch_run cdK161 (by decide) 1 (t' := (12, [some (vR 74), some (vI s), some (vI k)], [vI 0], MW b I L)) (ps := []) rfl trivial ?_
    refine rch_ret cdK161 (rt := some (vI 0)) rfl (Or.inl rfl) mw_c ?_
    exact Or.inr (Or.inr ⟨by omega, rfl, rfl⟩)

def whM (J : Nat → Nat → Int) (k q : Int) : Int := if q = 0 then J 126 k.toNat else if q = 1 then J 127 k.toNat else if q = 2 then J 128 k.toNat else -1

theorem k_changeM (l : Launch) (E : AX) (b : Bool) (I L : Nat → Nat → Int) (s k q : Int) (hP : PMk I) (hG : ∀ f : Int, 0 ≤ f → f ≤ 5 → GMk I f (I 74 0)) (h75 : 0 ≤ I 74 75 ∧ I 74 75 ≤ 60) : Con l E 8 162 [vR 74, vI s, vI k, vI q] (MW b I L) 0 0 (fun rt w => (((0 ≤ s ∧ s < 6) ∧ 0 ≤ k) ∧ ∃ J M, SKR I L J M s ∧ k < J 74 76 ∧ rt = some (vI (whM J k q)) ∧ w = MW b J M) ∨ (((0 ≤ s ∧ s < 6) ∧ 0 ≤ k) ∧ ∃ J M, SKR I L J M s ∧ ¬ k < J 74 76 ∧ rt = some (vI (-1)) ∧ w = MW b J M) ∨ (¬ ((0 ≤ s ∧ s < 6) ∧ 0 ≤ k) ∧ rt = some (vI (-1)) ∧ w = MW b I L)) := by
  refine con_ok (fun hw9 hs9 => ?_)
  refine con_intro (by decide) (Nat.le_of_ble_eq_true rfl) ?_
  show Rch l E 8 162 _ _ _ _ (0, [some (vR 74), some (vI s), some (vI k), some (vI q)], [], MW b I L)
  refine rch_run cdK162 (by decide) 3 (t' := (3, [some (vR 74), some (vI s), some (vI k), some (vI q)], [vI k, vI s, vR 74], MW b I L)) (ps := []) rfl trivial ?_
  refine rch_call (h' := 7) (k' := 161) (as := [vR 74, vI s, vI k]) (t1 := (6, [some (vR 74), some (vI s), some (vI k), some (vI q)], [], MW b I L)) cdK162 rfl (k_isChange l E b I L s k hP hG h75) (by decide) mw_le ?_
  rintro rt9 w9 (⟨c9, J1, M1, t1, k9, rfl, rfl⟩ | ⟨c9, J1, M1, t1, k9, rfl, rfl⟩ | ⟨c9, rfl, rfl⟩) _ _
  · show Rch l E 8 162 _ _ _ _ (6, [some (vR 74), some (vI s), some (vI k), some (vI q)], [vI 1], MW b J1 M1)
    have hrg := SKR_rg t1
    have q5 : J1 74 5 = I 74 5 := by obtain ⟨J0, p0, p1⟩ := t1; rw [p1.1 74 5 (by omega), p0.1 74 5 (by omega), upI_ne (by omega)]
    have q75 : J1 74 75 = I 74 75 := by obtain ⟨J0, p0, p1⟩ := t1; rw [p1.1 74 75 (by omega), p0.1 74 75 (by omega), upI_ne (by omega)]
    have hv9 := hP.2.2.2.1.1
    refine rch_br cdK162 (cd := (1 : Int) ≠ 0) (t1 := (11, [some (vR 74), some (vI s), some (vI k), some (vI q)], [], MW b J1 M1)) (t2 := (9, [some (vR 74), some (vI s), some (vI k), some (vI q)], [], MW b J1 M1)) rfl (fun _ => ?_) (fun c9 => absurd (by decide) c9)
    refine rch_run cdK162 (by decide) 1 (t' := (12, [some (vR 74), some (vI s), some (vI k), some (vI q)], [vI q], MW b J1 M1)) (ps := []) rfl trivial ?_
    refine rch_br cdK162 (cd := q ≠ 0) (t1 := (24, [some (vR 74), some (vI s), some (vI k), some (vI q)], [], MW b J1 M1)) (t2 := (15, [some (vR 74), some (vI s), some (vI k), some (vI q)], [], MW b J1 M1)) rfl (fun c12_2 => ?_) (fun c12_2 => ?_)
    · refine rch_run cdK162 (by decide) 2 (t' := (26, [some (vR 74), some (vI s), some (vI k), some (vI q)], [vI 1, vI q], MW b J1 M1)) (ps := []) rfl trivial ?_
      refine rch_br cdK162 (cd := q ≠ (1 : Int)) (t1 := (38, [some (vR 74), some (vI s), some (vI k), some (vI q)], [], MW b J1 M1)) (t2 := (29, [some (vR 74), some (vI s), some (vI k), some (vI q)], [], MW b J1 M1)) rfl (fun c26_3 => ?_) (fun c26_3 => ?_)
      · refine rch_run cdK162 (by decide) 2 (t' := (40, [some (vR 74), some (vI s), some (vI k), some (vI q)], [vI 2, vI q], MW b J1 M1)) (ps := []) rfl trivial ?_
        refine rch_br cdK162 (cd := q ≠ (2 : Int)) (t1 := (52, [some (vR 74), some (vI s), some (vI k), some (vI q)], [], MW b J1 M1)) (t2 := (43, [some (vR 74), some (vI s), some (vI k), some (vI q)], [], MW b J1 M1)) rfl (fun c40_4 => ?_) (fun c40_4 => ?_)
        · refine rch_run cdK162 (by decide) 1 (t' := (53, [some (vR 74), some (vI s), some (vI k), some (vI q)], [vI (-1)], MW b J1 M1)) (ps := []) rfl trivial ?_
          refine rch_ret cdK162 (rt := some (vI (-1))) rfl trivial mw_c ?_
          first | exact Or.inr (Or.inl ⟨c9, J1, M1, t1, k9, rfl, rfl⟩) | exact Or.inl ⟨c9, J1, M1, t1, k9, by unfold whM; rw [if_neg (by omega), if_neg (by omega), if_neg (by omega)], rfl⟩
        · refine rch_run cdK162 (by decide) 5 (t' := (53, [some (vR 74), some (vI s), some (vI k), some (vI q)], [vI (J1 128 k.toNat)], MW b J1 M1)) (ps := [0 ≤ k ∧ k < ((60 : Nat) : Int)]) rfl (by simp only [all_, i32, i64]; first | omega | (simp; done) | (simp; omega)) ?_
          refine rch_ret cdK162 (rt := some (vI (J1 128 k.toNat))) rfl trivial mw_c ?_
          exact Or.inl ⟨c9, J1, M1, t1, k9, by unfold whM; first | rw [if_pos (by omega)] | rw [if_neg (by omega), if_pos (by omega)] | rw [if_neg (by omega), if_neg (by omega), if_pos (by omega)], rfl⟩
      · refine rch_run cdK162 (by decide) 5 (t' := (53, [some (vR 74), some (vI s), some (vI k), some (vI q)], [vI (J1 127 k.toNat)], MW b J1 M1)) (ps := [0 ≤ k ∧ k < ((60 : Nat) : Int)]) rfl (by simp only [all_, i32, i64]; first | omega | (simp; done) | (simp; omega)) ?_
        refine rch_ret cdK162 (rt := some (vI (J1 127 k.toNat))) rfl trivial mw_c ?_
        exact Or.inl ⟨c9, J1, M1, t1, k9, by unfold whM; first | rw [if_pos (by omega)] | rw [if_neg (by omega), if_pos (by omega)] | rw [if_neg (by omega), if_neg (by omega), if_pos (by omega)], rfl⟩
    · refine rch_run cdK162 (by decide) 5 (t' := (53, [some (vR 74), some (vI s), some (vI k), some (vI q)], [vI (J1 126 k.toNat)], MW b J1 M1)) (ps := [0 ≤ k ∧ k < ((60 : Nat) : Int)]) rfl (by simp only [all_, i32, i64]; first | omega | (simp; done) | (simp; omega)) ?_
      refine rch_ret cdK162 (rt := some (vI (J1 126 k.toNat))) rfl trivial mw_c ?_
      exact Or.inl ⟨c9, J1, M1, t1, k9, by unfold whM; first | rw [if_pos (by omega)] | rw [if_neg (by omega), if_pos (by omega)] | rw [if_neg (by omega), if_neg (by omega), if_pos (by omega)], rfl⟩
  · show Rch l E 8 162 _ _ _ _ (6, [some (vR 74), some (vI s), some (vI k), some (vI q)], [vI 0], MW b J1 M1)
    refine rch_br cdK162 (cd := (0 : Int) ≠ 0) (t1 := (11, [some (vR 74), some (vI s), some (vI k), some (vI q)], [], MW b J1 M1)) (t2 := (9, [some (vR 74), some (vI s), some (vI k), some (vI q)], [], MW b J1 M1)) rfl (fun c9 => absurd c9 (by decide)) (fun _ => ?_)
    refine rch_run cdK162 (by decide) 1 (t' := (10, [some (vR 74), some (vI s), some (vI k), some (vI q)], [vI (-1)], MW b J1 M1)) (ps := []) rfl trivial ?_
    refine rch_ret cdK162 (rt := some (vI (-1))) rfl trivial mw_c ?_
    first | exact Or.inr (Or.inl ⟨c9, J1, M1, t1, k9, rfl, rfl⟩) | exact Or.inl ⟨c9, J1, M1, t1, k9, by unfold whM; rw [if_neg (by omega), if_neg (by omega), if_neg (by omega)], rfl⟩
  · show Rch l E 8 162 _ _ _ _ (6, [some (vR 74), some (vI s), some (vI k), some (vI q)], [vI 0], MW b I L)
    refine rch_br cdK162 (cd := (0 : Int) ≠ 0) (t1 := (11, [some (vR 74), some (vI s), some (vI k), some (vI q)], [], MW b I L)) (t2 := (9, [some (vR 74), some (vI s), some (vI k), some (vI q)], [], MW b I L)) rfl (fun c9 => absurd c9 (by decide)) (fun _ => ?_)
    refine rch_run cdK162 (by decide) 1 (t' := (10, [some (vR 74), some (vI s), some (vI k), some (vI q)], [vI (-1)], MW b I L)) (ps := []) rfl trivial ?_
    refine rch_ret cdK162 (rt := some (vI (-1))) rfl trivial mw_c ?_
    exact Or.inr (Or.inr ⟨c9, rfl, rfl⟩)

theorem k_acceptM (l : Launch) (E : AX) (b : Bool) (I L : Nat → Nat → Int) (s k : Int) (hP : PMk I) (hG : ∀ f : Int, 0 ≤ f → f ≤ 5 → GMk I f (I 74 0)) (h75 : 0 ≤ I 74 75 ∧ I 74 75 ≤ 60) : Con l E 8 163 [vR 74, vI s, vI k] (MW b I L) 0 0 (fun rt w => (I 74 5 ≠ 150 ∧ ((0 ≤ s ∧ s < 6) ∧ 0 ≤ k) ∧ ∃ J M, SKR I L J M s ∧ ((k < J 74 76 ∧ rt = some (vI 1) ∧ w = MW b (upI (upI (upI (upI (upI (upI (upI J 81 (J 74 5).toNat (J 126 k.toNat)) 82 (J 74 5).toNat (J 127 k.toNat)) 83 (J 74 5).toNat (J 128 k.toNat)) 84 (J 74 5).toNat (J 74 0)) 85 (J 74 5).toNat (J 74 0)) 86 (J 74 5).toNat 1) 74 5 ((J 74 5) + 1)) M) ∨ (¬ k < J 74 76 ∧ rt = some (vI 0) ∧ w = MW b J M))) ∨ (¬ (I 74 5 ≠ 150 ∧ ((0 ≤ s ∧ s < 6) ∧ 0 ≤ k)) ∧ rt = some (vI 0) ∧ w = MW b I L)) := by
  refine con_ok (fun hw9 hs9 => ?_)
  refine con_intro (by decide) (Nat.le_of_ble_eq_true rfl) ?_
  show Rch l E 8 163 _ _ _ _ (0, [some (vR 74), some (vI s), some (vI k)], [], MW b I L)
  refine rch_run cdK163 (by decide) 3 (t' := (7, [some (vR 74), some (vI s), some (vI k)], [vI 150, vI (I 74 5)], MW b I L)) (ps := []) rfl trivial ?_
  refine rch_br cdK163 (cd := I 74 5 = (150 : Int)) (t1 := (19, [some (vR 74), some (vI s), some (vI k)], [], MW b I L)) (t2 := (10, [some (vR 74), some (vI s), some (vI k)], [], MW b I L)) rfl (fun c7_1 => ?_) (fun c7_1 => ?_)
  · refine rch_run cdK163 (by decide) 1 (t' := (20, [some (vR 74), some (vI s), some (vI k)], [vI 0], MW b I L)) (ps := []) rfl trivial ?_
    refine rch_ret cdK163 (rt := some (vI 0)) rfl (Or.inl rfl) mw_c ?_
    first | exact Or.inr ⟨by omega, rfl, rfl⟩
  · refine rch_run cdK163 (by decide) 3 (t' := (13, [some (vR 74), some (vI s), some (vI k)], [vI k, vI s, vR 74], MW b I L)) (ps := []) rfl trivial ?_
    refine rch_call (h' := 7) (k' := 161) (as := [vR 74, vI s, vI k]) (t1 := (16, [some (vR 74), some (vI s), some (vI k)], [], MW b I L)) cdK163 rfl (k_isChange l E b I L s k hP hG h75) (by decide) mw_le ?_
    rintro rt9 w9 (⟨c9, J1, M1, t1, k9, rfl, rfl⟩ | ⟨c9, J1, M1, t1, k9, rfl, rfl⟩ | ⟨c9, rfl, rfl⟩) _ _
    · show Rch l E 8 163 _ _ _ _ (16, [some (vR 74), some (vI s), some (vI k)], [vI 1], MW b J1 M1)
      have hrg := SKR_rg t1
      have q5 : J1 74 5 = I 74 5 := by obtain ⟨J0, p0, p1⟩ := t1; rw [p1.1 74 5 (by omega), p0.1 74 5 (by omega), upI_ne (by omega)]
      have q75 : J1 74 75 = I 74 75 := by obtain ⟨J0, p0, p1⟩ := t1; rw [p1.1 74 75 (by omega), p0.1 74 75 (by omega), upI_ne (by omega)]
      have hv9 := hP.2.2.2.1.1
      refine rch_br cdK163 (cd := (1 : Int) ≠ 0) (t1 := (21, [some (vR 74), some (vI s), some (vI k)], [], MW b J1 M1)) (t2 := (19, [some (vR 74), some (vI s), some (vI k)], [], MW b J1 M1)) rfl (fun _ => ?_) (fun c9 => absurd (by decide) c9)
      refine rch_run cdK163 (by decide) 16 (t' := (45, [some (vR 74), some (vI s), some (vI k)], [vI 1, vI (J1 74 0), vI (J1 128 k.toNat), vI (J1 127 k.toNat), vI (J1 126 k.toNat), vR 74], MW b J1 M1)) (ps := [0 ≤ k ∧ k < ((60 : Nat) : Int), 0 ≤ k ∧ k < ((60 : Nat) : Int), 0 ≤ k ∧ k < ((60 : Nat) : Int)]) rfl (by simp only [all_, i32, i64]; first | omega | (simp; done) | (simp; omega)) ?_
      refine rch_call (h' := 1) (k' := 112) (as := [vR 74, vI (J1 126 k.toNat), vI (J1 127 k.toNat), vI (J1 128 k.toNat), vI (J1 74 0), vI 1]) (t1 := (48, [some (vR 74), some (vI s), some (vI k)], [], MW b J1 M1)) cdK163 rfl (k_X12_tell l E b J1 M1 (J1 126 k.toNat) (J1 127 k.toNat) (J1 128 k.toNat) (J1 74 0) 1 (by show 0 ≤ J1 74 5 ∧ J1 74 5 < 150; omega) (by show 1 = 0 ∨ 1 = 1; omega)) (by decide) mw_le ?_
      rintro rt9 w9 (⟨k90, rfl, rfl⟩) _ _
      show Rch l E 8 163 _ _ _ _ (48, [some (vR 74), some (vI s), some (vI k)], [], MW b (upI (upI (upI (upI (upI (upI (upI J1 81 (J1 74 5).toNat (J1 126 k.toNat)) 82 (J1 74 5).toNat (J1 127 k.toNat)) 83 (J1 74 5).toNat (J1 128 k.toNat)) 84 (J1 74 5).toNat (J1 74 0)) 85 (J1 74 5).toNat (J1 74 0)) 86 (J1 74 5).toNat 1) 74 5 ((J1 74 5) + 1)) M1)
      refine rch_run cdK163 (by decide) 1 (t' := (49, [some (vR 74), some (vI s), some (vI k)], [vI 1], MW b (upI (upI (upI (upI (upI (upI (upI J1 81 (J1 74 5).toNat (J1 126 k.toNat)) 82 (J1 74 5).toNat (J1 127 k.toNat)) 83 (J1 74 5).toNat (J1 128 k.toNat)) 84 (J1 74 5).toNat (J1 74 0)) 85 (J1 74 5).toNat (J1 74 0)) 86 (J1 74 5).toNat 1) 74 5 ((J1 74 5) + 1)) M1)) (ps := []) rfl trivial ?_
      refine rch_ret cdK163 (rt := some (vI 1)) rfl (Or.inr rfl) mw_c ?_
      first | exact Or.inl ⟨by omega, c9, J1, M1, t1, Or.inl ⟨by omega, rfl, rfl⟩⟩ | exact Or.inl ⟨by omega, c9, J1, M1, t1, Or.inr ⟨by omega, rfl, rfl⟩⟩ | (exfalso; omega)
    · show Rch l E 8 163 _ _ _ _ (16, [some (vR 74), some (vI s), some (vI k)], [vI 0], MW b J1 M1)
      refine rch_br cdK163 (cd := (0 : Int) ≠ 0) (t1 := (21, [some (vR 74), some (vI s), some (vI k)], [], MW b J1 M1)) (t2 := (19, [some (vR 74), some (vI s), some (vI k)], [], MW b J1 M1)) rfl (fun c9 => absurd c9 (by decide)) (fun _ => ?_)
      refine rch_run cdK163 (by decide) 1 (t' := (20, [some (vR 74), some (vI s), some (vI k)], [vI 0], MW b J1 M1)) (ps := []) rfl trivial ?_
      refine rch_ret cdK163 (rt := some (vI 0)) rfl (Or.inl rfl) mw_c ?_
      first | exact Or.inl ⟨by omega, c9, J1, M1, t1, Or.inl ⟨by omega, rfl, rfl⟩⟩ | exact Or.inl ⟨by omega, c9, J1, M1, t1, Or.inr ⟨by omega, rfl, rfl⟩⟩ | (exfalso; omega)
    · show Rch l E 8 163 _ _ _ _ (16, [some (vR 74), some (vI s), some (vI k)], [vI 0], MW b I L)
      refine rch_br cdK163 (cd := (0 : Int) ≠ 0) (t1 := (21, [some (vR 74), some (vI s), some (vI k)], [], MW b I L)) (t2 := (19, [some (vR 74), some (vI s), some (vI k)], [], MW b I L)) rfl (fun c9 => absurd c9 (by decide)) (fun _ => ?_)
      refine rch_run cdK163 (by decide) 1 (t' := (20, [some (vR 74), some (vI s), some (vI k)], [vI 0], MW b I L)) (ps := []) rfl trivial ?_
      refine rch_ret cdK163 (rt := some (vI 0)) rfl (Or.inl rfl) mw_c ?_
      first | exact Or.inr ⟨by omega, rfl, rfl⟩

theorem k_refuseM (l : Launch) (E : AX) (b : Bool) (I L : Nat → Nat → Int) (s k : Int) (hP : PMk I) (hG : ∀ f : Int, 0 ≤ f → f ≤ 5 → GMk I f (I 74 0)) (h75 : 0 ≤ I 74 75 ∧ I 74 75 ≤ 60) : Con l E 8 164 [vR 74, vI s, vI k] (MW b I L) 0 0 (fun rt w => (I 74 75 ≠ 60 ∧ ((0 ≤ s ∧ s < 6) ∧ 0 ≤ k) ∧ ∃ J M, SKR I L J M s ∧ ((k < J 74 76 ∧ rt = some (vI 1) ∧ w = MW b (upI (upI (upI (upI J 123 (J 74 75).toNat (J 126 k.toNat)) 124 (J 74 75).toNat (J 127 k.toNat)) 125 (J 74 75).toNat (J 128 k.toNat)) 74 75 ((J 74 75) + 1)) M) ∨ (¬ k < J 74 76 ∧ rt = some (vI 0) ∧ w = MW b J M))) ∨ (¬ (I 74 75 ≠ 60 ∧ ((0 ≤ s ∧ s < 6) ∧ 0 ≤ k)) ∧ rt = some (vI 0) ∧ w = MW b I L)) := by
  refine con_ok (fun hw9 hs9 => ?_)
  refine con_intro (by decide) (Nat.le_of_ble_eq_true rfl) ?_
  show Rch l E 8 164 _ _ _ _ (0, [some (vR 74), some (vI s), some (vI k)], [], MW b I L)
  refine rch_run cdK164 (by decide) 3 (t' := (6, [some (vR 74), some (vI s), some (vI k)], [vI 60, vI (I 74 75)], MW b I L)) (ps := []) rfl trivial ?_
  refine rch_br cdK164 (cd := I 74 75 = (60 : Int)) (t1 := (18, [some (vR 74), some (vI s), some (vI k)], [], MW b I L)) (t2 := (9, [some (vR 74), some (vI s), some (vI k)], [], MW b I L)) rfl (fun c6_1 => ?_) (fun c6_1 => ?_)
  · refine rch_run cdK164 (by decide) 1 (t' := (19, [some (vR 74), some (vI s), some (vI k)], [vI 0], MW b I L)) (ps := []) rfl trivial ?_
    refine rch_ret cdK164 (rt := some (vI 0)) rfl (Or.inl rfl) mw_c ?_
    first | exact Or.inr ⟨by omega, rfl, rfl⟩
  · refine rch_run cdK164 (by decide) 3 (t' := (12, [some (vR 74), some (vI s), some (vI k)], [vI k, vI s, vR 74], MW b I L)) (ps := []) rfl trivial ?_
    refine rch_call (h' := 7) (k' := 161) (as := [vR 74, vI s, vI k]) (t1 := (15, [some (vR 74), some (vI s), some (vI k)], [], MW b I L)) cdK164 rfl (k_isChange l E b I L s k hP hG h75) (by decide) mw_le ?_
    rintro rt9 w9 (⟨c9, J1, M1, t1, k9, rfl, rfl⟩ | ⟨c9, J1, M1, t1, k9, rfl, rfl⟩ | ⟨c9, rfl, rfl⟩) _ _
    · show Rch l E 8 164 _ _ _ _ (15, [some (vR 74), some (vI s), some (vI k)], [vI 1], MW b J1 M1)
      have hrg := SKR_rg t1
      have q5 : J1 74 5 = I 74 5 := by obtain ⟨J0, p0, p1⟩ := t1; rw [p1.1 74 5 (by omega), p0.1 74 5 (by omega), upI_ne (by omega)]
      have q75 : J1 74 75 = I 74 75 := by obtain ⟨J0, p0, p1⟩ := t1; rw [p1.1 74 75 (by omega), p0.1 74 75 (by omega), upI_ne (by omega)]
      have hv9 := hP.2.2.2.1.1
      refine rch_br cdK164 (cd := (1 : Int) ≠ 0) (t1 := (20, [some (vR 74), some (vI s), some (vI k)], [], MW b J1 M1)) (t2 := (18, [some (vR 74), some (vI s), some (vI k)], [], MW b J1 M1)) rfl (fun _ => ?_) (fun c9 => absurd (by decide) c9)
      refine rch_run cdK164 (by decide) 25 (t' := (63, [some (vR 74), some (vI s), some (vI k)], [vI k, vR 128, vI (J1 74 75), vR 125], MW b (upI (upI J1 123 (J1 74 75).toNat (J1 126 k.toNat)) 124 (J1 74 75).toNat (J1 127 k.toNat)) M1)) (ps := [0 ≤ k ∧ k < ((60 : Nat) : Int), 0 ≤ J1 74 75 ∧ J1 74 75 < ((60 : Nat) : Int), 0 ≤ k ∧ k < ((60 : Nat) : Int), 0 ≤ J1 74 75 ∧ J1 74 75 < ((60 : Nat) : Int)]) rfl (by simp only [all_, i32, i64]; first | omega | (simp; done) | (simp; omega)) ?_
      refine rch_run cdK164 (by decide) 9 (t' := (76, [some (vR 74), some (vI s), some (vI k)], [vI 1], MW b (upI (upI (upI (upI J1 123 (J1 74 75).toNat (J1 126 k.toNat)) 124 (J1 74 75).toNat (J1 127 k.toNat)) 125 (J1 74 75).toNat (J1 128 k.toNat)) 74 75 ((J1 74 75) + 1)) M1)) (ps := [0 ≤ k ∧ k < ((60 : Nat) : Int), 0 ≤ J1 74 75 ∧ J1 74 75 < ((60 : Nat) : Int), i32 ((J1 74 75) + 1)]) rfl (by simp only [all_, i32, i64]; first | omega | (simp; done) | (simp; omega)) ?_
      refine rch_ret cdK164 (rt := some (vI 1)) rfl (Or.inr rfl) mw_c ?_
      first | exact Or.inl ⟨by omega, c9, J1, M1, t1, Or.inl ⟨by omega, rfl, rfl⟩⟩ | exact Or.inl ⟨by omega, c9, J1, M1, t1, Or.inr ⟨by omega, rfl, rfl⟩⟩ | (exfalso; omega)
    · show Rch l E 8 164 _ _ _ _ (15, [some (vR 74), some (vI s), some (vI k)], [vI 0], MW b J1 M1)
      refine rch_br cdK164 (cd := (0 : Int) ≠ 0) (t1 := (20, [some (vR 74), some (vI s), some (vI k)], [], MW b J1 M1)) (t2 := (18, [some (vR 74), some (vI s), some (vI k)], [], MW b J1 M1)) rfl (fun c9 => absurd c9 (by decide)) (fun _ => ?_)
      refine rch_run cdK164 (by decide) 1 (t' := (19, [some (vR 74), some (vI s), some (vI k)], [vI 0], MW b J1 M1)) (ps := []) rfl trivial ?_
      refine rch_ret cdK164 (rt := some (vI 0)) rfl (Or.inl rfl) mw_c ?_
      first | exact Or.inl ⟨by omega, c9, J1, M1, t1, Or.inl ⟨by omega, rfl, rfl⟩⟩ | exact Or.inl ⟨by omega, c9, J1, M1, t1, Or.inr ⟨by omega, rfl, rfl⟩⟩ | (exfalso; omega)
    · show Rch l E 8 164 _ _ _ _ (15, [some (vR 74), some (vI s), some (vI k)], [vI 0], MW b I L)
      refine rch_br cdK164 (cd := (0 : Int) ≠ 0) (t1 := (20, [some (vR 74), some (vI s), some (vI k)], [], MW b I L)) (t2 := (18, [some (vR 74), some (vI s), some (vI k)], [], MW b I L)) rfl (fun c9 => absurd c9 (by decide)) (fun _ => ?_)
      refine rch_run cdK164 (by decide) 1 (t' := (19, [some (vR 74), some (vI s), some (vI k)], [vI 0], MW b I L)) (ps := []) rfl trivial ?_
      refine rch_ret cdK164 (rt := some (vI 0)) rfl (Or.inl rfl) mw_c ?_
      first | exact Or.inr ⟨by omega, rfl, rfl⟩
