/-- its value, or -1 -/
def vo (ro fi va fr to : Nat → Int) (r f d k : Int) (n : Nat) : Int := if bv ro fi fr to r f d k n < 0 then -1 else va (bv ro fi fr to r f d k n).toNat

theorem lp_version (l : Launch) (E : AX) (b : Bool) (I L : Nat → Nat → Int) (r f d k : Int) (hn : 0 ≤ I 74 5 ∧ I 74 5 ≤ 150) : ∀ (n9 : Nat) (i be : Int), 0 ≤ i → i ≤ I 74 5 → be = bv (I 81) (I 82) (I 84) (I 85) r f d k i.toNat → I 74 5 - i < (n9 : Int) → Rch l E 1 114 (MW b I L) 0 0 (fun rt w => rt = some (vI (bv (I 81) (I 82) (I 84) (I 85) r f d k (I 74 5).toNat)) ∧ w = MW b I L) (6, [some (vR 74), some (vI r), some (vI f), some (vI d), some (vI k), some (vI be), some (vI i)], [], MW b I L) := by
  intro n9
  induction n9 with
  | zero =>
    intro i be  h1 h2 h3 hm
    exfalso; omega
  | succ n9 ih =>
    intro i be  h1 h2 h3 hm
    have hr9 := bv_rg (I 81) (I 82) (I 84) (I 85) r f d k i.toNat
    rw [← h3] at hr9
    refine rch_run rfl (by decide) 3 (t' := (12, [some (vR 74), some (vI r), some (vI f), some (vI d), some (vI k), some (vI be), some (vI i)], [vI (I 74 5), vI i], MW b I L)) (ps := []) rfl trivial ?_
    refine rch_br rfl (cd := I 74 5 ≤ i) (t1 := (92, [some (vR 74), some (vI r), some (vI f), some (vI d), some (vI k), some (vI be), some (vI i)], [], MW b I L)) (t2 := (15, [some (vR 74), some (vI r), some (vI f), some (vI d), some (vI k), some (vI be), some (vI i)], [], MW b I L)) rfl (fun c12_1 => ?_) (fun c12_1 => ?_)
    · refine rch_run rfl (by decide) 1 (t' := (94, [some (vR 74), some (vI r), some (vI f), some (vI d), some (vI k), some (vI be), some (vI i)], [vI be], MW b I L)) (ps := []) rfl trivial ?_
      refine rch_ret rfl (rt := some (vI be)) rfl trivial mw_c ?_
      exact ⟨by rw [h3, show i.toNat = (I 74 5).toNat by omega], rfl⟩
    · refine rch_run rfl (by decide) 5 (t' := (23, [some (vR 74), some (vI r), some (vI f), some (vI d), some (vI k), some (vI be), some (vI i)], [vI r, vI (I 81 i.toNat)], MW b I L)) (ps := [0 ≤ i ∧ i < ((150 : Nat) : Int)]) rfl (by simp only [all_, i32, i64]; first | omega | (simp; done) | (simp; omega)) ?_
      refine rch_br rfl (cd := I 81 i.toNat ≠ r) (t1 := (86, [some (vR 74), some (vI r), some (vI f), some (vI d), some (vI k), some (vI be), some (vI i)], [], MW b I L)) (t2 := (26, [some (vR 74), some (vI r), some (vI f), some (vI d), some (vI k), some (vI be), some (vI i)], [], MW b I L)) rfl (fun c23_2 => ?_) (fun c23_2 => ?_)
      · refine rch_run rfl (by decide) 2 (t' := (6, [some (vR 74), some (vI r), some (vI f), some (vI d), some (vI k), some (vI be), some (vI (i + 1))], [], MW b I L)) (ps := [i32 (i + 1)]) rfl (by simp only [all_, i32, i64]; first | omega | (simp; done) | (simp; omega)) ?_
        exact ih (i + 1) be (by omega) (by omega) (by rw [show (i + 1).toNat = i.toNat + 1 by omega, bv_s, ← h3]; first | (rw [if_pos (by omega)]; omega) | rw [if_neg (by omega)]) (by omega)
      · refine rch_run rfl (by decide) 5 (t' := (34, [some (vR 74), some (vI r), some (vI f), some (vI d), some (vI k), some (vI be), some (vI i)], [vI f, vI (I 82 i.toNat)], MW b I L)) (ps := [0 ≤ i ∧ i < ((150 : Nat) : Int)]) rfl (by simp only [all_, i32, i64]; first | omega | (simp; done) | (simp; omega)) ?_
        refine rch_br rfl (cd := I 82 i.toNat ≠ f) (t1 := (86, [some (vR 74), some (vI r), some (vI f), some (vI d), some (vI k), some (vI be), some (vI i)], [], MW b I L)) (t2 := (37, [some (vR 74), some (vI r), some (vI f), some (vI d), some (vI k), some (vI be), some (vI i)], [], MW b I L)) rfl (fun c34_3 => ?_) (fun c34_3 => ?_)
        · refine rch_run rfl (by decide) 2 (t' := (6, [some (vR 74), some (vI r), some (vI f), some (vI d), some (vI k), some (vI be), some (vI (i + 1))], [], MW b I L)) (ps := [i32 (i + 1)]) rfl (by simp only [all_, i32, i64]; first | omega | (simp; done) | (simp; omega)) ?_
          exact ih (i + 1) be (by omega) (by omega) (by rw [show (i + 1).toNat = i.toNat + 1 by omega, bv_s, ← h3]; first | (rw [if_pos (by omega)]; omega) | rw [if_neg (by omega)]) (by omega)
        · refine rch_run rfl (by decide) 5 (t' := (46, [some (vR 74), some (vI r), some (vI f), some (vI d), some (vI k), some (vI be), some (vI i)], [vI k, vI (I 85 i.toNat)], MW b I L)) (ps := [0 ≤ i ∧ i < ((150 : Nat) : Int)]) rfl (by simp only [all_, i32, i64]; first | omega | (simp; done) | (simp; omega)) ?_
          refine rch_br rfl (cd := k < I 85 i.toNat) (t1 := (86, [some (vR 74), some (vI r), some (vI f), some (vI d), some (vI k), some (vI be), some (vI i)], [], MW b I L)) (t2 := (49, [some (vR 74), some (vI r), some (vI f), some (vI d), some (vI k), some (vI be), some (vI i)], [], MW b I L)) rfl (fun c46_4 => ?_) (fun c46_4 => ?_)
          · refine rch_run rfl (by decide) 2 (t' := (6, [some (vR 74), some (vI r), some (vI f), some (vI d), some (vI k), some (vI be), some (vI (i + 1))], [], MW b I L)) (ps := [i32 (i + 1)]) rfl (by simp only [all_, i32, i64]; first | omega | (simp; done) | (simp; omega)) ?_
            exact ih (i + 1) be (by omega) (by omega) (by rw [show (i + 1).toNat = i.toNat + 1 by omega, bv_s, ← h3]; first | (rw [if_pos (by omega)]; omega) | rw [if_neg (by omega)]) (by omega)
          · refine rch_run rfl (by decide) 5 (t' := (57, [some (vR 74), some (vI r), some (vI f), some (vI d), some (vI k), some (vI be), some (vI i)], [vI d, vI (I 84 i.toNat)], MW b I L)) (ps := [0 ≤ i ∧ i < ((150 : Nat) : Int)]) rfl (by simp only [all_, i32, i64]; first | omega | (simp; done) | (simp; omega)) ?_
            refine rch_br rfl (cd := d < I 84 i.toNat) (t1 := (86, [some (vR 74), some (vI r), some (vI f), some (vI d), some (vI k), some (vI be), some (vI i)], [], MW b I L)) (t2 := (60, [some (vR 74), some (vI r), some (vI f), some (vI d), some (vI k), some (vI be), some (vI i)], [], MW b I L)) rfl (fun c57_5 => ?_) (fun c57_5 => ?_)
            · refine rch_run rfl (by decide) 2 (t' := (6, [some (vR 74), some (vI r), some (vI f), some (vI d), some (vI k), some (vI be), some (vI (i + 1))], [], MW b I L)) (ps := [i32 (i + 1)]) rfl (by simp only [all_, i32, i64]; first | omega | (simp; done) | (simp; omega)) ?_
              exact ih (i + 1) be (by omega) (by omega) (by rw [show (i + 1).toNat = i.toNat + 1 by omega, bv_s, ← h3]; first | (rw [if_pos (by omega)]; omega) | rw [if_neg (by omega)]) (by omega)
            · refine rch_run rfl (by decide) 1 (t' := (62, [some (vR 74), some (vI r), some (vI f), some (vI d), some (vI k), some (vI be), some (vI i)], [vI be], MW b I L)) (ps := []) rfl trivial ?_
              refine rch_br rfl (cd := be < 0) (t1 := (82, [some (vR 74), some (vI r), some (vI f), some (vI d), some (vI k), some (vI be), some (vI i)], [], MW b I L)) (t2 := (65, [some (vR 74), some (vI r), some (vI f), some (vI d), some (vI k), some (vI be), some (vI i)], [], MW b I L)) rfl (fun c62_6 => ?_) (fun c62_6 => ?_)
              · refine rch_run rfl (by decide) 4 (t' := (6, [some (vR 74), some (vI r), some (vI f), some (vI d), some (vI k), some (vI i), some (vI (i + 1))], [], MW b I L)) (ps := [i32 (i + 1)]) rfl (by simp only [all_, i32, i64]; first | omega | (simp; done) | (simp; omega)) ?_
                exact ih (i + 1) i (by omega) (by omega) (by rw [show (i + 1).toNat = i.toNat + 1 by omega, bv_s, ← h3]; first | (rw [if_pos (by omega)]; omega) | rw [if_neg (by omega)]) (by omega)
              · refine rch_run rfl (by decide) 8 (t' := (79, [some (vR 74), some (vI r), some (vI f), some (vI d), some (vI k), some (vI be), some (vI i)], [vI (I 84 be.toNat), vI (I 84 i.toNat)], MW b I L)) (ps := [0 ≤ i ∧ i < ((150 : Nat) : Int), 0 ≤ be ∧ be < ((150 : Nat) : Int)]) rfl (by simp only [all_, i32, i64]; first | omega | (simp; done) | (simp; omega)) ?_
                refine rch_br rfl (cd := I 84 i.toNat < I 84 be.toNat) (t1 := (86, [some (vR 74), some (vI r), some (vI f), some (vI d), some (vI k), some (vI be), some (vI i)], [], MW b I L)) (t2 := (82, [some (vR 74), some (vI r), some (vI f), some (vI d), some (vI k), some (vI be), some (vI i)], [], MW b I L)) rfl (fun c79_7 => ?_) (fun c79_7 => ?_)
                · refine rch_run rfl (by decide) 2 (t' := (6, [some (vR 74), some (vI r), some (vI f), some (vI d), some (vI k), some (vI be), some (vI (i + 1))], [], MW b I L)) (ps := [i32 (i + 1)]) rfl (by simp only [all_, i32, i64]; first | omega | (simp; done) | (simp; omega)) ?_
                  exact ih (i + 1) be (by omega) (by omega) (by rw [show (i + 1).toNat = i.toNat + 1 by omega, bv_s, ← h3]; first | (rw [if_pos (by omega)]; omega) | rw [if_neg (by omega)]) (by omega)
                · refine rch_run rfl (by decide) 4 (t' := (6, [some (vR 74), some (vI r), some (vI f), some (vI d), some (vI k), some (vI i), some (vI (i + 1))], [], MW b I L)) (ps := [i32 (i + 1)]) rfl (by simp only [all_, i32, i64]; first | omega | (simp; done) | (simp; omega)) ?_
                  exact ih (i + 1) i (by omega) (by omega) (by rw [show (i + 1).toNat = i.toNat + 1 by omega, bv_s, ← h3]; first | (rw [if_pos (by omega)]; omega) | rw [if_neg (by omega)]) (by omega)

theorem k_X12_version (l : Launch) (E : AX) (b : Bool) (I L : Nat → Nat → Int) (r f d k : Int) (hn : 0 ≤ I 74 5 ∧ I 74 5 ≤ 150) : Con l E 1 114 [vR 74, vI r, vI f, vI d, vI k] (MW b I L) 0 0 (fun rt w => rt = some (vI (bv (I 81) (I 82) (I 84) (I 85) r f d k (I 74 5).toNat)) ∧ w = MW b I L) := by
  refine con_ok (fun hw9 hs9 => ?_)
  refine con_intro (by decide) (Nat.le_of_ble_eq_true rfl) ?_
  show Rch l E 1 114 _ _ _ _ (0, [some (vR 74), some (vI r), some (vI f), some (vI d), some (vI k), none, none], [], MW b I L)
  refine rch_run rfl (by decide) 4 (t' := (6, [some (vR 74), some (vI r), some (vI f), some (vI d), some (vI k), some (vI (-1)), some (vI 0)], [], MW b I L)) (ps := []) rfl trivial ?_
  exact lp_version l E b I L r f d k hn 151 0 (-1) (by omega) (by omega) rfl (by omega)

theorem k_X12_valueOf (l : Launch) (E : AX) (b : Bool) (I L : Nat → Nat → Int) (r f d k : Int) (hn : 0 ≤ I 74 5 ∧ I 74 5 ≤ 150) : Con l E 2 115 [vR 74, vI r, vI f, vI d, vI k] (MW b I L) 0 0 (fun rt w => rt = some (vI (vo (I 81) (I 82) (I 83) (I 84) (I 85) r f d k (I 74 5).toNat)) ∧ w = MW b I L) := by
  refine con_ok (fun hw9 hs9 => ?_)
  refine con_intro (by decide) (Nat.le_of_ble_eq_true rfl) ?_
  have hr9 := bv_rg (I 81) (I 82) (I 84) (I 85) r f d k (I 74 5).toNat
  show Rch l E 2 115 _ _ _ _ (0, [some (vR 74), some (vI r), some (vI f), some (vI d), some (vI k), none], [], MW b I L)
  refine rch_run rfl (by decide) 5 (t' := (6, [some (vR 74), some (vI r), some (vI f), some (vI d), some (vI k), none], [vI k, vI d, vI f, vI r, vR 74], MW b I L)) (ps := []) rfl trivial ?_
  refine rch_call (h' := 1) (k' := 114) (as := [vR 74, vI r, vI f, vI d, vI k]) (t1 := (9, [some (vR 74), some (vI r), some (vI f), some (vI d), some (vI k), none], [], MW b I L)) rfl rfl (k_X12_version l E b I L r f d k (by show 0 ≤ I 74 5 ∧ I 74 5 ≤ 150; omega)) (by decide) mw_le ?_
  rintro rt9 w9 (⟨rfl, rfl⟩) _ _
  show Rch l E 2 115 _ _ _ _ (9, [some (vR 74), some (vI r), some (vI f), some (vI d), some (vI k), none], [vI (bv (I 81) (I 82) (I 84) (I 85) r f d k (I 74 5).toNat)], MW b I L)
  refine rch_run rfl (by decide) 2 (t' := (13, [some (vR 74), some (vI r), some (vI f), some (vI d), some (vI k), some (vI (bv (I 81) (I 82) (I 84) (I 85) r f d k (I 74 5).toNat))], [vI (bv (I 81) (I 82) (I 84) (I 85) r f d k (I 74 5).toNat)], MW b I L)) (ps := []) rfl trivial ?_
  refine rch_br rfl (cd := 0 ≤ bv (I 81) (I 82) (I 84) (I 85) r f d k (I 74 5).toNat) (t1 := (20, [some (vR 74), some (vI r), some (vI f), some (vI d), some (vI k), some (vI (bv (I 81) (I 82) (I 84) (I 85) r f d k (I 74 5).toNat))], [], MW b I L)) (t2 := (16, [some (vR 74), some (vI r), some (vI f), some (vI d), some (vI k), some (vI (bv (I 81) (I 82) (I 84) (I 85) r f d k (I 74 5).toNat))], [], MW b I L)) rfl (fun c13_1 => ?_) (fun c13_1 => ?_)
  · refine rch_run rfl (by decide) 4 (t' := (27, [some (vR 74), some (vI r), some (vI f), some (vI d), some (vI k), some (vI (bv (I 81) (I 82) (I 84) (I 85) r f d k (I 74 5).toNat))], [vI (I 83 (bv (I 81) (I 82) (I 84) (I 85) r f d k (I 74 5).toNat).toNat)], MW b I L)) (ps := [0 ≤ bv (I 81) (I 82) (I 84) (I 85) r f d k (I 74 5).toNat ∧ bv (I 81) (I 82) (I 84) (I 85) r f d k (I 74 5).toNat < ((150 : Nat) : Int)]) rfl (by simp only [all_, i32, i64]; first | omega | (simp; done) | (simp; omega)) ?_
    refine rch_ret rfl (rt := some (vI (I 83 (bv (I 81) (I 82) (I 84) (I 85) r f d k (I 74 5).toNat).toNat))) rfl trivial mw_c ?_
    exact ⟨by unfold vo; first | rw [if_pos (by omega)] | rw [if_neg (by omega)], rfl⟩
  · refine rch_run rfl (by decide) 2 (t' := (27, [some (vR 74), some (vI r), some (vI f), some (vI d), some (vI k), some (vI (bv (I 81) (I 82) (I 84) (I 85) r f d k (I 74 5).toNat))], [vI (-1)], MW b I L)) (ps := []) rfl trivial ?_
    refine rch_ret rfl (rt := some (vI (-1))) rfl trivial mw_c ?_
    exact ⟨by unfold vo; first | rw [if_pos (by omega)] | rw [if_neg (by omega)], rfl⟩
