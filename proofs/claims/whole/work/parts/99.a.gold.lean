theorem GR_rg {I L J M : Nat → Nat → Int} {p f d k : Int} {r : Nat} (hG : GMk I f d) (h : GRw I L J M p f d k r) (hr : r ≤ 10) : (0 ≤ J 74 69 ∧ J 74 69 ≤ (r : Int)) ∧ ∀ j : Nat, (j : Int) < J 74 69 → (0 ≤ M 121 j ∧ M 121 j ≤ 9000) ∧ 0 ≤ J 118 j := by
  obtain ⟨a1, a2, a3, a4, g1, g2⟩ := h
  have h1 := dst_len (vva (mQ I p f d k) (mA I f d k)) (cnt (mQ I p f d k) r)
  have h2 := cnt_le (mQ I p f d k) r
  have hq : ∀ i, i < cnt (mQ I p f d k) r → ∃ q, q < r ∧ mQ I p f d k q = true ∧ fi (mQ I p f d k) 10 i = q := fun i hi => by
    obtain ⟨q, q1, q2, q3⟩ := cnt_at hi
    exact ⟨q, q1, q2, by rw [← q3]; exact fi_at (by omega) q2⟩
  refine ⟨by omega, fun j hj => ?_⟩
  obtain ⟨b1, b2, _, _⟩ := g2 j (by omega)
  refine ⟨?_, ?_⟩
  · have := sumF_rg (va := vva (mQ I p f d k) (mA I f d k)) (we := vva (mQ I p f d k) (mWt I f d k)) (x := (dst (vva (mQ I p f d k) (mA I f d k)) (cnt (mQ I p f d k) r)).getD j 0) (n := cnt (mQ I p f d k) r) (fun i hi => by
      obtain ⟨q, q1, q2, q3⟩ := hq i hi
      have qf := mQ_f q2
      unfold vva
      rw [q3]
      exact (mW_rg hG qf.1 qf.2.2.1).2.2.2)
    omega
  · have hm : (dst (vva (mQ I p f d k) (mA I f d k)) (cnt (mQ I p f d k) r)).getD j 0 ∈ dst (vva (mQ I p f d k) (mA I f d k)) (cnt (mQ I p f d k) r) := getD_mem (by omega)
    obtain ⟨i, i1, i2⟩ := dst_mem.mp hm
    obtain ⟨q, q1, q2, q3⟩ := hq i i1
    have qf := mQ_f q2
    have hb := mB_rg hG k q
    rw [b1, ← i2]
    unfold vva mA
    rw [q3]
    exact (hG.2.2.2.2.2.2.2.1 _ (by omega)).1.1

set_option maxHeartbeats 20000000 in
set_option maxRecDepth 100000 in
theorem gd_rows (l : Launch) (E : AX) (b : Bool) (I L : Nat → Nat → Int) (row f d k p : Int) (hG : GMk I f d) (Φ : Option AV → AW → Prop) (hk : ∀ J M, GRw I L J M p f d k (I 74 4).toNat → Rch l E 3 153 (MW b I L) 0 0 Φ (324, [some (vR 74), some (vI row), some (vI f), some (vI d), some (vI k), some (vI p), some (vI (I 74 4)), none, none, none, none], [], MW b J M)) : ∀ (n9 : Nat) (r : Int) (J M : Nat → Nat → Int), 0 ≤ r → r ≤ I 74 4 → GRw I L J M p f d k r.toNat → I 74 4 - r < (n9 : Int) → Rch l E 3 153 (MW b I L) 0 0 (Φ) (26, [some (vR 74), some (vI row), some (vI f), some (vI d), some (vI k), some (vI p), some (vI r), none, none, none, none], [], MW b J M) := by
  intro n9
  induction n9 with
  | zero =>
    intro r J M h1 h2 h3 hm
    exfalso; omega
  | succ n9 ih =>
    intro r J M h1 h2 h3 hm
    have hf9 := h3.1
    have hG4 := hG.2.2.1
    have hG5 := hG.2.2.2.1
    have hGf := hG.1
    have hr9 := GR_rg hG h3 (by omega)
    have q4 := hf9 74 4 (by omega)
    have q5 := hf9 74 5 (by omega)
    have q111 := hf9 111 r.toNat (by omega)
    have hb9 := mB_rg hG k r.toNat
    have hi9 : (r + 1).toNat = r.toNat + 1 := by omega
    have q86 := hf9 86 (mB I f d k r.toNat).toNat (by omega)
    have q84 := hf9 84 (mB I f d k r.toNat).toNat (by omega)
    have q83 := hf9 83 (mB I f d k r.toNat).toNat (by omega)
    have q78 := hf9 78 r.toNat (by omega)
    have q76 := hf9 76 f.toNat (by omega)
    have q75 : J 75 ((6 * (J 78 r.toNat)) + f).toNat = I 75 ((6 * (I 78 r.toNat)) + f).toNat := by rw [q78]; exact hf9 75 _ (by omega)
    have qp : (J 76 f.toNat) * (d - (J 84 (mB I f d k r.toNat).toNat)) = (I 76 f.toNat) * (d - (I 84 (mB I f d k r.toNat).toNat)) := by rw [q76, q84]
    have hW9 : r < I 74 4 → 0 ≤ mB I f d k r.toNat → _ := fun z1 z2 => mW_rg hG (r := r.toNat) (k := k) (by omega) z2
    have h78 : r < I 74 4 → _ := fun z => hG.2.2.2.2.2.2.1 r.toNat (by omega)
    have hl9 := lCmp_sg ((100 * (J 75 ((6 * (J 78 r.toNat)) + f).toNat)) - ((J 76 f.toNat) * (d - (J 84 (mB I f d k r.toNat).toNat)))) 0
    refine rch_run cdK153 (by decide) 3 (t' := (32, [some (vR 74), some (vI row), some (vI f), some (vI d), some (vI k), some (vI p), some (vI r), none, none, none, none], [vI (J 74 4), vI r], MW b J M)) (ps := []) rfl trivial ?_
    refine rch_br cdK153 (cd := J 74 4 ≤ r) (t1 := (324, [some (vR 74), some (vI row), some (vI f), some (vI d), some (vI k), some (vI p), some (vI r), none, none, none, none], [], MW b J M)) (t2 := (35, [some (vR 74), some (vI row), some (vI f), some (vI d), some (vI k), some (vI p), some (vI r), none, none, none, none], [], MW b J M)) rfl (fun c32_1 => ?_) (fun c32_1 => ?_)
    · have hre : r = I 74 4 := by omega
      rw [hre] at h3 ⊢
      exact hk J M h3
    · refine rch_run cdK153 (by decide) 5 (t' := (44, [some (vR 74), some (vI row), some (vI f), some (vI d), some (vI k), some (vI p), some (vI r), none, none, none, none], [vI p, vI (J 111 r.toNat)], MW b J M)) (ps := [0 ≤ r ∧ r < ((10 : Nat) : Int)]) rfl (by (try have hW8 := hW9 (by omega) (by omega)); (try have h788 := h78 (by omega)); simp only [all_, i32, i64]; (try rw [qp]); (try rw [q75]); (try rw [q84]); first | omega | (simp; done) | (simp; omega)) ?_
      refine rch_br cdK153 (cd := J 111 r.toNat ≠ p) (t1 := (60, [some (vR 74), some (vI row), some (vI f), some (vI d), some (vI k), some (vI p), some (vI r), none, none, none, none], [], MW b J M)) (t2 := (47, [some (vR 74), some (vI row), some (vI f), some (vI d), some (vI k), some (vI p), some (vI r), none, none, none, none], [], MW b J M)) rfl (fun c44_2 => ?_) (fun c44_2 => ?_)
      · refine rch_run cdK153 (by decide) 3 (t' := (65, [some (vR 74), some (vI row), some (vI f), some (vI d), some (vI k), some (vI p), some (vI r), some (vI (-1)), none, none, none], [vI (-1)], MW b J M)) (ps := []) rfl trivial ?_
        refine rch_br cdK153 (cd := ((-1) : Int) < 0) (t1 := (318, [some (vR 74), some (vI row), some (vI f), some (vI d), some (vI k), some (vI p), some (vI r), some (vI (-1)), none, none, none], [], MW b J M)) (t2 := (68, [some (vR 74), some (vI row), some (vI f), some (vI d), some (vI k), some (vI p), some (vI r), some (vI (-1)), none, none, none], [], MW b J M)) rfl (fun _ => ?_) (fun c9 => absurd (by decide) c9)
        refine rch_run cdK153 (by decide) 2 (t' := (26, [some (vR 74), some (vI row), some (vI f), some (vI d), some (vI k), some (vI p), some (vI (r + 1)), some (vI (-1)), none, none, none], [], MW b J M)) (ps := [i32 (r + 1)]) rfl (by (try have hW8 := hW9 (by omega) (by omega)); (try have h788 := h78 (by omega)); simp only [all_, i32, i64]; (try rw [qp]); (try rw [q75]); (try rw [q84]); first | omega | (simp; done) | (simp; omega)) ?_
        refine rch_forget [7] ?_
        show Rch l E 3 153 _ _ _ _ (26, [some (vR 74), some (vI row), some (vI f), some (vI d), some (vI k), some (vI p), some (vI (r + 1)), none, none, none, none], [], MW b J M)
        exact ih (r + 1) J M (by omega) (by omega) (by rw [hi9]; exact GR_no h3 (decide_eq_false (by rw [show ((r.toNat : Nat) : Int) = r by omega]; omega))) (by omega)
      · refine rch_run cdK153 (by decide) 5 (t' := (54, [some (vR 74), some (vI row), some (vI f), some (vI d), some (vI k), some (vI p), some (vI r), none, none, none, none], [vI k, vI d, vI f, vI r, vR 74], MW b J M)) (ps := []) rfl trivial ?_
        refine rch_call (h' := 1) (k' := 114) (as := [vR 74, vI r, vI f, vI d, vI k]) (t1 := (57, [some (vR 74), some (vI row), some (vI f), some (vI d), some (vI k), some (vI p), some (vI r), none, none, none, none], [], MW b J M)) cdK153 rfl (k_X12_version l E b J M r f d k (by rw [q5]; exact hG5)) (by decide) mw_le ?_
        rintro rt9 w9 (⟨e9, rfl⟩) _ _
        have e8 : bv (J 81) (J 82) (J 84) (J 85) r f d k (J 74 5).toNat = mB I f d k r.toNat := by unfold mB; rw [show ((r.toNat : Nat) : Int) = r by omega, show J 81 = I 81 from funext (fun z => hf9 81 z (by omega)), show J 82 = I 82 from funext (fun z => hf9 82 z (by omega)), show J 84 = I 84 from funext (fun z => hf9 84 z (by omega)), show J 85 = I 85 from funext (fun z => hf9 85 z (by omega)), q5]
        rw [e8] at e9
        subst e9
        show Rch l E 3 153 _ _ _ _ (57, [some (vR 74), some (vI row), some (vI f), some (vI d), some (vI k), some (vI p), some (vI r), none, none, none, none], [vI (mB I f d k r.toNat)], MW b J M)
        refine rch_run cdK153 (by decide) 3 (t' := (65, [some (vR 74), some (vI row), some (vI f), some (vI d), some (vI k), some (vI p), some (vI r), some (vI (mB I f d k r.toNat)), none, none, none], [vI (mB I f d k r.toNat)], MW b J M)) (ps := []) rfl trivial ?_
        refine rch_br cdK153 (cd := mB I f d k r.toNat < 0) (t1 := (318, [some (vR 74), some (vI row), some (vI f), some (vI d), some (vI k), some (vI p), some (vI r), some (vI (mB I f d k r.toNat)), none, none, none], [], MW b J M)) (t2 := (68, [some (vR 74), some (vI row), some (vI f), some (vI d), some (vI k), some (vI p), some (vI r), some (vI (mB I f d k r.toNat)), none, none, none], [], MW b J M)) rfl (fun c65_4 => ?_) (fun c65_4 => ?_)
        · refine rch_run cdK153 (by decide) 2 (t' := (26, [some (vR 74), some (vI row), some (vI f), some (vI d), some (vI k), some (vI p), some (vI (r + 1)), some (vI (mB I f d k r.toNat)), none, none, none], [], MW b J M)) (ps := [i32 (r + 1)]) rfl (by (try have hW8 := hW9 (by omega) (by omega)); (try have h788 := h78 (by omega)); simp only [all_, i32, i64]; (try rw [qp]); (try rw [q75]); (try rw [q84]); first | omega | (simp; done) | (simp; omega)) ?_
          refine rch_forget [7] ?_
          show Rch l E 3 153 _ _ _ _ (26, [some (vR 74), some (vI row), some (vI f), some (vI d), some (vI k), some (vI p), some (vI (r + 1)), none, none, none, none], [], MW b J M)
          exact ih (r + 1) J M (by omega) (by omega) (by rw [hi9]; exact GR_no h3 (decide_eq_false (by rw [show ((r.toNat : Nat) : Int) = r by omega]; omega))) (by omega)
        · refine rch_run cdK153 (by decide) 4 (t' := (75, [some (vR 74), some (vI row), some (vI f), some (vI d), some (vI k), some (vI p), some (vI r), some (vI (mB I f d k r.toNat)), none, none, none], [vI (J 86 (mB I f d k r.toNat).toNat)], MW b J M)) (ps := [0 ≤ mB I f d k r.toNat ∧ mB I f d k r.toNat < ((150 : Nat) : Int)]) rfl (by (try have hW8 := hW9 (by omega) (by omega)); (try have h788 := h78 (by omega)); simp only [all_, i32, i64]; (try rw [qp]); (try rw [q75]); (try rw [q84]); first | omega | (simp; done) | (simp; omega)) ?_
          refine rch_br cdK153 (cd := J 86 (mB I f d k r.toNat).toNat = 0) (t1 := (81, [some (vR 74), some (vI row), some (vI f), some (vI d), some (vI k), some (vI p), some (vI r), some (vI (mB I f d k r.toNat)), none, none, none], [], MW b J M)) (t2 := (78, [some (vR 74), some (vI row), some (vI f), some (vI d), some (vI k), some (vI p), some (vI r), some (vI (mB I f d k r.toNat)), none, none, none], [], MW b J M)) rfl (fun c75_5 => ?_) (fun c75_5 => ?_)
          · refine rch_run cdK153 (by decide) 25 (t' := (119, [some (vR 74), some (vI row), some (vI f), some (vI d), some (vI k), some (vI p), some (vI r), some (vI (mB I f d k r.toNat)), none, none, none], [vI (J 84 (mB I f d k r.toNat).toNat), vL d, vL (J 76 f.toNat), vL (100 * (J 75 ((6 * (J 78 r.toNat)) + f).toNat))], MW b J M)) (ps := [0 ≤ r ∧ r < ((10 : Nat) : Int), i32 (6 * (J 78 r.toNat)), i32 ((6 * (J 78 r.toNat)) + f), 0 ≤ (6 * (J 78 r.toNat)) + f ∧ (6 * (J 78 r.toNat)) + f < ((36 : Nat) : Int), i64 (100 * (J 75 ((6 * (J 78 r.toNat)) + f).toNat)), 0 ≤ f ∧ f < ((6 : Nat) : Int), 0 ≤ mB I f d k r.toNat ∧ mB I f d k r.toNat < ((150 : Nat) : Int)]) rfl (by (try have hW8 := hW9 (by omega) (by omega)); (try have h788 := h78 (by omega)); simp only [all_, i32, i64]; (try rw [qp]); (try rw [q75]); (try rw [q84]); first | omega | (simp; done) | (simp; omega)) ?_
            refine rch_run cdK153 (by decide) 8 (t' := (129, [some (vR 74), some (vI row), some (vI f), some (vI d), some (vI k), some (vI p), some (vI r), some (vI (mB I f d k r.toNat)), some (vL ((100 * (J 75 ((6 * (J 78 r.toNat)) + f).toNat)) - ((J 76 f.toNat) * (d - (J 84 (mB I f d k r.toNat).toNat))))), none, none], [vI (lCmp ((100 * (J 75 ((6 * (J 78 r.toNat)) + f).toNat)) - ((J 76 f.toNat) * (d - (J 84 (mB I f d k r.toNat).toNat)))) 0)], MW b J M)) (ps := [i64 (d - (J 84 (mB I f d k r.toNat).toNat)), i64 ((J 76 f.toNat) * (d - (J 84 (mB I f d k r.toNat).toNat))), i64 ((100 * (J 75 ((6 * (J 78 r.toNat)) + f).toNat)) - ((J 76 f.toNat) * (d - (J 84 (mB I f d k r.toNat).toNat))))]) rfl (by (try have hW8 := hW9 (by omega) (by omega)); (try have h788 := h78 (by omega)); simp only [all_, i32, i64]; (try rw [qp]); (try rw [q75]); (try rw [q84]); first | omega | (simp; done) | (simp; omega)) ?_
            refine rch_br cdK153 (cd := 0 ≤ lCmp ((100 * (J 75 ((6 * (J 78 r.toNat)) + f).toNat)) - ((J 76 f.toNat) * (d - (J 84 (mB I f d k r.toNat).toNat)))) 0) (t1 := (136, [some (vR 74), some (vI row), some (vI f), some (vI d), some (vI k), some (vI p), some (vI r), some (vI (mB I f d k r.toNat)), some (vL ((100 * (J 75 ((6 * (J 78 r.toNat)) + f).toNat)) - ((J 76 f.toNat) * (d - (J 84 (mB I f d k r.toNat).toNat))))), none, none], [], MW b J M)) (t2 := (132, [some (vR 74), some (vI row), some (vI f), some (vI d), some (vI k), some (vI p), some (vI r), some (vI (mB I f d k r.toNat)), some (vL ((100 * (J 75 ((6 * (J 78 r.toNat)) + f).toNat)) - ((J 76 f.toNat) * (d - (J 84 (mB I f d k r.toNat).toNat))))), none, none], [], MW b J M)) rfl (fun c129_6 => ?_) (fun c129_6 => ?_)
            · refine rch_run cdK153 (by decide) 4 (t' := (143, [some (vR 74), some (vI row), some (vI f), some (vI d), some (vI k), some (vI p), some (vI r), some (vI (mB I f d k r.toNat)), some (vL ((100 * (J 75 ((6 * (J 78 r.toNat)) + f).toNat)) - ((J 76 f.toNat) * (d - (J 84 (mB I f d k r.toNat).toNat))))), none, some (vI 0)], [], MW b J M)) (ps := []) rfl trivial ?_
              have hW8 := hW9 (by omega) (by omega)
              have hQ9 : mQ I p f d k r.toNat = true := decide_eq_true (by rw [show ((r.toNat : Nat) : Int) = r by omega]; omega)
              have ew : (100 * (J 75 ((6 * (J 78 r.toNat)) + f).toNat)) - ((J 76 f.toNat) * (d - (J 84 (mB I f d k r.toNat).toNat))) = mWt I f d k r.toNat := by unfold mWt mW0; rw [if_neg (by omega), qp, q75]
              refine gd_find l E b I L J M row f d k p r (mB I f d k r.toNat) _ _ (by omega) (by omega) (fun j j1 j2 j3 j4 => gd_up l E b I L J M row f d k p r (mB I f d k r.toNat) _ j _ (by omega) (by omega) (by have h7 := hW8.2.2.2; rw [← ew] at h7; exact h7) (fun z => (hr9.2 j.toNat (by omega)).1) j4 (by omega) (fun J2 M2 hU => ?_)) 11 0 (by omega) hr9.1.1 (fun i hi => by omega) (by omega)
              refine ih (r + 1) J2 M2 (by omega) (by omega) ?_ (by omega)
              rw [hi9]
              rw [q83] at j3 j4
              refine GR_yes (j := j.toNat) h3 (by omega) hQ9 hW8.2.2.2.1 (by omega) (fun i hi => j3 i (by omega)) (fun hi => j4 (by omega)) ?_
              rw [← ew]
              unfold mA mSi
              rw [← q83, ← q84, show ((r.toNat : Nat) : Int) = r by omega]
              exact hU
            · refine rch_run cdK153 (by decide) 5 (t' := (143, [some (vR 74), some (vI row), some (vI f), some (vI d), some (vI k), some (vI p), some (vI r), some (vI (mB I f d k r.toNat)), some (vL 0), none, some (vI 0)], [], MW b J M)) (ps := []) rfl trivial ?_
              have hW8 := hW9 (by omega) (by omega)
              have hQ9 : mQ I p f d k r.toNat = true := decide_eq_true (by rw [show ((r.toNat : Nat) : Int) = r by omega]; omega)
              have ew : (0 : Int) = mWt I f d k r.toNat := by unfold mWt mW0; rw [if_pos (by omega)]
              refine gd_find l E b I L J M row f d k p r (mB I f d k r.toNat) _ _ (by omega) (by omega) (fun j j1 j2 j3 j4 => gd_up l E b I L J M row f d k p r (mB I f d k r.toNat) _ j _ (by omega) (by omega) (by have h7 := hW8.2.2.2; rw [← ew] at h7; exact h7) (fun z => (hr9.2 j.toNat (by omega)).1) j4 (by omega) (fun J2 M2 hU => ?_)) 11 0 (by omega) hr9.1.1 (fun i hi => by omega) (by omega)
              refine ih (r + 1) J2 M2 (by omega) (by omega) ?_ (by omega)
              rw [hi9]
              rw [q83] at j3 j4
              refine GR_yes (j := j.toNat) h3 (by omega) hQ9 hW8.2.2.2.1 (by omega) (fun i hi => j3 i (by omega)) (fun hi => j4 (by omega)) ?_
              rw [← ew]
              unfold mA mSi
              rw [← q83, ← q84, show ((r.toNat : Nat) : Int) = r by omega]
              exact hU
          · refine rch_run cdK153 (by decide) 3 (t' := (26, [some (vR 74), some (vI row), some (vI f), some (vI d), some (vI k), some (vI p), some (vI (r + 1)), some (vI (mB I f d k r.toNat)), none, none, none], [], MW b J M)) (ps := [i32 (r + 1)]) rfl (by (try have hW8 := hW9 (by omega) (by omega)); (try have h788 := h78 (by omega)); simp only [all_, i32, i64]; (try rw [qp]); (try rw [q75]); (try rw [q84]); first | omega | (simp; done) | (simp; omega)) ?_
            refine rch_forget [7] ?_
            show Rch l E 3 153 _ _ _ _ (26, [some (vR 74), some (vI row), some (vI f), some (vI d), some (vI k), some (vI p), some (vI (r + 1)), none, none, none, none], [], MW b J M)
            exact ih (r + 1) J M (by omega) (by omega) (by rw [hi9]; exact GR_no h3 (decide_eq_false (by rw [show ((r.toNat : Nat) : Int) = r by omega]; omega))) (by omega)

set_option maxHeartbeats 20000000 in
set_option maxRecDepth 100000 in
theorem k_gold (l : Launch) (E : AX) (b : Bool) (I L : Nat → Nat → Int) (row f d k : Int) (hG : GMk I f d) (hrow : 0 ≤ row ∧ row < 10) : Con l E 3 153 [vR 74, vI row, vI f, vI d, vI k] (MW b I L) 0 0 (fun rt w => ∃ J M, rt = none ∧ w = MW b J M ∧ Gld I L J M (I 111 row.toNat) f d k) := by
  refine con_ok (fun hw9 hs9 => ?_)
  refine con_intro (by decide) (Nat.le_of_ble_eq_true rfl) ?_
  show Rch l E 3 153 _ _ _ _ (0, [some (vR 74), some (vI row), some (vI f), some (vI d), some (vI k), none, none, none, none, none, none], [], MW b I L)
  refine rch_run cdK153 (by decide) 16 (t' := (26, [some (vR 74), some (vI row), some (vI f), some (vI d), some (vI k), some (vI (I 111 row.toNat)), some (vI 0), none, none, none, none], [], MW b (upI (upI (upI I 74 67 (-1)) 74 68 (-1)) 74 69 0) L)) (ps := [0 ≤ row ∧ row < ((10 : Nat) : Int)]) rfl (by simp only [all_, i32, i64]; first | omega | (simp; done) | (simp; omega)) ?_
  refine gd_rows l E b I L row f d k (I 111 row.toNat) hG _ (fun J M g1 => ?_) 11 0 _ L (by omega) hG.2.2.1.1 ⟨fun a j ha => by rw [upI_ne (by omega), upI_ne (by omega), upI_ne (by omega)], fun _ _ _ => rfl, by rw [upI_ne (by omega), upI_ne (by omega), upI_eq rfl rfl], by rw [upI_ne (by omega), upI_eq rfl rfl], by rw [upI_eq rfl rfl]; rfl, fun i hi => absurd hi (by simp [cnt, dst])⟩ (by have := hG.2.2.1; omega)
  have hr9 := GR_rg hG g1 (by have := hG.2.2.1; omega)
  have hG4 := hG.2.2.1
  have hce : cnt (mQ I (I 111 row.toNat) f d k) (I 74 4).toNat = cnt (mQ I (I 111 row.toNat) f d k) 10 := by have := cnt_ext (Q := (mQ I (I 111 row.toNat) f d k)) (n := (I 74 4).toNat) (10 - (I 74 4).toNat) (fun q hq => decide_eq_false (fun z => by omega)); rw [show (I 74 4).toNat + (10 - (I 74 4).toNat) = 10 by omega] at this; exact this.symm
  have hgp := g1.2.2.2.2
  rw [hce] at hgp
  obtain ⟨h69, hgi⟩ := hgp
  have h69 : J 74 69 = rN (mQ I (I 111 row.toNat) f d k) (mA I f d k) := h69
  have h69l : J 74 69 = ((dst (vva (mQ I (I 111 row.toNat) f d k) (mA I f d k)) (cnt (mQ I (I 111 row.toNat) f d k) 10)).length : Int) := h69
  refine rch_run cdK153 (by decide) 4 (t' := (330, [some (vR 74), some (vI row), some (vI f), some (vI d), some (vI k), some (vI (I 111 row.toNat)), some (vI (-1)), some (vI 0), none, none, none], [], MW b J M)) (ps := []) rfl trivial ?_
  refine gd_best l E b I L J M row f d k (I 111 row.toNat) (fun x => sumF (vva (mQ I (I 111 row.toNat) f d k) (mA I f d k)) (vva (mQ I (I 111 row.toNat) f d k) (mWt I f d k)) x (cnt (mQ I (I 111 row.toNat) f d k) 10)) (fun x => latF (vva (mQ I (I 111 row.toNat) f d k) (mA I f d k)) (vva (mQ I (I 111 row.toNat) f d k) (mSi I f d k)) x (cnt (mQ I (I 111 row.toNat) f d k) 10)) (dst (vva (mQ I (I 111 row.toNat) f d k) (mA I f d k)) (cnt (mQ I (I 111 row.toNat) f d k) 10)) _ h69l (by omega) (fun i hi => ⟨by rw [(hgi i hi).2.1, (hgi i hi).1], by rw [(hgi i hi).2.2.1, (hgi i hi).1], (hgi i hi).1⟩) (fun i hi => by have := (hr9.2 i (by omega)).2; omega) (fun be hbl => ?_) 11 0 (-1) (by omega) (by omega) ⟨by omega, Or.inl ⟨rfl, rfl⟩⟩ (by omega)
  have hbx : (be = -1 ∧ (dst (vva (mQ I (I 111 row.toNat) f d k) (mA I f d k)) (cnt (mQ I (I 111 row.toNat) f d k) 10)) = []) ∨ (0 ≤ be ∧ be < ((dst (vva (mQ I (I 111 row.toNat) f d k) (mA I f d k)) (cnt (mQ I (I 111 row.toNat) f d k) 10)).length : Int) ∧ rV (mQ I (I 111 row.toNat) f d k) (mA I f d k) (mSi I f d k) (mWt I f d k) = J 118 be.toNat) := by
    rcases hbl.2 with ⟨a1, a2⟩ | ⟨a1, a2, a3⟩
    · exact Or.inl ⟨a1, List.eq_nil_of_length_eq_zero a2⟩
    · rw [List.take_length] at a3; exact Or.inr ⟨a1, a2, a3⟩
  rcases hbx with hbx | ⟨hb0, hbx⟩
  · have hbe := hbx.1
    have hn0 : cnt (mQ I (I 111 row.toNat) f d k) 10 = 0 := by rcases Nat.eq_zero_or_pos (cnt (mQ I (I 111 row.toNat) f d k) 10) with z | z; (exact z); (exact absurd (dst_mem.mpr ⟨0, z, rfl⟩ : vva (mQ I (I 111 row.toNat) f d k) (mA I f d k) 0 ∈ dst (vva (mQ I (I 111 row.toNat) f d k) (mA I f d k)) (cnt (mQ I (I 111 row.toNat) f d k) 10)) (by rw [hbx.2]; simp))
    refine rch_run cdK153 (by decide) 1 (t' := (455, [some (vR 74), some (vI row), some (vI f), some (vI d), some (vI k), some (vI (I 111 row.toNat)), some (vI be), none, none, none, none], [vI be], MW b J M)) (ps := []) rfl trivial ?_
    refine rch_br cdK153 (cd := be < 0) (t1 := (480, [some (vR 74), some (vI row), some (vI f), some (vI d), some (vI k), some (vI (I 111 row.toNat)), some (vI be), none, none, none, none], [], MW b J M)) (t2 := (458, [some (vR 74), some (vI row), some (vI f), some (vI d), some (vI k), some (vI (I 111 row.toNat)), some (vI be), none, none, none, none], [], MW b J M)) rfl (fun c455_1 => ?_) (fun c9 => by exfalso; omega)
    refine rch_run cdK153 (by decide) 2 (t' := (483, [some (vR 74), some (vI row), some (vI f), some (vI d), some (vI k), some (vI (I 111 row.toNat)), some (vI be), some (vI 0), none, none, none], [], MW b J M)) (ps := []) rfl trivial ?_
    refine gd_fix l E b I L I J M row f d k (I 111 row.toNat) be (rV (mQ I (I 111 row.toNat) f d k) (mA I f d k) (mSi I f d k) (mWt I f d k)) (rF (mQ I (I 111 row.toNat) f d k) (mA I f d k) (mSi I f d k) (mWt I f d k)) _ (fun a j ha => by (repeat rw [upI_ne (by omega)]); exact g1.1 a j ha) ⟨hG.2.2.2.2.2.2.2.2.1, hG.2.2.1⟩ hG.2.2.2.2.2.2.2.2.2 (fun J4 f4 x4 => ⟨J4, M, rfl, rfl, fun a j ha => by rw [f4 a j (by omega)]; (repeat rw [upI_ne (by omega)]); exact g1.1 a j ha, g1.2.1, by rw [f4 74 69 (by omega)]; (repeat rw [upI_ne (by omega)]); exact h69, x4⟩) 21 0 J (by omega) hG.2.2.2.2.2.2.2.2.1.1 (fun _ _ _ => rfl) ?_ (by have := hG.2.2.2.2.2.2.2.2.1; omega)
    refine ⟨?_, ?_⟩
    · show _ = (if (-1 : Int) < 0 then rV (mQ I (I 111 row.toNat) f d k) _ _ _ else _)
      rw [if_pos (by omega)]
      rw [g1.2.2.1]; unfold rV; rw [hbx.2]; rfl
    · show _ = (if (-1 : Int) < 0 then rF (mQ I (I 111 row.toNat) f d k) _ _ _ else _)
      rw [if_pos (by omega)]
      rw [g1.2.2.2.1]; unfold rF; rw [hn0]; rfl
  · have hbe := hbx.1
    refine rch_run cdK153 (by decide) 1 (t' := (455, [some (vR 74), some (vI row), some (vI f), some (vI d), some (vI k), some (vI (I 111 row.toNat)), some (vI be), none, none, none, none], [vI be], MW b J M)) (ps := []) rfl trivial ?_
    refine rch_br cdK153 (cd := be < 0) (t1 := (480, [some (vR 74), some (vI row), some (vI f), some (vI d), some (vI k), some (vI (I 111 row.toNat)), some (vI be), none, none, none, none], [], MW b J M)) (t2 := (458, [some (vR 74), some (vI row), some (vI f), some (vI d), some (vI k), some (vI (I 111 row.toNat)), some (vI be), none, none, none, none], [], MW b J M)) rfl (fun c9 => by exfalso; omega) (fun c455_1 => ?_)
    refine rch_run cdK153 (by decide) 14 (t' := (483, [some (vR 74), some (vI row), some (vI f), some (vI d), some (vI k), some (vI (I 111 row.toNat)), some (vI be), some (vI 0), none, none, none], [], MW b (upI (upI J 74 67 (J 118 be.toNat)) 74 68 (J 119 be.toNat)) M)) (ps := [0 ≤ be ∧ be < ((10 : Nat) : Int), 0 ≤ be ∧ be < ((10 : Nat) : Int)]) rfl (by simp only [all_, i32, i64]; first | omega | (simp; done) | (simp; omega)) ?_
    refine gd_fix l E b I L I (upI (upI J 74 67 (J 118 be.toNat)) 74 68 (J 119 be.toNat)) M row f d k (I 111 row.toNat) be (rV (mQ I (I 111 row.toNat) f d k) (mA I f d k) (mSi I f d k) (mWt I f d k)) (rF (mQ I (I 111 row.toNat) f d k) (mA I f d k) (mSi I f d k) (mWt I f d k)) _ (fun a j ha => by (repeat rw [upI_ne (by omega)]); exact g1.1 a j ha) ⟨hG.2.2.2.2.2.2.2.2.1, hG.2.2.1⟩ hG.2.2.2.2.2.2.2.2.2 (fun J4 f4 x4 => ⟨J4, M, rfl, rfl, fun a j ha => by rw [f4 a j (by omega)]; (repeat rw [upI_ne (by omega)]); exact g1.1 a j ha, g1.2.1, by rw [f4 74 69 (by omega)]; (repeat rw [upI_ne (by omega)]); exact h69, x4⟩) 21 0 (upI (upI J 74 67 (J 118 be.toNat)) 74 68 (J 119 be.toNat)) (by omega) hG.2.2.2.2.2.2.2.2.1.1 (fun _ _ _ => rfl) ?_ (by have := hG.2.2.2.2.2.2.2.2.1; omega)
    refine ⟨?_, ?_⟩
    · show _ = (if (-1 : Int) < 0 then rV (mQ I (I 111 row.toNat) f d k) _ _ _ else _)
      rw [if_pos (by omega)]
      rw [upI_ne (by omega), upI_eq rfl rfl, hbx.2]
    · show _ = (if (-1 : Int) < 0 then rF (mQ I (I 111 row.toNat) f d k) _ _ _ else _)
      rw [if_pos (by omega)]
      rw [upI_eq rfl rfl]; unfold rF; rw [hbx.2, (hgi be.toNat (by omega)).1]; exact congrArg Prod.snd (hgi be.toNat (by omega)).2.2.2
