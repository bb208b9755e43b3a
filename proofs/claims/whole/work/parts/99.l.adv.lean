theorem lp_advance (l : Launch) (E : AX) (b : Bool) (I L : Nat → Nat → Int) (hT : TpK I) : ∀ (n9 : Nat) (zz : Int) (J : Nat → Nat → Int), I 28 4 ≤ J 28 4 ∧ J 28 4 ≤ I 28 0 → (∀ x : Nat, I 28 4 ≤ x → (x : Int) < J 28 4 → Pb (I 29) (I 28 0).toNat x = true) → FrT I J → I 28 0 - J 28 4 < (n9 : Int) → Rch l E 2 42 (MW b I L) 0 0 (fun rt w => ∃ J, rt = none ∧ w = MW b J L ∧ FrT I J ∧ Tkn J (I 29) (I 28 0).toNat (I 28 4).toNat) (0, [some (vR 28)], [], MW b J L) := by
  intro n9
  induction n9 with
  | zero =>
    intro zz J h1 h2 h3 hm
    exfalso; omega
  | succ n9 ih =>
    intro zz J h1 h2 h3 hm
    have hT1 := hT.1
    have hf9 : FrT I J := h3
    have q0 := hf9 28 0 (by omega)
    have e29 := hf9 29 (J 28 4).toNat (by omega)
    have e30 := hf9 30 (J 28 4).toNat (by omega)
    have hc9 := srt_c (I 29 (J 28 4).toNat)
    have hs9 : J 28 4 < I 28 0 → I 30 (J 28 4).toNat = srt (I 29 (J 28 4).toNat) ∧ (0 ≤ I 29 (J 28 4).toNat ∧ I 29 (J 28 4).toNat ≤ 255) := fun z => by have := hT.2 (J 28 4).toNat (by omega); exact ⟨this.2, this.1⟩
    have hcj := srt_c (J 29 (J 28 4).toNat)
    refine rch_run cdK42 (by decide) 4 (t' := (8, [some (vR 28)], [vI (J 28 0), vI (J 28 4)], MW b J L)) (ps := []) rfl trivial ?_
    refine rch_br cdK42 (cd := J 28 0 ≤ J 28 4) (t1 := (37, [some (vR 28)], [], MW b J L)) (t2 := (11, [some (vR 28)], [], MW b J L)) rfl (fun c8_1 => ?_) (fun c8_1 => ?_)
    · have hend : Pb (I 29) (I 28 0).toNat (J 28 4).toNat = false := decide_eq_false (fun z => by by_cases hlt : J 28 4 < I 28 0; (have hs8 := hs9 hlt; omega); omega)
      have hr9 : tP (I 29) (I 28 0).toNat (I 28 4).toNat = (J 28 4).toNat := run_eq (run_mk (by omega) (fun x hx hx2 => h2 x (by omega) (by omega)) hend) (by omega)
      have hU0 : FrT I (upI J 28 2 (J 28 4)) := fun a j ha => by rw [upI_ne (by omega)]; exact h3 a j ha
      have hUT : TpK (upI J 28 2 (J 28 4)) := ⟨by rw [upI_ne (by omega), upI_ne (by omega)]; omega, fun j hj => by rw [upI_ne (by omega)] at hj; rw [upI_ne (by omega), upI_ne (by omega), hf9 29 j (by omega), hf9 30 j (by omega)]; exact hT.2 j (by omega)⟩
      have hpl : Pl (I 29) (I 28 0).toNat (J 28 4).toNat = true ↔ J 28 4 < I 28 0 ∧ 97 ≤ I 29 (J 28 4).toNat ∧ I 29 (J 28 4).toNat ≤ 122 := by unfold Pl; rw [decide_eq_true_eq]; omega
      have hpd : Pd (I 29) (I 28 0).toNat (J 28 4).toNat = true ↔ J 28 4 < I 28 0 ∧ 48 ≤ I 29 (J 28 4).toNat ∧ I 29 (J 28 4).toNat ≤ 57 := by unfold Pd; rw [decide_eq_true_eq]; omega
      have hU29 : (upI J 28 2 (J 28 4)) 29 = I 29 := funext (fun z => hU0 29 z (by omega))
      have hU280 : (upI J 28 2 (J 28 4)) 28 0 = I 28 0 := hU0 28 0 (by omega)
      have hU284 : (upI J 28 2 (J 28 4)) 28 4 = J 28 4 := upI_ne (by omega)
      have hU282 : (upI J 28 2 (J 28 4)) 28 2 = J 28 4 := upI_eq rfl rfl
      refine rch_run cdK42 (by decide) 8 (t' := (53, [some (vR 28)], [vI (J 28 0), vI (J 28 4)], MW b (upI J 28 2 (J 28 4)) L)) (ps := []) rfl trivial ?_
      refine rch_br cdK42 (cd := J 28 4 < J 28 0) (t1 := (64, [some (vR 28)], [], MW b (upI J 28 2 (J 28 4)) L)) (t2 := (56, [some (vR 28)], [], MW b (upI J 28 2 (J 28 4)) L)) rfl (fun c53_1 => ?_) (fun c53_1 => ?_)
      · refine rch_run cdK42 (by decide) 6 (t' := (74, [some (vR 28)], [vI 2, vI (J 30 (J 28 4).toNat)], MW b (upI J 28 2 (J 28 4)) L)) (ps := [0 ≤ J 28 4 ∧ J 28 4 < ((500 : Nat) : Int)]) rfl (by (try have hs8 := hs9 (by omega)); simp only [all_, i32, i64]; first | omega | (simp; done) | (simp; omega)) ?_
        refine rch_br cdK42 (cd := J 30 (J 28 4).toNat ≠ (2 : Int)) (t1 := (84, [some (vR 28)], [], MW b (upI J 28 2 (J 28 4)) L)) (t2 := (77, [some (vR 28)], [], MW b (upI J 28 2 (J 28 4)) L)) rfl (fun c74_2 => ?_) (fun c74_2 => ?_)
        · refine rch_run cdK42 (by decide) 6 (t' := (94, [some (vR 28)], [vI 3, vI (J 30 (J 28 4).toNat)], MW b (upI J 28 2 (J 28 4)) L)) (ps := [0 ≤ J 28 4 ∧ J 28 4 < ((500 : Nat) : Int)]) rfl (by (try have hs8 := hs9 (by omega)); simp only [all_, i32, i64]; first | omega | (simp; done) | (simp; omega)) ?_
          refine rch_br cdK42 (cd := J 30 (J 28 4).toNat ≠ (3 : Int)) (t1 := (104, [some (vR 28)], [], MW b (upI J 28 2 (J 28 4)) L)) (t2 := (97, [some (vR 28)], [], MW b (upI J 28 2 (J 28 4)) L)) rfl (fun c94_3 => ?_) (fun c94_3 => ?_)
          · refine rch_run cdK42 (by decide) 7 (t' := (115, [some (vR 28)], [vI 4, vI (J 30 (J 28 4).toNat), vR 28], MW b (upI J 28 2 (J 28 4)) L)) (ps := [0 ≤ J 28 4 ∧ J 28 4 < ((500 : Nat) : Int)]) rfl (by (try have hs8 := hs9 (by omega)); simp only [all_, i32, i64]; first | omega | (simp; done) | (simp; omega)) ?_
            refine rch_br cdK42 (cd := J 30 (J 28 4).toNat ≠ (4 : Int)) (t1 := (130, [some (vR 28)], [vR 28], MW b (upI J 28 2 (J 28 4)) L)) (t2 := (118, [some (vR 28)], [vR 28], MW b (upI J 28 2 (J 28 4)) L)) rfl (fun c115_4 => ?_) (fun c115_4 => ?_)
            · refine rch_run cdK42 (by decide) 8 (t' := (144, [some (vR 28)], [], MW b (upI (upI (upI J 28 2 (J 28 4)) 28 1 1) 28 4 ((J 28 4) + 1)) L)) (ps := [i32 ((J 28 4) + 1)]) rfl (by (try have hs8 := hs9 (by omega)); simp only [all_, i32, i64]; first | omega | (simp; done) | (simp; omega)) ?_
              refine rch_ret cdK42 (rt := none) rfl trivial mw_c ?_
              have hs8 := hs9 (by omega)
              have hl : ¬ Pl (I 29) (I 28 0).toNat (J 28 4).toNat = true := fun z => by have := hpl.mp z; omega
              have hdd : ¬ Pd (I 29) (I 28 0).toNat (J 28 4).toNat = true := fun z => by have := hpd.mp z; omega
              have hkk : tK (I 29) (I 28 0).toNat (I 28 4).toNat = 1 := by unfold tK tKp; rw [hr9, if_neg (by omega), if_neg hl, if_neg hdd]; first | (rw [if_pos (by omega)]; omega) | rw [if_neg (by omega)]
              refine ⟨_, rfl, rfl, fun a j ha => by rw [upI_ne (by omega), upI_ne (by omega), upI_ne (by omega)]; exact h3 a j ha, by rw [upI_ne (by omega), upI_ne (by omega), upI_eq rfl rfl, hr9]; omega, ?_, ?_, fun z => ?_⟩
              · rw [upI_ne (by omega), upI_eq rfl rfl, hkk]
              · rw [upI_eq rfl rfl]; unfold tN tE; rw [hr9, if_neg (by omega), if_neg hl, if_neg hdd]; omega
              · exfalso; rw [hkk] at z; omega
            · refine rch_run cdK42 (by decide) 13 (t' := (144, [some (vR 28)], [], MW b (upI (upI (upI J 28 2 (J 28 4)) 28 1 (J 29 (J 28 4).toNat)) 28 4 ((J 28 4) + 1)) L)) (ps := [0 ≤ J 28 4 ∧ J 28 4 < ((500 : Nat) : Int), i32 ((J 28 4) + 1)]) rfl (by (try have hs8 := hs9 (by omega)); simp only [all_, i32, i64]; first | omega | (simp; done) | (simp; omega)) ?_
              refine rch_ret cdK42 (rt := none) rfl trivial mw_c ?_
              have hs8 := hs9 (by omega)
              have hl : ¬ Pl (I 29) (I 28 0).toNat (J 28 4).toNat = true := fun z => by have := hpl.mp z; omega
              have hdd : ¬ Pd (I 29) (I 28 0).toNat (J 28 4).toNat = true := fun z => by have := hpd.mp z; omega
              have hkk : tK (I 29) (I 28 0).toNat (I 28 4).toNat = J 29 (J 28 4).toNat := by unfold tK tKp; rw [hr9, if_neg (by omega), if_neg hl, if_neg hdd]; first | (rw [if_pos (by omega)]; omega) | rw [if_neg (by omega)]
              refine ⟨_, rfl, rfl, fun a j ha => by rw [upI_ne (by omega), upI_ne (by omega), upI_ne (by omega)]; exact h3 a j ha, by rw [upI_ne (by omega), upI_ne (by omega), upI_eq rfl rfl, hr9]; omega, ?_, ?_, fun z => ?_⟩
              · rw [upI_ne (by omega), upI_eq rfl rfl, hkk]
              · rw [upI_eq rfl rfl]; unfold tN tE; rw [hr9, if_neg (by omega), if_neg hl, if_neg hdd]; omega
              · exfalso; rw [hkk] at z; omega
          · refine rch_run cdK42 (by decide) 1 (t' := (98, [some (vR 28)], [vR 28], MW b (upI J 28 2 (J 28 4)) L)) (ps := []) rfl trivial ?_
            refine rch_call (h' := 1) (k' := 44) (as := [vR 28]) (t1 := (101, [some (vR 28)], [], MW b (upI J 28 2 (J 28 4)) L)) cdK42 rfl (k_takeNumber l E b (upI J 28 2 (J 28 4)) L hUT (by rw [hU284, hU282]; omega)) (by decide) mw_le ?_
            rintro rt9 w9 (⟨J2, rfl, rfl, t1, t2, t4, t5, t6⟩) _ _
            show Rch l E 2 42 _ _ _ _ (101, [some (vR 28)], [], MW b J2 L)
            rw [hU29, hU280, hU284] at t4
            rw [hU282] at t2
            rw [hU29, hU280, hU284, hU282] at t5
            rw [hU29, hU284] at t6
            refine rch_run cdK42 (by decide) 1 (t' := (144, [some (vR 28)], [], MW b J2 L)) (ps := []) rfl trivial ?_
            refine rch_ret cdK42 (rt := none) rfl trivial mw_c ?_
            have hs8 := hs9 (by omega)
            refine ⟨J2, rfl, rfl, fun a j ha => by rw [t1 a j ha]; exact hU0 a j ha, ?_⟩
            first
              | (have hl : Pl (I 29) (I 28 0).toNat (J 28 4).toNat = true := hpl.mpr (by omega)
                 have hE : tE (I 29) (I 28 0).toNat (J 28 4).toNat = runP (Pl (I 29) (I 28 0).toNat) 501 (J 28 4).toNat := by unfold tE; rw [if_neg (by omega), if_pos hl]
                 refine ⟨by rw [t2, hr9]; omega, ?_, by unfold tN; rw [hr9, hE]; exact t4, fun z => ?_⟩
                 · unfold tK tKp; rw [hr9, if_neg (by omega), if_pos hl, hE, t5]; have h14 := run_ok (Pl_n (I 29) (I 28 0).toNat) (k := 501) (a := (J 28 4).toNat) (by omega); have h15 := h14.1; by_cases h16 : 8 < runP (Pl (I 29) (I 28 0).toNat) 501 (J 28 4).toNat - (J 28 4).toNat; (rw [if_pos h16, if_pos (by omega)]); (rw [if_neg h16, if_neg (by omega)])
                 · exfalso; unfold tK tKp at z; rw [hr9, if_neg (by omega), if_pos hl] at z; split at z <;> omega)
              | (have hl : ¬ Pl (I 29) (I 28 0).toNat (J 28 4).toNat = true := fun z => by have := hpl.mp z; omega
                 have hdd : Pd (I 29) (I 28 0).toNat (J 28 4).toNat = true := hpd.mpr (by omega)
                 have hE : tE (I 29) (I 28 0).toNat (J 28 4).toNat = runP (Pd (I 29) (I 28 0).toNat) 501 (J 28 4).toNat := by unfold tE; rw [if_neg (by omega), if_neg hl, if_pos hdd]
                 have h14 := run_ok (Pd_n (I 29) (I 28 0).toNat) (k := 501) (a := (J 28 4).toNat) (by omega)
                 have h15 := h14.1
                 refine ⟨by rw [t2, hr9]; omega, ?_, by unfold tN; rw [hr9, hE]; exact t4, fun z => ?_⟩
                 · unfold tK tKp; rw [hr9, if_neg (by omega), if_neg hl, if_pos hdd, hE, t5]; by_cases h16 : Pl (I 29) (I 28 0).toNat (runP (Pd (I 29) (I 28 0).toNat) 501 (J 28 4).toNat) = true ∨ 6 < runP (Pd (I 29) (I 28 0).toNat) 501 (J 28 4).toNat - (J 28 4).toNat; (rw [if_pos h16, if_pos (by rcases h16 with h | h; (exact Or.inl h); right; omega)]); (rw [if_neg h16, if_neg (fun h => h16 (by rcases h with h | h; (exact Or.inl h); right; omega))])
                 · unfold tK tKp at z; rw [hr9, if_neg (by omega), if_neg hl, if_pos hdd, hE] at z
                   have h17 : ¬ (Pl (I 29) (I 28 0).toNat (runP (Pd (I 29) (I 28 0).toNat) 501 (J 28 4).toNat) = true ∨ 6 < runP (Pd (I 29) (I 28 0).toNat) 501 (J 28 4).toNat - (J 28 4).toNat) := fun h => by rw [if_pos h] at z; omega
                   unfold tV tN; rw [hr9, hE, t6 (by have := fun h => h17 (Or.inr h); omega), t4, show (((runP (Pd (I 29) (I 28 0).toNat) 501 (J 28 4).toNat : Nat) : Int) - J 28 4).toNat = runP (Pd (I 29) (I 28 0).toNat) 501 (J 28 4).toNat - (J 28 4).toNat by omega])
        · refine rch_run cdK42 (by decide) 1 (t' := (78, [some (vR 28)], [vR 28], MW b (upI J 28 2 (J 28 4)) L)) (ps := []) rfl trivial ?_
          refine rch_call (h' := 1) (k' := 43) (as := [vR 28]) (t1 := (81, [some (vR 28)], [], MW b (upI J 28 2 (J 28 4)) L)) cdK42 rfl (k_takeWord l E b (upI J 28 2 (J 28 4)) L hUT (by rw [hU284, hU282]; omega)) (by decide) mw_le ?_
          rintro rt9 w9 (⟨J2, rfl, rfl, t1, t2, t3, t4, t5⟩) _ _
          show Rch l E 2 42 _ _ _ _ (81, [some (vR 28)], [], MW b J2 L)
          rw [hU29, hU280, hU284] at t4
          rw [hU282] at t2 t5
          refine rch_run cdK42 (by decide) 1 (t' := (144, [some (vR 28)], [], MW b J2 L)) (ps := []) rfl trivial ?_
          refine rch_ret cdK42 (rt := none) rfl trivial mw_c ?_
          have hs8 := hs9 (by omega)
          refine ⟨J2, rfl, rfl, fun a j ha => by rw [t1 a j ha]; exact hU0 a j ha, ?_⟩
          first
            | (have hl : Pl (I 29) (I 28 0).toNat (J 28 4).toNat = true := hpl.mpr (by omega)
               have hE : tE (I 29) (I 28 0).toNat (J 28 4).toNat = runP (Pl (I 29) (I 28 0).toNat) 501 (J 28 4).toNat := by unfold tE; rw [if_neg (by omega), if_pos hl]
               refine ⟨by rw [t2, hr9]; omega, ?_, by unfold tN; rw [hr9, hE]; exact t4, fun z => ?_⟩
               · unfold tK tKp; rw [hr9, if_neg (by omega), if_pos hl, hE, t5]; have h14 := run_ok (Pl_n (I 29) (I 28 0).toNat) (k := 501) (a := (J 28 4).toNat) (by omega); have h15 := h14.1; by_cases h16 : 8 < runP (Pl (I 29) (I 28 0).toNat) 501 (J 28 4).toNat - (J 28 4).toNat; (rw [if_pos h16, if_pos (by omega)]); (rw [if_neg h16, if_neg (by omega)])
               · exfalso; unfold tK tKp at z; rw [hr9, if_neg (by omega), if_pos hl] at z; split at z <;> omega)
            | (have hl : ¬ Pl (I 29) (I 28 0).toNat (J 28 4).toNat = true := fun z => by have := hpl.mp z; omega
               have hdd : Pd (I 29) (I 28 0).toNat (J 28 4).toNat = true := hpd.mpr (by omega)
               have hE : tE (I 29) (I 28 0).toNat (J 28 4).toNat = runP (Pd (I 29) (I 28 0).toNat) 501 (J 28 4).toNat := by unfold tE; rw [if_neg (by omega), if_neg hl, if_pos hdd]
               have h14 := run_ok (Pd_n (I 29) (I 28 0).toNat) (k := 501) (a := (J 28 4).toNat) (by omega)
               have h15 := h14.1
               refine ⟨by rw [t2, hr9]; omega, ?_, by unfold tN; rw [hr9, hE]; exact t4, fun z => ?_⟩
               · unfold tK tKp; rw [hr9, if_neg (by omega), if_neg hl, if_pos hdd, hE, t5]; by_cases h16 : Pl (I 29) (I 28 0).toNat (runP (Pd (I 29) (I 28 0).toNat) 501 (J 28 4).toNat) = true ∨ 6 < runP (Pd (I 29) (I 28 0).toNat) 501 (J 28 4).toNat - (J 28 4).toNat; (rw [if_pos h16, if_pos (by rcases h16 with h | h; (exact Or.inl h); right; omega)]); (rw [if_neg h16, if_neg (fun h => h16 (by rcases h with h | h; (exact Or.inl h); right; omega))])
               · unfold tK tKp at z; rw [hr9, if_neg (by omega), if_neg hl, if_pos hdd, hE] at z
                 have h17 : ¬ (Pl (I 29) (I 28 0).toNat (runP (Pd (I 29) (I 28 0).toNat) 501 (J 28 4).toNat) = true ∨ 6 < runP (Pd (I 29) (I 28 0).toNat) 501 (J 28 4).toNat - (J 28 4).toNat) := fun h => by rw [if_pos h] at z; omega
                 unfold tV tN; rw [hr9, hE, t6 (by have := fun h => h17 (Or.inr h); omega), t4, show (((runP (Pd (I 29) (I 28 0).toNat) 501 (J 28 4).toNat : Nat) : Int) - J 28 4).toNat = runP (Pd (I 29) (I 28 0).toNat) 501 (J 28 4).toNat - (J 28 4).toNat by omega])
      · refine rch_run cdK42 (by decide) 4 (t' := (144, [some (vR 28)], [], MW b (upI (upI J 28 2 (J 28 4)) 28 1 0) L)) (ps := []) rfl trivial ?_
        refine rch_ret cdK42 (rt := none) rfl trivial mw_c ?_
        refine ⟨_, rfl, rfl, fun a j ha => by rw [upI_ne (by omega), upI_ne (by omega)]; exact h3 a j ha, by rw [upI_ne (by omega), upI_eq rfl rfl, hr9]; omega, ?_, ?_, fun z => ?_⟩
        · rw [upI_eq rfl rfl]; unfold tK tKp; rw [hr9, if_pos (by omega)]
        · rw [upI_ne (by omega), upI_ne (by omega)]; unfold tN tE; rw [hr9, if_pos (by omega)]; omega
        · exfalso; unfold tK tKp at z; rw [hr9, if_pos (by omega)] at z; omega
    · refine rch_run cdK42 (by decide) 6 (t' := (21, [some (vR 28)], [vI 1, vI (J 30 (J 28 4).toNat)], MW b J L)) (ps := [0 ≤ J 28 4 ∧ J 28 4 < ((500 : Nat) : Int)]) rfl (by (try have hs8 := hs9 (by omega)); simp only [all_, i32, i64]; first | omega | (simp; done) | (simp; omega)) ?_
      refine rch_br cdK42 (cd := J 30 (J 28 4).toNat ≠ (1 : Int)) (t1 := (37, [some (vR 28)], [], MW b J L)) (t2 := (24, [some (vR 28)], [], MW b J L)) rfl (fun c21_2 => ?_) (fun c21_2 => ?_)
      · have hend : Pb (I 29) (I 28 0).toNat (J 28 4).toNat = false := decide_eq_false (fun z => by by_cases hlt : J 28 4 < I 28 0; (have hs8 := hs9 hlt; omega); omega)
        have hr9 : tP (I 29) (I 28 0).toNat (I 28 4).toNat = (J 28 4).toNat := run_eq (run_mk (by omega) (fun x hx hx2 => h2 x (by omega) (by omega)) hend) (by omega)
        have hU0 : FrT I (upI J 28 2 (J 28 4)) := fun a j ha => by rw [upI_ne (by omega)]; exact h3 a j ha
        have hUT : TpK (upI J 28 2 (J 28 4)) := ⟨by rw [upI_ne (by omega), upI_ne (by omega)]; omega, fun j hj => by rw [upI_ne (by omega)] at hj; rw [upI_ne (by omega), upI_ne (by omega), hf9 29 j (by omega), hf9 30 j (by omega)]; exact hT.2 j (by omega)⟩
        have hpl : Pl (I 29) (I 28 0).toNat (J 28 4).toNat = true ↔ J 28 4 < I 28 0 ∧ 97 ≤ I 29 (J 28 4).toNat ∧ I 29 (J 28 4).toNat ≤ 122 := by unfold Pl; rw [decide_eq_true_eq]; omega
        have hpd : Pd (I 29) (I 28 0).toNat (J 28 4).toNat = true ↔ J 28 4 < I 28 0 ∧ 48 ≤ I 29 (J 28 4).toNat ∧ I 29 (J 28 4).toNat ≤ 57 := by unfold Pd; rw [decide_eq_true_eq]; omega
        have hU29 : (upI J 28 2 (J 28 4)) 29 = I 29 := funext (fun z => hU0 29 z (by omega))
        have hU280 : (upI J 28 2 (J 28 4)) 28 0 = I 28 0 := hU0 28 0 (by omega)
        have hU284 : (upI J 28 2 (J 28 4)) 28 4 = J 28 4 := upI_ne (by omega)
        have hU282 : (upI J 28 2 (J 28 4)) 28 2 = J 28 4 := upI_eq rfl rfl
        refine rch_run cdK42 (by decide) 8 (t' := (53, [some (vR 28)], [vI (J 28 0), vI (J 28 4)], MW b (upI J 28 2 (J 28 4)) L)) (ps := []) rfl trivial ?_
        refine rch_br cdK42 (cd := J 28 4 < J 28 0) (t1 := (64, [some (vR 28)], [], MW b (upI J 28 2 (J 28 4)) L)) (t2 := (56, [some (vR 28)], [], MW b (upI J 28 2 (J 28 4)) L)) rfl (fun c53_1 => ?_) (fun c53_1 => ?_)
        · refine rch_run cdK42 (by decide) 6 (t' := (74, [some (vR 28)], [vI 2, vI (J 30 (J 28 4).toNat)], MW b (upI J 28 2 (J 28 4)) L)) (ps := [0 ≤ J 28 4 ∧ J 28 4 < ((500 : Nat) : Int)]) rfl (by (try have hs8 := hs9 (by omega)); simp only [all_, i32, i64]; first | omega | (simp; done) | (simp; omega)) ?_
          refine rch_br cdK42 (cd := J 30 (J 28 4).toNat ≠ (2 : Int)) (t1 := (84, [some (vR 28)], [], MW b (upI J 28 2 (J 28 4)) L)) (t2 := (77, [some (vR 28)], [], MW b (upI J 28 2 (J 28 4)) L)) rfl (fun c74_2 => ?_) (fun c74_2 => ?_)
          · refine rch_run cdK42 (by decide) 6 (t' := (94, [some (vR 28)], [vI 3, vI (J 30 (J 28 4).toNat)], MW b (upI J 28 2 (J 28 4)) L)) (ps := [0 ≤ J 28 4 ∧ J 28 4 < ((500 : Nat) : Int)]) rfl (by (try have hs8 := hs9 (by omega)); simp only [all_, i32, i64]; first | omega | (simp; done) | (simp; omega)) ?_
            refine rch_br cdK42 (cd := J 30 (J 28 4).toNat ≠ (3 : Int)) (t1 := (104, [some (vR 28)], [], MW b (upI J 28 2 (J 28 4)) L)) (t2 := (97, [some (vR 28)], [], MW b (upI J 28 2 (J 28 4)) L)) rfl (fun c94_3 => ?_) (fun c94_3 => ?_)
            · refine rch_run cdK42 (by decide) 7 (t' := (115, [some (vR 28)], [vI 4, vI (J 30 (J 28 4).toNat), vR 28], MW b (upI J 28 2 (J 28 4)) L)) (ps := [0 ≤ J 28 4 ∧ J 28 4 < ((500 : Nat) : Int)]) rfl (by (try have hs8 := hs9 (by omega)); simp only [all_, i32, i64]; first | omega | (simp; done) | (simp; omega)) ?_
              refine rch_br cdK42 (cd := J 30 (J 28 4).toNat ≠ (4 : Int)) (t1 := (130, [some (vR 28)], [vR 28], MW b (upI J 28 2 (J 28 4)) L)) (t2 := (118, [some (vR 28)], [vR 28], MW b (upI J 28 2 (J 28 4)) L)) rfl (fun c115_4 => ?_) (fun c115_4 => ?_)
              · refine rch_run cdK42 (by decide) 8 (t' := (144, [some (vR 28)], [], MW b (upI (upI (upI J 28 2 (J 28 4)) 28 1 1) 28 4 ((J 28 4) + 1)) L)) (ps := [i32 ((J 28 4) + 1)]) rfl (by (try have hs8 := hs9 (by omega)); simp only [all_, i32, i64]; first | omega | (simp; done) | (simp; omega)) ?_
                refine rch_ret cdK42 (rt := none) rfl trivial mw_c ?_
                have hs8 := hs9 (by omega)
                have hl : ¬ Pl (I 29) (I 28 0).toNat (J 28 4).toNat = true := fun z => by have := hpl.mp z; omega
                have hdd : ¬ Pd (I 29) (I 28 0).toNat (J 28 4).toNat = true := fun z => by have := hpd.mp z; omega
                have hkk : tK (I 29) (I 28 0).toNat (I 28 4).toNat = 1 := by unfold tK tKp; rw [hr9, if_neg (by omega), if_neg hl, if_neg hdd]; first | (rw [if_pos (by omega)]; omega) | rw [if_neg (by omega)]
                refine ⟨_, rfl, rfl, fun a j ha => by rw [upI_ne (by omega), upI_ne (by omega), upI_ne (by omega)]; exact h3 a j ha, by rw [upI_ne (by omega), upI_ne (by omega), upI_eq rfl rfl, hr9]; omega, ?_, ?_, fun z => ?_⟩
                · rw [upI_ne (by omega), upI_eq rfl rfl, hkk]
                · rw [upI_eq rfl rfl]; unfold tN tE; rw [hr9, if_neg (by omega), if_neg hl, if_neg hdd]; omega
                · exfalso; rw [hkk] at z; omega
              · refine rch_run cdK42 (by decide) 13 (t' := (144, [some (vR 28)], [], MW b (upI (upI (upI J 28 2 (J 28 4)) 28 1 (J 29 (J 28 4).toNat)) 28 4 ((J 28 4) + 1)) L)) (ps := [0 ≤ J 28 4 ∧ J 28 4 < ((500 : Nat) : Int), i32 ((J 28 4) + 1)]) rfl (by (try have hs8 := hs9 (by omega)); simp only [all_, i32, i64]; first | omega | (simp; done) | (simp; omega)) ?_
                refine rch_ret cdK42 (rt := none) rfl trivial mw_c ?_
                have hs8 := hs9 (by omega)
                have hl : ¬ Pl (I 29) (I 28 0).toNat (J 28 4).toNat = true := fun z => by have := hpl.mp z; omega
                have hdd : ¬ Pd (I 29) (I 28 0).toNat (J 28 4).toNat = true := fun z => by have := hpd.mp z; omega
                have hkk : tK (I 29) (I 28 0).toNat (I 28 4).toNat = J 29 (J 28 4).toNat := by unfold tK tKp; rw [hr9, if_neg (by omega), if_neg hl, if_neg hdd]; first | (rw [if_pos (by omega)]; omega) | rw [if_neg (by omega)]
                refine ⟨_, rfl, rfl, fun a j ha => by rw [upI_ne (by omega), upI_ne (by omega), upI_ne (by omega)]; exact h3 a j ha, by rw [upI_ne (by omega), upI_ne (by omega), upI_eq rfl rfl, hr9]; omega, ?_, ?_, fun z => ?_⟩
                · rw [upI_ne (by omega), upI_eq rfl rfl, hkk]
                · rw [upI_eq rfl rfl]; unfold tN tE; rw [hr9, if_neg (by omega), if_neg hl, if_neg hdd]; omega
                · exfalso; rw [hkk] at z; omega
            · refine rch_run cdK42 (by decide) 1 (t' := (98, [some (vR 28)], [vR 28], MW b (upI J 28 2 (J 28 4)) L)) (ps := []) rfl trivial ?_
              refine rch_call (h' := 1) (k' := 44) (as := [vR 28]) (t1 := (101, [some (vR 28)], [], MW b (upI J 28 2 (J 28 4)) L)) cdK42 rfl (k_takeNumber l E b (upI J 28 2 (J 28 4)) L hUT (by rw [hU284, hU282]; omega)) (by decide) mw_le ?_
              rintro rt9 w9 (⟨J2, rfl, rfl, t1, t2, t4, t5, t6⟩) _ _
              show Rch l E 2 42 _ _ _ _ (101, [some (vR 28)], [], MW b J2 L)
              rw [hU29, hU280, hU284] at t4
              rw [hU282] at t2
              rw [hU29, hU280, hU284, hU282] at t5
              rw [hU29, hU284] at t6
              refine rch_run cdK42 (by decide) 1 (t' := (144, [some (vR 28)], [], MW b J2 L)) (ps := []) rfl trivial ?_
              refine rch_ret cdK42 (rt := none) rfl trivial mw_c ?_
              have hs8 := hs9 (by omega)
              refine ⟨J2, rfl, rfl, fun a j ha => by rw [t1 a j ha]; exact hU0 a j ha, ?_⟩
              first
                | (have hl : Pl (I 29) (I 28 0).toNat (J 28 4).toNat = true := hpl.mpr (by omega)
                   have hE : tE (I 29) (I 28 0).toNat (J 28 4).toNat = runP (Pl (I 29) (I 28 0).toNat) 501 (J 28 4).toNat := by unfold tE; rw [if_neg (by omega), if_pos hl]
                   refine ⟨by rw [t2, hr9]; omega, ?_, by unfold tN; rw [hr9, hE]; exact t4, fun z => ?_⟩
                   · unfold tK tKp; rw [hr9, if_neg (by omega), if_pos hl, hE, t5]; have h14 := run_ok (Pl_n (I 29) (I 28 0).toNat) (k := 501) (a := (J 28 4).toNat) (by omega); have h15 := h14.1; by_cases h16 : 8 < runP (Pl (I 29) (I 28 0).toNat) 501 (J 28 4).toNat - (J 28 4).toNat; (rw [if_pos h16, if_pos (by omega)]); (rw [if_neg h16, if_neg (by omega)])
                   · exfalso; unfold tK tKp at z; rw [hr9, if_neg (by omega), if_pos hl] at z; split at z <;> omega)
                | (have hl : ¬ Pl (I 29) (I 28 0).toNat (J 28 4).toNat = true := fun z => by have := hpl.mp z; omega
                   have hdd : Pd (I 29) (I 28 0).toNat (J 28 4).toNat = true := hpd.mpr (by omega)
                   have hE : tE (I 29) (I 28 0).toNat (J 28 4).toNat = runP (Pd (I 29) (I 28 0).toNat) 501 (J 28 4).toNat := by unfold tE; rw [if_neg (by omega), if_neg hl, if_pos hdd]
                   have h14 := run_ok (Pd_n (I 29) (I 28 0).toNat) (k := 501) (a := (J 28 4).toNat) (by omega)
                   have h15 := h14.1
                   refine ⟨by rw [t2, hr9]; omega, ?_, by unfold tN; rw [hr9, hE]; exact t4, fun z => ?_⟩
                   · unfold tK tKp; rw [hr9, if_neg (by omega), if_neg hl, if_pos hdd, hE, t5]; by_cases h16 : Pl (I 29) (I 28 0).toNat (runP (Pd (I 29) (I 28 0).toNat) 501 (J 28 4).toNat) = true ∨ 6 < runP (Pd (I 29) (I 28 0).toNat) 501 (J 28 4).toNat - (J 28 4).toNat; (rw [if_pos h16, if_pos (by rcases h16 with h | h; (exact Or.inl h); right; omega)]); (rw [if_neg h16, if_neg (fun h => h16 (by rcases h with h | h; (exact Or.inl h); right; omega))])
                   · unfold tK tKp at z; rw [hr9, if_neg (by omega), if_neg hl, if_pos hdd, hE] at z
                     have h17 : ¬ (Pl (I 29) (I 28 0).toNat (runP (Pd (I 29) (I 28 0).toNat) 501 (J 28 4).toNat) = true ∨ 6 < runP (Pd (I 29) (I 28 0).toNat) 501 (J 28 4).toNat - (J 28 4).toNat) := fun h => by rw [if_pos h] at z; omega
                     unfold tV tN; rw [hr9, hE, t6 (by have := fun h => h17 (Or.inr h); omega), t4, show (((runP (Pd (I 29) (I 28 0).toNat) 501 (J 28 4).toNat : Nat) : Int) - J 28 4).toNat = runP (Pd (I 29) (I 28 0).toNat) 501 (J 28 4).toNat - (J 28 4).toNat by omega])
          · refine rch_run cdK42 (by decide) 1 (t' := (78, [some (vR 28)], [vR 28], MW b (upI J 28 2 (J 28 4)) L)) (ps := []) rfl trivial ?_
            refine rch_call (h' := 1) (k' := 43) (as := [vR 28]) (t1 := (81, [some (vR 28)], [], MW b (upI J 28 2 (J 28 4)) L)) cdK42 rfl (k_takeWord l E b (upI J 28 2 (J 28 4)) L hUT (by rw [hU284, hU282]; omega)) (by decide) mw_le ?_
            rintro rt9 w9 (⟨J2, rfl, rfl, t1, t2, t3, t4, t5⟩) _ _
            show Rch l E 2 42 _ _ _ _ (81, [some (vR 28)], [], MW b J2 L)
            rw [hU29, hU280, hU284] at t4
            rw [hU282] at t2 t5
            refine rch_run cdK42 (by decide) 1 (t' := (144, [some (vR 28)], [], MW b J2 L)) (ps := []) rfl trivial ?_
            refine rch_ret cdK42 (rt := none) rfl trivial mw_c ?_
            have hs8 := hs9 (by omega)
            refine ⟨J2, rfl, rfl, fun a j ha => by rw [t1 a j ha]; exact hU0 a j ha, ?_⟩
            first
              | (have hl : Pl (I 29) (I 28 0).toNat (J 28 4).toNat = true := hpl.mpr (by omega)
                 have hE : tE (I 29) (I 28 0).toNat (J 28 4).toNat = runP (Pl (I 29) (I 28 0).toNat) 501 (J 28 4).toNat := by unfold tE; rw [if_neg (by omega), if_pos hl]
                 refine ⟨by rw [t2, hr9]; omega, ?_, by unfold tN; rw [hr9, hE]; exact t4, fun z => ?_⟩
                 · unfold tK tKp; rw [hr9, if_neg (by omega), if_pos hl, hE, t5]; have h14 := run_ok (Pl_n (I 29) (I 28 0).toNat) (k := 501) (a := (J 28 4).toNat) (by omega); have h15 := h14.1; by_cases h16 : 8 < runP (Pl (I 29) (I 28 0).toNat) 501 (J 28 4).toNat - (J 28 4).toNat; (rw [if_pos h16, if_pos (by omega)]); (rw [if_neg h16, if_neg (by omega)])
                 · exfalso; unfold tK tKp at z; rw [hr9, if_neg (by omega), if_pos hl] at z; split at z <;> omega)
              | (have hl : ¬ Pl (I 29) (I 28 0).toNat (J 28 4).toNat = true := fun z => by have := hpl.mp z; omega
                 have hdd : Pd (I 29) (I 28 0).toNat (J 28 4).toNat = true := hpd.mpr (by omega)
                 have hE : tE (I 29) (I 28 0).toNat (J 28 4).toNat = runP (Pd (I 29) (I 28 0).toNat) 501 (J 28 4).toNat := by unfold tE; rw [if_neg (by omega), if_neg hl, if_pos hdd]
                 have h14 := run_ok (Pd_n (I 29) (I 28 0).toNat) (k := 501) (a := (J 28 4).toNat) (by omega)
                 have h15 := h14.1
                 refine ⟨by rw [t2, hr9]; omega, ?_, by unfold tN; rw [hr9, hE]; exact t4, fun z => ?_⟩
                 · unfold tK tKp; rw [hr9, if_neg (by omega), if_neg hl, if_pos hdd, hE, t5]; by_cases h16 : Pl (I 29) (I 28 0).toNat (runP (Pd (I 29) (I 28 0).toNat) 501 (J 28 4).toNat) = true ∨ 6 < runP (Pd (I 29) (I 28 0).toNat) 501 (J 28 4).toNat - (J 28 4).toNat; (rw [if_pos h16, if_pos (by rcases h16 with h | h; (exact Or.inl h); right; omega)]); (rw [if_neg h16, if_neg (fun h => h16 (by rcases h with h | h; (exact Or.inl h); right; omega))])
                 · unfold tK tKp at z; rw [hr9, if_neg (by omega), if_neg hl, if_pos hdd, hE] at z
                   have h17 : ¬ (Pl (I 29) (I 28 0).toNat (runP (Pd (I 29) (I 28 0).toNat) 501 (J 28 4).toNat) = true ∨ 6 < runP (Pd (I 29) (I 28 0).toNat) 501 (J 28 4).toNat - (J 28 4).toNat) := fun h => by rw [if_pos h] at z; omega
                   unfold tV tN; rw [hr9, hE, t6 (by have := fun h => h17 (Or.inr h); omega), t4, show (((runP (Pd (I 29) (I 28 0).toNat) 501 (J 28 4).toNat : Nat) : Int) - J 28 4).toNat = runP (Pd (I 29) (I 28 0).toNat) 501 (J 28 4).toNat - (J 28 4).toNat by omega])
        · refine rch_run cdK42 (by decide) 4 (t' := (144, [some (vR 28)], [], MW b (upI (upI J 28 2 (J 28 4)) 28 1 0) L)) (ps := []) rfl trivial ?_
          refine rch_ret cdK42 (rt := none) rfl trivial mw_c ?_
          refine ⟨_, rfl, rfl, fun a j ha => by rw [upI_ne (by omega), upI_ne (by omega)]; exact h3 a j ha, by rw [upI_ne (by omega), upI_eq rfl rfl, hr9]; omega, ?_, ?_, fun z => ?_⟩
          · rw [upI_eq rfl rfl]; unfold tK tKp; rw [hr9, if_pos (by omega)]
          · rw [upI_ne (by omega), upI_ne (by omega)]; unfold tN tE; rw [hr9, if_pos (by omega)]; omega
          · exfalso; unfold tK tKp at z; rw [hr9, if_pos (by omega)] at z; omega
      · refine rch_run cdK42 (by decide) 7 (t' := (0, [some (vR 28)], [], MW b (upI J 28 4 ((J 28 4) + 1)) L)) (ps := [i32 ((J 28 4) + 1)]) rfl (by (try have hs8 := hs9 (by omega)); simp only [all_, i32, i64]; first | omega | (simp; done) | (simp; omega)) ?_
        have hs8 := hs9 (by omega)
        have hx9 : Pb (I 29) (I 28 0).toNat (J 28 4).toNat = true := decide_eq_true (by omega)
        exact ih 0 _ (by rw [upI_eq rfl rfl]; omega) (fun x hx hx2 => by rw [upI_eq rfl rfl] at hx2; by_cases e : x = (J 28 4).toNat; (rw [e]; exact hx9); exact h2 x hx (by omega)) (fun a j ha => by rw [upI_ne (by omega)]; exact h3 a j ha) (by rw [upI_eq rfl rfl]; omega)

theorem k_advance (l : Launch) (E : AX) (b : Bool) (I L : Nat → Nat → Int) (hT : TpK I) : Con l E 2 42 [vR 28] (MW b I L) 0 0 (fun rt w => ∃ J, rt = none ∧ w = MW b J L ∧ FrT I J ∧ Tkn J (I 29) (I 28 0).toNat (I 28 4).toNat) := by
  refine con_intro (by decide) (Nat.le_of_ble_eq_true rfl) ?_
  exact lp_advance l E b I L hT 502 0 I (by have := hT.1; omega) (fun x hx hx2 => by omega) (fun _ _ _ => rfl) (by have := hT.1; omega)

theorem k_rewind (l : Launch) (E : AX) (b : Bool) (I L : Nat → Nat → Int) (hT : TpK I) : Con l E 3 41 [vR 28] (MW b I L) 0 0 (fun rt w => ∃ J, rt = none ∧ w = MW b J L ∧ FrT I J ∧ Tkn J (I 29) (I 28 0).toNat 0) := by
  refine con_ok (fun hw9 hs9 => ?_)
  refine con_intro (by decide) (Nat.le_of_ble_eq_true rfl) ?_
  show Rch l E 3 41 _ _ _ _ (0, [some (vR 28)], [], MW b I L)
  refine rch_run cdK41 (by decide) 4 (t' := (6, [some (vR 28)], [vR 28], MW b (upI I 28 4 0) L)) (ps := []) rfl trivial ?_
  refine rch_call (h' := 2) (k' := 42) (as := [vR 28]) (t1 := (9, [some (vR 28)], [], MW b (upI I 28 4 0) L)) cdK41 rfl (k_advance l E b (upI I 28 4 0) L ⟨by rw [upI_eq rfl rfl, upI_ne (by omega)]; have := hT.1; omega, fun j hj => by rw [upI_ne (by omega)] at hj; rw [upI_ne (by omega), upI_ne (by omega)]; exact hT.2 j hj⟩) (by decide) mw_le ?_
  rintro rt9 w9 (⟨J2, rfl, rfl, t1, t2⟩) _ _
  show Rch l E 3 41 _ _ _ _ (9, [some (vR 28)], [], MW b J2 L)
  refine rch_ret cdK41 (rt := none) rfl trivial mw_c ?_
  refine ⟨J2, rfl, rfl, fun a j ha => by rw [t1 a j ha, upI_ne (by omega)], ?_⟩
  have t3 := t2
  rw [show (upI I 28 4 0) 29 = I 29 from funext (fun z => upI_ne (by omega)), upI_ne (by omega), upI_eq rfl rfl] at t3
  exact t3
