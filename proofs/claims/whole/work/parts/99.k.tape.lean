theorem lp_takeWord (l : Launch) (E : AX) (b : Bool) (I L : Nat → Nat → Int) (hT : TpK I) (hp : 0 ≤ I 28 2 ∧ I 28 2 ≤ I 28 4) : ∀ (n9 : Nat) (zz : Int) (J : Nat → Nat → Int), I 28 4 ≤ J 28 4 ∧ J 28 4 ≤ I 28 0 → (∀ x : Nat, I 28 4 ≤ x → (x : Int) < J 28 4 → Pl (I 29) (I 28 0).toNat x = true) → FrT I J → J 28 2 = I 28 2 ∧ J 28 3 = I 28 3 → I 28 0 - J 28 4 < (n9 : Int) → Rch l E 1 43 (MW b I L) 0 0 (fun rt w => ∃ J, rt = none ∧ w = MW b J L ∧ FrT I J ∧ J 28 2 = I 28 2 ∧ J 28 3 = I 28 3 ∧ J 28 4 = (runP (Pl (I 29) (I 28 0).toNat) 501 (I 28 4).toNat : Int) ∧ J 28 1 = (if 8 < J 28 4 - I 28 2 then 1 else 2)) (0, [some (vR 28)], [], MW b J L) := by
  intro n9
  induction n9 with
  | zero =>
    intro zz J h1 h2 h3 h4 hm
    exfalso; omega
  | succ n9 ih =>
    intro zz J h1 h2 h3 h4 hm
    have hT1 := hT.1
    have hf9 : FrT I J := h3
    have q0 := hf9 28 0 (by omega)
    have e29 := hf9 29 (J 28 4).toNat (by omega)
    have e30 := hf9 30 (J 28 4).toNat (by omega)
    have hc9 := srt_c (I 29 (J 28 4).toNat)
    have hs9 : J 28 4 < I 28 0 → I 30 (J 28 4).toNat = srt (I 29 (J 28 4).toNat) ∧ (0 ≤ I 29 (J 28 4).toNat ∧ I 29 (J 28 4).toNat ≤ 255) := fun z => by have := hT.2 (J 28 4).toNat (by omega); exact ⟨this.2, this.1⟩
    refine rch_run cdK43 (by decide) 4 (t' := (8, [some (vR 28)], [vI (J 28 0), vI (J 28 4)], MW b J L)) (ps := []) rfl trivial ?_
    refine rch_br cdK43 (cd := J 28 0 ≤ J 28 4) (t1 := (37, [some (vR 28)], [], MW b J L)) (t2 := (11, [some (vR 28)], [], MW b J L)) rfl (fun c8_1 => ?_) (fun c8_1 => ?_)
    · refine rch_run cdK43 (by decide) 7 (t' := (49, [some (vR 28)], [vI 8, vI ((J 28 4) - (J 28 2)), vR 28], MW b J L)) (ps := [i32 ((J 28 4) - (J 28 2))]) rfl (by (try have hs8 := hs9 (by omega)); simp only [all_, i32, i64]; first | omega | (simp; done) | (simp; omega)) ?_
      refine rch_br cdK43 (cd := (J 28 4) - (J 28 2) ≤ (8 : Int)) (t1 := (56, [some (vR 28)], [vR 28], MW b J L)) (t2 := (52, [some (vR 28)], [vR 28], MW b J L)) rfl (fun c49_2 => ?_) (fun c49_2 => ?_)
      · refine rch_run cdK43 (by decide) 2 (t' := (60, [some (vR 28)], [], MW b (upI J 28 1 2) L)) (ps := []) rfl trivial ?_
        refine rch_ret cdK43 (rt := none) rfl trivial mw_c ?_
        have hend : Pl (I 29) (I 28 0).toNat (J 28 4).toNat = false := decide_eq_false (fun z => by by_cases hlt : J 28 4 < I 28 0; (have hs8 := hs9 hlt; omega); omega)
        have hr9 : runP (Pl (I 29) (I 28 0).toNat) 501 (I 28 4).toNat = (J 28 4).toNat := run_eq (run_mk (by omega) (fun x hx hx2 => h2 x (by omega) (by omega)) hend) (by omega)
        refine ⟨_, rfl, rfl, fun a j ha => by rw [upI_ne (by omega)]; exact h3 a j ha, by rw [upI_ne (by omega)]; exact h4.1, by rw [upI_ne (by omega)]; exact h4.2, by rw [upI_ne (by omega), hr9]; omega, ?_⟩
        rw [upI_eq rfl rfl, upI_ne (by omega)]
        first | rw [if_pos (by omega)] | rw [if_neg (by omega)]
      · refine rch_run cdK43 (by decide) 3 (t' := (60, [some (vR 28)], [], MW b (upI J 28 1 1) L)) (ps := []) rfl trivial ?_
        refine rch_ret cdK43 (rt := none) rfl trivial mw_c ?_
        have hend : Pl (I 29) (I 28 0).toNat (J 28 4).toNat = false := decide_eq_false (fun z => by by_cases hlt : J 28 4 < I 28 0; (have hs8 := hs9 hlt; omega); omega)
        have hr9 : runP (Pl (I 29) (I 28 0).toNat) 501 (I 28 4).toNat = (J 28 4).toNat := run_eq (run_mk (by omega) (fun x hx hx2 => h2 x (by omega) (by omega)) hend) (by omega)
        refine ⟨_, rfl, rfl, fun a j ha => by rw [upI_ne (by omega)]; exact h3 a j ha, by rw [upI_ne (by omega)]; exact h4.1, by rw [upI_ne (by omega)]; exact h4.2, by rw [upI_ne (by omega), hr9]; omega, ?_⟩
        rw [upI_eq rfl rfl, upI_ne (by omega)]
        first | rw [if_pos (by omega)] | rw [if_neg (by omega)]
    · refine rch_run cdK43 (by decide) 6 (t' := (21, [some (vR 28)], [vI 2, vI (J 30 (J 28 4).toNat)], MW b J L)) (ps := [0 ≤ J 28 4 ∧ J 28 4 < ((500 : Nat) : Int)]) rfl (by (try have hs8 := hs9 (by omega)); simp only [all_, i32, i64]; first | omega | (simp; done) | (simp; omega)) ?_
      refine rch_br cdK43 (cd := J 30 (J 28 4).toNat ≠ (2 : Int)) (t1 := (37, [some (vR 28)], [], MW b J L)) (t2 := (24, [some (vR 28)], [], MW b J L)) rfl (fun c21_3 => ?_) (fun c21_3 => ?_)
      · refine rch_run cdK43 (by decide) 7 (t' := (49, [some (vR 28)], [vI 8, vI ((J 28 4) - (J 28 2)), vR 28], MW b J L)) (ps := [i32 ((J 28 4) - (J 28 2))]) rfl (by (try have hs8 := hs9 (by omega)); simp only [all_, i32, i64]; first | omega | (simp; done) | (simp; omega)) ?_
        refine rch_br cdK43 (cd := (J 28 4) - (J 28 2) ≤ (8 : Int)) (t1 := (56, [some (vR 28)], [vR 28], MW b J L)) (t2 := (52, [some (vR 28)], [vR 28], MW b J L)) rfl (fun c49_4 => ?_) (fun c49_4 => ?_)
        · refine rch_run cdK43 (by decide) 2 (t' := (60, [some (vR 28)], [], MW b (upI J 28 1 2) L)) (ps := []) rfl trivial ?_
          refine rch_ret cdK43 (rt := none) rfl trivial mw_c ?_
          have hend : Pl (I 29) (I 28 0).toNat (J 28 4).toNat = false := decide_eq_false (fun z => by by_cases hlt : J 28 4 < I 28 0; (have hs8 := hs9 hlt; omega); omega)
          have hr9 : runP (Pl (I 29) (I 28 0).toNat) 501 (I 28 4).toNat = (J 28 4).toNat := run_eq (run_mk (by omega) (fun x hx hx2 => h2 x (by omega) (by omega)) hend) (by omega)
          refine ⟨_, rfl, rfl, fun a j ha => by rw [upI_ne (by omega)]; exact h3 a j ha, by rw [upI_ne (by omega)]; exact h4.1, by rw [upI_ne (by omega)]; exact h4.2, by rw [upI_ne (by omega), hr9]; omega, ?_⟩
          rw [upI_eq rfl rfl, upI_ne (by omega)]
          first | rw [if_pos (by omega)] | rw [if_neg (by omega)]
        · refine rch_run cdK43 (by decide) 3 (t' := (60, [some (vR 28)], [], MW b (upI J 28 1 1) L)) (ps := []) rfl trivial ?_
          refine rch_ret cdK43 (rt := none) rfl trivial mw_c ?_
          have hend : Pl (I 29) (I 28 0).toNat (J 28 4).toNat = false := decide_eq_false (fun z => by by_cases hlt : J 28 4 < I 28 0; (have hs8 := hs9 hlt; omega); omega)
          have hr9 : runP (Pl (I 29) (I 28 0).toNat) 501 (I 28 4).toNat = (J 28 4).toNat := run_eq (run_mk (by omega) (fun x hx hx2 => h2 x (by omega) (by omega)) hend) (by omega)
          refine ⟨_, rfl, rfl, fun a j ha => by rw [upI_ne (by omega)]; exact h3 a j ha, by rw [upI_ne (by omega)]; exact h4.1, by rw [upI_ne (by omega)]; exact h4.2, by rw [upI_ne (by omega), hr9]; omega, ?_⟩
          rw [upI_eq rfl rfl, upI_ne (by omega)]
          first | rw [if_pos (by omega)] | rw [if_neg (by omega)]
      · refine rch_run cdK43 (by decide) 7 (t' := (0, [some (vR 28)], [], MW b (upI J 28 4 ((J 28 4) + 1)) L)) (ps := [i32 ((J 28 4) + 1)]) rfl (by (try have hs8 := hs9 (by omega)); simp only [all_, i32, i64]; first | omega | (simp; done) | (simp; omega)) ?_
        have hs8 := hs9 (by omega)
        have hx9 : Pl (I 29) (I 28 0).toNat (J 28 4).toNat = true := decide_eq_true (by omega)
        exact ih 0 _ (by rw [upI_eq rfl rfl]; omega) (fun x hx hx2 => by rw [upI_eq rfl rfl] at hx2; by_cases e : x = (J 28 4).toNat; (rw [e]; exact hx9); exact h2 x hx (by omega)) (fun a j ha => by rw [upI_ne (by omega)]; exact h3 a j ha) (by rw [upI_ne (by omega), upI_ne (by omega)]; exact h4) (by rw [upI_eq rfl rfl]; omega)

theorem k_takeWord (l : Launch) (E : AX) (b : Bool) (I L : Nat → Nat → Int) (hT : TpK I) (hp : 0 ≤ I 28 2 ∧ I 28 2 ≤ I 28 4) : Con l E 1 43 [vR 28] (MW b I L) 0 0 (fun rt w => ∃ J, rt = none ∧ w = MW b J L ∧ FrT I J ∧ J 28 2 = I 28 2 ∧ J 28 3 = I 28 3 ∧ J 28 4 = (runP (Pl (I 29) (I 28 0).toNat) 501 (I 28 4).toNat : Int) ∧ J 28 1 = (if 8 < J 28 4 - I 28 2 then 1 else 2)) := by
  refine con_intro (by decide) (Nat.le_of_ble_eq_true rfl) ?_
  exact lp_takeWord l E b I L hT hp 502 0 I (by have := hT.1; omega) (fun x hx hx2 => by omega) (fun _ _ _ => rfl) ⟨rfl, rfl⟩ (by have := hT.1; omega)

theorem lp_takeNumber (l : Launch) (E : AX) (b : Bool) (I L : Nat → Nat → Int) (hT : TpK I) (hp : 0 ≤ I 28 2 ∧ I 28 2 ≤ I 28 4) : ∀ (n9 : Nat) (zz : Int) (J : Nat → Nat → Int), I 28 4 ≤ J 28 4 ∧ J 28 4 ≤ I 28 0 → (∀ x : Nat, I 28 4 ≤ x → (x : Int) < J 28 4 → Pd (I 29) (I 28 0).toNat x = true) → FrT I J → J 28 2 = I 28 2 → (J 28 4 - I 28 4 ≤ 6 → J 28 3 = nvl (I 29) (I 28 4).toNat (J 28 4 - I 28 4).toNat) → I 28 0 - J 28 4 < (n9 : Int) → Rch l E 1 44 (MW b I L) 0 0 (fun rt w => ∃ J, rt = none ∧ w = MW b J L ∧ FrT I J ∧ J 28 2 = I 28 2 ∧ J 28 4 = (runP (Pd (I 29) (I 28 0).toNat) 501 (I 28 4).toNat : Int) ∧ J 28 1 = (if Pl (I 29) (I 28 0).toNat (runP (Pd (I 29) (I 28 0).toNat) 501 (I 28 4).toNat) = true ∨ 6 < J 28 4 - I 28 2 then 1 else 3) ∧ (J 28 4 - I 28 4 ≤ 6 → J 28 3 = nvl (I 29) (I 28 4).toNat (J 28 4 - I 28 4).toNat)) (5, [some (vR 28), none], [], MW b J L) := by
  intro n9
  induction n9 with
  | zero =>
    intro zz J h1 h2 h3 h4 h5 hm
    exfalso; omega
  | succ n9 ih =>
    intro zz J h1 h2 h3 h4 h5 hm
    have hT1 := hT.1
    have hf9 : FrT I J := h3
    have q0 := hf9 28 0 (by omega)
    have hw1 : w32 ((J 28 4) + 1) = (J 28 4) + 1 := w32_id (by unfold i32; omega)
    have hw2 : w32 ((J 28 4) - (J 28 2)) = (J 28 4) - (J 28 2) := w32_id (by unfold i32; omega)
    have e29 := hf9 29 (J 28 4).toNat (by omega)
    have e30 := hf9 30 (J 28 4).toNat (by omega)
    have hc9 := srt_c (I 29 (J 28 4).toNat)
    have hs9 : J 28 4 < I 28 0 → I 30 (J 28 4).toNat = srt (I 29 (J 28 4).toNat) ∧ (0 ≤ I 29 (J 28 4).toNat ∧ I 29 (J 28 4).toNat ≤ 255) := fun z => by have := hT.2 (J 28 4).toNat (by omega); exact ⟨this.2, this.1⟩
    have hv9 : J 28 4 - I 28 4 ≤ 5 → 0 ≤ J 28 3 ∧ J 28 3 ≤ 99999 := fun z => by rw [h5 (by omega)]; have := nvl_rg (B := I 29) (p := (I 28 4).toNat) (J 28 4 - I 28 4).toNat (by omega) (fun i hi => by have h7 := of_decide_eq_true (h2 ((I 28 4).toNat + i) (by omega) (by omega)); omega); omega
    refine rch_run cdK44 (by decide) 4 (t' := (13, [some (vR 28), none], [vI (J 28 0), vI (J 28 4)], MW b J L)) (ps := []) rfl trivial ?_
    refine rch_br cdK44 (cd := J 28 0 ≤ J 28 4) (t1 := (66, [some (vR 28), none], [], MW b J L)) (t2 := (16, [some (vR 28), none], [], MW b J L)) rfl (fun c13_1 => ?_) (fun c13_1 => ?_)
    · refine rch_run cdK44 (by decide) 4 (t' := (74, [some (vR 28), none], [vI (J 28 0), vI (J 28 4)], MW b J L)) (ps := []) rfl trivial ?_
      refine rch_br cdK44 (cd := J 28 0 ≤ J 28 4) (t1 := (94, [some (vR 28), none], [], MW b J L)) (t2 := (77, [some (vR 28), none], [], MW b J L)) rfl (fun c74_2 => ?_) (fun c74_2 => ?_)
      · refine rch_run cdK44 (by decide) 4 (t' := (98, [some (vR 28), some (vI 0)], [vI 0, vR 28], MW b J L)) (ps := []) rfl trivial ?_
        refine rch_br cdK44 (cd := (0 : Int) ≠ 0) (t1 := (115, [some (vR 28), some (vI 0)], [vR 28], MW b J L)) (t2 := (101, [some (vR 28), some (vI 0)], [vR 28], MW b J L)) rfl (fun c9 => absurd c9 (by decide)) (fun _ => ?_)
        refine rch_run cdK44 (by decide) 6 (t' := (112, [some (vR 28), some (vI 0)], [vI 6, vI ((J 28 4) - (J 28 2)), vR 28], MW b J L)) (ps := [i32 ((J 28 4) - (J 28 2))]) rfl (by (try have hs8 := hs9 (by omega)); simp only [all_, i32, i64]; first | omega | (simp; done) | (simp; omega)) ?_
        refine rch_br cdK44 (cd := (J 28 4) - (J 28 2) ≤ (6 : Int)) (t1 := (119, [some (vR 28), some (vI 0)], [vR 28], MW b J L)) (t2 := (115, [some (vR 28), some (vI 0)], [vR 28], MW b J L)) rfl (fun c112_4 => ?_) (fun c112_4 => ?_)
        · refine rch_run cdK44 (by decide) 2 (t' := (123, [some (vR 28), some (vI 0)], [], MW b (upI J 28 1 3) L)) (ps := []) rfl trivial ?_
          refine rch_ret cdK44 (rt := none) rfl trivial mw_c ?_
          have hend : Pd (I 29) (I 28 0).toNat (J 28 4).toNat = false := decide_eq_false (fun z => by by_cases hlt : J 28 4 < I 28 0; (have hs8 := hs9 hlt; omega); omega)
          have hr9 : runP (Pd (I 29) (I 28 0).toNat) 501 (I 28 4).toNat = (J 28 4).toNat := run_eq (run_mk (by omega) (fun x hx hx2 => h2 x (by omega) (by omega)) hend) (by omega)
          have hl9 : Pl (I 29) (I 28 0).toNat (J 28 4).toNat = true ↔ J 28 4 < I 28 0 ∧ 97 ≤ I 29 (J 28 4).toNat ∧ I 29 (J 28 4).toNat ≤ 122 := by unfold Pl; rw [decide_eq_true_eq]; omega
          refine ⟨_, rfl, rfl, fun a j ha => by rw [upI_ne (by omega)]; exact h3 a j ha, by rw [upI_ne (by omega)]; exact h4, by rw [upI_ne (by omega), hr9]; omega, ?_, by rw [upI_ne (by omega), upI_ne (by omega)]; exact h5⟩
          rw [upI_eq rfl rfl, upI_ne (by omega), hr9]
          by_cases hlt : J 28 4 < I 28 0
          · have hs8 := hs9 hlt; first | (exfalso; omega) | rw [if_pos (by rw [hl9]; omega)] | rw [if_neg (by rw [hl9]; omega)]
          · first | (exfalso; omega) | rw [if_pos (by rw [hl9]; omega)] | rw [if_neg (by rw [hl9]; omega)]
        · refine rch_run cdK44 (by decide) 3 (t' := (123, [some (vR 28), some (vI 0)], [], MW b (upI J 28 1 1) L)) (ps := []) rfl trivial ?_
          refine rch_ret cdK44 (rt := none) rfl trivial mw_c ?_
          have hend : Pd (I 29) (I 28 0).toNat (J 28 4).toNat = false := decide_eq_false (fun z => by by_cases hlt : J 28 4 < I 28 0; (have hs8 := hs9 hlt; omega); omega)
          have hr9 : runP (Pd (I 29) (I 28 0).toNat) 501 (I 28 4).toNat = (J 28 4).toNat := run_eq (run_mk (by omega) (fun x hx hx2 => h2 x (by omega) (by omega)) hend) (by omega)
          have hl9 : Pl (I 29) (I 28 0).toNat (J 28 4).toNat = true ↔ J 28 4 < I 28 0 ∧ 97 ≤ I 29 (J 28 4).toNat ∧ I 29 (J 28 4).toNat ≤ 122 := by unfold Pl; rw [decide_eq_true_eq]; omega
          refine ⟨_, rfl, rfl, fun a j ha => by rw [upI_ne (by omega)]; exact h3 a j ha, by rw [upI_ne (by omega)]; exact h4, by rw [upI_ne (by omega), hr9]; omega, ?_, by rw [upI_ne (by omega), upI_ne (by omega)]; exact h5⟩
          rw [upI_eq rfl rfl, upI_ne (by omega), hr9]
          by_cases hlt : J 28 4 < I 28 0
          · have hs8 := hs9 hlt; first | (exfalso; omega) | rw [if_pos (by rw [hl9]; omega)] | rw [if_neg (by rw [hl9]; omega)]
          · first | (exfalso; omega) | rw [if_pos (by rw [hl9]; omega)] | rw [if_neg (by rw [hl9]; omega)]
      · refine rch_run cdK44 (by decide) 6 (t' := (87, [some (vR 28), none], [vI 2, vI (J 30 (J 28 4).toNat)], MW b J L)) (ps := [0 ≤ J 28 4 ∧ J 28 4 < ((500 : Nat) : Int)]) rfl (by (try have hs8 := hs9 (by omega)); simp only [all_, i32, i64]; first | omega | (simp; done) | (simp; omega)) ?_
        refine rch_br cdK44 (cd := J 30 (J 28 4).toNat ≠ (2 : Int)) (t1 := (94, [some (vR 28), none], [], MW b J L)) (t2 := (90, [some (vR 28), none], [], MW b J L)) rfl (fun c87_5 => ?_) (fun c87_5 => ?_)
        · refine rch_run cdK44 (by decide) 4 (t' := (98, [some (vR 28), some (vI 0)], [vI 0, vR 28], MW b J L)) (ps := []) rfl trivial ?_
          refine rch_br cdK44 (cd := (0 : Int) ≠ 0) (t1 := (115, [some (vR 28), some (vI 0)], [vR 28], MW b J L)) (t2 := (101, [some (vR 28), some (vI 0)], [vR 28], MW b J L)) rfl (fun c9 => absurd c9 (by decide)) (fun _ => ?_)
          refine rch_run cdK44 (by decide) 6 (t' := (112, [some (vR 28), some (vI 0)], [vI 6, vI ((J 28 4) - (J 28 2)), vR 28], MW b J L)) (ps := [i32 ((J 28 4) - (J 28 2))]) rfl (by (try have hs8 := hs9 (by omega)); simp only [all_, i32, i64]; first | omega | (simp; done) | (simp; omega)) ?_
          refine rch_br cdK44 (cd := (J 28 4) - (J 28 2) ≤ (6 : Int)) (t1 := (119, [some (vR 28), some (vI 0)], [vR 28], MW b J L)) (t2 := (115, [some (vR 28), some (vI 0)], [vR 28], MW b J L)) rfl (fun c112_7 => ?_) (fun c112_7 => ?_)
          · refine rch_run cdK44 (by decide) 2 (t' := (123, [some (vR 28), some (vI 0)], [], MW b (upI J 28 1 3) L)) (ps := []) rfl trivial ?_
            refine rch_ret cdK44 (rt := none) rfl trivial mw_c ?_
            have hend : Pd (I 29) (I 28 0).toNat (J 28 4).toNat = false := decide_eq_false (fun z => by by_cases hlt : J 28 4 < I 28 0; (have hs8 := hs9 hlt; omega); omega)
            have hr9 : runP (Pd (I 29) (I 28 0).toNat) 501 (I 28 4).toNat = (J 28 4).toNat := run_eq (run_mk (by omega) (fun x hx hx2 => h2 x (by omega) (by omega)) hend) (by omega)
            have hl9 : Pl (I 29) (I 28 0).toNat (J 28 4).toNat = true ↔ J 28 4 < I 28 0 ∧ 97 ≤ I 29 (J 28 4).toNat ∧ I 29 (J 28 4).toNat ≤ 122 := by unfold Pl; rw [decide_eq_true_eq]; omega
            refine ⟨_, rfl, rfl, fun a j ha => by rw [upI_ne (by omega)]; exact h3 a j ha, by rw [upI_ne (by omega)]; exact h4, by rw [upI_ne (by omega), hr9]; omega, ?_, by rw [upI_ne (by omega), upI_ne (by omega)]; exact h5⟩
            rw [upI_eq rfl rfl, upI_ne (by omega), hr9]
            by_cases hlt : J 28 4 < I 28 0
            · have hs8 := hs9 hlt; first | (exfalso; omega) | rw [if_pos (by rw [hl9]; omega)] | rw [if_neg (by rw [hl9]; omega)]
            · first | (exfalso; omega) | rw [if_pos (by rw [hl9]; omega)] | rw [if_neg (by rw [hl9]; omega)]
          · refine rch_run cdK44 (by decide) 3 (t' := (123, [some (vR 28), some (vI 0)], [], MW b (upI J 28 1 1) L)) (ps := []) rfl trivial ?_
            refine rch_ret cdK44 (rt := none) rfl trivial mw_c ?_
            have hend : Pd (I 29) (I 28 0).toNat (J 28 4).toNat = false := decide_eq_false (fun z => by by_cases hlt : J 28 4 < I 28 0; (have hs8 := hs9 hlt; omega); omega)
            have hr9 : runP (Pd (I 29) (I 28 0).toNat) 501 (I 28 4).toNat = (J 28 4).toNat := run_eq (run_mk (by omega) (fun x hx hx2 => h2 x (by omega) (by omega)) hend) (by omega)
            have hl9 : Pl (I 29) (I 28 0).toNat (J 28 4).toNat = true ↔ J 28 4 < I 28 0 ∧ 97 ≤ I 29 (J 28 4).toNat ∧ I 29 (J 28 4).toNat ≤ 122 := by unfold Pl; rw [decide_eq_true_eq]; omega
            refine ⟨_, rfl, rfl, fun a j ha => by rw [upI_ne (by omega)]; exact h3 a j ha, by rw [upI_ne (by omega)]; exact h4, by rw [upI_ne (by omega), hr9]; omega, ?_, by rw [upI_ne (by omega), upI_ne (by omega)]; exact h5⟩
            rw [upI_eq rfl rfl, upI_ne (by omega), hr9]
            by_cases hlt : J 28 4 < I 28 0
            · have hs8 := hs9 hlt; first | (exfalso; omega) | rw [if_pos (by rw [hl9]; omega)] | rw [if_neg (by rw [hl9]; omega)]
            · first | (exfalso; omega) | rw [if_pos (by rw [hl9]; omega)] | rw [if_neg (by rw [hl9]; omega)]
        · refine rch_run cdK44 (by decide) 5 (t' := (98, [some (vR 28), some (vI 1)], [vI 1, vR 28], MW b J L)) (ps := []) rfl trivial ?_
          refine rch_br cdK44 (cd := (1 : Int) ≠ 0) (t1 := (115, [some (vR 28), some (vI 1)], [vR 28], MW b J L)) (t2 := (101, [some (vR 28), some (vI 1)], [vR 28], MW b J L)) rfl (fun _ => ?_) (fun c9 => absurd (by decide) c9)
          refine rch_run cdK44 (by decide) 3 (t' := (123, [some (vR 28), some (vI 1)], [], MW b (upI J 28 1 1) L)) (ps := []) rfl trivial ?_
          refine rch_ret cdK44 (rt := none) rfl trivial mw_c ?_
          have hend : Pd (I 29) (I 28 0).toNat (J 28 4).toNat = false := decide_eq_false (fun z => by by_cases hlt : J 28 4 < I 28 0; (have hs8 := hs9 hlt; omega); omega)
          have hr9 : runP (Pd (I 29) (I 28 0).toNat) 501 (I 28 4).toNat = (J 28 4).toNat := run_eq (run_mk (by omega) (fun x hx hx2 => h2 x (by omega) (by omega)) hend) (by omega)
          have hl9 : Pl (I 29) (I 28 0).toNat (J 28 4).toNat = true ↔ J 28 4 < I 28 0 ∧ 97 ≤ I 29 (J 28 4).toNat ∧ I 29 (J 28 4).toNat ≤ 122 := by unfold Pl; rw [decide_eq_true_eq]; omega
          refine ⟨_, rfl, rfl, fun a j ha => by rw [upI_ne (by omega)]; exact h3 a j ha, by rw [upI_ne (by omega)]; exact h4, by rw [upI_ne (by omega), hr9]; omega, ?_, by rw [upI_ne (by omega), upI_ne (by omega)]; exact h5⟩
          rw [upI_eq rfl rfl, upI_ne (by omega), hr9]
          by_cases hlt : J 28 4 < I 28 0
          · have hs8 := hs9 hlt; first | (exfalso; omega) | rw [if_pos (by rw [hl9]; omega)] | rw [if_neg (by rw [hl9]; omega)]
          · first | (exfalso; omega) | rw [if_pos (by rw [hl9]; omega)] | rw [if_neg (by rw [hl9]; omega)]
    · refine rch_run cdK44 (by decide) 6 (t' := (26, [some (vR 28), none], [vI 3, vI (J 30 (J 28 4).toNat)], MW b J L)) (ps := [0 ≤ J 28 4 ∧ J 28 4 < ((500 : Nat) : Int)]) rfl (by (try have hs8 := hs9 (by omega)); simp only [all_, i32, i64]; first | omega | (simp; done) | (simp; omega)) ?_
      refine rch_br cdK44 (cd := J 30 (J 28 4).toNat ≠ (3 : Int)) (t1 := (66, [some (vR 28), none], [], MW b J L)) (t2 := (29, [some (vR 28), none], [], MW b J L)) rfl (fun c26_9 => ?_) (fun c26_9 => ?_)
      · refine rch_run cdK44 (by decide) 4 (t' := (74, [some (vR 28), none], [vI (J 28 0), vI (J 28 4)], MW b J L)) (ps := []) rfl trivial ?_
        refine rch_br cdK44 (cd := J 28 0 ≤ J 28 4) (t1 := (94, [some (vR 28), none], [], MW b J L)) (t2 := (77, [some (vR 28), none], [], MW b J L)) rfl (fun c74_10 => ?_) (fun c74_10 => ?_)
        · refine rch_run cdK44 (by decide) 4 (t' := (98, [some (vR 28), some (vI 0)], [vI 0, vR 28], MW b J L)) (ps := []) rfl trivial ?_
          refine rch_br cdK44 (cd := (0 : Int) ≠ 0) (t1 := (115, [some (vR 28), some (vI 0)], [vR 28], MW b J L)) (t2 := (101, [some (vR 28), some (vI 0)], [vR 28], MW b J L)) rfl (fun c9 => absurd c9 (by decide)) (fun _ => ?_)
          refine rch_run cdK44 (by decide) 6 (t' := (112, [some (vR 28), some (vI 0)], [vI 6, vI ((J 28 4) - (J 28 2)), vR 28], MW b J L)) (ps := [i32 ((J 28 4) - (J 28 2))]) rfl (by (try have hs8 := hs9 (by omega)); simp only [all_, i32, i64]; first | omega | (simp; done) | (simp; omega)) ?_
          refine rch_br cdK44 (cd := (J 28 4) - (J 28 2) ≤ (6 : Int)) (t1 := (119, [some (vR 28), some (vI 0)], [vR 28], MW b J L)) (t2 := (115, [some (vR 28), some (vI 0)], [vR 28], MW b J L)) rfl (fun c112_12 => ?_) (fun c112_12 => ?_)
          · refine rch_run cdK44 (by decide) 2 (t' := (123, [some (vR 28), some (vI 0)], [], MW b (upI J 28 1 3) L)) (ps := []) rfl trivial ?_
            refine rch_ret cdK44 (rt := none) rfl trivial mw_c ?_
            have hend : Pd (I 29) (I 28 0).toNat (J 28 4).toNat = false := decide_eq_false (fun z => by by_cases hlt : J 28 4 < I 28 0; (have hs8 := hs9 hlt; omega); omega)
            have hr9 : runP (Pd (I 29) (I 28 0).toNat) 501 (I 28 4).toNat = (J 28 4).toNat := run_eq (run_mk (by omega) (fun x hx hx2 => h2 x (by omega) (by omega)) hend) (by omega)
            have hl9 : Pl (I 29) (I 28 0).toNat (J 28 4).toNat = true ↔ J 28 4 < I 28 0 ∧ 97 ≤ I 29 (J 28 4).toNat ∧ I 29 (J 28 4).toNat ≤ 122 := by unfold Pl; rw [decide_eq_true_eq]; omega
            refine ⟨_, rfl, rfl, fun a j ha => by rw [upI_ne (by omega)]; exact h3 a j ha, by rw [upI_ne (by omega)]; exact h4, by rw [upI_ne (by omega), hr9]; omega, ?_, by rw [upI_ne (by omega), upI_ne (by omega)]; exact h5⟩
            rw [upI_eq rfl rfl, upI_ne (by omega), hr9]
            by_cases hlt : J 28 4 < I 28 0
            · have hs8 := hs9 hlt; first | (exfalso; omega) | rw [if_pos (by rw [hl9]; omega)] | rw [if_neg (by rw [hl9]; omega)]
            · first | (exfalso; omega) | rw [if_pos (by rw [hl9]; omega)] | rw [if_neg (by rw [hl9]; omega)]
          · refine rch_run cdK44 (by decide) 3 (t' := (123, [some (vR 28), some (vI 0)], [], MW b (upI J 28 1 1) L)) (ps := []) rfl trivial ?_
            refine rch_ret cdK44 (rt := none) rfl trivial mw_c ?_
            have hend : Pd (I 29) (I 28 0).toNat (J 28 4).toNat = false := decide_eq_false (fun z => by by_cases hlt : J 28 4 < I 28 0; (have hs8 := hs9 hlt; omega); omega)
            have hr9 : runP (Pd (I 29) (I 28 0).toNat) 501 (I 28 4).toNat = (J 28 4).toNat := run_eq (run_mk (by omega) (fun x hx hx2 => h2 x (by omega) (by omega)) hend) (by omega)
            have hl9 : Pl (I 29) (I 28 0).toNat (J 28 4).toNat = true ↔ J 28 4 < I 28 0 ∧ 97 ≤ I 29 (J 28 4).toNat ∧ I 29 (J 28 4).toNat ≤ 122 := by unfold Pl; rw [decide_eq_true_eq]; omega
            refine ⟨_, rfl, rfl, fun a j ha => by rw [upI_ne (by omega)]; exact h3 a j ha, by rw [upI_ne (by omega)]; exact h4, by rw [upI_ne (by omega), hr9]; omega, ?_, by rw [upI_ne (by omega), upI_ne (by omega)]; exact h5⟩
            rw [upI_eq rfl rfl, upI_ne (by omega), hr9]
            by_cases hlt : J 28 4 < I 28 0
            · have hs8 := hs9 hlt; first | (exfalso; omega) | rw [if_pos (by rw [hl9]; omega)] | rw [if_neg (by rw [hl9]; omega)]
            · first | (exfalso; omega) | rw [if_pos (by rw [hl9]; omega)] | rw [if_neg (by rw [hl9]; omega)]
        · refine rch_run cdK44 (by decide) 6 (t' := (87, [some (vR 28), none], [vI 2, vI (J 30 (J 28 4).toNat)], MW b J L)) (ps := [0 ≤ J 28 4 ∧ J 28 4 < ((500 : Nat) : Int)]) rfl (by (try have hs8 := hs9 (by omega)); simp only [all_, i32, i64]; first | omega | (simp; done) | (simp; omega)) ?_
          refine rch_br cdK44 (cd := J 30 (J 28 4).toNat ≠ (2 : Int)) (t1 := (94, [some (vR 28), none], [], MW b J L)) (t2 := (90, [some (vR 28), none], [], MW b J L)) rfl (fun c87_13 => ?_) (fun c87_13 => ?_)
          · refine rch_run cdK44 (by decide) 4 (t' := (98, [some (vR 28), some (vI 0)], [vI 0, vR 28], MW b J L)) (ps := []) rfl trivial ?_
            refine rch_br cdK44 (cd := (0 : Int) ≠ 0) (t1 := (115, [some (vR 28), some (vI 0)], [vR 28], MW b J L)) (t2 := (101, [some (vR 28), some (vI 0)], [vR 28], MW b J L)) rfl (fun c9 => absurd c9 (by decide)) (fun _ => ?_)
            refine rch_run cdK44 (by decide) 6 (t' := (112, [some (vR 28), some (vI 0)], [vI 6, vI ((J 28 4) - (J 28 2)), vR 28], MW b J L)) (ps := [i32 ((J 28 4) - (J 28 2))]) rfl (by (try have hs8 := hs9 (by omega)); simp only [all_, i32, i64]; first | omega | (simp; done) | (simp; omega)) ?_
            refine rch_br cdK44 (cd := (J 28 4) - (J 28 2) ≤ (6 : Int)) (t1 := (119, [some (vR 28), some (vI 0)], [vR 28], MW b J L)) (t2 := (115, [some (vR 28), some (vI 0)], [vR 28], MW b J L)) rfl (fun c112_15 => ?_) (fun c112_15 => ?_)
            · refine rch_run cdK44 (by decide) 2 (t' := (123, [some (vR 28), some (vI 0)], [], MW b (upI J 28 1 3) L)) (ps := []) rfl trivial ?_
              refine rch_ret cdK44 (rt := none) rfl trivial mw_c ?_
              have hend : Pd (I 29) (I 28 0).toNat (J 28 4).toNat = false := decide_eq_false (fun z => by by_cases hlt : J 28 4 < I 28 0; (have hs8 := hs9 hlt; omega); omega)
              have hr9 : runP (Pd (I 29) (I 28 0).toNat) 501 (I 28 4).toNat = (J 28 4).toNat := run_eq (run_mk (by omega) (fun x hx hx2 => h2 x (by omega) (by omega)) hend) (by omega)
              have hl9 : Pl (I 29) (I 28 0).toNat (J 28 4).toNat = true ↔ J 28 4 < I 28 0 ∧ 97 ≤ I 29 (J 28 4).toNat ∧ I 29 (J 28 4).toNat ≤ 122 := by unfold Pl; rw [decide_eq_true_eq]; omega
              refine ⟨_, rfl, rfl, fun a j ha => by rw [upI_ne (by omega)]; exact h3 a j ha, by rw [upI_ne (by omega)]; exact h4, by rw [upI_ne (by omega), hr9]; omega, ?_, by rw [upI_ne (by omega), upI_ne (by omega)]; exact h5⟩
              rw [upI_eq rfl rfl, upI_ne (by omega), hr9]
              by_cases hlt : J 28 4 < I 28 0
              · have hs8 := hs9 hlt; first | (exfalso; omega) | rw [if_pos (by rw [hl9]; omega)] | rw [if_neg (by rw [hl9]; omega)]
              · first | (exfalso; omega) | rw [if_pos (by rw [hl9]; omega)] | rw [if_neg (by rw [hl9]; omega)]
            · refine rch_run cdK44 (by decide) 3 (t' := (123, [some (vR 28), some (vI 0)], [], MW b (upI J 28 1 1) L)) (ps := []) rfl trivial ?_
              refine rch_ret cdK44 (rt := none) rfl trivial mw_c ?_
              have hend : Pd (I 29) (I 28 0).toNat (J 28 4).toNat = false := decide_eq_false (fun z => by by_cases hlt : J 28 4 < I 28 0; (have hs8 := hs9 hlt; omega); omega)
              have hr9 : runP (Pd (I 29) (I 28 0).toNat) 501 (I 28 4).toNat = (J 28 4).toNat := run_eq (run_mk (by omega) (fun x hx hx2 => h2 x (by omega) (by omega)) hend) (by omega)
              have hl9 : Pl (I 29) (I 28 0).toNat (J 28 4).toNat = true ↔ J 28 4 < I 28 0 ∧ 97 ≤ I 29 (J 28 4).toNat ∧ I 29 (J 28 4).toNat ≤ 122 := by unfold Pl; rw [decide_eq_true_eq]; omega
              refine ⟨_, rfl, rfl, fun a j ha => by rw [upI_ne (by omega)]; exact h3 a j ha, by rw [upI_ne (by omega)]; exact h4, by rw [upI_ne (by omega), hr9]; omega, ?_, by rw [upI_ne (by omega), upI_ne (by omega)]; exact h5⟩
              rw [upI_eq rfl rfl, upI_ne (by omega), hr9]
              by_cases hlt : J 28 4 < I 28 0
              · have hs8 := hs9 hlt; first | (exfalso; omega) | rw [if_pos (by rw [hl9]; omega)] | rw [if_neg (by rw [hl9]; omega)]
              · first | (exfalso; omega) | rw [if_pos (by rw [hl9]; omega)] | rw [if_neg (by rw [hl9]; omega)]
          · refine rch_run cdK44 (by decide) 5 (t' := (98, [some (vR 28), some (vI 1)], [vI 1, vR 28], MW b J L)) (ps := []) rfl trivial ?_
            refine rch_br cdK44 (cd := (1 : Int) ≠ 0) (t1 := (115, [some (vR 28), some (vI 1)], [vR 28], MW b J L)) (t2 := (101, [some (vR 28), some (vI 1)], [vR 28], MW b J L)) rfl (fun _ => ?_) (fun c9 => absurd (by decide) c9)
            refine rch_run cdK44 (by decide) 3 (t' := (123, [some (vR 28), some (vI 1)], [], MW b (upI J 28 1 1) L)) (ps := []) rfl trivial ?_
            refine rch_ret cdK44 (rt := none) rfl trivial mw_c ?_
            have hend : Pd (I 29) (I 28 0).toNat (J 28 4).toNat = false := decide_eq_false (fun z => by by_cases hlt : J 28 4 < I 28 0; (have hs8 := hs9 hlt; omega); omega)
            have hr9 : runP (Pd (I 29) (I 28 0).toNat) 501 (I 28 4).toNat = (J 28 4).toNat := run_eq (run_mk (by omega) (fun x hx hx2 => h2 x (by omega) (by omega)) hend) (by omega)
            have hl9 : Pl (I 29) (I 28 0).toNat (J 28 4).toNat = true ↔ J 28 4 < I 28 0 ∧ 97 ≤ I 29 (J 28 4).toNat ∧ I 29 (J 28 4).toNat ≤ 122 := by unfold Pl; rw [decide_eq_true_eq]; omega
            refine ⟨_, rfl, rfl, fun a j ha => by rw [upI_ne (by omega)]; exact h3 a j ha, by rw [upI_ne (by omega)]; exact h4, by rw [upI_ne (by omega), hr9]; omega, ?_, by rw [upI_ne (by omega), upI_ne (by omega)]; exact h5⟩
            rw [upI_eq rfl rfl, upI_ne (by omega), hr9]
            by_cases hlt : J 28 4 < I 28 0
            · have hs8 := hs9 hlt; first | (exfalso; omega) | rw [if_pos (by rw [hl9]; omega)] | rw [if_neg (by rw [hl9]; omega)]
            · first | (exfalso; omega) | rw [if_pos (by rw [hl9]; omega)] | rw [if_neg (by rw [hl9]; omega)]
      · refine rch_run cdK44 (by decide) 21 (t' := (5, [some (vR 28), none], [], MW b (upI (upI J 28 3 (w32 ((w32 ((J 28 3) * 10)) + ((J 29 (J 28 4).toNat) - 48)))) 28 4 (w32 ((J 28 4) + 1))) L)) (ps := [0 ≤ J 28 4 ∧ J 28 4 < ((500 : Nat) : Int), i32 ((J 29 (J 28 4).toNat) - 48)]) rfl (by (try have hs8 := hs9 (by omega)); simp only [all_, i32, i64]; first | omega | (simp; done) | (simp; omega)) ?_
        have hs8 := hs9 (by omega)
        have hx9 : Pd (I 29) (I 28 0).toNat (J 28 4).toNat = true := decide_eq_true (by omega)
        rw [hw1]
        refine ih 0 _ (by rw [upI_eq rfl rfl]; omega) (fun x hx hx2 => by rw [upI_eq rfl rfl] at hx2; by_cases e : x = (J 28 4).toNat; (rw [e]; exact hx9); exact h2 x hx (by omega)) (fun a j ha => by rw [upI_ne (by omega), upI_ne (by omega)]; exact h3 a j ha) (by rw [upI_ne (by omega), upI_ne (by omega)]; exact h4) (fun hz => ?_) (by rw [upI_eq rfl rfl]; omega)
        rw [upI_eq rfl rfl] at hz ⊢
        rw [upI_ne (by omega), upI_eq rfl rfl]
        have hv8 := hv9 (by omega)
        have h58 := h5 (by omega)
        rw [show ((J 28 4) + 1 - I 28 4).toNat = (J 28 4 - I 28 4).toNat + 1 by omega]
        show _ = nvl (I 29) (I 28 4).toNat (J 28 4 - I 28 4).toNat * 10 + (I 29 ((I 28 4).toNat + (J 28 4 - I 28 4).toNat) - 48)
        rw [← h58, show (I 28 4).toNat + (J 28 4 - I 28 4).toNat = (J 28 4).toNat by omega, ← e29]
        first | rfl | (simp only [w32_id (show i32 (J 28 3 * 10) by unfold i32; omega)]; first | rfl | (rw [w32_id (by unfold i32; omega)])) | (rw [w32_id (by unfold i32; omega)])

theorem k_takeNumber (l : Launch) (E : AX) (b : Bool) (I L : Nat → Nat → Int) (hT : TpK I) (hp : 0 ≤ I 28 2 ∧ I 28 2 ≤ I 28 4) : Con l E 1 44 [vR 28] (MW b I L) 0 0 (fun rt w => ∃ J, rt = none ∧ w = MW b J L ∧ FrT I J ∧ J 28 2 = I 28 2 ∧ J 28 4 = (runP (Pd (I 29) (I 28 0).toNat) 501 (I 28 4).toNat : Int) ∧ J 28 1 = (if Pl (I 29) (I 28 0).toNat (runP (Pd (I 29) (I 28 0).toNat) 501 (I 28 4).toNat) = true ∨ 6 < J 28 4 - I 28 2 then 1 else 3) ∧ (J 28 4 - I 28 4 ≤ 6 → J 28 3 = nvl (I 29) (I 28 4).toNat (J 28 4 - I 28 4).toNat)) := by
  refine con_ok (fun hw9 hs9 => ?_)
  refine con_intro (by decide) (Nat.le_of_ble_eq_true rfl) ?_
  show Rch l E 1 44 _ _ _ _ (0, [some (vR 28), none], [], MW b I L)
  refine rch_run cdK44 (by decide) 3 (t' := (5, [some (vR 28), none], [], MW b (upI I 28 3 0) L)) (ps := []) rfl trivial ?_
  exact lp_takeNumber l E b I L hT hp 502 0 _ (by rw [upI_ne (by omega)]; have := hT.1; omega) (fun x hx hx2 => by rw [upI_ne (by omega)] at hx2; omega) (fun a j ha => upI_ne (by omega)) (upI_ne (by omega)) (fun _ => by rw [upI_eq rfl rfl, upI_ne (by omega), show (I 28 4 - I 28 4).toNat = 0 by omega]; rfl) (by rw [upI_ne (by omega)]; have := hT.1; omega)
