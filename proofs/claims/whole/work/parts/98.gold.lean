set_option maxHeartbeats 20000000 in
set_option maxRecDepth 100000 in
theorem gd_up (l : Launch) (E : AX) (b : Bool) (I0 L0 J M : Nat → Nat → Int) (row f d k p : Int) (r vv w j : Int) (Φ : Option AV → AW → Prop) (hj : 0 ≤ j ∧ j ≤ J 74 69 ∧ j < 10 ∧ J 74 69 ≤ 10) (hv : 0 ≤ vv ∧ vv < 150) (hw : 0 ≤ w ∧ w ≤ 900) (hs : j < J 74 69 → 0 ≤ M 121 j.toNat ∧ M 121 j.toNat ≤ 9000) (h118 : j < J 74 69 → J 118 j.toNat = J 83 vv.toNat) (hr : 0 ≤ r ∧ r < 10) (hk : ∀ J2 M2 : Nat → Nat → Int, GUp J M J2 M2 j.toNat (J 83 vv.toNat) w (J 84 vv.toNat) r → Rch l E 3 153 (MW b I0 L0) 0 0 Φ (26, [some (vR 74), some (vI row), some (vI f), some (vI d), some (vI k), some (vI p), some (vI (r + 1)), none, none, none, none], [], MW b J2 M2)) : Rch l E 3 153 (MW b I0 L0) 0 0 Φ (175, [some (vR 74), some (vI row), some (vI f), some (vI d), some (vI k), some (vI p), some (vI r), some (vI vv), some (vL w), none, some (vI j)], [], MW b J M) := by
  have hz9 := lCmp_sg w (M 122 j.toNat)
  have hA9 : (upI (upI J 118 j.toNat (J 83 vv.toNat)) 120 j.toNat (-1)) 120 j.toNat = -1 := upI_eq rfl rfl
  have hB9 : (upI (upI M 121 j.toNat 0) 122 j.toNat (-1)) 122 j.toNat = -1 := upI_eq rfl rfl
  have hC9 : (upI M 121 j.toNat 0) 121 j.toNat = 0 := upI_eq rfl rfl
  have hz8 := lCmp_sg w ((upI (upI M 121 j.toNat 0) 122 j.toNat (-1)) 122 j.toNat)
  refine rch_run cdK153 (by decide) 3 (t' := (181, [some (vR 74), some (vI row), some (vI f), some (vI d), some (vI k), some (vI p), some (vI r), some (vI vv), some (vL w), none, some (vI j)], [vI (J 74 69), vI j], MW b J M)) (ps := []) rfl trivial ?_
  refine rch_br cdK153 (cd := j ≠ J 74 69) (t1 := (234, [some (vR 74), some (vI row), some (vI f), some (vI d), some (vI k), some (vI p), some (vI r), some (vI vv), some (vL w), none, some (vI j)], [], MW b J M)) (t2 := (184, [some (vR 74), some (vI row), some (vI f), some (vI d), some (vI k), some (vI p), some (vI r), some (vI vv), some (vL w), none, some (vI j)], [], MW b J M)) rfl (fun c181_1 => ?_) (fun c181_1 => ?_)
  · refine rch_run cdK153 (by decide) 19 (t' := (266, [some (vR 74), some (vI row), some (vI f), some (vI d), some (vI k), some (vI p), some (vI r), some (vI vv), some (vL w), none, some (vI j)], [vI (J 120 j.toNat), vI (J 84 vv.toNat), vI j, vR 120], MW b J (upI M 121 j.toNat ((M 121 j.toNat) + w)))) (ps := [0 ≤ j ∧ j < ((10 : Nat) : Int), i64 ((M 121 j.toNat) + w), 0 ≤ j ∧ j < ((10 : Nat) : Int), 0 ≤ vv ∧ vv < ((150 : Nat) : Int), 0 ≤ j ∧ j < ((10 : Nat) : Int)]) rfl (by (try have hs8 := hs (by omega)); simp only [all_, i32, i64]; first | omega | (simp; done) | (simp; omega)) ?_
    refine rch_br cdK153 (cd := J 84 vv.toNat ≤ J 120 j.toNat) (t1 := (279, [some (vR 74), some (vI row), some (vI f), some (vI d), some (vI k), some (vI p), some (vI r), some (vI vv), some (vL w), none, some (vI j)], [vI j, vR 120], MW b J (upI M 121 j.toNat ((M 121 j.toNat) + w)))) (t2 := (269, [some (vR 74), some (vI row), some (vI f), some (vI d), some (vI k), some (vI p), some (vI r), some (vI vv), some (vL w), none, some (vI j)], [vI j, vR 120], MW b J (upI M 121 j.toNat ((M 121 j.toNat) + w)))) rfl (fun c266_2 => ?_) (fun c266_2 => ?_)
    · refine rch_run cdK153 (by decide) 11 (t' := (297, [some (vR 74), some (vI row), some (vI f), some (vI d), some (vI k), some (vI p), some (vI r), some (vI vv), some (vL w), none, some (vI j)], [vI (lCmp w (M 122 j.toNat))], MW b (upI J 120 j.toNat (J 120 j.toNat)) (upI M 121 j.toNat ((M 121 j.toNat) + w)))) (ps := [0 ≤ j ∧ j < ((10 : Nat) : Int), 0 ≤ j ∧ j < ((10 : Nat) : Int), 0 ≤ j ∧ j < ((10 : Nat) : Int)]) rfl (by (try have hs8 := hs (by omega)); simp only [all_, i32, i64]; first | omega | (simp; done) | (simp; omega)) ?_
      refine rch_br cdK153 (cd := lCmp w (M 122 j.toNat) ≤ 0) (t1 := (318, [some (vR 74), some (vI row), some (vI f), some (vI d), some (vI k), some (vI p), some (vI r), some (vI vv), some (vL w), none, some (vI j)], [], MW b (upI J 120 j.toNat (J 120 j.toNat)) (upI M 121 j.toNat ((M 121 j.toNat) + w)))) (t2 := (300, [some (vR 74), some (vI row), some (vI f), some (vI d), some (vI k), some (vI p), some (vI r), some (vI vv), some (vL w), none, some (vI j)], [], MW b (upI J 120 j.toNat (J 120 j.toNat)) (upI M 121 j.toNat ((M 121 j.toNat) + w)))) rfl (fun c297_3 => ?_) (fun c297_3 => ?_)
      · refine rch_run cdK153 (by decide) 2 (t' := (26, [some (vR 74), some (vI row), some (vI f), some (vI d), some (vI k), some (vI p), some (vI (r + 1)), some (vI vv), some (vL w), none, some (vI j)], [], MW b (upI J 120 j.toNat (J 120 j.toNat)) (upI M 121 j.toNat ((M 121 j.toNat) + w)))) (ps := [i32 (r + 1)]) rfl (by (try have hs8 := hs (by omega)); simp only [all_, i32, i64]; first | omega | (simp; done) | (simp; omega)) ?_
        refine rch_forget [7, 8, 10] ?_
        show Rch l E 3 153 _ _ _ _ (26, [some (vR 74), some (vI row), some (vI f), some (vI d), some (vI k), some (vI p), some (vI (r + 1)), none, none, none, none], [], MW b (upI J 120 j.toNat (J 120 j.toNat)) (upI M 121 j.toNat ((M 121 j.toNat) + w)))
        refine hk _ _ ⟨fun a i ha => ?_, fun a i ha => ?_, ?_, ?_, ?_, ?_, fun hg9 => ?_, fun hg9 => ?_⟩
        · (repeat (first | rw [upI_eq rfl rfl] | rw [upI_ne (by omega)]))
        · (repeat (first | rw [upI_eq rfl rfl] | rw [upI_ne (by omega)]))
        · (repeat (first | rw [upI_eq rfl rfl] | rw [upI_ne (by omega)])); (try omega)
        · rw [if_neg (by omega)]; (repeat (first | rw [upI_eq rfl rfl] | rw [upI_ne (by omega)])); (try omega)
        · rw [if_neg (by omega)]; (repeat (first | rw [upI_eq rfl rfl] | rw [upI_ne (by omega)])); (try omega)
        · rw [if_neg (by omega)]; unfold iMax; (repeat (first | rw [upI_eq rfl rfl] | rw [upI_ne (by omega)])); first | (rw [if_pos (by omega)]; done) | (rw [if_neg (by omega)]; done) | omega
        · rw [if_neg (by omega)] at hg9; first | (exfalso; omega) | exact ⟨by (repeat (first | rw [upI_eq rfl rfl] | rw [upI_ne (by omega)])), by (repeat (first | rw [upI_eq rfl rfl] | rw [upI_ne (by omega)]))⟩
        · rw [if_neg (by omega)] at hg9 ⊢; first | (exfalso; omega) | exact ⟨by (repeat (first | rw [upI_eq rfl rfl] | rw [upI_ne (by omega)])); (try omega), by (repeat (first | rw [upI_eq rfl rfl] | rw [upI_ne (by omega)]))⟩
      · refine rch_run cdK153 (by decide) 12 (t' := (26, [some (vR 74), some (vI row), some (vI f), some (vI d), some (vI k), some (vI p), some (vI (r + 1)), some (vI vv), some (vL w), none, some (vI j)], [], MW b (upI (upI J 120 j.toNat (J 120 j.toNat)) 119 j.toNat r) (upI (upI M 121 j.toNat ((M 121 j.toNat) + w)) 122 j.toNat w))) (ps := [0 ≤ j ∧ j < ((10 : Nat) : Int), 0 ≤ j ∧ j < ((10 : Nat) : Int), i32 (r + 1)]) rfl (by (try have hs8 := hs (by omega)); simp only [all_, i32, i64]; first | omega | (simp; done) | (simp; omega)) ?_
        refine rch_forget [7, 8, 10] ?_
        show Rch l E 3 153 _ _ _ _ (26, [some (vR 74), some (vI row), some (vI f), some (vI d), some (vI k), some (vI p), some (vI (r + 1)), none, none, none, none], [], MW b (upI (upI J 120 j.toNat (J 120 j.toNat)) 119 j.toNat r) (upI (upI M 121 j.toNat ((M 121 j.toNat) + w)) 122 j.toNat w))
        refine hk _ _ ⟨fun a i ha => ?_, fun a i ha => ?_, ?_, ?_, ?_, ?_, fun hg9 => ?_, fun hg9 => ?_⟩
        · (repeat (first | rw [upI_eq rfl rfl] | rw [upI_ne (by omega)]))
        · (repeat (first | rw [upI_eq rfl rfl] | rw [upI_ne (by omega)]))
        · (repeat (first | rw [upI_eq rfl rfl] | rw [upI_ne (by omega)])); (try omega)
        · rw [if_neg (by omega)]; (repeat (first | rw [upI_eq rfl rfl] | rw [upI_ne (by omega)])); (try omega)
        · rw [if_neg (by omega)]; (repeat (first | rw [upI_eq rfl rfl] | rw [upI_ne (by omega)])); (try omega)
        · rw [if_neg (by omega)]; unfold iMax; (repeat (first | rw [upI_eq rfl rfl] | rw [upI_ne (by omega)])); first | (rw [if_pos (by omega)]; done) | (rw [if_neg (by omega)]; done) | omega
        · rw [if_neg (by omega)] at hg9; first | (exfalso; omega) | exact ⟨by (repeat (first | rw [upI_eq rfl rfl] | rw [upI_ne (by omega)])), by (repeat (first | rw [upI_eq rfl rfl] | rw [upI_ne (by omega)]))⟩
        · rw [if_neg (by omega)] at hg9 ⊢; first | (exfalso; omega) | exact ⟨by (repeat (first | rw [upI_eq rfl rfl] | rw [upI_ne (by omega)])); (try omega), by (repeat (first | rw [upI_eq rfl rfl] | rw [upI_ne (by omega)]))⟩
    · refine rch_run cdK153 (by decide) 12 (t' := (297, [some (vR 74), some (vI row), some (vI f), some (vI d), some (vI k), some (vI p), some (vI r), some (vI vv), some (vL w), none, some (vI j)], [vI (lCmp w (M 122 j.toNat))], MW b (upI J 120 j.toNat (J 84 vv.toNat)) (upI M 121 j.toNat ((M 121 j.toNat) + w)))) (ps := [0 ≤ vv ∧ vv < ((150 : Nat) : Int), 0 ≤ j ∧ j < ((10 : Nat) : Int), 0 ≤ j ∧ j < ((10 : Nat) : Int)]) rfl (by (try have hs8 := hs (by omega)); simp only [all_, i32, i64]; first | omega | (simp; done) | (simp; omega)) ?_
      refine rch_br cdK153 (cd := lCmp w (M 122 j.toNat) ≤ 0) (t1 := (318, [some (vR 74), some (vI row), some (vI f), some (vI d), some (vI k), some (vI p), some (vI r), some (vI vv), some (vL w), none, some (vI j)], [], MW b (upI J 120 j.toNat (J 84 vv.toNat)) (upI M 121 j.toNat ((M 121 j.toNat) + w)))) (t2 := (300, [some (vR 74), some (vI row), some (vI f), some (vI d), some (vI k), some (vI p), some (vI r), some (vI vv), some (vL w), none, some (vI j)], [], MW b (upI J 120 j.toNat (J 84 vv.toNat)) (upI M 121 j.toNat ((M 121 j.toNat) + w)))) rfl (fun c297_4 => ?_) (fun c297_4 => ?_)
      · refine rch_run cdK153 (by decide) 2 (t' := (26, [some (vR 74), some (vI row), some (vI f), some (vI d), some (vI k), some (vI p), some (vI (r + 1)), some (vI vv), some (vL w), none, some (vI j)], [], MW b (upI J 120 j.toNat (J 84 vv.toNat)) (upI M 121 j.toNat ((M 121 j.toNat) + w)))) (ps := [i32 (r + 1)]) rfl (by (try have hs8 := hs (by omega)); simp only [all_, i32, i64]; first | omega | (simp; done) | (simp; omega)) ?_
        refine rch_forget [7, 8, 10] ?_
        show Rch l E 3 153 _ _ _ _ (26, [some (vR 74), some (vI row), some (vI f), some (vI d), some (vI k), some (vI p), some (vI (r + 1)), none, none, none, none], [], MW b (upI J 120 j.toNat (J 84 vv.toNat)) (upI M 121 j.toNat ((M 121 j.toNat) + w)))
        refine hk _ _ ⟨fun a i ha => ?_, fun a i ha => ?_, ?_, ?_, ?_, ?_, fun hg9 => ?_, fun hg9 => ?_⟩
        · (repeat (first | rw [upI_eq rfl rfl] | rw [upI_ne (by omega)]))
        · (repeat (first | rw [upI_eq rfl rfl] | rw [upI_ne (by omega)]))
        · (repeat (first | rw [upI_eq rfl rfl] | rw [upI_ne (by omega)])); (try omega)
        · rw [if_neg (by omega)]; (repeat (first | rw [upI_eq rfl rfl] | rw [upI_ne (by omega)])); (try omega)
        · rw [if_neg (by omega)]; (repeat (first | rw [upI_eq rfl rfl] | rw [upI_ne (by omega)])); (try omega)
        · rw [if_neg (by omega)]; unfold iMax; (repeat (first | rw [upI_eq rfl rfl] | rw [upI_ne (by omega)])); first | (rw [if_pos (by omega)]; done) | (rw [if_neg (by omega)]; done) | omega
        · rw [if_neg (by omega)] at hg9; first | (exfalso; omega) | exact ⟨by (repeat (first | rw [upI_eq rfl rfl] | rw [upI_ne (by omega)])), by (repeat (first | rw [upI_eq rfl rfl] | rw [upI_ne (by omega)]))⟩
        · rw [if_neg (by omega)] at hg9 ⊢; first | (exfalso; omega) | exact ⟨by (repeat (first | rw [upI_eq rfl rfl] | rw [upI_ne (by omega)])); (try omega), by (repeat (first | rw [upI_eq rfl rfl] | rw [upI_ne (by omega)]))⟩
      · refine rch_run cdK153 (by decide) 12 (t' := (26, [some (vR 74), some (vI row), some (vI f), some (vI d), some (vI k), some (vI p), some (vI (r + 1)), some (vI vv), some (vL w), none, some (vI j)], [], MW b (upI (upI J 120 j.toNat (J 84 vv.toNat)) 119 j.toNat r) (upI (upI M 121 j.toNat ((M 121 j.toNat) + w)) 122 j.toNat w))) (ps := [0 ≤ j ∧ j < ((10 : Nat) : Int), 0 ≤ j ∧ j < ((10 : Nat) : Int), i32 (r + 1)]) rfl (by (try have hs8 := hs (by omega)); simp only [all_, i32, i64]; first | omega | (simp; done) | (simp; omega)) ?_
        refine rch_forget [7, 8, 10] ?_
        show Rch l E 3 153 _ _ _ _ (26, [some (vR 74), some (vI row), some (vI f), some (vI d), some (vI k), some (vI p), some (vI (r + 1)), none, none, none, none], [], MW b (upI (upI J 120 j.toNat (J 84 vv.toNat)) 119 j.toNat r) (upI (upI M 121 j.toNat ((M 121 j.toNat) + w)) 122 j.toNat w))
        refine hk _ _ ⟨fun a i ha => ?_, fun a i ha => ?_, ?_, ?_, ?_, ?_, fun hg9 => ?_, fun hg9 => ?_⟩
        · (repeat (first | rw [upI_eq rfl rfl] | rw [upI_ne (by omega)]))
        · (repeat (first | rw [upI_eq rfl rfl] | rw [upI_ne (by omega)]))
        · (repeat (first | rw [upI_eq rfl rfl] | rw [upI_ne (by omega)])); (try omega)
        · rw [if_neg (by omega)]; (repeat (first | rw [upI_eq rfl rfl] | rw [upI_ne (by omega)])); (try omega)
        · rw [if_neg (by omega)]; (repeat (first | rw [upI_eq rfl rfl] | rw [upI_ne (by omega)])); (try omega)
        · rw [if_neg (by omega)]; unfold iMax; (repeat (first | rw [upI_eq rfl rfl] | rw [upI_ne (by omega)])); first | (rw [if_pos (by omega)]; done) | (rw [if_neg (by omega)]; done) | omega
        · rw [if_neg (by omega)] at hg9; first | (exfalso; omega) | exact ⟨by (repeat (first | rw [upI_eq rfl rfl] | rw [upI_ne (by omega)])), by (repeat (first | rw [upI_eq rfl rfl] | rw [upI_ne (by omega)]))⟩
        · rw [if_neg (by omega)] at hg9 ⊢; first | (exfalso; omega) | exact ⟨by (repeat (first | rw [upI_eq rfl rfl] | rw [upI_ne (by omega)])); (try omega), by (repeat (first | rw [upI_eq rfl rfl] | rw [upI_ne (by omega)]))⟩
  · refine rch_run cdK153 (by decide) 25 (t' := (226, [some (vR 74), some (vI row), some (vI f), some (vI d), some (vI k), some (vI p), some (vI r), some (vI vv), some (vL w), none, some (vI j)], [vR 74, vR 74], MW b (upI (upI J 118 j.toNat (J 83 vv.toNat)) 120 j.toNat (-1)) (upI (upI M 121 j.toNat 0) 122 j.toNat (-1)))) (ps := [0 ≤ vv ∧ vv < ((150 : Nat) : Int), 0 ≤ j ∧ j < ((10 : Nat) : Int), 0 ≤ j ∧ j < ((10 : Nat) : Int), 0 ≤ j ∧ j < ((10 : Nat) : Int), 0 ≤ j ∧ j < ((10 : Nat) : Int)]) rfl (by (try have hs8 := hs (by omega)); simp only [all_, i32, i64]; first | omega | (simp; done) | (simp; omega)) ?_
    refine rch_run cdK153 (by decide) 23 (t' := (266, [some (vR 74), some (vI row), some (vI f), some (vI d), some (vI k), some (vI p), some (vI r), some (vI vv), some (vL w), none, some (vI j)], [vI ((upI (upI J 118 j.toNat (J 83 vv.toNat)) 120 j.toNat (-1)) 120 j.toNat), vI (J 84 vv.toNat), vI j, vR 120], MW b (upI (upI (upI J 118 j.toNat (J 83 vv.toNat)) 120 j.toNat (-1)) 74 69 ((J 74 69) + 1)) (upI (upI (upI M 121 j.toNat 0) 122 j.toNat (-1)) 121 j.toNat (((upI M 121 j.toNat 0) 121 j.toNat) + w)))) (ps := [i32 ((J 74 69) + 1), 0 ≤ j ∧ j < ((10 : Nat) : Int), i64 (((upI M 121 j.toNat 0) 121 j.toNat) + w), 0 ≤ j ∧ j < ((10 : Nat) : Int), 0 ≤ vv ∧ vv < ((150 : Nat) : Int), 0 ≤ j ∧ j < ((10 : Nat) : Int)]) rfl (by (try have hs8 := hs (by omega)); simp only [all_, i32, i64]; first | omega | (simp; done) | (simp; omega)) ?_
    refine rch_br cdK153 (cd := J 84 vv.toNat ≤ (upI (upI J 118 j.toNat (J 83 vv.toNat)) 120 j.toNat (-1)) 120 j.toNat) (t1 := (279, [some (vR 74), some (vI row), some (vI f), some (vI d), some (vI k), some (vI p), some (vI r), some (vI vv), some (vL w), none, some (vI j)], [vI j, vR 120], MW b (upI (upI (upI J 118 j.toNat (J 83 vv.toNat)) 120 j.toNat (-1)) 74 69 ((J 74 69) + 1)) (upI (upI (upI M 121 j.toNat 0) 122 j.toNat (-1)) 121 j.toNat (((upI M 121 j.toNat 0) 121 j.toNat) + w)))) (t2 := (269, [some (vR 74), some (vI row), some (vI f), some (vI d), some (vI k), some (vI p), some (vI r), some (vI vv), some (vL w), none, some (vI j)], [vI j, vR 120], MW b (upI (upI (upI J 118 j.toNat (J 83 vv.toNat)) 120 j.toNat (-1)) 74 69 ((J 74 69) + 1)) (upI (upI (upI M 121 j.toNat 0) 122 j.toNat (-1)) 121 j.toNat (((upI M 121 j.toNat 0) 121 j.toNat) + w)))) rfl (fun c266_5 => ?_) (fun c266_5 => ?_)
    · refine rch_run cdK153 (by decide) 11 (t' := (297, [some (vR 74), some (vI row), some (vI f), some (vI d), some (vI k), some (vI p), some (vI r), some (vI vv), some (vL w), none, some (vI j)], [vI (lCmp w ((upI (upI M 121 j.toNat 0) 122 j.toNat (-1)) 122 j.toNat))], MW b (upI (upI (upI (upI J 118 j.toNat (J 83 vv.toNat)) 120 j.toNat (-1)) 74 69 ((J 74 69) + 1)) 120 j.toNat ((upI (upI J 118 j.toNat (J 83 vv.toNat)) 120 j.toNat (-1)) 120 j.toNat)) (upI (upI (upI M 121 j.toNat 0) 122 j.toNat (-1)) 121 j.toNat (((upI M 121 j.toNat 0) 121 j.toNat) + w)))) (ps := [0 ≤ j ∧ j < ((10 : Nat) : Int), 0 ≤ j ∧ j < ((10 : Nat) : Int), 0 ≤ j ∧ j < ((10 : Nat) : Int)]) rfl (by (try have hs8 := hs (by omega)); simp only [all_, i32, i64]; first | omega | (simp; done) | (simp; omega)) ?_
      refine rch_br cdK153 (cd := lCmp w ((upI (upI M 121 j.toNat 0) 122 j.toNat (-1)) 122 j.toNat) ≤ 0) (t1 := (318, [some (vR 74), some (vI row), some (vI f), some (vI d), some (vI k), some (vI p), some (vI r), some (vI vv), some (vL w), none, some (vI j)], [], MW b (upI (upI (upI (upI J 118 j.toNat (J 83 vv.toNat)) 120 j.toNat (-1)) 74 69 ((J 74 69) + 1)) 120 j.toNat ((upI (upI J 118 j.toNat (J 83 vv.toNat)) 120 j.toNat (-1)) 120 j.toNat)) (upI (upI (upI M 121 j.toNat 0) 122 j.toNat (-1)) 121 j.toNat (((upI M 121 j.toNat 0) 121 j.toNat) + w)))) (t2 := (300, [some (vR 74), some (vI row), some (vI f), some (vI d), some (vI k), some (vI p), some (vI r), some (vI vv), some (vL w), none, some (vI j)], [], MW b (upI (upI (upI (upI J 118 j.toNat (J 83 vv.toNat)) 120 j.toNat (-1)) 74 69 ((J 74 69) + 1)) 120 j.toNat ((upI (upI J 118 j.toNat (J 83 vv.toNat)) 120 j.toNat (-1)) 120 j.toNat)) (upI (upI (upI M 121 j.toNat 0) 122 j.toNat (-1)) 121 j.toNat (((upI M 121 j.toNat 0) 121 j.toNat) + w)))) rfl (fun c297_6 => ?_) (fun c297_6 => ?_)
      · refine rch_run cdK153 (by decide) 2 (t' := (26, [some (vR 74), some (vI row), some (vI f), some (vI d), some (vI k), some (vI p), some (vI (r + 1)), some (vI vv), some (vL w), none, some (vI j)], [], MW b (upI (upI (upI (upI J 118 j.toNat (J 83 vv.toNat)) 120 j.toNat (-1)) 74 69 ((J 74 69) + 1)) 120 j.toNat ((upI (upI J 118 j.toNat (J 83 vv.toNat)) 120 j.toNat (-1)) 120 j.toNat)) (upI (upI (upI M 121 j.toNat 0) 122 j.toNat (-1)) 121 j.toNat (((upI M 121 j.toNat 0) 121 j.toNat) + w)))) (ps := [i32 (r + 1)]) rfl (by (try have hs8 := hs (by omega)); simp only [all_, i32, i64]; first | omega | (simp; done) | (simp; omega)) ?_
        refine rch_forget [7, 8, 10] ?_
        show Rch l E 3 153 _ _ _ _ (26, [some (vR 74), some (vI row), some (vI f), some (vI d), some (vI k), some (vI p), some (vI (r + 1)), none, none, none, none], [], MW b (upI (upI (upI (upI J 118 j.toNat (J 83 vv.toNat)) 120 j.toNat (-1)) 74 69 ((J 74 69) + 1)) 120 j.toNat ((upI (upI J 118 j.toNat (J 83 vv.toNat)) 120 j.toNat (-1)) 120 j.toNat)) (upI (upI (upI M 121 j.toNat 0) 122 j.toNat (-1)) 121 j.toNat (((upI M 121 j.toNat 0) 121 j.toNat) + w)))
        refine hk _ _ ⟨fun a i ha => ?_, fun a i ha => ?_, ?_, ?_, ?_, ?_, fun hg9 => ?_, fun hg9 => ?_⟩
        · (repeat (first | rw [upI_eq rfl rfl] | rw [upI_ne (by omega)]))
        · (repeat (first | rw [upI_eq rfl rfl] | rw [upI_ne (by omega)]))
        · (repeat (first | rw [upI_eq rfl rfl] | rw [upI_ne (by omega)])); (try omega)
        · rw [if_pos (by omega)]; (repeat (first | rw [upI_eq rfl rfl] | rw [upI_ne (by omega)])); (try omega)
        · rw [if_pos (by omega)]; (repeat (first | rw [upI_eq rfl rfl] | rw [upI_ne (by omega)])); (try omega)
        · rw [if_pos (by omega)]; unfold iMax; (repeat (first | rw [upI_eq rfl rfl] | rw [upI_ne (by omega)])); first | (rw [if_pos (by omega)]; done) | (rw [if_neg (by omega)]; done) | omega
        · rw [if_pos (by omega)] at hg9; first | (exfalso; omega) | exact ⟨by (repeat (first | rw [upI_eq rfl rfl] | rw [upI_ne (by omega)])), by (repeat (first | rw [upI_eq rfl rfl] | rw [upI_ne (by omega)]))⟩
        · rw [if_pos (by omega)] at hg9 ⊢; first | (exfalso; omega) | exact ⟨by (repeat (first | rw [upI_eq rfl rfl] | rw [upI_ne (by omega)])); (try omega), by (repeat (first | rw [upI_eq rfl rfl] | rw [upI_ne (by omega)]))⟩
      · refine rch_run cdK153 (by decide) 12 (t' := (26, [some (vR 74), some (vI row), some (vI f), some (vI d), some (vI k), some (vI p), some (vI (r + 1)), some (vI vv), some (vL w), none, some (vI j)], [], MW b (upI (upI (upI (upI (upI J 118 j.toNat (J 83 vv.toNat)) 120 j.toNat (-1)) 74 69 ((J 74 69) + 1)) 120 j.toNat ((upI (upI J 118 j.toNat (J 83 vv.toNat)) 120 j.toNat (-1)) 120 j.toNat)) 119 j.toNat r) (upI (upI (upI (upI M 121 j.toNat 0) 122 j.toNat (-1)) 121 j.toNat (((upI M 121 j.toNat 0) 121 j.toNat) + w)) 122 j.toNat w))) (ps := [0 ≤ j ∧ j < ((10 : Nat) : Int), 0 ≤ j ∧ j < ((10 : Nat) : Int), i32 (r + 1)]) rfl (by (try have hs8 := hs (by omega)); simp only [all_, i32, i64]; first | omega | (simp; done) | (simp; omega)) ?_
        refine rch_forget [7, 8, 10] ?_
        show Rch l E 3 153 _ _ _ _ (26, [some (vR 74), some (vI row), some (vI f), some (vI d), some (vI k), some (vI p), some (vI (r + 1)), none, none, none, none], [], MW b (upI (upI (upI (upI (upI J 118 j.toNat (J 83 vv.toNat)) 120 j.toNat (-1)) 74 69 ((J 74 69) + 1)) 120 j.toNat ((upI (upI J 118 j.toNat (J 83 vv.toNat)) 120 j.toNat (-1)) 120 j.toNat)) 119 j.toNat r) (upI (upI (upI (upI M 121 j.toNat 0) 122 j.toNat (-1)) 121 j.toNat (((upI M 121 j.toNat 0) 121 j.toNat) + w)) 122 j.toNat w))
        refine hk _ _ ⟨fun a i ha => ?_, fun a i ha => ?_, ?_, ?_, ?_, ?_, fun hg9 => ?_, fun hg9 => ?_⟩
        · (repeat (first | rw [upI_eq rfl rfl] | rw [upI_ne (by omega)]))
        · (repeat (first | rw [upI_eq rfl rfl] | rw [upI_ne (by omega)]))
        · (repeat (first | rw [upI_eq rfl rfl] | rw [upI_ne (by omega)])); (try omega)
        · rw [if_pos (by omega)]; (repeat (first | rw [upI_eq rfl rfl] | rw [upI_ne (by omega)])); (try omega)
        · rw [if_pos (by omega)]; (repeat (first | rw [upI_eq rfl rfl] | rw [upI_ne (by omega)])); (try omega)
        · rw [if_pos (by omega)]; unfold iMax; (repeat (first | rw [upI_eq rfl rfl] | rw [upI_ne (by omega)])); first | (rw [if_pos (by omega)]; done) | (rw [if_neg (by omega)]; done) | omega
        · rw [if_pos (by omega)] at hg9; first | (exfalso; omega) | exact ⟨by (repeat (first | rw [upI_eq rfl rfl] | rw [upI_ne (by omega)])), by (repeat (first | rw [upI_eq rfl rfl] | rw [upI_ne (by omega)]))⟩
        · rw [if_pos (by omega)] at hg9 ⊢; first | (exfalso; omega) | exact ⟨by (repeat (first | rw [upI_eq rfl rfl] | rw [upI_ne (by omega)])); (try omega), by (repeat (first | rw [upI_eq rfl rfl] | rw [upI_ne (by omega)]))⟩
    · refine rch_run cdK153 (by decide) 12 (t' := (297, [some (vR 74), some (vI row), some (vI f), some (vI d), some (vI k), some (vI p), some (vI r), some (vI vv), some (vL w), none, some (vI j)], [vI (lCmp w ((upI (upI M 121 j.toNat 0) 122 j.toNat (-1)) 122 j.toNat))], MW b (upI (upI (upI (upI J 118 j.toNat (J 83 vv.toNat)) 120 j.toNat (-1)) 74 69 ((J 74 69) + 1)) 120 j.toNat (J 84 vv.toNat)) (upI (upI (upI M 121 j.toNat 0) 122 j.toNat (-1)) 121 j.toNat (((upI M 121 j.toNat 0) 121 j.toNat) + w)))) (ps := [0 ≤ vv ∧ vv < ((150 : Nat) : Int), 0 ≤ j ∧ j < ((10 : Nat) : Int), 0 ≤ j ∧ j < ((10 : Nat) : Int)]) rfl (by (try have hs8 := hs (by omega)); simp only [all_, i32, i64]; first | omega | (simp; done) | (simp; omega)) ?_
      refine rch_br cdK153 (cd := lCmp w ((upI (upI M 121 j.toNat 0) 122 j.toNat (-1)) 122 j.toNat) ≤ 0) (t1 := (318, [some (vR 74), some (vI row), some (vI f), some (vI d), some (vI k), some (vI p), some (vI r), some (vI vv), some (vL w), none, some (vI j)], [], MW b (upI (upI (upI (upI J 118 j.toNat (J 83 vv.toNat)) 120 j.toNat (-1)) 74 69 ((J 74 69) + 1)) 120 j.toNat (J 84 vv.toNat)) (upI (upI (upI M 121 j.toNat 0) 122 j.toNat (-1)) 121 j.toNat (((upI M 121 j.toNat 0) 121 j.toNat) + w)))) (t2 := (300, [some (vR 74), some (vI row), some (vI f), some (vI d), some (vI k), some (vI p), some (vI r), some (vI vv), some (vL w), none, some (vI j)], [], MW b (upI (upI (upI (upI J 118 j.toNat (J 83 vv.toNat)) 120 j.toNat (-1)) 74 69 ((J 74 69) + 1)) 120 j.toNat (J 84 vv.toNat)) (upI (upI (upI M 121 j.toNat 0) 122 j.toNat (-1)) 121 j.toNat (((upI M 121 j.toNat 0) 121 j.toNat) + w)))) rfl (fun c297_7 => ?_) (fun c297_7 => ?_)
      · refine rch_run cdK153 (by decide) 2 (t' := (26, [some (vR 74), some (vI row), some (vI f), some (vI d), some (vI k), some (vI p), some (vI (r + 1)), some (vI vv), some (vL w), none, some (vI j)], [], MW b (upI (upI (upI (upI J 118 j.toNat (J 83 vv.toNat)) 120 j.toNat (-1)) 74 69 ((J 74 69) + 1)) 120 j.toNat (J 84 vv.toNat)) (upI (upI (upI M 121 j.toNat 0) 122 j.toNat (-1)) 121 j.toNat (((upI M 121 j.toNat 0) 121 j.toNat) + w)))) (ps := [i32 (r + 1)]) rfl (by (try have hs8 := hs (by omega)); simp only [all_, i32, i64]; first | omega | (simp; done) | (simp; omega)) ?_
        refine rch_forget [7, 8, 10] ?_
        show Rch l E 3 153 _ _ _ _ (26, [some (vR 74), some (vI row), some (vI f), some (vI d), some (vI k), some (vI p), some (vI (r + 1)), none, none, none, none], [], MW b (upI (upI (upI (upI J 118 j.toNat (J 83 vv.toNat)) 120 j.toNat (-1)) 74 69 ((J 74 69) + 1)) 120 j.toNat (J 84 vv.toNat)) (upI (upI (upI M 121 j.toNat 0) 122 j.toNat (-1)) 121 j.toNat (((upI M 121 j.toNat 0) 121 j.toNat) + w)))
        refine hk _ _ ⟨fun a i ha => ?_, fun a i ha => ?_, ?_, ?_, ?_, ?_, fun hg9 => ?_, fun hg9 => ?_⟩
        · (repeat (first | rw [upI_eq rfl rfl] | rw [upI_ne (by omega)]))
        · (repeat (first | rw [upI_eq rfl rfl] | rw [upI_ne (by omega)]))
        · (repeat (first | rw [upI_eq rfl rfl] | rw [upI_ne (by omega)])); (try omega)
        · rw [if_pos (by omega)]; (repeat (first | rw [upI_eq rfl rfl] | rw [upI_ne (by omega)])); (try omega)
        · rw [if_pos (by omega)]; (repeat (first | rw [upI_eq rfl rfl] | rw [upI_ne (by omega)])); (try omega)
        · rw [if_pos (by omega)]; unfold iMax; (repeat (first | rw [upI_eq rfl rfl] | rw [upI_ne (by omega)])); first | (rw [if_pos (by omega)]; done) | (rw [if_neg (by omega)]; done) | omega
        · rw [if_pos (by omega)] at hg9; first | (exfalso; omega) | exact ⟨by (repeat (first | rw [upI_eq rfl rfl] | rw [upI_ne (by omega)])), by (repeat (first | rw [upI_eq rfl rfl] | rw [upI_ne (by omega)]))⟩
        · rw [if_pos (by omega)] at hg9 ⊢; first | (exfalso; omega) | exact ⟨by (repeat (first | rw [upI_eq rfl rfl] | rw [upI_ne (by omega)])); (try omega), by (repeat (first | rw [upI_eq rfl rfl] | rw [upI_ne (by omega)]))⟩
      · refine rch_run cdK153 (by decide) 12 (t' := (26, [some (vR 74), some (vI row), some (vI f), some (vI d), some (vI k), some (vI p), some (vI (r + 1)), some (vI vv), some (vL w), none, some (vI j)], [], MW b (upI (upI (upI (upI (upI J 118 j.toNat (J 83 vv.toNat)) 120 j.toNat (-1)) 74 69 ((J 74 69) + 1)) 120 j.toNat (J 84 vv.toNat)) 119 j.toNat r) (upI (upI (upI (upI M 121 j.toNat 0) 122 j.toNat (-1)) 121 j.toNat (((upI M 121 j.toNat 0) 121 j.toNat) + w)) 122 j.toNat w))) (ps := [0 ≤ j ∧ j < ((10 : Nat) : Int), 0 ≤ j ∧ j < ((10 : Nat) : Int), i32 (r + 1)]) rfl (by (try have hs8 := hs (by omega)); simp only [all_, i32, i64]; first | omega | (simp; done) | (simp; omega)) ?_
        refine rch_forget [7, 8, 10] ?_
        show Rch l E 3 153 _ _ _ _ (26, [some (vR 74), some (vI row), some (vI f), some (vI d), some (vI k), some (vI p), some (vI (r + 1)), none, none, none, none], [], MW b (upI (upI (upI (upI (upI J 118 j.toNat (J 83 vv.toNat)) 120 j.toNat (-1)) 74 69 ((J 74 69) + 1)) 120 j.toNat (J 84 vv.toNat)) 119 j.toNat r) (upI (upI (upI (upI M 121 j.toNat 0) 122 j.toNat (-1)) 121 j.toNat (((upI M 121 j.toNat 0) 121 j.toNat) + w)) 122 j.toNat w))
        refine hk _ _ ⟨fun a i ha => ?_, fun a i ha => ?_, ?_, ?_, ?_, ?_, fun hg9 => ?_, fun hg9 => ?_⟩
        · (repeat (first | rw [upI_eq rfl rfl] | rw [upI_ne (by omega)]))
        · (repeat (first | rw [upI_eq rfl rfl] | rw [upI_ne (by omega)]))
        · (repeat (first | rw [upI_eq rfl rfl] | rw [upI_ne (by omega)])); (try omega)
        · rw [if_pos (by omega)]; (repeat (first | rw [upI_eq rfl rfl] | rw [upI_ne (by omega)])); (try omega)
        · rw [if_pos (by omega)]; (repeat (first | rw [upI_eq rfl rfl] | rw [upI_ne (by omega)])); (try omega)
        · rw [if_pos (by omega)]; unfold iMax; (repeat (first | rw [upI_eq rfl rfl] | rw [upI_ne (by omega)])); first | (rw [if_pos (by omega)]; done) | (rw [if_neg (by omega)]; done) | omega
        · rw [if_pos (by omega)] at hg9; first | (exfalso; omega) | exact ⟨by (repeat (first | rw [upI_eq rfl rfl] | rw [upI_ne (by omega)])), by (repeat (first | rw [upI_eq rfl rfl] | rw [upI_ne (by omega)]))⟩
        · rw [if_pos (by omega)] at hg9 ⊢; first | (exfalso; omega) | exact ⟨by (repeat (first | rw [upI_eq rfl rfl] | rw [upI_ne (by omega)])); (try omega), by (repeat (first | rw [upI_eq rfl rfl] | rw [upI_ne (by omega)]))⟩

set_option maxHeartbeats 20000000 in
set_option maxRecDepth 100000 in
theorem gd_find (l : Launch) (E : AX) (b : Bool) (I0 L0 J M : Nat → Nat → Int) (row f d k p : Int) (r vv w : Int) (Φ : Option AV → AW → Prop) (hg : J 74 69 ≤ 10) (hv : 0 ≤ vv ∧ vv < 150) (hk : ∀ j : Int, 0 ≤ j → j ≤ J 74 69 → (∀ i : Nat, (i : Int) < j → J 118 i ≠ J 83 vv.toNat) → (j < J 74 69 → J 118 j.toNat = J 83 vv.toNat) → Rch l E 3 153 (MW b I0 L0) 0 0 Φ (175, [some (vR 74), some (vI row), some (vI f), some (vI d), some (vI k), some (vI p), some (vI r), some (vI vv), some (vL w), none, some (vI j)], [], MW b J M)) : ∀ (n9 : Nat) (j : Int), 0 ≤ j → j ≤ J 74 69 → (∀ i : Nat, (i : Int) < j → J 118 i ≠ J 83 vv.toNat) → J 74 69 - j < (n9 : Int) → Rch l E 3 153 (MW b I0 L0) 0 0 (Φ) (143, [some (vR 74), some (vI row), some (vI f), some (vI d), some (vI k), some (vI p), some (vI r), some (vI vv), some (vL w), none, some (vI j)], [], MW b J M) := by
  intro n9
  induction n9 with
  | zero =>
    intro j  h1 h2 h3 hm
    exfalso; omega
  | succ n9 ih =>
    intro j  h1 h2 h3 hm
    refine rch_run cdK153 (by decide) 3 (t' := (149, [some (vR 74), some (vI row), some (vI f), some (vI d), some (vI k), some (vI p), some (vI r), some (vI vv), some (vL w), none, some (vI j)], [vI (J 74 69), vI j], MW b J M)) (ps := []) rfl trivial ?_
    refine rch_br cdK153 (cd := J 74 69 ≤ j) (t1 := (175, [some (vR 74), some (vI row), some (vI f), some (vI d), some (vI k), some (vI p), some (vI r), some (vI vv), some (vL w), none, some (vI j)], [], MW b J M)) (t2 := (152, [some (vR 74), some (vI row), some (vI f), some (vI d), some (vI k), some (vI p), some (vI r), some (vI vv), some (vL w), none, some (vI j)], [], MW b J M)) rfl (fun c149_1 => ?_) (fun c149_1 => ?_)
    · exact hk j (by omega) (by omega) h3 (fun _ => by omega)
    · refine rch_run cdK153 (by decide) 8 (t' := (166, [some (vR 74), some (vI row), some (vI f), some (vI d), some (vI k), some (vI p), some (vI r), some (vI vv), some (vL w), none, some (vI j)], [vI (J 83 vv.toNat), vI (J 118 j.toNat)], MW b J M)) (ps := [0 ≤ j ∧ j < ((10 : Nat) : Int), 0 ≤ vv ∧ vv < ((150 : Nat) : Int)]) rfl (by simp only [all_, i32, i64]; first | omega | (simp; done) | (simp; omega)) ?_
      refine rch_br cdK153 (cd := J 118 j.toNat = J 83 vv.toNat) (t1 := (175, [some (vR 74), some (vI row), some (vI f), some (vI d), some (vI k), some (vI p), some (vI r), some (vI vv), some (vL w), none, some (vI j)], [], MW b J M)) (t2 := (169, [some (vR 74), some (vI row), some (vI f), some (vI d), some (vI k), some (vI p), some (vI r), some (vI vv), some (vL w), none, some (vI j)], [], MW b J M)) rfl (fun c166_2 => ?_) (fun c166_2 => ?_)
      · exact hk j (by omega) (by omega) h3 (fun _ => by omega)
      · refine rch_run cdK153 (by decide) 2 (t' := (143, [some (vR 74), some (vI row), some (vI f), some (vI d), some (vI k), some (vI p), some (vI r), some (vI vv), some (vL w), none, some (vI (j + 1))], [], MW b J M)) (ps := [i32 (j + 1)]) rfl (by simp only [all_, i32, i64]; first | omega | (simp; done) | (simp; omega)) ?_
        refine ih (j + 1) (by omega) (by omega) (fun z hz => ?_) (by omega)
        by_cases e : z = j.toNat
        · rw [e]; omega
        · exact h3 z (by omega)

set_option maxHeartbeats 20000000 in
set_option maxRecDepth 100000 in
theorem gd_best (l : Launch) (E : AX) (b : Bool) (I0 L0 J M : Nat → Nat → Int) (row f d k p : Int) (S T : Int → Int) (ls : List Int) (Φ : Option AV → AW → Prop) (h69 : J 74 69 = (ls.length : Int)) (h10 : ls.length ≤ 10) (hG : ∀ i : Nat, i < ls.length → M 121 i = S (J 118 i) ∧ J 120 i = T (J 118 i) ∧ J 118 i = ls.getD i 0) (hpos : ∀ i : Nat, i < ls.length → J 118 i ≠ -1) (hk : ∀ be : Int, BLp J S T ls ls.length be → Rch l E 3 153 (MW b I0 L0) 0 0 Φ (453, [some (vR 74), some (vI row), some (vI f), some (vI d), some (vI k), some (vI p), some (vI be), none, none, none, none], [], MW b J M)) : ∀ (n9 : Nat) (j be : Int), 0 ≤ j → j ≤ (ls.length : Int) → BLp J S T ls j.toNat be → (ls.length : Int) - j < (n9 : Int) → Rch l E 3 153 (MW b I0 L0) 0 0 (Φ) (330, [some (vR 74), some (vI row), some (vI f), some (vI d), some (vI k), some (vI p), some (vI be), some (vI j), none, none, none], [], MW b J M) := by
  intro n9
  induction n9 with
  | zero =>
    intro j be  h1 h2 h3 hm
    exfalso; omega
  | succ n9 ih =>
    intro j be  h1 h2 h3 hm
    have hS9 : j < (ls.length : Int) → M 121 j.toNat = S (J 118 j.toNat) ∧ J 120 j.toNat = T (J 118 j.toNat) ∧ J 118 j.toNat = ls.getD j.toNat 0 := fun z => hG j.toNat (by omega)
    have hb9 : (be = -1 ∧ j = 0) ∨ (0 ≤ be ∧ be < j) := by rcases h3.2 with ⟨a1, a2⟩ | ⟨a1, a2, _⟩; (left; omega); (right; omega)
    have hB9 : 0 ≤ be → M 121 be.toNat = S (J 118 be.toNat) ∧ J 120 be.toNat = T (J 118 be.toNat) := fun z => by have := hG be.toNat (by omega); exact ⟨this.1, this.2.1⟩
    have hz9 := lCmp_sg (M 121 j.toNat) (M 121 be.toNat)
    have hj9 : (j + 1).toNat = j.toNat + 1 := by omega
    refine rch_run cdK153 (by decide) 3 (t' := (336, [some (vR 74), some (vI row), some (vI f), some (vI d), some (vI k), some (vI p), some (vI be), some (vI j), none, none, none], [vI (J 74 69), vI j], MW b J M)) (ps := []) rfl trivial ?_
    refine rch_br cdK153 (cd := J 74 69 ≤ j) (t1 := (453, [some (vR 74), some (vI row), some (vI f), some (vI d), some (vI k), some (vI p), some (vI be), some (vI j), none, none, none], [], MW b J M)) (t2 := (339, [some (vR 74), some (vI row), some (vI f), some (vI d), some (vI k), some (vI p), some (vI be), some (vI j), none, none, none], [], MW b J M)) rfl (fun c336_1 => ?_) (fun c336_1 => ?_)
    · refine rch_forget [7, 8] ?_
      show Rch l E 3 153 _ _ _ _ (453, [some (vR 74), some (vI row), some (vI f), some (vI d), some (vI k), some (vI p), some (vI be), none, none, none, none], [], MW b J M)
      exact hk be (by rw [show ls.length = j.toNat by omega]; exact h3)
    · refine rch_run cdK153 (by decide) 1 (t' := (341, [some (vR 74), some (vI row), some (vI f), some (vI d), some (vI k), some (vI p), some (vI be), some (vI j), none, none, none], [vI be], MW b J M)) (ps := []) rfl trivial ?_
      refine rch_br cdK153 (cd := be < 0) (t1 := (431, [some (vR 74), some (vI row), some (vI f), some (vI d), some (vI k), some (vI p), some (vI be), some (vI j), none, none, none], [], MW b J M)) (t2 := (344, [some (vR 74), some (vI row), some (vI f), some (vI d), some (vI k), some (vI p), some (vI be), some (vI j), none, none, none], [], MW b J M)) rfl (fun c341_2 => ?_) (fun c341_2 => ?_)
      · refine rch_run cdK153 (by decide) 4 (t' := (440, [some (vR 74), some (vI row), some (vI f), some (vI d), some (vI k), some (vI p), some (vI be), some (vI j), some (vI 1), none, none], [vI 1], MW b J M)) (ps := []) rfl trivial ?_
        refine rch_br cdK153 (cd := (1 : Int) = 0) (t1 := (447, [some (vR 74), some (vI row), some (vI f), some (vI d), some (vI k), some (vI p), some (vI be), some (vI j), some (vI 1), none, none], [], MW b J M)) (t2 := (443, [some (vR 74), some (vI row), some (vI f), some (vI d), some (vI k), some (vI p), some (vI be), some (vI j), some (vI 1), none, none], [], MW b J M)) rfl (fun c9 => absurd c9 (by decide)) (fun _ => ?_)
        refine rch_run cdK153 (by decide) 4 (t' := (330, [some (vR 74), some (vI row), some (vI f), some (vI d), some (vI k), some (vI p), some (vI j), some (vI (j + 1)), some (vI 1), none, none], [], MW b J M)) (ps := [i32 (j + 1)]) rfl (by simp only [all_, i32, i64]; first | omega | (simp; done) | (simp; omega)) ?_
        refine rch_forget [8] ?_
        show Rch l E 3 153 _ _ _ _ (330, [some (vR 74), some (vI row), some (vI f), some (vI d), some (vI k), some (vI p), some (vI j), some (vI (j + 1)), none, none, none], [], MW b J M)
        have hS8 := hS9 (by omega)
        refine ih (j + 1) j (by omega) (by omega) ?_ (by omega)
        rw [hj9]
        refine BL_s h3 (by omega) hS8.2.2 (fun i hi => hpos i hi) ?_
        refine Or.inl ⟨by omega, ?_⟩
        by_cases hbz : 0 ≤ be
        · have hB8 := hB9 hbz; omega
        · omega
      · refine rch_run cdK153 (by decide) 9 (t' := (359, [some (vR 74), some (vI row), some (vI f), some (vI d), some (vI k), some (vI p), some (vI be), some (vI j), none, none, none], [vI (lCmp (M 121 j.toNat) (M 121 be.toNat))], MW b J M)) (ps := [0 ≤ j ∧ j < ((10 : Nat) : Int), 0 ≤ be ∧ be < ((10 : Nat) : Int)]) rfl (by simp only [all_, i32, i64]; first | omega | (simp; done) | (simp; omega)) ?_
        refine rch_br cdK153 (cd := 0 < lCmp (M 121 j.toNat) (M 121 be.toNat)) (t1 := (431, [some (vR 74), some (vI row), some (vI f), some (vI d), some (vI k), some (vI p), some (vI be), some (vI j), none, none, none], [], MW b J M)) (t2 := (362, [some (vR 74), some (vI row), some (vI f), some (vI d), some (vI k), some (vI p), some (vI be), some (vI j), none, none, none], [], MW b J M)) rfl (fun c359_4 => ?_) (fun c359_4 => ?_)
        · refine rch_run cdK153 (by decide) 4 (t' := (440, [some (vR 74), some (vI row), some (vI f), some (vI d), some (vI k), some (vI p), some (vI be), some (vI j), some (vI 1), none, none], [vI 1], MW b J M)) (ps := []) rfl trivial ?_
          refine rch_br cdK153 (cd := (1 : Int) = 0) (t1 := (447, [some (vR 74), some (vI row), some (vI f), some (vI d), some (vI k), some (vI p), some (vI be), some (vI j), some (vI 1), none, none], [], MW b J M)) (t2 := (443, [some (vR 74), some (vI row), some (vI f), some (vI d), some (vI k), some (vI p), some (vI be), some (vI j), some (vI 1), none, none], [], MW b J M)) rfl (fun c9 => absurd c9 (by decide)) (fun _ => ?_)
          refine rch_run cdK153 (by decide) 4 (t' := (330, [some (vR 74), some (vI row), some (vI f), some (vI d), some (vI k), some (vI p), some (vI j), some (vI (j + 1)), some (vI 1), none, none], [], MW b J M)) (ps := [i32 (j + 1)]) rfl (by simp only [all_, i32, i64]; first | omega | (simp; done) | (simp; omega)) ?_
          refine rch_forget [8] ?_
          show Rch l E 3 153 _ _ _ _ (330, [some (vR 74), some (vI row), some (vI f), some (vI d), some (vI k), some (vI p), some (vI j), some (vI (j + 1)), none, none, none], [], MW b J M)
          have hS8 := hS9 (by omega)
          refine ih (j + 1) j (by omega) (by omega) ?_ (by omega)
          rw [hj9]
          refine BL_s h3 (by omega) hS8.2.2 (fun i hi => hpos i hi) ?_
          refine Or.inl ⟨by omega, ?_⟩
          by_cases hbz : 0 ≤ be
          · have hB8 := hB9 hbz; omega
          · omega
        · refine rch_run cdK153 (by decide) 9 (t' := (377, [some (vR 74), some (vI row), some (vI f), some (vI d), some (vI k), some (vI p), some (vI be), some (vI j), none, none, none], [vI (lCmp (M 121 j.toNat) (M 121 be.toNat))], MW b J M)) (ps := [0 ≤ j ∧ j < ((10 : Nat) : Int), 0 ≤ be ∧ be < ((10 : Nat) : Int)]) rfl (by simp only [all_, i32, i64]; first | omega | (simp; done) | (simp; omega)) ?_
          refine rch_br cdK153 (cd := lCmp (M 121 j.toNat) (M 121 be.toNat) ≠ 0) (t1 := (435, [some (vR 74), some (vI row), some (vI f), some (vI d), some (vI k), some (vI p), some (vI be), some (vI j), none, none, none], [], MW b J M)) (t2 := (380, [some (vR 74), some (vI row), some (vI f), some (vI d), some (vI k), some (vI p), some (vI be), some (vI j), none, none, none], [], MW b J M)) rfl (fun c377_6 => ?_) (fun c377_6 => ?_)
          · refine rch_run cdK153 (by decide) 3 (t' := (440, [some (vR 74), some (vI row), some (vI f), some (vI d), some (vI k), some (vI p), some (vI be), some (vI j), some (vI 0), none, none], [vI 0], MW b J M)) (ps := []) rfl trivial ?_
            refine rch_br cdK153 (cd := (0 : Int) = 0) (t1 := (447, [some (vR 74), some (vI row), some (vI f), some (vI d), some (vI k), some (vI p), some (vI be), some (vI j), some (vI 0), none, none], [], MW b J M)) (t2 := (443, [some (vR 74), some (vI row), some (vI f), some (vI d), some (vI k), some (vI p), some (vI be), some (vI j), some (vI 0), none, none], [], MW b J M)) rfl (fun _ => ?_) (fun c9 => absurd (by decide) c9)
            refine rch_run cdK153 (by decide) 2 (t' := (330, [some (vR 74), some (vI row), some (vI f), some (vI d), some (vI k), some (vI p), some (vI be), some (vI (j + 1)), some (vI 0), none, none], [], MW b J M)) (ps := [i32 (j + 1)]) rfl (by simp only [all_, i32, i64]; first | omega | (simp; done) | (simp; omega)) ?_
            refine rch_forget [8] ?_
            show Rch l E 3 153 _ _ _ _ (330, [some (vR 74), some (vI row), some (vI f), some (vI d), some (vI k), some (vI p), some (vI be), some (vI (j + 1)), none, none, none], [], MW b J M)
            have hS8 := hS9 (by omega)
            refine ih (j + 1) be (by omega) (by omega) ?_ (by omega)
            rw [hj9]
            refine BL_s h3 (by omega) hS8.2.2 (fun i hi => hpos i hi) ?_
            refine Or.inr ⟨rfl, ?_⟩
            by_cases hbz : 0 ≤ be
            · have hB8 := hB9 hbz; omega
            · omega
          · refine rch_run cdK153 (by decide) 8 (t' := (394, [some (vR 74), some (vI row), some (vI f), some (vI d), some (vI k), some (vI p), some (vI be), some (vI j), none, none, none], [vI (J 120 be.toNat), vI (J 120 j.toNat)], MW b J M)) (ps := [0 ≤ j ∧ j < ((10 : Nat) : Int), 0 ≤ be ∧ be < ((10 : Nat) : Int)]) rfl (by simp only [all_, i32, i64]; first | omega | (simp; done) | (simp; omega)) ?_
            refine rch_br cdK153 (cd := J 120 be.toNat < J 120 j.toNat) (t1 := (431, [some (vR 74), some (vI row), some (vI f), some (vI d), some (vI k), some (vI p), some (vI be), some (vI j), none, none, none], [], MW b J M)) (t2 := (397, [some (vR 74), some (vI row), some (vI f), some (vI d), some (vI k), some (vI p), some (vI be), some (vI j), none, none, none], [], MW b J M)) rfl (fun c394_8 => ?_) (fun c394_8 => ?_)
            · refine rch_run cdK153 (by decide) 4 (t' := (440, [some (vR 74), some (vI row), some (vI f), some (vI d), some (vI k), some (vI p), some (vI be), some (vI j), some (vI 1), none, none], [vI 1], MW b J M)) (ps := []) rfl trivial ?_
              refine rch_br cdK153 (cd := (1 : Int) = 0) (t1 := (447, [some (vR 74), some (vI row), some (vI f), some (vI d), some (vI k), some (vI p), some (vI be), some (vI j), some (vI 1), none, none], [], MW b J M)) (t2 := (443, [some (vR 74), some (vI row), some (vI f), some (vI d), some (vI k), some (vI p), some (vI be), some (vI j), some (vI 1), none, none], [], MW b J M)) rfl (fun c9 => absurd c9 (by decide)) (fun _ => ?_)
              refine rch_run cdK153 (by decide) 4 (t' := (330, [some (vR 74), some (vI row), some (vI f), some (vI d), some (vI k), some (vI p), some (vI j), some (vI (j + 1)), some (vI 1), none, none], [], MW b J M)) (ps := [i32 (j + 1)]) rfl (by simp only [all_, i32, i64]; first | omega | (simp; done) | (simp; omega)) ?_
              refine rch_forget [8] ?_
              show Rch l E 3 153 _ _ _ _ (330, [some (vR 74), some (vI row), some (vI f), some (vI d), some (vI k), some (vI p), some (vI j), some (vI (j + 1)), none, none, none], [], MW b J M)
              have hS8 := hS9 (by omega)
              refine ih (j + 1) j (by omega) (by omega) ?_ (by omega)
              rw [hj9]
              refine BL_s h3 (by omega) hS8.2.2 (fun i hi => hpos i hi) ?_
              refine Or.inl ⟨by omega, ?_⟩
              by_cases hbz : 0 ≤ be
              · have hB8 := hB9 hbz; omega
              · omega
            · refine rch_run cdK153 (by decide) 8 (t' := (411, [some (vR 74), some (vI row), some (vI f), some (vI d), some (vI k), some (vI p), some (vI be), some (vI j), none, none, none], [vI (J 120 be.toNat), vI (J 120 j.toNat)], MW b J M)) (ps := [0 ≤ j ∧ j < ((10 : Nat) : Int), 0 ≤ be ∧ be < ((10 : Nat) : Int)]) rfl (by simp only [all_, i32, i64]; first | omega | (simp; done) | (simp; omega)) ?_
              refine rch_br cdK153 (cd := J 120 j.toNat ≠ J 120 be.toNat) (t1 := (435, [some (vR 74), some (vI row), some (vI f), some (vI d), some (vI k), some (vI p), some (vI be), some (vI j), none, none, none], [], MW b J M)) (t2 := (414, [some (vR 74), some (vI row), some (vI f), some (vI d), some (vI k), some (vI p), some (vI be), some (vI j), none, none, none], [], MW b J M)) rfl (fun c411_10 => ?_) (fun c411_10 => ?_)
              · refine rch_run cdK153 (by decide) 3 (t' := (440, [some (vR 74), some (vI row), some (vI f), some (vI d), some (vI k), some (vI p), some (vI be), some (vI j), some (vI 0), none, none], [vI 0], MW b J M)) (ps := []) rfl trivial ?_
                refine rch_br cdK153 (cd := (0 : Int) = 0) (t1 := (447, [some (vR 74), some (vI row), some (vI f), some (vI d), some (vI k), some (vI p), some (vI be), some (vI j), some (vI 0), none, none], [], MW b J M)) (t2 := (443, [some (vR 74), some (vI row), some (vI f), some (vI d), some (vI k), some (vI p), some (vI be), some (vI j), some (vI 0), none, none], [], MW b J M)) rfl (fun _ => ?_) (fun c9 => absurd (by decide) c9)
                refine rch_run cdK153 (by decide) 2 (t' := (330, [some (vR 74), some (vI row), some (vI f), some (vI d), some (vI k), some (vI p), some (vI be), some (vI (j + 1)), some (vI 0), none, none], [], MW b J M)) (ps := [i32 (j + 1)]) rfl (by simp only [all_, i32, i64]; first | omega | (simp; done) | (simp; omega)) ?_
                refine rch_forget [8] ?_
                show Rch l E 3 153 _ _ _ _ (330, [some (vR 74), some (vI row), some (vI f), some (vI d), some (vI k), some (vI p), some (vI be), some (vI (j + 1)), none, none, none], [], MW b J M)
                have hS8 := hS9 (by omega)
                refine ih (j + 1) be (by omega) (by omega) ?_ (by omega)
                rw [hj9]
                refine BL_s h3 (by omega) hS8.2.2 (fun i hi => hpos i hi) ?_
                refine Or.inr ⟨rfl, ?_⟩
                by_cases hbz : 0 ≤ be
                · have hB8 := hB9 hbz; omega
                · omega
              · refine rch_run cdK153 (by decide) 8 (t' := (428, [some (vR 74), some (vI row), some (vI f), some (vI d), some (vI k), some (vI p), some (vI be), some (vI j), none, none, none], [vI (J 118 be.toNat), vI (J 118 j.toNat)], MW b J M)) (ps := [0 ≤ j ∧ j < ((10 : Nat) : Int), 0 ≤ be ∧ be < ((10 : Nat) : Int)]) rfl (by simp only [all_, i32, i64]; first | omega | (simp; done) | (simp; omega)) ?_
                refine rch_br cdK153 (cd := J 118 be.toNat ≤ J 118 j.toNat) (t1 := (435, [some (vR 74), some (vI row), some (vI f), some (vI d), some (vI k), some (vI p), some (vI be), some (vI j), none, none, none], [], MW b J M)) (t2 := (431, [some (vR 74), some (vI row), some (vI f), some (vI d), some (vI k), some (vI p), some (vI be), some (vI j), none, none, none], [], MW b J M)) rfl (fun c428_12 => ?_) (fun c428_12 => ?_)
                · refine rch_run cdK153 (by decide) 3 (t' := (440, [some (vR 74), some (vI row), some (vI f), some (vI d), some (vI k), some (vI p), some (vI be), some (vI j), some (vI 0), none, none], [vI 0], MW b J M)) (ps := []) rfl trivial ?_
                  refine rch_br cdK153 (cd := (0 : Int) = 0) (t1 := (447, [some (vR 74), some (vI row), some (vI f), some (vI d), some (vI k), some (vI p), some (vI be), some (vI j), some (vI 0), none, none], [], MW b J M)) (t2 := (443, [some (vR 74), some (vI row), some (vI f), some (vI d), some (vI k), some (vI p), some (vI be), some (vI j), some (vI 0), none, none], [], MW b J M)) rfl (fun _ => ?_) (fun c9 => absurd (by decide) c9)
                  refine rch_run cdK153 (by decide) 2 (t' := (330, [some (vR 74), some (vI row), some (vI f), some (vI d), some (vI k), some (vI p), some (vI be), some (vI (j + 1)), some (vI 0), none, none], [], MW b J M)) (ps := [i32 (j + 1)]) rfl (by simp only [all_, i32, i64]; first | omega | (simp; done) | (simp; omega)) ?_
                  refine rch_forget [8] ?_
                  show Rch l E 3 153 _ _ _ _ (330, [some (vR 74), some (vI row), some (vI f), some (vI d), some (vI k), some (vI p), some (vI be), some (vI (j + 1)), none, none, none], [], MW b J M)
                  have hS8 := hS9 (by omega)
                  refine ih (j + 1) be (by omega) (by omega) ?_ (by omega)
                  rw [hj9]
                  refine BL_s h3 (by omega) hS8.2.2 (fun i hi => hpos i hi) ?_
                  refine Or.inr ⟨rfl, ?_⟩
                  by_cases hbz : 0 ≤ be
                  · have hB8 := hB9 hbz; omega
                  · omega
                · refine rch_run cdK153 (by decide) 4 (t' := (440, [some (vR 74), some (vI row), some (vI f), some (vI d), some (vI k), some (vI p), some (vI be), some (vI j), some (vI 1), none, none], [vI 1], MW b J M)) (ps := []) rfl trivial ?_
                  refine rch_br cdK153 (cd := (1 : Int) = 0) (t1 := (447, [some (vR 74), some (vI row), some (vI f), some (vI d), some (vI k), some (vI p), some (vI be), some (vI j), some (vI 1), none, none], [], MW b J M)) (t2 := (443, [some (vR 74), some (vI row), some (vI f), some (vI d), some (vI k), some (vI p), some (vI be), some (vI j), some (vI 1), none, none], [], MW b J M)) rfl (fun c9 => absurd c9 (by decide)) (fun _ => ?_)
                  refine rch_run cdK153 (by decide) 4 (t' := (330, [some (vR 74), some (vI row), some (vI f), some (vI d), some (vI k), some (vI p), some (vI j), some (vI (j + 1)), some (vI 1), none, none], [], MW b J M)) (ps := [i32 (j + 1)]) rfl (by simp only [all_, i32, i64]; first | omega | (simp; done) | (simp; omega)) ?_
                  refine rch_forget [8] ?_
                  show Rch l E 3 153 _ _ _ _ (330, [some (vR 74), some (vI row), some (vI f), some (vI d), some (vI k), some (vI p), some (vI j), some (vI (j + 1)), none, none, none], [], MW b J M)
                  have hS8 := hS9 (by omega)
                  refine ih (j + 1) j (by omega) (by omega) ?_ (by omega)
                  rw [hj9]
                  refine BL_s h3 (by omega) hS8.2.2 (fun i hi => hpos i hi) ?_
                  refine Or.inl ⟨by omega, ?_⟩
                  by_cases hbz : 0 ≤ be
                  · have hB8 := hB9 hbz; omega
                  · omega

set_option maxHeartbeats 20000000 in
set_option maxRecDepth 100000 in
theorem gd_fix (l : Launch) (E : AX) (b : Bool) (I0 L0 I J M : Nat → Nat → Int) (row f d k p be V F : Int) (Φ : Option AV → AW → Prop) (hF : FRg I J) (hn : (0 ≤ I 74 44 ∧ I 74 44 ≤ 20) ∧ 0 ≤ I 74 4 ∧ I 74 4 ≤ 10) (hfx : ∀ m : Nat, (m : Int) < I 74 44 → 0 ≤ I 105 m ∧ I 105 m < 10) (hend : ∀ J2, (∀ a j, ¬ (a = 74 ∧ (j = 67 ∨ j = 68)) → J2 a j = J a j) → Fxd I J2 p f k V F (I 74 44).toNat → Φ none (MW b J2 M)) : ∀ (n9 : Nat) (m : Int) (J2 : Nat → Nat → Int), 0 ≤ m → m ≤ I 74 44 → (∀ a j, ¬ (a = 74 ∧ (j = 67 ∨ j = 68)) → J2 a j = J a j) → Fxd I J2 p f k V F m.toNat → I 74 44 - m < (n9 : Int) → Rch l E 3 153 (MW b I0 L0) 0 0 (Φ) (483, [some (vR 74), some (vI row), some (vI f), some (vI d), some (vI k), some (vI p), some (vI be), some (vI m), none, none, none], [], MW b J2 M) := by
  intro n9
  induction n9 with
  | zero =>
    intro m J2 h1 h2 h3 h4 hm
    exfalso; omega
  | succ n9 ih =>
    intro m J2 h1 h2 h3 h4 hm
    have q : ∀ a j, ¬ ((a = 74 ∧ (j = 67 ∨ j = 68 ∨ j = 69)) ∨ (118 ≤ a ∧ a ≤ 120)) → J2 a j = I a j := fun a j ha => by rw [h3 a j (by omega)]; exact hF a j ha
    have q44 := q 74 44 (by omega)
    have q4 := q 74 4 (by omega)
    have q105 := q 105 m.toNat (by omega)
    have q106 := q 106 m.toNat (by omega)
    have q107 := q 107 m.toNat (by omega)
    have q108 := q 108 m.toNat (by omega)
    have q109 := q 109 m.toNat (by omega)
    have q80 := q 80 (I 105 m.toNat).toNat (by omega)
    have q111 := q 111 (I 105 m.toNat).toNat (by omega)
    have hx9 : m < I 74 44 → _ := fun z => hfx m.toNat (by omega)
    have e80 : J2 80 (J2 105 m.toNat).toNat = I 80 (I 105 m.toNat).toNat := by rw [q105]; exact q80
    have e111 : J2 111 (J2 105 m.toNat).toNat = I 111 (I 105 m.toNat).toNat := by rw [q105]; exact q111
    have hm9 : (m + 1).toNat = m.toNat + 1 := by omega
    refine rch_run cdK153 (by decide) 3 (t' := (489, [some (vR 74), some (vI row), some (vI f), some (vI d), some (vI k), some (vI p), some (vI be), some (vI m), none, none, none], [vI (J2 74 44), vI m], MW b J2 M)) (ps := []) rfl trivial ?_
    refine rch_br cdK153 (cd := J2 74 44 ≤ m) (t1 := (582, [some (vR 74), some (vI row), some (vI f), some (vI d), some (vI k), some (vI p), some (vI be), some (vI m), none, none, none], [], MW b J2 M)) (t2 := (492, [some (vR 74), some (vI row), some (vI f), some (vI d), some (vI k), some (vI p), some (vI be), some (vI m), none, none, none], [], MW b J2 M)) rfl (fun c489_1 => ?_) (fun c489_1 => ?_)
    · refine rch_ret cdK153 (rt := none) rfl trivial mw_c ?_
      exact hend J2 h3 (by rw [show (I 74 44).toNat = m.toNat by omega]; exact h4)
    · refine rch_run cdK153 (by decide) 5 (t' := (500, [some (vR 74), some (vI row), some (vI f), some (vI d), some (vI k), some (vI p), some (vI be), some (vI m), none, none, none], [vI (J2 105 m.toNat), vR 74], MW b J2 M)) (ps := [0 ≤ m ∧ m < ((20 : Nat) : Int)]) rfl (by (try have hx8 := hx9 (by omega)); simp only [all_, i32, i64]; first | omega | (simp; done) | (simp; omega)) ?_
      refine rch_call (h' := 1) (k' := 109) (as := [vR 74, vI (J2 105 m.toNat)]) (t1 := (503, [some (vR 74), some (vI row), some (vI f), some (vI d), some (vI k), some (vI p), some (vI be), some (vI m), none, none, none], [], MW b J2 M)) cdK153 rfl (k_X12_isRow l E b J2 M (J2 105 m.toNat) (by show J2 74 4 ≤ 10; omega)) (by decide) mw_le ?_
      rintro rt9 w9 (⟨k68, rfl, rfl⟩ | ⟨k68, rfl, rfl⟩) _ _
      · show Rch l E 3 153 _ _ _ _ (503, [some (vR 74), some (vI row), some (vI f), some (vI d), some (vI k), some (vI p), some (vI be), some (vI m), none, none, none], [vI 1], MW b J2 M)
        have k68 : 0 ≤ J2 105 m.toNat ∧ J2 105 m.toNat < J2 74 4 ∧ J2 80 (J2 105 m.toNat).toNat = 0 := k68
        refine rch_br cdK153 (cd := (1 : Int) = 0) (t1 := (576, [some (vR 74), some (vI row), some (vI f), some (vI d), some (vI k), some (vI p), some (vI be), some (vI m), none, none, none], [], MW b J2 M)) (t2 := (506, [some (vR 74), some (vI row), some (vI f), some (vI d), some (vI k), some (vI p), some (vI be), some (vI m), none, none, none], [], MW b J2 M)) rfl (fun c9 => absurd c9 (by decide)) (fun _ => ?_)
        refine rch_run cdK153 (by decide) 8 (t' := (520, [some (vR 74), some (vI row), some (vI f), some (vI d), some (vI k), some (vI p), some (vI be), some (vI m), none, none, none], [vI p, vI (J2 111 (J2 105 m.toNat).toNat)], MW b J2 M)) (ps := [0 ≤ m ∧ m < ((20 : Nat) : Int), 0 ≤ J2 105 m.toNat ∧ J2 105 m.toNat < ((10 : Nat) : Int)]) rfl (by (try have hx8 := hx9 (by omega)); simp only [all_, i32, i64]; first | omega | (simp; done) | (simp; omega)) ?_
        refine rch_br cdK153 (cd := J2 111 (J2 105 m.toNat).toNat ≠ p) (t1 := (576, [some (vR 74), some (vI row), some (vI f), some (vI d), some (vI k), some (vI p), some (vI be), some (vI m), none, none, none], [], MW b J2 M)) (t2 := (523, [some (vR 74), some (vI row), some (vI f), some (vI d), some (vI k), some (vI p), some (vI be), some (vI m), none, none, none], [], MW b J2 M)) rfl (fun c520_3 => ?_) (fun c520_3 => ?_)
        · refine rch_run cdK153 (by decide) 2 (t' := (483, [some (vR 74), some (vI row), some (vI f), some (vI d), some (vI k), some (vI p), some (vI be), some (vI (m + 1)), none, none, none], [], MW b J2 M)) (ps := [i32 (m + 1)]) rfl (by (try have hx8 := hx9 (by omega)); simp only [all_, i32, i64]; first | omega | (simp; done) | (simp; omega)) ?_
          exact ih (m + 1) J2 (by omega) (by omega) h3 (by rw [hm9]; exact Fx_no h4 (decide_eq_false (by omega))) (by omega)
        · refine rch_run cdK153 (by decide) 5 (t' := (531, [some (vR 74), some (vI row), some (vI f), some (vI d), some (vI k), some (vI p), some (vI be), some (vI m), none, none, none], [vI f, vI (J2 106 m.toNat)], MW b J2 M)) (ps := [0 ≤ m ∧ m < ((20 : Nat) : Int)]) rfl (by (try have hx8 := hx9 (by omega)); simp only [all_, i32, i64]; first | omega | (simp; done) | (simp; omega)) ?_
          refine rch_br cdK153 (cd := J2 106 m.toNat ≠ f) (t1 := (576, [some (vR 74), some (vI row), some (vI f), some (vI d), some (vI k), some (vI p), some (vI be), some (vI m), none, none, none], [], MW b J2 M)) (t2 := (534, [some (vR 74), some (vI row), some (vI f), some (vI d), some (vI k), some (vI p), some (vI be), some (vI m), none, none, none], [], MW b J2 M)) rfl (fun c531_4 => ?_) (fun c531_4 => ?_)
          · refine rch_run cdK153 (by decide) 2 (t' := (483, [some (vR 74), some (vI row), some (vI f), some (vI d), some (vI k), some (vI p), some (vI be), some (vI (m + 1)), none, none, none], [], MW b J2 M)) (ps := [i32 (m + 1)]) rfl (by (try have hx8 := hx9 (by omega)); simp only [all_, i32, i64]; first | omega | (simp; done) | (simp; omega)) ?_
            exact ih (m + 1) J2 (by omega) (by omega) h3 (by rw [hm9]; exact Fx_no h4 (decide_eq_false (by omega))) (by omega)
          · refine rch_run cdK153 (by decide) 9 (t' := (550, [some (vR 74), some (vI row), some (vI f), some (vI d), some (vI k), some (vI p), some (vI be), some (vI m), none, none, none], [vI k, vI (J2 109 m.toNat), vI (J2 108 m.toNat)], MW b J2 M)) (ps := [0 ≤ m ∧ m < ((20 : Nat) : Int), 0 ≤ m ∧ m < ((20 : Nat) : Int)]) rfl (by (try have hx8 := hx9 (by omega)); simp only [all_, i32, i64]; first | omega | (simp; done) | (simp; omega)) ?_
            refine rch_call (h' := 1) (k' := 142) (as := [vI (J2 108 m.toNat), vI (J2 109 m.toNat), vI k]) (t1 := (553, [some (vR 74), some (vI row), some (vI f), some (vI d), some (vI k), some (vI p), some (vI be), some (vI m), none, none, none], [], MW b J2 M)) cdK153 rfl (k_X12_isKnown l E b J2 M (J2 108 m.toNat) (J2 109 m.toNat) k ) (by decide) mw_le ?_
            rintro rt9 w9 (⟨k69, rfl, rfl⟩ | ⟨k69, rfl, rfl⟩) _ _
            · show Rch l E 3 153 _ _ _ _ (553, [some (vR 74), some (vI row), some (vI f), some (vI d), some (vI k), some (vI p), some (vI be), some (vI m), none, none, none], [vI 1], MW b J2 M)
              have k69 : J2 108 m.toNat ≤ k ∧ ¬ (0 ≤ J2 109 m.toNat ∧ J2 109 m.toNat ≤ k) := k69
              refine rch_br cdK153 (cd := (1 : Int) ≠ 0) (t1 := (559, [some (vR 74), some (vI row), some (vI f), some (vI d), some (vI k), some (vI p), some (vI be), some (vI m), none, none, none], [], MW b J2 M)) (t2 := (556, [some (vR 74), some (vI row), some (vI f), some (vI d), some (vI k), some (vI p), some (vI be), some (vI m), none, none, none], [], MW b J2 M)) rfl (fun _ => ?_) (fun c9 => absurd (by decide) c9)
              refine rch_run cdK153 (by decide) 11 (t' := (483, [some (vR 74), some (vI row), some (vI f), some (vI d), some (vI k), some (vI p), some (vI be), some (vI (m + 1)), none, none, none], [], MW b (upI (upI J2 74 67 (J2 107 m.toNat)) 74 68 (-2)) M)) (ps := [0 ≤ m ∧ m < ((20 : Nat) : Int), i32 (m + 1)]) rfl (by (try have hx8 := hx9 (by omega)); simp only [all_, i32, i64]; first | omega | (simp; done) | (simp; omega)) ?_
              exact ih (m + 1) _ (by omega) (by omega) (fun a j ha => by rw [upI_ne (by omega), upI_ne (by omega)]; exact h3 a j ha) (by rw [hm9]; exact Fx_yes (decide_eq_true (by omega)) q107) (by omega)
            · show Rch l E 3 153 _ _ _ _ (553, [some (vR 74), some (vI row), some (vI f), some (vI d), some (vI k), some (vI p), some (vI be), some (vI m), none, none, none], [vI 0], MW b J2 M)
              have k69 : ¬ (J2 108 m.toNat ≤ k ∧ ¬ (0 ≤ J2 109 m.toNat ∧ J2 109 m.toNat ≤ k)) := k69
              refine rch_br cdK153 (cd := (0 : Int) ≠ 0) (t1 := (559, [some (vR 74), some (vI row), some (vI f), some (vI d), some (vI k), some (vI p), some (vI be), some (vI m), none, none, none], [], MW b J2 M)) (t2 := (556, [some (vR 74), some (vI row), some (vI f), some (vI d), some (vI k), some (vI p), some (vI be), some (vI m), none, none, none], [], MW b J2 M)) rfl (fun c9 => absurd c9 (by decide)) (fun _ => ?_)
              refine rch_run cdK153 (by decide) 3 (t' := (483, [some (vR 74), some (vI row), some (vI f), some (vI d), some (vI k), some (vI p), some (vI be), some (vI (m + 1)), none, none, none], [], MW b J2 M)) (ps := [i32 (m + 1)]) rfl (by (try have hx8 := hx9 (by omega)); simp only [all_, i32, i64]; first | omega | (simp; done) | (simp; omega)) ?_
              exact ih (m + 1) J2 (by omega) (by omega) h3 (by rw [hm9]; exact Fx_no h4 (decide_eq_false (by omega))) (by omega)
      · show Rch l E 3 153 _ _ _ _ (503, [some (vR 74), some (vI row), some (vI f), some (vI d), some (vI k), some (vI p), some (vI be), some (vI m), none, none, none], [vI 0], MW b J2 M)
        have k68 : ¬ (0 ≤ J2 105 m.toNat ∧ J2 105 m.toNat < J2 74 4 ∧ J2 80 (J2 105 m.toNat).toNat = 0) := k68
        refine rch_br cdK153 (cd := (0 : Int) = 0) (t1 := (576, [some (vR 74), some (vI row), some (vI f), some (vI d), some (vI k), some (vI p), some (vI be), some (vI m), none, none, none], [], MW b J2 M)) (t2 := (506, [some (vR 74), some (vI row), some (vI f), some (vI d), some (vI k), some (vI p), some (vI be), some (vI m), none, none, none], [], MW b J2 M)) rfl (fun _ => ?_) (fun c9 => absurd (by decide) c9)
        refine rch_run cdK153 (by decide) 2 (t' := (483, [some (vR 74), some (vI row), some (vI f), some (vI d), some (vI k), some (vI p), some (vI be), some (vI (m + 1)), none, none, none], [], MW b J2 M)) (ps := [i32 (m + 1)]) rfl (by (try have hx8 := hx9 (by omega)); simp only [all_, i32, i64]; first | omega | (simp; done) | (simp; omega)) ?_
        exact ih (m + 1) J2 (by omega) (by omega) h3 (by rw [hm9]; exact Fx_no h4 (decide_eq_false (by omega))) (by omega)
