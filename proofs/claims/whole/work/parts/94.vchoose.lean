set_option maxHeartbeats 20000000 in
set_option maxRecDepth 100000 in
theorem lp_vchoose (l : Launch) (E : AX) (b : Bool) (I L : Nat → Nat → Int) (hV : VOk I) : ∀ (n9 : Nat) (i gs la : Int) (J : Nat → Nat → Int), 0 ≤ i → i ≤ I 61 3 → ChL I J i.toNat gs la → I 61 3 - i < (n9 : Int) → Rch l E 2 50 (MW b I L) 0 0 (fun rt w => ∃ J, rt = none ∧ w = MW b J L ∧ ChV I J) (21, [some (vR 61), some (vI gs), some (vI la), some (vI i), none, none], [], MW b J L) := by
  intro n9
  induction n9 with
  | zero =>
    intro i gs la J h1 h2 h3 hm
    exfalso; omega
  | succ n9 ih =>
    intro i gs la J h1 h2 h3 hm
    have hV1 := hV.1
    have hr9 := ChL_rg hV h3 (by omega)
    have hf9 := h3.1
    have hJ : ∀ a, a ≠ 61 → J a = I a := fun a ha => funext (fun z => hf9 a z (by omega))
    have q3 := hf9 61 3 (by omega)
    have q63 := hf9 63 i.toNat (by omega)
    have hi9 : (i + 1).toNat = i.toNat + 1 := by omega
    have hv9 : i < I 61 3 → _ := fun z => hV.2 i.toNat (by omega)
    have hS9 := hr9.2.2.2.2.1 (I 63 i.toNat)
    have hT9 := hr9.2.2.2.2.2 (I 63 i.toNat)
    have hVJ : (0 ≤ J 61 3 ∧ J 61 3 ≤ 10) ∧ ∀ z : Nat, (z : Int) < J 61 3 → (0 ≤ J 63 z ∧ J 63 z ≤ 999999) ∧ (0 ≤ J 64 z ∧ J 64 z ≤ 100000) ∧ 0 ≤ J 65 z ∧ J 65 z ≤ 900 := by rw [q3, hJ 63 (by decide), hJ 64 (by decide), hJ 65 (by decide)]; exact hV
    refine rch_run cdK50 (by decide) 3 (t' := (26, [some (vR 61), some (vI gs), some (vI la), some (vI i), none, none], [vI (J 61 3), vI i], MW b J L)) (ps := []) rfl trivial ?_
    refine rch_br cdK50 (cd := J 61 3 ≤ i) (t1 := (118, [some (vR 61), some (vI gs), some (vI la), some (vI i), none, none], [], MW b J L)) (t2 := (29, [some (vR 61), some (vI gs), some (vI la), some (vI i), none, none], [], MW b J L)) rfl (fun c26_1 => ?_) (fun c26_1 => ?_)
    · refine rch_run cdK50 (by decide) 4 (t' := (124, [some (vR 61), some (vI gs), some (vI la), some (vI i), none, none], [vI (J 61 0), vR 61, vR 61], MW b J L)) (ps := []) rfl trivial ?_
      refine rch_call (h' := 1) (k' := 55) (as := [vR 61, vI (J 61 0)]) (t1 := (127, [some (vR 61), some (vI gs), some (vI la), some (vI i), none, none], [vR 61], MW b J L)) cdK50 rfl (k_strongestFor l E b J L (J 61 0) hVJ.1 hVJ.2) (by decide) mw_le ?_
      rintro rt9 w9 (⟨e9, rfl⟩) _ _
      rw [hJ 63 (by decide), hJ 65 (by decide), hJ 62 (by decide), q3] at e9
      subst e9
      show Rch l E 2 50 _ _ _ _ (127, [some (vR 61), some (vI gs), some (vI la), some (vI i), none, none], [vI ((strF (I 63) (I 65) (I 62) (J 61 0) (I 61 3).toNat).2), vR 61], MW b J L)
      refine rch_run cdK50 (by decide) 1 (t' := (130, [some (vR 61), some (vI gs), some (vI la), some (vI i), none, none], [], MW b (upI J 61 1 ((strF (I 63) (I 65) (I 62) (J 61 0) (I 61 3).toNat).2)) L)) (ps := []) rfl trivial ?_
      refine rch_ret cdK50 (rt := none) rfl trivial mw_c ?_
      refine ⟨_, rfl, rfl, fun a j ha => by rw [upI_ne (by omega)]; exact hf9 a j ha, ?_, ?_, ?_⟩
      · rw [upI_ne (by omega), show (I 61 3).toNat = i.toNat by omega]; exact h3.2.2.1
      · rw [upI_ne (by omega), show (I 61 3).toNat = i.toNat by omega]; exact h3.2.1
      · rw [upI_eq rfl rfl, upI_ne (by omega)]
    · refine rch_run cdK50 (by decide) 2 (t' := (31, [some (vR 61), some (vI gs), some (vI la), some (vI i), none, none], [vI i, vR 61], MW b J L)) (ps := []) rfl trivial ?_
      refine rch_call (h' := 1) (k' := 52) (as := [vR 61, vI i]) (t1 := (34, [some (vR 61), some (vI gs), some (vI la), some (vI i), none, none], [], MW b J L)) cdK50 rfl (k_isFirst l E b J L i (by omega)) (by decide) mw_le ?_
      rintro rt9 w9 (⟨k9, rfl, rfl⟩ | ⟨k9, rfl, rfl⟩) _ _
      · show Rch l E 2 50 _ _ _ _ (34, [some (vR 61), some (vI gs), some (vI la), some (vI i), none, none], [vI 1], MW b J L)
        have k8 : ∀ j : Nat, j < i.toNat → I 63 j ≠ I 63 i.toNat := fun j hj => by have := k9 j (by omega); rw [hJ 63 (by decide)] at this; exact this
        have hv7 := hv9 (by omega)
        refine rch_br cdK50 (cd := (1 : Int) = 0) (t1 := (112, [some (vR 61), some (vI gs), some (vI la), some (vI i), none, none], [], MW b J L)) (t2 := (37, [some (vR 61), some (vI gs), some (vI la), some (vI i), none, none], [], MW b J L)) rfl (fun c9 => absurd c9 (by decide)) (fun _ => ?_)
        refine rch_run cdK50 (by decide) 11 (t' := (54, [some (vR 61), some (vI gs), some (vI la), some (vI i), none, none], [vI (J 63 i.toNat), vR 61], MW b (upI J 61 2 ((J 61 2) + 1)) L)) (ps := [i32 ((J 61 2) + 1), 0 ≤ i ∧ i < ((10 : Nat) : Int)]) rfl (by (try have hv8 := hv9 (by omega)); simp only [all_, i32, i64]; first | omega | (simp; done) | (simp; omega)) ?_
        refine rch_call (h' := 1) (k' := 53) (as := [vR 61, vI (J 63 i.toNat)]) (t1 := (57, [some (vR 61), some (vI gs), some (vI la), some (vI i), none, none], [], MW b (upI J 61 2 ((J 61 2) + 1)) L)) cdK50 rfl (k_sumFor l E b (upI J 61 2 ((J 61 2) + 1)) L (J 63 i.toNat) (by rw [upI_ne (by omega)]; exact hVJ.1) (fun z hz => by have z1 := hVJ.2 z (by rw [upI_ne (by omega)] at hz; exact hz); rw [upI_ne (by omega), upI_ne (by omega), upI_ne (by omega)]; exact z1)) (by decide) mw_le ?_
        rintro rt9 w9 (⟨e9, rfl⟩) _ _
        have e8 : sumF ((upI J 61 2 ((J 61 2) + 1)) 63) ((upI J 61 2 ((J 61 2) + 1)) 65) (J 63 i.toNat) ((upI J 61 2 ((J 61 2) + 1)) 61 3).toNat = vS I (I 63 i.toNat) := by unfold vS; rw [q63, show (upI J 61 2 ((J 61 2) + 1)) 63 = I 63 from funext (fun z => by rw [upI_ne (by omega)]; exact hf9 63 z (by omega)), show (upI J 61 2 ((J 61 2) + 1)) 65 = I 65 from funext (fun z => by rw [upI_ne (by omega)]; exact hf9 65 z (by omega)), upI_ne (by omega), q3]
        rw [e8] at e9
        subst e9
        show Rch l E 2 50 _ _ _ _ (57, [some (vR 61), some (vI gs), some (vI la), some (vI i), none, none], [vI (vS I (I 63 i.toNat))], MW b (upI J 61 2 ((J 61 2) + 1)) L)
        refine rch_run cdK50 (by decide) 6 (t' := (66, [some (vR 61), some (vI gs), some (vI la), some (vI i), some (vI (vS I (I 63 i.toNat))), none], [vI (J 63 i.toNat), vR 61], MW b (upI J 61 2 ((J 61 2) + 1)) L)) (ps := [0 ≤ i ∧ i < ((10 : Nat) : Int)]) rfl (by (try have hv8 := hv9 (by omega)); simp only [all_, i32, i64]; first | omega | (simp; done) | (simp; omega)) ?_
        refine rch_call (h' := 1) (k' := 54) (as := [vR 61, vI (J 63 i.toNat)]) (t1 := (69, [some (vR 61), some (vI gs), some (vI la), some (vI i), some (vI (vS I (I 63 i.toNat))), none], [], MW b (upI J 61 2 ((J 61 2) + 1)) L)) cdK50 rfl (k_latestFor l E b (upI J 61 2 ((J 61 2) + 1)) L (J 63 i.toNat) (by rw [upI_ne (by omega)]; exact hVJ.1) (fun z hz => by have z1 := hVJ.2 z (by rw [upI_ne (by omega)] at hz; exact hz); rw [upI_ne (by omega), upI_ne (by omega), upI_ne (by omega)]; exact z1)) (by decide) mw_le ?_
        rintro rt9 w9 (⟨e9, rfl⟩) _ _
        have e8 : latF ((upI J 61 2 ((J 61 2) + 1)) 63) ((upI J 61 2 ((J 61 2) + 1)) 64) (J 63 i.toNat) ((upI J 61 2 ((J 61 2) + 1)) 61 3).toNat = vT I (I 63 i.toNat) := by unfold vT; rw [q63, show (upI J 61 2 ((J 61 2) + 1)) 63 = I 63 from funext (fun z => by rw [upI_ne (by omega)]; exact hf9 63 z (by omega)), show (upI J 61 2 ((J 61 2) + 1)) 64 = I 64 from funext (fun z => by rw [upI_ne (by omega)]; exact hf9 64 z (by omega)), upI_ne (by omega), q3]
        rw [e8] at e9
        subst e9
        show Rch l E 2 50 _ _ _ _ (69, [some (vR 61), some (vI gs), some (vI la), some (vI i), some (vI (vS I (I 63 i.toNat))), none], [vI (vT I (I 63 i.toNat))], MW b (upI J 61 2 ((J 61 2) + 1)) L)
        refine rch_run cdK50 (by decide) 14 (t' := (90, [some (vR 61), some (vI gs), some (vI la), some (vI i), some (vI (vS I (I 63 i.toNat))), some (vI (vT I (I 63 i.toNat)))], [vI ((J 61 0) - (J 63 i.toNat)), vI ((vT I (I 63 i.toNat)) - la), vI ((vS I (I 63 i.toNat)) - gs)], MW b (upI J 61 2 ((J 61 2) + 1)) L)) (ps := [i32 ((vS I (I 63 i.toNat)) - gs), i32 ((vT I (I 63 i.toNat)) - la), 0 ≤ i ∧ i < ((10 : Nat) : Int), i32 ((J 61 0) - (J 63 i.toNat))]) rfl (by (try have hv8 := hv9 (by omega)); simp only [all_, i32, i64]; first | omega | (simp; done) | (simp; omega)) ?_
        refine rch_call (h' := 1) (k' := 51) (as := [vI ((vS I (I 63 i.toNat)) - gs), vI ((vT I (I 63 i.toNat)) - la), vI ((J 61 0) - (J 63 i.toNat))]) (t1 := (93, [some (vR 61), some (vI gs), some (vI la), some (vI i), some (vI (vS I (I 63 i.toNat))), some (vI (vT I (I 63 i.toNat)))], [], MW b (upI J 61 2 ((J 61 2) + 1)) L)) cdK50 rfl (k_isAhead l E b (upI J 61 2 ((J 61 2) + 1)) L ((vS I (I 63 i.toNat)) - gs) ((vT I (I 63 i.toNat)) - la) ((J 61 0) - (J 63 i.toNat)) ) (by decide) mw_le ?_
        rintro rt9 w9 (⟨k58, rfl, rfl⟩ | ⟨k58, rfl, rfl⟩) _ _
        · show Rch l E 2 50 _ _ _ _ (93, [some (vR 61), some (vI gs), some (vI la), some (vI i), some (vI (vS I (I 63 i.toNat))), some (vI (vT I (I 63 i.toNat)))], [vI 1], MW b (upI J 61 2 ((J 61 2) + 1)) L)
          have k58 : 0 < (vS I (I 63 i.toNat)) - gs ∨ ((vS I (I 63 i.toNat)) - gs = 0 ∧ (0 < (vT I (I 63 i.toNat)) - la ∨ ((vT I (I 63 i.toNat)) - la = 0 ∧ 0 < (J 61 0) - (J 63 i.toNat)))) := k58
          refine rch_br cdK50 (cd := (1 : Int) = 0) (t1 := (112, [some (vR 61), some (vI gs), some (vI la), some (vI i), some (vI (vS I (I 63 i.toNat))), some (vI (vT I (I 63 i.toNat)))], [], MW b (upI J 61 2 ((J 61 2) + 1)) L)) (t2 := (96, [some (vR 61), some (vI gs), some (vI la), some (vI i), some (vI (vS I (I 63 i.toNat))), some (vI (vT I (I 63 i.toNat)))], [], MW b (upI J 61 2 ((J 61 2) + 1)) L)) rfl (fun c9 => absurd c9 (by decide)) (fun _ => ?_)
          refine rch_run cdK50 (by decide) 12 (t' := (21, [some (vR 61), some (vI (vS I (I 63 i.toNat))), some (vI (vT I (I 63 i.toNat))), some (vI (i + 1)), some (vI (vS I (I 63 i.toNat))), some (vI (vT I (I 63 i.toNat)))], [], MW b (upI (upI J 61 2 ((J 61 2) + 1)) 61 0 (J 63 i.toNat)) L)) (ps := [0 ≤ i ∧ i < ((10 : Nat) : Int), i32 (i + 1)]) rfl (by (try have hv8 := hv9 (by omega)); simp only [all_, i32, i64]; first | omega | (simp; done) | (simp; omega)) ?_
          refine rch_forget [4, 5] ?_
          show Rch l E 2 50 _ _ _ _ (21, [some (vR 61), some (vI (vS I (I 63 i.toNat))), some (vI (vT I (I 63 i.toNat))), some (vI (i + 1)), none, none], [], MW b (upI (upI J 61 2 ((J 61 2) + 1)) 61 0 (J 63 i.toNat)) L)
          exact ih (i + 1) _ _ _ (by omega) (by omega) (by rw [hi9]; exact ChL_new hV (by omega) h3 k8 (Or.inl ⟨by omega, by rw [q63], rfl, rfl⟩)) (by omega)
        · show Rch l E 2 50 _ _ _ _ (93, [some (vR 61), some (vI gs), some (vI la), some (vI i), some (vI (vS I (I 63 i.toNat))), some (vI (vT I (I 63 i.toNat)))], [vI 0], MW b (upI J 61 2 ((J 61 2) + 1)) L)
          have k58 : ¬ (0 < (vS I (I 63 i.toNat)) - gs ∨ ((vS I (I 63 i.toNat)) - gs = 0 ∧ (0 < (vT I (I 63 i.toNat)) - la ∨ ((vT I (I 63 i.toNat)) - la = 0 ∧ 0 < (J 61 0) - (J 63 i.toNat))))) := k58
          refine rch_br cdK50 (cd := (0 : Int) = 0) (t1 := (112, [some (vR 61), some (vI gs), some (vI la), some (vI i), some (vI (vS I (I 63 i.toNat))), some (vI (vT I (I 63 i.toNat)))], [], MW b (upI J 61 2 ((J 61 2) + 1)) L)) (t2 := (96, [some (vR 61), some (vI gs), some (vI la), some (vI i), some (vI (vS I (I 63 i.toNat))), some (vI (vT I (I 63 i.toNat)))], [], MW b (upI J 61 2 ((J 61 2) + 1)) L)) rfl (fun _ => ?_) (fun c9 => absurd (by decide) c9)
          refine rch_run cdK50 (by decide) 2 (t' := (21, [some (vR 61), some (vI gs), some (vI la), some (vI (i + 1)), some (vI (vS I (I 63 i.toNat))), some (vI (vT I (I 63 i.toNat)))], [], MW b (upI J 61 2 ((J 61 2) + 1)) L)) (ps := [i32 (i + 1)]) rfl (by (try have hv8 := hv9 (by omega)); simp only [all_, i32, i64]; first | omega | (simp; done) | (simp; omega)) ?_
          refine rch_forget [4, 5] ?_
          show Rch l E 2 50 _ _ _ _ (21, [some (vR 61), some (vI gs), some (vI la), some (vI (i + 1)), none, none], [], MW b (upI J 61 2 ((J 61 2) + 1)) L)
          exact ih (i + 1) gs la _ (by omega) (by omega) (by rw [hi9]; exact ChL_new hV (by omega) h3 k8 (Or.inr ⟨by omega, rfl, rfl, rfl⟩)) (by omega)
      · show Rch l E 2 50 _ _ _ _ (34, [some (vR 61), some (vI gs), some (vI la), some (vI i), none, none], [vI 0], MW b J L)
        have k8 : ¬ ∀ j : Nat, j < i.toNat → I 63 j ≠ I 63 i.toNat := fun z => k9 (fun j hj => by rw [hJ 63 (by decide)]; exact z j (by omega))
        refine rch_br cdK50 (cd := (0 : Int) = 0) (t1 := (112, [some (vR 61), some (vI gs), some (vI la), some (vI i), none, none], [], MW b J L)) (t2 := (37, [some (vR 61), some (vI gs), some (vI la), some (vI i), none, none], [], MW b J L)) rfl (fun _ => ?_) (fun c9 => absurd (by decide) c9)
        refine rch_run cdK50 (by decide) 2 (t' := (21, [some (vR 61), some (vI gs), some (vI la), some (vI (i + 1)), none, none], [], MW b J L)) (ps := [i32 (i + 1)]) rfl (by (try have hv8 := hv9 (by omega)); simp only [all_, i32, i64]; first | omega | (simp; done) | (simp; omega)) ?_
        refine rch_forget [4, 5] ?_
        show Rch l E 2 50 _ _ _ _ (21, [some (vR 61), some (vI gs), some (vI la), some (vI (i + 1)), none, none], [], MW b J L)
        exact ih (i + 1) gs la J (by omega) (by omega) (by rw [hi9]; exact ChL_old h3 k8) (by omega)

set_option maxHeartbeats 20000000 in
set_option maxRecDepth 100000 in
theorem k_vchoose (l : Launch) (E : AX) (b : Bool) (I L : Nat → Nat → Int) (hV : VOk I) : Con l E 2 50 [vR 61] (MW b I L) 0 0 (fun rt w => ∃ J, rt = none ∧ w = MW b J L ∧ ChV I J) := by
  refine con_ok (fun hw9 hs9 => ?_)
  refine con_intro (by decide) (Nat.le_of_ble_eq_true rfl) ?_
  show Rch l E 2 50 _ _ _ _ (0, [some (vR 61), none, none, none, none, none], [], MW b I L)
  refine rch_run cdK50 (by decide) 15 (t' := (21, [some (vR 61), some (vI (-1)), some (vI (-1)), some (vI 0), none, none], [], MW b (upI (upI (upI I 61 0 (-1)) 61 1 (-1)) 61 2 0) L)) (ps := []) rfl trivial ?_
  exact lp_vchoose l E b I L hV 11 0 _ _ _ (by omega) hV.1.1 ⟨fun a j ha => by rw [upI_ne (by omega), upI_ne (by omega), upI_ne (by omega)], by rw [upI_eq rfl rfl]; rfl, by rw [upI_ne (by omega), upI_ne (by omega), upI_eq rfl rfl]; rfl, by rw [upI_ne (by omega), upI_ne (by omega), upI_eq rfl rfl]; rfl, by rw [upI_ne (by omega), upI_ne (by omega), upI_eq rfl rfl]; rfl⟩ (by have := hV.1; omega)

set_option maxHeartbeats 20000000 in
set_option maxRecDepth 100000 in
theorem lp_vgather (l : Launch) (E : AX) (b : Bool) (I L : Nat → Nat → Int) (p f : Int) (hK : VgK I p f) : ∀ (n9 : Nat) (r : Int) (J : Nat → Nat → Int), 0 ≤ r → r ≤ 10 → VgL I J p f r.toNat → 10 - r < (n9 : Int) → Rch l E 2 49 (MW b I L) 0 0 (fun rt w => ∃ J, rt = none ∧ w = MW b J L ∧ VgL I J p f 10) (8, [some (vR 61), some (vR 44), some (vR 17), some (vR 49), some (vR 13), some (vI p), some (vI f), some (vI r), none], [], MW b J L) := by
  intro n9
  induction n9 with
  | zero =>
    intro r J h1 h2 h3 hm
    exfalso; omega
  | succ n9 ih =>
    intro r J h1 h2 h3 hm
    have hf9 := h3.1
    have hg9 := h3.2.1
    have hc9 := cnt_le (vQ I p f) r.toNat
    have hK1 := hK.1
    have hK2 := hK.2.1
    have q46 := hf9 46 ((r * 6) + f).toNat (by omega)
    have q47 := hf9 47 ((r * 6) + f).toNat (by omega)
    have q44 := hf9 44 0 (by omega)
    have q18 := hf9 18 r.toNat (by omega)
    have q50 := hf9 50 r.toNat (by omega)
    have q48 := hf9 48 ((r * 6) + f).toNat (by omega)
    have hQ9 : J 50 r.toNat = p ∧ J 46 ((r * 6) + f).toNat ≠ -1 ∧ J 48 ((r * 6) + f).toNat = 0 → r < 10 → vQ I p f r.toNat = true ∧ (0 ≤ I 18 r.toNat ∧ I 18 r.toNat ≤ 5) ∧ (0 ≤ I 47 ((r * 6) + f).toNat ∧ I 47 ((r * 6) + f).toNat ≤ 100000 ∧ I 47 ((r * 6) + f).toNat ≤ I 44 0) := fun z z2 => by
      have hq : vQ I p f r.toNat = true := decide_eq_true (by rw [show ((r.toNat : Nat) : Int) = r by omega, ← q50, ← q46, ← q48]; exact z)
      have := hK.2.2.2.2 r.toNat (by omega) hq
      rw [show ((r.toNat : Nat) : Int) = r by omega] at this
      exact ⟨hq, this.1, this.2.2⟩
    refine rch_run cdK49 (by decide) 2 (t' := (12, [some (vR 61), some (vR 44), some (vR 17), some (vR 49), some (vR 13), some (vI p), some (vI f), some (vI r), none], [vI 10, vI r], MW b J L)) (ps := []) rfl trivial ?_
    refine rch_br cdK49 (cd := (10 : Int) ≤ r) (t1 := (153, [some (vR 61), some (vR 44), some (vR 17), some (vR 49), some (vR 13), some (vI p), some (vI f), some (vI r), none], [], MW b J L)) (t2 := (15, [some (vR 61), some (vR 44), some (vR 17), some (vR 49), some (vR 13), some (vI p), some (vI f), some (vI r), none], [], MW b J L)) rfl (fun c12_1 => ?_) (fun c12_1 => ?_)
    · refine rch_ret cdK49 (rt := none) rfl trivial mw_c ?_
      exact ⟨J, rfl, rfl, by rw [show (10 : Nat) = r.toNat by omega]; exact h3⟩
    · refine rch_run cdK49 (by decide) 8 (t' := (28, [some (vR 61), some (vR 44), some (vR 17), some (vR 49), some (vR 13), some (vI p), some (vI f), some (vI r), some (vI ((r * 6) + f))], [vI r, vR 49], MW b J L)) (ps := [i32 (r * 6), i32 ((r * 6) + f)]) rfl (by (try have hQ8 := hQ9 (by omega) (by omega)); simp only [all_, i32, i64]; first | omega | (simp; done) | (simp; omega)) ?_
      refine rch_call (h' := 1) (k' := 20) (as := [vR 49, vI r]) (t1 := (31, [some (vR 61), some (vR 44), some (vR 17), some (vR 49), some (vR 13), some (vI p), some (vI f), some (vI r), some (vI ((r * 6) + f))], [], MW b J L)) cdK49 rfl (k_X3_personOf l E b J L r ) (by decide) mw_le ?_
      rintro rt9 w9 (⟨k59, rfl, rfl⟩ | ⟨k59, rfl, rfl⟩) _ _
      · show Rch l E 2 49 _ _ _ _ (31, [some (vR 61), some (vR 44), some (vR 17), some (vR 49), some (vR 13), some (vI p), some (vI f), some (vI r), some (vI ((r * 6) + f))], [vI (J 50 r.toNat)], MW b J L)
        have k59 : 0 ≤ r ∧ r < 10 := k59
        refine rch_run cdK49 (by decide) 1 (t' := (33, [some (vR 61), some (vR 44), some (vR 17), some (vR 49), some (vR 13), some (vI p), some (vI f), some (vI r), some (vI ((r * 6) + f))], [vI p, vI (J 50 r.toNat)], MW b J L)) (ps := []) rfl trivial ?_
        refine rch_br cdK49 (cd := J 50 r.toNat ≠ p) (t1 := (147, [some (vR 61), some (vR 44), some (vR 17), some (vR 49), some (vR 13), some (vI p), some (vI f), some (vI r), some (vI ((r * 6) + f))], [], MW b J L)) (t2 := (36, [some (vR 61), some (vR 44), some (vR 17), some (vR 49), some (vR 13), some (vI p), some (vI f), some (vI r), some (vI ((r * 6) + f))], [], MW b J L)) rfl (fun c33_2 => ?_) (fun c33_2 => ?_)
        · refine rch_run cdK49 (by decide) 2 (t' := (8, [some (vR 61), some (vR 44), some (vR 17), some (vR 49), some (vR 13), some (vI p), some (vI f), some (vI (r + 1)), some (vI ((r * 6) + f))], [], MW b J L)) (ps := [i32 (r + 1)]) rfl (by (try have hQ8 := hQ9 (by omega) (by omega)); simp only [all_, i32, i64]; first | omega | (simp; done) | (simp; omega)) ?_
          refine rch_forget [8] ?_
          show Rch l E 2 49 _ _ _ _ (8, [some (vR 61), some (vR 44), some (vR 17), some (vR 49), some (vR 13), some (vI p), some (vI f), some (vI (r + 1)), none], [], MW b J L)
          exact ih (r + 1) J (by omega) (by omega) (Vg_no h3 (by omega) (by omega)) (by omega)
        · refine rch_run cdK49 (by decide) 5 (t' := (44, [some (vR 61), some (vR 44), some (vR 17), some (vR 49), some (vR 13), some (vI p), some (vI f), some (vI r), some (vI ((r * 6) + f))], [vI (-1), vI (J 46 ((r * 6) + f).toNat)], MW b J L)) (ps := [0 ≤ (r * 6) + f ∧ (r * 6) + f < ((60 : Nat) : Int)]) rfl (by (try have hQ8 := hQ9 (by omega) (by omega)); simp only [all_, i32, i64]; first | omega | (simp; done) | (simp; omega)) ?_
          refine rch_br cdK49 (cd := J 46 ((r * 6) + f).toNat = ((-1) : Int)) (t1 := (147, [some (vR 61), some (vR 44), some (vR 17), some (vR 49), some (vR 13), some (vI p), some (vI f), some (vI r), some (vI ((r * 6) + f))], [], MW b J L)) (t2 := (47, [some (vR 61), some (vR 44), some (vR 17), some (vR 49), some (vR 13), some (vI p), some (vI f), some (vI r), some (vI ((r * 6) + f))], [], MW b J L)) rfl (fun c44_3 => ?_) (fun c44_3 => ?_)
          · refine rch_run cdK49 (by decide) 2 (t' := (8, [some (vR 61), some (vR 44), some (vR 17), some (vR 49), some (vR 13), some (vI p), some (vI f), some (vI (r + 1)), some (vI ((r * 6) + f))], [], MW b J L)) (ps := [i32 (r + 1)]) rfl (by (try have hQ8 := hQ9 (by omega) (by omega)); simp only [all_, i32, i64]; first | omega | (simp; done) | (simp; omega)) ?_
            refine rch_forget [8] ?_
            show Rch l E 2 49 _ _ _ _ (8, [some (vR 61), some (vR 44), some (vR 17), some (vR 49), some (vR 13), some (vI p), some (vI f), some (vI (r + 1)), none], [], MW b J L)
            exact ih (r + 1) J (by omega) (by omega) (Vg_no h3 (by omega) (by omega)) (by omega)
          · refine rch_run cdK49 (by decide) 4 (t' := (54, [some (vR 61), some (vR 44), some (vR 17), some (vR 49), some (vR 13), some (vI p), some (vI f), some (vI r), some (vI ((r * 6) + f))], [vI (J 48 ((r * 6) + f).toNat)], MW b J L)) (ps := [0 ≤ (r * 6) + f ∧ (r * 6) + f < ((60 : Nat) : Int)]) rfl (by (try have hQ8 := hQ9 (by omega) (by omega)); simp only [all_, i32, i64]; first | omega | (simp; done) | (simp; omega)) ?_
            refine rch_br cdK49 (cd := J 48 ((r * 6) + f).toNat ≠ 0) (t1 := (147, [some (vR 61), some (vR 44), some (vR 17), some (vR 49), some (vR 13), some (vI p), some (vI f), some (vI r), some (vI ((r * 6) + f))], [], MW b J L)) (t2 := (57, [some (vR 61), some (vR 44), some (vR 17), some (vR 49), some (vR 13), some (vI p), some (vI f), some (vI r), some (vI ((r * 6) + f))], [], MW b J L)) rfl (fun c54_4 => ?_) (fun c54_4 => ?_)
            · refine rch_run cdK49 (by decide) 2 (t' := (8, [some (vR 61), some (vR 44), some (vR 17), some (vR 49), some (vR 13), some (vI p), some (vI f), some (vI (r + 1)), some (vI ((r * 6) + f))], [], MW b J L)) (ps := [i32 (r + 1)]) rfl (by (try have hQ8 := hQ9 (by omega) (by omega)); simp only [all_, i32, i64]; first | omega | (simp; done) | (simp; omega)) ?_
              refine rch_forget [8] ?_
              show Rch l E 2 49 _ _ _ _ (8, [some (vR 61), some (vR 44), some (vR 17), some (vR 49), some (vR 13), some (vI p), some (vI f), some (vI (r + 1)), none], [], MW b J L)
              exact ih (r + 1) J (by omega) (by omega) (Vg_no h3 (by omega) (by omega)) (by omega)
            · have hQ7 := hQ9 (by omega) (by omega)
              refine rch_run cdK49 (by decide) 25 (t' := (101, [some (vR 61), some (vR 44), some (vR 17), some (vR 49), some (vR 13), some (vI p), some (vI f), some (vI r), some (vI ((r * 6) + f))], [vR 61], MW b (upI (upI (upI J 62 (J 61 3).toNat r) 63 (J 61 3).toNat (J 46 ((r * 6) + f).toNat)) 64 (J 61 3).toNat (J 47 ((r * 6) + f).toNat)) L)) (ps := [0 ≤ J 61 3 ∧ J 61 3 < ((10 : Nat) : Int), 0 ≤ (r * 6) + f ∧ (r * 6) + f < ((60 : Nat) : Int), 0 ≤ J 61 3 ∧ J 61 3 < ((10 : Nat) : Int), 0 ≤ (r * 6) + f ∧ (r * 6) + f < ((60 : Nat) : Int), 0 ≤ J 61 3 ∧ J 61 3 < ((10 : Nat) : Int)]) rfl (by (try have hQ8 := hQ9 (by omega) (by omega)); simp only [all_, i32, i64]; first | omega | (simp; done) | (simp; omega)) ?_
              refine rch_run cdK49 (by decide) 18 (t' := (133, [some (vR 61), some (vR 44), some (vR 17), some (vR 49), some (vR 13), some (vI p), some (vI f), some (vI r), some (vI ((r * 6) + f))], [vL ((J 44 0) - (J 47 ((r * 6) + f).toNat)), vI f, vI (J 18 r.toNat), vR 13, vI (J 61 3), vR 65], MW b (upI (upI (upI J 62 (J 61 3).toNat r) 63 (J 61 3).toNat (J 46 ((r * 6) + f).toNat)) 64 (J 61 3).toNat (J 47 ((r * 6) + f).toNat)) L)) (ps := [0 ≤ r ∧ r < ((10 : Nat) : Int), 0 ≤ (r * 6) + f ∧ (r * 6) + f < ((60 : Nat) : Int), i64 ((J 44 0) - (J 47 ((r * 6) + f).toNat))]) rfl (by (try have hQ8 := hQ9 (by omega) (by omega)); simp only [all_, i32, i64]; first | omega | (simp; done) | (simp; omega)) ?_
              have e14f : ∀ a j, a = 14 ∨ a = 15 → ((upI (upI (upI J 62 (J 61 3).toNat r) 63 (J 61 3).toNat (J 46 ((r * 6) + f).toNat)) 64 (J 61 3).toNat (J 47 ((r * 6) + f).toNat))) a j = I a j := fun a j ha => by rw [upI_ne (by omega), upI_ne (by omega), upI_ne (by omega)]; exact hf9 a j (by omega)
              refine rch_call (h' := 1) (k' := 57) (as := [vR 13, vI (J 18 r.toNat), vI f, vL ((J 44 0) - (J 47 ((r * 6) + f).toNat))]) (t1 := (136, [some (vR 61), some (vR 44), some (vR 17), some (vR 49), some (vR 13), some (vI p), some (vI f), some (vI r), some (vI ((r * 6) + f))], [vI (J 61 3), vR 65], MW b (upI (upI (upI J 62 (J 61 3).toNat r) 63 (J 61 3).toNat (J 46 ((r * 6) + f).toNat)) 64 (J 61 3).toNat (J 47 ((r * 6) + f).toNat)) L)) cdK49 rfl (k_weight l E b (upI (upI (upI J 62 (J 61 3).toNat r) 63 (J 61 3).toNat (J 46 ((r * 6) + f).toNat)) 64 (J 61 3).toNat (J 47 ((r * 6) + f).toNat)) L (J 18 r.toNat) f ((J 44 0) - (J 47 ((r * 6) + f).toNat)) (by omega) (by omega) (by rw [e14f 14 _ (by omega)]; exact hK.2.2.1 _ (by omega)) (by rw [e14f 15 _ (by omega)]; exact hK.2.2.2.1 _ (by omega))) (by decide) mw_le ?_
              rintro rt9 w9 (⟨k9, e9, rfl⟩ | ⟨k9, e9, rfl⟩) _ _
              · have e8 : rt9 = some (vI (vW I f r.toNat)) := by
                  rw [e14f 14 _ (by omega), e14f 15 _ (by omega), q18, q44, q47] at k9 e9
                  unfold vW
                  rw [show ((r.toNat : Nat) : Int) = r by omega, if_pos k9, e9, w32_id]
                  have b1 := hK.2.2.1 (((I 18 r.toNat) * 6) + f).toNat (by have := hQ9 (by omega) (by omega); omega)
                  have b3 : 0 ≤ (I 15 f.toNat) * ((I 44 0) - (I 47 ((r * 6) + f).toNat)) := Int.mul_nonneg (hK.2.2.2.1 _ (by omega)).1 (by have := hQ9 (by omega) (by omega); omega)
                  unfold i32
                  generalize (I 15 f.toNat) * ((I 44 0) - (I 47 ((r * 6) + f).toNat)) = z at *
                  omega
                subst e8
                show Rch l E 2 49 _ _ _ _ (136, [some (vR 61), some (vR 44), some (vR 17), some (vR 49), some (vR 13), some (vI p), some (vI f), some (vI r), some (vI ((r * 6) + f))], [vI (vW I f r.toNat), vI (J 61 3), vR 65], MW b (upI (upI (upI J 62 (J 61 3).toNat r) 63 (J 61 3).toNat (J 46 ((r * 6) + f).toNat)) 64 (J 61 3).toNat (J 47 ((r * 6) + f).toNat)) L)
                refine rch_run cdK49 (by decide) 9 (t' := (8, [some (vR 61), some (vR 44), some (vR 17), some (vR 49), some (vR 13), some (vI p), some (vI f), some (vI (r + 1)), some (vI ((r * 6) + f))], [], MW b (upI (upI (upI (upI (upI J 62 (J 61 3).toNat r) 63 (J 61 3).toNat (J 46 ((r * 6) + f).toNat)) 64 (J 61 3).toNat (J 47 ((r * 6) + f).toNat)) 65 (J 61 3).toNat (vW I f r.toNat)) 61 3 ((J 61 3) + 1)) L)) (ps := [0 ≤ J 61 3 ∧ J 61 3 < ((10 : Nat) : Int), i32 ((J 61 3) + 1), i32 (r + 1)]) rfl (by (try have hQ8 := hQ9 (by omega) (by omega)); simp only [all_, i32, i64]; first | omega | (simp; done) | (simp; omega)) ?_
                refine rch_forget [8] ?_
                show Rch l E 2 49 _ _ _ _ (8, [some (vR 61), some (vR 44), some (vR 17), some (vR 49), some (vR 13), some (vI p), some (vI f), some (vI (r + 1)), none], [], MW b (upI (upI (upI (upI (upI J 62 (J 61 3).toNat r) 63 (J 61 3).toNat (J 46 ((r * 6) + f).toNat)) 64 (J 61 3).toNat (J 47 ((r * 6) + f).toNat)) 65 (J 61 3).toNat (vW I f r.toNat)) 61 3 ((J 61 3) + 1)) L)
                exact ih (r + 1) _ (by omega) (by omega) (Vg_yes h3 (by omega) (by omega) rfl rfl) (by omega)
              · have e8 : rt9 = some (vI (vW I f r.toNat)) := by
                  rw [e14f 14 _ (by omega), e14f 15 _ (by omega), q18, q44, q47] at k9
                  unfold vW
                  rw [show ((r.toNat : Nat) : Int) = r by omega, if_neg (by generalize (I 15 f.toNat) * ((I 44 0) - (I 47 ((r * 6) + f).toNat)) = z at *; omega), e9]
                subst e8
                show Rch l E 2 49 _ _ _ _ (136, [some (vR 61), some (vR 44), some (vR 17), some (vR 49), some (vR 13), some (vI p), some (vI f), some (vI r), some (vI ((r * 6) + f))], [vI (vW I f r.toNat), vI (J 61 3), vR 65], MW b (upI (upI (upI J 62 (J 61 3).toNat r) 63 (J 61 3).toNat (J 46 ((r * 6) + f).toNat)) 64 (J 61 3).toNat (J 47 ((r * 6) + f).toNat)) L)
                refine rch_run cdK49 (by decide) 9 (t' := (8, [some (vR 61), some (vR 44), some (vR 17), some (vR 49), some (vR 13), some (vI p), some (vI f), some (vI (r + 1)), some (vI ((r * 6) + f))], [], MW b (upI (upI (upI (upI (upI J 62 (J 61 3).toNat r) 63 (J 61 3).toNat (J 46 ((r * 6) + f).toNat)) 64 (J 61 3).toNat (J 47 ((r * 6) + f).toNat)) 65 (J 61 3).toNat (vW I f r.toNat)) 61 3 ((J 61 3) + 1)) L)) (ps := [0 ≤ J 61 3 ∧ J 61 3 < ((10 : Nat) : Int), i32 ((J 61 3) + 1), i32 (r + 1)]) rfl (by (try have hQ8 := hQ9 (by omega) (by omega)); simp only [all_, i32, i64]; first | omega | (simp; done) | (simp; omega)) ?_
                refine rch_forget [8] ?_
                show Rch l E 2 49 _ _ _ _ (8, [some (vR 61), some (vR 44), some (vR 17), some (vR 49), some (vR 13), some (vI p), some (vI f), some (vI (r + 1)), none], [], MW b (upI (upI (upI (upI (upI J 62 (J 61 3).toNat r) 63 (J 61 3).toNat (J 46 ((r * 6) + f).toNat)) 64 (J 61 3).toNat (J 47 ((r * 6) + f).toNat)) 65 (J 61 3).toNat (vW I f r.toNat)) 61 3 ((J 61 3) + 1)) L)
                exact ih (r + 1) _ (by omega) (by omega) (Vg_yes h3 (by omega) (by omega) rfl rfl) (by omega)
      · show Rch l E 2 49 _ _ _ _ (31, [some (vR 61), some (vR 44), some (vR 17), some (vR 49), some (vR 13), some (vI p), some (vI f), some (vI r), some (vI ((r * 6) + f))], [vI (-1)], MW b J L)
        have k59 : ¬ (0 ≤ r ∧ r < 10) := k59
        refine rch_run cdK49 (by decide) 1 (t' := (33, [some (vR 61), some (vR 44), some (vR 17), some (vR 49), some (vR 13), some (vI p), some (vI f), some (vI r), some (vI ((r * 6) + f))], [vI p, vI (-1)], MW b J L)) (ps := []) rfl trivial ?_
        refine rch_br cdK49 (cd := ((-1) : Int) ≠ p) (t1 := (147, [some (vR 61), some (vR 44), some (vR 17), some (vR 49), some (vR 13), some (vI p), some (vI f), some (vI r), some (vI ((r * 6) + f))], [], MW b J L)) (t2 := (36, [some (vR 61), some (vR 44), some (vR 17), some (vR 49), some (vR 13), some (vI p), some (vI f), some (vI r), some (vI ((r * 6) + f))], [], MW b J L)) rfl (fun c33_5 => ?_) (fun c33_5 => ?_)
        · refine rch_run cdK49 (by decide) 2 (t' := (8, [some (vR 61), some (vR 44), some (vR 17), some (vR 49), some (vR 13), some (vI p), some (vI f), some (vI (r + 1)), some (vI ((r * 6) + f))], [], MW b J L)) (ps := [i32 (r + 1)]) rfl (by (try have hQ8 := hQ9 (by omega) (by omega)); simp only [all_, i32, i64]; first | omega | (simp; done) | (simp; omega)) ?_
          refine rch_forget [8] ?_
          show Rch l E 2 49 _ _ _ _ (8, [some (vR 61), some (vR 44), some (vR 17), some (vR 49), some (vR 13), some (vI p), some (vI f), some (vI (r + 1)), none], [], MW b J L)
          exact ih (r + 1) J (by omega) (by omega) (Vg_no h3 (by omega) (by omega)) (by omega)
        · refine rch_run cdK49 (by decide) 5 (t' := (44, [some (vR 61), some (vR 44), some (vR 17), some (vR 49), some (vR 13), some (vI p), some (vI f), some (vI r), some (vI ((r * 6) + f))], [vI (-1), vI (J 46 ((r * 6) + f).toNat)], MW b J L)) (ps := [0 ≤ (r * 6) + f ∧ (r * 6) + f < ((60 : Nat) : Int)]) rfl (by (try have hQ8 := hQ9 (by omega) (by omega)); simp only [all_, i32, i64]; first | omega | (simp; done) | (simp; omega)) ?_
          refine rch_br cdK49 (cd := J 46 ((r * 6) + f).toNat = ((-1) : Int)) (t1 := (147, [some (vR 61), some (vR 44), some (vR 17), some (vR 49), some (vR 13), some (vI p), some (vI f), some (vI r), some (vI ((r * 6) + f))], [], MW b J L)) (t2 := (47, [some (vR 61), some (vR 44), some (vR 17), some (vR 49), some (vR 13), some (vI p), some (vI f), some (vI r), some (vI ((r * 6) + f))], [], MW b J L)) rfl (fun c44_6 => ?_) (fun c44_6 => ?_)
          · refine rch_run cdK49 (by decide) 2 (t' := (8, [some (vR 61), some (vR 44), some (vR 17), some (vR 49), some (vR 13), some (vI p), some (vI f), some (vI (r + 1)), some (vI ((r * 6) + f))], [], MW b J L)) (ps := [i32 (r + 1)]) rfl (by (try have hQ8 := hQ9 (by omega) (by omega)); simp only [all_, i32, i64]; first | omega | (simp; done) | (simp; omega)) ?_
            refine rch_forget [8] ?_
            show Rch l E 2 49 _ _ _ _ (8, [some (vR 61), some (vR 44), some (vR 17), some (vR 49), some (vR 13), some (vI p), some (vI f), some (vI (r + 1)), none], [], MW b J L)
            exact ih (r + 1) J (by omega) (by omega) (Vg_no h3 (by omega) (by omega)) (by omega)
          · refine rch_run cdK49 (by decide) 4 (t' := (54, [some (vR 61), some (vR 44), some (vR 17), some (vR 49), some (vR 13), some (vI p), some (vI f), some (vI r), some (vI ((r * 6) + f))], [vI (J 48 ((r * 6) + f).toNat)], MW b J L)) (ps := [0 ≤ (r * 6) + f ∧ (r * 6) + f < ((60 : Nat) : Int)]) rfl (by (try have hQ8 := hQ9 (by omega) (by omega)); simp only [all_, i32, i64]; first | omega | (simp; done) | (simp; omega)) ?_
            refine rch_br cdK49 (cd := J 48 ((r * 6) + f).toNat ≠ 0) (t1 := (147, [some (vR 61), some (vR 44), some (vR 17), some (vR 49), some (vR 13), some (vI p), some (vI f), some (vI r), some (vI ((r * 6) + f))], [], MW b J L)) (t2 := (57, [some (vR 61), some (vR 44), some (vR 17), some (vR 49), some (vR 13), some (vI p), some (vI f), some (vI r), some (vI ((r * 6) + f))], [], MW b J L)) rfl (fun c54_7 => ?_) (fun c54_7 => ?_)
            · refine rch_run cdK49 (by decide) 2 (t' := (8, [some (vR 61), some (vR 44), some (vR 17), some (vR 49), some (vR 13), some (vI p), some (vI f), some (vI (r + 1)), some (vI ((r * 6) + f))], [], MW b J L)) (ps := [i32 (r + 1)]) rfl (by (try have hQ8 := hQ9 (by omega) (by omega)); simp only [all_, i32, i64]; first | omega | (simp; done) | (simp; omega)) ?_
              refine rch_forget [8] ?_
              show Rch l E 2 49 _ _ _ _ (8, [some (vR 61), some (vR 44), some (vR 17), some (vR 49), some (vR 13), some (vI p), some (vI f), some (vI (r + 1)), none], [], MW b J L)
              exact ih (r + 1) J (by omega) (by omega) (Vg_no h3 (by omega) (by omega)) (by omega)
            · have hQ7 := hQ9 (by omega) (by omega)
              refine rch_run cdK49 (by decide) 25 (t' := (101, [some (vR 61), some (vR 44), some (vR 17), some (vR 49), some (vR 13), some (vI p), some (vI f), some (vI r), some (vI ((r * 6) + f))], [vR 61], MW b (upI (upI (upI J 62 (J 61 3).toNat r) 63 (J 61 3).toNat (J 46 ((r * 6) + f).toNat)) 64 (J 61 3).toNat (J 47 ((r * 6) + f).toNat)) L)) (ps := [0 ≤ J 61 3 ∧ J 61 3 < ((10 : Nat) : Int), 0 ≤ (r * 6) + f ∧ (r * 6) + f < ((60 : Nat) : Int), 0 ≤ J 61 3 ∧ J 61 3 < ((10 : Nat) : Int), 0 ≤ (r * 6) + f ∧ (r * 6) + f < ((60 : Nat) : Int), 0 ≤ J 61 3 ∧ J 61 3 < ((10 : Nat) : Int)]) rfl (by (try have hQ8 := hQ9 (by omega) (by omega)); simp only [all_, i32, i64]; first | omega | (simp; done) | (simp; omega)) ?_
              refine rch_run cdK49 (by decide) 18 (t' := (133, [some (vR 61), some (vR 44), some (vR 17), some (vR 49), some (vR 13), some (vI p), some (vI f), some (vI r), some (vI ((r * 6) + f))], [vL ((J 44 0) - (J 47 ((r * 6) + f).toNat)), vI f, vI (J 18 r.toNat), vR 13, vI (J 61 3), vR 65], MW b (upI (upI (upI J 62 (J 61 3).toNat r) 63 (J 61 3).toNat (J 46 ((r * 6) + f).toNat)) 64 (J 61 3).toNat (J 47 ((r * 6) + f).toNat)) L)) (ps := [0 ≤ r ∧ r < ((10 : Nat) : Int), 0 ≤ (r * 6) + f ∧ (r * 6) + f < ((60 : Nat) : Int), i64 ((J 44 0) - (J 47 ((r * 6) + f).toNat))]) rfl (by (try have hQ8 := hQ9 (by omega) (by omega)); simp only [all_, i32, i64]; first | omega | (simp; done) | (simp; omega)) ?_
              have e14f : ∀ a j, a = 14 ∨ a = 15 → ((upI (upI (upI J 62 (J 61 3).toNat r) 63 (J 61 3).toNat (J 46 ((r * 6) + f).toNat)) 64 (J 61 3).toNat (J 47 ((r * 6) + f).toNat))) a j = I a j := fun a j ha => by rw [upI_ne (by omega), upI_ne (by omega), upI_ne (by omega)]; exact hf9 a j (by omega)
              refine rch_call (h' := 1) (k' := 57) (as := [vR 13, vI (J 18 r.toNat), vI f, vL ((J 44 0) - (J 47 ((r * 6) + f).toNat))]) (t1 := (136, [some (vR 61), some (vR 44), some (vR 17), some (vR 49), some (vR 13), some (vI p), some (vI f), some (vI r), some (vI ((r * 6) + f))], [vI (J 61 3), vR 65], MW b (upI (upI (upI J 62 (J 61 3).toNat r) 63 (J 61 3).toNat (J 46 ((r * 6) + f).toNat)) 64 (J 61 3).toNat (J 47 ((r * 6) + f).toNat)) L)) cdK49 rfl (k_weight l E b (upI (upI (upI J 62 (J 61 3).toNat r) 63 (J 61 3).toNat (J 46 ((r * 6) + f).toNat)) 64 (J 61 3).toNat (J 47 ((r * 6) + f).toNat)) L (J 18 r.toNat) f ((J 44 0) - (J 47 ((r * 6) + f).toNat)) (by omega) (by omega) (by rw [e14f 14 _ (by omega)]; exact hK.2.2.1 _ (by omega)) (by rw [e14f 15 _ (by omega)]; exact hK.2.2.2.1 _ (by omega))) (by decide) mw_le ?_
              rintro rt9 w9 (⟨k9, e9, rfl⟩ | ⟨k9, e9, rfl⟩) _ _
              · have e8 : rt9 = some (vI (vW I f r.toNat)) := by
                  rw [e14f 14 _ (by omega), e14f 15 _ (by omega), q18, q44, q47] at k9 e9
                  unfold vW
                  rw [show ((r.toNat : Nat) : Int) = r by omega, if_pos k9, e9, w32_id]
                  have b1 := hK.2.2.1 (((I 18 r.toNat) * 6) + f).toNat (by have := hQ9 (by omega) (by omega); omega)
                  have b3 : 0 ≤ (I 15 f.toNat) * ((I 44 0) - (I 47 ((r * 6) + f).toNat)) := Int.mul_nonneg (hK.2.2.2.1 _ (by omega)).1 (by have := hQ9 (by omega) (by omega); omega)
                  unfold i32
                  generalize (I 15 f.toNat) * ((I 44 0) - (I 47 ((r * 6) + f).toNat)) = z at *
                  omega
                subst e8
                show Rch l E 2 49 _ _ _ _ (136, [some (vR 61), some (vR 44), some (vR 17), some (vR 49), some (vR 13), some (vI p), some (vI f), some (vI r), some (vI ((r * 6) + f))], [vI (vW I f r.toNat), vI (J 61 3), vR 65], MW b (upI (upI (upI J 62 (J 61 3).toNat r) 63 (J 61 3).toNat (J 46 ((r * 6) + f).toNat)) 64 (J 61 3).toNat (J 47 ((r * 6) + f).toNat)) L)
                refine rch_run cdK49 (by decide) 9 (t' := (8, [some (vR 61), some (vR 44), some (vR 17), some (vR 49), some (vR 13), some (vI p), some (vI f), some (vI (r + 1)), some (vI ((r * 6) + f))], [], MW b (upI (upI (upI (upI (upI J 62 (J 61 3).toNat r) 63 (J 61 3).toNat (J 46 ((r * 6) + f).toNat)) 64 (J 61 3).toNat (J 47 ((r * 6) + f).toNat)) 65 (J 61 3).toNat (vW I f r.toNat)) 61 3 ((J 61 3) + 1)) L)) (ps := [0 ≤ J 61 3 ∧ J 61 3 < ((10 : Nat) : Int), i32 ((J 61 3) + 1), i32 (r + 1)]) rfl (by (try have hQ8 := hQ9 (by omega) (by omega)); simp only [all_, i32, i64]; first | omega | (simp; done) | (simp; omega)) ?_
                refine rch_forget [8] ?_
                show Rch l E 2 49 _ _ _ _ (8, [some (vR 61), some (vR 44), some (vR 17), some (vR 49), some (vR 13), some (vI p), some (vI f), some (vI (r + 1)), none], [], MW b (upI (upI (upI (upI (upI J 62 (J 61 3).toNat r) 63 (J 61 3).toNat (J 46 ((r * 6) + f).toNat)) 64 (J 61 3).toNat (J 47 ((r * 6) + f).toNat)) 65 (J 61 3).toNat (vW I f r.toNat)) 61 3 ((J 61 3) + 1)) L)
                exact ih (r + 1) _ (by omega) (by omega) (Vg_yes h3 (by omega) (by omega) rfl rfl) (by omega)
              · have e8 : rt9 = some (vI (vW I f r.toNat)) := by
                  rw [e14f 14 _ (by omega), e14f 15 _ (by omega), q18, q44, q47] at k9
                  unfold vW
                  rw [show ((r.toNat : Nat) : Int) = r by omega, if_neg (by generalize (I 15 f.toNat) * ((I 44 0) - (I 47 ((r * 6) + f).toNat)) = z at *; omega), e9]
                subst e8
                show Rch l E 2 49 _ _ _ _ (136, [some (vR 61), some (vR 44), some (vR 17), some (vR 49), some (vR 13), some (vI p), some (vI f), some (vI r), some (vI ((r * 6) + f))], [vI (vW I f r.toNat), vI (J 61 3), vR 65], MW b (upI (upI (upI J 62 (J 61 3).toNat r) 63 (J 61 3).toNat (J 46 ((r * 6) + f).toNat)) 64 (J 61 3).toNat (J 47 ((r * 6) + f).toNat)) L)
                refine rch_run cdK49 (by decide) 9 (t' := (8, [some (vR 61), some (vR 44), some (vR 17), some (vR 49), some (vR 13), some (vI p), some (vI f), some (vI (r + 1)), some (vI ((r * 6) + f))], [], MW b (upI (upI (upI (upI (upI J 62 (J 61 3).toNat r) 63 (J 61 3).toNat (J 46 ((r * 6) + f).toNat)) 64 (J 61 3).toNat (J 47 ((r * 6) + f).toNat)) 65 (J 61 3).toNat (vW I f r.toNat)) 61 3 ((J 61 3) + 1)) L)) (ps := [0 ≤ J 61 3 ∧ J 61 3 < ((10 : Nat) : Int), i32 ((J 61 3) + 1), i32 (r + 1)]) rfl (by (try have hQ8 := hQ9 (by omega) (by omega)); simp only [all_, i32, i64]; first | omega | (simp; done) | (simp; omega)) ?_
                refine rch_forget [8] ?_
                show Rch l E 2 49 _ _ _ _ (8, [some (vR 61), some (vR 44), some (vR 17), some (vR 49), some (vR 13), some (vI p), some (vI f), some (vI (r + 1)), none], [], MW b (upI (upI (upI (upI (upI J 62 (J 61 3).toNat r) 63 (J 61 3).toNat (J 46 ((r * 6) + f).toNat)) 64 (J 61 3).toNat (J 47 ((r * 6) + f).toNat)) 65 (J 61 3).toNat (vW I f r.toNat)) 61 3 ((J 61 3) + 1)) L)
                exact ih (r + 1) _ (by omega) (by omega) (Vg_yes h3 (by omega) (by omega) rfl rfl) (by omega)

set_option maxHeartbeats 20000000 in
set_option maxRecDepth 100000 in
theorem k_vgather (l : Launch) (E : AX) (b : Bool) (I L : Nat → Nat → Int) (p f : Int) (hK : VgK I p f) : Con l E 2 49 [vR 61, vR 44, vR 17, vR 49, vR 13, vI p, vI f] (MW b I L) 0 0 (fun rt w => ∃ J, rt = none ∧ w = MW b J L ∧ VgL I J p f 10) := by
  refine con_ok (fun hw9 hs9 => ?_)
  refine con_intro (by decide) (Nat.le_of_ble_eq_true rfl) ?_
  show Rch l E 2 49 _ _ _ _ (0, [some (vR 61), some (vR 44), some (vR 17), some (vR 49), some (vR 13), some (vI p), some (vI f), none, none], [], MW b I L)
  refine rch_run cdK49 (by decide) 5 (t' := (8, [some (vR 61), some (vR 44), some (vR 17), some (vR 49), some (vR 13), some (vI p), some (vI f), some (vI 0), none], [], MW b (upI I 61 3 0) L)) (ps := []) rfl trivial ?_
  exact lp_vgather l E b I L p f hK 11 0 _ (by omega) (by omega) ⟨fun a j ha => upI_ne (by omega), upI_eq rfl rfl, fun q hq => absurd hq (by simp)⟩ (by omega)
