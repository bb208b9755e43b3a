theorem cmc_t {c : Int} (h : c ≠ 5 ∧ c ≠ 6 ∧ c ≠ 7) : cmc c ≠ 3 ∧ cmc c ≠ 4 ∧ cmc c ≠ 5 := by
  unfold cmc
  rw [if_neg h.1, if_neg h.2.2, if_neg h.2.1]
  split
  · decide
  · split <;> decide

set_option maxHeartbeats 20000000 in
set_option maxRecDepth 100000 in
theorem lp_holds (l : Launch) (E : AX) (b : Bool) (I L : Nat → Nat → Int) (li p q d k : Int) (hli : 0 ≤ li ∧ li < 10) (hp : (0 ≤ p ∧ p < 10) ∧ 0 ≤ q ∧ q < 10) (hver : 0 ≤ I 74 5 ∧ I 74 5 ≤ 150) (hb : 0 ≤ (I 90 li.toNat) ∧ (I 90 li.toNat) ≤ (I 90 (li + 1).toNat) ∧ (I 90 (li + 1).toNat) ≤ 500) (hw : WFs (fun j => cmc (I 87 j)) (I 90 li.toNat).toNat ((I 90 (li + 1).toNat) - (I 90 li.toNat)).toNat) (hc : ∀ j : Nat, (I 90 li.toNat) ≤ j → (j : Int) < (I 90 (li + 1).toNat) → 1 ≤ I 87 j ∧ I 87 j ≤ 7) (hvp : ∀ f : Int, (-1 ≤ vo (I 81) (I 82) (I 83) (I 84) (I 85) p f d k (I 74 5).toNat ∧ vo (I 81) (I 82) (I 83) (I 84) (I 85) p f d k (I 74 5).toNat ≤ 999999) ∧ -1 ≤ vo (I 81) (I 82) (I 83) (I 84) (I 85) q f d k (I 74 5).toNat ∧ vo (I 81) (I 82) (I 83) (I 84) (I 85) q f d k (I 74 5).toNat ≤ 999999) : ∀ (n9 : Nat) (i n : Int) (J : Nat → Nat → Int) (s : List Bool), (I 90 li.toNat) ≤ i → i ≤ (I 90 (li + 1).toNat) → (∀ a i, a ≠ 99 → J a i = I a i) → s = evs (fun j => cmc (I 87 j)) (fun j => tmB (I 87 j) (I 89 j) (vo (I 81) (I 82) (I 83) (I 84) (I 85) p (I 88 j) d k (I 74 5).toNat) (vo (I 81) (I 82) (I 83) (I 84) (I 85) q (I 88 j) d k (I 74 5).toNat) (I 78 p.toNat) (I 78 q.toNat)) (I 90 li.toNat).toNat (i - (I 90 li.toNat)).toNat → n = (s.length : Int) → Pil J s → (I 90 (li + 1).toNat) - i < (n9 : Int) → Rch l E 3 139 (MW b I L) 0 0 (fun rt w => ∃ J, w = MW b J L ∧ (∀ a i, a ≠ 99 → J a i = I a i) ∧ rt = some (vI (b2i ((evs (fun j => cmc (I 87 j)) (fun j => tmB (I 87 j) (I 89 j) (vo (I 81) (I 82) (I 83) (I 84) (I 85) p (I 88 j) d k (I 74 5).toNat) (vo (I 81) (I 82) (I 83) (I 84) (I 85) q (I 88 j) d k (I 74 5).toNat) (I 78 p.toNat) (I 78 q.toNat)) (I 90 li.toNat).toNat ((I 90 (li + 1).toNat) - (I 90 li.toNat)).toNat).headD false)))) (11, [some (vR 74), some (vI li), some (vI p), some (vI q), some (vI d), some (vI k), some (vI n), some (vI i), none, none, none, none], [], MW b J L) := by
  intro n9
  induction n9 with
  | zero =>
    intro i n J s h1 h2 h3 h4 h5 h6 hm
    exfalso; omega
  | succ n9 ih =>
    intro i n J s h1 h2 h3 h4 h5 h6 hm
    have hl9 : ∀ _ : Unit, (s.length : Int) = dep (fun j => cmc (I 87 j)) (I 90 li.toNat).toNat (i - (I 90 li.toNat)).toNat := fun _ => by rw [h4]; exact evs_len (T := (fun j => tmB (I 87 j) (I 89 j) (vo (I 81) (I 82) (I 83) (I 84) (I 85) p (I 88 j) d k (I 74 5).toNat) (vo (I 81) (I 82) (I 83) (I 84) (I 85) q (I 88 j) d k (I 74 5).toNat) (I 78 p.toNat) (I 78 q.toNat))) hw (i - (I 90 li.toNat)).toNat (by omega)
    have hd9 : i < (I 90 (li + 1).toNat) → _ := fun z => hw.1 (i - (I 90 li.toNat)).toNat (by omega)
    have q87 := h3 87 i.toNat (by omega)
    have q90 := h3 90 (li + 1).toNat (by omega)
    have hn9 : (I 90 li.toNat).toNat + (i - (I 90 li.toNat)).toNat = i.toNat := by omega
    have he9 : (i + 1 - (I 90 li.toNat)).toNat = (i - (I 90 li.toNat)).toNat + 1 := by omega
    have hm9 : i < (I 90 (li + 1).toNat) → (I 87 i.toNat = 5 → 1 ≤ n) ∧ (I 87 i.toNat = 6 ∨ I 87 i.toNat = 7 → 2 ≤ n) ∧ n ≤ 40 := by
      intro z
      have y := hd9 z
      have hl8 := hl9 ()
      have e8 : cmc (I 87 ((I 90 li.toNat).toNat + (i - (I 90 li.toNat)).toNat)) = cmc (I 87 i.toNat) := by rw [hn9]
      refine ⟨fun c5 => ?_, fun c6 => ?_, by have := y.2.2; omega⟩
      · have := y.1 (e8.trans (by unfold cmc; rw [if_pos c5])); omega
      · have := y.2.1 (by rcases c6 with c6 | c6; exact Or.inr (e8.trans (by rw [c6]; rfl)); exact Or.inl (e8.trans (by rw [c6]; rfl))); omega
    have hst : ∀ (s2 : List Bool) (n2 : Int) (J2 : Nat → Nat → Int), i < (I 90 (li + 1).toNat) → s2 = stp (cmc (I 87 i.toNat)) ((fun j => tmB (I 87 j) (I 89 j) (vo (I 81) (I 82) (I 83) (I 84) (I 85) p (I 88 j) d k (I 74 5).toNat) (vo (I 81) (I 82) (I 83) (I 84) (I 85) q (I 88 j) d k (I 74 5).toNat) (I 78 p.toNat) (I 78 q.toNat)) i.toNat) s → n2 = (s2.length : Int) → (∀ a z, a ≠ 99 → J2 a z = J a z) → Pil J2 s2 → Rch l E 3 139 (MW b I L) 0 0 (fun rt w => ∃ J, w = MW b J L ∧ (∀ a i, a ≠ 99 → J a i = I a i) ∧ rt = some (vI (b2i ((evs (fun j => cmc (I 87 j)) (fun j => tmB (I 87 j) (I 89 j) (vo (I 81) (I 82) (I 83) (I 84) (I 85) p (I 88 j) d k (I 74 5).toNat) (vo (I 81) (I 82) (I 83) (I 84) (I 85) q (I 88 j) d k (I 74 5).toNat) (I 78 p.toNat) (I 78 q.toNat)) (I 90 li.toNat).toNat ((I 90 (li + 1).toNat) - (I 90 li.toNat)).toNat).headD false)))) (11, [some (vR 74), some (vI li), some (vI p), some (vI q), some (vI d), some (vI k), some (vI n2), some (vI (i + 1)), none, none, none, none], [], MW b J2 L) := fun s2 n2 J2 hlt e1 e2 e3 e4 => ih (i + 1) n2 J2 s2 (by omega) (by omega) (fun a z hz => by rw [e3 a z hz]; exact h3 a z hz) (by rw [he9, evs_s, ← h4, hn9]; exact e1) e2 e4 (by omega)
    refine rch_run cdK139 (by decide) 7 (t' := (21, [some (vR 74), some (vI li), some (vI p), some (vI q), some (vI d), some (vI k), some (vI n), some (vI i), none, none, none, none], [vI (J 90 (li + 1).toNat), vI i], MW b J L)) (ps := [i32 (li + 1), 0 ≤ li + 1 ∧ li + 1 < ((11 : Nat) : Int)]) rfl (by simp only [all_, i32, i64]; first | omega | (simp; done) | (simp; omega)) ?_
    refine rch_br cdK139 (cd := J 90 (li + 1).toNat ≤ i) (t1 := (341, [some (vR 74), some (vI li), some (vI p), some (vI q), some (vI d), some (vI k), some (vI n), some (vI i), none, none, none, none], [], MW b J L)) (t2 := (24, [some (vR 74), some (vI li), some (vI p), some (vI q), some (vI d), some (vI k), some (vI n), some (vI i), none, none, none, none], [], MW b J L)) rfl (fun c21_1 => ?_) (fun c21_1 => ?_)
    · refine rch_run cdK139 (by decide) 4 (t' := (347, [some (vR 74), some (vI li), some (vI p), some (vI q), some (vI d), some (vI k), some (vI n), some (vI i), none, none, none, none], [vI (J 99 0)], MW b J L)) (ps := [0 ≤ (0 : Int) ∧ (0 : Int) < ((100 : Nat) : Int)]) rfl (by simp only [all_, i32, i64]; first | omega | (simp; done) | (simp; omega)) ?_
      have hl9 := hl9 ()
      obtain ⟨x9, r9, hs9⟩ := len1 (s := s) (by rw [hl9]; have := hw.2; rw [show ((I 90 (li + 1).toNat) - (I 90 li.toNat)).toNat = (i - (I 90 li.toNat)).toNat by omega] at this; omega)
      have hw2 := hw.2
      rw [show ((I 90 (li + 1).toNat) - (I 90 li.toNat)).toNat = (i - (I 90 li.toNat)).toNat by omega] at hw2
      rw [hs9] at hl9 h6
      have hl8 : ((r9.length + 1 : Nat) : Int) = _ := hl9
      have t1 := Pil_top h6
      rw [show r9.length = 0 by omega] at t1
      have t3 := b2i_01 x9
      refine rch_ret cdK139 (rt := some (vI (J 99 0))) rfl (by show _ ∨ _; omega) mw_c ?_
      refine ⟨J, rfl, h3, ?_⟩
      rw [show ((I 90 (li + 1).toNat) - (I 90 li.toNat)).toNat = (i - (I 90 li.toNat)).toNat by omega, ← h4, hs9]
      show some (vI (J 99 0)) = some (vI (b2i x9))
      rw [t1]
    · refine rch_run cdK139 (by decide) 7 (t' := (36, [some (vR 74), some (vI li), some (vI p), some (vI q), some (vI d), some (vI k), some (vI n), some (vI i), some (vI (J 87 i.toNat)), none, none, none], [vI 5, vI (J 87 i.toNat)], MW b J L)) (ps := [0 ≤ i ∧ i < ((500 : Nat) : Int)]) rfl (by simp only [all_, i32, i64]; first | omega | (simp; done) | (simp; omega)) ?_
      refine rch_br cdK139 (cd := J 87 i.toNat ≠ (5 : Int)) (t1 := (68, [some (vR 74), some (vI li), some (vI p), some (vI q), some (vI d), some (vI k), some (vI n), some (vI i), some (vI (J 87 i.toNat)), none, none, none], [], MW b J L)) (t2 := (39, [some (vR 74), some (vI li), some (vI p), some (vI q), some (vI d), some (vI k), some (vI n), some (vI i), some (vI (J 87 i.toNat)), none, none, none], [], MW b J L)) rfl (fun c36_2 => ?_) (fun c36_2 => ?_)
      · refine rch_run cdK139 (by decide) 2 (t' := (72, [some (vR 74), some (vI li), some (vI p), some (vI q), some (vI d), some (vI k), some (vI n), some (vI i), some (vI (J 87 i.toNat)), none, none, none], [vI 6, vI (J 87 i.toNat)], MW b J L)) (ps := []) rfl trivial ?_
        refine rch_br cdK139 (cd := J 87 i.toNat = (6 : Int)) (t1 := (82, [some (vR 74), some (vI li), some (vI p), some (vI q), some (vI d), some (vI k), some (vI n), some (vI i), some (vI (J 87 i.toNat)), none, none, none], [], MW b J L)) (t2 := (75, [some (vR 74), some (vI li), some (vI p), some (vI q), some (vI d), some (vI k), some (vI n), some (vI i), some (vI (J 87 i.toNat)), none, none, none], [], MW b J L)) rfl (fun c72_3 => ?_) (fun c72_3 => ?_)
        · have hm8 := hm9 (by omega)
          refine hs_ao l E b I J L li p q d k n i (J 87 i.toNat) _ (by omega) (by omega) (fun z z1 z2 z3 => ?_)
          obtain ⟨x9, y9, r9, rfl⟩ := len2 (s := s) (by omega)
          have h5b : n = ((r9.length + 1 + 1 : Nat) : Int) := h5
          have t1 := Pil_top h6
          have t2 := Pil_top (Pil_tail h6)
          rw [show (y9 :: r9).length = (n + (-1)).toNat by simp; omega] at t1
          rw [show r9.length = ((n + (-1)) - 1).toNat by omega] at t2
          have zt : b2i true = 1 := rfl
          have zf : b2i false = 0 := rfl
          rw [q87] at z2 z3
          by_cases c6 : I 87 i.toNat = 6
          · have z2 := z2 c6
            refine hst ((y9 || x9) :: r9) _ _ (by omega) (by rw [c6]; rfl) (by simp; omega) (fun a z hz => upI_ne (by omega)) (Pil_set (Pil_tail h6) _ ?_ (by omega))
            cases x9 <;> cases y9 <;> first | (show z = 1; omega) | (show z = 0; omega)
          · have z3 := z3 c6
            have c7 : I 87 i.toNat = 7 := by omega
            refine hst ((y9 && x9) :: r9) _ _ (by omega) (by rw [c7]; rfl) (by simp; omega) (fun a z hz => upI_ne (by omega)) (Pil_set (Pil_tail h6) _ ?_ (by omega))
            cases x9 <;> cases y9 <;> first | (show z = 1; omega) | (show z = 0; omega)
        · refine rch_run cdK139 (by decide) 2 (t' := (79, [some (vR 74), some (vI li), some (vI p), some (vI q), some (vI d), some (vI k), some (vI n), some (vI i), some (vI (J 87 i.toNat)), none, none, none], [vI 7, vI (J 87 i.toNat)], MW b J L)) (ps := []) rfl trivial ?_
          refine rch_br cdK139 (cd := J 87 i.toNat ≠ (7 : Int)) (t1 := (161, [some (vR 74), some (vI li), some (vI p), some (vI q), some (vI d), some (vI k), some (vI n), some (vI i), some (vI (J 87 i.toNat)), none, none, none], [], MW b J L)) (t2 := (82, [some (vR 74), some (vI li), some (vI p), some (vI q), some (vI d), some (vI k), some (vI n), some (vI i), some (vI (J 87 i.toNat)), none, none, none], [], MW b J L)) rfl (fun c79_4 => ?_) (fun c79_4 => ?_)
          · have hm8 := hm9 (by omega)
            have hvo : ∀ u f : Int, vo (J 81) (J 82) (J 83) (J 84) (J 85) u f d k (J 74 5).toNat = vo (I 81) (I 82) (I 83) (I 84) (I 85) u f d k (I 74 5).toNat := fun u f => by rw [show J 81 = I 81 from funext (fun z => h3 81 z (by omega)), show J 82 = I 82 from funext (fun z => h3 82 z (by omega)), show J 83 = I 83 from funext (fun z => h3 83 z (by omega)), show J 84 = I 84 from funext (fun z => h3 84 z (by omega)), show J 85 = I 85 from funext (fun z => h3 85 z (by omega)), h3 74 5 (by omega)]
            refine hs_t1 l E b I J L li p q d k n i (J 87 i.toNat) _ (by rw [h3 74 5 (by omega)]; exact hver) (by rw [hvo, hvo]; exact hvp _) (by omega) (by omega) hp (fun z z1 z2 => ?_)
            rw [hvo, hvo, q87, h3 88 i.toNat (by omega), h3 89 i.toNat (by omega), h3 78 p.toNat (by omega), h3 78 q.toNat (by omega)] at z2
            refine hst ((fun j => tmB (I 87 j) (I 89 j) (vo (I 81) (I 82) (I 83) (I 84) (I 85) p (I 88 j) d k (I 74 5).toNat) (vo (I 81) (I 82) (I 83) (I 84) (I 85) q (I 88 j) d k (I 74 5).toNat) (I 78 p.toNat) (I 78 q.toNat)) i.toNat :: s) _ _ (by omega) (stp_t (cmc_t (by omega))).symm (by rw [h5]; simp) (fun a z hz => upI_ne (by omega)) (Pil_push h6 _ z2 (by omega))
          · have hm8 := hm9 (by omega)
            refine hs_ao l E b I J L li p q d k n i (J 87 i.toNat) _ (by omega) (by omega) (fun z z1 z2 z3 => ?_)
            obtain ⟨x9, y9, r9, rfl⟩ := len2 (s := s) (by omega)
            have h5b : n = ((r9.length + 1 + 1 : Nat) : Int) := h5
            have t1 := Pil_top h6
            have t2 := Pil_top (Pil_tail h6)
            rw [show (y9 :: r9).length = (n + (-1)).toNat by simp; omega] at t1
            rw [show r9.length = ((n + (-1)) - 1).toNat by omega] at t2
            have zt : b2i true = 1 := rfl
            have zf : b2i false = 0 := rfl
            rw [q87] at z2 z3
            by_cases c6 : I 87 i.toNat = 6
            · have z2 := z2 c6
              refine hst ((y9 || x9) :: r9) _ _ (by omega) (by rw [c6]; rfl) (by simp; omega) (fun a z hz => upI_ne (by omega)) (Pil_set (Pil_tail h6) _ ?_ (by omega))
              cases x9 <;> cases y9 <;> first | (show z = 1; omega) | (show z = 0; omega)
            · have z3 := z3 c6
              have c7 : I 87 i.toNat = 7 := by omega
              refine hst ((y9 && x9) :: r9) _ _ (by omega) (by rw [c7]; rfl) (by simp; omega) (fun a z hz => upI_ne (by omega)) (Pil_set (Pil_tail h6) _ ?_ (by omega))
              cases x9 <;> cases y9 <;> first | (show z = 1; omega) | (show z = 0; omega)
      · have hm8 := hm9 (by omega)
        have c5 : I 87 i.toNat = 5 := by omega
        refine hs_not l E b I J L li p q d k n i (J 87 i.toNat) _ (by omega) (by omega) (fun z z1 z2 z3 => ?_)
        obtain ⟨x9, r9, rfl⟩ := len1 (s := s) (by omega)
        have h5b : n = ((r9.length + 1 : Nat) : Int) := h5
        have t1 := Pil_top h6
        rw [show r9.length = (n - 1).toNat by omega] at t1
        have zt : b2i true = 1 := rfl
        have zf : b2i false = 0 := rfl
        refine hst ((!x9) :: r9) n _ (by omega) (by rw [c5]; rfl) h5 (fun a z hz => upI_ne (by omega)) (Pil_set h6 _ ?_ (by omega))
        cases x9
        · show z = 1; omega
        · show z = 0; omega

set_option maxHeartbeats 20000000 in
set_option maxRecDepth 100000 in
theorem k_holds (l : Launch) (E : AX) (b : Bool) (I L : Nat → Nat → Int) (li p q d k : Int) (hli : 0 ≤ li ∧ li < 10) (hp : (0 ≤ p ∧ p < 10) ∧ 0 ≤ q ∧ q < 10) (hver : 0 ≤ I 74 5 ∧ I 74 5 ≤ 150) (hb : 0 ≤ (I 90 li.toNat) ∧ (I 90 li.toNat) ≤ (I 90 (li + 1).toNat) ∧ (I 90 (li + 1).toNat) ≤ 500) (hw : WFs (fun j => cmc (I 87 j)) (I 90 li.toNat).toNat ((I 90 (li + 1).toNat) - (I 90 li.toNat)).toNat) (hc : ∀ j : Nat, (I 90 li.toNat) ≤ j → (j : Int) < (I 90 (li + 1).toNat) → 1 ≤ I 87 j ∧ I 87 j ≤ 7) (hvp : ∀ f : Int, (-1 ≤ vo (I 81) (I 82) (I 83) (I 84) (I 85) p f d k (I 74 5).toNat ∧ vo (I 81) (I 82) (I 83) (I 84) (I 85) p f d k (I 74 5).toNat ≤ 999999) ∧ -1 ≤ vo (I 81) (I 82) (I 83) (I 84) (I 85) q f d k (I 74 5).toNat ∧ vo (I 81) (I 82) (I 83) (I 84) (I 85) q f d k (I 74 5).toNat ≤ 999999) : Con l E 3 139 [vR 74, vI li, vI p, vI q, vI d, vI k] (MW b I L) 0 0 (fun rt w => ∃ J, w = MW b J L ∧ (∀ a i, a ≠ 99 → J a i = I a i) ∧ rt = some (vI (b2i ((evs (fun j => cmc (I 87 j)) (fun j => tmB (I 87 j) (I 89 j) (vo (I 81) (I 82) (I 83) (I 84) (I 85) p (I 88 j) d k (I 74 5).toNat) (vo (I 81) (I 82) (I 83) (I 84) (I 85) q (I 88 j) d k (I 74 5).toNat) (I 78 p.toNat) (I 78 q.toNat)) (I 90 li.toNat).toNat ((I 90 (li + 1).toNat) - (I 90 li.toNat)).toNat).headD false)))) := by
  refine con_ok (fun hw9 hs9 => ?_)
  refine con_intro (by decide) (Nat.le_of_ble_eq_true rfl) ?_
  show Rch l E 3 139 _ _ _ _ (0, [some (vR 74), some (vI li), some (vI p), some (vI q), some (vI d), some (vI k), none, none, none, none, none, none], [], MW b I L)
  refine rch_run cdK139 (by decide) 7 (t' := (11, [some (vR 74), some (vI li), some (vI p), some (vI q), some (vI d), some (vI k), some (vI 0), some (vI (I 90 li.toNat)), none, none, none, none], [], MW b I L)) (ps := [0 ≤ li ∧ li < ((11 : Nat) : Int)]) rfl (by simp only [all_, i32, i64]; first | omega | (simp; done) | (simp; omega)) ?_
  exact lp_holds l E b I L li p q d k hli hp hver hb hw hc hvp 501 (I 90 li.toNat) 0 I [] (by omega) (by omega) (fun _ _ _ => rfl) (by rw [show ((I 90 li.toNat) - (I 90 li.toNat)).toNat = 0 by omega]; rfl) rfl (Pil_0 I) (by omega)
