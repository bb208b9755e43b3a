theorem lp_isMet_1 (l : Launch) (E : AX) (b : Bool) (I L : Nat → Nat → Int) (fi be p q : Int) (hb : 0 ≤ fi ∧ fi ≤ be ∧ be ≤ 250) (hp : (0 ≤ p ∧ p < 10) ∧ 0 ≤ q ∧ q < 10) (hw : WFs (I 4) fi.toNat (be - fi).toNat) (hf : ∀ j : Nat, fi ≤ j → (j : Int) < be → 0 ≤ I 5 j ∧ I 5 j ≤ 5) (hv : ∀ c, c < 60 → -1 ≤ I 46 c ∧ I 46 c ≤ 999999) : ∀ (n9 : Nat) (i : Int) (s : List Bool), fi ≤ i → i ≤ be → s = evs (I 4) (fun j => tstB (I 4 j) (I 6 j) (I 46 ((p * 6) + (I 5 j)).toNat) (I 46 ((q * 6) + (I 5 j)).toNat) (I 18 p.toNat) (I 18 q.toNat)) fi.toNat (i - fi).toNat → be - i < (n9 : Int) → Rch l E 2 5 (MW b I L) 0 0 (fun rt w => rt = some (vI (b2i ((evs (I 4) (fun j => tstB (I 4 j) (I 6 j) (I 46 ((p * 6) + (I 5 j)).toNat) (I 46 ((q * 6) + (I 5 j)).toNat) (I 18 p.toNat) (I 18 q.toNat)) fi.toNat (be - fi).toNat).headD false))) ∧ w = MW b I L) (6, [some (vR 1), some (vI fi), some (vI be), some (vR 44), some (vR 17), some (vI p), some (vI q), some (vL ((enc s : Nat) : Int)), none, some (vI i)], [], MW b I L) := by
  intro n9
  induction n9 with
  | zero =>
    intro i s h1 h2 h3 hm
    exfalso; omega
  | succ n9 ih =>
    intro i s h1 h2 h3 hm
    have hl9 := evs_len (T := (fun j => tstB (I 4 j) (I 6 j) (I 46 ((p * 6) + (I 5 j)).toNat) (I 46 ((q * 6) + (I 5 j)).toNat) (I 18 p.toNat) (I 18 q.toNat))) hw (i - fi).toNat (by omega)
    rw [← h3] at hl9
    have hd9 : i < be → _ := fun z => hw.1 (i - fi).toNat (by omega)
    refine rch_run rfl (by decide) 2 (t' := (9, [some (vR 1), some (vI fi), some (vI be), some (vR 44), some (vR 17), some (vI p), some (vI q), some (vL ((enc s : Nat) : Int)), none, some (vI i)], [vI be, vI i], MW b I L)) (ps := []) rfl trivial ?_
    refine rch_br rfl (cd := be ≤ i) (t1 := (117, [some (vR 1), some (vI fi), some (vI be), some (vR 44), some (vR 17), some (vI p), some (vI q), some (vL ((enc s : Nat) : Int)), none, some (vI i)], [], MW b I L)) (t2 := (12, [some (vR 1), some (vI fi), some (vI be), some (vR 44), some (vR 17), some (vI p), some (vI q), some (vL ((enc s : Nat) : Int)), none, some (vI i)], [], MW b I L)) rfl (fun c9_1 => ?_) (fun c9_1 => ?_)
    · refine rch_run rfl (by decide) 5 (t' := (123, [some (vR 1), some (vI fi), some (vI be), some (vR 44), some (vR 17), some (vI p), some (vI q), some (vL ((enc s : Nat) : Int)), none, some (vI i)], [vI (lCmp (lAnd ((enc s : Nat) : Int) 1) 1)], MW b I L)) (ps := []) rfl trivial ?_
      refine rch_br rfl (cd := lCmp (lAnd ((enc s : Nat) : Int) 1) 1 ≠ 0) (t1 := (130, [some (vR 1), some (vI fi), some (vI be), some (vR 44), some (vR 17), some (vI p), some (vI q), some (vL ((enc s : Nat) : Int)), none, some (vI i)], [], MW b I L)) (t2 := (126, [some (vR 1), some (vI fi), some (vI be), some (vR 44), some (vR 17), some (vI p), some (vI q), some (vL ((enc s : Nat) : Int)), none, some (vI i)], [], MW b I L)) rfl (fun c123_2 => ?_) (fun c123_2 => ?_)
      · refine rch_run rfl (by decide) 1 (t' := (131, [some (vR 1), some (vI fi), some (vI be), some (vR 44), some (vR 17), some (vI p), some (vI q), some (vL ((enc s : Nat) : Int)), none, some (vI i)], [vI 0], MW b I L)) (ps := []) rfl trivial ?_
        refine rch_ret rfl (rt := some (vI 0)) rfl (Or.inl rfl) mw_c ?_
        obtain ⟨x9, r9, hs9⟩ := len1 (s := s) (by rw [hl9]; have := hw.2; rw [show (be - fi).toNat = (i - fi).toNat by omega] at this; omega)
        rw [show (be - fi).toNat = (i - fi).toNat by omega, ← h3, hs9]
        have hw2 := hw.2
        rw [show (be - fi).toNat = (i - fi).toNat by omega] at hw2
        rw [hs9] at hl9
        have hl8 : ((r9.length + 1 : Nat) : Int) = _ := hl9
        have ht9 := en_top (r := r9) (x := x9) (by omega)
        have l8 : lCmp (lAnd ((enc s : Nat) : Int) 1) 1 = 0 ↔ x9 = true := by rw [hs9, ht9]; cases x9 <;> decide
        refine ⟨?_, rfl⟩
        show _ = some (vI (b2i x9))
        cases x9
        · first | rfl | exact absurd (l8.mp (by omega)) (by decide)
        · first | rfl | (have l7 := l8.mpr rfl; exfalso; omega)
      · refine rch_run rfl (by decide) 2 (t' := (131, [some (vR 1), some (vI fi), some (vI be), some (vR 44), some (vR 17), some (vI p), some (vI q), some (vL ((enc s : Nat) : Int)), none, some (vI i)], [vI 1], MW b I L)) (ps := []) rfl trivial ?_
        refine rch_ret rfl (rt := some (vI 1)) rfl (Or.inr rfl) mw_c ?_
        obtain ⟨x9, r9, hs9⟩ := len1 (s := s) (by rw [hl9]; have := hw.2; rw [show (be - fi).toNat = (i - fi).toNat by omega] at this; omega)
        rw [show (be - fi).toNat = (i - fi).toNat by omega, ← h3, hs9]
        have hw2 := hw.2
        rw [show (be - fi).toNat = (i - fi).toNat by omega] at hw2
        rw [hs9] at hl9
        have hl8 : ((r9.length + 1 : Nat) : Int) = _ := hl9
        have ht9 := en_top (r := r9) (x := x9) (by omega)
        have l8 : lCmp (lAnd ((enc s : Nat) : Int) 1) 1 = 0 ↔ x9 = true := by rw [hs9, ht9]; cases x9 <;> decide
        refine ⟨?_, rfl⟩
        show _ = some (vI (b2i x9))
        cases x9
        · first | rfl | exact absurd (l8.mp (by omega)) (by decide)
        · first | rfl | (have l7 := l8.mpr rfl; exfalso; omega)
    · refine rch_run rfl (by decide) 4 (t' := (19, [some (vR 1), some (vI fi), some (vI be), some (vR 44), some (vR 17), some (vI p), some (vI q), some (vL ((enc s : Nat) : Int)), none, some (vI i)], [vI (I 4 i.toNat)], MW b I L)) (ps := [0 ≤ i ∧ i < ((250 : Nat) : Int)]) rfl (by simp only [all_, i32, i64]; first | omega | (simp; done) | (simp; omega)) ?_
      refine rch_tsw (e := (19, .tableswitch 64 3 5 #[25, 34, 50], 25, 0, 0, 0)) (d := 64) (lo := 3) (hi := 5) (offs := #[25, 34, 50]) rfl rfl rfl (by decide) (by decide) (fun c19_3 => ?_) (fun n9 off9 c19_3 ho9 => ?_)
      · show Rch l E 2 5 _ _ _ _ (83, [some (vR 1), some (vI fi), some (vI be), some (vR 44), some (vR 17), some (vI p), some (vI q), some (vL ((enc s : Nat) : Int)), none, some (vI i)], [], MW b I L)
        refine rch_run rfl (by decide) 9 (t' := (97, [some (vR 1), some (vI fi), some (vI be), some (vR 44), some (vR 17), some (vI p), some (vI q), some (vL ((enc s : Nat) : Int)), none, some (vI i)], [vI q, vI p, vR 17, vR 44, vI i, vR 1, vL (lShl ((enc s : Nat) : Int) 1)], MW b I L)) (ps := []) rfl trivial ?_
        refine rch_call (h' := 1) (k' := 6) (as := [vR 1, vI i, vR 44, vR 17, vI p, vI q]) (t1 := (100, [some (vR 1), some (vI fi), some (vI be), some (vR 44), some (vR 17), some (vI p), some (vI q), some (vL ((enc s : Nat) : Int)), none, some (vI i)], [vL (lShl ((enc s : Nat) : Int) 1)], MW b I L)) rfl rfl (k_isTestMet_1 l E b I L i p q (by omega) (hf i.toNat (by omega) (by omega)) ⟨hv _ (by have := hf i.toNat (by omega) (by omega); omega), hv _ (by have := hf i.toNat (by omega) (by omega); omega)⟩) (by decide) mw_le ?_
        rintro rt9 w9 (⟨k45, rfl, rfl⟩ | ⟨k45, rfl, rfl⟩) _ _
        · show Rch l E 2 5 _ _ _ _ (100, [some (vR 1), some (vI fi), some (vI be), some (vR 44), some (vR 17), some (vI p), some (vI q), some (vL ((enc s : Nat) : Int)), none, some (vI i)], [vI 1, vL (lShl ((enc s : Nat) : Int) 1)], MW b I L)
          have k45 : Tst (I 4 i.toNat) (I 6 i.toNat) (I 46 ((p * 6) + (I 5 i.toNat)).toNat) (I 46 ((q * 6) + (I 5 i.toNat)).toNat) (I 18 p.toNat) (I 18 q.toNat) := k45
          have kT := k45
          refine rch_br rfl (cd := (1 : Int) = 0) (t1 := (107, [some (vR 1), some (vI fi), some (vI be), some (vR 44), some (vR 17), some (vI p), some (vI q), some (vL ((enc s : Nat) : Int)), none, some (vI i)], [vL (lShl ((enc s : Nat) : Int) 1)], MW b I L)) (t2 := (103, [some (vR 1), some (vI fi), some (vI be), some (vR 44), some (vR 17), some (vI p), some (vI q), some (vL ((enc s : Nat) : Int)), none, some (vI i)], [vL (lShl ((enc s : Nat) : Int) 1)], MW b I L)) rfl (fun c9 => absurd c9 (by decide)) (fun _ => ?_)
          refine rch_run rfl (by decide) 6 (t' := (6, [some (vR 1), some (vI fi), some (vI be), some (vR 44), some (vR 17), some (vI p), some (vI q), some (vL (lOr (lShl ((enc s : Nat) : Int) 1) 1)), none, some (vI (i + 1))], [], MW b I L)) (ps := [i32 (i + 1)]) rfl (by simp only [all_, i32, i64]; first | omega | (simp; done) | (simp; omega)) ?_
          have hn9 : fi.toNat + (i - fi).toNat = i.toNat := by omega
          have he9 : (i + 1 - fi).toNat = (i - fi).toNat + 1 := by omega
          have hd9 := hd9 (by omega)
          rw [hn9] at hd9
          have hd8 := hd9.2.2
          rw [show lOr (lShl ((enc s : Nat) : Int) 1) 1 = ((enc (true :: s) : Nat) : Int) from en_push (by omega) true]
          exact ih (i + 1) (true :: s) (by omega) (by omega) (by rw [he9, evs_s, ← h3, hn9]; exact ((stp_t (by omega)).trans (by rw [tstB_t kT])).symm) (by omega)
        · show Rch l E 2 5 _ _ _ _ (100, [some (vR 1), some (vI fi), some (vI be), some (vR 44), some (vR 17), some (vI p), some (vI q), some (vL ((enc s : Nat) : Int)), none, some (vI i)], [vI 0, vL (lShl ((enc s : Nat) : Int) 1)], MW b I L)
          have k45 : ¬ Tst (I 4 i.toNat) (I 6 i.toNat) (I 46 ((p * 6) + (I 5 i.toNat)).toNat) (I 46 ((q * 6) + (I 5 i.toNat)).toNat) (I 18 p.toNat) (I 18 q.toNat) := k45
          have kT := k45
          refine rch_br rfl (cd := (0 : Int) = 0) (t1 := (107, [some (vR 1), some (vI fi), some (vI be), some (vR 44), some (vR 17), some (vI p), some (vI q), some (vL ((enc s : Nat) : Int)), none, some (vI i)], [vL (lShl ((enc s : Nat) : Int) 1)], MW b I L)) (t2 := (103, [some (vR 1), some (vI fi), some (vI be), some (vR 44), some (vR 17), some (vI p), some (vI q), some (vL ((enc s : Nat) : Int)), none, some (vI i)], [vL (lShl ((enc s : Nat) : Int) 1)], MW b I L)) rfl (fun _ => ?_) (fun c9 => absurd (by decide) c9)
          refine rch_run rfl (by decide) 5 (t' := (6, [some (vR 1), some (vI fi), some (vI be), some (vR 44), some (vR 17), some (vI p), some (vI q), some (vL (lOr (lShl ((enc s : Nat) : Int) 1) 0)), none, some (vI (i + 1))], [], MW b I L)) (ps := [i32 (i + 1)]) rfl (by simp only [all_, i32, i64]; first | omega | (simp; done) | (simp; omega)) ?_
          have hn9 : fi.toNat + (i - fi).toNat = i.toNat := by omega
          have he9 : (i + 1 - fi).toNat = (i - fi).toNat + 1 := by omega
          have hd9 := hd9 (by omega)
          rw [hn9] at hd9
          have hd8 := hd9.2.2
          rw [show lOr (lShl ((enc s : Nat) : Int) 1) 0 = ((enc (false :: s) : Nat) : Int) from en_push (by omega) false]
          exact ih (i + 1) (false :: s) (by omega) (by omega) (by rw [he9, evs_s, ← h3, hn9]; exact ((stp_t (by omega)).trans (by rw [tstB_f kT])).symm) (by omega)
      · match n9, c19_3, ho9 with
        | 0, c19_3, ho9 =>
          have c19_3 : I 4 i.toNat = 3 := by simpa using c19_3
          have ho9 : some (25 : Int) = some off9 := ho9
          cases ho9
          refine ⟨by decide, ?_⟩
          show Rch l E 2 5 _ _ _ _ (44, [some (vR 1), some (vI fi), some (vI be), some (vR 44), some (vR 17), some (vI p), some (vI q), some (vL ((enc s : Nat) : Int)), none, some (vI i)], [], MW b I L)
          refine rch_run rfl (by decide) 7 (t' := (6, [some (vR 1), some (vI fi), some (vI be), some (vR 44), some (vR 17), some (vI p), some (vI q), some (vL (lXor ((enc s : Nat) : Int) 1)), none, some (vI (i + 1))], [], MW b I L)) (ps := [i32 (i + 1)]) rfl (by simp only [all_, i32, i64]; first | omega | (simp; done) | (simp; omega)) ?_
          have hn9 : fi.toNat + (i - fi).toNat = i.toNat := by omega
          have he9 : (i + 1 - fi).toNat = (i - fi).toNat + 1 := by omega
          have hd9 := hd9 (by omega)
          rw [hn9] at hd9
          have hd8 := hd9.2.2
          obtain ⟨x9, r9, rfl⟩ := len1 (s := s) (by rw [hl9]; exact hd9.1 (by omega))
          have hl8 : ((r9.length + 1 : Nat) : Int) = _ := hl9
          rw [en_not (by omega)]
          exact ih (i + 1) ((!x9) :: r9) (by omega) (by omega) (by rw [he9, evs_s, ← h3, hn9]; exact (stp_3 (by omega)).symm) (by omega)
        | 1, c19_3, ho9 =>
          have c19_3 : I 4 i.toNat = 4 := by simpa using c19_3
          have ho9 : some (34 : Int) = some off9 := ho9
          cases ho9
          refine ⟨by decide, ?_⟩
          show Rch l E 2 5 _ _ _ _ (53, [some (vR 1), some (vI fi), some (vI be), some (vR 44), some (vR 17), some (vI p), some (vI q), some (vL ((enc s : Nat) : Int)), none, some (vI i)], [], MW b I L)
          refine rch_run rfl (by decide) 11 (t' := (6, [some (vR 1), some (vI fi), some (vI be), some (vR 44), some (vR 17), some (vI p), some (vI q), some (vL (lAnd (lUshr ((enc s : Nat) : Int) 1) (lOr ((enc s : Nat) : Int) (-2)))), none, some (vI (i + 1))], [], MW b I L)) (ps := [i32 (i + 1)]) rfl (by simp only [all_, i32, i64]; first | omega | (simp; done) | (simp; omega)) ?_
          have hn9 : fi.toNat + (i - fi).toNat = i.toNat := by omega
          have he9 : (i + 1 - fi).toNat = (i - fi).toNat + 1 := by omega
          have hd9 := hd9 (by omega)
          rw [hn9] at hd9
          have hd8 := hd9.2.2
          obtain ⟨x9, y9, r9, rfl⟩ := len2 (s := s) (by rw [hl9]; exact hd9.2.1 (by omega))
          have hl8 : ((r9.length + 1 + 1 : Nat) : Int) = _ := hl9
          rw [en_and (by omega)]
          exact ih (i + 1) ((y9 && x9) :: r9) (by omega) (by omega) (by rw [he9, evs_s, ← h3, hn9]; exact (stp_4 (by omega)).symm) (by omega)
        | 2, c19_3, ho9 =>
          have c19_3 : I 4 i.toNat = 5 := by simpa using c19_3
          have ho9 : some (50 : Int) = some off9 := ho9
          cases ho9
          refine ⟨by decide, ?_⟩
          show Rch l E 2 5 _ _ _ _ (69, [some (vR 1), some (vI fi), some (vI be), some (vR 44), some (vR 17), some (vI p), some (vI q), some (vL ((enc s : Nat) : Int)), none, some (vI i)], [], MW b I L)
          refine rch_run rfl (by decide) 11 (t' := (6, [some (vR 1), some (vI fi), some (vI be), some (vR 44), some (vR 17), some (vI p), some (vI q), some (vL (lOr (lUshr ((enc s : Nat) : Int) 1) (lAnd ((enc s : Nat) : Int) 1))), none, some (vI (i + 1))], [], MW b I L)) (ps := [i32 (i + 1)]) rfl (by simp only [all_, i32, i64]; first | omega | (simp; done) | (simp; omega)) ?_
          have hn9 : fi.toNat + (i - fi).toNat = i.toNat := by omega
          have he9 : (i + 1 - fi).toNat = (i - fi).toNat + 1 := by omega
          have hd9 := hd9 (by omega)
          rw [hn9] at hd9
          have hd8 := hd9.2.2
          obtain ⟨x9, y9, r9, rfl⟩ := len2 (s := s) (by rw [hl9]; exact hd9.2.1 (by omega))
          have hl8 : ((r9.length + 1 + 1 : Nat) : Int) = _ := hl9
          rw [en_or (by omega)]
          exact ih (i + 1) ((y9 || x9) :: r9) (by omega) (by omega) (by rw [he9, evs_s, ← h3, hn9]; exact (stp_5 (by omega)).symm) (by omega)
        | n9 + 3, _, ho9 => exact absurd ho9 (by simp)

theorem lp_isMet_7 (l : Launch) (E : AX) (b : Bool) (I L : Nat → Nat → Int) (fi be p q : Int) (hb : 0 ≤ fi ∧ fi ≤ be ∧ be ≤ 250) (hp : (0 ≤ p ∧ p < 10) ∧ 0 ≤ q ∧ q < 10) (hw : WFs (I 10) fi.toNat (be - fi).toNat) (hf : ∀ j : Nat, fi ≤ j → (j : Int) < be → 0 ≤ I 11 j ∧ I 11 j ≤ 5) (hv : ∀ c, c < 60 → -1 ≤ I 46 c ∧ I 46 c ≤ 999999) : ∀ (n9 : Nat) (i : Int) (s : List Bool), fi ≤ i → i ≤ be → s = evs (I 10) (fun j => tstB (I 10 j) (I 12 j) (I 46 ((p * 6) + (I 11 j)).toNat) (I 46 ((q * 6) + (I 11 j)).toNat) (I 18 p.toNat) (I 18 q.toNat)) fi.toNat (i - fi).toNat → be - i < (n9 : Int) → Rch l E 2 5 (MW b I L) 0 0 (fun rt w => rt = some (vI (b2i ((evs (I 10) (fun j => tstB (I 10 j) (I 12 j) (I 46 ((p * 6) + (I 11 j)).toNat) (I 46 ((q * 6) + (I 11 j)).toNat) (I 18 p.toNat) (I 18 q.toNat)) fi.toNat (be - fi).toNat).headD false))) ∧ w = MW b I L) (6, [some (vR 7), some (vI fi), some (vI be), some (vR 44), some (vR 17), some (vI p), some (vI q), some (vL ((enc s : Nat) : Int)), none, some (vI i)], [], MW b I L) := by
  intro n9
  induction n9 with
  | zero =>
    intro i s h1 h2 h3 hm
    exfalso; omega
  | succ n9 ih =>
    intro i s h1 h2 h3 hm
    have hl9 := evs_len (T := (fun j => tstB (I 10 j) (I 12 j) (I 46 ((p * 6) + (I 11 j)).toNat) (I 46 ((q * 6) + (I 11 j)).toNat) (I 18 p.toNat) (I 18 q.toNat))) hw (i - fi).toNat (by omega)
    rw [← h3] at hl9
    have hd9 : i < be → _ := fun z => hw.1 (i - fi).toNat (by omega)
    refine rch_run rfl (by decide) 2 (t' := (9, [some (vR 7), some (vI fi), some (vI be), some (vR 44), some (vR 17), some (vI p), some (vI q), some (vL ((enc s : Nat) : Int)), none, some (vI i)], [vI be, vI i], MW b I L)) (ps := []) rfl trivial ?_
    refine rch_br rfl (cd := be ≤ i) (t1 := (117, [some (vR 7), some (vI fi), some (vI be), some (vR 44), some (vR 17), some (vI p), some (vI q), some (vL ((enc s : Nat) : Int)), none, some (vI i)], [], MW b I L)) (t2 := (12, [some (vR 7), some (vI fi), some (vI be), some (vR 44), some (vR 17), some (vI p), some (vI q), some (vL ((enc s : Nat) : Int)), none, some (vI i)], [], MW b I L)) rfl (fun c9_1 => ?_) (fun c9_1 => ?_)
    · refine rch_run rfl (by decide) 5 (t' := (123, [some (vR 7), some (vI fi), some (vI be), some (vR 44), some (vR 17), some (vI p), some (vI q), some (vL ((enc s : Nat) : Int)), none, some (vI i)], [vI (lCmp (lAnd ((enc s : Nat) : Int) 1) 1)], MW b I L)) (ps := []) rfl trivial ?_
      refine rch_br rfl (cd := lCmp (lAnd ((enc s : Nat) : Int) 1) 1 ≠ 0) (t1 := (130, [some (vR 7), some (vI fi), some (vI be), some (vR 44), some (vR 17), some (vI p), some (vI q), some (vL ((enc s : Nat) : Int)), none, some (vI i)], [], MW b I L)) (t2 := (126, [some (vR 7), some (vI fi), some (vI be), some (vR 44), some (vR 17), some (vI p), some (vI q), some (vL ((enc s : Nat) : Int)), none, some (vI i)], [], MW b I L)) rfl (fun c123_2 => ?_) (fun c123_2 => ?_)
      · refine rch_run rfl (by decide) 1 (t' := (131, [some (vR 7), some (vI fi), some (vI be), some (vR 44), some (vR 17), some (vI p), some (vI q), some (vL ((enc s : Nat) : Int)), none, some (vI i)], [vI 0], MW b I L)) (ps := []) rfl trivial ?_
        refine rch_ret rfl (rt := some (vI 0)) rfl (Or.inl rfl) mw_c ?_
        obtain ⟨x9, r9, hs9⟩ := len1 (s := s) (by rw [hl9]; have := hw.2; rw [show (be - fi).toNat = (i - fi).toNat by omega] at this; omega)
        rw [show (be - fi).toNat = (i - fi).toNat by omega, ← h3, hs9]
        have hw2 := hw.2
        rw [show (be - fi).toNat = (i - fi).toNat by omega] at hw2
        rw [hs9] at hl9
        have hl8 : ((r9.length + 1 : Nat) : Int) = _ := hl9
        have ht9 := en_top (r := r9) (x := x9) (by omega)
        have l8 : lCmp (lAnd ((enc s : Nat) : Int) 1) 1 = 0 ↔ x9 = true := by rw [hs9, ht9]; cases x9 <;> decide
        refine ⟨?_, rfl⟩
        show _ = some (vI (b2i x9))
        cases x9
        · first | rfl | exact absurd (l8.mp (by omega)) (by decide)
        · first | rfl | (have l7 := l8.mpr rfl; exfalso; omega)
      · refine rch_run rfl (by decide) 2 (t' := (131, [some (vR 7), some (vI fi), some (vI be), some (vR 44), some (vR 17), some (vI p), some (vI q), some (vL ((enc s : Nat) : Int)), none, some (vI i)], [vI 1], MW b I L)) (ps := []) rfl trivial ?_
        refine rch_ret rfl (rt := some (vI 1)) rfl (Or.inr rfl) mw_c ?_
        obtain ⟨x9, r9, hs9⟩ := len1 (s := s) (by rw [hl9]; have := hw.2; rw [show (be - fi).toNat = (i - fi).toNat by omega] at this; omega)
        rw [show (be - fi).toNat = (i - fi).toNat by omega, ← h3, hs9]
        have hw2 := hw.2
        rw [show (be - fi).toNat = (i - fi).toNat by omega] at hw2
        rw [hs9] at hl9
        have hl8 : ((r9.length + 1 : Nat) : Int) = _ := hl9
        have ht9 := en_top (r := r9) (x := x9) (by omega)
        have l8 : lCmp (lAnd ((enc s : Nat) : Int) 1) 1 = 0 ↔ x9 = true := by rw [hs9, ht9]; cases x9 <;> decide
        refine ⟨?_, rfl⟩
        show _ = some (vI (b2i x9))
        cases x9
        · first | rfl | exact absurd (l8.mp (by omega)) (by decide)
        · first | rfl | (have l7 := l8.mpr rfl; exfalso; omega)
    · refine rch_run rfl (by decide) 4 (t' := (19, [some (vR 7), some (vI fi), some (vI be), some (vR 44), some (vR 17), some (vI p), some (vI q), some (vL ((enc s : Nat) : Int)), none, some (vI i)], [vI (I 10 i.toNat)], MW b I L)) (ps := [0 ≤ i ∧ i < ((250 : Nat) : Int)]) rfl (by simp only [all_, i32, i64]; first | omega | (simp; done) | (simp; omega)) ?_
      refine rch_tsw (e := (19, .tableswitch 64 3 5 #[25, 34, 50], 25, 0, 0, 0)) (d := 64) (lo := 3) (hi := 5) (offs := #[25, 34, 50]) rfl rfl rfl (by decide) (by decide) (fun c19_3 => ?_) (fun n9 off9 c19_3 ho9 => ?_)
      · show Rch l E 2 5 _ _ _ _ (83, [some (vR 7), some (vI fi), some (vI be), some (vR 44), some (vR 17), some (vI p), some (vI q), some (vL ((enc s : Nat) : Int)), none, some (vI i)], [], MW b I L)
        refine rch_run rfl (by decide) 9 (t' := (97, [some (vR 7), some (vI fi), some (vI be), some (vR 44), some (vR 17), some (vI p), some (vI q), some (vL ((enc s : Nat) : Int)), none, some (vI i)], [vI q, vI p, vR 17, vR 44, vI i, vR 7, vL (lShl ((enc s : Nat) : Int) 1)], MW b I L)) (ps := []) rfl trivial ?_
        refine rch_call (h' := 1) (k' := 6) (as := [vR 7, vI i, vR 44, vR 17, vI p, vI q]) (t1 := (100, [some (vR 7), some (vI fi), some (vI be), some (vR 44), some (vR 17), some (vI p), some (vI q), some (vL ((enc s : Nat) : Int)), none, some (vI i)], [vL (lShl ((enc s : Nat) : Int) 1)], MW b I L)) rfl rfl (k_isTestMet_7 l E b I L i p q (by omega) (hf i.toNat (by omega) (by omega)) ⟨hv _ (by have := hf i.toNat (by omega) (by omega); omega), hv _ (by have := hf i.toNat (by omega) (by omega); omega)⟩) (by decide) mw_le ?_
        rintro rt9 w9 (⟨k46, rfl, rfl⟩ | ⟨k46, rfl, rfl⟩) _ _
        · show Rch l E 2 5 _ _ _ _ (100, [some (vR 7), some (vI fi), some (vI be), some (vR 44), some (vR 17), some (vI p), some (vI q), some (vL ((enc s : Nat) : Int)), none, some (vI i)], [vI 1, vL (lShl ((enc s : Nat) : Int) 1)], MW b I L)
          have k46 : Tst (I 10 i.toNat) (I 12 i.toNat) (I 46 ((p * 6) + (I 11 i.toNat)).toNat) (I 46 ((q * 6) + (I 11 i.toNat)).toNat) (I 18 p.toNat) (I 18 q.toNat) := k46
          have kT := k46
          refine rch_br rfl (cd := (1 : Int) = 0) (t1 := (107, [some (vR 7), some (vI fi), some (vI be), some (vR 44), some (vR 17), some (vI p), some (vI q), some (vL ((enc s : Nat) : Int)), none, some (vI i)], [vL (lShl ((enc s : Nat) : Int) 1)], MW b I L)) (t2 := (103, [some (vR 7), some (vI fi), some (vI be), some (vR 44), some (vR 17), some (vI p), some (vI q), some (vL ((enc s : Nat) : Int)), none, some (vI i)], [vL (lShl ((enc s : Nat) : Int) 1)], MW b I L)) rfl (fun c9 => absurd c9 (by decide)) (fun _ => ?_)
          refine rch_run rfl (by decide) 6 (t' := (6, [some (vR 7), some (vI fi), some (vI be), some (vR 44), some (vR 17), some (vI p), some (vI q), some (vL (lOr (lShl ((enc s : Nat) : Int) 1) 1)), none, some (vI (i + 1))], [], MW b I L)) (ps := [i32 (i + 1)]) rfl (by simp only [all_, i32, i64]; first | omega | (simp; done) | (simp; omega)) ?_
          have hn9 : fi.toNat + (i - fi).toNat = i.toNat := by omega
          have he9 : (i + 1 - fi).toNat = (i - fi).toNat + 1 := by omega
          have hd9 := hd9 (by omega)
          rw [hn9] at hd9
          have hd8 := hd9.2.2
          rw [show lOr (lShl ((enc s : Nat) : Int) 1) 1 = ((enc (true :: s) : Nat) : Int) from en_push (by omega) true]
          exact ih (i + 1) (true :: s) (by omega) (by omega) (by rw [he9, evs_s, ← h3, hn9]; exact ((stp_t (by omega)).trans (by rw [tstB_t kT])).symm) (by omega)
        · show Rch l E 2 5 _ _ _ _ (100, [some (vR 7), some (vI fi), some (vI be), some (vR 44), some (vR 17), some (vI p), some (vI q), some (vL ((enc s : Nat) : Int)), none, some (vI i)], [vI 0, vL (lShl ((enc s : Nat) : Int) 1)], MW b I L)
          have k46 : ¬ Tst (I 10 i.toNat) (I 12 i.toNat) (I 46 ((p * 6) + (I 11 i.toNat)).toNat) (I 46 ((q * 6) + (I 11 i.toNat)).toNat) (I 18 p.toNat) (I 18 q.toNat) := k46
          have kT := k46
          refine rch_br rfl (cd := (0 : Int) = 0) (t1 := (107, [some (vR 7), some (vI fi), some (vI be), some (vR 44), some (vR 17), some (vI p), some (vI q), some (vL ((enc s : Nat) : Int)), none, some (vI i)], [vL (lShl ((enc s : Nat) : Int) 1)], MW b I L)) (t2 := (103, [some (vR 7), some (vI fi), some (vI be), some (vR 44), some (vR 17), some (vI p), some (vI q), some (vL ((enc s : Nat) : Int)), none, some (vI i)], [vL (lShl ((enc s : Nat) : Int) 1)], MW b I L)) rfl (fun _ => ?_) (fun c9 => absurd (by decide) c9)
          refine rch_run rfl (by decide) 5 (t' := (6, [some (vR 7), some (vI fi), some (vI be), some (vR 44), some (vR 17), some (vI p), some (vI q), some (vL (lOr (lShl ((enc s : Nat) : Int) 1) 0)), none, some (vI (i + 1))], [], MW b I L)) (ps := [i32 (i + 1)]) rfl (by simp only [all_, i32, i64]; first | omega | (simp; done) | (simp; omega)) ?_
          have hn9 : fi.toNat + (i - fi).toNat = i.toNat := by omega
          have he9 : (i + 1 - fi).toNat = (i - fi).toNat + 1 := by omega
          have hd9 := hd9 (by omega)
          rw [hn9] at hd9
          have hd8 := hd9.2.2
          rw [show lOr (lShl ((enc s : Nat) : Int) 1) 0 = ((enc (false :: s) : Nat) : Int) from en_push (by omega) false]
          exact ih (i + 1) (false :: s) (by omega) (by omega) (by rw [he9, evs_s, ← h3, hn9]; exact ((stp_t (by omega)).trans (by rw [tstB_f kT])).symm) (by omega)
      · match n9, c19_3, ho9 with
        | 0, c19_3, ho9 =>
          have c19_3 : I 10 i.toNat = 3 := by simpa using c19_3
          have ho9 : some (25 : Int) = some off9 := ho9
          cases ho9
          refine ⟨by decide, ?_⟩
          show Rch l E 2 5 _ _ _ _ (44, [some (vR 7), some (vI fi), some (vI be), some (vR 44), some (vR 17), some (vI p), some (vI q), some (vL ((enc s : Nat) : Int)), none, some (vI i)], [], MW b I L)
          refine rch_run rfl (by decide) 7 (t' := (6, [some (vR 7), some (vI fi), some (vI be), some (vR 44), some (vR 17), some (vI p), some (vI q), some (vL (lXor ((enc s : Nat) : Int) 1)), none, some (vI (i + 1))], [], MW b I L)) (ps := [i32 (i + 1)]) rfl (by simp only [all_, i32, i64]; first | omega | (simp; done) | (simp; omega)) ?_
          have hn9 : fi.toNat + (i - fi).toNat = i.toNat := by omega
          have he9 : (i + 1 - fi).toNat = (i - fi).toNat + 1 := by omega
          have hd9 := hd9 (by omega)
          rw [hn9] at hd9
          have hd8 := hd9.2.2
          obtain ⟨x9, r9, rfl⟩ := len1 (s := s) (by rw [hl9]; exact hd9.1 (by omega))
          have hl8 : ((r9.length + 1 : Nat) : Int) = _ := hl9
          rw [en_not (by omega)]
          exact ih (i + 1) ((!x9) :: r9) (by omega) (by omega) (by rw [he9, evs_s, ← h3, hn9]; exact (stp_3 (by omega)).symm) (by omega)
        | 1, c19_3, ho9 =>
          have c19_3 : I 10 i.toNat = 4 := by simpa using c19_3
          have ho9 : some (34 : Int) = some off9 := ho9
          cases ho9
          refine ⟨by decide, ?_⟩
          show Rch l E 2 5 _ _ _ _ (53, [some (vR 7), some (vI fi), some (vI be), some (vR 44), some (vR 17), some (vI p), some (vI q), some (vL ((enc s : Nat) : Int)), none, some (vI i)], [], MW b I L)
          refine rch_run rfl (by decide) 11 (t' := (6, [some (vR 7), some (vI fi), some (vI be), some (vR 44), some (vR 17), some (vI p), some (vI q), some (vL (lAnd (lUshr ((enc s : Nat) : Int) 1) (lOr ((enc s : Nat) : Int) (-2)))), none, some (vI (i + 1))], [], MW b I L)) (ps := [i32 (i + 1)]) rfl (by simp only [all_, i32, i64]; first | omega | (simp; done) | (simp; omega)) ?_
          have hn9 : fi.toNat + (i - fi).toNat = i.toNat := by omega
          have he9 : (i + 1 - fi).toNat = (i - fi).toNat + 1 := by omega
          have hd9 := hd9 (by omega)
          rw [hn9] at hd9
          have hd8 := hd9.2.2
          obtain ⟨x9, y9, r9, rfl⟩ := len2 (s := s) (by rw [hl9]; exact hd9.2.1 (by omega))
          have hl8 : ((r9.length + 1 + 1 : Nat) : Int) = _ := hl9
          rw [en_and (by omega)]
          exact ih (i + 1) ((y9 && x9) :: r9) (by omega) (by omega) (by rw [he9, evs_s, ← h3, hn9]; exact (stp_4 (by omega)).symm) (by omega)
        | 2, c19_3, ho9 =>
          have c19_3 : I 10 i.toNat = 5 := by simpa using c19_3
          have ho9 : some (50 : Int) = some off9 := ho9
          cases ho9
          refine ⟨by decide, ?_⟩
          show Rch l E 2 5 _ _ _ _ (69, [some (vR 7), some (vI fi), some (vI be), some (vR 44), some (vR 17), some (vI p), some (vI q), some (vL ((enc s : Nat) : Int)), none, some (vI i)], [], MW b I L)
          refine rch_run rfl (by decide) 11 (t' := (6, [some (vR 7), some (vI fi), some (vI be), some (vR 44), some (vR 17), some (vI p), some (vI q), some (vL (lOr (lUshr ((enc s : Nat) : Int) 1) (lAnd ((enc s : Nat) : Int) 1))), none, some (vI (i + 1))], [], MW b I L)) (ps := [i32 (i + 1)]) rfl (by simp only [all_, i32, i64]; first | omega | (simp; done) | (simp; omega)) ?_
          have hn9 : fi.toNat + (i - fi).toNat = i.toNat := by omega
          have he9 : (i + 1 - fi).toNat = (i - fi).toNat + 1 := by omega
          have hd9 := hd9 (by omega)
          rw [hn9] at hd9
          have hd8 := hd9.2.2
          obtain ⟨x9, y9, r9, rfl⟩ := len2 (s := s) (by rw [hl9]; exact hd9.2.1 (by omega))
          have hl8 : ((r9.length + 1 + 1 : Nat) : Int) = _ := hl9
          rw [en_or (by omega)]
          exact ih (i + 1) ((y9 || x9) :: r9) (by omega) (by omega) (by rw [he9, evs_s, ← h3, hn9]; exact (stp_5 (by omega)).symm) (by omega)
        | n9 + 3, _, ho9 => exact absurd ho9 (by simp)
