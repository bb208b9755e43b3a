theorem k_bitCount (l : Launch) (E : AX) (b : Bool) (I L : Nat → Nat → Int) (x : Int) (hx : 0 ≤ x ∧ x < 512) : Con l E 1 166 [vI x] (MW b I L) 0 0 (fun rt w => rt = some (vI (bcn x)) ∧ w = MW b I L) := by
  refine con_ok (fun hw9 hs9 => ?_)
  refine con_intro (by decide) (Nat.le_of_ble_eq_true rfl) ?_
  have hb9 := bc_1 x.toNat (by omega)
  rw [show ((x.toNat : Nat) : Int) = x by omega] at hb9
  simp only [Bool.and_eq_true, decide_eq_true_eq] at hb9
  show Rch l E 1 166 _ _ _ _ (0, [some (vI x)], [], MW b I L)
  refine rch_run rfl (by decide) 25 (t' := (33, [some (vI ((bAnd (x - (bAnd (bUshr x 1) 1431655765)) 858993459) + (bAnd (bUshr (x - (bAnd (bUshr x 1) 1431655765)) 2) 858993459)))], [vI (bAnd (((bAnd (x - (bAnd (bUshr x 1) 1431655765)) 858993459) + (bAnd (bUshr (x - (bAnd (bUshr x 1) 1431655765)) 2) 858993459)) + (bUshr ((bAnd (x - (bAnd (bUshr x 1) 1431655765)) 858993459) + (bAnd (bUshr (x - (bAnd (bUshr x 1) 1431655765)) 2) 858993459)) 4)) 252645135)], MW b I L)) (ps := [i32 (x - (bAnd (bUshr x 1) 1431655765)), i32 ((bAnd (x - (bAnd (bUshr x 1) 1431655765)) 858993459) + (bAnd (bUshr (x - (bAnd (bUshr x 1) 1431655765)) 2) 858993459)), i32 (((bAnd (x - (bAnd (bUshr x 1) 1431655765)) 858993459) + (bAnd (bUshr (x - (bAnd (bUshr x 1) 1431655765)) 2) 858993459)) + (bUshr ((bAnd (x - (bAnd (bUshr x 1) 1431655765)) 858993459) + (bAnd (bUshr (x - (bAnd (bUshr x 1) 1431655765)) 2) 858993459)) 4))]) rfl (by simp only [all_, i32, i64]; first | omega | (simp; done) | (simp; omega)) ?_
  refine rch_run rfl (by decide) 16 (t' := (52, [some (vI (((bAnd (((bAnd (x - (bAnd (bUshr x 1) 1431655765)) 858993459) + (bAnd (bUshr (x - (bAnd (bUshr x 1) 1431655765)) 2) 858993459)) + (bUshr ((bAnd (x - (bAnd (bUshr x 1) 1431655765)) 858993459) + (bAnd (bUshr (x - (bAnd (bUshr x 1) 1431655765)) 2) 858993459)) 4)) 252645135) + (bUshr (bAnd (((bAnd (x - (bAnd (bUshr x 1) 1431655765)) 858993459) + (bAnd (bUshr (x - (bAnd (bUshr x 1) 1431655765)) 2) 858993459)) + (bUshr ((bAnd (x - (bAnd (bUshr x 1) 1431655765)) 858993459) + (bAnd (bUshr (x - (bAnd (bUshr x 1) 1431655765)) 2) 858993459)) 4)) 252645135) 8)) + (bUshr ((bAnd (((bAnd (x - (bAnd (bUshr x 1) 1431655765)) 858993459) + (bAnd (bUshr (x - (bAnd (bUshr x 1) 1431655765)) 2) 858993459)) + (bUshr ((bAnd (x - (bAnd (bUshr x 1) 1431655765)) 858993459) + (bAnd (bUshr (x - (bAnd (bUshr x 1) 1431655765)) 2) 858993459)) 4)) 252645135) + (bUshr (bAnd (((bAnd (x - (bAnd (bUshr x 1) 1431655765)) 858993459) + (bAnd (bUshr (x - (bAnd (bUshr x 1) 1431655765)) 2) 858993459)) + (bUshr ((bAnd (x - (bAnd (bUshr x 1) 1431655765)) 858993459) + (bAnd (bUshr (x - (bAnd (bUshr x 1) 1431655765)) 2) 858993459)) 4)) 252645135) 8)) 16)))], [vI (bAnd (((bAnd (((bAnd (x - (bAnd (bUshr x 1) 1431655765)) 858993459) + (bAnd (bUshr (x - (bAnd (bUshr x 1) 1431655765)) 2) 858993459)) + (bUshr ((bAnd (x - (bAnd (bUshr x 1) 1431655765)) 858993459) + (bAnd (bUshr (x - (bAnd (bUshr x 1) 1431655765)) 2) 858993459)) 4)) 252645135) + (bUshr (bAnd (((bAnd (x - (bAnd (bUshr x 1) 1431655765)) 858993459) + (bAnd (bUshr (x - (bAnd (bUshr x 1) 1431655765)) 2) 858993459)) + (bUshr ((bAnd (x - (bAnd (bUshr x 1) 1431655765)) 858993459) + (bAnd (bUshr (x - (bAnd (bUshr x 1) 1431655765)) 2) 858993459)) 4)) 252645135) 8)) + (bUshr ((bAnd (((bAnd (x - (bAnd (bUshr x 1) 1431655765)) 858993459) + (bAnd (bUshr (x - (bAnd (bUshr x 1) 1431655765)) 2) 858993459)) + (bUshr ((bAnd (x - (bAnd (bUshr x 1) 1431655765)) 858993459) + (bAnd (bUshr (x - (bAnd (bUshr x 1) 1431655765)) 2) 858993459)) 4)) 252645135) + (bUshr (bAnd (((bAnd (x - (bAnd (bUshr x 1) 1431655765)) 858993459) + (bAnd (bUshr (x - (bAnd (bUshr x 1) 1431655765)) 2) 858993459)) + (bUshr ((bAnd (x - (bAnd (bUshr x 1) 1431655765)) 858993459) + (bAnd (bUshr (x - (bAnd (bUshr x 1) 1431655765)) 2) 858993459)) 4)) 252645135) 8)) 16)) 63)], MW b I L)) (ps := [i32 ((bAnd (((bAnd (x - (bAnd (bUshr x 1) 1431655765)) 858993459) + (bAnd (bUshr (x - (bAnd (bUshr x 1) 1431655765)) 2) 858993459)) + (bUshr ((bAnd (x - (bAnd (bUshr x 1) 1431655765)) 858993459) + (bAnd (bUshr (x - (bAnd (bUshr x 1) 1431655765)) 2) 858993459)) 4)) 252645135) + (bUshr (bAnd (((bAnd (x - (bAnd (bUshr x 1) 1431655765)) 858993459) + (bAnd (bUshr (x - (bAnd (bUshr x 1) 1431655765)) 2) 858993459)) + (bUshr ((bAnd (x - (bAnd (bUshr x 1) 1431655765)) 858993459) + (bAnd (bUshr (x - (bAnd (bUshr x 1) 1431655765)) 2) 858993459)) 4)) 252645135) 8)), i32 (((bAnd (((bAnd (x - (bAnd (bUshr x 1) 1431655765)) 858993459) + (bAnd (bUshr (x - (bAnd (bUshr x 1) 1431655765)) 2) 858993459)) + (bUshr ((bAnd (x - (bAnd (bUshr x 1) 1431655765)) 858993459) + (bAnd (bUshr (x - (bAnd (bUshr x 1) 1431655765)) 2) 858993459)) 4)) 252645135) + (bUshr (bAnd (((bAnd (x - (bAnd (bUshr x 1) 1431655765)) 858993459) + (bAnd (bUshr (x - (bAnd (bUshr x 1) 1431655765)) 2) 858993459)) + (bUshr ((bAnd (x - (bAnd (bUshr x 1) 1431655765)) 858993459) + (bAnd (bUshr (x - (bAnd (bUshr x 1) 1431655765)) 2) 858993459)) 4)) 252645135) 8)) + (bUshr ((bAnd (((bAnd (x - (bAnd (bUshr x 1) 1431655765)) 858993459) + (bAnd (bUshr (x - (bAnd (bUshr x 1) 1431655765)) 2) 858993459)) + (bUshr ((bAnd (x - (bAnd (bUshr x 1) 1431655765)) 858993459) + (bAnd (bUshr (x - (bAnd (bUshr x 1) 1431655765)) 2) 858993459)) 4)) 252645135) + (bUshr (bAnd (((bAnd (x - (bAnd (bUshr x 1) 1431655765)) 858993459) + (bAnd (bUshr (x - (bAnd (bUshr x 1) 1431655765)) 2) 858993459)) + (bUshr ((bAnd (x - (bAnd (bUshr x 1) 1431655765)) 858993459) + (bAnd (bUshr (x - (bAnd (bUshr x 1) 1431655765)) 2) 858993459)) 4)) 252645135) 8)) 16))]) rfl (by simp only [all_, i32, i64]; first | omega | (simp; done) | (simp; omega)) ?_
  refine rch_ret rfl (rt := some (vI (bAnd (((bAnd (((bAnd (x - (bAnd (bUshr x 1) 1431655765)) 858993459) + (bAnd (bUshr (x - (bAnd (bUshr x 1) 1431655765)) 2) 858993459)) + (bUshr ((bAnd (x - (bAnd (bUshr x 1) 1431655765)) 858993459) + (bAnd (bUshr (x - (bAnd (bUshr x 1) 1431655765)) 2) 858993459)) 4)) 252645135) + (bUshr (bAnd (((bAnd (x - (bAnd (bUshr x 1) 1431655765)) 858993459) + (bAnd (bUshr (x - (bAnd (bUshr x 1) 1431655765)) 2) 858993459)) + (bUshr ((bAnd (x - (bAnd (bUshr x 1) 1431655765)) 858993459) + (bAnd (bUshr (x - (bAnd (bUshr x 1) 1431655765)) 2) 858993459)) 4)) 252645135) 8)) + (bUshr ((bAnd (((bAnd (x - (bAnd (bUshr x 1) 1431655765)) 858993459) + (bAnd (bUshr (x - (bAnd (bUshr x 1) 1431655765)) 2) 858993459)) + (bUshr ((bAnd (x - (bAnd (bUshr x 1) 1431655765)) 858993459) + (bAnd (bUshr (x - (bAnd (bUshr x 1) 1431655765)) 2) 858993459)) 4)) 252645135) + (bUshr (bAnd (((bAnd (x - (bAnd (bUshr x 1) 1431655765)) 858993459) + (bAnd (bUshr (x - (bAnd (bUshr x 1) 1431655765)) 2) 858993459)) + (bUshr ((bAnd (x - (bAnd (bUshr x 1) 1431655765)) 858993459) + (bAnd (bUshr (x - (bAnd (bUshr x 1) 1431655765)) 2) 858993459)) 4)) 252645135) 8)) 16)) 63))) rfl trivial mw_c ?_
  exact ⟨rfl, rfl⟩

theorem lp_gk (l : Launch) (E : AX) (b : Bool) (I L : Nat → Nat → Int) (n k : Nat) (s : Nat → Nat → Int) (wt wo : Nat → Nat → Prop) (t r : Int) (hn : n ≤ 10) (hk : k < n) (ht : t = ((2 ^ k : Nat) : Int)) (hr : 0 ≤ r ∧ r < t) (hs : ∀ i j, j < i → i < n → -10000 ≤ s i j ∧ s i j ≤ 10000) (hT : ∀ m, m < 2 ^ k → Tl wt wo n s m (L 59 m)) (hW : ∀ m, m < 2 ^ n → I 57 m = Wk n s m z0 ∧ NDx wt wo m (I 58 m)) : ∀ (n9 : Nat) (p le g : Int) (ls pre : List Nat), pre ++ ls = sbs r.toNat 9 → le = (ls.length : Int) → (∀ x l, ls = x :: l → p = (x : Int)) → chn r.toNat ls = true → GMx (gkC L wt wo k r.toNat) (gkV L n s k r.toNat) pre g → le ≤ 512 → le < (n9 : Int) → Rch l E 2 28 (MW b I L) 0 0 (fun rt w => ∃ G, rt = some (vL G) ∧ w = MW b I L ∧ Bst wt wo n s (2 ^ k + r.toNat) G) (15, [some (vR 49), some (vI t), some (vI r), some (vL g), none, some (vI p), some (vI le), none, none, none], [], MW b I L) := by
  intro n9
  induction n9 with
  | zero =>
    intro p le g ls pre h1 h2 h3 h4 h5 h6 hm
    exfalso; omega
  | succ n9 ih =>
    intro p le g ls pre h1 h2 h3 h4 h5 h6 hm
    have hp9 := pow9 (t := k) (by omega)
    have hkn : 2 ^ k + 2 ^ k ≤ 2 ^ n := pow_le hk
    have hX : 0 < le → ∃ x l, ls = x :: l ∧ p = (x : Int) ∧ x &&& r.toNat = x ∧ x ≤ r.toNat ∧ (bOr t p).toNat = 2 ^ k + x ∧ bOr t p = ((2 ^ k + x : Nat) : Int) ∧ (bXor r p).toNat = r.toNat ^^^ x ∧ bXor r p = ((r.toNat ^^^ x : Nat) : Int) ∧ r.toNat ^^^ x < 2 ^ k := by
      intro z
      cases hls : ls with
      | nil => rw [hls] at h2; simp at h2; omega
      | cons x l =>
        have hmem : x ∈ sbs r.toNat 9 := by rw [← h1, hls]; exact List.mem_append.mpr (Or.inr (List.mem_cons_self ..))
        have h6 := ((sbs_mem _ _ _).mp hmem).2
        have h7 := h3 x l hls
        have h8 := sub_le h6
        have e5 : p.toNat = x := by omega
        have f1 : bOr t p = ((2 ^ k + p.toNat : Nat) : Int) := by rw [ht]; exact bOr_t (by omega) (by omega) (by omega)
        have f2 : bXor r p = ((r.toNat ^^^ p.toNat : Nat) : Int) := bXor_n ⟨by omega, by omega⟩ ⟨by omega, by omega⟩
        rw [e5] at f1 f2
        exact ⟨x, l, rfl, h7, h6, h8, by rw [f1, Int.toNat_natCast], f1, by rw [f2, Int.toNat_natCast], f2, xor_lt2 (by omega) h6⟩
    have hO : 0 < le → (0 ≤ p ∧ p ≤ r) ∧ (0 ≤ bOr t p ∧ bOr t p < 1024) ∧ (0 ≤ bXor r p ∧ bXor r p < 512) ∧ (-1000000 ≤ I 57 (bOr t p).toNat ∧ I 57 (bOr t p).toNat ≤ 1000000) ∧ (L 59 (bXor r p).toNat ≠ -9223372036854775808 → -1099511627776000000 ≤ L 59 (bXor r p).toNat ∧ L 59 (bXor r p).toNat ≤ 1099513826799255552) ∧ lShl (I 57 (bOr t p).toNat) 40 = I 57 (bOr t p).toNat * 1099511627776 := by
      intro z
      obtain ⟨x, l, e1, e2, e3, e4, f1, f2, f3, f4, f5⟩ := hX z
      have hw : -1000000 ≤ I 57 (bOr t p).toNat ∧ I 57 (bOr t p).toNat ≤ 1000000 := by rw [f1, (hW (2 ^ k + x) (by omega)).1]; exact Wk_rg hn hs _ _
      refine ⟨by omega, by omega, by omega, hw, fun hne => ?_, ?_⟩
      · rw [f3] at hne ⊢
        exact ((Tl_K hn hs (by omega) (hT _ f5)).2 hne).2
      · rw [lShl_n (by unfold i64; omega) (by omega) (by omega) (by show i64 (_ * 1099511627776); unfold i64; omega)]
        rfl
    have hz9 := lcmp0 (L 59 (bXor r p).toNat) (-9223372036854775808)
    refine rch_run rfl (by decide) 1 (t' := (17, [some (vR 49), some (vI t), some (vI r), some (vL g), none, some (vI p), some (vI le), none, none, none], [vI le], MW b I L)) (ps := []) rfl trivial ?_
    refine rch_br rfl (cd := le ≤ 0) (t1 := (94, [some (vR 49), some (vI t), some (vI r), some (vL g), none, some (vI p), some (vI le), none, none, none], [], MW b I L)) (t2 := (20, [some (vR 49), some (vI t), some (vI r), some (vL g), none, some (vI p), some (vI le), none, none, none], [], MW b I L)) rfl (fun c17_1 => ?_) (fun c17_1 => ?_)
    · refine rch_run rfl (by decide) 1 (t' := (95, [some (vR 49), some (vI t), some (vI r), some (vL g), none, some (vI p), some (vI le), none, none, none], [vL g], MW b I L)) (ps := []) rfl trivial ?_
      refine rch_ret rfl (rt := some (vL g)) rfl trivial mw_c ?_
      have hl9 : ls = [] := List.eq_nil_of_length_eq_zero (by omega)
      rw [hl9, List.append_nil] at h1
      rw [h1] at h5
      exact ⟨g, rfl, rfl, GM_end hn hs hk (by omega) hT h5⟩
    · refine rch_run rfl (by decide) 19 (t' := (49, [some (vR 49), some (vI t), some (vI r), some (vL g), none, some (vI p), some (vI le), some (vI (bOr t p)), some (vL (L 59 (bXor r p).toNat)), none], [vI (bAnd (I 58 (bOr t p).toNat) (bXor (bOr t p) (-1)))], MW b I L)) (ps := [0 ≤ bXor r p ∧ bXor r p < ((512 : Nat) : Int), 0 ≤ bOr t p ∧ bOr t p < ((1024 : Nat) : Int)]) rfl (by (try have hO8 := hO (by omega)); simp only [all_, i32, i64]; omega) ?_
      refine rch_br rfl (cd := bAnd (I 58 (bOr t p).toNat) (bXor (bOr t p) (-1)) ≠ 0) (t1 := (80, [some (vR 49), some (vI t), some (vI r), some (vL g), none, some (vI p), some (vI le), some (vI (bOr t p)), some (vL (L 59 (bXor r p).toNat)), none], [], MW b I L)) (t2 := (52, [some (vR 49), some (vI t), some (vI r), some (vL g), none, some (vI p), some (vI le), some (vI (bOr t p)), some (vL (L 59 (bXor r p).toNat)), none], [], MW b I L)) rfl (fun c49_2 => ?_) (fun c49_2 => ?_)
      · refine rch_run rfl (by decide) 8 (t' := (15, [some (vR 49), some (vI t), some (vI r), some (vL g), none, some (vI (bAnd (p - 1) r)), some (vI (le + (-1))), some (vI (bOr t p)), some (vL (L 59 (bXor r p).toNat)), none], [], MW b I L)) (ps := [i32 (p - 1), i32 (le + (-1))]) rfl (by (try have hO8 := hO (by omega)); simp only [all_, i32, i64]; omega) ?_
        refine rch_forget [7, 8] ?_
        show Rch l E 2 28 _ _ _ _ (15, [some (vR 49), some (vI t), some (vI r), some (vL g), none, some (vI (bAnd (p - 1) r)), some (vI (le + (-1))), none, none, none], [], MW b I L)
        obtain ⟨x9, l9, e1, e2, e3, e4, f1, f2, f3, f4, f5⟩ := hX (by omega)
        have hO8 := hO (by omega)
        have hc9 := chn_t (m := r.toNat) (x := x9) (l := l9) (by rw [← e1]; exact h4)
        have hW9 := hW (bOr t p).toNat (by omega)
        have hN9 := (nand_n (x := I 58 (bOr t p).toNat) (y := bOr t p) ⟨hW9.2.1.1, by have := hW9.2.1.2; omega⟩ ⟨by omega, by omega⟩).trans (NDx_VL (by omega) hW9.2)
        have hg9 : GMx (gkC L wt wo k r.toNat) (gkV L n s k r.toNat) (pre ++ [x9]) (g) := by
          refine GM_skip h5 (fun z9 => ?_)
          have z1 := z9.1
          have z2 := z9.2
          rw [← f1] at z1
          rw [← f3] at z2
          have z3 := hN9.mpr z1
          unfold NV at z2
          omega
        refine ih _ (le + -1) _ l9 (pre ++ [x9]) (by rw [List.append_assoc, ← h1, e1]; rfl) (by rw [h2, e1, List.length_cons]; omega) (fun y l hy => ?_) hc9.1 hg9 (by omega) (by omega)
        obtain ⟨y1, y2⟩ := hc9.2 y l hy
        rw [bAnd_n ⟨by omega, by omega⟩ ⟨by omega, by omega⟩, y1, show (p - 1).toNat = x9 - 1 by omega]
      · refine rch_run rfl (by decide) 3 (t' := (58, [some (vR 49), some (vI t), some (vI r), some (vL g), none, some (vI p), some (vI le), some (vI (bOr t p)), some (vL (L 59 (bXor r p).toNat)), none], [vI (lCmp (L 59 (bXor r p).toNat) (-9223372036854775808))], MW b I L)) (ps := []) rfl trivial ?_
        refine rch_br rfl (cd := lCmp (L 59 (bXor r p).toNat) (-9223372036854775808) = 0) (t1 := (80, [some (vR 49), some (vI t), some (vI r), some (vL g), none, some (vI p), some (vI le), some (vI (bOr t p)), some (vL (L 59 (bXor r p).toNat)), none], [], MW b I L)) (t2 := (61, [some (vR 49), some (vI t), some (vI r), some (vL g), none, some (vI p), some (vI le), some (vI (bOr t p)), some (vL (L 59 (bXor r p).toNat)), none], [], MW b I L)) rfl (fun c58_3 => ?_) (fun c58_3 => ?_)
        · refine rch_run rfl (by decide) 8 (t' := (15, [some (vR 49), some (vI t), some (vI r), some (vL g), none, some (vI (bAnd (p - 1) r)), some (vI (le + (-1))), some (vI (bOr t p)), some (vL (L 59 (bXor r p).toNat)), none], [], MW b I L)) (ps := [i32 (p - 1), i32 (le + (-1))]) rfl (by (try have hO8 := hO (by omega)); simp only [all_, i32, i64]; omega) ?_
          refine rch_forget [7, 8] ?_
          show Rch l E 2 28 _ _ _ _ (15, [some (vR 49), some (vI t), some (vI r), some (vL g), none, some (vI (bAnd (p - 1) r)), some (vI (le + (-1))), none, none, none], [], MW b I L)
          obtain ⟨x9, l9, e1, e2, e3, e4, f1, f2, f3, f4, f5⟩ := hX (by omega)
          have hO8 := hO (by omega)
          have hc9 := chn_t (m := r.toNat) (x := x9) (l := l9) (by rw [← e1]; exact h4)
          have hW9 := hW (bOr t p).toNat (by omega)
          have hN9 := (nand_n (x := I 58 (bOr t p).toNat) (y := bOr t p) ⟨hW9.2.1.1, by have := hW9.2.1.2; omega⟩ ⟨by omega, by omega⟩).trans (NDx_VL (by omega) hW9.2)
          have hg9 : GMx (gkC L wt wo k r.toNat) (gkV L n s k r.toNat) (pre ++ [x9]) (g) := by
            refine GM_skip h5 (fun z9 => ?_)
            have z1 := z9.1
            have z2 := z9.2
            rw [← f1] at z1
            rw [← f3] at z2
            have z3 := hN9.mpr z1
            unfold NV at z2
            omega
          refine ih _ (le + -1) _ l9 (pre ++ [x9]) (by rw [List.append_assoc, ← h1, e1]; rfl) (by rw [h2, e1, List.length_cons]; omega) (fun y l hy => ?_) hc9.1 hg9 (by omega) (by omega)
          obtain ⟨y1, y2⟩ := hc9.2 y l hy
          rw [bAnd_n ⟨by omega, by omega⟩ ⟨by omega, by omega⟩, y1, show (p - 1).toNat = x9 - 1 by omega]
        · refine rch_run rfl (by decide) 20 (t' := (15, [some (vR 49), some (vI t), some (vI r), some (vL (lMax g ((lShl (I 57 (bOr t p).toNat) 40) + (L 59 (bXor r p).toNat)))), none, some (vI (bAnd (p - 1) r)), some (vI (le + (-1))), some (vI (bOr t p)), some (vL (L 59 (bXor r p).toNat)), none], [], MW b I L)) (ps := [0 ≤ bOr t p ∧ bOr t p < ((1024 : Nat) : Int), i64 ((lShl (I 57 (bOr t p).toNat) 40) + (L 59 (bXor r p).toNat)), i32 (p - 1), i32 (le + (-1))]) rfl (by (try have hO8 := hO (by omega)); simp only [all_, i32, i64]; omega) ?_
          refine rch_forget [7, 8] ?_
          show Rch l E 2 28 _ _ _ _ (15, [some (vR 49), some (vI t), some (vI r), some (vL (lMax g ((lShl (I 57 (bOr t p).toNat) 40) + (L 59 (bXor r p).toNat)))), none, some (vI (bAnd (p - 1) r)), some (vI (le + (-1))), none, none, none], [], MW b I L)
          obtain ⟨x9, l9, e1, e2, e3, e4, f1, f2, f3, f4, f5⟩ := hX (by omega)
          have hO8 := hO (by omega)
          have hc9 := chn_t (m := r.toNat) (x := x9) (l := l9) (by rw [← e1]; exact h4)
          have hW9 := hW (bOr t p).toNat (by omega)
          have hN9 := (nand_n (x := I 58 (bOr t p).toNat) (y := bOr t p) ⟨hW9.2.1.1, by have := hW9.2.1.2; omega⟩ ⟨by omega, by omega⟩).trans (NDx_VL (by omega) hW9.2)
          have hv9 := hN9.mp (by omega)
          rw [f1] at hv9
          have hg9 : GMx (gkC L wt wo k r.toNat) (gkV L n s k r.toNat) (pre ++ [x9]) (lMax g ((lShl (I 57 (bOr t p).toNat) 40) + (L 59 (bXor r p).toNat))) := by
            refine GM_take h5 ⟨hv9, by rw [← f3]; unfold NV; omega⟩ ?_
            show _ = Wk n s (2 ^ k + x9) z0 * 1099511627776 + L 59 (r.toNat ^^^ x9)
            rw [← (hW (2 ^ k + x9) (by omega)).1, ← f3, ← f1]
            rw [hO8.2.2.2.2.2]
          refine ih _ (le + -1) _ l9 (pre ++ [x9]) (by rw [List.append_assoc, ← h1, e1]; rfl) (by rw [h2, e1, List.length_cons]; omega) (fun y l hy => ?_) hc9.1 hg9 (by omega) (by omega)
          obtain ⟨y1, y2⟩ := hc9.2 y l hy
          rw [bAnd_n ⟨by omega, by omega⟩ ⟨by omega, by omega⟩, y1, show (p - 1).toNat = x9 - 1 by omega]

theorem k_greatestKey (l : Launch) (E : AX) (b : Bool) (I L : Nat → Nat → Int) (n k : Nat) (s : Nat → Nat → Int) (wt wo : Nat → Nat → Prop) (t r : Int) (hn : n ≤ 10) (hk : k < n) (ht : t = ((2 ^ k : Nat) : Int)) (hr : 0 ≤ r ∧ r < t) (hs : ∀ i j, j < i → i < n → -10000 ≤ s i j ∧ s i j ≤ 10000) (hT : ∀ m, m < 2 ^ k → Tl wt wo n s m (L 59 m)) (hW : ∀ m, m < 2 ^ n → I 57 m = Wk n s m z0 ∧ NDx wt wo m (I 58 m)) : Con l E 2 28 [vR 49, vI t, vI r] (MW b I L) 0 0 (fun rt w => ∃ G, rt = some (vL G) ∧ w = MW b I L ∧ Bst wt wo n s (2 ^ k + r.toNat) G) := by
  refine con_ok (fun hw9 hs9 => ?_)
  refine con_intro (by decide) (Nat.le_of_ble_eq_true rfl) ?_
  have hp9 := pow9 (t := k) (by omega)
  show Rch l E 2 28 _ _ _ _ (0, [some (vR 49), some (vI t), some (vI r), none, none, none, none, none, none, none], [], MW b I L)
  refine rch_run rfl (by decide) 6 (t' := (9, [some (vR 49), some (vI t), some (vI r), some (vL (-9223372036854775808)), none, some (vI r), none, none, none, none], [vI r, vI 1], MW b I L)) (ps := []) rfl trivial ?_
  refine rch_call (h' := 1) (k' := 166) (as := [vI r]) (t1 := (12, [some (vR 49), some (vI t), some (vI r), some (vL (-9223372036854775808)), none, some (vI r), none, none, none, none], [vI 1], MW b I L)) rfl rfl (k_bitCount l E b I L r (by omega)) (by decide) mw_le ?_
  rintro rt9 w9 (⟨rfl, rfl⟩) _ _
  show Rch l E 2 28 _ _ _ _ (12, [some (vR 49), some (vI t), some (vI r), some (vL (-9223372036854775808)), none, some (vI r), none, none, none, none], [vI (bcn r), vI 1], MW b I L)
  refine rch_run rfl (by decide) 2 (t' := (15, [some (vR 49), some (vI t), some (vI r), some (vL (-9223372036854775808)), none, some (vI r), some (vI (bShl 1 (bcn r))), none, none, none], [], MW b I L)) (ps := []) rfl trivial ?_
  obtain ⟨f1, ⟨l9, f2⟩, f3, f4, f5⟩ := bcn_f (r := r.toNat) (by omega)
  rw [show ((r.toNat : Nat) : Int) = r by omega] at f1 f4 f5
  have h512 := pow9 (t := (bcn r).toNat) (by omega)
  exact lp_gk l E b I L n k s wt wo t r hn hk ht hr hs hT hW 513 r _ _ (sbs r.toNat 9) [] rfl (by rw [f1, bShl_i (by omega) (by omega)]) (fun x l hx => by rw [f2] at hx; have := (List.cons.inj hx).1; omega) f3 (GM_0 _ _) (by rw [bShl_i (by omega) (by omega)]; omega) (by rw [bShl_i (by omega) (by omega)]; omega)
