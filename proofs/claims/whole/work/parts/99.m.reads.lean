def stB (i : Nat) : List Int := strB.getD i []
/-- the token looked at is this word -/
def rdJ (J : Nat → Nat → Int) (s : List Int) : Bool := decide (J 28 1 = 2 ∧ (s.length : Int) = J 28 4 - J 28 2 ∧ ∀ j, j < s.length → J 29 ((J 28 2).toNat + j) = s.getD j 0)
def rdt (B : Nat → Int) (n a : Nat) (s : List Int) : Bool := decide (tK B n a = 2 ∧ s.length = tN B n a - tP B n a ∧ ∀ j, j < s.length → B (tP B n a + j) = s.getD j 0)
theorem rd_t {J : Nat → Nat → Int} {B : Nat → Int} {n a : Nat} {s : List Int} (h : Tkn J B n a) (hB : J 29 = B) (hle : tP B n a ≤ tN B n a) : rdJ J s = rdt B n a s := by
  unfold rdJ rdt
  rw [h.1, h.2.1, h.2.2.1, hB, Int.toNat_natCast]
  exact decide_eq_decide.mpr ⟨fun z => ⟨z.1, by omega, z.2.2⟩, fun z => ⟨z.1, by omega, z.2.2⟩⟩

theorem k_ci3 (l : Launch) (E : AX) (b : Bool) (I L : Nat → Nat → Int) (i n : Int) (hi : 0 ≤ i ∧ i < n) : Con l E 1 173 [vI i, vI n, vR 5000] (MW b I L) 0 0 (fun rt w => rt = some (vI i) ∧ w = MW b I L) := by
  refine con_ok (fun hw9 hs9 => ?_)
  refine con_intro (by decide) (Nat.le_of_ble_eq_true rfl) ?_
  show Rch l E 1 173 _ _ _ _ (0, [some (vI i), some (vI n), some (vR 5000)], [], MW b I L)
  refine rch_run cdK173 (by decide) 1 (t' := (1, [some (vI i), some (vI n), some (vR 5000)], [vI i], MW b I L)) (ps := []) rfl trivial ?_
  refine rch_br cdK173 (cd := i < 0) (t1 := (9, [some (vI i), some (vI n), some (vR 5000)], [], MW b I L)) (t2 := (4, [some (vI i), some (vI n), some (vR 5000)], [], MW b I L)) rfl (fun c9 => by exfalso; omega) (fun c1_1 => ?_)
  refine rch_run cdK173 (by decide) 2 (t' := (6, [some (vI i), some (vI n), some (vR 5000)], [vI n, vI i], MW b I L)) (ps := []) rfl trivial ?_
  refine rch_br cdK173 (cd := i < n) (t1 := (16, [some (vI i), some (vI n), some (vR 5000)], [], MW b I L)) (t2 := (9, [some (vI i), some (vI n), some (vR 5000)], [], MW b I L)) rfl (fun c6_2 => ?_) (fun c9 => by exfalso; omega)
  refine rch_run cdK173 (by decide) 1 (t' := (17, [some (vI i), some (vI n), some (vR 5000)], [vI i], MW b I L)) (ps := []) rfl trivial ?_
  refine rch_ret cdK173 (rt := some (vI i)) rfl trivial mw_c ?_
  exact ⟨rfl, rfl⟩

theorem k_ci0 (l : Launch) (E : AX) (b : Bool) (I L : Nat → Nat → Int) (i n : Int) (hi : 0 ≤ i ∧ i < n) : Con l E 2 171 [vI i, vI n] (MW b I L) 0 0 (fun rt w => rt = none ∧ w = MW b I L) := by
  refine con_ok (fun hw9 hs9 => ?_)
  refine con_intro (by decide) (Nat.le_of_ble_eq_true rfl) ?_
  show Rch l E 2 171 _ _ _ _ (0, [some (vI i), some (vI n)], [], MW b I L)
  refine rch_run cdK171 (by decide) 3 (t' := (5, [some (vI i), some (vI n)], [vR 5000, vI n, vI i], MW b I L)) (ps := []) rfl trivial ?_
  refine rch_call (h' := 1) (k' := 173) (as := [vI i, vI n, vR 5000]) (t1 := (8, [some (vI i), some (vI n)], [], MW b I L)) cdK171 rfl (k_ci3 l E b I L i n hi) (by decide) mw_le ?_
  rintro rt9 w9 (⟨rfl, rfl⟩) _ _
  show Rch l E 2 171 _ _ _ _ (8, [some (vI i), some (vI n)], [vI i], MW b I L)
  refine rch_run cdK171 (by decide) 1 (t' := (9, [some (vI i), some (vI n)], [], MW b I L)) (ps := []) rfl trivial ?_
  refine rch_ret cdK171 (rt := none) rfl trivial mw_c ?_
  exact ⟨rfl, rfl⟩

theorem chR_0 : ∀ j : Nat, j < (strB.getD 0 []).length → 0 ≤ c16 (bAnd ((strB.getD 0 []).getD j 0) 255) ∧ c16 (bAnd ((strB.getD 0 []).getD j 0) 255) ≤ 65535 := by decide

theorem k_ch1_0 (l : Launch) (E : AX) (b : Bool) (I L : Nat → Nat → Int) (j : Int) (hj : 0 ≤ j ∧ j < ((strB.getD 0 []).length : Int)) : Con l E 3 172 [vR 3000, vI j] (MW b I L) 0 0 (fun rt w => rt = some (vI (c16 (bAnd ((strB.getD 0 []).getD j.toNat 0) 255))) ∧ w = MW b I L) := by
  refine con_ok (fun hw9 hs9 => ?_)
  refine con_intro (by decide) (Nat.le_of_ble_eq_true rfl) ?_
  have hc9 := chR_0 j.toNat (by omega)
  show Rch l E 3 172 _ _ _ _ (0, [some (vR 3000), some (vI j)], [], MW b I L)
  refine rch_run cdK172 (by decide) 3 (t' := (3, [some (vR 3000), some (vI j)], [vI ((strB.getD 0 []).length : Int), vI j], MW b I L)) (ps := []) rfl trivial ?_
  refine rch_call (h' := 2) (k' := 171) (as := [vI j, vI ((strB.getD 0 []).length : Int)]) (t1 := (6, [some (vR 3000), some (vI j)], [], MW b I L)) cdK172 rfl (k_ci0 l E b I L j ((strB.getD 0 []).length : Int) hj) (by decide) mw_le ?_
  rintro rt9 w9 (⟨rfl, rfl⟩) _ _
  show Rch l E 3 172 _ _ _ _ (6, [some (vR 3000), some (vI j)], [], MW b I L)
  refine rch_run cdK172 (by decide) 6 (t' := (14, [some (vR 3000), some (vI j)], [vI (c16 (bAnd ((strB.getD 0 []).getD j.toNat 0) 255))], MW b I L)) (ps := [0 ≤ j ∧ j < ((strB.getD 0 []).length : Int)]) rfl (by simp only [all_, i32, i64]; first | omega | (simp; done) | (simp; omega)) ?_
  refine rch_ret cdK172 (rt := some (vI (c16 (bAnd ((strB.getD 0 []).getD j.toNat 0) 255)))) rfl (by show _ ∧ _; omega) mw_c ?_
  exact ⟨rfl, rfl⟩

theorem k_lat_0 (l : Launch) (E : AX) (b : Bool) (I L : Nat → Nat → Int) : Con l E 1 170 [vR 2000] (MW b I L) 0 0 (fun rt w => rt = some (vI 1) ∧ w = MW b I L) := by
  refine con_ok (fun hw9 hs9 => ?_)
  refine con_intro (by decide) (Nat.le_of_ble_eq_true rfl) ?_
  show Rch l E 1 170 _ _ _ _ (0, [some (vR 2000)], [], MW b I L)
  refine rch_run cdK170 (by decide) 1 (t' := (3, [some (vR 2000)], [vI 1], MW b I L)) (ps := []) rfl trivial ?_
  refine rch_br cdK170 (cd := (1 : Int) = 0) (t1 := (17, [some (vR 2000)], [], MW b I L)) (t2 := (6, [some (vR 2000)], [], MW b I L)) rfl (fun c9 => absurd c9 (by decide)) (fun _ => ?_)
  refine rch_run cdK170 (by decide) 2 (t' := (10, [some (vR 2000)], [vI 0], MW b I L)) (ps := []) rfl trivial ?_
  refine rch_br cdK170 (cd := (0 : Int) ≠ 0) (t1 := (17, [some (vR 2000)], [], MW b I L)) (t2 := (13, [some (vR 2000)], [], MW b I L)) rfl (fun c9 => absurd c9 (by decide)) (fun _ => ?_)
  refine rch_run cdK170 (by decide) 2 (t' := (18, [some (vR 2000)], [vI 1], MW b I L)) (ps := []) rfl trivial ?_
  refine rch_ret cdK170 (rt := some (vI 1)) rfl (Or.inr rfl) mw_c ?_
  exact ⟨rfl, rfl⟩

theorem k_cod_0 (l : Launch) (E : AX) (b : Bool) (I L : Nat → Nat → Int) : Con l E 1 169 [vR 2000] (MW b I L) 0 0 (fun rt w => rt = some (vI 0) ∧ w = MW b I L) := by
  refine con_ok (fun hw9 hs9 => ?_)
  refine con_intro (by decide) (Nat.le_of_ble_eq_true rfl) ?_
  show Rch l E 1 169 _ _ _ _ (0, [some (vR 2000)], [], MW b I L)
  refine rch_run cdK169 (by decide) 1 (t' := (3, [some (vR 2000)], [vI 1], MW b I L)) (ps := []) rfl trivial ?_
  refine rch_br cdK169 (cd := (1 : Int) = 0) (t1 := (13, [some (vR 2000)], [], MW b I L)) (t2 := (6, [some (vR 2000)], [], MW b I L)) rfl (fun c9 => absurd c9 (by decide)) (fun _ => ?_)
  refine rch_run cdK169 (by decide) 3 (t' := (14, [some (vR 2000)], [vI 0], MW b I L)) (ps := []) rfl trivial ?_
  refine rch_ret cdK169 (rt := some (vI 0)) rfl (by show _ ∧ _; omega) mw_c ?_
  exact ⟨rfl, rfl⟩

theorem chB_0 : ∀ j : Nat, j < (strB.getD 0 []).length → c16 (bAnd ((strB.getD 0 []).getD j 0) 255) = (strB.getD 0 []).getD j 0 := by decide

theorem k_chr_0 (l : Launch) (E : AX) (b : Bool) (I L : Nat → Nat → Int) (j : Int) (hj : 0 ≤ j ∧ j < ((strB.getD 0 []).length : Int)) : Con l E 4 168 [vR 2000, vI j] (MW b I L) 0 0 (fun rt w => rt = some (vI ((strB.getD 0 []).getD j.toNat 0)) ∧ w = MW b I L) := by
  refine con_ok (fun hw9 hs9 => ?_)
  refine con_intro (by decide) (Nat.le_of_ble_eq_true rfl) ?_
  have hc9 := chR_0 j.toNat (by omega)
  show Rch l E 4 168 _ _ _ _ (0, [some (vR 2000), some (vI j)], [], MW b I L)
  refine rch_run cdK168 (by decide) 1 (t' := (1, [some (vR 2000), some (vI j)], [vR 2000], MW b I L)) (ps := []) rfl trivial ?_
  refine rch_call (h' := 1) (k' := 170) (as := [vR 2000]) (t1 := (4, [some (vR 2000), some (vI j)], [], MW b I L)) cdK168 rfl (k_lat_0 l E b I L) (by decide) mw_le ?_
  rintro rt9 w9 (⟨rfl, rfl⟩) _ _
  show Rch l E 4 168 _ _ _ _ (4, [some (vR 2000), some (vI j)], [vI 1], MW b I L)
  refine rch_br cdK168 (cd := (1 : Int) = 0) (t1 := (16, [some (vR 2000), some (vI j)], [], MW b I L)) (t2 := (7, [some (vR 2000), some (vI j)], [], MW b I L)) rfl (fun c9 => absurd c9 (by decide)) (fun _ => ?_)
  refine rch_run cdK168 (by decide) 3 (t' := (12, [some (vR 2000), some (vI j)], [vI j, vR 3000], MW b I L)) (ps := []) rfl trivial ?_
  refine rch_call (h' := 3) (k' := 172) (as := [vR 3000, vI j]) (t1 := (15, [some (vR 2000), some (vI j)], [], MW b I L)) cdK168 rfl (k_ch1_0 l E b I L j hj) (by decide) mw_le ?_
  rintro rt9 w9 (⟨rfl, rfl⟩) _ _
  show Rch l E 4 168 _ _ _ _ (15, [some (vR 2000), some (vI j)], [vI (c16 (bAnd ((strB.getD 0 []).getD j.toNat 0) 255))], MW b I L)
  refine rch_ret cdK168 (rt := some (vI (c16 (bAnd ((strB.getD 0 []).getD j.toNat 0) 255)))) rfl (by show _ ∧ _; omega) mw_c ?_
  exact ⟨by rw [show c16 (bAnd ((strB.getD 0 []).getD j.toNat 0) 255) = (strB.getD 0 []).getD j.toNat 0 from chB_0 j.toNat (by omega)], rfl⟩

theorem k_len_0 (l : Launch) (E : AX) (b : Bool) (I L : Nat → Nat → Int) : Con l E 2 167 [vR 2000] (MW b I L) 0 0 (fun rt w => rt = some (vI ((strB.getD 0 []).length : Int)) ∧ w = MW b I L) := by
  refine con_ok (fun hw9 hs9 => ?_)
  refine con_intro (by decide) (Nat.le_of_ble_eq_true rfl) ?_
  show Rch l E 2 167 _ _ _ _ (0, [some (vR 2000)], [], MW b I L)
  refine rch_run cdK167 (by decide) 4 (t' := (6, [some (vR 2000)], [vR 2000, vI ((strB.getD 0 []).length : Int)], MW b I L)) (ps := []) rfl trivial ?_
  refine rch_call (h' := 1) (k' := 169) (as := [vR 2000]) (t1 := (9, [some (vR 2000)], [vI ((strB.getD 0 []).length : Int)], MW b I L)) cdK167 rfl (k_cod_0 l E b I L) (by decide) mw_le ?_
  rintro rt9 w9 (⟨rfl, rfl⟩) _ _
  show Rch l E 2 167 _ _ _ _ (9, [some (vR 2000)], [vI 0, vI ((strB.getD 0 []).length : Int)], MW b I L)
  refine rch_run cdK167 (by decide) 1 (t' := (10, [some (vR 2000)], [vI (bShr ((strB.getD 0 []).length : Int) 0)], MW b I L)) (ps := []) rfl trivial ?_
  refine rch_ret cdK167 (rt := some (vI (bShr ((strB.getD 0 []).length : Int) 0))) rfl trivial mw_c ?_
  exact ⟨by rw [show bShr (((strB.getD 0 []).length : Nat) : Int) 0 = (((strB.getD 0 []).length : Nat) : Int) by decide], rfl⟩

theorem lp_reads_0 (l : Launch) (E : AX) (b : Bool) (I L : Nat → Nat → Int) (hT : TpK I) (hp : 0 ≤ I 28 2 ∧ I 28 2 ≤ I 28 4) (hk : I 28 1 = 2 ∧ ((strB.getD 0 []).length : Int) = I 28 4 - I 28 2) : ∀ (n9 : Nat) (j : Int), 0 ≤ j → j ≤ ((strB.getD 0 []).length : Int) → (∀ z : Nat, (z : Int) < j → I 29 ((I 28 2).toNat + z) = (strB.getD 0 []).getD z 0) → ((strB.getD 0 []).length : Int) - j < (n9 : Int) → Rch l E 5 45 (MW b I L) 0 0 (fun rt w => rt = some (vI (b2i (rdJ I (strB.getD 0 [])))) ∧ w = MW b I L) (28, [some (vR 28), some (vR 2000), some (vI j)], [], MW b I L) := by
  intro n9
  induction n9 with
  | zero =>
    intro j  h1 h2 h3 hm
    exfalso; omega
  | succ n9 ih =>
    intro j  h1 h2 h3 hm
    have hT1 := hT.1
    have he9 : ((I 28 2) + j).toNat = (I 28 2).toNat + j.toNat := by omega
    refine rch_run cdK45 (by decide) 2 (t' := (30, [some (vR 28), some (vR 2000), some (vI j)], [vR 2000, vI j], MW b I L)) (ps := []) rfl trivial ?_
    refine rch_call (h' := 2) (k' := 167) (as := [vR 2000]) (t1 := (33, [some (vR 28), some (vR 2000), some (vI j)], [vI j], MW b I L)) cdK45 rfl (k_len_0 l E b I L) (by decide) mw_le ?_
    rintro rt9 w9 (⟨rfl, rfl⟩) _ _
    show Rch l E 5 45 _ _ _ _ (33, [some (vR 28), some (vR 2000), some (vI j)], [vI ((strB.getD 0 []).length : Int), vI j], MW b I L)
    refine rch_br cdK45 (cd := ((strB.getD 0 []).length : Int) ≤ j) (t1 := (63, [some (vR 28), some (vR 2000), some (vI j)], [], MW b I L)) (t2 := (36, [some (vR 28), some (vR 2000), some (vI j)], [], MW b I L)) rfl (fun c33_1 => ?_) (fun c33_1 => ?_)
    · refine rch_run cdK45 (by decide) 1 (t' := (64, [some (vR 28), some (vR 2000), some (vI j)], [vI 1], MW b I L)) (ps := []) rfl trivial ?_
      refine rch_ret cdK45 (rt := some (vI 1)) rfl (Or.inr rfl) mw_c ?_
      exact ⟨by rw [show rdJ I (strB.getD 0 []) = true from decide_eq_true ⟨hk.1, hk.2, fun z hz => h3 z (by omega)⟩]; rfl, rfl⟩
    · refine rch_run cdK45 (by decide) 9 (t' := (49, [some (vR 28), some (vR 2000), some (vI j)], [vI j, vR 2000, vI (I 29 ((I 28 2) + j).toNat)], MW b I L)) (ps := [i32 ((I 28 2) + j), 0 ≤ (I 28 2) + j ∧ (I 28 2) + j < ((500 : Nat) : Int)]) rfl (by simp only [all_, i32, i64]; first | omega | (simp; done) | (simp; omega)) ?_
      refine rch_call (h' := 4) (k' := 168) (as := [vR 2000, vI j]) (t1 := (52, [some (vR 28), some (vR 2000), some (vI j)], [vI (I 29 ((I 28 2) + j).toNat)], MW b I L)) cdK45 rfl (k_chr_0 l E b I L j (by omega)) (by decide) mw_le ?_
      rintro rt9 w9 (⟨rfl, rfl⟩) _ _
      show Rch l E 5 45 _ _ _ _ (52, [some (vR 28), some (vR 2000), some (vI j)], [vI ((strB.getD 0 []).getD j.toNat 0), vI (I 29 ((I 28 2) + j).toNat)], MW b I L)
      refine rch_br cdK45 (cd := I 29 ((I 28 2) + j).toNat = (strB.getD 0 []).getD j.toNat 0) (t1 := (57, [some (vR 28), some (vR 2000), some (vI j)], [], MW b I L)) (t2 := (55, [some (vR 28), some (vR 2000), some (vI j)], [], MW b I L)) rfl (fun c52_2 => ?_) (fun c52_2 => ?_)
      · refine rch_run cdK45 (by decide) 2 (t' := (28, [some (vR 28), some (vR 2000), some (vI (j + 1))], [], MW b I L)) (ps := [i32 (j + 1)]) rfl (by simp only [all_, i32, i64]; first | omega | (simp; done) | (simp; omega)) ?_
        exact ih (j + 1) (by omega) (by omega) (fun z hz => by by_cases e : z = j.toNat; (rw [e, ← he9]; omega); exact h3 z (by omega)) (by omega)
      · refine rch_run cdK45 (by decide) 1 (t' := (56, [some (vR 28), some (vR 2000), some (vI j)], [vI 0], MW b I L)) (ps := []) rfl trivial ?_
        refine rch_ret cdK45 (rt := some (vI 0)) rfl (Or.inl rfl) mw_c ?_
        exact ⟨by rw [show rdJ I (strB.getD 0 []) = false from decide_eq_false (fun z => by have := z.2.2 j.toNat (by omega); rw [← he9] at this; omega)]; rfl, rfl⟩

theorem k_reads_0 (l : Launch) (E : AX) (b : Bool) (I L : Nat → Nat → Int) (hT : TpK I) (hp : 0 ≤ I 28 2 ∧ I 28 2 ≤ I 28 4) : Con l E 5 45 [vR 28, vR 2000] (MW b I L) 0 0 (fun rt w => rt = some (vI (b2i (rdJ I (strB.getD 0 [])))) ∧ w = MW b I L) := by
  refine con_ok (fun hw9 hs9 => ?_)
  refine con_intro (by decide) (Nat.le_of_ble_eq_true rfl) ?_
  have hT1 := hT.1
  show Rch l E 5 45 _ _ _ _ (0, [some (vR 28), some (vR 2000), none], [], MW b I L)
  refine rch_run cdK45 (by decide) 3 (t' := (5, [some (vR 28), some (vR 2000), none], [vI 2, vI (I 28 1)], MW b I L)) (ps := []) rfl trivial ?_
  refine rch_br cdK45 (cd := I 28 1 ≠ (2 : Int)) (t1 := (24, [some (vR 28), some (vR 2000), none], [], MW b I L)) (t2 := (8, [some (vR 28), some (vR 2000), none], [], MW b I L)) rfl (fun c5_1 => ?_) (fun c5_1 => ?_)
  · refine rch_run cdK45 (by decide) 1 (t' := (25, [some (vR 28), some (vR 2000), none], [vI 0], MW b I L)) (ps := []) rfl trivial ?_
    refine rch_ret cdK45 (rt := some (vI 0)) rfl (Or.inl rfl) mw_c ?_
    exact ⟨by rw [show rdJ I (strB.getD 0 []) = false from decide_eq_false (fun z => by omega)]; rfl, rfl⟩
  · refine rch_run cdK45 (by decide) 1 (t' := (9, [some (vR 28), some (vR 2000), none], [vR 2000], MW b I L)) (ps := []) rfl trivial ?_
    refine rch_call (h' := 2) (k' := 167) (as := [vR 2000]) (t1 := (12, [some (vR 28), some (vR 2000), none], [], MW b I L)) cdK45 rfl (k_len_0 l E b I L) (by decide) mw_le ?_
    rintro rt9 w9 (⟨rfl, rfl⟩) _ _
    show Rch l E 5 45 _ _ _ _ (12, [some (vR 28), some (vR 2000), none], [vI ((strB.getD 0 []).length : Int)], MW b I L)
    refine rch_run cdK45 (by decide) 5 (t' := (21, [some (vR 28), some (vR 2000), none], [vI ((I 28 4) - (I 28 2)), vI ((strB.getD 0 []).length : Int)], MW b I L)) (ps := [i32 ((I 28 4) - (I 28 2))]) rfl (by simp only [all_, i32, i64]; first | omega | (simp; done) | (simp; omega)) ?_
    refine rch_br cdK45 (cd := ((strB.getD 0 []).length : Int) = (I 28 4) - (I 28 2)) (t1 := (26, [some (vR 28), some (vR 2000), none], [], MW b I L)) (t2 := (24, [some (vR 28), some (vR 2000), none], [], MW b I L)) rfl (fun c21_2 => ?_) (fun c21_2 => ?_)
    · refine rch_run cdK45 (by decide) 2 (t' := (28, [some (vR 28), some (vR 2000), some (vI 0)], [], MW b I L)) (ps := []) rfl trivial ?_
      exact lp_reads_0 l E b I L hT hp (by omega) 20 0 (by omega) (by decide) (fun z hz => by omega) (by decide)
    · refine rch_run cdK45 (by decide) 1 (t' := (25, [some (vR 28), some (vR 2000), none], [vI 0], MW b I L)) (ps := []) rfl trivial ?_
      refine rch_ret cdK45 (rt := some (vI 0)) rfl (Or.inl rfl) mw_c ?_
      exact ⟨by rw [show rdJ I (strB.getD 0 []) = false from decide_eq_false (fun z => by omega)]; rfl, rfl⟩

theorem chR_1 : ∀ j : Nat, j < (strB.getD 1 []).length → 0 ≤ c16 (bAnd ((strB.getD 1 []).getD j 0) 255) ∧ c16 (bAnd ((strB.getD 1 []).getD j 0) 255) ≤ 65535 := by decide

theorem k_ch1_1 (l : Launch) (E : AX) (b : Bool) (I L : Nat → Nat → Int) (j : Int) (hj : 0 ≤ j ∧ j < ((strB.getD 1 []).length : Int)) : Con l E 3 172 [vR 3001, vI j] (MW b I L) 0 0 (fun rt w => rt = some (vI (c16 (bAnd ((strB.getD 1 []).getD j.toNat 0) 255))) ∧ w = MW b I L) := by
  refine con_ok (fun hw9 hs9 => ?_)
  refine con_intro (by decide) (Nat.le_of_ble_eq_true rfl) ?_
  have hc9 := chR_1 j.toNat (by omega)
  show Rch l E 3 172 _ _ _ _ (0, [some (vR 3001), some (vI j)], [], MW b I L)
  refine rch_run cdK172 (by decide) 3 (t' := (3, [some (vR 3001), some (vI j)], [vI ((strB.getD 1 []).length : Int), vI j], MW b I L)) (ps := []) rfl trivial ?_
  refine rch_call (h' := 2) (k' := 171) (as := [vI j, vI ((strB.getD 1 []).length : Int)]) (t1 := (6, [some (vR 3001), some (vI j)], [], MW b I L)) cdK172 rfl (k_ci0 l E b I L j ((strB.getD 1 []).length : Int) hj) (by decide) mw_le ?_
  rintro rt9 w9 (⟨rfl, rfl⟩) _ _
  show Rch l E 3 172 _ _ _ _ (6, [some (vR 3001), some (vI j)], [], MW b I L)
  refine rch_run cdK172 (by decide) 6 (t' := (14, [some (vR 3001), some (vI j)], [vI (c16 (bAnd ((strB.getD 1 []).getD j.toNat 0) 255))], MW b I L)) (ps := [0 ≤ j ∧ j < ((strB.getD 1 []).length : Int)]) rfl (by simp only [all_, i32, i64]; first | omega | (simp; done) | (simp; omega)) ?_
  refine rch_ret cdK172 (rt := some (vI (c16 (bAnd ((strB.getD 1 []).getD j.toNat 0) 255)))) rfl (by show _ ∧ _; omega) mw_c ?_
  exact ⟨rfl, rfl⟩

theorem k_lat_1 (l : Launch) (E : AX) (b : Bool) (I L : Nat → Nat → Int) : Con l E 1 170 [vR 2001] (MW b I L) 0 0 (fun rt w => rt = some (vI 1) ∧ w = MW b I L) := by
  refine con_ok (fun hw9 hs9 => ?_)
  refine con_intro (by decide) (Nat.le_of_ble_eq_true rfl) ?_
  show Rch l E 1 170 _ _ _ _ (0, [some (vR 2001)], [], MW b I L)
  refine rch_run cdK170 (by decide) 1 (t' := (3, [some (vR 2001)], [vI 1], MW b I L)) (ps := []) rfl trivial ?_
  refine rch_br cdK170 (cd := (1 : Int) = 0) (t1 := (17, [some (vR 2001)], [], MW b I L)) (t2 := (6, [some (vR 2001)], [], MW b I L)) rfl (fun c9 => absurd c9 (by decide)) (fun _ => ?_)
  refine rch_run cdK170 (by decide) 2 (t' := (10, [some (vR 2001)], [vI 0], MW b I L)) (ps := []) rfl trivial ?_
  refine rch_br cdK170 (cd := (0 : Int) ≠ 0) (t1 := (17, [some (vR 2001)], [], MW b I L)) (t2 := (13, [some (vR 2001)], [], MW b I L)) rfl (fun c9 => absurd c9 (by decide)) (fun _ => ?_)
  refine rch_run cdK170 (by decide) 2 (t' := (18, [some (vR 2001)], [vI 1], MW b I L)) (ps := []) rfl trivial ?_
  refine rch_ret cdK170 (rt := some (vI 1)) rfl (Or.inr rfl) mw_c ?_
  exact ⟨rfl, rfl⟩

theorem k_cod_1 (l : Launch) (E : AX) (b : Bool) (I L : Nat → Nat → Int) : Con l E 1 169 [vR 2001] (MW b I L) 0 0 (fun rt w => rt = some (vI 0) ∧ w = MW b I L) := by
  refine con_ok (fun hw9 hs9 => ?_)
  refine con_intro (by decide) (Nat.le_of_ble_eq_true rfl) ?_
  show Rch l E 1 169 _ _ _ _ (0, [some (vR 2001)], [], MW b I L)
  refine rch_run cdK169 (by decide) 1 (t' := (3, [some (vR 2001)], [vI 1], MW b I L)) (ps := []) rfl trivial ?_
  refine rch_br cdK169 (cd := (1 : Int) = 0) (t1 := (13, [some (vR 2001)], [], MW b I L)) (t2 := (6, [some (vR 2001)], [], MW b I L)) rfl (fun c9 => absurd c9 (by decide)) (fun _ => ?_)
  refine rch_run cdK169 (by decide) 3 (t' := (14, [some (vR 2001)], [vI 0], MW b I L)) (ps := []) rfl trivial ?_
  refine rch_ret cdK169 (rt := some (vI 0)) rfl (by show _ ∧ _; omega) mw_c ?_
  exact ⟨rfl, rfl⟩

theorem chB_1 : ∀ j : Nat, j < (strB.getD 1 []).length → c16 (bAnd ((strB.getD 1 []).getD j 0) 255) = (strB.getD 1 []).getD j 0 := by decide

theorem k_chr_1 (l : Launch) (E : AX) (b : Bool) (I L : Nat → Nat → Int) (j : Int) (hj : 0 ≤ j ∧ j < ((strB.getD 1 []).length : Int)) : Con l E 4 168 [vR 2001, vI j] (MW b I L) 0 0 (fun rt w => rt = some (vI ((strB.getD 1 []).getD j.toNat 0)) ∧ w = MW b I L) := by
  refine con_ok (fun hw9 hs9 => ?_)
  refine con_intro (by decide) (Nat.le_of_ble_eq_true rfl) ?_
  have hc9 := chR_1 j.toNat (by omega)
  show Rch l E 4 168 _ _ _ _ (0, [some (vR 2001), some (vI j)], [], MW b I L)
  refine rch_run cdK168 (by decide) 1 (t' := (1, [some (vR 2001), some (vI j)], [vR 2001], MW b I L)) (ps := []) rfl trivial ?_
  refine rch_call (h' := 1) (k' := 170) (as := [vR 2001]) (t1 := (4, [some (vR 2001), some (vI j)], [], MW b I L)) cdK168 rfl (k_lat_1 l E b I L) (by decide) mw_le ?_
  rintro rt9 w9 (⟨rfl, rfl⟩) _ _
  show Rch l E 4 168 _ _ _ _ (4, [some (vR 2001), some (vI j)], [vI 1], MW b I L)
  refine rch_br cdK168 (cd := (1 : Int) = 0) (t1 := (16, [some (vR 2001), some (vI j)], [], MW b I L)) (t2 := (7, [some (vR 2001), some (vI j)], [], MW b I L)) rfl (fun c9 => absurd c9 (by decide)) (fun _ => ?_)
  refine rch_run cdK168 (by decide) 3 (t' := (12, [some (vR 2001), some (vI j)], [vI j, vR 3001], MW b I L)) (ps := []) rfl trivial ?_
  refine rch_call (h' := 3) (k' := 172) (as := [vR 3001, vI j]) (t1 := (15, [some (vR 2001), some (vI j)], [], MW b I L)) cdK168 rfl (k_ch1_1 l E b I L j hj) (by decide) mw_le ?_
  rintro rt9 w9 (⟨rfl, rfl⟩) _ _
  show Rch l E 4 168 _ _ _ _ (15, [some (vR 2001), some (vI j)], [vI (c16 (bAnd ((strB.getD 1 []).getD j.toNat 0) 255))], MW b I L)
  refine rch_ret cdK168 (rt := some (vI (c16 (bAnd ((strB.getD 1 []).getD j.toNat 0) 255)))) rfl (by show _ ∧ _; omega) mw_c ?_
  exact ⟨by rw [show c16 (bAnd ((strB.getD 1 []).getD j.toNat 0) 255) = (strB.getD 1 []).getD j.toNat 0 from chB_1 j.toNat (by omega)], rfl⟩

theorem k_len_1 (l : Launch) (E : AX) (b : Bool) (I L : Nat → Nat → Int) : Con l E 2 167 [vR 2001] (MW b I L) 0 0 (fun rt w => rt = some (vI ((strB.getD 1 []).length : Int)) ∧ w = MW b I L) := by
  refine con_ok (fun hw9 hs9 => ?_)
  refine con_intro (by decide) (Nat.le_of_ble_eq_true rfl) ?_
  show Rch l E 2 167 _ _ _ _ (0, [some (vR 2001)], [], MW b I L)
  refine rch_run cdK167 (by decide) 4 (t' := (6, [some (vR 2001)], [vR 2001, vI ((strB.getD 1 []).length : Int)], MW b I L)) (ps := []) rfl trivial ?_
  refine rch_call (h' := 1) (k' := 169) (as := [vR 2001]) (t1 := (9, [some (vR 2001)], [vI ((strB.getD 1 []).length : Int)], MW b I L)) cdK167 rfl (k_cod_1 l E b I L) (by decide) mw_le ?_
  rintro rt9 w9 (⟨rfl, rfl⟩) _ _
  show Rch l E 2 167 _ _ _ _ (9, [some (vR 2001)], [vI 0, vI ((strB.getD 1 []).length : Int)], MW b I L)
  refine rch_run cdK167 (by decide) 1 (t' := (10, [some (vR 2001)], [vI (bShr ((strB.getD 1 []).length : Int) 0)], MW b I L)) (ps := []) rfl trivial ?_
  refine rch_ret cdK167 (rt := some (vI (bShr ((strB.getD 1 []).length : Int) 0))) rfl trivial mw_c ?_
  exact ⟨by rw [show bShr (((strB.getD 1 []).length : Nat) : Int) 0 = (((strB.getD 1 []).length : Nat) : Int) by decide], rfl⟩

theorem lp_reads_1 (l : Launch) (E : AX) (b : Bool) (I L : Nat → Nat → Int) (hT : TpK I) (hp : 0 ≤ I 28 2 ∧ I 28 2 ≤ I 28 4) (hk : I 28 1 = 2 ∧ ((strB.getD 1 []).length : Int) = I 28 4 - I 28 2) : ∀ (n9 : Nat) (j : Int), 0 ≤ j → j ≤ ((strB.getD 1 []).length : Int) → (∀ z : Nat, (z : Int) < j → I 29 ((I 28 2).toNat + z) = (strB.getD 1 []).getD z 0) → ((strB.getD 1 []).length : Int) - j < (n9 : Int) → Rch l E 5 45 (MW b I L) 0 0 (fun rt w => rt = some (vI (b2i (rdJ I (strB.getD 1 [])))) ∧ w = MW b I L) (28, [some (vR 28), some (vR 2001), some (vI j)], [], MW b I L) := by
  intro n9
  induction n9 with
  | zero =>
    intro j  h1 h2 h3 hm
    exfalso; omega
  | succ n9 ih =>
    intro j  h1 h2 h3 hm
    have hT1 := hT.1
    have he9 : ((I 28 2) + j).toNat = (I 28 2).toNat + j.toNat := by omega
    refine rch_run cdK45 (by decide) 2 (t' := (30, [some (vR 28), some (vR 2001), some (vI j)], [vR 2001, vI j], MW b I L)) (ps := []) rfl trivial ?_
    refine rch_call (h' := 2) (k' := 167) (as := [vR 2001]) (t1 := (33, [some (vR 28), some (vR 2001), some (vI j)], [vI j], MW b I L)) cdK45 rfl (k_len_1 l E b I L) (by decide) mw_le ?_
    rintro rt9 w9 (⟨rfl, rfl⟩) _ _
    show Rch l E 5 45 _ _ _ _ (33, [some (vR 28), some (vR 2001), some (vI j)], [vI ((strB.getD 1 []).length : Int), vI j], MW b I L)
    refine rch_br cdK45 (cd := ((strB.getD 1 []).length : Int) ≤ j) (t1 := (63, [some (vR 28), some (vR 2001), some (vI j)], [], MW b I L)) (t2 := (36, [some (vR 28), some (vR 2001), some (vI j)], [], MW b I L)) rfl (fun c33_1 => ?_) (fun c33_1 => ?_)
    · refine rch_run cdK45 (by decide) 1 (t' := (64, [some (vR 28), some (vR 2001), some (vI j)], [vI 1], MW b I L)) (ps := []) rfl trivial ?_
      refine rch_ret cdK45 (rt := some (vI 1)) rfl (Or.inr rfl) mw_c ?_
      exact ⟨by rw [show rdJ I (strB.getD 1 []) = true from decide_eq_true ⟨hk.1, hk.2, fun z hz => h3 z (by omega)⟩]; rfl, rfl⟩
    · refine rch_run cdK45 (by decide) 9 (t' := (49, [some (vR 28), some (vR 2001), some (vI j)], [vI j, vR 2001, vI (I 29 ((I 28 2) + j).toNat)], MW b I L)) (ps := [i32 ((I 28 2) + j), 0 ≤ (I 28 2) + j ∧ (I 28 2) + j < ((500 : Nat) : Int)]) rfl (by simp only [all_, i32, i64]; first | omega | (simp; done) | (simp; omega)) ?_
      refine rch_call (h' := 4) (k' := 168) (as := [vR 2001, vI j]) (t1 := (52, [some (vR 28), some (vR 2001), some (vI j)], [vI (I 29 ((I 28 2) + j).toNat)], MW b I L)) cdK45 rfl (k_chr_1 l E b I L j (by omega)) (by decide) mw_le ?_
      rintro rt9 w9 (⟨rfl, rfl⟩) _ _
      show Rch l E 5 45 _ _ _ _ (52, [some (vR 28), some (vR 2001), some (vI j)], [vI ((strB.getD 1 []).getD j.toNat 0), vI (I 29 ((I 28 2) + j).toNat)], MW b I L)
      refine rch_br cdK45 (cd := I 29 ((I 28 2) + j).toNat = (strB.getD 1 []).getD j.toNat 0) (t1 := (57, [some (vR 28), some (vR 2001), some (vI j)], [], MW b I L)) (t2 := (55, [some (vR 28), some (vR 2001), some (vI j)], [], MW b I L)) rfl (fun c52_2 => ?_) (fun c52_2 => ?_)
      · refine rch_run cdK45 (by decide) 2 (t' := (28, [some (vR 28), some (vR 2001), some (vI (j + 1))], [], MW b I L)) (ps := [i32 (j + 1)]) rfl (by simp only [all_, i32, i64]; first | omega | (simp; done) | (simp; omega)) ?_
        exact ih (j + 1) (by omega) (by omega) (fun z hz => by by_cases e : z = j.toNat; (rw [e, ← he9]; omega); exact h3 z (by omega)) (by omega)
      · refine rch_run cdK45 (by decide) 1 (t' := (56, [some (vR 28), some (vR 2001), some (vI j)], [vI 0], MW b I L)) (ps := []) rfl trivial ?_
        refine rch_ret cdK45 (rt := some (vI 0)) rfl (Or.inl rfl) mw_c ?_
        exact ⟨by rw [show rdJ I (strB.getD 1 []) = false from decide_eq_false (fun z => by have := z.2.2 j.toNat (by omega); rw [← he9] at this; omega)]; rfl, rfl⟩

theorem k_reads_1 (l : Launch) (E : AX) (b : Bool) (I L : Nat → Nat → Int) (hT : TpK I) (hp : 0 ≤ I 28 2 ∧ I 28 2 ≤ I 28 4) : Con l E 5 45 [vR 28, vR 2001] (MW b I L) 0 0 (fun rt w => rt = some (vI (b2i (rdJ I (strB.getD 1 [])))) ∧ w = MW b I L) := by
  refine con_ok (fun hw9 hs9 => ?_)
  refine con_intro (by decide) (Nat.le_of_ble_eq_true rfl) ?_
  have hT1 := hT.1
  show Rch l E 5 45 _ _ _ _ (0, [some (vR 28), some (vR 2001), none], [], MW b I L)
  refine rch_run cdK45 (by decide) 3 (t' := (5, [some (vR 28), some (vR 2001), none], [vI 2, vI (I 28 1)], MW b I L)) (ps := []) rfl trivial ?_
  refine rch_br cdK45 (cd := I 28 1 ≠ (2 : Int)) (t1 := (24, [some (vR 28), some (vR 2001), none], [], MW b I L)) (t2 := (8, [some (vR 28), some (vR 2001), none], [], MW b I L)) rfl (fun c5_1 => ?_) (fun c5_1 => ?_)
  · refine rch_run cdK45 (by decide) 1 (t' := (25, [some (vR 28), some (vR 2001), none], [vI 0], MW b I L)) (ps := []) rfl trivial ?_
    refine rch_ret cdK45 (rt := some (vI 0)) rfl (Or.inl rfl) mw_c ?_
    exact ⟨by rw [show rdJ I (strB.getD 1 []) = false from decide_eq_false (fun z => by omega)]; rfl, rfl⟩
  · refine rch_run cdK45 (by decide) 1 (t' := (9, [some (vR 28), some (vR 2001), none], [vR 2001], MW b I L)) (ps := []) rfl trivial ?_
    refine rch_call (h' := 2) (k' := 167) (as := [vR 2001]) (t1 := (12, [some (vR 28), some (vR 2001), none], [], MW b I L)) cdK45 rfl (k_len_1 l E b I L) (by decide) mw_le ?_
    rintro rt9 w9 (⟨rfl, rfl⟩) _ _
    show Rch l E 5 45 _ _ _ _ (12, [some (vR 28), some (vR 2001), none], [vI ((strB.getD 1 []).length : Int)], MW b I L)
    refine rch_run cdK45 (by decide) 5 (t' := (21, [some (vR 28), some (vR 2001), none], [vI ((I 28 4) - (I 28 2)), vI ((strB.getD 1 []).length : Int)], MW b I L)) (ps := [i32 ((I 28 4) - (I 28 2))]) rfl (by simp only [all_, i32, i64]; first | omega | (simp; done) | (simp; omega)) ?_
    refine rch_br cdK45 (cd := ((strB.getD 1 []).length : Int) = (I 28 4) - (I 28 2)) (t1 := (26, [some (vR 28), some (vR 2001), none], [], MW b I L)) (t2 := (24, [some (vR 28), some (vR 2001), none], [], MW b I L)) rfl (fun c21_2 => ?_) (fun c21_2 => ?_)
    · refine rch_run cdK45 (by decide) 2 (t' := (28, [some (vR 28), some (vR 2001), some (vI 0)], [], MW b I L)) (ps := []) rfl trivial ?_
      exact lp_reads_1 l E b I L hT hp (by omega) 20 0 (by omega) (by decide) (fun z hz => by omega) (by decide)
    · refine rch_run cdK45 (by decide) 1 (t' := (25, [some (vR 28), some (vR 2001), none], [vI 0], MW b I L)) (ps := []) rfl trivial ?_
      refine rch_ret cdK45 (rt := some (vI 0)) rfl (Or.inl rfl) mw_c ?_
      exact ⟨by rw [show rdJ I (strB.getD 1 []) = false from decide_eq_false (fun z => by omega)]; rfl, rfl⟩

theorem chR_2 : ∀ j : Nat, j < (strB.getD 2 []).length → 0 ≤ c16 (bAnd ((strB.getD 2 []).getD j 0) 255) ∧ c16 (bAnd ((strB.getD 2 []).getD j 0) 255) ≤ 65535 := by decide

theorem k_ch1_2 (l : Launch) (E : AX) (b : Bool) (I L : Nat → Nat → Int) (j : Int) (hj : 0 ≤ j ∧ j < ((strB.getD 2 []).length : Int)) : Con l E 3 172 [vR 3002, vI j] (MW b I L) 0 0 (fun rt w => rt = some (vI (c16 (bAnd ((strB.getD 2 []).getD j.toNat 0) 255))) ∧ w = MW b I L) := by
  refine con_ok (fun hw9 hs9 => ?_)
  refine con_intro (by decide) (Nat.le_of_ble_eq_true rfl) ?_
  have hc9 := chR_2 j.toNat (by omega)
  show Rch l E 3 172 _ _ _ _ (0, [some (vR 3002), some (vI j)], [], MW b I L)
  refine rch_run cdK172 (by decide) 3 (t' := (3, [some (vR 3002), some (vI j)], [vI ((strB.getD 2 []).length : Int), vI j], MW b I L)) (ps := []) rfl trivial ?_
  refine rch_call (h' := 2) (k' := 171) (as := [vI j, vI ((strB.getD 2 []).length : Int)]) (t1 := (6, [some (vR 3002), some (vI j)], [], MW b I L)) cdK172 rfl (k_ci0 l E b I L j ((strB.getD 2 []).length : Int) hj) (by decide) mw_le ?_
  rintro rt9 w9 (⟨rfl, rfl⟩) _ _
  show Rch l E 3 172 _ _ _ _ (6, [some (vR 3002), some (vI j)], [], MW b I L)
  refine rch_run cdK172 (by decide) 6 (t' := (14, [some (vR 3002), some (vI j)], [vI (c16 (bAnd ((strB.getD 2 []).getD j.toNat 0) 255))], MW b I L)) (ps := [0 ≤ j ∧ j < ((strB.getD 2 []).length : Int)]) rfl (by simp only [all_, i32, i64]; first | omega | (simp; done) | (simp; omega)) ?_
  refine rch_ret cdK172 (rt := some (vI (c16 (bAnd ((strB.getD 2 []).getD j.toNat 0) 255)))) rfl (by show _ ∧ _; omega) mw_c ?_
  exact ⟨rfl, rfl⟩

theorem k_lat_2 (l : Launch) (E : AX) (b : Bool) (I L : Nat → Nat → Int) : Con l E 1 170 [vR 2002] (MW b I L) 0 0 (fun rt w => rt = some (vI 1) ∧ w = MW b I L) := by
  refine con_ok (fun hw9 hs9 => ?_)
  refine con_intro (by decide) (Nat.le_of_ble_eq_true rfl) ?_
  show Rch l E 1 170 _ _ _ _ (0, [some (vR 2002)], [], MW b I L)
  refine rch_run cdK170 (by decide) 1 (t' := (3, [some (vR 2002)], [vI 1], MW b I L)) (ps := []) rfl trivial ?_
  refine rch_br cdK170 (cd := (1 : Int) = 0) (t1 := (17, [some (vR 2002)], [], MW b I L)) (t2 := (6, [some (vR 2002)], [], MW b I L)) rfl (fun c9 => absurd c9 (by decide)) (fun _ => ?_)
  refine rch_run cdK170 (by decide) 2 (t' := (10, [some (vR 2002)], [vI 0], MW b I L)) (ps := []) rfl trivial ?_
  refine rch_br cdK170 (cd := (0 : Int) ≠ 0) (t1 := (17, [some (vR 2002)], [], MW b I L)) (t2 := (13, [some (vR 2002)], [], MW b I L)) rfl (fun c9 => absurd c9 (by decide)) (fun _ => ?_)
  refine rch_run cdK170 (by decide) 2 (t' := (18, [some (vR 2002)], [vI 1], MW b I L)) (ps := []) rfl trivial ?_
  refine rch_ret cdK170 (rt := some (vI 1)) rfl (Or.inr rfl) mw_c ?_
  exact ⟨rfl, rfl⟩

theorem k_cod_2 (l : Launch) (E : AX) (b : Bool) (I L : Nat → Nat → Int) : Con l E 1 169 [vR 2002] (MW b I L) 0 0 (fun rt w => rt = some (vI 0) ∧ w = MW b I L) := by
  refine con_ok (fun hw9 hs9 => ?_)
  refine con_intro (by decide) (Nat.le_of_ble_eq_true rfl) ?_
  show Rch l E 1 169 _ _ _ _ (0, [some (vR 2002)], [], MW b I L)
  refine rch_run cdK169 (by decide) 1 (t' := (3, [some (vR 2002)], [vI 1], MW b I L)) (ps := []) rfl trivial ?_
  refine rch_br cdK169 (cd := (1 : Int) = 0) (t1 := (13, [some (vR 2002)], [], MW b I L)) (t2 := (6, [some (vR 2002)], [], MW b I L)) rfl (fun c9 => absurd c9 (by decide)) (fun _ => ?_)
  refine rch_run cdK169 (by decide) 3 (t' := (14, [some (vR 2002)], [vI 0], MW b I L)) (ps := []) rfl trivial ?_
  refine rch_ret cdK169 (rt := some (vI 0)) rfl (by show _ ∧ _; omega) mw_c ?_
  exact ⟨rfl, rfl⟩

theorem chB_2 : ∀ j : Nat, j < (strB.getD 2 []).length → c16 (bAnd ((strB.getD 2 []).getD j 0) 255) = (strB.getD 2 []).getD j 0 := by decide

theorem k_chr_2 (l : Launch) (E : AX) (b : Bool) (I L : Nat → Nat → Int) (j : Int) (hj : 0 ≤ j ∧ j < ((strB.getD 2 []).length : Int)) : Con l E 4 168 [vR 2002, vI j] (MW b I L) 0 0 (fun rt w => rt = some (vI ((strB.getD 2 []).getD j.toNat 0)) ∧ w = MW b I L) := by
  refine con_ok (fun hw9 hs9 => ?_)
  refine con_intro (by decide) (Nat.le_of_ble_eq_true rfl) ?_
  have hc9 := chR_2 j.toNat (by omega)
  show Rch l E 4 168 _ _ _ _ (0, [some (vR 2002), some (vI j)], [], MW b I L)
  refine rch_run cdK168 (by decide) 1 (t' := (1, [some (vR 2002), some (vI j)], [vR 2002], MW b I L)) (ps := []) rfl trivial ?_
  refine rch_call (h' := 1) (k' := 170) (as := [vR 2002]) (t1 := (4, [some (vR 2002), some (vI j)], [], MW b I L)) cdK168 rfl (k_lat_2 l E b I L) (by decide) mw_le ?_
  rintro rt9 w9 (⟨rfl, rfl⟩) _ _
  show Rch l E 4 168 _ _ _ _ (4, [some (vR 2002), some (vI j)], [vI 1], MW b I L)
  refine rch_br cdK168 (cd := (1 : Int) = 0) (t1 := (16, [some (vR 2002), some (vI j)], [], MW b I L)) (t2 := (7, [some (vR 2002), some (vI j)], [], MW b I L)) rfl (fun c9 => absurd c9 (by decide)) (fun _ => ?_)
  refine rch_run cdK168 (by decide) 3 (t' := (12, [some (vR 2002), some (vI j)], [vI j, vR 3002], MW b I L)) (ps := []) rfl trivial ?_
  refine rch_call (h' := 3) (k' := 172) (as := [vR 3002, vI j]) (t1 := (15, [some (vR 2002), some (vI j)], [], MW b I L)) cdK168 rfl (k_ch1_2 l E b I L j hj) (by decide) mw_le ?_
  rintro rt9 w9 (⟨rfl, rfl⟩) _ _
  show Rch l E 4 168 _ _ _ _ (15, [some (vR 2002), some (vI j)], [vI (c16 (bAnd ((strB.getD 2 []).getD j.toNat 0) 255))], MW b I L)
  refine rch_ret cdK168 (rt := some (vI (c16 (bAnd ((strB.getD 2 []).getD j.toNat 0) 255)))) rfl (by show _ ∧ _; omega) mw_c ?_
  exact ⟨by rw [show c16 (bAnd ((strB.getD 2 []).getD j.toNat 0) 255) = (strB.getD 2 []).getD j.toNat 0 from chB_2 j.toNat (by omega)], rfl⟩

theorem k_len_2 (l : Launch) (E : AX) (b : Bool) (I L : Nat → Nat → Int) : Con l E 2 167 [vR 2002] (MW b I L) 0 0 (fun rt w => rt = some (vI ((strB.getD 2 []).length : Int)) ∧ w = MW b I L) := by
  refine con_ok (fun hw9 hs9 => ?_)
  refine con_intro (by decide) (Nat.le_of_ble_eq_true rfl) ?_
  show Rch l E 2 167 _ _ _ _ (0, [some (vR 2002)], [], MW b I L)
  refine rch_run cdK167 (by decide) 4 (t' := (6, [some (vR 2002)], [vR 2002, vI ((strB.getD 2 []).length : Int)], MW b I L)) (ps := []) rfl trivial ?_
  refine rch_call (h' := 1) (k' := 169) (as := [vR 2002]) (t1 := (9, [some (vR 2002)], [vI ((strB.getD 2 []).length : Int)], MW b I L)) cdK167 rfl (k_cod_2 l E b I L) (by decide) mw_le ?_
  rintro rt9 w9 (⟨rfl, rfl⟩) _ _
  show Rch l E 2 167 _ _ _ _ (9, [some (vR 2002)], [vI 0, vI ((strB.getD 2 []).length : Int)], MW b I L)
  refine rch_run cdK167 (by decide) 1 (t' := (10, [some (vR 2002)], [vI (bShr ((strB.getD 2 []).length : Int) 0)], MW b I L)) (ps := []) rfl trivial ?_
  refine rch_ret cdK167 (rt := some (vI (bShr ((strB.getD 2 []).length : Int) 0))) rfl trivial mw_c ?_
  exact ⟨by rw [show bShr (((strB.getD 2 []).length : Nat) : Int) 0 = (((strB.getD 2 []).length : Nat) : Int) by decide], rfl⟩

theorem lp_reads_2 (l : Launch) (E : AX) (b : Bool) (I L : Nat → Nat → Int) (hT : TpK I) (hp : 0 ≤ I 28 2 ∧ I 28 2 ≤ I 28 4) (hk : I 28 1 = 2 ∧ ((strB.getD 2 []).length : Int) = I 28 4 - I 28 2) : ∀ (n9 : Nat) (j : Int), 0 ≤ j → j ≤ ((strB.getD 2 []).length : Int) → (∀ z : Nat, (z : Int) < j → I 29 ((I 28 2).toNat + z) = (strB.getD 2 []).getD z 0) → ((strB.getD 2 []).length : Int) - j < (n9 : Int) → Rch l E 5 45 (MW b I L) 0 0 (fun rt w => rt = some (vI (b2i (rdJ I (strB.getD 2 [])))) ∧ w = MW b I L) (28, [some (vR 28), some (vR 2002), some (vI j)], [], MW b I L) := by
  intro n9
  induction n9 with
  | zero =>
    intro j  h1 h2 h3 hm
    exfalso; omega
  | succ n9 ih =>
    intro j  h1 h2 h3 hm
    have hT1 := hT.1
    have he9 : ((I 28 2) + j).toNat = (I 28 2).toNat + j.toNat := by omega
    refine rch_run cdK45 (by decide) 2 (t' := (30, [some (vR 28), some (vR 2002), some (vI j)], [vR 2002, vI j], MW b I L)) (ps := []) rfl trivial ?_
    refine rch_call (h' := 2) (k' := 167) (as := [vR 2002]) (t1 := (33, [some (vR 28), some (vR 2002), some (vI j)], [vI j], MW b I L)) cdK45 rfl (k_len_2 l E b I L) (by decide) mw_le ?_
    rintro rt9 w9 (⟨rfl, rfl⟩) _ _
    show Rch l E 5 45 _ _ _ _ (33, [some (vR 28), some (vR 2002), some (vI j)], [vI ((strB.getD 2 []).length : Int), vI j], MW b I L)
    refine rch_br cdK45 (cd := ((strB.getD 2 []).length : Int) ≤ j) (t1 := (63, [some (vR 28), some (vR 2002), some (vI j)], [], MW b I L)) (t2 := (36, [some (vR 28), some (vR 2002), some (vI j)], [], MW b I L)) rfl (fun c33_1 => ?_) (fun c33_1 => ?_)
    · refine rch_run cdK45 (by decide) 1 (t' := (64, [some (vR 28), some (vR 2002), some (vI j)], [vI 1], MW b I L)) (ps := []) rfl trivial ?_
      refine rch_ret cdK45 (rt := some (vI 1)) rfl (Or.inr rfl) mw_c ?_
      exact ⟨by rw [show rdJ I (strB.getD 2 []) = true from decide_eq_true ⟨hk.1, hk.2, fun z hz => h3 z (by omega)⟩]; rfl, rfl⟩
    · refine rch_run cdK45 (by decide) 9 (t' := (49, [some (vR 28), some (vR 2002), some (vI j)], [vI j, vR 2002, vI (I 29 ((I 28 2) + j).toNat)], MW b I L)) (ps := [i32 ((I 28 2) + j), 0 ≤ (I 28 2) + j ∧ (I 28 2) + j < ((500 : Nat) : Int)]) rfl (by simp only [all_, i32, i64]; first | omega | (simp; done) | (simp; omega)) ?_
      refine rch_call (h' := 4) (k' := 168) (as := [vR 2002, vI j]) (t1 := (52, [some (vR 28), some (vR 2002), some (vI j)], [vI (I 29 ((I 28 2) + j).toNat)], MW b I L)) cdK45 rfl (k_chr_2 l E b I L j (by omega)) (by decide) mw_le ?_
      rintro rt9 w9 (⟨rfl, rfl⟩) _ _
      show Rch l E 5 45 _ _ _ _ (52, [some (vR 28), some (vR 2002), some (vI j)], [vI ((strB.getD 2 []).getD j.toNat 0), vI (I 29 ((I 28 2) + j).toNat)], MW b I L)
      refine rch_br cdK45 (cd := I 29 ((I 28 2) + j).toNat = (strB.getD 2 []).getD j.toNat 0) (t1 := (57, [some (vR 28), some (vR 2002), some (vI j)], [], MW b I L)) (t2 := (55, [some (vR 28), some (vR 2002), some (vI j)], [], MW b I L)) rfl (fun c52_2 => ?_) (fun c52_2 => ?_)
      · refine rch_run cdK45 (by decide) 2 (t' := (28, [some (vR 28), some (vR 2002), some (vI (j + 1))], [], MW b I L)) (ps := [i32 (j + 1)]) rfl (by simp only [all_, i32, i64]; first | omega | (simp; done) | (simp; omega)) ?_
        exact ih (j + 1) (by omega) (by omega) (fun z hz => by by_cases e : z = j.toNat; (rw [e, ← he9]; omega); exact h3 z (by omega)) (by omega)
      · refine rch_run cdK45 (by decide) 1 (t' := (56, [some (vR 28), some (vR 2002), some (vI j)], [vI 0], MW b I L)) (ps := []) rfl trivial ?_
        refine rch_ret cdK45 (rt := some (vI 0)) rfl (Or.inl rfl) mw_c ?_
        exact ⟨by rw [show rdJ I (strB.getD 2 []) = false from decide_eq_false (fun z => by have := z.2.2 j.toNat (by omega); rw [← he9] at this; omega)]; rfl, rfl⟩

theorem k_reads_2 (l : Launch) (E : AX) (b : Bool) (I L : Nat → Nat → Int) (hT : TpK I) (hp : 0 ≤ I 28 2 ∧ I 28 2 ≤ I 28 4) : Con l E 5 45 [vR 28, vR 2002] (MW b I L) 0 0 (fun rt w => rt = some (vI (b2i (rdJ I (strB.getD 2 [])))) ∧ w = MW b I L) := by
  refine con_ok (fun hw9 hs9 => ?_)
  refine con_intro (by decide) (Nat.le_of_ble_eq_true rfl) ?_
  have hT1 := hT.1
  show Rch l E 5 45 _ _ _ _ (0, [some (vR 28), some (vR 2002), none], [], MW b I L)
  refine rch_run cdK45 (by decide) 3 (t' := (5, [some (vR 28), some (vR 2002), none], [vI 2, vI (I 28 1)], MW b I L)) (ps := []) rfl trivial ?_
  refine rch_br cdK45 (cd := I 28 1 ≠ (2 : Int)) (t1 := (24, [some (vR 28), some (vR 2002), none], [], MW b I L)) (t2 := (8, [some (vR 28), some (vR 2002), none], [], MW b I L)) rfl (fun c5_1 => ?_) (fun c5_1 => ?_)
  · refine rch_run cdK45 (by decide) 1 (t' := (25, [some (vR 28), some (vR 2002), none], [vI 0], MW b I L)) (ps := []) rfl trivial ?_
    refine rch_ret cdK45 (rt := some (vI 0)) rfl (Or.inl rfl) mw_c ?_
    exact ⟨by rw [show rdJ I (strB.getD 2 []) = false from decide_eq_false (fun z => by omega)]; rfl, rfl⟩
  · refine rch_run cdK45 (by decide) 1 (t' := (9, [some (vR 28), some (vR 2002), none], [vR 2002], MW b I L)) (ps := []) rfl trivial ?_
    refine rch_call (h' := 2) (k' := 167) (as := [vR 2002]) (t1 := (12, [some (vR 28), some (vR 2002), none], [], MW b I L)) cdK45 rfl (k_len_2 l E b I L) (by decide) mw_le ?_
    rintro rt9 w9 (⟨rfl, rfl⟩) _ _
    show Rch l E 5 45 _ _ _ _ (12, [some (vR 28), some (vR 2002), none], [vI ((strB.getD 2 []).length : Int)], MW b I L)
    refine rch_run cdK45 (by decide) 5 (t' := (21, [some (vR 28), some (vR 2002), none], [vI ((I 28 4) - (I 28 2)), vI ((strB.getD 2 []).length : Int)], MW b I L)) (ps := [i32 ((I 28 4) - (I 28 2))]) rfl (by simp only [all_, i32, i64]; first | omega | (simp; done) | (simp; omega)) ?_
    refine rch_br cdK45 (cd := ((strB.getD 2 []).length : Int) = (I 28 4) - (I 28 2)) (t1 := (26, [some (vR 28), some (vR 2002), none], [], MW b I L)) (t2 := (24, [some (vR 28), some (vR 2002), none], [], MW b I L)) rfl (fun c21_2 => ?_) (fun c21_2 => ?_)
    · refine rch_run cdK45 (by decide) 2 (t' := (28, [some (vR 28), some (vR 2002), some (vI 0)], [], MW b I L)) (ps := []) rfl trivial ?_
      exact lp_reads_2 l E b I L hT hp (by omega) 20 0 (by omega) (by decide) (fun z hz => by omega) (by decide)
    · refine rch_run cdK45 (by decide) 1 (t' := (25, [some (vR 28), some (vR 2002), none], [vI 0], MW b I L)) (ps := []) rfl trivial ?_
      refine rch_ret cdK45 (rt := some (vI 0)) rfl (Or.inl rfl) mw_c ?_
      exact ⟨by rw [show rdJ I (strB.getD 2 []) = false from decide_eq_false (fun z => by omega)]; rfl, rfl⟩

theorem chR_3 : ∀ j : Nat, j < (strB.getD 3 []).length → 0 ≤ c16 (bAnd ((strB.getD 3 []).getD j 0) 255) ∧ c16 (bAnd ((strB.getD 3 []).getD j 0) 255) ≤ 65535 := by decide

theorem k_ch1_3 (l : Launch) (E : AX) (b : Bool) (I L : Nat → Nat → Int) (j : Int) (hj : 0 ≤ j ∧ j < ((strB.getD 3 []).length : Int)) : Con l E 3 172 [vR 3003, vI j] (MW b I L) 0 0 (fun rt w => rt = some (vI (c16 (bAnd ((strB.getD 3 []).getD j.toNat 0) 255))) ∧ w = MW b I L) := by
  refine con_ok (fun hw9 hs9 => ?_)
  refine con_intro (by decide) (Nat.le_of_ble_eq_true rfl) ?_
  have hc9 := chR_3 j.toNat (by omega)
  show Rch l E 3 172 _ _ _ _ (0, [some (vR 3003), some (vI j)], [], MW b I L)
  refine rch_run cdK172 (by decide) 3 (t' := (3, [some (vR 3003), some (vI j)], [vI ((strB.getD 3 []).length : Int), vI j], MW b I L)) (ps := []) rfl trivial ?_
  refine rch_call (h' := 2) (k' := 171) (as := [vI j, vI ((strB.getD 3 []).length : Int)]) (t1 := (6, [some (vR 3003), some (vI j)], [], MW b I L)) cdK172 rfl (k_ci0 l E b I L j ((strB.getD 3 []).length : Int) hj) (by decide) mw_le ?_
  rintro rt9 w9 (⟨rfl, rfl⟩) _ _
  show Rch l E 3 172 _ _ _ _ (6, [some (vR 3003), some (vI j)], [], MW b I L)
  refine rch_run cdK172 (by decide) 6 (t' := (14, [some (vR 3003), some (vI j)], [vI (c16 (bAnd ((strB.getD 3 []).getD j.toNat 0) 255))], MW b I L)) (ps := [0 ≤ j ∧ j < ((strB.getD 3 []).length : Int)]) rfl (by simp only [all_, i32, i64]; first | omega | (simp; done) | (simp; omega)) ?_
  refine rch_ret cdK172 (rt := some (vI (c16 (bAnd ((strB.getD 3 []).getD j.toNat 0) 255)))) rfl (by show _ ∧ _; omega) mw_c ?_
  exact ⟨rfl, rfl⟩

theorem k_lat_3 (l : Launch) (E : AX) (b : Bool) (I L : Nat → Nat → Int) : Con l E 1 170 [vR 2003] (MW b I L) 0 0 (fun rt w => rt = some (vI 1) ∧ w = MW b I L) := by
  refine con_ok (fun hw9 hs9 => ?_)
  refine con_intro (by decide) (Nat.le_of_ble_eq_true rfl) ?_
  show Rch l E 1 170 _ _ _ _ (0, [some (vR 2003)], [], MW b I L)
  refine rch_run cdK170 (by decide) 1 (t' := (3, [some (vR 2003)], [vI 1], MW b I L)) (ps := []) rfl trivial ?_
  refine rch_br cdK170 (cd := (1 : Int) = 0) (t1 := (17, [some (vR 2003)], [], MW b I L)) (t2 := (6, [some (vR 2003)], [], MW b I L)) rfl (fun c9 => absurd c9 (by decide)) (fun _ => ?_)
  refine rch_run cdK170 (by decide) 2 (t' := (10, [some (vR 2003)], [vI 0], MW b I L)) (ps := []) rfl trivial ?_
  refine rch_br cdK170 (cd := (0 : Int) ≠ 0) (t1 := (17, [some (vR 2003)], [], MW b I L)) (t2 := (13, [some (vR 2003)], [], MW b I L)) rfl (fun c9 => absurd c9 (by decide)) (fun _ => ?_)
  refine rch_run cdK170 (by decide) 2 (t' := (18, [some (vR 2003)], [vI 1], MW b I L)) (ps := []) rfl trivial ?_
  refine rch_ret cdK170 (rt := some (vI 1)) rfl (Or.inr rfl) mw_c ?_
  exact ⟨rfl, rfl⟩

theorem k_cod_3 (l : Launch) (E : AX) (b : Bool) (I L : Nat → Nat → Int) : Con l E 1 169 [vR 2003] (MW b I L) 0 0 (fun rt w => rt = some (vI 0) ∧ w = MW b I L) := by
  refine con_ok (fun hw9 hs9 => ?_)
  refine con_intro (by decide) (Nat.le_of_ble_eq_true rfl) ?_
  show Rch l E 1 169 _ _ _ _ (0, [some (vR 2003)], [], MW b I L)
  refine rch_run cdK169 (by decide) 1 (t' := (3, [some (vR 2003)], [vI 1], MW b I L)) (ps := []) rfl trivial ?_
  refine rch_br cdK169 (cd := (1 : Int) = 0) (t1 := (13, [some (vR 2003)], [], MW b I L)) (t2 := (6, [some (vR 2003)], [], MW b I L)) rfl (fun c9 => absurd c9 (by decide)) (fun _ => ?_)
  refine rch_run cdK169 (by decide) 3 (t' := (14, [some (vR 2003)], [vI 0], MW b I L)) (ps := []) rfl trivial ?_
  refine rch_ret cdK169 (rt := some (vI 0)) rfl (by show _ ∧ _; omega) mw_c ?_
  exact ⟨rfl, rfl⟩

theorem chB_3 : ∀ j : Nat, j < (strB.getD 3 []).length → c16 (bAnd ((strB.getD 3 []).getD j 0) 255) = (strB.getD 3 []).getD j 0 := by decide

theorem k_chr_3 (l : Launch) (E : AX) (b : Bool) (I L : Nat → Nat → Int) (j : Int) (hj : 0 ≤ j ∧ j < ((strB.getD 3 []).length : Int)) : Con l E 4 168 [vR 2003, vI j] (MW b I L) 0 0 (fun rt w => rt = some (vI ((strB.getD 3 []).getD j.toNat 0)) ∧ w = MW b I L) := by
  refine con_ok (fun hw9 hs9 => ?_)
  refine con_intro (by decide) (Nat.le_of_ble_eq_true rfl) ?_
  have hc9 := chR_3 j.toNat (by omega)
  show Rch l E 4 168 _ _ _ _ (0, [some (vR 2003), some (vI j)], [], MW b I L)
  refine rch_run cdK168 (by decide) 1 (t' := (1, [some (vR 2003), some (vI j)], [vR 2003], MW b I L)) (ps := []) rfl trivial ?_
  refine rch_call (h' := 1) (k' := 170) (as := [vR 2003]) (t1 := (4, [some (vR 2003), some (vI j)], [], MW b I L)) cdK168 rfl (k_lat_3 l E b I L) (by decide) mw_le ?_
  rintro rt9 w9 (⟨rfl, rfl⟩) _ _
  show Rch l E 4 168 _ _ _ _ (4, [some (vR 2003), some (vI j)], [vI 1], MW b I L)
  refine rch_br cdK168 (cd := (1 : Int) = 0) (t1 := (16, [some (vR 2003), some (vI j)], [], MW b I L)) (t2 := (7, [some (vR 2003), some (vI j)], [], MW b I L)) rfl (fun c9 => absurd c9 (by decide)) (fun _ => ?_)
  refine rch_run cdK168 (by decide) 3 (t' := (12, [some (vR 2003), some (vI j)], [vI j, vR 3003], MW b I L)) (ps := []) rfl trivial ?_
  refine rch_call (h' := 3) (k' := 172) (as := [vR 3003, vI j]) (t1 := (15, [some (vR 2003), some (vI j)], [], MW b I L)) cdK168 rfl (k_ch1_3 l E b I L j hj) (by decide) mw_le ?_
  rintro rt9 w9 (⟨rfl, rfl⟩) _ _
  show Rch l E 4 168 _ _ _ _ (15, [some (vR 2003), some (vI j)], [vI (c16 (bAnd ((strB.getD 3 []).getD j.toNat 0) 255))], MW b I L)
  refine rch_ret cdK168 (rt := some (vI (c16 (bAnd ((strB.getD 3 []).getD j.toNat 0) 255)))) rfl (by show _ ∧ _; omega) mw_c ?_
  exact ⟨by rw [show c16 (bAnd ((strB.getD 3 []).getD j.toNat 0) 255) = (strB.getD 3 []).getD j.toNat 0 from chB_3 j.toNat (by omega)], rfl⟩

theorem k_len_3 (l : Launch) (E : AX) (b : Bool) (I L : Nat → Nat → Int) : Con l E 2 167 [vR 2003] (MW b I L) 0 0 (fun rt w => rt = some (vI ((strB.getD 3 []).length : Int)) ∧ w = MW b I L) := by
  refine con_ok (fun hw9 hs9 => ?_)
  refine con_intro (by decide) (Nat.le_of_ble_eq_true rfl) ?_
  show Rch l E 2 167 _ _ _ _ (0, [some (vR 2003)], [], MW b I L)
  refine rch_run cdK167 (by decide) 4 (t' := (6, [some (vR 2003)], [vR 2003, vI ((strB.getD 3 []).length : Int)], MW b I L)) (ps := []) rfl trivial ?_
  refine rch_call (h' := 1) (k' := 169) (as := [vR 2003]) (t1 := (9, [some (vR 2003)], [vI ((strB.getD 3 []).length : Int)], MW b I L)) cdK167 rfl (k_cod_3 l E b I L) (by decide) mw_le ?_
  rintro rt9 w9 (⟨rfl, rfl⟩) _ _
  show Rch l E 2 167 _ _ _ _ (9, [some (vR 2003)], [vI 0, vI ((strB.getD 3 []).length : Int)], MW b I L)
  refine rch_run cdK167 (by decide) 1 (t' := (10, [some (vR 2003)], [vI (bShr ((strB.getD 3 []).length : Int) 0)], MW b I L)) (ps := []) rfl trivial ?_
  refine rch_ret cdK167 (rt := some (vI (bShr ((strB.getD 3 []).length : Int) 0))) rfl trivial mw_c ?_
  exact ⟨by rw [show bShr (((strB.getD 3 []).length : Nat) : Int) 0 = (((strB.getD 3 []).length : Nat) : Int) by decide], rfl⟩

theorem lp_reads_3 (l : Launch) (E : AX) (b : Bool) (I L : Nat → Nat → Int) (hT : TpK I) (hp : 0 ≤ I 28 2 ∧ I 28 2 ≤ I 28 4) (hk : I 28 1 = 2 ∧ ((strB.getD 3 []).length : Int) = I 28 4 - I 28 2) : ∀ (n9 : Nat) (j : Int), 0 ≤ j → j ≤ ((strB.getD 3 []).length : Int) → (∀ z : Nat, (z : Int) < j → I 29 ((I 28 2).toNat + z) = (strB.getD 3 []).getD z 0) → ((strB.getD 3 []).length : Int) - j < (n9 : Int) → Rch l E 5 45 (MW b I L) 0 0 (fun rt w => rt = some (vI (b2i (rdJ I (strB.getD 3 [])))) ∧ w = MW b I L) (28, [some (vR 28), some (vR 2003), some (vI j)], [], MW b I L) := by
  intro n9
  induction n9 with
  | zero =>
    intro j  h1 h2 h3 hm
    exfalso; omega
  | succ n9 ih =>
    intro j  h1 h2 h3 hm
    have hT1 := hT.1
    have he9 : ((I 28 2) + j).toNat = (I 28 2).toNat + j.toNat := by omega
    refine rch_run cdK45 (by decide) 2 (t' := (30, [some (vR 28), some (vR 2003), some (vI j)], [vR 2003, vI j], MW b I L)) (ps := []) rfl trivial ?_
    refine rch_call (h' := 2) (k' := 167) (as := [vR 2003]) (t1 := (33, [some (vR 28), some (vR 2003), some (vI j)], [vI j], MW b I L)) cdK45 rfl (k_len_3 l E b I L) (by decide) mw_le ?_
    rintro rt9 w9 (⟨rfl, rfl⟩) _ _
    show Rch l E 5 45 _ _ _ _ (33, [some (vR 28), some (vR 2003), some (vI j)], [vI ((strB.getD 3 []).length : Int), vI j], MW b I L)
    refine rch_br cdK45 (cd := ((strB.getD 3 []).length : Int) ≤ j) (t1 := (63, [some (vR 28), some (vR 2003), some (vI j)], [], MW b I L)) (t2 := (36, [some (vR 28), some (vR 2003), some (vI j)], [], MW b I L)) rfl (fun c33_1 => ?_) (fun c33_1 => ?_)
    · refine rch_run cdK45 (by decide) 1 (t' := (64, [some (vR 28), some (vR 2003), some (vI j)], [vI 1], MW b I L)) (ps := []) rfl trivial ?_
      refine rch_ret cdK45 (rt := some (vI 1)) rfl (Or.inr rfl) mw_c ?_
      exact ⟨by rw [show rdJ I (strB.getD 3 []) = true from decide_eq_true ⟨hk.1, hk.2, fun z hz => h3 z (by omega)⟩]; rfl, rfl⟩
    · refine rch_run cdK45 (by decide) 9 (t' := (49, [some (vR 28), some (vR 2003), some (vI j)], [vI j, vR 2003, vI (I 29 ((I 28 2) + j).toNat)], MW b I L)) (ps := [i32 ((I 28 2) + j), 0 ≤ (I 28 2) + j ∧ (I 28 2) + j < ((500 : Nat) : Int)]) rfl (by simp only [all_, i32, i64]; first | omega | (simp; done) | (simp; omega)) ?_
      refine rch_call (h' := 4) (k' := 168) (as := [vR 2003, vI j]) (t1 := (52, [some (vR 28), some (vR 2003), some (vI j)], [vI (I 29 ((I 28 2) + j).toNat)], MW b I L)) cdK45 rfl (k_chr_3 l E b I L j (by omega)) (by decide) mw_le ?_
      rintro rt9 w9 (⟨rfl, rfl⟩) _ _
      show Rch l E 5 45 _ _ _ _ (52, [some (vR 28), some (vR 2003), some (vI j)], [vI ((strB.getD 3 []).getD j.toNat 0), vI (I 29 ((I 28 2) + j).toNat)], MW b I L)
      refine rch_br cdK45 (cd := I 29 ((I 28 2) + j).toNat = (strB.getD 3 []).getD j.toNat 0) (t1 := (57, [some (vR 28), some (vR 2003), some (vI j)], [], MW b I L)) (t2 := (55, [some (vR 28), some (vR 2003), some (vI j)], [], MW b I L)) rfl (fun c52_2 => ?_) (fun c52_2 => ?_)
      · refine rch_run cdK45 (by decide) 2 (t' := (28, [some (vR 28), some (vR 2003), some (vI (j + 1))], [], MW b I L)) (ps := [i32 (j + 1)]) rfl (by simp only [all_, i32, i64]; first | omega | (simp; done) | (simp; omega)) ?_
        exact ih (j + 1) (by omega) (by omega) (fun z hz => by by_cases e : z = j.toNat; (rw [e, ← he9]; omega); exact h3 z (by omega)) (by omega)
      · refine rch_run cdK45 (by decide) 1 (t' := (56, [some (vR 28), some (vR 2003), some (vI j)], [vI 0], MW b I L)) (ps := []) rfl trivial ?_
        refine rch_ret cdK45 (rt := some (vI 0)) rfl (Or.inl rfl) mw_c ?_
        exact ⟨by rw [show rdJ I (strB.getD 3 []) = false from decide_eq_false (fun z => by have := z.2.2 j.toNat (by omega); rw [← he9] at this; omega)]; rfl, rfl⟩

theorem k_reads_3 (l : Launch) (E : AX) (b : Bool) (I L : Nat → Nat → Int) (hT : TpK I) (hp : 0 ≤ I 28 2 ∧ I 28 2 ≤ I 28 4) : Con l E 5 45 [vR 28, vR 2003] (MW b I L) 0 0 (fun rt w => rt = some (vI (b2i (rdJ I (strB.getD 3 [])))) ∧ w = MW b I L) := by
  refine con_ok (fun hw9 hs9 => ?_)
  refine con_intro (by decide) (Nat.le_of_ble_eq_true rfl) ?_
  have hT1 := hT.1
  show Rch l E 5 45 _ _ _ _ (0, [some (vR 28), some (vR 2003), none], [], MW b I L)
  refine rch_run cdK45 (by decide) 3 (t' := (5, [some (vR 28), some (vR 2003), none], [vI 2, vI (I 28 1)], MW b I L)) (ps := []) rfl trivial ?_
  refine rch_br cdK45 (cd := I 28 1 ≠ (2 : Int)) (t1 := (24, [some (vR 28), some (vR 2003), none], [], MW b I L)) (t2 := (8, [some (vR 28), some (vR 2003), none], [], MW b I L)) rfl (fun c5_1 => ?_) (fun c5_1 => ?_)
  · refine rch_run cdK45 (by decide) 1 (t' := (25, [some (vR 28), some (vR 2003), none], [vI 0], MW b I L)) (ps := []) rfl trivial ?_
    refine rch_ret cdK45 (rt := some (vI 0)) rfl (Or.inl rfl) mw_c ?_
    exact ⟨by rw [show rdJ I (strB.getD 3 []) = false from decide_eq_false (fun z => by omega)]; rfl, rfl⟩
  · refine rch_run cdK45 (by decide) 1 (t' := (9, [some (vR 28), some (vR 2003), none], [vR 2003], MW b I L)) (ps := []) rfl trivial ?_
    refine rch_call (h' := 2) (k' := 167) (as := [vR 2003]) (t1 := (12, [some (vR 28), some (vR 2003), none], [], MW b I L)) cdK45 rfl (k_len_3 l E b I L) (by decide) mw_le ?_
    rintro rt9 w9 (⟨rfl, rfl⟩) _ _
    show Rch l E 5 45 _ _ _ _ (12, [some (vR 28), some (vR 2003), none], [vI ((strB.getD 3 []).length : Int)], MW b I L)
    refine rch_run cdK45 (by decide) 5 (t' := (21, [some (vR 28), some (vR 2003), none], [vI ((I 28 4) - (I 28 2)), vI ((strB.getD 3 []).length : Int)], MW b I L)) (ps := [i32 ((I 28 4) - (I 28 2))]) rfl (by simp only [all_, i32, i64]; first | omega | (simp; done) | (simp; omega)) ?_
    refine rch_br cdK45 (cd := ((strB.getD 3 []).length : Int) = (I 28 4) - (I 28 2)) (t1 := (26, [some (vR 28), some (vR 2003), none], [], MW b I L)) (t2 := (24, [some (vR 28), some (vR 2003), none], [], MW b I L)) rfl (fun c21_2 => ?_) (fun c21_2 => ?_)
    · refine rch_run cdK45 (by decide) 2 (t' := (28, [some (vR 28), some (vR 2003), some (vI 0)], [], MW b I L)) (ps := []) rfl trivial ?_
      exact lp_reads_3 l E b I L hT hp (by omega) 20 0 (by omega) (by decide) (fun z hz => by omega) (by decide)
    · refine rch_run cdK45 (by decide) 1 (t' := (25, [some (vR 28), some (vR 2003), none], [vI 0], MW b I L)) (ps := []) rfl trivial ?_
      refine rch_ret cdK45 (rt := some (vI 0)) rfl (Or.inl rfl) mw_c ?_
      exact ⟨by rw [show rdJ I (strB.getD 3 []) = false from decide_eq_false (fun z => by omega)]; rfl, rfl⟩

theorem chR_4 : ∀ j : Nat, j < (strB.getD 4 []).length → 0 ≤ c16 (bAnd ((strB.getD 4 []).getD j 0) 255) ∧ c16 (bAnd ((strB.getD 4 []).getD j 0) 255) ≤ 65535 := by decide

theorem k_ch1_4 (l : Launch) (E : AX) (b : Bool) (I L : Nat → Nat → Int) (j : Int) (hj : 0 ≤ j ∧ j < ((strB.getD 4 []).length : Int)) : Con l E 3 172 [vR 3004, vI j] (MW b I L) 0 0 (fun rt w => rt = some (vI (c16 (bAnd ((strB.getD 4 []).getD j.toNat 0) 255))) ∧ w = MW b I L) := by
  refine con_ok (fun hw9 hs9 => ?_)
  refine con_intro (by decide) (Nat.le_of_ble_eq_true rfl) ?_
  have hc9 := chR_4 j.toNat (by omega)
  show Rch l E 3 172 _ _ _ _ (0, [some (vR 3004), some (vI j)], [], MW b I L)
  refine rch_run cdK172 (by decide) 3 (t' := (3, [some (vR 3004), some (vI j)], [vI ((strB.getD 4 []).length : Int), vI j], MW b I L)) (ps := []) rfl trivial ?_
  refine rch_call (h' := 2) (k' := 171) (as := [vI j, vI ((strB.getD 4 []).length : Int)]) (t1 := (6, [some (vR 3004), some (vI j)], [], MW b I L)) cdK172 rfl (k_ci0 l E b I L j ((strB.getD 4 []).length : Int) hj) (by decide) mw_le ?_
  rintro rt9 w9 (⟨rfl, rfl⟩) _ _
  show Rch l E 3 172 _ _ _ _ (6, [some (vR 3004), some (vI j)], [], MW b I L)
  refine rch_run cdK172 (by decide) 6 (t' := (14, [some (vR 3004), some (vI j)], [vI (c16 (bAnd ((strB.getD 4 []).getD j.toNat 0) 255))], MW b I L)) (ps := [0 ≤ j ∧ j < ((strB.getD 4 []).length : Int)]) rfl (by simp only [all_, i32, i64]; first | omega | (simp; done) | (simp; omega)) ?_
  refine rch_ret cdK172 (rt := some (vI (c16 (bAnd ((strB.getD 4 []).getD j.toNat 0) 255)))) rfl (by show _ ∧ _; omega) mw_c ?_
  exact ⟨rfl, rfl⟩

theorem k_lat_4 (l : Launch) (E : AX) (b : Bool) (I L : Nat → Nat → Int) : Con l E 1 170 [vR 2004] (MW b I L) 0 0 (fun rt w => rt = some (vI 1) ∧ w = MW b I L) := by
  refine con_ok (fun hw9 hs9 => ?_)
  refine con_intro (by decide) (Nat.le_of_ble_eq_true rfl) ?_
  show Rch l E 1 170 _ _ _ _ (0, [some (vR 2004)], [], MW b I L)
  refine rch_run cdK170 (by decide) 1 (t' := (3, [some (vR 2004)], [vI 1], MW b I L)) (ps := []) rfl trivial ?_
  refine rch_br cdK170 (cd := (1 : Int) = 0) (t1 := (17, [some (vR 2004)], [], MW b I L)) (t2 := (6, [some (vR 2004)], [], MW b I L)) rfl (fun c9 => absurd c9 (by decide)) (fun _ => ?_)
  refine rch_run cdK170 (by decide) 2 (t' := (10, [some (vR 2004)], [vI 0], MW b I L)) (ps := []) rfl trivial ?_
  refine rch_br cdK170 (cd := (0 : Int) ≠ 0) (t1 := (17, [some (vR 2004)], [], MW b I L)) (t2 := (13, [some (vR 2004)], [], MW b I L)) rfl (fun c9 => absurd c9 (by decide)) (fun _ => ?_)
  refine rch_run cdK170 (by decide) 2 (t' := (18, [some (vR 2004)], [vI 1], MW b I L)) (ps := []) rfl trivial ?_
  refine rch_ret cdK170 (rt := some (vI 1)) rfl (Or.inr rfl) mw_c ?_
  exact ⟨rfl, rfl⟩

theorem k_cod_4 (l : Launch) (E : AX) (b : Bool) (I L : Nat → Nat → Int) : Con l E 1 169 [vR 2004] (MW b I L) 0 0 (fun rt w => rt = some (vI 0) ∧ w = MW b I L) := by
  refine con_ok (fun hw9 hs9 => ?_)
  refine con_intro (by decide) (Nat.le_of_ble_eq_true rfl) ?_
  show Rch l E 1 169 _ _ _ _ (0, [some (vR 2004)], [], MW b I L)
  refine rch_run cdK169 (by decide) 1 (t' := (3, [some (vR 2004)], [vI 1], MW b I L)) (ps := []) rfl trivial ?_
  refine rch_br cdK169 (cd := (1 : Int) = 0) (t1 := (13, [some (vR 2004)], [], MW b I L)) (t2 := (6, [some (vR 2004)], [], MW b I L)) rfl (fun c9 => absurd c9 (by decide)) (fun _ => ?_)
  refine rch_run cdK169 (by decide) 3 (t' := (14, [some (vR 2004)], [vI 0], MW b I L)) (ps := []) rfl trivial ?_
  refine rch_ret cdK169 (rt := some (vI 0)) rfl (by show _ ∧ _; omega) mw_c ?_
  exact ⟨rfl, rfl⟩

theorem chB_4 : ∀ j : Nat, j < (strB.getD 4 []).length → c16 (bAnd ((strB.getD 4 []).getD j 0) 255) = (strB.getD 4 []).getD j 0 := by decide

theorem k_chr_4 (l : Launch) (E : AX) (b : Bool) (I L : Nat → Nat → Int) (j : Int) (hj : 0 ≤ j ∧ j < ((strB.getD 4 []).length : Int)) : Con l E 4 168 [vR 2004, vI j] (MW b I L) 0 0 (fun rt w => rt = some (vI ((strB.getD 4 []).getD j.toNat 0)) ∧ w = MW b I L) := by
  refine con_ok (fun hw9 hs9 => ?_)
  refine con_intro (by decide) (Nat.le_of_ble_eq_true rfl) ?_
  have hc9 := chR_4 j.toNat (by omega)
  show Rch l E 4 168 _ _ _ _ (0, [some (vR 2004), some (vI j)], [], MW b I L)
  refine rch_run cdK168 (by decide) 1 (t' := (1, [some (vR 2004), some (vI j)], [vR 2004], MW b I L)) (ps := []) rfl trivial ?_
  refine rch_call (h' := 1) (k' := 170) (as := [vR 2004]) (t1 := (4, [some (vR 2004), some (vI j)], [], MW b I L)) cdK168 rfl (k_lat_4 l E b I L) (by decide) mw_le ?_
  rintro rt9 w9 (⟨rfl, rfl⟩) _ _
  show Rch l E 4 168 _ _ _ _ (4, [some (vR 2004), some (vI j)], [vI 1], MW b I L)
  refine rch_br cdK168 (cd := (1 : Int) = 0) (t1 := (16, [some (vR 2004), some (vI j)], [], MW b I L)) (t2 := (7, [some (vR 2004), some (vI j)], [], MW b I L)) rfl (fun c9 => absurd c9 (by decide)) (fun _ => ?_)
  refine rch_run cdK168 (by decide) 3 (t' := (12, [some (vR 2004), some (vI j)], [vI j, vR 3004], MW b I L)) (ps := []) rfl trivial ?_
  refine rch_call (h' := 3) (k' := 172) (as := [vR 3004, vI j]) (t1 := (15, [some (vR 2004), some (vI j)], [], MW b I L)) cdK168 rfl (k_ch1_4 l E b I L j hj) (by decide) mw_le ?_
  rintro rt9 w9 (⟨rfl, rfl⟩) _ _
  show Rch l E 4 168 _ _ _ _ (15, [some (vR 2004), some (vI j)], [vI (c16 (bAnd ((strB.getD 4 []).getD j.toNat 0) 255))], MW b I L)
  refine rch_ret cdK168 (rt := some (vI (c16 (bAnd ((strB.getD 4 []).getD j.toNat 0) 255)))) rfl (by show _ ∧ _; omega) mw_c ?_
  exact ⟨by rw [show c16 (bAnd ((strB.getD 4 []).getD j.toNat 0) 255) = (strB.getD 4 []).getD j.toNat 0 from chB_4 j.toNat (by omega)], rfl⟩

theorem k_len_4 (l : Launch) (E : AX) (b : Bool) (I L : Nat → Nat → Int) : Con l E 2 167 [vR 2004] (MW b I L) 0 0 (fun rt w => rt = some (vI ((strB.getD 4 []).length : Int)) ∧ w = MW b I L) := by
  refine con_ok (fun hw9 hs9 => ?_)
  refine con_intro (by decide) (Nat.le_of_ble_eq_true rfl) ?_
  show Rch l E 2 167 _ _ _ _ (0, [some (vR 2004)], [], MW b I L)
  refine rch_run cdK167 (by decide) 4 (t' := (6, [some (vR 2004)], [vR 2004, vI ((strB.getD 4 []).length : Int)], MW b I L)) (ps := []) rfl trivial ?_
  refine rch_call (h' := 1) (k' := 169) (as := [vR 2004]) (t1 := (9, [some (vR 2004)], [vI ((strB.getD 4 []).length : Int)], MW b I L)) cdK167 rfl (k_cod_4 l E b I L) (by decide) mw_le ?_
  rintro rt9 w9 (⟨rfl, rfl⟩) _ _
  show Rch l E 2 167 _ _ _ _ (9, [some (vR 2004)], [vI 0, vI ((strB.getD 4 []).length : Int)], MW b I L)
  refine rch_run cdK167 (by decide) 1 (t' := (10, [some (vR 2004)], [vI (bShr ((strB.getD 4 []).length : Int) 0)], MW b I L)) (ps := []) rfl trivial ?_
  refine rch_ret cdK167 (rt := some (vI (bShr ((strB.getD 4 []).length : Int) 0))) rfl trivial mw_c ?_
  exact ⟨by rw [show bShr (((strB.getD 4 []).length : Nat) : Int) 0 = (((strB.getD 4 []).length : Nat) : Int) by decide], rfl⟩

theorem lp_reads_4 (l : Launch) (E : AX) (b : Bool) (I L : Nat → Nat → Int) (hT : TpK I) (hp : 0 ≤ I 28 2 ∧ I 28 2 ≤ I 28 4) (hk : I 28 1 = 2 ∧ ((strB.getD 4 []).length : Int) = I 28 4 - I 28 2) : ∀ (n9 : Nat) (j : Int), 0 ≤ j → j ≤ ((strB.getD 4 []).length : Int) → (∀ z : Nat, (z : Int) < j → I 29 ((I 28 2).toNat + z) = (strB.getD 4 []).getD z 0) → ((strB.getD 4 []).length : Int) - j < (n9 : Int) → Rch l E 5 45 (MW b I L) 0 0 (fun rt w => rt = some (vI (b2i (rdJ I (strB.getD 4 [])))) ∧ w = MW b I L) (28, [some (vR 28), some (vR 2004), some (vI j)], [], MW b I L) := by
  intro n9
  induction n9 with
  | zero =>
    intro j  h1 h2 h3 hm
    exfalso; omega
  | succ n9 ih =>
    intro j  h1 h2 h3 hm
    have hT1 := hT.1
    have he9 : ((I 28 2) + j).toNat = (I 28 2).toNat + j.toNat := by omega
    refine rch_run cdK45 (by decide) 2 (t' := (30, [some (vR 28), some (vR 2004), some (vI j)], [vR 2004, vI j], MW b I L)) (ps := []) rfl trivial ?_
    refine rch_call (h' := 2) (k' := 167) (as := [vR 2004]) (t1 := (33, [some (vR 28), some (vR 2004), some (vI j)], [vI j], MW b I L)) cdK45 rfl (k_len_4 l E b I L) (by decide) mw_le ?_
    rintro rt9 w9 (⟨rfl, rfl⟩) _ _
    show Rch l E 5 45 _ _ _ _ (33, [some (vR 28), some (vR 2004), some (vI j)], [vI ((strB.getD 4 []).length : Int), vI j], MW b I L)
    refine rch_br cdK45 (cd := ((strB.getD 4 []).length : Int) ≤ j) (t1 := (63, [some (vR 28), some (vR 2004), some (vI j)], [], MW b I L)) (t2 := (36, [some (vR 28), some (vR 2004), some (vI j)], [], MW b I L)) rfl (fun c33_1 => ?_) (fun c33_1 => ?_)
    · refine rch_run cdK45 (by decide) 1 (t' := (64, [some (vR 28), some (vR 2004), some (vI j)], [vI 1], MW b I L)) (ps := []) rfl trivial ?_
      refine rch_ret cdK45 (rt := some (vI 1)) rfl (Or.inr rfl) mw_c ?_
      exact ⟨by rw [show rdJ I (strB.getD 4 []) = true from decide_eq_true ⟨hk.1, hk.2, fun z hz => h3 z (by omega)⟩]; rfl, rfl⟩
    · refine rch_run cdK45 (by decide) 9 (t' := (49, [some (vR 28), some (vR 2004), some (vI j)], [vI j, vR 2004, vI (I 29 ((I 28 2) + j).toNat)], MW b I L)) (ps := [i32 ((I 28 2) + j), 0 ≤ (I 28 2) + j ∧ (I 28 2) + j < ((500 : Nat) : Int)]) rfl (by simp only [all_, i32, i64]; first | omega | (simp; done) | (simp; omega)) ?_
      refine rch_call (h' := 4) (k' := 168) (as := [vR 2004, vI j]) (t1 := (52, [some (vR 28), some (vR 2004), some (vI j)], [vI (I 29 ((I 28 2) + j).toNat)], MW b I L)) cdK45 rfl (k_chr_4 l E b I L j (by omega)) (by decide) mw_le ?_
      rintro rt9 w9 (⟨rfl, rfl⟩) _ _
      show Rch l E 5 45 _ _ _ _ (52, [some (vR 28), some (vR 2004), some (vI j)], [vI ((strB.getD 4 []).getD j.toNat 0), vI (I 29 ((I 28 2) + j).toNat)], MW b I L)
      refine rch_br cdK45 (cd := I 29 ((I 28 2) + j).toNat = (strB.getD 4 []).getD j.toNat 0) (t1 := (57, [some (vR 28), some (vR 2004), some (vI j)], [], MW b I L)) (t2 := (55, [some (vR 28), some (vR 2004), some (vI j)], [], MW b I L)) rfl (fun c52_2 => ?_) (fun c52_2 => ?_)
      · refine rch_run cdK45 (by decide) 2 (t' := (28, [some (vR 28), some (vR 2004), some (vI (j + 1))], [], MW b I L)) (ps := [i32 (j + 1)]) rfl (by simp only [all_, i32, i64]; first | omega | (simp; done) | (simp; omega)) ?_
        exact ih (j + 1) (by omega) (by omega) (fun z hz => by by_cases e : z = j.toNat; (rw [e, ← he9]; omega); exact h3 z (by omega)) (by omega)
      · refine rch_run cdK45 (by decide) 1 (t' := (56, [some (vR 28), some (vR 2004), some (vI j)], [vI 0], MW b I L)) (ps := []) rfl trivial ?_
        refine rch_ret cdK45 (rt := some (vI 0)) rfl (Or.inl rfl) mw_c ?_
        exact ⟨by rw [show rdJ I (strB.getD 4 []) = false from decide_eq_false (fun z => by have := z.2.2 j.toNat (by omega); rw [← he9] at this; omega)]; rfl, rfl⟩

theorem k_reads_4 (l : Launch) (E : AX) (b : Bool) (I L : Nat → Nat → Int) (hT : TpK I) (hp : 0 ≤ I 28 2 ∧ I 28 2 ≤ I 28 4) : Con l E 5 45 [vR 28, vR 2004] (MW b I L) 0 0 (fun rt w => rt = some (vI (b2i (rdJ I (strB.getD 4 [])))) ∧ w = MW b I L) := by
  refine con_ok (fun hw9 hs9 => ?_)
  refine con_intro (by decide) (Nat.le_of_ble_eq_true rfl) ?_
  have hT1 := hT.1
  show Rch l E 5 45 _ _ _ _ (0, [some (vR 28), some (vR 2004), none], [], MW b I L)
  refine rch_run cdK45 (by decide) 3 (t' := (5, [some (vR 28), some (vR 2004), none], [vI 2, vI (I 28 1)], MW b I L)) (ps := []) rfl trivial ?_
  refine rch_br cdK45 (cd := I 28 1 ≠ (2 : Int)) (t1 := (24, [some (vR 28), some (vR 2004), none], [], MW b I L)) (t2 := (8, [some (vR 28), some (vR 2004), none], [], MW b I L)) rfl (fun c5_1 => ?_) (fun c5_1 => ?_)
  · refine rch_run cdK45 (by decide) 1 (t' := (25, [some (vR 28), some (vR 2004), none], [vI 0], MW b I L)) (ps := []) rfl trivial ?_
    refine rch_ret cdK45 (rt := some (vI 0)) rfl (Or.inl rfl) mw_c ?_
    exact ⟨by rw [show rdJ I (strB.getD 4 []) = false from decide_eq_false (fun z => by omega)]; rfl, rfl⟩
  · refine rch_run cdK45 (by decide) 1 (t' := (9, [some (vR 28), some (vR 2004), none], [vR 2004], MW b I L)) (ps := []) rfl trivial ?_
    refine rch_call (h' := 2) (k' := 167) (as := [vR 2004]) (t1 := (12, [some (vR 28), some (vR 2004), none], [], MW b I L)) cdK45 rfl (k_len_4 l E b I L) (by decide) mw_le ?_
    rintro rt9 w9 (⟨rfl, rfl⟩) _ _
    show Rch l E 5 45 _ _ _ _ (12, [some (vR 28), some (vR 2004), none], [vI ((strB.getD 4 []).length : Int)], MW b I L)
    refine rch_run cdK45 (by decide) 5 (t' := (21, [some (vR 28), some (vR 2004), none], [vI ((I 28 4) - (I 28 2)), vI ((strB.getD 4 []).length : Int)], MW b I L)) (ps := [i32 ((I 28 4) - (I 28 2))]) rfl (by simp only [all_, i32, i64]; first | omega | (simp; done) | (simp; omega)) ?_
    refine rch_br cdK45 (cd := ((strB.getD 4 []).length : Int) = (I 28 4) - (I 28 2)) (t1 := (26, [some (vR 28), some (vR 2004), none], [], MW b I L)) (t2 := (24, [some (vR 28), some (vR 2004), none], [], MW b I L)) rfl (fun c21_2 => ?_) (fun c21_2 => ?_)
    · refine rch_run cdK45 (by decide) 2 (t' := (28, [some (vR 28), some (vR 2004), some (vI 0)], [], MW b I L)) (ps := []) rfl trivial ?_
      exact lp_reads_4 l E b I L hT hp (by omega) 20 0 (by omega) (by decide) (fun z hz => by omega) (by decide)
    · refine rch_run cdK45 (by decide) 1 (t' := (25, [some (vR 28), some (vR 2004), none], [vI 0], MW b I L)) (ps := []) rfl trivial ?_
      refine rch_ret cdK45 (rt := some (vI 0)) rfl (Or.inl rfl) mw_c ?_
      exact ⟨by rw [show rdJ I (strB.getD 4 []) = false from decide_eq_false (fun z => by omega)]; rfl, rfl⟩

theorem chR_5 : ∀ j : Nat, j < (strB.getD 5 []).length → 0 ≤ c16 (bAnd ((strB.getD 5 []).getD j 0) 255) ∧ c16 (bAnd ((strB.getD 5 []).getD j 0) 255) ≤ 65535 := by decide

theorem k_ch1_5 (l : Launch) (E : AX) (b : Bool) (I L : Nat → Nat → Int) (j : Int) (hj : 0 ≤ j ∧ j < ((strB.getD 5 []).length : Int)) : Con l E 3 172 [vR 3005, vI j] (MW b I L) 0 0 (fun rt w => rt = some (vI (c16 (bAnd ((strB.getD 5 []).getD j.toNat 0) 255))) ∧ w = MW b I L) := by
  refine con_ok (fun hw9 hs9 => ?_)
  refine con_intro (by decide) (Nat.le_of_ble_eq_true rfl) ?_
  have hc9 := chR_5 j.toNat (by omega)
  show Rch l E 3 172 _ _ _ _ (0, [some (vR 3005), some (vI j)], [], MW b I L)
  refine rch_run cdK172 (by decide) 3 (t' := (3, [some (vR 3005), some (vI j)], [vI ((strB.getD 5 []).length : Int), vI j], MW b I L)) (ps := []) rfl trivial ?_
  refine rch_call (h' := 2) (k' := 171) (as := [vI j, vI ((strB.getD 5 []).length : Int)]) (t1 := (6, [some (vR 3005), some (vI j)], [], MW b I L)) cdK172 rfl (k_ci0 l E b I L j ((strB.getD 5 []).length : Int) hj) (by decide) mw_le ?_
  rintro rt9 w9 (⟨rfl, rfl⟩) _ _
  show Rch l E 3 172 _ _ _ _ (6, [some (vR 3005), some (vI j)], [], MW b I L)
  refine rch_run cdK172 (by decide) 6 (t' := (14, [some (vR 3005), some (vI j)], [vI (c16 (bAnd ((strB.getD 5 []).getD j.toNat 0) 255))], MW b I L)) (ps := [0 ≤ j ∧ j < ((strB.getD 5 []).length : Int)]) rfl (by simp only [all_, i32, i64]; first | omega | (simp; done) | (simp; omega)) ?_
  refine rch_ret cdK172 (rt := some (vI (c16 (bAnd ((strB.getD 5 []).getD j.toNat 0) 255)))) rfl (by show _ ∧ _; omega) mw_c ?_
  exact ⟨rfl, rfl⟩

theorem k_lat_5 (l : Launch) (E : AX) (b : Bool) (I L : Nat → Nat → Int) : Con l E 1 170 [vR 2005] (MW b I L) 0 0 (fun rt w => rt = some (vI 1) ∧ w = MW b I L) := by
  refine con_ok (fun hw9 hs9 => ?_)
  refine con_intro (by decide) (Nat.le_of_ble_eq_true rfl) ?_
  show Rch l E 1 170 _ _ _ _ (0, [some (vR 2005)], [], MW b I L)
  refine rch_run cdK170 (by decide) 1 (t' := (3, [some (vR 2005)], [vI 1], MW b I L)) (ps := []) rfl trivial ?_
  refine rch_br cdK170 (cd := (1 : Int) = 0) (t1 := (17, [some (vR 2005)], [], MW b I L)) (t2 := (6, [some (vR 2005)], [], MW b I L)) rfl (fun c9 => absurd c9 (by decide)) (fun _ => ?_)
  refine rch_run cdK170 (by decide) 2 (t' := (10, [some (vR 2005)], [vI 0], MW b I L)) (ps := []) rfl trivial ?_
  refine rch_br cdK170 (cd := (0 : Int) ≠ 0) (t1 := (17, [some (vR 2005)], [], MW b I L)) (t2 := (13, [some (vR 2005)], [], MW b I L)) rfl (fun c9 => absurd c9 (by decide)) (fun _ => ?_)
  refine rch_run cdK170 (by decide) 2 (t' := (18, [some (vR 2005)], [vI 1], MW b I L)) (ps := []) rfl trivial ?_
  refine rch_ret cdK170 (rt := some (vI 1)) rfl (Or.inr rfl) mw_c ?_
  exact ⟨rfl, rfl⟩

theorem k_cod_5 (l : Launch) (E : AX) (b : Bool) (I L : Nat → Nat → Int) : Con l E 1 169 [vR 2005] (MW b I L) 0 0 (fun rt w => rt = some (vI 0) ∧ w = MW b I L) := by
  refine con_ok (fun hw9 hs9 => ?_)
  refine con_intro (by decide) (Nat.le_of_ble_eq_true rfl) ?_
  show Rch l E 1 169 _ _ _ _ (0, [some (vR 2005)], [], MW b I L)
  refine rch_run cdK169 (by decide) 1 (t' := (3, [some (vR 2005)], [vI 1], MW b I L)) (ps := []) rfl trivial ?_
  refine rch_br cdK169 (cd := (1 : Int) = 0) (t1 := (13, [some (vR 2005)], [], MW b I L)) (t2 := (6, [some (vR 2005)], [], MW b I L)) rfl (fun c9 => absurd c9 (by decide)) (fun _ => ?_)
  refine rch_run cdK169 (by decide) 3 (t' := (14, [some (vR 2005)], [vI 0], MW b I L)) (ps := []) rfl trivial ?_
  refine rch_ret cdK169 (rt := some (vI 0)) rfl (by show _ ∧ _; omega) mw_c ?_
  exact ⟨rfl, rfl⟩

theorem chB_5 : ∀ j : Nat, j < (strB.getD 5 []).length → c16 (bAnd ((strB.getD 5 []).getD j 0) 255) = (strB.getD 5 []).getD j 0 := by decide

theorem k_chr_5 (l : Launch) (E : AX) (b : Bool) (I L : Nat → Nat → Int) (j : Int) (hj : 0 ≤ j ∧ j < ((strB.getD 5 []).length : Int)) : Con l E 4 168 [vR 2005, vI j] (MW b I L) 0 0 (fun rt w => rt = some (vI ((strB.getD 5 []).getD j.toNat 0)) ∧ w = MW b I L) := by
  refine con_ok (fun hw9 hs9 => ?_)
  refine con_intro (by decide) (Nat.le_of_ble_eq_true rfl) ?_
  have hc9 := chR_5 j.toNat (by omega)
  show Rch l E 4 168 _ _ _ _ (0, [some (vR 2005), some (vI j)], [], MW b I L)
  refine rch_run cdK168 (by decide) 1 (t' := (1, [some (vR 2005), some (vI j)], [vR 2005], MW b I L)) (ps := []) rfl trivial ?_
  refine rch_call (h' := 1) (k' := 170) (as := [vR 2005]) (t1 := (4, [some (vR 2005), some (vI j)], [], MW b I L)) cdK168 rfl (k_lat_5 l E b I L) (by decide) mw_le ?_
  rintro rt9 w9 (⟨rfl, rfl⟩) _ _
  show Rch l E 4 168 _ _ _ _ (4, [some (vR 2005), some (vI j)], [vI 1], MW b I L)
  refine rch_br cdK168 (cd := (1 : Int) = 0) (t1 := (16, [some (vR 2005), some (vI j)], [], MW b I L)) (t2 := (7, [some (vR 2005), some (vI j)], [], MW b I L)) rfl (fun c9 => absurd c9 (by decide)) (fun _ => ?_)
  refine rch_run cdK168 (by decide) 3 (t' := (12, [some (vR 2005), some (vI j)], [vI j, vR 3005], MW b I L)) (ps := []) rfl trivial ?_
  refine rch_call (h' := 3) (k' := 172) (as := [vR 3005, vI j]) (t1 := (15, [some (vR 2005), some (vI j)], [], MW b I L)) cdK168 rfl (k_ch1_5 l E b I L j hj) (by decide) mw_le ?_
  rintro rt9 w9 (⟨rfl, rfl⟩) _ _
  show Rch l E 4 168 _ _ _ _ (15, [some (vR 2005), some (vI j)], [vI (c16 (bAnd ((strB.getD 5 []).getD j.toNat 0) 255))], MW b I L)
  refine rch_ret cdK168 (rt := some (vI (c16 (bAnd ((strB.getD 5 []).getD j.toNat 0) 255)))) rfl (by show _ ∧ _; omega) mw_c ?_
  exact ⟨by rw [show c16 (bAnd ((strB.getD 5 []).getD j.toNat 0) 255) = (strB.getD 5 []).getD j.toNat 0 from chB_5 j.toNat (by omega)], rfl⟩

theorem k_len_5 (l : Launch) (E : AX) (b : Bool) (I L : Nat → Nat → Int) : Con l E 2 167 [vR 2005] (MW b I L) 0 0 (fun rt w => rt = some (vI ((strB.getD 5 []).length : Int)) ∧ w = MW b I L) := by
  refine con_ok (fun hw9 hs9 => ?_)
  refine con_intro (by decide) (Nat.le_of_ble_eq_true rfl) ?_
  show Rch l E 2 167 _ _ _ _ (0, [some (vR 2005)], [], MW b I L)
  refine rch_run cdK167 (by decide) 4 (t' := (6, [some (vR 2005)], [vR 2005, vI ((strB.getD 5 []).length : Int)], MW b I L)) (ps := []) rfl trivial ?_
  refine rch_call (h' := 1) (k' := 169) (as := [vR 2005]) (t1 := (9, [some (vR 2005)], [vI ((strB.getD 5 []).length : Int)], MW b I L)) cdK167 rfl (k_cod_5 l E b I L) (by decide) mw_le ?_
  rintro rt9 w9 (⟨rfl, rfl⟩) _ _
  show Rch l E 2 167 _ _ _ _ (9, [some (vR 2005)], [vI 0, vI ((strB.getD 5 []).length : Int)], MW b I L)
  refine rch_run cdK167 (by decide) 1 (t' := (10, [some (vR 2005)], [vI (bShr ((strB.getD 5 []).length : Int) 0)], MW b I L)) (ps := []) rfl trivial ?_
  refine rch_ret cdK167 (rt := some (vI (bShr ((strB.getD 5 []).length : Int) 0))) rfl trivial mw_c ?_
  exact ⟨by rw [show bShr (((strB.getD 5 []).length : Nat) : Int) 0 = (((strB.getD 5 []).length : Nat) : Int) by decide], rfl⟩

theorem lp_reads_5 (l : Launch) (E : AX) (b : Bool) (I L : Nat → Nat → Int) (hT : TpK I) (hp : 0 ≤ I 28 2 ∧ I 28 2 ≤ I 28 4) (hk : I 28 1 = 2 ∧ ((strB.getD 5 []).length : Int) = I 28 4 - I 28 2) : ∀ (n9 : Nat) (j : Int), 0 ≤ j → j ≤ ((strB.getD 5 []).length : Int) → (∀ z : Nat, (z : Int) < j → I 29 ((I 28 2).toNat + z) = (strB.getD 5 []).getD z 0) → ((strB.getD 5 []).length : Int) - j < (n9 : Int) → Rch l E 5 45 (MW b I L) 0 0 (fun rt w => rt = some (vI (b2i (rdJ I (strB.getD 5 [])))) ∧ w = MW b I L) (28, [some (vR 28), some (vR 2005), some (vI j)], [], MW b I L) := by
  intro n9
  induction n9 with
  | zero =>
    intro j  h1 h2 h3 hm
    exfalso; omega
  | succ n9 ih =>
    intro j  h1 h2 h3 hm
    have hT1 := hT.1
    have he9 : ((I 28 2) + j).toNat = (I 28 2).toNat + j.toNat := by omega
    refine rch_run cdK45 (by decide) 2 (t' := (30, [some (vR 28), some (vR 2005), some (vI j)], [vR 2005, vI j], MW b I L)) (ps := []) rfl trivial ?_
    refine rch_call (h' := 2) (k' := 167) (as := [vR 2005]) (t1 := (33, [some (vR 28), some (vR 2005), some (vI j)], [vI j], MW b I L)) cdK45 rfl (k_len_5 l E b I L) (by decide) mw_le ?_
    rintro rt9 w9 (⟨rfl, rfl⟩) _ _
    show Rch l E 5 45 _ _ _ _ (33, [some (vR 28), some (vR 2005), some (vI j)], [vI ((strB.getD 5 []).length : Int), vI j], MW b I L)
    refine rch_br cdK45 (cd := ((strB.getD 5 []).length : Int) ≤ j) (t1 := (63, [some (vR 28), some (vR 2005), some (vI j)], [], MW b I L)) (t2 := (36, [some (vR 28), some (vR 2005), some (vI j)], [], MW b I L)) rfl (fun c33_1 => ?_) (fun c33_1 => ?_)
    · refine rch_run cdK45 (by decide) 1 (t' := (64, [some (vR 28), some (vR 2005), some (vI j)], [vI 1], MW b I L)) (ps := []) rfl trivial ?_
      refine rch_ret cdK45 (rt := some (vI 1)) rfl (Or.inr rfl) mw_c ?_
      exact ⟨by rw [show rdJ I (strB.getD 5 []) = true from decide_eq_true ⟨hk.1, hk.2, fun z hz => h3 z (by omega)⟩]; rfl, rfl⟩
    · refine rch_run cdK45 (by decide) 9 (t' := (49, [some (vR 28), some (vR 2005), some (vI j)], [vI j, vR 2005, vI (I 29 ((I 28 2) + j).toNat)], MW b I L)) (ps := [i32 ((I 28 2) + j), 0 ≤ (I 28 2) + j ∧ (I 28 2) + j < ((500 : Nat) : Int)]) rfl (by simp only [all_, i32, i64]; first | omega | (simp; done) | (simp; omega)) ?_
      refine rch_call (h' := 4) (k' := 168) (as := [vR 2005, vI j]) (t1 := (52, [some (vR 28), some (vR 2005), some (vI j)], [vI (I 29 ((I 28 2) + j).toNat)], MW b I L)) cdK45 rfl (k_chr_5 l E b I L j (by omega)) (by decide) mw_le ?_
      rintro rt9 w9 (⟨rfl, rfl⟩) _ _
      show Rch l E 5 45 _ _ _ _ (52, [some (vR 28), some (vR 2005), some (vI j)], [vI ((strB.getD 5 []).getD j.toNat 0), vI (I 29 ((I 28 2) + j).toNat)], MW b I L)
      refine rch_br cdK45 (cd := I 29 ((I 28 2) + j).toNat = (strB.getD 5 []).getD j.toNat 0) (t1 := (57, [some (vR 28), some (vR 2005), some (vI j)], [], MW b I L)) (t2 := (55, [some (vR 28), some (vR 2005), some (vI j)], [], MW b I L)) rfl (fun c52_2 => ?_) (fun c52_2 => ?_)
      · refine rch_run cdK45 (by decide) 2 (t' := (28, [some (vR 28), some (vR 2005), some (vI (j + 1))], [], MW b I L)) (ps := [i32 (j + 1)]) rfl (by simp only [all_, i32, i64]; first | omega | (simp; done) | (simp; omega)) ?_
        exact ih (j + 1) (by omega) (by omega) (fun z hz => by by_cases e : z = j.toNat; (rw [e, ← he9]; omega); exact h3 z (by omega)) (by omega)
      · refine rch_run cdK45 (by decide) 1 (t' := (56, [some (vR 28), some (vR 2005), some (vI j)], [vI 0], MW b I L)) (ps := []) rfl trivial ?_
        refine rch_ret cdK45 (rt := some (vI 0)) rfl (Or.inl rfl) mw_c ?_
        exact ⟨by rw [show rdJ I (strB.getD 5 []) = false from decide_eq_false (fun z => by have := z.2.2 j.toNat (by omega); rw [← he9] at this; omega)]; rfl, rfl⟩

theorem k_reads_5 (l : Launch) (E : AX) (b : Bool) (I L : Nat → Nat → Int) (hT : TpK I) (hp : 0 ≤ I 28 2 ∧ I 28 2 ≤ I 28 4) : Con l E 5 45 [vR 28, vR 2005] (MW b I L) 0 0 (fun rt w => rt = some (vI (b2i (rdJ I (strB.getD 5 [])))) ∧ w = MW b I L) := by
  refine con_ok (fun hw9 hs9 => ?_)
  refine con_intro (by decide) (Nat.le_of_ble_eq_true rfl) ?_
  have hT1 := hT.1
  show Rch l E 5 45 _ _ _ _ (0, [some (vR 28), some (vR 2005), none], [], MW b I L)
  refine rch_run cdK45 (by decide) 3 (t' := (5, [some (vR 28), some (vR 2005), none], [vI 2, vI (I 28 1)], MW b I L)) (ps := []) rfl trivial ?_
  refine rch_br cdK45 (cd := I 28 1 ≠ (2 : Int)) (t1 := (24, [some (vR 28), some (vR 2005), none], [], MW b I L)) (t2 := (8, [some (vR 28), some (vR 2005), none], [], MW b I L)) rfl (fun c5_1 => ?_) (fun c5_1 => ?_)
  · refine rch_run cdK45 (by decide) 1 (t' := (25, [some (vR 28), some (vR 2005), none], [vI 0], MW b I L)) (ps := []) rfl trivial ?_
    refine rch_ret cdK45 (rt := some (vI 0)) rfl (Or.inl rfl) mw_c ?_
    exact ⟨by rw [show rdJ I (strB.getD 5 []) = false from decide_eq_false (fun z => by omega)]; rfl, rfl⟩
  · refine rch_run cdK45 (by decide) 1 (t' := (9, [some (vR 28), some (vR 2005), none], [vR 2005], MW b I L)) (ps := []) rfl trivial ?_
    refine rch_call (h' := 2) (k' := 167) (as := [vR 2005]) (t1 := (12, [some (vR 28), some (vR 2005), none], [], MW b I L)) cdK45 rfl (k_len_5 l E b I L) (by decide) mw_le ?_
    rintro rt9 w9 (⟨rfl, rfl⟩) _ _
    show Rch l E 5 45 _ _ _ _ (12, [some (vR 28), some (vR 2005), none], [vI ((strB.getD 5 []).length : Int)], MW b I L)
    refine rch_run cdK45 (by decide) 5 (t' := (21, [some (vR 28), some (vR 2005), none], [vI ((I 28 4) - (I 28 2)), vI ((strB.getD 5 []).length : Int)], MW b I L)) (ps := [i32 ((I 28 4) - (I 28 2))]) rfl (by simp only [all_, i32, i64]; first | omega | (simp; done) | (simp; omega)) ?_
    refine rch_br cdK45 (cd := ((strB.getD 5 []).length : Int) = (I 28 4) - (I 28 2)) (t1 := (26, [some (vR 28), some (vR 2005), none], [], MW b I L)) (t2 := (24, [some (vR 28), some (vR 2005), none], [], MW b I L)) rfl (fun c21_2 => ?_) (fun c21_2 => ?_)
    · refine rch_run cdK45 (by decide) 2 (t' := (28, [some (vR 28), some (vR 2005), some (vI 0)], [], MW b I L)) (ps := []) rfl trivial ?_
      exact lp_reads_5 l E b I L hT hp (by omega) 20 0 (by omega) (by decide) (fun z hz => by omega) (by decide)
    · refine rch_run cdK45 (by decide) 1 (t' := (25, [some (vR 28), some (vR 2005), none], [vI 0], MW b I L)) (ps := []) rfl trivial ?_
      refine rch_ret cdK45 (rt := some (vI 0)) rfl (Or.inl rfl) mw_c ?_
      exact ⟨by rw [show rdJ I (strB.getD 5 []) = false from decide_eq_false (fun z => by omega)]; rfl, rfl⟩

theorem chR_6 : ∀ j : Nat, j < (strB.getD 6 []).length → 0 ≤ c16 (bAnd ((strB.getD 6 []).getD j 0) 255) ∧ c16 (bAnd ((strB.getD 6 []).getD j 0) 255) ≤ 65535 := by decide

theorem k_ch1_6 (l : Launch) (E : AX) (b : Bool) (I L : Nat → Nat → Int) (j : Int) (hj : 0 ≤ j ∧ j < ((strB.getD 6 []).length : Int)) : Con l E 3 172 [vR 3006, vI j] (MW b I L) 0 0 (fun rt w => rt = some (vI (c16 (bAnd ((strB.getD 6 []).getD j.toNat 0) 255))) ∧ w = MW b I L) := by
  refine con_ok (fun hw9 hs9 => ?_)
  refine con_intro (by decide) (Nat.le_of_ble_eq_true rfl) ?_
  have hc9 := chR_6 j.toNat (by omega)
  show Rch l E 3 172 _ _ _ _ (0, [some (vR 3006), some (vI j)], [], MW b I L)
  refine rch_run cdK172 (by decide) 3 (t' := (3, [some (vR 3006), some (vI j)], [vI ((strB.getD 6 []).length : Int), vI j], MW b I L)) (ps := []) rfl trivial ?_
  refine rch_call (h' := 2) (k' := 171) (as := [vI j, vI ((strB.getD 6 []).length : Int)]) (t1 := (6, [some (vR 3006), some (vI j)], [], MW b I L)) cdK172 rfl (k_ci0 l E b I L j ((strB.getD 6 []).length : Int) hj) (by decide) mw_le ?_
  rintro rt9 w9 (⟨rfl, rfl⟩) _ _
  show Rch l E 3 172 _ _ _ _ (6, [some (vR 3006), some (vI j)], [], MW b I L)
  refine rch_run cdK172 (by decide) 6 (t' := (14, [some (vR 3006), some (vI j)], [vI (c16 (bAnd ((strB.getD 6 []).getD j.toNat 0) 255))], MW b I L)) (ps := [0 ≤ j ∧ j < ((strB.getD 6 []).length : Int)]) rfl (by simp only [all_, i32, i64]; first | omega | (simp; done) | (simp; omega)) ?_
  refine rch_ret cdK172 (rt := some (vI (c16 (bAnd ((strB.getD 6 []).getD j.toNat 0) 255)))) rfl (by show _ ∧ _; omega) mw_c ?_
  exact ⟨rfl, rfl⟩

theorem k_lat_6 (l : Launch) (E : AX) (b : Bool) (I L : Nat → Nat → Int) : Con l E 1 170 [vR 2006] (MW b I L) 0 0 (fun rt w => rt = some (vI 1) ∧ w = MW b I L) := by
  refine con_ok (fun hw9 hs9 => ?_)
  refine con_intro (by decide) (Nat.le_of_ble_eq_true rfl) ?_
  show Rch l E 1 170 _ _ _ _ (0, [some (vR 2006)], [], MW b I L)
  refine rch_run cdK170 (by decide) 1 (t' := (3, [some (vR 2006)], [vI 1], MW b I L)) (ps := []) rfl trivial ?_
  refine rch_br cdK170 (cd := (1 : Int) = 0) (t1 := (17, [some (vR 2006)], [], MW b I L)) (t2 := (6, [some (vR 2006)], [], MW b I L)) rfl (fun c9 => absurd c9 (by decide)) (fun _ => ?_)
  refine rch_run cdK170 (by decide) 2 (t' := (10, [some (vR 2006)], [vI 0], MW b I L)) (ps := []) rfl trivial ?_
  refine rch_br cdK170 (cd := (0 : Int) ≠ 0) (t1 := (17, [some (vR 2006)], [], MW b I L)) (t2 := (13, [some (vR 2006)], [], MW b I L)) rfl (fun c9 => absurd c9 (by decide)) (fun _ => ?_)
  refine rch_run cdK170 (by decide) 2 (t' := (18, [some (vR 2006)], [vI 1], MW b I L)) (ps := []) rfl trivial ?_
  refine rch_ret cdK170 (rt := some (vI 1)) rfl (Or.inr rfl) mw_c ?_
  exact ⟨rfl, rfl⟩

theorem k_cod_6 (l : Launch) (E : AX) (b : Bool) (I L : Nat → Nat → Int) : Con l E 1 169 [vR 2006] (MW b I L) 0 0 (fun rt w => rt = some (vI 0) ∧ w = MW b I L) := by
  refine con_ok (fun hw9 hs9 => ?_)
  refine con_intro (by decide) (Nat.le_of_ble_eq_true rfl) ?_
  show Rch l E 1 169 _ _ _ _ (0, [some (vR 2006)], [], MW b I L)
  refine rch_run cdK169 (by decide) 1 (t' := (3, [some (vR 2006)], [vI 1], MW b I L)) (ps := []) rfl trivial ?_
  refine rch_br cdK169 (cd := (1 : Int) = 0) (t1 := (13, [some (vR 2006)], [], MW b I L)) (t2 := (6, [some (vR 2006)], [], MW b I L)) rfl (fun c9 => absurd c9 (by decide)) (fun _ => ?_)
  refine rch_run cdK169 (by decide) 3 (t' := (14, [some (vR 2006)], [vI 0], MW b I L)) (ps := []) rfl trivial ?_
  refine rch_ret cdK169 (rt := some (vI 0)) rfl (by show _ ∧ _; omega) mw_c ?_
  exact ⟨rfl, rfl⟩

theorem chB_6 : ∀ j : Nat, j < (strB.getD 6 []).length → c16 (bAnd ((strB.getD 6 []).getD j 0) 255) = (strB.getD 6 []).getD j 0 := by decide

theorem k_chr_6 (l : Launch) (E : AX) (b : Bool) (I L : Nat → Nat → Int) (j : Int) (hj : 0 ≤ j ∧ j < ((strB.getD 6 []).length : Int)) : Con l E 4 168 [vR 2006, vI j] (MW b I L) 0 0 (fun rt w => rt = some (vI ((strB.getD 6 []).getD j.toNat 0)) ∧ w = MW b I L) := by
  refine con_ok (fun hw9 hs9 => ?_)
  refine con_intro (by decide) (Nat.le_of_ble_eq_true rfl) ?_
  have hc9 := chR_6 j.toNat (by omega)
  show Rch l E 4 168 _ _ _ _ (0, [some (vR 2006), some (vI j)], [], MW b I L)
  refine rch_run cdK168 (by decide) 1 (t' := (1, [some (vR 2006), some (vI j)], [vR 2006], MW b I L)) (ps := []) rfl trivial ?_
  refine rch_call (h' := 1) (k' := 170) (as := [vR 2006]) (t1 := (4, [some (vR 2006), some (vI j)], [], MW b I L)) cdK168 rfl (k_lat_6 l E b I L) (by decide) mw_le ?_
  rintro rt9 w9 (⟨rfl, rfl⟩) _ _
  show Rch l E 4 168 _ _ _ _ (4, [some (vR 2006), some (vI j)], [vI 1], MW b I L)
  refine rch_br cdK168 (cd := (1 : Int) = 0) (t1 := (16, [some (vR 2006), some (vI j)], [], MW b I L)) (t2 := (7, [some (vR 2006), some (vI j)], [], MW b I L)) rfl (fun c9 => absurd c9 (by decide)) (fun _ => ?_)
  refine rch_run cdK168 (by decide) 3 (t' := (12, [some (vR 2006), some (vI j)], [vI j, vR 3006], MW b I L)) (ps := []) rfl trivial ?_
  refine rch_call (h' := 3) (k' := 172) (as := [vR 3006, vI j]) (t1 := (15, [some (vR 2006), some (vI j)], [], MW b I L)) cdK168 rfl (k_ch1_6 l E b I L j hj) (by decide) mw_le ?_
  rintro rt9 w9 (⟨rfl, rfl⟩) _ _
  show Rch l E 4 168 _ _ _ _ (15, [some (vR 2006), some (vI j)], [vI (c16 (bAnd ((strB.getD 6 []).getD j.toNat 0) 255))], MW b I L)
  refine rch_ret cdK168 (rt := some (vI (c16 (bAnd ((strB.getD 6 []).getD j.toNat 0) 255)))) rfl (by show _ ∧ _; omega) mw_c ?_
  exact ⟨by rw [show c16 (bAnd ((strB.getD 6 []).getD j.toNat 0) 255) = (strB.getD 6 []).getD j.toNat 0 from chB_6 j.toNat (by omega)], rfl⟩

theorem k_len_6 (l : Launch) (E : AX) (b : Bool) (I L : Nat → Nat → Int) : Con l E 2 167 [vR 2006] (MW b I L) 0 0 (fun rt w => rt = some (vI ((strB.getD 6 []).length : Int)) ∧ w = MW b I L) := by
  refine con_ok (fun hw9 hs9 => ?_)
  refine con_intro (by decide) (Nat.le_of_ble_eq_true rfl) ?_
  show Rch l E 2 167 _ _ _ _ (0, [some (vR 2006)], [], MW b I L)
  refine rch_run cdK167 (by decide) 4 (t' := (6, [some (vR 2006)], [vR 2006, vI ((strB.getD 6 []).length : Int)], MW b I L)) (ps := []) rfl trivial ?_
  refine rch_call (h' := 1) (k' := 169) (as := [vR 2006]) (t1 := (9, [some (vR 2006)], [vI ((strB.getD 6 []).length : Int)], MW b I L)) cdK167 rfl (k_cod_6 l E b I L) (by decide) mw_le ?_
  rintro rt9 w9 (⟨rfl, rfl⟩) _ _
  show Rch l E 2 167 _ _ _ _ (9, [some (vR 2006)], [vI 0, vI ((strB.getD 6 []).length : Int)], MW b I L)
  refine rch_run cdK167 (by decide) 1 (t' := (10, [some (vR 2006)], [vI (bShr ((strB.getD 6 []).length : Int) 0)], MW b I L)) (ps := []) rfl trivial ?_
  refine rch_ret cdK167 (rt := some (vI (bShr ((strB.getD 6 []).length : Int) 0))) rfl trivial mw_c ?_
  exact ⟨by rw [show bShr (((strB.getD 6 []).length : Nat) : Int) 0 = (((strB.getD 6 []).length : Nat) : Int) by decide], rfl⟩

theorem lp_reads_6 (l : Launch) (E : AX) (b : Bool) (I L : Nat → Nat → Int) (hT : TpK I) (hp : 0 ≤ I 28 2 ∧ I 28 2 ≤ I 28 4) (hk : I 28 1 = 2 ∧ ((strB.getD 6 []).length : Int) = I 28 4 - I 28 2) : ∀ (n9 : Nat) (j : Int), 0 ≤ j → j ≤ ((strB.getD 6 []).length : Int) → (∀ z : Nat, (z : Int) < j → I 29 ((I 28 2).toNat + z) = (strB.getD 6 []).getD z 0) → ((strB.getD 6 []).length : Int) - j < (n9 : Int) → Rch l E 5 45 (MW b I L) 0 0 (fun rt w => rt = some (vI (b2i (rdJ I (strB.getD 6 [])))) ∧ w = MW b I L) (28, [some (vR 28), some (vR 2006), some (vI j)], [], MW b I L) := by
  intro n9
  induction n9 with
  | zero =>
    intro j  h1 h2 h3 hm
    exfalso; omega
  | succ n9 ih =>
    intro j  h1 h2 h3 hm
    have hT1 := hT.1
    have he9 : ((I 28 2) + j).toNat = (I 28 2).toNat + j.toNat := by omega
    refine rch_run cdK45 (by decide) 2 (t' := (30, [some (vR 28), some (vR 2006), some (vI j)], [vR 2006, vI j], MW b I L)) (ps := []) rfl trivial ?_
    refine rch_call (h' := 2) (k' := 167) (as := [vR 2006]) (t1 := (33, [some (vR 28), some (vR 2006), some (vI j)], [vI j], MW b I L)) cdK45 rfl (k_len_6 l E b I L) (by decide) mw_le ?_
    rintro rt9 w9 (⟨rfl, rfl⟩) _ _
    show Rch l E 5 45 _ _ _ _ (33, [some (vR 28), some (vR 2006), some (vI j)], [vI ((strB.getD 6 []).length : Int), vI j], MW b I L)
    refine rch_br cdK45 (cd := ((strB.getD 6 []).length : Int) ≤ j) (t1 := (63, [some (vR 28), some (vR 2006), some (vI j)], [], MW b I L)) (t2 := (36, [some (vR 28), some (vR 2006), some (vI j)], [], MW b I L)) rfl (fun c33_1 => ?_) (fun c33_1 => ?_)
    · refine rch_run cdK45 (by decide) 1 (t' := (64, [some (vR 28), some (vR 2006), some (vI j)], [vI 1], MW b I L)) (ps := []) rfl trivial ?_
      refine rch_ret cdK45 (rt := some (vI 1)) rfl (Or.inr rfl) mw_c ?_
      exact ⟨by rw [show rdJ I (strB.getD 6 []) = true from decide_eq_true ⟨hk.1, hk.2, fun z hz => h3 z (by omega)⟩]; rfl, rfl⟩
    · refine rch_run cdK45 (by decide) 9 (t' := (49, [some (vR 28), some (vR 2006), some (vI j)], [vI j, vR 2006, vI (I 29 ((I 28 2) + j).toNat)], MW b I L)) (ps := [i32 ((I 28 2) + j), 0 ≤ (I 28 2) + j ∧ (I 28 2) + j < ((500 : Nat) : Int)]) rfl (by simp only [all_, i32, i64]; first | omega | (simp; done) | (simp; omega)) ?_
      refine rch_call (h' := 4) (k' := 168) (as := [vR 2006, vI j]) (t1 := (52, [some (vR 28), some (vR 2006), some (vI j)], [vI (I 29 ((I 28 2) + j).toNat)], MW b I L)) cdK45 rfl (k_chr_6 l E b I L j (by omega)) (by decide) mw_le ?_
      rintro rt9 w9 (⟨rfl, rfl⟩) _ _
      show Rch l E 5 45 _ _ _ _ (52, [some (vR 28), some (vR 2006), some (vI j)], [vI ((strB.getD 6 []).getD j.toNat 0), vI (I 29 ((I 28 2) + j).toNat)], MW b I L)
      refine rch_br cdK45 (cd := I 29 ((I 28 2) + j).toNat = (strB.getD 6 []).getD j.toNat 0) (t1 := (57, [some (vR 28), some (vR 2006), some (vI j)], [], MW b I L)) (t2 := (55, [some (vR 28), some (vR 2006), some (vI j)], [], MW b I L)) rfl (fun c52_2 => ?_) (fun c52_2 => ?_)
      · refine rch_run cdK45 (by decide) 2 (t' := (28, [some (vR 28), some (vR 2006), some (vI (j + 1))], [], MW b I L)) (ps := [i32 (j + 1)]) rfl (by simp only [all_, i32, i64]; first | omega | (simp; done) | (simp; omega)) ?_
        exact ih (j + 1) (by omega) (by omega) (fun z hz => by by_cases e : z = j.toNat; (rw [e, ← he9]; omega); exact h3 z (by omega)) (by omega)
      · refine rch_run cdK45 (by decide) 1 (t' := (56, [some (vR 28), some (vR 2006), some (vI j)], [vI 0], MW b I L)) (ps := []) rfl trivial ?_
        refine rch_ret cdK45 (rt := some (vI 0)) rfl (Or.inl rfl) mw_c ?_
        exact ⟨by rw [show rdJ I (strB.getD 6 []) = false from decide_eq_false (fun z => by have := z.2.2 j.toNat (by omega); rw [← he9] at this; omega)]; rfl, rfl⟩

theorem k_reads_6 (l : Launch) (E : AX) (b : Bool) (I L : Nat → Nat → Int) (hT : TpK I) (hp : 0 ≤ I 28 2 ∧ I 28 2 ≤ I 28 4) : Con l E 5 45 [vR 28, vR 2006] (MW b I L) 0 0 (fun rt w => rt = some (vI (b2i (rdJ I (strB.getD 6 [])))) ∧ w = MW b I L) := by
  refine con_ok (fun hw9 hs9 => ?_)
  refine con_intro (by decide) (Nat.le_of_ble_eq_true rfl) ?_
  have hT1 := hT.1
  show Rch l E 5 45 _ _ _ _ (0, [some (vR 28), some (vR 2006), none], [], MW b I L)
  refine rch_run cdK45 (by decide) 3 (t' := (5, [some (vR 28), some (vR 2006), none], [vI 2, vI (I 28 1)], MW b I L)) (ps := []) rfl trivial ?_
  refine rch_br cdK45 (cd := I 28 1 ≠ (2 : Int)) (t1 := (24, [some (vR 28), some (vR 2006), none], [], MW b I L)) (t2 := (8, [some (vR 28), some (vR 2006), none], [], MW b I L)) rfl (fun c5_1 => ?_) (fun c5_1 => ?_)
  · refine rch_run cdK45 (by decide) 1 (t' := (25, [some (vR 28), some (vR 2006), none], [vI 0], MW b I L)) (ps := []) rfl trivial ?_
    refine rch_ret cdK45 (rt := some (vI 0)) rfl (Or.inl rfl) mw_c ?_
    exact ⟨by rw [show rdJ I (strB.getD 6 []) = false from decide_eq_false (fun z => by omega)]; rfl, rfl⟩
  · refine rch_run cdK45 (by decide) 1 (t' := (9, [some (vR 28), some (vR 2006), none], [vR 2006], MW b I L)) (ps := []) rfl trivial ?_
    refine rch_call (h' := 2) (k' := 167) (as := [vR 2006]) (t1 := (12, [some (vR 28), some (vR 2006), none], [], MW b I L)) cdK45 rfl (k_len_6 l E b I L) (by decide) mw_le ?_
    rintro rt9 w9 (⟨rfl, rfl⟩) _ _
    show Rch l E 5 45 _ _ _ _ (12, [some (vR 28), some (vR 2006), none], [vI ((strB.getD 6 []).length : Int)], MW b I L)
    refine rch_run cdK45 (by decide) 5 (t' := (21, [some (vR 28), some (vR 2006), none], [vI ((I 28 4) - (I 28 2)), vI ((strB.getD 6 []).length : Int)], MW b I L)) (ps := [i32 ((I 28 4) - (I 28 2))]) rfl (by simp only [all_, i32, i64]; first | omega | (simp; done) | (simp; omega)) ?_
    refine rch_br cdK45 (cd := ((strB.getD 6 []).length : Int) = (I 28 4) - (I 28 2)) (t1 := (26, [some (vR 28), some (vR 2006), none], [], MW b I L)) (t2 := (24, [some (vR 28), some (vR 2006), none], [], MW b I L)) rfl (fun c21_2 => ?_) (fun c21_2 => ?_)
    · refine rch_run cdK45 (by decide) 2 (t' := (28, [some (vR 28), some (vR 2006), some (vI 0)], [], MW b I L)) (ps := []) rfl trivial ?_
      exact lp_reads_6 l E b I L hT hp (by omega) 20 0 (by omega) (by decide) (fun z hz => by omega) (by decide)
    · refine rch_run cdK45 (by decide) 1 (t' := (25, [some (vR 28), some (vR 2006), none], [vI 0], MW b I L)) (ps := []) rfl trivial ?_
      refine rch_ret cdK45 (rt := some (vI 0)) rfl (Or.inl rfl) mw_c ?_
      exact ⟨by rw [show rdJ I (strB.getD 6 []) = false from decide_eq_false (fun z => by omega)]; rfl, rfl⟩

theorem chR_7 : ∀ j : Nat, j < (strB.getD 7 []).length → 0 ≤ c16 (bAnd ((strB.getD 7 []).getD j 0) 255) ∧ c16 (bAnd ((strB.getD 7 []).getD j 0) 255) ≤ 65535 := by decide

theorem k_ch1_7 (l : Launch) (E : AX) (b : Bool) (I L : Nat → Nat → Int) (j : Int) (hj : 0 ≤ j ∧ j < ((strB.getD 7 []).length : Int)) : Con l E 3 172 [vR 3007, vI j] (MW b I L) 0 0 (fun rt w => rt = some (vI (c16 (bAnd ((strB.getD 7 []).getD j.toNat 0) 255))) ∧ w = MW b I L) := by
  refine con_ok (fun hw9 hs9 => ?_)
  refine con_intro (by decide) (Nat.le_of_ble_eq_true rfl) ?_
  have hc9 := chR_7 j.toNat (by omega)
  show Rch l E 3 172 _ _ _ _ (0, [some (vR 3007), some (vI j)], [], MW b I L)
  refine rch_run cdK172 (by decide) 3 (t' := (3, [some (vR 3007), some (vI j)], [vI ((strB.getD 7 []).length : Int), vI j], MW b I L)) (ps := []) rfl trivial ?_
  refine rch_call (h' := 2) (k' := 171) (as := [vI j, vI ((strB.getD 7 []).length : Int)]) (t1 := (6, [some (vR 3007), some (vI j)], [], MW b I L)) cdK172 rfl (k_ci0 l E b I L j ((strB.getD 7 []).length : Int) hj) (by decide) mw_le ?_
  rintro rt9 w9 (⟨rfl, rfl⟩) _ _
  show Rch l E 3 172 _ _ _ _ (6, [some (vR 3007), some (vI j)], [], MW b I L)
  refine rch_run cdK172 (by decide) 6 (t' := (14, [some (vR 3007), some (vI j)], [vI (c16 (bAnd ((strB.getD 7 []).getD j.toNat 0) 255))], MW b I L)) (ps := [0 ≤ j ∧ j < ((strB.getD 7 []).length : Int)]) rfl (by simp only [all_, i32, i64]; first | omega | (simp; done) | (simp; omega)) ?_
  refine rch_ret cdK172 (rt := some (vI (c16 (bAnd ((strB.getD 7 []).getD j.toNat 0) 255)))) rfl (by show _ ∧ _; omega) mw_c ?_
  exact ⟨rfl, rfl⟩

theorem k_lat_7 (l : Launch) (E : AX) (b : Bool) (I L : Nat → Nat → Int) : Con l E 1 170 [vR 2007] (MW b I L) 0 0 (fun rt w => rt = some (vI 1) ∧ w = MW b I L) := by
  refine con_ok (fun hw9 hs9 => ?_)
  refine con_intro (by decide) (Nat.le_of_ble_eq_true rfl) ?_
  show Rch l E 1 170 _ _ _ _ (0, [some (vR 2007)], [], MW b I L)
  refine rch_run cdK170 (by decide) 1 (t' := (3, [some (vR 2007)], [vI 1], MW b I L)) (ps := []) rfl trivial ?_
  refine rch_br cdK170 (cd := (1 : Int) = 0) (t1 := (17, [some (vR 2007)], [], MW b I L)) (t2 := (6, [some (vR 2007)], [], MW b I L)) rfl (fun c9 => absurd c9 (by decide)) (fun _ => ?_)
  refine rch_run cdK170 (by decide) 2 (t' := (10, [some (vR 2007)], [vI 0], MW b I L)) (ps := []) rfl trivial ?_
  refine rch_br cdK170 (cd := (0 : Int) ≠ 0) (t1 := (17, [some (vR 2007)], [], MW b I L)) (t2 := (13, [some (vR 2007)], [], MW b I L)) rfl (fun c9 => absurd c9 (by decide)) (fun _ => ?_)
  refine rch_run cdK170 (by decide) 2 (t' := (18, [some (vR 2007)], [vI 1], MW b I L)) (ps := []) rfl trivial ?_
  refine rch_ret cdK170 (rt := some (vI 1)) rfl (Or.inr rfl) mw_c ?_
  exact ⟨rfl, rfl⟩

theorem k_cod_7 (l : Launch) (E : AX) (b : Bool) (I L : Nat → Nat → Int) : Con l E 1 169 [vR 2007] (MW b I L) 0 0 (fun rt w => rt = some (vI 0) ∧ w = MW b I L) := by
  refine con_ok (fun hw9 hs9 => ?_)
  refine con_intro (by decide) (Nat.le_of_ble_eq_true rfl) ?_
  show Rch l E 1 169 _ _ _ _ (0, [some (vR 2007)], [], MW b I L)
  refine rch_run cdK169 (by decide) 1 (t' := (3, [some (vR 2007)], [vI 1], MW b I L)) (ps := []) rfl trivial ?_
  refine rch_br cdK169 (cd := (1 : Int) = 0) (t1 := (13, [some (vR 2007)], [], MW b I L)) (t2 := (6, [some (vR 2007)], [], MW b I L)) rfl (fun c9 => absurd c9 (by decide)) (fun _ => ?_)
  refine rch_run cdK169 (by decide) 3 (t' := (14, [some (vR 2007)], [vI 0], MW b I L)) (ps := []) rfl trivial ?_
  refine rch_ret cdK169 (rt := some (vI 0)) rfl (by show _ ∧ _; omega) mw_c ?_
  exact ⟨rfl, rfl⟩

theorem chB_7 : ∀ j : Nat, j < (strB.getD 7 []).length → c16 (bAnd ((strB.getD 7 []).getD j 0) 255) = (strB.getD 7 []).getD j 0 := by decide

theorem k_chr_7 (l : Launch) (E : AX) (b : Bool) (I L : Nat → Nat → Int) (j : Int) (hj : 0 ≤ j ∧ j < ((strB.getD 7 []).length : Int)) : Con l E 4 168 [vR 2007, vI j] (MW b I L) 0 0 (fun rt w => rt = some (vI ((strB.getD 7 []).getD j.toNat 0)) ∧ w = MW b I L) := by
  refine con_ok (fun hw9 hs9 => ?_)
  refine con_intro (by decide) (Nat.le_of_ble_eq_true rfl) ?_
  have hc9 := chR_7 j.toNat (by omega)
  show Rch l E 4 168 _ _ _ _ (0, [some (vR 2007), some (vI j)], [], MW b I L)
  refine rch_run cdK168 (by decide) 1 (t' := (1, [some (vR 2007), some (vI j)], [vR 2007], MW b I L)) (ps := []) rfl trivial ?_
  refine rch_call (h' := 1) (k' := 170) (as := [vR 2007]) (t1 := (4, [some (vR 2007), some (vI j)], [], MW b I L)) cdK168 rfl (k_lat_7 l E b I L) (by decide) mw_le ?_
  rintro rt9 w9 (⟨rfl, rfl⟩) _ _
  show Rch l E 4 168 _ _ _ _ (4, [some (vR 2007), some (vI j)], [vI 1], MW b I L)
  refine rch_br cdK168 (cd := (1 : Int) = 0) (t1 := (16, [some (vR 2007), some (vI j)], [], MW b I L)) (t2 := (7, [some (vR 2007), some (vI j)], [], MW b I L)) rfl (fun c9 => absurd c9 (by decide)) (fun _ => ?_)
  refine rch_run cdK168 (by decide) 3 (t' := (12, [some (vR 2007), some (vI j)], [vI j, vR 3007], MW b I L)) (ps := []) rfl trivial ?_
  refine rch_call (h' := 3) (k' := 172) (as := [vR 3007, vI j]) (t1 := (15, [some (vR 2007), some (vI j)], [], MW b I L)) cdK168 rfl (k_ch1_7 l E b I L j hj) (by decide) mw_le ?_
  rintro rt9 w9 (⟨rfl, rfl⟩) _ _
  show Rch l E 4 168 _ _ _ _ (15, [some (vR 2007), some (vI j)], [vI (c16 (bAnd ((strB.getD 7 []).getD j.toNat 0) 255))], MW b I L)
  refine rch_ret cdK168 (rt := some (vI (c16 (bAnd ((strB.getD 7 []).getD j.toNat 0) 255)))) rfl (by show _ ∧ _; omega) mw_c ?_
  exact ⟨by rw [show c16 (bAnd ((strB.getD 7 []).getD j.toNat 0) 255) = (strB.getD 7 []).getD j.toNat 0 from chB_7 j.toNat (by omega)], rfl⟩

theorem k_len_7 (l : Launch) (E : AX) (b : Bool) (I L : Nat → Nat → Int) : Con l E 2 167 [vR 2007] (MW b I L) 0 0 (fun rt w => rt = some (vI ((strB.getD 7 []).length : Int)) ∧ w = MW b I L) := by
  refine con_ok (fun hw9 hs9 => ?_)
  refine con_intro (by decide) (Nat.le_of_ble_eq_true rfl) ?_
  show Rch l E 2 167 _ _ _ _ (0, [some (vR 2007)], [], MW b I L)
  refine rch_run cdK167 (by decide) 4 (t' := (6, [some (vR 2007)], [vR 2007, vI ((strB.getD 7 []).length : Int)], MW b I L)) (ps := []) rfl trivial ?_
  refine rch_call (h' := 1) (k' := 169) (as := [vR 2007]) (t1 := (9, [some (vR 2007)], [vI ((strB.getD 7 []).length : Int)], MW b I L)) cdK167 rfl (k_cod_7 l E b I L) (by decide) mw_le ?_
  rintro rt9 w9 (⟨rfl, rfl⟩) _ _
  show Rch l E 2 167 _ _ _ _ (9, [some (vR 2007)], [vI 0, vI ((strB.getD 7 []).length : Int)], MW b I L)
  refine rch_run cdK167 (by decide) 1 (t' := (10, [some (vR 2007)], [vI (bShr ((strB.getD 7 []).length : Int) 0)], MW b I L)) (ps := []) rfl trivial ?_
  refine rch_ret cdK167 (rt := some (vI (bShr ((strB.getD 7 []).length : Int) 0))) rfl trivial mw_c ?_
  exact ⟨by rw [show bShr (((strB.getD 7 []).length : Nat) : Int) 0 = (((strB.getD 7 []).length : Nat) : Int) by decide], rfl⟩

theorem lp_reads_7 (l : Launch) (E : AX) (b : Bool) (I L : Nat → Nat → Int) (hT : TpK I) (hp : 0 ≤ I 28 2 ∧ I 28 2 ≤ I 28 4) (hk : I 28 1 = 2 ∧ ((strB.getD 7 []).length : Int) = I 28 4 - I 28 2) : ∀ (n9 : Nat) (j : Int), 0 ≤ j → j ≤ ((strB.getD 7 []).length : Int) → (∀ z : Nat, (z : Int) < j → I 29 ((I 28 2).toNat + z) = (strB.getD 7 []).getD z 0) → ((strB.getD 7 []).length : Int) - j < (n9 : Int) → Rch l E 5 45 (MW b I L) 0 0 (fun rt w => rt = some (vI (b2i (rdJ I (strB.getD 7 [])))) ∧ w = MW b I L) (28, [some (vR 28), some (vR 2007), some (vI j)], [], MW b I L) := by
  intro n9
  induction n9 with
  | zero =>
    intro j  h1 h2 h3 hm
    exfalso; omega
  | succ n9 ih =>
    intro j  h1 h2 h3 hm
    have hT1 := hT.1
    have he9 : ((I 28 2) + j).toNat = (I 28 2).toNat + j.toNat := by omega
    refine rch_run cdK45 (by decide) 2 (t' := (30, [some (vR 28), some (vR 2007), some (vI j)], [vR 2007, vI j], MW b I L)) (ps := []) rfl trivial ?_
    refine rch_call (h' := 2) (k' := 167) (as := [vR 2007]) (t1 := (33, [some (vR 28), some (vR 2007), some (vI j)], [vI j], MW b I L)) cdK45 rfl (k_len_7 l E b I L) (by decide) mw_le ?_
    rintro rt9 w9 (⟨rfl, rfl⟩) _ _
    show Rch l E 5 45 _ _ _ _ (33, [some (vR 28), some (vR 2007), some (vI j)], [vI ((strB.getD 7 []).length : Int), vI j], MW b I L)
    refine rch_br cdK45 (cd := ((strB.getD 7 []).length : Int) ≤ j) (t1 := (63, [some (vR 28), some (vR 2007), some (vI j)], [], MW b I L)) (t2 := (36, [some (vR 28), some (vR 2007), some (vI j)], [], MW b I L)) rfl (fun c33_1 => ?_) (fun c33_1 => ?_)
    · refine rch_run cdK45 (by decide) 1 (t' := (64, [some (vR 28), some (vR 2007), some (vI j)], [vI 1], MW b I L)) (ps := []) rfl trivial ?_
      refine rch_ret cdK45 (rt := some (vI 1)) rfl (Or.inr rfl) mw_c ?_
      exact ⟨by rw [show rdJ I (strB.getD 7 []) = true from decide_eq_true ⟨hk.1, hk.2, fun z hz => h3 z (by omega)⟩]; rfl, rfl⟩
    · refine rch_run cdK45 (by decide) 9 (t' := (49, [some (vR 28), some (vR 2007), some (vI j)], [vI j, vR 2007, vI (I 29 ((I 28 2) + j).toNat)], MW b I L)) (ps := [i32 ((I 28 2) + j), 0 ≤ (I 28 2) + j ∧ (I 28 2) + j < ((500 : Nat) : Int)]) rfl (by simp only [all_, i32, i64]; first | omega | (simp; done) | (simp; omega)) ?_
      refine rch_call (h' := 4) (k' := 168) (as := [vR 2007, vI j]) (t1 := (52, [some (vR 28), some (vR 2007), some (vI j)], [vI (I 29 ((I 28 2) + j).toNat)], MW b I L)) cdK45 rfl (k_chr_7 l E b I L j (by omega)) (by decide) mw_le ?_
      rintro rt9 w9 (⟨rfl, rfl⟩) _ _
      show Rch l E 5 45 _ _ _ _ (52, [some (vR 28), some (vR 2007), some (vI j)], [vI ((strB.getD 7 []).getD j.toNat 0), vI (I 29 ((I 28 2) + j).toNat)], MW b I L)
      refine rch_br cdK45 (cd := I 29 ((I 28 2) + j).toNat = (strB.getD 7 []).getD j.toNat 0) (t1 := (57, [some (vR 28), some (vR 2007), some (vI j)], [], MW b I L)) (t2 := (55, [some (vR 28), some (vR 2007), some (vI j)], [], MW b I L)) rfl (fun c52_2 => ?_) (fun c52_2 => ?_)
      · refine rch_run cdK45 (by decide) 2 (t' := (28, [some (vR 28), some (vR 2007), some (vI (j + 1))], [], MW b I L)) (ps := [i32 (j + 1)]) rfl (by simp only [all_, i32, i64]; first | omega | (simp; done) | (simp; omega)) ?_
        exact ih (j + 1) (by omega) (by omega) (fun z hz => by by_cases e : z = j.toNat; (rw [e, ← he9]; omega); exact h3 z (by omega)) (by omega)
      · refine rch_run cdK45 (by decide) 1 (t' := (56, [some (vR 28), some (vR 2007), some (vI j)], [vI 0], MW b I L)) (ps := []) rfl trivial ?_
        refine rch_ret cdK45 (rt := some (vI 0)) rfl (Or.inl rfl) mw_c ?_
        exact ⟨by rw [show rdJ I (strB.getD 7 []) = false from decide_eq_false (fun z => by have := z.2.2 j.toNat (by omega); rw [← he9] at this; omega)]; rfl, rfl⟩

theorem k_reads_7 (l : Launch) (E : AX) (b : Bool) (I L : Nat → Nat → Int) (hT : TpK I) (hp : 0 ≤ I 28 2 ∧ I 28 2 ≤ I 28 4) : Con l E 5 45 [vR 28, vR 2007] (MW b I L) 0 0 (fun rt w => rt = some (vI (b2i (rdJ I (strB.getD 7 [])))) ∧ w = MW b I L) := by
  refine con_ok (fun hw9 hs9 => ?_)
  refine con_intro (by decide) (Nat.le_of_ble_eq_true rfl) ?_
  have hT1 := hT.1
  show Rch l E 5 45 _ _ _ _ (0, [some (vR 28), some (vR 2007), none], [], MW b I L)
  refine rch_run cdK45 (by decide) 3 (t' := (5, [some (vR 28), some (vR 2007), none], [vI 2, vI (I 28 1)], MW b I L)) (ps := []) rfl trivial ?_
  refine rch_br cdK45 (cd := I 28 1 ≠ (2 : Int)) (t1 := (24, [some (vR 28), some (vR 2007), none], [], MW b I L)) (t2 := (8, [some (vR 28), some (vR 2007), none], [], MW b I L)) rfl (fun c5_1 => ?_) (fun c5_1 => ?_)
  · refine rch_run cdK45 (by decide) 1 (t' := (25, [some (vR 28), some (vR 2007), none], [vI 0], MW b I L)) (ps := []) rfl trivial ?_
    refine rch_ret cdK45 (rt := some (vI 0)) rfl (Or.inl rfl) mw_c ?_
    exact ⟨by rw [show rdJ I (strB.getD 7 []) = false from decide_eq_false (fun z => by omega)]; rfl, rfl⟩
  · refine rch_run cdK45 (by decide) 1 (t' := (9, [some (vR 28), some (vR 2007), none], [vR 2007], MW b I L)) (ps := []) rfl trivial ?_
    refine rch_call (h' := 2) (k' := 167) (as := [vR 2007]) (t1 := (12, [some (vR 28), some (vR 2007), none], [], MW b I L)) cdK45 rfl (k_len_7 l E b I L) (by decide) mw_le ?_
    rintro rt9 w9 (⟨rfl, rfl⟩) _ _
    show Rch l E 5 45 _ _ _ _ (12, [some (vR 28), some (vR 2007), none], [vI ((strB.getD 7 []).length : Int)], MW b I L)
    refine rch_run cdK45 (by decide) 5 (t' := (21, [some (vR 28), some (vR 2007), none], [vI ((I 28 4) - (I 28 2)), vI ((strB.getD 7 []).length : Int)], MW b I L)) (ps := [i32 ((I 28 4) - (I 28 2))]) rfl (by simp only [all_, i32, i64]; first | omega | (simp; done) | (simp; omega)) ?_
    refine rch_br cdK45 (cd := ((strB.getD 7 []).length : Int) = (I 28 4) - (I 28 2)) (t1 := (26, [some (vR 28), some (vR 2007), none], [], MW b I L)) (t2 := (24, [some (vR 28), some (vR 2007), none], [], MW b I L)) rfl (fun c21_2 => ?_) (fun c21_2 => ?_)
    · refine rch_run cdK45 (by decide) 2 (t' := (28, [some (vR 28), some (vR 2007), some (vI 0)], [], MW b I L)) (ps := []) rfl trivial ?_
      exact lp_reads_7 l E b I L hT hp (by omega) 20 0 (by omega) (by decide) (fun z hz => by omega) (by decide)
    · refine rch_run cdK45 (by decide) 1 (t' := (25, [some (vR 28), some (vR 2007), none], [vI 0], MW b I L)) (ps := []) rfl trivial ?_
      refine rch_ret cdK45 (rt := some (vI 0)) rfl (Or.inl rfl) mw_c ?_
      exact ⟨by rw [show rdJ I (strB.getD 7 []) = false from decide_eq_false (fun z => by omega)]; rfl, rfl⟩

theorem chR_8 : ∀ j : Nat, j < (strB.getD 8 []).length → 0 ≤ c16 (bAnd ((strB.getD 8 []).getD j 0) 255) ∧ c16 (bAnd ((strB.getD 8 []).getD j 0) 255) ≤ 65535 := by decide

theorem k_ch1_8 (l : Launch) (E : AX) (b : Bool) (I L : Nat → Nat → Int) (j : Int) (hj : 0 ≤ j ∧ j < ((strB.getD 8 []).length : Int)) : Con l E 3 172 [vR 3008, vI j] (MW b I L) 0 0 (fun rt w => rt = some (vI (c16 (bAnd ((strB.getD 8 []).getD j.toNat 0) 255))) ∧ w = MW b I L) := by
  refine con_ok (fun hw9 hs9 => ?_)
  refine con_intro (by decide) (Nat.le_of_ble_eq_true rfl) ?_
  have hc9 := chR_8 j.toNat (by omega)
  show Rch l E 3 172 _ _ _ _ (0, [some (vR 3008), some (vI j)], [], MW b I L)
  refine rch_run cdK172 (by decide) 3 (t' := (3, [some (vR 3008), some (vI j)], [vI ((strB.getD 8 []).length : Int), vI j], MW b I L)) (ps := []) rfl trivial ?_
  refine rch_call (h' := 2) (k' := 171) (as := [vI j, vI ((strB.getD 8 []).length : Int)]) (t1 := (6, [some (vR 3008), some (vI j)], [], MW b I L)) cdK172 rfl (k_ci0 l E b I L j ((strB.getD 8 []).length : Int) hj) (by decide) mw_le ?_
  rintro rt9 w9 (⟨rfl, rfl⟩) _ _
  show Rch l E 3 172 _ _ _ _ (6, [some (vR 3008), some (vI j)], [], MW b I L)
  refine rch_run cdK172 (by decide) 6 (t' := (14, [some (vR 3008), some (vI j)], [vI (c16 (bAnd ((strB.getD 8 []).getD j.toNat 0) 255))], MW b I L)) (ps := [0 ≤ j ∧ j < ((strB.getD 8 []).length : Int)]) rfl (by simp only [all_, i32, i64]; first | omega | (simp; done) | (simp; omega)) ?_
  refine rch_ret cdK172 (rt := some (vI (c16 (bAnd ((strB.getD 8 []).getD j.toNat 0) 255)))) rfl (by show _ ∧ _; omega) mw_c ?_
  exact ⟨rfl, rfl⟩

theorem k_lat_8 (l : Launch) (E : AX) (b : Bool) (I L : Nat → Nat → Int) : Con l E 1 170 [vR 2008] (MW b I L) 0 0 (fun rt w => rt = some (vI 1) ∧ w = MW b I L) := by
  refine con_ok (fun hw9 hs9 => ?_)
  refine con_intro (by decide) (Nat.le_of_ble_eq_true rfl) ?_
  show Rch l E 1 170 _ _ _ _ (0, [some (vR 2008)], [], MW b I L)
  refine rch_run cdK170 (by decide) 1 (t' := (3, [some (vR 2008)], [vI 1], MW b I L)) (ps := []) rfl trivial ?_
  refine rch_br cdK170 (cd := (1 : Int) = 0) (t1 := (17, [some (vR 2008)], [], MW b I L)) (t2 := (6, [some (vR 2008)], [], MW b I L)) rfl (fun c9 => absurd c9 (by decide)) (fun _ => ?_)
  refine rch_run cdK170 (by decide) 2 (t' := (10, [some (vR 2008)], [vI 0], MW b I L)) (ps := []) rfl trivial ?_
  refine rch_br cdK170 (cd := (0 : Int) ≠ 0) (t1 := (17, [some (vR 2008)], [], MW b I L)) (t2 := (13, [some (vR 2008)], [], MW b I L)) rfl (fun c9 => absurd c9 (by decide)) (fun _ => ?_)
  refine rch_run cdK170 (by decide) 2 (t' := (18, [some (vR 2008)], [vI 1], MW b I L)) (ps := []) rfl trivial ?_
  refine rch_ret cdK170 (rt := some (vI 1)) rfl (Or.inr rfl) mw_c ?_
  exact ⟨rfl, rfl⟩

theorem k_cod_8 (l : Launch) (E : AX) (b : Bool) (I L : Nat → Nat → Int) : Con l E 1 169 [vR 2008] (MW b I L) 0 0 (fun rt w => rt = some (vI 0) ∧ w = MW b I L) := by
  refine con_ok (fun hw9 hs9 => ?_)
  refine con_intro (by decide) (Nat.le_of_ble_eq_true rfl) ?_
  show Rch l E 1 169 _ _ _ _ (0, [some (vR 2008)], [], MW b I L)
  refine rch_run cdK169 (by decide) 1 (t' := (3, [some (vR 2008)], [vI 1], MW b I L)) (ps := []) rfl trivial ?_
  refine rch_br cdK169 (cd := (1 : Int) = 0) (t1 := (13, [some (vR 2008)], [], MW b I L)) (t2 := (6, [some (vR 2008)], [], MW b I L)) rfl (fun c9 => absurd c9 (by decide)) (fun _ => ?_)
  refine rch_run cdK169 (by decide) 3 (t' := (14, [some (vR 2008)], [vI 0], MW b I L)) (ps := []) rfl trivial ?_
  refine rch_ret cdK169 (rt := some (vI 0)) rfl (by show _ ∧ _; omega) mw_c ?_
  exact ⟨rfl, rfl⟩

theorem chB_8 : ∀ j : Nat, j < (strB.getD 8 []).length → c16 (bAnd ((strB.getD 8 []).getD j 0) 255) = (strB.getD 8 []).getD j 0 := by decide

theorem k_chr_8 (l : Launch) (E : AX) (b : Bool) (I L : Nat → Nat → Int) (j : Int) (hj : 0 ≤ j ∧ j < ((strB.getD 8 []).length : Int)) : Con l E 4 168 [vR 2008, vI j] (MW b I L) 0 0 (fun rt w => rt = some (vI ((strB.getD 8 []).getD j.toNat 0)) ∧ w = MW b I L) := by
  refine con_ok (fun hw9 hs9 => ?_)
  refine con_intro (by decide) (Nat.le_of_ble_eq_true rfl) ?_
  have hc9 := chR_8 j.toNat (by omega)
  show Rch l E 4 168 _ _ _ _ (0, [some (vR 2008), some (vI j)], [], MW b I L)
  refine rch_run cdK168 (by decide) 1 (t' := (1, [some (vR 2008), some (vI j)], [vR 2008], MW b I L)) (ps := []) rfl trivial ?_
  refine rch_call (h' := 1) (k' := 170) (as := [vR 2008]) (t1 := (4, [some (vR 2008), some (vI j)], [], MW b I L)) cdK168 rfl (k_lat_8 l E b I L) (by decide) mw_le ?_
  rintro rt9 w9 (⟨rfl, rfl⟩) _ _
  show Rch l E 4 168 _ _ _ _ (4, [some (vR 2008), some (vI j)], [vI 1], MW b I L)
  refine rch_br cdK168 (cd := (1 : Int) = 0) (t1 := (16, [some (vR 2008), some (vI j)], [], MW b I L)) (t2 := (7, [some (vR 2008), some (vI j)], [], MW b I L)) rfl (fun c9 => absurd c9 (by decide)) (fun _ => ?_)
  refine rch_run cdK168 (by decide) 3 (t' := (12, [some (vR 2008), some (vI j)], [vI j, vR 3008], MW b I L)) (ps := []) rfl trivial ?_
  refine rch_call (h' := 3) (k' := 172) (as := [vR 3008, vI j]) (t1 := (15, [some (vR 2008), some (vI j)], [], MW b I L)) cdK168 rfl (k_ch1_8 l E b I L j hj) (by decide) mw_le ?_
  rintro rt9 w9 (⟨rfl, rfl⟩) _ _
  show Rch l E 4 168 _ _ _ _ (15, [some (vR 2008), some (vI j)], [vI (c16 (bAnd ((strB.getD 8 []).getD j.toNat 0) 255))], MW b I L)
  refine rch_ret cdK168 (rt := some (vI (c16 (bAnd ((strB.getD 8 []).getD j.toNat 0) 255)))) rfl (by show _ ∧ _; omega) mw_c ?_
  exact ⟨by rw [show c16 (bAnd ((strB.getD 8 []).getD j.toNat 0) 255) = (strB.getD 8 []).getD j.toNat 0 from chB_8 j.toNat (by omega)], rfl⟩

theorem k_len_8 (l : Launch) (E : AX) (b : Bool) (I L : Nat → Nat → Int) : Con l E 2 167 [vR 2008] (MW b I L) 0 0 (fun rt w => rt = some (vI ((strB.getD 8 []).length : Int)) ∧ w = MW b I L) := by
  refine con_ok (fun hw9 hs9 => ?_)
  refine con_intro (by decide) (Nat.le_of_ble_eq_true rfl) ?_
  show Rch l E 2 167 _ _ _ _ (0, [some (vR 2008)], [], MW b I L)
  refine rch_run cdK167 (by decide) 4 (t' := (6, [some (vR 2008)], [vR 2008, vI ((strB.getD 8 []).length : Int)], MW b I L)) (ps := []) rfl trivial ?_
  refine rch_call (h' := 1) (k' := 169) (as := [vR 2008]) (t1 := (9, [some (vR 2008)], [vI ((strB.getD 8 []).length : Int)], MW b I L)) cdK167 rfl (k_cod_8 l E b I L) (by decide) mw_le ?_
  rintro rt9 w9 (⟨rfl, rfl⟩) _ _
  show Rch l E 2 167 _ _ _ _ (9, [some (vR 2008)], [vI 0, vI ((strB.getD 8 []).length : Int)], MW b I L)
  refine rch_run cdK167 (by decide) 1 (t' := (10, [some (vR 2008)], [vI (bShr ((strB.getD 8 []).length : Int) 0)], MW b I L)) (ps := []) rfl trivial ?_
  refine rch_ret cdK167 (rt := some (vI (bShr ((strB.getD 8 []).length : Int) 0))) rfl trivial mw_c ?_
  exact ⟨by rw [show bShr (((strB.getD 8 []).length : Nat) : Int) 0 = (((strB.getD 8 []).length : Nat) : Int) by decide], rfl⟩

theorem lp_reads_8 (l : Launch) (E : AX) (b : Bool) (I L : Nat → Nat → Int) (hT : TpK I) (hp : 0 ≤ I 28 2 ∧ I 28 2 ≤ I 28 4) (hk : I 28 1 = 2 ∧ ((strB.getD 8 []).length : Int) = I 28 4 - I 28 2) : ∀ (n9 : Nat) (j : Int), 0 ≤ j → j ≤ ((strB.getD 8 []).length : Int) → (∀ z : Nat, (z : Int) < j → I 29 ((I 28 2).toNat + z) = (strB.getD 8 []).getD z 0) → ((strB.getD 8 []).length : Int) - j < (n9 : Int) → Rch l E 5 45 (MW b I L) 0 0 (fun rt w => rt = some (vI (b2i (rdJ I (strB.getD 8 [])))) ∧ w = MW b I L) (28, [some (vR 28), some (vR 2008), some (vI j)], [], MW b I L) := by
  intro n9
  induction n9 with
  | zero =>
    intro j  h1 h2 h3 hm
    exfalso; omega
  | succ n9 ih =>
    intro j  h1 h2 h3 hm
    have hT1 := hT.1
    have he9 : ((I 28 2) + j).toNat = (I 28 2).toNat + j.toNat := by omega
    refine rch_run cdK45 (by decide) 2 (t' := (30, [some (vR 28), some (vR 2008), some (vI j)], [vR 2008, vI j], MW b I L)) (ps := []) rfl trivial ?_
    refine rch_call (h' := 2) (k' := 167) (as := [vR 2008]) (t1 := (33, [some (vR 28), some (vR 2008), some (vI j)], [vI j], MW b I L)) cdK45 rfl (k_len_8 l E b I L) (by decide) mw_le ?_
    rintro rt9 w9 (⟨rfl, rfl⟩) _ _
    show Rch l E 5 45 _ _ _ _ (33, [some (vR 28), some (vR 2008), some (vI j)], [vI ((strB.getD 8 []).length : Int), vI j], MW b I L)
    refine rch_br cdK45 (cd := ((strB.getD 8 []).length : Int) ≤ j) (t1 := (63, [some (vR 28), some (vR 2008), some (vI j)], [], MW b I L)) (t2 := (36, [some (vR 28), some (vR 2008), some (vI j)], [], MW b I L)) rfl (fun c33_1 => ?_) (fun c33_1 => ?_)
    · refine rch_run cdK45 (by decide) 1 (t' := (64, [some (vR 28), some (vR 2008), some (vI j)], [vI 1], MW b I L)) (ps := []) rfl trivial ?_
      refine rch_ret cdK45 (rt := some (vI 1)) rfl (Or.inr rfl) mw_c ?_
      exact ⟨by rw [show rdJ I (strB.getD 8 []) = true from decide_eq_true ⟨hk.1, hk.2, fun z hz => h3 z (by omega)⟩]; rfl, rfl⟩
    · refine rch_run cdK45 (by decide) 9 (t' := (49, [some (vR 28), some (vR 2008), some (vI j)], [vI j, vR 2008, vI (I 29 ((I 28 2) + j).toNat)], MW b I L)) (ps := [i32 ((I 28 2) + j), 0 ≤ (I 28 2) + j ∧ (I 28 2) + j < ((500 : Nat) : Int)]) rfl (by simp only [all_, i32, i64]; first | omega | (simp; done) | (simp; omega)) ?_
      refine rch_call (h' := 4) (k' := 168) (as := [vR 2008, vI j]) (t1 := (52, [some (vR 28), some (vR 2008), some (vI j)], [vI (I 29 ((I 28 2) + j).toNat)], MW b I L)) cdK45 rfl (k_chr_8 l E b I L j (by omega)) (by decide) mw_le ?_
      rintro rt9 w9 (⟨rfl, rfl⟩) _ _
      show Rch l E 5 45 _ _ _ _ (52, [some (vR 28), some (vR 2008), some (vI j)], [vI ((strB.getD 8 []).getD j.toNat 0), vI (I 29 ((I 28 2) + j).toNat)], MW b I L)
      refine rch_br cdK45 (cd := I 29 ((I 28 2) + j).toNat = (strB.getD 8 []).getD j.toNat 0) (t1 := (57, [some (vR 28), some (vR 2008), some (vI j)], [], MW b I L)) (t2 := (55, [some (vR 28), some (vR 2008), some (vI j)], [], MW b I L)) rfl (fun c52_2 => ?_) (fun c52_2 => ?_)
      · refine rch_run cdK45 (by decide) 2 (t' := (28, [some (vR 28), some (vR 2008), some (vI (j + 1))], [], MW b I L)) (ps := [i32 (j + 1)]) rfl (by simp only [all_, i32, i64]; first | omega | (simp; done) | (simp; omega)) ?_
        exact ih (j + 1) (by omega) (by omega) (fun z hz => by by_cases e : z = j.toNat; (rw [e, ← he9]; omega); exact h3 z (by omega)) (by omega)
      · refine rch_run cdK45 (by decide) 1 (t' := (56, [some (vR 28), some (vR 2008), some (vI j)], [vI 0], MW b I L)) (ps := []) rfl trivial ?_
        refine rch_ret cdK45 (rt := some (vI 0)) rfl (Or.inl rfl) mw_c ?_
        exact ⟨by rw [show rdJ I (strB.getD 8 []) = false from decide_eq_false (fun z => by have := z.2.2 j.toNat (by omega); rw [← he9] at this; omega)]; rfl, rfl⟩

theorem k_reads_8 (l : Launch) (E : AX) (b : Bool) (I L : Nat → Nat → Int) (hT : TpK I) (hp : 0 ≤ I 28 2 ∧ I 28 2 ≤ I 28 4) : Con l E 5 45 [vR 28, vR 2008] (MW b I L) 0 0 (fun rt w => rt = some (vI (b2i (rdJ I (strB.getD 8 [])))) ∧ w = MW b I L) := by
  refine con_ok (fun hw9 hs9 => ?_)
  refine con_intro (by decide) (Nat.le_of_ble_eq_true rfl) ?_
  have hT1 := hT.1
  show Rch l E 5 45 _ _ _ _ (0, [some (vR 28), some (vR 2008), none], [], MW b I L)
  refine rch_run cdK45 (by decide) 3 (t' := (5, [some (vR 28), some (vR 2008), none], [vI 2, vI (I 28 1)], MW b I L)) (ps := []) rfl trivial ?_
  refine rch_br cdK45 (cd := I 28 1 ≠ (2 : Int)) (t1 := (24, [some (vR 28), some (vR 2008), none], [], MW b I L)) (t2 := (8, [some (vR 28), some (vR 2008), none], [], MW b I L)) rfl (fun c5_1 => ?_) (fun c5_1 => ?_)
  · refine rch_run cdK45 (by decide) 1 (t' := (25, [some (vR 28), some (vR 2008), none], [vI 0], MW b I L)) (ps := []) rfl trivial ?_
    refine rch_ret cdK45 (rt := some (vI 0)) rfl (Or.inl rfl) mw_c ?_
    exact ⟨by rw [show rdJ I (strB.getD 8 []) = false from decide_eq_false (fun z => by omega)]; rfl, rfl⟩
  · refine rch_run cdK45 (by decide) 1 (t' := (9, [some (vR 28), some (vR 2008), none], [vR 2008], MW b I L)) (ps := []) rfl trivial ?_
    refine rch_call (h' := 2) (k' := 167) (as := [vR 2008]) (t1 := (12, [some (vR 28), some (vR 2008), none], [], MW b I L)) cdK45 rfl (k_len_8 l E b I L) (by decide) mw_le ?_
    rintro rt9 w9 (⟨rfl, rfl⟩) _ _
    show Rch l E 5 45 _ _ _ _ (12, [some (vR 28), some (vR 2008), none], [vI ((strB.getD 8 []).length : Int)], MW b I L)
    refine rch_run cdK45 (by decide) 5 (t' := (21, [some (vR 28), some (vR 2008), none], [vI ((I 28 4) - (I 28 2)), vI ((strB.getD 8 []).length : Int)], MW b I L)) (ps := [i32 ((I 28 4) - (I 28 2))]) rfl (by simp only [all_, i32, i64]; first | omega | (simp; done) | (simp; omega)) ?_
    refine rch_br cdK45 (cd := ((strB.getD 8 []).length : Int) = (I 28 4) - (I 28 2)) (t1 := (26, [some (vR 28), some (vR 2008), none], [], MW b I L)) (t2 := (24, [some (vR 28), some (vR 2008), none], [], MW b I L)) rfl (fun c21_2 => ?_) (fun c21_2 => ?_)
    · refine rch_run cdK45 (by decide) 2 (t' := (28, [some (vR 28), some (vR 2008), some (vI 0)], [], MW b I L)) (ps := []) rfl trivial ?_
      exact lp_reads_8 l E b I L hT hp (by omega) 20 0 (by omega) (by decide) (fun z hz => by omega) (by decide)
    · refine rch_run cdK45 (by decide) 1 (t' := (25, [some (vR 28), some (vR 2008), none], [vI 0], MW b I L)) (ps := []) rfl trivial ?_
      refine rch_ret cdK45 (rt := some (vI 0)) rfl (Or.inl rfl) mw_c ?_
      exact ⟨by rw [show rdJ I (strB.getD 8 []) = false from decide_eq_false (fun z => by omega)]; rfl, rfl⟩

theorem chR_9 : ∀ j : Nat, j < (strB.getD 9 []).length → 0 ≤ c16 (bAnd ((strB.getD 9 []).getD j 0) 255) ∧ c16 (bAnd ((strB.getD 9 []).getD j 0) 255) ≤ 65535 := by decide

theorem k_ch1_9 (l : Launch) (E : AX) (b : Bool) (I L : Nat → Nat → Int) (j : Int) (hj : 0 ≤ j ∧ j < ((strB.getD 9 []).length : Int)) : Con l E 3 172 [vR 3009, vI j] (MW b I L) 0 0 (fun rt w => rt = some (vI (c16 (bAnd ((strB.getD 9 []).getD j.toNat 0) 255))) ∧ w = MW b I L) := by
  refine con_ok (fun hw9 hs9 => ?_)
  refine con_intro (by decide) (Nat.le_of_ble_eq_true rfl) ?_
  have hc9 := chR_9 j.toNat (by omega)
  show Rch l E 3 172 _ _ _ _ (0, [some (vR 3009), some (vI j)], [], MW b I L)
  refine rch_run cdK172 (by decide) 3 (t' := (3, [some (vR 3009), some (vI j)], [vI ((strB.getD 9 []).length : Int), vI j], MW b I L)) (ps := []) rfl trivial ?_
  refine rch_call (h' := 2) (k' := 171) (as := [vI j, vI ((strB.getD 9 []).length : Int)]) (t1 := (6, [some (vR 3009), some (vI j)], [], MW b I L)) cdK172 rfl (k_ci0 l E b I L j ((strB.getD 9 []).length : Int) hj) (by decide) mw_le ?_
  rintro rt9 w9 (⟨rfl, rfl⟩) _ _
  show Rch l E 3 172 _ _ _ _ (6, [some (vR 3009), some (vI j)], [], MW b I L)
  refine rch_run cdK172 (by decide) 6 (t' := (14, [some (vR 3009), some (vI j)], [vI (c16 (bAnd ((strB.getD 9 []).getD j.toNat 0) 255))], MW b I L)) (ps := [0 ≤ j ∧ j < ((strB.getD 9 []).length : Int)]) rfl (by simp only [all_, i32, i64]; first | omega | (simp; done) | (simp; omega)) ?_
  refine rch_ret cdK172 (rt := some (vI (c16 (bAnd ((strB.getD 9 []).getD j.toNat 0) 255)))) rfl (by show _ ∧ _; omega) mw_c ?_
  exact ⟨rfl, rfl⟩

theorem k_lat_9 (l : Launch) (E : AX) (b : Bool) (I L : Nat → Nat → Int) : Con l E 1 170 [vR 2009] (MW b I L) 0 0 (fun rt w => rt = some (vI 1) ∧ w = MW b I L) := by
  refine con_ok (fun hw9 hs9 => ?_)
  refine con_intro (by decide) (Nat.le_of_ble_eq_true rfl) ?_
  show Rch l E 1 170 _ _ _ _ (0, [some (vR 2009)], [], MW b I L)
  refine rch_run cdK170 (by decide) 1 (t' := (3, [some (vR 2009)], [vI 1], MW b I L)) (ps := []) rfl trivial ?_
  refine rch_br cdK170 (cd := (1 : Int) = 0) (t1 := (17, [some (vR 2009)], [], MW b I L)) (t2 := (6, [some (vR 2009)], [], MW b I L)) rfl (fun c9 => absurd c9 (by decide)) (fun _ => ?_)
  refine rch_run cdK170 (by decide) 2 (t' := (10, [some (vR 2009)], [vI 0], MW b I L)) (ps := []) rfl trivial ?_
  refine rch_br cdK170 (cd := (0 : Int) ≠ 0) (t1 := (17, [some (vR 2009)], [], MW b I L)) (t2 := (13, [some (vR 2009)], [], MW b I L)) rfl (fun c9 => absurd c9 (by decide)) (fun _ => ?_)
  refine rch_run cdK170 (by decide) 2 (t' := (18, [some (vR 2009)], [vI 1], MW b I L)) (ps := []) rfl trivial ?_
  refine rch_ret cdK170 (rt := some (vI 1)) rfl (Or.inr rfl) mw_c ?_
  exact ⟨rfl, rfl⟩

theorem k_cod_9 (l : Launch) (E : AX) (b : Bool) (I L : Nat → Nat → Int) : Con l E 1 169 [vR 2009] (MW b I L) 0 0 (fun rt w => rt = some (vI 0) ∧ w = MW b I L) := by
  refine con_ok (fun hw9 hs9 => ?_)
  refine con_intro (by decide) (Nat.le_of_ble_eq_true rfl) ?_
  show Rch l E 1 169 _ _ _ _ (0, [some (vR 2009)], [], MW b I L)
  refine rch_run cdK169 (by decide) 1 (t' := (3, [some (vR 2009)], [vI 1], MW b I L)) (ps := []) rfl trivial ?_
  refine rch_br cdK169 (cd := (1 : Int) = 0) (t1 := (13, [some (vR 2009)], [], MW b I L)) (t2 := (6, [some (vR 2009)], [], MW b I L)) rfl (fun c9 => absurd c9 (by decide)) (fun _ => ?_)
  refine rch_run cdK169 (by decide) 3 (t' := (14, [some (vR 2009)], [vI 0], MW b I L)) (ps := []) rfl trivial ?_
  refine rch_ret cdK169 (rt := some (vI 0)) rfl (by show _ ∧ _; omega) mw_c ?_
  exact ⟨rfl, rfl⟩

theorem chB_9 : ∀ j : Nat, j < (strB.getD 9 []).length → c16 (bAnd ((strB.getD 9 []).getD j 0) 255) = (strB.getD 9 []).getD j 0 := by decide

theorem k_chr_9 (l : Launch) (E : AX) (b : Bool) (I L : Nat → Nat → Int) (j : Int) (hj : 0 ≤ j ∧ j < ((strB.getD 9 []).length : Int)) : Con l E 4 168 [vR 2009, vI j] (MW b I L) 0 0 (fun rt w => rt = some (vI ((strB.getD 9 []).getD j.toNat 0)) ∧ w = MW b I L) := by
  refine con_ok (fun hw9 hs9 => ?_)
  refine con_intro (by decide) (Nat.le_of_ble_eq_true rfl) ?_
  have hc9 := chR_9 j.toNat (by omega)
  show Rch l E 4 168 _ _ _ _ (0, [some (vR 2009), some (vI j)], [], MW b I L)
  refine rch_run cdK168 (by decide) 1 (t' := (1, [some (vR 2009), some (vI j)], [vR 2009], MW b I L)) (ps := []) rfl trivial ?_
  refine rch_call (h' := 1) (k' := 170) (as := [vR 2009]) (t1 := (4, [some (vR 2009), some (vI j)], [], MW b I L)) cdK168 rfl (k_lat_9 l E b I L) (by decide) mw_le ?_
  rintro rt9 w9 (⟨rfl, rfl⟩) _ _
  show Rch l E 4 168 _ _ _ _ (4, [some (vR 2009), some (vI j)], [vI 1], MW b I L)
  refine rch_br cdK168 (cd := (1 : Int) = 0) (t1 := (16, [some (vR 2009), some (vI j)], [], MW b I L)) (t2 := (7, [some (vR 2009), some (vI j)], [], MW b I L)) rfl (fun c9 => absurd c9 (by decide)) (fun _ => ?_)
  refine rch_run cdK168 (by decide) 3 (t' := (12, [some (vR 2009), some (vI j)], [vI j, vR 3009], MW b I L)) (ps := []) rfl trivial ?_
  refine rch_call (h' := 3) (k' := 172) (as := [vR 3009, vI j]) (t1 := (15, [some (vR 2009), some (vI j)], [], MW b I L)) cdK168 rfl (k_ch1_9 l E b I L j hj) (by decide) mw_le ?_
  rintro rt9 w9 (⟨rfl, rfl⟩) _ _
  show Rch l E 4 168 _ _ _ _ (15, [some (vR 2009), some (vI j)], [vI (c16 (bAnd ((strB.getD 9 []).getD j.toNat 0) 255))], MW b I L)
  refine rch_ret cdK168 (rt := some (vI (c16 (bAnd ((strB.getD 9 []).getD j.toNat 0) 255)))) rfl (by show _ ∧ _; omega) mw_c ?_
  exact ⟨by rw [show c16 (bAnd ((strB.getD 9 []).getD j.toNat 0) 255) = (strB.getD 9 []).getD j.toNat 0 from chB_9 j.toNat (by omega)], rfl⟩

theorem k_len_9 (l : Launch) (E : AX) (b : Bool) (I L : Nat → Nat → Int) : Con l E 2 167 [vR 2009] (MW b I L) 0 0 (fun rt w => rt = some (vI ((strB.getD 9 []).length : Int)) ∧ w = MW b I L) := by
  refine con_ok (fun hw9 hs9 => ?_)
  refine con_intro (by decide) (Nat.le_of_ble_eq_true rfl) ?_
  show Rch l E 2 167 _ _ _ _ (0, [some (vR 2009)], [], MW b I L)
  refine rch_run cdK167 (by decide) 4 (t' := (6, [some (vR 2009)], [vR 2009, vI ((strB.getD 9 []).length : Int)], MW b I L)) (ps := []) rfl trivial ?_
  refine rch_call (h' := 1) (k' := 169) (as := [vR 2009]) (t1 := (9, [some (vR 2009)], [vI ((strB.getD 9 []).length : Int)], MW b I L)) cdK167 rfl (k_cod_9 l E b I L) (by decide) mw_le ?_
  rintro rt9 w9 (⟨rfl, rfl⟩) _ _
  show Rch l E 2 167 _ _ _ _ (9, [some (vR 2009)], [vI 0, vI ((strB.getD 9 []).length : Int)], MW b I L)
  refine rch_run cdK167 (by decide) 1 (t' := (10, [some (vR 2009)], [vI (bShr ((strB.getD 9 []).length : Int) 0)], MW b I L)) (ps := []) rfl trivial ?_
  refine rch_ret cdK167 (rt := some (vI (bShr ((strB.getD 9 []).length : Int) 0))) rfl trivial mw_c ?_
  exact ⟨by rw [show bShr (((strB.getD 9 []).length : Nat) : Int) 0 = (((strB.getD 9 []).length : Nat) : Int) by decide], rfl⟩

theorem lp_reads_9 (l : Launch) (E : AX) (b : Bool) (I L : Nat → Nat → Int) (hT : TpK I) (hp : 0 ≤ I 28 2 ∧ I 28 2 ≤ I 28 4) (hk : I 28 1 = 2 ∧ ((strB.getD 9 []).length : Int) = I 28 4 - I 28 2) : ∀ (n9 : Nat) (j : Int), 0 ≤ j → j ≤ ((strB.getD 9 []).length : Int) → (∀ z : Nat, (z : Int) < j → I 29 ((I 28 2).toNat + z) = (strB.getD 9 []).getD z 0) → ((strB.getD 9 []).length : Int) - j < (n9 : Int) → Rch l E 5 45 (MW b I L) 0 0 (fun rt w => rt = some (vI (b2i (rdJ I (strB.getD 9 [])))) ∧ w = MW b I L) (28, [some (vR 28), some (vR 2009), some (vI j)], [], MW b I L) := by
  intro n9
  induction n9 with
  | zero =>
    intro j  h1 h2 h3 hm
    exfalso; omega
  | succ n9 ih =>
    intro j  h1 h2 h3 hm
    have hT1 := hT.1
    have he9 : ((I 28 2) + j).toNat = (I 28 2).toNat + j.toNat := by omega
    refine rch_run cdK45 (by decide) 2 (t' := (30, [some (vR 28), some (vR 2009), some (vI j)], [vR 2009, vI j], MW b I L)) (ps := []) rfl trivial ?_
    refine rch_call (h' := 2) (k' := 167) (as := [vR 2009]) (t1 := (33, [some (vR 28), some (vR 2009), some (vI j)], [vI j], MW b I L)) cdK45 rfl (k_len_9 l E b I L) (by decide) mw_le ?_
    rintro rt9 w9 (⟨rfl, rfl⟩) _ _
    show Rch l E 5 45 _ _ _ _ (33, [some (vR 28), some (vR 2009), some (vI j)], [vI ((strB.getD 9 []).length : Int), vI j], MW b I L)
    refine rch_br cdK45 (cd := ((strB.getD 9 []).length : Int) ≤ j) (t1 := (63, [some (vR 28), some (vR 2009), some (vI j)], [], MW b I L)) (t2 := (36, [some (vR 28), some (vR 2009), some (vI j)], [], MW b I L)) rfl (fun c33_1 => ?_) (fun c33_1 => ?_)
    · refine rch_run cdK45 (by decide) 1 (t' := (64, [some (vR 28), some (vR 2009), some (vI j)], [vI 1], MW b I L)) (ps := []) rfl trivial ?_
      refine rch_ret cdK45 (rt := some (vI 1)) rfl (Or.inr rfl) mw_c ?_
      exact ⟨by rw [show rdJ I (strB.getD 9 []) = true from decide_eq_true ⟨hk.1, hk.2, fun z hz => h3 z (by omega)⟩]; rfl, rfl⟩
    · refine rch_run cdK45 (by decide) 9 (t' := (49, [some (vR 28), some (vR 2009), some (vI j)], [vI j, vR 2009, vI (I 29 ((I 28 2) + j).toNat)], MW b I L)) (ps := [i32 ((I 28 2) + j), 0 ≤ (I 28 2) + j ∧ (I 28 2) + j < ((500 : Nat) : Int)]) rfl (by simp only [all_, i32, i64]; first | omega | (simp; done) | (simp; omega)) ?_
      refine rch_call (h' := 4) (k' := 168) (as := [vR 2009, vI j]) (t1 := (52, [some (vR 28), some (vR 2009), some (vI j)], [vI (I 29 ((I 28 2) + j).toNat)], MW b I L)) cdK45 rfl (k_chr_9 l E b I L j (by omega)) (by decide) mw_le ?_
      rintro rt9 w9 (⟨rfl, rfl⟩) _ _
      show Rch l E 5 45 _ _ _ _ (52, [some (vR 28), some (vR 2009), some (vI j)], [vI ((strB.getD 9 []).getD j.toNat 0), vI (I 29 ((I 28 2) + j).toNat)], MW b I L)
      refine rch_br cdK45 (cd := I 29 ((I 28 2) + j).toNat = (strB.getD 9 []).getD j.toNat 0) (t1 := (57, [some (vR 28), some (vR 2009), some (vI j)], [], MW b I L)) (t2 := (55, [some (vR 28), some (vR 2009), some (vI j)], [], MW b I L)) rfl (fun c52_2 => ?_) (fun c52_2 => ?_)
      · refine rch_run cdK45 (by decide) 2 (t' := (28, [some (vR 28), some (vR 2009), some (vI (j + 1))], [], MW b I L)) (ps := [i32 (j + 1)]) rfl (by simp only [all_, i32, i64]; first | omega | (simp; done) | (simp; omega)) ?_
        exact ih (j + 1) (by omega) (by omega) (fun z hz => by by_cases e : z = j.toNat; (rw [e, ← he9]; omega); exact h3 z (by omega)) (by omega)
      · refine rch_run cdK45 (by decide) 1 (t' := (56, [some (vR 28), some (vR 2009), some (vI j)], [vI 0], MW b I L)) (ps := []) rfl trivial ?_
        refine rch_ret cdK45 (rt := some (vI 0)) rfl (Or.inl rfl) mw_c ?_
        exact ⟨by rw [show rdJ I (strB.getD 9 []) = false from decide_eq_false (fun z => by have := z.2.2 j.toNat (by omega); rw [← he9] at this; omega)]; rfl, rfl⟩

theorem k_reads_9 (l : Launch) (E : AX) (b : Bool) (I L : Nat → Nat → Int) (hT : TpK I) (hp : 0 ≤ I 28 2 ∧ I 28 2 ≤ I 28 4) : Con l E 5 45 [vR 28, vR 2009] (MW b I L) 0 0 (fun rt w => rt = some (vI (b2i (rdJ I (strB.getD 9 [])))) ∧ w = MW b I L) := by
  refine con_ok (fun hw9 hs9 => ?_)
  refine con_intro (by decide) (Nat.le_of_ble_eq_true rfl) ?_
  have hT1 := hT.1
  show Rch l E 5 45 _ _ _ _ (0, [some (vR 28), some (vR 2009), none], [], MW b I L)
  refine rch_run cdK45 (by decide) 3 (t' := (5, [some (vR 28), some (vR 2009), none], [vI 2, vI (I 28 1)], MW b I L)) (ps := []) rfl trivial ?_
  refine rch_br cdK45 (cd := I 28 1 ≠ (2 : Int)) (t1 := (24, [some (vR 28), some (vR 2009), none], [], MW b I L)) (t2 := (8, [some (vR 28), some (vR 2009), none], [], MW b I L)) rfl (fun c5_1 => ?_) (fun c5_1 => ?_)
  · refine rch_run cdK45 (by decide) 1 (t' := (25, [some (vR 28), some (vR 2009), none], [vI 0], MW b I L)) (ps := []) rfl trivial ?_
    refine rch_ret cdK45 (rt := some (vI 0)) rfl (Or.inl rfl) mw_c ?_
    exact ⟨by rw [show rdJ I (strB.getD 9 []) = false from decide_eq_false (fun z => by omega)]; rfl, rfl⟩
  · refine rch_run cdK45 (by decide) 1 (t' := (9, [some (vR 28), some (vR 2009), none], [vR 2009], MW b I L)) (ps := []) rfl trivial ?_
    refine rch_call (h' := 2) (k' := 167) (as := [vR 2009]) (t1 := (12, [some (vR 28), some (vR 2009), none], [], MW b I L)) cdK45 rfl (k_len_9 l E b I L) (by decide) mw_le ?_
    rintro rt9 w9 (⟨rfl, rfl⟩) _ _
    show Rch l E 5 45 _ _ _ _ (12, [some (vR 28), some (vR 2009), none], [vI ((strB.getD 9 []).length : Int)], MW b I L)
    refine rch_run cdK45 (by decide) 5 (t' := (21, [some (vR 28), some (vR 2009), none], [vI ((I 28 4) - (I 28 2)), vI ((strB.getD 9 []).length : Int)], MW b I L)) (ps := [i32 ((I 28 4) - (I 28 2))]) rfl (by simp only [all_, i32, i64]; first | omega | (simp; done) | (simp; omega)) ?_
    refine rch_br cdK45 (cd := ((strB.getD 9 []).length : Int) = (I 28 4) - (I 28 2)) (t1 := (26, [some (vR 28), some (vR 2009), none], [], MW b I L)) (t2 := (24, [some (vR 28), some (vR 2009), none], [], MW b I L)) rfl (fun c21_2 => ?_) (fun c21_2 => ?_)
    · refine rch_run cdK45 (by decide) 2 (t' := (28, [some (vR 28), some (vR 2009), some (vI 0)], [], MW b I L)) (ps := []) rfl trivial ?_
      exact lp_reads_9 l E b I L hT hp (by omega) 20 0 (by omega) (by decide) (fun z hz => by omega) (by decide)
    · refine rch_run cdK45 (by decide) 1 (t' := (25, [some (vR 28), some (vR 2009), none], [vI 0], MW b I L)) (ps := []) rfl trivial ?_
      refine rch_ret cdK45 (rt := some (vI 0)) rfl (Or.inl rfl) mw_c ?_
      exact ⟨by rw [show rdJ I (strB.getD 9 []) = false from decide_eq_false (fun z => by omega)]; rfl, rfl⟩
