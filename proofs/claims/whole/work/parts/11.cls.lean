-- CLASSES: names, fields, words
theorem cls_at : ∀ ci, ci < 13 → classes[ci]? = some (rn_ ci, clT.getD ci TX0, (fTL.getD ci []).length)
  | 0, _ => rfl
  | 1, _ => rfl
  | 2, _ => rfl
  | 3, _ => rfl
  | 4, _ => rfl
  | 5, _ => rfl
  | 6, _ => rfl
  | 7, _ => rfl
  | 8, _ => rfl
  | 9, _ => rfl
  | 10, _ => rfl
  | 11, _ => rfl
  | 12, _ => rfl
  | n + 13, h => absurd h (by omega)
def tyT : List (Nat → FieldType) := [tyX0, tyX1, tyX2, tyX3, tyX4, tyX5, tyX6, tyX7, tyX8, tyX9, tyX10, tyX11, tyX12]
def tyf (ci j : Nat) : FieldType := (tyT.getD ci tyX0) j
theorem ty_ok : ∀ ci, ci < 13 → ∀ j, j < (fTL.getD ci []).length → parseFieldDescriptor ((clT.getD ci TX0) j).2.2.1 = some (tyf ci j)
  | 0, _ => tyX0_ok
  | 1, _ => tyX1_ok
  | 2, _ => tyX2_ok
  | 3, _ => tyX3_ok
  | 4, _ => tyX4_ok
  | 5, _ => tyX5_ok
  | 6, _ => tyX6_ok
  | 7, _ => tyX7_ok
  | 8, _ => tyX8_ok
  | 9, _ => tyX9_ok
  | 10, _ => tyX10_ok
  | 11, _ => tyX11_ok
  | 12, _ => tyX12_ok
  | n + 13, h => absurd h (by omega)
theorem nm_ok : ∀ ci, ci < 13 → ∀ a, a < (fTL.getD ci []).length → ∀ b, b < (fTL.getD ci []).length → a ≠ b → ((clT.getD ci TX0) a).2.1 ≠ ((clT.getD ci TX0) b).2.1
  | 0, _ => nmX0
  | 1, _ => nmX1
  | 2, _ => nmX2
  | 3, _ => nmX3
  | 4, _ => nmX4
  | 5, _ => nmX5
  | 6, _ => nmX6
  | 7, _ => nmX7
  | 8, _ => nmX8
  | 9, _ => nmX9
  | 10, _ => nmX10
  | 11, _ => nmX11
  | 12, _ => nmX12
  | n + 13, h => absurd h (by omega)
theorem lay_0 : subl (u_ws RX0 TX0 8) lw_tbl = true := by decide +kernel
theorem lay_1 : subl (u_ws RX1 TX1 6) lw_tbl = true := by decide +kernel
theorem lay_2 : subl (u_ws RX2 TX2 2) lw_tbl = true := by decide +kernel
theorem lay_3 : subl (u_ws RX3 TX3 15) lw_tbl = true := by decide +kernel
theorem lay_4 : subl (u_ws RX4 TX4 4) lw_tbl = true := by decide +kernel
theorem lay_5 : subl (u_ws RX5 TX5 6) lw_tbl = true := by decide +kernel
theorem lay_6 : subl (u_ws RX6 TX6 7) lw_tbl = true := by decide +kernel
theorem lay_7 : subl (u_ws RX7 TX7 7) lw_tbl = true := by decide +kernel
theorem lay_8 : subl (u_ws RX8 TX8 8) lw_tbl = true := by decide +kernel
theorem lay_9 : subl (u_ws RX9 TX9 2) lw_tbl = true := by decide +kernel
theorem lay_10 : subl (u_ws RX10 TX10 4) lw_tbl = true := by decide +kernel
theorem lay_11 : subl (u_ws RX11 TX11 18) lw_tbl = true := by decide +kernel
theorem lay_12 : subl (u_ws RX12 TX12 83) lw_tbl = true := by decide +kernel
theorem lay_good {C : String} {T : u_T} {N : Nat} {c : Jvm.Cond} (h : c ∈ u_ws C T N) : goodWord c = true := by
  obtain ⟨k, -, rfl⟩ := List.mem_map.mp h
  unfold u_lay
  split <;> rfl
theorem lay_in : ∀ ci, ci < 13 → ∀ c ∈ u_ws (rn_ ci) (clT.getD ci TX0) (fTL.getD ci []).length, c ∈ tb
  | 0, _ => fun c hc => tb_in (subl_mem _ _ lay_0 c hc) (lay_good hc)
  | 1, _ => fun c hc => tb_in (subl_mem _ _ lay_1 c hc) (lay_good hc)
  | 2, _ => fun c hc => tb_in (subl_mem _ _ lay_2 c hc) (lay_good hc)
  | 3, _ => fun c hc => tb_in (subl_mem _ _ lay_3 c hc) (lay_good hc)
  | 4, _ => fun c hc => tb_in (subl_mem _ _ lay_4 c hc) (lay_good hc)
  | 5, _ => fun c hc => tb_in (subl_mem _ _ lay_5 c hc) (lay_good hc)
  | 6, _ => fun c hc => tb_in (subl_mem _ _ lay_6 c hc) (lay_good hc)
  | 7, _ => fun c hc => tb_in (subl_mem _ _ lay_7 c hc) (lay_good hc)
  | 8, _ => fun c hc => tb_in (subl_mem _ _ lay_8 c hc) (lay_good hc)
  | 9, _ => fun c hc => tb_in (subl_mem _ _ lay_9 c hc) (lay_good hc)
  | 10, _ => fun c hc => tb_in (subl_mem _ _ lay_10 c hc) (lay_good hc)
  | 11, _ => fun c hc => tb_in (subl_mem _ _ lay_11 c hc) (lay_good hc)
  | 12, _ => fun c hc => tb_in (subl_mem _ _ lay_12 c hc) (lay_good hc)
  | n + 13, h => absurd h (by omega)
theorem ins_in : ∀ ci, ci < 13 → Jvm.Cond.instantiable (rn_ ci) (fTL.getD ci []).length ∈ tb ∧ Jvm.Cond.initialized (rn_ ci) ∈ tb
  | 0, _ => ⟨tb_in (List.mem_of_getElem? (i := 87) (by decide +kernel)) rfl, tb_in (List.mem_of_getElem? (i := 60) (by decide +kernel)) rfl⟩
  | 1, _ => ⟨tb_in (List.mem_of_getElem? (i := 245) (by decide +kernel)) rfl, tb_in (List.mem_of_getElem? (i := 66) (by decide +kernel)) rfl⟩
  | 2, _ => ⟨tb_in (List.mem_of_getElem? (i := 230) (by decide +kernel)) rfl, tb_in (List.mem_of_getElem? (i := 65) (by decide +kernel)) rfl⟩
  | 3, _ => ⟨tb_in (List.mem_of_getElem? (i := 314) (by decide +kernel)) rfl, tb_in (List.mem_of_getElem? (i := 69) (by decide +kernel)) rfl⟩
  | 4, _ => ⟨tb_in (List.mem_of_getElem? (i := 136) (by decide +kernel)) rfl, tb_in (List.mem_of_getElem? (i := 62) (by decide +kernel)) rfl⟩
  | 5, _ => ⟨tb_in (List.mem_of_getElem? (i := 281) (by decide +kernel)) rfl, tb_in (List.mem_of_getElem? (i := 68) (by decide +kernel)) rfl⟩
  | 6, _ => ⟨tb_in (List.mem_of_getElem? (i := 198) (by decide +kernel)) rfl, tb_in (List.mem_of_getElem? (i := 64) (by decide +kernel)) rfl⟩
  | 7, _ => ⟨tb_in (List.mem_of_getElem? (i := 162) (by decide +kernel)) rfl, tb_in (List.mem_of_getElem? (i := 63) (by decide +kernel)) rfl⟩
  | 8, _ => ⟨tb_in (List.mem_of_getElem? (i := 370) (by decide +kernel)) rfl, tb_in (List.mem_of_getElem? (i := 70) (by decide +kernel)) rfl⟩
  | 9, _ => ⟨tb_in (List.mem_of_getElem? (i := 121) (by decide +kernel)) rfl, tb_in (List.mem_of_getElem? (i := 61) (by decide +kernel)) rfl⟩
  | 10, _ => ⟨tb_in (List.mem_of_getElem? (i := 404) (by decide +kernel)) rfl, tb_in (List.mem_of_getElem? (i := 71) (by decide +kernel)) rfl⟩
  | 11, _ => ⟨tb_in (List.mem_of_getElem? (i := 79) (by decide +kernel)) rfl, tb_in (List.mem_of_getElem? (i := 59) (by decide +kernel)) rfl⟩
  | 12, _ => ⟨tb_in (List.mem_of_getElem? (i := 923) (by decide +kernel)) rfl, tb_in (List.mem_of_getElem? (i := 72) (by decide +kernel)) rfl⟩
  | n + 13, h => absurd h (by omega)
theorem arr_int : Jvm.Cond.arrayClass .int ∈ tb := tb_in (List.mem_of_getElem? (i := 119) (by decide +kernel)) rfl
theorem arr_boolean : Jvm.Cond.arrayClass .boolean ∈ tb := tb_in (List.mem_of_getElem? (i := 160) (by decide +kernel)) rfl
theorem arr_long : Jvm.Cond.arrayClass .long ∈ tb := tb_in (List.mem_of_getElem? (i := 368) (by decide +kernel)) rfl
set_option maxRecDepth 100000 in
theorem obj_code : Jvm.Cond.code Lib.objectInit ⟨#[0xb1]⟩ 1 none ∈ tb := tb_in (List.mem_of_getElem? (i := 85) rfl) rfl
theorem obj_inst : Jvm.Cond.instanceMethod Lib.objectInit ∈ tb := tb_in (List.mem_of_getElem? (i := 84) (by decide +kernel)) rfl
set_option maxRecDepth 100000 in
theorem mx_code : Jvm.Cond.code Lib.Math.max.name Lib.Math.max.code 2 (some .int) ∈ tb := tb_in (List.mem_of_getElem? (i := 252) rfl) rfl
theorem mx_stat : Jvm.Cond.static Lib.Math.max.name ∈ tb := tb_in (List.mem_of_getElem? (i := 251) (by decide +kernel)) rfl
set_option maxRecDepth 100000 in
theorem mxl__code : Jvm.Cond.code Lib.MathLoose.max_long.x Lib.MathLoose.max_long.code 4 (some .long) ∈ tb := tb_in (List.mem_of_getElem? (i := 792) rfl) rfl
theorem mxl__stat : Jvm.Cond.static Lib.MathLoose.max_long.x ∈ tb := tb_in (List.mem_of_getElem? (i := 791) (by decide +kernel)) rfl
theorem math_init : Jvm.Cond.initialized "java/lang/Math" ∈ tb := tb_in (List.mem_of_getElem? (i := 67) (by decide +kernel)) rfl
def fck (ci j : Nat) : Bool := match fT ci j, tyf ci j with
  | 0, .int => true
  | 1, .boolean => true
  | 2, .long => true
  | 3, .object _ => true
  | 3, .array _ => true
  | _, _ => false
theorem fck_all : (List.range 13).all (fun ci => (List.range (fTL.getD ci []).length).all (fck ci)) = true := by decide +kernel
theorem fck_ok {ci j : Nat} (h : ci < 13) (hj : j < (fTL.getD ci []).length) : fck ci j = true :=
  List.all_eq_true.mp (List.all_eq_true.mp fck_all ci (List.mem_range.mpr h)) j (List.mem_range.mpr hj)
theorem fls_all : fls.all (fun q => decide (q.2.2.1 < 13) && decide (q.2.2.2 < (fTL.getD q.2.2.1 []).length)) = true := by decide +kernel
theorem fls_rg {q : Nat × Nat × Nat × Nat} (h : q ∈ fls) : q.2.2.1 < 13 ∧ q.2.2.2 < (fTL.getD q.2.2.1 []).length := by
  have := List.all_eq_true.mp fls_all q h
  simpa using this
theorem cks_all : cks.all (fun q => decide (q.2.2 < 13)) = true := by decide +kernel
theorem srs_all : srs.all (fun q => decide (q.1 = 2) && decide (q.2.1 = (strN.getD q.2.2 (0, "")).1)) = true := by decide +kernel
theorem srs_at {o i b : Nat} (h : (o, i, b) ∈ srs) : rn_ o = RX2 ∧ i = (strN.getD b (0, "")).1 := by
  have := List.all_eq_true.mp srs_all _ h
  simp only [Bool.and_eq_true, decide_eq_true_eq] at this
  exact ⟨by rw [this.1]; rfl, this.2⟩
theorem lInt_at {lv : List (Option AV)} {i : Nat} {x : Int} (h : lInt lv i = some x) : lv[i]? = some (some (vI x)) := by
  unfold lInt at h
  split at h
  · next e => cases h; exact e
  · cases h
theorem lLng_at {lv : List (Option AV)} {i : Nat} {x : Int} (h : lLng lv i = some x) : lv[i]? = some (some (vL x)) := by
  unfold lLng at h
  split at h
  · next e => cases h; exact e
  · cases h
theorem lRef_at {lv : List (Option AV)} {i : Nat} {x : Nat} (h : lRef lv i = some x) : lv[i]? = some (some (vR x)) ∧ x < 5000 := by
  unfold lRef at h
  split at h
  · next e =>
    split at h
    · next h5 => cases h; exact ⟨e, h5⟩
    · cases h
  · cases h
theorem by8 {n : Int} (h1 : -128 ≤ n) (h2 : n ≤ 127) : (Int8.ofInt n).toInt32 = Int32.ofInt n := Int32.toInt_inj.mp (by rw [Int8.toInt_toInt32, Int8.toInt_ofInt_of_le (by omega) (by omega), t32 ⟨by omega, by omega⟩])
theorem by16 {n : Int} (h1 : -32768 ≤ n) (h2 : n ≤ 32767) : (Int16.ofInt n).toInt32 = Int32.ofInt n := Int32.toInt_inj.mp (by rw [Int16.toInt_toInt32, Int16.toInt_ofInt_of_le (by omega) (by omega), t32 ⟨by omega, by omega⟩])
theorem map_set {f g : Nat → Value} {n b : Nat} {v : Value} (hb : g b = v) (h : ∀ j, j ≠ b → g j = f j) : (List.range n).map g = ((List.range n).map f).set b v := by
  apply List.ext_getElem?
  intro i
  rw [List.getElem?_set]
  by_cases hi : i < n
  · by_cases hib : b = i
    · subst hib; simp [hi, hb]
    · simp [hi, hib, h i (Ne.symm hib)]
  · have h1 : n ≤ i := by omega
    by_cases hib : b = i
    · subst hib; simp [h1, hi]
    · simp [h1, hib]
theorem clt_all : (List.range 13).all (fun ci => (List.range (fTL.getD ci []).length).all (fun j => decide ((clt ci j).1 = rn_ ci))) = true := by decide +kernel
theorem clt_own (ci : Nat) (h : ci < 13) (j : Nat) (hj : j < (fTL.getD ci []).length) : (clt ci j).1 = rn_ ci :=
  of_decide_eq_true (List.all_eq_true.mp (List.all_eq_true.mp clt_all ci (List.mem_range.mpr h)) j (List.mem_range.mpr hj))
theorem strB_all : strB.all (fun l => decide (l.length < 100) && l.all (fun x => decide (0 ≤ x ∧ x < 128))) = true := by decide +kernel
theorem strB_ok (r i : Nat) : i32 ((strB.getD r []).getD i 0) := by
  have h1 : ∀ l ∈ strB, l.length < 100 ∧ ∀ x ∈ l, 0 ≤ x ∧ x < 128 := by
    intro l hl
    have := List.all_eq_true.mp strB_all l hl
    simp only [Bool.and_eq_true, decide_eq_true_eq, List.all_eq_true] at this
    exact this
  by_cases hr : r < strB.length
  · have e : strB.getD r [] = strB[r] := by simp [List.getD, hr]
    rw [e]
    by_cases hi : i < strB[r].length
    · have e2 : strB[r].getD i 0 = strB[r][i] := by simp [List.getD, hi]
      rw [e2]
      have := (h1 _ (List.getElem_mem hr)).2 _ (List.getElem_mem hi)
      exact ⟨by omega, by omega⟩
    · have e2 : strB[r].getD i 0 = 0 := by simp [List.getD, List.getElem?_eq_none (Nat.le_of_not_lt hi)]
      rw [e2]; exact i32_0
  · have e : strB.getD r [] = [] := by simp [List.getD, List.getElem?_eq_none (Nat.le_of_not_lt hr)]
    rw [e]; exact i32_0
theorem strB_i32 (r : Nat) : i32 ((strB.getD r []).length : Int) := by
  by_cases hr : r < strB.length
  · have e : strB.getD r [] = strB[r] := by simp [List.getD, hr]
    rw [e]
    have := List.all_eq_true.mp strB_all _ (List.getElem_mem hr)
    simp only [Bool.and_eq_true, decide_eq_true_eq] at this
    have h2 := this.1
    exact ⟨by omega, by omega⟩
  · have e : strB.getD r [] = [] := by simp [List.getD, List.getElem?_eq_none (Nat.le_of_not_lt hr)]
    rw [e]; exact i32_0
theorem strB_len (r : Nat) : (strB.map List.length).getD r 0 = (strB.getD r []).length := by
  simp only [List.getD, List.getElem?_map]
  cases strB[r]? <;> rfl
theorem strB_at (r i : Nat) : Value.int (((strB.map (List.map Int32.ofInt)).getD r []).getD i 0) = .int (Int32.ofInt ((strB.getD r []).getD i 0)) := by
  simp only [List.getD, List.getElem?_map]
  cases strB[r]? with
  | none => rfl
  | some l =>
    simp only [Option.map_some, Option.getD_some, List.getElem?_map]
    cases l[i]? <;> rfl
theorem mls_all : mls.all (fun q => decide (q.2.2 < 175)) = true := by decide +kernel
theorem mls_no (k i a : Nat) (h : 175 ≤ a) : (own k, i, a) ∉ mls := fun hm => by
  have := of_decide_eq_true (List.all_eq_true.mp mls_all _ hm)
  simp only at this
  omega
theorem nsl_no (k i a : Nat) (h : 175 ≤ a) : (own k, i, a) ∉ nsl := fun hm => by
  simp only [nsl, List.mem_singleton, Prod.mk.injEq] at hm
  omega
theorem iMax_ok {x y : Int} (hx : i32 x) (hy : i32 y) : i32 (iMax x y) := by unfold iMax; split <;> assumption
theorem lMax_ok {x y : Int} (hx : i64 x) (hy : i64 y) : i64 (lMax x y) := by unfold lMax; split <;> assumption
