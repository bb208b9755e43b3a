def R_law : String := "GoldenRowsLaw"
def lw_P (b : Addr) (xs : List Int32) (args : Array Value) (s : State) : Prop := args = #[.ref b] ∧ s.IntsAt b xs ∧ xs.length ≤ 3072 ∧ (Jvm.Cond.and given_1 narrow_1).before args s = true
def lw_Q (_ : Array Value) (s : State) (o : Outcome) (t : State) : Prop := o = .returned (some (.int 1)) ∧ Framed s o t [] 600000 7302250
def lw_Z (below : List Frame) (a : Array Value) (s : State) : State → Prop := fun t => ∃ o, t.status = .running ∧ Ended t below o ∧ lw_Q a s o t
/-- the law's own end, with 1 on the stack, nothing written that was there before, its room as the claim has it -/
theorem lw_ret {p : Program} {l : Launch} {e : Env} {s : State} {m : MethodId} {below : List Frame} {meth : Method} {c : Code} {b : Nat} (hx : p.tables.exec = Jvm.exec) (hb : c.code = code) (hr : meth.sig.returnType = ret) (hlocks : meth.locks = false) {pc : Nat} {H : Heap} {ls : Array Slot} (hdg : decode code pc = .ok (.ireturn, 1)) : W p l e room_1 s m #[Value.ref b] below meth c H [] 600000 7302250 (lw_Z below #[Value.ref b] s) (F0 m pc ls [.int 1]) := by
  intro T hT X
  obtain ⟨fs, hret, hrun, hended, hW, hframe⟩ := X.leave (v := some (.int 1)) (hlocks := hlocks) (fun h => by rw [hr] at h; cases h)
  have hmeth' : T.vm.method? m = some meth := X.method'
  refine ⟨T.setFrames fs, ?_, .returned (some (.int 1)), hrun, hended, rfl, ⟨_, rfl⟩, hW, hframe⟩
  jvm_step X.here [X.here.top, hx, hb, hdg, hmeth', hr, ret, narrow_b1]
  (try refine ⟨rfl, ?_⟩); (try refine ⟨rfl, ?_⟩)
  first | (intro acts; rw [hret _ acts rfl rfl rfl]) | rw [hret _ _ rfl rfl rfl]
  exact Steps.refl _
/-- what holds at the law's entry: the machine, the code, the tables' words (any of lw_tbl by 'hts w (by decide +kernel)'), the script of L ints xs at the cell b, what the Statement gives of the start (any of its parts by flat_of_before) -/
def lw_At (p : Program) (s : State) (m : MethodId) (meth : Method) (c : Code) (b L : Nat) (xs : Nat → Int32) : Prop :=
  p.tables.exec = Jvm.exec ∧ c.code = code ∧ meth.sig.returnType = ret ∧ c.maxLocals = 4 ∧ s.vm.findClass R_law = some m.cls ∧ (∀ w ∈ lw_tbl, w.before #[Value.ref b] s = true) ∧ va_X b L xs s s.heap ∧ b < s.heap.size ∧ meth.locks = false ∧ (Jvm.Cond.and given_1 narrow_1).before #[Value.ref b] s = true

def wE : AW := ([], fun _ _ => 0, fun _ _ => 0, fun _ _ => none)
def PhiL : Option AV → AW → Prop := fun rt _ => rt = some (vI 1)
def tmS (i : Nat) : Term := Term.string RX2 (strN.getD i (0, "")).1
abbrev fl1 : List Jvm.Cond := flatC (Jvm.Cond.and given_1 narrow_1)
theorem st_ex : (List.range 10).all (fun i => decide (Jvm.Cond.exactly (tmS i) "java/lang/String" ∈ fl1)) = true := by decide +kernel
theorem st_co : (List.range 10).all (fun i => decide (Jvm.Cond.eq (.field (tmS i) "java/lang/String" "coder" "B") (.int 0) ∈ fl1)) = true := by decide +kernel
theorem st_ar : (List.range 10).all (fun i => decide (Jvm.Cond.arrayOf (.field (tmS i) "java/lang/String" "value" "[B") .byte ∈ fl1)) = true := by decide +kernel
theorem st_le : (List.range 10).all (fun i => decide (Jvm.Cond.eq (.length (.field (tmS i) "java/lang/String" "value" "[B")) (.int (Int32.ofNat ((strB.map List.length).getD i 0))) ∈ fl1)) = true := by decide +kernel
theorem st_el : (List.range 10).all (fun i => (List.range ((strB.map List.length).getD i 0)).all (fun j => decide (Jvm.Cond.eq (.elem (.field (tmS i) "java/lang/String" "value" "[B") (.int (Int32.ofNat j))) (.int (((strB.map (List.map Int32.ofInt)).getD i []).getD j 0)) ∈ fl1))) = true := by decide +kernel
theorem st_ne : (List.range 10).all (fun i => (List.range 10).all (fun j => decide (i = j) || decide (Jvm.Cond.not (Jvm.Cond.eq (tmS i) (tmS j)) ∈ fl1) || decide (Jvm.Cond.not (Jvm.Cond.eq (tmS j) (tmS i)) ∈ fl1))) = true := by decide +kernel
theorem st_rf : subl (strN.map (fun q => Jvm.Cond.stringRef RX2 q.1 q.2)) lw_tbl = true := by decide +kernel
theorem st_cs : Jvm.Cond.eq (.static "java/lang/String" "COMPACT_STRINGS" "Z") (.int 1) ∈ fl1 := by decide +kernel
theorem st_si : Jvm.Cond.isRef (.static "jdk/internal/util/Preconditions" "SIOOBE_FORMATTER" "Ljava/util/function/BiFunction;") ∈ fl1 := by decide +kernel
theorem st_l1 : Jvm.Cond.laysStatic "java/lang/String" "COMPACT_STRINGS" "Z" ∈ lw_tbl := List.mem_of_getElem? (i := 624) (by decide +kernel)
theorem st_l2 : Jvm.Cond.laysStatic "jdk/internal/util/Preconditions" "SIOOBE_FORMATTER" "Ljava/util/function/BiFunction;" ∈ lw_tbl := List.mem_of_getElem? (i := 640) (by decide +kernel)
theorem st_i1 : Jvm.Cond.initialized "java/lang/String" ∈ lw_tbl := List.mem_of_getElem? (i := 73) (by decide +kernel)
theorem st_i2 : Jvm.Cond.initialized "jdk/internal/util/Preconditions" ∈ lw_tbl := List.mem_of_getElem? (i := 75) (by decide +kernel)
theorem st_nl : Jvm.Cond.methodLinkNest RX5 63 (ynm 91) RX11 ∈ lw_tbl := List.mem_of_getElem? (i := 550) (by decide +kernel)
theorem all_r {n : Nat} {p : Nat → Bool} (h : (List.range n).all p = true) {i : Nat} (hi : i < n) : p i = true := List.all_eq_true.mp h i (List.mem_range.mpr hi)
theorem law_start (NC NS : Nat) (hNC : NC ≤ 600000) (hNS : NS ≤ 7302250) (hall : ∀ (l : Launch) (E : AX), E.1 ≤ 3072 → Rch l E 1000 174 wE NC NS PhiL (0, enL [vR 1000] 4, [], wE))
    {p : Program} {e : Env} {s : State} {m : MethodId} {below : List Frame} {meth : Method} {c : Code} (l : Launch) {b L : Nat} {xs : Nat → Int32} (hL : L ≤ 3072) (C0 : lw_At p s m meth c b L xs) : W p l e room_1 s m #[Value.ref b] below meth c s.heap [] 0 0 (lw_Z below #[Value.ref b] s) (entryFrame m ([Value.ref b] : List Value).toArray 4) := by
  obtain ⟨hx, hb, hr, hml, hown, hts, hX, hbl, hlocks, hgv⟩ := id C0
  have hfl := flat_of_before _ hgv
  have htb : ∀ w ∈ tb, w.before #[Value.ref b] s = true := fun w hw => hts w (List.mem_filter.mp hw).1
  have hA : ∀ a : Nat, a < s.heap.size → ¬ (fun q : Nat => s.heap.size ≤ q) a := fun a h1 h2 => by
    have h2 : s.heap.size ≤ a := h2
    omega
  -- the classes
  have hcl : ∀ k, ∃ q : ClassId × (Nat → Nat), k < 13 → u_Kn s (rn_ k) (clT.getD k TX0) (fTL.getD k []).length q.1 q.2 := by
    intro k
    by_cases hk : k < 13
    · obtain ⟨cC, iS, h1⟩ := u_known htb (lay_in k hk) (htb _ (ins_in k hk).1)
      exact ⟨(cC, iS), fun _ => h1⟩
    · exact ⟨(0, fun _ => 0), fun h => absurd h hk⟩
  obtain ⟨fD, hD⟩ := Classical.axiomOfChoice hcl
  -- the arrays' classes
  have harr : ∀ ty : FieldType, (Jvm.Cond.arrayClass ty).before #[Value.ref b] s = true → (∀ C, ty ≠ .object C) → ∃ cA : ClassId, ArrOfT s cA ty ∧ va_RA s cA ty := by
    intro ty h1 h2
    obtain ⟨cA, kA, comp, g1, g2, g3⟩ := Cond.arrayClass_spec h1
    refine ⟨cA, fun n z => ⟨fun k h => (by cases h), kA, g2, comp, g3⟩, ?_⟩
    cases ty <;> first | exact g1 | exact absurd rfl (h2 _)
  obtain ⟨cI, hI1, hI2⟩ := harr .int (htb _ arr_int) (fun _ h => by cases h)
  obtain ⟨cZ, hZ1, hZ2⟩ := harr .boolean (htb _ arr_boolean) (fun _ h => by cases h)
  obtain ⟨cJ, hJ1, hJ2⟩ := harr .long (htb _ arr_long) (fun _ h => by cases h)
  have hK : va_K (fun k => (fD k).1, fun k => (fD k).2) classes (tysO (cI, cZ, cJ)) s := by
    refine ⟨fun k q hq => ?_, fun k q hq => ?_⟩
    · have hk : k < 13 := (List.getElem?_eq_some_iff.mp hq).1
      rw [cls_at k hk] at hq
      cases hq
      exact hD k hk
    · match k, hq with
      | 0, hq => cases hq; exact ⟨hI1, hI2⟩
      | 1, hq => cases hq; exact ⟨hZ1, hZ2⟩
      | 2, hq => cases hq; exact ⟨hJ1, hJ2⟩
      | k + 3, hq => simp [tysO] at hq
  -- the String constants
  obtain ⟨adK, adV, hvS, hev⟩ := vk_Sof (args := #[Value.ref b]) (s := s) (N := 10) (tm := tmS) (len := strB.map List.length) (byt := strB.map (List.map Int32.ofInt)) (A := fun q => s.heap.size ≤ q)
    (fun i _ => by rw [strB_len]; have := (strB_i32 i).2; omega)
    (fun i hi => hfl _ (of_decide_eq_true (all_r st_ex hi))) (fun i hi => hfl _ (of_decide_eq_true (all_r st_co hi))) (fun i hi => hfl _ (of_decide_eq_true (all_r st_ar hi))) (fun i hi => hfl _ (of_decide_eq_true (all_r st_le hi)))
    (fun i hi j hj => hfl _ (of_decide_eq_true (all_r (all_r st_el hi) hj)))
    (fun i j hi hj hij => by
      have := all_r (all_r st_ne hi) hj
      simp only [Bool.or_eq_true, decide_eq_true_eq] at this
      rcases this with (h | h) | h
      · exact absurd h hij
      · exact Or.inl (hfl _ h)
      · exact Or.inr (hfl _ h)) hA
  have hvR : ∀ i, i < 10 → vk_R RX2 (strN.getD i (0, "")).1 (strN.getD i (0, "")).2 (adK i) s := by
    intro i hi
    have h1 : strN.getD i (0, "") ∈ strN := by
      have hl : i < strN.length := hi
      rw [show strN.getD i (0, "") = strN[i] by simp [List.getD, hl]]
      exact List.getElem_mem hl
    have h2 := subl_mem _ _ st_rf _ (List.mem_map.mpr ⟨_, h1, rfl⟩)
    have h3 := hts _ h2
    exact vk_R.of (A := #[]) (by
      have e9 : (Jvm.Cond.stringRef RX2 (strN.getD i (0, "")).1 (strN.getD i (0, "")).2).before #[] s = (Jvm.Cond.stringRef RX2 (strN.getD i (0, "")).1 (strN.getD i (0, "")).2).before #[Value.ref b] s := rfl
      rw [e9]; exact h3) (by
      have h4 := hev i hi
      have e9 : (tmS i).eval #[] s none [] s = (tmS i).eval #[Value.ref b] s none [] s := rfl
      exact e9.trans h4)
  have hz1 := va_Zof (hts _ st_l1) (hts _ st_i1) (va_eqi (hfl _ st_cs)) hA
  have hz2 := va_Zqof (hts _ st_l2) (hts _ st_i2) (hfl _ st_si) hA
  obtain ⟨v5, hv5, hz2⟩ : ∃ v5 : Value, (v5 = .null ∨ ∃ a, v5 = .ref a) ∧ va_Z "jdk/internal/util/Preconditions" "SIOOBE_FORMATTER" "Ljava/util/function/BiFunction;" v5 (fun q => s.heap.size ≤ q) s s.heap := by
    rcases hz2 with h | ⟨t, h⟩
    · exact ⟨_, Or.inl rfl, h⟩
    · exact ⟨_, Or.inr ⟨t, rfl⟩, h⟩
  obtain ⟨sp, s1000, s2000, s3000, s5000, hsp⟩ : ∃ sp : Nat → Value, sp 1000 = .ref b ∧ (∀ i, i < 10 → sp (2000 + i) = .ref (adK i)) ∧ (∀ i, i < 10 → sp (3000 + i) = .ref (adV i)) ∧ sp 5000 = v5 ∧ okSp sp := by
    refine ⟨fun r => if r = 1000 then .ref b else if r < 3000 then .ref (adK (r - 2000)) else if r < 5000 then .ref (adV (r - 3000)) else v5, by simp, fun i hi => ?_, fun i hi => ?_, by simp, ⟨fun r hr => ?_, fun r => ?_⟩⟩
    · dsimp only
      rw [if_neg (by omega), if_pos (by omega), show 2000 + i - 2000 = i by omega]
    · dsimp only
      rw [if_neg (by omega), if_neg (by omega), if_pos (by omega), show 3000 + i - 3000 = i by omega]
    · dsimp only
      split
      · exact ⟨_, rfl⟩
      · split
        · exact ⟨_, rfl⟩
        · exact ⟨_, rfl⟩
    · dsimp only
      split
      · exact Or.inr ⟨_, rfl⟩
      · split
        · exact Or.inr ⟨_, rfl⟩
        · split
          · exact Or.inr ⟨_, rfl⟩
          · exact hv5
  have hSx : Sx (L, xs) s.heap.size sp s s.heap := ⟨⟨adK, adV, fun i hi => ⟨s2000 i hi, s3000 i hi⟩, hvS, hvR⟩, hz1, by rw [s5000]; exact hz2, va_Nw.of rfl (hts _ st_nl), b, s1000, hX, hbl, by omega⟩
  have C : Cx l (L, xs) 1000 174 wE NC NS PhiL p e room_1 s m #[Value.ref b] below meth c (lw_Z below #[Value.ref b] s) (fun k => (fD k).1, fun k => (fD k).2) (cI, cZ, cJ) s.heap.size sp := by
    refine ⟨⟨hx, hb, hml, hown, htb⟩, (fun h => by cases h), ⟨by decide, by decide, hNC, hNS⟩, hK, hsp, hSx, Nat.le_refl _, ?_⟩
    intro H locs ls pc ins rt wf hΦ hcn hsn hw2 hrt hH2 hS2 hd hri hrT
    cases hΦ
    unfold retI at hri
    split at hri
    · next h9 => cases h9
    · refine va_forget (fun q hq => hS2.2.2 q hq) ?_
      refine W.widen (k := 600000) (n := 7302250) hNC hNS ?_
      exact lw_ret hx hb hr hlocks hd
    · next h9 => cases h9
    · cases hri
  rw [lg_entry_eq]
  have hl := hasL_entry (base := s.heap.size) hsp [vR 1000] (n := 4) (by decide)
  have e1 : ([vR 1000] : List AV).map (tr s.heap.size sp) = [Value.ref b] := by
    show [rv s.heap.size sp 1000] = _
    unfold rv
    rw [if_neg (by omega), s1000]
  rw [e1] at hl
  generalize (lg_sl ([Value.ref b]) ++ List.replicate (4 - (lg_sl ([Value.ref b])).length) Slot.unset).toArray = ls at hl ⊢
  have hW0 : hW (fun k => (fD k).1, fun k => (fD k).2) (cI, cZ, cJ) s.heap.size sp wE s.heap := ⟨rfl, by decide, fun k q hq => by simp [wsO, wE] at hq⟩
  have := hall l (L, xs) hL ⟨fun _ _ => i32_0, fun _ _ => i64_0⟩ (okL_en (fun v hv => by rw [List.mem_singleton.mp hv]; trivial) _) (fun v hv => absurd hv List.not_mem_nil) ⟨⟨Nat.le_refl _, Nat.le_add_right _ _⟩, Nat.le_refl _, Nat.le_add_right _ _⟩ p e room_1 s m #[Value.ref b] below meth c _ _ _ _ _ C s.heap [] ls hW0 va_S.rf hl
  simp only [Nat.sub_self] at this
  exact this
