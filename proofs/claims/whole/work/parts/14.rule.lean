-- RULES: runs, branches, calls, ends, new cells
/-- a method's contract: from this world and these arguments it comes back with Φ -/
def Con (l : Launch) (E : AX) (h k : Nat) (args : List AV) (w : AW) (nc ns : Nat) (Φ : Option AV → AW → Prop) : Prop := okW w → okS args → ∀ (D : va_G) (cs : ClassId × ClassId × ClassId) (base : Nat) (sp : Nat → Value), okSp sp →
  Met l (ynm k) (Jvm.Cond.code (ynm k) (byt k) (mxl k) (rty k) :: tb) { frames := h, cells := nc, slots := ns, locals := 64 * h } (va_Pc (args.map (tr base sp)) (fun U => hW D cs base sp w U.heap ∧ va_K D classes (tysO cs) U ∧ Sx E base sp U U.heap ∧ base ≤ U.heap.size))
    (fun _ st o t => (∃ (rt : Option AV) (wf : AW), Φ rt wf ∧ cN wf = cN w + nc ∧ sN wf = sN w + ns ∧ okW wf ∧ (∀ v ∈ rt, okv v) ∧ o = .returned (rt.map (tr base sp)) ∧ hW D cs base sp wf t.heap) ∧ va_F (fun q => base ≤ q) st t) nc ns (fun q => base ≤ q)
theorem all_app : ∀ (ps qs : List Prop), all_ (ps ++ qs) → all_ ps ∧ all_ qs
  | [], qs, h => ⟨trivial, h⟩
  | [p], [], h => ⟨h, trivial⟩
  | [p], q :: qs, h => ⟨h.1, h.2⟩
  | p :: p2 :: ps, qs, h => ⟨⟨h.1, (all_app (p2 :: ps) qs h.2).1⟩, (all_app (p2 :: ps) qs h.2).2⟩
/-- what a method's row says -/
theorem mwK {k : Nat} (h : k < 174) : Jvm.Cond.initialized (ynm k).cls ∈ tb ∧ (if knd k = 0 then Jvm.Cond.static (ynm k) else Jvm.Cond.instanceMethod (ynm k)) ∈ tb ∧ (knd k = 1 → Jvm.Cond.selects (ynm k).cls (ynm k) (ynm k) ∈ tb) ∧ ((ynm k).cls ≠ "java/lang/invoke/MethodHandle" ∧ (ynm k).cls ≠ "java/lang/invoke/VarHandle" ∧ (parseMethodDescriptor (ynm k).desc).map (fun d => d.parameters.length) = some (nar k)) ∧ plainName (ynm k).cls = true ∧ rn_ (own k) = (ynm k).cls ∧ (knd k = 2 → (ynm k).name = "<init>") ∧ mxl k + 19 ≤ 64 := by
  have h1 := mw k h
  unfold mwB at h1
  simp only [Bool.and_eq_true, decide_eq_true_eq, Bool.or_eq_true, bne_iff_ne, ne_eq] at h1
  obtain ⟨⟨⟨⟨⟨⟨⟨g1, g2⟩, g3⟩, g4⟩, g5⟩, g6⟩, g7⟩, g8⟩ := h1
  refine ⟨tb_in (List.mem_of_getElem? g1) rfl, tb_in (List.mem_of_getElem? g2) (by split <;> rfl), fun hk => tb_in (List.mem_of_getElem? (g3.resolve_left (fun q => q hk))) rfl, g4, g5, g6, fun hk => g7.resolve_left (fun q => q hk), g8⟩
section RU
variable {l : Launch} {E : AX} {h k : Nat} {w0 : AW} {nc ns : Nat} {Φ : Option AV → AW → Prop} {pc : Nat} {lv : List (Option AV)} {st : List AV} {w : AW} {cs : List AE}
theorem rch_run (hk : cod k = cs) (hh : 1 ≤ h) : ∀ (n : Nat) {t t' : AS} {ps : List Prop}, rn E cs n t = some (ps, t') → all_ ps → Rch l E h k w0 nc ns Φ t' → Rch l E h k w0 nc ns Φ t
  | 0, t, t', ps, hr, hp, kk => by
    unfold rn at hr
    cases hr
    exact kk
  | n + 1, t, t', ps, hr, hp, kk => by
    unfold rn at hr
    split at hr
    · cases hr
    · next ps1 t1 hn =>
      split at hr
      · cases hr
      · next qs t2 hr2 =>
        cases hr
        obtain ⟨hp1, hp2⟩ := all_app _ _ hp
        have k1 := rch_run hk hh n hr2 hp2 kk
        unfold nx at hn
        split at hn
        · cases hn
        · next e hen =>
          split at hn
          · next hl =>
            obtain ⟨pc, lv, st, w⟩ := t
            exact rch_ex hh (by rw [hk]; exact hen) (Nat.eq_of_beq_eq_true hl) hn hp1 k1
          · cases hn
theorem rch_br {t t1 t2 : AS} {cd : Prop} (hk : cod k = cs) (hb : bc cs t = some (cd, t1, t2)) (h1 : cd → Rch l E h k w0 nc ns Φ t1) (h2 : ¬ cd → Rch l E h k w0 nc ns Φ t2) : Rch l E h k w0 nc ns Φ t := by
  unfold bc at hb
  split at hb
  · cases hb
  · next e hen =>
    split at hb
    · next hl =>
      have hl := Nat.eq_of_beq_eq_true hl
      obtain ⟨pc, lv, st, w⟩ := t
      dsimp only at hen hb
      have hd := okD (k := k) (by rw [hk]; exact hen)
      obtain ⟨q0, ins, len, x0, a0, b0⟩ := e
      dsimp only at hl hd
      subst hl
      unfold bcE at hb
      dsimp only at hb
      split at hb
      · next c off x st1 =>
        split at hb
        · next ho =>
          cases hb
          intro hw hl hs hB p e R s m args below meth c2 Q D cs2 base sp C H locs ls hH hS hL
          have hx : i32 x := hs.h
          have ht : (pc : Int) + off = (tgt pc off : Int) := by unfold tgt; omega
          have k1 := fun z => h1 z hw hl hs.t hB p e R s m args below meth c2 Q D cs2 base sp C H locs ls hH hS hL
          have k2 := fun z => h2 z hw hl hs.t hB p e R s m args below meth c2 Q D cs2 base sp C H locs ls hH hS hL
          cases c
          · exact lv_if_eq C.1.1 C.1.2.1 hd ht (fun z => k1 ((eq32 hx i32_0).mp z)) (fun z => k2 (fun z2 => z ((eq32 hx i32_0).mpr z2)))
          · exact lv_if_ne C.1.1 C.1.2.1 hd ht (fun z => k1 (fun z2 => z ((eq32 hx i32_0).mpr z2))) (fun z => k2 (fun z2 => z2 ((eq32 hx i32_0).mp z)))
          · exact lv_if_lt C.1.1 C.1.2.1 hd ht (fun z => k1 ((lt32 hx i32_0).mp z)) (fun z => k2 (fun z2 => z ((lt32 hx i32_0).mpr z2)))
          · exact lv_if_ge C.1.1 C.1.2.1 hd ht (fun z => k1 ((le32 i32_0 hx).mp z)) (fun z => k2 (fun z2 => z ((le32 i32_0 hx).mpr z2)))
          · exact lv_if_gt C.1.1 C.1.2.1 hd ht (fun z => k1 ((lt32 i32_0 hx).mp z)) (fun z => k2 (fun z2 => z ((lt32 i32_0 hx).mpr z2)))
          · exact lv_if_le C.1.1 C.1.2.1 hd ht (fun z => k1 ((le32 hx i32_0).mp z)) (fun z => k2 (fun z2 => z ((le32 hx i32_0).mpr z2)))
        · cases hb
      · next c off y x st1 =>
        split at hb
        · next ho =>
          cases hb
          intro hw hl hs hB p e R s m args below meth c2 Q D cs2 base sp C H locs ls hH hS hL
          have hx : i32 x := hs.t.h
          have hy : i32 y := hs.h
          have ht : (pc : Int) + off = (tgt pc off : Int) := by unfold tgt; omega
          have k1 := fun z => h1 z hw hl hs.t.t hB p e R s m args below meth c2 Q D cs2 base sp C H locs ls hH hS hL
          have k2 := fun z => h2 z hw hl hs.t.t hB p e R s m args below meth c2 Q D cs2 base sp C H locs ls hH hS hL
          cases c
          · exact lv_icmp_eq C.1.1 C.1.2.1 hd ht (fun z => k1 ((eq32 hx hy).mp z)) (fun z => k2 (fun z2 => z ((eq32 hx hy).mpr z2)))
          · exact lv_icmp_ne C.1.1 C.1.2.1 hd ht (fun z => k1 (fun z2 => z ((eq32 hx hy).mpr z2))) (fun z => k2 (fun z2 => z2 ((eq32 hx hy).mp z)))
          · exact lv_icmp_lt C.1.1 C.1.2.1 hd ht (fun z => k1 ((lt32 hx hy).mp z)) (fun z => k2 (fun z2 => z ((lt32 hx hy).mpr z2)))
          · exact lv_icmp_ge C.1.1 C.1.2.1 hd ht (fun z => k1 ((le32 hy hx).mp z)) (fun z => k2 (fun z2 => z ((le32 hy hx).mpr z2)))
          · exact lv_icmp_gt C.1.1 C.1.2.1 hd ht (fun z => k1 ((lt32 hy hx).mp z)) (fun z => k2 (fun z2 => z ((lt32 hy hx).mpr z2)))
          · exact lv_icmp_le C.1.1 C.1.2.1 hd ht (fun z => k1 ((le32 hx hy).mp z)) (fun z => k2 (fun z2 => z ((le32 hx hy).mpr z2)))
        · cases hb
      · cases hb
    · cases hb
/-- the end of a method -/
def rtE (e : AE) (st : List AV) : Option (Option AV) := match e.2.1, st with
  | .return_, [] => some none
  | .ireturn, [Sum.inl x] => some (some (vI x))
  | .lreturn, [Sum.inr (Sum.inl x)] => some (some (vL x))
  | _, _ => none
def rt_ (cs : List AE) (t : AS) : Option (Option AV) := match en cs t.1 with
  | none => none
  | some e => if Nat.beq e.2.2.1 1 = true then rtE e t.2.2.1 else none
theorem rch_ret {t : AS} {rt : Option AV} (hk : cod k = cs) (hr : rt_ cs t = some rt) (hT : retT (rty k) rt) (hc : cN t.2.2.2 = cN w0 + nc ∧ sN t.2.2.2 = sN w0 + ns) (hΦ : Φ rt t.2.2.2) : Rch l E h k w0 nc ns Φ t := by
  unfold rt_ at hr
  split at hr
  · cases hr
  · next e hen =>
    split at hr
    · next hl =>
      have hl := Nat.eq_of_beq_eq_true hl
      obtain ⟨pc, lv, st, w⟩ := t
      dsimp only at hen hr hc hΦ
      have hd := okD (k := k) (by rw [hk]; exact hen)
      obtain ⟨q0, ins, len, x0, a0, b0⟩ := e
      dsimp only at hl hd
      subst hl
      intro hw hl hs hB p e R s m args below meth c Q D cs2 base sp C H locs ls hH hS hL
      have hE := C.2.2.2.2.2.2.2 H locs ls pc ins rt w hΦ hc.1 hc.2 hw
      dsimp only at hH hw hs ⊢
      rw [show cN w - cN w0 = nc by rw [hc.1]; omega, show sN w - sN w0 = ns by rw [hc.2]; omega]
      unfold rtE at hr
      dsimp only at hr
      split at hr
      · cases hr
        exact hE (fun v hv => by cases hv) hH hS hd rfl hT
      · cases hr
        exact hE (fun v hv => by cases hv; exact hs.h) hH hS hd rfl hT
      · cases hr
        exact hE (fun v hv => by cases hv; exact hs.h) hH hS hd rfl hT
      · cases hr
    · cases hr
end RU
