-- A METHOD'S WHOLE BODY, NEW CELLS, SWITCHES
section RE
variable {l : Launch} {E : AX} {h k : Nat} {w0 : AW} {nc ns : Nat} {Φ : Option AV → AW → Prop} {cs : List AE} {w : AW} {args : List AV}
theorem okL_en (hs : okS args) (n : Nat) : okL (enL args n) := by
  intro v hv
  unfold enL at hv
  rcases List.mem_append.mp hv with h | h
  · obtain ⟨u, hu, h⟩ := List.mem_flatMap.mp h
    split at h
    · simp at h; subst h; exact hs _ hu
    · simp at h; subst h; exact hs _ hu
  · have := (List.mem_replicate.mp h).2
    cases this
theorem con_intro (hk : k < 174) (hlen : (enA args).length ≤ mxl k) (kk : Rch l E h k w nc ns Φ (0, enL args (mxl k), [], w)) : Con l E h k args w nc ns Φ := by
  intro hw hs D cs base sp hsp
  have hmw := mwK hk
  refine Met.ofW (cc := byt k) (maxL := mxl k) (ret := rty k) hmw.2.2.2.2.1 rfl ?_
  intro p e s m av below meth c s₁ B hml hv
  obtain ⟨rfl, hH, hK, hX, hbs⟩ := hv
  have hts := atoms_spec (ws := Jvm.Cond.code (ynm k) (byt k) (mxl k) (rty k) :: tb) B.pre
  have hown : s.vm.findClass (ynm k).cls = some m.cls := findClass_of_methodNamed B.named
  have hlocks := B.notSynchronized
  have hr := B.returns
  rw [lg_entry_eq]
  have hl := hasL_entry (base := base) hsp args hlen
  generalize (lg_sl (args.map (tr base sp)) ++ List.replicate (mxl k - (lg_sl (args.map (tr base sp))).length) Slot.unset).toArray = ls at hl ⊢
  have C : Cx l E h k w nc ns Φ p e { frames := h, cells := nc, slots := ns, locals := 64 * h } s m (args.map (tr base sp)).toArray below meth c (MQ below (fun _ st o t => (∃ (rt : Option AV) (wf : AW), Φ rt wf ∧ cN wf = cN w + nc ∧ sN wf = sN w + ns ∧ okW wf ∧ (∀ v ∈ rt, okv v) ∧ o = .returned (rt.map (tr base sp)) ∧ hW D cs base sp wf t.heap) ∧ va_F (fun q => base ≤ q) st t) (args.map (tr base sp)).toArray s nc ns (fun q => base ≤ q)) D cs base sp := by
    refine ⟨⟨B.exec, B.bytes, hml, by rw [hmw.2.2.2.2.2.1]; exact hown, fun c hc => hts c (List.mem_cons_of_mem _ hc)⟩, fun h2 => (name_of_methodNamed B.named B.method).1.trans (hmw.2.2.2.2.2.2.1 h2), ⟨Nat.le_refl _, Nat.le_refl _, Nat.le_refl _, Nat.le_refl _⟩, hK, hsp, hX, hbs, ?_⟩
    intro H locs ls2 pc ins rt wf hΦ hcn hsn hw2 hrt hH2 hS2 hd hri hrT
    have hq : ∀ t : State, t.heap = H → s.WarmedH t.vm → (fun (_ : Array Value) (st : State) (o : Outcome) (t : State) => (∃ (rt : Option AV) (wf : AW), Φ rt wf ∧ cN wf = cN w + nc ∧ sN wf = sN w + ns ∧ okW wf ∧ (∀ v ∈ rt, okv v) ∧ o = .returned (rt.map (tr base sp)) ∧ hW D cs base sp wf t.heap) ∧ va_F (fun q => base ≤ q) st t) (args.map (tr base sp)).toArray s (.returned (rt.map (tr base sp))) t := fun t ht _ => ⟨⟨rt, wf, hΦ, hcn, hsn, hw2, hrt, rfl, by rw [ht]; exact hH2⟩, hS2.F ht⟩
    unfold retI at hri
    split at hri
    · generalize rty k = ty at hr hrT
      unfold retT at hrT
      split at hrT <;> first | (cases hrT; done) | skip
      · exact W.vret B.exec B.bytes hr hq hS2.2.2 hd hlocks
      all_goals (rename_i h9; first | (cases h9; done) | exact hrT.elim)
    · next x =>
      have hx : i32 x := hrt _ rfl
      have key : ∀ ty : FieldType, rty k = some ty → narrow ty (.int (Int32.ofInt x)) = .int (Int32.ofInt x) → W p l e { frames := h, cells := nc, slots := ns, locals := 64 * h } s m (args.map (tr base sp)).toArray below meth c H locs nc ns (MQ below (fun _ st o t => (∃ (rt : Option AV) (wf : AW), Φ rt wf ∧ cN wf = cN w + nc ∧ sN wf = sN w + ns ∧ okW wf ∧ (∀ v ∈ rt, okv v) ∧ o = .returned (rt.map (tr base sp)) ∧ hW D cs base sp wf t.heap) ∧ va_F (fun q => base ≤ q) st t) (args.map (tr base sp)).toArray s nc ns (fun q => base ≤ q)) (F0 m pc ls2 [.int (Int32.ofInt x)]) := fun ty h1 h2 => W.zret B.exec B.bytes (hr.trans h1) h2 hq hS2.2.2 hd hlocks
      cases hty : rty k with
      | none => rw [hty] at hrT; exact hrT.elim
      | some ty =>
        rw [hty] at hrT
        cases ty with
        | int => exact key _ hty rfl
        | boolean => exact key _ hty (nar_bool hrT).1
        | char => exact key _ hty (nar_char hrT)
        | byte => exact key _ hty (nar_byte hrT)
        | _ => exact hrT.elim
    · next x =>
      cases hty : rty k with
      | none => rw [hty] at hrT; exact hrT.elim
      | some ty =>
        rw [hty] at hrT
        cases ty with
        | long => exact W.lret B.exec B.bytes (hr.trans hty) hq hS2.2.2 hd hlocks
        | _ => exact hrT.elim
    · cases hri
  have := kk hw (okL_en hs _) (fun v hv => absurd hv List.not_mem_nil) ⟨⟨Nat.le_refl _, Nat.le_add_right _ _⟩, Nat.le_refl _, Nat.le_add_right _ _⟩ p e _ s m _ below meth c _ D cs base sp C s.heap [] ls hH va_S.rf hl
  simp only [Nat.sub_self] at this
  exact this
end RE
