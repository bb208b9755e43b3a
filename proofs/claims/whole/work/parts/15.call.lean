-- CALLS
section AC
variable {p : Program} {l : Launch} {e : Env} {R : Room} {s : State} {m : MethodId} {args : Array Value} {below : List Frame} {meth : Method} {c : Code} {H : Heap} {locs : List Loc} {cells slots mc ms : Nat} {Q : State → Prop} {g : JFrame} {rest : List Value} {Qa : State → Outcome → State → Prop} {free : Addr → Prop}
theorem ap_call (hr : va_Run p l e R s m args below meth c H locs cells slots mc ms g rest Qa free)
    (kk : ∀ (v : Option Value) (st0 t : State) (H1 : Heap) (L : List Loc), st0.heap = H → t.heap = H1 → Qa st0 (.returned v) t → (∀ q ∈ L, free q.base) → W p l e R s m args below meth c H1 (locs ++ L) (cells + mc) (slots + ms) Q { g with pc := g.pc + 3, stack := v.toList ++ rest }) : W p l e R s m args below meth c H locs cells slots Q g := by
  intro T hT X
  obtain ⟨v, st₀, t, T', L, h0, X', hL, e1, e2, hq, st⟩ := hr T hT X
  obtain ⟨t2, a1, b1⟩ := kk v st₀ t T'.heap L h0 e1.symm hq hL T' rfl X'
  exact ⟨t2, st t2 a1, b1⟩
end AC
/-- a receiver is of the class -/
def rcv (w : AW) (r o : Nat) : Bool := match w.1[r]? with
  | some q => Nat.beq q.1 0 && Nat.beq q.2.1 o && Nat.blt q.2.1 13
  | none => Nat.ble 2000 r && Nat.blt r 2010 && Nat.beq o 15
/-- a call: the callee, its arguments, the state behind it but for the answer -/
def clE (e : AE) (pc : Nat) (lv : List (Option AV)) (st : List AV) (w : AW) : Option (Nat × List AV × AS) :=
  if e.2.2.2.2.1 < 174 then
  match e.2.1 with
  | .invokestatic _ => if Nat.beq (knd e.2.2.2.2.1) 0 = true ∧ Nat.beq (st.take (nar e.2.2.2.2.1)).length (nar e.2.2.2.2.1) = true ∧ catS (st.drop (nar e.2.2.2.2.1)) ≤ 8 then some (e.2.2.2.2.1, (st.take (nar e.2.2.2.2.1)).reverse, (pc + 3, lv, st.drop (nar e.2.2.2.2.1), w)) else none
  | .invokespecial _ => if Nat.beq (knd e.2.2.2.2.1) 2 = true ∧ Nat.beq (st.take (nar e.2.2.2.2.1)).length (nar e.2.2.2.2.1) = true then (match st.drop (nar e.2.2.2.2.1) with
    | Sum.inr (Sum.inr (some r)) :: rest => if r < 5000 ∧ catS rest ≤ 8 then some (e.2.2.2.2.1, vR r :: (st.take (nar e.2.2.2.2.1)).reverse, (pc + 3, lv, rest, w)) else none
    | _ => none) else none
  | .invokevirtual _ => if Nat.beq (knd e.2.2.2.2.1) 1 = true ∧ Nat.beq (st.take (nar e.2.2.2.2.1)).length (nar e.2.2.2.2.1) = true then (match st.drop (nar e.2.2.2.2.1) with
    | Sum.inr (Sum.inr (some r)) :: rest => if catS rest ≤ 8 ∧ rcv w r (own e.2.2.2.2.1) = true then some (e.2.2.2.2.1, vR r :: (st.take (nar e.2.2.2.2.1)).reverse, (pc + 3, lv, rest, w)) else none
    | _ => none) else none
  | _ => none
  else none
def cl (cs : List AE) (t : AS) : Option (Nat × List AV × AS) := match en cs t.1 with
  | none => none
  | some e => if Nat.beq e.2.2.1 3 = true then clE e t.1 t.2.1 t.2.2.1 t.2.2.2 else none
section RC
variable {l : Launch} {E : AX} {h k : Nat} {w0 : AW} {nc ns : Nat} {Φ : Option AV → AW → Prop} {cs : List AE} {h' k' nc' ns' : Nat} {Φ' : Option AV → AW → Prop}
theorem pc_blind {D : va_G} {cs : ClassId × ClassId × ClassId} {base : Nat} {sp : Nat → Value} {w : AW} {av : List Value} : FrameBlind (va_Pc av (fun U => hW D cs base sp w U.heap ∧ va_K D classes (tysO cs) U ∧ Sx E base sp U U.heap ∧ base ≤ U.heap.size)) :=
  fun a U g mk q => ⟨q.1, q.2.1, va_K.moved (u := U) (U := U.calling g mk a) (Vm.Alike.refl U.vm) q.2.2.1, Sx.same (s := U) (U := U.calling g mk a) rfl q.2.2.2.1, q.2.2.2.2⟩
/-- behind a call, whichever it is -/
theorem rch_back {p : Program} {e : Env} {R : Room} {s : State} {m : MethodId} {args : Array Value} {below : List Frame} {meth : Method} {c : Code} {Q : State → Prop} {D : va_G} {cs2 : ClassId × ClassId × ClassId} {base : Nat} {sp : Nat → Value} {H : Heap} {locs : List Loc} {ls : Array Slot} {pc : Nat} {lv : List (Option AV)} {st rest : List AV} {w : AW} {av : List Value}
    (C : Cx l E h k w0 nc ns Φ p e R s m args below meth c Q D cs2 base sp) (hl : okL lv) (hs : okS rest) (hB : inB w0 nc ns w) (hS : va_S (fun q => base ≤ q) s.heap H locs) (hL : hasL base sp ls (mxl k) lv) (hb : cN w + nc' ≤ cN w0 + nc ∧ sN w + ns' ≤ sN w0 + ns)
    (kk : ∀ rt w', Φ' rt w' → cN w' = cN w + nc' → sN w' = sN w + ns' → Rch l E h k w0 nc ns Φ (pc + 3, lv, rt.toList ++ rest, w'))
    (hr : va_Run p l e R s m args below meth c H locs (cN w - cN w0) (sN w - sN w0) nc' ns' (F0 m pc ls (st.map (tr base sp))) (rest.map (tr base sp)) ((fun _ st o t => (∃ (rt : Option AV) (wf : AW), Φ' rt wf ∧ cN wf = cN w + nc' ∧ sN wf = sN w + ns' ∧ okW wf ∧ (∀ v ∈ rt, okv v) ∧ o = .returned (rt.map (tr base sp)) ∧ hW D cs2 base sp wf t.heap) ∧ va_F (fun q => base ≤ q) st t : Array Value → State → Outcome → State → Prop) av.toArray) (fun q => base ≤ q)) :
    W p l e R s m args below meth c H locs (cN w - cN w0) (sN w - sN w0) Q (F0 m pc ls (st.map (tr base sp))) := by
  refine ap_call hr (fun v st0 t H1 L g0 g1 g2 g3 => ?_)
  obtain ⟨⟨rt, wf, e1, e2, e3, e4, e5, e6, e7⟩, hF⟩ := g2
  have hv : v = rt.map (tr base sp) := by injection e6
  subst hv
  have hB2 : inB w0 nc ns wf := by
    unfold inB at hB ⊢
    rw [e2, e3]
    omega
  have hS2 : va_S (fun q => base ≤ q) s.heap H1 (locs ++ L) := by
    unfold va_F at hF
    rw [g0, g1] at hF
    refine ⟨Nat.le_trans hS.1 hF.1, fun q h1 h2 => (hF.2 q (Nat.lt_of_lt_of_le h1 hS.1) h2).trans (hS.2.1 q h1 h2), fun q hq => ?_⟩
    rcases List.mem_append.mp hq with h | h
    · exact hS.2.2 q h
    · exact g3 q h
  have hs2 : okS (rt.toList ++ rest) := fun v hv => by
    rcases List.mem_append.mp hv with h | h
    · exact e5 v (Option.mem_toList.mp h)
    · exact hs v h
  have hK := kk rt wf e1 e2 e3 e4 hl hs2 hB2 p e R s m args below meth c Q D cs2 base sp C H1 (locs ++ L) ls (by rw [← g1]; exact e7) hS2 hL
  have hcn : cN w - cN w0 + nc' = cN wf - cN w0 := by unfold inB at hB; omega
  have hsn : sN w - sN w0 + ns' = sN wf - sN w0 := by unfold inB at hB; omega
  rw [hcn, hsn]
  have e8 : (Option.map (tr base sp) rt).toList ++ rest.map (tr base sp) = (rt.toList ++ rest).map (tr base sp) := by cases rt <;> simp
  show W p l e R s m args below meth c H1 (locs ++ L) _ _ Q (F0 m (pc + 3) ls ((Option.map (tr base sp) rt).toList ++ rest.map (tr base sp)))
  rw [e8]
  exact hK
theorem rch_call {t t1 : AS} {as : List AV} (hk : cod k = cs) (hc : cl cs t = some (k', as, t1)) (hcon : Con l E h' k' as t.2.2.2 nc' ns' Φ') (hh : h' + 1 ≤ h) (hb : cN t.2.2.2 + nc' ≤ cN w0 + nc ∧ sN t.2.2.2 + ns' ≤ sN w0 + ns)
    (kk : ∀ rt w', Φ' rt w' → cN w' = cN t.2.2.2 + nc' → sN w' = sN t.2.2.2 + ns' → Rch l E h k w0 nc ns Φ (t1.1, t1.2.1, rt.toList ++ t1.2.2.1, w')) : Rch l E h k w0 nc ns Φ t := by
  unfold cl at hc
  split at hc
  · cases hc
  · next e hen =>
    split at hc
    · next hl3 =>
      have hl3 := Nat.eq_of_beq_eq_true hl3
      obtain ⟨pc, lv, st, w⟩ := t
      dsimp only at hen hc hcon hb kk
      have hen : en (cod k) pc = some e := by rw [hk]; exact hen
      have hd := okD hen
      have hok := okK k e (en_mem hen).1
      obtain ⟨q0, ins, len, x0, a0, b0⟩ := e
      dsimp only at hl3 hd
      subst hl3
      unfold okE at hok
      rw [Bool.and_eq_true] at hok
      have hok := hok.2
      unfold clE at hc
      dsimp only at hc
      split at hc
      · next h174 =>
        have hmw := mwK h174
        have hcw := cwK a0 h174
        split at hc
        · -- static
          next i =>
          split at hc
          · next hcc =>
            obtain ⟨g1, g2, g3⟩ := hcc
            cases hc
            have g1 := Nat.eq_of_beq_eq_true g1
            have g2 := Nat.eq_of_beq_eq_true g2
            intro hw hl hs hB p e R s m args below meth c Q D cs2 base sp C H locs ls hH hS hL
            have hsr : okS (st.take (nar k')).reverse := fun v hv => hs v (List.mem_of_mem_take (List.mem_reverse.mp hv))
            have hsd : okS (st.drop (nar k')) := fun v hv => hs v (List.mem_of_mem_drop hv)
            have hM := hcon hw hsr D cs2 base sp C.2.2.2.2.1
            have hstk : (F0 m pc ls (st.map (tr base sp))).stack = ((st.take (nar k')).reverse.map (tr base sp)).reverse ++ (st.drop (nar k')).map (tr base sp) := by
              show st.map (tr base sp) = _
              rw [List.map_reverse, List.reverse_reverse, ← List.map_append, List.take_append_drop]
            have hF := C.2.2.1
            have hpre : PreS s H (va_Pc ((st.take (nar k')).reverse.map (tr base sp)) (fun U => hW D cs2 base sp w U.heap ∧ va_K D classes (tysO cs2) U ∧ Sx E base sp U U.heap ∧ base ≤ U.heap.size)) ((st.take (nar k')).reverse.map (tr base sp)) :=
              ⟨pc_blind, fun U hU hWm => ⟨rfl, by rw [hU]; exact hH, va_K.moved hWm.alike C.2.2.2.1, by rw [hU]; exact Sx.go C.2.2.2.2.2.1 hWm hS, by rw [hU]; exact Nat.le_trans C.2.2.2.2.2.2.1 hS.1⟩⟩
            have hlenA : ((st.take (nar k')).reverse.map (tr base sp)).length = nar k' := by rw [List.length_map, List.length_reverse]; exact g2
            have hstat : Jvm.Cond.static (ynm k') ∈ tb := by have := hmw.2.1; rw [if_pos g1] at this; exact this
            have hcells : cN w - cN w0 + nc' ≤ R.cells ∧ sN w - sN w0 + ns' ≤ R.slots := by
              unfold inB at hB
              dsimp only at hB
              omega
            rcases of_decide_eq_true hok with hok | hok | hok | hok
            · have hok : k' = 999 := hok
              omega
            · have hlk := mls_ok _ hok
              refine rch_back C hl hsd hB hS hL hb kk (av := (st.take (nar k')).reverse.map (tr base sp)) ?_
              exact va_runS ⟨C.1.1, C.1.2.1, C.1.2.2.1, C.1.2.2.2.1, C.1.2.2.2.2⟩ hM (va_cwS (nar k') C.1.2.2.2.2 (tb_GI (fun c hc => by
                simp only [va_wsS, List.mem_append, List.mem_cons, List.not_mem_nil, or_false] at hc
                rcases hc with (rfl | rfl | rfl) | rfl | hc
                · exact hlk
                · exact hstat
                · exact hmw.1
                · exact hcw
                · exact hc)) rfl rfl rfl hmw.2.2.2.1 ⟨by show h' + 1 ≤ R.frames; omega, by show 8 + (mxl k' + 11) + 64 * h' ≤ R.locals; have := hmw.2.2.2.2.2.2.2; omega⟩) hpre rfl hlenA hL.1 hstk (by show 2 * 0 + _ ≤ 8; rw [trS_cat C.2.2.2.2.1]; omega) hd hcells
            · exact absurd hok (spl_no k _ k' h174)
            · refine rch_back C hl hsd hB hS hL hb kk (av := (st.take (nar k')).reverse.map (tr base sp)) ?_
              have h91 : rn_ (own k) = RX5 ∧ _ = 63 ∧ k' = 91 := nsl_at hok
              exact va_runSN ⟨C.1.1, C.1.2.1, C.1.2.2.1, C.1.2.2.2.1, C.1.2.2.2.2⟩ hM ⟨va_cnB (host := RX11) (nar k') C.1.2.2.2.2 (tb_GI (fun c hc => by
                rcases List.mem_cons.mp hc with rfl | hc
                · exact hcw
                · exact hc)) rfl rfl rfl (by have := C.2.2.2.2.2.1.2.2.2.1; rw [h91.1, h91.2.1, h91.2.2]; exact this) (C.1.2.2.2.2 _ hmw.1) hmw.2.2.2.1 ⟨by show h' + 1 ≤ R.frames; omega, by show 8 + (mxl k' + 11) + 64 * h' ≤ R.locals; have := hmw.2.2.2.2.2.2.2; omega⟩, C.1.2.2.2.2 _ hstat, trivial⟩ hpre rfl hlenA hL.1 hstk (by show 2 * 0 + _ ≤ 8; rw [trS_cat C.2.2.2.2.1]; omega) hd hcells
          · cases hc
        · -- special
          next i =>
          split at hc
          · next hcc =>
            obtain ⟨g1, g2⟩ := hcc
            have g1 := Nat.eq_of_beq_eq_true g1
            have g2 := Nat.eq_of_beq_eq_true g2
            split at hc
            · next r rest hdr =>
              split at hc
              · next g3 =>
                cases hc
                intro hw hl hs hB p e R s m args below meth c Q D cs2 base sp C H locs ls hH hS hL
                have hsr : okS (vR r :: (st.take (nar k')).reverse) := okS.c (v := vR r) trivial (fun v hv => hs v (List.mem_of_mem_take (List.mem_reverse.mp hv)))
                have hsd : okS rest := fun v hv => hs v (List.mem_of_mem_drop (by rw [hdr]; exact List.mem_cons_of_mem _ hv))
                have hM := hcon hw hsr D cs2 base sp C.2.2.2.2.1
                obtain ⟨b, hb9⟩ := rv_ref (base := base) C.2.2.2.2.1 g3.1
                have hstk : (F0 m pc ls (st.map (tr base sp))).stack = ((st.take (nar k')).reverse.map (tr base sp)).reverse ++ .ref b :: rest.map (tr base sp) := by
                  show st.map (tr base sp) = _
                  rw [← hb9, List.map_reverse, List.reverse_reverse]
                  have e9 : st = st.take (nar k') ++ vR r :: rest := by rw [← hdr, List.take_append_drop]
                  exact (congrArg (List.map (tr base sp)) e9).trans (by rw [List.map_append, List.map_cons]; rfl)
                have hF := C.2.2.1
                have hM2 : (vR r :: (st.take (nar k')).reverse).map (tr base sp) = .ref b :: (st.take (nar k')).reverse.map (tr base sp) := by
                  rw [List.map_cons]; exact congrArg (· :: _) hb9
                rw [hM2] at hM
                have hpre : PreS s H (va_Pc (.ref b :: (st.take (nar k')).reverse.map (tr base sp)) (fun U => hW D cs2 base sp w U.heap ∧ va_K D classes (tysO cs2) U ∧ Sx E base sp U U.heap ∧ base ≤ U.heap.size)) (.ref b :: (st.take (nar k')).reverse.map (tr base sp)) :=
                  ⟨pc_blind, fun U hU hWm => ⟨rfl, by rw [hU]; exact hH, va_K.moved hWm.alike C.2.2.2.1, by rw [hU]; exact Sx.go C.2.2.2.2.2.1 hWm hS, by rw [hU]; exact Nat.le_trans C.2.2.2.2.2.2.1 hS.1⟩⟩
                have hlenA : ((st.take (nar k')).reverse.map (tr base sp)).length = nar k' := by rw [List.length_map, List.length_reverse]; exact g2
                have hinst : Jvm.Cond.instanceMethod (ynm k') ∈ tb := by have := hmw.2.1; rw [if_neg (by omega)] at this; exact this
                have hcells : cN w - cN w0 + nc' ≤ R.cells ∧ sN w - sN w0 + ns' ≤ R.slots := by
                  unfold inB at hB
                  dsimp only at hB
                  omega
                rcases of_decide_eq_true hok with hok | hok | hok
                · have hok : k' = 999 := hok
                  omega
                · have hlk := mls_ok _ hok
                  have hrt := rty_init k' h174 g1
                  rw [hrt] at hM hcw
                  refine rch_back C hl hsd hB hS hL hb kk (av := .ref b :: (st.take (nar k')).reverse.map (tr base sp)) ?_
                  exact va_runI ⟨C.1.1, C.1.2.1, C.1.2.2.1, C.1.2.2.2.1, C.1.2.2.2.2⟩ hM (cwI (nar k') C.1.2.2.2.2 (tb_GI (fun c hc => by
                    rcases List.mem_cons.mp hc with rfl | hc
                    · exact hcw
                    · exact hc)) rfl rfl rfl (C.1.2.2.2.2 _ hmw.1) (C.1.2.2.2.2 _ hlk) (C.1.2.2.2.2 _ hinst) (hmw.2.2.2.2.2.2.1 g1) hmw.2.2.2.1 ⟨by show h' + 1 ≤ R.frames; omega, by show 8 + (mxl k' + 11) + 64 * h' ≤ R.locals; have := hmw.2.2.2.2.2.2.2; omega⟩) hpre rfl hlenA hL.1 hstk (by show 2 * 0 + _ ≤ 8; rw [trS_cat C.2.2.2.2.1]; omega) hd hcells
                · exact absurd hok (spl_no k _ k' h174)
              · cases hc
            · cases hc
          · cases hc
        · -- virtual
          next i =>
          split at hc
          · next hcc =>
            obtain ⟨g1, g2⟩ := hcc
            have g1 := Nat.eq_of_beq_eq_true g1
            have g2 := Nat.eq_of_beq_eq_true g2
            split at hc
            · next r rest hdr =>
              split at hc
              · next g3 =>
                cases hc
                intro hw hl hs hB p e R s m args below meth c Q D cs2 base sp C H locs ls hH hS hL
                have hsr : okS (vR r :: (st.take (nar k')).reverse) := okS.c (v := vR r) trivial (fun v hv => hs v (List.mem_of_mem_take (List.mem_reverse.mp hv)))
                have hsd : okS rest := fun v hv => hs v (List.mem_of_mem_drop (by rw [hdr]; exact List.mem_cons_of_mem _ hv))
                have hM := hcon hw hsr D cs2 base sp C.2.2.2.2.1
                have hrecv : ∃ b, rv base sp r = .ref b ∧ ∃ cell : Cell, H[b]? = some cell ∧ cell.vm.isStatics = false ∧ s.vm.findClass (ynm k').cls = some cell.cls := by
                  have g4 := g3.2
                  unfold rcv at g4
                  split at g4
                  · next q hq =>
                    obtain ⟨q1, q2, q3⟩ := q
                    simp only [Bool.and_eq_true] at g4
                    have z1 := Nat.eq_of_beq_eq_true g4.1.1
                    have z2 := Nat.eq_of_beq_eq_true g4.1.2
                    subst z1
                    subst z2
                    have z3 : own k' < 13 := Nat.lt_of_succ_le (Nat.le_of_ble_eq_true g4.2)
                    have := va_recv (q := (rn_ (own k'), clT.getD (own k') TX0, (fTL.getD (own k') []).length)) C.2.2.2.1 hH.2.2 (cls_at (own k') z3) (wsO_at hq)
                    rw [hmw.2.2.2.2.2.1] at this
                    exact ⟨base + r, rv_lt (lay_lt hH hq), this⟩
                  · simp only [Bool.and_eq_true] at g4
                    have z1 : 2000 ≤ r := Nat.le_of_ble_eq_true g4.1.1
                    have z2 : r < 2010 := Nat.lt_of_succ_le (Nat.le_of_ble_eq_true g4.1.2)
                    have z3 := Nat.eq_of_beq_eq_true g4.2
                    obtain ⟨-, -, -, -, -, ⟨⟨adK, adV, h1, h2, h3⟩, -⟩, -⟩ := id C
                    have e1 : rv base sp r = .ref (adK (r - 2000)) := by
                      unfold rv
                      rw [if_neg (by omega), ← (h1 (r - 2000) (by omega)).1]
                      exact congrArg sp (by omega)
                    have := vk_recv h2 (show r - 2000 < 10 by omega) hS
                    refine ⟨adK (r - 2000), e1, ?_⟩
                    rw [← hmw.2.2.2.2.2.1, z3]
                    exact this
                obtain ⟨b, hb9, hrecv⟩ := hrecv
                have hstk : (F0 m pc ls (st.map (tr base sp))).stack = ((st.take (nar k')).reverse.map (tr base sp)).reverse ++ .ref b :: rest.map (tr base sp) := by
                  show st.map (tr base sp) = _
                  rw [← hb9, List.map_reverse, List.reverse_reverse]
                  have e9 : st = st.take (nar k') ++ vR r :: rest := by rw [← hdr, List.take_append_drop]
                  exact (congrArg (List.map (tr base sp)) e9).trans (by rw [List.map_append, List.map_cons]; rfl)
                have hF := C.2.2.1
                have hM2 : (vR r :: (st.take (nar k')).reverse).map (tr base sp) = .ref b :: (st.take (nar k')).reverse.map (tr base sp) := by
                  rw [List.map_cons]; exact congrArg (· :: _) hb9
                rw [hM2] at hM
                have hpre : PreV s H (ynm k').cls b (va_Pc (.ref b :: (st.take (nar k')).reverse.map (tr base sp)) (fun U => hW D cs2 base sp w U.heap ∧ va_K D classes (tysO cs2) U ∧ Sx E base sp U U.heap ∧ base ≤ U.heap.size)) ((st.take (nar k')).reverse.map (tr base sp)) :=
                  ⟨pc_blind, hrecv, fun U hU hWm => ⟨rfl, by rw [hU]; exact hH, va_K.moved hWm.alike C.2.2.2.1, by rw [hU]; exact Sx.go C.2.2.2.2.2.1 hWm hS, by rw [hU]; exact Nat.le_trans C.2.2.2.2.2.2.1 hS.1⟩⟩
                have hlenA : ((st.take (nar k')).reverse.map (tr base sp)).length = nar k' := by rw [List.length_map, List.length_reverse]; exact g2
                have hinst : Jvm.Cond.instanceMethod (ynm k') ∈ tb := by have := hmw.2.1; rw [if_neg (by omega)] at this; exact this
                have hcells : cN w - cN w0 + nc' ≤ R.cells ∧ sN w - sN w0 + ns' ≤ R.slots := by
                  unfold inB at hB
                  dsimp only at hB
                  omega
                have hlk := mls_ok _ (of_decide_eq_true hok)
                refine rch_back C hl hsd hB hS hL hb kk (av := .ref b :: (st.take (nar k')).reverse.map (tr base sp)) ?_
                exact va_runV ⟨C.1.1, C.1.2.1, C.1.2.2.1, C.1.2.2.2.1, C.1.2.2.2.2⟩ hM (cwV (nar k') C.1.2.2.2.2 (tb_GI (fun c hc => by
                  simp only [wsV, List.mem_append, List.mem_cons, List.not_mem_nil, or_false] at hc
                  rcases hc with (rfl | rfl | rfl | rfl) | rfl | hc
                  · exact hlk
                  · exact hinst
                  · exact hmw.2.2.1 g1
                  · exact hmw.1
                  · exact hcw
                  · exact hc)) rfl rfl rfl ⟨rfl, hmw.2.2.2.1⟩ ⟨by show h' + 1 ≤ R.frames; omega, by show 8 + (mxl k' + 11) + 64 * h' ≤ R.locals; have := hmw.2.2.2.2.2.2.2; omega⟩) hpre rfl hlenA hL.1 hstk (by show 2 * 0 + _ ≤ 8; rw [trS_cat C.2.2.2.2.1]; omega) hd hcells
              · cases hc
            · cases hc
          · cases hc
        · cases hc
      · cases hc
    · cases hc
end RC
