-- NEW CELLS, SWITCHES
def tyN (t : ArrayType) : Nat := match t with
  | .int => 0
  | .boolean => 1
  | .long => 2
  | _ => 9
def nwE (e : AE) (pc : Nat) (lv : List (Option AV)) (st : List AV) (w : AW) : Option AS := match e.2.1 with
  | .new _ => if e.2.2.2.2.1 < 13 ∧ e.2.2.1 = 3 then some (pc + 3, lv, vR w.1.length :: st, uN w (0, e.2.2.2.2.1, (fTL.getD e.2.2.2.2.1 []).length)) else none
  | .newarray t => match st with
    | Sum.inl n :: st => if tyN t < 3 ∧ 0 ≤ n ∧ n ≤ 100000 ∧ e.2.2.1 = 2 then some (pc + 2, lv, vR w.1.length :: st, uN w (1, tyN t, n.toNat)) else none
    | _ => none
  | _ => none
def nw (cs : List AE) (t : AS) : Option AS := match en cs t.1 with
  | none => none
  | some e => nwE e t.1 t.2.1 t.2.2.1 t.2.2.2
theorem vpV_map {g : Nat → Value} {n j : Nat} (h : j < n) : vp_V ((List.range n).map g) j = g j := by simp [vp_V, h]
theorem cN_uN (w : AW) (q : Nat × Nat × Nat) : cN (uN w q) = cN w + 1 := by simp [cN, uN]
theorem sN_uN (w : AW) (q : Nat × Nat × Nat) : sN (uN w q) = sN w + q.2.2 := by simp [sN, uN]
theorem ct_uN {base : Nat} {sp : Nat → Value} {cs : ClassId × ClassId × ClassId} {w : AW} {q : Nat × Nat × Nat} {k : Nat} (h : k ≠ w.1.length) (q' : Nat × Nat × Nat) : ct base sp cs (uN w q) k q' = ct base sp cs w k q' :=
  ct_congr (w := w) (w' := uN w q) (fun _ => by simp [wI, uN, h]) (fun _ => by simp [wL, uN, h]) (fun _ => by simp [wR, uN, h]) q'
theorem hW_uN {D : va_G} {cs : ClassId × ClassId × ClassId} {base : Nat} {sp : Nat → Value} {w : AW} {H H1 : Heap} (hH : hW D cs base sp w H) {q : Nat × Nat × Nat} (hlen : w.1.length < 1000) (z : H1.size = H.size + 1) (o1 : ∀ a : Nat, a < H.size → H1[a]? = H[a]?) (hat : va_at D classes (base + w.1.length, ct base sp cs (uN w q) w.1.length q) H1) : hW D cs base sp (uN w q) H1 := by
  refine ⟨by rw [z, hH.1]; show _ = base + (w.1 ++ [q]).length; rw [List.length_append, List.length_singleton]; omega, by show (w.1 ++ [q]).length ≤ 1000; rw [List.length_append, List.length_singleton]; omega, ?_⟩
  intro k p hp
  obtain ⟨q', hq', rfl⟩ := wsO_of hp
  have hq' : (w.1 ++ [q])[k]? = some q' := hq'
  by_cases hk : k < w.1.length
  · rw [List.getElem?_append_left hk] at hq'
    rw [ct_uN (by omega)]
    have h3 := hH.2.2 k _ (wsO_at hq')
    exact h3.kept (o1 _ h3.lt)
  · rw [List.getElem?_append_right (by omega)] at hq'
    have hk2 : k - w.1.length = 0 := by
      have := (List.getElem?_eq_some_iff.mp hq').1
      simp at this
      omega
    rw [hk2] at hq'
    have hk3 : k = w.1.length := by omega
    cases hq'
    rw [hk3]
    exact hat
section RN
variable {l : Launch} {E : AX} {h k : Nat} {w0 : AW} {nc ns : Nat} {Φ : Option AV → AW → Prop} {cs : List AE}
theorem rch_new {t t' : AS} (hk : cod k = cs) (hn : nw cs t = some t') (hb : cN t'.2.2.2 ≤ cN w0 + nc ∧ sN t'.2.2.2 ≤ sN w0 + ns) (hlen : t.2.2.2.1.length < 1000) (kk : Rch l E h k w0 nc ns Φ t') : Rch l E h k w0 nc ns Φ t := by
  unfold nw at hn
  split at hn
  · cases hn
  · next e hen =>
    obtain ⟨pc, lv, st, w⟩ := t
    dsimp only at hen hn hlen
    have hen : en (cod k) pc = some e := by rw [hk]; exact hen
    have hd := okD hen
    have hok := okK k e (en_mem hen).1
    obtain ⟨q0, ins, len, x0, a0, b0⟩ := e
    dsimp only at hd
    unfold okE at hok
    rw [Bool.and_eq_true] at hok
    have hok := hok.2
    unfold nwE at hn
    cases ins with
    | new i =>
      dsimp only at hn
      split at hn
      · next hc =>
        obtain ⟨h13, h3⟩ := hc
        subst h3
        cases hn
        rw [cN_uN, sN_uN] at hb
        have hm : (own k, i, a0) ∈ cks := by
          rcases of_decide_eq_true hok with h9 | h9
          · have h9 : 99 ≤ a0 := h9
            omega
          · exact h9
        have hlk := cks_ok _ hm
        obtain ⟨hins, hini⟩ := ins_in a0 h13
        intro hw hl hs hB p e R s m args below meth c Q D cs2 base sp C H locs ls hH hS hL
        have hF := C.2.2.1
        have hKn := C.2.2.2.1.1 a0 _ (cls_at a0 h13)
        unfold inB at hB
        dsimp only at hB
        refine W.newcK C.1.1 C.1.2.1 C.1.2.2.2.1 (C.1.2.2.2.2 _ hlk) (C.1.2.2.2.2 _ hins) (C.1.2.2.2.2 _ hini) rfl hd (show cN w - cN w0 + 1 ≤ R.cells by omega) (show sN w - sN w0 + (fTL.getD a0 []).length ≤ R.slots by dsimp only at hb; omega) hKn.2.1 rfl fun H1 kC hkC e1 z1 o1 => ?_
        have hsz : H.size = base + w.1.length := hH.1
        have hH1 : hW D cs2 base sp (uN w (0, a0, (fTL.getD a0 []).length)) H1 := by
          refine hW_uN hH hlen z1 o1 ?_
          refine ⟨_, cls_at a0 h13, ?_⟩
          rw [hsz] at e1
          refine (u_born (tyf a0) C.1.2.2.2.2 (lay_in a0 h13) hKn hkC e1 (ty_ok a0 h13)).to (fun j hj => ?_)
          have hj : j < (fTL.getD a0 []).length := hj
          have hf := fck_ok h13 hj
          show defaultValue (tyf a0 j) = vp_V ((List.range (fTL.getD a0 []).length).map (fv base sp (uN w (0, a0, (fTL.getD a0 []).length)) w.1.length a0)) j
          rw [vpV_map hj]
          have eI : wI (uN w (0, a0, (fTL.getD a0 []).length)) w.1.length j = 0 := by simp [wI, uN]
          have eL : wL (uN w (0, a0, (fTL.getD a0 []).length)) w.1.length j = 0 := by simp [wL, uN]
          have eR : wR (uN w (0, a0, (fTL.getD a0 []).length)) w.1.length j = none := by simp [wR, uN]
          unfold fv
          rw [eI, eL, eR]
          unfold fck at hf
          split at hf
          · next h1 h2 => rw [h1, h2]; rfl
          · next h1 h2 => rw [h1, h2]; rfl
          · next h1 h2 => rw [h1, h2]; rfl
          · next h1 h2 => rw [h1, h2]; rfl
          · next h1 h2 => rw [h1, h2]; rfl
          · cases hf
        have hK := kk (okW_uN hw) hl (okS.c (v := vR w.1.length) trivial hs) (by unfold inB; dsimp only; rw [cN_uN, sN_uN]; dsimp only at hb ⊢; omega) p e R s m args below meth c Q D cs2 base sp C H1 locs ls hH1 ⟨Nat.le_trans hS.1 (by omega), fun q h1 h2 => (o1 q (Nat.lt_of_lt_of_le h1 hS.1)).trans (hS.2.1 q h1 h2), hS.2.2⟩ hL
        dsimp only at hK
        rw [cN_uN, sN_uN] at hK
        dsimp only at hK
        rw [show cN w + 1 - cN w0 = cN w - cN w0 + 1 by omega, show sN w + (fTL.getD a0 []).length - sN w0 = sN w - sN w0 + (fTL.getD a0 []).length by omega] at hK
        have e5 : (.ref H.size : Value) :: st.map (tr base sp) = (vR w.1.length :: st).map (tr base sp) := by
          rw [List.map_cons, hsz]
          exact congrArg (· :: _) (rv_lt (by omega)).symm
        show W p l e R s m args below meth c H1 locs _ _ Q (F0 m (pc + 3) ls (.ref H.size :: st.map (tr base sp)))
        rw [e5]
        exact hK
      · cases hn
    | newarray ty =>
      dsimp only at hn
      split at hn
      · next n st1 =>
        split at hn
        · next hc =>
          obtain ⟨hty, hn0, hn1, h2⟩ := hc
          subst h2
          cases hn
          rw [cN_uN, sN_uN] at hb
          dsimp only at hb
          intro hw hl hs hB p e R s m args below meth c Q D cs2 base sp C H locs ls hH hS hL
          have hF := C.2.2.1
          unfold inB at hB
          dsimp only at hB
          have hi : i32 n := hs.h
          have hsz : H.size = base + w.1.length := hH.1
          have hneg : ¬ Int32.ofInt n < 0 := fun z => by
            have := (lt32 hi i32_0).mp z
            omega
          have key : ∀ (hcomp : n.toNat * componentBytes (newarray.typeOf ty) ≤ 536870912) (harr : Jvm.Cond.arrayClass (newarray.typeOf ty) ∈ tb) (hat : ∀ (cA : ClassId) (H1 : Heap), s.vm.findClass ("[" ++ (newarray.typeOf ty).toString) = some cA → H1[base + w.1.length]? = some (arrV cA n.toNat (fun _ => defaultValue (newarray.typeOf ty))) → va_at D classes (base + w.1.length, ct base sp cs2 (uN w (1, tyN ty, n.toNat)) w.1.length (1, tyN ty, n.toNat)) H1), W p l e R s m args below meth c H locs (cN w - cN w0) (sN w - sN w0) Q (F0 m pc ls (.int (Int32.ofInt n) :: st1.map (tr base sp))) := by
            intro hcomp harr hat
            refine va_newaK C.1.1 C.1.2.1 (C.1.2.2.2.2 _ harr) rfl hd rfl hneg (c32 hi) hcomp (show cN w - cN w0 + 1 ≤ R.cells by omega) (show sN w - sN w0 + n.toNat ≤ R.slots by omega) rfl fun H1 cA e1 z1 o1 hAr hNm => ?_
            rw [hsz] at e1
            have hH1 := hW_uN hH hlen z1 o1 (hat cA H1 hNm e1)
            have hK := kk (okW_uN hw) hl (okS.c (v := vR w.1.length) trivial hs.t) (by unfold inB; dsimp only; rw [cN_uN, sN_uN]; dsimp only; omega) p e R s m args below meth c Q D cs2 base sp C H1 locs ls hH1 ⟨Nat.le_trans hS.1 (by omega), fun q h1 h2 => (o1 q (Nat.lt_of_lt_of_le h1 hS.1)).trans (hS.2.1 q h1 h2), hS.2.2⟩ hL
            dsimp only at hK
            rw [cN_uN, sN_uN] at hK
            dsimp only at hK
            rw [show cN w + 1 - cN w0 = cN w - cN w0 + 1 by omega, show sN w + n.toNat - sN w0 = sN w - sN w0 + n.toNat by omega] at hK
            have e5 : (.ref H.size : Value) :: st1.map (tr base sp) = (vR w.1.length :: st1).map (tr base sp) := by
              rw [List.map_cons, hsz]
              exact congrArg (· :: _) (rv_lt (by omega)).symm
            show W p l e R s m args below meth c H1 locs _ _ Q (F0 m (pc + 2) ls (.ref H.size :: st1.map (tr base sp)))
            rw [e5]
            exact hK
          have eI : ∀ (q : Nat × Nat × Nat) j, wI (uN w q) w.1.length j = 0 := fun q j => by simp [wI, uN]
          have eL : ∀ (q : Nat × Nat × Nat) j, wL (uN w q) w.1.length j = 0 := fun q j => by simp [wL, uN]
          cases ty with
          | int =>
            refine key (by show n.toNat * 4 ≤ _; omega) arr_int (fun cA H1 g1 g2 => ?_)
            have hcA : cs2.1 = cA := Option.some.inj ((show s.vm.findClass ("[" ++ FieldType.int.toString) = some cs2.1 from (C.2.2.2.1.2 0 _ rfl).2).symm.trans g1)
            show H1[base + w.1.length]? = some (vp_cell cs2.1 (n.toNat, .inl (fun j => Int32.ofInt (wI (uN w _) w.1.length j))))
            rw [vp_cell_i, g2, hcA]
            simp only [eI]
            rfl
          | boolean =>
            refine key (by show n.toNat * 1 ≤ _; omega) arr_boolean (fun cA H1 g1 g2 => ?_)
            have hcA : cs2.2.1 = cA := Option.some.inj ((show s.vm.findClass ("[" ++ FieldType.boolean.toString) = some cs2.2.1 from (C.2.2.2.1.2 1 _ rfl).2).symm.trans g1)
            show H1[base + w.1.length]? = some (vp_cell cs2.2.1 (n.toNat, .inl (fun j => Int32.ofInt (wI (uN w _) w.1.length j))))
            rw [vp_cell_i, g2, hcA]
            simp only [eI]
            rfl
          | long =>
            refine key (by show n.toNat * 8 ≤ _; omega) arr_long (fun cA H1 g1 g2 => ?_)
            have hcA : cs2.2.2 = cA := Option.some.inj ((show s.vm.findClass ("[" ++ FieldType.long.toString) = some cs2.2.2 from (C.2.2.2.1.2 2 _ rfl).2).symm.trans g1)
            show H1[base + w.1.length]? = some (vp_cell cs2.2.2 (n.toNat, .inr (.inl (fun j => Int64.ofInt (wL (uN w _) w.1.length j)))))
            rw [vp_cell_l, g2, hcA]
            simp only [eL]
            rfl
          | _ => simp [tyN] at hty
        · cases hn
      · cases hn
    | _ => dsimp only at hn; cases hn
theorem rch_tsw {pc : Nat} {lv : List (Option AV)} {st : List AV} {w : AW} {x : Int} {e : AE} {d lo hi : Int} {offs : Array Int} (hk : cod k = cs) (he : en cs pc = some e) (hi_ : e.2.1 = .tableswitch d lo hi offs) (hsz : hi - lo < offs.size) (hd0 : 0 ≤ (pc : Int) + d)
    (hout : x < lo ∨ hi < x → Rch l E h k w0 nc ns Φ (tgt pc d, lv, st, w)) (hin : ∀ (n : Nat) (off : Int), x = lo + (n : Int) → offs[n]? = some off → 0 ≤ (pc : Int) + off ∧ Rch l E h k w0 nc ns Φ (tgt pc off, lv, st, w)) : Rch l E h k w0 nc ns Φ (pc, lv, vI x :: st, w) := by
  have hen : en (cod k) pc = some e := by rw [hk]; exact he
  have hd := okD hen
  rw [hi_] at hd
  intro hw hl hs hB p e2 R s m args below meth c Q D cs2 base sp C H locs ls hH hS hL
  have hx : i32 x := hs.h
  by_cases ho : x < lo ∨ hi < x
  · exact lv_tableOut C.1.1 C.1.2.1 (tgt := tgt pc d) hd (by rw [t32 hx]; exact ho) (by unfold tgt; omega) (hout ho hw hl hs.t hB p e2 R s m args below meth c Q D cs2 base sp C H locs ls hH hS hL)
  · have hn : (x - lo).toNat < offs.size := by omega
    obtain ⟨g1, g2⟩ := hin (x - lo).toNat offs[(x - lo).toNat] (by omega) (Array.getElem?_eq_getElem hn)
    exact lv_tableIn C.1.1 C.1.2.1 (tgt := tgt pc offs[(x - lo).toNat]) hd (by rw [t32 hx]; omega) (by rw [t32 hx]; omega) (by rw [t32 hx]; exact Array.getElem?_eq_getElem hn) (by unfold tgt; omega) (g2 hw hl hs.t hB p e2 R s m args below meth c Q D cs2 base sp C H locs ls hH hS hL)
theorem rch_lsw {pc : Nat} {lv : List (Option AV)} {st : List AV} {w : AW} {x : Int} {e : AE} {d : Int} {ps : Array (Int × Int)} (off : Int) (hk : cod k = cs) (he : en cs pc = some e) (hi_ : e.2.1 = .lookupswitch d ps) (hp : (ps.toList.zip (ps.toList.drop 1)).all (fun (a, next) => a.1 < next.1) = true) (ho : Op.lookupswitch.offset ps.toList d x = off) (hd0 : 0 ≤ (pc : Int) + off)
    (kk : Rch l E h k w0 nc ns Φ (tgt pc off, lv, st, w)) : Rch l E h k w0 nc ns Φ (pc, lv, vI x :: st, w) := by
  have hen : en (cod k) pc = some e := by rw [hk]; exact he
  have hd := okD hen
  rw [hi_] at hd
  intro hw hl hs hB p e2 R s m args below meth c Q D cs2 base sp C H locs ls hH hS hL
  have hx : i32 x := hs.h
  exact lv_lookup C.1.1 C.1.2.1 (tgt := tgt pc off) (off := off) hd hp (by rw [t32 hx]; exact ho) (by unfold tgt; omega) (kk hw hl hs.t hB p e2 R s m args below meth c Q D cs2 base sp C H locs ls hH hS hL)
end RN
