-- HEAP: the instructions that read and write cells
section AP
variable {p : Program} {l : Launch} {e : Env} {R : Room} {s : State} {m : MethodId} {args : Array Value} {below : List Frame} {meth : Method} {c : Code} {H : Heap} {locs : List Loc} {cells slots : Nat} {Q : State → Prop}
variable {cc : ByteArray} {pc : Nat} {ls : Array Slot} {rest : List Value} {D : va_G} {A : Nat → Prop} {a : Nat} {tys : List (ClassId × FieldType)} {H0 : Heap}
theorem ap_put (hexec : p.tables.exec = Jvm.exec) (hb : c.code = cc) {own C : String} {T : u_T} {N ci index : Nat} {Ts : List Jvm.Cond} (hts : ∀ w ∈ Ts, w.before args s = true) (hin : ∀ w ∈ u_ws C T N, w ∈ Ts) (ty0 : Nat → FieldType) (hty : ∀ k, k < N → parseFieldDescriptor (T k).2.2.1 = some (ty0 k)) (hnm : ∀ a, a < N → ∀ b, b < N → a ≠ b → (T a).2.1 ≠ (T b).2.1) (hown : s.vm.findClass own = some m.cls) (hK : va_K D classes tys s) {fs : List Value} (hat : va_at D classes (a, .inr (ci, fs)) H) (hc : classes[ci]? = some (C, T, N)) (k : Nat) (hk : k < N) (hlink : (Jvm.Cond.fieldLink own index (T k).1 (T k).2.1 (T k).2.2.1).before args s = true) (hfin : (T k).2.2.2 = false ∨ (meth.name = "<init>" ∧ (T k).1 = own)) {v : Value} (hn : narrow (ty0 k) v = v) (hfit : fits (ty0 k) v = true) (hl : k < fs.length)
    (hdg : decode cc pc = .ok (.putfield index, 3)) (kk : ∀ (H1 : Heap) (i : Nat), va_at D classes (a, .inr (ci, fs.set k v)) H1 → H1.size = H.size → (∀ q : Nat, q ≠ a → H1[q]? = H[q]?) → W p l e R s m args below meth c H1 (locs ++ [⟨a, i⟩]) cells slots Q (F0 m (pc + 3) ls rest)) : W p l e R s m args below meth c H locs cells slots Q (F0 m pc ls (v :: .ref a :: rest)) := by
  have hap := va_apart (own := own) hts hin ty0 hty hnm hK hc
  obtain ⟨r, h1, cell, q1, q2, q3, q4⟩ := hat
  have hr : r = (C, T, N) := Option.some.inj (h1.symm.trans hc)
  subst hr
  obtain ⟨hS, hfc, kC, hkC, hkind⟩ := hK.1 ci _ hc
  obtain ⟨cf, kf, fi, f, hi, hsl⟩ := hS k hk
  have hst := (u_facts hfc hkC (u_lays hts hin hk) hi).1
  have fin : ∀ H' : Heap, H'[a]? = some (cell.setSlot f.slot v) → va_at D classes (a, .inr (ci, fs.set k v)) H' := by
    intro H' e1
    rw [hsl] at e1
    exact ⟨_, hc, t_OB.to (V := updV (vp_V fs) k v) ⟨_, e1, q2, q3, t_set q4 hap hk v⟩ (fun j _ => vp_updV_set hl v j)⟩
  have hlay := hts _ (hin _ (u_in_lay hk))
  unfold u_lay at hlay
  cases hf : (T k).2.2.2 with
  | false =>
    rw [if_neg (by rw [hf]; decide)] at hlay
    have h6 := u_store hfc hkC hkind hlay hi (hty k hk) hn hfit
    exact W.putK hexec hb (f := f) ⟨hown, hlink, ⟨_, _, _, hi⟩, hst⟩ (by rw [q2]; exact h6) q1 q3 (by rw [hsl]; exact k2_hasslot (q4 k hk)) rfl rfl hdg fun H' e1 e2 e3 => kk H' _ (fin H' e1) e2 e3
  | true =>
    rw [if_pos hf] at hlay
    obtain ⟨hin2, hdecl⟩ := hfin.resolve_left (by rw [hf]; decide)
    have hcf : m.cls = cf := by
      obtain ⟨_, _, c', _, _, _, -, -, hf', -, -, -, hown2, -⟩ := Cond.laysFinal_spec hlay
      have e1 : c' = cf := by have := hi.symm.trans hf'; simp at this; exact this.1.symm
      rw [hdecl] at hown2
      rw [← e1]; exact Option.some.inj (hown.symm.trans hown2)
    have h6 := u_fits hfc hkC hkind (Or.inr hlay) hi (hty k hk) hn hfit
    exact W.putFinK hexec hb hown hlink hi hst hcf hin2 (by rw [q2]; exact h6) q1 q3 (by rw [hsl]; exact k2_hasslot (q4 k hk)) rfl rfl hdg fun H' e1 e2 e3 => kk H' _ (fin H' e1) e2 e3
end AP
section SH
variable {l : Launch} {E : AX} {h k : Nat} {w0 : AW} {nc ns : Nat} {Φ : Option AV → AW → Prop} {pc pc' : Nat} {lv lv' : List (Option AV)} {st st' : List AV} {w w' : AW} {q0 len i a0 b0 : Nat} {x0 : Int} {ps : List Prop} {t' : AS}
theorem ok_i {x : Int} (h : i32 x) : okv (vI x) := h
theorem tr_fGv {base : Nat} {sp : Nat → Value} (w : AW) (r a b : Nat) : tr base sp (fGv w r a b) = fv base sp w r a b := by
  unfold fGv fv
  generalize fT a b = t
  rcases t with _ | _ | _ | t <;> rfl
theorem ok_fGv (hw : okW w) (r a b : Nat) : okv (fGv w r a b) := by
  unfold fGv
  split
  · exact hw.1 r b
  · exact hw.1 r b
  · exact hw.2 r b
  · trivial
theorem rv_lt {base : Nat} {sp : Nat → Value} {r : Nat} (h : r < 1000) : rv base sp r = .ref (base + r) := by unfold rv; rw [if_pos h]
theorem lay_lt {D : va_G} {cs : ClassId × ClassId × ClassId} {base : Nat} {sp : Nat → Value} {H : Heap} (hH : hW D cs base sp w H) {r : Nat} {q : Nat × Nat × Nat} (h : w.1[r]? = some q) : r < 1000 := Nat.lt_of_lt_of_le (List.getElem?_eq_some_iff.mp h).1 hH.2.1
theorem so_getfield (hen : en (cod k) pc = some (q0, .getfield i, len, x0, a0, b0)) (hl3 : len = 3) (hx : ex E (q0, .getfield i, len, x0, a0, b0) pc lv st w = some (ps, t')) (hp : all_ ps) (kk : Rch l E h k w0 nc ns Φ t') : Rch l E h k w0 nc ns Φ (pc, lv, st, w) := by
  have hd := okD hen
  have hok := okK k _ (en_mem hen).1
  subst hl3
  unfold okE at hok
  rw [Bool.and_eq_true] at hok
  have hok := hok.2
  simp only [ex] at hx
  obtain ⟨st2, hg, he⟩ := Option.map_eq_some_iff.mp hx
  cases he
  unfold fGet at hg
  split at hg
  · next r st1 =>
    split at hg
    · next ha =>
      split at hg
      · next hr =>
        cases hg
        simp only [ha, if_true] at hok
        have hlk := sfl_ok _ (of_decide_eq_true hok)
        refine rch_step (fun _ _ hs => okS.c (by split <;> first | trivial | exact i32_0) hs.t) (fun p e R s m args below meth c Q D cs base sp C hw hl hs H locs ls cells slots hc1 hc2 hH hS hL K => ?_) kk
        obtain ⟨-, -, -, -, -, ⟨⟨adK, adV, h1, h2, h3⟩, -⟩, -⟩ := id C
        have e1 : rv base sp r = .ref (adK (r - 2000)) := by
          unfold rv
          rw [if_neg (by omega), ← (h1 (r - 2000) (by omega)).1]
          exact congrArg sp (by omega)
        show W p l e R s m args below meth c H locs cells slots Q (F0 m pc ls (rv base sp r :: st1.map (tr base sp)))
        rw [e1]
        by_cases hb0 : b0 = 0
        · subst hb0
          refine vk_getf C.1.1 C.1.2.1 (h2.1 (r - 2000) (by omega)).2.2.1 hS C.1.2.2.2.1 (C.1.2.2.2.2 _ hlk) (fun _ h9 => h9) hd ?_
          have e2 : rv base sp (r + 1000) = .ref (adV (r - 2000)) := by
            unfold rv
            rw [if_neg (by omega), ← (h1 (r - 2000) (by omega)).2]
            exact congrArg sp (by omega)
          rw [← e2]; exact K
        · have e3 : fS (own k, i, b0) = .fieldLink (rn_ (own k)) i "java/lang/String" "coder" "B" := by simp [fS, hb0]
          rw [e3] at hlk
          refine vk_getf C.1.1 C.1.2.1 (h2.1 (r - 2000) (by omega)).2.1 hS C.1.2.2.2.1 (C.1.2.2.2.2 _ hlk) (fun _ h9 => h9) hd ?_
          rw [if_neg hb0] at K
          exact K
      · cases hg
    · next ha =>
      split at hg
      · next ci n hk2 =>
        split at hg
        · next hc =>
          obtain ⟨hc, hbn⟩ := hc
          subst hc
          cases hg
          simp only [ha, if_false] at hok
          have hm := of_decide_eq_true hok
          have hlk := fls_ok _ hm
          obtain ⟨h13, hbN⟩ := fls_rg hm
          refine rch_step (fun hw _ hs => okS.c (ok_fGv hw r ci b0) hs.t) (fun p e R s m args below meth c Q D cs base sp C hw hl hs H locs ls cells slots hc1 hc2 hH hS hL K => ?_) kk
          have e1 : rv base sp r = .ref (base + r) := rv_lt (lay_lt hH hk2)
          show W p l e R s m args below meth c H locs cells slots Q (F0 m pc ls (rv base sp r :: st1.map (tr base sp)))
          rw [e1]
          refine va_get (D := D) (cl := classes) (ws := wsO base sp cs w) (C := rn_ ci) (T := clT.getD ci TX0) (N := (fTL.getD ci []).length) (ref := ((clT.getD ci TX0) b0).1) (v := fv base sp w r ci b0) C.1.1 C.1.2.1 C.1.2.2.2.2 (lay_in ci h13) C.1.2.2.2.1 C.2.2.2.1 hH.2.2 r (wsO_at hk2) (cls_at ci h13) b0 hbN (C.1.2.2.2.2 _ hlk) (fun _ h9 => h9) ?_ hd ?_
          · simp [hbn]
          · rw [← tr_fGv]; exact K
        · cases hg
      · cases hg
  · cases hg
theorem so_getstatic (hen : en (cod k) pc = some (q0, .getstatic i, len, x0, a0, b0)) (hl3 : len = 3) (hx : ex E (q0, .getstatic i, len, x0, a0, b0) pc lv st w = some (ps, t')) (hp : all_ ps) (kk : Rch l E h k w0 nc ns Φ t') : Rch l E h k w0 nc ns Φ (pc, lv, st, w) := by
  have hd := okD hen
  have hok := okK k _ (en_mem hen).1
  subst hl3
  unfold okE at hok
  rw [Bool.and_eq_true] at hok
  have hlk := gsl_ok _ (of_decide_eq_true hok.2)
  simp only [ex] at hx
  split at hx
  · next ha =>
    cases hx
    subst ha
    exact rch_step (fun _ _ hs => okS.c (ok_i ⟨by decide, by decide⟩) hs) (fun p e R s m args below meth c Q D cs base sp C hw hl hs H locs ls cells slots hc1 hc2 hH hS hL K => va_gets C.1.1 C.1.2.1 C.2.2.2.2.2.1.2.1 hS C.1.2.2.2.1 (C.1.2.2.2.2 _ hlk) (fun _ h9 => h9) hd K) kk
  · split at hx
    · next ha =>
      cases hx
      subst ha
      refine rch_step (fun _ _ hs => okS.c (v := vR 5000) trivial hs) (fun p e R s m args below meth c Q D cs base sp C hw hl hs H locs ls cells slots hc1 hc2 hH hS hL K => va_gets C.1.1 C.1.2.1 C.2.2.2.2.2.1.2.2.1 hS C.1.2.2.2.1 (C.1.2.2.2.2 _ hlk) (fun _ h9 => h9) hd ?_) kk
      exact K
    · cases hx
theorem uI_ob {base : Nat} {sp : Nat → Value} {cs : ClassId × ClassId × ClassId} {r ci n b : Nat} {x : Int} (hf : fT ci b = 0 ∨ fT ci b = 1) : ct base sp cs (uI w r b x) r (0, ci, n) = .inr (ci, ((List.range n).map (fv base sp w r ci)).set b (.int (Int32.ofInt x))) := by
  show Sum.inr (ci, (List.range n).map (fv base sp (uI w r b x) r ci)) = _
  rw [map_set (f := fv base sp w r ci) (b := b) (v := .int (Int32.ofInt x))]
  · unfold fv
    rcases hf with hf | hf <;> simp [hf, wI_uI]
  · intro j hj
    unfold fv
    simp only [wI_uI, if_neg hj]
    rfl
theorem uL_ob {base : Nat} {sp : Nat → Value} {cs : ClassId × ClassId × ClassId} {r ci n b : Nat} {x : Int} (hf : fT ci b = 2) : ct base sp cs (uL w r b x) r (0, ci, n) = .inr (ci, ((List.range n).map (fv base sp w r ci)).set b (.long (Int64.ofInt x))) := by
  show Sum.inr (ci, (List.range n).map (fv base sp (uL w r b x) r ci)) = _
  rw [map_set (f := fv base sp w r ci) (b := b) (v := .long (Int64.ofInt x))]
  · unfold fv
    simp [hf, wL_uL]
  · intro j hj
    unfold fv
    simp only [wL_uL, if_neg hj]
    rfl
theorem uR_ob {base : Nat} {sp : Nat → Value} {cs : ClassId × ClassId × ClassId} {r ci n b : Nat} {x : Option Nat} (hf : fT ci b = 3) : ct base sp cs (uR w r b x) r (0, ci, n) = .inr (ci, ((List.range n).map (fv base sp w r ci)).set b (tr base sp (vO x))) := by
  show Sum.inr (ci, (List.range n).map (fv base sp (uR w r b x) r ci)) = _
  rw [map_set (f := fv base sp w r ci) (b := b) (v := tr base sp (vO x))]
  · unfold fv
    simp [hf, wR_uR]
  · intro j hj
    unfold fv
    simp only [wR_uR, if_neg hj]
    rfl
theorem nar_int (x : Int32) : narrow .int (.int x) = .int x ∧ fits .int (.int x) = true := ⟨rfl, rfl⟩
theorem nar_bool {x : Int} (h : x = 0 ∨ x = 1) : narrow .boolean (.int (Int32.ofInt x)) = .int (Int32.ofInt x) ∧ fits .boolean (.int (Int32.ofInt x)) = true := by
  rcases h with rfl | rfl <;> exact ⟨by decide, by decide⟩
theorem nar_long (x : Int64) : narrow .long (.long x) = .long x ∧ fits .long (.long x) = true := ⟨rfl, rfl⟩
theorem nar_ref {ty : FieldType} (hty : (∃ C, ty = .object C) ∨ ∃ t, ty = .array t) {v : Value} (hv : v = .null ∨ ∃ a, v = .ref a) : narrow ty v = v ∧ fits ty v = true := by
  rcases hty with ⟨C, rfl⟩ | ⟨t, rfl⟩ <;> rcases hv with rfl | ⟨a, rfl⟩ <;> exact ⟨rfl, rfl⟩
theorem so_putfield (hen : en (cod k) pc = some (q0, .putfield i, len, x0, a0, b0)) (hl3 : len = 3) (hx : ex E (q0, .putfield i, len, x0, a0, b0) pc lv st w = some (ps, t')) (hp : all_ ps) (kk : Rch l E h k w0 nc ns Φ t') : Rch l E h k w0 nc ns Φ (pc, lv, st, w) := by
  have hd := okD hen
  have hok := okK k _ (en_mem hen).1
  subst hl3
  unfold okE at hok
  rw [Bool.and_eq_true] at hok
  have hok := hok.2
  simp only [Bool.and_eq_true] at hok
  have hm := of_decide_eq_true hok.1
  have hlk := fls_ok _ hm
  obtain ⟨h13, hbN⟩ := fls_rg hm
  have hfin := hok.2
  simp only [ex] at hx
  obtain ⟨⟨ps2, st2, w2⟩, hg, he⟩ := Option.map_eq_some_iff.mp hx
  cases he
  unfold fPut at hg
  split at hg
  · next v r st1 =>
    split at hg
    · next ci n hk2 =>
      split at hg
      · next hc =>
        obtain ⟨hc, hbn⟩ := hc
        subst hc
        have hfck := fck_ok h13 hbN
        have key : ∀ (w1 : AW), w1.1 = w.1 → (∀ j, j ≠ r → ∀ (base : Nat) (sp : Nat → Value) (cs : ClassId × ClassId × ClassId) q', ct base sp cs w1 j q' = ct base sp cs w j q') → (∀ (base : Nat) (sp : Nat → Value) (cs : ClassId × ClassId × ClassId), ct base sp cs w1 r (0, ci, n) = .inr (ci, ((List.range n).map (fv base sp w r ci)).set b0 (tr base sp v))) → (∀ (base : Nat) (sp : Nat → Value), okSp sp → narrow (tyf ci b0) (tr base sp v) = tr base sp v ∧ fits (tyf ci b0) (tr base sp v) = true) → (okW w → okv v → okW w1) → Rch l E h k w0 nc ns Φ (pc + 3, lv, st1, w1) → Rch l E h k w0 nc ns Φ (pc, lv, v :: vR r :: st1, w) := by
          intro w1 e1 e2 e3 e4 e5 kk hw hl hs hB p e R s m args below meth c Q D cs base sp C H locs ls hH hS hL
          have e6 : rv base sp r = .ref (base + r) := rv_lt (lay_lt hH hk2)
          show W p l e R s m args below meth c H locs _ _ Q (F0 m pc ls (tr base sp v :: rv base sp r :: st1.map (tr base sp)))
          rw [e6]
          have hat := hH.2.2 r _ (wsO_at hk2)
          have hB2 : inB w0 nc ns w1 := by unfold inB cN sN at hB ⊢; rw [e1]; exact hB
          have hcn : cN w1 = cN w := by unfold cN; rw [e1]
          have hsn : sN w1 = sN w := by unfold sN; rw [e1]
          refine ap_put (C := rn_ ci) (T := clT.getD ci TX0) (N := (fTL.getD ci []).length) (ci := ci) C.1.1 C.1.2.1 C.1.2.2.2.2 (lay_in ci h13) (tyf ci) (ty_ok ci h13) (nm_ok ci h13) C.1.2.2.2.1 C.2.2.2.1 hat (cls_at ci h13) b0 hbN (C.1.2.2.2.2 _ hlk) ?_ (e4 base sp C.2.2.2.2.1).1 (e4 base sp C.2.2.2.2.1).2 (by simpa using hbn) hd (fun H1 i1 g1 g2 g3 => ?_)
          · show (clt ci b0).2.2.2 = false ∨ _
            cases hf : (clt ci b0).2.2.2 with
            | false => exact Or.inl rfl
            | true =>
              rw [hf] at hfin
              simp only [Bool.not_true, Bool.false_or, Bool.and_eq_true, beq_iff_eq] at hfin
              refine Or.inr ⟨C.2.1 hfin.1, ?_⟩
              rw [hfin.2]
              exact clt_own ci h13 b0 hbN
          · have hH1 : hW D cs base sp w1 H1 := hH.upd hk2 e1 (fun j hj q' => e2 j hj base sp cs q') g2 g3 (by rw [e3]; exact g1)
            have := kk (e5 hw hs.h) hl hs.t.t hB2 p e R s m args below meth c Q D cs base sp C H1 _ ls hH1 (hS.put (k := i1) g2 g3 (Nat.le_add_right base r)) hL
            simp only [hcn, hsn] at this
            exact this
        unfold fck at hfck
        split at hg
        · next x hf =>
          cases hg
          rw [hf] at hfck
          refine key (uI w r b0 x) rfl (fun j hj _ _ _ q' => ct_uI hj q') (fun _ _ _ => uI_ob (Or.inl hf)) (fun base sp _ => ?_) (fun hw hv => okW_uI hw hv) kk
          split at hfck <;> first | (cases hfck; done) | (next e9 => rw [e9]; exact nar_int _) | skip
          all_goals (simp_all <;> done)
        · next x hf =>
          cases hg
          rw [hf] at hfck
          refine key (uI w r b0 x) rfl (fun j hj _ _ _ q' => ct_uI hj q') (fun _ _ _ => uI_ob (Or.inr hf)) (fun base sp _ => ?_) (fun hw hv => okW_uI hw hv) kk
          split at hfck <;> first | (cases hfck; done) | (next e9 => rw [e9]; exact nar_bool hp) | skip
          all_goals (simp_all <;> done)
        · next x hf =>
          cases hg
          rw [hf] at hfck
          refine key (uL w r b0 x) rfl (fun j hj _ _ _ q' => ct_uL hj q') (fun _ _ _ => uL_ob hf) (fun base sp _ => ?_) (fun hw hv => okW_uL hw hv) kk
          split at hfck <;> first | (cases hfck; done) | (next e9 => rw [e9]; exact nar_long _) | skip
          all_goals (simp_all <;> done)
        · next x hf =>
          cases hg
          rw [hf] at hfck
          refine key (uR w r b0 x) rfl (fun j hj _ _ _ q' => ct_uR hj q') (fun _ _ _ => uR_ob hf) (fun base sp hsp => ?_) (fun hw hv => okW_uR hw) kk
          have hv : tr base sp (vO x) = .null ∨ ∃ a, tr base sp (vO x) = .ref a := tr_null hsp x
          split at hfck <;> first | (cases hfck; done) | (next e9 => rw [e9]; exact nar_ref (Or.inl ⟨_, rfl⟩) hv) | (next e9 => rw [e9]; exact nar_ref (Or.inr ⟨_, rfl⟩) hv) | skip
          all_goals (simp_all <;> done)
        · cases hg
      · cases hg
    · cases hg
  · cases hg
theorem so_iaload (hen : en (cod k) pc = some (q0, .iaload, len, x0, a0, b0)) (hl3 : len = 1) (hx : ex E (q0, .iaload, len, x0, a0, b0) pc lv st w = some (ps, t')) (hp : all_ ps) (kk : Rch l E h k w0 nc ns Φ t') : Rch l E h k w0 nc ns Φ (pc, lv, st, w) := by
  have hd := okD hen
  subst hl3
  simp only [ex] at hx
  obtain ⟨⟨ps2, st2⟩, hg, he⟩ := Option.map_eq_some_iff.mp hx
  cases he
  unfold aGet at hg
  split at hg
  · next i r st1 =>
    split at hg
    · next ty n hk2 =>
      split at hg
      · next ht =>
        subst ht
        cases hg
        have hp : 0 ≤ i ∧ i < (n : Int) := hp
        refine rch_step (fun hw _ hs => okS.c (show okv (vI (wI w r i.toNat)) from hw.1 r _) hs.t.t) (fun p e R s m args below meth c Q D cs base sp C hw hl hs H locs ls cells slots hc1 hc2 hH hS hL K => ?_) kk
        have e1 : rv base sp r = .ref (base + r) := rv_lt (lay_lt hH hk2)
        have hi : i32 i := hs.h
        show W p l e R s m args below meth c H locs cells slots Q (F0 m pc ls (.int (Int32.ofInt i) :: rv base sp r :: st1.map (tr base sp)))
        rw [e1]
        refine va_iald (D := D) (cl := classes) (ws := wsO base sp cs w) C.1.1 C.1.2.1 C.2.2.2.1 hH.2.2 r 0 (wsO_at hk2) rfl (in32 hi hp) hd ?_
        rw [c32 hi]
        exact K
      · cases hg
    · cases hg
    · next hk2 =>
      split at hg
      · next hr =>
        cases hg
        have hp : 0 ≤ i ∧ i < (E.1 : Int) := hp
        refine rch_step (fun hw _ hs => okS.c (show okv (vI (E.2 i.toNat).toInt) from i32_of _) hs.t.t) (fun p e R s m args below meth c Q D cs base sp C hw hl hs H locs ls cells slots hc1 hc2 hH hS hL K => ?_) kk
        obtain ⟨b, g1, g2, g3, g4⟩ := C.2.2.2.2.2.1.2.2.2.2
        have hi : i32 i := hs.h
        have e1 : rv base sp r = .ref b := by unfold rv; rw [hr.1]; exact g1
        show W p l e R s m args below meth c H locs cells slots Q (F0 m pc ls (.int (Int32.ofInt i) :: rv base sp r :: st1.map (tr base sp)))
        rw [e1]
        refine va_sld C.1.1 C.1.2.1 g2 g3 g4 hS (in32 hi hp) hd ?_
        rw [c32 hi]
        have e2 : tr base sp (vI (E.2 i.toNat).toInt) = .int (E.2 i.toNat) := by show Value.int (Int32.ofInt _) = _; rw [Int32.ofInt_toInt]
        rw [← e2]
        exact K
      · next hr =>
        rw [if_neg (by simp)] at hg
        cases hg
  · cases hg
theorem so_baload (hen : en (cod k) pc = some (q0, .baload, len, x0, a0, b0)) (hl3 : len = 1) (hx : ex E (q0, .baload, len, x0, a0, b0) pc lv st w = some (ps, t')) (hp : all_ ps) (kk : Rch l E h k w0 nc ns Φ t') : Rch l E h k w0 nc ns Φ (pc, lv, st, w) := by
  have hd := okD hen
  subst hl3
  simp only [ex] at hx
  obtain ⟨⟨ps2, st2⟩, hg, he⟩ := Option.map_eq_some_iff.mp hx
  cases he
  unfold aGet at hg
  split at hg
  · next i r st1 =>
    split at hg
    · next ty n hk2 =>
      split at hg
      · next ht =>
        subst ht
        cases hg
        have hp : 0 ≤ i ∧ i < (n : Int) := hp
        refine rch_step (fun hw _ hs => okS.c (show okv (vI (wI w r i.toNat)) from hw.1 r _) hs.t.t) (fun p e R s m args below meth c Q D cs base sp C hw hl hs H locs ls cells slots hc1 hc2 hH hS hL K => ?_) kk
        have e1 : rv base sp r = .ref (base + r) := rv_lt (lay_lt hH hk2)
        have hi : i32 i := hs.h
        show W p l e R s m args below meth c H locs cells slots Q (F0 m pc ls (.int (Int32.ofInt i) :: rv base sp r :: st1.map (tr base sp)))
        rw [e1]
        refine va_zald (D := D) (cl := classes) (ws := wsO base sp cs w) C.1.1 C.1.2.1 C.2.2.2.1 hH.2.2 r 1 (wsO_at hk2) rfl (in32 hi hp) hd ?_
        rw [c32 hi]
        exact K
      · cases hg
    · cases hg
    · next hk2 =>
      rw [if_neg (by simp)] at hg
      split at hg
      · next hr =>
        cases hg
        have hp : 0 ≤ i ∧ i < ((strB.getD (r - 3000) []).length : Int) := hp
        refine rch_step (fun hw _ hs => okS.c (show okv (vI ((strB.getD (r - 3000) []).getD i.toNat 0)) from strB_ok _ _) hs.t.t) (fun p e R s m args below meth c Q D cs base sp C hw hl hs H locs ls cells slots hc1 hc2 hH hS hL K => ?_) kk
        obtain ⟨-, -, -, -, -, ⟨⟨adK, adV, h1, h2, h3⟩, -⟩, -⟩ := id C
        have hi : i32 i := hs.h
        have e1 : rv base sp r = .ref (adV (r - 3000)) := by
          unfold rv
          rw [if_neg (by omega), ← (h1 (r - 3000) (by omega)).2]
          exact congrArg sp (by omega)
        show W p l e R s m args below meth c H locs cells slots Q (F0 m pc ls (.int (Int32.ofInt i) :: rv base sp r :: st1.map (tr base sp)))
        rw [e1]
        refine va_tb C.1.1 C.1.2.1 (h2.1 (r - 3000) (by omega)).2.2.2 hS (in32 hi (by rw [strB_len]; exact hp)) rfl hd ?_
        rw [c32 hi, strB_at]
        exact K
      · cases hg
  · cases hg
theorem so_laload (hen : en (cod k) pc = some (q0, .laload, len, x0, a0, b0)) (hl3 : len = 1) (hx : ex E (q0, .laload, len, x0, a0, b0) pc lv st w = some (ps, t')) (hp : all_ ps) (kk : Rch l E h k w0 nc ns Φ t') : Rch l E h k w0 nc ns Φ (pc, lv, st, w) := by
  have hd := okD hen
  subst hl3
  simp only [ex] at hx
  obtain ⟨⟨ps2, st2⟩, hg, he⟩ := Option.map_eq_some_iff.mp hx
  cases he
  unfold aGet at hg
  split at hg
  · next i r st1 =>
    split at hg
    · next ty n hk2 =>
      split at hg
      · next ht =>
        subst ht
        cases hg
        have hp : 0 ≤ i ∧ i < (n : Int) := hp
        refine rch_step (fun hw _ hs => okS.c (show okv (vL (wL w r i.toNat)) from hw.2 r _) hs.t.t) (fun p e R s m args below meth c Q D cs base sp C hw hl hs H locs ls cells slots hc1 hc2 hH hS hL K => ?_) kk
        have e1 : rv base sp r = .ref (base + r) := rv_lt (lay_lt hH hk2)
        have hi : i32 i := hs.h
        show W p l e R s m args below meth c H locs cells slots Q (F0 m pc ls (.int (Int32.ofInt i) :: rv base sp r :: st1.map (tr base sp)))
        rw [e1]
        refine va_lald (D := D) (cl := classes) (ws := wsO base sp cs w) C.1.1 C.1.2.1 C.2.2.2.1 hH.2.2 r 2 (wsO_at hk2) rfl (in32 hi hp) hd ?_
        rw [c32 hi]
        exact K
      · cases hg
    · cases hg
    · next hk2 =>
      rw [if_neg (by simp), if_neg (by simp)] at hg
      cases hg
  · cases hg
theorem so_iastore (hen : en (cod k) pc = some (q0, .iastore, len, x0, a0, b0)) (hl3 : len = 1) (hx : ex E (q0, .iastore, len, x0, a0, b0) pc lv st w = some (ps, t')) (hp : all_ ps) (kk : Rch l E h k w0 nc ns Φ t') : Rch l E h k w0 nc ns Φ (pc, lv, st, w) := by
  have hd := okD hen
  subst hl3
  simp only [ex] at hx
  obtain ⟨⟨ps2, st2, w2⟩, hg, he⟩ := Option.map_eq_some_iff.mp hx
  cases he
  unfold aPut at hg
  split at hg
  · next v i r st1 =>
    split at hg
    · next ty n hk2 =>
      split at hg
      · next ht =>
        subst ht
        split at hg
        all_goals first | (cases hg; done) | skip
        all_goals (rename_i x h9 <;> first | (cases h9; done) | skip)
        cases hg
        have hp1 : 0 ≤ i ∧ i < (n : Int) := hp
        intro hw hl hs hB p e R s m args below meth c Q D cs base sp C H locs ls hH hS hL
        have e1 : rv base sp r = .ref (base + r) := rv_lt (lay_lt hH hk2)
        have hi : i32 i := hs.t.h
        show W p l e R s m args below meth c H locs _ _ Q (F0 m pc ls (.int (Int32.ofInt x) :: .int (Int32.ofInt i) :: rv base sp r :: st2.map (tr base sp)))
        rw [e1]
        have hat := hH.2.2 r _ (wsO_at hk2)
        refine W.iast C.1.1 C.1.2.1 hat ((C.2.2.2.1.2 0 _ rfl).1 n _) (fun q => by cases q) (by show ¬ (_ ∨ (arrV _ _ _).slots.size ≤ _); rw [arrV_size]; exact in32 hi hp1) rfl rfl hd fun H1 g1 g2 g3 => ?_
        have hH1 : hW D cs base sp (uI w r i.toNat x) H1 := hH.upd hk2 rfl (fun j hj q' => ct_uI hj q') g2 g3 (by
          show H1[base + r]? = some (vp_cell cs.1 (n, .inl (fun j => Int32.ofInt (wI (uI w r i.toNat x) r j))))
          rw [g1]
          show some ((vp_cell cs.1 (n, .inl (fun j => Int32.ofInt (wI w r j)))).setSlot _ _) = _
          rw [vp_cell_i, vp_cell_i, arrV_store, c32 hi]
          congr 2
          funext j
          simp only [updV, wI_uI]
          split <;> rfl)
        exact kk (okW_uI hw hs.h) hl hs.t.t.t hB p e R s m args below meth c Q D cs base sp C H1 _ ls hH1 (hS.put g2 g3 (Nat.le_add_right base r)) hL
      · cases hg
    · cases hg
  · cases hg
theorem so_bastore (hen : en (cod k) pc = some (q0, .bastore, len, x0, a0, b0)) (hl3 : len = 1) (hx : ex E (q0, .bastore, len, x0, a0, b0) pc lv st w = some (ps, t')) (hp : all_ ps) (kk : Rch l E h k w0 nc ns Φ t') : Rch l E h k w0 nc ns Φ (pc, lv, st, w) := by
  have hd := okD hen
  subst hl3
  simp only [ex] at hx
  obtain ⟨⟨ps2, st2, w2⟩, hg, he⟩ := Option.map_eq_some_iff.mp hx
  cases he
  unfold aPut at hg
  split at hg
  · next v i r st1 =>
    split at hg
    · next ty n hk2 =>
      split at hg
      · next ht =>
        subst ht
        split at hg
        all_goals first | (cases hg; done) | skip
        all_goals (rename_i x h9 <;> first | (cases h9; done) | skip)
        cases hg
        have hp1 : 0 ≤ i ∧ i < (n : Int) := hp.1
        intro hw hl hs hB p e R s m args below meth c Q D cs base sp C H locs ls hH hS hL
        have e1 : rv base sp r = .ref (base + r) := rv_lt (lay_lt hH hk2)
        have hi : i32 i := hs.t.h
        show W p l e R s m args below meth c H locs _ _ Q (F0 m pc ls (.int (Int32.ofInt x) :: .int (Int32.ofInt i) :: rv base sp r :: st2.map (tr base sp)))
        rw [e1]
        have hat := hH.2.2 r _ (wsO_at hk2)
        refine W.zast C.1.1 C.1.2.1 hat ((C.2.2.2.1.2 1 _ rfl).1 n _) (fun q => by cases q) (by show ¬ (_ ∨ (arrV _ _ _).slots.size ≤ _); rw [arrV_size]; exact in32 hi hp1) rfl rfl hd fun H1 g1 g2 g3 => ?_
        have hH1 : hW D cs base sp (uI w r i.toNat x) H1 := hH.upd hk2 rfl (fun j hj q' => ct_uI hj q') g2 g3 (by
          show H1[base + r]? = some (vp_cell cs.2.1 (n, .inl (fun j => Int32.ofInt (wI (uI w r i.toNat x) r j))))
          rw [g1]
          show some ((vp_cell cs.2.1 (n, .inl (fun j => Int32.ofInt (wI w r j)))).setSlot _ _) = _
          rw [vp_cell_i, vp_cell_i, arrV_store, c32 hi, (nar_bool hp.2).1]
          congr 2
          funext j
          simp only [updV, wI_uI]
          split <;> rfl)
        exact kk (okW_uI hw hs.h) hl hs.t.t.t hB p e R s m args below meth c Q D cs base sp C H1 _ ls hH1 (hS.put g2 g3 (Nat.le_add_right base r)) hL
      · cases hg
    · cases hg
  · cases hg
theorem so_lastore (hen : en (cod k) pc = some (q0, .lastore, len, x0, a0, b0)) (hl3 : len = 1) (hx : ex E (q0, .lastore, len, x0, a0, b0) pc lv st w = some (ps, t')) (hp : all_ ps) (kk : Rch l E h k w0 nc ns Φ t') : Rch l E h k w0 nc ns Φ (pc, lv, st, w) := by
  have hd := okD hen
  subst hl3
  simp only [ex] at hx
  obtain ⟨⟨ps2, st2, w2⟩, hg, he⟩ := Option.map_eq_some_iff.mp hx
  cases he
  unfold aPut at hg
  split at hg
  · next v i r st1 =>
    split at hg
    · next ty n hk2 =>
      split at hg
      · next ht =>
        subst ht
        split at hg
        all_goals first | (cases hg; done) | skip
        all_goals (rename_i x h9 <;> first | (cases h9; done) | skip)
        cases hg
        have hp1 : 0 ≤ i ∧ i < (n : Int) := hp
        intro hw hl hs hB p e R s m args below meth c Q D cs base sp C H locs ls hH hS hL
        have e1 : rv base sp r = .ref (base + r) := rv_lt (lay_lt hH hk2)
        have hi : i32 i := hs.t.h
        show W p l e R s m args below meth c H locs _ _ Q (F0 m pc ls (.long (Int64.ofInt x) :: .int (Int32.ofInt i) :: rv base sp r :: st2.map (tr base sp)))
        rw [e1]
        have hat := hH.2.2 r _ (wsO_at hk2)
        refine W.last C.1.1 C.1.2.1 hat ((C.2.2.2.1.2 2 _ rfl).1 n _) (fun q => by cases q) (by show ¬ (_ ∨ (arrV _ _ _).slots.size ≤ _); rw [arrV_size]; exact in32 hi hp1) rfl rfl hd fun H1 g1 g2 g3 => ?_
        have hH1 : hW D cs base sp (uL w r i.toNat x) H1 := hH.upd hk2 rfl (fun j hj q' => ct_uL hj q') g2 g3 (by
          show H1[base + r]? = some (vp_cell cs.2.2 (n, .inr (.inl (fun j => Int64.ofInt (wL (uL w r i.toNat x) r j)))))
          rw [g1]
          show some ((vp_cell cs.2.2 (n, .inr (.inl (fun j => Int64.ofInt (wL w r j))))).setSlot _ _) = _
          rw [vp_cell_l, vp_cell_l, arrV_store, c32 hi]
          congr 2
          funext j
          simp only [updV, wL_uL]
          split <;> rfl)
        exact kk (okW_uL hw hs.h) hl hs.t.t.t hB p e R s m args below meth c Q D cs base sp C H1 _ ls hH1 (hS.put g2 g3 (Nat.le_add_right base r)) hL
      · cases hg
    · cases hg
  · cases hg
theorem so_alen (hen : en (cod k) pc = some (q0, .arraylength, len, x0, a0, b0)) (hl3 : len = 1) (hx : ex E (q0, .arraylength, len, x0, a0, b0) pc lv st w = some (ps, t')) (hp : all_ ps) (kk : Rch l E h k w0 nc ns Φ t') : Rch l E h k w0 nc ns Φ (pc, lv, st, w) := by
  have hd := okD hen
  subst hl3
  simp only [ex] at hx
  obtain ⟨⟨ps2, st2⟩, hg, he⟩ := Option.map_eq_some_iff.mp hx
  cases he
  unfold aLen at hg
  split at hg
  · next r st1 =>
    split at hg
    · next ty n hk2 =>
      split at hg
      · next hn =>
        cases hg
        refine rch_step (fun hw _ hs => okS.c (ok_i ⟨by omega, by omega⟩) hs.t) (fun p e R s m args below meth c Q D cs base sp C hw hl hs H locs ls cells slots hc1 hc2 hH hS hL K => ?_) kk
        have e1 : rv base sp r = .ref (base + r) := rv_lt (lay_lt hH hk2)
        show W p l e R s m args below meth c H locs cells slots Q (F0 m pc ls (rv base sp r :: st1.map (tr base sp)))
        rw [e1]
        have e2 : Int32.ofNat n = Int32.ofInt (n : Int) := Int32.ofInt_eq_ofNat.symm
        have hw9 := wsO_at (base := base) (sp := sp) (cs := cs) hk2
        match ty, hw9 with
        | 0, hw9 => exact va_alen (D := D) (cl := classes) C.1.1 C.1.2.1 C.2.2.2.1 hH.2.2 r 0 hw9 rfl e2 hd K
        | 1, hw9 => exact va_alen (D := D) (cl := classes) C.1.1 C.1.2.1 C.2.2.2.1 hH.2.2 r 1 hw9 rfl e2 hd K
        | _ + 2, hw9 => exact va_alen (D := D) (cl := classes) C.1.1 C.1.2.1 C.2.2.2.1 hH.2.2 r 2 hw9 rfl e2 hd K
      · cases hg
    · cases hg
    · next hk2 =>
      split at hg
      · next hr =>
        · cases hg
          have hE : E.1 < 100000 := hp
          refine rch_step (fun hw _ hs => okS.c (ok_i ⟨by omega, by omega⟩) hs.t) (fun p e R s m args below meth c Q D cs base sp C hw hl hs H locs ls cells slots hc1 hc2 hH hS hL K => ?_) kk
          obtain ⟨b, g1, g2, g3, g4⟩ := C.2.2.2.2.2.1.2.2.2.2
          have e1 : rv base sp r = .ref b := by unfold rv; rw [hr]; exact g1
          show W p l e R s m args below meth c H locs cells slots Q (F0 m pc ls (rv base sp r :: st1.map (tr base sp)))
          rw [e1]
          refine va_slen C.1.1 C.1.2.1 g2 g3 g4 hS hd ?_
          rw [show Int32.ofNat E.1 = Int32.ofInt (E.1 : Int) from Int32.ofInt_eq_ofNat.symm]
          exact K
      · split at hg
        · next hr =>
          cases hg
          refine rch_step (fun hw _ hs => okS.c (ok_i (strB_i32 _)) hs.t) (fun p e R s m args below meth c Q D cs base sp C hw hl hs H locs ls cells slots hc1 hc2 hH hS hL K => ?_) kk
          obtain ⟨-, -, -, -, -, ⟨⟨adK, adV, h1, h2, h3⟩, -⟩, -⟩ := id C
          have e1 : rv base sp r = .ref (adV (r - 3000)) := by
            unfold rv
            rw [if_neg (by omega), ← (h1 (r - 3000) (by omega)).2]
            exact congrArg sp (by omega)
          show W p l e R s m args below meth c H locs cells slots Q (F0 m pc ls (rv base sp r :: st1.map (tr base sp)))
          rw [e1]
          refine va_tlen C.1.1 C.1.2.1 (h2.1 (r - 3000) (by omega)).2.2.2 hS (v := Int32.ofInt ((strB.getD (r - 3000) []).length : Int)) (by rw [strB_len]; exact Int32.ofInt_eq_ofNat.symm) hd K
        · cases hg
  · cases hg
theorem so_special (hen : en (cod k) pc = some (q0, .invokespecial i, len, x0, a0, b0)) (hl3 : len = 3) (hx : ex E (q0, .invokespecial i, len, x0, a0, b0) pc lv st w = some (ps, t')) (hp : all_ ps) (kk : Rch l E h k w0 nc ns Φ t') (hh : 1 ≤ h := by omega) : Rch l E h k w0 nc ns Φ (pc, lv, st, w) := by
  have hd := okD hen
  have hok := okK k _ (en_mem hen).1
  subst hl3
  unfold okE at hok
  rw [Bool.and_eq_true] at hok
  have hok := of_decide_eq_true hok.2
  simp only [ex] at hx
  split at hx
  · next ha =>
    subst ha
    have hsp : (own k, i, 990) ∈ spl := by
      rcases hok with hok | hok | hok
      · simp at hok
      · exact absurd hok (mls_no k i 990 (by omega))
      · exact hok
    have hlk := spl_ok _ hsp
    split at hx
    · next r st1 =>
      split at hx
      · next hc =>
        cases hx
        refine rch_step (fun _ _ hs => hs.t) (fun p e R s m args below meth c Q D cs base sp C hw hl hs H locs ls cells slots hc1 hc2 hH hS hL K => ?_) kk
        obtain ⟨a, ha⟩ := rv_ref (base := base) C.2.2.2.2.1 hc.1
        show W p l e R s m args below meth c H locs cells slots Q (F0 m pc ls (rv base sp r :: st1.map (tr base sp)))
        rw [ha]
        have hF := C.2.2.1.1
        have hLo := C.2.2.1.2.1
        have h8 := hc.2
        exact W.objInit C.1.1 C.1.2.1 C.1.2.2.2.1 (C.1.2.2.2.2 _ hlk) (C.1.2.2.2.2 _ obj_inst) (C.1.2.2.2.2 _ obj_code) rfl (by rw [C.1.2.2.1]; exact hL.1) rfl hd (by omega) (by show 2 * 0 + _ + 12 ≤ _; rw [trS_cat C.2.2.2.2.1]; omega) K
      · cases hx
    · cases hx
  · cases hx
theorem so_static (hen : en (cod k) pc = some (q0, .invokestatic i, len, x0, a0, b0)) (hl3 : len = 3) (hx : ex E (q0, .invokestatic i, len, x0, a0, b0) pc lv st w = some (ps, t')) (hp : all_ ps) (kk : Rch l E h k w0 nc ns Φ t') (hh : 1 ≤ h := by omega) : Rch l E h k w0 nc ns Φ (pc, lv, st, w) := by
  have hd := okD hen
  have hok := okK k _ (en_mem hen).1
  subst hl3
  unfold okE at hok
  rw [Bool.and_eq_true] at hok
  have hok := of_decide_eq_true hok.2
  have hsp : (a0 = 991 ∨ a0 = 992) → (own k, i, a0) ∈ spl := by
    intro ha
    rcases hok with hok | hok | hok | hok
    · have hok : a0 = 999 := hok
      omega
    · exact absurd hok (mls_no k i a0 (by omega))
    · exact hok
    · exact absurd hok (nsl_no k i a0 (by omega))
  simp only [ex] at hx
  split at hx
  · next ha =>
    subst ha
    have hlk := spl_ok _ (hsp (Or.inl rfl))
    split at hx
    · next y x st1 =>
      split at hx
      · next hc =>
        cases hx
        refine rch_step (fun _ _ hs => okS.c (show okv (vI (iMax x y)) from iMax_ok hs.t.h hs.h) hs.t.t) (fun p e R s m args below meth c Q D cs base sp C hw hl hs H locs ls cells slots hc1 hc2 hH hS hL K => ?_) kk
        have hF := C.2.2.1
        refine va_mmax C.1.1 C.1.2.1 (by rw [C.1.2.2.1]; exact hL.1.symm) C.1.2.2.2.1 (C.1.2.2.2.2 _ hlk) (C.1.2.2.2.2 _ mx_stat) (C.1.2.2.2.2 _ math_init) (C.1.2.2.2.2 _ mx_code) (by omega) (by rw [trS_cat C.2.2.2.2.1]; omega) (by omega) (by omega) hd ?_
        rw [iMax_t (show i32 x from hs.t.h) (show i32 y from hs.h)]
        exact K
      · cases hx
    · cases hx
  · split at hx
    · next ha =>
      subst ha
      have hlk := spl_ok _ (hsp (Or.inr rfl))
      split at hx
      · next y x st1 =>
        split at hx
        · next hc =>
          cases hx
          refine rch_step (fun _ _ hs => okS.c (show okv (vL (lMax x y)) from lMax_ok hs.t.h hs.h) hs.t.t) (fun p e R s m args below meth c Q D cs base sp C hw hl hs H locs ls cells slots hc1 hc2 hH hS hL K => ?_) kk
          have hF := C.2.2.1
          refine va_mmax_long C.1.1 C.1.2.1 (by rw [C.1.2.2.1]; exact hL.1.symm) C.1.2.2.2.1 (C.1.2.2.2.2 _ hlk) (C.1.2.2.2.2 _ mxl__stat) (C.1.2.2.2.2 _ math_init) (C.1.2.2.2.2 _ mxl__code) (by omega) (by rw [trS_cat C.2.2.2.2.1]; omega) (by omega) (by omega) hd ?_
          rw [lMax_t (show i64 x from hs.t.h) (show i64 y from hs.h)]
          exact K
        · cases hx
      · cases hx
    · cases hx
end SH
