section SO
variable {l : Launch} {E : AX} {h k : Nat} {w0 : AW} {nc ns : Nat} {Φ : Option AV → AW → Prop} {pc pc' : Nat} {lv lv' : List (Option AV)} {st st' : List AV} {w w' : AW}
theorem rch_ex {q : AE} {ps : List Prop} {t' : AS} (hh : 1 ≤ h) (hen : en (cod k) pc = some q) (hlen : q.2.2.1 = il q.2.1) (hx : ex E q pc lv st w = some (ps, t')) (hp : all_ ps) (kk : Rch l E h k w0 nc ns Φ t') : Rch l E h k w0 nc ns Φ (pc, lv, st, w) := by
  have hd := okD hen
  have hok := okK k q (en_mem hen).1
  obtain ⟨q0, ins, len, x0, a0, b0⟩ := q
  dsimp only at hlen hd
  subst hlen
  unfold okE at hok
  rw [Bool.and_eq_true] at hok
  have hok := hok.2
  cases ins with
  | iconst n =>
    simp only [ex] at hx
    split at hx
    · next hr =>
      cases hx
      simp only [rg, Bool.and_eq_true, decide_eq_true_eq] at hr
      exact rch_step (fun _ _ hs => okS.c (show okv (vI n) from (⟨by omega, by omega⟩ : i32 n)) hs) (fun p e R s m args below meth c Q D cs base sp C hw hl hs H locs ls cells slots hc1 hc2 hH hS hL K => lv_iconst C.1.1 C.1.2.1 hd rfl K) kk
    · cases hx
  | bipush n =>
    simp only [ex] at hx
    split at hx
    · next hr =>
      cases hx
      simp only [rg, Bool.and_eq_true, decide_eq_true_eq] at hr
      exact rch_step (fun _ _ hs => okS.c (show okv (vI n) from (⟨by omega, by omega⟩ : i32 n)) hs) (fun p e R s m args below meth c Q D cs base sp C hw hl hs H locs ls cells slots hc1 hc2 hH hS hL K => lv_bipush C.1.1 C.1.2.1 hd (by8 hr.1 hr.2) K) kk
    · cases hx
  | sipush n =>
    simp only [ex] at hx
    split at hx
    · next hr =>
      cases hx
      simp only [rg, Bool.and_eq_true, decide_eq_true_eq] at hr
      exact rch_step (fun _ _ hs => okS.c (show okv (vI n) from (⟨by omega, by omega⟩ : i32 n)) hs) (fun p e R s m args below meth c Q D cs base sp C hw hl hs H locs ls cells slots hc1 hc2 hH hS hL K => lv_sipush C.1.1 C.1.2.1 hd (by16 hr.1 hr.2) K) kk
    · cases hx
  | lconst n =>
    simp only [ex] at hx
    cases hx
    exact rch_step (fun _ _ hs => okS.c (show okv (vL ((n : Nat) : Int)) from (⟨by omega, by omega⟩ : i64 ((n : Nat) : Int))) hs) (fun p e R s m args below meth c Q D cs base sp C hw hl hs H locs ls cells slots hc1 hc2 hH hS hL K => lv_lconst C.1.1 C.1.2.1 hd (Int64.ofInt_eq_ofNat.symm) K) kk
  | ldc i =>
    simp only [ex] at hx
    split at hx
    · next ha =>
      split at hx
      · next hr =>
        cases hx
        simp only [rg, Bool.and_eq_true, decide_eq_true_eq] at hr
        simp only [ha, if_true] at hok
        have hc := cis_ok _ (of_decide_eq_true hok)
        exact rch_step (fun _ _ hs => okS.c (show okv (vI x0) from hr) hs) (fun p e R s m args below meth c Q D cs base sp C hw hl hs H locs ls cells slots hc1 hc2 hH hS hL K => lv_ldc C.1.1 C.1.2.1 C.1.2.2.2.1 (C.1.2.2.2.2 _ hc) hd K) kk
      · cases hx
    · next ha =>
      split at hx
      · next hr =>
        cases hx
        simp only [ha, if_false] at hok
        have hc := of_decide_eq_true hok
        refine rch_step (fun _ _ hs => okS.c (v := vR (2000 + b0)) trivial hs) (fun p e R s m args below meth c Q D cs base sp C hw hl hs H locs ls cells slots hc1 hc2 hH hS hL K => ?_) kk
        obtain ⟨-, -, -, -, -, ⟨⟨adK, adV, h1, h2, h3⟩, -⟩, -⟩ := id C
        obtain ⟨ho, hi⟩ := srs_at hc
        have e2 : tr base sp (vR (2000 + b0)) = .ref (adK b0) := by
          show rv base sp (2000 + b0) = _
          unfold rv
          rw [if_neg (by omega)]; exact (h1 b0 hr).1
        refine va_ldcS C.1.1 C.1.2.1 (q := adK b0) (own := RX2) (index := i) (tx := (strN.getD b0 (0, "")).2) (by have := C.1.2.2.2.1; rw [ho] at this; exact this) (by rw [hi]; exact h3 b0 hr) hd ?_
        rw [← e2]; exact K
      · cases hx
  | ldc_w i =>
    simp only [ex] at hx
    split at hx
    · next hr =>
      cases hx
      simp only [rg, Bool.and_eq_true, decide_eq_true_eq] at hr
      have hc := cis_ok _ (of_decide_eq_true hok).2
      exact rch_step (fun _ _ hs => okS.c (show okv (vI x0) from hr) hs) (fun p e R s m args below meth c Q D cs base sp C hw hl hs H locs ls cells slots hc1 hc2 hH hS hL K => lv_ldcw C.1.1 C.1.2.1 C.1.2.2.2.1 (C.1.2.2.2.2 _ hc) hd K) kk
    · cases hx
  | ldc2_w i =>
    simp only [ex] at hx
    split at hx
    · next hr =>
      cases hx
      simp only [rg, Bool.and_eq_true, decide_eq_true_eq] at hr
      have hc := cll_ok _ (of_decide_eq_true hok)
      exact rch_step (fun _ _ hs => okS.c (show okv (vL x0) from hr) hs) (fun p e R s m args below meth c Q D cs base sp C hw hl hs H locs ls cells slots hc1 hc2 hH hS hL K => lv_ldc2 C.1.1 C.1.2.1 C.1.2.2.2.1 (C.1.2.2.2.2 _ hc) hd K) kk
    · cases hx
  | iload i =>
    simp only [ex] at hx
    obtain ⟨v, hv, he⟩ := Option.map_eq_some_iff.mp hx
    cases he
    have hv := lInt_at hv
    exact rch_step (fun _ hl hs => okS.c (hl.at hv) hs) (fun p e R s m args below meth c Q D cs base sp C hw hl hs H locs ls cells slots hc1 hc2 hH hS hL K => lv_iload C.1.1 C.1.2.1 hd (hL.2.2.2 _ _ hv) K) kk
  | iload_n i =>
    simp only [ex] at hx
    obtain ⟨v, hv, he⟩ := Option.map_eq_some_iff.mp hx
    cases he
    have hv := lInt_at hv
    exact rch_step (fun _ hl hs => okS.c (hl.at hv) hs) (fun p e R s m args below meth c Q D cs base sp C hw hl hs H locs ls cells slots hc1 hc2 hH hS hL K => lv_iload_n C.1.1 C.1.2.1 hd rfl (hL.2.2.2 _ _ hv) K) kk
  | lload i =>
    simp only [ex] at hx
    obtain ⟨v, hv, he⟩ := Option.map_eq_some_iff.mp hx
    cases he
    have hv := lLng_at hv
    exact rch_step (fun _ hl hs => okS.c (hl.at hv) hs) (fun p e R s m args below meth c Q D cs base sp C hw hl hs H locs ls cells slots hc1 hc2 hH hS hL K => lv_lload C.1.1 C.1.2.1 hd (hL.2.2.2 _ _ hv) K) kk
  | lload_n i =>
    simp only [ex] at hx
    obtain ⟨v, hv, he⟩ := Option.map_eq_some_iff.mp hx
    cases he
    have hv := lLng_at hv
    exact rch_step (fun _ hl hs => okS.c (hl.at hv) hs) (fun p e R s m args below meth c Q D cs base sp C hw hl hs H locs ls cells slots hc1 hc2 hH hS hL K => lv_lload_n C.1.1 C.1.2.1 hd rfl (hL.2.2.2 _ _ hv) K) kk
  | aload i =>
    simp only [ex] at hx
    obtain ⟨v, hv, he⟩ := Option.map_eq_some_iff.mp hx
    cases he
    obtain ⟨hv, h5⟩ := lRef_at hv
    refine rch_step (fun _ hl hs => okS.c (v := vR v) trivial hs) (fun p e R s m args below meth c Q D cs base sp C hw hl hs H locs ls cells slots hc1 hc2 hH hS hL K => ?_) kk
    obtain ⟨a, ha⟩ := rv_ref (base := base) C.2.2.2.2.1 h5
    have hz := hL.2.2.2 _ _ hv
    rw [show tr base sp (vR v) = .ref a from ha] at hz
    refine lv_aload C.1.1 C.1.2.1 hd hz ?_
    rw [← ha]; exact K
  | aload_n i =>
    simp only [ex] at hx
    obtain ⟨v, hv, he⟩ := Option.map_eq_some_iff.mp hx
    cases he
    obtain ⟨hv, h5⟩ := lRef_at hv
    refine rch_step (fun _ hl hs => okS.c (v := vR v) trivial hs) (fun p e R s m args below meth c Q D cs base sp C hw hl hs H locs ls cells slots hc1 hc2 hH hS hL K => ?_) kk
    obtain ⟨a, ha⟩ := rv_ref (base := base) C.2.2.2.2.1 h5
    have hz := hL.2.2.2 _ _ hv
    rw [show tr base sp (vR v) = .ref a from ha] at hz
    refine lv_aload_n C.1.1 C.1.2.1 hd rfl hz ?_
    rw [← ha]; exact K
  | istore i =>
    simp only [ex] at hx
    split at hx
    · next v st1 =>
      split at hx
      · next hnl =>
        cases hx
        intro hw hl hs hB p e R s m args below meth c Q D cs base sp C H locs ls hH hS hL
        rw [hL.2.2.1] at hnl
        exact lv_istore C.1.1 C.1.2.1 hd hL.has hnl rfl (fun ls2 h2 => kk hw (okL_s1 hl _ (show okv _ from hs.h)) hs.t hB p e R s m args below meth c Q D cs base sp C H locs ls2 hH hS (hasL_s1 C.2.2.2.2.1 hL.2.2.1 h2))
      · cases hx
    · cases hx
  | istore_n i =>
    simp only [ex] at hx
    split at hx
    · next v st1 =>
      split at hx
      · next hnl =>
        cases hx
        intro hw hl hs hB p e R s m args below meth c Q D cs base sp C H locs ls hH hS hL
        rw [hL.2.2.1] at hnl
        exact lv_istore_n C.1.1 C.1.2.1 hd rfl hL.has hnl rfl (fun ls2 h2 => kk hw (okL_s1 hl _ (show okv _ from hs.h)) hs.t hB p e R s m args below meth c Q D cs base sp C H locs ls2 hH hS (hasL_s1 C.2.2.2.2.1 hL.2.2.1 h2))
      · cases hx
    · cases hx
  | lstore i =>
    simp only [ex] at hx
    split at hx
    · next v st1 =>
      split at hx
      · next hnl =>
        cases hx
        intro hw hl hs hB p e R s m args below meth c Q D cs base sp C H locs ls hH hS hL
        rw [hL.2.2.1] at hnl
        exact lv_lstore C.1.1 C.1.2.1 hd hL.has hnl rfl (fun ls2 h2 => kk hw (okL_s2 hl _ (show okv _ from hs.h)) hs.t hB p e R s m args below meth c Q D cs base sp C H locs ls2 hH hS (hasL_s2 C.2.2.2.2.1 hL.2.2.1 h2))
      · cases hx
    · cases hx
  | lstore_n i =>
    simp only [ex] at hx
    split at hx
    · next v st1 =>
      split at hx
      · next hnl =>
        cases hx
        intro hw hl hs hB p e R s m args below meth c Q D cs base sp C H locs ls hH hS hL
        rw [hL.2.2.1] at hnl
        exact lv_lstore_n C.1.1 C.1.2.1 hd rfl hL.has hnl rfl (fun ls2 h2 => kk hw (okL_s2 hl _ (show okv _ from hs.h)) hs.t hB p e R s m args below meth c Q D cs base sp C H locs ls2 hH hS (hasL_s2 C.2.2.2.2.1 hL.2.2.1 h2))
      · cases hx
    · cases hx
  | astore i =>
    simp only [ex] at hx
    split at hx
    · next v st1 =>
      split at hx
      · next h5 =>
        cases hx
        intro hw hl hs hB p e R s m args below meth c Q D cs base sp C H locs ls hH hS hL
        have hnl := h5.2
        rw [hL.2.2.1] at hnl
        obtain ⟨a, ha⟩ := rv_ref (base := base) C.2.2.2.2.1 h5.1
        show W p l e R s m args below meth c H locs _ _ Q (F0 m pc ls (rv base sp v :: st1.map (tr base sp)))
        rw [ha]
        exact lv_astore C.1.1 C.1.2.1 hd hL.has hnl rfl (fun ls2 h2 => kk hw (okL_s1 hl _ trivial) hs.t hB p e R s m args below meth c Q D cs base sp C H locs ls2 hH hS (hasL_s1 C.2.2.2.2.1 hL.2.2.1 (by rw [show tr base sp (vR v) = .ref a from ha]; exact h2)))
      · cases hx
    · cases hx
  | astore_n i =>
    simp only [ex] at hx
    split at hx
    · next v st1 =>
      split at hx
      · next h5 =>
        cases hx
        intro hw hl hs hB p e R s m args below meth c Q D cs base sp C H locs ls hH hS hL
        have hnl := h5.2
        rw [hL.2.2.1] at hnl
        obtain ⟨a, ha⟩ := rv_ref (base := base) C.2.2.2.2.1 h5.1
        show W p l e R s m args below meth c H locs _ _ Q (F0 m pc ls (rv base sp v :: st1.map (tr base sp)))
        rw [ha]
        exact lv_astore_n C.1.1 C.1.2.1 hd rfl hL.has hnl rfl (fun ls2 h2 => kk hw (okL_s1 hl _ trivial) hs.t hB p e R s m args below meth c Q D cs base sp C H locs ls2 hH hS (hasL_s1 C.2.2.2.2.1 hL.2.2.1 (by rw [show tr base sp (vR v) = .ref a from ha]; exact h2)))
      · cases hx
    · cases hx
  | iinc i n =>
    simp only [ex] at hx
    obtain ⟨v, hv, he⟩ := Option.map_eq_some_iff.mp hx
    cases he
    have hv := lInt_at hv
    intro hw hl hs hB p e R s m args below meth c Q D cs base sp C H locs ls hH hS hL
    have hnl : (i : Nat) < mxl k := by rw [← hL.2.2.1]; exact (List.getElem?_eq_some_iff.mp hv).1
    obtain ⟨kk0, hkk0⟩ := List.getElem?_of_mem (mem_tlv (base := base) (sp := sp) hv)
    exact lv_iinc (v := Int32.ofInt (v + n)) C.1.1 C.1.2.1 hd hL.has hkk0 (by rw [Int32.ofInt_add]) hnl rfl (fun ls2 h2 => kk hw (okL_s1 hl _ (show okv (vI (v + n)) from hp)) hs hB p e R s m args below meth c Q D cs base sp C H locs ls2 hH hS (hasL_s1 C.2.2.2.2.1 hL.2.2.1 h2))
  | iadd =>
    simp only [ex] at hx
    split at hx
    · next y x st1 =>
      split at hx
      · cases hx
        exact rch_step (fun _ _ hs => okS.c (show okv (vI (x + y)) from hp) hs.t.t) (fun p e R s m args below meth c Q D cs base sp C hw hl hs H locs ls cells slots hc1 hc2 hH hS hL K => lv_iadd C.1.1 C.1.2.1 hd (by rw [← Int32.ofInt_add]; exact K)) kk
      · cases hx
        exact rch_step (fun _ _ hs => okS.c (show okv (vI (w32 (x + y))) from i32_w _) hs.t.t) (fun p e R s m args below meth c Q D cs base sp C hw hl hs H locs ls cells slots hc1 hc2 hH hS hL K => lv_iadd C.1.1 C.1.2.1 hd (by rw [← Int32.ofInt_add, ← w32_of]; exact K)) kk
    · cases hx
  | isub =>
    simp only [ex] at hx
    split at hx
    · next y x st1 =>
      split at hx
      · cases hx
        exact rch_step (fun _ _ hs => okS.c (show okv (vI (x - y)) from hp) hs.t.t) (fun p e R s m args below meth c Q D cs base sp C hw hl hs H locs ls cells slots hc1 hc2 hH hS hL K => lv_isub C.1.1 C.1.2.1 hd (by rw [← Int32.ofInt_sub]; exact K)) kk
      · cases hx
        exact rch_step (fun _ _ hs => okS.c (show okv (vI (w32 (x - y))) from i32_w _) hs.t.t) (fun p e R s m args below meth c Q D cs base sp C hw hl hs H locs ls cells slots hc1 hc2 hH hS hL K => lv_isub C.1.1 C.1.2.1 hd (by rw [← Int32.ofInt_sub, ← w32_of]; exact K)) kk
    · cases hx
  | imul =>
    simp only [ex] at hx
    split at hx
    · next y x st1 =>
      split at hx
      · cases hx
        exact rch_step (fun _ _ hs => okS.c (show okv (vI (x * y)) from hp) hs.t.t) (fun p e R s m args below meth c Q D cs base sp C hw hl hs H locs ls cells slots hc1 hc2 hH hS hL K => lv_imul C.1.1 C.1.2.1 hd (by rw [← Int32.ofInt_mul]; exact K)) kk
      · cases hx
        exact rch_step (fun _ _ hs => okS.c (show okv (vI (w32 (x * y))) from i32_w _) hs.t.t) (fun p e R s m args below meth c Q D cs base sp C hw hl hs H locs ls cells slots hc1 hc2 hH hS hL K => lv_imul C.1.1 C.1.2.1 hd (by rw [← Int32.ofInt_mul, ← w32_of]; exact K)) kk
    · cases hx
  | ineg =>
    simp only [ex] at hx
    split at hx
    · next x st1 =>
      cases hx
      exact rch_step (fun _ _ hs => okS.c (show okv (vI (-x)) from hp) hs.t) (fun p e R s m args below meth c Q D cs base sp C hw hl hs H locs ls cells slots hc1 hc2 hH hS hL K => lv_ineg C.1.1 C.1.2.1 hd (by rw [← Int32.ofInt_neg]; exact K)) kk
    · cases hx
  | iand =>
    simp only [ex] at hx
    split at hx
    · next y x st1 =>
      cases hx
      exact rch_step (fun _ _ hs => okS.c (show okv (vI (bAnd x y)) from i32_of _) hs.t.t) (fun p e R s m args below meth c Q D cs base sp C hw hl hs H locs ls cells slots hc1 hc2 hH hS hL K => lv_iand C.1.1 C.1.2.1 hd (by have e9 : Int32.ofInt (bAnd x y) = Int32.ofInt x &&& Int32.ofInt y := Int32.ofInt_toInt _; rw [← e9]; exact K)) kk
    · cases hx
  | ior =>
    simp only [ex] at hx
    split at hx
    · next y x st1 =>
      cases hx
      exact rch_step (fun _ _ hs => okS.c (show okv (vI (bOr x y)) from i32_of _) hs.t.t) (fun p e R s m args below meth c Q D cs base sp C hw hl hs H locs ls cells slots hc1 hc2 hH hS hL K => lv_ior C.1.1 C.1.2.1 hd (by have e9 : Int32.ofInt (bOr x y) = Int32.ofInt x ||| Int32.ofInt y := Int32.ofInt_toInt _; rw [← e9]; exact K)) kk
    · cases hx
  | ixor =>
    simp only [ex] at hx
    split at hx
    · next y x st1 =>
      cases hx
      exact rch_step (fun _ _ hs => okS.c (show okv (vI (bXor x y)) from i32_of _) hs.t.t) (fun p e R s m args below meth c Q D cs base sp C hw hl hs H locs ls cells slots hc1 hc2 hH hS hL K => lv_ixor C.1.1 C.1.2.1 hd (by have e9 : Int32.ofInt (bXor x y) = Int32.ofInt x ^^^ Int32.ofInt y := Int32.ofInt_toInt _; rw [← e9]; exact K)) kk
    · cases hx
  | ishl =>
    simp only [ex] at hx
    split at hx
    · next y x st1 =>
      cases hx
      exact rch_step (fun _ _ hs => okS.c (show okv (vI (bShl x y)) from i32_of _) hs.t.t) (fun p e R s m args below meth c Q D cs base sp C hw hl hs H locs ls cells slots hc1 hc2 hH hS hL K => lv_ishl C.1.1 C.1.2.1 hd (by have e9 : Int32.ofInt (bShl x y) = Int32.ofInt x <<< (Int32.ofInt y &&& 31) := Int32.ofInt_toInt _; rw [← e9]; exact K)) kk
    · cases hx
  | ishr =>
    simp only [ex] at hx
    split at hx
    · next y x st1 =>
      cases hx
      exact rch_step (fun _ _ hs => okS.c (show okv (vI (bShr x y)) from i32_of _) hs.t.t) (fun p e R s m args below meth c Q D cs base sp C hw hl hs H locs ls cells slots hc1 hc2 hH hS hL K => lv_ishr C.1.1 C.1.2.1 hd (by have e9 : Int32.ofInt (bShr x y) = Int32.ofInt x >>> (Int32.ofInt y &&& 31) := Int32.ofInt_toInt _; rw [← e9]; exact K)) kk
    · cases hx
  | iushr =>
    simp only [ex] at hx
    split at hx
    · next y x st1 =>
      cases hx
      exact rch_step (fun _ _ hs => okS.c (show okv (vI (bUshr x y)) from i32_of _) hs.t.t) (fun p e R s m args below meth c Q D cs base sp C hw hl hs H locs ls cells slots hc1 hc2 hH hS hL K => lv_iushr (v := Int32.ofInt (bUshr x y)) C.1.1 C.1.2.1 hd (Int32.ofInt_toInt _).symm K) kk
    · cases hx
  | ladd =>
    simp only [ex] at hx
    split at hx
    · next y x st1 =>
      cases hx
      exact rch_step (fun _ _ hs => okS.c (show okv (vL (x + y)) from hp) hs.t.t) (fun p e R s m args below meth c Q D cs base sp C hw hl hs H locs ls cells slots hc1 hc2 hH hS hL K => lv_ladd C.1.1 C.1.2.1 hd (by rw [← Int64.ofInt_add]; exact K)) kk
    · cases hx
  | lsub =>
    simp only [ex] at hx
    split at hx
    · next y x st1 =>
      cases hx
      exact rch_step (fun _ _ hs => okS.c (show okv (vL (x - y)) from hp) hs.t.t) (fun p e R s m args below meth c Q D cs base sp C hw hl hs H locs ls cells slots hc1 hc2 hH hS hL K => lv_lsub C.1.1 C.1.2.1 hd (by rw [← Int64.ofInt_sub]; exact K)) kk
    · cases hx
  | lmul =>
    simp only [ex] at hx
    split at hx
    · next y x st1 =>
      cases hx
      exact rch_step (fun _ _ hs => okS.c (show okv (vL (x * y)) from hp) hs.t.t) (fun p e R s m args below meth c Q D cs base sp C hw hl hs H locs ls cells slots hc1 hc2 hH hS hL K => lv_lmul C.1.1 C.1.2.1 hd (by rw [← Int64.ofInt_mul]; exact K)) kk
    · cases hx
  | land =>
    simp only [ex] at hx
    split at hx
    · next y x st1 =>
      cases hx
      exact rch_step (fun _ _ hs => okS.c (show okv (vL (lAnd x y)) from i64_of _) hs.t.t) (fun p e R s m args below meth c Q D cs base sp C hw hl hs H locs ls cells slots hc1 hc2 hH hS hL K => lv_land C.1.1 C.1.2.1 hd (by have e9 : Int64.ofInt (lAnd x y) = Int64.ofInt x &&& Int64.ofInt y := Int64.ofInt_toInt _; rw [← e9]; exact K)) kk
    · cases hx
  | lor =>
    simp only [ex] at hx
    split at hx
    · next y x st1 =>
      cases hx
      exact rch_step (fun _ _ hs => okS.c (show okv (vL (lOr x y)) from i64_of _) hs.t.t) (fun p e R s m args below meth c Q D cs base sp C hw hl hs H locs ls cells slots hc1 hc2 hH hS hL K => lv_lor C.1.1 C.1.2.1 hd (by have e9 : Int64.ofInt (lOr x y) = Int64.ofInt x ||| Int64.ofInt y := Int64.ofInt_toInt _; rw [← e9]; exact K)) kk
    · cases hx
  | lxor =>
    simp only [ex] at hx
    split at hx
    · next y x st1 =>
      cases hx
      exact rch_step (fun _ _ hs => okS.c (show okv (vL (lXor x y)) from i64_of _) hs.t.t) (fun p e R s m args below meth c Q D cs base sp C hw hl hs H locs ls cells slots hc1 hc2 hH hS hL K => lv_lxor C.1.1 C.1.2.1 hd (by have e9 : Int64.ofInt (lXor x y) = Int64.ofInt x ^^^ Int64.ofInt y := Int64.ofInt_toInt _; rw [← e9]; exact K)) kk
    · cases hx
  | lshl =>
    simp only [ex] at hx
    split at hx
    · next y x st1 =>
      cases hx
      exact rch_step (fun _ _ hs => okS.c (show okv (vL (lShl x y)) from i64_of _) hs.t.t) (fun p e R s m args below meth c Q D cs base sp C hw hl hs H locs ls cells slots hc1 hc2 hH hS hL K => lv_lshl (v := Int64.ofInt (lShl x y)) C.1.1 C.1.2.1 hd (Int64.ofInt_toInt _).symm K) kk
    · cases hx
  | lshr =>
    simp only [ex] at hx
    split at hx
    · next y x st1 =>
      cases hx
      exact rch_step (fun _ _ hs => okS.c (show okv (vL (lShr x y)) from i64_of _) hs.t.t) (fun p e R s m args below meth c Q D cs base sp C hw hl hs H locs ls cells slots hc1 hc2 hH hS hL K => lv_lshr (v := Int64.ofInt (lShr x y)) C.1.1 C.1.2.1 hd (Int64.ofInt_toInt _).symm K) kk
    · cases hx
  | lushr =>
    simp only [ex] at hx
    split at hx
    · next y x st1 =>
      cases hx
      exact rch_step (fun _ _ hs => okS.c (show okv (vL (lUshr x y)) from i64_of _) hs.t.t) (fun p e R s m args below meth c Q D cs base sp C hw hl hs H locs ls cells slots hc1 hc2 hH hS hL K => lv_lushr (v := Int64.ofInt (lUshr x y)) C.1.1 C.1.2.1 hd (Int64.ofInt_toInt _).symm K) kk
    · cases hx
  | lcmp =>
    simp only [ex] at hx
    split at hx
    · next y x st1 =>
      cases hx
      exact rch_step (fun _ _ hs => okS.c (show okv (vI (lCmp x y)) from lCmp_i x y) hs.t.t) (fun p e R s m args below meth c Q D cs base sp C hw hl hs H locs ls cells slots hc1 hc2 hH hS hL K => W.lcmp C.1.1 C.1.2.1 hd (by rw [lcm_t (show i64 x from hs.t.h) (show i64 y from hs.h)]; exact K)) kk
    · cases hx
  | i2l =>
    simp only [ex] at hx
    split at hx
    · next x st1 =>
      cases hx
      exact rch_step (fun _ _ hs => okS.c (show okv (vL x) from i64_i hs.h) hs.t) (fun p e R s m args below meth c Q D cs base sp C hw hl hs H locs ls cells slots hc1 hc2 hH hS hL K => lv_i2l C.1.1 C.1.2.1 hd (i2l_t (show i32 x from hs.h)) K) kk
    · cases hx
  | l2i =>
    simp only [ex] at hx
    split at hx
    · next x st1 =>
      cases hx
      exact rch_step (fun _ _ hs => okS.c (show okv (vI (w32 x)) from i32_w x) hs.t) (fun p e R s m args below meth c Q D cs base sp C hw hl hs H locs ls cells slots hc1 hc2 hH hS hL K => lv_l2i (v := Int32.ofInt (w32 x)) C.1.1 C.1.2.1 hd (by rw [w32_of, Int64.toInt32_ofInt]) K) kk
    · cases hx
  | i2c =>
    simp only [ex] at hx
    split at hx
    · next x st1 =>
      cases hx
      exact rch_step (fun _ _ hs => okS.c (show okv (vI (c16 x)) from i32_of _) hs.t) (fun p e R s m args below meth c Q D cs base sp C hw hl hs H locs ls cells slots hc1 hc2 hH hS hL K => lv_i2c (v := Int32.ofInt (c16 x)) C.1.1 C.1.2.1 hd (Int32.ofInt_toInt _).symm K) kk
    · cases hx
  | dup =>
    simp only [ex] at hx
    split at hx
    · next v st1 =>
      split at hx
      · next hc =>
        cases hx
        exact rch_step (fun _ _ hs => okS.c hs.h hs) (fun p e R s m args below meth c Q D cs base sp C hw hl hs H locs ls cells slots hc1 hc2 hH hS hL K => lv_dup C.1.1 C.1.2.1 hd (by rw [tr_cat C.2.2.2.2.1]; exact hc) K) kk
      · cases hx
    · cases hx
  | dup2 =>
    simp only [ex] at hx
    split at hx
    · next v u st1 =>
      split at hx
      · next hc =>
        cases hx
        exact rch_step (fun _ _ hs => okS.c hs.h (okS.c hs.t.h hs)) (fun p e R s m args below meth c Q D cs base sp C hw hl hs H locs ls cells slots hc1 hc2 hH hS hL K => lv_dup2_11 C.1.1 C.1.2.1 hd (by rw [tr_cat C.2.2.2.2.1]; exact hc.1) (by rw [tr_cat C.2.2.2.2.1]; exact hc.2) K) kk
      · cases hx
    · cases hx
  | pop =>
    simp only [ex] at hx
    split at hx
    · next v st1 =>
      split at hx
      · next hc =>
        cases hx
        exact rch_step (fun _ _ hs => hs.t) (fun p e R s m args below meth c Q D cs base sp C hw hl hs H locs ls cells slots hc1 hc2 hH hS hL K => lv_pop C.1.1 C.1.2.1 hd (by rw [tr_cat C.2.2.2.2.1]; exact hc) K) kk
      · cases hx
    · cases hx
  | goto off =>
    simp only [ex] at hx
    split at hx
    · next hg =>
      cases hx
      exact rch_step (fun _ _ hs => hs) (fun p e R s m args below meth c Q D cs base sp C hw hl hs H locs ls cells slots hc1 hc2 hH hS hL K => lv_goto C.1.1 C.1.2.1 hd (by unfold tgt; omega) K) kk
    · cases hx
  | getfield i =>
    exact so_getfield hen rfl hx hp kk
  | getstatic i =>
    exact so_getstatic hen rfl hx hp kk
  | putfield i =>
    exact so_putfield hen rfl hx hp kk
  | iaload =>
    exact so_iaload hen rfl hx hp kk
  | baload =>
    exact so_baload hen rfl hx hp kk
  | laload =>
    exact so_laload hen rfl hx hp kk
  | iastore =>
    exact so_iastore hen rfl hx hp kk
  | bastore =>
    exact so_bastore hen rfl hx hp kk
  | lastore =>
    exact so_lastore hen rfl hx hp kk
  | arraylength =>
    exact so_alen hen rfl hx hp kk
  | invokespecial i =>
    exact so_special hen rfl hx hp kk hh
  | invokestatic i =>
    exact so_static hen rfl hx hp kk hh
  | _ => simp only [ex] at hx; cases hx
end SO
