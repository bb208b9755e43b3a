-- NUMBERS
theorem i32_of (x : Int32) : i32 x.toInt := ⟨by have := x.le_toInt; omega, by have := x.toInt_lt; omega⟩
theorem i64_of (x : Int64) : i64 x.toInt := ⟨by have := x.le_toInt; omega, by have := x.toInt_lt; omega⟩
theorem t32 {x : Int} (h : i32 x) : (Int32.ofInt x).toInt = x := Int32.toInt_ofInt_of_le (by have := h.1; omega) (by have := h.2; omega)
theorem t64 {x : Int} (h : i64 x) : (Int64.ofInt x).toInt = x := Int64.toInt_ofInt_of_le (by have := h.1; omega) (by have := h.2; omega)
theorem lt32 {x y : Int} (hx : i32 x) (hy : i32 y) : Int32.ofInt x < Int32.ofInt y ↔ x < y := by rw [Int32.lt_iff_toInt_lt, t32 hx, t32 hy]
theorem le32 {x y : Int} (hx : i32 x) (hy : i32 y) : Int32.ofInt x ≤ Int32.ofInt y ↔ x ≤ y := by rw [Int32.le_iff_toInt_le, t32 hx, t32 hy]
theorem eq32 {x y : Int} (hx : i32 x) (hy : i32 y) : Int32.ofInt x = Int32.ofInt y ↔ x = y := by rw [← Int32.toInt_inj, t32 hx, t32 hy]
theorem lt64 {x y : Int} (hx : i64 x) (hy : i64 y) : Int64.ofInt x < Int64.ofInt y ↔ x < y := by rw [Int64.lt_iff_toInt_lt, t64 hx, t64 hy]
theorem eq64 {x y : Int} (hx : i64 x) (hy : i64 y) : Int64.ofInt x = Int64.ofInt y ↔ x = y := by rw [← Int64.toInt_inj, t64 hx, t64 hy]
theorem c32 {x : Int} (h : i32 x) : (Int32.ofInt x).toNatClampNeg = x.toNat := Int32.toNatClampNeg_ofInt_of_le (by have := h.1; omega) (by have := h.2; omega)
theorem in32 {x : Int} {n : Nat} (h : i32 x) (hn : 0 ≤ x ∧ x < (n : Int)) : vp_in (Int32.ofInt x) n := vp_in_iff.mpr (by rw [t32 h]; exact hn)
theorem i32_0 : i32 0 := by constructor <;> decide
theorem i64_0 : i64 0 := by constructor <;> decide
theorem w32_t (x : Int) : w32 x = (Int32.ofInt x).toInt := Int32.toInt_ofInt.symm
theorem w32_of (x : Int) : Int32.ofInt (w32 x) = Int32.ofInt x := by rw [w32_t, Int32.ofInt_toInt]
theorem i32_w (x : Int) : i32 (w32 x) := by rw [w32_t]; exact i32_of _
theorem w32_id {x : Int} (h : i32 x) : w32 x = x := by rw [w32_t, t32 h]
theorem i64_i {x : Int} (h : i32 x) : i64 x := ⟨by have := h.1; omega, by have := h.2; omega⟩
theorem i2l_t {x : Int} (h : i32 x) : (Int32.ofInt x).toInt64 = Int64.ofInt x := Int64.toInt_inj.mp (by rw [Int32.toInt_toInt64, t32 h, t64 (i64_i h)])
theorem lcm_t {x y : Int} (hx : i64 x) (hy : i64 y) : lg_cmp (Int64.ofInt x) (Int64.ofInt y) = Int32.ofInt (lCmp x y) := by
  unfold lg_cmp lCmp
  simp only [gt_iff_lt, lt64 hy hx, eq64 hx hy]
  split
  · rw [if_neg (by omega), if_neg (by omega)]; rfl
  · split
    · next h => rw [if_neg (by omega)]; rfl
    · rw [if_pos (by omega)]; rfl
theorem lCmp_i (x y : Int) : i32 (lCmp x y) := by
  unfold lCmp
  split
  · constructor <;> decide
  · split <;> constructor <;> decide
theorem iMax_t {x y : Int} (hx : i32 x) (hy : i32 y) : (if Int32.ofInt x < Int32.ofInt y then Int32.ofInt y else Int32.ofInt x) = Int32.ofInt (iMax x y) := by
  unfold iMax
  simp only [lt32 hx hy]
  split <;> rfl
theorem lMax_t {x y : Int} (hx : i64 x) (hy : i64 y) : (if Int64.ofInt y < Int64.ofInt x then Int64.ofInt x else Int64.ofInt y) = Int64.ofInt (lMax x y) := by
  unfold lMax
  simp only [lt64 hy hx]
  split <;> rfl
-- what holds of all numbers of a state
def okv (v : AV) : Prop := match v with
  | Sum.inl x => i32 x
  | Sum.inr (Sum.inl x) => i64 x
  | _ => True
def okS (st : List AV) : Prop := ∀ v ∈ st, okv v
def okL (lv : List (Option AV)) : Prop := ∀ v, some v ∈ lv → okv v
def okW (w : AW) : Prop := (∀ a j, i32 (wI w a j)) ∧ ∀ a j, i64 (wL w a j)
theorem okS.c {v : AV} {st : List AV} (h : okv v) (hs : okS st) : okS (v :: st) := fun u hu => by
  rcases List.mem_cons.mp hu with rfl | hu
  · exact h
  · exact hs u hu
theorem okS.h {v : AV} {st : List AV} (hs : okS (v :: st)) : okv v := hs v List.mem_cons_self
theorem okS.t {v : AV} {st : List AV} (hs : okS (v :: st)) : okS st := fun u hu => hs u (List.mem_cons_of_mem _ hu)
theorem okL.at {lv : List (Option AV)} (h : okL lv) {i : Nat} {v : AV} (hi : lv[i]? = some (some v)) : okv v := h v (List.mem_of_getElem? hi)
theorem okL_kL {lv : List (Option AV)} (h : okL lv) (i : Nat) : okL (kL lv i) := by
  unfold kL
  split
  · intro v hv
    rcases List.mem_or_eq_of_mem_set hv with h1 | h1
    · exact h v h1
    · cases h1
  · exact h
theorem okL_s1 {lv : List (Option AV)} (h : okL lv) (i : Nat) {v : AV} (hv : okv v) : okL (s1 lv i v) := by
  intro u hu
  unfold s1 at hu
  rcases List.mem_or_eq_of_mem_set hu with h1 | h1
  · cases i with
    | zero => exact h u h1
    | succ j => exact okL_kL h j u h1
  · cases h1; exact hv
theorem okL_s2 {lv : List (Option AV)} (h : okL lv) (i : Nat) {v : AV} (hv : okv v) : okL (s2 lv i v) := by
  intro u hu
  unfold s2 at hu
  rcases List.mem_or_eq_of_mem_set hu with h1 | h1
  · rcases List.mem_or_eq_of_mem_set h1 with h1 | h1
    · cases i with
      | zero => exact h u h1
      | succ j => exact okL_kL h j u h1
    · cases h1
  · cases h1; exact hv
theorem okW_uI {w : AW} (h : okW w) {a j : Nat} {x : Int} (hx : i32 x) : okW (uI w a j x) := by
  refine ⟨fun b i => ?_, h.2⟩
  show i32 (if b = a ∧ i = j then x else w.2.1 b i)
  split
  · exact hx
  · exact h.1 b i
theorem okW_uL {w : AW} (h : okW w) {a j : Nat} {x : Int} (hx : i64 x) : okW (uL w a j x) := by
  refine ⟨h.1, fun b i => ?_⟩
  show i64 (if b = a ∧ i = j then x else w.2.2.1 b i)
  split
  · exact hx
  · exact h.2 b i
theorem okW_uR {w : AW} (h : okW w) {a j : Nat} {x : Option Nat} : okW (uR w a j x) := h
theorem okW_uN {w : AW} (h : okW w) {q : Nat × Nat × Nat} : okW (uN w q) := by
  refine ⟨fun b i => ?_, fun b i => ?_⟩
  · show i32 (if b = w.1.length then 0 else w.2.1 b i)
    split
    · exact i32_0
    · exact h.1 b i
  · show i64 (if b = w.1.length then 0 else w.2.2.1 b i)
    split
    · exact i64_0
    · exact h.2 b i
/-- what stays as it was at the start: the String constants, two statics, a link between nest mates, the script -/
def Sx (E : AX) (base : Nat) (sp : Nat → Value) (U : State) (H : Heap) : Prop :=
  (∃ adK adV : Nat → Nat, (∀ i, i < 10 → sp (2000 + i) = .ref (adK i) ∧ sp (3000 + i) = .ref (adV i)) ∧ vk_S 10 (strB.map List.length) (strB.map (List.map Int32.ofInt)) adK adV (fun q => base ≤ q) U H ∧ ∀ i, i < 10 → vk_R RX2 (strN.getD i (0, "")).1 (strN.getD i (0, "")).2 (adK i) U) ∧
  va_Z "java/lang/String" "COMPACT_STRINGS" "Z" (.int 1) (fun q => base ≤ q) U H ∧
  va_Z "jdk/internal/util/Preconditions" "SIOOBE_FORMATTER" "Ljava/util/function/BiFunction;" (sp 5000) (fun q => base ≤ q) U H ∧
  va_Nw (.methodLinkNest RX5 63 (ynm 91) RX11) U ∧
  ∃ b, sp 1000 = .ref b ∧ va_X b E.1 E.2 U H ∧ b < H.size ∧ ¬ base ≤ b
theorem Sx.go {E : AX} {base : Nat} {sp : Nat → Value} {s U : State} {H : Heap} {locs : List Loc} (h : Sx E base sp s s.heap) (hW : s.WarmedH U.vm) (hS : va_S (fun q => base ≤ q) s.heap H locs) : Sx E base sp U H := by
  obtain ⟨⟨adK, adV, h1, h2, h3⟩, h4, h5, h6, b, h7, h8, h9, h10⟩ := h
  exact ⟨⟨adK, adV, h1, (vk_S.moved hW.alike h2).kept hS.2.1, fun i hi => vk_R.warm hW (h3 i hi)⟩, (va_Z.moved hW.alike h4).kept hS.2.1, (va_Z.moved hW.alike h5).kept hS.2.1, va_Nw.warmM hW h6, b, h7, (va_X.moved hW.alike h8).kept (hS.2.1 b h9 h10), Nat.lt_of_lt_of_le h9 hS.1, h10⟩
theorem Sx.same {E : AX} {base : Nat} {sp : Nat → Value} {s U : State} {H : Heap} (hv : U.vm = s.vm) (h : Sx E base sp s H) : Sx E base sp U H := by
  have ha : s.vm.Alike U.vm := by rw [hv]; exact Vm.Alike.refl _
  obtain ⟨⟨adK, adV, h1, h2, h3⟩, h4, h5, h6, b, h7, h8, h9, h10⟩ := h
  exact ⟨⟨adK, adV, h1, vk_S.moved ha h2, fun i hi => vk_R.same hv (h3 i hi)⟩, va_Z.moved ha h4, va_Z.moved ha h5, va_Nw.same rfl hv.symm h6, b, h7, va_X.moved ha h8, h9, h10⟩
def retI (ins : Instr) (rt : Option AV) : Bool := match ins, rt with
  | .return_, none => true
  | .ireturn, some (Sum.inl _) => true
  | .lreturn, some (Sum.inr (Sum.inl _)) => true
  | _, _ => false
def retT (ty : Option FieldType) (rt : Option AV) : Prop := match ty, rt with
  | none, none => True
  | some .int, some (Sum.inl _) => True
  | some .boolean, some (Sum.inl x) => x = 0 ∨ x = 1
  | some .char, some (Sum.inl x) => 0 ≤ x ∧ x ≤ 65535
  | some .byte, some (Sum.inl x) => -128 ≤ x ∧ x ≤ 127
  | some .long, some (Sum.inr (Sum.inl _)) => True
  | _, _ => False
/-- what is known in a method's body -/
def Cx (l : Launch) (E : AX) (h k : Nat) (w0 : AW) (nc ns : Nat) (Φ : Option AV → AW → Prop) (p : Program) (e : Env) (R : Room) (s : State) (m : MethodId) (args : Array Value) (below : List Frame) (meth : Method) (c : Code) (Q : State → Prop) (D : va_G) (cs : ClassId × ClassId × ClassId) (base : Nat) (sp : Nat → Value) : Prop :=
  (p.tables.exec = Jvm.exec ∧ c.code = byt k ∧ c.maxLocals = mxl k ∧ s.vm.findClass (rn_ (own k)) = some m.cls ∧ ∀ w ∈ tb, w.before args s = true) ∧
  (knd k = 2 → meth.name = "<init>") ∧ (h ≤ R.frames ∧ 64 * h ≤ R.locals ∧ nc ≤ R.cells ∧ ns ≤ R.slots) ∧
  va_K D classes (tysO cs) s ∧ okSp sp ∧ Sx E base sp s s.heap ∧ base ≤ s.heap.size ∧
  ∀ (H : Heap) (locs : List Loc) (ls : Array Slot) (pc : Nat) (ins : Instr) (rt : Option AV) (wf : AW), Φ rt wf → cN wf = cN w0 + nc → sN wf = sN w0 + ns → okW wf → (∀ v ∈ rt, okv v) → hW D cs base sp wf H → va_S (fun q => base ≤ q) s.heap H locs → decode (byt k) pc = .ok (ins, 1) → retI ins rt = true → retT (rty k) rt → W p l e R s m args below meth c H locs nc ns Q (F0 m pc ls (rt.toList.map (tr base sp)))
/-- the machine, standing at this state of the abstract one, comes to its end -/
def inB (w0 : AW) (nc ns : Nat) (w : AW) : Prop := (cN w0 ≤ cN w ∧ cN w ≤ cN w0 + nc) ∧ sN w0 ≤ sN w ∧ sN w ≤ sN w0 + ns
def Rch (l : Launch) (E : AX) (h k : Nat) (w0 : AW) (nc ns : Nat) (Φ : Option AV → AW → Prop) (t : AS) : Prop :=
  okW t.2.2.2 → okL t.2.1 → okS t.2.2.1 → inB w0 nc ns t.2.2.2 → ∀ (p : Program) (e : Env) (R : Room) (s : State) (m : MethodId) (args : Array Value) (below : List Frame) (meth : Method) (c : Code) (Q : State → Prop) (D : va_G) (cs : ClassId × ClassId × ClassId) (base : Nat) (sp : Nat → Value), Cx l E h k w0 nc ns Φ p e R s m args below meth c Q D cs base sp →
  ∀ (H : Heap) (locs : List Loc) (ls : Array Slot), hW D cs base sp t.2.2.2 H → va_S (fun q => base ≤ q) s.heap H locs → hasL base sp ls (mxl k) t.2.1 → W p l e R s m args below meth c H locs (cN t.2.2.2 - cN w0) (sN t.2.2.2 - sN w0) Q (F0 m t.1 ls (t.2.2.1.map (tr base sp)))
section RS
variable {l : Launch} {E : AX} {h k : Nat} {w0 : AW} {nc ns : Nat} {Φ : Option AV → AW → Prop} {pc pc' : Nat} {lv lv' : List (Option AV)} {st st' : List AV} {w w' : AW}
/-- a step that leaves locals and world -/
theorem rch_step (ok' : okW w → okL lv → okS st → okS st')
    (step : ∀ (p : Program) (e : Env) (R : Room) (s : State) (m : MethodId) (args : Array Value) (below : List Frame) (meth : Method) (c : Code) (Q : State → Prop) (D : va_G) (cs : ClassId × ClassId × ClassId) (base : Nat) (sp : Nat → Value), Cx l E h k w0 nc ns Φ p e R s m args below meth c Q D cs base sp → okW w → okL lv → okS st →
      ∀ (H : Heap) (locs : List Loc) (ls : Array Slot) (cells slots : Nat), cells ≤ nc → slots ≤ ns → hW D cs base sp w H → va_S (fun q => base ≤ q) s.heap H locs → hasL base sp ls (mxl k) lv → W p l e R s m args below meth c H locs cells slots Q (F0 m pc' ls (st'.map (tr base sp))) → W p l e R s m args below meth c H locs cells slots Q (F0 m pc ls (st.map (tr base sp))))
    (kk : Rch l E h k w0 nc ns Φ (pc', lv, st', w)) : Rch l E h k w0 nc ns Φ (pc, lv, st, w) := by
  intro hw hl hs hB p e R s m args below meth c Q D cs base sp C H locs ls hH hS hL
  exact step p e R s m args below meth c Q D cs base sp C hw hl hs H locs ls _ _ (by have := hB.1; simp only at *; omega) (by have := hB.2; simp only at *; omega) hH hS hL (kk hw hl (ok' hw hl hs) hB p e R s m args below meth c Q D cs base sp C H locs ls hH hS hL)
end RS
