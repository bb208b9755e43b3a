/-- some locals may be taken as unknown -/
def fgt (lv : List (Option AV)) : List Nat → List (Option AV)
  | [] => lv
  | k :: ks => (fgt lv ks).set k none
theorem fgt_len (lv : List (Option AV)) : ∀ ks, (fgt lv ks).length = lv.length
  | [] => rfl
  | k :: ks => by rw [fgt, List.length_set, fgt_len lv ks]
theorem fgt_at {lv : List (Option AV)} : ∀ {ks : List Nat} {i : Nat} {v : AV}, (fgt lv ks)[i]? = some (some v) → lv[i]? = some (some v)
  | [], _, _, h => h
  | k :: ks, i, v, h => by
    rw [fgt, List.getElem?_set] at h
    split at h
    · split at h <;> simp at h
    · exact fgt_at h
theorem rch_forget {l : Launch} {E : AX} {h k : Nat} {w0 : AW} {nc ns : Nat} {Φ : Option AV → AW → Prop} {pc : Nat} {lv : List (Option AV)} {st : List AV} {w : AW} (ks : List Nat) (kk : Rch l E h k w0 nc ns Φ (pc, fgt lv ks, st, w)) : Rch l E h k w0 nc ns Φ (pc, lv, st, w) := by
  intro hw hl hs hB p e R s m args below meth c Q D cs base sp C H locs ls hH hS hL
  have hl2 : okL (fgt lv ks) := fun v hv => by
    obtain ⟨i, hi⟩ := List.getElem?_of_mem hv
    exact hl v (List.mem_of_getElem? (fgt_at hi))
  exact kk hw hl2 hs hB p e R s m args below meth c Q D cs base sp C H locs ls hH hS ⟨hL.1, hL.2.1, (fgt_len lv ks).trans hL.2.2.1, fun i v hi => hL.2.2.2 i v (fgt_at hi)⟩
-- the reference's steps: its codes as the class's, its tests
def cmc (c : Int) : Int := if c = 5 then 3 else if c = 7 then 4 else if c = 6 then 5 else if c = 3 then 1 else if c = 4 then 2 else 0
def tmB (c re x y s t : Int) : Bool := if c = 1 then decide (0 ≤ x ∧ x = y) else if c = 2 then decide (0 ≤ x ∧ 0 ≤ y ∧ x - y ≤ re ∧ y - x ≤ re) else if c = 3 then decide (x < 0 ∨ y < 0) else decide (s = t)
/-- the pile holds the stack, its bottom at 0 -/
def Pil (J : Nat → Nat → Int) (s : List Bool) : Prop := ∀ m : Nat, m < s.length → J 99 (s.length - 1 - m) = b2i (s.getD m false)
theorem Pil_0 (J : Nat → Nat → Int) : Pil J [] := fun m h => by simp at h
theorem b2i_01 (t : Bool) : b2i t = 0 ∨ b2i t = 1 := by cases t <;> simp [b2i]
theorem Pil_push {J : Nat → Nat → Int} {s : List Bool} (h : Pil J s) (t : Bool) {z : Int} (hz : z = b2i t) {n : Nat} (hn : n = s.length) : Pil (upI J 99 n z) (t :: s) := by
  intro m hm
  subst hn
  cases m with
  | zero =>
    rw [show (t :: s).length - 1 - 0 = s.length by simp, upI_eq rfl rfl]
    exact hz
  | succ m =>
    simp only [List.length_cons] at hm ⊢
    rw [show s.length + 1 - 1 - (m + 1) = s.length - 1 - m by omega, upI_ne (by omega)]
    exact h m (by omega)
theorem Pil_tail {J : Nat → Nat → Int} {x : Bool} {r : List Bool} (h : Pil J (x :: r)) : Pil J r := by
  intro m hm
  have := h (m + 1) (by simp; omega)
  simp only [List.length_cons] at this
  rw [show r.length + 1 - 1 - (m + 1) = r.length - 1 - m by omega] at this
  exact this
theorem Pil_top {J : Nat → Nat → Int} {x : Bool} {r : List Bool} (h : Pil J (x :: r)) : J 99 r.length = b2i x := by
  have := h 0 (by simp)
  simp only [List.length_cons] at this
  rw [show r.length + 1 - 1 - 0 = r.length by omega] at this
  exact this
/-- the top is put anew -/
theorem Pil_set {J : Nat → Nat → Int} {x : Bool} {r : List Bool} (h : Pil J (x :: r)) (t : Bool) {z : Int} (hz : z = b2i t) {n : Nat} (hn : n = r.length) : Pil (upI J 99 n z) (t :: r) := Pil_push (Pil_tail h) t hz hn
