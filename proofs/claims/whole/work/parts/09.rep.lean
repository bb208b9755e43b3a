-- REPRESENTATION: what a world of the abstract machine is in the heap
def rv (base : Nat) (sp : Nat → Value) (r : Nat) : Value := if r < 1000 then .ref (base + r) else sp r
def tr (base : Nat) (sp : Nat → Value) (v : AV) : Value := match v with
  | Sum.inl x => .int (Int32.ofInt x)
  | Sum.inr (Sum.inl x) => .long (Int64.ofInt x)
  | Sum.inr (Sum.inr none) => .null
  | Sum.inr (Sum.inr (some r)) => rv base sp r
def okSp (sp : Nat → Value) : Prop := (∀ r, r < 5000 → ∃ a, sp r = .ref a) ∧ ∀ r, sp r = .null ∨ ∃ a, sp r = .ref a
theorem rv_ref {base : Nat} {sp : Nat → Value} (h : okSp sp) {r : Nat} (hr : r < 5000) : ∃ a, rv base sp r = .ref a := by
  unfold rv
  split
  · exact ⟨_, rfl⟩
  · exact h.1 r hr
theorem tr_cat {base : Nat} {sp : Nat → Value} (h : okSp sp) (v : AV) : (tr base sp v).category = cat v := by
  rcases v with x | x | r
  · rfl
  · rfl
  · cases r with
    | none => rfl
    | some r =>
      show (rv base sp r).category = 1
      unfold rv
      split
      · rfl
      · rcases h.2 r with e | ⟨a, e⟩ <;> rw [e] <;> rfl
theorem tr_null {base : Nat} {sp : Nat → Value} (h : okSp sp) (x : Option Nat) : tr base sp (vO x) = .null ∨ ∃ a, tr base sp (vO x) = .ref a := by
  cases x with
  | none => exact Or.inl rfl
  | some r =>
    show rv base sp r = .null ∨ ∃ a, rv base sp r = .ref a
    unfold rv
    split
    · exact Or.inr ⟨_, rfl⟩
    · exact h.2 r
theorem trS_cat {base : Nat} {sp : Nat → Value} (h : okSp sp) (st : List AV) : ((st.map (tr base sp)).map fun v => v.category).sum = catS st := by
  induction st with
  | nil => rfl
  | cons v st ih =>
    simp only [List.map_cons, List.sum_cons, catS] at ih ⊢
    rw [ih, tr_cat h]
def fv (base : Nat) (sp : Nat → Value) (w : AW) (k ci j : Nat) : Value := match fT ci j with
  | 0 => .int (Int32.ofInt (wI w k j))
  | 1 => .int (Int32.ofInt (wI w k j))
  | 2 => .long (Int64.ofInt (wL w k j))
  | _ => tr base sp (vO (wR w k j))
def ct (base : Nat) (sp : Nat → Value) (cs : ClassId × ClassId × ClassId) (w : AW) (k : Nat) (q : Nat × Nat × Nat) : va_E := match q with
  | (0, ci, n) => .inr (ci, (List.range n).map (fv base sp w k ci))
  | (_ + 1, 0, n) => .inl (cs.1, n, .inl (fun j => Int32.ofInt (wI w k j)))
  | (_ + 1, 1, n) => .inl (cs.2.1, n, .inl (fun j => Int32.ofInt (wI w k j)))
  | (_ + 1, _ + 2, n) => .inl (cs.2.2, n, .inr (.inl (fun j => Int64.ofInt (wL w k j))))
def wsO (base : Nat) (sp : Nat → Value) (cs : ClassId × ClassId × ClassId) (w : AW) : va_W := (List.range w.1.length).map (fun k => (base + k, ct base sp cs w k (w.1.getD k (0, 0, 0))))
def tysO (cs : ClassId × ClassId × ClassId) : List (ClassId × FieldType) := [(cs.1, .int), (cs.2.1, .boolean), (cs.2.2, .long)]
theorem wsO_at {base : Nat} {sp : Nat → Value} {cs : ClassId × ClassId × ClassId} {w : AW} {k : Nat} {q : Nat × Nat × Nat} (h : w.1[k]? = some q) : (wsO base sp cs w)[k]? = some (base + k, ct base sp cs w k q) := by
  have hk := (List.getElem?_eq_some_iff.mp h).1
  have e : w.1.getD k (0, 0, 0) = q := by simp [List.getD, h]
  simp only [wsO, List.getElem?_map, List.getElem?_range hk, Option.map_some, e]
theorem wsO_of {base : Nat} {sp : Nat → Value} {cs : ClassId × ClassId × ClassId} {w : AW} {k : Nat} {p : Nat × va_E} (h : (wsO base sp cs w)[k]? = some p) : ∃ q, w.1[k]? = some q ∧ p = (base + k, ct base sp cs w k q) := by
  have hk : k < w.1.length := by
    have := (List.getElem?_eq_some_iff.mp h).1
    simpa [wsO] using this
  have h2 : w.1[k]? = some w.1[k] := List.getElem?_eq_getElem hk
  refine ⟨_, h2, ?_⟩
  rw [wsO_at h2] at h
  exact (Option.some.inj h).symm
def hW (D : va_G) (cs : ClassId × ClassId × ClassId) (base : Nat) (sp : Nat → Value) (w : AW) (H : Heap) : Prop := H.size = base + w.1.length ∧ w.1.length ≤ 1000 ∧ va_P D classes (wsO base sp cs w) H
theorem hW.upd {D : va_G} {cs : ClassId × ClassId × ClassId} {base : Nat} {sp : Nat → Value} {w w' : AW} {H H1 : Heap} (h : hW D cs base sp w H) {r : Nat} {q : Nat × Nat × Nat} (hr : w.1[r]? = some q) (hl : w'.1 = w.1) (hne : ∀ k, k ≠ r → ∀ q', ct base sp cs w' k q' = ct base sp cs w k q') (z : H1.size = H.size) (oq : ∀ a : Nat, a ≠ base + r → H1[a]? = H[a]?) (ha : va_at D classes (base + r, ct base sp cs w' r q) H1) : hW D cs base sp w' H1 := by
  obtain ⟨h1, h2, h3⟩ := h
  refine ⟨by rw [z, h1, hl], by rw [hl]; exact h2, ?_⟩
  intro k p hp
  obtain ⟨q', hq', rfl⟩ := wsO_of hp
  rw [hl] at hq'
  by_cases hk : k = r
  · subst hk
    cases hr.symm.trans hq'
    exact ha
  · rw [hne k hk q']
    exact (h3 k _ (wsO_at hq')).kept (oq _ (by show base + k ≠ base + r; omega))
theorem ct_congr {base : Nat} {sp : Nat → Value} {cs : ClassId × ClassId × ClassId} {w w' : AW} {k : Nat} (h1 : ∀ j, wI w' k j = wI w k j) (h2 : ∀ j, wL w' k j = wL w k j) (h3 : ∀ j, wR w' k j = wR w k j) (q : Nat × Nat × Nat) : ct base sp cs w' k q = ct base sp cs w k q := by
  have e : fv base sp w' k = fv base sp w k := by
    funext ci j
    unfold fv
    rw [h1, h2, h3]
  unfold ct
  split <;> simp only [e, h1, h2]
theorem wI_uI_ne {w : AW} {a j k i : Nat} {x : Int} (h : k ≠ a) : wI (uI w a j x) k i = wI w k i := by simp [wI, uI, h]
theorem wL_uL_ne {w : AW} {a j k i : Nat} {x : Int} (h : k ≠ a) : wL (uL w a j x) k i = wL w k i := by simp [wL, uL, h]
theorem wR_uR_ne {w : AW} {a j k i : Nat} {x : Option Nat} (h : k ≠ a) : wR (uR w a j x) k i = wR w k i := by simp [wR, uR, h]
theorem wI_uI {w : AW} {a j i : Nat} {x : Int} : wI (uI w a j x) a i = if i = j then x else wI w a i := by simp [wI, uI]
theorem wL_uL {w : AW} {a j i : Nat} {x : Int} : wL (uL w a j x) a i = if i = j then x else wL w a i := by simp [wL, uL]
theorem wR_uR {w : AW} {a j i : Nat} {x : Option Nat} : wR (uR w a j x) a i = if i = j then x else wR w a i := by simp [wR, uR]
theorem ct_uI {base : Nat} {sp : Nat → Value} {cs : ClassId × ClassId × ClassId} {w : AW} {a j : Nat} {x : Int} {k : Nat} (h : k ≠ a) (q : Nat × Nat × Nat) : ct base sp cs (uI w a j x) k q = ct base sp cs w k q := ct_congr (fun _ => wI_uI_ne h) (fun _ => rfl) (fun _ => rfl) q
theorem ct_uL {base : Nat} {sp : Nat → Value} {cs : ClassId × ClassId × ClassId} {w : AW} {a j : Nat} {x : Int} {k : Nat} (h : k ≠ a) (q : Nat × Nat × Nat) : ct base sp cs (uL w a j x) k q = ct base sp cs w k q := ct_congr (w := w) (w' := uL w a j x) (fun _ => rfl) (fun _ => wL_uL_ne h) (fun _ => rfl) q
theorem ct_uR {base : Nat} {sp : Nat → Value} {cs : ClassId × ClassId × ClassId} {w : AW} {a j : Nat} {x : Option Nat} {k : Nat} (h : k ≠ a) (q : Nat × Nat × Nat) : ct base sp cs (uR w a j x) k q = ct base sp cs w k q := ct_congr (w := w) (w' := uR w a j x) (fun _ => rfl) (fun _ => rfl) (fun _ => wR_uR_ne h) q
-- locals
def hasL (base : Nat) (sp : Nat → Value) (ls : Array Slot) (n : Nat) (lv : List (Option AV)) : Prop := ls.size = n ∧ lv_wf ls ∧ lv.length = n ∧ ∀ (i : Nat) (v : AV), lv[i]? = some (some v) → ls[i]? = some (.val (tr base sp v))
def tlv (base : Nat) (sp : Nat → Value) (lv : List (Option AV)) : List (Nat × Value) := (List.range lv.length).filterMap (fun i => match lv[i]? with
  | some (some v) => some (i, tr base sp v)
  | _ => none)
theorem mem_tlv {base : Nat} {sp : Nat → Value} {lv : List (Option AV)} {i : Nat} {v : AV} (h : lv[i]? = some (some v)) : (i, tr base sp v) ∈ tlv base sp lv :=
  List.mem_filterMap.mpr ⟨i, List.mem_range.mpr (List.getElem?_eq_some_iff.mp h).1, by rw [h]⟩
theorem hasL.has {base : Nat} {sp : Nat → Value} {ls : Array Slot} {n : Nat} {lv : List (Option AV)} (h : hasL base sp ls n lv) : lv_has ls n (tlv base sp lv) := by
  refine ⟨h.1, h.2.1, fun q hq => ?_⟩
  obtain ⟨i, -, hi⟩ := List.mem_filterMap.mp hq
  split at hi
  · next v hv => cases hi; exact h.2.2.2 i v hv
  · cases hi
theorem kL_at {lv : List (Option AV)} {m j : Nat} {u : AV} (h : (kL lv m)[j]? = some (some u)) : lv[j]? = some (some u) ∧ (j = m → cat u ≠ 2) := by
  unfold kL at h
  split at h
  · by_cases hj : m = j
    · subst hj
      rw [List.getElem?_set] at h
      simp at h
    · rw [List.getElem?_set_ne hj] at h
      exact ⟨h, fun e => absurd e.symm hj⟩
  · next hn =>
    refine ⟨h, fun e => ?_⟩
    subst e
    intro hc
    rcases u with x | x | r
    · simp [cat] at hc
    · exact hn x h
    · simp [cat] at hc
theorem kL_len (lv : List (Option AV)) (i : Nat) : (kL lv i).length = lv.length := by
  unfold kL
  split
  · exact List.length_set
  · rfl
theorem s1_len (lv : List (Option AV)) (i : Nat) (v : AV) : (s1 lv i v).length = lv.length := by
  unfold s1
  rw [List.length_set]
  cases i with
  | zero => rfl
  | succ j => exact kL_len lv j
theorem s2_len (lv : List (Option AV)) (i : Nat) (v : AV) : (s2 lv i v).length = lv.length := by
  unfold s2
  rw [List.length_set, List.length_set]
  cases i with
  | zero => rfl
  | succ j => exact kL_len lv j
theorem hasL_s1 {base : Nat} {sp : Nat → Value} (hsp : okSp sp) {ls : Array Slot} {n i : Nat} {lv : List (Option AV)} {v : AV} (hn : lv.length = n) (h : lv_has ls n ((i, tr base sp v) :: (tlv base sp lv).filter (fun q => !(q.1 == i) && !(q.1 + 1 == i && q.2.category == 2)))) : hasL base sp ls n (s1 lv i v) := by
  refine ⟨h.1, h.2.1, by rw [s1_len]; exact hn, fun j u hj => ?_⟩
  unfold s1 at hj
  by_cases hji : i = j
  · subst hji
    rw [List.getElem?_set] at hj
    simp at hj
    obtain ⟨-, rfl⟩ := hj
    exact h.2.2 _ List.mem_cons_self
  · rw [List.getElem?_set_ne hji] at hj
    have key : lv[j]? = some (some u) ∧ (j + 1 = i → cat u ≠ 2) := by
      cases i with
      | zero => exact ⟨hj, fun e => by omega⟩
      | succ i' => exact ⟨(kL_at hj).1, fun e => (kL_at hj).2 (by omega)⟩
    refine h.2.2 (j, tr base sp u) (List.mem_cons_of_mem _ (List.mem_filter.mpr ⟨mem_tlv key.1, ?_⟩))
    have h1 : (j == i) = false := by simp; omega
    simp only [h1, tr_cat hsp, Bool.not_false, Bool.true_and, Bool.not_eq_true', Bool.and_eq_false_iff, beq_eq_false_iff_ne]
    by_cases e : j + 1 = i
    · exact Or.inr (key.2 e)
    · exact Or.inl e
theorem hasL_s2 {base : Nat} {sp : Nat → Value} (hsp : okSp sp) {ls : Array Slot} {n i : Nat} {lv : List (Option AV)} {v : AV} (hn : lv.length = n) (h : lv_has ls n ((i, tr base sp v) :: (tlv base sp lv).filter (fun q => !(q.1 == i) && (!(q.1 == i + 1) && !(q.1 + 1 == i && q.2.category == 2))))) : hasL base sp ls n (s2 lv i v) := by
  refine ⟨h.1, h.2.1, by rw [s2_len]; exact hn, fun j u hj => ?_⟩
  unfold s2 at hj
  by_cases hji : i = j
  · subst hji
    rw [List.getElem?_set] at hj
    simp at hj
    obtain ⟨-, rfl⟩ := hj
    exact h.2.2 _ List.mem_cons_self
  · rw [List.getElem?_set_ne hji] at hj
    by_cases hj2 : i + 1 = j
    · subst hj2
      rw [List.getElem?_set] at hj
      simp at hj
    rw [List.getElem?_set_ne hj2] at hj
    have key : lv[j]? = some (some u) ∧ (j + 1 = i → cat u ≠ 2) := by
      cases i with
      | zero => exact ⟨hj, fun e => by omega⟩
      | succ i' => exact ⟨(kL_at hj).1, fun e => (kL_at hj).2 (by omega)⟩
    refine h.2.2 (j, tr base sp u) (List.mem_cons_of_mem _ (List.mem_filter.mpr ⟨mem_tlv key.1, ?_⟩))
    have h1 : (j == i) = false := by simp; omega
    have h2 : (j == i + 1) = false := by simp; omega
    simp only [h1, h2, tr_cat hsp, Bool.not_false, Bool.true_and, Bool.not_eq_true', Bool.and_eq_false_iff, beq_eq_false_iff_ne]
    by_cases e : j + 1 = i
    · exact Or.inr (key.2 e)
    · exact Or.inl e
/-- a method's locals at its entry -/
def enA (args : List AV) : List (Option AV) := args.flatMap (fun v => if cat v = 2 then [some v, none] else [some v])
def enL (args : List AV) (n : Nat) : List (Option AV) := enA args ++ List.replicate (n - (enA args).length) none
theorem enA_len {base : Nat} {sp : Nat → Value} (hsp : okSp sp) (args : List AV) : (lg_sl (args.map (tr base sp))).length = (enA args).length := by
  induction args with
  | nil => rfl
  | cons v vs ih =>
    simp only [List.map_cons, lg_sl, enA, List.flatMap_cons, List.length_append, tr_cat hsp] at ih ⊢
    rw [ih]
    split <;> rfl
theorem enA_at {base : Nat} {sp : Nat → Value} (hsp : okSp sp) : ∀ (args : List AV) (o i : Nat) (v : AV), (enA args)[i]? = some (some v) → (o + i, tr base sp v) ∈ lv_args o (args.map (tr base sp))
  | [], o, i, v, h => by simp [enA] at h
  | a :: as, o, i, v, h => by
    simp only [List.map_cons, lv_args, tr_cat hsp]
    simp only [enA, List.flatMap_cons] at h
    by_cases hc : cat a = 2
    · rw [if_pos hc] at h ⊢
      match i, h with
      | 0, h => simp at h; subst h; exact List.mem_cons_self
      | 1, h => simp at h
      | i + 2, h =>
        refine List.mem_cons_of_mem _ ?_
        have := enA_at (base := base) hsp as (o + 2) i v (by simpa [enA] using h)
        rwa [show o + 2 + i = o + (i + 2) by omega] at this
    · rw [if_neg hc] at h ⊢
      match i, h with
      | 0, h => simp at h; subst h; exact List.mem_cons_self
      | i + 1, h =>
        refine List.mem_cons_of_mem _ ?_
        have := enA_at (base := base) hsp as (o + 1) i v (by simpa [enA] using h)
        rwa [show o + 1 + i = o + (i + 1) by omega] at this
theorem hasL_entry {base : Nat} {sp : Nat → Value} (hsp : okSp sp) (args : List AV) {n : Nat} (h : (enA args).length ≤ n) : hasL base sp ((lg_sl (args.map (tr base sp)) ++ List.replicate (n - (lg_sl (args.map (tr base sp))).length) Slot.unset).toArray) n (enL args n) := by
  have h1 := lv_entry (args.map (tr base sp)) (n := n) (by rw [enA_len hsp]; exact h)
  refine ⟨h1.1, h1.2.1, by unfold enL; rw [List.length_append, List.length_replicate]; omega, fun i v hv => ?_⟩
  refine h1.2.2 (i, tr base sp v) ?_
  unfold enL at hv
  by_cases hi : i < (enA args).length
  · rw [List.getElem?_append_left hi] at hv
    have := enA_at (base := base) hsp args 0 i v hv
    rwa [Nat.zero_add] at this
  · rw [List.getElem?_append_right (by omega), List.getElem?_replicate] at hv
    split at hv <;> simp at hv
