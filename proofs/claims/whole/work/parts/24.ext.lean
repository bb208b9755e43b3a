theorem vpc_i {cA : ClassId} {n : Nat} {f g : Nat → Int32} (h : ∀ j, j < n → f j = g j) : vp_cell cA (n, .inl f) = vp_cell cA (n, .inl g) := by
  rw [vp_cell_i, vp_cell_i]
  unfold arrV
  congr 1
  apply Array.ext
  · simp
  · intro i h1 h2
    simp at h1 ⊢
    exact h i h1
theorem vpc_l {cA : ClassId} {n : Nat} {f g : Nat → Int64} (h : ∀ j, j < n → f j = g j) : vp_cell cA (n, .inr (.inl f)) = vp_cell cA (n, .inr (.inl g)) := by
  rw [vp_cell_l, vp_cell_l]
  unfold arrV
  congr 1
  apply Array.ext
  · simp
  · intro i h1 h2
    simp at h1 ⊢
    exact h i h1
theorem at_ext {D : va_G} {cs : ClassId × ClassId × ClassId} {base : Nat} {sp : Nat → Value} {w w' : AW} {a : Nat} {q : Nat × Nat × Nat} {H : Heap} (hI : ∀ j, j < q.2.2 → wI w' a j = wI w a j) (hL : ∀ j, j < q.2.2 → wL w' a j = wL w a j) (hR : ∀ j, j < q.2.2 → wR w' a j = wR w a j) (h : va_at D classes (base + a, ct base sp cs w a q) H) : va_at D classes (base + a, ct base sp cs w' a q) H := by
  obtain ⟨q1, q2, n⟩ := q
  dsimp only at hI hL hR
  match q1, q2, h with
  | 0, ci, h =>
    have e : (List.range n).map (fv base sp w' a ci) = (List.range n).map (fv base sp w a ci) := by
      apply List.map_congr_left
      intro j hj
      have hj := List.mem_range.mp hj
      unfold fv
      rw [hI j hj, hL j hj, hR j hj]
    show va_at D classes (base + a, .inr (ci, (List.range n).map (fv base sp w' a ci))) H
    rw [e]
    exact h
  | q1 + 1, 0, h =>
    have h : H[base + a]? = some (vp_cell cs.1 (n, .inl (fun j => Int32.ofInt (wI w a j)))) := h
    show H[base + a]? = some (vp_cell cs.1 (n, .inl (fun j => Int32.ofInt (wI w' a j))))
    exact h.trans (congrArg some (vpc_i (fun j hj => by rw [hI j hj])))
  | q1 + 1, 1, h =>
    have h : H[base + a]? = some (vp_cell cs.2.1 (n, .inl (fun j => Int32.ofInt (wI w a j)))) := h
    show H[base + a]? = some (vp_cell cs.2.1 (n, .inl (fun j => Int32.ofInt (wI w' a j))))
    exact h.trans (congrArg some (vpc_i (fun j hj => by rw [hI j hj])))
  | q1 + 1, q2 + 2, h =>
    have h : H[base + a]? = some (vp_cell cs.2.2 (n, .inr (.inl (fun j => Int64.ofInt (wL w a j))))) := h
    show H[base + a]? = some (vp_cell cs.2.2 (n, .inr (.inl (fun j => Int64.ofInt (wL w' a j)))))
    exact h.trans (congrArg some (vpc_l (fun j hj => by rw [hL j hj])))
/-- a world may be taken for another that agrees with it where it has cells -/
theorem rch_ext {l : Launch} {E : AX} {h k : Nat} {w0 : AW} {nc ns : Nat} {Φ : Option AV → AW → Prop} {pc : Nat} {lv : List (Option AV)} {st : List AV} {w : AW} (w' : AW) (hl : w'.1 = w.1) (hI : ∀ (a : Nat) (q : Nat × Nat × Nat), w.1[a]? = some q → ∀ j, j < q.2.2 → wI w' a j = wI w a j ∧ wL w' a j = wL w a j ∧ wR w' a j = wR w a j) (hok : okW w → okW w')
    (kk : Rch l E h k w0 nc ns Φ (pc, lv, st, w')) : Rch l E h k w0 nc ns Φ (pc, lv, st, w) := by
  intro hw hlv hs hB p e R s m args below meth c Q D cs base sp C H locs ls hH hS hL
  have hcn : cN w' = cN w := by unfold cN; rw [hl]
  have hsn : sN w' = sN w := by unfold sN; rw [hl]
  have hH' : hW D cs base sp w' H := by
    refine ⟨by rw [hl]; exact hH.1, by rw [hl]; exact hH.2.1, fun a p hp => ?_⟩
    obtain ⟨q, hq, rfl⟩ := wsO_of hp
    rw [hl] at hq
    exact at_ext (fun j hj => (hI a q hq j hj).1) (fun j hj => (hI a q hq j hj).2.1) (fun j hj => (hI a q hq j hj).2.2) (hH.2.2 a _ (wsO_at hq))
  have := kk (hok hw) hlv hs (by unfold inB at hB ⊢; dsimp only at hB ⊢; rw [hcn, hsn]; exact hB) p e R s m args below meth c Q D cs base sp C H locs ls hH' hS hL
  dsimp only at this ⊢
  rw [hcn, hsn] at this
  exact this
theorem I0_ok : okW (MW false I0 L0) := by
  refine ⟨fun a j => ?_, fun a j => i64_0⟩
  show i32 (I0 a j)
  unfold I0
  split
  · constructor <;> decide
  · split <;> constructor <;> decide
/-- behind the constructors -/
theorem rch_made {l : Launch} {E : AX} {h k : Nat} {w0 : AW} {nc ns : Nat} {Φ : Option AV → AW → Prop} {pc : Nat} {lv : List (Option AV)} {st : List AV} (kk : Rch l E h k w0 nc ns Φ (pc, lv, st, MW false I0 L0)) : Rch l E h k w0 nc ns Φ (pc, lv, st, W330) := by
  refine rch_ext (MW false I0 L0) w_lay.symm (fun a q hq j hj => ?_) (fun _ => I0_ok) kk
  rw [w_lay] at hq
  have ha : a < 129 := (List.getElem?_eq_some_iff.mp hq).1
  have h1 := agr_all a ha
  unfold agr at h1
  have h2 : LAY.getD a (0, 0, 0) = q := by simp [List.getD, hq]
  rw [h2] at h1
  have h3 := List.all_eq_true.mp h1 j (List.mem_range.mpr hj)
  simp only [Bool.and_eq_true, decide_eq_true_eq] at h3
  exact ⟨h3.1.1, h3.1.2, h3.2⟩
