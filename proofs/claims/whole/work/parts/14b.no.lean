theorem spl_all : spl.all (fun q => decide (174 ≤ q.2.2)) = true := by decide +kernel
theorem spl_no (k i a : Nat) (h : a < 174) : (own k, i, a) ∉ spl := fun hm => by
  have := of_decide_eq_true (List.all_eq_true.mp spl_all _ hm)
  simp only at this
  omega
theorem nsl_at {o i a : Nat} (h : (o, i, a) ∈ nsl) : rn_ o = RX5 ∧ i = 63 ∧ a = 91 := by
  simp only [nsl, List.mem_singleton, Prod.mk.injEq] at h
  exact ⟨by rw [h.1]; rfl, h.2.1, h.2.2⟩
theorem rty_all : (List.range 174).all (fun k => knd k != 2 || decide (rty k = none)) = true := by decide +kernel
theorem rty_init (k : Nat) (h : k < 174) (h2 : knd k = 2) : rty k = none := by
  have := List.all_eq_true.mp rty_all k (List.mem_range.mpr h)
  simp only [Bool.or_eq_true, bne_iff_ne, ne_eq, decide_eq_true_eq] at this
  exact this.resolve_left (fun q => q h2)
