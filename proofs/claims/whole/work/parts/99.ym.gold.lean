-- PAIRS about partings and gold
theorem part_inv {bk : Nat} {I L J M : Nat → Nat → Int} {d k : Int} (hbk : bk = 1 ∨ bk = 7) (hI : Inv bk I) (h : Ptd bk I L J M d k) : Inv bk J ∧ SG J d k ∧ PtOK bk J := by
  obtain ⟨p1, p2, p3, p4, p5, p6⟩ := h
  exact ⟨Inv_q (fun a j z => p2 a j (by unfold Core at z; omega)) hI ⟨fun _ => by rw [p3.1, p3.2.1]; exact p3, fun _ _ => p6⟩ (A12_c (fun a j z => p2 a j (by omega)) hI.2.2.2.2.2.2.2.2.2.2.2), p3, p6⟩
theorem partM_inv {bk : Nat} {J J2 : Nat → Nat → Int} {d k : Int} (hbk : bk = 1 ∨ bk = 7) (hJ : Inv bk J) (h : PtM J J2 d k) : Inv bk J2 :=
  Inv_q (fun a j z => h.1 a j (by unfold Core at z; omega)) hJ (A11_c (fun a j z => h.1 a j (by omega)) hJ.2.2.2.2.2.2.2.2.2.2.1) h.2.2.2.2.1
theorem ptE {bk : Nat} {J J2 : Nat → Nat → Int} {d k : Int} (hJ : Inv bk J) (hs : SG J d k) (hP : PtOK bk J) (hM : PtM J J2 d k) : (J 49 0 = 0 ∧ J2 74 58 = 0) ∨ (J 49 0 = 1 ∧ J2 74 58 = 1 ∧ J 49 2 = J2 74 56 ∧ J 49 1 = J2 74 57 ∧ ∀ r : Nat, r < 10 → J 50 r = J2 111 r ∧ (thB J r = true → 0 ≤ J 50 r ∧ J 50 r ≤ 9) ∧ (thB J r = false → J 50 r = -1)) := by
  obtain ⟨a1, a2, a3, a4, a5, a6, a7, a8, a9, a10, a11, a12⟩ := hJ
  exact pt_eq hs hP a4.2.2.1 a5.2 a10.2 a10.1 a4.1 (VMK_of a4) a5.1 hM
theorem pOf_no {bk : Nat} {J : Nat → Nat → Int} {r d k : Int} (hJ : Inv bk J) (hs : SG J d k) (hP : PtOK bk J) (hn : ¬ rwK J r k) : pOf J r = -1 := by
  unfold pOf
  by_cases c : J 49 0 ≠ 0 ∧ 0 ≤ r ∧ r < 10
  · rw [if_pos c]
    refine hP.2.2.1 r.toNat (by omega) (decide_eq_false (fun z => ?_))
    exact hn ((th_iff hJ.2.2.2.1 hs r).mp ⟨c.2.1, c.2.2, z⟩)
  · rw [if_neg c]
/-- the person of a row that is there -/
theorem pOf_eq {bk : Nat} {J J2 : Nat → Nat → Int} {r d k : Int} (hJ : Inv bk J) (hs : SG J d k) (hP : PtOK bk J) (hM : PtM J J2 d k) (hr : rwK J r k) : (J 49 0 = 0 ∧ J2 74 58 = 0 ∧ pOf J r = -1) ∨ (J 49 0 = 1 ∧ J2 74 58 = 1 ∧ pOf J r = J2 111 r.toNat ∧ 0 ≤ pOf J r ∧ pOf J r ≤ 9 ∧ ∀ r : Nat, r < 10 → J 50 r = J2 111 r ∧ (thB J r = false → J 50 r = -1)) := by
  have ht := (th_iff hJ.2.2.2.1 hs r).mpr hr
  rcases ptE hJ hs hP hM with ⟨q1, q2⟩ | ⟨q1, q2, q3, q4, q5⟩
  · exact Or.inl ⟨q1, q2, by unfold pOf; rw [if_neg (fun z => z.1 q1)]⟩
  · have h5 := q5 r.toNat (by omega)
    have h6 := h5.2.1 (decide_eq_true ht.2.2)
    have e : pOf J r = J 50 r.toNat := by unfold pOf; rw [if_pos ⟨by omega, ht.1, ht.2.1⟩]
    rw [e]
    exact Or.inr ⟨q1, q2, h5.1, h6.1, h6.2, fun r hr => ⟨(q5 r hr).1, (q5 r hr).2.2⟩⟩
theorem kb_persons (l : Launch) (E : AX) (b : Bool) (I L : Nat → Nat → Int) (d k : Int) (hP : POK (bkb b) I) : Con l E 6 77 [vR 0, vI d, vI k] (MW b I L) 0 0 (fun rt w => ∃ J M, w = MW b J M ∧ Ptd (bkb b) I L J M d k ∧ ((J 49 0 ≠ 0 ∧ rt = some (vI (J 49 1))) ∨ (J 49 0 = 0 ∧ rt = some (vI (-2))))) := by
  cases b
  · exact k_persons_f l E I L d k hP
  · exact k_persons_t l E I L d k hP
theorem kb_worth (l : Launch) (E : AX) (b : Bool) (I L : Nat → Nat → Int) (d k : Int) (hP : POK (bkb b) I) : Con l E 6 78 [vR 0, vI d, vI k] (MW b I L) 0 0 (fun rt w => ∃ J M, w = MW b J M ∧ Ptd (bkb b) I L J M d k ∧ ((J 49 0 ≠ 0 ∧ rt = some (vI (J 49 2))) ∨ (J 49 0 = 0 ∧ rt = some (vI (-2000000))))) := by
  cases b
  · exact k_worth_f l E I L d k hP
  · exact k_worth_t l E I L d k hP
theorem kb_person (l : Launch) (E : AX) (b : Bool) (I L : Nat → Nat → Int) (r d k : Int) (hP : POK (bkb b) I) : Con l E 6 79 [vR 0, vI r, vI d, vI k] (MW b I L) 0 0 (fun rt w => ∃ J M, w = MW b J M ∧ Ptd (bkb b) I L J M d k ∧ rt = some (vI (pOf J r))) := by
  cases b
  · exact k_person_f l E I L r d k hP
  · exact k_person_t l E I L r d k hP
theorem kb_golden (l : Launch) (E : AX) (b : Bool) (I L : Nat → Nat → Int) (r f d k : Int) (hP : POK (bkb b) I) (hG : GOK I) (hd : d ≤ 2147483647) : Con l E 7 80 [vR 0, vI r, vI f, vI d, vI k] (MW b I L) 0 0 (fun rt w => (¬ (0 ≤ f ∧ f ≤ 5) ∧ rt = some (vI (-1)) ∧ w = MW b I L) ∨ ((0 ≤ f ∧ f ≤ 5) ∧ ∃ J M, Ptd (bkb b) I L J M d k ∧ ((pOf J r = -1 ∧ rt = some (vI (-1)) ∧ w = MW b J M) ∨ (pOf J r ≠ -1 ∧ ((lst (fxA J (pOf J r) f) (J 38 0).toNat ≠ -1 ∧ rt = some (vI (J 41 (lst (fxA J (pOf J r) f) (J 38 0).toNat).toNat)) ∧ w = MW b J M) ∨ (lst (fxA J (pOf J r) f) (J 38 0).toNat = -1 ∧ ∃ J2, Hrd J J2 (pOf J r) f ∧ rt = some (vI (J2 61 0)) ∧ w = MW b J2 M)))))) := by
  cases b
  · exact k_golden_f l E I L r f d k hP hG hd
  · exact k_golden_t l E I L r f d k hP hG hd
theorem kb_from (l : Launch) (E : AX) (b : Bool) (I L : Nat → Nat → Int) (r f d k : Int) (hP : POK (bkb b) I) (hG : GOK I) (hd : d ≤ 2147483647) : Con l E 7 81 [vR 0, vI r, vI f, vI d, vI k] (MW b I L) 0 0 (fun rt w => (¬ (0 ≤ f ∧ f ≤ 5) ∧ rt = some (vI (-1)) ∧ w = MW b I L) ∨ ((0 ≤ f ∧ f ≤ 5) ∧ ∃ J M, Ptd (bkb b) I L J M d k ∧ ((pOf J r = -1 ∧ rt = some (vI (-1)) ∧ w = MW b J M) ∨ (pOf J r ≠ -1 ∧ ((lst (fxA J (pOf J r) f) (J 38 0).toNat ≠ -1 ∧ rt = some (vI (-2)) ∧ w = MW b J M) ∨ (lst (fxA J (pOf J r) f) (J 38 0).toNat = -1 ∧ ∃ J2, Hrd J J2 (pOf J r) f ∧ rt = some (vI (J2 61 1)) ∧ w = MW b J2 M)))))) := by
  cases b
  · exact k_from_f l E I L r f d k hP hG hd
  · exact k_from_t l E I L r f d k hP hG hd
theorem kb_torn (l : Launch) (E : AX) (b : Bool) (I L : Nat → Nat → Int) (r f d k : Int) (hP : POK (bkb b) I) (hG : GOK I) (hd : d ≤ 2147483647) : Con l E 7 82 [vR 0, vI r, vI f, vI d, vI k] (MW b I L) 0 0 (fun rt w => (¬ (0 ≤ f ∧ f ≤ 5) ∧ rt = some (vI (-1)) ∧ w = MW b I L) ∨ ((0 ≤ f ∧ f ≤ 5) ∧ ∃ J M, Ptd (bkb b) I L J M d k ∧ ((pOf J r = -1 ∧ rt = some (vI (-1)) ∧ w = MW b J M) ∨ (pOf J r ≠ -1 ∧ ∃ J2, Hrd J J2 (pOf J r) f ∧ rt = some (vI (J2 61 2)) ∧ w = MW b J2 M)))) := by
  cases b
  · exact k_torn_f l E I L r f d k hP hG hd
  · exact k_torn_t l E I L r f d k hP hG hd
theorem pr_persons (l : Launch) (E : AX) (b : Bool) (I L : Nat → Nat → Int) (d k : Int) (hI : Inv (bkb b) I) : Pair l E b I L 6 77 6 150 [vI d, vI k] := by
  have hbk := bk_b b
  refine con_imp (kb_persons l E b I L d k (POK_of hI)) ?_
  rintro rt w ⟨J, M, h1, hp, ⟨c, e⟩ | ⟨c, e⟩⟩
  all_goals
    obtain ⟨hJ, hs, hP⟩ := part_inv hbk hI hp
    refine ⟨b, J, M, _, e, h1, con_imp (k_personsM l E b J M d k (PMk_of hJ)) ?_⟩
    rintro rt w ⟨J2, h2, hm, ⟨c2, e2⟩ | ⟨c2, e2⟩⟩
    all_goals
      have hJ2 := partM_inv hbk hJ hm
      rcases ptE hJ hs hP hm with ⟨q1, q2⟩ | ⟨q1, q2, q3, q4, q5⟩
    all_goals first
      | (exfalso; omega)
      | exact ⟨J2, M, by rw [e2, q4], h2, hJ2⟩
      | exact ⟨J2, M, e2, h2, hJ2⟩
theorem pr_worth (l : Launch) (E : AX) (b : Bool) (I L : Nat → Nat → Int) (d k : Int) (hI : Inv (bkb b) I) : Pair l E b I L 6 78 6 151 [vI d, vI k] := by
  have hbk := bk_b b
  refine con_imp (kb_worth l E b I L d k (POK_of hI)) ?_
  rintro rt w ⟨J, M, h1, hp, ⟨c, e⟩ | ⟨c, e⟩⟩
  all_goals
    obtain ⟨hJ, hs, hP⟩ := part_inv hbk hI hp
    refine ⟨b, J, M, _, e, h1, con_imp (k_worthM l E b J M d k (PMk_of hJ)) ?_⟩
    rintro rt w ⟨J2, h2, hm, ⟨c2, e2⟩ | ⟨c2, e2⟩⟩
    all_goals
      have hJ2 := partM_inv hbk hJ hm
      rcases ptE hJ hs hP hm with ⟨q1, q2⟩ | ⟨q1, q2, q3, q4, q5⟩
    all_goals first
      | (exfalso; omega)
      | exact ⟨J2, M, by rw [e2, q3], h2, hJ2⟩
      | exact ⟨J2, M, e2, h2, hJ2⟩
theorem pr_person (l : Launch) (E : AX) (b : Bool) (I L : Nat → Nat → Int) (r d k : Int) (hI : Inv (bkb b) I) : Pair l E b I L 6 79 6 152 [vI r, vI d, vI k] := by
  have hbk := bk_b b
  refine con_imp (kb_person l E b I L r d k (POK_of hI)) ?_
  rintro rt w ⟨J, M, h1, hp, e⟩
  obtain ⟨hJ, hs, hP⟩ := part_inv hbk hI hp
  refine ⟨b, J, M, _, e, h1, con_imp (k_personM l E b J M r d k (PMk_of hJ)) ?_⟩
  rintro rt w (⟨hr, J2, h2, hm, hv⟩ | ⟨hn, e2, h2⟩)
  · have hJ2 := partM_inv hbk hJ hm
    rcases pOf_eq hJ hs hP hm hr with ⟨q1, q2, q3⟩ | ⟨q1, q2, q3, q4, q5, q6⟩
    · rcases hv with ⟨c2, e2⟩ | ⟨c2, e2⟩
      · exact absurd q2 c2
      · exact ⟨J2, M, by rw [e2, q3], h2, hJ2⟩
    · rcases hv with ⟨c2, e2⟩ | ⟨c2, e2⟩
      · exact ⟨J2, M, by rw [e2, q3], h2, hJ2⟩
      · exfalso
        omega
  · exact ⟨J, M, by rw [e2, pOf_no hJ hs hP hn], h2, hJ⟩
theorem hrd_inv {bk : Nat} {J J2 : Nat → Nat → Int} {d k p f : Int} (hbk : bk = 1 ∨ bk = 7) (hJ : Inv bk J) (hs : SG J d k) (hP : PtOK bk J) (h : Hrd J J2 p f) : Inv bk J2 ∧ SG J2 d k ∧ PtOK bk J2 ∧ ∀ a j, a ≤ 60 → J2 a j = J a j := by
  have f2 := h.1
  refine ⟨Inv_q (fun a j z => f2 a j (by unfold Core at z; omega)) hJ (A11_c (fun a j z => f2 a j (by omega)) hJ.2.2.2.2.2.2.2.2.2.2.1) (A12_c (fun a j z => f2 a j (by omega)) hJ.2.2.2.2.2.2.2.2.2.2.2), SG_c (fun a j z => f2 a j (by omega)) hs, PtOK_c2 (fun a j z => f2 a j (by omega)) hP, fun a j z => f2 a j (by omega)⟩
def frC (I : Nat → Nat → Int) (p f : Int) : Int := if lst (fxA I p f) (I 38 0).toNat ≠ -1 then -2 else rF (vQ I p f) (vA I f) (vSi I f) (vW I f)
def tnC (I : Nat → Nat → Int) (p f : Int) : Int := rN (vQ I p f) (vA I f)
theorem rFC_c {I J : Nat → Nat → Int} (h : ∀ a j, a ≤ 60 → J a j = I a j) (p f : Int) : rF (vQ J p f) (vA J f) (vSi J f) (vW J f) = rF (vQ I p f) (vA I f) (vSi I f) (vW I f) := by
  rw [vQ_c h, vW_c h, show vA J f = vA I f from funext (fun r => h 46 _ (by omega)), show vSi J f = vSi I f from funext (fun r => h 47 _ (by omega))]
theorem frC_c {I J : Nat → Nat → Int} (h : ∀ a j, a ≤ 60 → J a j = I a j) (p f : Int) : frC J p f = frC I p f := by
  unfold frC
  rw [fxA_c h, rFC_c h, h 38 0 (by omega)]
theorem tnC_c {I J : Nat → Nat → Int} (h : ∀ a j, a ≤ 60 → J a j = I a j) (p f : Int) : tnC J p f = tnC I p f := by
  unfold tnC
  rw [vQ_c h, show vA J f = vA I f from funext (fun r => h 46 _ (by omega))]
theorem pOf_c {I J : Nat → Nat → Int} (h : ∀ a j, a ≤ 60 → J a j = I a j) (r : Int) : pOf J r = pOf I r := by
  unfold pOf
  rw [h 49 0 (by omega), h 50 _ (by omega)]
/-- what the class answers of gold -/
def GdR (bk : Nat) (b : Bool) (V : (Nat → Nat → Int) → Int → Int → Int) (r f d k : Int) (rt : Option AV) (w : AW) : Prop := ∃ Jc M, w = MW b Jc M ∧ Inv bk Jc ∧ ((¬ (0 ≤ f ∧ f ≤ 5) ∧ rt = some (vI (-1))) ∨ ((0 ≤ f ∧ f ≤ 5) ∧ SG Jc d k ∧ PtOK bk Jc ∧ rt = some (vI (if pOf Jc r = -1 then -1 else V Jc (pOf Jc r) f))))
theorem kg_golden (l : Launch) (E : AX) (b : Bool) (I L : Nat → Nat → Int) (r f d k : Int) (hI : Inv (bkb b) I) (hd : d ≤ 2147483647) : Con l E 7 80 [vR 0, vI r, vI f, vI d, vI k] (MW b I L) 0 0 (GdR (bkb b) b gdC r f d k) := by
  have hbk := bk_b b
  refine con_imp (kb_golden l E b I L r f d k (POK_of hI) (GOK_of hI) hd) ?_
  rintro rt w (⟨c, e, h1⟩ | ⟨c, J, M, hp, ⟨q, e, h1⟩ | ⟨q, ⟨z, e, h1⟩ | ⟨z, J2, hh, e, h1⟩⟩⟩)
  · exact ⟨I, L, h1, hI, Or.inl ⟨c, e⟩⟩
  · obtain ⟨hJ, hs, hP⟩ := part_inv hbk hI hp
    exact ⟨J, M, h1, hJ, Or.inr ⟨c, hs, hP, by rw [if_pos q]; exact e⟩⟩
  · obtain ⟨hJ, hs, hP⟩ := part_inv hbk hI hp
    exact ⟨J, M, h1, hJ, Or.inr ⟨c, hs, hP, by rw [if_neg q]; unfold gdC; rw [if_pos z]; exact e⟩⟩
  · obtain ⟨hJ, hs, hP⟩ := part_inv hbk hI hp
    obtain ⟨hJ2, hs2, hP2, f2⟩ := hrd_inv hbk hJ hs hP hh
    refine ⟨J2, M, h1, hJ2, Or.inr ⟨c, hs2, hP2, ?_⟩⟩
    rw [pOf_c f2, if_neg q, gdC_c f2, e]
    unfold gdC
    rw [if_neg (fun h => h z), hh.2.1]
theorem kg_from (l : Launch) (E : AX) (b : Bool) (I L : Nat → Nat → Int) (r f d k : Int) (hI : Inv (bkb b) I) (hd : d ≤ 2147483647) : Con l E 7 81 [vR 0, vI r, vI f, vI d, vI k] (MW b I L) 0 0 (GdR (bkb b) b frC r f d k) := by
  have hbk := bk_b b
  refine con_imp (kb_from l E b I L r f d k (POK_of hI) (GOK_of hI) hd) ?_
  rintro rt w (⟨c, e, h1⟩ | ⟨c, J, M, hp, ⟨q, e, h1⟩ | ⟨q, ⟨z, e, h1⟩ | ⟨z, J2, hh, e, h1⟩⟩⟩)
  · exact ⟨I, L, h1, hI, Or.inl ⟨c, e⟩⟩
  · obtain ⟨hJ, hs, hP⟩ := part_inv hbk hI hp
    exact ⟨J, M, h1, hJ, Or.inr ⟨c, hs, hP, by rw [if_pos q]; exact e⟩⟩
  · obtain ⟨hJ, hs, hP⟩ := part_inv hbk hI hp
    exact ⟨J, M, h1, hJ, Or.inr ⟨c, hs, hP, by rw [if_neg q]; unfold frC; rw [if_pos z]; exact e⟩⟩
  · obtain ⟨hJ, hs, hP⟩ := part_inv hbk hI hp
    obtain ⟨hJ2, hs2, hP2, f2⟩ := hrd_inv hbk hJ hs hP hh
    refine ⟨J2, M, h1, hJ2, Or.inr ⟨c, hs2, hP2, ?_⟩⟩
    rw [pOf_c f2, if_neg q, frC_c f2, e]
    unfold frC
    rw [if_neg (fun h => h z), hh.2.2.1]
theorem kg_torn (l : Launch) (E : AX) (b : Bool) (I L : Nat → Nat → Int) (r f d k : Int) (hI : Inv (bkb b) I) (hd : d ≤ 2147483647) : Con l E 7 82 [vR 0, vI r, vI f, vI d, vI k] (MW b I L) 0 0 (GdR (bkb b) b tnC r f d k) := by
  have hbk := bk_b b
  refine con_imp (kb_torn l E b I L r f d k (POK_of hI) (GOK_of hI) hd) ?_
  rintro rt w (⟨c, e, h1⟩ | ⟨c, J, M, hp, ⟨q, e, h1⟩ | ⟨q, J2, hh, e, h1⟩⟩)
  · exact ⟨I, L, h1, hI, Or.inl ⟨c, e⟩⟩
  · obtain ⟨hJ, hs, hP⟩ := part_inv hbk hI hp
    exact ⟨J, M, h1, hJ, Or.inr ⟨c, hs, hP, by rw [if_pos q]; exact e⟩⟩
  · obtain ⟨hJ, hs, hP⟩ := part_inv hbk hI hp
    obtain ⟨hJ2, hs2, hP2, f2⟩ := hrd_inv hbk hJ hs hP hh
    refine ⟨J2, M, h1, hJ2, Or.inr ⟨c, hs2, hP2, ?_⟩⟩
    rw [pOf_c f2, if_neg q, tnC_c f2, e]
    unfold tnC
    rw [hh.2.2.2]
theorem gld_inv {bk : Nat} {J L J2 M2 : Nat → Nat → Int} {p f d k : Int} (hbk : bk = 1 ∨ bk = 7) (hJ : Inv bk J) (h : Gld J L J2 M2 p f d k) : Inv bk J2 :=
  Inv_q (fun a j z => h.1 a j (by unfold Core at z; omega)) hJ (A11_c (fun a j z => h.1 a j (by omega)) hJ.2.2.2.2.2.2.2.2.2.2.1) (A12_c (fun a j z => h.1 a j (by omega)) hJ.2.2.2.2.2.2.2.2.2.2.2)
/-- the class's gold is the reference's -/
theorem gd_eq {bk : Nat} {J J' : Nat → Nat → Int} {p f d k : Int} (hJ : Inv bk J) (hs : SG J d k) (hM : PtM J J' d k) (hf : 0 ≤ f ∧ f ≤ 5) (hp : p ≠ -1) (hpo : ∀ r : Nat, r < 10 → J 50 r = J' 111 r ∧ (thB J r = false → J 50 r = -1)) : gdC J p f = gdM J' p f d k ∧ frC J p f = (if lst (fxM J' p f k) (J' 74 44).toNat < 0 then rF (mQ J' p f d k) (mA J' f d k) (mSi J' f d k) (mWt J' f d k) else -2) ∧ tnC J p f = rN (mQ J' p f d k) (mA J' f d k) := by
  have hG := GOK_of hJ
  obtain ⟨a1, a2, a3, a4, a5, a6, a7, a8, a9, a10, a11, a12⟩ := hJ
  obtain ⟨⟨g1, g2, g3⟩, g4, g5⟩ := gold_eq (J := J') (p := p) (f := f) hs a4.2.2.1 a4.1 hG a2.1 a6.1 (fun a j z => hM.1 a j (by omega)) hpo hp hf
  have e38 : J 38 0 = J' 74 44 := by rw [a6.1.1, hM.1 74 44 (by omega)]
  have hl := lst_rg (fxA J p f) (J 38 0).toNat
  have h38 := a6.2.1
  rw [g4] at hl
  refine ⟨?_, ?_, g3⟩
  · unfold gdC gdM
    rw [g4]
    by_cases c : lst (fxM J' p f k) (J' 74 44).toNat = -1
    · rw [if_neg (fun h => h c), if_pos (by omega)]
      exact g1
    · rw [if_pos c, if_neg (by omega)]
      exact g5 _ (by omega)
  · unfold frC
    rw [g4]
    by_cases c : lst (fxM J' p f k) (J' 74 44).toNat = -1
    · rw [if_neg (fun h => h c), if_pos (by omega)]
      exact g2
    · rw [if_pos c, if_neg (by omega)]
theorem pr_golden (l : Launch) (E : AX) (b : Bool) (I L : Nat → Nat → Int) (r f d k : Int) (hI : Inv (bkb b) I) (hd : -2147483648 ≤ d ∧ d ≤ 2147483647) : Pair l E b I L 7 80 7 155 [vI r, vI f, vI d, vI k] := by
  have hbk := bk_b b
  refine con_imp (kg_golden l E b I L r f d k hI hd.2) ?_
  rintro rt w ⟨J, M, h1, hJ, hv⟩
  rcases hv with ⟨c, e⟩ | ⟨c, hs, hP, e⟩
  · refine ⟨b, J, M, _, e, h1, con_imp (k_goldenM l E b J M r f d k (PMk_of hJ) (fun hf => GMk_of hJ hf hd)) ?_⟩
    rintro rt w (⟨⟨_, hf⟩, _⟩ | ⟨_, e2, h2⟩)
    · exact absurd hf c
    · exact ⟨J, M, e2, h2, hJ⟩
  · refine ⟨b, J, M, _, e, h1, con_imp (k_goldenM l E b J M r f d k (PMk_of hJ) (fun hf => GMk_of hJ hf hd)) ?_⟩
    rintro rt w (⟨⟨hr, hf⟩, J', hm, ⟨z, e2, h2⟩ | ⟨z, J2, M2, hg, e2, h2⟩⟩ | ⟨hn, e2, h2⟩)
    · rcases pOf_eq hJ hs hP hm hr with ⟨q1, q2, q3⟩ | ⟨q1, q2, q3, q4, q5, q6⟩
      · exact ⟨J', M, by rw [e2, if_pos q3], h2, partM_inv hbk hJ hm⟩
      · exfalso
        omega
    · rcases pOf_eq hJ hs hP hm hr with ⟨q1, q2, q3⟩ | ⟨q1, q2, q3, q4, q5, q6⟩
      · exact absurd q2 z
      · have ge := gd_eq hJ hs hm hf (p := pOf J r) (by omega) q6
        rw [← q3] at hg
        refine ⟨J2, M2, ?_, h2, gld_inv hbk (partM_inv hbk hJ hm) hg⟩
        rw [e2, if_neg (by omega), (ge.1), hg.2.2.2.1]
        rfl
    · exact ⟨J, M, by rw [e2, if_pos (pOf_no hJ hs hP (fun z => hn ⟨z, c⟩))], h2, hJ⟩
theorem pr_from (l : Launch) (E : AX) (b : Bool) (I L : Nat → Nat → Int) (r f d k : Int) (hI : Inv (bkb b) I) (hd : -2147483648 ≤ d ∧ d ≤ 2147483647) : Pair l E b I L 7 81 7 156 [vI r, vI f, vI d, vI k] := by
  have hbk := bk_b b
  refine con_imp (kg_from l E b I L r f d k hI hd.2) ?_
  rintro rt w ⟨J, M, h1, hJ, hv⟩
  rcases hv with ⟨c, e⟩ | ⟨c, hs, hP, e⟩
  · refine ⟨b, J, M, _, e, h1, con_imp (k_fromM l E b J M r f d k (PMk_of hJ) (fun hf => GMk_of hJ hf hd)) ?_⟩
    rintro rt w (⟨⟨_, hf⟩, _⟩ | ⟨_, e2, h2⟩)
    · exact absurd hf c
    · exact ⟨J, M, e2, h2, hJ⟩
  · refine ⟨b, J, M, _, e, h1, con_imp (k_fromM l E b J M r f d k (PMk_of hJ) (fun hf => GMk_of hJ hf hd)) ?_⟩
    rintro rt w (⟨⟨hr, hf⟩, J', hm, ⟨z, e2, h2⟩ | ⟨z, J2, M2, hg, e2, h2⟩⟩ | ⟨hn, e2, h2⟩)
    · rcases pOf_eq hJ hs hP hm hr with ⟨q1, q2, q3⟩ | ⟨q1, q2, q3, q4, q5, q6⟩
      · exact ⟨J', M, by rw [e2, if_pos q3], h2, partM_inv hbk hJ hm⟩
      · exfalso
        omega
    · rcases pOf_eq hJ hs hP hm hr with ⟨q1, q2, q3⟩ | ⟨q1, q2, q3, q4, q5, q6⟩
      · exact absurd q2 z
      · have ge := gd_eq hJ hs hm hf (p := pOf J r) (by omega) q6
        rw [← q3] at hg
        refine ⟨J2, M2, ?_, h2, gld_inv hbk (partM_inv hbk hJ hm) hg⟩
        rw [e2, if_neg (by omega), (ge.2.1), hg.2.2.2.2]
        skip
    · exact ⟨J, M, by rw [e2, if_pos (pOf_no hJ hs hP (fun z => hn ⟨z, c⟩))], h2, hJ⟩
theorem pr_torn (l : Launch) (E : AX) (b : Bool) (I L : Nat → Nat → Int) (r f d k : Int) (hI : Inv (bkb b) I) (hd : -2147483648 ≤ d ∧ d ≤ 2147483647) : Pair l E b I L 7 82 7 157 [vI r, vI f, vI d, vI k] := by
  have hbk := bk_b b
  refine con_imp (kg_torn l E b I L r f d k hI hd.2) ?_
  rintro rt w ⟨J, M, h1, hJ, hv⟩
  rcases hv with ⟨c, e⟩ | ⟨c, hs, hP, e⟩
  · refine ⟨b, J, M, _, e, h1, con_imp (k_tornM l E b J M r f d k (PMk_of hJ) (fun hf => GMk_of hJ hf hd)) ?_⟩
    rintro rt w (⟨⟨_, hf⟩, _⟩ | ⟨_, e2, h2⟩)
    · exact absurd hf c
    · exact ⟨J, M, e2, h2, hJ⟩
  · refine ⟨b, J, M, _, e, h1, con_imp (k_tornM l E b J M r f d k (PMk_of hJ) (fun hf => GMk_of hJ hf hd)) ?_⟩
    rintro rt w (⟨⟨hr, hf⟩, J', hm, ⟨z, e2, h2⟩ | ⟨z, J2, M2, hg, e2, h2⟩⟩ | ⟨hn, e2, h2⟩)
    · rcases pOf_eq hJ hs hP hm hr with ⟨q1, q2, q3⟩ | ⟨q1, q2, q3, q4, q5, q6⟩
      · exact ⟨J', M, by rw [e2, if_pos q3], h2, partM_inv hbk hJ hm⟩
      · exfalso
        omega
    · rcases pOf_eq hJ hs hP hm hr with ⟨q1, q2, q3⟩ | ⟨q1, q2, q3, q4, q5, q6⟩
      · exact absurd q2 z
      · have ge := gd_eq hJ hs hm hf (p := pOf J r) (by omega) q6
        rw [← q3] at hg
        refine ⟨J2, M2, ?_, h2, gld_inv hbk (partM_inv hbk hJ hm) hg⟩
        rw [e2, if_neg (by omega), (ge.2.2), hg.2.2.1]
        skip
    · exact ⟨J, M, by rw [e2, if_pos (pOf_no hJ hs hP (fun z => hn ⟨z, c⟩))], h2, hJ⟩
