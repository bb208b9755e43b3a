-- THE INVARIANT of both objects
def A1 (I : Nat → Nat → Int) : Prop := I 0 0 = I 74 0 ∧ 0 ≤ I 0 0 ∧ I 0 0 ≤ 100000
def A2 (I : Nat → Nat → Int) : Prop := TbG I ∧ (∀ c, c < 36 → 0 ≤ I 14 c ∧ I 14 c ≤ 9) ∧ ∀ c, c < 6 → 0 ≤ I 15 c ∧ I 15 c ≤ 50
def A3 (I : Nat → Nat → Int) : Prop := ∀ c, c < 6 → I 16 c = I 77 c
def A4 (I : Nat → Nat → Int) : Prop := VOK I ∧ (∀ j : Nat, (j : Int) < I 21 0 → (0 ≤ I 25 j ∧ I 25 j ≤ 100000) ∧ I 24 j ≤ 999999 ∧ I 22 j < I 17 0 ∧ I 19 (I 22 j).toNat ≤ I 26 j) ∧ TbV I ∧ (∀ r : Nat, (r : Int) < I 17 0 → (0 ≤ I 18 r ∧ I 18 r ≤ 5) ∧ I 19 r ≤ I 0 0) ∧ ∀ r : Nat, I 17 0 ≤ (r : Int) → I 20 r = 0 ∧ I 80 r = 0
def A5 (I : Nat → Nat → Int) : Prop := HR I ∧ TbH I
def A6 (I : Nat → Nat → Int) : Prop := TbF I ∧ (0 ≤ I 38 0 ∧ I 38 0 ≤ 20) ∧ ∀ m : Nat, (m : Int) < I 38 0 → (0 ≤ I 39 m ∧ I 39 m < 10) ∧ 0 ≤ I 41 m ∧ I 41 m ≤ 999999
def A7 (I : Nat → Nat → Int) : Prop := I 66 0 = I 74 75 ∧ (0 ≤ I 66 0 ∧ I 66 0 ≤ 60) ∧ ∀ j : Nat, (j : Int) < I 66 0 → I 67 j = I 123 j ∧ I 68 j = I 124 j ∧ I 69 j = I 125 j
def A8 (I : Nat → Nat → Int) : Prop := I 28 0 = I 74 30 ∧ Tp0 I ∧ ∀ j : Nat, I 29 j = I 97 j
def A9 (I : Nat → Nat → Int) : Prop := I 31 0 = I 74 31 ∧ I 31 1 = I 74 32
def A10 (bk : Nat) (I : Nat → Nat → Int) : Prop := BKk I bk ∧ RBk bk I
def A11 (bk : Nat) (I : Nat → Nat → Int) : Prop := CaS I ∧ (I 0 1 ≠ 0 → I 0 2 ≠ 0 → PtOK bk I)
def A12 (I : Nat → Nat → Int) : Prop := I 114 0 = 0 ∧ I 115 0 = 0
def Inv (bk : Nat) (I : Nat → Nat → Int) : Prop := A1 I ∧ A2 I ∧ A3 I ∧ A4 I ∧ A5 I ∧ A6 I ∧ A7 I ∧ A8 I ∧ A9 I ∧ A10 bk I ∧ A11 bk I ∧ A12 I
section INVC
variable {I J : Nat → Nat → Int}
theorem A1_c (h : ∀ a j, (a = 0 ∧ j = 0) ∨ (a = 74 ∧ j = 0) → J a j = I a j) (hA : A1 I) : A1 J := by
  unfold A1
  rw [h 0 0 (by omega), h 74 0 (by omega)]
  exact hA
theorem fe {p : Nat → Prop} (h : ∀ a j, p a → J a j = I a j) (a : Nat) (ha : p a) : J a = I a := funext (fun j => h a j ha)
theorem A2_c (h : ∀ a j, a = 14 ∨ a = 15 ∨ a = 75 ∨ a = 76 → J a j = I a j) (hA : A2 I) : A2 J := by
  unfold A2 TbG
  rw [fe h 14 (by omega), fe h 15 (by omega), fe h 75 (by omega), fe h 76 (by omega)]
  exact hA
theorem A3_c (h : ∀ a j, a = 16 ∨ a = 77 → J a j = I a j) (hA : A3 I) : A3 J := by
  unfold A3
  rw [fe h 16 (by omega), fe h 77 (by omega)]
  exact hA
theorem A4_c (h : ∀ a j, (17 ≤ a ∧ a ≤ 27) ∨ (78 ≤ a ∧ a ≤ 86) ∨ (a = 74 ∧ (j = 4 ∨ j = 5)) ∨ (a = 0 ∧ j = 0) → J a j = I a j) (hA : A4 I) : A4 J := by
  have e : ∀ a, (17 ≤ a ∧ a ≤ 27) ∨ (78 ≤ a ∧ a ≤ 86) → J a = I a := fun a ha => funext (fun j => h a j (by omega))
  unfold A4 VOK TbV
  rw [h 74 4 (by omega), h 74 5 (by omega), h 0 0 (by omega), e 17 (by omega), e 18 (by omega), e 19 (by omega), e 20 (by omega), e 21 (by omega), e 22 (by omega), e 23 (by omega), e 24 (by omega), e 25 (by omega), e 26 (by omega), e 27 (by omega), e 78 (by omega), e 79 (by omega), e 80 (by omega), e 81 (by omega), e 82 (by omega), e 83 (by omega), e 84 (by omega), e 85 (by omega), e 86 (by omega)]
  exact hA
theorem A5_c (h : ∀ a j, (32 ≤ a ∧ a ≤ 37) ∨ (100 ≤ a ∧ a ≤ 104) ∨ (a = 74 ∧ j = 43) → J a j = I a j) (hA : A5 I) : A5 J := by
  have e : ∀ a, (32 ≤ a ∧ a ≤ 37) ∨ (100 ≤ a ∧ a ≤ 104) → J a = I a := fun a ha => funext (fun j => h a j (by omega))
  unfold A5 HR TbH
  rw [h 74 43 (by omega), e 32 (by omega), e 33 (by omega), e 34 (by omega), e 35 (by omega), e 36 (by omega), e 37 (by omega), e 100 (by omega), e 101 (by omega), e 102 (by omega), e 103 (by omega), e 104 (by omega)]
  exact hA
theorem A6_c (h : ∀ a j, (38 ≤ a ∧ a ≤ 43) ∨ (105 ≤ a ∧ a ≤ 109) ∨ (a = 74 ∧ j = 44) → J a j = I a j) (hA : A6 I) : A6 J := by
  have e : ∀ a, (38 ≤ a ∧ a ≤ 43) ∨ (105 ≤ a ∧ a ≤ 109) → J a = I a := fun a ha => funext (fun j => h a j (by omega))
  unfold A6 TbF
  rw [h 74 44 (by omega), e 38 (by omega), e 39 (by omega), e 40 (by omega), e 41 (by omega), e 42 (by omega), e 43 (by omega), e 105 (by omega), e 106 (by omega), e 107 (by omega), e 108 (by omega), e 109 (by omega)]
  exact hA
theorem A7_c (h : ∀ a j, (66 ≤ a ∧ a ≤ 69) ∨ (123 ≤ a ∧ a ≤ 125) ∨ (a = 74 ∧ j = 75) → J a j = I a j) (hA : A7 I) : A7 J := by
  have e : ∀ a, (66 ≤ a ∧ a ≤ 69) ∨ (123 ≤ a ∧ a ≤ 125) → J a = I a := fun a ha => funext (fun j => h a j (by omega))
  unfold A7
  rw [h 74 75 (by omega), e 66 (by omega), e 67 (by omega), e 68 (by omega), e 69 (by omega), e 123 (by omega), e 124 (by omega), e 125 (by omega)]
  exact hA
theorem A8_c (h : ∀ a j, a = 29 ∨ a = 30 ∨ a = 97 ∨ (a = 28 ∧ j = 0) ∨ (a = 74 ∧ j = 30) → J a j = I a j) (hA : A8 I) : A8 J := by
  have e : ∀ a, a = 29 ∨ a = 30 ∨ a = 97 → J a = I a := fun a ha => funext (fun j => h a j (by omega))
  unfold A8 Tp0
  rw [h 74 30 (by omega), h 28 0 (by omega), e 29 (by omega), e 30 (by omega), e 97 (by omega)]
  exact hA
theorem A9_c (h : ∀ a j, a = 31 ∨ (a = 74 ∧ (j = 31 ∨ j = 32)) → J a j = I a j) (hA : A9 I) : A9 J := by
  unfold A9
  rw [h 74 31 (by omega), h 74 32 (by omega), h 31 0 (by omega), h 31 1 (by omega)]
  exact hA
theorem A10_c {bk : Nat} (h : ∀ a j, (bk ≤ a ∧ a ≤ bk + 5) ∨ (87 ≤ a ∧ a ≤ 91) ∨ (a = 74 ∧ j = 20) → J a j = I a j) (hA : A10 bk I) : A10 bk J := by
  have e : ∀ a, (bk ≤ a ∧ a ≤ bk + 5) ∨ (87 ≤ a ∧ a ≤ 91) → J a = I a := fun a ha => funext (fun j => h a j (by omega))
  unfold A10 BKk RBk
  rw [h 74 20 (by omega), e bk (by omega), e (bk + 1) (by omega), e (bk + 2) (by omega), e (bk + 3) (by omega), e (bk + 4) (by omega), e (bk + 5) (by omega), e 87 (by omega), e 88 (by omega), e 89 (by omega), e 90 (by omega), e 91 (by omega)]
  exact hA
theorem PtOK_c2 {bk : Nat} (h : ∀ a j, a = 18 ∨ (32 ≤ a ∧ a ≤ 37) ∨ (44 ≤ a ∧ a ≤ 51) ∨ (bk ≤ a ∧ a ≤ bk + 5) → J a j = I a j) (hP : PtOK bk I) : PtOK bk J := by
  have e : ∀ a, a = 18 ∨ (32 ≤ a ∧ a ≤ 37) ∨ (44 ≤ a ∧ a ≤ 51) ∨ (bk ≤ a ∧ a ≤ bk + 5) → J a = I a := fun a ha => funext (fun j => h a j ha)
  have eT : thB J = thB I := funext (fun r => by unfold thB; rw [e 45 (by omega)])
  have eN : nTh J = nTh I := by unfold nTh; rw [eT]
  have eH : ∀ v i j, HBR J v i j ↔ HBR I v i j := fun v i j => by
    unfold HBR hHeld
    rw [e 32 (by omega), e 33 (by omega), e 34 (by omega), e 35 (by omega), e 36 (by omega), e 37 (by omega), e 44 (by omega), e 51 (by omega)]
  have eW : wtH J = wtH I := funext (fun i => funext (fun j => by unfold wtH; rw [eN, propext (eH true i j)]))
  have eO : woH J = woH I := funext (fun i => funext (fun j => by unfold woH; rw [eN, propext (eH false i j)]))
  have eS : scH bk J = scH bk I := funext (fun i => funext (fun j => by unfold scH; rw [e 51 (by omega)]; exact csc_c _ _ (fun a ha => e a (by omega))))
  unfold PtOK
  rw [eN, eT, eW, eO, eS, e 49 (by omega), e 50 (by omega), e 51 (by omega)]
  exact hP
theorem A11_c {bk : Nat} (h : ∀ a j, (a = 0 ∧ (j = 1 ∨ j = 2)) ∨ (17 ≤ a ∧ a ≤ 27) ∨ (32 ≤ a ∧ a ≤ 37) ∨ (44 ≤ a ∧ a ≤ 51) ∨ (bk ≤ a ∧ a ≤ bk + 5) → J a j = I a j) (hA : A11 bk I) : A11 bk J := by
  refine ⟨fun z => ?_, fun z1 z2 => ?_⟩
  · rw [h 0 1 (by omega)] at z
    rw [h 44 0 (by omega), h 44 1 (by omega)]
    exact SG_c (fun a j ha => h a j (by omega)) (hA.1 z)
  · rw [h 0 1 (by omega)] at z1
    rw [h 0 2 (by omega)] at z2
    exact PtOK_c2 (fun a j ha => h a j (by omega)) (hA.2 z1 z2)
theorem A11_0 {bk : Nat} (h : J 0 1 = 0) : A11 bk J := ⟨fun z => absurd h z, fun z => absurd h z⟩
theorem A12_c (h : ∀ a j, a = 114 ∨ a = 115 → J a j = I a j) (hA : A12 I) : A12 J := by
  unfold A12
  rw [h 114 0 (by omega), h 115 0 (by omega)]
  exact hA
/-- tables kept, caches as they may be -/
def Core (bk : Nat) (a j : Nat) : Prop := (a = 0 ∧ j = 0) ∨ (14 ≤ a ∧ a ≤ 27) ∨ (28 = a ∧ j = 0) ∨ (29 ≤ a ∧ a ≤ 43) ∨ (66 ≤ a ∧ a ≤ 69) ∨ (bk ≤ a ∧ a ≤ bk + 5) ∨ (a = 74 ∧ (j = 0 ∨ j = 4 ∨ j = 5 ∨ j = 20 ∨ j = 30 ∨ j = 31 ∨ j = 32 ∨ j = 43 ∨ j = 44 ∨ j = 75)) ∨ (75 ≤ a ∧ a ≤ 91) ∨ a = 97 ∨ (100 ≤ a ∧ a ≤ 109) ∨ (123 ≤ a ∧ a ≤ 125)
theorem Inv_q {bk : Nat} (h : ∀ a j, Core bk a j → J a j = I a j) (hI : Inv bk I) (h11 : A11 bk J) (h12 : A12 J) : Inv bk J := by
  obtain ⟨a1, a2, a3, a4, a5, a6, a7, a8, a9, a10, _, _⟩ := hI
  unfold Core at h
  exact ⟨A1_c (fun a j z => h a j (by omega)) a1, A2_c (fun a j z => h a j (by omega)) a2, A3_c (fun a j z => h a j (by omega)) a3, A4_c (fun a j z => h a j (by omega)) a4, A5_c (fun a j z => h a j (by omega)) a5, A6_c (fun a j z => h a j (by omega)) a6, A7_c (fun a j z => h a j (by omega)) a7, A8_c (fun a j z => h a j (by omega)) a8, A9_c (fun a j z => h a j (by omega)) a9, A10_c (fun a j z => h a j (by omega)) a10, h11, h12⟩
theorem WFs_c {kd kd' : Nat → Int} {a n : Nat} (h : ∀ m, m < n → kd' (a + m) = kd (a + m)) (hW : WFs kd a n) : WFs kd' a n := by
  have hd : ∀ m, m ≤ n → dep kd' a m = dep kd a m := by
    intro m
    induction m with
    | zero => intro _; rfl
    | succ m ih =>
      intro hm
      have ih := ih (by omega)
      show (if kd' (a + m) = 3 then dep kd' a m else if kd' (a + m) = 4 ∨ kd' (a + m) = 5 then dep kd' a m - 1 else dep kd' a m + 1) = (if kd (a + m) = 3 then dep kd a m else if kd (a + m) = 4 ∨ kd (a + m) = 5 then dep kd a m - 1 else dep kd a m + 1)
      rw [h m (by omega), ih]
  refine ⟨fun m hm => ?_, by rw [hd n (Nat.le_refl _)]; exact hW.2⟩
  rw [h m hm, hd m (by omega)]
  exact hW.1 m hm
theorem MBK_of {bk : Nat} (h : A10 bk I) : MBK I := by
  obtain ⟨hB, hR⟩ := h
  have hn : I bk 0 = I 74 20 := hR.1
  have h0 : I 90 0 = 0 := hR.2.1
  have hs : ∀ n : Nat, (n : Int) < I 74 20 → sof (I (bk + 2)) n = I 90 n := fun n hn2 => by
    cases n with
    | zero => exact h0.symm
    | succ n => exact (hR.2.2 n (by omega)).1
  refine ⟨by rw [← hn]; exact hB.1, h0, fun n hn2 => ?_⟩
  obtain ⟨b1, b2, b3, b4⟩ := hB.2 n (by rw [hn]; exact hn2)
  obtain ⟨r1, r2, r3⟩ := hR.2.2 n hn2
  rw [hs n hn2, r1] at b1
  rw [hs n hn2, r1] at b2
  refine ⟨by omega, ?_, by rw [← r2]; exact b3, fun j h1 h2 => (r3 j h1 h2).1⟩
  exact WFs_c (kd := I (bk + 3)) (fun m hm => ((r3 ((I 90 n).toNat + m) (by omega) (by omega)).2.1).symm) b2
theorem VMK_of (h : A4 I) : VMK I := by
  obtain ⟨hV, h2, hT, _⟩ := h
  have e : I 21 0 = I 74 5 := hT.2.1
  refine ⟨by rw [← e]; exact hV.2.1, fun j hj => ?_⟩
  rw [← e] at hj
  have t := (hT.2.2.2 j hj).2.2.1
  rw [← t]
  exact ⟨(hV.2.2 j hj).2.2.1, (h2 j hj).2.1⟩
theorem PMk_of {bk : Nat} (h : Inv bk I) : PMk I := by
  obtain ⟨a1, a2, a3, a4, a5, a6, a7, a8, a9, a10, a11, a12⟩ := h
  refine ⟨by rw [← a4.2.2.1.1]; exact a4.1.1, by rw [← a5.2.1]; exact a5.1.1, MBK_of a10, VMK_of a4, a12⟩
theorem POK_of {bk : Nat} (h : Inv bk I) : POK bk I := by
  obtain ⟨a1, a2, a3, a4, a5, a6, a7, a8, a9, a10, a11, a12⟩ := h
  exact ⟨a4.1, fun j hj => (a4.2.1 j hj).2.1, a11.1, a5.1, a10.1, a11.2⟩
theorem GOK_of {bk : Nat} (h : Inv bk I) : GOK I := by
  obtain ⟨a1, a2, a3, a4, a5, a6, a7, a8, a9, a10, a11, a12⟩ := h
  exact ⟨a2.2.1, a2.2.2, fun r hr => (a4.2.2.2.1 r hr).1, fun j hj => ⟨(a4.2.1 j hj).1, (a4.2.1 j hj).2.1⟩, a6.2.1, a6.2.2⟩
theorem GMk_of {bk : Nat} (h : Inv bk I) {f d : Int} (hf : 0 ≤ f ∧ f ≤ 5) (hd : -2147483648 ≤ d ∧ d ≤ 2147483647) : GMk I f d := by
  obtain ⟨a1, a2, a3, a4, a5, a6, a7, a8, a9, a10, a11, a12⟩ := h
  have e4 : I 17 0 = I 74 4 := a4.2.2.1.1
  have e5 : I 21 0 = I 74 5 := a4.2.2.1.2.1
  have e44 : I 38 0 = I 74 44 := a6.1.1
  refine ⟨hf, hd, by rw [← e4]; exact a4.1.1, by rw [← e5]; exact a4.1.2.1, fun c hc => by rw [← a2.1.1 c hc]; exact a2.2.1 c hc, fun c hc => by rw [← a2.1.2 c hc]; exact a2.2.2 c hc, fun r hr => ?_, fun j hj => ?_, by rw [← e44]; exact a6.2.1, fun m hm => ?_⟩
  · rw [← e4] at hr
    rw [← (a4.2.2.1.2.2.1 r hr).1]
    exact (a4.2.2.2.1 r hr).1
  · rw [← e5] at hj
    have t := a4.2.2.1.2.2.2 j hj
    rw [← t.2.2.1, ← t.2.2.2.1]
    exact ⟨⟨(a4.1.2.2 j hj).2.2.1, (a4.2.1 j hj).2.1⟩, (a4.2.1 j hj).1⟩
  · rw [← e44] at hm
    rw [← (a6.1.2 m hm).1]
    exact (a6.2.2 m hm).1
end INVC
def bkb (b : Bool) : Nat := cond b 7 1
def Pair (l : Launch) (E : AX) (b : Bool) (I L : Nat → Nat → Int) (h1 k1 h2 k2 : Nat) (as : List AV) : Prop := Con l E h1 k1 (vR 0 :: as) (MW b I L) 0 0 (fun rt w => ∃ b1 J M v, rt = some (vI v) ∧ w = MW b1 J M ∧ Con l E h2 k2 (vR 74 :: as) (MW b1 J M) 0 0 (fun rt w => ∃ J2 M2, rt = some (vI v) ∧ w = MW b1 J2 M2 ∧ Inv (bkb b1) J2))
