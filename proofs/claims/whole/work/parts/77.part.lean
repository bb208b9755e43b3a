-- THE CLASS'S PARTING AS A WHOLE
/-- the sight fits the tables -/
def SG (J : Nat → Nat → Int) (d k : Int) : Prop := J 44 0 = d ∧ J 44 1 = k ∧ (∀ r, r < 10 → J 45 r = thr J k r) ∧ ∀ c, c < 60 → Cel J J d k (J 21 0).toNat c
def CaS (I : Nat → Nat → Int) : Prop := I 0 1 ≠ 0 → SG I (I 44 0) (I 44 1)
theorem thr_c {I J : Nat → Nat → Int} (h : ∀ a j, 17 ≤ a ∧ a ≤ 27 → J a j = I a j) (k : Int) (r : Nat) : thr J k r = thr I k r := by
  unfold thr
  rw [h 17 0 (by omega), h 20 r (by omega), h 19 r (by omega)]
theorem sv_c {I J : Nat → Nat → Int} (h : ∀ a j, 17 ≤ a ∧ a ≤ 27 → J a j = I a j) (d k : Int) (n c : Nat) : sv J d k n c = sv I d k n c := by
  unfold sv
  rw [thr_c h, show J 22 = I 22 from funext (fun j => h 22 j (by omega)), show J 23 = I 23 from funext (fun j => h 23 j (by omega)), show J 25 = I 25 from funext (fun j => h 25 j (by omega)), show J 26 = I 26 from funext (fun j => h 26 j (by omega))]
theorem Cel_c {I J K : Nat → Nat → Int} (h : ∀ a j, 17 ≤ a ∧ a ≤ 27 → J a j = I a j) (e46 : ∀ j, J 46 j = K 46 j) (e47 : ∀ j, J 47 j = K 47 j) (e48 : ∀ j, J 48 j = K 48 j) {d k : Int} {n c : Nat} (hc : Cel I K d k n c) : Cel J J d k n c := by
  unfold Cel at hc ⊢
  rw [sv_c h, e46, e47, e48, h 24 _ (by omega), h 25 _ (by omega), h 27 _ (by omega)]
  exact hc
theorem SG_c {I J : Nat → Nat → Int} (h : ∀ a j, (17 ≤ a ∧ a ≤ 27) ∨ (44 ≤ a ∧ a ≤ 48) → J a j = I a j) {d k : Int} (hs : SG I d k) : SG J d k := by
  obtain ⟨h1, h2, h3, h4⟩ := hs
  refine ⟨by rw [h 44 0 (by omega)]; exact h1, by rw [h 44 1 (by omega)]; exact h2, fun r hr => ?_, fun c hc => ?_⟩
  · rw [h 45 r (by omega), thr_c (fun a j ha => h a j (by omega))]
    exact h3 r hr
  · rw [h 21 0 (by omega)]
    exact Cel_c (fun a j ha => h a j (by omega)) (fun j => h 46 j (by omega)) (fun j => h 47 j (by omega)) (fun j => h 48 j (by omega)) (h4 c hc)
/-- behind a look -/
theorem look_SG {I J : Nat → Nat → Int} {d k : Int} (hc : CaS I) (h : LookR I J d k) : SG J d k ∧ (∀ a j, ¬ ((44 ≤ a ∧ a ≤ 48) ∨ (a = 0 ∧ (j = 1 ∨ j = 2))) → J a j = I a j) ∧ J 0 1 ≠ 0 ∧ (J 0 2 ≠ 0 → J = I) := by
  rcases h with ⟨h1, h2, h3, h4⟩ | ⟨J1, ⟨t1, t2, t3, t4, t5⟩, h2⟩
  · rw [h1]
    have := hc h2
    rw [h3, h4] at this
    exact ⟨this, fun _ _ _ => rfl, h2, fun _ => rfl⟩
  · have f : ∀ a j, ¬ (a = 0 ∧ (j = 1 ∨ j = 2)) → J a j = J1 a j := fun a j ha => by rw [h2, upI_ne (by omega), upI_ne (by omega)]
    refine ⟨⟨by rw [f 44 0 (by omega)]; exact t2, by rw [f 44 1 (by omega)]; exact t3, fun r hr => ?_, fun c hc => ?_⟩, fun a j ha => by rw [f a j (by omega)]; exact t1 a j (by omega), by rw [h2, upI_ne (by omega), upI_eq rfl rfl]; omega, fun z => ?_⟩
    · rw [f 45 r (by omega), t4 r hr]
      exact (thr_c (fun a j ha => by rw [f a j (by omega)]; exact t1 a j (by omega)) k r).symm
    · rw [f 21 0 (by omega), t1 21 0 (by omega)]
      exact Cel_c (fun a j ha => by rw [f a j (by omega)]; exact t1 a j (by omega)) (fun j => f 46 j (by omega)) (fun j => f 47 j (by omega)) (fun j => f 48 j (by omega)) (t5 c hc)
    · rw [h2, upI_eq rfl rfl] at z
      exact absurd rfl z
theorem SG_vals {J : Nat → Nat → Int} {d k : Int} (h : SG J d k) (hV : VOK J) (hv2 : ∀ j : Nat, (j : Int) < J 21 0 → J 24 j ≤ 999999) : ∀ c, c < 60 → -1 ≤ J 46 c ∧ J 46 c ≤ 999999 := by
  intro c hc
  have h1 := (h.2.2.2 c hc).1
  have h2 := sv_rg J d k (J 21 0).toNat c
  rw [h1]
  split
  · omega
  · have h3 := (hV.2.2 (sv J d k (J 21 0).toNat c).toNat (by omega)).2.2.1
    have h4 := hv2 (sv J d k (J 21 0).toNat c).toNat (by omega)
    omega
/-- the hands as told -/
def HR (I : Nat → Nat → Int) : Prop := (0 ≤ I 32 0 ∧ I 32 0 ≤ 20) ∧ ∀ h : Nat, (h : Int) < I 32 0 → (0 ≤ I 33 h ∧ I 33 h < 10) ∧ (0 ≤ I 34 h ∧ I 34 h < 10) ∧ I 33 h ≠ I 34 h
def nTh (J : Nat → Nat → Int) : Nat := cnt (thB J) 10
/-- a hand that holds binds the rows of the bits i and j -/
def HBR (J : Nat → Nat → Int) (v : Bool) (i j : Nat) : Prop := ∃ h : Nat, (h : Int) < J 32 0 ∧ hHeld J (J 44 1) h ∧ (J 35 h = 1 ↔ v = true) ∧ ((J 33 h = J 51 i ∧ J 34 h = J 51 j) ∨ (J 33 h = J 51 j ∧ J 34 h = J 51 i))
def wtH (J : Nat → Nat → Int) (i j : Nat) : Prop := i < nTh J ∧ j < nTh J ∧ HBR J true i j
def woH (J : Nat → Nat → Int) (i j : Nat) : Prop := i < nTh J ∧ j < nTh J ∧ HBR J false i j
def scH (bk : Nat) (J : Nat → Nat → Int) (i j : Nat) : Int := csc J bk (J 51 i) (J 51 j)
/-- the parting fits sight, hands and book -/
def PtOK (bk : Nat) (J : Nat → Nat → Int) : Prop := J 49 3 = (nTh J : Int) ∧ (∀ r : Nat, r < 10 → thB J r = true → J 51 (nTh J - 1 - cnt (thB J) r) = (r : Int)) ∧ (∀ r : Nat, r < 10 → thB J r = false → J 50 r = -1) ∧
  ((nTh J = 0 ∧ J 49 0 = 1 ∧ J 49 1 = 0 ∧ J 49 2 = 0) ∨ (0 < nTh J ∧ ∃ K, Bst (wtH J) (woH J) (nTh J) (scH bk J) (2 ^ (nTh J) - 1) K ∧ ((K = NV ∧ J 49 0 = 0) ∨ (K ≠ NV ∧ J 49 0 = 1 ∧ J 49 2 = K / 1099511627776 ∧ (∀ i, i < nTh J → J 50 (J 51 i).toNat = dg K i) ∧ (∀ i, i < nTh J → dg K i + 1 ≤ J 49 1) ∧ ∃ i, i < nTh J ∧ J 49 1 = dg K i + 1))))
theorem Bst_c {wt wo wt' wo' : Nat → Nat → Prop} {s s' : Nat → Nat → Int} {n m : Nat} {K : Int} (hm : m < 2 ^ n) (h1 : ∀ i j, i < n → (wt i j ↔ wt' i j)) (h2 : ∀ i j, j < i → i < n → (wo i j ↔ wo' i j)) (h3 : ∀ i j, j < i → i < n → s i j = s' i j) (h : Bst wt wo n s m K) : Bst wt' wo' n s' m K := by
  have hv : ∀ c, VL wt wo m c ↔ VL wt' wo' m c := fun c => by
    constructor
    · intro hv i hi
      have hb := tb_bd hm hi
      exact ⟨fun j hj => (hv i hi).1 j ((h1 i j hb).mpr hj), fun j hj hmj hw => (hv i hi).2 j hj hmj ((h2 i j hj hb).mpr hw)⟩
    · intro hv i hi
      have hb := tb_bd hm hi
      exact ⟨fun j hj => (hv i hi).1 j ((h1 i j hb).mp hj), fun j hj hmj hw => (hv i hi).2 j hj hmj ((h2 i j hj hb).mp hw)⟩
  have hk : ∀ c, Ky n s m c = Ky n s' m c := fun c => by
    unfold Ky Wk
    rw [tri_c (fun i j hj hi => by rw [h3 i j hj hi])]
  rcases h with ⟨a1, a2⟩ | ⟨a1, ⟨c, c1, c2, c3⟩, a3⟩
  · exact Or.inl ⟨a1, fun c hc hvl => a2 c hc ((hv c).mpr hvl)⟩
  · exact Or.inr ⟨a1, ⟨c, c1, (hv c).mp c2, by rw [← hk]; exact c3⟩, fun c hc hvl => by rw [← hk]; exact a3 c hc ((hv c).mpr hvl)⟩
/-- rows and bits -/
theorem Gth_row {I J : Nat → Nat → Int} (h : Gth I J) {i : Nat} (hi : (i : Int) < J 49 3) : ∃ r : Nat, r < 10 ∧ thB I r = true ∧ J 51 i = (r : Int) ∧ i = cnt (thB I) 10 - 1 - cnt (thB I) r ∧ J 52 r = (i : Int) := by
  obtain ⟨f, g, hh, z⟩ := h
  obtain ⟨r, r1, r2, r3⟩ := cnt_at (T := thB I) (n := 10) (j := cnt (thB I) 10 - 1 - i) (by omega)
  obtain ⟨a1, a2⟩ := (hh r r1).2.1 r2
  have e : cnt (thB I) 10 - 1 - cnt (thB I) r = i := by omega
  rw [e] at a1 a2
  exact ⟨r, r1, r2, a2, e.symm, a1⟩
theorem Gth_bit {I J : Nat → Nat → Int} (h : Gth I J) {i : Nat} (hi : (i : Int) < J 49 3) {x : Int} (hx : 0 ≤ x ∧ x < 10) : J 52 x.toNat = (i : Int) ↔ x = J 51 i := by
  obtain ⟨r, r1, r2, r3, r4, r5⟩ := Gth_row h hi
  obtain ⟨f, g, hh, z⟩ := h
  constructor
  · intro e
    have h1 := hh x.toNat (by omega)
    cases ht : thB I x.toNat
    · have := h1.2.2 ht
      omega
    · obtain ⟨a1, a2⟩ := h1.2.1 ht
      have hl := cnt_lt (T := thB I) (show x.toNat < 10 by omega) ht
      have : cnt (thB I) 10 - 1 - cnt (thB I) x.toNat = i := by omega
      rw [this] at a2
      omega
  · intro e
    rw [e, r3]
    exact r5
theorem Gth_HOK {I J : Nat → Nat → Int} (h : Gth I J) (hR : HR I) : HOK J := by
  have h10 := cnt_le (thB I) 10
  obtain ⟨f, g, hh, z⟩ := h
  refine ⟨by rw [f 32 0 (by omega)]; exact hR.1, by omega, fun q hq => ?_, fun r hr => ?_⟩
  · rw [f 32 0 (by omega)] at hq
    have := hR.2 q hq
    rw [f 33 q (by omega), f 34 q (by omega)]
    omega
  · cases ht : thB I r
    · have := (hh r hr).2.2 ht
      omega
    · have := ((hh r hr).2.1 ht).1
      have hl := cnt_lt (T := thB I) hr ht
      omega
def Prs (bk : Nat) (I J : Nat → Nat → Int) : Prop := (∀ a j, a ≠ 53 → J a j = I a j) ∧ ∀ x y : Nat, y < x → (x : Int) < I 49 3 → J 53 (x * 10 + y) = csc I bk (I 51 x) (I 51 y)
theorem pt_COK {bk : Nat} {J1 J2 J3 J4 : Nat → Nat → Int} {k : Int} (hg : Gth J1 J2) (hb : Bnd J2 J3 k (J2 32 0).toNat) (hp : Prs bk J3 J4) (hB : BKk J3 bk) : COK J4 := by
  have h10 := cnt_le (thB J1) 10
  have e3 : J3 49 3 = J2 49 3 := hb.1 49 3 (by omega)
  have e4 : J4 49 3 = J2 49 3 := by rw [hp.1 49 3 (by omega), e3]
  have e51 : ∀ j, J4 51 j = J2 51 j := fun j => by rw [hp.1 51 j (by omega), hb.1 51 j (by omega)]
  have hsz : J2 49 3 = (cnt (thB J1) 10 : Int) := hg.2.1
  refine ⟨by omega, fun i j hj hi => ?_, fun i hi => ?_, fun i hi => ?_, fun i j hi hj he => ?_⟩
  · unfold sI
    rw [hp.2 i j hj (by omega)]
    exact csc_rg hB _ _
  · rw [hp.1 54 i (by omega), hp.1 55 i (by omega)]
    exact ⟨(hb.2.1 i (by omega)).1, (hb.2.2 i (by omega)).1⟩
  · obtain ⟨r, r1, r2, r3, _⟩ := Gth_row hg (i := i) (by omega)
    rw [e51, r3]
    omega
  · obtain ⟨r, r1, r2, r3, r4, r5⟩ := Gth_row hg (i := i) (by omega)
    obtain ⟨q, q1, q2, q3, q4, q5⟩ := Gth_row hg (i := j) (by omega)
    rw [e51, e51, r3, q3] at he
    have : r = q := by omega
    rw [this] at r4
    omega
def FrP (I J : Nat → Nat → Int) : Prop := ∀ a j, ¬ ((44 ≤ a ∧ a ≤ 58) ∨ (a = 0 ∧ (j = 1 ∨ j = 2))) → J a j = I a j
theorem pt_mk {bk : Nat} {J1 J2 J3 J4 J5 : Nat → Nat → Int} {d k : Int} (hbk : bk = 1 ∨ bk = 7) (hs : SG J1 d k) (hR : HR J1) (hg : Gth J1 J2) (hb : Bnd J2 J3 k (J2 32 0).toNat) (hp : Prs bk J3 J4) (hc : Chs J4 J5) : PtOK bk (upI J5 0 2 1) ∧ (∀ a j, ¬ ((49 ≤ a ∧ a ≤ 58) ∨ (a = 0 ∧ j = 2)) → (upI J5 0 2 1) a j = J1 a j) := by
  have fr : ∀ a j, ¬ ((49 ≤ a ∧ a ≤ 58) ∨ (a = 0 ∧ j = 2)) → (upI J5 0 2 1) a j = J1 a j := fun a j ha => by
    rw [upI_ne (by omega), hc.1 a j (by omega), hp.1 a j (by omega), hb.1 a j (by omega), hg.1 a j (by omega)]
  refine ⟨?_, fr⟩
  have h10 := cnt_le (thB J1) 10
  have eT : thB (upI J5 0 2 1) = thB J1 := funext (fun r => by unfold thB; rw [fr 45 r (by omega)])
  have eN : nTh (upI J5 0 2 1) = cnt (thB J1) 10 := by unfold nTh; rw [eT]
  have hsz : J2 49 3 = (cnt (thB J1) 10 : Int) := hg.2.1
  have e49 : ∀ j, (upI J5 0 2 1) 49 j = J5 49 j := fun j => upI_ne (by omega)
  have e50 : ∀ j, (upI J5 0 2 1) 50 j = J5 50 j := fun j => upI_ne (by omega)
  have e51 : ∀ j, (upI J5 0 2 1) 51 j = J2 51 j := fun j => by rw [upI_ne (by omega), hc.1 51 j (by omega), hp.1 51 j (by omega), hb.1 51 j (by omega)]
  have e493 : J4 49 3 = J2 49 3 := by rw [hp.1 49 3 (by omega), hb.1 49 3 (by omega)]
  have eR : ∀ j, J4 51 j = J2 51 j := fun j => by rw [hp.1 51 j (by omega), hb.1 51 j (by omega)]
  have eO : ∀ r, r < 10 → J4 50 r = -1 := fun r hr => by
    rw [hp.1 50 r (by omega), hb.1 50 r (by omega)]
    exact (hg.2.2.1 r hr).1
  have hnt : (J4 49 3).toNat = cnt (thB J1) 10 := by omega
  have hrow : ∀ i, i < cnt (thB J1) 10 → _ := fun i hi => Gth_row hg (i := i) (by omega)
  have hHB : ∀ (v : Bool) (i j : Nat), i < cnt (thB J1) 10 → (HB J2 k (J2 32 0).toNat v i j ↔ j < cnt (thB J1) 10 ∧ HBR (upI J5 0 2 1) v i j) := fun v i j hi => by
    have q32 : (upI J5 0 2 1) 32 0 = J2 32 0 := by rw [fr 32 0 (by omega), hg.1 32 0 (by omega)]
    have q : ∀ a h, 33 ≤ a ∧ a ≤ 37 → (upI J5 0 2 1) a h = J2 a h := fun a h ha => by rw [fr a h (by omega), hg.1 a h (by omega)]
    have qk : (upI J5 0 2 1) 44 1 = k := by rw [fr 44 1 (by omega)]; exact hs.2.1
    have hok := Gth_HOK hg hR
    unfold HB HBR hHeld
    rw [qk]
    constructor
    · rintro ⟨h, h1, h2, h3, h4⟩
      have hx := hok.2.2.1 h (by omega)
      have hj : j < cnt (thB J1) 10 := by
        have b1 := hok.2.2.2 (J2 33 h).toNat (by omega)
        have b2 := hok.2.2.2 (J2 34 h).toNat (by omega)
        omega
      refine ⟨hj, h, by omega, by rw [q 36 h (by omega), q 37 h (by omega)]; exact h2, by rw [q 35 h (by omega)]; exact h3, ?_⟩
      rw [q 33 h (by omega), q 34 h (by omega), e51, e51]
      rw [Gth_bit hg (i := i) (by omega) hx.1, Gth_bit hg (i := i) (by omega) hx.2, Gth_bit hg (i := j) (by omega) hx.1, Gth_bit hg (i := j) (by omega) hx.2] at h4
      exact h4
    · rintro ⟨hj, h, h1, h2, h3, h4⟩
      have hx := hok.2.2.1 h (by omega)
      refine ⟨h, by omega, by rw [q 36 h (by omega), q 37 h (by omega)] at h2; exact h2, by rw [q 35 h (by omega)] at h3; exact h3, ?_⟩
      rw [q 33 h (by omega), q 34 h (by omega), e51, e51] at h4
      rw [Gth_bit hg (i := i) (by omega) hx.1, Gth_bit hg (i := i) (by omega) hx.2, Gth_bit hg (i := j) (by omega) hx.1, Gth_bit hg (i := j) (by omega) hx.2]
      exact h4
  have hw : ∀ i j, i < cnt (thB J1) 10 → (wtI J4 i j ↔ wtH (upI J5 0 2 1) i j) := fun i j hi => by
    unfold wtI wtH
    rw [eN, hp.1 54 i (by omega), (hb.2.1 i (by omega)).2 j, hHB true i j hi]
    exact ⟨fun z => ⟨hi, z⟩, fun z => z.2⟩
  have hwo : ∀ i j, i < cnt (thB J1) 10 → (woI J4 i j ↔ woH (upI J5 0 2 1) i j) := fun i j hi => by
    unfold woI woH
    rw [eN, hp.1 55 i (by omega), (hb.2.2 i (by omega)).2 j, hHB false i j hi]
    exact ⟨fun z => ⟨hi, z⟩, fun z => z.2⟩
  have hsc : ∀ i j, j < i → i < cnt (thB J1) 10 → sI J4 i j = scH bk (upI J5 0 2 1) i j := fun i j hj hi => by
    unfold sI scH
    have q3 : J3 49 3 = J2 49 3 := hb.1 49 3 (by omega)
    rw [hp.2 i j hj (by omega), e51, e51, hb.1 51 i (by omega), hb.1 51 j (by omega)]
    refine (csc_c _ _ (fun a ha => funext (fun z => ?_))).symm
    rw [fr a z (by omega), hb.1 a z (by omega), hg.1 a z (by omega)]
  unfold PtOK
  rw [eN, eT]
  refine ⟨by rw [e49, hc.1 49 3 (by omega), e493, hsz], fun r hr ht => ?_, fun r hr ht => ?_, ?_⟩
  · rw [e51]
    exact ((hg.2.2.1 r hr).2.1 ht).2
  · rw [e50]
    have hne : ∀ i, i < (J4 49 3).toNat → (J4 51 i).toNat ≠ r := fun i hi => by
      obtain ⟨q, q1, q2, q3, _⟩ := hrow i (by omega)
      rw [eR, q3]
      intro e
      rw [show q = r by omega, ht] at q2
      exact absurd q2 (by decide)
    rcases hc.2 with ⟨_, _, _, _, z⟩ | ⟨_, K, _, ⟨_, _, z⟩ | ⟨_, _, _, _, z, _⟩⟩
    · rw [z, eO r hr]
    · rw [z, eO r hr]
    · rw [z r hne, eO r hr]
  · rcases hc.2 with ⟨z1, z2, z3, z4, _⟩ | ⟨z0, K, zB, z⟩
    · exact Or.inl ⟨by omega, by rw [e49]; exact z2, by rw [e49]; exact z3, by rw [e49]; exact z4⟩
    · rw [hnt] at zB z z0
      have hlt : 2 ^ cnt (thB J1) 10 - 1 < 2 ^ cnt (thB J1) 10 := by have : 0 < 2 ^ cnt (thB J1) 10 := Nat.pow_pos (by decide); omega
      refine Or.inr ⟨z0, K, Bst_c hlt hw (fun i j _ hi => hwo i j hi) hsc zB, ?_⟩
      rcases z with ⟨y1, y2, _⟩ | ⟨y1, y2, y3, y4, _, y6, y7⟩
      · exact Or.inl ⟨y1, by rw [e49]; exact y2⟩
      · refine Or.inr ⟨y1, by rw [e49]; exact y2, by rw [e49]; exact y3, fun i hi => ?_, fun i hi => by rw [e49]; exact y6 i hi, ?_⟩
        · have := y4 i hi
          rw [eR] at this
          rw [e51, e50]
          exact this
        · obtain ⟨i, i1, i2⟩ := y7
          exact ⟨i, i1, by rw [e49]; exact i2⟩
theorem PtOK_01 {bk : Nat} {J : Nat → Nat → Int} (h : PtOK bk J) : J 49 0 = 0 ∨ J 49 0 = 1 := by
  rcases h.2.2.2 with ⟨_, z, _⟩ | ⟨_, K, _, ⟨_, z⟩ | ⟨_, z, _⟩⟩
  · exact Or.inr z
  · exact Or.inl z
  · exact Or.inr z
