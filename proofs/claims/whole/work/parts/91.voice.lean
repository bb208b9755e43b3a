-- VOICES: va what each says, we how much it weighs, si since when, rw whose it is
def sumF (va we : Nat → Int) (x : Int) : Nat → Int
  | 0 => 0
  | n + 1 => if va n = x then sumF va we x n + we n else sumF va we x n
def latF (va si : Nat → Int) (x : Int) : Nat → Int
  | 0 => -1
  | n + 1 => if va n = x then iMax (latF va si x n) (si n) else latF va si x n
def strF (va we rw : Nat → Int) (x : Int) : Nat → Int × Int
  | 0 => (-1, -1)
  | n + 1 => if va n = x ∧ (strF va we rw x n).1 < we n then (we n, rw n) else strF va we rw x n
def dst (va : Nat → Int) : Nat → List Int
  | 0 => []
  | n + 1 => if va n ∈ dst va n then dst va n else dst va n ++ [va n]
def pik (S T : Int → Int) (c x : Int) : Int := if c = -1 ∨ S c < S x ∨ (S c = S x ∧ (T c < T x ∨ (T c = T x ∧ x < c))) then x else c
def bsx (S T : Int → Int) (l : List Int) : Int := l.foldl (pik S T) (-1)
theorem sumF_s (va we : Nat → Int) (x : Int) (n : Nat) : sumF va we x (n + 1) = if va n = x then sumF va we x n + we n else sumF va we x n := rfl
theorem latF_s (va si : Nat → Int) (x : Int) (n : Nat) : latF va si x (n + 1) = if va n = x then iMax (latF va si x n) (si n) else latF va si x n := rfl
theorem strF_s (va we rw : Nat → Int) (x : Int) (n : Nat) : strF va we rw x (n + 1) = if va n = x ∧ (strF va we rw x n).1 < we n then (we n, rw n) else strF va we rw x n := rfl
theorem dst_s (va : Nat → Int) (n : Nat) : dst va (n + 1) = if va n ∈ dst va n then dst va n else dst va n ++ [va n] := rfl
theorem sumF_rg {va we : Nat → Int} {x : Int} : ∀ {n : Nat}, (∀ i, i < n → 0 ≤ we i ∧ we i ≤ 900) → 0 ≤ sumF va we x n ∧ sumF va we x n ≤ 900 * (n : Int)
  | 0, _ => by show (0 : Int) ≤ 0 ∧ (0 : Int) ≤ 900 * ((0 : Nat) : Int); omega
  | n + 1, h => by
    have h1 := sumF_rg (x := x) (va := va) (n := n) (fun i hi => h i (by omega))
    have h2 := h n (by omega)
    rw [sumF_s]
    split <;> omega
theorem latF_rg {va si : Nat → Int} {x : Int} : ∀ {n : Nat}, (∀ i, i < n → 0 ≤ si i ∧ si i ≤ 100000) → -1 ≤ latF va si x n ∧ latF va si x n ≤ 100000
  | 0, _ => by show (-1 : Int) ≤ -1 ∧ (-1 : Int) ≤ 100000; omega
  | n + 1, h => by
    have h1 := latF_rg (x := x) (va := va) (n := n) (fun i hi => h i (by omega))
    have h2 := h n (by omega)
    rw [latF_s]
    unfold iMax
    split
    · split <;> omega
    · omega
theorem dst_mem {va : Nat → Int} {x : Int} : ∀ {n : Nat}, x ∈ dst va n ↔ ∃ i, i < n ∧ va i = x
  | 0 => by
    constructor
    · intro h
      exact absurd h (by simp [dst])
    · rintro ⟨i, h, _⟩
      exact absurd h (by omega)
  | n + 1 => by
    have ih := dst_mem (va := va) (x := x) (n := n)
    have ih2 := dst_mem (va := va) (x := va n) (n := n)
    rw [dst_s]
    by_cases hv : va n ∈ dst va n
    · rw [if_pos hv, ih]
      constructor
      · rintro ⟨i, h1, h2⟩
        exact ⟨i, by omega, h2⟩
      · rintro ⟨i, h1, h2⟩
        by_cases e : i = n
        · rw [e] at h2
          rw [h2] at hv
          exact ih.mp hv
        · exact ⟨i, by omega, h2⟩
    · rw [if_neg hv, List.mem_append, List.mem_singleton, ih]
      constructor
      · rintro (⟨i, h1, h2⟩ | h)
        · exact ⟨i, by omega, h2⟩
        · exact ⟨n, by omega, h.symm⟩
      · rintro ⟨i, h1, h2⟩
        by_cases e : i = n
        · rw [e] at h2
          exact Or.inr h2.symm
        · exact Or.inl ⟨i, by omega, h2⟩
theorem none_F {va we si rw : Nat → Int} {x : Int} : ∀ {n : Nat}, (∀ i, i < n → va i ≠ x) → sumF va we x n = 0 ∧ latF va si x n = -1 ∧ strF va we rw x n = (-1, -1)
  | 0, _ => ⟨rfl, rfl, rfl⟩
  | n + 1, h => by
    obtain ⟨a, b, c⟩ := none_F (we := we) (si := si) (rw := rw) (n := n) (fun i hi => h i (by omega))
    have h2 := h n (by omega)
    rw [sumF_s, latF_s, strF_s, if_neg h2, if_neg h2, if_neg (fun z => h2 z.1)]
    exact ⟨a, b, c⟩
theorem dst_len (va : Nat → Int) : ∀ n : Nat, (dst va n).length ≤ n
  | 0 => by show 0 ≤ 0; omega
  | n + 1 => by
    have := dst_len va n
    rw [dst_s]
    split
    · omega
    · rw [List.length_append]
      simp
      exact this
theorem dst_nd (va : Nat → Int) : ∀ (n i j : Nat), i < (dst va n).length → j < (dst va n).length → (dst va n).getD i 0 = (dst va n).getD j 0 → i = j
  | 0, i, j, h, _, _ => absurd h (by simp [dst])
  | n + 1, i, j, hi, hj, he => by
    have ih := dst_nd va n i j
    rw [dst_s] at hi hj he
    by_cases hv : va n ∈ dst va n
    · rw [if_pos hv] at hi hj he
      exact ih hi hj he
    · rw [if_neg hv] at hi hj he
      rw [List.length_append, List.length_singleton] at hi hj
      have gl : ∀ m, m < (dst va n).length → (dst va n ++ [va n]).getD m 0 = (dst va n).getD m 0 := fun m hm => by
        rw [List.getD_eq_getElem?_getD, List.getD_eq_getElem?_getD, List.getElem?_append_left hm]
      have gr : (dst va n ++ [va n]).getD (dst va n).length 0 = va n := by
        rw [List.getD_eq_getElem?_getD, List.getElem?_append_right (Nat.le_refl _)]
        simp
      have gm : ∀ m, m < (dst va n).length → (dst va n).getD m 0 ∈ dst va n := fun m hm => by
        rw [List.getD_eq_getElem?_getD, List.getElem?_eq_getElem hm]
        exact List.getElem_mem hm
      by_cases ei : i = (dst va n).length
      · by_cases ej : j = (dst va n).length
        · omega
        · rw [ei, gr, gl j (by omega)] at he
          exact absurd (he ▸ gm j (by omega)) hv
      · by_cases ej : j = (dst va n).length
        · rw [ej, gr, gl i (by omega)] at he
          exact absurd (he ▸ gm i (by omega)) hv
        · rw [gl i (by omega), gl j (by omega)] at he
          exact ih (by omega) (by omega) he
theorem bsx_s (S T : Int → Int) (l : List Int) (x : Int) : bsx S T (l ++ [x]) = pik S T (bsx S T l) x := by
  unfold bsx
  rw [List.foldl_append]
  rfl
theorem pik_or (S T : Int → Int) (c x : Int) : pik S T c x = c ∨ pik S T c x = x := by
  unfold pik
  split
  · exact Or.inr rfl
  · exact Or.inl rfl
theorem bsx_rg (S T : Int → Int) (va : Nat → Int) : ∀ n : Nat, (∀ i, i < n → 0 ≤ va i ∧ va i ≤ 999999) → (bsx S T (dst va n) = -1 ∧ n = 0) ∨ ((0 ≤ bsx S T (dst va n) ∧ bsx S T (dst va n) ≤ 999999) ∧ 0 < n)
  | 0, _ => Or.inl ⟨rfl, rfl⟩
  | n + 1, h => by
    have ih := bsx_rg S T va n (fun i hi => h i (by omega))
    have hn := h n (by omega)
    rw [dst_s]
    by_cases hv : va n ∈ dst va n
    · rw [if_pos hv]
      rcases ih with ⟨_, e⟩ | ⟨e, _⟩
      · rw [e] at hv
        exact absurd hv (by simp [dst])
      · exact Or.inr ⟨e, by omega⟩
    · rw [if_neg hv, bsx_s]
      right
      refine ⟨?_, by omega⟩
      rcases ih with ⟨e, _⟩ | ⟨e, _⟩
      · unfold pik
        rw [if_pos (Or.inl e)]
        exact hn
      · rcases pik_or S T (bsx S T (dst va n)) (va n) with z | z <;> rw [z]
        · exact e
        · exact hn
-- the rows that speak: Q; the i-th of them
def fi (Q : Nat → Bool) : Nat → Nat → Nat
  | 0, _ => 0
  | n + 1, i => if Q n = true ∧ cnt Q n = i then n else fi Q n i
theorem fi_at {Q : Nat → Bool} : ∀ {n r : Nat}, r < n → Q r = true → fi Q n (cnt Q r) = r
  | 0, r, h, _ => absurd h (by omega)
  | n + 1, r, h, hq => by
    show (if Q n = true ∧ cnt Q n = cnt Q r then n else fi Q n (cnt Q r)) = r
    by_cases e : Q n = true ∧ cnt Q n = cnt Q r
    · rw [if_pos e]
      exact cnt_inj e.1 hq e.2
    · rw [if_neg e]
      refine fi_at ?_ hq
      by_cases e2 : r = n
      · exact absurd ⟨by rw [← e2]; exact hq, by rw [e2]⟩ e
      · omega
theorem fi_c {Q P : Nat → Bool} : ∀ {n i : Nat}, (∀ r, r < n → Q r = P r) → fi Q n i = fi P n i
  | 0, _, _ => rfl
  | n + 1, i, h => by
    show (if _ then _ else _) = if _ then _ else _
    rw [h n (by omega), cnt_c (fun r hr => h r (by omega)), fi_c (fun r hr => h r (by omega))]
theorem F_c {va we si rw va' we' si' rw' : Nat → Int} {x : Int} : ∀ {n : Nat}, (∀ i, i < n → va i = va' i ∧ we i = we' i ∧ si i = si' i ∧ rw i = rw' i) → sumF va we x n = sumF va' we' x n ∧ latF va si x n = latF va' si' x n ∧ strF va we rw x n = strF va' we' rw' x n ∧ dst va n = dst va' n
  | 0, _ => ⟨rfl, rfl, rfl, rfl⟩
  | n + 1, h => by
    obtain ⟨a, b, c, d⟩ := F_c (x := x) (n := n) (fun i hi => h i (by omega))
    obtain ⟨e1, e2, e3, e4⟩ := h n (by omega)
    rw [sumF_s, sumF_s, latF_s, latF_s, strF_s, strF_s, dst_s, dst_s, a, b, c, d, e1, e2, e3, e4]
    exact ⟨rfl, rfl, rfl, rfl⟩
theorem dst_c {va va' : Nat → Int} : ∀ {n : Nat}, (∀ i, i < n → va i = va' i) → dst va n = dst va' n
  | 0, _ => rfl
  | n + 1, h => by rw [dst_s, dst_s, dst_c (fun i hi => h i (by omega)), h n (by omega)]
theorem bsx_c {S T S' T' : Int → Int} (hS : ∀ x, S x = S' x) (hT : ∀ x, T x = T' x) (l : List Int) : bsx S T l = bsx S' T' l := by
  rw [show S = S' from funext hS, show T = T' from funext hT]
/-- the last of m that counts -/
def lst (ap : Nat → Bool) : Nat → Int
  | 0 => -1
  | m + 1 => if ap m = true then (m : Int) else lst ap m
theorem lst_rg (ap : Nat → Bool) : ∀ m : Nat, -1 ≤ lst ap m ∧ lst ap m < (m : Int)
  | 0 => by show (-1 : Int) ≤ -1 ∧ (-1 : Int) < ((0 : Nat) : Int); omega
  | m + 1 => by
    have := lst_rg ap m
    show -1 ≤ (if _ then _ else _) ∧ (if _ then _ else _) < ((m + 1 : Nat) : Int)
    split <;> omega
theorem lst_c {ap ap' : Nat → Bool} : ∀ {m : Nat}, (∀ i, i < m → ap i = ap' i) → lst ap m = lst ap' m
  | 0, _ => rfl
  | m + 1, h => by
    show (if _ then _ else _) = if _ then _ else _
    rw [h m (by omega), lst_c (fun i hi => h i (by omega))]
-- GROUPS, as the reference keeps them
def GPs (J M : Nat → Nat → Int) (va we si rw : Nat → Int) (m : Nat) : Prop := J 74 69 = ((dst va m).length : Int) ∧ ∀ i, i < (dst va m).length → J 118 i = (dst va m).getD i 0 ∧ M 121 i = sumF va we ((dst va m).getD i 0) m ∧ J 120 i = latF va si ((dst va m).getD i 0) m ∧ (M 122 i, J 119 i) = strF va we rw ((dst va m).getD i 0) m
/-- a voice comes to group j -/
def GUp (J M J' M' : Nat → Nat → Int) (j : Nat) (x w s r : Int) : Prop :=
  (∀ a i, ¬ ((a = 74 ∧ i = 69) ∨ ((118 ≤ a ∧ a ≤ 120) ∧ i = j)) → J' a i = J a i) ∧ (∀ a i, ¬ ((a = 121 ∨ a = 122) ∧ i = j) → M' a i = M a i) ∧ J' 118 j = x ∧
  J' 74 69 = (if (j : Int) = J 74 69 then J 74 69 + 1 else J 74 69) ∧ M' 121 j = (if (j : Int) = J 74 69 then 0 else M 121 j) + w ∧ J' 120 j = iMax (if (j : Int) = J 74 69 then -1 else J 120 j) s ∧
  ((if (j : Int) = J 74 69 then -1 else M 122 j) < w → M' 122 j = w ∧ J' 119 j = r) ∧ (w ≤ (if (j : Int) = J 74 69 then -1 else M 122 j) → M' 122 j = (if (j : Int) = J 74 69 then -1 else M 122 j) ∧ J' 119 j = J 119 j)
theorem getD_app {l : List Int} {x : Int} {m : Nat} : (l ++ [x]).getD m 0 = if m = l.length then x else l.getD m 0 := by
  by_cases e : m = l.length
  · rw [if_pos e, e, List.getD_eq_getElem?_getD, List.getElem?_append_right (Nat.le_refl _)]
    simp
  · rw [if_neg e, List.getD_eq_getElem?_getD, List.getD_eq_getElem?_getD]
    rcases Nat.lt_or_ge m l.length with h | h
    · rw [List.getElem?_append_left h]
    · rw [List.getElem?_eq_none (by simp; omega), List.getElem?_eq_none h]
theorem getD_mem {l : List Int} {m : Nat} (h : m < l.length) : l.getD m 0 ∈ l := by
  rw [List.getD_eq_getElem?_getD, List.getElem?_eq_getElem h]
  exact List.getElem_mem h
theorem GP_step {J M J' M' : Nat → Nat → Int} {va we si rw : Nat → Int} {m j : Nat} (h : GPs J M va we si rw m) (hw : 0 ≤ we m) (hj : (j : Int) ≤ J 74 69) (h1 : ∀ i, i < j → J 118 i ≠ va m) (h2 : (j : Int) < J 74 69 → J 118 j = va m) (hU : GUp J M J' M' j (va m) (we m) (si m) (rw m)) : GPs J' M' va we si rw (m + 1) := by
  obtain ⟨g1, g2⟩ := h
  obtain ⟨u1, u2, u3, u4, u5, u6, u7, u8⟩ := hU
  by_cases e : (j : Int) = J 74 69
  · have hjl : j = (dst va m).length := by omega
    have hni : va m ∉ dst va m := fun hm => by
      obtain ⟨i, i1, i2⟩ := List.getElem_of_mem hm
      have := (g2 i i1).1
      rw [List.getD_eq_getElem?_getD, List.getElem?_eq_getElem i1] at this
      exact h1 i (by omega) (this.trans i2)
    have hne : ∀ i, i < m → va i ≠ va m := fun i hi z => hni (dst_mem.mpr ⟨i, hi, z⟩)
    obtain ⟨z1, z2, z3⟩ := none_F (we := we) (si := si) (rw := rw) hne
    rw [if_pos e] at u4 u5 u6 u7 u8
    obtain ⟨u9, u10⟩ := u7 (by omega)
    unfold GPs
    rw [dst_s, if_neg hni]
    refine ⟨by rw [u4, g1, List.length_append, List.length_singleton]; omega, fun i hi => ?_⟩
    rw [List.length_append, List.length_singleton] at hi
    rw [getD_app, sumF_s, latF_s, strF_s]
    by_cases ei : i = (dst va m).length
    · rw [if_pos ei, if_pos rfl, if_pos rfl, z1, z2, z3, ei, ← hjl, if_pos ⟨rfl, by show (-1 : Int) < we m; omega⟩, u9, u10]
      exact ⟨u3, u5, u6, rfl⟩
    · have hd : (dst va m).getD i 0 ∈ dst va m := getD_mem (by omega)
      have hd2 : va m ≠ (dst va m).getD i 0 := fun z => hni (z ▸ hd)
      rw [if_neg ei, if_neg hd2, if_neg hd2, if_neg (fun z => hd2 z.1), u1 118 i (by omega), u2 121 i (by omega), u1 120 i (by omega), u2 122 i (by omega), u1 119 i (by omega)]
      exact g2 i (by omega)
  · have hjl : j < (dst va m).length := by omega
    have hx := h2 (by omega)
    obtain ⟨b1, b2, b3, b4⟩ := g2 j hjl
    have hdx : (dst va m).getD j 0 = va m := by rw [← b1]; exact hx
    have hin : va m ∈ dst va m := by rw [← hdx]; exact getD_mem hjl
    rw [if_neg e] at u4 u5 u6 u7 u8
    unfold GPs
    rw [dst_s, if_pos hin]
    refine ⟨by rw [u4, g1], fun i hi => ?_⟩
    rw [sumF_s, latF_s, strF_s]
    by_cases ei : i = j
    · rw [hdx] at b2 b3 b4
      rw [ei, hdx]
      rw [if_pos rfl, if_pos rfl, ← b2, ← b3]
      refine ⟨u3, u5, u6, ?_⟩
      have b5 : (strF va we rw (va m) m).1 = M 122 j := by rw [← b4]
      by_cases hg : M 122 j < we m
      · obtain ⟨u9, u10⟩ := u7 hg
        rw [if_pos ⟨rfl, by rw [b5]; exact hg⟩, u9, u10]
      · obtain ⟨u9, u10⟩ := u8 (by omega)
        rw [if_neg (fun z => hg (by rw [← b5]; exact z.2)), u9, u10]
        exact b4
    · have hd2 : va m ≠ (dst va m).getD i 0 := fun z => ei (dst_nd va m i j hi hjl (by rw [hdx, z]))
      rw [if_neg hd2, if_neg hd2, if_neg (fun z => hd2 z.1), u1 118 i (by omega), u2 121 i (by omega), u1 120 i (by omega), u2 122 i (by omega), u1 119 i (by omega)]
      exact g2 i hi
