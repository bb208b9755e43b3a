-- THE MADE WORLD: kinds and references are fixed but for the two books; ints and longs are functions
def LAY : List (Nat × Nat × Nat) := [(0, 11, 18), (0, 0, 8), (1, 0, 10), (1, 0, 10), (1, 0, 250), (1, 0, 250), (1, 0, 250), (0, 0, 8), (1, 0, 10), (1, 0, 10), (1, 0, 250), (1, 0, 250), (1, 0, 250), (0, 9, 2), (1, 0, 36), (1, 0, 6), (1, 0, 6), (0, 4, 4), (1, 0, 10), (1, 0, 10), (1, 1, 10), (0, 7, 7), (1, 0, 150), (1, 0, 150), (1, 0, 150), (1, 0, 150), (1, 0, 150), (1, 1, 150), (0, 6, 7), (1, 0, 500), (1, 0, 500), (0, 2, 2), (0, 1, 6), (1, 0, 20), (1, 0, 20), (1, 0, 20), (1, 0, 20), (1, 0, 20), (0, 1, 6), (1, 0, 20), (1, 0, 20), (1, 0, 20), (1, 0, 20), (1, 0, 20), (0, 5, 6), (1, 1, 10), (1, 0, 60), (1, 0, 60), (1, 1, 60), (0, 3, 15), (1, 0, 10), (1, 0, 10), (1, 0, 10), (1, 0, 100), (1, 0, 10), (1, 0, 10), (1, 0, 512), (1, 0, 1024), (1, 0, 1024), (1, 2, 512), (1, 2, 512), (0, 8, 8), (1, 0, 10), (1, 0, 10), (1, 0, 10), (1, 0, 10), (0, 10, 4), (1, 0, 60), (1, 0, 60), (1, 0, 60), (0, 10, 4), (1, 0, 60), (1, 0, 60), (1, 0, 60), (0, 12, 83), (1, 0, 36), (1, 0, 6), (1, 0, 6), (1, 0, 10), (1, 0, 10), (1, 1, 10), (1, 0, 150), (1, 0, 150), (1, 0, 150), (1, 0, 150), (1, 0, 150), (1, 1, 150), (1, 0, 500), (1, 0, 500), (1, 0, 500), (1, 0, 11), (1, 0, 10), (1, 0, 500), (1, 0, 500), (1, 0, 500), (1, 0, 11), (1, 0, 10), (1, 0, 500), (1, 0, 300), (1, 1, 100), (1, 0, 20), (1, 0, 20), (1, 0, 20), (1, 0, 20), (1, 1, 20), (1, 0, 20), (1, 0, 20), (1, 0, 20), (1, 0, 20), (1, 0, 20), (1, 0, 10), (1, 0, 10), (1, 0, 10), (1, 0, 10), (1, 0, 11), (1, 0, 11), (1, 0, 100), (1, 0, 100), (1, 0, 10), (1, 0, 10), (1, 0, 10), (1, 2, 10), (1, 2, 10), (1, 0, 60), (1, 0, 60), (1, 0, 60), (1, 0, 60), (1, 0, 60), (1, 0, 60)]
def rfT : List (List (Option Nat)) := [[none, none, none, none, none, some 13, some 16, some 17, some 21, some 28, some 31, some 32, some 38, some 44, some 49, some 61, some 66, some 70], [none, none, none, some 2, some 3, some 4, some 5, some 6], [], [], [], [], [], [none, none, none, some 8, some 9, some 10, some 11, some 12], [], [], [], [], [], [some 14, some 15], [], [], [], [none, some 18, some 19, some 20], [], [], [], [none, some 22, some 23, some 24, some 25, some 26, some 27], [], [], [], [], [], [], [none, none, none, none, none, some 29, some 30], [], [], [none, none], [none, some 33, some 34, some 35, some 36, some 37], [], [], [], [], [], [none, some 39, some 40, some 41, some 42, some 43], [], [], [], [], [], [none, none, some 45, some 46, some 47, some 48], [], [], [], [], [none, none, none, none, some 50, some 51, some 52, some 53, some 54, some 55, some 56, some 57, some 58, some 59, some 60], [], [], [], [], [], [], [], [], [], [], [], [none, none, none, none, some 62, some 63, some 64, some 65], [], [], [], [], [none, some 67, some 68, some 69], [], [], [], [none, some 71, some 72, some 73], [], [], [], [none, some 75, some 76, some 77, none, none, some 78, some 79, some 80, some 81, some 82, some 83, some 84, some 85, some 86, some 87, some 88, some 89, some 90, some 91, none, some 92, some 93, some 94, some 95, some 96, none, none, none, some 97, none, none, none, none, none, none, none, none, none, some 98, none, none, some 99, none, none, some 100, some 101, some 102, some 103, some 104, some 105, some 106, some 107, some 108, some 109, none, none, none, none, some 110, some 111, some 112, some 113, some 114, some 115, some 116, some 117, none, none, none, some 118, some 119, some 120, some 121, some 122, none, none, some 123, some 124, some 125, some 126, some 127, some 128], [], [], [], [], [], [], [], [], [], [], [], [], [], [], [], [], [], [], [], [], [], [], [], [], [], [], [], [], [], [], [], [], [], [], [], [], [], [], [], [], [], [], [], [], [], [], [], [], [], [], [], [], [], []]
def RF (b : Bool) (a j : Nat) : Option Nat := if (Nat.beq a 0 && Nat.beq j 3) = true then some (cond b 7 1) else if (Nat.beq a 0 && Nat.beq j 4) = true then some (cond b 1 7) else (rfT.getD a []).getD j none
def MW (b : Bool) (I L : Nat → Nat → Int) : AW := (LAY, I, L, RF b)
def upI (I : Nat → Nat → Int) (a j : Nat) (x : Int) : Nat → Nat → Int := fun b i => if b = a ∧ i = j then x else I b i
def I0 (a j : Nat) : Int := if (a = 14 ∧ j < 36) ∨ (a = 75 ∧ j < 36) then 1 else if (a = 31 ∧ j = 1) ∨ (a = 74 ∧ j = 32) then -1 else 0
def L0 (_ _ : Nat) : Int := 0
set_option maxRecDepth 100000 in
theorem w_lay : W330.1 = LAY := by decide +kernel
def agr (a : Nat) : Bool := (List.range (LAY.getD a (0, 0, 0)).2.2).all (fun j => decide (I0 a j = wI W330 a j) && decide (L0 a j = wL W330 a j) && decide (RF false a j = wR W330 a j))
set_option maxRecDepth 100000 in
theorem agr_0 : ((List.range 12).map (· + 0)).all agr = true := by decide +kernel
set_option maxRecDepth 100000 in
theorem agr_12 : ((List.range 17).map (· + 12)).all agr = true := by decide +kernel
set_option maxRecDepth 100000 in
theorem agr_29 : ((List.range 24).map (· + 29)).all agr = true := by decide +kernel
set_option maxRecDepth 100000 in
theorem agr_53 : ((List.range 4).map (· + 53)).all agr = true := by decide +kernel
set_option maxRecDepth 100000 in
theorem agr_57 : ((List.range 1).map (· + 57)).all agr = true := by decide +kernel
set_option maxRecDepth 100000 in
theorem agr_58 : ((List.range 1).map (· + 58)).all agr = true := by decide +kernel
set_option maxRecDepth 100000 in
theorem agr_59 : ((List.range 15).map (· + 59)).all agr = true := by decide +kernel
set_option maxRecDepth 100000 in
theorem agr_74 : ((List.range 13).map (· + 74)).all agr = true := by decide +kernel
set_option maxRecDepth 100000 in
theorem agr_87 : ((List.range 2).map (· + 87)).all agr = true := by decide +kernel
set_option maxRecDepth 100000 in
theorem agr_89 : ((List.range 4).map (· + 89)).all agr = true := by decide +kernel
set_option maxRecDepth 100000 in
theorem agr_93 : ((List.range 4).map (· + 93)).all agr = true := by decide +kernel
set_option maxRecDepth 100000 in
theorem agr_97 : ((List.range 27).map (· + 97)).all agr = true := by decide +kernel
set_option maxRecDepth 100000 in
theorem agr_124 : ((List.range 5).map (· + 124)).all agr = true := by decide +kernel
theorem agr_all : ∀ a, a < 129 → agr a = true := by
  intro a ha
  have key : ∀ k n, ((List.range n).map (· + k)).all agr = true → k ≤ a → a < k + n → agr a = true := fun k n h h1 h2 => List.all_eq_true.mp h a (List.mem_map.mpr ⟨a - k, List.mem_range.mpr (by omega), by omega⟩)
  rcases (show (0 ≤ a ∧ a < 12) ∨ (12 ≤ a ∧ a < 29) ∨ (29 ≤ a ∧ a < 53) ∨ (53 ≤ a ∧ a < 57) ∨ (57 ≤ a ∧ a < 58) ∨ (58 ≤ a ∧ a < 59) ∨ (59 ≤ a ∧ a < 74) ∨ (74 ≤ a ∧ a < 87) ∨ (87 ≤ a ∧ a < 89) ∨ (89 ≤ a ∧ a < 93) ∨ (93 ≤ a ∧ a < 97) ∨ (97 ≤ a ∧ a < 124) ∨ (124 ≤ a ∧ a < 129) by omega) with h | h | h | h | h | h | h | h | h | h | h | h | h
  · exact key 0 12 agr_0 h.1 (by omega)
  · exact key 12 17 agr_12 h.1 (by omega)
  · exact key 29 24 agr_29 h.1 (by omega)
  · exact key 53 4 agr_53 h.1 (by omega)
  · exact key 57 1 agr_57 h.1 (by omega)
  · exact key 58 1 agr_58 h.1 (by omega)
  · exact key 59 15 agr_59 h.1 (by omega)
  · exact key 74 13 agr_74 h.1 (by omega)
  · exact key 87 2 agr_87 h.1 (by omega)
  · exact key 89 4 agr_89 h.1 (by omega)
  · exact key 93 4 agr_93 h.1 (by omega)
  · exact key 97 27 agr_97 h.1 (by omega)
  · exact key 124 5 agr_124 h.1 (by omega)
