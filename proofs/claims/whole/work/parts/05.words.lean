-- VALIDITY: the data are the program's, the words are the tables'
def tb : List Jvm.Cond := lw_tbl.filter goodWord
theorem tb_good : ∀ c ∈ tb, (c.onTables && c.keeps) = true ∨ ∃ ty, c = Jvm.Cond.arrayClass ty := fun c h => good_of_word (List.mem_filter.mp h).2
theorem tb_in {c : Jvm.Cond} (h : c ∈ lw_tbl) (g : goodWord c = true) : c ∈ tb := List.mem_filter.mpr ⟨h, g⟩
theorem tb_GI {ws : List Jvm.Cond} (h : ∀ c ∈ ws, c ∈ tb) : GoodIn tb ws := fun c hc => ⟨h c hc, tb_good c (h c hc)⟩
/-- a list's words stand in another's order -/
def subl : List Jvm.Cond → List Jvm.Cond → Bool
  | [], _ => true
  | _ :: _, [] => false
  | a :: l, b :: m => if a = b then subl l m else subl (a :: l) m
theorem subl_mem : ∀ (l m : List Jvm.Cond), subl l m = true → ∀ c ∈ l, c ∈ m
  | [], _, _, c, h => absurd h List.not_mem_nil
  | _ :: _, [], h, _, _ => by simp [subl] at h
  | a :: l, b :: m, h, c, hc => by
    unfold subl at h
    split at h
    · next e =>
      rcases List.mem_cons.mp hc with rfl | hc
      · rw [e]; exact List.mem_cons_self
      · exact List.mem_cons_of_mem _ (subl_mem l m h c hc)
    · exact List.mem_cons_of_mem _ (subl_mem (a :: l) m h c hc)
def clT : List (Nat → String × String × String × Bool) := [TX0, TX1, TX2, TX3, TX4, TX5, TX6, TX7, TX8, TX9, TX10, TX11, TX12]
def clt (ci j : Nat) : String × String × String × Bool := (clT.getD ci TX0) j
def fC (q : Nat × Nat × Nat × Nat) : Jvm.Cond := .fieldLink (rn_ q.1) q.2.1 (clt q.2.2.1 q.2.2.2).1 (clt q.2.2.1 q.2.2.2).2.1 (clt q.2.2.1 q.2.2.2).2.2.1
def fS (q : Nat × Nat × Nat) : Jvm.Cond := .fieldLink (rn_ q.1) q.2.1 "java/lang/String" (if q.2.2 = 0 then "value" else "coder") (if q.2.2 = 0 then "[B" else "B")
def mC (q : Nat × Nat × Nat) : Jvm.Cond := .methodLink (rn_ q.1) q.2.1 (ynm q.2.2)
def sC (q : Nat × Nat × Nat) : Jvm.Cond := .methodLink (rn_ q.1) q.2.1 (if q.2.2 = 990 then Lib.objectInit else if q.2.2 = 991 then Lib.Math.max.name else Lib.MathLoose.max_long.x)
def cC (q : Nat × Nat × Int) : Jvm.Cond := .constant (rn_ q.1) q.2.1 (Int32.ofInt q.2.2)
def cL (q : Nat × Nat × Int) : Jvm.Cond := .constantLong (rn_ q.1) q.2.1 (Int64.ofInt q.2.2)
def kC (q : Nat × Nat × Nat) : Jvm.Cond := .classLink (rn_ q.1) q.2.1 (rn_ q.2.2)
def gC (q : Nat × Nat × Nat) : Jvm.Cond := if q.2.2 = 0 then .fieldLink (rn_ q.1) q.2.1 "java/lang/String" "COMPACT_STRINGS" "Z" else .fieldLink (rn_ q.1) q.2.1 "jdk/internal/util/Preconditions" "SIOOBE_FORMATTER" "Ljava/util/function/BiFunction;"
theorem fls_t : subl (fls.map fC) lw_tbl = true := by decide +kernel
theorem sfl_t : subl (sfl.map fS) lw_tbl = true := by decide +kernel
theorem mls_t : subl (mls.map mC) lw_tbl = true := by decide +kernel
theorem spl_t : subl (spl.map sC) lw_tbl = true := by decide +kernel
theorem cis_t : subl (cis.map cC) lw_tbl = true := by decide +kernel
theorem cll_t : subl (cll.map cL) lw_tbl = true := by decide +kernel
theorem cks_t : subl (cks.map kC) lw_tbl = true := by decide +kernel
theorem gsl_t : subl (gsl.map gC) lw_tbl = true := by decide +kernel
theorem map_tb {α : Type} {f : α → Jvm.Cond} {l : List α} (h : subl (l.map f) lw_tbl = true) (g : ∀ q, goodWord (f q) = true) : ∀ q ∈ l, f q ∈ tb := fun q hq => tb_in (subl_mem _ _ h _ (List.mem_map.mpr ⟨q, hq, rfl⟩)) (g q)
theorem fls_ok : ∀ q ∈ fls, fC q ∈ tb := map_tb fls_t (fun _ => rfl)
theorem sfl_ok : ∀ q ∈ sfl, fS q ∈ tb := map_tb sfl_t (fun _ => rfl)
theorem mls_ok : ∀ q ∈ mls, mC q ∈ tb := map_tb mls_t (fun _ => rfl)
theorem spl_ok : ∀ q ∈ spl, sC q ∈ tb := map_tb spl_t (fun _ => rfl)
theorem cis_ok : ∀ q ∈ cis, cC q ∈ tb := map_tb cis_t (fun _ => rfl)
theorem cll_ok : ∀ q ∈ cll, cL q ∈ tb := map_tb cll_t (fun _ => rfl)
theorem cks_ok : ∀ q ∈ cks, kC q ∈ tb := map_tb cks_t (fun _ => rfl)
theorem gsl_ok : ∀ q ∈ gsl, gC q ∈ tb := map_tb gsl_t (fun q => by unfold gC; split <;> rfl)
/-- what an entry must be -/
def okE (bs : ByteArray) (o kd : Nat) (e : AE) : Bool :=
  decide (decode bs e.1 = .ok (e.2.1, e.2.2.1)) && (match e.2.1 with
  | .getfield i => if e.2.2.2.2.1 = 100 then decide ((o, i, e.2.2.2.2.2) ∈ sfl) else decide ((o, i, e.2.2.2.2.1, e.2.2.2.2.2) ∈ fls)
  | .putfield i => decide ((o, i, e.2.2.2.2.1, e.2.2.2.2.2) ∈ fls) && (!(clt e.2.2.2.2.1 e.2.2.2.2.2).2.2.2 || (kd == 2 && o == e.2.2.2.2.1))
  | .getstatic i => decide ((o, i, e.2.2.2.2.1) ∈ gsl)
  | .ldc i => if e.2.2.2.2.1 = 0 then decide ((o, i, e.2.2.2.1) ∈ cis) else decide ((o, i, e.2.2.2.2.2) ∈ srs)
  | .ldc_w i => decide (e.2.2.2.2.1 = 0 ∧ (o, i, e.2.2.2.1) ∈ cis)
  | .ldc2_w i => decide ((o, i, e.2.2.2.1) ∈ cll)
  | .new i => decide (99 ≤ e.2.2.2.2.1 ∨ (o, i, e.2.2.2.2.1) ∈ cks)
  | .invokevirtual i => decide ((o, i, e.2.2.2.2.1) ∈ mls)
  | .invokestatic i => decide (e.2.2.2.2.1 = 999 ∨ (o, i, e.2.2.2.2.1) ∈ mls ∨ (o, i, e.2.2.2.2.1) ∈ spl ∨ (o, i, e.2.2.2.2.1) ∈ nsl)
  | .invokespecial i => decide (e.2.2.2.2.1 = 999 ∨ (o, i, e.2.2.2.2.1) ∈ mls ∨ (o, i, e.2.2.2.2.1) ∈ spl)
  | _ => true)
