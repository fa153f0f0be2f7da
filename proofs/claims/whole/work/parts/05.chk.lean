-- what the tables say is among the words
theorem lk_mem {α β : Type} [BEq α] [LawfulBEq α] {l : List (α × β)} {k : α} {v : β} (h : l.lookup k = some v) : (k, v) ∈ l := by
  induction l with
  | nil => simp at h
  | cons q l ih =>
    obtain ⟨a, b⟩ := q
    rw [List.lookup_cons] at h
    by_cases e : k == a
    · simp [e] at h
      have := eq_of_beq e
      subst this; subst h
      exact List.mem_cons_self
    · simp [e] at h
      exact List.mem_cons_of_mem _ (ih h)
def okE (q : MT) : Prop := Cond.code q.1 q.2.1 q.2.2.1 q.2.2.2.1 ∈ lw_tbl ∧ plainName q.1.cls = true ∧ q.1.cls = cn q.2.2.2.2.1 ∧ q.1.cls ≠ "java/lang/invoke/MethodHandle" ∧ q.1.cls ≠ "java/lang/invoke/VarHandle" ∧ (parseMethodDescriptor q.1.desc).map (fun d => d.parameters.length) = some q.2.2.2.2.2.1 ∧ Cond.initialized q.1.cls ∈ lw_tbl
set_option maxRecDepth 100000 in
set_option maxHeartbeats 4000000 in
theorem mt_ok : ∀ q ∈ mtab, okE q := by unfold okE; decide +kernel
theorem m_ok (k : Nat) : okE (mt k) := by
  unfold mt
  rw [List.getD_eq_getElem?_getD]
  cases h : mtab[k]? with
  | none => exact mt_ok _ (List.mem_of_getElem? (i := 0) rfl)
  | some q => exact mt_ok q (List.mem_of_getElem? h)
def okF (q : (Nat × Nat) × Nat × Nat) : Prop := q.2.1 < 9 ∧ q.2.2 < clN q.2.1 ∧ Cond.fieldLink (cn q.1.1) q.1.2 (clT q.2.1 q.2.2).1 (clT q.2.1 q.2.2).2.1 (clT q.2.1 q.2.2).2.2.1 ∈ lw_tbl
set_option maxRecDepth 100000 in
set_option maxHeartbeats 4000000 in
theorem ft_ok : ∀ q ∈ ftab, okF q := by unfold okF; decide +kernel
def okK (q : (Nat × Nat) × Int32) : Prop := Cond.constant (cn q.1.1) q.1.2 q.2 ∈ lw_tbl
set_option maxRecDepth 100000 in
theorem kt_ok : ∀ q ∈ ktab, okK q := by unfold okK; decide +kernel
def okKL (q : (Nat × Nat) × Int64) : Prop := Cond.constantLong (cn q.1.1) q.1.2 q.2 ∈ lw_tbl
set_option maxRecDepth 100000 in
theorem ktL_ok : ∀ q ∈ ktabL, okKL q := by unfold okKL; decide +kernel
def okN (q : (Nat × Nat) × Nat) : Prop := q.2 < 9 ∧ Cond.classLink (cn q.1.1) q.1.2 (clR q.2) ∈ lw_tbl ∧ Cond.instantiable (clR q.2) (clN q.2) ∈ lw_tbl ∧ Cond.initialized (clR q.2) ∈ lw_tbl
set_option maxRecDepth 100000 in
theorem nt_ok : ∀ q ∈ ntab, okN q := by unfold okN; decide +kernel
def okP (q : (Nat × Nat) × Nat) : Prop := (q.2 = 3 ∧ Cond.classLink (cn q.1.1) q.1.2 RX5 ∈ lw_tbl ∧ Cond.arrayOver (.object RX5) ∈ lw_tbl) ∨ (q.2 = 4 ∧ Cond.classLink (cn q.1.1) q.1.2 RX2 ∈ lw_tbl ∧ Cond.arrayOver (.object RX2) ∈ lw_tbl)
set_option maxRecDepth 100000 in
theorem pt_ok : ∀ q ∈ ptab, okP q := by unfold okP; decide +kernel
def okCt (q : (Nat × Nat) × Nat × Nat) : Prop := match q.2.1 with
  | 0 => Cond.methodLink (cn q.1.1) q.1.2 (my q.2.2) ∈ lw_tbl ∧ Cond.instanceMethod (my q.2.2) ∈ lw_tbl ∧ Cond.selects (my q.2.2).cls (my q.2.2) (my q.2.2) ∈ lw_tbl ∧ mo q.2.2 < 9
  | 1 => Cond.methodLink (cn q.1.1) q.1.2 (my q.2.2) ∈ lw_tbl ∧ Cond.instanceMethod (my q.2.2) ∈ lw_tbl ∧ (my q.2.2).name = "<init>" ∧ mr q.2.2 = none
  | 2 => Cond.methodLink (cn q.1.1) q.1.2 (my q.2.2) ∈ lw_tbl ∧ Cond.static (my q.2.2) ∈ lw_tbl
  | 3 => Cond.methodLinkNest (cn q.1.1) q.1.2 (my q.2.2) RX7 ∈ lw_tbl ∧ Cond.instanceMethod (my q.2.2) ∈ lw_tbl ∧ (my q.2.2).name = "<init>" ∧ mr q.2.2 = none
  | 4 => Cond.methodLinkNest (cn q.1.1) q.1.2 (my q.2.2) RX7 ∈ lw_tbl ∧ Cond.static (my q.2.2) ∈ lw_tbl
  | 5 => Cond.methodLink (cn q.1.1) q.1.2 Lib.objectInit ∈ lw_tbl ∧ Cond.instanceMethod Lib.objectInit ∈ lw_tbl ∧ Cond.code Lib.objectInit ⟨#[0xb1]⟩ 1 none ∈ lw_tbl
  | 6 => Cond.methodLink (cn q.1.1) q.1.2 arraycopyName ∈ lw_tbl ∧ Cond.native arraycopyName ∈ lw_tbl ∧ Cond.static arraycopyName ∈ lw_tbl ∧ Cond.initialized "java/lang/System" ∈ lw_tbl
  | _ => False
def okCtD (q : (Nat × Nat) × Nat × Nat) : Decidable (okCt q) := by unfold okCt; split <;> infer_instance
set_option maxRecDepth 100000 in
set_option maxHeartbeats 4000000 in
theorem ct_all : ctab.all (fun q => @decide _ (okCtD q)) = true := by decide +kernel
theorem ct_ok : ∀ q ∈ ctab, okCt q := fun q h => @of_decide_eq_true _ (okCtD q) (List.all_eq_true.mp ct_all q h)
set_option maxRecDepth 100000 in
theorem in_ok : ∀ q ∈ vwCl, ∀ w ∈ u_ws q.1 q.2.1 q.2.2, w ∈ lw_tbl := by decide +kernel
set_option maxRecDepth 100000 in
theorem nm_ok : ∀ q ∈ vwCl, ∀ a, a < q.2.2 → ∀ b, b < q.2.2 → a ≠ b → (q.2.1 a).2.1 ≠ (q.2.1 b).2.1 := by decide +kernel
set_option maxRecDepth 100000 in
theorem pd_ok : ∀ q ∈ vwCl, ∀ k, k < q.2.2 → (parseFieldDescriptor (q.2.1 k).2.2.1).isSome = true := by decide +kernel
theorem ac_ok : Cond.arrayClass .int ∈ lw_tbl ∧ Cond.arrayClass .boolean ∈ lw_tbl ∧ Cond.arrayClass .char ∈ lw_tbl := by decide +kernel
set_option maxRecDepth 100000 in
theorem good_tbl : lw_tbl.all goodWord = true := by decide +kernel
theorem good_lw : GoodIn lw_tbl lw_tbl := goodIn_of lw_tbl (by sorry)
