-- what the tables say is among the words: each group is a row of words in the order of the Statement's tables
theorem lk_mem {α β : Type} [BEq α] [LawfulBEq α] {l : List (α × β)} {k : α} {v : β} (h : l.lookup k = some v) : (k, v) ∈ l := by
  induction l with
  | nil => simp at h
  | cons q l ih =>
    obtain ⟨a, b⟩ := q
    rw [List.lookup_cons] at h
    by_cases e : k == a
    · simp [e] at h
      have := eq_of_beq e
      subst this; subst h
      exact List.mem_cons_self
    · simp [e] at h
      exact List.mem_cons_of_mem _ (ih h)
def subW : List Cond → List Cond → Bool
  | [], _ => true
  | _ :: _, [] => false
  | a :: as, b :: bs => if a = b then subW as bs else subW (a :: as) bs
theorem subW_mem : ∀ (as bs : List Cond), subW as bs = true → ∀ a ∈ as, a ∈ bs
  | [], _, _, a, h => by simp at h
  | _ :: _, [], h, _, _ => by simp [subW] at h
  | x :: as, b :: bs, h, a, ha => by
    unfold subW at h
    split at h
    · rename_i e
      rcases List.mem_cons.mp ha with r | r
      · rw [r, e]; exact List.mem_cons_self
      · exact List.mem_cons_of_mem _ (subW_mem as bs h a r)
    · exact List.mem_cons_of_mem _ (subW_mem (x :: as) bs h a ha)
/-- the words that a contract may name -/
def lwg : List Cond := lw_tbl.filter goodWord
theorem good_lwg {big : List Cond} (h : ∀ w ∈ lwg, w ∈ big) : GoodIn big lwg := fun w hw => ⟨h w hw, good_of_word (List.mem_filter.mp hw).2⟩
theorem lwg_of {ws : List Cond} (h : subW ws tables_1 = true) (g : ws.all goodWord = true) : ∀ w ∈ ws, w ∈ lwg := fun w hw => List.mem_filter.mpr ⟨List.mem_append_right _ (subW_mem _ _ h w hw), List.all_eq_true.mp g w hw⟩
def fWord (q : (Nat × Nat) × Nat × Nat) : Cond := .fieldLink (cn q.1.1) q.1.2 (clT q.2.1 q.2.2).1 (clT q.2.1 q.2.2).2.1 (clT q.2.1 q.2.2).2.2.1
set_option maxRecDepth 100000 in
theorem c_fld : subW (ftab.map fWord) tables_1 = true := by decide +kernel
set_option maxRecDepth 100000 in
theorem c_fld_g : (ftab.map fWord).all goodWord = true := by decide +kernel
def cWord (q : (Nat × Nat) × Nat × Nat) : Cond := if q.2.1 = 3 ∨ q.2.1 = 4 then .methodLinkNest (cn q.1.1) q.1.2 (my q.2.2) RX7 else .methodLink (cn q.1.1) q.1.2 (if q.2.1 < 3 then my q.2.2 else if q.2.1 = 5 then Lib.objectInit else if q.2.1 = 6 then arraycopyName else if q.2.1 = 7 then Lib.Math.min.name else Lib.Math.max.name)
def ctab1 : List ((Nat × Nat) × Nat × Nat) := ctab.filter fun q => q.2.1 != 3 && q.2.1 != 4
def ctab2 : List ((Nat × Nat) × Nat × Nat) := ctab.filter fun q => !(q.2.1 != 3 && q.2.1 != 4)
set_option maxRecDepth 100000 in
theorem c_ct1 : subW (ctab1.map cWord) tables_1 = true := by decide +kernel
set_option maxRecDepth 100000 in
theorem c_ct1_g : (ctab1.map cWord).all goodWord = true := by decide +kernel
set_option maxRecDepth 100000 in
theorem c_ct2 : subW (ctab2.map cWord) tables_1 = true := by decide +kernel
set_option maxRecDepth 100000 in
theorem c_im : subW (imL.map fun k => Cond.instanceMethod (my k)) tables_1 = true := by decide +kernel
set_option maxRecDepth 100000 in
theorem c_im_g : (imL.map fun k => Cond.instanceMethod (my k)).all goodWord = true := by decide +kernel
set_option maxRecDepth 100000 in
theorem c_sm : subW (smL.map fun k => Cond.static (my k)) tables_1 = true := by decide +kernel
set_option maxRecDepth 100000 in
theorem c_sm_g : (smL.map fun k => Cond.static (my k)).all goodWord = true := by decide +kernel
set_option maxRecDepth 100000 in
theorem c_se : subW (seL.map fun k => Cond.selects (my k).cls (my k) (my k)) tables_1 = true := by decide +kernel
set_option maxRecDepth 100000 in
theorem c_se_g : (seL.map fun k => Cond.selects (my k).cls (my k) (my k)).all goodWord = true := by decide +kernel
set_option maxRecDepth 100000 in
theorem c_pr : subW (prL.map fun k => Cond.selects (my k).cls (my k) (my k)) (k2_sels lw_privs) = true := by decide +kernel
set_option maxRecDepth 100000 in
theorem c_pr_g : (prL.map fun k => Cond.selects (my k).cls (my k) (my k)).all goodWord = true := by decide +kernel
set_option maxRecDepth 100000 in
theorem c_kt : subW (ktab.map fun q => Cond.constant (cn q.1.1) q.1.2 q.2) tables_1 = true := by decide +kernel
set_option maxRecDepth 100000 in
theorem c_kt_g : (ktab.map fun q => Cond.constant (cn q.1.1) q.1.2 q.2).all goodWord = true := by decide +kernel
set_option maxRecDepth 100000 in
theorem c_ktL : subW (ktabL.map fun q => Cond.constantLong (cn q.1.1) q.1.2 q.2) tables_1 = true := by decide +kernel
set_option maxRecDepth 100000 in
theorem c_ktL_g : (ktabL.map fun q => Cond.constantLong (cn q.1.1) q.1.2 q.2).all goodWord = true := by decide +kernel
theorem w_1 {w : Cond} (h : decide (w ∈ tables_1) = true) (g : goodWord w = true) : w ∈ lwg := List.mem_filter.mpr ⟨List.mem_append_right _ (of_decide_eq_true h), g⟩
def restW : List Cond := [.initialized RX7, .initialized RX4, .initialized RX6, .initialized RX5, .initialized RX3, .initialized RX2, .initialized RX1, .initialized RX0, .initialized RX8, .initialized "java/lang/Math", .initialized "java/lang/System", .initialized RJ6]
set_option maxRecDepth 100000 in
theorem c_rest : subW restW tables_1 = true := by decide +kernel
theorem c_rest_g : restW.all goodWord = true := by decide +kernel
set_option maxRecDepth 100000 in
theorem c_one : ∀ w ∈ [Cond.instanceMethod Lib.objectInit, Cond.code Lib.objectInit ⟨#[0xb1]⟩ 1 none, Cond.native arraycopyName, Cond.static arraycopyName, Cond.static Lib.Math.min.name, Cond.code Lib.Math.min.name Lib.Math.min.code 2 (some .int), Cond.static Lib.Math.max.name, Cond.code Lib.Math.max.name Lib.Math.max.code 2 (some .int), Cond.arrayClass .int, Cond.arrayClass .boolean, Cond.arrayClass .char], w ∈ tables_1 ∧ goodWord w = true := by decide +kernel
set_option maxRecDepth 100000 in
theorem c_ao : Cond.arrayOver (.object RX5) ∈ tables_1 ∧ Cond.arrayOver (.object RX2) ∈ tables_1 := by decide +kernel
def okN (q : (Nat × Nat) × Nat) : Prop := q.2 < 9 ∧ (Cond.classLink (cn q.1.1) q.1.2 (clR q.2) ∈ tables_1 ∧ Cond.instantiable (clR q.2) (clN q.2) ∈ tables_1) ∧ goodWord (Cond.classLink (cn q.1.1) q.1.2 (clR q.2)) = true ∧ goodWord (Cond.instantiable (clR q.2) (clN q.2)) = true
set_option maxRecDepth 100000 in
theorem nt_ok : ∀ q ∈ ntab, okN q := by unfold okN; decide +kernel
def okP (q : (Nat × Nat) × Nat) : Prop := (q.2 = 3 ∧ Cond.classLink (cn q.1.1) q.1.2 RX5 ∈ tables_1 ∧ goodWord (Cond.classLink (cn q.1.1) q.1.2 RX5) = true) ∨ (q.2 = 4 ∧ Cond.classLink (cn q.1.1) q.1.2 RX2 ∈ tables_1 ∧ goodWord (Cond.classLink (cn q.1.1) q.1.2 RX2) = true)
set_option maxRecDepth 100000 in
theorem pt_ok : ∀ q ∈ ptab, okP q := by unfold okP; decide +kernel
def okE (q : MT) : Prop := plainName q.1.cls = true ∧ q.1.cls = cn q.2.2.2.2.1 ∧ q.1.cls ≠ "java/lang/invoke/MethodHandle" ∧ q.1.cls ≠ "java/lang/invoke/VarHandle" ∧ (parseMethodDescriptor q.1.desc).map (fun d => d.parameters.length) = some q.2.2.2.2.2.1 ∧ Cond.initialized q.1.cls ∈ restW
set_option maxRecDepth 100000 in
set_option maxHeartbeats 4000000 in
theorem mt_ok : ∀ q ∈ mtab, okE q := by unfold okE plainName; decide +kernel
def okF (q : (Nat × Nat) × Nat × Nat) : Prop := q.2.1 < 9 ∧ q.2.2 < clN q.2.1
set_option maxRecDepth 100000 in
theorem ft_ok : ∀ q ∈ ftab, okF q := by unfold okF; decide +kernel
def okCt (q : (Nat × Nat) × Nat × Nat) : Prop := q.2.1 ≤ 8 ∧ (q.2.1 = 0 → q.2.2 ∈ imL ∧ (q.2.2 ∈ seL ∨ q.2.2 ∈ prL) ∧ mo q.2.2 < 9) ∧ (q.2.1 = 1 ∨ q.2.1 = 3 → q.2.2 ∈ imL ∧ (my q.2.2).name = "<init>" ∧ mr q.2.2 = none) ∧ (q.2.1 = 2 ∨ q.2.1 = 4 → q.2.2 ∈ smL)
set_option maxRecDepth 100000 in
theorem ct_ok : ∀ q ∈ ctab, okCt q := by unfold okCt; decide +kernel
set_option maxRecDepth 100000 in
theorem nm_ok : ∀ q ∈ vwCl, ∀ a, a < q.2.2 → ∀ b, b < q.2.2 → a ≠ b → (q.2.1 a).2.1 ≠ (q.2.1 b).2.1 := by decide +kernel
set_option maxRecDepth 100000 in
theorem pd_ok : ∀ q ∈ vwCl, ∀ k, k < q.2.2 → (parseFieldDescriptor (q.2.1 k).2.2.1).isSome = true := by decide +kernel
def uwAll : List Cond := vwCl.flatMap fun q => u_ws q.1 q.2.1 q.2.2
set_option maxRecDepth 100000 in
theorem in_ok : ∀ q ∈ vwCl, ∀ w ∈ u_ws q.1 q.2.1 q.2.2, w ∈ tables_1 ∧ goodWord w = true := by decide +kernel
