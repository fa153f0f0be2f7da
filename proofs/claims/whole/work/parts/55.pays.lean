-- the reference's turn of a house
def shk (w : Nat → Int32) (k : Nat) : Nat → Int32 := fun x => if 4 + k < x ∧ x < 64 then w (x - 3) else w x
def cryW (w : Nat → Int32) (h l : Int32) : Nat → Int32 := upd (upd (upd (upd (shk w 2) 4 (w 0)) 5 h) 6 l) 3 (w 3 + (if w 3 < 20 then 1 else 0))
theorem shk_step (w : Nat → Int32) (k : Nat) (hk : k + 1 ≤ 59) : upd (shk w (k + 1)) (4 + (k + 1)) (w (4 + (k + 1) - 3)) = shk w k := by
  funext x
  unfold upd shk
  by_cases h : x = 4 + (k + 1)
  · subst h
    rw [if_pos rfl, if_pos (by omega)]
  · rw [if_neg h]
    by_cases h2 : 4 + (k + 1) < x ∧ x < 64
    · rw [if_pos h2, if_pos (by omega)]
    · rw [if_neg h2, if_neg (by omega)]
section S55
variable {σ : Mem} {fs : List Fm} {M : List va_E} {Q : List va_E → Option Value → Prop}
theorem lp_cries {k0 : Nat} {h l : Int32} (ht : aT k0 = 0) (hc : 0 < cnt k0) (hn : aN k0 = 99) : ∀ k, k + 2 ≤ 59 → (Rn mX8_cries 3 [.ref (ad k0 0), .int h, .int l, .int (nI (k + 2))] [] fs (enc (updK σ k0 0 (shk (σ k0 0) (k + 2)))) Q ↔ Rn mX8_cries 26 [.ref (ad k0 0), .int h, .int l, .int (nI 2)] [] fs (enc (updK σ k0 0 (shk (σ k0 0) 2))) Q) := by
  intro k
  induction k with
  | zero =>
    intro _
    have e : nI 2 = 2 := rfl
    have l3 : (2 : Int32) < 3 := by decide
    simp only [aX8_cries_3, aX8_cries_4, aX8_cries_5, Nat.zero_le, Nat.reduceLeDiff, Nat.reduceAdd, i1_0, rr_c3, zc9, oc9, zc10, oc10, zc11, oc11, zc12, oc12, zc13, oc13, zc15, oc15, Int32.lt_irrefl, Nat.zero_lt_one, Rt_cons, Rt_void, isB_0, isB_1, isB_b, true_and, and_true, cats_nil, cats_int, cats_ref, and_self, if_true, if_false, ite_self, le_nlt, ite_not, e, l3]
  | succ k ih =>
    intro hk
    have l3 : ¬ nI (k + 1 + 2) < 3 := nI_nlt (b := 3) (by omega) (by omega)
    have e1 : (4 : Int32) + nI (k + 1 + 2) = nI (4 + (k + 1 + 2)) := nI_add 4 _
    have e2 : nI (4 + (k + 1 + 2)) - 3 = nI (4 + (k + 1 + 2) - 3) := pk_sub (b := 3) (by omega)
    have e3 : nI (k + 1 + 2) + (-1) = nI (k + 2) := pk_m1 (k + 2)
    have e4 : shk (σ k0 0) (k + 1 + 2) (4 + (k + 1 + 2) - 3) = σ k0 0 (4 + (k + 1 + 2) - 3) := by unfold shk; rw [if_neg (by omega)]
    have e5 := shk_step (σ k0 0) (k + 2) (by omega)
    rw [aX8_cries_3]
    simp only [aX8_cries_4, aX8_cries_5, aX8_cries_8, aX8_cries_9, aX8_cries_10, aX8_cries_11, aX8_cries_12, aX8_cries_13, aX8_cries_14, aX8_cries_15, aX8_cries_16, aX8_cries_17, aX8_cries_18, aX8_cries_19, aX8_cries_20, aX8_cries_23, Nat.zero_le, Nat.reduceLeDiff, Nat.reduceAdd, i1_0, rr_c3, zc9, oc9, zc10, oc10, zc11, oc11, zc12, oc12, zc13, oc13, zc15, oc15, Int32.lt_irrefl, Nat.zero_lt_one, Rt_cons, Rt_void, isB_0, isB_1, isB_b, true_and, and_true, cats_nil, cats_int, cats_ref, and_self, if_true, if_false, ite_self, le_nlt, ite_not, ht, hc, hn, l3, e1, e2, e3, in99 (show 4 + (k + 1 + 2) < 99 by omega), in99 (show 4 + (k + 1 + 2) - 3 < 99 by omega), cl10 (show 4 + (k + 1 + 2) < 10000 by omega), cl10 (show 4 + (k + 1 + 2) - 3 < 10000 by omega), updK_eq, upS_updK, e4]
    rw [show k + 1 + 2 = k + 2 + 1 by omega, e5]
    exact ih (by omega)
theorem sp_cries {k0 : Nat} {h l : Int32} (ht : aT k0 = 0) (hc : 0 < cnt k0) (hn : aN k0 = 99) : Rn mX8_cries 0 [.ref (ad k0 0), .int h, .int l, .null] [] fs (enc σ) Q ↔ Rt fs (enc (updK σ k0 0 (cryW (σ k0 0) h l))) none Q := by
  have := lp_cries (σ := σ) (fs := fs) (Q := Q) (h := h) (l := l) ht hc hn 57 (by omega)
  have e0 : shk (σ k0 0) (57 + 2) = σ k0 0 := by
    funext x
    unfold shk
    rw [if_neg (by omega)]
  rw [e0, updK_self rfl] at this
  have e59 : nI (57 + 2) = 59 := rfl
  rw [e59] at this
  simp only [aX8_cries_0, aX8_cries_2, Nat.zero_le, Nat.reduceLeDiff, Nat.reduceAdd, i1_0, rr_c3, zc9, oc9, zc10, oc10, zc11, oc11, zc12, oc12, zc13, oc13, zc15, oc15, Int32.lt_irrefl, Nat.zero_lt_one, Rt_cons, Rt_void, isB_0, isB_1, isB_b, true_and, and_true, cats_nil, cats_int, cats_ref, and_self, if_true, if_false, ite_self, le_nlt, ite_not]
  rw [this]
  have v4 : vp_in 4 99 := in99 (a := 4) (by omega)
  have v5 : vp_in 5 99 := in99 (a := 5) (by omega)
  have v6 : vp_in 6 99 := in99 (a := 6) (by omega)
  have c4 : (4 : Int32).toNatClampNeg = 4 := by decide
  have c5 : (5 : Int32).toNatClampNeg = 5 := by decide
  have c6 : (6 : Int32).toNatClampNeg = 6 := by decide
  have s0 : shk (σ k0 0) 2 0 = σ k0 0 0 := by unfold shk; rw [if_neg (by omega)]
  have s3 : shk (σ k0 0) 2 3 = σ k0 0 3 := by unfold shk; rw [if_neg (by omega)]
  have s3' : ∀ a b c, upd (upd (upd (shk (σ k0 0) 2) 4 a) 5 b) 6 c 3 = σ k0 0 3 := fun a b c => by rw [upd_ne (by decide), upd_ne (by decide), upd_ne (by decide), s3]
  simp only [aX8_cries_26, aX8_cries_27, aX8_cries_28, aX8_cries_29, aX8_cries_30, aX8_cries_31, aX8_cries_32, aX8_cries_33, aX8_cries_34, aX8_cries_35, aX8_cries_36, aX8_cries_37, aX8_cries_39, aX8_cries_40, aX8_cries_41, aX8_cries_42, aX8_cries_43, aX8_cries_44, aX8_cries_45, aX8_cries_46, aX8_cries_47, aX8_cries_48, Nat.zero_le, Nat.reduceLeDiff, Nat.reduceAdd, i1_0, rr_c3, zc9, oc9, zc10, oc10, zc11, oc11, zc12, oc12, zc13, oc13, zc15, oc15, Int32.lt_irrefl, Nat.zero_lt_one, Rt_cons, Rt_void, isB_0, isB_1, isB_b, true_and, and_true, cats_nil, cats_int, cats_ref, and_self, if_true, if_false, ite_self, le_nlt, ite_not, ht, hc, hn, v4, v5, v6, c4, c5, c6, v99.1, v99.2.2.2, c0, c3, upS_updK, updK_eq, s0, s3']
  rw [aX8_cries_50]
  unfold cryW
  by_cases q : σ k0 0 3 < 20
  · simp only [aX8_cries_53, aX8_cries_54, aX8_cries_57, aX8_cries_58, aX8_cries_59, aX8_cries_60, Nat.zero_le, Nat.reduceLeDiff, Nat.reduceAdd, i1_0, rr_c3, zc9, oc9, zc10, oc10, zc11, oc11, zc12, oc12, zc13, oc13, zc15, oc15, Int32.lt_irrefl, Nat.zero_lt_one, Rt_cons, Rt_void, isB_0, isB_1, isB_b, true_and, and_true, cats_nil, cats_int, cats_ref, and_self, if_true, if_false, ite_self, le_nlt, ite_not, ht, hc, hn, v99.2.2.2, c3, upS_updK, q]
  · simp only [aX8_cries_53, aX8_cries_54, aX8_cries_57, aX8_cries_58, aX8_cries_59, aX8_cries_60, Nat.zero_le, Nat.reduceLeDiff, Nat.reduceAdd, i1_0, rr_c3, zc9, oc9, zc10, oc10, zc11, oc11, zc12, oc12, zc13, oc13, zc15, oc15, Int32.lt_irrefl, Nat.zero_lt_one, Rt_cons, Rt_void, isB_0, isB_1, isB_b, true_and, and_true, cats_nil, cats_int, cats_ref, and_self, if_true, if_false, ite_self, le_nlt, ite_not, ht, hc, hn, v99.2.2.2, c3, upS_updK, q]
/-- pays(w, h): what is owed, the kind, the patience -/
def pyA (ow kd : Int32) (w : Nat → Int32) (j : Nat) : Nat → Int32 := upd (upd w 1 (w 1 - (if ow < w 1 then ow else w 1))) (64 + 5 * j) (if 9999 < w (64 + 5 * j) + (if kd = 1 then 2 * (ow - (if ow < w 1 then ow else w 1)) else ow - (if ow < w 1 then ow else w 1)) then 9999 else w (64 + 5 * j) + (if kd = 1 then 2 * (ow - (if ow < w 1 then ow else w 1)) else ow - (if ow < w 1 then ow else w 1)))
def lck (ow : Int32) (w : Nat → Int32) : Int32 := ow - (if ow < w 1 then ow else w 1)
def pyB (lk : Int32) (w : Nat → Int32) (j : Nat) : Nat → Int32 := if 0 < lk then cryW w (nI j) lk else if 0 < w (64 + 5 * j) ∧ 0 < w 1 then upd (upd w 1 (w 1 - 1)) (64 + 5 * j) (w (64 + 5 * j) - 1) else w
def pyC (w : Nat → Int32) (j : Nat) : Nat → Int32 := upd w (64 + 5 * j + 3) (if w (64 + 5 * j) = 0 then w (64 + 5 * j + 3) + 1 else 0)
def pyD (kd pt : Int32) (w : Nat → Int32) (j : Nat) : Nat → Int32 := if w (64 + 5 * j + 3) = 7 then upd (upd w (64 + 5 * j + 1) 1) (64 + 5 * j + 2) (-1) else if pt < w (64 + 5 * j) ∧ ¬ kd = 2 then putW w j else w
def pysF (ow kd pt : Int32) (w : Nat → Int32) (j : Nat) : Nat → Int32 := pyD kd pt (pyC (pyB (lck ow w) (pyA ow kd w j) j) j) j
theorem sp_pays {k0 j g : Nat} (h29 : ¬ k0 = 29) (hk1 : ¬ k0 = 33) (hk2 : ¬ k0 = 35) (hk3 : ¬ k0 = 36) (ht : aT k0 = 0) (hc : 0 < cnt k0) (hn : aN k0 = 99) (hj : j < 7) (hg : g < 7) (eg : σ k0 0 (64 + 5 * j + 2) = nI g) :
    Rn mX8_pays 0 [.ref (ad 29 0), .ref (ad k0 0), .int (nI j), .null, .null, .null, .null] [] fs (enc σ) Q ↔ Rt fs (enc (updK σ k0 0 (pysF (σ 33 0 j) (σ 35 0 g) (σ 36 0 g) (σ k0 0) j))) none Q := by
  have u33 : ∀ f, updK σ k0 0 f 33 0 = σ 33 0 := fun f => updK_ne (fun z => hk1 z.1.symm)
  have u35 : ∀ f, updK σ k0 0 f 35 0 = σ 35 0 := fun f => updK_ne (fun z => hk2 z.1.symm)
  have u36 : ∀ f, updK σ k0 0 f 36 0 = σ 36 0 := fun f => updK_ne (fun z => hk3 z.1.symm)
  have cj := cl10 (show j < 10000 by omega)
  have cg := cl10 (show g < 10000 by omega)
  have i0 := in99 (show 64 + 5 * j < 99 by omega)
  have i1 := in99 (show 64 + 5 * j + 1 < 99 by omega)
  have i2 := in99 (show 64 + 5 * j + 2 < 99 by omega)
  have i3 := in99 (show 64 + 5 * j + 3 < 99 by omega)
  have k0' := cl10 (show 64 + 5 * j < 10000 by omega)
  have k1' := cl10 (show 64 + 5 * j + 1 < 10000 by omega)
  have k2' := cl10 (show 64 + 5 * j + 2 < 10000 by omega)
  have k3' := cl10 (show 64 + 5 * j + 3 < 10000 by omega)
  have A : Rn mX8_pays 0 [.ref (ad 29 0), .ref (ad k0 0), .int (nI j), .null, .null, .null, .null] [] fs (enc σ) Q ↔ Rn mX8_pays 80 [.ref (ad 29 0), .ref (ad k0 0), .int (nI j), .int (nI (64 + 5 * j)), .int (nI g), .int (if σ 33 0 j < σ k0 0 1 then σ 33 0 j else σ k0 0 1), .int (lck (σ 33 0 j) (σ k0 0))] [] fs (enc (updK σ k0 0 (pyA (σ 33 0 j) (σ 35 0 g) (σ k0 0) j))) Q := by
    have e1 : ∀ x, upd (σ k0 0) 1 x (64 + 5 * j) = σ k0 0 (64 + 5 * j) := fun x => upd_ne (by omega)
    simp only [aX8_pays_0, aX8_pays_2, aX8_pays_3, aX8_pays_4, aX8_pays_5, aX8_pays_6, aX8_pays_7, aX8_pays_8, aX8_pays_9, aX8_pays_10, aX8_pays_11, aX8_pays_12, aX8_pays_14, aX8_pays_15, aX8_pays_18, aX8_pays_19, aX8_pays_20, aX8_pays_21, aX8_pays_22, aX8_pays_23, aX8_pays_26, aX8_pays_28, aX8_pays_29, aX8_pays_32, aX8_pays_33, aX8_pays_34, aX8_pays_36, aX8_pays_37, aX8_pays_39, aX8_pays_40, aX8_pays_41, aX8_pays_42, aX8_pays_43, aX8_pays_45, aX8_pays_46, aX8_pays_47, aX8_pays_48, aX8_pays_49, aX8_pays_52, aX8_pays_53, aX8_pays_54, aX8_pays_55, aX8_pays_56, aX8_pays_59, aX8_pays_61, aX8_pays_62, sp_lesser, Nat.zero_le, Nat.reduceLeDiff, Nat.reduceAdd, i1_0, rr_c3, zc9, oc9, zc10, oc10, zc11, oc11, zc12, oc12, zc13, oc13, zc15, oc15, Int32.lt_irrefl, Nat.zero_lt_one, Rt_cons, Rt_void, isB_0, isB_1, isB_b, true_and, and_true, cats_nil, cats_int, cats_ref, and_self, if_true, if_false, ite_self, le_nlt, ite_not, ht, hc, hn, aT_33, aN_33, cnt_33, aT_35, aN_35, cnt_35, n5, n64, nI_2, i0, i2, k0', k2', eg, in7 hj, in7 hg, cj, cg, v99.2.1, c1, upS_chain, updK_eq, updK_idem, u33, u35, e1]
    rw [aX8_pays_63]
    unfold pyA lck
    by_cases q : σ 35 0 g = 1
    · simp only [aX8_pays_66, aX8_pays_67, aX8_pays_69, aX8_pays_70, aX8_pays_73, aX8_pays_75, aX8_pays_76, aX8_pays_79, sp_lesser, Nat.zero_le, Nat.reduceLeDiff, Nat.reduceAdd, i1_0, rr_c3, zc9, oc9, zc10, oc10, zc11, oc11, zc12, oc12, zc13, oc13, zc15, oc15, Int32.lt_irrefl, Nat.zero_lt_one, Rt_cons, Rt_void, isB_0, isB_1, isB_b, true_and, and_true, cats_nil, cats_int, cats_ref, and_self, if_true, if_false, ite_self, le_nlt, ite_not, ht, hc, hn, i0, k0', upS_chain, updK_eq, updK_idem, q, not_true_eq_false]
    · simp only [aX8_pays_66, aX8_pays_67, aX8_pays_69, aX8_pays_70, aX8_pays_73, aX8_pays_75, aX8_pays_76, aX8_pays_79, sp_lesser, Nat.zero_le, Nat.reduceLeDiff, Nat.reduceAdd, i1_0, rr_c3, zc9, oc9, zc10, oc10, zc11, oc11, zc12, oc12, zc13, oc13, zc15, oc15, Int32.lt_irrefl, Nat.zero_lt_one, Rt_cons, Rt_void, isB_0, isB_1, isB_b, true_and, and_true, cats_nil, cats_int, cats_ref, and_self, if_true, if_false, ite_self, le_nlt, ite_not, ht, hc, hn, i0, k0', upS_chain, updK_eq, updK_idem, q, not_false_eq_true]
  rw [A]
  generalize (if σ 33 0 j < σ k0 0 1 then σ 33 0 j else σ k0 0 1) = pd
  unfold pysF
  generalize lck (σ 33 0 j) (σ k0 0) = lk
  generalize pyA (σ 33 0 j) (σ 35 0 g) (σ k0 0) j = w
  have B : Rn mX8_pays 80 [.ref (ad 29 0), .ref (ad k0 0), .int (nI j), .int (nI (64 + 5 * j)), .int (nI g), .int pd, .int lk] [] fs (enc (updK σ k0 0 w)) Q ↔ Rn mX8_pays 121 [.ref (ad 29 0), .ref (ad k0 0), .int (nI j), .int (nI (64 + 5 * j)), .int (nI g), .int pd, .int lk] [] fs (enc (updK σ k0 0 (pyB lk w j))) Q := by
    unfold pyB
    by_cases q : 0 < lk
    · simp only [aX8_pays_80, aX8_pays_82, aX8_pays_85, aX8_pays_86, aX8_pays_87, aX8_pays_89, aX8_pays_92, sp_cries ht hc hn, Nat.zero_le, Nat.reduceLeDiff, Nat.reduceAdd, i1_0, rr_c3, zc9, oc9, zc10, oc10, zc11, oc11, zc12, oc12, zc13, oc13, zc15, oc15, Int32.lt_irrefl, Nat.zero_lt_one, Rt_cons, Rt_void, isB_0, isB_1, isB_b, true_and, and_true, cats_nil, cats_int, cats_ref, and_self, if_true, if_false, ite_self, le_nlt, ite_not, q, updK_eq, updK_idem]
    · have e1 : ∀ x, upd w 1 x (64 + 5 * j) = w (64 + 5 * j) := fun x => upd_ne (by omega)
      by_cases q1 : 0 < w (64 + 5 * j)
      · by_cases q2 : 0 < w 1
        · simp only [aX8_pays_80, aX8_pays_82, aX8_pays_95, aX8_pays_96, aX8_pays_97, aX8_pays_98, aX8_pays_101, aX8_pays_102, aX8_pays_103, aX8_pays_104, aX8_pays_107, aX8_pays_108, aX8_pays_109, aX8_pays_110, aX8_pays_111, aX8_pays_112, aX8_pays_113, aX8_pays_114, aX8_pays_115, aX8_pays_116, aX8_pays_117, aX8_pays_118, aX8_pays_119, aX8_pays_120, Nat.zero_le, Nat.reduceLeDiff, Nat.reduceAdd, i1_0, rr_c3, zc9, oc9, zc10, oc10, zc11, oc11, zc12, oc12, zc13, oc13, zc15, oc15, Int32.lt_irrefl, Nat.zero_lt_one, Rt_cons, Rt_void, isB_0, isB_1, isB_b, true_and, and_true, cats_nil, cats_int, cats_ref, and_self, if_true, if_false, ite_self, le_nlt, ite_not, ht, hc, hn, i0, k0', v99.2.1, c1, q, q1, q2, upS_chain, updK_eq, updK_idem, e1]
        · simp only [aX8_pays_80, aX8_pays_82, aX8_pays_95, aX8_pays_96, aX8_pays_97, aX8_pays_98, aX8_pays_101, aX8_pays_102, aX8_pays_103, aX8_pays_104, aX8_pays_107, aX8_pays_108, aX8_pays_109, aX8_pays_110, aX8_pays_111, aX8_pays_112, aX8_pays_113, aX8_pays_114, aX8_pays_115, aX8_pays_116, aX8_pays_117, aX8_pays_118, aX8_pays_119, aX8_pays_120, Nat.zero_le, Nat.reduceLeDiff, Nat.reduceAdd, i1_0, rr_c3, zc9, oc9, zc10, oc10, zc11, oc11, zc12, oc12, zc13, oc13, zc15, oc15, Int32.lt_irrefl, Nat.zero_lt_one, Rt_cons, Rt_void, isB_0, isB_1, isB_b, true_and, and_true, cats_nil, cats_int, cats_ref, and_self, if_true, if_false, ite_self, le_nlt, ite_not, ht, hc, hn, i0, k0', v99.2.1, c1, q, q1, q2, upS_chain, updK_eq, updK_idem, and_false]
      · simp only [aX8_pays_80, aX8_pays_82, aX8_pays_95, aX8_pays_96, aX8_pays_97, aX8_pays_98, aX8_pays_101, aX8_pays_102, aX8_pays_103, aX8_pays_104, aX8_pays_107, aX8_pays_108, aX8_pays_109, aX8_pays_110, aX8_pays_111, aX8_pays_112, aX8_pays_113, aX8_pays_114, aX8_pays_115, aX8_pays_116, aX8_pays_117, aX8_pays_118, aX8_pays_119, aX8_pays_120, Nat.zero_le, Nat.reduceLeDiff, Nat.reduceAdd, i1_0, rr_c3, zc9, oc9, zc10, oc10, zc11, oc11, zc12, oc12, zc13, oc13, zc15, oc15, Int32.lt_irrefl, Nat.zero_lt_one, Rt_cons, Rt_void, isB_0, isB_1, isB_b, true_and, and_true, cats_nil, cats_int, cats_ref, and_self, if_true, if_false, ite_self, le_nlt, ite_not, ht, hc, hn, i0, k0', v99.2.1, c1, q, q1, upS_chain, updK_eq, updK_idem, false_and]
  rw [B]
  generalize pyB lk w j = w2
  have C : Rn mX8_pays 121 [.ref (ad 29 0), .ref (ad k0 0), .int (nI j), .int (nI (64 + 5 * j)), .int (nI g), .int pd, .int lk] [] fs (enc (updK σ k0 0 w2)) Q ↔ Rn mX8_pays 143 [.ref (ad 29 0), .ref (ad k0 0), .int (nI j), .int (nI (64 + 5 * j)), .int (nI g), .int pd, .int lk] [] fs (enc (updK σ k0 0 (pyC w2 j))) Q := by
    unfold pyC
    by_cases q : w2 (64 + 5 * j) = 0
    · simp only [aX8_pays_121, aX8_pays_122, aX8_pays_123, aX8_pays_124, aX8_pays_125, aX8_pays_126, aX8_pays_127, aX8_pays_128, aX8_pays_131, aX8_pays_132, aX8_pays_133, aX8_pays_134, aX8_pays_135, aX8_pays_136, aX8_pays_137, aX8_pays_138, aX8_pays_141, aX8_pays_142, Nat.zero_le, Nat.reduceLeDiff, Nat.reduceAdd, i1_0, rr_c3, zc9, oc9, zc10, oc10, zc11, oc11, zc12, oc12, zc13, oc13, zc15, oc15, Int32.lt_irrefl, Nat.zero_lt_one, Rt_cons, Rt_void, isB_0, isB_1, isB_b, true_and, and_true, cats_nil, cats_int, cats_ref, and_self, if_true, if_false, ite_self, le_nlt, ite_not, ht, hc, hn, nI_3, i0, i3, k0', k3', q, upS_chain, updK_eq, updK_idem, not_true_eq_false]
    · simp only [aX8_pays_121, aX8_pays_122, aX8_pays_123, aX8_pays_124, aX8_pays_125, aX8_pays_126, aX8_pays_127, aX8_pays_128, aX8_pays_131, aX8_pays_132, aX8_pays_133, aX8_pays_134, aX8_pays_135, aX8_pays_136, aX8_pays_137, aX8_pays_138, aX8_pays_141, aX8_pays_142, Nat.zero_le, Nat.reduceLeDiff, Nat.reduceAdd, i1_0, rr_c3, zc9, oc9, zc10, oc10, zc11, oc11, zc12, oc12, zc13, oc13, zc15, oc15, Int32.lt_irrefl, Nat.zero_lt_one, Rt_cons, Rt_void, isB_0, isB_1, isB_b, true_and, and_true, cats_nil, cats_int, cats_ref, and_self, if_true, if_false, ite_self, le_nlt, ite_not, ht, hc, hn, nI_3, i0, i3, k0', k3', q, upS_chain, updK_eq, updK_idem, not_false_eq_true]
  rw [C]
  generalize pyC w2 j = w3
  unfold pyD
  by_cases q : w3 (64 + 5 * j + 3) = 7
  · simp only [aX8_pays_143, aX8_pays_144, aX8_pays_145, aX8_pays_146, aX8_pays_147, aX8_pays_148, aX8_pays_150, aX8_pays_153, aX8_pays_154, aX8_pays_155, aX8_pays_156, aX8_pays_157, aX8_pays_158, aX8_pays_159, aX8_pays_160, aX8_pays_161, aX8_pays_162, aX8_pays_163, aX8_pays_164, aX8_pays_165, aX8_pays_197, Nat.zero_le, Nat.reduceLeDiff, Nat.reduceAdd, i1_0, rr_c3, zc9, oc9, zc10, oc10, zc11, oc11, zc12, oc12, zc13, oc13, zc15, oc15, Int32.lt_irrefl, Nat.zero_lt_one, Rt_cons, Rt_void, isB_0, isB_1, isB_b, true_and, and_true, cats_nil, cats_int, cats_ref, and_self, if_true, if_false, ite_self, le_nlt, ite_not, ht, hc, hn, nI_1, nI_2, nI_3, i1, i2, i3, k1', k2', k3', q, upS_chain, updK_eq, updK_idem, not_true_eq_false]
  · by_cases q1 : σ 36 0 g < w3 (64 + 5 * j)
    · by_cases q2 : σ 35 0 g = 2
      · simp only [aX8_pays_143, aX8_pays_144, aX8_pays_145, aX8_pays_146, aX8_pays_147, aX8_pays_148, aX8_pays_150, aX8_pays_168, aX8_pays_169, aX8_pays_170, aX8_pays_171, aX8_pays_172, aX8_pays_175, aX8_pays_177, aX8_pays_178, aX8_pays_181, aX8_pays_182, aX8_pays_185, aX8_pays_187, aX8_pays_188, aX8_pays_189, aX8_pays_192, aX8_pays_193, aX8_pays_194, aX8_pays_197, Nat.zero_le, Nat.reduceLeDiff, Nat.reduceAdd, i1_0, rr_c3, zc9, oc9, zc10, oc10, zc11, oc11, zc12, oc12, zc13, oc13, zc15, oc15, Int32.lt_irrefl, Nat.zero_lt_one, Rt_cons, Rt_void, isB_0, isB_1, isB_b, true_and, and_true, cats_nil, cats_int, cats_ref, and_self, if_true, if_false, ite_self, le_nlt, ite_not, ht, hc, hn, aT_35, aN_35, cnt_35, aT_36, aN_36, cnt_36, nI_3, i0, i3, k0', k3', in7 hg, cg, u35, u36, q, q1, q2, updK_eq, not_false_eq_true, not_true_eq_false, and_false]
      · simp only [aX8_pays_143, aX8_pays_144, aX8_pays_145, aX8_pays_146, aX8_pays_147, aX8_pays_148, aX8_pays_150, aX8_pays_168, aX8_pays_169, aX8_pays_170, aX8_pays_171, aX8_pays_172, aX8_pays_175, aX8_pays_177, aX8_pays_178, aX8_pays_181, aX8_pays_182, aX8_pays_185, aX8_pays_187, aX8_pays_188, aX8_pays_189, aX8_pays_192, aX8_pays_193, aX8_pays_194, aX8_pays_197, sp_putsOut ht hc hn hj, Nat.zero_le, Nat.reduceLeDiff, Nat.reduceAdd, i1_0, rr_c3, zc9, oc9, zc10, oc10, zc11, oc11, zc12, oc12, zc13, oc13, zc15, oc15, Int32.lt_irrefl, Nat.zero_lt_one, Rt_cons, Rt_void, isB_0, isB_1, isB_b, true_and, and_true, cats_nil, cats_int, cats_ref, and_self, if_true, if_false, ite_self, le_nlt, ite_not, ht, hc, hn, aT_35, aN_35, cnt_35, aT_36, aN_36, cnt_36, nI_3, i0, i3, k0', k3', in7 hg, cg, u35, u36, q, q1, q2, updK_eq, updK_idem, not_false_eq_true]
    · simp only [aX8_pays_143, aX8_pays_144, aX8_pays_145, aX8_pays_146, aX8_pays_147, aX8_pays_148, aX8_pays_150, aX8_pays_168, aX8_pays_169, aX8_pays_170, aX8_pays_171, aX8_pays_172, aX8_pays_175, aX8_pays_177, aX8_pays_178, aX8_pays_181, aX8_pays_182, aX8_pays_185, aX8_pays_187, aX8_pays_188, aX8_pays_189, aX8_pays_192, aX8_pays_193, aX8_pays_194, aX8_pays_197, Nat.zero_le, Nat.reduceLeDiff, Nat.reduceAdd, i1_0, rr_c3, zc9, oc9, zc10, oc10, zc11, oc11, zc12, oc12, zc13, oc13, zc15, oc15, Int32.lt_irrefl, Nat.zero_lt_one, Rt_cons, Rt_void, isB_0, isB_1, isB_b, true_and, and_true, cats_nil, cats_int, cats_ref, and_self, if_true, if_false, ite_self, le_nlt, ite_not, ht, hc, hn, aT_36, aN_36, cnt_36, nI_3, i0, i3, k0', k3', in7 hg, cg, u36, q, q1, updK_eq, not_false_eq_true, false_and]
end S55
