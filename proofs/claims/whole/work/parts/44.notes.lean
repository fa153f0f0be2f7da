-- the reference's copies, notes; the class's remember
theorem updK_idem {σ : Mem} {k i : Nat} {f g : Nat → Int32} : updK (updK σ k i f) k i g = updK σ k i g := by
  funext k' i'
  unfold updK
  split <;> rfl
theorem updK_self {σ : Mem} {k i : Nat} {f : Nat → Int32} (h : f = σ k i) : updK σ k i f = σ := by
  subst h
  funext k' i'
  unfold updK
  split
  · rename_i h; rw [h.1, h.2]
  · rfl
theorem upS_updK {σ : Mem} {k i j : Nat} {f : Nat → Int32} {x : Int32} : upS (updK σ k i f) k i j x = updK σ k i (upd f j x) := by
  unfold upS
  rw [updK_eq, updK_idem]
theorem cpy_succ (f g : Nat → Int32) (sp dp n : Nat) : upd (va_cpy f g sp dp n) (dp + n) (f (sp + n)) = va_cpy f g sp dp (n + 1) := by
  funext x
  unfold upd va_cpy
  by_cases h1 : x = dp + n
  · subst h1
    rw [if_pos rfl, if_pos (by omega)]
    congr 1
    omega
  · rw [if_neg h1]
    by_cases h2 : dp ≤ x ∧ x < dp + n
    · rw [if_pos h2, if_pos (by omega)]
    · rw [if_neg h2, if_neg (by omega)]
theorem cpy_zero (f g : Nat → Int32) (sp dp : Nat) : va_cpy f g sp dp 0 = g := by
  funext x
  unfold va_cpy
  rw [if_neg (by omega)]
section S44
variable {σ : Mem} {fs : List Fm} {Q : List va_E → Option Value → Prop}
theorem lp_copies {k0 k1 a b : Nat} (hk : ¬ k0 = k1) (t0 : aT k0 = 0) (t1 : aT k1 = 0) (c0 : 0 < cnt k0) (c1 : 0 < cnt k1) (ha : a + 99 ≤ aN k0) (hb : b + 99 ≤ aN k1) (h0 : aN k0 < 10000) (h1 : aN k1 < 10000) : ∀ m t, t + m = 99 →
    (Rn mX8_copies 3 [.ref (ad k0 0), .int (nI a), .ref (ad k1 0), .int (nI b), .int (nI t)] [] fs (enc (updK σ k1 0 (va_cpy (σ k0 0) (σ k1 0) a b t))) Q ↔ Rt fs (enc (updK σ k1 0 (va_cpy (σ k0 0) (σ k1 0) a b 99))) none Q) := by
  intro m
  induction m with
  | zero =>
    intro t ht
    obtain rfl : t = 99 := by omega
    have e : nI 99 = 99 := rfl
    simp only [aX8_copies_3, aX8_copies_5, aX8_copies_7, aX8_copies_28, Nat.zero_le, Nat.reduceLeDiff, Nat.reduceAdd, i1_0, rr_c3, zc9, oc9, zc10, oc10, zc11, oc11, zc12, oc12, zc13, oc13, zc15, oc15, Int32.lt_irrefl, Nat.zero_lt_one, Rt_cons, Rt_void, isB_0, isB_1, isB_b, true_and, and_true, cats_nil, cats_int, cats_ref, and_self, if_true, if_false, ite_self, le_nlt, ite_not, e]
  | succ m ih =>
    intro t ht
    have l : nI t < 99 := nI_lt (b := 99) (by omega) (by decide)
    have v0 : vp_in (nI (a + t)) (aN k0) := vp_in_nI (by omega) (by omega)
    have v1 : vp_in (nI (b + t)) (aN k1) := vp_in_nI (by omega) (by omega)
    have q0 : (nI (a + t)).toNatClampNeg = a + t := nI_clamp (by omega)
    have q1 : (nI (b + t)).toNatClampNeg = b + t := nI_clamp (by omega)
    rw [aX8_copies_3]
    simp only [aX8_copies_5, aX8_copies_7, aX8_copies_10, aX8_copies_11, aX8_copies_12, aX8_copies_14, aX8_copies_15, aX8_copies_16, aX8_copies_17, aX8_copies_19, aX8_copies_20, aX8_copies_21, aX8_copies_22, aX8_copies_25, Nat.zero_le, Nat.reduceLeDiff, Nat.reduceAdd, i1_0, rr_c3, zc9, oc9, zc10, oc10, zc11, oc11, zc12, oc12, zc13, oc13, zc15, oc15, Int32.lt_irrefl, Nat.zero_lt_one, Rt_cons, Rt_void, isB_0, isB_1, isB_b, true_and, and_true, cats_nil, cats_int, cats_ref, and_self, if_true, if_false, ite_self, le_nlt, ite_not, t0, t1, c0, c1, l, nI_add, nI_1, v0, v1, q0, q1, updK_ne (fun z : (k0 = k1 ∧ 0 = 0) => hk z.1), upS_updK, cpy_succ]
    exact ih (t + 1) (by omega)
/-- copies(from, a, to, b) -/
def cpM (σ : Mem) (k0 a k1 b : Nat) : Mem := updK σ k1 0 (va_cpy (σ k0 0) (σ k1 0) a b 99)
theorem sp_copies {k0 k1 a b : Nat} (hk : ¬ k0 = k1) (t0 : aT k0 = 0) (t1 : aT k1 = 0) (c0 : 0 < cnt k0) (c1 : 0 < cnt k1) (ha : a + 99 ≤ aN k0) (hb : b + 99 ≤ aN k1) (h0 : aN k0 < 10000) (h1 : aN k1 < 10000) :
    Rn mX8_copies 0 [.ref (ad k0 0), .int (nI a), .ref (ad k1 0), .int (nI b), .null] [] fs (enc σ) Q ↔ Rt fs (enc (cpM σ k0 a k1 b)) none Q := by
  simp only [aX8_copies_0, aX8_copies_1, Nat.zero_le, Nat.reduceLeDiff, Nat.reduceAdd, i1_0, rr_c3, zc9, oc9, zc10, oc10, zc11, oc11, zc12, oc12, zc13, oc13, zc15, oc15, Int32.lt_irrefl, Nat.zero_lt_one, Rt_cons, Rt_void, isB_0, isB_1, isB_b, true_and, and_true, cats_nil, cats_int, cats_ref, and_self, if_true, if_false, ite_self, le_nlt, ite_not]
  have := lp_copies (σ := σ) (fs := fs) (Q := Q) hk t0 t1 c0 c1 ha hb h0 h1 99 0 rfl
  rw [cpy_zero, updK_self rfl] at this
  exact this
/-- the shift of the past -/
def shf (f : Nat → Int32) (t : Nat) : Nat → Int32 := fun x => if x < t then f (x + 99) else f x
theorem shf_succ (f : Nat → Int32) (t : Nat) : upd (shf f t) t (f (t + 99)) = shf f (t + 1) := by
  funext x
  unfold upd shf
  by_cases h1 : x = t
  · subst h1
    rw [if_pos rfl, if_pos (by omega)]
  · rw [if_neg h1]
    by_cases h2 : x < t
    · rw [if_pos h2, if_pos (by omega)]
    · rw [if_neg h2, if_neg (by omega)]
theorem lp_shift : ∀ m t, t + m = 2871 →
    (Rn mX8_notes 11 [.ref (ad 29 0), .int (nI t)] [] fs (enc (updK σ 45 0 (shf (σ 45 0) t))) Q ↔ Rn mX8_notes 39 [.ref (ad 29 0), .int (nI 2871)] [] fs (enc (updK σ 45 0 (shf (σ 45 0) 2871))) Q) := by
  intro m
  induction m with
  | zero =>
    intro t ht
    obtain rfl : t = 2871 := by omega
    have e : nI 2871 = 2871 := rfl
    simp only [aX8_notes_11, aX8_notes_12, aX8_notes_15, Nat.zero_le, Nat.reduceLeDiff, Nat.reduceAdd, i1_0, rr_c3, zc9, oc9, zc10, oc10, zc11, oc11, zc12, oc12, zc13, oc13, zc15, oc15, Int32.lt_irrefl, Nat.zero_lt_one, Rt_cons, Rt_void, isB_0, isB_1, isB_b, true_and, and_true, cats_nil, cats_int, cats_ref, and_self, if_true, if_false, ite_self, le_nlt, ite_not, e]
  | succ m ih =>
    intro t ht
    have l : nI t < 2871 := nI_lt (b := 2871) (by omega) (by decide)
    have v0 : vp_in (nI (t + 99)) 2970 := vp_in_nI (by omega) (by decide)
    have v1 : vp_in (nI t) 2970 := vp_in_nI (by omega) (by decide)
    have q0 : (nI (t + 99)).toNatClampNeg = t + 99 := nI_clamp (by omega)
    have q1 : (nI t).toNatClampNeg = t := nI_clamp (by omega)
    have e1 : nI t + 99 = nI (t + 99) := nI_add t 99
    have e2 : shf (σ 45 0) t (t + 99) = σ 45 0 (t + 99) := by unfold shf; rw [if_neg (by omega)]
    rw [aX8_notes_11]
    simp only [aX8_notes_12, aX8_notes_15, aX8_notes_18, aX8_notes_19, aX8_notes_22, aX8_notes_23, aX8_notes_24, aX8_notes_27, aX8_notes_28, aX8_notes_30, aX8_notes_31, aX8_notes_32, aX8_notes_33, aX8_notes_36, Nat.zero_le, Nat.reduceLeDiff, Nat.reduceAdd, i1_0, rr_c3, zc9, oc9, zc10, oc10, zc11, oc11, zc12, oc12, zc13, oc13, zc15, oc15, Int32.lt_irrefl, Nat.zero_lt_one, Rt_cons, Rt_void, isB_0, isB_1, isB_b, true_and, and_true, cats_nil, cats_int, cats_ref, and_self, if_true, if_false, ite_self, le_nlt, ite_not, aT_45, cnt_45, aN_45, l, e1, nI_1, v0, v1, q0, q1, updK_eq, upS_updK, e2, shf_succ]
    exact ih (t + 1) (by omega)
/-- notes() with c that can be undone -/
def notF (σ : Mem) (c : Nat) : Mem := if c = 30 then upS (cpM (upS (updK σ 45 0 (shf (σ 45 0) 2871)) 29 0 18 (nI 29)) 43 0 45 (99 * 29)) 29 0 18 (nI 30) else upS (cpM σ 43 0 45 (99 * c)) 29 0 18 (nI (c + 1))
theorem sp_notes {c : Nat} (hc : c ≤ 30) (h : σ 29 0 18 = nI c) : Rn mX8_notes 0 [.ref (ad 29 0), .null] [] fs (enc σ) Q ↔ Rt fs (enc (notF σ c)) none Q := by
  have n30 : nI 30 = 30 := rfl
  by_cases h30 : c = 30
  · subst h30
    have := lp_shift (σ := σ) (fs := fs) (Q := Q) 2871 0 rfl
    rw [show shf (σ 45 0) 0 = σ 45 0 from by funext x; unfold shf; rw [if_neg (by omega)], updK_self rfl] at this
    have e0 : nI 0 = 0 := rfl
    simp only [aX8_notes_0, aX8_notes_1, aX8_notes_4, aX8_notes_6, aX8_notes_9, aX8_notes_10, Nat.zero_le, Nat.reduceLeDiff, Nat.reduceAdd, i1_0, rr_c3, zc9, oc9, zc10, oc10, zc11, oc11, zc12, oc12, zc13, oc13, zc15, oc15, Int32.lt_irrefl, Nat.zero_lt_one, Rt_cons, Rt_void, isB_0, isB_1, isB_b, true_and, and_true, cats_nil, cats_int, cats_ref, and_self, if_true, if_false, ite_self, le_nlt, ite_not, h, n30, ← e0]
    rw [this]
    have e29 : (nI 30 - 1) = nI 29 := rfl
    have e3 : (99 : Int32) * nI 29 = nI (99 * 29) := rfl
    have e4 : updK σ 45 0 (shf (σ 45 0) 2871) 29 0 = σ 29 0 := updK_ne (by decide)
    have e5 : nI 29 + 1 = nI 30 := rfl
    simp only [aX8_notes_39, aX8_notes_40i, aX8_notes_40a, aX8_notes_41, aX8_notes_44, aX8_notes_45, aX8_notes_46, aX8_notes_49, aX8_notes_50, aX8_notes_53, aX8_notes_54, aX8_notes_55, aX8_notes_58, aX8_notes_60, aX8_notes_61, aX8_notes_64, aX8_notes_65, Nat.zero_le, Nat.reduceLeDiff, Nat.reduceAdd, i1_0, rr_c3, zc9, oc9, zc10, oc10, zc11, oc11, zc12, oc12, zc13, oc13, zc15, oc15, Int32.lt_irrefl, Nat.zero_lt_one, Rt_cons, Rt_void, isB_0, isB_1, isB_b, true_and, and_true, cats_nil, cats_int, cats_ref, and_self, if_true, if_false, ite_self, le_nlt, ite_not, e4, h, e29, upS_eq, upd_eq, e3]
    rw [← e0, sp_copies (by decide) (by decide) (by decide) (by decide) (by decide) (by decide) (by decide) (by decide) (by decide)]
    simp only [aX8_notes_68, aX8_notes_69i, aX8_notes_69a, aX8_notes_70, aX8_notes_73, aX8_notes_74, aX8_notes_75, aX8_notes_78, Nat.zero_le, Nat.reduceLeDiff, Nat.reduceAdd, i1_0, rr_c3, zc9, oc9, zc10, oc10, zc11, oc11, zc12, oc12, zc13, oc13, zc15, oc15, Int32.lt_irrefl, Nat.zero_lt_one, Rt_cons, Rt_void, isB_0, isB_1, isB_b, true_and, and_true, cats_nil, cats_int, cats_ref, and_self, if_true, if_false, ite_self, le_nlt, ite_not]
    unfold notF
    rw [if_pos rfl]
    have e6 : cpM (upS (updK σ 45 0 (shf (σ 45 0) 2871)) 29 0 18 (nI 29)) 43 0 45 (99 * 29) 29 0 18 = nI 29 := by
      unfold cpM
      rw [updK_ne (by decide), upS_eq, upd_eq]
    rw [e6, e5]
  · have l2 : ¬ nI c = 30 := fun z => by
      have := (nI_eq (a := c) (b := 30) (by omega) (by decide)).mp z
      omega
    have e0 : nI 0 = 0 := rfl
    have e3 : (99 : Int32) * nI c = nI (99 * c) := pk_mul 99 c
    simp only [aX8_notes_0, aX8_notes_1, aX8_notes_4, aX8_notes_6, aX8_notes_49, aX8_notes_50, aX8_notes_53, aX8_notes_54, aX8_notes_55, aX8_notes_58, aX8_notes_60, aX8_notes_61, aX8_notes_64, aX8_notes_65, Nat.zero_le, Nat.reduceLeDiff, Nat.reduceAdd, i1_0, rr_c3, zc9, oc9, zc10, oc10, zc11, oc11, zc12, oc12, zc13, oc13, zc15, oc15, Int32.lt_irrefl, Nat.zero_lt_one, Rt_cons, Rt_void, isB_0, isB_1, isB_b, true_and, and_true, cats_nil, cats_int, cats_ref, and_self, if_true, if_false, ite_self, le_nlt, ite_not, h, l2, e3, not_false_eq_true]
    rw [← e0, sp_copies (by decide) (by decide) (by decide) (by decide) (by decide) (by decide) (by rw [aN_45]; omega) (by decide) (by decide)]
    simp only [aX8_notes_68, aX8_notes_69i, aX8_notes_69a, aX8_notes_70, aX8_notes_73, aX8_notes_74, aX8_notes_75, aX8_notes_78, Nat.zero_le, Nat.reduceLeDiff, Nat.reduceAdd, i1_0, rr_c3, zc9, oc9, zc10, oc10, zc11, oc11, zc12, oc12, zc13, oc13, zc15, oc15, Int32.lt_irrefl, Nat.zero_lt_one, Rt_cons, Rt_void, isB_0, isB_1, isB_b, true_and, and_true, cats_nil, cats_int, cats_ref, and_self, if_true, if_false, ite_self, le_nlt, ite_not]
    unfold notF
    rw [if_neg h30]
    have e6 : cpM σ 43 0 45 (99 * c) 29 0 18 = nI c := by
      unfold cpM
      rw [updK_ne (by decide)]
      exact h
    rw [e6, nI_1]
/-- remember() -/
def remF (σ : Mem) (c x : Nat) : Mem := upS (upS (cpF σ (2 + x) 0) 16 0 1 (nI ((x + 1) % 30))) 16 0 2 (nI (if c = 30 then 30 else c + 1))
theorem sp_remember {c x : Nat} (hc : c ≤ 30) (hx : x < 30) (h1 : σ 16 0 1 = nI x) (h2 : σ 16 0 2 = nI c) (hb : ∀ h, h < 7 → σ 14 0 h = 0 ∨ σ 14 0 h = 1) : Rn mX3_remember 0 [.ref (ad 16 0), .ref (ad 9 0)] [] fs (enc σ) Q ↔ Rt fs (enc (remF σ c x)) none Q := by
  have v0 : vp_in (nI x) 30 := vp_in_nI hx (by decide)
  have q0 : (nI x).toNatClampNeg = x := nI_clamp (by omega)
  have cj : 2 + x < cnt 9 := by rw [cnt_9]; omega
  simp only [aX3_remember_0, aX3_remember_1, aX3_remember_4, aX3_remember_5, aX3_remember_8s, aX3_remember_8m, aX3_remember_9, aX3_remember_10, Nat.zero_le, Nat.reduceLeDiff, Nat.reduceAdd, i1_0, rr_c3, zc9, oc9, zc10, oc10, zc11, oc11, zc12, oc12, zc13, oc13, zc15, oc15, Int32.lt_irrefl, Nat.zero_lt_one, Rt_cons, Rt_void, isB_0, isB_1, isB_b, true_and, and_true, cats_nil, cats_int, cats_ref, and_self, if_true, if_false, ite_self, le_nlt, ite_not, h1, v0, q0, cj]
  rw [sp_copyFrom (by omega) (by omega) (by omega) hb]
  have e1 : cpF σ (2 + x) 0 16 0 = σ 16 0 := cpF_ne (by omega)
  have e2 : ¬ (30 : Int32) = 0 := by decide
  have e3 : (nI (x + 1) - nI (x + 1) / 30 * 30) = nI ((x + 1) % 30) := pk_rem (a := x + 1) (d := 30) (by omega) (by omega) (by omega)
  have e4 : (if nI (c + 1) < 30 then nI (c + 1) else 30) = nI (if c = 30 then 30 else c + 1) := by
    by_cases h30 : c = 30
    · subst h30; rfl
    · rw [if_neg h30]
      by_cases h29 : c = 29
      · subst h29; rfl
      · rw [if_pos (show nI (c + 1) < 30 from nI_lt (b := 30) (by omega) (by decide))]
  simp only [aX3_remember_13, aX3_remember_14, aX3_remember_15, aX3_remember_18, aX3_remember_19, aX3_remember_20, aX3_remember_22, aX3_remember_23, aX3_remember_26, aX3_remember_27, aX3_remember_29, aX3_remember_30, aX3_remember_33, aX3_remember_34, aX3_remember_35, aX3_remember_38, aX3_remember_41, Nat.zero_le, Nat.reduceLeDiff, Nat.reduceAdd, i1_0, rr_c3, zc9, oc9, zc10, oc10, zc11, oc11, zc12, oc12, zc13, oc13, zc15, oc15, Int32.lt_irrefl, Nat.zero_lt_one, Rt_cons, Rt_void, isB_0, isB_1, isB_b, true_and, and_true, cats_nil, cats_int, cats_ref, and_self, if_true, if_false, ite_self, le_nlt, ite_not, e1, h1, e2, not_false_eq_true, e3, upS_eq, upd_ne (show ¬ 2 = 1 by decide), h2, nI_1, e4]
  rfl
end S44
