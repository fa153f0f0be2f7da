-- the reference's row: drafts wiped, all taken (written by a program of mine)
section S88
variable {σ : Mem} {fs : List Fm} {M : List va_E} {Q : List va_E → Option Value → Prop}
theorem lp_z37 : ∀ (m k : Nat) (σ : Mem), k + m = 3 → (∀ j, j < k → σ 37 0 j = 0) →
    ∃ τ, (∀ fs Q, Rn mX8_row 12 [.ref (ad 29 0), .int (nI k)] [] fs (enc σ) Q ↔ Rn mX8_row 30 [.ref (ad 29 0), .int (nI 3)] [] fs (enc τ) Q) ∧ (∀ k i, ¬ k = 37 → τ k i = σ k i) ∧ ∀ j, j < 3 → τ 37 0 j = 0 := by
  intro m
  induction m with
  | zero =>
    intro k σ hk hz
    obtain rfl : k = 3 := by omega
    refine ⟨σ, fun fs Q => ?_, fun _ _ _ => rfl, hz⟩
    have en : nI 3 = 3 := rfl
    simp only [aX8_row_12, aX8_row_13, aX8_row_14, Nat.zero_le, Nat.reduceLeDiff, Nat.reduceAdd, i1_0, rr_c3, zc9, oc9, zc10, oc10, zc11, oc11, zc12, oc12, zc13, oc13, zc15, oc15, Int32.lt_irrefl, Nat.zero_lt_one, Rt_cons, Rt_void, isB_0, isB_1, isB_b, true_and, and_true, cats_nil, cats_int, cats_ref, and_self, if_true, if_false, ite_self, le_nlt, ite_not, en]
  | succ m ih =>
    intro k σ hk hz
    have l : nI k < 3 := nI_lt (b := 3) (by omega) (by decide)
    have v : vp_in (nI k) 3 := vp_in_nI (by omega) (by decide)
    have cl := cl10 (show k < 10000 by omega)
    obtain ⟨τ, a1, a2, a3⟩ := ih (k + 1) (upS σ 37 0 k 0) (by omega) (fun j hj => by
        have e37 : (upS σ 37 0 k 0) 37 0 = upd (σ 37 0) k 0 := by rw [upS_eq]
        rw [e37]
        by_cases z : j = k
        · rw [z, upd_eq]
        · rw [upd_ne z]; exact hz j (by omega))
    refine ⟨τ, fun fs Q => ?_, fun k' i b0 => by rw [a2 k' i b0, upS_ne (by omega)], a3⟩
    rw [← a1, aX8_row_12]
    simp only [aX8_row_13, aX8_row_14, aX8_row_17, aX8_row_18, aX8_row_21, aX8_row_22, aX8_row_23, aX8_row_24, aX8_row_27, Nat.zero_le, Nat.reduceLeDiff, Nat.reduceAdd, i1_0, rr_c3, zc9, oc9, zc10, oc10, zc11, oc11, zc12, oc12, zc13, oc13, zc15, oc15, Int32.lt_irrefl, Nat.zero_lt_one, Rt_cons, Rt_void, isB_0, isB_1, isB_b, true_and, and_true, cats_nil, cats_int, cats_ref, and_self, if_true, if_false, ite_self, le_nlt, ite_not, l, aT_37, aN_37, cnt_37, v, cl, nI_1]
theorem lp_z38 : ∀ (m k : Nat) (σ : Mem), k + m = 12 → (∀ j, j < k → σ 38 0 j = 0) →
    ∃ τ, (∀ fs Q, Rn mX8_row 32 [.ref (ad 29 0), .int (nI k)] [] fs (enc σ) Q ↔ Rn mX8_row 51 [.ref (ad 29 0), .int (nI 12)] [] fs (enc τ) Q) ∧ (∀ k i, ¬ k = 38 → τ k i = σ k i) ∧ ∀ j, j < 12 → τ 38 0 j = 0 := by
  intro m
  induction m with
  | zero =>
    intro k σ hk hz
    obtain rfl : k = 12 := by omega
    refine ⟨σ, fun fs Q => ?_, fun _ _ _ => rfl, hz⟩
    have en : nI 12 = 12 := rfl
    simp only [aX8_row_32, aX8_row_33, aX8_row_35, Nat.zero_le, Nat.reduceLeDiff, Nat.reduceAdd, i1_0, rr_c3, zc9, oc9, zc10, oc10, zc11, oc11, zc12, oc12, zc13, oc13, zc15, oc15, Int32.lt_irrefl, Nat.zero_lt_one, Rt_cons, Rt_void, isB_0, isB_1, isB_b, true_and, and_true, cats_nil, cats_int, cats_ref, and_self, if_true, if_false, ite_self, le_nlt, ite_not, en]
  | succ m ih =>
    intro k σ hk hz
    have l : nI k < 12 := nI_lt (b := 12) (by omega) (by decide)
    have v : vp_in (nI k) 12 := vp_in_nI (by omega) (by decide)
    have cl := cl10 (show k < 10000 by omega)
    obtain ⟨τ, a1, a2, a3⟩ := ih (k + 1) (upS σ 38 0 k 0) (by omega) (fun j hj => by
        have e38 : (upS σ 38 0 k 0) 38 0 = upd (σ 38 0) k 0 := by rw [upS_eq]
        rw [e38]
        by_cases z : j = k
        · rw [z, upd_eq]
        · rw [upd_ne z]; exact hz j (by omega))
    refine ⟨τ, fun fs Q => ?_, fun k' i b0 => by rw [a2 k' i b0, upS_ne (by omega)], a3⟩
    rw [← a1, aX8_row_32]
    simp only [aX8_row_33, aX8_row_35, aX8_row_38, aX8_row_39, aX8_row_42, aX8_row_43, aX8_row_44, aX8_row_45, aX8_row_48, Nat.zero_le, Nat.reduceLeDiff, Nat.reduceAdd, i1_0, rr_c3, zc9, oc9, zc10, oc10, zc11, oc11, zc12, oc12, zc13, oc13, zc15, oc15, Int32.lt_irrefl, Nat.zero_lt_one, Rt_cons, Rt_void, isB_0, isB_1, isB_b, true_and, and_true, cats_nil, cats_int, cats_ref, and_self, if_true, if_false, ite_self, le_nlt, ite_not, l, aT_38, aN_38, cnt_38, v, cl, nI_1]
theorem lp_z39 : ∀ (m k : Nat) (σ : Mem), k + m = 7 → (∀ j, j < k → σ 39 0 j = 0 ∧ σ 40 0 j = 0 ∧ σ 41 0 j = 0 ∧ σ 42 0 j = 0) →
    ∃ τ, (∀ fs Q, Rn mX8_row 53 [.ref (ad 29 0), .int (nI k)] [] fs (enc σ) Q ↔ Rn mX8_row 93 [.ref (ad 29 0), .int (nI 7)] [] fs (enc τ) Q) ∧ (∀ k i, ¬ k = 39 → ¬ k = 40 → ¬ k = 41 → ¬ k = 42 → τ k i = σ k i) ∧ ∀ j, j < 7 → τ 39 0 j = 0 ∧ τ 40 0 j = 0 ∧ τ 41 0 j = 0 ∧ τ 42 0 j = 0 := by
  intro m
  induction m with
  | zero =>
    intro k σ hk hz
    obtain rfl : k = 7 := by omega
    refine ⟨σ, fun fs Q => ?_, fun _ _ _ _ _ _ => rfl, hz⟩
    have en : nI 7 = 7 := rfl
    simp only [aX8_row_53, aX8_row_54, aX8_row_56, Nat.zero_le, Nat.reduceLeDiff, Nat.reduceAdd, i1_0, rr_c3, zc9, oc9, zc10, oc10, zc11, oc11, zc12, oc12, zc13, oc13, zc15, oc15, Int32.lt_irrefl, Nat.zero_lt_one, Rt_cons, Rt_void, isB_0, isB_1, isB_b, true_and, and_true, cats_nil, cats_int, cats_ref, and_self, if_true, if_false, ite_self, le_nlt, ite_not, en]
  | succ m ih =>
    intro k σ hk hz
    have l : nI k < 7 := nI_lt (b := 7) (by omega) (by decide)
    have v : vp_in (nI k) 7 := vp_in_nI (by omega) (by decide)
    have cl := cl10 (show k < 10000 by omega)
    obtain ⟨τ, a1, a2, a3⟩ := ih (k + 1) (upS (upS (upS (upS σ 39 0 k 0) 40 0 k 0) 41 0 k 0) 42 0 k 0) (by omega) (fun j hj => by
        have e39 : (upS (upS (upS (upS σ 39 0 k 0) 40 0 k 0) 41 0 k 0) 42 0 k 0) 39 0 = upd (σ 39 0) k 0 := by rw [upS_ne (show ¬ (39 = 42 ∧ 0 = 0) by decide), upS_ne (show ¬ (39 = 41 ∧ 0 = 0) by decide), upS_ne (show ¬ (39 = 40 ∧ 0 = 0) by decide), upS_eq]
        have e40 : (upS (upS (upS (upS σ 39 0 k 0) 40 0 k 0) 41 0 k 0) 42 0 k 0) 40 0 = upd (σ 40 0) k 0 := by rw [upS_ne (show ¬ (40 = 42 ∧ 0 = 0) by decide), upS_ne (show ¬ (40 = 41 ∧ 0 = 0) by decide), upS_eq, upS_ne (show ¬ (40 = 39 ∧ 0 = 0) by decide)]
        have e41 : (upS (upS (upS (upS σ 39 0 k 0) 40 0 k 0) 41 0 k 0) 42 0 k 0) 41 0 = upd (σ 41 0) k 0 := by rw [upS_ne (show ¬ (41 = 42 ∧ 0 = 0) by decide), upS_eq, upS_ne (show ¬ (41 = 40 ∧ 0 = 0) by decide), upS_ne (show ¬ (41 = 39 ∧ 0 = 0) by decide)]
        have e42 : (upS (upS (upS (upS σ 39 0 k 0) 40 0 k 0) 41 0 k 0) 42 0 k 0) 42 0 = upd (σ 42 0) k 0 := by rw [upS_eq, upS_ne (show ¬ (42 = 41 ∧ 0 = 0) by decide), upS_ne (show ¬ (42 = 40 ∧ 0 = 0) by decide), upS_ne (show ¬ (42 = 39 ∧ 0 = 0) by decide)]
        rw [e39, e40, e41, e42]
        by_cases z : j = k
        · rw [z, upd_eq, upd_eq, upd_eq, upd_eq]; exact ⟨rfl, rfl, rfl, rfl⟩
        · rw [upd_ne z, upd_ne z, upd_ne z, upd_ne z]; exact hz j (by omega))
    refine ⟨τ, fun fs Q => ?_, fun k' i b0 b1 b2 b3 => by rw [a2 k' i b0 b1 b2 b3, upS_ne (by omega), upS_ne (by omega), upS_ne (by omega), upS_ne (by omega)], a3⟩
    rw [← a1, aX8_row_53]
    simp only [aX8_row_54, aX8_row_56, aX8_row_59, aX8_row_60, aX8_row_63, aX8_row_64, aX8_row_65, aX8_row_66, aX8_row_67, aX8_row_70, aX8_row_71, aX8_row_72, aX8_row_73, aX8_row_74, aX8_row_77, aX8_row_78, aX8_row_79, aX8_row_80, aX8_row_81, aX8_row_84, aX8_row_85, aX8_row_86, aX8_row_87, aX8_row_90, Nat.zero_le, Nat.reduceLeDiff, Nat.reduceAdd, i1_0, rr_c3, zc9, oc9, zc10, oc10, zc11, oc11, zc12, oc12, zc13, oc13, zc15, oc15, Int32.lt_irrefl, Nat.zero_lt_one, Rt_cons, Rt_void, isB_0, isB_1, isB_b, true_and, and_true, cats_nil, cats_int, cats_ref, and_self, if_true, if_false, ite_self, le_nlt, ite_not, l, aT_39, aN_39, cnt_39, aT_40, aN_40, cnt_40, aT_41, aN_41, cnt_41, aT_42, aN_42, cnt_42, v, cl, nI_1]
theorem lp_t31 : ∀ (m k : Nat) (σ : Mem), k + m = 3 → (∀ j, j < k → σ 31 0 j = σ 37 0 j) →
    ∃ τ, (∀ fs Q, Rn mX8_takesAll 2 [.ref (ad 29 0), .int (nI k)] [] fs (enc σ) Q ↔ Rn mX8_takesAll 25 [.ref (ad 29 0), .int (nI 3)] [] fs (enc τ) Q) ∧ (∀ k i, ¬ k = 31 → τ k i = σ k i) ∧ ∀ j, j < 3 → τ 31 0 j = σ 37 0 j := by
  intro m
  induction m with
  | zero =>
    intro k σ hk hz
    obtain rfl : k = 3 := by omega
    refine ⟨σ, fun fs Q => ?_, fun _ _ _ => rfl, hz⟩
    have en : nI 3 = 3 := rfl
    simp only [aX8_takesAll_2, aX8_takesAll_3, aX8_takesAll_4, Nat.zero_le, Nat.reduceLeDiff, Nat.reduceAdd, i1_0, rr_c3, zc9, oc9, zc10, oc10, zc11, oc11, zc12, oc12, zc13, oc13, zc15, oc15, Int32.lt_irrefl, Nat.zero_lt_one, Rt_cons, Rt_void, isB_0, isB_1, isB_b, true_and, and_true, cats_nil, cats_int, cats_ref, and_self, if_true, if_false, ite_self, le_nlt, ite_not, en]
  | succ m ih =>
    intro k σ hk hz
    have l : nI k < 3 := nI_lt (b := 3) (by omega) (by decide)
    have v : vp_in (nI k) 3 := vp_in_nI (by omega) (by decide)
    have cl := cl10 (show k < 10000 by omega)
    obtain ⟨τ, a1, a2, a3⟩ := ih (k + 1) (upS σ 31 0 k (σ 37 0 k)) (by omega) (fun j hj => by
        rw [upS_eq, upS_ne (show ¬ (37 = 31 ∧ 0 = 0) by decide)]
        by_cases z : j = k
        · rw [z, upd_eq]
        · rw [upd_ne z]; exact hz j (by omega))
    refine ⟨τ, fun fs Q => ?_, fun k' i b => by rw [a2 k' i b, upS_ne (by omega)], fun j hj => by rw [a3 j hj, upS_ne (by omega)]⟩
    rw [← a1, aX8_takesAll_2]
    simp only [aX8_takesAll_3, aX8_takesAll_4, aX8_takesAll_7, aX8_takesAll_8, aX8_takesAll_11, aX8_takesAll_12, aX8_takesAll_13, aX8_takesAll_16, aX8_takesAll_17, aX8_takesAll_18, aX8_takesAll_19, aX8_takesAll_22, Nat.zero_le, Nat.reduceLeDiff, Nat.reduceAdd, i1_0, rr_c3, zc9, oc9, zc10, oc10, zc11, oc11, zc12, oc12, zc13, oc13, zc15, oc15, Int32.lt_irrefl, Nat.zero_lt_one, Rt_cons, Rt_void, isB_0, isB_1, isB_b, true_and, and_true, cats_nil, cats_int, cats_ref, and_self, if_true, if_false, ite_self, le_nlt, ite_not, l, aT_37, aN_37, cnt_37, aT_31, aN_31, cnt_31, v, cl, nI_1]
theorem lp_t32 : ∀ (m k : Nat) (σ : Mem), k + m = 12 → (∀ j, j < k → σ 32 0 j = σ 38 0 j) →
    ∃ τ, (∀ fs Q, Rn mX8_takesAll 27 [.ref (ad 29 0), .int (nI k)] [] fs (enc σ) Q ↔ Rn mX8_takesAll 51 [.ref (ad 29 0), .int (nI 12)] [] fs (enc τ) Q) ∧ (∀ k i, ¬ k = 32 → τ k i = σ k i) ∧ ∀ j, j < 12 → τ 32 0 j = σ 38 0 j := by
  intro m
  induction m with
  | zero =>
    intro k σ hk hz
    obtain rfl : k = 12 := by omega
    refine ⟨σ, fun fs Q => ?_, fun _ _ _ => rfl, hz⟩
    have en : nI 12 = 12 := rfl
    simp only [aX8_takesAll_27, aX8_takesAll_28, aX8_takesAll_30, Nat.zero_le, Nat.reduceLeDiff, Nat.reduceAdd, i1_0, rr_c3, zc9, oc9, zc10, oc10, zc11, oc11, zc12, oc12, zc13, oc13, zc15, oc15, Int32.lt_irrefl, Nat.zero_lt_one, Rt_cons, Rt_void, isB_0, isB_1, isB_b, true_and, and_true, cats_nil, cats_int, cats_ref, and_self, if_true, if_false, ite_self, le_nlt, ite_not, en]
  | succ m ih =>
    intro k σ hk hz
    have l : nI k < 12 := nI_lt (b := 12) (by omega) (by decide)
    have v : vp_in (nI k) 12 := vp_in_nI (by omega) (by decide)
    have cl := cl10 (show k < 10000 by omega)
    obtain ⟨τ, a1, a2, a3⟩ := ih (k + 1) (upS σ 32 0 k (σ 38 0 k)) (by omega) (fun j hj => by
        rw [upS_eq, upS_ne (show ¬ (38 = 32 ∧ 0 = 0) by decide)]
        by_cases z : j = k
        · rw [z, upd_eq]
        · rw [upd_ne z]; exact hz j (by omega))
    refine ⟨τ, fun fs Q => ?_, fun k' i b => by rw [a2 k' i b, upS_ne (by omega)], fun j hj => by rw [a3 j hj, upS_ne (by omega)]⟩
    rw [← a1, aX8_takesAll_27]
    simp only [aX8_takesAll_28, aX8_takesAll_30, aX8_takesAll_33, aX8_takesAll_34, aX8_takesAll_37, aX8_takesAll_38, aX8_takesAll_39, aX8_takesAll_42, aX8_takesAll_43, aX8_takesAll_44, aX8_takesAll_45, aX8_takesAll_48, Nat.zero_le, Nat.reduceLeDiff, Nat.reduceAdd, i1_0, rr_c3, zc9, oc9, zc10, oc10, zc11, oc11, zc12, oc12, zc13, oc13, zc15, oc15, Int32.lt_irrefl, Nat.zero_lt_one, Rt_cons, Rt_void, isB_0, isB_1, isB_b, true_and, and_true, cats_nil, cats_int, cats_ref, and_self, if_true, if_false, ite_self, le_nlt, ite_not, l, aT_38, aN_38, cnt_38, aT_32, aN_32, cnt_32, v, cl, nI_1]
theorem lp_t43 : ∀ (m k : Nat) (σ : Mem), k + m = 99 → (∀ j, j < k → σ 43 0 j = 0) →
    ∃ τ, (∀ fs Q, Rn mX8_takesAll 53 [.ref (ad 29 0), .int (nI k)] [] fs (enc σ) Q ↔ Rn mX8_takesAll 72 [.ref (ad 29 0), .int (nI 99)] [] fs (enc τ) Q) ∧ (∀ k i, ¬ k = 43 → τ k i = σ k i) ∧ ∀ j, j < 99 → τ 43 0 j = 0 := by
  intro m
  induction m with
  | zero =>
    intro k σ hk hz
    obtain rfl : k = 99 := by omega
    refine ⟨σ, fun fs Q => ?_, fun _ _ _ => rfl, hz⟩
    have en : nI 99 = 99 := rfl
    simp only [aX8_takesAll_53, aX8_takesAll_54, aX8_takesAll_56, Nat.zero_le, Nat.reduceLeDiff, Nat.reduceAdd, i1_0, rr_c3, zc9, oc9, zc10, oc10, zc11, oc11, zc12, oc12, zc13, oc13, zc15, oc15, Int32.lt_irrefl, Nat.zero_lt_one, Rt_cons, Rt_void, isB_0, isB_1, isB_b, true_and, and_true, cats_nil, cats_int, cats_ref, and_self, if_true, if_false, ite_self, le_nlt, ite_not, en]
  | succ m ih =>
    intro k σ hk hz
    have l : nI k < 99 := nI_lt (b := 99) (by omega) (by decide)
    have v : vp_in (nI k) 99 := vp_in_nI (by omega) (by decide)
    have cl := cl10 (show k < 10000 by omega)
    obtain ⟨τ, a1, a2, a3⟩ := ih (k + 1) (upS σ 43 0 k 0) (by omega) (fun j hj => by
        have e43 : (upS σ 43 0 k 0) 43 0 = upd (σ 43 0) k 0 := by rw [upS_eq]
        rw [e43]
        by_cases z : j = k
        · rw [z, upd_eq]
        · rw [upd_ne z]; exact hz j (by omega))
    refine ⟨τ, fun fs Q => ?_, fun k' i b0 => by rw [a2 k' i b0, upS_ne (by omega)], a3⟩
    rw [← a1, aX8_takesAll_53]
    simp only [aX8_takesAll_54, aX8_takesAll_56, aX8_takesAll_59, aX8_takesAll_60, aX8_takesAll_63, aX8_takesAll_64, aX8_takesAll_65, aX8_takesAll_66, aX8_takesAll_69, Nat.zero_le, Nat.reduceLeDiff, Nat.reduceAdd, i1_0, rr_c3, zc9, oc9, zc10, oc10, zc11, oc11, zc12, oc12, zc13, oc13, zc15, oc15, Int32.lt_irrefl, Nat.zero_lt_one, Rt_cons, Rt_void, isB_0, isB_1, isB_b, true_and, and_true, cats_nil, cats_int, cats_ref, and_self, if_true, if_false, ite_self, le_nlt, ite_not, l, aT_43, aN_43, cnt_43, v, cl, nI_1]
/-- houses and gulls taken, up to k -/
def TkM (σ : Mem) (G k : Nat) : Prop := ∀ h, h < k → σ 33 0 h = σ 39 0 h ∧ σ 34 0 h = σ 40 0 h ∧ σ 35 0 h = σ 41 0 h ∧ σ 36 0 h = σ 42 0 h ∧ σ 43 0 (64 + 5 * h) = σ 40 0 h ∧ σ 43 0 (64 + 5 * h + 1) = (if h < G then 0 else 1) ∧ σ 43 0 (64 + 5 * h + 2) = (if h < G then nI h else -1)
theorem lp_t7 {G : Nat} (hG : G ≤ 7) : ∀ (m k : Nat) (σ : Mem), k + m = 7 → σ 31 0 2 = nI G → TkM σ G k → (∀ a, a < 64 → σ 43 0 a = 0) → (∀ h, h < 7 → σ 43 0 (64 + 5 * h + 3) = 0 ∧ σ 43 0 (64 + 5 * h + 4) = 0) →
    ∃ τ, (∀ fs Q, Rn mX8_takesAll 74 [.ref (ad 29 0), .int (nI k)] [] fs (enc σ) Q ↔ Rt fs (enc τ) none Q) ∧ (∀ k i, ¬ k = 33 → ¬ k = 34 → ¬ k = 35 → ¬ k = 36 → ¬ k = 43 → τ k i = σ k i) ∧ TkM τ G 7 ∧ (∀ a, a < 64 → τ 43 0 a = 0) ∧ ∀ h, h < 7 → τ 43 0 (64 + 5 * h + 3) = 0 ∧ τ 43 0 (64 + 5 * h + 4) = 0 := by
  intro m
  induction m with
  | zero =>
    intro k σ hk e hz h0 h3
    obtain rfl : k = 7 := by omega
    refine ⟨σ, fun fs Q => ?_, fun _ _ _ _ _ _ _ => rfl, hz, h0, h3⟩
    have en : nI 7 = 7 := rfl
    simp only [aX8_takesAll_74, aX8_takesAll_75, aX8_takesAll_77, aX8_takesAll_207, Nat.zero_le, Nat.reduceLeDiff, Nat.reduceAdd, i1_0, rr_c3, zc9, oc9, zc10, oc10, zc11, oc11, zc12, oc12, zc13, oc13, zc15, oc15, Int32.lt_irrefl, Nat.zero_lt_one, Rt_cons, Rt_void, isB_0, isB_1, isB_b, true_and, and_true, cats_nil, cats_int, cats_ref, and_self, if_true, if_false, ite_self, le_nlt, ite_not, en]
  | succ m ih =>
    intro k σ hk e hz h0 h3
    have l : nI k < 7 := nI_lt (b := 7) (by omega) (by decide)
    have v7 := in7 (show k < 7 by omega)
    have cl := cl10 (show k < 10000 by omega)
    obtain ⟨x, hx⟩ : ∃ x, x = (if k < G then (0 : Int32) else 1) := ⟨_, rfl⟩
    obtain ⟨y, hy⟩ : ∃ y, y = (if k < G then nI k else (-1 : Int32)) := ⟨_, rfl⟩
    obtain ⟨σ1, e1⟩ : ∃ σ1, σ1 = upS (upS (upS (upS σ 33 0 k (σ 39 0 k)) 34 0 k (σ 40 0 k)) 35 0 k (σ 41 0 k)) 36 0 k (σ 42 0 k) := ⟨_, rfl⟩
    obtain ⟨σ2, e2⟩ : ∃ σ2, σ2 = upS (upS (upS σ1 43 0 (64 + 5 * k) (σ 40 0 k)) 43 0 (64 + 5 * k + 1) x) 43 0 (64 + 5 * k + 2) y := ⟨_, rfl⟩
    have f1 : ∀ k' i, ¬ k' = 33 → ¬ k' = 34 → ¬ k' = 35 → ¬ k' = 36 → σ1 k' i = σ k' i := fun k' i b1 b2 b3 b4 => by rw [e1, upS_ne (by omega), upS_ne (by omega), upS_ne (by omega), upS_ne (by omega)]
    have g33 : σ1 33 0 = upd (σ 33 0) k (σ 39 0 k) := by rw [e1, upS_ne (by omega), upS_ne (by omega), upS_ne (by omega), upS_eq]
    have g34 : σ1 34 0 = upd (σ 34 0) k (σ 40 0 k) := by rw [e1, upS_ne (by omega), upS_ne (by omega), upS_eq, upS_ne (by omega)]
    have g35 : σ1 35 0 = upd (σ 35 0) k (σ 41 0 k) := by rw [e1, upS_ne (by omega), upS_eq, upS_ne (by omega), upS_ne (by omega)]
    have g36 : σ1 36 0 = upd (σ 36 0) k (σ 42 0 k) := by rw [e1, upS_eq, upS_ne (by omega), upS_ne (by omega), upS_ne (by omega)]
    have f2 : ∀ k' i, ¬ k' = 43 → σ2 k' i = σ1 k' i := fun k' i b => by rw [e2, upS_ne (by omega), upS_ne (by omega), upS_ne (by omega)]
    have g43 : σ2 43 0 = upd (upd (upd (σ 43 0) (64 + 5 * k) (σ 40 0 k)) (64 + 5 * k + 1) x) (64 + 5 * k + 2) y := by
      rw [e2]; simp only [upS_eq]; rw [f1 43 0 (by decide) (by decide) (by decide) (by decide)]
    have hz2 : TkM σ2 G (k + 1) := fun h hh => by
      rw [f2 33 0 (by decide), f2 34 0 (by decide), f2 35 0 (by decide), f2 36 0 (by decide), f2 39 0 (by decide), f2 40 0 (by decide), f2 41 0 (by decide), f2 42 0 (by decide), g33, g34, g35, g36, g43, f1 39 0 (by decide) (by decide) (by decide) (by decide), f1 40 0 (by decide) (by decide) (by decide) (by decide), f1 41 0 (by decide) (by decide) (by decide) (by decide), f1 42 0 (by decide) (by decide) (by decide) (by decide)]
      by_cases z : h = k
      · subst z
        rw [upd_eq, upd_eq, upd_eq, upd_eq, upd_ne (show ¬ 64 + 5 * h = 64 + 5 * h + 2 by omega), upd_ne (show ¬ 64 + 5 * h = 64 + 5 * h + 1 by omega), upd_eq, upd_ne (show ¬ 64 + 5 * h + 1 = 64 + 5 * h + 2 by omega), upd_eq, upd_eq]
        exact ⟨rfl, rfl, rfl, rfl, rfl, hx, hy⟩
      · rw [upd_ne z, upd_ne z, upd_ne z, upd_ne z, upd_ne (show ¬ 64 + 5 * h = 64 + 5 * k + 2 by omega), upd_ne (show ¬ 64 + 5 * h = 64 + 5 * k + 1 by omega), upd_ne (show ¬ 64 + 5 * h = 64 + 5 * k by omega), upd_ne (show ¬ 64 + 5 * h + 1 = 64 + 5 * k + 2 by omega), upd_ne (show ¬ 64 + 5 * h + 1 = 64 + 5 * k + 1 by omega), upd_ne (show ¬ 64 + 5 * h + 1 = 64 + 5 * k by omega), upd_ne (show ¬ 64 + 5 * h + 2 = 64 + 5 * k + 2 by omega), upd_ne (show ¬ 64 + 5 * h + 2 = 64 + 5 * k + 1 by omega), upd_ne (show ¬ 64 + 5 * h + 2 = 64 + 5 * k by omega)]
        exact hz h (by omega)
    obtain ⟨τ, a1, a2, a3⟩ := ih (k + 1) σ2 (by omega) (by rw [f2 31 0 (by decide), f1 31 0 (by decide) (by decide) (by decide) (by decide)]; exact e) hz2 (fun a ha => by rw [g43, upd_ne (by omega), upd_ne (by omega), upd_ne (by omega)]; exact h0 a ha) (fun h hh => by
      rw [g43, upd_ne (by omega), upd_ne (by omega), upd_ne (by omega), upd_ne (by omega), upd_ne (by omega), upd_ne (by omega)]
      exact h3 h hh)
    refine ⟨τ, fun fs Q => ?_, fun k' i b1 b2 b3 b4 b5 => by rw [a2 k' i b1 b2 b3 b4 b5, f2 k' i b5, f1 k' i b1 b2 b3 b4], a3⟩
    have p1 : ∀ fs Q, (Rn mX8_takesAll 75 [.ref (ad 29 0), .int (nI k)] [.int (nI k)] fs (enc σ) Q ↔ Rn mX8_takesAll 128 [.ref (ad 29 0), .int (nI k)] [] fs (enc σ1) Q) := fun fs Q => by
      rw [e1]
      simp only [aX8_takesAll_75, aX8_takesAll_77, aX8_takesAll_80, aX8_takesAll_81, aX8_takesAll_84, aX8_takesAll_85, aX8_takesAll_86, aX8_takesAll_89, aX8_takesAll_90, aX8_takesAll_91, aX8_takesAll_92, aX8_takesAll_93, aX8_takesAll_96, aX8_takesAll_97, aX8_takesAll_98, aX8_takesAll_101, aX8_takesAll_102, aX8_takesAll_103, aX8_takesAll_104, aX8_takesAll_105, aX8_takesAll_108, aX8_takesAll_109, aX8_takesAll_110, aX8_takesAll_113, aX8_takesAll_114, aX8_takesAll_115, aX8_takesAll_116, aX8_takesAll_117, aX8_takesAll_120, aX8_takesAll_121, aX8_takesAll_122, aX8_takesAll_125, aX8_takesAll_126, aX8_takesAll_127, Nat.zero_le, Nat.reduceLeDiff, Nat.reduceAdd, i1_0, rr_c3, zc9, oc9, zc10, oc10, zc11, oc11, zc12, oc12, zc13, oc13, zc15, oc15, Int32.lt_irrefl, Nat.zero_lt_one, Rt_cons, Rt_void, isB_0, isB_1, isB_b, true_and, and_true, cats_nil, cats_int, cats_ref, and_self, if_true, if_false, ite_self, le_nlt, ite_not, l, aT_33, aN_33, cnt_33, aT_34, aN_34, cnt_34, aT_35, aN_35, cnt_35, aT_36, aN_36, cnt_36, aT_39, aN_39, cnt_39, aT_40, aN_40, cnt_40, aT_41, aN_41, cnt_41, aT_42, aN_42, cnt_42, v7, cl, upS_ne (show ¬ (40 = 33 ∧ 0 = 0) by decide), upS_ne (show ¬ (41 = 34 ∧ 0 = 0) by decide), upS_ne (show ¬ (41 = 33 ∧ 0 = 0) by decide), upS_ne (show ¬ (42 = 35 ∧ 0 = 0) by decide), upS_ne (show ¬ (42 = 34 ∧ 0 = 0) by decide), upS_ne (show ¬ (42 = 33 ∧ 0 = 0) by decide)]
    rw [← a1, aX8_takesAll_74, p1, e2]
    have q34 : σ1 34 0 k = σ 40 0 k := by rw [g34, upd_eq]
    have q31 : σ1 31 0 2 = nI G := by rw [f1 31 0 (by decide) (by decide) (by decide) (by decide)]; exact e
    by_cases z : k < G
    · rw [if_pos z] at hx hy
      have lG : nI k < nI G := nI_lt z (by omega)
      simp only [aX8_takesAll_128, aX8_takesAll_129, aX8_takesAll_132, aX8_takesAll_134, aX8_takesAll_135, aX8_takesAll_136, aX8_takesAll_137, aX8_takesAll_138, aX8_takesAll_139, aX8_takesAll_142, aX8_takesAll_143, aX8_takesAll_144, aX8_takesAll_145, aX8_takesAll_146, aX8_takesAll_149, aX8_takesAll_151, aX8_takesAll_152, aX8_takesAll_153, aX8_takesAll_154, aX8_takesAll_155, aX8_takesAll_156, aX8_takesAll_157, aX8_takesAll_158, aX8_takesAll_159, aX8_takesAll_162, aX8_takesAll_163, aX8_takesAll_164, aX8_takesAll_167, aX8_takesAll_168, aX8_takesAll_171, aX8_takesAll_172, aX8_takesAll_173, aX8_takesAll_174, aX8_takesAll_177, aX8_takesAll_179, aX8_takesAll_180, aX8_takesAll_181, aX8_takesAll_182, aX8_takesAll_183, aX8_takesAll_184, aX8_takesAll_185, aX8_takesAll_186, aX8_takesAll_187, aX8_takesAll_190, aX8_takesAll_191, aX8_takesAll_192, aX8_takesAll_195, aX8_takesAll_196, aX8_takesAll_199, aX8_takesAll_200, aX8_takesAll_201, aX8_takesAll_204, Nat.zero_le, Nat.reduceLeDiff, Nat.reduceAdd, i1_0, rr_c3, zc9, oc9, zc10, oc10, zc11, oc11, zc12, oc12, zc13, oc13, zc15, oc15, Int32.lt_irrefl, Nat.zero_lt_one, Rt_cons, Rt_void, isB_0, isB_1, isB_b, true_and, and_true, cats_nil, cats_int, cats_ref, and_self, if_true, if_false, ite_self, le_nlt, ite_not, aT_34, aN_34, cnt_34, aT_43, aN_43, cnt_43, aT_31, aN_31, cnt_31, v3.2.2, c2, v7, cl, n5, n64, nI_1, nI_2, in99 (show 64 + 5 * k < 99 by omega), in99 (show 64 + 5 * k + 1 < 99 by omega), in99 (show 64 + 5 * k + 2 < 99 by omega), cl10 (show 64 + 5 * k < 10000 by omega), cl10 (show 64 + 5 * k + 1 < 10000 by omega), cl10 (show 64 + 5 * k + 2 < 10000 by omega), q34, upS_ne (show ¬ (31 = 43 ∧ 0 = 0) by decide), q31, lG, hx, hy]
    · rw [if_neg z] at hx hy
      have lG : ¬ nI k < nI G := nI_nlt (by omega) (by omega)
      simp only [aX8_takesAll_128, aX8_takesAll_129, aX8_takesAll_132, aX8_takesAll_134, aX8_takesAll_135, aX8_takesAll_136, aX8_takesAll_137, aX8_takesAll_138, aX8_takesAll_139, aX8_takesAll_142, aX8_takesAll_143, aX8_takesAll_144, aX8_takesAll_145, aX8_takesAll_146, aX8_takesAll_149, aX8_takesAll_151, aX8_takesAll_152, aX8_takesAll_153, aX8_takesAll_154, aX8_takesAll_155, aX8_takesAll_156, aX8_takesAll_157, aX8_takesAll_158, aX8_takesAll_159, aX8_takesAll_162, aX8_takesAll_163, aX8_takesAll_164, aX8_takesAll_167, aX8_takesAll_168, aX8_takesAll_171, aX8_takesAll_172, aX8_takesAll_173, aX8_takesAll_174, aX8_takesAll_177, aX8_takesAll_179, aX8_takesAll_180, aX8_takesAll_181, aX8_takesAll_182, aX8_takesAll_183, aX8_takesAll_184, aX8_takesAll_185, aX8_takesAll_186, aX8_takesAll_187, aX8_takesAll_190, aX8_takesAll_191, aX8_takesAll_192, aX8_takesAll_195, aX8_takesAll_196, aX8_takesAll_199, aX8_takesAll_200, aX8_takesAll_201, aX8_takesAll_204, Nat.zero_le, Nat.reduceLeDiff, Nat.reduceAdd, i1_0, rr_c3, zc9, oc9, zc10, oc10, zc11, oc11, zc12, oc12, zc13, oc13, zc15, oc15, Int32.lt_irrefl, Nat.zero_lt_one, Rt_cons, Rt_void, isB_0, isB_1, isB_b, true_and, and_true, cats_nil, cats_int, cats_ref, and_self, if_true, if_false, ite_self, le_nlt, ite_not, aT_34, aN_34, cnt_34, aT_43, aN_43, cnt_43, aT_31, aN_31, cnt_31, v3.2.2, c2, v7, cl, n5, n64, nI_1, nI_2, in99 (show 64 + 5 * k < 99 by omega), in99 (show 64 + 5 * k + 1 < 99 by omega), in99 (show 64 + 5 * k + 2 < 99 by omega), cl10 (show 64 + 5 * k < 10000 by omega), cl10 (show 64 + 5 * k + 1 < 10000 by omega), cl10 (show 64 + 5 * k + 2 < 10000 by omega), q34, upS_ne (show ¬ (31 = 43 ∧ 0 = 0) by decide), q31, lG, hx, hy]
/-- all is taken over -/
theorem sp_takesAll {C N G : Nat} {ct ow fd kd pt : F1} (hv : VD C N G ct ow fd kd pt) (hd : DM σ C N G ct ow fd kd pt) :
    ∃ τ, (∀ fs Q, Rn mX8_takesAll 0 [.ref (ad 29 0), .null] [] fs (enc σ) Q ↔ Rt fs (enc τ) none Q) ∧ (∀ k i, ¬ (31 ≤ k ∧ k ≤ 36) → ¬ k = 43 → τ k i = σ k i) ∧ (τ 31 0 0 = nI C ∧ τ 31 0 1 = nI N ∧ τ 31 0 2 = nI G) ∧ (∀ j, j < C → τ 32 0 j = ct j) ∧ (∀ h, h < N → τ 33 0 h = ow h) ∧ (∀ g, g < G → τ 35 0 g = kd g ∧ τ 36 0 g = pt g) ∧ NWp N G fd (τ 43 0) := by
  have hC := hv.1
  have hN := hv.2.1
  have hG := hv.2.2.1
  obtain ⟨τ1, a1, a2, a3⟩ := lp_t31 3 0 σ (by omega) (fun j hj => absurd hj (Nat.not_lt_zero _))
  obtain ⟨τ2, b1, b2, b3⟩ := lp_t32 12 0 τ1 (by omega) (fun j hj => absurd hj (Nat.not_lt_zero _))
  obtain ⟨τ3, d1, d2, d3⟩ := lp_t43 99 0 τ2 (by omega) (fun j hj => absurd hj (Nat.not_lt_zero _))
  have f3 : ∀ k i, ¬ k = 31 → ¬ k = 32 → ¬ k = 43 → τ3 k i = σ k i := fun k i c1 c2 c3 => by rw [d2 k i c3, b2 k i c2, a2 k i c1]
  have e31 : ∀ j, j < 3 → τ3 31 0 j = σ 37 0 j := fun j hj => by rw [d2 31 0 (by decide), b2 31 0 (by decide), a3 j hj]
  have e32 : ∀ j, j < 12 → τ3 32 0 j = σ 38 0 j := fun j hj => by rw [d2 32 0 (by decide), b3 j hj, a2 38 0 (by decide)]
  obtain ⟨τ4, g1, g2, g3, g4, g5⟩ := lp_t7 (G := G) (by omega) 7 0 τ3 (by omega) (by rw [e31 2 (by omega)]; exact hd.1.2.2) (fun h hh => absurd hh (Nat.not_lt_zero _)) (fun a ha => d3 a (by omega)) (fun h hh => ⟨d3 _ (by omega), d3 _ (by omega)⟩)
  have f4 : ∀ k i, ¬ (31 ≤ k ∧ k ≤ 36) → ¬ k = 43 → τ4 k i = σ k i := fun k i c1 c2 => by rw [g2 k i (by omega) (by omega) (by omega) (by omega) c2, f3 k i (by omega) (by omega) c2]
  have f31 : τ4 31 0 = τ3 31 0 := g2 31 0 (by decide) (by decide) (by decide) (by decide) (by decide)
  have f32 : τ4 32 0 = τ3 32 0 := g2 32 0 (by decide) (by decide) (by decide) (by decide) (by decide)
  refine ⟨τ4, fun fs Q => ?_, f4, ⟨by rw [f31, e31 0 (by omega)]; exact hd.1.1, by rw [f31, e31 1 (by omega)]; exact hd.1.2.1, by rw [f31, e31 2 (by omega)]; exact hd.1.2.2⟩, fun j hj => by rw [f32, e32 j (by omega)]; exact hd.2.1 j hj, fun h hh => ?_, fun g hg => ?_, g4, fun h hh => ?_⟩
  · have a1' := a1 fs Q
    have b1' := b1 fs Q
    have d1' := d1 fs Q
    have g1' := g1 fs Q
    rw [nI_0] at a1' b1' d1' g1'
    simp only [aX8_takesAll_0, aX8_takesAll_1, Nat.zero_le, Nat.reduceLeDiff, Nat.reduceAdd, i1_0, rr_c3, zc9, oc9, zc10, oc10, zc11, oc11, zc12, oc12, zc13, oc13, zc15, oc15, Int32.lt_irrefl, Nat.zero_lt_one, Rt_cons, Rt_void, isB_0, isB_1, isB_b, true_and, and_true, cats_nil, cats_int, cats_ref, and_self, if_true, if_false, ite_self, le_nlt, ite_not]
    rw [a1']
    simp only [aX8_takesAll_25, aX8_takesAll_26, Nat.zero_le, Nat.reduceLeDiff, Nat.reduceAdd, i1_0, rr_c3, zc9, oc9, zc10, oc10, zc11, oc11, zc12, oc12, zc13, oc13, zc15, oc15, Int32.lt_irrefl, Nat.zero_lt_one, Rt_cons, Rt_void, isB_0, isB_1, isB_b, true_and, and_true, cats_nil, cats_int, cats_ref, and_self, if_true, if_false, ite_self, le_nlt, ite_not]
    rw [b1']
    simp only [aX8_takesAll_51, aX8_takesAll_52, Nat.zero_le, Nat.reduceLeDiff, Nat.reduceAdd, i1_0, rr_c3, zc9, oc9, zc10, oc10, zc11, oc11, zc12, oc12, zc13, oc13, zc15, oc15, Int32.lt_irrefl, Nat.zero_lt_one, Rt_cons, Rt_void, isB_0, isB_1, isB_b, true_and, and_true, cats_nil, cats_int, cats_ref, and_self, if_true, if_false, ite_self, le_nlt, ite_not]
    rw [d1']
    simp only [aX8_takesAll_72, aX8_takesAll_73, Nat.zero_le, Nat.reduceLeDiff, Nat.reduceAdd, i1_0, rr_c3, zc9, oc9, zc10, oc10, zc11, oc11, zc12, oc12, zc13, oc13, zc15, oc15, Int32.lt_irrefl, Nat.zero_lt_one, Rt_cons, Rt_void, isB_0, isB_1, isB_b, true_and, and_true, cats_nil, cats_int, cats_ref, and_self, if_true, if_false, ite_self, le_nlt, ite_not]
    rw [g1']
  · rw [(g3 h (by omega)).1, f4 39 0 (by omega) (by decide)]; exact (hd.2.2.1 h hh).1
  · rw [(g3 g (by omega)).2.2.1, (g3 g (by omega)).2.2.2.1, f4 41 0 (by omega) (by decide), f4 42 0 (by omega) (by decide)]; exact hd.2.2.2.2 g hg
  · obtain ⟨_, _, _, _, t5, t6, t7⟩ := g3 h hh
    refine ⟨?_, t6, t7, (g5 h hh).1, (g5 h hh).2⟩
    rw [t5, f4 40 0 (by omega) (by decide)]
    by_cases z : h < N
    · rw [if_pos z]; exact (hd.2.2.1 h z).2
    · rw [if_neg z]; exact hd.2.2.2.1 h (by omega) hh
end S88
