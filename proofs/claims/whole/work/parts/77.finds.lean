-- gales: the machine
section S77
variable {σ : Mem} {fs : List Fm} {M : List va_E} {Q : List va_E → Option Value → Prop}
theorem d10 {p : Nat} (hp : p < 100) : nI p / 10 = nI (p / 10) ∧ nI p - nI (p / 10) * 10 = nI (p % 10) := by
  have h : nI p / 10 = nI (p / 10) := pk_div (d := 10) (by omega) (by omega) (by omega)
  refine ⟨h, ?_⟩
  rw [← h]
  exact pk_rem (d := 10) (by omega) (by omega) (by omega)
theorem e99 {p : Nat} (hp : p < 100) : nI p = 99 ↔ p = 99 := nI_eq (b := 99) (by omega) (by decide)
theorem sp_gullThen {i h p : Nat} {w : Nat → Int32} (hi : i < 34) (hh : h < 7) (hp : p < 100) (hc : CS σ i w) : Rn mX1_gullThen 0 [.ref (ad 9 i), .int (nI p), .int (nI h), .null] [] fs (enc σ) Q ↔ Rt fs (enc σ) (some (.int (swp p (w (64 + 5 * h + 2))))) Q := by
  have c9 : i < cnt 9 := hi
  have c10 : i < cnt 10 := hi
  have c11 : i < cnt 11 := hi
  have c12 : i < cnt 12 := hi
  have c13 : i < cnt 13 := hi
  have c15 : i < cnt 15 := hi
  have ck := hc.2.2.2.2.2 h hh
  have n10 : ¬ (10 : Int32) = 0 := by decide
  unfold swp
  by_cases q : p = 99
  · rw [if_pos q]
    simp only [aX1_gullThen_0, aX1_gullThen_1, aX1_gullThen_4, aX1_gullThen_5, aX1_gullThen_6, aX1_gullThen_7, aX1_gullThen_8, aX1_gullThen_10, aX1_gullThen_13, aX1_gullThen_14, Nat.zero_le, Nat.reduceLeDiff, Nat.reduceAdd, i1_0, rr_c3, zc9, oc9, zc10, oc10, zc11, oc11, zc12, oc12, zc13, oc13, zc15, oc15, Int32.lt_irrefl, Nat.zero_lt_one, Rt_cons, Rt_void, isB_0, isB_1, isB_b, true_and, and_true, cats_nil, cats_int, cats_ref, and_self, if_true, if_false, ite_self, le_nlt, ite_not, c9, c10, c11, c12, c13, c15, aT_10, aT_11, aT_12, aT_13, aT_15, aN_10, aN_11, aN_12, aN_13, aN_15, in7 hh, cl10 (show h < 10000 by omega), ck.2.1, (e99 hp).mpr q, not_true_eq_false]
  · have q' : ¬ nI p = 99 := fun z => q ((e99 hp).mp z)
    rw [if_neg q]
    by_cases q1 : w (64 + 5 * h + 2) = nI (p / 10)
    · rw [if_pos q1]
      simp only [aX1_gullThen_0, aX1_gullThen_1, aX1_gullThen_4, aX1_gullThen_5, aX1_gullThen_6, aX1_gullThen_7, aX1_gullThen_8, aX1_gullThen_10, aX1_gullThen_13, aX1_gullThen_14, aX1_gullThen_15, aX1_gullThen_16, aX1_gullThen_17, aX1_gullThen_19, aX1_gullThen_20, aX1_gullThen_23, aX1_gullThen_24, aX1_gullThen_26, aX1_gullThen_27, Nat.zero_le, Nat.reduceLeDiff, Nat.reduceAdd, i1_0, rr_c3, zc9, oc9, zc10, oc10, zc11, oc11, zc12, oc12, zc13, oc13, zc15, oc15, Int32.lt_irrefl, Nat.zero_lt_one, Rt_cons, Rt_void, isB_0, isB_1, isB_b, true_and, and_true, cats_nil, cats_int, cats_ref, and_self, if_true, if_false, ite_self, le_nlt, ite_not, c9, c10, c11, c12, c13, c15, aT_10, aT_11, aT_12, aT_13, aT_15, aN_10, aN_11, aN_12, aN_13, aN_15, in7 hh, cl10 (show h < 10000 by omega), ck.2.1, q', n10, not_false_eq_true, (d10 hp).1, (d10 hp).2, q1, not_true_eq_false]
    · rw [if_neg q1]
      by_cases q2 : w (64 + 5 * h + 2) = nI (p % 10)
      · rw [if_pos q2]
        have q1' : ¬ nI (p % 10) = nI (p / 10) := by rw [← q2]; exact q1
        simp only [aX1_gullThen_0, aX1_gullThen_1, aX1_gullThen_4, aX1_gullThen_5, aX1_gullThen_6, aX1_gullThen_7, aX1_gullThen_8, aX1_gullThen_10, aX1_gullThen_13, aX1_gullThen_14, aX1_gullThen_15, aX1_gullThen_16, aX1_gullThen_17, aX1_gullThen_19, aX1_gullThen_20, aX1_gullThen_23, aX1_gullThen_24, aX1_gullThen_26, aX1_gullThen_27, aX1_gullThen_28, aX1_gullThen_29, aX1_gullThen_30, aX1_gullThen_32, aX1_gullThen_33, aX1_gullThen_36, aX1_gullThen_37, aX1_gullThen_39, aX1_gullThen_40, aX1_gullThen_43, aX1_gullThen_44, Nat.zero_le, Nat.reduceLeDiff, Nat.reduceAdd, i1_0, rr_c3, zc9, oc9, zc10, oc10, zc11, oc11, zc12, oc12, zc13, oc13, zc15, oc15, Int32.lt_irrefl, Nat.zero_lt_one, Rt_cons, Rt_void, isB_0, isB_1, isB_b, true_and, and_true, cats_nil, cats_int, cats_ref, and_self, if_true, if_false, ite_self, le_nlt, ite_not, c9, c10, c11, c12, c13, c15, aT_10, aT_11, aT_12, aT_13, aT_15, aN_10, aN_11, aN_12, aN_13, aN_15, in7 hh, cl10 (show h < 10000 by omega), ck.2.1, q', n10, not_false_eq_true, (d10 hp).1, (d10 hp).2, q2, q1', not_true_eq_false]
      · rw [if_neg q2]
        simp only [aX1_gullThen_0, aX1_gullThen_1, aX1_gullThen_4, aX1_gullThen_5, aX1_gullThen_6, aX1_gullThen_7, aX1_gullThen_8, aX1_gullThen_10, aX1_gullThen_13, aX1_gullThen_14, aX1_gullThen_15, aX1_gullThen_16, aX1_gullThen_17, aX1_gullThen_19, aX1_gullThen_20, aX1_gullThen_23, aX1_gullThen_24, aX1_gullThen_26, aX1_gullThen_27, aX1_gullThen_28, aX1_gullThen_29, aX1_gullThen_30, aX1_gullThen_32, aX1_gullThen_33, aX1_gullThen_36, aX1_gullThen_37, aX1_gullThen_39, aX1_gullThen_40, aX1_gullThen_43, aX1_gullThen_44, Nat.zero_le, Nat.reduceLeDiff, Nat.reduceAdd, i1_0, rr_c3, zc9, oc9, zc10, oc10, zc11, oc11, zc12, oc12, zc13, oc13, zc15, oc15, Int32.lt_irrefl, Nat.zero_lt_one, Rt_cons, Rt_void, isB_0, isB_1, isB_b, true_and, and_true, cats_nil, cats_int, cats_ref, and_self, if_true, if_false, ite_self, le_nlt, ite_not, c9, c10, c11, c12, c13, c15, aT_10, aT_11, aT_12, aT_13, aT_15, aN_10, aN_11, aN_12, aN_13, aN_15, in7 hh, cl10 (show h < 10000 by omega), ck.2.1, q', n10, not_false_eq_true, (d10 hp).1, (d10 hp).2, q1, q2]
theorem sp_wasAt {N p : Nat} {x : Int32} (hN : N ≤ 7) (hp : p < 100) (e : σ 31 0 1 = nI N) : Rn mX8_wasAt 0 [.ref (ad 29 0), .int x, .int (nI p), .null, .null] [] fs (enc σ) Q ↔ Rt fs (enc σ) (some (.int (hoW N (σ 43 0) (swp p x)))) Q := by
  have n10 : ¬ (10 : Int32) = 0 := by decide
  unfold swp
  by_cases q : p = 99
  · rw [if_pos q]
    simp only [aX8_wasAt_0, aX8_wasAt_1, aX8_wasAt_3, aX8_wasAt_4, aX8_wasAt_5, aX8_wasAt_6, aX8_wasAt_8, aX8_wasAt_9, aX8_wasAt_11, aX8_wasAt_12, aX8_wasAt_14, aX8_wasAt_17, aX8_wasAt_18, aX8_wasAt_19, aX8_wasAt_22, aX8_wasAt_23, aX8_wasAt_25, aX8_wasAt_28, aX8_wasAt_29, aX8_wasAt_30, aX8_wasAt_33, aX8_wasAt_36, aX8_wasAt_37, aX8_wasAt_38, aX8_wasAt_39, aX8_wasAt_42, aX8_wasAt_44, aX8_wasAt_47, aX8_wasAt_48, aX8_wasAt_51, sp_holds hN e, Nat.zero_le, Nat.reduceLeDiff, Nat.reduceAdd, i1_0, rr_c3, zc9, oc9, zc10, oc10, zc11, oc11, zc12, oc12, zc13, oc13, zc15, oc15, Int32.lt_irrefl, Nat.zero_lt_one, Rt_cons, Rt_void, isB_0, isB_1, isB_b, true_and, and_true, cats_nil, cats_int, cats_ref, and_self, if_true, if_false, ite_self, le_nlt, ite_not, n10, not_false_eq_true, (e99 hp).mpr q]
  · have q' : ¬ nI p = 99 := fun z => q ((e99 hp).mp z)
    rw [if_neg q]
    by_cases q1 : x = nI (p / 10)
    · rw [if_pos q1]
      simp only [aX8_wasAt_0, aX8_wasAt_1, aX8_wasAt_3, aX8_wasAt_4, aX8_wasAt_5, aX8_wasAt_6, aX8_wasAt_8, aX8_wasAt_9, aX8_wasAt_11, aX8_wasAt_12, aX8_wasAt_14, aX8_wasAt_17, aX8_wasAt_18, aX8_wasAt_19, aX8_wasAt_22, aX8_wasAt_23, aX8_wasAt_25, aX8_wasAt_28, aX8_wasAt_29, aX8_wasAt_30, aX8_wasAt_33, aX8_wasAt_36, aX8_wasAt_37, aX8_wasAt_38, aX8_wasAt_39, aX8_wasAt_42, aX8_wasAt_44, aX8_wasAt_47, aX8_wasAt_48, aX8_wasAt_51, sp_holds hN e, Nat.zero_le, Nat.reduceLeDiff, Nat.reduceAdd, i1_0, rr_c3, zc9, oc9, zc10, oc10, zc11, oc11, zc12, oc12, zc13, oc13, zc15, oc15, Int32.lt_irrefl, Nat.zero_lt_one, Rt_cons, Rt_void, isB_0, isB_1, isB_b, true_and, and_true, cats_nil, cats_int, cats_ref, and_self, if_true, if_false, ite_self, le_nlt, ite_not, q', n10, not_false_eq_true, (d10 hp).1, (d10 hp).2, q1, not_true_eq_false]
    · rw [if_neg q1]
      by_cases q2 : x = nI (p % 10)
      · have q1' : ¬ nI (p % 10) = nI (p / 10) := by rw [← q2]; exact q1
        rw [if_pos q2]
        simp only [aX8_wasAt_0, aX8_wasAt_1, aX8_wasAt_3, aX8_wasAt_4, aX8_wasAt_5, aX8_wasAt_6, aX8_wasAt_8, aX8_wasAt_9, aX8_wasAt_11, aX8_wasAt_12, aX8_wasAt_14, aX8_wasAt_17, aX8_wasAt_18, aX8_wasAt_19, aX8_wasAt_22, aX8_wasAt_23, aX8_wasAt_25, aX8_wasAt_28, aX8_wasAt_29, aX8_wasAt_30, aX8_wasAt_33, aX8_wasAt_36, aX8_wasAt_37, aX8_wasAt_38, aX8_wasAt_39, aX8_wasAt_42, aX8_wasAt_44, aX8_wasAt_47, aX8_wasAt_48, aX8_wasAt_51, sp_holds hN e, Nat.zero_le, Nat.reduceLeDiff, Nat.reduceAdd, i1_0, rr_c3, zc9, oc9, zc10, oc10, zc11, oc11, zc12, oc12, zc13, oc13, zc15, oc15, Int32.lt_irrefl, Nat.zero_lt_one, Rt_cons, Rt_void, isB_0, isB_1, isB_b, true_and, and_true, cats_nil, cats_int, cats_ref, and_self, if_true, if_false, ite_self, le_nlt, ite_not, q', n10, not_false_eq_true, (d10 hp).1, (d10 hp).2, q2, q1', not_true_eq_false]
      · rw [if_neg q2]
        simp only [aX8_wasAt_0, aX8_wasAt_1, aX8_wasAt_3, aX8_wasAt_4, aX8_wasAt_5, aX8_wasAt_6, aX8_wasAt_8, aX8_wasAt_9, aX8_wasAt_11, aX8_wasAt_12, aX8_wasAt_14, aX8_wasAt_17, aX8_wasAt_18, aX8_wasAt_19, aX8_wasAt_22, aX8_wasAt_23, aX8_wasAt_25, aX8_wasAt_28, aX8_wasAt_29, aX8_wasAt_30, aX8_wasAt_33, aX8_wasAt_36, aX8_wasAt_37, aX8_wasAt_38, aX8_wasAt_39, aX8_wasAt_42, aX8_wasAt_44, aX8_wasAt_47, aX8_wasAt_48, aX8_wasAt_51, sp_holds hN e, Nat.zero_le, Nat.reduceLeDiff, Nat.reduceAdd, i1_0, rr_c3, zc9, oc9, zc10, oc10, zc11, oc11, zc12, oc12, zc13, oc13, zc15, oc15, Int32.lt_irrefl, Nat.zero_lt_one, Rt_cons, Rt_void, isB_0, isB_1, isB_b, true_and, and_true, cats_nil, cats_int, cats_ref, and_self, if_true, if_false, ite_self, le_nlt, ite_not, q', n10, not_false_eq_true, (d10 hp).1, (d10 hp).2, q1, q2]
/-- what is heard, in the class -/
def HrC (σ : Mem) (G N c : Nat) : Prop := σ 20 0 3 = nI c ∧ c ≤ 6 ∧ ∀ j, j < c → ∃ g h : Nat, g < G ∧ h < N ∧ σ 21 0 j = nI g ∧ σ 22 0 j = nI h ∧ (σ 23 0 j = 0 ∨ σ 23 0 j = 1)
theorem lp_add {N G c p : Nat} {w : Nat → Int32} (hN : N ≤ 7) (hp : p < 100) (hr : HrC σ G N c) (hc : CS σ 0 w) : ∀ m j (l4 : Value), j + m = c → okH w (σ 21 0) (σ 22 0) (σ 23 0) p j = true →
    ∃ l3 l4', (Rn mX1_addIfFitting 2 [.ref (ad 20 0), .ref (ad 9 0), .int (nI p), .int (nI j), l4] [] fs (enc σ) Q ↔ if okH w (σ 21 0) (σ 22 0) (σ 23 0) p c = true then Rn mX1_addIfFitting 55 [.ref (ad 20 0), .ref (ad 9 0), .int (nI p), l3, l4'] [] fs (enc σ) Q else Rt fs (enc σ) none Q) := by
  intro m
  induction m with
  | zero =>
    intro j l4 hj hok
    obtain rfl : j = c := by omega
    refine ⟨.int (nI j), l4, ?_⟩
    rw [if_pos hok]
    simp only [aX1_addIfFitting_2, aX1_addIfFitting_3, aX1_addIfFitting_4, aX1_addIfFitting_7, Nat.zero_le, Nat.reduceLeDiff, Nat.reduceAdd, i1_0, rr_c3, zc9, oc9, zc10, oc10, zc11, oc11, zc12, oc12, zc13, oc13, zc15, oc15, Int32.lt_irrefl, Nat.zero_lt_one, Rt_cons, Rt_void, isB_0, isB_1, isB_b, true_and, and_true, cats_nil, cats_int, cats_ref, and_self, if_true, if_false, ite_self, le_nlt, ite_not, hr.1]
  | succ m ih =>
    intro j l4 hj hok
    obtain ⟨g, h, g1, h1, e21, e22, e23⟩ := hr.2.2 j (by omega)
    have h6 := hr.2.1
    have l : nI j < nI c := nI_lt (by omega) (by omega)
    have v6 : vp_in (nI j) 6 := vp_in_nI (by omega) (by decide)
    have cl := cl10 (show j < 10000 by omega)
    have gt := fun fs Q => sp_gullThen (σ := σ) (fs := fs) (Q := Q) (show 0 < 34 by decide) (show h < 7 by omega) hp hc
    have hh : hrd w (σ 21 0) (σ 22 0) (σ 23 0) p j = (decide (swp p (w (64 + 5 * h + 2)) = nI g) == decide (σ 23 0 j = 1)) := by
      unfold hrd
      rw [e21, e22, nI_clamp (show h < 2 ^ 31 by omega)]
    have es := okH_s w (σ 21 0) (σ 22 0) (σ 23 0) p j
    rw [hok, hh, Bool.true_and] at es
    have n01 : ¬ (0 : Int32) = 1 := by decide
    have n10 : ¬ (1 : Int32) = 0 := by decide
    by_cases q : swp p (w (64 + 5 * h + 2)) = nI g
    · rcases e23 with z | z
      · have hf : okH w (σ 21 0) (σ 22 0) (σ 23 0) p (j + 1) = false := by rw [es]; simp [q, z]
        have hf' := okH_f hf (m := m)
        rw [show j + 1 + m = c by omega] at hf'
        refine ⟨l4, l4, ?_⟩
        rw [if_neg (by rw [hf']; decide), aX1_addIfFitting_2]
        simp only [aX1_addIfFitting_3, aX1_addIfFitting_4, aX1_addIfFitting_7, aX1_addIfFitting_10, aX1_addIfFitting_11, aX1_addIfFitting_12, aX1_addIfFitting_13, aX1_addIfFitting_16, aX1_addIfFitting_17, aX1_addIfFitting_18, aX1_addIfFitting_21, aX1_addIfFitting_22, aX1_addIfFitting_25, aX1_addIfFitting_26, aX1_addIfFitting_27, aX1_addIfFitting_30, aX1_addIfFitting_31, aX1_addIfFitting_34, aX1_addIfFitting_35, aX1_addIfFitting_37, aX1_addIfFitting_39, aX1_addIfFitting_40, aX1_addIfFitting_43, aX1_addIfFitting_44, aX1_addIfFitting_45, aX1_addIfFitting_48, gt, Nat.zero_le, Nat.reduceLeDiff, Nat.reduceAdd, i1_0, rr_c3, zc9, oc9, zc10, oc10, zc11, oc11, zc12, oc12, zc13, oc13, zc15, oc15, Int32.lt_irrefl, Nat.zero_lt_one, Rt_cons, Rt_void, isB_0, isB_1, isB_b, true_and, and_true, cats_nil, cats_int, cats_ref, and_self, if_true, if_false, ite_self, le_nlt, ite_not, hr.1, l, aT_22, aN_22, cnt_22, aT_21, aN_21, cnt_21, aT_23, aN_23, cnt_23, v6, cl, e21, e22, q, z, n10, not_true_eq_false, not_false_eq_true]
      · obtain ⟨l3, l4', ih'⟩ := ih (j + 1) (.int 1) (by omega) (by rw [es]; simp [q, z])
        refine ⟨l3, l4', ?_⟩
        rw [← ih', aX1_addIfFitting_2]
        simp only [aX1_addIfFitting_3, aX1_addIfFitting_4, aX1_addIfFitting_7, aX1_addIfFitting_10, aX1_addIfFitting_11, aX1_addIfFitting_12, aX1_addIfFitting_13, aX1_addIfFitting_16, aX1_addIfFitting_17, aX1_addIfFitting_18, aX1_addIfFitting_21, aX1_addIfFitting_22, aX1_addIfFitting_25, aX1_addIfFitting_26, aX1_addIfFitting_27, aX1_addIfFitting_30, aX1_addIfFitting_31, aX1_addIfFitting_34, aX1_addIfFitting_35, aX1_addIfFitting_37, aX1_addIfFitting_39, aX1_addIfFitting_40, aX1_addIfFitting_43, aX1_addIfFitting_44, aX1_addIfFitting_45, aX1_addIfFitting_48, aX1_addIfFitting_49, aX1_addIfFitting_52, gt, Nat.zero_le, Nat.reduceLeDiff, Nat.reduceAdd, i1_0, rr_c3, zc9, oc9, zc10, oc10, zc11, oc11, zc12, oc12, zc13, oc13, zc15, oc15, Int32.lt_irrefl, Nat.zero_lt_one, Rt_cons, Rt_void, isB_0, isB_1, isB_b, true_and, and_true, cats_nil, cats_int, cats_ref, and_self, if_true, if_false, ite_self, le_nlt, ite_not, hr.1, l, aT_22, aN_22, cnt_22, aT_21, aN_21, cnt_21, aT_23, aN_23, cnt_23, v6, cl, e21, e22, q, z, not_true_eq_false, nI_1]
    · rcases e23 with z | z
      · obtain ⟨l3, l4', ih'⟩ := ih (j + 1) (.int 0) (by omega) (by rw [es]; simp [q, z])
        refine ⟨l3, l4', ?_⟩
        rw [← ih', aX1_addIfFitting_2]
        simp only [aX1_addIfFitting_3, aX1_addIfFitting_4, aX1_addIfFitting_7, aX1_addIfFitting_10, aX1_addIfFitting_11, aX1_addIfFitting_12, aX1_addIfFitting_13, aX1_addIfFitting_16, aX1_addIfFitting_17, aX1_addIfFitting_18, aX1_addIfFitting_21, aX1_addIfFitting_22, aX1_addIfFitting_25, aX1_addIfFitting_26, aX1_addIfFitting_27, aX1_addIfFitting_30, aX1_addIfFitting_31, aX1_addIfFitting_34, aX1_addIfFitting_35, aX1_addIfFitting_37, aX1_addIfFitting_39, aX1_addIfFitting_40, aX1_addIfFitting_43, aX1_addIfFitting_44, aX1_addIfFitting_45, aX1_addIfFitting_48, aX1_addIfFitting_49, aX1_addIfFitting_52, gt, Nat.zero_le, Nat.reduceLeDiff, Nat.reduceAdd, i1_0, rr_c3, zc9, oc9, zc10, oc10, zc11, oc11, zc12, oc12, zc13, oc13, zc15, oc15, Int32.lt_irrefl, Nat.zero_lt_one, Rt_cons, Rt_void, isB_0, isB_1, isB_b, true_and, and_true, cats_nil, cats_int, cats_ref, and_self, if_true, if_false, ite_self, le_nlt, ite_not, hr.1, l, aT_22, aN_22, cnt_22, aT_21, aN_21, cnt_21, aT_23, aN_23, cnt_23, v6, cl, e21, e22, q, z, not_false_eq_true, nI_1]
      · have hf : okH w (σ 21 0) (σ 22 0) (σ 23 0) p (j + 1) = false := by rw [es]; simp [q, z]
        have hf' := okH_f hf (m := m)
        rw [show j + 1 + m = c by omega] at hf'
        refine ⟨l4, l4, ?_⟩
        rw [if_neg (by rw [hf']; decide), aX1_addIfFitting_2]
        simp only [aX1_addIfFitting_3, aX1_addIfFitting_4, aX1_addIfFitting_7, aX1_addIfFitting_10, aX1_addIfFitting_11, aX1_addIfFitting_12, aX1_addIfFitting_13, aX1_addIfFitting_16, aX1_addIfFitting_17, aX1_addIfFitting_18, aX1_addIfFitting_21, aX1_addIfFitting_22, aX1_addIfFitting_25, aX1_addIfFitting_26, aX1_addIfFitting_27, aX1_addIfFitting_30, aX1_addIfFitting_31, aX1_addIfFitting_34, aX1_addIfFitting_35, aX1_addIfFitting_37, aX1_addIfFitting_39, aX1_addIfFitting_40, aX1_addIfFitting_43, aX1_addIfFitting_44, aX1_addIfFitting_45, aX1_addIfFitting_48, gt, Nat.zero_le, Nat.reduceLeDiff, Nat.reduceAdd, i1_0, rr_c3, zc9, oc9, zc10, oc10, zc11, oc11, zc12, oc12, zc13, oc13, zc15, oc15, Int32.lt_irrefl, Nat.zero_lt_one, Rt_cons, Rt_void, isB_0, isB_1, isB_b, true_and, and_true, cats_nil, cats_int, cats_ref, and_self, if_true, if_false, ite_self, le_nlt, ite_not, hr.1, l, aT_22, aN_22, cnt_22, aT_21, aN_21, cnt_21, aT_23, aN_23, cnt_23, v6, cl, e21, e22, q, z, n01, not_false_eq_true]
end S77
