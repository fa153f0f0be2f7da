theorem isJ_of {N : Nat} {h : Int32} (hN : N ≤ 1000) (hh : isH N h) : ∃ j : Nat, j < N ∧ h = nI j := by
  obtain ⟨j, hj, rfl⟩ := nI_of hh.1
  exact ⟨j, (nI_ltI hj (by omega)).mp hh.2, rfl⟩
theorem isJ_nI {N j : Nat} (hN : N ≤ 1000) (hj : j < N) : isH N (nI j) := ⟨nI_pos (by omega), nI_lt hj (by omega)⟩
theorem isJ_m {N : Nat} {h : Int32} (hN : N ≤ 1000) : (¬ h < 0 ∧ ¬ nI N - 1 < h) ↔ isH N h := by
  constructor
  · rintro ⟨a, b⟩
    refine ⟨a, ?_⟩
    obtain ⟨j, hj, rfl⟩ := nI_of a
    rcases Nat.lt_or_ge j N with q | q
    · exact nI_lt q (by omega)
    · exfalso
      apply b
      rw [Int32.lt_iff_toInt_lt, nI_toInt hj]
      have := pk_sub_toInt (a := N) (b := 1) (by omega) (by decide)
      have e : (nI N - 1).toInt = (N : Int) - 1 := this
      omega
  · rintro ⟨a, b⟩
    refine ⟨a, fun q => ?_⟩
    obtain ⟨j, hj, rfl⟩ := nI_of a
    have := (nI_ltI hj (by omega)).mp b
    rw [Int32.lt_iff_toInt_lt, nI_toInt hj] at q
    have e : (nI N - 1).toInt = (N : Int) - 1 := pk_sub_toInt (a := N) (b := 1) (by omega) (by decide)
    omega
section S54
variable {σ : Mem} {fs : List Fm} {M : List va_E} {Q : List va_E → Option Value → Prop}
theorem sp_standing {i j : Nat} {w : Nat → Int32} (hi : i < 34) (hj : j < 7) (h : Ch σ i w j) : Rn mX5_standing 0 [.ref (ad 9 i), .int (nI j)] [] fs (enc σ) Q ↔ Rt fs (enc σ) (some (.int (w (64 + 5 * j + 1)))) Q := by
  have c9 : i < cnt 9 := hi
  have c10 : i < cnt 10 := hi
  have c11 : i < cnt 11 := hi
  have c12 : i < cnt 12 := hi
  have c13 : i < cnt 13 := hi
  have c15 : i < cnt 15 := hi
  rw [h.2.2.2.2.2]
  simp only [aX5_standing_0, aX5_standing_1, aX5_standing_2, aX5_standing_5, aX5_standing_8, aX5_standing_9, aX5_standing_10, aX5_standing_11, aX5_standing_14, aX5_standing_15, aX5_standing_16, aX5_standing_17, aX5_standing_20, aX5_standing_21, aX5_standing_24, aX5_standing_25, sp_isEmpty hi hj, Nat.zero_le, Nat.reduceLeDiff, Nat.reduceAdd, i1_0, rr_c3, zc9, oc9, zc10, oc10, zc11, oc11, zc12, oc12, zc13, oc13, zc15, oc15, Int32.lt_irrefl, Nat.zero_lt_one, Rt_cons, Rt_void, isB_0, isB_1, isB_b, true_and, and_true, cats_nil, cats_int, cats_ref, and_self, if_true, if_false, ite_self, le_nlt, ite_not, c9, c10, c11, c12, c13, c15, aT_10, aT_11, aT_12, aT_13, aT_15, aN_10, aN_11, aN_12, aN_13, aN_15, in7 hj, cl10 (show j < 10000 by omega), bI_0]
  unfold std
  by_cases a : σ 14 i j = 0
  · by_cases b : σ 11 i j = -1 <;> simp [a, b]
  · simp [a]
theorem api_house (h x : Int32) : Sim Rel mX7_house mX8_house [.int h, .int x] := by
  refine Sim_of (Lc := [.ref (ad 0 0), .int h, .int x]) (Lm := [.ref (ad 29 0), .int h, .int x]) rfl rfl (fun σ hR => ?_)
  obtain ⟨r1, r2, C, N, G, r3, r4, r5, r6, r7⟩ := id hR
  obtain ⟨q1, q2, q3, q4, ⟨l0, l1, l2⟩, ⟨k0, k1, k2⟩, q5, q6, q7⟩ := id r3.1
  have hq := rr_lt (σ 9 0 0)
  have c5 : rr (σ 9 0 0) < cnt 5 := hq
  by_cases hH : isH N h
  · obtain ⟨j, hj, rfl⟩ := isH_of q2 hH
    have hj7 : j < 7 := by omega
    have ck := r3.2.2.1.2.2.2.2.2 j hj7
    by_cases ho : x < 0 ∨ 5 < x
    · refine ⟨σ, σ, -1000000002, ?_, ?_, hR⟩
      · have hd : x.toInt < 0 ∨ 5 < x.toInt := ho.imp (fun z => by
          have h5 : (0 : Int32).toInt = 0 := by decide
          have := Int32.lt_iff_toInt_lt.mp z
          omega) (fun z => by
          have h5 : (5 : Int32).toInt = 5 := by decide
          have := Int32.lt_iff_toInt_lt.mp z
          omega)
        simp only [aX7_house_0, aX7_house_1, aX7_house_4, aX7_house_7, aX7_house_8, aX7_house_11, aX7_house_14, aX7_house_16, aX7_house_17, sp_cHouse hq k1, Nat.zero_le, Nat.reduceLeDiff, Nat.reduceAdd, i1_0, rr_c3, zc9, oc9, zc10, oc10, zc11, oc11, zc12, oc12, zc13, oc13, zc15, oc15, Int32.lt_irrefl, Nat.zero_lt_one, Rt_cons, Rt_void, isB_0, isB_1, isB_b, true_and, and_true, cats_nil, cats_int, cats_ref, and_self, if_true, if_false, ite_self, le_nlt, ite_not, Rt_nil, bI_t hH, aX7_house_18_d hd, aX7_house_118, aX7_house_120]
      · simp only [aX8_house_0, aX8_house_1, aX8_house_2, aX8_house_5, aX8_house_8, aX8_house_10, aX8_house_11, aX8_house_12, aX8_house_13, aX8_house_14, aX8_house_17, aX8_house_20, aX8_house_22, sp_mHouse q2 l1, sp_in, Nat.zero_le, Nat.reduceLeDiff, Nat.reduceAdd, i1_0, rr_c3, zc9, oc9, zc10, oc10, zc11, oc11, zc12, oc12, zc13, oc13, zc15, oc15, Int32.lt_irrefl, Nat.zero_lt_one, Rt_cons, Rt_void, isB_0, isB_1, isB_b, true_and, and_true, cats_nil, cats_int, cats_ref, and_self, if_true, if_false, ite_self, le_nlt, ite_not, Rt_nil, bI_t hH, bI_f (show ¬ (¬ x < 0 ∧ ¬ 5 < x) from fun z => ho.elim z.1 z.2)]
    · have hin := not_out.mp ho
      obtain ⟨t, ht, rfl⟩ := nI_of2 (M := 5) (n := 5) (by decide) hin.1 (Int32.not_lt.mp hin.2)
      have cl := cl10 (show j < 10000 by omega)
      rcases (show t = 0 ∨ t = 1 ∨ t = 2 ∨ t = 3 ∨ t = 4 ∨ t = 5 by omega) with rfl | rfl | rfl | rfl | rfl | rfl
      · refine ⟨σ, σ, σ 33 0 j, ?_, ?_, hR⟩
        · rw [show nI 0 = 0 from rfl]
          simp only [aX7_house_0, aX7_house_1, aX7_house_4, aX7_house_7, aX7_house_8, aX7_house_11, aX7_house_14, aX7_house_16, aX7_house_17, sp_cHouse hq k1, Nat.zero_le, Nat.reduceLeDiff, Nat.reduceAdd, i1_0, rr_c3, zc9, oc9, zc10, oc10, zc11, oc11, zc12, oc12, zc13, oc13, zc15, oc15, Int32.lt_irrefl, Nat.zero_lt_one, Rt_cons, Rt_void, isB_0, isB_1, isB_b, true_and, and_true, cats_nil, cats_int, cats_ref, and_self, if_true, if_false, ite_self, le_nlt, ite_not, Rt_nil, bI_t hH, aX7_house_18_0, aX7_house_56, aX7_house_57, aX7_house_60, aX7_house_63, aX7_house_66, aX7_house_67, aX7_house_68, aT_5, aN_5, c5, in7 hj7, cl, (q6 j hj).1]
        · rw [show nI 0 = 0 from rfl] at hin ⊢
          simp only [aX8_house_0, aX8_house_1, aX8_house_2, aX8_house_5, aX8_house_8, aX8_house_10, aX8_house_11, aX8_house_12, aX8_house_13, aX8_house_14, aX8_house_17, aX8_house_20, aX8_house_22, aX8_house_23, aX8_house_24, aX8_house_27, aX8_house_28, aX8_house_31, aX8_house_32, aX8_house_33, aX8_house_36, aX8_house_37, aX8_house_40, aX8_house_42, aX8_house_43, aX8_house_44, aX8_house_45, aX8_house_46, aX8_house_47, aX8_house_48, aX8_house_49, aX8_house_50, aX8_house_51, sp_mHouse q2 l1, sp_in, Nat.zero_le, Nat.reduceLeDiff, Nat.reduceAdd, i1_0, rr_c3, zc9, oc9, zc10, oc10, zc11, oc11, zc12, oc12, zc13, oc13, zc15, oc15, Int32.lt_irrefl, Nat.zero_lt_one, Rt_cons, Rt_void, isB_0, isB_1, isB_b, true_and, and_true, cats_nil, cats_int, cats_ref, and_self, if_true, if_false, ite_self, le_nlt, ite_not, Rt_nil, bI_t hH, bI_t hin, not_true_eq_false, not_false_eq_true, bI_T, (show ((5 : Int32) < 0) = False from by decide), aT_33, aN_33, cnt_33, in7 hj7, cl]
      · refine ⟨σ, σ, σ 43 0 (64 + 5 * j), ?_, ?_, hR⟩
        · rw [show nI 1 = 1 from rfl]
          simp only [aX7_house_0, aX7_house_1, aX7_house_4, aX7_house_7, aX7_house_8, aX7_house_11, aX7_house_14, aX7_house_16, aX7_house_17, sp_cHouse hq k1, Nat.zero_le, Nat.reduceLeDiff, Nat.reduceAdd, i1_0, rr_c3, zc9, oc9, zc10, oc10, zc11, oc11, zc12, oc12, zc13, oc13, zc15, oc15, Int32.lt_irrefl, Nat.zero_lt_one, Rt_cons, Rt_void, isB_0, isB_1, isB_b, true_and, and_true, cats_nil, cats_int, cats_ref, and_self, if_true, if_false, ite_self, le_nlt, ite_not, Rt_nil, bI_t hH, aX7_house_18_1, aX7_house_69, aX7_house_70, aX7_house_73, aX7_house_76, aX7_house_77, aX7_house_78, aT_10, aN_10, in7 hj7, cl, ck.1]
        · have e : ¬ nI 1 = 0 := by decide
          have e2 : nI (64 + 5 * j) + nI 1 - 1 = nI (64 + 5 * j) := by rw [nI_add, show (1 : Int32) = nI 1 from rfl, pk_sub (by omega)]; congr 1
          simp only [aX8_house_0, aX8_house_1, aX8_house_2, aX8_house_5, aX8_house_8, aX8_house_10, aX8_house_11, aX8_house_12, aX8_house_13, aX8_house_14, aX8_house_17, aX8_house_20, aX8_house_22, aX8_house_23, aX8_house_24, aX8_house_27, aX8_house_28, aX8_house_31, aX8_house_32, aX8_house_33, aX8_house_36, aX8_house_37, aX8_house_40, aX8_house_42, aX8_house_43, aX8_house_44, aX8_house_45, aX8_house_46, aX8_house_47, aX8_house_48, aX8_house_49, aX8_house_50, aX8_house_51, sp_mHouse q2 l1, sp_in, Nat.zero_le, Nat.reduceLeDiff, Nat.reduceAdd, i1_0, rr_c3, zc9, oc9, zc10, oc10, zc11, oc11, zc12, oc12, zc13, oc13, zc15, oc15, Int32.lt_irrefl, Nat.zero_lt_one, Rt_cons, Rt_void, isB_0, isB_1, isB_b, true_and, and_true, cats_nil, cats_int, cats_ref, and_self, if_true, if_false, ite_self, le_nlt, ite_not, Rt_nil, bI_t hH, bI_t hin, e, not_false_eq_true, aT_43, aN_43, cnt_43, n5, n64, e2, in99 (show 64 + 5 * j < 99 by omega), cl10 (show 64 + 5 * j < 10000 by omega)]
      · refine ⟨σ, σ, σ 43 0 (64 + 5 * j + 1), ?_, ?_, hR⟩
        · rw [show nI 2 = 2 from rfl]
          simp only [aX7_house_0, aX7_house_1, aX7_house_4, aX7_house_7, aX7_house_8, aX7_house_11, aX7_house_14, aX7_house_16, aX7_house_17, sp_cHouse hq k1, Nat.zero_le, Nat.reduceLeDiff, Nat.reduceAdd, i1_0, rr_c3, zc9, oc9, zc10, oc10, zc11, oc11, zc12, oc12, zc13, oc13, zc15, oc15, Int32.lt_irrefl, Nat.zero_lt_one, Rt_cons, Rt_void, isB_0, isB_1, isB_b, true_and, and_true, cats_nil, cats_int, cats_ref, and_self, if_true, if_false, ite_self, le_nlt, ite_not, Rt_nil, bI_t hH, aX7_house_18_2, aX7_house_79, aX7_house_80, aX7_house_83, aX7_house_84, aX7_house_87, sp_standing (show 0 < 34 by decide) hj7 (w := σ 43 0) ck]
        · have e : ¬ nI 2 = 0 := by decide
          have e2 : nI (64 + 5 * j) + nI 2 - 1 = nI (64 + 5 * j + 1) := by rw [nI_add, show (1 : Int32) = nI 1 from rfl, pk_sub (by omega)]; congr 1
          simp only [aX8_house_0, aX8_house_1, aX8_house_2, aX8_house_5, aX8_house_8, aX8_house_10, aX8_house_11, aX8_house_12, aX8_house_13, aX8_house_14, aX8_house_17, aX8_house_20, aX8_house_22, aX8_house_23, aX8_house_24, aX8_house_27, aX8_house_28, aX8_house_31, aX8_house_32, aX8_house_33, aX8_house_36, aX8_house_37, aX8_house_40, aX8_house_42, aX8_house_43, aX8_house_44, aX8_house_45, aX8_house_46, aX8_house_47, aX8_house_48, aX8_house_49, aX8_house_50, aX8_house_51, sp_mHouse q2 l1, sp_in, Nat.zero_le, Nat.reduceLeDiff, Nat.reduceAdd, i1_0, rr_c3, zc9, oc9, zc10, oc10, zc11, oc11, zc12, oc12, zc13, oc13, zc15, oc15, Int32.lt_irrefl, Nat.zero_lt_one, Rt_cons, Rt_void, isB_0, isB_1, isB_b, true_and, and_true, cats_nil, cats_int, cats_ref, and_self, if_true, if_false, ite_self, le_nlt, ite_not, Rt_nil, bI_t hH, bI_t hin, e, not_false_eq_true, aT_43, aN_43, cnt_43, n5, n64, e2, in99 (show 64 + 5 * j + 1 < 99 by omega), cl10 (show 64 + 5 * j + 1 < 10000 by omega)]
      · refine ⟨σ, σ, σ 43 0 (64 + 5 * j + 2), ?_, ?_, hR⟩
        · rw [show nI 3 = 3 from rfl]
          simp only [aX7_house_0, aX7_house_1, aX7_house_4, aX7_house_7, aX7_house_8, aX7_house_11, aX7_house_14, aX7_house_16, aX7_house_17, sp_cHouse hq k1, Nat.zero_le, Nat.reduceLeDiff, Nat.reduceAdd, i1_0, rr_c3, zc9, oc9, zc10, oc10, zc11, oc11, zc12, oc12, zc13, oc13, zc15, oc15, Int32.lt_irrefl, Nat.zero_lt_one, Rt_cons, Rt_void, isB_0, isB_1, isB_b, true_and, and_true, cats_nil, cats_int, cats_ref, and_self, if_true, if_false, ite_self, le_nlt, ite_not, Rt_nil, bI_t hH, aX7_house_18_3, aX7_house_88, aX7_house_89, aX7_house_92, aX7_house_95, aX7_house_96, aX7_house_97, aT_11, aN_11, in7 hj7, cl, ck.2.1]
        · have e : ¬ nI 3 = 0 := by decide
          have e2 : nI (64 + 5 * j) + nI 3 - 1 = nI (64 + 5 * j + 2) := by rw [nI_add, show (1 : Int32) = nI 1 from rfl, pk_sub (by omega)]; congr 1
          simp only [aX8_house_0, aX8_house_1, aX8_house_2, aX8_house_5, aX8_house_8, aX8_house_10, aX8_house_11, aX8_house_12, aX8_house_13, aX8_house_14, aX8_house_17, aX8_house_20, aX8_house_22, aX8_house_23, aX8_house_24, aX8_house_27, aX8_house_28, aX8_house_31, aX8_house_32, aX8_house_33, aX8_house_36, aX8_house_37, aX8_house_40, aX8_house_42, aX8_house_43, aX8_house_44, aX8_house_45, aX8_house_46, aX8_house_47, aX8_house_48, aX8_house_49, aX8_house_50, aX8_house_51, sp_mHouse q2 l1, sp_in, Nat.zero_le, Nat.reduceLeDiff, Nat.reduceAdd, i1_0, rr_c3, zc9, oc9, zc10, oc10, zc11, oc11, zc12, oc12, zc13, oc13, zc15, oc15, Int32.lt_irrefl, Nat.zero_lt_one, Rt_cons, Rt_void, isB_0, isB_1, isB_b, true_and, and_true, cats_nil, cats_int, cats_ref, and_self, if_true, if_false, ite_self, le_nlt, ite_not, Rt_nil, bI_t hH, bI_t hin, e, not_false_eq_true, aT_43, aN_43, cnt_43, n5, n64, e2, in99 (show 64 + 5 * j + 2 < 99 by omega), cl10 (show 64 + 5 * j + 2 < 10000 by omega)]
      · refine ⟨σ, σ, σ 43 0 (64 + 5 * j + 3), ?_, ?_, hR⟩
        · rw [show nI 4 = 4 from rfl]
          simp only [aX7_house_0, aX7_house_1, aX7_house_4, aX7_house_7, aX7_house_8, aX7_house_11, aX7_house_14, aX7_house_16, aX7_house_17, sp_cHouse hq k1, Nat.zero_le, Nat.reduceLeDiff, Nat.reduceAdd, i1_0, rr_c3, zc9, oc9, zc10, oc10, zc11, oc11, zc12, oc12, zc13, oc13, zc15, oc15, Int32.lt_irrefl, Nat.zero_lt_one, Rt_cons, Rt_void, isB_0, isB_1, isB_b, true_and, and_true, cats_nil, cats_int, cats_ref, and_self, if_true, if_false, ite_self, le_nlt, ite_not, Rt_nil, bI_t hH, aX7_house_18_4, aX7_house_98, aX7_house_99, aX7_house_102, aX7_house_105, aX7_house_106, aX7_house_107, aT_12, aN_12, in7 hj7, cl, ck.2.2.1]
        · have e : ¬ nI 4 = 0 := by decide
          have e2 : nI (64 + 5 * j) + nI 4 - 1 = nI (64 + 5 * j + 3) := by rw [nI_add, show (1 : Int32) = nI 1 from rfl, pk_sub (by omega)]; congr 1
          simp only [aX8_house_0, aX8_house_1, aX8_house_2, aX8_house_5, aX8_house_8, aX8_house_10, aX8_house_11, aX8_house_12, aX8_house_13, aX8_house_14, aX8_house_17, aX8_house_20, aX8_house_22, aX8_house_23, aX8_house_24, aX8_house_27, aX8_house_28, aX8_house_31, aX8_house_32, aX8_house_33, aX8_house_36, aX8_house_37, aX8_house_40, aX8_house_42, aX8_house_43, aX8_house_44, aX8_house_45, aX8_house_46, aX8_house_47, aX8_house_48, aX8_house_49, aX8_house_50, aX8_house_51, sp_mHouse q2 l1, sp_in, Nat.zero_le, Nat.reduceLeDiff, Nat.reduceAdd, i1_0, rr_c3, zc9, oc9, zc10, oc10, zc11, oc11, zc12, oc12, zc13, oc13, zc15, oc15, Int32.lt_irrefl, Nat.zero_lt_one, Rt_cons, Rt_void, isB_0, isB_1, isB_b, true_and, and_true, cats_nil, cats_int, cats_ref, and_self, if_true, if_false, ite_self, le_nlt, ite_not, Rt_nil, bI_t hH, bI_t hin, e, not_false_eq_true, aT_43, aN_43, cnt_43, n5, n64, e2, in99 (show 64 + 5 * j + 3 < 99 by omega), cl10 (show 64 + 5 * j + 3 < 10000 by omega)]
      · refine ⟨σ, σ, σ 43 0 (64 + 5 * j + 4), ?_, ?_, hR⟩
        · rw [show nI 5 = 5 from rfl]
          simp only [aX7_house_0, aX7_house_1, aX7_house_4, aX7_house_7, aX7_house_8, aX7_house_11, aX7_house_14, aX7_house_16, aX7_house_17, sp_cHouse hq k1, Nat.zero_le, Nat.reduceLeDiff, Nat.reduceAdd, i1_0, rr_c3, zc9, oc9, zc10, oc10, zc11, oc11, zc12, oc12, zc13, oc13, zc15, oc15, Int32.lt_irrefl, Nat.zero_lt_one, Rt_cons, Rt_void, isB_0, isB_1, isB_b, true_and, and_true, cats_nil, cats_int, cats_ref, and_self, if_true, if_false, ite_self, le_nlt, ite_not, Rt_nil, bI_t hH, aX7_house_18_5, aX7_house_108, aX7_house_109, aX7_house_112, aX7_house_115, aX7_house_116, aX7_house_117, aT_13, aN_13, in7 hj7, cl, ck.2.2.2.1]
        · have e : ¬ nI 5 = 0 := by decide
          have e2 : nI (64 + 5 * j) + nI 5 - 1 = nI (64 + 5 * j + 4) := by rw [nI_add, show (1 : Int32) = nI 1 from rfl, pk_sub (by omega)]; congr 1
          simp only [aX8_house_0, aX8_house_1, aX8_house_2, aX8_house_5, aX8_house_8, aX8_house_10, aX8_house_11, aX8_house_12, aX8_house_13, aX8_house_14, aX8_house_17, aX8_house_20, aX8_house_22, aX8_house_23, aX8_house_24, aX8_house_27, aX8_house_28, aX8_house_31, aX8_house_32, aX8_house_33, aX8_house_36, aX8_house_37, aX8_house_40, aX8_house_42, aX8_house_43, aX8_house_44, aX8_house_45, aX8_house_46, aX8_house_47, aX8_house_48, aX8_house_49, aX8_house_50, aX8_house_51, sp_mHouse q2 l1, sp_in, Nat.zero_le, Nat.reduceLeDiff, Nat.reduceAdd, i1_0, rr_c3, zc9, oc9, zc10, oc10, zc11, oc11, zc12, oc12, zc13, oc13, zc15, oc15, Int32.lt_irrefl, Nat.zero_lt_one, Rt_cons, Rt_void, isB_0, isB_1, isB_b, true_and, and_true, cats_nil, cats_int, cats_ref, and_self, if_true, if_false, ite_self, le_nlt, ite_not, Rt_nil, bI_t hH, bI_t hin, e, not_false_eq_true, aT_43, aN_43, cnt_43, n5, n64, e2, in99 (show 64 + 5 * j + 4 < 99 by omega), cl10 (show 64 + 5 * j + 4 < 10000 by omega)]
  · refine ⟨σ, σ, -1000000001, ?_, ?_, hR⟩
    · simp only [aX7_house_0, aX7_house_1, aX7_house_4, aX7_house_7, aX7_house_8, aX7_house_11, aX7_house_14, aX7_house_16, sp_cHouse hq k1, Nat.zero_le, Nat.reduceLeDiff, Nat.reduceAdd, i1_0, rr_c3, zc9, oc9, zc10, oc10, zc11, oc11, zc12, oc12, zc13, oc13, zc15, oc15, Int32.lt_irrefl, Nat.zero_lt_one, Rt_cons, Rt_void, isB_0, isB_1, isB_b, true_and, and_true, cats_nil, cats_int, cats_ref, and_self, if_true, if_false, ite_self, le_nlt, ite_not, Rt_nil, bI_f hH]
    · simp only [aX8_house_0, aX8_house_1, aX8_house_2, aX8_house_5, aX8_house_8, aX8_house_10, sp_mHouse q2 l1, Nat.zero_le, Nat.reduceLeDiff, Nat.reduceAdd, i1_0, rr_c3, zc9, oc9, zc10, oc10, zc11, oc11, zc12, oc12, zc13, oc13, zc15, oc15, Int32.lt_irrefl, Nat.zero_lt_one, Rt_cons, Rt_void, isB_0, isB_1, isB_b, true_and, and_true, cats_nil, cats_int, cats_ref, and_self, if_true, if_false, ite_self, le_nlt, ite_not, Rt_nil, bI_f hH]
theorem sp_catchOf {q C d : Nat} (hq : q < 2) (hC0 : 0 < C) (hC : C ≤ 12) (hd : d < 100000) (e : σ 3 q 0 = nI C) : Rn mX4_catchOf 0 [.ref (ad 3 q), .int (nI d)] [] fs (enc σ) Q ↔ Rt fs (enc σ) (some (.int (σ 4 q (d % C)))) Q := by
  have c3 : q < cnt 3 := hq
  have c4 : q < cnt 4 := hq
  have l1 : (0 : Int32) < nI C := nI_lt (a := 0) hC0 (by omega)
  have l2 : ¬ nI d < 0 := nI_pos (by omega)
  have l3 : ¬ nI C = 0 := nI_ne0 hC0 (by omega)
  have e1 : nI d - nI d / nI C * nI C = nI (d % C) := pk_rem (by omega) hC0 (by omega)
  have hm : d % C < C := Nat.mod_lt _ hC0
  have v : vp_in (nI (d % C)) 12 := vp_in_nI (by omega) (by decide)
  simp only [aX4_catchOf_0, aX4_catchOf_1, aX4_catchOf_4, aX4_catchOf_7, aX4_catchOf_8, aX4_catchOf_11, aX4_catchOf_12, aX4_catchOf_15, aX4_catchOf_16, aX4_catchOf_17, aX4_catchOf_20, aX4_catchOf_21, aX4_catchOf_22, aX4_catchOf_25, aX4_catchOf_26, Nat.zero_le, Nat.reduceLeDiff, Nat.reduceAdd, i1_0, rr_c3, zc9, oc9, zc10, oc10, zc11, oc11, zc12, oc12, zc13, oc13, zc15, oc15, Int32.lt_irrefl, Nat.zero_lt_one, Rt_cons, Rt_void, isB_0, isB_1, isB_b, true_and, and_true, cats_nil, cats_int, cats_ref, and_self, if_true, if_false, ite_self, le_nlt, ite_not, c3, c4, aT_4, aN_4, e, l1, l2, l3, e1, v, cl10 (show d % C < 10000 by omega), not_false_eq_true]
theorem api_ahead (x : Int32) : Sim Rel mX7_ahead mX8_ahead [.int x] := by
  refine Sim_of (Lc := [.ref (ad 0 0), .int x]) (Lm := [.ref (ad 29 0), .int x]) rfl rfl (fun σ hR => ?_)
  obtain ⟨r1, r2, C, N, G, r3, r4, r5, r6, r7⟩ := id hR
  obtain ⟨q1, q2, q3, q4, ⟨l0, l1, l2⟩, ⟨k0, k1, k2⟩, q5, q6, q7⟩ := id r3.1
  have hq := rr_lt (σ 9 0 0)
  by_cases ho : x < 0 ∨ 60 < x
  · refine ⟨σ, σ, -1000000002, ?_, ?_, hR⟩
    · simp only [aX7_ahead_0, aX7_ahead_1, aX7_ahead_2, aX7_ahead_4, aX7_ahead_7, aX7_ahead_10, aX7_ahead_12, sp_isOutside, Nat.zero_le, Nat.reduceLeDiff, Nat.reduceAdd, i1_0, rr_c3, zc9, oc9, zc10, oc10, zc11, oc11, zc12, oc12, zc13, oc13, zc15, oc15, Int32.lt_irrefl, Nat.zero_lt_one, Rt_cons, Rt_void, isB_0, isB_1, isB_b, true_and, and_true, cats_nil, cats_int, cats_ref, and_self, if_true, if_false, ite_self, le_nlt, ite_not, Rt_nil, bI_t ho]
    · simp only [aX8_ahead_0, aX8_ahead_1, aX8_ahead_2, aX8_ahead_4, aX8_ahead_7, aX8_ahead_10, aX8_ahead_12, sp_in, Nat.zero_le, Nat.reduceLeDiff, Nat.reduceAdd, i1_0, rr_c3, zc9, oc9, zc10, oc10, zc11, oc11, zc12, oc12, zc13, oc13, zc15, oc15, Int32.lt_irrefl, Nat.zero_lt_one, Rt_cons, Rt_void, isB_0, isB_1, isB_b, true_and, and_true, cats_nil, cats_int, cats_ref, and_self, if_true, if_false, ite_self, le_nlt, ite_not, Rt_nil, bI_f (show ¬ (¬ x < 0 ∧ ¬ 60 < x) from fun z => ho.elim z.1 z.2)]
  · have hin := not_out.mp ho
    obtain ⟨t, ht, rfl⟩ := nI_of2 (M := 60) (n := 60) (by decide) hin.1 (Int32.not_lt.mp hin.2)
    by_cases hC : 0 < C
    · obtain ⟨dd, d1, d2⟩ := r3.2.2.2.1
      have e9 : σ 9 0 1 = nI dd := r3.2.2.1.1.trans d2
      have hm : (dd + t) % C < C := Nat.mod_lt _ hC
      have v : vp_in (nI ((dd + t) % C)) 12 := vp_in_nI (by omega) (by decide)
      have e1 : nI (dd + t) - nI (dd + t) / nI C * nI C = nI ((dd + t) % C) := pk_rem (by omega) hC (by omega)
      have l3 : ¬ nI C = 0 := nI_ne0 hC (by omega)
      refine ⟨σ, σ, σ 32 0 ((dd + t) % C), ?_, ?_, hR⟩
      · simp only [aX7_ahead_0, aX7_ahead_1, aX7_ahead_2, aX7_ahead_4, aX7_ahead_7, aX7_ahead_10, aX7_ahead_12, aX7_ahead_13, aX7_ahead_14, aX7_ahead_17, aX7_ahead_20, aX7_ahead_23, aX7_ahead_26, aX7_ahead_27, aX7_ahead_30, aX7_ahead_33, aX7_ahead_34, aX7_ahead_37, aX7_ahead_40, aX7_ahead_41, aX7_ahead_42, aX7_ahead_45, aX7_ahead_48, aX7_ahead_50, sp_isOutside, sp_cTold q1 hq k0, Nat.zero_le, Nat.reduceLeDiff, Nat.reduceAdd, i1_0, rr_c3, zc9, oc9, zc10, oc10, zc11, oc11, zc12, oc12, zc13, oc13, zc15, oc15, Int32.lt_irrefl, Nat.zero_lt_one, Rt_cons, Rt_void, isB_0, isB_1, isB_b, true_and, and_true, cats_nil, cats_int, cats_ref, and_self, if_true, if_false, ite_self, le_nlt, ite_not, Rt_nil, bI_f ho, bI_t hC, e9, nI_add, sp_catchOf hq hC q1 (show dd + t < 100000 by omega) k0, (q5 _ hm).1]
      · simp only [aX8_ahead_0, aX8_ahead_1, aX8_ahead_2, aX8_ahead_4, aX8_ahead_7, aX8_ahead_10, aX8_ahead_12, aX8_ahead_13, aX8_ahead_14, aX8_ahead_17, aX8_ahead_20, aX8_ahead_21, aX8_ahead_24, aX8_ahead_25, aX8_ahead_28, aX8_ahead_29, aX8_ahead_30, aX8_ahead_31, aX8_ahead_32, aX8_ahead_33, aX8_ahead_36, aX8_ahead_37, aX8_ahead_38, aX8_ahead_39, aX8_ahead_40, aX8_ahead_43, aX8_ahead_45, sp_in, sp_mTold q1 l0, Nat.zero_le, Nat.reduceLeDiff, Nat.reduceAdd, i1_0, rr_c3, zc9, oc9, zc10, oc10, zc11, oc11, zc12, oc12, zc13, oc13, zc15, oc15, Int32.lt_irrefl, Nat.zero_lt_one, Rt_cons, Rt_void, isB_0, isB_1, isB_b, true_and, and_true, cats_nil, cats_int, cats_ref, and_self, if_true, if_false, ite_self, le_nlt, ite_not, Rt_nil, bI_t hin, bI_t hC, aT_43, aN_43, cnt_43, v99.1, c0, d2, nI_add, aT_31, aN_31, cnt_31, v3.1, l0, l3, not_false_eq_true, e1, aT_32, aN_32, cnt_32, v, cl10 (show (dd + t) % C < 10000 by omega)]
    · refine ⟨σ, σ, -1000000003, ?_, ?_, hR⟩
      · simp only [aX7_ahead_0, aX7_ahead_1, aX7_ahead_2, aX7_ahead_4, aX7_ahead_7, aX7_ahead_10, aX7_ahead_12, aX7_ahead_13, aX7_ahead_14, aX7_ahead_17, aX7_ahead_20, aX7_ahead_23, aX7_ahead_26, aX7_ahead_27, aX7_ahead_30, aX7_ahead_33, aX7_ahead_34, aX7_ahead_37, aX7_ahead_40, aX7_ahead_41, aX7_ahead_42, aX7_ahead_45, aX7_ahead_48, aX7_ahead_50, sp_isOutside, sp_cTold q1 hq k0, Nat.zero_le, Nat.reduceLeDiff, Nat.reduceAdd, i1_0, rr_c3, zc9, oc9, zc10, oc10, zc11, oc11, zc12, oc12, zc13, oc13, zc15, oc15, Int32.lt_irrefl, Nat.zero_lt_one, Rt_cons, Rt_void, isB_0, isB_1, isB_b, true_and, and_true, cats_nil, cats_int, cats_ref, and_self, if_true, if_false, ite_self, le_nlt, ite_not, Rt_nil, bI_f ho, bI_f hC]
      · simp only [aX8_ahead_0, aX8_ahead_1, aX8_ahead_2, aX8_ahead_4, aX8_ahead_7, aX8_ahead_10, aX8_ahead_12, aX8_ahead_13, aX8_ahead_14, aX8_ahead_17, aX8_ahead_20, aX8_ahead_21, aX8_ahead_24, aX8_ahead_25, aX8_ahead_28, aX8_ahead_29, aX8_ahead_30, aX8_ahead_31, aX8_ahead_32, aX8_ahead_33, aX8_ahead_36, aX8_ahead_37, aX8_ahead_38, aX8_ahead_39, aX8_ahead_40, aX8_ahead_43, aX8_ahead_45, sp_in, sp_mTold q1 l0, Nat.zero_le, Nat.reduceLeDiff, Nat.reduceAdd, i1_0, rr_c3, zc9, oc9, zc10, oc10, zc11, oc11, zc12, oc12, zc13, oc13, zc15, oc15, Int32.lt_irrefl, Nat.zero_lt_one, Rt_cons, Rt_void, isB_0, isB_1, isB_b, true_and, and_true, cats_nil, cats_int, cats_ref, and_self, if_true, if_false, ite_self, le_nlt, ite_not, Rt_nil, bI_t hin, bI_f hC]
theorem api_logged (i x : Int32) : Sim Rel mX7_logged mX8_logged [.int i, .int x] := by
  refine Sim_of (Lc := [.ref (ad 0 0), .int i, .int x]) (Lm := [.ref (ad 29 0), .int i, .int x]) rfl rfl (fun σ hR => ?_)
  obtain ⟨r1, r2, C, N, G, r3, r4, r5, r6, r7⟩ := id hR
  by_cases ho : x < 0 ∨ 2 < x
  · refine ⟨σ, σ, -1000000002, ?_, ?_, hR⟩
    · simp only [aX7_logged_0, aX7_logged_1, aX7_logged_2, aX7_logged_3, aX7_logged_6, aX7_logged_9, aX7_logged_11, sp_isOutside, Nat.zero_le, Nat.reduceLeDiff, Nat.reduceAdd, i1_0, rr_c3, zc9, oc9, zc10, oc10, zc11, oc11, zc12, oc12, zc13, oc13, zc15, oc15, Int32.lt_irrefl, Nat.zero_lt_one, Rt_cons, Rt_void, isB_0, isB_1, isB_b, true_and, and_true, cats_nil, cats_int, cats_ref, and_self, if_true, if_false, ite_self, le_nlt, ite_not, Rt_nil, bI_t ho]
    · simp only [aX8_logged_0, aX8_logged_1, aX8_logged_2, aX8_logged_3, aX8_logged_6, aX8_logged_9, aX8_logged_11, sp_in, Nat.zero_le, Nat.reduceLeDiff, Nat.reduceAdd, i1_0, rr_c3, zc9, oc9, zc10, oc10, zc11, oc11, zc12, oc12, zc13, oc13, zc15, oc15, Int32.lt_irrefl, Nat.zero_lt_one, Rt_cons, Rt_void, isB_0, isB_1, isB_b, true_and, and_true, cats_nil, cats_int, cats_ref, and_self, if_true, if_false, ite_self, le_nlt, ite_not, Rt_nil, bI_f (show ¬ (¬ x < 0 ∧ ¬ 2 < x) from fun z => ho.elim z.1 z.2)]
  · have hin := not_out.mp ho
    obtain ⟨t, ht, rfl⟩ := nI_of2 (M := 2) (n := 2) (by decide) hin.1 (Int32.not_lt.mp hin.2)
    obtain ⟨s1, s2, s3, s4, ⟨c, d, hc, hd, h5, h6, h7⟩, s8⟩ := r3.2.2.1
    have e4 : σ 9 0 4 = nI d := s4.trans h6
    by_cases hi : isH d i
    · obtain ⟨j, hj, rfl⟩ := isJ_of (by omega) hi
      have e1 : nI c + 40 - 1 - nI j = nI (c + 39 - j) := by
        rw [show nI c + 40 = nI (c + 40) from nI_add c 40, show (1 : Int32) = nI 1 from rfl, pk_sub (by omega), pk_sub (by omega)]
        congr 1
      have e2 : nI (c + 39 - j) - nI (c + 39 - j) / 20 * 20 = nI ((c + 39 - j) % 20) := pk_rem (d := 20) (by omega) (by omega) (by omega)
      have ne20 : ¬ (20 : Int32) = 0 := by decide
      have v1 : vp_in (nI (3 * ((c + 39 - j) % 20) + t)) 60 := vp_in_nI (by omega) (by decide)
      have e3 : (4 : Int32) + nI (3 * j) = nI (4 + 3 * j) := nI_add 4 (3 * j)
      refine ⟨σ, σ, σ 43 0 (4 + 3 * j + t), ?_, ?_, hR⟩
      · simp only [aX7_logged_0, aX7_logged_1, aX7_logged_2, aX7_logged_3, aX7_logged_6, aX7_logged_9, aX7_logged_11, aX7_logged_12, aX7_logged_13, aX7_logged_16, aX7_logged_17, aX7_logged_18, aX7_logged_21, aX5_cryAt_0, aX5_cryAt_1, aX5_cryAt_4, aX5_cryAt_5, aX5_cryAt_6, aX5_cryAt_9, aX5_cryAt_12, aX5_cryAt_13, aX5_cryAt_14, aX5_cryAt_15, aX5_cryAt_18, aX5_cryAt_20, aX5_cryAt_21, aX5_cryAt_22, aX5_cryAt_23, aX5_cryAt_24, aX5_cryAt_25, aX5_cryAt_27, aX5_cryAt_28, aX5_cryAt_29, aX5_cryAt_30, aX5_cryAt_33, aX5_cryAt_34, aX5_cryAt_35, aX5_cryAt_36, aX5_cryAt_37, aX5_cryAt_38, aX5_cryAt_39, sp_isOutside, Nat.zero_le, Nat.reduceLeDiff, Nat.reduceAdd, i1_0, rr_c3, zc9, oc9, zc10, oc10, zc11, oc11, zc12, oc12, zc13, oc13, zc15, oc15, Int32.lt_irrefl, Nat.zero_lt_one, Rt_cons, Rt_void, isB_0, isB_1, isB_b, true_and, and_true, cats_nil, cats_int, cats_ref, and_self, if_true, if_false, ite_self, le_nlt, ite_not, Rt_nil, bI_f ho, hi.1, hi.2, e4, h5, e1, ne20, not_false_eq_true, e2, n3, nI_add, aT_15, aN_15, v1, cl10 (show 3 * ((c + 39 - j) % 20) + t < 10000 by omega), h7 j hj t (by omega)]
      · simp only [aX8_logged_0, aX8_logged_1, aX8_logged_2, aX8_logged_3, aX8_logged_6, aX8_logged_9, aX8_logged_11, aX8_logged_12, aX8_logged_13, aX8_logged_14, aX8_logged_15, aX8_logged_18, aX8_logged_19, aX8_logged_20, aX8_logged_21, aX8_logged_22, aX8_logged_25, aX8_logged_28, aX8_logged_29, aX8_logged_32, aX8_logged_33, aX8_logged_34, aX8_logged_35, aX8_logged_36, aX8_logged_37, aX8_logged_38, aX8_logged_39, aX8_logged_40, aX8_logged_43, aX8_logged_44, sp_in, Nat.zero_le, Nat.reduceLeDiff, Nat.reduceAdd, i1_0, rr_c3, zc9, oc9, zc10, oc10, zc11, oc11, zc12, oc12, zc13, oc13, zc15, oc15, Int32.lt_irrefl, Nat.zero_lt_one, Rt_cons, Rt_void, isB_0, isB_1, isB_b, true_and, and_true, cats_nil, cats_int, cats_ref, and_self, if_true, if_false, ite_self, le_nlt, ite_not, Rt_nil, bI_t hin, aT_43, aN_43, cnt_43, v99.2.2.2, c3, h6, bI_t ((isJ_m (N := d) (by omega)).mpr hi), n3, e3, nI_add, in99 (show 4 + 3 * j + t < 99 by omega), cl10 (show 4 + 3 * j + t < 10000 by omega)]
    · refine ⟨σ, σ, -1, ?_, ?_, hR⟩
      · by_cases h0 : i < 0
        · simp only [aX7_logged_0, aX7_logged_1, aX7_logged_2, aX7_logged_3, aX7_logged_6, aX7_logged_9, aX7_logged_11, aX7_logged_12, aX7_logged_13, aX7_logged_16, aX7_logged_17, aX7_logged_18, aX7_logged_21, aX5_cryAt_0, aX5_cryAt_1, aX5_cryAt_4, aX5_cryAt_5, aX5_cryAt_6, aX5_cryAt_9, aX5_cryAt_12, aX5_cryAt_13, sp_isOutside, Nat.zero_le, Nat.reduceLeDiff, Nat.reduceAdd, i1_0, rr_c3, zc9, oc9, zc10, oc10, zc11, oc11, zc12, oc12, zc13, oc13, zc15, oc15, Int32.lt_irrefl, Nat.zero_lt_one, Rt_cons, Rt_void, isB_0, isB_1, isB_b, true_and, and_true, cats_nil, cats_int, cats_ref, and_self, if_true, if_false, ite_self, le_nlt, ite_not, Rt_nil, bI_f ho, h0]
        · have h1 : ¬ i < nI d := fun z => hi ⟨h0, z⟩
          simp only [aX7_logged_0, aX7_logged_1, aX7_logged_2, aX7_logged_3, aX7_logged_6, aX7_logged_9, aX7_logged_11, aX7_logged_12, aX7_logged_13, aX7_logged_16, aX7_logged_17, aX7_logged_18, aX7_logged_21, aX5_cryAt_0, aX5_cryAt_1, aX5_cryAt_4, aX5_cryAt_5, aX5_cryAt_6, aX5_cryAt_9, aX5_cryAt_12, aX5_cryAt_13, sp_isOutside, Nat.zero_le, Nat.reduceLeDiff, Nat.reduceAdd, i1_0, rr_c3, zc9, oc9, zc10, oc10, zc11, oc11, zc12, oc12, zc13, oc13, zc15, oc15, Int32.lt_irrefl, Nat.zero_lt_one, Rt_cons, Rt_void, isB_0, isB_1, isB_b, true_and, and_true, cats_nil, cats_int, cats_ref, and_self, if_true, if_false, ite_self, le_nlt, ite_not, Rt_nil, bI_f ho, h0, h1, e4]
      · simp only [aX8_logged_0, aX8_logged_1, aX8_logged_2, aX8_logged_3, aX8_logged_6, aX8_logged_9, aX8_logged_11, aX8_logged_12, aX8_logged_13, aX8_logged_14, aX8_logged_15, aX8_logged_18, aX8_logged_19, aX8_logged_20, aX8_logged_21, aX8_logged_22, aX8_logged_25, aX8_logged_28, aX8_logged_29, aX8_logged_32, aX8_logged_33, aX8_logged_34, aX8_logged_35, aX8_logged_36, aX8_logged_37, aX8_logged_38, aX8_logged_39, aX8_logged_40, aX8_logged_43, aX8_logged_44, sp_in, Nat.zero_le, Nat.reduceLeDiff, Nat.reduceAdd, i1_0, rr_c3, zc9, oc9, zc10, oc10, zc11, oc11, zc12, oc12, zc13, oc13, zc15, oc15, Int32.lt_irrefl, Nat.zero_lt_one, Rt_cons, Rt_void, isB_0, isB_1, isB_b, true_and, and_true, cats_nil, cats_int, cats_ref, and_self, if_true, if_false, ite_self, le_nlt, ite_not, Rt_nil, bI_t hin, aT_43, aN_43, cnt_43, v99.2.2.2, c3, h6, bI_f (fun z => hi ((isJ_m (N := d) (by omega)).mp z))]
end S54
