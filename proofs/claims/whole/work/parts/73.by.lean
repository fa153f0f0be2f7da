-- owes, outBy, redeemedBy, firstOut
section S73
variable {σ : Mem} {fs : List Fm} {M : List va_E} {Q : List va_E → Option Value → Prop}
/-- the reference behind the class's trial -/
theorem mfacts {σ1 : Mem} {C N G : Nat} {v : Nat → Int32} (r3 : NowR σ C N G) (h : TrC σ σ1 v) : RN (σ1 32 0) (σ1 33 0) (σ1 35 0) (σ1 36 0) C N G ∧ σ1 31 0 0 = nI C ∧ σ1 31 0 1 = nI N ∧ WH 10000 G N (σ1 43 0) ∧ σ1 43 0 = σ 43 0 ∧ σ1 31 0 = σ 31 0 ∧ (σ1 32 0 = σ 32 0 ∧ σ1 33 0 = σ 33 0 ∧ σ1 35 0 = σ 35 0 ∧ σ1 36 0 = σ 36 0) := by
  have hm : ∀ k i, 29 ≤ k → σ1 k i = σ k i := fun k i a => h.2.2 k i (by omega)
  rw [hm 32 0 (by omega), hm 33 0 (by omega), hm 35 0 (by omega), hm 36 0 (by omega), hm 31 0 (by omega), hm 43 0 (by omega)]
  exact ⟨RN_of r3.1, r3.1.2.2.2.2.1.1, r3.1.2.2.2.2.1.2.1, WH_now r3, rfl, rfl, rfl, rfl, rfl, rfl⟩
theorem cp0 {τ : Mem} : Rn mX8_copies 0 [.ref (ad 43 0), .int 0, .ref (ad 44 0), .int 0, .null] [] fs (enc τ) Q ↔ Rt fs (enc (cpM τ 43 0 44 0)) none Q :=
  sp_copies (a := 0) (b := 0) (by decide) (by decide) (by decide) (by decide) (by decide) (by decide) (by decide) (by decide) (by decide)
theorem api_owes (h n : Int32) : Sim Rel mX7_owes mX8_owes [.int h, .int n] := by
  refine Sim_of (Lc := [.ref (ad 0 0), .int h, .int n]) (Lm := [.ref (ad 29 0), .int h, .int n]) rfl rfl (fun σ hR => ?_)
  obtain ⟨r1, r2, C, N, G, r3, r4, r5, r6, r7⟩ := id hR
  obtain ⟨q1, q2, q3, q4, ⟨l0, l1, l2⟩, ⟨k0, k1, k2⟩, q5, q6, q7⟩ := id r3.1
  have hq := rr_lt (σ 9 0 0)
  by_cases hH : isH N h
  · obtain ⟨j, hj, rfl⟩ := isH_of q2 hH
    have hj7 : j < 7 := by omega
    have hC : 0 < C := by
      rcases Nat.eq_zero_or_pos C with z | z
      · have := q4 z; omega
      · exact z
    by_cases ho : n < 0 ∨ 60 < n
    · refine ⟨σ, σ, -1000000002, ?_, ?_, hR⟩
      · simp only [aX7_owes_0, aX7_owes_1, aX7_owes_4, aX7_owes_7, aX7_owes_8, aX7_owes_11, aX7_owes_14, aX7_owes_16, aX7_owes_17, aX7_owes_18, aX7_owes_19, aX7_owes_21, aX7_owes_24, aX7_owes_27, aX7_owes_29, sp_cHouse hq k1, sp_isOutside, Nat.zero_le, Nat.reduceLeDiff, Nat.reduceAdd, i1_0, rr_c3, zc9, oc9, zc10, oc10, zc11, oc11, zc12, oc12, zc13, oc13, zc15, oc15, Int32.lt_irrefl, Nat.zero_lt_one, Rt_cons, Rt_void, isB_0, isB_1, isB_b, true_and, and_true, cats_nil, cats_int, cats_ref, and_self, if_true, if_false, ite_self, le_nlt, ite_not, Rt_nil, bI_t hH, bI_t ho]
      · simp only [aX8_owes_0, aX8_owes_1, aX8_owes_2, aX8_owes_5, aX8_owes_8, aX8_owes_10, aX8_owes_11, aX8_owes_12, aX8_owes_13, aX8_owes_15, aX8_owes_18, aX8_owes_21, aX8_owes_23, sp_mHouse q2 l1, sp_in, Nat.zero_le, Nat.reduceLeDiff, Nat.reduceAdd, i1_0, rr_c3, zc9, oc9, zc10, oc10, zc11, oc11, zc12, oc12, zc13, oc13, zc15, oc15, Int32.lt_irrefl, Nat.zero_lt_one, Rt_cons, Rt_void, isB_0, isB_1, isB_b, true_and, and_true, cats_nil, cats_int, cats_ref, and_self, if_true, if_false, ite_self, le_nlt, ite_not, Rt_nil, bI_t hH, bI_f (show ¬ (¬ n < 0 ∧ ¬ 60 < n) from fun z => ho.elim z.1 z.2)]
    · have hin := not_out.mp ho
      obtain ⟨t, ht, rfl⟩ := nI_of2 (M := 60) (n := 60) (by decide) hin.1 (Int32.not_lt.mp hin.2)
      obtain ⟨σ1, a1, a2⟩ := sp_tryDays r3 ht
      obtain ⟨m1, m2, m3, m4, m5, m6, e32, e33, e35, e36⟩ := mfacts r3 a2
      obtain ⟨σ2, b1, b2⟩ := sp_mtry m1 ht m2 m3 m4
      refine ⟨σ1, σ2, σ1 10 1 j, ?_, ?_, Rel_tried hR a2 b2⟩
      · simp only [aX7_owes_0, aX7_owes_1, aX7_owes_4, aX7_owes_7, aX7_owes_8, aX7_owes_11, aX7_owes_14, aX7_owes_16, aX7_owes_17, aX7_owes_18, aX7_owes_19, aX7_owes_21, aX7_owes_24, aX7_owes_27, aX7_owes_29, aX7_owes_30, aX7_owes_31, sp_cHouse hq k1, sp_isOutside, Nat.zero_le, Nat.reduceLeDiff, Nat.reduceAdd, i1_0, rr_c3, zc9, oc9, zc10, oc10, zc11, oc11, zc12, oc12, zc13, oc13, zc15, oc15, Int32.lt_irrefl, Nat.zero_lt_one, Rt_cons, Rt_void, isB_0, isB_1, isB_b, true_and, and_true, cats_nil, cats_int, cats_ref, and_self, if_true, if_false, ite_self, le_nlt, ite_not, Rt_nil, bI_t hH, bI_f ho]
        rw [aX7_owes_32, a1]
        simp only [aX7_owes_35, aX7_owes_36, aX7_owes_39, aX7_owes_42, aX7_owes_43, aX7_owes_44, Nat.zero_le, Nat.reduceLeDiff, Nat.reduceAdd, i1_0, rr_c3, zc9, oc9, zc10, oc10, zc11, oc11, zc12, oc12, zc13, oc13, zc15, oc15, Int32.lt_irrefl, Nat.zero_lt_one, Rt_cons, Rt_void, isB_0, isB_1, isB_b, true_and, and_true, cats_nil, cats_int, cats_ref, and_self, if_true, if_false, ite_self, le_nlt, ite_not, Rt_nil, aT_10, aN_10, in7 hj7, cl10 (show j < 10000 by omega)]
      · simp only [aX8_owes_0, aX8_owes_1, aX8_owes_2, aX8_owes_5, aX8_owes_8, aX8_owes_10, aX8_owes_11, aX8_owes_12, aX8_owes_13, aX8_owes_15, aX8_owes_18, aX8_owes_21, aX8_owes_23, aX8_owes_24, aX8_owes_25, aX8_owes_28, aX8_owes_29, aX8_owes_30, aX8_owes_33, sp_mHouse q2 m3, sp_in, Nat.zero_le, Nat.reduceLeDiff, Nat.reduceAdd, i1_0, rr_c3, zc9, oc9, zc10, oc10, zc11, oc11, zc12, oc12, zc13, oc13, zc15, oc15, Int32.lt_irrefl, Nat.zero_lt_one, Rt_cons, Rt_void, isB_0, isB_1, isB_b, true_and, and_true, cats_nil, cats_int, cats_ref, and_self, if_true, if_false, ite_self, le_nlt, ite_not, Rt_nil, bI_t hH, bI_t hin]
        rw [aX8_owes_34, cp0]
        simp only [aX8_owes_37, aX8_owes_38, Nat.zero_le, Nat.reduceLeDiff, Nat.reduceAdd, i1_0, rr_c3, zc9, oc9, zc10, oc10, zc11, oc11, zc12, oc12, zc13, oc13, zc15, oc15, Int32.lt_irrefl, Nat.zero_lt_one, Rt_cons, Rt_void, isB_0, isB_1, isB_b, true_and, and_true, cats_nil, cats_int, cats_ref, and_self, if_true, if_false, ite_self, le_nlt, ite_not]
        rw [aX8_owes_39, b1]
        simp only [aX8_owes_42, aX8_owes_43, aX8_owes_46, aX8_owes_48, aX8_owes_49, aX8_owes_50, aX8_owes_51, aX8_owes_52, aX8_owes_53, Nat.zero_le, Nat.reduceLeDiff, Nat.reduceAdd, i1_0, rr_c3, zc9, oc9, zc10, oc10, zc11, oc11, zc12, oc12, zc13, oc13, zc15, oc15, Int32.lt_irrefl, Nat.zero_lt_one, Rt_cons, Rt_void, isB_0, isB_1, isB_b, true_and, and_true, cats_nil, cats_int, cats_ref, and_self, if_true, if_false, ite_self, le_nlt, ite_not, Rt_nil, aT_44, aN_44, cnt_44, n5, n64, in99 (show 64 + 5 * j < 99 by omega), cl10 (show 64 + 5 * j < 10000 by omega)]
        rw [b2.2.2.2.2.1 hC _ (by omega), (a2.1.2.2.2.2.2 j hj7).1, m5, e32, e33, e35, e36]
  · refine ⟨σ, σ, -1000000001, ?_, ?_, hR⟩
    · simp only [aX7_owes_0, aX7_owes_1, aX7_owes_4, aX7_owes_7, aX7_owes_8, aX7_owes_11, aX7_owes_14, aX7_owes_16, sp_cHouse hq k1, Nat.zero_le, Nat.reduceLeDiff, Nat.reduceAdd, i1_0, rr_c3, zc9, oc9, zc10, oc10, zc11, oc11, zc12, oc12, zc13, oc13, zc15, oc15, Int32.lt_irrefl, Nat.zero_lt_one, Rt_cons, Rt_void, isB_0, isB_1, isB_b, true_and, and_true, cats_nil, cats_int, cats_ref, and_self, if_true, if_false, ite_self, le_nlt, ite_not, Rt_nil, bI_f hH]
    · simp only [aX8_owes_0, aX8_owes_1, aX8_owes_2, aX8_owes_5, aX8_owes_8, aX8_owes_10, sp_mHouse q2 l1, Nat.zero_le, Nat.reduceLeDiff, Nat.reduceAdd, i1_0, rr_c3, zc9, oc9, zc10, oc10, zc11, oc11, zc12, oc12, zc13, oc13, zc15, oc15, Int32.lt_irrefl, Nat.zero_lt_one, Rt_cons, Rt_void, isB_0, isB_1, isB_b, true_and, and_true, cats_nil, cats_int, cats_ref, and_self, if_true, if_false, ite_self, le_nlt, ite_not, Rt_nil, bI_f hH]
theorem api_outBy (n : Int32) : Sim Rel mX7_outBy mX8_outBy [.int n] := by
  refine Sim_of (Lc := [.ref (ad 0 0), .int n]) (Lm := [.ref (ad 29 0), .int n]) rfl rfl (fun σ hR => ?_)
  obtain ⟨r1, r2, C, N, G, r3, r4, r5, r6, r7⟩ := id hR
  by_cases ho : n < 0 ∨ 60 < n
  · refine ⟨σ, σ, -1000000002, ?_, ?_, hR⟩
    · simp only [aX7_outBy_0, aX7_outBy_1, aX7_outBy_2, aX7_outBy_4, aX7_outBy_7, aX7_outBy_10, aX7_outBy_12, sp_isOutside, Nat.zero_le, Nat.reduceLeDiff, Nat.reduceAdd, i1_0, rr_c3, zc9, oc9, zc10, oc10, zc11, oc11, zc12, oc12, zc13, oc13, zc15, oc15, Int32.lt_irrefl, Nat.zero_lt_one, Rt_cons, Rt_void, isB_0, isB_1, isB_b, true_and, and_true, cats_nil, cats_int, cats_ref, and_self, if_true, if_false, ite_self, le_nlt, ite_not, Rt_nil, bI_t ho]
    · simp only [aX8_outBy_0, aX8_outBy_1, aX8_outBy_2, aX8_outBy_4, aX8_outBy_7, aX8_outBy_10, aX8_outBy_12, sp_in, Nat.zero_le, Nat.reduceLeDiff, Nat.reduceAdd, i1_0, rr_c3, zc9, oc9, zc10, oc10, zc11, oc11, zc12, oc12, zc13, oc13, zc15, oc15, Int32.lt_irrefl, Nat.zero_lt_one, Rt_cons, Rt_void, isB_0, isB_1, isB_b, true_and, and_true, cats_nil, cats_int, cats_ref, and_self, if_true, if_false, ite_self, le_nlt, ite_not, Rt_nil, bI_f (show ¬ (¬ n < 0 ∧ ¬ 60 < n) from fun z => ho.elim z.1 z.2)]
  · have hin := not_out.mp ho
    obtain ⟨t, ht, rfl⟩ := nI_of2 (M := 60) (n := 60) (by decide) hin.1 (Int32.not_lt.mp hin.2)
    obtain ⟨σ1, a1, a2⟩ := sp_tryDays r3 ht
    obtain ⟨m1, m2, m3, m4, m5, m6, e32, e33, e35, e36⟩ := mfacts r3 a2
    obtain ⟨σ2, b1, b2⟩ := sp_mtry m1 ht m2 m3 m4
    refine ⟨σ1, σ2, nI (bs (Eo (σ 43 0) (itW (passW (σ 32 0) (σ 33 0) (σ 35 0) (σ 36 0) C N) t (σ 43 0))) N), ?_, ?_, Rel_tried hR a2 b2⟩
    · simp only [aX7_outBy_0, aX7_outBy_1, aX7_outBy_2, aX7_outBy_4, aX7_outBy_7, aX7_outBy_10, aX7_outBy_12, aX7_outBy_13, aX7_outBy_14, sp_isOutside, Nat.zero_le, Nat.reduceLeDiff, Nat.reduceAdd, i1_0, rr_c3, zc9, oc9, zc10, oc10, zc11, oc11, zc12, oc12, zc13, oc13, zc15, oc15, Int32.lt_irrefl, Nat.zero_lt_one, Rt_cons, Rt_void, isB_0, isB_1, isB_b, true_and, and_true, cats_nil, cats_int, cats_ref, and_self, if_true, if_false, ite_self, le_nlt, ite_not, Rt_nil, bI_f ho]
      rw [aX7_outBy_15, a1]
      simp only [aX7_outBy_18, aX7_outBy_19, aX7_outBy_22, sp_newlyEmpty r3 a2 (NoE_of (WH_it (RN_of r3.1) (WH_now r3)).1), Nat.zero_le, Nat.reduceLeDiff, Nat.reduceAdd, i1_0, rr_c3, zc9, oc9, zc10, oc10, zc11, oc11, zc12, oc12, zc13, oc13, zc15, oc15, Int32.lt_irrefl, Nat.zero_lt_one, Rt_cons, Rt_void, isB_0, isB_1, isB_b, true_and, and_true, cats_nil, cats_int, cats_ref, and_self, if_true, if_false, ite_self, le_nlt, ite_not, Rt_nil]
    · simp only [aX8_outBy_0, aX8_outBy_1, aX8_outBy_2, aX8_outBy_4, aX8_outBy_7, aX8_outBy_10, aX8_outBy_12, aX8_outBy_13, aX8_outBy_14, aX8_outBy_17, aX8_outBy_18, aX8_outBy_19, aX8_outBy_22, sp_in, Nat.zero_le, Nat.reduceLeDiff, Nat.reduceAdd, i1_0, rr_c3, zc9, oc9, zc10, oc10, zc11, oc11, zc12, oc12, zc13, oc13, zc15, oc15, Int32.lt_irrefl, Nat.zero_lt_one, Rt_cons, Rt_void, isB_0, isB_1, isB_b, true_and, and_true, cats_nil, cats_int, cats_ref, and_self, if_true, if_false, ite_self, le_nlt, ite_not, Rt_nil, bI_t hin]
      rw [aX8_outBy_23, cp0]
      simp only [aX8_outBy_26, aX8_outBy_27, Nat.zero_le, Nat.reduceLeDiff, Nat.reduceAdd, i1_0, rr_c3, zc9, oc9, zc10, oc10, zc11, oc11, zc12, oc12, zc13, oc13, zc15, oc15, Int32.lt_irrefl, Nat.zero_lt_one, Rt_cons, Rt_void, isB_0, isB_1, isB_b, true_and, and_true, cats_nil, cats_int, cats_ref, and_self, if_true, if_false, ite_self, le_nlt, ite_not]
      rw [aX8_outBy_28, b1]
      simp only [aX8_outBy_31, aX8_outBy_32, aX8_outBy_35, Nat.zero_le, Nat.reduceLeDiff, Nat.reduceAdd, i1_0, rr_c3, zc9, oc9, zc10, oc10, zc11, oc11, zc12, oc12, zc13, oc13, zc15, oc15, Int32.lt_irrefl, Nat.zero_lt_one, Rt_cons, Rt_void, isB_0, isB_1, isB_b, true_and, and_true, cats_nil, cats_int, cats_ref, and_self, if_true, if_false, ite_self, le_nlt, ite_not, Rt_nil]
      rw [b2.1, m5, e32, e33, e35, e36]
theorem red_eq {N t : Nat} {w0 w : Nat → Int32} (hg : Gr N w0 w) (h0 : HG w0) (ht : t < 7) : (decide (¬ w0 (64 + 5 * t + 2) = -1) && !decide (¬ w (64 + 5 * t + 2) = -1)) = Ro w0 w t := by
  unfold Ro
  rcases hg t ht with ⟨a, b⟩ | ⟨_, a, ⟨b, c⟩ | ⟨b, c⟩⟩
  · rw [a, b]
    by_cases z : w0 (64 + 5 * t + 2) = -1 <;> simp [z]
  · have := h0 t ht a
    simp [this, b, c, a]
  · by_cases z : w0 (64 + 5 * t + 2) = -1 <;> simp [z, b, c]
theorem api_redeemedBy (n : Int32) : Sim Rel mX7_redeemedBy mX8_redeemedBy [.int n] := by
  refine Sim_of (Lc := [.ref (ad 0 0), .int n]) (Lm := [.ref (ad 29 0), .int n]) rfl rfl (fun σ hR => ?_)
  obtain ⟨r1, r2, C, N, G, r3, r4, r5, r6, r7⟩ := id hR
  obtain ⟨q1, q2, q3, q4, ⟨l0, l1, l2⟩, ⟨k0, k1, k2⟩, q5, q6, q7⟩ := id r3.1
  by_cases ho : n < 0 ∨ 60 < n
  · refine ⟨σ, σ, -1000000002, ?_, ?_, hR⟩
    · simp only [aX7_redeemedBy_0, aX7_redeemedBy_1, aX7_redeemedBy_2, aX7_redeemedBy_4, aX7_redeemedBy_7, aX7_redeemedBy_10, aX7_redeemedBy_12, sp_isOutside, Nat.zero_le, Nat.reduceLeDiff, Nat.reduceAdd, i1_0, rr_c3, zc9, oc9, zc10, oc10, zc11, oc11, zc12, oc12, zc13, oc13, zc15, oc15, Int32.lt_irrefl, Nat.zero_lt_one, Rt_cons, Rt_void, isB_0, isB_1, isB_b, true_and, and_true, cats_nil, cats_int, cats_ref, and_self, if_true, if_false, ite_self, le_nlt, ite_not, Rt_nil, bI_t ho]
    · simp only [aX8_redeemedBy_0, aX8_redeemedBy_1, aX8_redeemedBy_2, aX8_redeemedBy_4, aX8_redeemedBy_7, aX8_redeemedBy_10, aX8_redeemedBy_12, sp_in, Nat.zero_le, Nat.reduceLeDiff, Nat.reduceAdd, i1_0, rr_c3, zc9, oc9, zc10, oc10, zc11, oc11, zc12, oc12, zc13, oc13, zc15, oc15, Int32.lt_irrefl, Nat.zero_lt_one, Rt_cons, Rt_void, isB_0, isB_1, isB_b, true_and, and_true, cats_nil, cats_int, cats_ref, and_self, if_true, if_false, ite_self, le_nlt, ite_not, Rt_nil, bI_f (show ¬ (¬ n < 0 ∧ ¬ 60 < n) from fun z => ho.elim z.1 z.2)]
  · have hin := not_out.mp ho
    obtain ⟨t, ht, rfl⟩ := nI_of2 (M := 60) (n := 60) (by decide) hin.1 (Int32.not_lt.mp hin.2)
    obtain ⟨σ1, a1, a2⟩ := sp_tryDays r3 ht
    obtain ⟨m1, m2, m3, m4, m5, m6, e32, e33, e35, e36⟩ := mfacts r3 a2
    obtain ⟨σ2, b1, b2⟩ := sp_mtry m1 ht m2 m3 m4
    have gr : Gr N (σ 43 0) (itW (passW (σ 32 0) (σ 33 0) (σ 35 0) (σ 36 0) C N) t (σ 43 0)) := Gr_it Gr_refl
    refine ⟨σ1, σ2, nI (bs (Ro (σ 43 0) (itW (passW (σ 32 0) (σ 33 0) (σ 35 0) (σ 36 0) C N) t (σ 43 0))) N), ?_, ?_, Rel_tried hR a2 b2⟩
    · have e1 : σ1 3 (rr (σ1 9 1 0)) 1 = nI N := by rw [a2.2.1, a2.2.2 3 _ (by omega)]; exact k1
      have e0 : σ1 3 (rr (σ1 9 0 0)) 1 = nI N := by rw [a2.2.2 9 0 (by omega), a2.2.2 3 _ (by omega)]; exact k1
      have c0' : CS σ1 0 (σ 43 0) := CS_congr r3.2.2.1 (fun k a b => a2.2.2 k _ (by omega)) (fun _ _ => rfl)
      simp only [aX7_redeemedBy_0, aX7_redeemedBy_1, aX7_redeemedBy_2, aX7_redeemedBy_4, aX7_redeemedBy_7, aX7_redeemedBy_10, aX7_redeemedBy_12, aX7_redeemedBy_13, aX7_redeemedBy_14, sp_isOutside, Nat.zero_le, Nat.reduceLeDiff, Nat.reduceAdd, i1_0, rr_c3, zc9, oc9, zc10, oc10, zc11, oc11, zc12, oc12, zc13, oc13, zc15, oc15, Int32.lt_irrefl, Nat.zero_lt_one, Rt_cons, Rt_void, isB_0, isB_1, isB_b, true_and, and_true, cats_nil, cats_int, cats_ref, and_self, if_true, if_false, ite_self, le_nlt, ite_not, Rt_nil, bI_f ho]
      rw [aX7_redeemedBy_15, a1]
      simp only [aX7_redeemedBy_18, aX7_redeemedBy_19, aX7_redeemedBy_22, aX7_redeemedBy_25, aX7_redeemedBy_26, aX7_redeemedBy_29, aX7_redeemedBy_32, aX7_redeemedBy_33, aX7_redeemedBy_34, aX7_redeemedBy_35, sp_ghs (show 1 < 34 by decide) q2 e1 a2.1, sp_ghs (show 0 < 34 by decide) q2 e0 c0', Nat.zero_le, Nat.reduceLeDiff, Nat.reduceAdd, i1_0, rr_c3, zc9, oc9, zc10, oc10, zc11, oc11, zc12, oc12, zc13, oc13, zc15, oc15, Int32.lt_irrefl, Nat.zero_lt_one, Rt_cons, Rt_void, isB_0, isB_1, isB_b, true_and, and_true, cats_nil, cats_int, cats_ref, and_self, if_true, if_false, ite_self, le_nlt, ite_not, bs_diff q2, Rt_nil]
      rw [bs_cong (fun u hu => red_eq gr (HG_of r3.2.2.1) (show u < 7 by omega))]
    · simp only [aX8_redeemedBy_0, aX8_redeemedBy_1, aX8_redeemedBy_2, aX8_redeemedBy_4, aX8_redeemedBy_7, aX8_redeemedBy_10, aX8_redeemedBy_12, aX8_redeemedBy_13, aX8_redeemedBy_14, aX8_redeemedBy_17, aX8_redeemedBy_18, aX8_redeemedBy_19, aX8_redeemedBy_22, sp_in, Nat.zero_le, Nat.reduceLeDiff, Nat.reduceAdd, i1_0, rr_c3, zc9, oc9, zc10, oc10, zc11, oc11, zc12, oc12, zc13, oc13, zc15, oc15, Int32.lt_irrefl, Nat.zero_lt_one, Rt_cons, Rt_void, isB_0, isB_1, isB_b, true_and, and_true, cats_nil, cats_int, cats_ref, and_self, if_true, if_false, ite_self, le_nlt, ite_not, Rt_nil, bI_t hin]
      rw [aX8_redeemedBy_23, cp0]
      simp only [aX8_redeemedBy_26, aX8_redeemedBy_27, Nat.zero_le, Nat.reduceLeDiff, Nat.reduceAdd, i1_0, rr_c3, zc9, oc9, zc10, oc10, zc11, oc11, zc12, oc12, zc13, oc13, zc15, oc15, Int32.lt_irrefl, Nat.zero_lt_one, Rt_cons, Rt_void, isB_0, isB_1, isB_b, true_and, and_true, cats_nil, cats_int, cats_ref, and_self, if_true, if_false, ite_self, le_nlt, ite_not]
      rw [aX8_redeemedBy_28, b1]
      simp only [aX8_redeemedBy_31, aX8_redeemedBy_32, aX8_redeemedBy_35, Nat.zero_le, Nat.reduceLeDiff, Nat.reduceAdd, i1_0, rr_c3, zc9, oc9, zc10, oc10, zc11, oc11, zc12, oc12, zc13, oc13, zc15, oc15, Int32.lt_irrefl, Nat.zero_lt_one, Rt_cons, Rt_void, isB_0, isB_1, isB_b, true_and, and_true, cats_nil, cats_int, cats_ref, and_self, if_true, if_false, ite_self, le_nlt, ite_not, Rt_nil]
      rw [b2.2.1, m5, e32, e33, e35, e36]
end S73
-- firstOut
theorem eN_le {w : Nat → Int32} {h : Nat} : eN w h ≤ 1 := by unfold eN; split <;> omega
theorem cE_iff {N : Nat} {w0 w : Nat → Int32} (hN : N ≤ 7) (g : Gr N w0 w) : (cE7 w0 ≤ cE7 w) ∧ (cE7 w0 = cE7 w ↔ ∀ t, t < N → ¬ Eo w0 w t = true) := by
  have A : ∀ h, h < 7 → eN w0 h ≤ eN w h ∧ (eN w0 h = eN w h ↔ ¬ (h < N ∧ Eo w0 w h = true)) := fun h hh => by
    unfold eN Eo
    rcases g h hh with ⟨a, b⟩ | ⟨c, a, ⟨b, _⟩ | ⟨b, _⟩⟩
    · rw [a]; refine ⟨Nat.le_refl _, ?_⟩
      by_cases z : w0 (64 + 5 * h + 1) = 2 <;> simp [z]
    · simp [a, b]
    · simp [a, b, c]
  have a0 := A 0 (by omega)
  have a1 := A 1 (by omega)
  have a2 := A 2 (by omega)
  have a3 := A 3 (by omega)
  have a4 := A 4 (by omega)
  have a5 := A 5 (by omega)
  have a6 := A 6 (by omega)
  unfold cE7
  refine ⟨by omega, ⟨fun h t ht he => ?_, fun h => ?_⟩⟩
  · rcases (show t = 0 ∨ t = 1 ∨ t = 2 ∨ t = 3 ∨ t = 4 ∨ t = 5 ∨ t = 6 by omega) with rfl | rfl | rfl | rfl | rfl | rfl | rfl
    · exact a0.2.mp (by omega) ⟨ht, he⟩
    · exact a1.2.mp (by omega) ⟨ht, he⟩
    · exact a2.2.mp (by omega) ⟨ht, he⟩
    · exact a3.2.mp (by omega) ⟨ht, he⟩
    · exact a4.2.mp (by omega) ⟨ht, he⟩
    · exact a5.2.mp (by omega) ⟨ht, he⟩
    · exact a6.2.mp (by omega) ⟨ht, he⟩
  · have b0 := a0.2.mpr (fun z => h _ z.1 z.2)
    have b1 := a1.2.mpr (fun z => h _ z.1 z.2)
    have b2 := a2.2.mpr (fun z => h _ z.1 z.2)
    have b3 := a3.2.mpr (fun z => h _ z.1 z.2)
    have b4 := a4.2.mpr (fun z => h _ z.1 z.2)
    have b5 := a5.2.mpr (fun z => h _ z.1 z.2)
    have b6 := a6.2.mpr (fun z => h _ z.1 z.2)
    omega
theorem fgL_s (p : Nat → Bool) (f : Nat → Nat) (x : Int32) (fg : Int32 × Int32) (j : Nat) : fgL p f x fg (j + 1) = if (fgL p f x fg j).1 = -1 ∧ p (f j) = true then (nI (f j), x) else fgL p f x fg j := rfl
theorem fgL_no {p : Nat → Bool} {f : Nat → Nat} {x : Int32} {fg : Int32 × Int32} : ∀ {j : Nat}, (∀ i, i < j → ¬ p (f i) = true) → fgL p f x fg j = fg := by
  intro j
  induction j with
  | zero => intro _; rfl
  | succ j ih => intro h; rw [fgL_s, ih (fun i hi => h i (by omega)), if_neg (fun z => h j (by omega) z.2)]
theorem fgL_set {p : Nat → Bool} {f : Nat → Nat} {x : Int32} {fg : Int32 × Int32} (h : ¬ fg.1 = -1) : ∀ {j : Nat}, fgL p f x fg j = fg := by
  intro j
  induction j with
  | zero => rfl
  | succ j ih => rw [fgL_s, ih, if_neg (fun z => h z.1)]
theorem fgL_at {p : Nat → Bool} {f : Nat → Nat} {x : Int32} {fg : Int32 × Int32} {i : Nat} (h0 : fg.1 = -1) (h1 : ∀ t, t < i → ¬ p (f t) = true) (h2 : p (f i) = true) (h3 : f i < 7) : ∀ {m : Nat}, fgL p f x fg (i + 1 + m) = (nI (f i), x) := by
  intro m
  induction m with
  | zero => rw [Nat.add_zero, fgL_s, fgL_no h1, if_pos ⟨h0, h2⟩]
  | succ m ih =>
    have ne := nI_ne1 (a := f i) (by omega)
    rw [← Nat.add_assoc, fgL_s, ih, if_neg (fun z => ne z.1)]
def fdT (p : Nat → Bool) (f : Nat → Nat) : Nat → Nat → Int32
  | 0, _ => -1
  | m + 1, j => if p (f j) = true then nI (f j) else fdT p f m (j + 1)
theorem fdT_s (p : Nat → Bool) (f : Nat → Nat) (m j : Nat) : fdT p f (m + 1) j = if p (f j) = true then nI (f j) else fdT p f m (j + 1) := rfl
theorem fdT_at {p : Nat → Bool} {f : Nat → Nat} {i : Nat} (h2 : p (f i) = true) : ∀ {m j : Nat}, j ≤ i → i < j + m → (∀ t, t < i → ¬ p (f t) = true) → fdT p f m j = nI (f i) := by
  intro m
  induction m with
  | zero => intro j a b; omega
  | succ m ih =>
    intro j a b c
    rw [fdT_s]
    by_cases q : j = i
    · subst q; rw [if_pos h2]
    · rw [if_neg (c j (by omega))]
      exact ih (by omega) (by omega) c
theorem foL_s (now : Nat → Int32) (F : (Nat → Int32) → (Nat → Int32)) (N : Nat) (w0 : Nat → Int32) (k : Nat) : foL now F N w0 (k + 1) = fgL (fun t => Eo now (itW F (k + 1) w0) t && !(bs (Eo now (itW F k w0)) N).testBit t) (fun j => ((itW F k w0 0).toNatClampNeg + j) % N) (nI (k + 1)) (foL now F N w0 k) N := rfl
theorem foL_keep {now : Nat → Int32} {F : (Nat → Int32) → (Nat → Int32)} {N : Nat} {w0 : Nat → Int32} {k : Nat} (h : ¬ (foL now F N w0 k).1 = -1) : ∀ {m : Nat}, foL now F N w0 (k + m) = foL now F N w0 k := by
  intro m
  induction m with
  | zero => rfl
  | succ m ih =>
    rw [← Nat.add_assoc, foL_s, fgL_set (by rw [ih]; exact h), ih]
theorem foL_no {now : Nat → Int32} {F : (Nat → Int32) → (Nat → Int32)} {N : Nat} {w0 : Nat → Int32} {k : Nat} (hf : foL now F N w0 k = (-1, -1)) (h : ∀ t, t < N → ¬ Eo now (itW F (k + 1) w0) t = true) : foL now F N w0 (k + 1) = (-1, -1) := by
  rw [foL_s, fgL_no (fun i hi => ?_), hf]
  intro z
  rw [Bool.and_eq_true] at z
  exact h _ (Nat.mod_lt _ (by omega)) z.1
/-- the day on which the first is put out -/
theorem foL_first {now : Nat → Int32} {F : (Nat → Int32) → (Nat → Int32)} {N d : Nat} {w0 : Nat → Int32} {k : Nat} (hN : N ≤ 7) (hf : foL now F N w0 k = (-1, -1)) (h0 : ∀ t, t < N → ¬ Eo now (itW F k w0) t = true) (hd : (itW F k w0 0).toNatClampNeg = d) (h1 : ∃ t, t < N ∧ Eo now (itW F (k + 1) w0) t = true) : foL now F N w0 (k + 1) = (fdT (Eo now (itW F (k + 1) w0)) (fun j => (d + j) % N) N 0, nI (k + 1)) ∧ ¬ (foL now F N w0 (k + 1)).1 = -1 := by
  obtain ⟨t, t1, t2⟩ := h1
  obtain ⟨j0, j1, j2⟩ := turn_all (d := d) hN t1
  obtain ⟨i, ⟨i1, i2⟩, i3⟩ := pk_least (fun j => j < N ∧ Eo now (itW F (k + 1) w0) ((d + j) % N) = true) ⟨j0, j1, by rw [j2]; exact t2⟩
  have i3' : ∀ u, u < i → ¬ Eo now (itW F (k + 1) w0) ((d + u) % N) = true := fun u hu z => i3 u hu ⟨by omega, z⟩
  have hm : (d + i) % N < 7 := by have := Nat.mod_lt (d + i) (show 0 < N by omega); omega
  have bz : bs (Eo now (itW F k w0)) N = 0 := bs_none h0
  have e : foL now F N w0 (k + 1) = (nI ((d + i) % N), nI (k + 1)) := by
    rw [foL_s, hd, hf, bz]
    have := fgL_at (p := fun t => Eo now (itW F (k + 1) w0) t && !Nat.testBit 0 t) (f := fun j => (d + j) % N) (x := nI (k + 1)) (fg := (-1, -1)) (i := i) rfl (fun u hu z => i3' u hu (by rw [Bool.and_eq_true] at z; exact z.1)) (by simp [i2]) hm (m := N - i - 1)
    rw [show i + 1 + (N - i - 1) = N by omega] at this
    exact this
  rw [e]
  refine ⟨?_, nI_ne1 (by omega)⟩
  rw [fdT_at (p := Eo now (itW F (k + 1) w0)) (f := fun j => (d + j) % N) (i := i) i2 (by omega) (by omega) i3']
section S73
variable {σ : Mem} {fs : List Fm} {M : List va_E} {Q : List va_E → Option Value → Prop}
theorem lp_fit {N f a : Nat} (hN : N ≤ 7) (hf : f < 7) (ha : a < 128) {l0 : Value} : ∀ m j (l5 : Value), j + m = N → (Rn mX7_firstInTurn 14 [l0, .int (nI a), .int (nI f), .int (nI N), .int (nI j), l5] [] fs M Q ↔ Rt fs M (some (.int (fdT (fun t => a.testBit t) (fun j => (f + j) % N) m j))) Q) := by
  intro m
  induction m with
  | zero =>
    intro j l5 hj
    obtain rfl : j = N := by omega
    simp only [aX7_firstInTurn_14, aX7_firstInTurn_16, aX7_firstInTurn_17, aX7_firstInTurn_46, aX7_firstInTurn_47, Nat.zero_le, Nat.reduceLeDiff, Nat.reduceAdd, i1_0, rr_c3, zc9, oc9, zc10, oc10, zc11, oc11, zc12, oc12, zc13, oc13, zc15, oc15, Int32.lt_irrefl, Nat.zero_lt_one, Rt_cons, Rt_void, isB_0, isB_1, isB_b, true_and, and_true, cats_nil, cats_int, cats_ref, and_self, if_true, if_false, ite_self, le_nlt, ite_not]
    rfl
  | succ m ih =>
    intro j l5 hj
    have l : nI j < nI N := nI_lt (by omega) (by omega)
    have ne : ¬ nI N = 0 := nI_ne0 (by omega) (by omega)
    have e1 : nI (f + j) - nI (f + j) / nI N * nI N = nI ((f + j) % N) := pk_rem (by omega) (by omega) (by omega)
    have hm := Nat.mod_lt (f + j) (show 0 < N by omega)
    have ih' := ih (j + 1) (.int (nI ((f + j) % N))) (by omega)
    rw [aX7_firstInTurn_14, fdT_s]
    by_cases q : a.testBit ((f + j) % N) = true
    · rw [if_pos q]
      simp only [aX7_firstInTurn_16, aX7_firstInTurn_17, aX7_firstInTurn_20, aX7_firstInTurn_21, aX7_firstInTurn_23, aX7_firstInTurn_24, aX7_firstInTurn_25, aX7_firstInTurn_26, aX7_firstInTurn_28, aX7_firstInTurn_29, aX7_firstInTurn_31, aX7_firstInTurn_34, aX7_firstInTurn_37, aX7_firstInTurn_39, sp_in7 ha (show (f + j) % N < 7 by omega), Nat.zero_le, Nat.reduceLeDiff, Nat.reduceAdd, i1_0, rr_c3, zc9, oc9, zc10, oc10, zc11, oc11, zc12, oc12, zc13, oc13, zc15, oc15, Int32.lt_irrefl, Nat.zero_lt_one, Rt_cons, Rt_void, isB_0, isB_1, isB_b, true_and, and_true, cats_nil, cats_int, cats_ref, and_self, if_true, if_false, ite_self, le_nlt, ite_not, l, ne, not_false_eq_true, nI_add, e1, bI_t q, not_true_eq_false]
    · rw [if_neg q]
      simp only [aX7_firstInTurn_16, aX7_firstInTurn_17, aX7_firstInTurn_20, aX7_firstInTurn_21, aX7_firstInTurn_23, aX7_firstInTurn_24, aX7_firstInTurn_25, aX7_firstInTurn_26, aX7_firstInTurn_28, aX7_firstInTurn_29, aX7_firstInTurn_31, aX7_firstInTurn_34, aX7_firstInTurn_37, aX7_firstInTurn_39, aX7_firstInTurn_40, aX7_firstInTurn_43, sp_in7 ha (show (f + j) % N < 7 by omega), Nat.zero_le, Nat.reduceLeDiff, Nat.reduceAdd, i1_0, rr_c3, zc9, oc9, zc10, oc10, zc11, oc11, zc12, oc12, zc13, oc13, zc15, oc15, Int32.lt_irrefl, Nat.zero_lt_one, Rt_cons, Rt_void, isB_0, isB_1, isB_b, true_and, and_true, cats_nil, cats_int, cats_ref, and_self, if_true, if_false, ite_self, le_nlt, ite_not, l, ne, not_false_eq_true, nI_add, e1, bI_f q, (show ¬ (0 : Int32) = 1 from by decide), nI_1]
      exact ih'
theorem sp_fit {N f a : Nat} (hN : N ≤ 7) (hf : f < 7) (ha : a < 128) (e : σ 3 (rr (σ 9 0 0)) 1 = nI N) : Rn mX7_firstInTurn 0 [.ref (ad 0 0), .int (nI a), .int (nI f), .null, .null, .null] [] fs (enc σ) Q ↔ Rt fs (enc σ) (some (.int (fdT (fun t => a.testBit t) (fun j => (f + j) % N) N 0))) Q := by
  have := lp_fit (M := enc σ) (fs := fs) (Q := Q) (l0 := .ref (ad 0 0)) hN hf ha N 0 .null (by omega)
  have e1 : nI 0 = 0 := rfl
  rw [e1] at this
  simp only [aX7_firstInTurn_0, aX7_firstInTurn_1, aX7_firstInTurn_4, aX7_firstInTurn_7, aX7_firstInTurn_10, aX7_firstInTurn_11, aX7_firstInTurn_12, Nat.zero_le, Nat.reduceLeDiff, Nat.reduceAdd, i1_0, rr_c3, zc9, oc9, zc10, oc10, zc11, oc11, zc12, oc12, zc13, oc13, zc15, oc15, Int32.lt_irrefl, Nat.zero_lt_one, Rt_cons, Rt_void, isB_0, isB_1, isB_b, true_and, and_true, cats_nil, cats_int, cats_ref, and_self, if_true, if_false, ite_self, le_nlt, ite_not, e]
  exact this
theorem fdT_cong {p p' : Nat → Bool} {f f' : Nat → Nat} : ∀ {m j : Nat}, (∀ i, j ≤ i → i < j + m → f i = f' i ∧ p (f' i) = p' (f' i)) → fdT p f m j = fdT p' f' m j := by
  intro m
  induction m with
  | zero => intro j _; rfl
  | succ m ih =>
    intro j h
    have hj := h j (by omega) (by omega)
    rw [fdT_s, fdT_s, hj.1, hj.2, ih (fun i a b => h i (by omega) (by omega))]
theorem lp_first {σ0 : Mem} {C N G : Nat} {x : Int32} (r3 : NowR σ0 C N G) (hx : x = 0 ∨ x = 1) : ∀ (m n : Nat) (σ : Mem) (l3 : Value), n + m = 61 → 1 ≤ n → TrC σ0 σ (itW (passW (σ0 32 0) (σ0 33 0) (σ0 35 0) (σ0 36 0) C N) (n - 1) (σ0 43 0)) →
    foL (σ0 43 0) (passW (σ0 32 0) (σ0 33 0) (σ0 35 0) (σ0 36 0) C N) N (σ0 43 0) (n - 1) = (-1, -1) → (∀ t, t < N → ¬ Eo (σ0 43 0) (itW (passW (σ0 32 0) (σ0 33 0) (σ0 35 0) (σ0 36 0) C N) (n - 1) (σ0 43 0)) t = true) →
    ∃ τ, (∀ fs Q, Rn mX7_firstOut 25 [.ref (ad 0 0), .int x, .int (nI n), l3] [] fs (enc σ) Q ↔ Rt fs (enc τ) (some (.int (if x = 0 then (foL (σ0 43 0) (passW (σ0 32 0) (σ0 33 0) (σ0 35 0) (σ0 36 0) C N) N (σ0 43 0) 60).1 else (foL (σ0 43 0) (passW (σ0 32 0) (σ0 33 0) (σ0 35 0) (σ0 36 0) C N) N (σ0 43 0) 60).2))) Q) ∧ ∃ v, TrC σ0 τ v := by
  intro m
  obtain ⟨q1, q2, q3, q4, ⟨l0, l1, l2⟩, ⟨k0, k1, k2⟩, q5, q6, q7⟩ := id r3.1
  induction m with
  | zero =>
    intro n σ l3 hn h1 ht hf he
    obtain rfl : n = 61 := by omega
    refine ⟨σ, fun fs Q => ?_, _, ht⟩
    have l : (60 : Int32) < nI 61 := by decide
    rw [show 61 - 1 = 60 from rfl] at hf
    rw [hf]
    simp only [aX7_firstOut_25, aX7_firstOut_26, aX7_firstOut_28, aX7_firstOut_88, aX7_firstOut_89, Nat.zero_le, Nat.reduceLeDiff, Nat.reduceAdd, i1_0, rr_c3, zc9, oc9, zc10, oc10, zc11, oc11, zc12, oc12, zc13, oc13, zc15, oc15, Int32.lt_irrefl, Nat.zero_lt_one, Rt_cons, Rt_void, isB_0, isB_1, isB_b, true_and, and_true, cats_nil, cats_int, cats_ref, and_self, if_true, if_false, ite_self, le_nlt, ite_not, l]
  | succ m ih =>
    intro n σ l3 hn h1 ht hf he
    obtain ⟨k, rfl⟩ : ∃ k, n = k + 1 := ⟨n - 1, by omega⟩
    rw [show k + 1 - 1 = k by omega] at ht hf he
    generalize hF : passW (σ0 32 0) (σ0 33 0) (σ0 35 0) (σ0 36 0) C N = F at ht hf he ih ⊢
    have hwk : WH (10000 + k) G N (itW F k (σ0 43 0)) := by rw [← hF]; exact WH_it (RN_of r3.1) (WH_now r3)
    obtain ⟨τ1, a1, a2, a3⟩ := sp_passDayW (RN_of r3.1) (TrC_RC r3 ht) (show 1 < 34 by decide) ht.1 hwk (by omega)
    rw [hF] at a2
    have ews : F (itW F k (σ0 43 0)) = itW F (k + 1) (σ0 43 0) := itW_s.symm
    rw [ews] at a2
    have t1 := TrC_Fr ht a3 a2
    obtain ⟨d, d1, d2⟩ := hwk.1.1
    have ed : (itW F k (σ0 43 0) 0).toNatClampNeg = d := by rw [d2]; exact nI_clamp (by omega)
    have e91 : σ 9 1 1 = nI d := ht.1.1.trans d2
    have eN1 : σ 3 (rr (σ 9 1 0)) 1 = nI N := by rw [ht.2.1, ht.2.2 3 _ (by omega)]; exact k1
    have ft := fun fs Q => sp_firstTurn (σ := σ) (fs := fs) (Q := Q) (show 1 < 34 by decide) q2 (show d < 100000 by omega) eN1 e91
    have g1 : Gr N (σ0 43 0) (itW F (k + 1) (σ0 43 0)) := by rw [← hF]; exact Gr_it Gr_refl
    obtain ⟨ce1, ce2⟩ := cE_iff q2 g1
    have hw1 : WH (10000 + (k + 1)) G N (itW F (k + 1) (σ0 43 0)) := by rw [← hF]; exact WH_it (RN_of r3.1) (WH_now r3)
    have p1 : τ1 9 1 3 = nI (cE7 (itW F (k + 1) (σ0 43 0))) := a2.2.2.1.trans hw1.1.2.2.1
    have p0 : τ1 9 0 3 = nI (cE7 (σ0 43 0)) := by rw [t1.2.2 9 0 (by omega)]; exact r3.2.2.1.2.2.1.trans r3.2.2.2.2.2.1
    have cl0 := cE7_le (σ0 43 0)
    have cl1 := cE7_le (itW F (k + 1) (σ0 43 0))
    have lt := nI_ltI (a := cE7 (σ0 43 0)) (b := cE7 (itW F (k + 1) (σ0 43 0))) (by omega) (by omega)
    have l : ¬ (60 : Int32) < nI (k + 1) := nI_nlt (a := 60) (by omega) (by omega)
    by_cases q : cE7 (σ0 43 0) < cE7 (itW F (k + 1) (σ0 43 0))
    · have hex : ∃ t, t < N ∧ Eo (σ0 43 0) (itW F (k + 1) (σ0 43 0)) t = true := by
        apply Classical.byContradiction
        intro z
        have := ce2.mpr (fun t ht y => z ⟨t, ht, y⟩)
        omega
      obtain ⟨f1, f2⟩ := foL_first q2 hf he ed hex
      have f60 := foL_keep f2 (m := 60 - (k + 1))
      rw [show k + 1 + (60 - (k + 1)) = 60 by omega] at f60
      have hN0 : 0 < N := by obtain ⟨t, t1, _⟩ := hex; omega
      refine ⟨τ1, fun fs Q => ?_, _, t1⟩
      rw [f60, f1, aX7_firstOut_25]
      simp only [aX7_firstOut_26, aX7_firstOut_28, aX7_firstOut_31, aX7_firstOut_32, Nat.zero_le, Nat.reduceLeDiff, Nat.reduceAdd, i1_0, rr_c3, zc9, oc9, zc10, oc10, zc11, oc11, zc12, oc12, zc13, oc13, zc15, oc15, Int32.lt_irrefl, Nat.zero_lt_one, Rt_cons, Rt_void, isB_0, isB_1, isB_b, true_and, and_true, cats_nil, cats_int, cats_ref, and_self, if_true, if_false, ite_self, le_nlt, ite_not, l]
      rw [aX7_firstOut_35 (by decide), ft]
      simp only [aX7_firstOut_38, aX7_firstOut_39, aX7_firstOut_40, Nat.zero_le, Nat.reduceLeDiff, Nat.reduceAdd, i1_0, rr_c3, zc9, oc9, zc10, oc10, zc11, oc11, zc12, oc12, zc13, oc13, zc15, oc15, Int32.lt_irrefl, Nat.zero_lt_one, Rt_cons, Rt_void, isB_0, isB_1, isB_b, true_and, and_true, cats_nil, cats_int, cats_ref, and_self, if_true, if_false, ite_self, le_nlt, ite_not]
      rw [aX7_firstOut_43 (by decide), a1]
      rcases hx with rfl | rfl
      · have e0 : τ1 3 (rr (τ1 9 0 0)) 1 = nI N := by rw [t1.2.2 9 0 (by omega), t1.2.2 3 _ (by omega)]; exact k1
        have hbl := bs_lt (p := Eo (σ0 43 0) (itW F (k + 1) (σ0 43 0))) q2
        have hdN := Nat.mod_lt d hN0
        rw [if_pos hN0, Nat.mul_one]
        simp only [aX7_firstOut_46, aX7_firstOut_47, aX7_firstOut_50, aX7_firstOut_53, aX7_firstOut_54, aX7_firstOut_57, aX7_firstOut_60, aX7_firstOut_63, aX7_firstOut_64, aX7_firstOut_65, aX7_firstOut_68, aX7_firstOut_69, aX7_firstOut_72, aX7_firstOut_73, aX7_firstOut_74, aX7_firstOut_77, aX7_firstOut_78, aX7_firstOut_81, sp_newlyEmpty r3 t1 (NoE_of hw1.1), sp_fit q2 (show d % N < 7 by omega) hbl e0, Nat.zero_le, Nat.reduceLeDiff, Nat.reduceAdd, i1_0, rr_c3, zc9, oc9, zc10, oc10, zc11, oc11, zc12, oc12, zc13, oc13, zc15, oc15, Int32.lt_irrefl, Nat.zero_lt_one, Rt_cons, Rt_void, isB_0, isB_1, isB_b, true_and, and_true, cats_nil, cats_int, cats_ref, and_self, if_true, if_false, ite_self, le_nlt, ite_not, p0, p1, lt.mpr q, not_true_eq_false, (show ¬ (0 : Int32) = 1 from by decide), not_false_eq_true]
        rw [fdT_cong (p' := Eo (σ0 43 0) (itW F (k + 1) (σ0 43 0))) (f' := fun j => (d + j) % N) (fun i _ hi => ⟨by show (d % N + i) % N = (d + i) % N; rw [Nat.mod_add_mod], ?_⟩)]
        have hm := Nat.mod_lt (d + i) hN0
        show (bs _ N).testBit ((d + i) % N) = _
        cases hE : Eo (σ0 43 0) (itW F (k + 1) (σ0 43 0)) ((d + i) % N) with
        | true => exact bs_tb.mpr ⟨hE, hm⟩
        | false =>
          cases hb : (bs (Eo (σ0 43 0) (itW F (k + 1) (σ0 43 0))) N).testBit ((d + i) % N) with
          | false => rfl
          | true => rw [(bs_tb.mp hb).1] at hE; exact hE
      · simp only [aX7_firstOut_46, aX7_firstOut_47, aX7_firstOut_50, aX7_firstOut_53, aX7_firstOut_54, aX7_firstOut_57, aX7_firstOut_60, aX7_firstOut_63, aX7_firstOut_64, aX7_firstOut_65, aX7_firstOut_68, aX7_firstOut_69, aX7_firstOut_72, aX7_firstOut_73, aX7_firstOut_74, aX7_firstOut_77, aX7_firstOut_78, aX7_firstOut_81, Nat.zero_le, Nat.reduceLeDiff, Nat.reduceAdd, i1_0, rr_c3, zc9, oc9, zc10, oc10, zc11, oc11, zc12, oc12, zc13, oc13, zc15, oc15, Int32.lt_irrefl, Nat.zero_lt_one, Rt_cons, Rt_void, isB_0, isB_1, isB_b, true_and, and_true, cats_nil, cats_int, cats_ref, and_self, if_true, if_false, ite_self, le_nlt, ite_not, p0, p1, lt.mpr q, not_true_eq_false]
    · have hno : ∀ t, t < N → ¬ Eo (σ0 43 0) (itW F (k + 1) (σ0 43 0)) t = true := ce2.mp (by omega)
      obtain ⟨τ, b1, b2⟩ := ih (k + 2) τ1 (.int (nI (d % N * (if 0 < N then 1 else 0)))) (by omega) (by omega) t1 (foL_no hf hno) hno
      refine ⟨τ, fun fs Q => ?_, b2⟩
      have l' : ¬ nI (cE7 (σ0 43 0)) < nI (cE7 (itW F (k + 1) (σ0 43 0))) := fun z => q (lt.mp z)
      rw [aX7_firstOut_25]
      simp only [aX7_firstOut_26, aX7_firstOut_28, aX7_firstOut_31, aX7_firstOut_32, Nat.zero_le, Nat.reduceLeDiff, Nat.reduceAdd, i1_0, rr_c3, zc9, oc9, zc10, oc10, zc11, oc11, zc12, oc12, zc13, oc13, zc15, oc15, Int32.lt_irrefl, Nat.zero_lt_one, Rt_cons, Rt_void, isB_0, isB_1, isB_b, true_and, and_true, cats_nil, cats_int, cats_ref, and_self, if_true, if_false, ite_self, le_nlt, ite_not, l]
      rw [aX7_firstOut_35 (by decide), ft]
      simp only [aX7_firstOut_38, aX7_firstOut_39, aX7_firstOut_40, Nat.zero_le, Nat.reduceLeDiff, Nat.reduceAdd, i1_0, rr_c3, zc9, oc9, zc10, oc10, zc11, oc11, zc12, oc12, zc13, oc13, zc15, oc15, Int32.lt_irrefl, Nat.zero_lt_one, Rt_cons, Rt_void, isB_0, isB_1, isB_b, true_and, and_true, cats_nil, cats_int, cats_ref, and_self, if_true, if_false, ite_self, le_nlt, ite_not]
      rw [aX7_firstOut_43 (by decide), a1]
      simp only [aX7_firstOut_46, aX7_firstOut_47, aX7_firstOut_50, aX7_firstOut_53, aX7_firstOut_54, aX7_firstOut_57, aX7_firstOut_60, aX7_firstOut_82, aX7_firstOut_85, Nat.zero_le, Nat.reduceLeDiff, Nat.reduceAdd, i1_0, rr_c3, zc9, oc9, zc10, oc10, zc11, oc11, zc12, oc12, zc13, oc13, zc15, oc15, Int32.lt_irrefl, Nat.zero_lt_one, Rt_cons, Rt_void, isB_0, isB_1, isB_b, true_and, and_true, cats_nil, cats_int, cats_ref, and_self, if_true, if_false, ite_self, le_nlt, ite_not, p0, p1, l', nI_1]
      exact b1 fs Q
theorem api_firstOut (x : Int32) : Sim Rel mX7_firstOut mX8_firstOut [.int x] := by
  refine Sim_of (Lc := [.ref (ad 0 0), .int x, .null, .null]) (Lm := [.ref (ad 29 0), .int x]) rfl rfl (fun σ hR => ?_)
  obtain ⟨r1, r2, C, N, G, r3, r4, r5, r6, r7⟩ := id hR
  by_cases ho : x < 0 ∨ 1 < x
  · refine ⟨σ, σ, -1000000002, ?_, ?_, hR⟩
    · simp only [aX7_firstOut_0, aX7_firstOut_1, aX7_firstOut_2, aX7_firstOut_3, aX7_firstOut_6, aX7_firstOut_9, aX7_firstOut_11, sp_isOutside, Nat.zero_le, Nat.reduceLeDiff, Nat.reduceAdd, i1_0, rr_c3, zc9, oc9, zc10, oc10, zc11, oc11, zc12, oc12, zc13, oc13, zc15, oc15, Int32.lt_irrefl, Nat.zero_lt_one, Rt_cons, Rt_void, isB_0, isB_1, isB_b, true_and, and_true, cats_nil, cats_int, cats_ref, and_self, if_true, if_false, ite_self, le_nlt, ite_not, Rt_nil, bI_t ho]
    · simp only [aX8_firstOut_0, aX8_firstOut_1, aX8_firstOut_2, aX8_firstOut_3, aX8_firstOut_6, aX8_firstOut_9, aX8_firstOut_11, sp_in, Nat.zero_le, Nat.reduceLeDiff, Nat.reduceAdd, i1_0, rr_c3, zc9, oc9, zc10, oc10, zc11, oc11, zc12, oc12, zc13, oc13, zc15, oc15, Int32.lt_irrefl, Nat.zero_lt_one, Rt_cons, Rt_void, isB_0, isB_1, isB_b, true_and, and_true, cats_nil, cats_int, cats_ref, and_self, if_true, if_false, ite_self, le_nlt, ite_not, Rt_nil, bI_f (show ¬ (¬ x < 0 ∧ ¬ 1 < x) from fun z => ho.elim z.1 z.2)]
  · have hin := not_out.mp ho
    have hx : x = 0 ∨ x = 1 := by
      obtain ⟨t, ht, rfl⟩ := fl2 ho
      rcases (show t = 0 ∨ t = 1 by omega) with rfl | rfl
      · exact Or.inl rfl
      · exact Or.inr rfl
    have t0 := TrC_cp r3
    obtain ⟨σ1, a1, v, a2⟩ := lp_first (x := x) r3 hx 60 1 (cpF σ 1 0) .null (by omega) (by omega) t0 rfl (fun t _ => by unfold Eo; simp [itW])
    obtain ⟨m1, m2, m3, m4, m5, m6, e32, e33, e35, e36⟩ := mfacts r3 a2
    obtain ⟨σ2, b1, b2⟩ := sp_mtry (n := 60) m1 (by omega) m2 m3 m4
    have e1 : nI 1 = 1 := rfl
    have e60 : nI 60 = 60 := rfl
    rw [e1] at a1
    rw [e60] at b1
    refine ⟨σ1, σ2, if x = 0 then (foL (σ 43 0) (passW (σ 32 0) (σ 33 0) (σ 35 0) (σ 36 0) C N) N (σ 43 0) 60).1 else (foL (σ 43 0) (passW (σ 32 0) (σ 33 0) (σ 35 0) (σ 36 0) C N) N (σ 43 0) 60).2, ?_, ?_, Rel_tried hR a2 b2⟩
    · simp only [aX7_firstOut_0, aX7_firstOut_1, aX7_firstOut_2, aX7_firstOut_3, aX7_firstOut_6, aX7_firstOut_9, aX7_firstOut_11, aX7_firstOut_12, aX7_firstOut_13, aX7_firstOut_16, aX7_firstOut_17, sp_isOutside, Nat.zero_le, Nat.reduceLeDiff, Nat.reduceAdd, i1_0, rr_c3, zc9, oc9, zc10, oc10, zc11, oc11, zc12, oc12, zc13, oc13, zc15, oc15, Int32.lt_irrefl, Nat.zero_lt_one, Rt_cons, Rt_void, isB_0, isB_1, isB_b, true_and, and_true, cats_nil, cats_int, cats_ref, and_self, if_true, if_false, ite_self, le_nlt, ite_not, Rt_nil, bI_f ho]
      rw [aX7_firstOut_20 (by decide), sp_copyFrom (by omega) (by omega) (by omega) (CS_bool r3.2.2.1)]
      simp only [aX7_firstOut_23, aX7_firstOut_24, Nat.zero_le, Nat.reduceLeDiff, Nat.reduceAdd, i1_0, rr_c3, zc9, oc9, zc10, oc10, zc11, oc11, zc12, oc12, zc13, oc13, zc15, oc15, Int32.lt_irrefl, Nat.zero_lt_one, Rt_cons, Rt_void, isB_0, isB_1, isB_b, true_and, and_true, cats_nil, cats_int, cats_ref, and_self, if_true, if_false, ite_self, le_nlt, ite_not]
      rw [a1]
      simp only [Nat.zero_le, Nat.reduceLeDiff, Nat.reduceAdd, i1_0, rr_c3, zc9, oc9, zc10, oc10, zc11, oc11, zc12, oc12, zc13, oc13, zc15, oc15, Int32.lt_irrefl, Nat.zero_lt_one, Rt_cons, Rt_void, isB_0, isB_1, isB_b, true_and, and_true, cats_nil, cats_int, cats_ref, and_self, if_true, if_false, ite_self, le_nlt, ite_not, Rt_nil]
    · simp only [aX8_firstOut_0, aX8_firstOut_1, aX8_firstOut_2, aX8_firstOut_3, aX8_firstOut_6, aX8_firstOut_9, aX8_firstOut_11, aX8_firstOut_12, aX8_firstOut_13, aX8_firstOut_16, aX8_firstOut_17, aX8_firstOut_18, aX8_firstOut_21, sp_in, Nat.zero_le, Nat.reduceLeDiff, Nat.reduceAdd, i1_0, rr_c3, zc9, oc9, zc10, oc10, zc11, oc11, zc12, oc12, zc13, oc13, zc15, oc15, Int32.lt_irrefl, Nat.zero_lt_one, Rt_cons, Rt_void, isB_0, isB_1, isB_b, true_and, and_true, cats_nil, cats_int, cats_ref, and_self, if_true, if_false, ite_self, le_nlt, ite_not, Rt_nil, bI_t hin]
      rw [aX8_firstOut_22, cp0]
      simp only [aX8_firstOut_25, aX8_firstOut_26, Nat.zero_le, Nat.reduceLeDiff, Nat.reduceAdd, i1_0, rr_c3, zc9, oc9, zc10, oc10, zc11, oc11, zc12, oc12, zc13, oc13, zc15, oc15, Int32.lt_irrefl, Nat.zero_lt_one, Rt_cons, Rt_void, isB_0, isB_1, isB_b, true_and, and_true, cats_nil, cats_int, cats_ref, and_self, if_true, if_false, ite_self, le_nlt, ite_not]
      rw [aX8_firstOut_28, b1]
      rcases hx with rfl | rfl
      · simp only [aX8_firstOut_31, aX8_firstOut_32, aX8_firstOut_35, aX8_firstOut_36, aX8_firstOut_39, aX8_firstOut_42, aX8_firstOut_43, aX8_firstOut_46, Nat.zero_le, Nat.reduceLeDiff, Nat.reduceAdd, i1_0, rr_c3, zc9, oc9, zc10, oc10, zc11, oc11, zc12, oc12, zc13, oc13, zc15, oc15, Int32.lt_irrefl, Nat.zero_lt_one, Rt_cons, Rt_void, isB_0, isB_1, isB_b, true_and, and_true, cats_nil, cats_int, cats_ref, and_self, if_true, if_false, ite_self, le_nlt, ite_not, Rt_nil, not_true_eq_false]
        rw [b2.2.2.1, m5, e32, e33, e35, e36]
      · simp only [aX8_firstOut_31, aX8_firstOut_32, aX8_firstOut_35, aX8_firstOut_36, aX8_firstOut_39, aX8_firstOut_42, aX8_firstOut_43, aX8_firstOut_46, Nat.zero_le, Nat.reduceLeDiff, Nat.reduceAdd, i1_0, rr_c3, zc9, oc9, zc10, oc10, zc11, oc11, zc12, oc12, zc13, oc13, zc15, oc15, Int32.lt_irrefl, Nat.zero_lt_one, Rt_cons, Rt_void, isB_0, isB_1, isB_b, true_and, and_true, cats_nil, cats_int, cats_ref, and_self, if_true, if_false, ite_self, le_nlt, ite_not, Rt_nil, not_false_eq_true]
        rw [b2.2.2.2.1, m5, e32, e33, e35, e36]
end S73
