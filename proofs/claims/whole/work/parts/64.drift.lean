section S64
variable {σ : Mem} {fs : List Fm} {M : List va_E} {Q : List va_E → Option Value → Prop}
theorem sp_draws {σ0 : Mem} {c x a N : Nat} {P : Nat → Nat → Int32} {w : Nat → Int32} (hN : N ≤ 7) (ha : a < 2 ^ 31) (h : MI σ0 σ (c, x, P, w, nI a)) (e31 : σ0 31 0 1 = nI N) :
    ∃ τ, (∀ fs Q, Rn mX8_draws 0 [.ref (ad 29 0), .null, .null, .null] [] fs (enc σ) Q ↔ Rt fs (enc τ) none Q) ∧ MI σ0 τ (c, x, P, drwW N w a, nI (drwS N a)) := by
  have hs1 := sN_lt a
  have hs2 := sN_lt (sN a)
  have hs3 := sN_lt (sN (sN a))
  have e8 : σ 29 0 22 = nI a := h.2.2.1
  obtain ⟨σ1, hσ1⟩ : ∃ σ1, σ1 = upS σ 29 0 22 (nI (sN a)) := ⟨_, rfl⟩
  have h1 : MI σ0 σ1 (c, x, P, w, nI (sN a)) := by rw [hσ1]; exact MI_seed h
  obtain ⟨σ2, hσ2⟩ : ∃ σ2, σ2 = upS σ1 29 0 22 (nI (sN (sN a))) := ⟨_, rfl⟩
  have h2 : MI σ0 σ2 (c, x, P, w, nI (sN (sN a))) := by rw [hσ2]; exact MI_seed h1
  obtain ⟨σ3, hσ3⟩ : ∃ σ3, σ3 = upS σ2 29 0 22 (nI (sN (sN (sN a)))) := ⟨_, rfl⟩
  have h3 : MI σ0 σ3 (c, x, P, w, nI (sN (sN (sN a)))) := by rw [hσ3]; exact MI_seed h2
  have m1 : σ1 31 0 1 = nI N := by rw [h1.2.2.2.2 31 0 (by omega) (by omega) (by omega)]; exact e31
  have m2 : σ2 31 0 1 = nI N := by rw [h2.2.2.2.2 31 0 (by omega) (by omega) (by omega)]; exact e31
  have f1 : σ1 43 0 = w := h1.2.1
  have f2 : σ2 43 0 = w := h2.2.1
  have f3 : σ3 43 0 = w := h3.2.1
  have n6 : (6 : Int32) = nI 6 := rfl
  have n20 : (20 : Int32) = nI 20 := rfl
  have n10 : (10 : Int32) = nI 10 := rfl
  have A : ∀ fs Q, Rn mX8_draws 0 [.ref (ad 29 0), .null, .null, .null] [] fs (enc σ) Q ↔ Rn mX8_draws 7 [.ref (ad 29 0), .int (nI (sN a / 65536 % 6)), .null, .null] [] fs (enc σ1) Q := fun fs Q => by
    simp only [aX8_draws_0, aX8_draws_1, Nat.zero_le, Nat.reduceLeDiff, Nat.reduceAdd, i1_0, rr_c3, zc9, oc9, zc10, oc10, zc11, oc11, zc12, oc12, zc13, oc13, zc15, oc15, Int32.lt_irrefl, Nat.zero_lt_one, Rt_cons, Rt_void, isB_0, isB_1, isB_b, true_and, and_true, cats_nil, cats_int, cats_ref, and_self, if_true, if_false, ite_self, le_nlt, ite_not]
    rw [aX8_draws_3, n6, sp_mdraw ha (by omega) (by omega) e8, ← hσ1]
    simp only [aX8_draws_6, Nat.zero_le, Nat.reduceLeDiff, Nat.reduceAdd, i1_0, rr_c3, zc9, oc9, zc10, oc10, zc11, oc11, zc12, oc12, zc13, oc13, zc15, oc15, Int32.lt_irrefl, Nat.zero_lt_one, Rt_cons, Rt_void, isB_0, isB_1, isB_b, true_and, and_true, cats_nil, cats_int, cats_ref, and_self, if_true, if_false, ite_self, le_nlt, ite_not]
  have hw6 : sN a / 65536 % 6 < 6 := Nat.mod_lt _ (by omega)
  unfold drwW drwS
  generalize hway : sN a / 65536 % 6 = way at A hw6
  have w0 := nI_eq (a := way) (b := 0) (by omega) (by omega)
  have w1 := nI_eq (a := way) (b := 1) (by omega) (by omega)
  have w2 := nI_eq (a := way) (b := 2) (by omega) (by omega)
  rw [show nI 0 = 0 from rfl] at w0
  rw [show nI 1 = 1 from rfl] at w1
  rw [show nI 2 = 2 from rfl] at w2
  have N2 := nI_ltI (a := 1) (b := N) (by omega) (by omega)
  have N1 := nI_ltI (a := 0) (b := N) (by omega) (by omega)
  rw [show nI 1 = 1 from rfl] at N2
  rw [show nI 0 = 0 from rfl] at N1
  by_cases q0 : way = 0
  · rw [if_pos q0, if_pos q0]
    refine ⟨updK σ2 43 0 (addF w (nI (sN (sN a) / 65536 % 20))), fun fs Q => ?_, MI_w h2⟩
    rw [A]
    simp only [aX8_draws_7, aX8_draws_8, aX8_draws_11, aX8_draws_12, aX8_draws_15, aX8_draws_16, aX8_draws_19, aX8_draws_20, aX8_draws_23, aX8_draws_24, aX8_draws_25, aX8_draws_26, Nat.zero_le, Nat.reduceLeDiff, Nat.reduceAdd, i1_0, rr_c3, zc9, oc9, zc10, oc10, zc11, oc11, zc12, oc12, zc13, oc13, zc15, oc15, Int32.lt_irrefl, Nat.zero_lt_one, Rt_cons, Rt_void, isB_0, isB_1, isB_b, true_and, and_true, cats_nil, cats_int, cats_ref, and_self, if_true, if_false, ite_self, le_nlt, ite_not, w0.mpr q0, not_true_eq_false, aT_43, aN_43, cnt_43, v99.2.1, c1, f1]
    rw [aX8_draws_28, n20, sp_mdraw (by omega) (by omega) (by omega) h1.2.2.1, ← hσ2]
    simp only [aX8_draws_31, aX8_draws_32, aX8_draws_35, aX8_draws_36, aX8_draws_147, sp_lesser, Nat.zero_le, Nat.reduceLeDiff, Nat.reduceAdd, i1_0, rr_c3, zc9, oc9, zc10, oc10, zc11, oc11, zc12, oc12, zc13, oc13, zc15, oc15, Int32.lt_irrefl, Nat.zero_lt_one, Rt_cons, Rt_void, isB_0, isB_1, isB_b, true_and, and_true, cats_nil, cats_int, cats_ref, and_self, if_true, if_false, ite_self, le_nlt, ite_not, aT_43, aN_43, cnt_43, v99.2.1, c1, upS_chain, f2]
    rfl
  · rw [if_neg q0, if_neg q0]
    by_cases q1 : way = 1 ∧ 1 < N
    · rw [if_pos q1, if_pos q1]
      have hj1 : sN (sN a) / 65536 % N < N := Nat.mod_lt _ (by omega)
      have hj2 : sN (sN (sN a)) / 65536 % N < N := Nat.mod_lt _ (by omega)
      have B : ∀ fs Q, Rn mX8_draws 0 [.ref (ad 29 0), .null, .null, .null] [] fs (enc σ) Q ↔ Rn mX8_draws 76 [.ref (ad 29 0), .int (nI way), .int (nI (sN (sN a) / 65536 % N)), .int (nI (sN (sN (sN a)) / 65536 % N))] [] fs (enc σ3) Q := fun fs Q => by
        rw [A]
        simp only [aX8_draws_7, aX8_draws_8, aX8_draws_39, aX8_draws_40, aX8_draws_41, aX8_draws_44, aX8_draws_45, aX8_draws_48, aX8_draws_49, aX8_draws_50, aX8_draws_51, aX8_draws_54, aX8_draws_55, aX8_draws_56, aX8_draws_59, aX8_draws_60, Nat.zero_le, Nat.reduceLeDiff, Nat.reduceAdd, i1_0, rr_c3, zc9, oc9, zc10, oc10, zc11, oc11, zc12, oc12, zc13, oc13, zc15, oc15, Int32.lt_irrefl, Nat.zero_lt_one, Rt_cons, Rt_void, isB_0, isB_1, isB_b, true_and, and_true, cats_nil, cats_int, cats_ref, and_self, if_true, if_false, ite_self, le_nlt, ite_not, w1.mpr q1.1, aT_31, aN_31, cnt_31, v3.2.1, c1, m1, N2, q1.2, not_true_eq_false, not_false_eq_true]
        rw [aX8_draws_61, sp_mdraw (by omega) (by omega) (by omega) h1.2.2.1, ← hσ2]
        simp only [aX8_draws_64, aX8_draws_65, aX8_draws_66, aX8_draws_67, aX8_draws_70, aX8_draws_71, Nat.zero_le, Nat.reduceLeDiff, Nat.reduceAdd, i1_0, rr_c3, zc9, oc9, zc10, oc10, zc11, oc11, zc12, oc12, zc13, oc13, zc15, oc15, Int32.lt_irrefl, Nat.zero_lt_one, Rt_cons, Rt_void, isB_0, isB_1, isB_b, true_and, and_true, cats_nil, cats_int, cats_ref, and_self, if_true, if_false, ite_self, le_nlt, ite_not, aT_31, aN_31, cnt_31, v3.2.1, c1, m2]
        rw [aX8_draws_72, sp_mdraw (by omega) (by omega) (by omega) h2.2.2.1, ← hσ3]
        simp only [aX8_draws_75, Nat.zero_le, Nat.reduceLeDiff, Nat.reduceAdd, i1_0, rr_c3, zc9, oc9, zc10, oc10, zc11, oc11, zc12, oc12, zc13, oc13, zc15, oc15, Int32.lt_irrefl, Nat.zero_lt_one, Rt_cons, Rt_void, isB_0, isB_1, isB_b, true_and, and_true, cats_nil, cats_int, cats_ref, and_self, if_true, if_false, ite_self, le_nlt, ite_not, w1.mpr q1.1]
      generalize sN (sN a) / 65536 % N = j1 at hj1 B ⊢
      generalize sN (sN (sN a)) / 65536 % N = j2 at hj2 B ⊢
      by_cases q3 : ¬ j1 = j2 ∧ canE w j1 j2
      · rw [if_pos q3]
        refine ⟨_, fun fs Q => ?_, MI_w h3⟩
        rw [B]
        simp only [aX8_draws_76, aX8_draws_77, aX8_draws_80, aX8_draws_81, aX8_draws_82, aX8_draws_85, aX8_draws_88, aX8_draws_89, aX8_draws_92, aX8_draws_93, aX8_draws_94, aX8_draws_97, aX8_draws_147, sp_canSwap (k := 43) (by decide) (by decide) (by decide) (show j1 < 7 by omega) (show j2 < 7 by omega), sp_swaps (k := 43) (by decide) (by decide) (by decide) (show j1 < 7 by omega) (show j2 < 7 by omega), Nat.zero_le, Nat.reduceLeDiff, Nat.reduceAdd, i1_0, rr_c3, zc9, oc9, zc10, oc10, zc11, oc11, zc12, oc12, zc13, oc13, zc15, oc15, Int32.lt_irrefl, Nat.zero_lt_one, Rt_cons, Rt_void, isB_0, isB_1, isB_b, true_and, and_true, cats_nil, cats_int, cats_ref, and_self, if_true, if_false, ite_self, le_nlt, ite_not, f3, bI_t q3]
      · rw [if_neg q3]
        refine ⟨σ3, fun fs Q => ?_, h3⟩
        rw [B]
        simp only [aX8_draws_76, aX8_draws_77, aX8_draws_80, aX8_draws_81, aX8_draws_82, aX8_draws_85, aX8_draws_97, aX8_draws_147, sp_canSwap (k := 43) (by decide) (by decide) (by decide) (show j1 < 7 by omega) (show j2 < 7 by omega), Nat.zero_le, Nat.reduceLeDiff, Nat.reduceAdd, i1_0, rr_c3, zc9, oc9, zc10, oc10, zc11, oc11, zc12, oc12, zc13, oc13, zc15, oc15, Int32.lt_irrefl, Nat.zero_lt_one, Rt_cons, Rt_void, isB_0, isB_1, isB_b, true_and, and_true, cats_nil, cats_int, cats_ref, and_self, if_true, if_false, ite_self, le_nlt, ite_not, f3, bI_f q3]
    · rw [if_neg q1, if_neg q1]
      have C0 : ∀ fs Q, Rn mX8_draws 0 [.ref (ad 29 0), .null, .null, .null] [] fs (enc σ) Q ↔ Rn mX8_draws 100 [.ref (ad 29 0), .int (nI way), .null, .null] [] fs (enc σ1) Q := fun fs Q => by
        rw [A]
        by_cases z : way = 1
        · have z2 : ¬ 1 < N := fun y => q1 ⟨z, y⟩
          simp only [aX8_draws_7, aX8_draws_8, aX8_draws_39, aX8_draws_40, aX8_draws_41, aX8_draws_44, aX8_draws_45, aX8_draws_48, aX8_draws_49, aX8_draws_50, aX8_draws_51, Nat.zero_le, Nat.reduceLeDiff, Nat.reduceAdd, i1_0, rr_c3, zc9, oc9, zc10, oc10, zc11, oc11, zc12, oc12, zc13, oc13, zc15, oc15, Int32.lt_irrefl, Nat.zero_lt_one, Rt_cons, Rt_void, isB_0, isB_1, isB_b, true_and, and_true, cats_nil, cats_int, cats_ref, and_self, if_true, if_false, ite_self, le_nlt, ite_not, w1.mpr z, aT_31, aN_31, cnt_31, v3.2.1, c1, m1, N2, z2, not_true_eq_false, not_false_eq_true]
        · simp only [aX8_draws_7, aX8_draws_8, aX8_draws_39, aX8_draws_40, aX8_draws_41, aX8_draws_44, aX8_draws_45, aX8_draws_48, aX8_draws_49, aX8_draws_50, aX8_draws_51, Nat.zero_le, Nat.reduceLeDiff, Nat.reduceAdd, i1_0, rr_c3, zc9, oc9, zc10, oc10, zc11, oc11, zc12, oc12, zc13, oc13, zc15, oc15, Int32.lt_irrefl, Nat.zero_lt_one, Rt_cons, Rt_void, isB_0, isB_1, isB_b, true_and, and_true, cats_nil, cats_int, cats_ref, and_self, if_true, if_false, ite_self, le_nlt, ite_not, w0, w1, q0, z, not_true_eq_false, not_false_eq_true]
      by_cases q2 : way = 2 ∧ 0 < N
      · rw [if_pos q2, if_pos q2]
        have hj1 : sN (sN a) / 65536 % N < N := Nat.mod_lt _ (by omega)
        have B : ∀ fs Q, Rn mX8_draws 0 [.ref (ad 29 0), .null, .null, .null] [] fs (enc σ) Q ↔ Rn mX8_draws 132 [.ref (ad 29 0), .int (nI way), .int (nI (sN (sN a) / 65536 % N)), .int (nI (sN (sN (sN a)) / 65536 % 10))] [] fs (enc σ3) Q := fun fs Q => by
          rw [C0]
          simp only [aX8_draws_100, aX8_draws_101, aX8_draws_102, aX8_draws_105, aX8_draws_106, aX8_draws_109, aX8_draws_110, aX8_draws_111, aX8_draws_114, aX8_draws_115, aX8_draws_116, aX8_draws_119, aX8_draws_120, Nat.zero_le, Nat.reduceLeDiff, Nat.reduceAdd, i1_0, rr_c3, zc9, oc9, zc10, oc10, zc11, oc11, zc12, oc12, zc13, oc13, zc15, oc15, Int32.lt_irrefl, Nat.zero_lt_one, Rt_cons, Rt_void, isB_0, isB_1, isB_b, true_and, and_true, cats_nil, cats_int, cats_ref, and_self, if_true, if_false, ite_self, le_nlt, ite_not, w2.mpr q2.1, aT_31, aN_31, cnt_31, v3.2.1, c1, m1, N1, q2.2, not_true_eq_false, not_false_eq_true]
          rw [aX8_draws_121, sp_mdraw (by omega) (by omega) (by omega) h1.2.2.1, ← hσ2]
          simp only [aX8_draws_124, aX8_draws_125, aX8_draws_126, Nat.zero_le, Nat.reduceLeDiff, Nat.reduceAdd, i1_0, rr_c3, zc9, oc9, zc10, oc10, zc11, oc11, zc12, oc12, zc13, oc13, zc15, oc15, Int32.lt_irrefl, Nat.zero_lt_one, Rt_cons, Rt_void, isB_0, isB_1, isB_b, true_and, and_true, cats_nil, cats_int, cats_ref, and_self, if_true, if_false, ite_self, le_nlt, ite_not]
          rw [aX8_draws_128, n10, sp_mdraw (by omega) (by omega) (by omega) h2.2.2.1, ← hσ3]
          simp only [aX8_draws_131, Nat.zero_le, Nat.reduceLeDiff, Nat.reduceAdd, i1_0, rr_c3, zc9, oc9, zc10, oc10, zc11, oc11, zc12, oc12, zc13, oc13, zc15, oc15, Int32.lt_irrefl, Nat.zero_lt_one, Rt_cons, Rt_void, isB_0, isB_1, isB_b, true_and, and_true, cats_nil, cats_int, cats_ref, and_self, if_true, if_false, ite_self, le_nlt, ite_not, w2.mpr q2.1]
        generalize sN (sN a) / 65536 % N = j1 at hj1 B ⊢
        generalize nI (sN (sN (sN a)) / 65536 % 10) = n at B ⊢
        by_cases q3 : canP w j1 n
        · rw [if_pos q3]
          refine ⟨_, fun fs Q => ?_, MI_w h3⟩
          have q3' : canP (σ3 43 0) j1 n := by rw [f3]; exact q3
          rw [B]
          simp only [aX8_draws_132, aX8_draws_133, aX8_draws_134, aX8_draws_135, aX8_draws_138, aX8_draws_141, aX8_draws_142, aX8_draws_143, aX8_draws_144, aX8_draws_147, sp_mCanPay (show j1 < 7 by omega), sp_paysBy (show j1 < 7 by omega), Nat.zero_le, Nat.reduceLeDiff, Nat.reduceAdd, i1_0, rr_c3, zc9, oc9, zc10, oc10, zc11, oc11, zc12, oc12, zc13, oc13, zc15, oc15, Int32.lt_irrefl, Nat.zero_lt_one, Rt_cons, Rt_void, isB_0, isB_1, isB_b, true_and, and_true, cats_nil, cats_int, cats_ref, and_self, if_true, if_false, ite_self, le_nlt, ite_not, bI_t q3']
          rw [f3]
        · rw [if_neg q3]
          refine ⟨σ3, fun fs Q => ?_, h3⟩
          have q3' : ¬ canP (σ3 43 0) j1 n := by rw [f3]; exact q3
          rw [B]
          simp only [aX8_draws_132, aX8_draws_133, aX8_draws_134, aX8_draws_135, aX8_draws_138, aX8_draws_147, sp_mCanPay (show j1 < 7 by omega), Nat.zero_le, Nat.reduceLeDiff, Nat.reduceAdd, i1_0, rr_c3, zc9, oc9, zc10, oc10, zc11, oc11, zc12, oc12, zc13, oc13, zc15, oc15, Int32.lt_irrefl, Nat.zero_lt_one, Rt_cons, Rt_void, isB_0, isB_1, isB_b, true_and, and_true, cats_nil, cats_int, cats_ref, and_self, if_true, if_false, ite_self, le_nlt, ite_not, bI_f q3']
      · rw [if_neg q2, if_neg q2]
        refine ⟨σ1, fun fs Q => ?_, h1⟩
        rw [C0]
        by_cases z : way = 2
        · have z2 : ¬ 0 < N := fun y => q2 ⟨z, y⟩
          simp only [aX8_draws_100, aX8_draws_101, aX8_draws_102, aX8_draws_105, aX8_draws_106, aX8_draws_109, aX8_draws_110, aX8_draws_111, aX8_draws_147, Nat.zero_le, Nat.reduceLeDiff, Nat.reduceAdd, i1_0, rr_c3, zc9, oc9, zc10, oc10, zc11, oc11, zc12, oc12, zc13, oc13, zc15, oc15, Int32.lt_irrefl, Nat.zero_lt_one, Rt_cons, Rt_void, isB_0, isB_1, isB_b, true_and, and_true, cats_nil, cats_int, cats_ref, and_self, if_true, if_false, ite_self, le_nlt, ite_not, w2.mpr z, aT_31, aN_31, cnt_31, v3.2.1, c1, m1, N1, z2, not_true_eq_false, not_false_eq_true]
        · simp only [aX8_draws_100, aX8_draws_101, aX8_draws_102, aX8_draws_105, aX8_draws_106, aX8_draws_109, aX8_draws_110, aX8_draws_111, aX8_draws_147, Nat.zero_le, Nat.reduceLeDiff, Nat.reduceAdd, i1_0, rr_c3, zc9, oc9, zc10, oc10, zc11, oc11, zc12, oc12, zc13, oc13, zc15, oc15, Int32.lt_irrefl, Nat.zero_lt_one, Rt_cons, Rt_void, isB_0, isB_1, isB_b, true_and, and_true, cats_nil, cats_int, cats_ref, and_self, if_true, if_false, ite_self, le_nlt, ite_not, w2, z, not_false_eq_true]
end S64
def driftF (ct ow kd pt : Nat → Int32) (C N : Nat) (X : (Nat → Int32) × Int32) : (Nat → Int32) × Int32 := (passW ct ow kd pt C N (drwW N X.1 X.2.toNatClampNeg), nI (drwS N X.2.toNatClampNeg))
theorem drwS_lt {N a : Nat} : drwS N a < 2147483648 := by
  unfold drwS
  split
  · exact sN_lt _
  · split
    · exact sN_lt _
    · split <;> exact sN_lt _
theorem dP_drift {G N C k : Nat} {ct ow kd pt : Nat → Int32} {X : (Nat → Int32) × Int32} (rn : RN ct ow kd pt C N G) (h : dP G N k X) : dP G N (k + 1) (driftF ct ow kd pt C N X) := ⟨WH_W rn (WH_drw rn.2.1 h.1), nI_pos (by have := drwS_lt (N := N) (a := X.2.toNatClampNeg); omega)⟩
section S64
variable {σ : Mem} {fs : List Fm} {M : List va_E} {Q : List va_E → Option Value → Prop}
theorem lp_drift {σ0 : Mem} {n q C N G : Nat} {ct ow kd pt : Nat → Int32} {l2 : Value} (hn : n ≤ 30) (rn : RN ct ow kd pt C N G) (rc : RC σ0 q ct ow kd pt C N G) (hq : q < 2) : ∀ (m k : Nat) (σ : Mem) (c x : Nat) (P : Nat → Nat → Int32) (w : Nat → Int32) (s : Int32), k + m = n → CI σ0 σ q (c, x, P, w, s) → dP G N k (w, s) →
    ∃ τ, (∀ fs Q, Rn mX7_drift 14 [.ref (ad 0 0), .int (nI n), l2, .int (nI k)] [] fs (enc σ) Q ↔ Rn mX7_drift 47 [.ref (ad 0 0), .int (nI n), l2, .int (nI n)] [] fs (enc τ) Q) ∧ CI σ0 τ q (itD (driftF ct ow kd pt C N) m (c, x, P, w, s)) := by
  intro m
  induction m with
  | zero =>
    intro k σ c x P w s hk h hp
    obtain rfl : k = n := by omega
    refine ⟨σ, fun fs Q => ?_, h⟩
    simp only [aX7_drift_14, aX7_drift_15, aX7_drift_16, Nat.zero_le, Nat.reduceLeDiff, Nat.reduceAdd, i1_0, rr_c3, zc9, oc9, zc10, oc10, zc11, oc11, zc12, oc12, zc13, oc13, zc15, oc15, Int32.lt_irrefl, Nat.zero_lt_one, Rt_cons, Rt_void, isB_0, isB_1, isB_b, true_and, and_true, cats_nil, cats_int, cats_ref, and_self, if_true, if_false, ite_self, le_nlt, ite_not]
  | succ m ih =>
    intro k σ c x P w s hk h hp
    have hk' : k + 1 + m = n := by omega
    have h1 := CI_rem h
    obtain ⟨a, ha, rfl⟩ := nI_of (show ¬ s < 0 from hp.2)
    have ea : (nI a).toNatClampNeg = a := nI_clamp ha
    obtain ⟨σ1, d1, d2⟩ := sp_drawDeed (N := N) rn.2.1 ha h1 (by
      rw [h1.2.2.1, h1.2.2.2.2.2 3 q (by omega) (by omega) (by omega)]
      exact rc.1.2.1)
    have rc1 : RC σ1 (rr (σ1 9 0 0)) ct ow kd pt C N G := by
      rw [d2.2.2.1]
      exact RC_congr rc (fun k a b => d2.2.2.2.2.2 k q (by omega) (by omega) (by omega))
    obtain ⟨τ1, a1, a2, a3⟩ := sp_passDayW rn rc1 (show 0 < 34 by decide) d2.2.1 (WH_drw rn.2.1 hp.1) (by omega)
    have h2 := CI_Fr d2 a3 a2
    have dp' : dP G N (k + 1) (passW ct ow kd pt C N (drwW N w a), nI (drwS N a)) := by
      have := dP_drift rn hp
      unfold driftF at this
      simp only [ea] at this
      exact this
    obtain ⟨τ, b1, b2⟩ := ih (k + 1) τ1 _ _ _ _ _ hk' h2 dp'
    refine ⟨τ, fun fs Q => ?_, ?_⟩
    · have l : nI k < nI n := nI_lt (by omega) (by omega)
      rw [aX7_drift_14]
      simp only [aX7_drift_15, aX7_drift_16, aX7_drift_19, aX7_drift_20, aX7_drift_23, aX7_drift_24, Nat.zero_le, Nat.reduceLeDiff, Nat.reduceAdd, i1_0, rr_c3, zc9, oc9, zc10, oc10, zc11, oc11, zc12, oc12, zc13, oc13, zc15, oc15, Int32.lt_irrefl, Nat.zero_lt_one, Rt_cons, Rt_void, isB_0, isB_1, isB_b, true_and, and_true, cats_nil, cats_int, cats_ref, and_self, if_true, if_false, ite_self, le_nlt, ite_not, l]
      rw [aX7_drift_27, sp_remember h.1.1 h.1.2.1 h.1.2.2.2.1 h.1.2.2.1 (CS_bool h.2.1)]
      simp only [aX7_drift_30, Nat.zero_le, Nat.reduceLeDiff, Nat.reduceAdd, i1_0, rr_c3, zc9, oc9, zc10, oc10, zc11, oc11, zc12, oc12, zc13, oc13, zc15, oc15, Int32.lt_irrefl, Nat.zero_lt_one, Rt_cons, Rt_void, isB_0, isB_1, isB_b, true_and, and_true, cats_nil, cats_int, cats_ref, and_self, if_true, if_false, ite_self, le_nlt, ite_not]
      rw [aX7_drift_31, d1]
      simp only [aX7_drift_34, aX7_drift_35, Nat.zero_le, Nat.reduceLeDiff, Nat.reduceAdd, i1_0, rr_c3, zc9, oc9, zc10, oc10, zc11, oc11, zc12, oc12, zc13, oc13, zc15, oc15, Int32.lt_irrefl, Nat.zero_lt_one, Rt_cons, Rt_void, isB_0, isB_1, isB_b, true_and, and_true, cats_nil, cats_int, cats_ref, and_self, if_true, if_false, ite_self, le_nlt, ite_not]
      rw [aX7_drift_38 (by decide), a1]
      simp only [aX7_drift_41, aX7_drift_44, Nat.zero_le, Nat.reduceLeDiff, Nat.reduceAdd, i1_0, rr_c3, zc9, oc9, zc10, oc10, zc11, oc11, zc12, oc12, zc13, oc13, zc15, oc15, Int32.lt_irrefl, Nat.zero_lt_one, Rt_cons, Rt_void, isB_0, isB_1, isB_b, true_and, and_true, cats_nil, cats_int, cats_ref, and_self, if_true, if_false, ite_self, le_nlt, ite_not, nI_1]
      exact b1 fs Q
    · have : dst (driftF ct ow kd pt C N) (c, x, P, w, nI a) = (noteC c, (x + 1) % 30, noteP P c w, passW ct ow kd pt C N (drwW N w a), nI (drwS N a)) := by
        unfold dst driftF
        simp only [ea]
      show CI σ0 τ q (itD (driftF ct ow kd pt C N) m (dst (driftF ct ow kd pt C N) (c, x, P, w, nI a)))
      rw [this]
      exact b2
theorem lp_mdrift {σ0 : Mem} {n C N G : Nat} {ct ow kd pt : Nat → Int32} (hn : n ≤ 30) (rn : RN ct ow kd pt C N G) (hC : 0 < C) (e31 : σ0 31 0 1 = nI N) (e310 : σ0 31 0 0 = nI C) (e32 : σ0 32 0 = ct) (e33 : σ0 33 0 = ow) (e35 : σ0 35 0 = kd) (e36 : σ0 36 0 = pt) : ∀ (m k : Nat) (σ : Mem) (c x : Nat) (P : Nat → Nat → Int32) (w : Nat → Int32) (s : Int32), k + m = n → c ≤ 30 → MI σ0 σ (c, x, P, w, s) → dP G N k (w, s) →
    ∃ τ, (∀ fs Q, Rn mX8_drift 40 [.ref (ad 29 0), .int (nI n), .int (nI k)] [] fs (enc σ) Q ↔ Rn mX8_drift 67 [.ref (ad 29 0), .int (nI n), .int (nI n)] [] fs (enc τ) Q) ∧ MI σ0 τ (itD (driftF ct ow kd pt C N) m (c, x, P, w, s)) := by
  intro m
  induction m with
  | zero =>
    intro k σ c x P w s hk hc h hp
    obtain rfl : k = n := by omega
    refine ⟨σ, fun fs Q => ?_, h⟩
    simp only [aX8_drift_40, aX8_drift_41, aX8_drift_42, Nat.zero_le, Nat.reduceLeDiff, Nat.reduceAdd, i1_0, rr_c3, zc9, oc9, zc10, oc10, zc11, oc11, zc12, oc12, zc13, oc13, zc15, oc15, Int32.lt_irrefl, Nat.zero_lt_one, Rt_cons, Rt_void, isB_0, isB_1, isB_b, true_and, and_true, cats_nil, cats_int, cats_ref, and_self, if_true, if_false, ite_self, le_nlt, ite_not]
  | succ m ih =>
    intro k σ c x P w s hk hc h hp
    have hk' : k + 1 + m = n := by omega
    have h1 := MI_not hc h
    obtain ⟨a, ha, rfl⟩ := nI_of (show ¬ s < 0 from hp.2)
    have ea : (nI a).toNatClampNeg = a := nI_clamp ha
    obtain ⟨σ1, d1, d2⟩ := sp_draws (N := N) rn.2.1 ha h1 e31
    have f : ∀ k i, ¬ k = 43 → ¬ k = 45 → ¬ k = 29 → σ1 k i = σ0 k i := d2.2.2.2.2
    have a1 := fun fs Q => sp_passesW (σ := σ1) (fs := fs) (Q := Q) (k0 := 43) (Or.inl rfl) rn hC (by rw [f _ _ (by omega) (by omega) (by omega)]; exact e31) (by rw [f _ _ (by omega) (by omega) (by omega)]; exact e310) (by rw [f _ _ (by omega) (by omega) (by omega)]; exact e32) (by rw [f _ _ (by omega) (by omega) (by omega)]; exact e33) (by rw [f _ _ (by omega) (by omega) (by omega)]; exact e35) (by rw [f _ _ (by omega) (by omega) (by omega)]; exact e36) (WH_drw rn.2.1 hp.1) (by omega) d2.2.1
    have h2 := MI_w (v := passW ct ow kd pt C N (drwW N w a)) d2
    have hc' : noteC c ≤ 30 := by
      unfold noteC
      split <;> omega
    have dp' : dP G N (k + 1) (passW ct ow kd pt C N (drwW N w a), nI (drwS N a)) := by
      have := dP_drift rn hp
      unfold driftF at this
      simp only [ea] at this
      exact this
    obtain ⟨τ, b1, b2⟩ := ih (k + 1) _ _ _ _ _ _ hk' hc' h2 dp'
    refine ⟨τ, fun fs Q => ?_, ?_⟩
    · have l : nI k < nI n := nI_lt (by omega) (by omega)
      rw [aX8_drift_40]
      simp only [aX8_drift_41, aX8_drift_42, aX8_drift_45, Nat.zero_le, Nat.reduceLeDiff, Nat.reduceAdd, i1_0, rr_c3, zc9, oc9, zc10, oc10, zc11, oc11, zc12, oc12, zc13, oc13, zc15, oc15, Int32.lt_irrefl, Nat.zero_lt_one, Rt_cons, Rt_void, isB_0, isB_1, isB_b, true_and, and_true, cats_nil, cats_int, cats_ref, and_self, if_true, if_false, ite_self, le_nlt, ite_not, l]
      rw [aX8_drift_46, sp_notes hc h.1.1]
      simp only [aX8_drift_49, Nat.zero_le, Nat.reduceLeDiff, Nat.reduceAdd, i1_0, rr_c3, zc9, oc9, zc10, oc10, zc11, oc11, zc12, oc12, zc13, oc13, zc15, oc15, Int32.lt_irrefl, Nat.zero_lt_one, Rt_cons, Rt_void, isB_0, isB_1, isB_b, true_and, and_true, cats_nil, cats_int, cats_ref, and_self, if_true, if_false, ite_self, le_nlt, ite_not]
      rw [aX8_drift_50, d1]
      simp only [aX8_drift_53, aX8_drift_54, aX8_drift_55, Nat.zero_le, Nat.reduceLeDiff, Nat.reduceAdd, i1_0, rr_c3, zc9, oc9, zc10, oc10, zc11, oc11, zc12, oc12, zc13, oc13, zc15, oc15, Int32.lt_irrefl, Nat.zero_lt_one, Rt_cons, Rt_void, isB_0, isB_1, isB_b, true_and, and_true, cats_nil, cats_int, cats_ref, and_self, if_true, if_false, ite_self, le_nlt, ite_not]
      rw [aX8_drift_58, a1]
      simp only [aX8_drift_61, aX8_drift_64, Nat.zero_le, Nat.reduceLeDiff, Nat.reduceAdd, i1_0, rr_c3, zc9, oc9, zc10, oc10, zc11, oc11, zc12, oc12, zc13, oc13, zc15, oc15, Int32.lt_irrefl, Nat.zero_lt_one, Rt_cons, Rt_void, isB_0, isB_1, isB_b, true_and, and_true, cats_nil, cats_int, cats_ref, and_self, if_true, if_false, ite_self, le_nlt, ite_not, nI_1]
      exact b1 fs Q
    · have : dst (driftF ct ow kd pt C N) (c, x, P, w, nI a) = (noteC c, (x + 1) % 30, noteP P c w, passW ct ow kd pt C N (drwW N w a), nI (drwS N a)) := by
        unfold dst driftF
        simp only [ea]
      show MI σ0 τ (itD (driftF ct ow kd pt C N) m (dst (driftF ct ow kd pt C N) (c, x, P, w, nI a)))
      rw [this]
      exact b2
theorem api_drift (n : Int32) : Sim Rel mX7_drift mX8_drift [.int n] := by
  refine Sim_of (Lc := [.ref (ad 0 0), .int n, .null, .null]) (Lm := [.ref (ad 29 0), .int n, .null]) rfl rfl (fun σ hR => ?_)
  obtain ⟨r1, r2, C, N, G, r3, r4, r5, r6, r7⟩ := id hR
  obtain ⟨q1, q2, q3, q4, ⟨l0, l1, l2⟩, ⟨k0, k1, k2⟩, q5, q6, q7⟩ := id r3.1
  have hq := rr_lt (σ 9 0 0)
  obtain ⟨d, d1, d2⟩ := r3.2.2.2.1
  have e9 : σ 9 0 1 = nI d := r3.2.2.1.1.trans d2
  have n2 : ¬ (-1000000002 : Int32) = 0 := by decide
  have n3 : ¬ (-1000000003 : Int32) = 0 := by decide
  have n4 : ¬ (-1000000004 : Int32) = 0 := by decide
  have l := nI_ltI (a := 9000) (b := d) (by decide) (by omega)
  have en9 : nI 9000 = 9000 := rfl
  rw [en9] at l
  by_cases ho : n < 1 ∨ 30 < n
  · refine ⟨σ, σ, -1000000002, ?_, ?_, hR⟩
    · simp only [aX7_drift_0, aX7_drift_1, aX7_drift_2, aX7_drift_5, aX7_drift_6, aX7_drift_7, aX7_drift_10, aX7_drift_11, sp_refusal q1 d1 k0 e9, if_pos ho, Nat.zero_le, Nat.reduceLeDiff, Nat.reduceAdd, i1_0, rr_c3, zc9, oc9, zc10, oc10, zc11, oc11, zc12, oc12, zc13, oc13, zc15, oc15, Int32.lt_irrefl, Nat.zero_lt_one, Rt_cons, Rt_void, isB_0, isB_1, isB_b, true_and, and_true, cats_nil, cats_int, cats_ref, and_self, if_true, if_false, ite_self, le_nlt, ite_not, Rt_nil, n2]
    · simp only [aX8_drift_0, aX8_drift_1, aX8_drift_2, aX8_drift_4, aX8_drift_7, aX8_drift_10, aX8_drift_12, sp_in, Nat.zero_le, Nat.reduceLeDiff, Nat.reduceAdd, i1_0, rr_c3, zc9, oc9, zc10, oc10, zc11, oc11, zc12, oc12, zc13, oc13, zc15, oc15, Int32.lt_irrefl, Nat.zero_lt_one, Rt_cons, Rt_void, isB_0, isB_1, isB_b, true_and, and_true, cats_nil, cats_int, cats_ref, and_self, if_true, if_false, ite_self, le_nlt, ite_not, Rt_nil, bI_f (show ¬ (¬ n < 1 ∧ ¬ 30 < n) from fun z => ho.elim z.1 z.2)]
  · have hin := not_out.mp ho
    have hn0 : ¬ n < 0 := fun z => hin.1 (Int32.lt_trans z (by decide))
    obtain ⟨a, ha, rfl⟩ := nI_of2 (M := 30) (n := 30) (by decide) hn0 (Int32.not_lt.mp hin.2)
    by_cases hC : C = 0
    · refine ⟨σ, σ, -1000000003, ?_, ?_, hR⟩
      · simp only [aX7_drift_0, aX7_drift_1, aX7_drift_2, aX7_drift_5, aX7_drift_6, aX7_drift_7, aX7_drift_10, aX7_drift_11, sp_refusal q1 d1 k0 e9, if_neg ho, if_pos hC, Nat.zero_le, Nat.reduceLeDiff, Nat.reduceAdd, i1_0, rr_c3, zc9, oc9, zc10, oc10, zc11, oc11, zc12, oc12, zc13, oc13, zc15, oc15, Int32.lt_irrefl, Nat.zero_lt_one, Rt_cons, Rt_void, isB_0, isB_1, isB_b, true_and, and_true, cats_nil, cats_int, cats_ref, and_self, if_true, if_false, ite_self, le_nlt, ite_not, Rt_nil, n3]
      · simp only [aX8_drift_0, aX8_drift_1, aX8_drift_2, aX8_drift_4, aX8_drift_7, aX8_drift_10, aX8_drift_12, aX8_drift_13, aX8_drift_14, aX8_drift_17, aX8_drift_20, aX8_drift_22, sp_in, sp_mTold q1 l0, Nat.zero_le, Nat.reduceLeDiff, Nat.reduceAdd, i1_0, rr_c3, zc9, oc9, zc10, oc10, zc11, oc11, zc12, oc12, zc13, oc13, zc15, oc15, Int32.lt_irrefl, Nat.zero_lt_one, Rt_cons, Rt_void, isB_0, isB_1, isB_b, true_and, and_true, cats_nil, cats_int, cats_ref, and_self, if_true, if_false, ite_self, le_nlt, ite_not, Rt_nil, bI_t hin, bI_f (show ¬ 0 < C by omega)]
    · by_cases hd : 9000 < d
      · refine ⟨σ, σ, -1000000004, ?_, ?_, hR⟩
        · simp only [aX7_drift_0, aX7_drift_1, aX7_drift_2, aX7_drift_5, aX7_drift_6, aX7_drift_7, aX7_drift_10, aX7_drift_11, sp_refusal q1 d1 k0 e9, if_neg ho, if_neg hC, if_pos hd, Nat.zero_le, Nat.reduceLeDiff, Nat.reduceAdd, i1_0, rr_c3, zc9, oc9, zc10, oc10, zc11, oc11, zc12, oc12, zc13, oc13, zc15, oc15, Int32.lt_irrefl, Nat.zero_lt_one, Rt_cons, Rt_void, isB_0, isB_1, isB_b, true_and, and_true, cats_nil, cats_int, cats_ref, and_self, if_true, if_false, ite_self, le_nlt, ite_not, Rt_nil, n4]
        · simp only [aX8_drift_0, aX8_drift_1, aX8_drift_2, aX8_drift_4, aX8_drift_7, aX8_drift_10, aX8_drift_12, aX8_drift_13, aX8_drift_14, aX8_drift_17, aX8_drift_20, aX8_drift_22, aX8_drift_23, aX8_drift_24, aX8_drift_27, aX8_drift_28, aX8_drift_29, aX8_drift_32, aX8_drift_35, aX8_drift_37, sp_in, sp_mTold q1 l0, Nat.zero_le, Nat.reduceLeDiff, Nat.reduceAdd, i1_0, rr_c3, zc9, oc9, zc10, oc10, zc11, oc11, zc12, oc12, zc13, oc13, zc15, oc15, Int32.lt_irrefl, Nat.zero_lt_one, Rt_cons, Rt_void, isB_0, isB_1, isB_b, true_and, and_true, cats_nil, cats_int, cats_ref, and_self, if_true, if_false, ite_self, le_nlt, ite_not, Rt_nil, bI_t hin, bI_t (show 0 < C by omega), aT_43, aN_43, cnt_43, v99.1, c0, d2, l.mpr hd, not_true_eq_false]
      · obtain ⟨c, x, p1, p2, p3, p4, p5, p6⟩ := r6
        have ci := CI_of p1 p2 p3 p4 p6 r3.2.2.1 rfl r2.1
        have rn := RN_of r3.1
        have wh : WH (9000 + 0) G N (σ 43 0) := by
          refine ⟨?_, HG_of r3.2.2.1⟩
          obtain ⟨_, h⟩ := r3.2.2.2
          exact ⟨⟨d, by omega, d2⟩, h⟩
        have dp : dP G N 0 (σ 43 0, σ 29 0 22) := ⟨wh, r2.2⟩
        obtain ⟨σ1, a1, a2⟩ := lp_drift (n := a) (l2 := .int 0) ha rn (RC_of r3.1) hq a 0 σ _ _ _ _ _ (by omega) ci dp
        have mi := MI_of (x := x) a2 p5
        have f := a2.2.2.2.2.2
        obtain ⟨σ2, b1, b2⟩ := lp_mdrift (n := a) ha rn (by omega) (by rw [f _ _ (by omega) (by omega) (by omega)]; exact l1) (by rw [f _ _ (by omega) (by omega) (by omega)]; exact l0) (f 32 0 (by omega) (by omega) (by omega)) (f 33 0 (by omega) (by omega) (by omega)) (f 35 0 (by omega) (by omega) (by omega)) (f 36 0 (by omega) (by omega) (by omega)) a 0 σ1 _ _ _ _ _ (by omega) p1 mi dp
        obtain ⟨g1, g2⟩ := itD_P (p := dP G N) (wf := WFw G N) (fun k X h => dP_drift rn h) (fun k X a b => dP_wf a b) a 0 (c, x, (fun j t => σ 45 0 (99 * j + t)), σ 43 0, σ 29 0 22) (by omega) p1 dp (fun j hj => (p6 j hj).2.2)
        have l' : ¬ 9000 < nI d := fun z => hd (l.mp z)
        have e0 : nI 0 = 0 := rfl
        rw [e0] at a1 b1
        refine ⟨σ1, σ2, σ1 9 0 2, ?_, ?_, Rel_days r1 r3 r4 r5 r7 a2 b2 g1.2 (dP_wf (by omega) g1) g2⟩
        · simp only [aX7_drift_0, aX7_drift_1, aX7_drift_2, aX7_drift_5, aX7_drift_6, aX7_drift_7, aX7_drift_10, aX7_drift_11, aX7_drift_12, aX7_drift_13, sp_refusal q1 d1 k0 e9, if_neg ho, if_neg hC, if_neg hd, Nat.zero_le, Nat.reduceLeDiff, Nat.reduceAdd, i1_0, rr_c3, zc9, oc9, zc10, oc10, zc11, oc11, zc12, oc12, zc13, oc13, zc15, oc15, Int32.lt_irrefl, Nat.zero_lt_one, Rt_cons, Rt_void, isB_0, isB_1, isB_b, true_and, and_true, cats_nil, cats_int, cats_ref, and_self, if_true, if_false, ite_self, le_nlt, ite_not, a1]
          simp only [aX7_drift_47, aX7_drift_48, aX7_drift_51, aX7_drift_54, Nat.zero_le, Nat.reduceLeDiff, Nat.reduceAdd, i1_0, rr_c3, zc9, oc9, zc10, oc10, zc11, oc11, zc12, oc12, zc13, oc13, zc15, oc15, Int32.lt_irrefl, Nat.zero_lt_one, Rt_cons, Rt_void, isB_0, isB_1, isB_b, true_and, and_true, cats_nil, cats_int, cats_ref, and_self, if_true, if_false, ite_self, le_nlt, ite_not, Rt_nil]
        · have m31 : σ1 31 0 0 = nI C := by rw [f _ _ (by omega) (by omega) (by omega)]; exact l0
          have m43 : σ1 43 0 0 = nI d := by rw [f _ _ (by omega) (by omega) (by omega)]; exact d2
          simp only [aX8_drift_0, aX8_drift_1, aX8_drift_2, aX8_drift_4, aX8_drift_7, aX8_drift_10, aX8_drift_12, aX8_drift_13, aX8_drift_14, aX8_drift_17, aX8_drift_20, aX8_drift_22, aX8_drift_23, aX8_drift_24, aX8_drift_27, aX8_drift_28, aX8_drift_29, aX8_drift_32, aX8_drift_35, aX8_drift_37, aX8_drift_38, aX8_drift_39, sp_in, sp_mTold q1 m31, Nat.zero_le, Nat.reduceLeDiff, Nat.reduceAdd, i1_0, rr_c3, zc9, oc9, zc10, oc10, zc11, oc11, zc12, oc12, zc13, oc13, zc15, oc15, Int32.lt_irrefl, Nat.zero_lt_one, Rt_cons, Rt_void, isB_0, isB_1, isB_b, true_and, and_true, cats_nil, cats_int, cats_ref, and_self, if_true, if_false, ite_self, le_nlt, ite_not, bI_t hin, bI_t (show 0 < C by omega), aT_43, aN_43, cnt_43, v99.1, c0, m43, l', b1]
          simp only [aX8_drift_67, aX8_drift_68, aX8_drift_71, aX8_drift_72, aX8_drift_73, Nat.zero_le, Nat.reduceLeDiff, Nat.reduceAdd, i1_0, rr_c3, zc9, oc9, zc10, oc10, zc11, oc11, zc12, oc12, zc13, oc13, zc15, oc15, Int32.lt_irrefl, Nat.zero_lt_one, Rt_cons, Rt_void, isB_0, isB_1, isB_b, true_and, and_true, cats_nil, cats_int, cats_ref, and_self, if_true, if_false, ite_self, le_nlt, ite_not, Rt_nil, aT_43, aN_43, cnt_43, v99.2.1, c1]
          rw [b2.2.1, a2.2.1.2.1]
end S64
