-- draws
def sN (a : Nat) : Nat := (a * 1103515245 + 12345) % 2147483648
theorem sN_lt (a : Nat) : sN a < 2147483648 := Nat.mod_lt _ (by decide)
theorem lN_mask (v : Nat) : lN v &&& 2147483647 = lN (v % 2147483648) := by
  have h : lN v &&& 2147483647 = lN (v &&& (2 ^ 31 - 1)) := by
    apply Int64.toBitVec_inj.1
    show BitVec.ofNat 64 v &&& BitVec.ofNat 64 (2 ^ 31 - 1) = BitVec.ofNat 64 (v &&& (2 ^ 31 - 1))
    apply BitVec.eq_of_getLsbD_eq
    intro i hi
    simp [hi]
  rw [h, Nat.and_two_pow_sub_one_eq_mod]
theorem sd_lin {a : Nat} (h : a < 2 ^ 31) : (nI a).toInt64 * 1103515245 + 12345 = lN (a * 1103515245 + 12345) := by
  rw [nI_l h, show (1103515245 : Int64) = lN 1103515245 from rfl, show (12345 : Int64) = lN 12345 from rfl, lN_mul, lN_add]
section S63
variable {σ : Mem} {fs : List Fm} {M : List va_E} {Q : List va_E → Option Value → Prop}
theorem sp_cdraw {a n : Nat} (ha : a < 2 ^ 31) (h0 : 0 < n) (hn : n < 1000) (e : σ 0 0 8 = nI a) : Rn mX7_draw 0 [.ref (ad 0 0), .int (nI n)] [] fs (enc σ) Q ↔ Rt fs (enc (upS σ 0 0 8 (nI (sN a)))) (some (.int (nI (sN a / 65536 % n)))) Q := by
  have e1 : (lN ((a * 1103515245 + 12345) % 2147483648)).toInt32 = nI (sN a) := lN_i _
  have l1 : (0 : Int32) < nI n := nI_lt (a := 0) h0 (by omega)
  have l3 : ¬ nI n = 0 := nI_ne0 h0 (by omega)
  have l4 : ¬ (65536 : Int32) = 0 := by decide
  have hs := sN_lt a
  have e2 : nI (sN a) / 65536 = nI (sN a / 65536) := pk_div (d := 65536) (by omega) (by omega) (by omega)
  have e3 : nI (sN a / 65536) - nI (sN a / 65536) / nI n * nI n = nI (sN a / 65536 % n) := pk_rem (by omega) h0 (by omega)
  simp only [aX7_draw_0, aX7_draw_1, aX7_draw_2, aX7_draw_5, aX7_draw_6, aX7_draw_9, aX7_draw_10, aX7_draw_13, aX7_draw_14, aX7_draw_17, aX7_draw_18, aX7_draw_19, aX7_draw_22, aX7_draw_23, aX7_draw_26, aX7_draw_27, aX7_draw_30, aX7_draw_33, aX7_draw_34, aX7_draw_35, aX7_draw_36, aX7_draw_39, aX7_draw_40, Nat.zero_le, Nat.reduceLeDiff, Nat.reduceAdd, i1_0, rr_c3, zc9, oc9, zc10, oc10, zc11, oc11, zc12, oc12, zc13, oc13, zc15, oc15, Int32.lt_irrefl, Nat.zero_lt_one, Rt_cons, Rt_void, isB_0, isB_1, isB_b, true_and, and_true, cats_nil, cats_int, cats_ref, and_self, if_true, if_false, ite_self, le_nlt, ite_not, e, sd_lin ha, lN_mask, e1, l1, l3, l4, upS_eq, upd_eq, e2, e3, not_false_eq_true]
theorem sp_mdraw {a n : Nat} (ha : a < 2 ^ 31) (h0 : 0 < n) (hn : n < 1000) (e : σ 29 0 22 = nI a) : Rn mX8_draw 0 [.ref (ad 29 0), .int (nI n)] [] fs (enc σ) Q ↔ Rt fs (enc (upS σ 29 0 22 (nI (sN a)))) (some (.int (nI (sN a / 65536 % n)))) Q := by
  have e1 : (lN ((a * 1103515245 + 12345) % 2147483648)).toInt32 = nI (sN a) := lN_i _
  have l3 : ¬ nI n = 0 := nI_ne0 h0 (by omega)
  have l4 : ¬ (65536 : Int32) = 0 := by decide
  have l5 : ¬ (2147483648 : Int64) = 0 := by decide
  have hs := sN_lt a
  have er : lN (a * 1103515245 + 12345) - lN (a * 1103515245 + 12345) / 2147483648 * 2147483648 = lN ((a * 1103515245 + 12345) % 2147483648) := pk_lRem (b := 2147483648) (by omega) (by omega) (by omega)
  have e2 : nI (sN a) / 65536 = nI (sN a / 65536) := pk_div (d := 65536) (by omega) (by omega) (by omega)
  have e3 : nI (sN a / 65536) - nI (sN a / 65536) / nI n * nI n = nI (sN a / 65536 % n) := pk_rem (by omega) h0 (by omega)
  simp only [aX8_draw_0, aX8_draw_1, aX8_draw_2, aX8_draw_5, aX8_draw_6, aX8_draw_9, aX8_draw_10, aX8_draw_13, aX8_draw_14, aX8_draw_17, aX8_draw_18, aX8_draw_19, aX8_draw_22, aX8_draw_23, aX8_draw_26, aX8_draw_28, aX8_draw_29, aX8_draw_30, aX8_draw_31, Nat.zero_le, Nat.reduceLeDiff, Nat.reduceAdd, i1_0, rr_c3, zc9, oc9, zc10, oc10, zc11, oc11, zc12, oc12, zc13, oc13, zc15, oc15, Int32.lt_irrefl, Nat.zero_lt_one, Rt_cons, Rt_void, isB_0, isB_1, isB_b, true_and, and_true, cats_nil, cats_int, cats_ref, and_self, if_true, if_false, ite_self, le_nlt, ite_not, e, sd_lin ha, er, e1, l3, l4, l5, upS_eq, upd_eq, e2, e3, not_false_eq_true]
end S63
/-- what comes ahead of a day by draws, with seed a -/
def drwW (N : Nat) (w : Nat → Int32) (a : Nat) : Nat → Int32 :=
  if sN a / 65536 % 6 = 0 then addF w (nI (sN (sN a) / 65536 % 20))
  else if sN a / 65536 % 6 = 1 ∧ 1 < N then (if ¬ sN (sN a) / 65536 % N = sN (sN (sN a)) / 65536 % N ∧ canE w (sN (sN a) / 65536 % N) (sN (sN (sN a)) / 65536 % N) then exW w (sN (sN a) / 65536 % N) (sN (sN (sN a)) / 65536 % N) else w)
  else if sN a / 65536 % 6 = 2 ∧ 0 < N then (if canP w (sN (sN a) / 65536 % N) (nI (sN (sN (sN a)) / 65536 % 10)) then payW w (sN (sN a) / 65536 % N) (nI (sN (sN (sN a)) / 65536 % 10)) else w)
  else w
def drwS (N a : Nat) : Nat :=
  if sN a / 65536 % 6 = 0 then sN (sN a)
  else if sN a / 65536 % 6 = 1 ∧ 1 < N then sN (sN (sN a))
  else if sN a / 65536 % 6 = 2 ∧ 0 < N then sN (sN (sN a))
  else sN a
theorem HG_ex {w : Nat → Int32} {a b : Nat} (h : HG w) (hc : canE w a b) (ha : a < 7) (hb : b < 7) : HG (exW w a b) := by
  intro j hj h0
  rw [exW_ne (by omega) (by omega) (by omega) (by omega)] at h0
  rw [exW_g]
  unfold pm
  split
  · exact hc.1
  · split
    · exact hc.2
    · exact h j hj h0
theorem HG_pay {w : Nat → Int32} {j : Nat} {n : Int32} (h : HG w) : HG (payW w j n) := by
  intro k hk h0
  rw [payW_ne (by omega) (by omega)] at h0 ⊢
  exact h k hk h0
theorem WH_drw {B G N a : Nat} {w : Nat → Int32} (hN : N ≤ 7) (h : WH B G N w) : WH B G N (drwW N w a) := by
  unfold drwW
  split
  · exact WH_add h (by omega)
  · split
    · rename_i q
      have h1 : sN (sN a) / 65536 % N < N := Nat.mod_lt _ (by omega)
      have h2 : sN (sN (sN a)) / 65536 % N < N := Nat.mod_lt _ (by omega)
      split
      · rename_i z
        exact ⟨WFw_ex h.1 hN h1 h2, HG_ex h.2 z.2 (by omega) (by omega)⟩
      · exact h
    · split
      · rename_i q
        have h1 : sN (sN a) / 65536 % N < N := Nat.mod_lt _ (by omega)
        split
        · rename_i z
          exact ⟨WFw_pay h.1 (by omega) (by omega) z, HG_pay h.2⟩
        · exact h
      · exact h
theorem Fr_ex {σ : Mem} {i a b : Nat} : Fr σ (exC σ i a b) i := by
  unfold exC
  exact ⟨fun k n h => by rw [updK_ne (by omega), updK_ne (by omega)], by rw [updK_ne (by omega), updK_ne (by omega)]⟩
theorem Fr_pay {σ : Mem} {i j : Nat} {n : Int32} : Fr σ (payC σ i j n) i := by
  unfold payC
  exact Fr_trans (Fr_upS (by omega) (by omega)) (Fr_upS (by omega) (by omega))
section S63
variable {σ : Mem} {fs : List Fm} {M : List va_E} {Q : List va_E → Option Value → Prop}
theorem sp_drawDeed {σ0 : Mem} {q c x a N : Nat} {P : Nat → Nat → Int32} {w : Nat → Int32} (hN : N ≤ 7) (ha : a < 2 ^ 31) (h : CI σ0 σ q (c, x, P, w, nI a)) (eN : σ 3 (rr (σ 9 0 0)) 1 = nI N) :
    ∃ τ, (∀ fs Q, Rn mX7_drawDeed 0 [.ref (ad 0 0), .null, .null, .null, .null] [] fs (enc σ) Q ↔ Rt fs (enc τ) none Q) ∧ CI σ0 τ q (c, x, P, drwW N w a, nI (drwS N a)) := by
  have hs1 := sN_lt a
  have hs2 := sN_lt (sN a)
  have hs3 := sN_lt (sN (sN a))
  have e8 : σ 0 0 8 = nI a := h.2.2.2.1
  obtain ⟨σ1, hσ1⟩ : ∃ σ1, σ1 = upS σ 0 0 8 (nI (sN a)) := ⟨_, rfl⟩
  have h1 : CI σ0 σ1 q (c, x, P, w, nI (sN a)) := by rw [hσ1]; exact CI_seed h
  obtain ⟨σ2, hσ2⟩ : ∃ σ2, σ2 = upS σ1 0 0 8 (nI (sN (sN a))) := ⟨_, rfl⟩
  have h2 : CI σ0 σ2 q (c, x, P, w, nI (sN (sN a))) := by rw [hσ2]; exact CI_seed h1
  obtain ⟨σ3, hσ3⟩ : ∃ σ3, σ3 = upS σ2 0 0 8 (nI (sN (sN (sN a)))) := ⟨_, rfl⟩
  have h3 : CI σ0 σ3 q (c, x, P, w, nI (sN (sN (sN a)))) := by rw [hσ3]; exact CI_seed h2
  have n6 : (6 : Int32) = nI 6 := rfl
  have n20 : (20 : Int32) = nI 20 := rfl
  have n10 : (10 : Int32) = nI 10 := rfl
  have A : ∀ fs Q, Rn mX7_drawDeed 0 [.ref (ad 0 0), .null, .null, .null, .null] [] fs (enc σ) Q ↔ Rn mX7_drawDeed 18 [.ref (ad 0 0), .int (nI N), .int (nI (sN a / 65536 % 6)), .null, .null] [] fs (enc σ1) Q := fun fs Q => by
    simp only [aX7_drawDeed_0, aX7_drawDeed_1, aX7_drawDeed_4, aX7_drawDeed_7, aX7_drawDeed_10, aX7_drawDeed_11, aX7_drawDeed_12, Nat.zero_le, Nat.reduceLeDiff, Nat.reduceAdd, i1_0, rr_c3, zc9, oc9, zc10, oc10, zc11, oc11, zc12, oc12, zc13, oc13, zc15, oc15, Int32.lt_irrefl, Nat.zero_lt_one, Rt_cons, Rt_void, isB_0, isB_1, isB_b, true_and, and_true, cats_nil, cats_int, cats_ref, and_self, if_true, if_false, ite_self, le_nlt, ite_not, eN]
    rw [aX7_drawDeed_14, n6, sp_cdraw ha (by omega) (by omega) e8, ← hσ1]
    simp only [aX7_drawDeed_17, Nat.zero_le, Nat.reduceLeDiff, Nat.reduceAdd, i1_0, rr_c3, zc9, oc9, zc10, oc10, zc11, oc11, zc12, oc12, zc13, oc13, zc15, oc15, Int32.lt_irrefl, Nat.zero_lt_one, Rt_cons, Rt_void, isB_0, isB_1, isB_b, true_and, and_true, cats_nil, cats_int, cats_ref, and_self, if_true, if_false, ite_self, le_nlt, ite_not]
  have hw6 : sN a / 65536 % 6 < 6 := Nat.mod_lt _ (by omega)
  unfold drwW drwS
  generalize hway : sN a / 65536 % 6 = way at A hw6
  have w0 := nI_eq (a := way) (b := 0) (by omega) (by omega)
  have w1 := nI_eq (a := way) (b := 1) (by omega) (by omega)
  have w2 := nI_eq (a := way) (b := 2) (by omega) (by omega)
  rw [show nI 0 = 0 from rfl] at w0
  rw [show nI 1 = 1 from rfl] at w1
  rw [show nI 2 = 2 from rfl] at w2
  have N2 := nI_ltI (a := N) (b := 2) (by omega) (by omega)
  have N1 := nI_ltI (a := N) (b := 1) (by omega) (by omega)
  rw [show nI 2 = 2 from rfl] at N2
  rw [show nI 1 = 1 from rfl] at N1
  by_cases q0 : way = 0
  · rw [if_pos q0, if_pos q0]
    refine ⟨_, fun fs Q => ?_, CI_Fr h2 (Fr_upS (k := 9) (j := 2) (by omega) (by omega)) (CS_add (x := nI (sN (sN a) / 65536 % 20)) h2.2.1)⟩
    rw [A]
    simp only [aX7_drawDeed_18, aX7_drawDeed_19, aX7_drawDeed_22, aX7_drawDeed_23, aX7_drawDeed_26, aX7_drawDeed_27, Nat.zero_le, Nat.reduceLeDiff, Nat.reduceAdd, i1_0, rr_c3, zc9, oc9, zc10, oc10, zc11, oc11, zc12, oc12, zc13, oc13, zc15, oc15, Int32.lt_irrefl, Nat.zero_lt_one, Rt_cons, Rt_void, isB_0, isB_1, isB_b, true_and, and_true, cats_nil, cats_int, cats_ref, and_self, if_true, if_false, ite_self, le_nlt, ite_not, w0.mpr q0, not_true_eq_false]
    rw [aX7_drawDeed_29, n20, sp_cdraw (by omega) (by omega) (by omega) h1.2.2.2.1, ← hσ2]
    simp only [aX7_drawDeed_32, aX7_drawDeed_35, aX7_drawDeed_140, sp_addHeads (show 0 < 34 by decide), Nat.zero_le, Nat.reduceLeDiff, Nat.reduceAdd, i1_0, rr_c3, zc9, oc9, zc10, oc10, zc11, oc11, zc12, oc12, zc13, oc13, zc15, oc15, Int32.lt_irrefl, Nat.zero_lt_one, Rt_cons, Rt_void, isB_0, isB_1, isB_b, true_and, and_true, cats_nil, cats_int, cats_ref, and_self, if_true, if_false, ite_self, le_nlt, ite_not]
  · rw [if_neg q0, if_neg q0]
    by_cases q1 : way = 1 ∧ 1 < N
    · rw [if_pos q1, if_pos q1]
      have hj1 : sN (sN a) / 65536 % N < N := Nat.mod_lt _ (by omega)
      have hj2 : sN (sN (sN a)) / 65536 % N < N := Nat.mod_lt _ (by omega)
      have B : ∀ fs Q, Rn mX7_drawDeed 0 [.ref (ad 0 0), .null, .null, .null, .null] [] fs (enc σ) Q ↔ Rn mX7_drawDeed 61 [.ref (ad 0 0), .int (nI N), .int (nI way), .int (nI (sN (sN a) / 65536 % N)), .int (nI (sN (sN (sN a)) / 65536 % N))] [] fs (enc σ3) Q := fun fs Q => by
        rw [A]
        simp only [aX7_drawDeed_18, aX7_drawDeed_19, aX7_drawDeed_38, aX7_drawDeed_39, aX7_drawDeed_40, aX7_drawDeed_43, aX7_drawDeed_44, aX7_drawDeed_45, aX7_drawDeed_48, aX7_drawDeed_49, Nat.zero_le, Nat.reduceLeDiff, Nat.reduceAdd, i1_0, rr_c3, zc9, oc9, zc10, oc10, zc11, oc11, zc12, oc12, zc13, oc13, zc15, oc15, Int32.lt_irrefl, Nat.zero_lt_one, Rt_cons, Rt_void, isB_0, isB_1, isB_b, true_and, and_true, cats_nil, cats_int, cats_ref, and_self, if_true, if_false, ite_self, le_nlt, ite_not, w1.mpr q1.1, N2, show ¬ N < 2 by omega, not_true_eq_false, not_false_eq_true]
        rw [aX7_drawDeed_50, sp_cdraw (by omega) (by omega) (by omega) h1.2.2.2.1, ← hσ2]
        simp only [aX7_drawDeed_53, aX7_drawDeed_54, aX7_drawDeed_55, Nat.zero_le, Nat.reduceLeDiff, Nat.reduceAdd, i1_0, rr_c3, zc9, oc9, zc10, oc10, zc11, oc11, zc12, oc12, zc13, oc13, zc15, oc15, Int32.lt_irrefl, Nat.zero_lt_one, Rt_cons, Rt_void, isB_0, isB_1, isB_b, true_and, and_true, cats_nil, cats_int, cats_ref, and_self, if_true, if_false, ite_self, le_nlt, ite_not]
        rw [aX7_drawDeed_56, sp_cdraw (by omega) (by omega) (by omega) h2.2.2.2.1, ← hσ3]
        simp only [aX7_drawDeed_59, Nat.zero_le, Nat.reduceLeDiff, Nat.reduceAdd, i1_0, rr_c3, zc9, oc9, zc10, oc10, zc11, oc11, zc12, oc12, zc13, oc13, zc15, oc15, Int32.lt_irrefl, Nat.zero_lt_one, Rt_cons, Rt_void, isB_0, isB_1, isB_b, true_and, and_true, cats_nil, cats_int, cats_ref, and_self, if_true, if_false, ite_self, le_nlt, ite_not, w1.mpr q1.1]
      generalize sN (sN a) / 65536 % N = j1 at hj1 B ⊢
      generalize sN (sN (sN a)) / 65536 % N = j2 at hj2 B ⊢
      have hab : (nI j1 = nI j2) ↔ j1 = j2 := nI_eq (by omega) (by omega)
      by_cases q2 : j1 = j2
      · rw [if_neg (fun z => z.1 q2)]
        refine ⟨σ3, fun fs Q => ?_, h3⟩
        rw [B]
        simp only [aX7_drawDeed_61, aX7_drawDeed_62, aX7_drawDeed_64, aX7_drawDeed_90, aX7_drawDeed_140, Nat.zero_le, Nat.reduceLeDiff, Nat.reduceAdd, i1_0, rr_c3, zc9, oc9, zc10, oc10, zc11, oc11, zc12, oc12, zc13, oc13, zc15, oc15, Int32.lt_irrefl, Nat.zero_lt_one, Rt_cons, Rt_void, isB_0, isB_1, isB_b, true_and, and_true, cats_nil, cats_int, cats_ref, and_self, if_true, if_false, ite_self, le_nlt, ite_not, hab, q2]
      · by_cases q3 : canE w j1 j2
        · rw [if_pos ⟨q2, q3⟩]
          refine ⟨_, fun fs Q => ?_, CI_Fr h3 Fr_ex (CS_ex h3.2.1 (show j1 < 7 by omega) (show j2 < 7 by omega) q3)⟩
          rw [B]
          simp only [aX7_drawDeed_61, aX7_drawDeed_62, aX7_drawDeed_64, aX7_drawDeed_67, aX7_drawDeed_68, aX7_drawDeed_71, aX7_drawDeed_72, aX7_drawDeed_74, aX7_drawDeed_77, aX7_drawDeed_80, aX7_drawDeed_81, aX7_drawDeed_84, aX7_drawDeed_85, aX7_drawDeed_87, aX7_drawDeed_90, aX7_drawDeed_140, sp_canExchange (show 0 < 34 by decide) (show j1 < 7 by omega) (show j2 < 7 by omega) h3.2.1, sp_exchange (show 0 < 34 by decide) (show j1 < 7 by omega) (show j2 < 7 by omega), Nat.zero_le, Nat.reduceLeDiff, Nat.reduceAdd, i1_0, rr_c3, zc9, oc9, zc10, oc10, zc11, oc11, zc12, oc12, zc13, oc13, zc15, oc15, Int32.lt_irrefl, Nat.zero_lt_one, Rt_cons, Rt_void, isB_0, isB_1, isB_b, true_and, and_true, cats_nil, cats_int, cats_ref, and_self, if_true, if_false, ite_self, le_nlt, ite_not, hab, q2, bI_t q3]
        · rw [if_neg (fun z => q3 z.2)]
          refine ⟨σ3, fun fs Q => ?_, h3⟩
          rw [B]
          simp only [aX7_drawDeed_61, aX7_drawDeed_62, aX7_drawDeed_64, aX7_drawDeed_67, aX7_drawDeed_68, aX7_drawDeed_71, aX7_drawDeed_72, aX7_drawDeed_74, aX7_drawDeed_77, aX7_drawDeed_90, aX7_drawDeed_140, sp_canExchange (show 0 < 34 by decide) (show j1 < 7 by omega) (show j2 < 7 by omega) h3.2.1, Nat.zero_le, Nat.reduceLeDiff, Nat.reduceAdd, i1_0, rr_c3, zc9, oc9, zc10, oc10, zc11, oc11, zc12, oc12, zc13, oc13, zc15, oc15, Int32.lt_irrefl, Nat.zero_lt_one, Rt_cons, Rt_void, isB_0, isB_1, isB_b, true_and, and_true, cats_nil, cats_int, cats_ref, and_self, if_true, if_false, ite_self, le_nlt, ite_not, hab, q2, bI_f q3]
    · rw [if_neg q1, if_neg q1]
      have C0 : ∀ fs Q, Rn mX7_drawDeed 0 [.ref (ad 0 0), .null, .null, .null, .null] [] fs (enc σ) Q ↔ Rn mX7_drawDeed 93 [.ref (ad 0 0), .int (nI N), .int (nI way), .null, .null] [] fs (enc σ1) Q := fun fs Q => by
        rw [A]
        by_cases z : way = 1
        · have z2 : N < 2 := by
            rcases Nat.lt_or_ge N 2 with y | y
            · exact y
            · exact absurd ⟨z, by omega⟩ q1
          simp only [aX7_drawDeed_18, aX7_drawDeed_19, aX7_drawDeed_38, aX7_drawDeed_39, aX7_drawDeed_40, aX7_drawDeed_43, aX7_drawDeed_44, aX7_drawDeed_45, Nat.zero_le, Nat.reduceLeDiff, Nat.reduceAdd, i1_0, rr_c3, zc9, oc9, zc10, oc10, zc11, oc11, zc12, oc12, zc13, oc13, zc15, oc15, Int32.lt_irrefl, Nat.zero_lt_one, Rt_cons, Rt_void, isB_0, isB_1, isB_b, true_and, and_true, cats_nil, cats_int, cats_ref, and_self, if_true, if_false, ite_self, le_nlt, ite_not, w1.mpr z, N2, z2, not_true_eq_false, not_false_eq_true]
        · simp only [aX7_drawDeed_18, aX7_drawDeed_19, aX7_drawDeed_38, aX7_drawDeed_39, aX7_drawDeed_40, aX7_drawDeed_43, aX7_drawDeed_44, aX7_drawDeed_45, Nat.zero_le, Nat.reduceLeDiff, Nat.reduceAdd, i1_0, rr_c3, zc9, oc9, zc10, oc10, zc11, oc11, zc12, oc12, zc13, oc13, zc15, oc15, Int32.lt_irrefl, Nat.zero_lt_one, Rt_cons, Rt_void, isB_0, isB_1, isB_b, true_and, and_true, cats_nil, cats_int, cats_ref, and_self, if_true, if_false, ite_self, le_nlt, ite_not, w0, w1, q0, z, not_true_eq_false, not_false_eq_true]
      by_cases q2 : way = 2 ∧ 0 < N
      · rw [if_pos q2, if_pos q2]
        have hj1 : sN (sN a) / 65536 % N < N := Nat.mod_lt _ (by omega)
        have B : ∀ fs Q, Rn mX7_drawDeed 0 [.ref (ad 0 0), .null, .null, .null, .null] [] fs (enc σ) Q ↔ Rn mX7_drawDeed 117 [.ref (ad 0 0), .int (nI N), .int (nI way), .int (nI (sN (sN a) / 65536 % N)), .int (nI (sN (sN (sN a)) / 65536 % 10))] [] fs (enc σ3) Q := fun fs Q => by
          rw [C0]
          simp only [aX7_drawDeed_93, aX7_drawDeed_94, aX7_drawDeed_95, aX7_drawDeed_98, aX7_drawDeed_99, aX7_drawDeed_100, aX7_drawDeed_103, aX7_drawDeed_104, Nat.zero_le, Nat.reduceLeDiff, Nat.reduceAdd, i1_0, rr_c3, zc9, oc9, zc10, oc10, zc11, oc11, zc12, oc12, zc13, oc13, zc15, oc15, Int32.lt_irrefl, Nat.zero_lt_one, Rt_cons, Rt_void, isB_0, isB_1, isB_b, true_and, and_true, cats_nil, cats_int, cats_ref, and_self, if_true, if_false, ite_self, le_nlt, ite_not, w2.mpr q2.1, N1, show ¬ N < 1 by omega, not_true_eq_false, not_false_eq_true]
          rw [aX7_drawDeed_105, sp_cdraw (by omega) (by omega) (by omega) h1.2.2.2.1, ← hσ2]
          simp only [aX7_drawDeed_108, aX7_drawDeed_109, aX7_drawDeed_110, Nat.zero_le, Nat.reduceLeDiff, Nat.reduceAdd, i1_0, rr_c3, zc9, oc9, zc10, oc10, zc11, oc11, zc12, oc12, zc13, oc13, zc15, oc15, Int32.lt_irrefl, Nat.zero_lt_one, Rt_cons, Rt_void, isB_0, isB_1, isB_b, true_and, and_true, cats_nil, cats_int, cats_ref, and_self, if_true, if_false, ite_self, le_nlt, ite_not]
          rw [aX7_drawDeed_112, n10, sp_cdraw (by omega) (by omega) (by omega) h2.2.2.2.1, ← hσ3]
          simp only [aX7_drawDeed_115, Nat.zero_le, Nat.reduceLeDiff, Nat.reduceAdd, i1_0, rr_c3, zc9, oc9, zc10, oc10, zc11, oc11, zc12, oc12, zc13, oc13, zc15, oc15, Int32.lt_irrefl, Nat.zero_lt_one, Rt_cons, Rt_void, isB_0, isB_1, isB_b, true_and, and_true, cats_nil, cats_int, cats_ref, and_self, if_true, if_false, ite_self, le_nlt, ite_not, w2.mpr q2.1]
        generalize sN (sN a) / 65536 % N = j1 at hj1 B ⊢
        generalize nI (sN (sN (sN a)) / 65536 % 10) = n at B ⊢
        by_cases q3 : canP w j1 n
        · rw [if_pos q3]
          refine ⟨_, fun fs Q => ?_, CI_Fr h3 Fr_pay (CS_pay h3.2.1 (show j1 < 7 by omega))⟩
          rw [B]
          simp only [aX7_drawDeed_117, aX7_drawDeed_118, aX7_drawDeed_121, aX7_drawDeed_122, aX7_drawDeed_124, aX7_drawDeed_127, aX7_drawDeed_130, aX7_drawDeed_131, aX7_drawDeed_134, aX7_drawDeed_135, aX7_drawDeed_137, aX7_drawDeed_140, sp_cCanPay (show 0 < 34 by decide) (show j1 < 7 by omega) h3.2.1, sp_payByHand (show 0 < 34 by decide) (show j1 < 7 by omega), Nat.zero_le, Nat.reduceLeDiff, Nat.reduceAdd, i1_0, rr_c3, zc9, oc9, zc10, oc10, zc11, oc11, zc12, oc12, zc13, oc13, zc15, oc15, Int32.lt_irrefl, Nat.zero_lt_one, Rt_cons, Rt_void, isB_0, isB_1, isB_b, true_and, and_true, cats_nil, cats_int, cats_ref, and_self, if_true, if_false, ite_self, le_nlt, ite_not, bI_t q3]
        · rw [if_neg q3]
          refine ⟨σ3, fun fs Q => ?_, h3⟩
          rw [B]
          simp only [aX7_drawDeed_117, aX7_drawDeed_118, aX7_drawDeed_121, aX7_drawDeed_122, aX7_drawDeed_124, aX7_drawDeed_127, aX7_drawDeed_140, sp_cCanPay (show 0 < 34 by decide) (show j1 < 7 by omega) h3.2.1, Nat.zero_le, Nat.reduceLeDiff, Nat.reduceAdd, i1_0, rr_c3, zc9, oc9, zc10, oc10, zc11, oc11, zc12, oc12, zc13, oc13, zc15, oc15, Int32.lt_irrefl, Nat.zero_lt_one, Rt_cons, Rt_void, isB_0, isB_1, isB_b, true_and, and_true, cats_nil, cats_int, cats_ref, and_self, if_true, if_false, ite_self, le_nlt, ite_not, bI_f q3]
      · rw [if_neg q2, if_neg q2]
        refine ⟨σ1, fun fs Q => ?_, h1⟩
        rw [C0]
        by_cases z : way = 2
        · have z2 : N < 1 := by
            rcases Nat.lt_or_ge N 1 with y | y
            · exact y
            · exact absurd ⟨z, by omega⟩ q2
          simp only [aX7_drawDeed_93, aX7_drawDeed_94, aX7_drawDeed_95, aX7_drawDeed_98, aX7_drawDeed_99, aX7_drawDeed_100, aX7_drawDeed_140, Nat.zero_le, Nat.reduceLeDiff, Nat.reduceAdd, i1_0, rr_c3, zc9, oc9, zc10, oc10, zc11, oc11, zc12, oc12, zc13, oc13, zc15, oc15, Int32.lt_irrefl, Nat.zero_lt_one, Rt_cons, Rt_void, isB_0, isB_1, isB_b, true_and, and_true, cats_nil, cats_int, cats_ref, and_self, if_true, if_false, ite_self, le_nlt, ite_not, w2.mpr z, N1, z2, not_true_eq_false]
        · simp only [aX7_drawDeed_93, aX7_drawDeed_94, aX7_drawDeed_95, aX7_drawDeed_98, aX7_drawDeed_99, aX7_drawDeed_100, aX7_drawDeed_140, Nat.zero_le, Nat.reduceLeDiff, Nat.reduceAdd, i1_0, rr_c3, zc9, oc9, zc10, oc10, zc11, oc11, zc12, oc12, zc13, oc13, zc15, oc15, Int32.lt_irrefl, Nat.zero_lt_one, Rt_cons, Rt_void, isB_0, isB_1, isB_b, true_and, and_true, cats_nil, cats_int, cats_ref, and_self, if_true, if_false, ite_self, le_nlt, ite_not, w2, z, not_false_eq_true]
end S63
