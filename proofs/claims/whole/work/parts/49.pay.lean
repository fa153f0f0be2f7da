theorem held_iff {σ : Mem} {i j : Nat} {w : Nat → Int32} (h : Ch σ i w j) : (σ 14 i j = 0 ∧ ¬ σ 11 i j = -1) ↔ w (64 + 5 * j + 1) = 0 := by
  rw [h.2.2.2.2.2]
  unfold std
  by_cases a : σ 14 i j = 0
  · rw [if_pos a]
    by_cases b : σ 11 i j = -1
    · rw [if_pos b]; simp [a, b]
    · rw [if_neg b]; simp [a, b]
  · rw [if_neg a]; simp [a]
theorem bI_iff {c d : Prop} [Decidable c] [Decidable d] (h : c ↔ d) : bI c = bI d := by
  by_cases q : d
  · rw [bI_t q, bI_t (h.mpr q)]
  · rw [bI_f q, bI_f (fun z => q (h.mp z))]
section S49
variable {σ : Mem} {fs : List Fm} {M : List va_E} {Q : List va_E → Option Value → Prop}
theorem sp_held {i j : Nat} {w : Nat → Int32} (hi : i < 34) (hj : j < 7) (h : Ch σ i w j) : Rn mX5_isHeld 0 [.ref (ad 9 i), .int (nI j)] [] fs (enc σ) Q ↔ Rt fs (enc σ) (some (.int (bI (w (64 + 5 * j + 1) = 0)))) Q := by
  rw [sp_isHeld hi hj, bI_iff (held_iff h)]
theorem sp_mHeld {j : Nat} (hj : j < 7) : Rn mX8_isHeld 0 [.ref (ad 29 0), .int (nI j)] [] fs (enc σ) Q ↔ Rt fs (enc σ) (some (.int (bI (σ 43 0 (64 + 5 * j + 1) = 0)))) Q := by
  simp only [aX8_isHeld_0, aX8_isHeld_1, aX8_isHeld_4, aX8_isHeld_6, aX8_isHeld_7, aX8_isHeld_8, aX8_isHeld_9, aX8_isHeld_10, aX8_isHeld_11, aX8_isHeld_12, aX8_isHeld_13, aX8_isHeld_16, aX8_isHeld_17, aX8_isHeld_20, aX8_isHeld_21, Nat.zero_le, Nat.reduceLeDiff, Nat.reduceAdd, i1_0, rr_c3, zc9, oc9, zc10, oc10, zc11, oc11, zc12, oc12, zc13, oc13, zc15, oc15, Int32.lt_irrefl, Nat.zero_lt_one, Rt_cons, Rt_void, isB_0, isB_1, isB_b, true_and, and_true, cats_nil, cats_int, cats_ref, and_self, if_true, if_false, ite_self, le_nlt, ite_not, aT_43, aN_43, cnt_43, n5, n64, nI_1, in99 (show 64 + 5 * j + 1 < 99 by omega), cl10 (show 64 + 5 * j + 1 < 10000 by omega)]
  by_cases q : σ 43 0 (64 + 5 * j + 1) = 0 <;> simp [q, bI]
theorem sp_debtOf {j : Nat} (hj : j < 7) : Rn mX8_debtOf 0 [.ref (ad 29 0), .int (nI j)] [] fs (enc σ) Q ↔ Rt fs (enc σ) (some (.int (σ 43 0 (64 + 5 * j)))) Q := by
  simp only [aX8_debtOf_0, aX8_debtOf_1, aX8_debtOf_4, aX8_debtOf_6, aX8_debtOf_7, aX8_debtOf_8, aX8_debtOf_9, aX8_debtOf_10, aX8_debtOf_11, Nat.zero_le, Nat.reduceLeDiff, Nat.reduceAdd, i1_0, rr_c3, zc9, oc9, zc10, oc10, zc11, oc11, zc12, oc12, zc13, oc13, zc15, oc15, Int32.lt_irrefl, Nat.zero_lt_one, Rt_cons, Rt_void, isB_0, isB_1, isB_b, true_and, and_true, cats_nil, cats_int, cats_ref, and_self, if_true, if_false, ite_self, le_nlt, ite_not, aT_43, aN_43, cnt_43, n5, n64, in99 (show 64 + 5 * j < 99 by omega), cl10 (show 64 + 5 * j < 10000 by omega)]
/-- can n be paid for house j -/
abbrev canP (w : Nat → Int32) (j : Nat) (n : Int32) : Prop := w (64 + 5 * j + 1) = 0 ∧ ¬ w 1 < n ∧ ¬ w (64 + 5 * j) < n
theorem sp_cCanPay {i j : Nat} {n : Int32} {w : Nat → Int32} (hi : i < 34) (hj : j < 7) (h : CS σ i w) : Rn mX5_canPay 0 [.ref (ad 9 i), .int (nI j), .int n] [] fs (enc σ) Q ↔ Rt fs (enc σ) (some (.int (bI (canP w j n)))) Q := by
  have c9 : i < cnt 9 := hi
  have c10 : i < cnt 10 := hi
  have c11 : i < cnt 11 := hi
  have c12 : i < cnt 12 := hi
  have c13 : i < cnt 13 := hi
  have c15 : i < cnt 15 := hi
  have cj := h.2.2.2.2.2 j hj
  have e1 : σ 9 i 2 = w 1 := h.2.1
  have e2 : σ 10 i j = w (64 + 5 * j) := cj.1
  simp only [aX5_canPay_0, aX5_canPay_1, aX5_canPay_2, aX5_canPay_5, aX5_canPay_8, aX5_canPay_9, aX5_canPay_12, aX5_canPay_13, aX5_canPay_16, aX5_canPay_17, aX5_canPay_20, aX5_canPay_21, aX5_canPay_22, aX5_canPay_23, aX5_canPay_26, aX5_canPay_27, aX5_canPay_30, aX5_canPay_31, sp_held hi hj (w := w) cj, Nat.zero_le, Nat.reduceLeDiff, Nat.reduceAdd, i1_0, rr_c3, zc9, oc9, zc10, oc10, zc11, oc11, zc12, oc12, zc13, oc13, zc15, oc15, Int32.lt_irrefl, Nat.zero_lt_one, Rt_cons, Rt_void, isB_0, isB_1, isB_b, true_and, and_true, cats_nil, cats_int, cats_ref, and_self, if_true, if_false, ite_self, le_nlt, ite_not, c9, c10, c11, c12, c13, c15, aT_10, aT_11, aT_12, aT_13, aT_15, aN_10, aN_11, aN_12, aN_13, aN_15, in7 hj, cl10 (show j < 10000 by omega), e1, e2, bI_0]
  by_cases a : w (64 + 5 * j + 1) = 0
  · by_cases b : w 1 < n
    · simp [a, b, bI, canP]
    · by_cases c : w (64 + 5 * j) < n <;> simp [a, b, c, bI, canP]
  · simp [a, bI, canP]
theorem sp_mCanPay {j : Nat} {n : Int32} (hj : j < 7) : Rn mX8_canPay 0 [.ref (ad 29 0), .int (nI j), .int n] [] fs (enc σ) Q ↔ Rt fs (enc σ) (some (.int (bI (canP (σ 43 0) j n)))) Q := by
  simp only [aX8_canPay_0, aX8_canPay_1, aX8_canPay_2, aX8_canPay_5, aX8_canPay_8, aX8_canPay_9, aX8_canPay_12, aX8_canPay_13, aX8_canPay_14, aX8_canPay_15, aX8_canPay_18, aX8_canPay_19, aX8_canPay_20, aX8_canPay_23, aX8_canPay_24, aX8_canPay_27, aX8_canPay_28, aX8_canPay_31, aX8_canPay_32, sp_mHeld hj, sp_debtOf hj, Nat.zero_le, Nat.reduceLeDiff, Nat.reduceAdd, i1_0, rr_c3, zc9, oc9, zc10, oc10, zc11, oc11, zc12, oc12, zc13, oc13, zc15, oc15, Int32.lt_irrefl, Nat.zero_lt_one, Rt_cons, Rt_void, isB_0, isB_1, isB_b, true_and, and_true, cats_nil, cats_int, cats_ref, and_self, if_true, if_false, ite_self, le_nlt, ite_not, aT_43, aN_43, cnt_43, v99.2.1, c1, bI_0]
  by_cases a : σ 43 0 (64 + 5 * j + 1) = 0
  · by_cases b : σ 43 0 1 < n
    · simp [a, b, bI, canP]
    · by_cases c : σ 43 0 (64 + 5 * j) < n <;> simp [a, b, c, bI, canP]
  · simp [a, bI, canP]
/-- paid -/
def payC (σ : Mem) (i j : Nat) (n : Int32) : Mem := upS (upS σ 9 i 2 (σ 9 i 2 - n)) 10 i j (σ 10 i j - n)
def payW (w : Nat → Int32) (j : Nat) (n : Int32) : Nat → Int32 := upd (upd w 1 (w 1 - n)) (64 + 5 * j) (w (64 + 5 * j) - n)
theorem sp_payByHand {i j : Nat} {n : Int32} (hi : i < 34) (hj : j < 7) : Rn mX5_payByHand 0 [.ref (ad 9 i), .int (nI j), .int n] [] fs (enc σ) Q ↔ Rt fs (enc (payC σ i j n)) none Q := by
  have c9 : i < cnt 9 := hi
  have c10 : i < cnt 10 := hi
  have c11 : i < cnt 11 := hi
  have c12 : i < cnt 12 := hi
  have c13 : i < cnt 13 := hi
  have c15 : i < cnt 15 := hi
  have e9 : ∀ x, upS σ 9 i 2 x 10 i = σ 10 i := fun x => upS_ne (by omega)
  simp only [aX5_payByHand_0, aX5_payByHand_1i, aX5_payByHand_1a, aX5_payByHand_2, aX5_payByHand_5, aX5_payByHand_6, aX5_payByHand_7, aX5_payByHand_10, aX5_payByHand_11, aX5_payByHand_14, aX5_payByHand_15, aX5_payByHand_16, aX5_payByHand_17, aX5_payByHand_18, aX5_payByHand_19, aX5_payByHand_20, Nat.zero_le, Nat.reduceLeDiff, Nat.reduceAdd, i1_0, rr_c3, zc9, oc9, zc10, oc10, zc11, oc11, zc12, oc12, zc13, oc13, zc15, oc15, Int32.lt_irrefl, Nat.zero_lt_one, Rt_cons, Rt_void, isB_0, isB_1, isB_b, true_and, and_true, cats_nil, cats_int, cats_ref, and_self, if_true, if_false, ite_self, le_nlt, ite_not, c9, c10, c11, c12, c13, c15, aT_10, aT_11, aT_12, aT_13, aT_15, aN_10, aN_11, aN_12, aN_13, aN_15, in7 hj, cl10 (show j < 10000 by omega), e9]
  rfl
theorem sp_paysBy {j : Nat} {n : Int32} (hj : j < 7) : Rn mX8_paysBy 0 [.ref (ad 29 0), .int (nI j), .int n] [] fs (enc σ) Q ↔ Rt fs (enc (updK σ 43 0 (payW (σ 43 0) j n))) none Q := by
  have e2 : ∀ x, upd (σ 43 0) 1 x (64 + 5 * j) = σ 43 0 (64 + 5 * j) := fun x => upd_ne (by omega)
  simp only [aX8_paysBy_0, aX8_paysBy_1, aX8_paysBy_4, aX8_paysBy_5, aX8_paysBy_6, aX8_paysBy_7, aX8_paysBy_8, aX8_paysBy_9, aX8_paysBy_10, aX8_paysBy_11, aX8_paysBy_14, aX8_paysBy_16, aX8_paysBy_17, aX8_paysBy_18, aX8_paysBy_19, aX8_paysBy_20, aX8_paysBy_21, aX8_paysBy_22, aX8_paysBy_23, aX8_paysBy_24, aX8_paysBy_25, Nat.zero_le, Nat.reduceLeDiff, Nat.reduceAdd, i1_0, rr_c3, zc9, oc9, zc10, oc10, zc11, oc11, zc12, oc12, zc13, oc13, zc15, oc15, Int32.lt_irrefl, Nat.zero_lt_one, Rt_cons, Rt_void, isB_0, isB_1, isB_b, true_and, and_true, cats_nil, cats_int, cats_ref, and_self, if_true, if_false, ite_self, le_nlt, ite_not, aT_43, aN_43, cnt_43, n5, n64, in99 (show 64 + 5 * j < 99 by omega), cl10 (show 64 + 5 * j < 10000 by omega), v99.2.1, c1, upS_chain, updK_eq, updK_idem, e2]
  rfl
theorem payW_ne {w : Nat → Int32} {j a : Nat} {n : Int32} (h1 : ¬ a = 1) (h2 : ¬ a = 64 + 5 * j) : payW w j n a = w a := by unfold payW; rw [upd_ne h2, upd_ne h1]
theorem payW_d {w : Nat → Int32} {j : Nat} {n : Int32} : payW w j n (64 + 5 * j) = w (64 + 5 * j) - n := by unfold payW; rw [upd_eq]
theorem payW_s {w : Nat → Int32} {j : Nat} {n : Int32} : payW w j n 1 = w 1 - n := by unfold payW; rw [upd_ne (by omega), upd_eq]
theorem WFw_pay {B G N j d : Nat} {w : Nat → Int32} (h : WFx B G N w) (hj : j < 7) (hd : d < 2 ^ 31) (hc : canP w j (nI d)) : WFx B G N (payW w j (nI d)) := by
  obtain ⟨h1, ⟨s, s1, s2⟩, h3, h4, h5⟩ := h
  have lo : ∀ {a : Nat} {v : Int32}, a ≤ 9999 → v = nI a → ¬ v < nI d → ∃ e : Nat, e ≤ 9999 ∧ v - nI d = nI e := fun {a v} ha hv hl => by
    subst hv
    have : d ≤ a := by
      rcases Nat.lt_or_ge a d with q | q
      · exact absurd (nI_lt q hd) hl
      · exact q
    exact ⟨a - d, by omega, pk_sub this⟩
  have ec : cE7 (payW w j (nI d)) = cE7 w := cE7_same (fun k hk => payW_ne (by omega) (by omega))
  refine WFw_intro (by rw [payW_ne (by omega) (by omega)]; exact h1) (by rw [payW_s]; exact lo s1 s2 hc.2.1) (by rw [ec, payW_ne (by omega) (by omega)]; exact h3) (fun k hk => ?_) (fun a b ha hb hab => ?_)
  · have wk : Wl G N w k := h4 k hk
    by_cases hkj : k = j
    · subst hkj
      obtain ⟨⟨a, a0, a1⟩, a2, a3, a4, a5, a6, a7⟩ := wk
      refine ⟨by rw [payW_d]; exact lo a0 a1 hc.2.2, ?_⟩
      rw [payW_ne (by omega) (by omega), payW_ne (a := 64 + 5 * k + 2) (by omega) (by omega), payW_ne (a := 64 + 5 * k + 3) (by omega) (by omega), payW_ne (a := 64 + 5 * k + 4) (by omega) (by omega)]
      exact ⟨a2, a3, a4, a5, a6, a7⟩
    · exact Wl_congr wk (fun t ht => payW_ne (by omega) (by omega))
  · rw [payW_ne (by omega) (by omega), payW_ne (a := 64 + 5 * b + 2) (by omega) (by omega)]
    exact h5 a b ha hb hab
theorem CS_pay {i j : Nat} {n : Int32} {w : Nat → Int32} (h : CS σ i w) (hj : j < 7) : CS (payC σ i j n) i (payW w j n) := by
  have eP : ∀ k, k ≠ 9 → k ≠ 10 → payC σ i j n k i = σ k i := fun k d f => by unfold payC; rw [upS_ne (by omega), upS_ne (by omega)]
  have eP9 : payC σ i j n 9 i = upd (σ 9 i) 2 (σ 9 i 2 - n) := by unfold payC; rw [upS_ne (by omega), upS_eq]
  have eP10 : payC σ i j n 10 i = upd (σ 10 i) j (σ 10 i j - n) := by unfold payC; rw [upS_eq, upS_ne (by omega)]
  refine CS_intro h (by rw [eP9, payW_ne (by omega) (by omega)]; exact h.1) (by rw [eP9, payW_s, upd_eq, h.2.1]) (by rw [eP9, payW_ne (by omega) (by omega)]; exact h.2.2.1) (by rw [eP9]; rfl) (by rw [eP9]; rfl) (eP 15 (by omega) (by omega)) (fun t a b => payW_ne (by omega) (by omega)) (fun k hk => ?_)
  have ck := h.2.2.2.2.2 k hk
  by_cases hkj : k = j
  · subst hkj
    rw [eP 11 (by omega) (by omega), eP 12 (by omega) (by omega), eP 13 (by omega) (by omega), eP 14 (by omega) (by omega), eP10, upd_eq, payW_d, payW_ne (by omega) (by omega), payW_ne (a := 64 + 5 * k + 3) (by omega) (by omega), payW_ne (a := 64 + 5 * k + 4) (by omega) (by omega), payW_ne (a := 64 + 5 * k + 1) (by omega) (by omega), ck.1]
    exact ⟨rfl, ck.2⟩
  · exact Ch_congr (w := w) ck (by rw [eP10, upd_ne hkj]) (by rw [eP 11 (by omega) (by omega)]) (by rw [eP 12 (by omega) (by omega)]) (by rw [eP 13 (by omega) (by omega)]) (by rw [eP 14 (by omega) (by omega)]) (fun t ht => payW_ne (by omega) (by omega))
theorem CS_rem {c x : Nat} {w : Nat → Int32} (h : CS σ 0 w) : CS (remF σ c x) 0 w := CS_congr h (fun k a b => remF_ne (by omega) (by omega)) (fun _ _ => rfl)
theorem api_pay (h n : Int32) : Sim Rel mX7_pay mX8_pay [.int h, .int n] := by
  refine Sim_of (Lc := [.ref (ad 0 0), .int h, .int n]) (Lm := [.ref (ad 29 0), .int h, .int n]) rfl rfl (fun σ hR => ?_)
  obtain ⟨r1, r2, C, N, G, r3, r4, r5, r6, r7⟩ := id hR
  obtain ⟨q1, q2, q3, q4, ⟨l0, l1, l2⟩, ⟨k0, k1, k2⟩, q5⟩ := id r3.1
  have hq := rr_lt (σ 9 0 0)
  by_cases hH : isH N h
  · obtain ⟨j, hj, rfl⟩ := isH_of q2 hH
    have hj7 : j < 7 := by omega
    by_cases ho : n < 1 ∨ 99 < n
    · refine ⟨σ, σ, -1000000002, ?_, ?_, hR⟩
      · simp only [aX7_pay_0, aX7_pay_1, aX7_pay_4, aX7_pay_7, aX7_pay_8, aX7_pay_11, aX7_pay_14, aX7_pay_16, aX7_pay_17, aX7_pay_18, aX7_pay_19, aX7_pay_21, aX7_pay_24, aX7_pay_27, aX7_pay_29, sp_cHouse hq k1, sp_isOutside, Nat.zero_le, Nat.reduceLeDiff, Nat.reduceAdd, i1_0, rr_c3, zc9, oc9, zc10, oc10, zc11, oc11, zc12, oc12, zc13, oc13, zc15, oc15, Int32.lt_irrefl, Nat.zero_lt_one, Rt_cons, Rt_void, isB_0, isB_1, isB_b, true_and, and_true, cats_nil, cats_int, cats_ref, and_self, if_true, if_false, ite_self, le_nlt, ite_not, Rt_nil, bI_t hH, bI_t ho]
      · simp only [aX8_pay_0, aX8_pay_1, aX8_pay_2, aX8_pay_5, aX8_pay_8, aX8_pay_10, aX8_pay_11, aX8_pay_12, aX8_pay_13, aX8_pay_15, aX8_pay_18, aX8_pay_21, aX8_pay_23, sp_mHouse q2 l1, sp_in, Nat.zero_le, Nat.reduceLeDiff, Nat.reduceAdd, i1_0, rr_c3, zc9, oc9, zc10, oc10, zc11, oc11, zc12, oc12, zc13, oc13, zc15, oc15, Int32.lt_irrefl, Nat.zero_lt_one, Rt_cons, Rt_void, isB_0, isB_1, isB_b, true_and, and_true, cats_nil, cats_int, cats_ref, and_self, if_true, if_false, ite_self, le_nlt, ite_not, Rt_nil, bI_t hH, bI_f (show ¬ (¬ n < 1 ∧ ¬ 99 < n) from fun z => ho.elim z.1 z.2)]
    · obtain ⟨hx0, hx1⟩ := not_out.mp ho
      have hin : (¬ n < 1 ∧ ¬ 99 < n) := ⟨hx0, hx1⟩
      by_cases hp : canP (σ 43 0) j n
      · obtain ⟨c, x, p1, p2, p3, p4, p5, p6⟩ := r6
        have hb := CS_bool r3.2.2.1
        have e : ∀ k, 9 ≤ k → k ≤ 15 → remF σ c x k 0 = σ k 0 := fun k a b => remF_ne (by omega) (by omega)
        have cs := r3.2.2.1.2.2.2.2.2 j hj7
        refine ⟨payC (remF σ c x) 0 j n, updK (notF (payC (remF σ c x) 0 j n) c) 43 0 (payW (σ 43 0) j n), σ 43 0 (64 + 5 * j) - n, ?_, ?_, ?_⟩
        · simp only [aX7_pay_0, aX7_pay_1, aX7_pay_4, aX7_pay_7, aX7_pay_8, aX7_pay_11, aX7_pay_14, aX7_pay_16, aX7_pay_17, aX7_pay_18, aX7_pay_19, aX7_pay_21, aX7_pay_24, aX7_pay_27, aX7_pay_29, aX7_pay_30, aX7_pay_31, aX7_pay_34, aX7_pay_35, aX7_pay_36, aX7_pay_39, aX7_pay_42, aX7_pay_44, aX7_pay_45, aX7_pay_46, aX7_pay_49, aX7_pay_50, aX7_pay_53, sp_cHouse hq k1, sp_isOutside, sp_cCanPay (show 0 < 34 by decide) hj7 r3.2.2.1, Nat.zero_le, Nat.reduceLeDiff, Nat.reduceAdd, i1_0, rr_c3, zc9, oc9, zc10, oc10, zc11, oc11, zc12, oc12, zc13, oc13, zc15, oc15, Int32.lt_irrefl, Nat.zero_lt_one, Rt_cons, Rt_void, isB_0, isB_1, isB_b, true_and, and_true, cats_nil, cats_int, cats_ref, and_self, if_true, if_false, ite_self, le_nlt, ite_not, Rt_nil, bI_t hH, bI_f ho, bI_t hp]
          rw [sp_remember p1 p2 p4 p3 hb]
          simp only [aX7_pay_56, aX7_pay_57, aX7_pay_60, aX7_pay_61, aX7_pay_62, aX7_pay_65, aX7_pay_66, aX7_pay_69, aX7_pay_72, aX7_pay_73, aX7_pay_74, sp_payByHand (show 0 < 34 by decide) hj7, Nat.zero_le, Nat.reduceLeDiff, Nat.reduceAdd, i1_0, rr_c3, zc9, oc9, zc10, oc10, zc11, oc11, zc12, oc12, zc13, oc13, zc15, oc15, Int32.lt_irrefl, Nat.zero_lt_one, Rt_cons, Rt_void, isB_0, isB_1, isB_b, true_and, and_true, cats_nil, cats_int, cats_ref, and_self, if_true, if_false, ite_self, le_nlt, ite_not, Rt_nil, aT_10, aN_10, in7 hj7, cl10 (show j < 10000 by omega)]
          unfold payC
          rw [upS_eq, upd_eq, e 10 (by omega) (by omega), cs.1]
        · have hm : ∀ k i, 29 ≤ k → payC (remF σ c x) 0 j n k i = σ k i := fun k i a => by unfold payC; rw [upS_ne (by omega), upS_ne (by omega), remF_ne (by omega) (by omega)]
          generalize payC (remF σ c x) 0 j n = σ1 at hm ⊢
          have m31 : σ1 31 0 1 = nI N := by rw [hm _ _ (by omega)]; exact l1
          have m18 : σ1 29 0 18 = nI c := by rw [hm _ _ (by omega)]; exact p5
          have m43 : σ1 43 0 = σ 43 0 := hm _ _ (by omega)
          have hp1 : canP (σ1 43 0) j n := by rw [m43]; exact hp
          simp only [aX8_pay_0, aX8_pay_1, aX8_pay_2, aX8_pay_5, aX8_pay_8, aX8_pay_10, aX8_pay_11, aX8_pay_12, aX8_pay_13, aX8_pay_15, aX8_pay_18, aX8_pay_21, aX8_pay_23, aX8_pay_24, aX8_pay_25, aX8_pay_26, aX8_pay_27, aX8_pay_30, aX8_pay_33, aX8_pay_35, aX8_pay_36, aX8_pay_37, sp_mHouse q2 m31, sp_in, sp_mCanPay hj7, Nat.zero_le, Nat.reduceLeDiff, Nat.reduceAdd, i1_0, rr_c3, zc9, oc9, zc10, oc10, zc11, oc11, zc12, oc12, zc13, oc13, zc15, oc15, Int32.lt_irrefl, Nat.zero_lt_one, Rt_cons, Rt_void, isB_0, isB_1, isB_b, true_and, and_true, cats_nil, cats_int, cats_ref, and_self, if_true, if_false, ite_self, le_nlt, ite_not, Rt_nil, bI_t hH, bI_t hin, bI_t hp1]
          rw [sp_notes p1 m18]
          have n43 : notF σ1 c 43 0 = σ 43 0 := by rw [notF_ne (by decide) (by decide), m43]
          simp only [aX8_pay_40, aX8_pay_41, aX8_pay_42, aX8_pay_43, aX8_pay_46, aX8_pay_47, aX8_pay_48, aX8_pay_51, sp_paysBy hj7, sp_debtOf hj7, Nat.zero_le, Nat.reduceLeDiff, Nat.reduceAdd, i1_0, rr_c3, zc9, oc9, zc10, oc10, zc11, oc11, zc12, oc12, zc13, oc13, zc15, oc15, Int32.lt_irrefl, Nat.zero_lt_one, Rt_cons, Rt_void, isB_0, isB_1, isB_b, true_and, and_true, cats_nil, cats_int, cats_ref, and_self, if_true, if_false, ite_self, le_nlt, ite_not, Rt_nil, n43, updK_eq, payW_d]
        · have hn0 : ¬ n < 0 := fun z => hx0 (Int32.lt_trans z (by decide))
          obtain ⟨d, hd, rfl⟩ := nI_of2 (M := 99) (n := 99) (by decide) hn0 (Int32.not_lt.mp hx1)
          refine Rel_deed r1 r2 r3 r4 r5 r7 p1 p2 p6 (fun k i a b => by unfold payC; rw [upS_ne (by omega), upS_ne (by omega)]) (fun k i a => by unfold payC; rw [upS_ne (by omega), upS_ne (by omega), remF_ne (by omega) (by omega)]) (by unfold payC; rw [upS_ne (by omega), upS_eq, upd_ne (by decide), e 9 (by omega) (by omega)]) (CS_pay (CS_rem r3.2.2.1) hj7) (WFw_pay r3.2.2.2 hj7 (by omega) hp)
      · refine ⟨σ, σ, -1000000003, ?_, ?_, hR⟩
        · simp only [aX7_pay_0, aX7_pay_1, aX7_pay_4, aX7_pay_7, aX7_pay_8, aX7_pay_11, aX7_pay_14, aX7_pay_16, aX7_pay_17, aX7_pay_18, aX7_pay_19, aX7_pay_21, aX7_pay_24, aX7_pay_27, aX7_pay_29, aX7_pay_30, aX7_pay_31, aX7_pay_34, aX7_pay_35, aX7_pay_36, aX7_pay_39, aX7_pay_42, aX7_pay_44, sp_cHouse hq k1, sp_isOutside, sp_cCanPay (show 0 < 34 by decide) hj7 r3.2.2.1, Nat.zero_le, Nat.reduceLeDiff, Nat.reduceAdd, i1_0, rr_c3, zc9, oc9, zc10, oc10, zc11, oc11, zc12, oc12, zc13, oc13, zc15, oc15, Int32.lt_irrefl, Nat.zero_lt_one, Rt_cons, Rt_void, isB_0, isB_1, isB_b, true_and, and_true, cats_nil, cats_int, cats_ref, and_self, if_true, if_false, ite_self, le_nlt, ite_not, Rt_nil, bI_t hH, bI_f ho, bI_f hp]
        · simp only [aX8_pay_0, aX8_pay_1, aX8_pay_2, aX8_pay_5, aX8_pay_8, aX8_pay_10, aX8_pay_11, aX8_pay_12, aX8_pay_13, aX8_pay_15, aX8_pay_18, aX8_pay_21, aX8_pay_23, aX8_pay_24, aX8_pay_25, aX8_pay_26, aX8_pay_27, aX8_pay_30, aX8_pay_33, aX8_pay_35, sp_mHouse q2 l1, sp_in, sp_mCanPay hj7, Nat.zero_le, Nat.reduceLeDiff, Nat.reduceAdd, i1_0, rr_c3, zc9, oc9, zc10, oc10, zc11, oc11, zc12, oc12, zc13, oc13, zc15, oc15, Int32.lt_irrefl, Nat.zero_lt_one, Rt_cons, Rt_void, isB_0, isB_1, isB_b, true_and, and_true, cats_nil, cats_int, cats_ref, and_self, if_true, if_false, ite_self, le_nlt, ite_not, Rt_nil, bI_t hH, bI_t hin, bI_f hp]
  · refine ⟨σ, σ, -1000000001, ?_, ?_, hR⟩
    · simp only [aX7_pay_0, aX7_pay_1, aX7_pay_4, aX7_pay_7, aX7_pay_8, aX7_pay_11, aX7_pay_14, aX7_pay_16, sp_cHouse hq k1, Nat.zero_le, Nat.reduceLeDiff, Nat.reduceAdd, i1_0, rr_c3, zc9, oc9, zc10, oc10, zc11, oc11, zc12, oc12, zc13, oc13, zc15, oc15, Int32.lt_irrefl, Nat.zero_lt_one, Rt_cons, Rt_void, isB_0, isB_1, isB_b, true_and, and_true, cats_nil, cats_int, cats_ref, and_self, if_true, if_false, ite_self, le_nlt, ite_not, Rt_nil, bI_f hH]
    · simp only [aX8_pay_0, aX8_pay_1, aX8_pay_2, aX8_pay_5, aX8_pay_8, aX8_pay_10, sp_mHouse q2 l1, Nat.zero_le, Nat.reduceLeDiff, Nat.reduceAdd, i1_0, rr_c3, zc9, oc9, zc10, oc10, zc11, oc11, zc12, oc12, zc13, oc13, zc15, oc15, Int32.lt_irrefl, Nat.zero_lt_one, Rt_cons, Rt_void, isB_0, isB_1, isB_b, true_and, and_true, cats_nil, cats_int, cats_ref, and_self, if_true, if_false, ite_self, le_nlt, ite_not, Rt_nil, bI_f hH]
end S49
