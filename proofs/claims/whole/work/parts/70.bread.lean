-- bread, mostBread, hear
abbrev canB (kd w : Nat → Int32) (j : Nat) : Prop := w (64 + 5 * j + 1) = 0 ∧ kd (w (64 + 5 * j + 2)).toNatClampNeg = 3
/-- debt less, weight more -/
def brV (w : Nat → Int32) (j : Nat) (n : Int32) : Nat → Int32 := upd (upd w (64 + 5 * j) (w (64 + 5 * j) - n)) (64 + 5 * j + 4) (w (64 + 5 * j + 4) + n)
def brW (w : Nat → Int32) (j : Nat) (n : Int32) : Nat → Int32 := if 9 < w (64 + 5 * j + 4) + n then putW (brV w j n) j else brV w j n
def brU (σ : Mem) (i j : Nat) (n : Int32) : Mem := upS (upS σ 10 i j (σ 10 i j - n)) 13 i j (σ 13 i j + n)
def brC (σ : Mem) (i j : Nat) (n : Int32) : Mem := if σ 13 i j + n < 10 then brU σ i j n else putC (brU σ i j n) i j
theorem brV_ne {w : Nat → Int32} {j a : Nat} {n : Int32} (h1 : ¬ a = 64 + 5 * j) (h2 : ¬ a = 64 + 5 * j + 4) : brV w j n a = w a := by unfold brV; rw [upd_ne h2, upd_ne h1]
theorem brV_d {w : Nat → Int32} {j : Nat} {n : Int32} : brV w j n (64 + 5 * j) = w (64 + 5 * j) - n := by unfold brV; rw [upd_ne (by omega), upd_eq]
theorem brV_w {w : Nat → Int32} {j : Nat} {n : Int32} : brV w j n (64 + 5 * j + 4) = w (64 + 5 * j + 4) + n := by unfold brV; rw [upd_eq]
section S70
variable {σ : Mem} {fs : List Fm} {M : List va_E} {Q : List va_E → Option Value → Prop}
theorem sp_eatsBread {i j G : Nat} {w kd : Nat → Int32} (hi : i < 34) (hj : j < 7) (hG : G ≤ 7) (h : CS σ i w) (hw : w (64 + 5 * j + 2) = -1 ∨ ∃ g : Nat, g < G ∧ w (64 + 5 * j + 2) = nI g) (hk : ∀ g, g < G → σ 7 (rr (σ 9 i 0)) g = kd g) : Rn mX5_eatsBread 0 [.ref (ad 9 i), .int (nI j)] [] fs (enc σ) Q ↔ Rt fs (enc σ) (some (.int (bI (canB kd w j)))) Q := by
  have c9 : i < cnt 9 := hi
  have c10 : i < cnt 10 := hi
  have c11 : i < cnt 11 := hi
  have c12 : i < cnt 12 := hi
  have c13 : i < cnt 13 := hi
  have c15 : i < cnt 15 := hi
  have c7 : rr (σ 9 i 0) < cnt 7 := rr_lt _
  have ck := h.2.2.2.2.2 j hj
  by_cases q : w (64 + 5 * j + 1) = 0
  · have hg := (CS_held h hj q).2
    rcases hw with z | ⟨g, g1, g2⟩
    · exact absurd z hg
    · have cl : (w (64 + 5 * j + 2)).toNatClampNeg = g := by rw [g2]; exact nI_clamp (by omega)
      by_cases q2 : kd g = 3
      · rw [bI_t (show canB kd w j from ⟨q, by rw [cl]; exact q2⟩)]
        simp only [aX5_eatsBread_0, aX5_eatsBread_1, aX5_eatsBread_2, aX5_eatsBread_5, aX5_eatsBread_8, aX5_eatsBread_9, aX5_eatsBread_12, aX5_eatsBread_15, aX5_eatsBread_16, aX5_eatsBread_19, aX5_eatsBread_20, aX5_eatsBread_21, aX5_eatsBread_22, aX5_eatsBread_23, aX5_eatsBread_26, aX5_eatsBread_27, aX5_eatsBread_30, aX5_eatsBread_31, sp_held hi hj (w := w) ck, Nat.zero_le, Nat.reduceLeDiff, Nat.reduceAdd, i1_0, rr_c3, zc9, oc9, zc10, oc10, zc11, oc11, zc12, oc12, zc13, oc13, zc15, oc15, Int32.lt_irrefl, Nat.zero_lt_one, Rt_cons, Rt_void, isB_0, isB_1, isB_b, true_and, and_true, cats_nil, cats_int, cats_ref, and_self, if_true, if_false, ite_self, le_nlt, ite_not, c9, c10, c11, c12, c13, c15, aT_10, aT_11, aT_12, aT_13, aT_15, aN_10, aN_11, aN_12, aN_13, aN_15, rr_lt, bI_t q, in7 hj, cl10 (show j < 10000 by omega), ck.2.1, g2, aT_7, aN_7, c7, in7 (show g < 7 by omega), cl10 (show g < 10000 by omega), hk g g1, q2, not_true_eq_false]
      · rw [bI_f (show ¬ canB kd w j from fun z => q2 (by have := z.2; rw [cl] at this; exact this))]
        simp only [aX5_eatsBread_0, aX5_eatsBread_1, aX5_eatsBread_2, aX5_eatsBread_5, aX5_eatsBread_8, aX5_eatsBread_9, aX5_eatsBread_12, aX5_eatsBread_15, aX5_eatsBread_16, aX5_eatsBread_19, aX5_eatsBread_20, aX5_eatsBread_21, aX5_eatsBread_22, aX5_eatsBread_23, aX5_eatsBread_26, aX5_eatsBread_27, aX5_eatsBread_30, aX5_eatsBread_31, sp_held hi hj (w := w) ck, Nat.zero_le, Nat.reduceLeDiff, Nat.reduceAdd, i1_0, rr_c3, zc9, oc9, zc10, oc10, zc11, oc11, zc12, oc12, zc13, oc13, zc15, oc15, Int32.lt_irrefl, Nat.zero_lt_one, Rt_cons, Rt_void, isB_0, isB_1, isB_b, true_and, and_true, cats_nil, cats_int, cats_ref, and_self, if_true, if_false, ite_self, le_nlt, ite_not, c9, c10, c11, c12, c13, c15, aT_10, aT_11, aT_12, aT_13, aT_15, aN_10, aN_11, aN_12, aN_13, aN_15, rr_lt, bI_t q, in7 hj, cl10 (show j < 10000 by omega), ck.2.1, g2, aT_7, aN_7, c7, in7 (show g < 7 by omega), cl10 (show g < 10000 by omega), hk g g1, q2, not_false_eq_true]
  · rw [bI_f (show ¬ canB kd w j from fun z => q z.1)]
    simp only [aX5_eatsBread_0, aX5_eatsBread_1, aX5_eatsBread_2, aX5_eatsBread_5, aX5_eatsBread_8, aX5_eatsBread_9, aX5_eatsBread_12, aX5_eatsBread_15, aX5_eatsBread_16, aX5_eatsBread_19, aX5_eatsBread_20, aX5_eatsBread_21, aX5_eatsBread_22, aX5_eatsBread_23, aX5_eatsBread_26, aX5_eatsBread_27, aX5_eatsBread_30, aX5_eatsBread_31, sp_held hi hj (w := w) ck, Nat.zero_le, Nat.reduceLeDiff, Nat.reduceAdd, i1_0, rr_c3, zc9, oc9, zc10, oc10, zc11, oc11, zc12, oc12, zc13, oc13, zc15, oc15, Int32.lt_irrefl, Nat.zero_lt_one, Rt_cons, Rt_void, isB_0, isB_1, isB_b, true_and, and_true, cats_nil, cats_int, cats_ref, and_self, if_true, if_false, ite_self, le_nlt, ite_not, c9, c10, c11, c12, c13, c15, aT_10, aT_11, aT_12, aT_13, aT_15, aN_10, aN_11, aN_12, aN_13, aN_15, rr_lt, bI_f q]
theorem sp_isByBread {j G : Nat} (hj : j < 7) (hG : G ≤ 7) (hh : σ 43 0 (64 + 5 * j + 1) = 0 → ¬ σ 43 0 (64 + 5 * j + 2) = -1) (hw : σ 43 0 (64 + 5 * j + 2) = -1 ∨ ∃ g : Nat, g < G ∧ σ 43 0 (64 + 5 * j + 2) = nI g) : Rn mX8_isByBread 0 [.ref (ad 29 0), .int (nI j)] [] fs (enc σ) Q ↔ Rt fs (enc σ) (some (.int (bI (canB (σ 35 0) (σ 43 0) j)))) Q := by
  by_cases q : σ 43 0 (64 + 5 * j + 1) = 0
  · rcases hw with z | ⟨g, g1, g2⟩
    · exact absurd z (hh q)
    · have cl : (σ 43 0 (64 + 5 * j + 2)).toNatClampNeg = g := by rw [g2]; exact nI_clamp (by omega)
      by_cases q2 : σ 35 0 g = 3
      · rw [bI_t (show canB (σ 35 0) (σ 43 0) j from ⟨q, by rw [cl]; exact q2⟩)]
        simp only [aX8_isByBread_0, aX8_isByBread_1, aX8_isByBread_2, aX8_isByBread_5, aX8_isByBread_8, aX8_isByBread_9, aX8_isByBread_12, aX8_isByBread_13, aX8_isByBread_16, aX8_isByBread_18, aX8_isByBread_19, aX8_isByBread_20, aX8_isByBread_21, aX8_isByBread_22, aX8_isByBread_23, aX8_isByBread_24, aX8_isByBread_25, aX8_isByBread_26, aX8_isByBread_27, aX8_isByBread_30, aX8_isByBread_31, aX8_isByBread_34, aX8_isByBread_35, sp_mHeld hj, Nat.zero_le, Nat.reduceLeDiff, Nat.reduceAdd, i1_0, rr_c3, zc9, oc9, zc10, oc10, zc11, oc11, zc12, oc12, zc13, oc13, zc15, oc15, Int32.lt_irrefl, Nat.zero_lt_one, Rt_cons, Rt_void, isB_0, isB_1, isB_b, true_and, and_true, cats_nil, cats_int, cats_ref, and_self, if_true, if_false, ite_self, le_nlt, ite_not, bI_t q, aT_43, aN_43, cnt_43, n5, n64, nI_2, in99 (show 64 + 5 * j + 2 < 99 by omega), cl10 (show 64 + 5 * j + 2 < 10000 by omega), g2, aT_35, aN_35, cnt_35, in7 (show g < 7 by omega), cl10 (show g < 10000 by omega), q2, not_true_eq_false]
      · rw [bI_f (show ¬ canB (σ 35 0) (σ 43 0) j from fun z => q2 (by have := z.2; rw [cl] at this; exact this))]
        simp only [aX8_isByBread_0, aX8_isByBread_1, aX8_isByBread_2, aX8_isByBread_5, aX8_isByBread_8, aX8_isByBread_9, aX8_isByBread_12, aX8_isByBread_13, aX8_isByBread_16, aX8_isByBread_18, aX8_isByBread_19, aX8_isByBread_20, aX8_isByBread_21, aX8_isByBread_22, aX8_isByBread_23, aX8_isByBread_24, aX8_isByBread_25, aX8_isByBread_26, aX8_isByBread_27, aX8_isByBread_30, aX8_isByBread_31, aX8_isByBread_34, aX8_isByBread_35, sp_mHeld hj, Nat.zero_le, Nat.reduceLeDiff, Nat.reduceAdd, i1_0, rr_c3, zc9, oc9, zc10, oc10, zc11, oc11, zc12, oc12, zc13, oc13, zc15, oc15, Int32.lt_irrefl, Nat.zero_lt_one, Rt_cons, Rt_void, isB_0, isB_1, isB_b, true_and, and_true, cats_nil, cats_int, cats_ref, and_self, if_true, if_false, ite_self, le_nlt, ite_not, bI_t q, aT_43, aN_43, cnt_43, n5, n64, nI_2, in99 (show 64 + 5 * j + 2 < 99 by omega), cl10 (show 64 + 5 * j + 2 < 10000 by omega), g2, aT_35, aN_35, cnt_35, in7 (show g < 7 by omega), cl10 (show g < 10000 by omega), q2, not_false_eq_true]
  · rw [bI_f (show ¬ canB (σ 35 0) (σ 43 0) j from fun z => q z.1)]
    simp only [aX8_isByBread_0, aX8_isByBread_1, aX8_isByBread_2, aX8_isByBread_5, aX8_isByBread_8, aX8_isByBread_9, aX8_isByBread_12, aX8_isByBread_13, aX8_isByBread_16, aX8_isByBread_18, aX8_isByBread_19, aX8_isByBread_20, aX8_isByBread_21, aX8_isByBread_22, aX8_isByBread_23, aX8_isByBread_24, aX8_isByBread_25, aX8_isByBread_26, aX8_isByBread_27, aX8_isByBread_30, aX8_isByBread_31, aX8_isByBread_34, aX8_isByBread_35, sp_mHeld hj, Nat.zero_le, Nat.reduceLeDiff, Nat.reduceAdd, i1_0, rr_c3, zc9, oc9, zc10, oc10, zc11, oc11, zc12, oc12, zc13, oc13, zc15, oc15, Int32.lt_irrefl, Nat.zero_lt_one, Rt_cons, Rt_void, isB_0, isB_1, isB_b, true_and, and_true, cats_nil, cats_int, cats_ref, and_self, if_true, if_false, ite_self, le_nlt, ite_not, bI_f q]
theorem sp_payByBread {i j : Nat} {n : Int32} (hi : i < 34) (hj : j < 7) : Rn mX5_payByBread 0 [.ref (ad 9 i), .int (nI j), .int n] [] fs (enc σ) Q ↔ Rt fs (enc (brC σ i j n)) none Q := by
  have c9 : i < cnt 9 := hi
  have c10 : i < cnt 10 := hi
  have c11 : i < cnt 11 := hi
  have c12 : i < cnt 12 := hi
  have c13 : i < cnt 13 := hi
  have c15 : i < cnt 15 := hi
  have e13 : ∀ x, upS σ 10 i j x 13 i = σ 13 i := fun x => upS_ne (by omega)
  unfold brC
  by_cases q : σ 13 i j + n < 10
  · rw [if_pos q]
    simp only [aX5_payByBread_0, aX5_payByBread_1, aX5_payByBread_4, aX5_payByBread_5, aX5_payByBread_6, aX5_payByBread_7, aX5_payByBread_8, aX5_payByBread_9, aX5_payByBread_10, aX5_payByBread_11, aX5_payByBread_14, aX5_payByBread_15, aX5_payByBread_16, aX5_payByBread_17, aX5_payByBread_18, aX5_payByBread_19, aX5_payByBread_20, aX5_payByBread_21, aX5_payByBread_24, aX5_payByBread_25, aX5_payByBread_26, aX5_payByBread_28, aX5_payByBread_31, aX5_payByBread_32, aX5_payByBread_33, aX5_payByBread_36, Nat.zero_le, Nat.reduceLeDiff, Nat.reduceAdd, i1_0, rr_c3, zc9, oc9, zc10, oc10, zc11, oc11, zc12, oc12, zc13, oc13, zc15, oc15, Int32.lt_irrefl, Nat.zero_lt_one, Rt_cons, Rt_void, isB_0, isB_1, isB_b, true_and, and_true, cats_nil, cats_int, cats_ref, and_self, if_true, if_false, ite_self, le_nlt, ite_not, c9, c10, c11, c12, c13, c15, aT_10, aT_11, aT_12, aT_13, aT_15, aN_10, aN_11, aN_12, aN_13, aN_15, in7 hj, cl10 (show j < 10000 by omega), e13, upS_eq, upd_eq, q]
    rfl
  · rw [if_neg q]
    simp only [aX5_payByBread_0, aX5_payByBread_1, aX5_payByBread_4, aX5_payByBread_5, aX5_payByBread_6, aX5_payByBread_7, aX5_payByBread_8, aX5_payByBread_9, aX5_payByBread_10, aX5_payByBread_11, aX5_payByBread_14, aX5_payByBread_15, aX5_payByBread_16, aX5_payByBread_17, aX5_payByBread_18, aX5_payByBread_19, aX5_payByBread_20, aX5_payByBread_21, aX5_payByBread_24, aX5_payByBread_25, aX5_payByBread_26, aX5_payByBread_28, aX5_payByBread_31, aX5_payByBread_32, aX5_payByBread_33, aX5_payByBread_36, sp_evict hi hj, Nat.zero_le, Nat.reduceLeDiff, Nat.reduceAdd, i1_0, rr_c3, zc9, oc9, zc10, oc10, zc11, oc11, zc12, oc12, zc13, oc13, zc15, oc15, Int32.lt_irrefl, Nat.zero_lt_one, Rt_cons, Rt_void, isB_0, isB_1, isB_b, true_and, and_true, cats_nil, cats_int, cats_ref, and_self, if_true, if_false, ite_self, le_nlt, ite_not, c9, c10, c11, c12, c13, c15, aT_10, aT_11, aT_12, aT_13, aT_15, aN_10, aN_11, aN_12, aN_13, aN_15, in7 hj, cl10 (show j < 10000 by omega), e13, upS_eq, upd_eq, q]
    rfl
theorem CS_brU {i j : Nat} {n : Int32} {w : Nat → Int32} (h : CS σ i w) (hj : j < 7) : CS (brU σ i j n) i (brV w j n) := by
  have eP : ∀ k, k ≠ 10 → k ≠ 13 → brU σ i j n k i = σ k i := fun k d f => by unfold brU; rw [upS_ne (by omega), upS_ne (by omega)]
  have eP10 : brU σ i j n 10 i = upd (σ 10 i) j (σ 10 i j - n) := by unfold brU; rw [upS_ne (by omega), upS_eq]
  have eP13 : brU σ i j n 13 i = upd (σ 13 i) j (σ 13 i j + n) := by unfold brU; rw [upS_eq, upS_ne (by omega)]
  have e9 := eP 9 (by omega) (by omega)
  refine CS_intro h (by rw [e9, brV_ne (by omega) (by omega)]; exact h.1) (by rw [e9, brV_ne (by omega) (by omega)]; exact h.2.1) (by rw [e9, brV_ne (by omega) (by omega)]; exact h.2.2.1) (by rw [e9]) (by rw [e9]) (eP 15 (by omega) (by omega)) (fun t a b => brV_ne (by omega) (by omega)) (fun k hk => ?_)
  have ck := h.2.2.2.2.2 k hk
  by_cases hkj : k = j
  · subst hkj
    rw [eP 11 (by omega) (by omega), eP 12 (by omega) (by omega), eP 14 (by omega) (by omega), eP10, eP13, upd_eq, upd_eq, brV_d, brV_w, brV_ne (by omega) (by omega), brV_ne (a := 64 + 5 * k + 3) (by omega) (by omega), brV_ne (a := 64 + 5 * k + 1) (by omega) (by omega), ck.1, ck.2.2.2.1]
    exact ⟨rfl, ck.2.1, ck.2.2.1, rfl, ck.2.2.2.2⟩
  · exact Ch_congr (w := w) ck (by rw [eP10, upd_ne hkj]) (by rw [eP 11 (by omega) (by omega)]) (by rw [eP 12 (by omega) (by omega)]) (by rw [eP13, upd_ne hkj]) (by rw [eP 14 (by omega) (by omega)]) (fun t ht => brV_ne (by omega) (by omega))
theorem WFx_br {B G N j d n : Nat} {w : Nat → Int32} (h : WFx B G N w) (hj : j < 7) (hjN : j < N) (hd : w (64 + 5 * j) = nI d) (hn : n ≤ 9) (hnd : n ≤ d) (hd9 : d ≤ 9999) (h0 : w (64 + 5 * j + 1) = 0) : WFx B G N (brW w j (nI n)) := by
  obtain ⟨h1, h2, h3, h4, h5⟩ := id h
  have hl : Wl G N w j := h4 j hj
  obtain ⟨g1, g2, g3, g4, ⟨e, e1, e2, e3⟩, g6, g7⟩ := id hl
  have e9 : e ≤ 9 := e3.elim id (fun z => by rw [h0] at z; exact absurd z (by decide))
  have s2 : ¬ w (64 + 5 * j + 1) = 2 := by rw [h0]; decide
  -- debt alone
  have A : WFx B G N (upd w (64 + 5 * j) (nI (d - n))) := by
    refine WFx_upd h hj (upd_ne (by omega)) (by rw [upd_ne (by omega)]; exact h2) (upd_ne (by omega)) (by rw [upd_ne (by omega)]) (fun k hk hkj t ht => upd_ne (by omega)) ?_ (Or.inl (upd_ne (by omega)))
    unfold Wl
    rw [upd_eq, upd_ne (by omega), upd_ne (by omega), upd_ne (by omega), upd_ne (by omega)]
    exact ⟨⟨d - n, by omega, rfl⟩, g2, g3, g4, ⟨e, e1, e2, e3⟩, g6, g7⟩
  have ev : ∀ a, brV w j (nI n) a = upd (upd w (64 + 5 * j) (nI (d - n))) (64 + 5 * j + 4) (nI (e + n)) a := fun a => by
    unfold brV
    rw [hd, pk_sub hnd, e2, nI_add]
  have WU : ∀ v, WFx B G N v → v (64 + 5 * j + 1) = w (64 + 5 * j + 1) ∨ v (64 + 5 * j + 1) = 2 → (∀ t, t < 4 → 1 < t → v (64 + 5 * j + t) = w (64 + 5 * j + t)) → v (64 + 5 * j) = nI (d - n) → (e + n ≤ 9 ∨ v (64 + 5 * j + 1) = 2) → WFx B G N (upd v (64 + 5 * j + 4) (nI (e + n))) := fun v hv a b c f => by
    refine WFx_upd hv hj (upd_ne (by omega)) (by rw [upd_ne (by omega)]; exact hv.2.1) (upd_ne (by omega)) (by rw [upd_ne (by omega)]) (fun k hk hkj t ht => upd_ne (by omega)) ?_ (Or.inl (upd_ne (by omega)))
    have hv' : Wl G N v j := hv.2.2.2.1 j hj
    unfold Wl
    rw [upd_eq, upd_ne (by omega), upd_ne (by omega), upd_ne (by omega), upd_ne (by omega)]
    exact ⟨hv'.1, hv'.2.1, hv'.2.2.1, hv'.2.2.2.1, ⟨e + n, by omega, rfl, f⟩, hv'.2.2.2.2.2.1, hv'.2.2.2.2.2.2⟩
  unfold brW
  by_cases q : 9 < w (64 + 5 * j + 4) + nI n
  · rw [if_pos q]
    have B' := WFw_put A hj hjN (by rw [upd_ne (by omega)]; exact s2)
    have B2 := WU _ B' (Or.inr (by unfold putW; rw [upd_ne (by omega), upd_eq])) (fun t a b => by rw [putW_ne (by omega) (by omega), upd_ne (by omega)]) (by rw [putW_ne (by omega) (by omega), upd_eq]) (Or.inr (by unfold putW; rw [upd_ne (by omega), upd_eq]))
    refine WFw_congr B2 (fun a ha => ?_)
    by_cases a1 : a = 2
    · subst a1
      unfold putW
      rw [upd_eq, upd_ne (by omega), upd_eq, ev, upd_ne (by omega)]
    · by_cases a2 : a = 64 + 5 * j + 1
      · subst a2
        unfold putW
        rw [upd_ne (by omega), upd_eq, upd_ne (by omega), upd_ne (by omega), upd_eq]
      · rw [putW_ne a1 a2, ev]
        by_cases a3 : a = 64 + 5 * j + 4
        · subst a3; rw [upd_eq, upd_eq]
        · rw [upd_ne a3, upd_ne a3, putW_ne a1 a2]
  · rw [if_neg q]
    have q' : e + n ≤ 9 := by
      rw [e2, nI_add] at q
      have : ¬ 9 < e + n := fun z => q (nI_lt (a := 9) z (by omega))
      omega
    have B2 := WU _ A (Or.inl (upd_ne (by omega))) (fun t a b => upd_ne (by omega)) (by rw [upd_eq]) (Or.inl q')
    exact WFw_congr B2 (fun a ha => ev a)
theorem brC_ne {i j k t : Nat} {n : Int32} (h : ¬ (9 ≤ k ∧ k ≤ 15 ∧ t = i)) : brC σ i j n k t = σ k t := by
  unfold brC
  split
  · unfold brU; rw [upS_ne (by omega), upS_ne (by omega)]
  · unfold putC brU; rw [upS_ne (by omega), upS_ne (by omega), upS_ne (by omega), upS_ne (by omega)]
theorem brC_row {i j : Nat} {n : Int32} : brC σ i j n 9 i 0 = σ 9 i 0 := by
  unfold brC
  split
  · unfold brU; rw [upS_ne (by omega), upS_ne (by omega)]
  · unfold putC brU; rw [upS_eq, upd_ne (by omega), upS_ne (by omega), upS_ne (by omega), upS_ne (by omega)]
theorem brC_10 {i j : Nat} {n : Int32} : brC σ i j n 10 i j = σ 10 i j - n := by
  unfold brC
  split
  · unfold brU; rw [upS_ne (by omega), upS_eq, upd_eq]
  · unfold putC brU; rw [upS_ne (by omega), upS_ne (by omega), upS_ne (by omega), upS_eq, upd_eq]
theorem CS_br {i j : Nat} {n e : Nat} {w : Nat → Int32} (h : CS σ i w) (hj : j < 7) (he : w (64 + 5 * j + 4) = nI e) (he9 : e ≤ 100) (hn : n ≤ 9) : CS (brC σ i j (nI n)) i (brW w j (nI n)) := by
  have ck := h.2.2.2.2.2 j hj
  have l : (σ 13 i j + nI n < 10) ↔ ¬ 9 < w (64 + 5 * j + 4) + nI n := by
    rw [ck.2.2.2.1, he, nI_add]
    have a1 := nI_ltI (a := e + n) (b := 10) (by omega) (by decide)
    have a2 := nI_ltI (a := 9) (b := e + n) (by decide) (by omega)
    have e1 : nI 10 = 10 := rfl
    have e2 : nI 9 = 9 := rfl
    rw [e1] at a1
    rw [e2] at a2
    rw [a1, a2]
    omega
  unfold brC brW
  by_cases q : 9 < w (64 + 5 * j + 4) + nI n
  · rw [if_neg (fun z => l.mp z q), if_pos q]
    exact CS_put (CS_brU h hj) hj
  · rw [if_pos (l.mpr q), if_neg q]
    exact CS_brU h hj
theorem api_bread (h n : Int32) : Sim Rel mX7_bread mX8_bread [.int h, .int n] := by
  refine Sim_of (Lc := [.ref (ad 0 0), .int h, .int n]) (Lm := [.ref (ad 29 0), .int h, .int n]) rfl rfl (fun σ hR => ?_)
  obtain ⟨r1, r2, C, N, G, r3, r4, r5, r6, r7⟩ := id hR
  obtain ⟨q1, q2, q3, q4, ⟨l0, l1, l2⟩, ⟨k0, k1, k2⟩, q5, q6, q7⟩ := id r3.1
  have hq := rr_lt (σ 9 0 0)
  by_cases hH : isH N h
  · obtain ⟨j, hj, rfl⟩ := isH_of q2 hH
    have hj7 : j < 7 := by omega
    by_cases ho : n < 1 ∨ 9 < n
    · refine ⟨σ, σ, -1000000002, ?_, ?_, hR⟩
      · simp only [aX7_bread_0, aX7_bread_1, aX7_bread_4, aX7_bread_7, aX7_bread_8, aX7_bread_11, aX7_bread_14, aX7_bread_16, aX7_bread_17, aX7_bread_18, aX7_bread_19, aX7_bread_21, aX7_bread_24, aX7_bread_27, aX7_bread_29, sp_cHouse hq k1, sp_isOutside, Nat.zero_le, Nat.reduceLeDiff, Nat.reduceAdd, i1_0, rr_c3, zc9, oc9, zc10, oc10, zc11, oc11, zc12, oc12, zc13, oc13, zc15, oc15, Int32.lt_irrefl, Nat.zero_lt_one, Rt_cons, Rt_void, isB_0, isB_1, isB_b, true_and, and_true, cats_nil, cats_int, cats_ref, and_self, if_true, if_false, ite_self, le_nlt, ite_not, Rt_nil, bI_t hH, bI_t ho]
      · simp only [aX8_bread_0, aX8_bread_1, aX8_bread_2, aX8_bread_5, aX8_bread_8, aX8_bread_10, aX8_bread_11, aX8_bread_12, aX8_bread_13, aX8_bread_15, aX8_bread_18, aX8_bread_21, aX8_bread_23, sp_mHouse q2 l1, sp_in, Nat.zero_le, Nat.reduceLeDiff, Nat.reduceAdd, i1_0, rr_c3, zc9, oc9, zc10, oc10, zc11, oc11, zc12, oc12, zc13, oc13, zc15, oc15, Int32.lt_irrefl, Nat.zero_lt_one, Rt_cons, Rt_void, isB_0, isB_1, isB_b, true_and, and_true, cats_nil, cats_int, cats_ref, and_self, if_true, if_false, ite_self, le_nlt, ite_not, Rt_nil, bI_t hH, bI_f (show ¬ (¬ n < 1 ∧ ¬ 9 < n) from fun z => ho.elim z.1 z.2)]
    · obtain ⟨hx0, hx1⟩ := not_out.mp ho
      have hin : (¬ n < 1 ∧ ¬ 9 < n) := ⟨hx0, hx1⟩
      have cs := r3.2.2.1.2.2.2.2.2 j hj7
      have hl : Wl G N (σ 43 0) j := r3.2.2.2.2.2.2.1 j hj7
      have hgl := hl.2.2.1
      have hhg : σ 43 0 (64 + 5 * j + 1) = 0 → ¬ σ 43 0 (64 + 5 * j + 2) = -1 := fun z => (CS_held r3.2.2.1 hj7 z).2
      have eb := fun fs Q => sp_eatsBread (σ := σ) (fs := fs) (Q := Q) (kd := σ 35 0) (show 0 < 34 by decide) hj7 (show G ≤ 7 by omega) r3.2.2.1 hgl (fun g hg => (q7 g hg).1)
      by_cases hp : canB (σ 35 0) (σ 43 0) j
      · by_cases hp2 : σ 43 0 (64 + 5 * j) < n
        · refine ⟨σ, σ, -1000000003, ?_, ?_, hR⟩
          · simp only [aX7_bread_0, aX7_bread_1, aX7_bread_4, aX7_bread_7, aX7_bread_8, aX7_bread_11, aX7_bread_14, aX7_bread_16, aX7_bread_17, aX7_bread_18, aX7_bread_19, aX7_bread_21, aX7_bread_24, aX7_bread_27, aX7_bread_29, aX7_bread_30, aX7_bread_31, aX7_bread_34, aX7_bread_35, aX7_bread_38, aX7_bread_41, aX7_bread_42, aX7_bread_45, aX7_bread_48, aX7_bread_49, aX7_bread_50, aX7_bread_51, aX7_bread_54, aX7_bread_56, sp_cHouse hq k1, sp_isOutside, eb, Nat.zero_le, Nat.reduceLeDiff, Nat.reduceAdd, i1_0, rr_c3, zc9, oc9, zc10, oc10, zc11, oc11, zc12, oc12, zc13, oc13, zc15, oc15, Int32.lt_irrefl, Nat.zero_lt_one, Rt_cons, Rt_void, isB_0, isB_1, isB_b, true_and, and_true, cats_nil, cats_int, cats_ref, and_self, if_true, if_false, ite_self, le_nlt, ite_not, Rt_nil, bI_t hH, bI_f ho, bI_t hp, aT_10, aN_10, in7 hj7, cl10 (show j < 10000 by omega), cs.1, hp2, not_true_eq_false]
          · simp only [aX8_bread_0, aX8_bread_1, aX8_bread_2, aX8_bread_5, aX8_bread_8, aX8_bread_10, aX8_bread_11, aX8_bread_12, aX8_bread_13, aX8_bread_15, aX8_bread_18, aX8_bread_21, aX8_bread_23, aX8_bread_24, aX8_bread_25, aX8_bread_26, aX8_bread_29, aX8_bread_32, aX8_bread_33, aX8_bread_34, aX8_bread_37, aX8_bread_38, aX8_bread_41, aX8_bread_43, sp_mHouse q2 l1, sp_in, sp_isByBread hj7 (show G ≤ 7 by omega) hhg hgl, sp_debtOf hj7, Nat.zero_le, Nat.reduceLeDiff, Nat.reduceAdd, i1_0, rr_c3, zc9, oc9, zc10, oc10, zc11, oc11, zc12, oc12, zc13, oc13, zc15, oc15, Int32.lt_irrefl, Nat.zero_lt_one, Rt_cons, Rt_void, isB_0, isB_1, isB_b, true_and, and_true, cats_nil, cats_int, cats_ref, and_self, if_true, if_false, ite_self, le_nlt, ite_not, Rt_nil, bI_t hH, bI_t hin, bI_t hp, hp2, not_true_eq_false]
        · have hn0 : ¬ n < 0 := fun z => hx0 (Int32.lt_trans z (by decide))
          obtain ⟨d, hd, rfl⟩ := nI_of2 (M := 9) (n := 9) (by decide) hn0 (Int32.not_lt.mp hx1)
          obtain ⟨c, x, p1, p2, p3, p4, p5, p6⟩ := r6
          have hb := CS_bool r3.2.2.1
          have e : ∀ k, 9 ≤ k → k ≤ 15 → remF σ c x k 0 = σ k 0 := fun k a b => remF_ne (by omega) (by omega)
          obtain ⟨D, D1, D2⟩ := hl.1
          obtain ⟨E, E1, E2, E3⟩ := hl.2.2.2.2.1
          have hdD : d ≤ D := by
            rw [D2] at hp2
            have : ¬ D < d := fun z => hp2 (nI_lt z (by omega))
            omega
          refine ⟨brC (remF σ c x) 0 j (nI d), updK (notF (brC (remF σ c x) 0 j (nI d)) c) 43 0 (brW (σ 43 0) j (nI d)), σ 43 0 (64 + 5 * j) - nI d, ?_, ?_, ?_⟩
          · simp only [aX7_bread_0, aX7_bread_1, aX7_bread_4, aX7_bread_7, aX7_bread_8, aX7_bread_11, aX7_bread_14, aX7_bread_16, aX7_bread_17, aX7_bread_18, aX7_bread_19, aX7_bread_21, aX7_bread_24, aX7_bread_27, aX7_bread_29, aX7_bread_30, aX7_bread_31, aX7_bread_34, aX7_bread_35, aX7_bread_38, aX7_bread_41, aX7_bread_42, aX7_bread_45, aX7_bread_48, aX7_bread_49, aX7_bread_50, aX7_bread_51, aX7_bread_54, aX7_bread_56, aX7_bread_57, aX7_bread_58, aX7_bread_61, aX7_bread_62, sp_cHouse hq k1, sp_isOutside, eb, Nat.zero_le, Nat.reduceLeDiff, Nat.reduceAdd, i1_0, rr_c3, zc9, oc9, zc10, oc10, zc11, oc11, zc12, oc12, zc13, oc13, zc15, oc15, Int32.lt_irrefl, Nat.zero_lt_one, Rt_cons, Rt_void, isB_0, isB_1, isB_b, true_and, and_true, cats_nil, cats_int, cats_ref, and_self, if_true, if_false, ite_self, le_nlt, ite_not, Rt_nil, bI_t hH, bI_f ho, bI_t hp, aT_10, aN_10, in7 hj7, cl10 (show j < 10000 by omega), cs.1, hp2, not_false_eq_true]
            rw [aX7_bread_65, sp_remember p1 p2 p4 p3 hb]
            simp only [aX7_bread_68, aX7_bread_69, aX7_bread_72, aX7_bread_73, aX7_bread_74, aX7_bread_77, aX7_bread_78, aX7_bread_81, aX7_bread_84, aX7_bread_85, aX7_bread_86, sp_payByBread (show 0 < 34 by decide) hj7, Nat.zero_le, Nat.reduceLeDiff, Nat.reduceAdd, i1_0, rr_c3, zc9, oc9, zc10, oc10, zc11, oc11, zc12, oc12, zc13, oc13, zc15, oc15, Int32.lt_irrefl, Nat.zero_lt_one, Rt_cons, Rt_void, isB_0, isB_1, isB_b, true_and, and_true, cats_nil, cats_int, cats_ref, and_self, if_true, if_false, ite_self, le_nlt, ite_not, Rt_nil, aT_10, aN_10, in7 hj7, cl10 (show j < 10000 by omega)]
            rw [brC_10, e 10 (by omega) (by omega), cs.1]
          · have hm : ∀ k i, 29 ≤ k → brC (remF σ c x) 0 j (nI d) k i = σ k i := fun k i a => by rw [brC_ne (by omega), remF_ne (by omega) (by omega)]
            generalize brC (remF σ c x) 0 j (nI d) = σ1 at hm ⊢
            have m31 : σ1 31 0 1 = nI N := by rw [hm _ _ (by omega)]; exact l1
            have m18 : σ1 29 0 18 = nI c := by rw [hm _ _ (by omega)]; exact p5
            have m43 : σ1 43 0 = σ 43 0 := hm _ _ (by omega)
            have m35 : σ1 35 0 = σ 35 0 := hm _ _ (by omega)
            have hp1 : canB (σ1 35 0) (σ 43 0) j := by rw [m35]; exact hp
            simp only [aX8_bread_0, aX8_bread_1, aX8_bread_2, aX8_bread_5, aX8_bread_8, aX8_bread_10, aX8_bread_11, aX8_bread_12, aX8_bread_13, aX8_bread_15, aX8_bread_18, aX8_bread_21, aX8_bread_23, aX8_bread_24, aX8_bread_25, aX8_bread_26, aX8_bread_29, aX8_bread_32, aX8_bread_33, aX8_bread_34, aX8_bread_37, aX8_bread_38, aX8_bread_41, aX8_bread_43, aX8_bread_44, sp_mHouse q2 m31, sp_in, sp_isByBread (σ := σ1) hj7 (show G ≤ 7 by omega) (by rw [m43]; exact hhg) (by rw [m43]; exact hgl), sp_debtOf hj7, Nat.zero_le, Nat.reduceLeDiff, Nat.reduceAdd, i1_0, rr_c3, zc9, oc9, zc10, oc10, zc11, oc11, zc12, oc12, zc13, oc13, zc15, oc15, Int32.lt_irrefl, Nat.zero_lt_one, Rt_cons, Rt_void, isB_0, isB_1, isB_b, true_and, and_true, cats_nil, cats_int, cats_ref, and_self, if_true, if_false, ite_self, le_nlt, ite_not, Rt_nil, bI_t hH, bI_t hin, bI_t hp1, m43, hp2, not_false_eq_true]
            rw [aX8_bread_45, sp_notes p1 m18]
            have n43 : notF σ1 c 43 0 = σ 43 0 := by rw [notF_ne (by decide) (by decide), m43]
            have u4 : ∀ x, upd (σ 43 0) (64 + 5 * j) x (64 + 5 * j + 4) = σ 43 0 (64 + 5 * j + 4) := fun x => upd_ne (by omega)
            have eV : upd (upd (σ 43 0) (64 + 5 * j) (σ 43 0 (64 + 5 * j) - nI d)) (64 + 5 * j + 4) (σ 43 0 (64 + 5 * j + 4) + nI d) = brV (σ 43 0) j (nI d) := rfl
            have B1 : Rn mX8_bread 48 [.ref (ad 29 0), .int (nI j), .int (nI d)] [] [] (enc (notF σ1 c)) (fun X v => X = enc (updK (notF σ1 c) 43 0 (brW (σ 43 0) j (nI d))) ∧ v = some (.int (σ 43 0 (64 + 5 * j) - nI d))) ↔ Rn mX8_bread 80 [.ref (ad 29 0), .int (nI j), .int (nI d)] [] [] (enc (updK (notF σ1 c) 43 0 (brV (σ 43 0) j (nI d)))) (fun X v => X = enc (updK (notF σ1 c) 43 0 (brW (σ 43 0) j (nI d))) ∧ v = some (.int (σ 43 0 (64 + 5 * j) - nI d))) := by
              simp only [aX8_bread_48, aX8_bread_49, aX8_bread_52, aX8_bread_54, aX8_bread_55, aX8_bread_56, aX8_bread_57, aX8_bread_58, aX8_bread_59, aX8_bread_60, aX8_bread_61, aX8_bread_62, aX8_bread_63, aX8_bread_64, aX8_bread_67, aX8_bread_69, aX8_bread_70, aX8_bread_71, aX8_bread_72, aX8_bread_73, aX8_bread_74, aX8_bread_75, aX8_bread_76, aX8_bread_77, aX8_bread_78, aX8_bread_79, Nat.zero_le, Nat.reduceLeDiff, Nat.reduceAdd, i1_0, rr_c3, zc9, oc9, zc10, oc10, zc11, oc11, zc12, oc12, zc13, oc13, zc15, oc15, Int32.lt_irrefl, Nat.zero_lt_one, Rt_cons, Rt_void, isB_0, isB_1, isB_b, true_and, and_true, cats_nil, cats_int, cats_ref, and_self, if_true, if_false, ite_self, le_nlt, ite_not, aT_43, aN_43, cnt_43, n5, n64, nI_4, in99 (show 64 + 5 * j < 99 by omega), cl10 (show 64 + 5 * j < 10000 by omega), in99 (show 64 + 5 * j + 4 < 99 by omega), cl10 (show 64 + 5 * j + 4 < 10000 by omega), n43, upS_chain, updK_eq, updK_idem, u4, eV]
            simp only [cats_nil, Nat.zero_le, true_and, Rt_void]
            rw [B1]
            unfold brW
            by_cases q : 9 < σ 43 0 (64 + 5 * j + 4) + nI d
            · rw [if_pos q]
              simp only [aX8_bread_80, aX8_bread_81, aX8_bread_84, aX8_bread_86, aX8_bread_87, aX8_bread_88, aX8_bread_89, aX8_bread_90, aX8_bread_91, aX8_bread_92, aX8_bread_93, aX8_bread_95, aX8_bread_98, aX8_bread_99, aX8_bread_102, aX8_bread_103, aX8_bread_106, aX8_bread_107, aX8_bread_108, aX8_bread_111, sp_putsOut (k := 43) (by decide) (by decide) (by decide) hj7, sp_debtOf hj7, Nat.zero_le, Nat.reduceLeDiff, Nat.reduceAdd, i1_0, rr_c3, zc9, oc9, zc10, oc10, zc11, oc11, zc12, oc12, zc13, oc13, zc15, oc15, Int32.lt_irrefl, Nat.zero_lt_one, Rt_cons, Rt_void, isB_0, isB_1, isB_b, true_and, and_true, cats_nil, cats_int, cats_ref, and_self, if_true, if_false, ite_self, le_nlt, ite_not, Rt_nil, aT_43, aN_43, cnt_43, n5, n64, nI_4, in99 (show 64 + 5 * j + 4 < 99 by omega), cl10 (show 64 + 5 * j + 4 < 10000 by omega), updK_eq, updK_idem, brV_w, q, not_true_eq_false]
              rw [putW_ne (by omega) (by omega), brV_d]
            · rw [if_neg q]
              simp only [aX8_bread_80, aX8_bread_81, aX8_bread_84, aX8_bread_86, aX8_bread_87, aX8_bread_88, aX8_bread_89, aX8_bread_90, aX8_bread_91, aX8_bread_92, aX8_bread_93, aX8_bread_95, aX8_bread_98, aX8_bread_99, aX8_bread_102, aX8_bread_103, aX8_bread_106, aX8_bread_107, aX8_bread_108, aX8_bread_111, sp_debtOf hj7, Nat.zero_le, Nat.reduceLeDiff, Nat.reduceAdd, i1_0, rr_c3, zc9, oc9, zc10, oc10, zc11, oc11, zc12, oc12, zc13, oc13, zc15, oc15, Int32.lt_irrefl, Nat.zero_lt_one, Rt_cons, Rt_void, isB_0, isB_1, isB_b, true_and, and_true, cats_nil, cats_int, cats_ref, and_self, if_true, if_false, ite_self, le_nlt, ite_not, Rt_nil, aT_43, aN_43, cnt_43, n5, n64, nI_4, in99 (show 64 + 5 * j + 4 < 99 by omega), cl10 (show 64 + 5 * j + 4 < 10000 by omega), updK_eq, updK_idem, brV_w, q, not_false_eq_true, brV_d]
          · refine Rel_deed r1 r2 r3 r4 r5 r7 p1 p2 p6 (fun k i a b => brC_ne (by omega)) (fun k i a => by rw [brC_ne (by omega), remF_ne (by omega) (by omega)]) (by rw [brC_row, e 9 (by omega) (by omega)]) (CS_br (CS_rem r3.2.2.1) hj7 E2 E1 hd) (WFx_br r3.2.2.2 hj7 hj D2 hd hdD D1 hp.1)
      · refine ⟨σ, σ, -1000000003, ?_, ?_, hR⟩
        · simp only [aX7_bread_0, aX7_bread_1, aX7_bread_4, aX7_bread_7, aX7_bread_8, aX7_bread_11, aX7_bread_14, aX7_bread_16, aX7_bread_17, aX7_bread_18, aX7_bread_19, aX7_bread_21, aX7_bread_24, aX7_bread_27, aX7_bread_29, aX7_bread_30, aX7_bread_31, aX7_bread_34, aX7_bread_35, aX7_bread_38, aX7_bread_41, aX7_bread_42, aX7_bread_45, aX7_bread_48, aX7_bread_49, aX7_bread_50, aX7_bread_51, aX7_bread_54, aX7_bread_56, sp_cHouse hq k1, sp_isOutside, eb, Nat.zero_le, Nat.reduceLeDiff, Nat.reduceAdd, i1_0, rr_c3, zc9, oc9, zc10, oc10, zc11, oc11, zc12, oc12, zc13, oc13, zc15, oc15, Int32.lt_irrefl, Nat.zero_lt_one, Rt_cons, Rt_void, isB_0, isB_1, isB_b, true_and, and_true, cats_nil, cats_int, cats_ref, and_self, if_true, if_false, ite_self, le_nlt, ite_not, Rt_nil, bI_t hH, bI_f ho, bI_f hp]
        · simp only [aX8_bread_0, aX8_bread_1, aX8_bread_2, aX8_bread_5, aX8_bread_8, aX8_bread_10, aX8_bread_11, aX8_bread_12, aX8_bread_13, aX8_bread_15, aX8_bread_18, aX8_bread_21, aX8_bread_23, aX8_bread_24, aX8_bread_25, aX8_bread_26, aX8_bread_29, aX8_bread_32, aX8_bread_33, aX8_bread_34, aX8_bread_37, aX8_bread_38, aX8_bread_41, aX8_bread_43, sp_mHouse q2 l1, sp_in, sp_isByBread hj7 (show G ≤ 7 by omega) hhg hgl, Nat.zero_le, Nat.reduceLeDiff, Nat.reduceAdd, i1_0, rr_c3, zc9, oc9, zc10, oc10, zc11, oc11, zc12, oc12, zc13, oc13, zc15, oc15, Int32.lt_irrefl, Nat.zero_lt_one, Rt_cons, Rt_void, isB_0, isB_1, isB_b, true_and, and_true, cats_nil, cats_int, cats_ref, and_self, if_true, if_false, ite_self, le_nlt, ite_not, Rt_nil, bI_t hH, bI_t hin, bI_f hp]
  · refine ⟨σ, σ, -1000000001, ?_, ?_, hR⟩
    · simp only [aX7_bread_0, aX7_bread_1, aX7_bread_4, aX7_bread_7, aX7_bread_8, aX7_bread_11, aX7_bread_14, aX7_bread_16, sp_cHouse hq k1, Nat.zero_le, Nat.reduceLeDiff, Nat.reduceAdd, i1_0, rr_c3, zc9, oc9, zc10, oc10, zc11, oc11, zc12, oc12, zc13, oc13, zc15, oc15, Int32.lt_irrefl, Nat.zero_lt_one, Rt_cons, Rt_void, isB_0, isB_1, isB_b, true_and, and_true, cats_nil, cats_int, cats_ref, and_self, if_true, if_false, ite_self, le_nlt, ite_not, Rt_nil, bI_f hH]
    · simp only [aX8_bread_0, aX8_bread_1, aX8_bread_2, aX8_bread_5, aX8_bread_8, aX8_bread_10, sp_mHouse q2 l1, Nat.zero_le, Nat.reduceLeDiff, Nat.reduceAdd, i1_0, rr_c3, zc9, oc9, zc10, oc10, zc11, oc11, zc12, oc12, zc13, oc13, zc15, oc15, Int32.lt_irrefl, Nat.zero_lt_one, Rt_cons, Rt_void, isB_0, isB_1, isB_b, true_and, and_true, cats_nil, cats_int, cats_ref, and_self, if_true, if_false, ite_self, le_nlt, ite_not, Rt_nil, bI_f hH]
theorem api_mostBread (h : Int32) : Sim Rel mX7_mostBread mX8_mostBread [.int h] := by
  refine Sim_of (Lc := [.ref (ad 0 0), .int h]) (Lm := [.ref (ad 29 0), .int h]) rfl rfl (fun σ hR => ?_)
  obtain ⟨r1, r2, C, N, G, r3, r4, r5, r6, r7⟩ := id hR
  obtain ⟨q1, q2, q3, q4, ⟨l0, l1, l2⟩, ⟨k0, k1, k2⟩, q5, q6, q7⟩ := id r3.1
  have hq := rr_lt (σ 9 0 0)
  by_cases hH : isH N h
  · obtain ⟨j, hj, rfl⟩ := isH_of q2 hH
    have hj7 : j < 7 := by omega
    have cs := r3.2.2.1.2.2.2.2.2 j hj7
    have hl : Wl G N (σ 43 0) j := r3.2.2.2.2.2.2.1 j hj7
    have hgl := hl.2.2.1
    have hhg : σ 43 0 (64 + 5 * j + 1) = 0 → ¬ σ 43 0 (64 + 5 * j + 2) = -1 := fun z => (CS_held r3.2.2.1 hj7 z).2
    have eb := fun fs Q => sp_eatsBread (σ := σ) (fs := fs) (Q := Q) (kd := σ 35 0) (show 0 < 34 by decide) hj7 (show G ≤ 7 by omega) r3.2.2.1 hgl (fun g hg => (q7 g hg).1)
    by_cases hp : canB (σ 35 0) (σ 43 0) j
    · refine ⟨σ, σ, if σ 43 0 (64 + 5 * j) < 9 - σ 43 0 (64 + 5 * j + 4) then σ 43 0 (64 + 5 * j) else 9 - σ 43 0 (64 + 5 * j + 4), ?_, ?_, hR⟩
      · simp only [aX7_mostBread_0, aX7_mostBread_1, aX7_mostBread_4, aX7_mostBread_7, aX7_mostBread_8, aX7_mostBread_11, aX7_mostBread_14, aX7_mostBread_16, aX7_mostBread_17, aX7_mostBread_18, aX7_mostBread_21, aX7_mostBread_22, aX7_mostBread_25, aX7_mostBread_28, aX7_mostBread_29, aX7_mostBread_30, aX7_mostBread_31, aX7_mostBread_34, aX7_mostBread_37, aX7_mostBread_38, aX7_mostBread_39, aX7_mostBread_41, aX7_mostBread_42, aX7_mostBread_45, aX7_mostBread_48, aX7_mostBread_49, aX7_mostBread_50, aX7_mostBread_51, aX7_mostBread_54, sp_cHouse hq k1, eb, Nat.zero_le, Nat.reduceLeDiff, Nat.reduceAdd, i1_0, rr_c3, zc9, oc9, zc10, oc10, zc11, oc11, zc12, oc12, zc13, oc13, zc15, oc15, Int32.lt_irrefl, Nat.zero_lt_one, Rt_cons, Rt_void, isB_0, isB_1, isB_b, true_and, and_true, cats_nil, cats_int, cats_ref, and_self, if_true, if_false, ite_self, le_nlt, ite_not, Rt_nil, bI_t hH, bI_t hp, aT_10, aN_10, aT_13, aN_13, in7 hj7, cl10 (show j < 10000 by omega), cs.1, cs.2.2.2.1]
        rw [min_eq]
      · simp only [aX8_mostBread_0, aX8_mostBread_1, aX8_mostBread_2, aX8_mostBread_5, aX8_mostBread_8, aX8_mostBread_10, aX8_mostBread_11, aX8_mostBread_12, aX8_mostBread_13, aX8_mostBread_16, aX8_mostBread_19, aX8_mostBread_20, aX8_mostBread_21, aX8_mostBread_24, aX8_mostBread_26, aX8_mostBread_27, aX8_mostBread_30, aX8_mostBread_32, aX8_mostBread_33, aX8_mostBread_34, aX8_mostBread_35, aX8_mostBread_36, aX8_mostBread_37, aX8_mostBread_38, aX8_mostBread_39, aX8_mostBread_40, aX8_mostBread_43, aX8_mostBread_46, aX8_mostBread_47, sp_mHouse q2 l1, sp_isByBread hj7 (show G ≤ 7 by omega) hhg hgl, sp_debtOf hj7, sp_lesser, Nat.zero_le, Nat.reduceLeDiff, Nat.reduceAdd, i1_0, rr_c3, zc9, oc9, zc10, oc10, zc11, oc11, zc12, oc12, zc13, oc13, zc15, oc15, Int32.lt_irrefl, Nat.zero_lt_one, Rt_cons, Rt_void, isB_0, isB_1, isB_b, true_and, and_true, cats_nil, cats_int, cats_ref, and_self, if_true, if_false, ite_self, le_nlt, ite_not, Rt_nil, bI_t hH, bI_t hp, aT_43, aN_43, cnt_43, n5, n64, nI_4, in99 (show 64 + 5 * j + 4 < 99 by omega), cl10 (show 64 + 5 * j + 4 < 10000 by omega)]
    · refine ⟨σ, σ, -1, ?_, ?_, hR⟩
      · simp only [aX7_mostBread_0, aX7_mostBread_1, aX7_mostBread_4, aX7_mostBread_7, aX7_mostBread_8, aX7_mostBread_11, aX7_mostBread_14, aX7_mostBread_16, aX7_mostBread_17, aX7_mostBread_18, aX7_mostBread_21, aX7_mostBread_22, aX7_mostBread_25, aX7_mostBread_28, aX7_mostBread_29, sp_cHouse hq k1, eb, Nat.zero_le, Nat.reduceLeDiff, Nat.reduceAdd, i1_0, rr_c3, zc9, oc9, zc10, oc10, zc11, oc11, zc12, oc12, zc13, oc13, zc15, oc15, Int32.lt_irrefl, Nat.zero_lt_one, Rt_cons, Rt_void, isB_0, isB_1, isB_b, true_and, and_true, cats_nil, cats_int, cats_ref, and_self, if_true, if_false, ite_self, le_nlt, ite_not, Rt_nil, bI_t hH, bI_f hp]
      · simp only [aX8_mostBread_0, aX8_mostBread_1, aX8_mostBread_2, aX8_mostBread_5, aX8_mostBread_8, aX8_mostBread_10, aX8_mostBread_11, aX8_mostBread_12, aX8_mostBread_13, aX8_mostBread_16, aX8_mostBread_19, aX8_mostBread_20, aX8_mostBread_21, aX8_mostBread_24, aX8_mostBread_26, aX8_mostBread_27, aX8_mostBread_30, aX8_mostBread_32, aX8_mostBread_33, aX8_mostBread_34, aX8_mostBread_35, aX8_mostBread_36, aX8_mostBread_37, aX8_mostBread_38, aX8_mostBread_39, aX8_mostBread_40, aX8_mostBread_43, aX8_mostBread_46, aX8_mostBread_47, sp_mHouse q2 l1, sp_isByBread hj7 (show G ≤ 7 by omega) hhg hgl, Nat.zero_le, Nat.reduceLeDiff, Nat.reduceAdd, i1_0, rr_c3, zc9, oc9, zc10, oc10, zc11, oc11, zc12, oc12, zc13, oc13, zc15, oc15, Int32.lt_irrefl, Nat.zero_lt_one, Rt_cons, Rt_void, isB_0, isB_1, isB_b, true_and, and_true, cats_nil, cats_int, cats_ref, and_self, if_true, if_false, ite_self, le_nlt, ite_not, Rt_nil, bI_t hH, bI_f hp]
  · refine ⟨σ, σ, -1000000001, ?_, ?_, hR⟩
    · simp only [aX7_mostBread_0, aX7_mostBread_1, aX7_mostBread_4, aX7_mostBread_7, aX7_mostBread_8, aX7_mostBread_11, aX7_mostBread_14, aX7_mostBread_16, sp_cHouse hq k1, Nat.zero_le, Nat.reduceLeDiff, Nat.reduceAdd, i1_0, rr_c3, zc9, oc9, zc10, oc10, zc11, oc11, zc12, oc12, zc13, oc13, zc15, oc15, Int32.lt_irrefl, Nat.zero_lt_one, Rt_cons, Rt_void, isB_0, isB_1, isB_b, true_and, and_true, cats_nil, cats_int, cats_ref, and_self, if_true, if_false, ite_self, le_nlt, ite_not, Rt_nil, bI_f hH]
    · simp only [aX8_mostBread_0, aX8_mostBread_1, aX8_mostBread_2, aX8_mostBread_5, aX8_mostBread_8, aX8_mostBread_10, sp_mHouse q2 l1, Nat.zero_le, Nat.reduceLeDiff, Nat.reduceAdd, i1_0, rr_c3, zc9, oc9, zc10, oc10, zc11, oc11, zc12, oc12, zc13, oc13, zc15, oc15, Int32.lt_irrefl, Nat.zero_lt_one, Rt_cons, Rt_void, isB_0, isB_1, isB_b, true_and, and_true, cats_nil, cats_int, cats_ref, and_self, if_true, if_false, ite_self, le_nlt, ite_not, Rt_nil, bI_f hH]
end S70
