-- clear
def us (x y : Int32) : Int32 := (x.toUInt32 >>> (y.toUInt32 &&& Int32.toUInt32 31)).toInt32
def bc1 (x : Int32) : Int32 := x - (us x 1 &&& 1431655765)
def bc2 (x : Int32) : Int32 := (x &&& 858993459) + (us x 2 &&& 858993459)
def bc3 (x : Int32) : Int32 := x + us x 4 &&& 252645135
def bc4 (x : Int32) : Int32 := x + us x 8
def bc5 (x : Int32) : Int32 := x + us x 16
set_option maxRecDepth 100000 in
theorem bc7 : ∀ a, a < 128 → (bc5 (bc4 (bc3 (bc2 (bc1 (nI a)))))) &&& 63 = nI (pop a 7) := by decide +kernel
theorem sh1' : ∀ h, h < 8 → (1 : Int32) <<< (nI h &&& 31) = nI (2 ^ h) := by decide
/-- of a set: are all held with debt; the sum of what they owe -/
def okL (w : Nat → Int32) (s : Nat) : Nat → Bool
  | 0 => true
  | k + 1 => okL w s k && (!s.testBit k || (decide (w (64 + 5 * k + 1) = 0) && decide (0 < w (64 + 5 * k))))
theorem okL_s (w : Nat → Int32) (s k : Nat) : okL w s (k + 1) = (okL w s k && (!s.testBit k || (decide (w (64 + 5 * k + 1) = 0) && decide (0 < w (64 + 5 * k))))) := rfl
def suL (w : Nat → Int32) (s : Nat) : Nat → Int32
  | 0 => 0
  | k + 1 => suL w s k + (if s.testBit k = true then w (64 + 5 * k) else 0)
theorem suL_s (w : Nat → Int32) (s k : Nat) : suL w s (k + 1) = suL w s k + (if s.testBit k = true then w (64 + 5 * k) else 0) := rfl
theorem okL_f {w : Nat → Int32} {s k : Nat} (h : okL w s k = false) : ∀ {m : Nat}, okL w s (k + m) = false := by
  intro m
  induction m with
  | zero => exact h
  | succ m ih => rw [← Nat.add_assoc, okL_s, ih]; rfl
abbrev clP (w : Nat → Int32) (N s : Nat) : Prop := okL w s N = true ∧ ¬ w 1 < suL w s N
def clB (w : Nat → Int32) (N : Nat) : Nat → Nat
  | 0 => 0
  | k + 1 => if pop (clB w N k) 7 < pop k 7 ∧ clP w N k then k else clB w N k
theorem clB_s (w : Nat → Int32) (N k : Nat) : clB w N (k + 1) = if pop (clB w N k) 7 < pop k 7 ∧ clP w N k then k else clB w N k := rfl
theorem clB_lt {w : Nat → Int32} {N : Nat} : ∀ {k : Nat}, k ≤ 128 → clB w N k < 128 := by
  intro k
  induction k with
  | zero => intro _; exact (by decide : 0 < 128)
  | succ k ih => intro hk; rw [clB_s]; split
                 · omega
                 · exact ih (by omega)
section S74
variable {σ : Mem} {fs : List Fm} {M : List va_E} {Q : List va_E → Option Value → Prop}
theorem sp_bitCount {a : Nat} (ha : a < 128) : Rn mJ6_bitCount_0f7a4 0 [.int (nI a)] [] fs M Q ↔ Rt fs M (some (.int (nI (pop a 7)))) Q := by
  rw [← bc7 a ha]
  have e1 : nI a - ((nI a).toUInt32 >>> ((1 : Int32).toUInt32 &&& Int32.toUInt32 31)).toInt32 &&& 1431655765 = nI a - ((nI a).toUInt32 >>> ((1 : Int32).toUInt32 &&& Int32.toUInt32 31)).toInt32 &&& 1431655765 := rfl
  simp only [aJ6_bitCount_0f7a4_0, aJ6_bitCount_0f7a4_1, aJ6_bitCount_0f7a4_2, aJ6_bitCount_0f7a4_3, aJ6_bitCount_0f7a4_4, aJ6_bitCount_0f7a4_7, aJ6_bitCount_0f7a4_8, aJ6_bitCount_0f7a4_9, aJ6_bitCount_0f7a4_10, aJ6_bitCount_0f7a4_11, aJ6_bitCount_0f7a4_14, aJ6_bitCount_0f7a4_15, aJ6_bitCount_0f7a4_16, aJ6_bitCount_0f7a4_17, aJ6_bitCount_0f7a4_18, aJ6_bitCount_0f7a4_21, aJ6_bitCount_0f7a4_22, aJ6_bitCount_0f7a4_23, aJ6_bitCount_0f7a4_24, aJ6_bitCount_0f7a4_25, aJ6_bitCount_0f7a4_26, aJ6_bitCount_0f7a4_27, aJ6_bitCount_0f7a4_28, aJ6_bitCount_0f7a4_29, aJ6_bitCount_0f7a4_32, aJ6_bitCount_0f7a4_33, aJ6_bitCount_0f7a4_34, aJ6_bitCount_0f7a4_35, aJ6_bitCount_0f7a4_36, aJ6_bitCount_0f7a4_38, aJ6_bitCount_0f7a4_39, aJ6_bitCount_0f7a4_40, aJ6_bitCount_0f7a4_41, aJ6_bitCount_0f7a4_42, aJ6_bitCount_0f7a4_43, aJ6_bitCount_0f7a4_45, aJ6_bitCount_0f7a4_46, aJ6_bitCount_0f7a4_47, aJ6_bitCount_0f7a4_48, aJ6_bitCount_0f7a4_49, aJ6_bitCount_0f7a4_51, aJ6_bitCount_0f7a4_52, Nat.zero_le, Nat.reduceLeDiff, Nat.reduceAdd, i1_0, rr_c3, zc9, oc9, zc10, oc10, zc11, oc11, zc12, oc12, zc13, oc13, zc15, oc15, Int32.lt_irrefl, Nat.zero_lt_one, Rt_cons, Rt_void, isB_0, isB_1, isB_b, true_and, and_true, cats_nil, cats_int, cats_ref, and_self, if_true, if_false, ite_self, le_nlt, ite_not]
  rfl
theorem lp_canClear {i N s : Nat} {w : Nat → Int32} (hi : i < 34) (hN : N ≤ 7) (hs : s < 128) (e : σ 3 (rr (σ 9 i 0)) 1 = nI N) (h : CS σ i w) (hd : ∀ k, k < 7 → ∃ d : Nat, d ≤ 9999 ∧ w (64 + 5 * k) = nI d) : ∀ m k, k + m = N → okL w s k = true → (Rn mX5_canClear 4 [.ref (ad 9 i), .int (nI s), .int (suL w s k), .int (nI k)] [] fs (enc σ) Q ↔ Rt fs (enc σ) (some (.int (bI (clP w N s)))) Q) := by
  intro m
  have c9 : i < cnt 9 := hi
  have c10 : i < cnt 10 := hi
  have c11 : i < cnt 11 := hi
  have c12 : i < cnt 12 := hi
  have c13 : i < cnt 13 := hi
  have c15 : i < cnt 15 := hi
  induction m with
  | zero =>
    intro k hk hok
    obtain rfl : k = N := by omega
    have e2 : σ 9 i 2 = w 1 := h.2.1
    by_cases q : w 1 < suL w s k
    · rw [bI_f (show ¬ clP w k s from fun z => z.2 q)]
      simp only [aX5_canClear_4, aX5_canClear_5, aX5_canClear_6, aX5_canClear_9, aX5_canClear_12, aX5_canClear_57, aX5_canClear_58, aX5_canClear_59, aX5_canClear_62, aX5_canClear_65, aX5_canClear_66, aX5_canClear_69, aX5_canClear_70, Nat.zero_le, Nat.reduceLeDiff, Nat.reduceAdd, i1_0, rr_c3, zc9, oc9, zc10, oc10, zc11, oc11, zc12, oc12, zc13, oc13, zc15, oc15, Int32.lt_irrefl, Nat.zero_lt_one, Rt_cons, Rt_void, isB_0, isB_1, isB_b, true_and, and_true, cats_nil, cats_int, cats_ref, and_self, if_true, if_false, ite_self, le_nlt, ite_not, c9, c10, c11, c12, c13, c15, aT_10, aT_11, aT_12, aT_13, aT_15, aN_10, aN_11, aN_12, aN_13, aN_15, rr_lt, e, e2, q]
    · rw [bI_t (show clP w k s from ⟨hok, q⟩)]
      simp only [aX5_canClear_4, aX5_canClear_5, aX5_canClear_6, aX5_canClear_9, aX5_canClear_12, aX5_canClear_57, aX5_canClear_58, aX5_canClear_59, aX5_canClear_62, aX5_canClear_65, aX5_canClear_66, aX5_canClear_69, aX5_canClear_70, Nat.zero_le, Nat.reduceLeDiff, Nat.reduceAdd, i1_0, rr_c3, zc9, oc9, zc10, oc10, zc11, oc11, zc12, oc12, zc13, oc13, zc15, oc15, Int32.lt_irrefl, Nat.zero_lt_one, Rt_cons, Rt_void, isB_0, isB_1, isB_b, true_and, and_true, cats_nil, cats_int, cats_ref, and_self, if_true, if_false, ite_self, le_nlt, ite_not, c9, c10, c11, c12, c13, c15, aT_10, aT_11, aT_12, aT_13, aT_15, aN_10, aN_11, aN_12, aN_13, aN_15, rr_lt, e, e2, q]
  | succ m ih =>
    intro k hk hok
    have l : nI k < nI N := nI_lt (by omega) (by omega)
    have ck := h.2.2.2.2.2 k (by omega)
    have ih' := ih (k + 1) (by omega)
    rw [suL_s, okL_s, hok] at ih'
    rw [aX5_canClear_4]
    have n01 : ¬ (0 : Int32) = 1 := by decide
    by_cases q : s.testBit k = true
    · by_cases q2 : w (64 + 5 * k + 1) = 0
      · obtain ⟨d, d1, d2⟩ := hd k (by omega)
        by_cases q3 : 0 < w (64 + 5 * k)
        · have q3' : ¬ w (64 + 5 * k) = 0 := fun z => by rw [z] at q3; exact absurd q3 (by decide)
          rw [if_pos q] at ih'
          simp only [aX5_canClear_5, aX5_canClear_6, aX5_canClear_9, aX5_canClear_12, aX5_canClear_15, aX5_canClear_16, aX5_canClear_17, aX5_canClear_20, aX5_canClear_23, aX5_canClear_24, aX5_canClear_25, aX5_canClear_28, aX5_canClear_31, aX5_canClear_32, aX5_canClear_35, aX5_canClear_36, aX5_canClear_37, aX5_canClear_40, aX5_canClear_41, aX5_canClear_42, aX5_canClear_43, aX5_canClear_44, aX5_canClear_47, aX5_canClear_48, aX5_canClear_49, aX5_canClear_50, aX5_canClear_51, aX5_canClear_54, sp_in7 hs (show k < 7 by omega), sp_held hi (show k < 7 by omega) (w := w) ck, Nat.zero_le, Nat.reduceLeDiff, Nat.reduceAdd, i1_0, rr_c3, zc9, oc9, zc10, oc10, zc11, oc11, zc12, oc12, zc13, oc13, zc15, oc15, Int32.lt_irrefl, Nat.zero_lt_one, Rt_cons, Rt_void, isB_0, isB_1, isB_b, true_and, and_true, cats_nil, cats_int, cats_ref, and_self, if_true, if_false, ite_self, le_nlt, ite_not, c9, c10, c11, c12, c13, c15, aT_10, aT_11, aT_12, aT_13, aT_15, aN_10, aN_11, aN_12, aN_13, aN_15, rr_lt, e, l, bI_t q, bI_t q2, in7 (show k < 7 by omega), cl10 (show k < 10000 by omega), ck.1, q3', not_true_eq_false, not_false_eq_true, nI_1]
          exact ih' (by simp [q2, q3])
        · have q3' : w (64 + 5 * k) = 0 := by
            rw [d2] at q3 ⊢
            have : ¬ 0 < d := fun z => q3 (nI_lt (a := 0) z (by omega))
            obtain rfl : d = 0 := by omega
            rfl
          have hf : okL w s (k + 1) = false := by rw [okL_s, hok]; simp [q, q2, q3]
          have hf' := okL_f hf (m := m)
          rw [show k + 1 + m = N by omega] at hf'
          rw [bI_f (show ¬ clP w N s from fun z => by have y := z.1; rw [hf'] at y; exact Bool.noConfusion y)]
          simp only [aX5_canClear_5, aX5_canClear_6, aX5_canClear_9, aX5_canClear_12, aX5_canClear_15, aX5_canClear_16, aX5_canClear_17, aX5_canClear_20, aX5_canClear_23, aX5_canClear_24, aX5_canClear_25, aX5_canClear_28, aX5_canClear_31, aX5_canClear_32, aX5_canClear_35, aX5_canClear_36, aX5_canClear_37, aX5_canClear_40, aX5_canClear_41, sp_in7 hs (show k < 7 by omega), sp_held hi (show k < 7 by omega) (w := w) ck, Nat.zero_le, Nat.reduceLeDiff, Nat.reduceAdd, i1_0, rr_c3, zc9, oc9, zc10, oc10, zc11, oc11, zc12, oc12, zc13, oc13, zc15, oc15, Int32.lt_irrefl, Nat.zero_lt_one, Rt_cons, Rt_void, isB_0, isB_1, isB_b, true_and, and_true, cats_nil, cats_int, cats_ref, and_self, if_true, if_false, ite_self, le_nlt, ite_not, c9, c10, c11, c12, c13, c15, aT_10, aT_11, aT_12, aT_13, aT_15, aN_10, aN_11, aN_12, aN_13, aN_15, rr_lt, e, l, bI_t q, bI_t q2, in7 (show k < 7 by omega), cl10 (show k < 10000 by omega), ck.1, q3', not_true_eq_false]
      · have hf : okL w s (k + 1) = false := by rw [okL_s, hok]; simp [q, q2]
        have hf' := okL_f hf (m := m)
        rw [show k + 1 + m = N by omega] at hf'
        rw [bI_f (show ¬ clP w N s from fun z => by have y := z.1; rw [hf'] at y; exact Bool.noConfusion y)]
        simp only [aX5_canClear_5, aX5_canClear_6, aX5_canClear_9, aX5_canClear_12, aX5_canClear_15, aX5_canClear_16, aX5_canClear_17, aX5_canClear_20, aX5_canClear_23, aX5_canClear_24, aX5_canClear_25, aX5_canClear_28, aX5_canClear_31, aX5_canClear_32, aX5_canClear_35, aX5_canClear_36, aX5_canClear_37, aX5_canClear_40, aX5_canClear_41, sp_in7 hs (show k < 7 by omega), sp_held hi (show k < 7 by omega) (w := w) ck, Nat.zero_le, Nat.reduceLeDiff, Nat.reduceAdd, i1_0, rr_c3, zc9, oc9, zc10, oc10, zc11, oc11, zc12, oc12, zc13, oc13, zc15, oc15, Int32.lt_irrefl, Nat.zero_lt_one, Rt_cons, Rt_void, isB_0, isB_1, isB_b, true_and, and_true, cats_nil, cats_int, cats_ref, and_self, if_true, if_false, ite_self, le_nlt, ite_not, c9, c10, c11, c12, c13, c15, aT_10, aT_11, aT_12, aT_13, aT_15, aN_10, aN_11, aN_12, aN_13, aN_15, rr_lt, e, l, bI_t q, bI_f q2, not_true_eq_false]
    · rw [if_neg q, Int32.add_zero] at ih'
      simp only [aX5_canClear_5, aX5_canClear_6, aX5_canClear_9, aX5_canClear_12, aX5_canClear_15, aX5_canClear_16, aX5_canClear_17, aX5_canClear_20, aX5_canClear_23, aX5_canClear_24, aX5_canClear_25, aX5_canClear_28, aX5_canClear_31, aX5_canClear_32, aX5_canClear_35, aX5_canClear_36, aX5_canClear_37, aX5_canClear_40, aX5_canClear_41, aX5_canClear_42, aX5_canClear_43, aX5_canClear_44, aX5_canClear_47, aX5_canClear_48, aX5_canClear_49, aX5_canClear_50, aX5_canClear_51, aX5_canClear_54, sp_in7 hs (show k < 7 by omega), Nat.zero_le, Nat.reduceLeDiff, Nat.reduceAdd, i1_0, rr_c3, zc9, oc9, zc10, oc10, zc11, oc11, zc12, oc12, zc13, oc13, zc15, oc15, Int32.lt_irrefl, Nat.zero_lt_one, Rt_cons, Rt_void, isB_0, isB_1, isB_b, true_and, and_true, cats_nil, cats_int, cats_ref, and_self, if_true, if_false, ite_self, le_nlt, ite_not, c9, c10, c11, c12, c13, c15, aT_10, aT_11, aT_12, aT_13, aT_15, aN_10, aN_11, aN_12, aN_13, aN_15, rr_lt, e, l, bI_f q, n01, not_false_eq_true, nI_1]
      exact ih' (by simp [q])
theorem sp_canClear {i N s : Nat} {w : Nat → Int32} (hi : i < 34) (hN : N ≤ 7) (hs : s < 128) (e : σ 3 (rr (σ 9 i 0)) 1 = nI N) (h : CS σ i w) (hd : ∀ k, k < 7 → ∃ d : Nat, d ≤ 9999 ∧ w (64 + 5 * k) = nI d) : Rn mX5_canClear 0 [.ref (ad 9 i), .int (nI s), .null, .null] [] fs (enc σ) Q ↔ Rt fs (enc σ) (some (.int (bI (clP w N s)))) Q := by
  have := lp_canClear (fs := fs) (Q := Q) hi hN hs e h hd N 0 (by omega) rfl
  have e1 : nI 0 = 0 := rfl
  have e0 : suL w s 0 = 0 := rfl
  rw [e0, e1] at this
  simp only [aX5_canClear_0, aX5_canClear_1, aX5_canClear_2, aX5_canClear_3, Nat.zero_le, Nat.reduceLeDiff, Nat.reduceAdd, i1_0, rr_c3, zc9, oc9, zc10, oc10, zc11, oc11, zc12, oc12, zc13, oc13, zc15, oc15, Int32.lt_irrefl, Nat.zero_lt_one, Rt_cons, Rt_void, isB_0, isB_1, isB_b, true_and, and_true, cats_nil, cats_int, cats_ref, and_self, if_true, if_false, ite_self, le_nlt, ite_not]
  exact this
theorem lp_cclear {N : Nat} {x : Int32} {w : Nat → Int32} (hN : N ≤ 7) (e : σ 3 (rr (σ 9 0 0)) 1 = nI N) (h : CS σ 0 w) (hd : ∀ k, k < 7 → ∃ d : Nat, d ≤ 9999 ∧ w (64 + 5 * k) = nI d) : ∀ m k, k + m = 2 ^ N → (Rn mX7_clear 30 [.ref (ad 0 0), .int x, .int (nI (clB w N k)), .int (nI (2 ^ N)), .int (nI k)] [] fs (enc σ) Q ↔ Rt fs (enc σ) (some (.int (if x = 0 then nI (pop (clB w N (2 ^ N)) 7) else nI (clB w N (2 ^ N))))) Q) := by
  intro m
  have hp : 2 ^ N ≤ 128 := Nat.pow_le_pow_right (n := 2) (by omega) hN
  induction m with
  | zero =>
    intro k hk
    have hk' : k = 2 ^ N := by omega
    rw [← hk'] at hp ⊢
    have hb := clB_lt (w := w) (N := N) hp
    by_cases q : x = 0
    · rw [if_pos q]
      simp only [aX7_clear_30, aX7_clear_32, aX7_clear_33, aX7_clear_69, aX7_clear_70, aX7_clear_73, aX7_clear_74, aX7_clear_77, aX7_clear_80, aX7_clear_81, sp_bitCount hb, Nat.zero_le, Nat.reduceLeDiff, Nat.reduceAdd, i1_0, rr_c3, zc9, oc9, zc10, oc10, zc11, oc11, zc12, oc12, zc13, oc13, zc15, oc15, Int32.lt_irrefl, Nat.zero_lt_one, Rt_cons, Rt_void, isB_0, isB_1, isB_b, true_and, and_true, cats_nil, cats_int, cats_ref, and_self, if_true, if_false, ite_self, le_nlt, ite_not, q, not_true_eq_false]
    · rw [if_neg q]
      simp only [aX7_clear_30, aX7_clear_32, aX7_clear_33, aX7_clear_69, aX7_clear_70, aX7_clear_73, aX7_clear_74, aX7_clear_77, aX7_clear_80, aX7_clear_81, Nat.zero_le, Nat.reduceLeDiff, Nat.reduceAdd, i1_0, rr_c3, zc9, oc9, zc10, oc10, zc11, oc11, zc12, oc12, zc13, oc13, zc15, oc15, Int32.lt_irrefl, Nat.zero_lt_one, Rt_cons, Rt_void, isB_0, isB_1, isB_b, true_and, and_true, cats_nil, cats_int, cats_ref, and_self, if_true, if_false, ite_self, le_nlt, ite_not, q, not_false_eq_true]
  | succ m ih =>
    intro k hk
    have l : nI k < nI (2 ^ N) := nI_lt (by omega) (by omega)
    have hb := clB_lt (w := w) (N := N) (show k ≤ 128 by omega)
    have hk1 : k < 128 := by omega
    have ih' := ih (k + 1) (by omega)
    have p1 := pop_le k 7
    have p2 := pop_le (clB w N k) 7
    have lt := nI_ltI (a := pop (clB w N k) 7) (b := pop k 7) (by omega) (by omega)
    rw [clB_s] at ih'
    rw [aX7_clear_30]
    by_cases q : pop (clB w N k) 7 < pop k 7
    · by_cases q2 : clP w N k
      · rw [if_pos ⟨q, q2⟩] at ih'
        simp only [aX7_clear_32, aX7_clear_33, aX7_clear_36, aX7_clear_38, aX7_clear_41, aX7_clear_42, aX7_clear_45, aX7_clear_48, aX7_clear_49, aX7_clear_52, aX7_clear_54, aX7_clear_57, aX7_clear_60, aX7_clear_62, aX7_clear_63, aX7_clear_66, sp_bitCount hb, sp_bitCount hk1, sp_canClear (show 0 < 34 by decide) hN hk1 e h hd, Nat.zero_le, Nat.reduceLeDiff, Nat.reduceAdd, i1_0, rr_c3, zc9, oc9, zc10, oc10, zc11, oc11, zc12, oc12, zc13, oc13, zc15, oc15, Int32.lt_irrefl, Nat.zero_lt_one, Rt_cons, Rt_void, isB_0, isB_1, isB_b, true_and, and_true, cats_nil, cats_int, cats_ref, and_self, if_true, if_false, ite_self, le_nlt, ite_not, l, lt.mpr q, not_true_eq_false, bI_t q2, nI_1]
        exact ih'
      · rw [if_neg (fun z => q2 z.2)] at ih'
        simp only [aX7_clear_32, aX7_clear_33, aX7_clear_36, aX7_clear_38, aX7_clear_41, aX7_clear_42, aX7_clear_45, aX7_clear_48, aX7_clear_49, aX7_clear_52, aX7_clear_54, aX7_clear_57, aX7_clear_60, aX7_clear_62, aX7_clear_63, aX7_clear_66, sp_bitCount hb, sp_bitCount hk1, sp_canClear (show 0 < 34 by decide) hN hk1 e h hd, Nat.zero_le, Nat.reduceLeDiff, Nat.reduceAdd, i1_0, rr_c3, zc9, oc9, zc10, oc10, zc11, oc11, zc12, oc12, zc13, oc13, zc15, oc15, Int32.lt_irrefl, Nat.zero_lt_one, Rt_cons, Rt_void, isB_0, isB_1, isB_b, true_and, and_true, cats_nil, cats_int, cats_ref, and_self, if_true, if_false, ite_self, le_nlt, ite_not, l, lt.mpr q, not_true_eq_false, bI_f q2, nI_1]
        exact ih'
    · have q' : ¬ nI (pop (clB w N k) 7) < nI (pop k 7) := fun z => q (lt.mp z)
      rw [if_neg (fun z => q z.1)] at ih'
      simp only [aX7_clear_32, aX7_clear_33, aX7_clear_36, aX7_clear_38, aX7_clear_41, aX7_clear_42, aX7_clear_45, aX7_clear_48, aX7_clear_49, aX7_clear_52, aX7_clear_54, aX7_clear_57, aX7_clear_60, aX7_clear_62, aX7_clear_63, aX7_clear_66, sp_bitCount hb, sp_bitCount hk1, Nat.zero_le, Nat.reduceLeDiff, Nat.reduceAdd, i1_0, rr_c3, zc9, oc9, zc10, oc10, zc11, oc11, zc12, oc12, zc13, oc13, zc15, oc15, Int32.lt_irrefl, Nat.zero_lt_one, Rt_cons, Rt_void, isB_0, isB_1, isB_b, true_and, and_true, cats_nil, cats_int, cats_ref, and_self, if_true, if_false, ite_self, le_nlt, ite_not, l, q', not_false_eq_true, nI_1]
      exact ih'
theorem lp_mcl {N s : Nat} {x bb : Int32} {c : Prop} [Decidable c] (hN : N ≤ 7) (hs : s < 128) (e : σ 31 0 1 = nI N) : ∀ m k, k + m = N → (Rn mX8_clear 52 [.ref (ad 29 0), .int x, .int bb, .int (nI s), .int (suL (σ 43 0) s k), .int (bI (c ∧ okL (σ 43 0) s k = true)), .int (nI k)] [] fs (enc σ) Q ↔ Rn mX8_clear 132 [.ref (ad 29 0), .int x, .int bb, .int (nI s), .int (suL (σ 43 0) s N), .int (bI (c ∧ okL (σ 43 0) s N = true)), .int (nI N)] [] fs (enc σ) Q) := by
  intro m
  induction m with
  | zero =>
    intro k hk
    obtain rfl : k = N := by omega
    simp only [aX8_clear_52, aX8_clear_54, aX8_clear_55, aX8_clear_58, aX8_clear_59, aX8_clear_60, Nat.zero_le, Nat.reduceLeDiff, Nat.reduceAdd, i1_0, rr_c3, zc9, oc9, zc10, oc10, zc11, oc11, zc12, oc12, zc13, oc13, zc15, oc15, Int32.lt_irrefl, Nat.zero_lt_one, Rt_cons, Rt_void, isB_0, isB_1, isB_b, true_and, and_true, cats_nil, cats_int, cats_ref, and_self, if_true, if_false, ite_self, le_nlt, ite_not, aT_31, aN_31, cnt_31, v3.2.1, c1, e]
  | succ m ih =>
    intro k hk
    have l : nI k < nI N := nI_lt (by omega) (by omega)
    have hk7 : k < 7 := by omega
    have ih' := ih (k + 1) (by omega)
    rw [aX8_clear_52]
    simp only [aX8_clear_54, aX8_clear_55, aX8_clear_58, aX8_clear_59, aX8_clear_60, Nat.zero_le, Nat.reduceLeDiff, Nat.reduceAdd, i1_0, rr_c3, zc9, oc9, zc10, oc10, zc11, oc11, zc12, oc12, zc13, oc13, zc15, oc15, Int32.lt_irrefl, Nat.zero_lt_one, Rt_cons, Rt_void, isB_0, isB_1, isB_b, true_and, and_true, cats_nil, cats_int, cats_ref, and_self, if_true, if_false, ite_self, le_nlt, ite_not, aT_31, aN_31, cnt_31, v3.2.1, c1, e, l]
    have A : Rn mX8_clear 63 [.ref (ad 29 0), .int x, .int bb, .int (nI s), .int (suL (σ 43 0) s k), .int (bI (c ∧ okL (σ 43 0) s k = true)), .int (nI k)] [] fs (enc σ) Q ↔ Rn mX8_clear 102 [.ref (ad 29 0), .int x, .int bb, .int (nI s), .int (suL (σ 43 0) s k), .int (bI (c ∧ okL (σ 43 0) s (k + 1) = true)), .int (nI k)] [] fs (enc σ) Q := by
      by_cases q0 : c ∧ okL (σ 43 0) s k = true
      · rw [bI_t q0]
        by_cases q : s.testBit k = true
        · by_cases q2 : σ 43 0 (64 + 5 * k + 1) = 0
          · by_cases q3 : 0 < σ 43 0 (64 + 5 * k)
            · rw [bI_t (show c ∧ okL (σ 43 0) s (k + 1) = true from ⟨q0.1, by rw [okL_s, q0.2]; simp [q2, q3]⟩)]
              simp only [aX8_clear_63, aX8_clear_65, aX8_clear_68, aX8_clear_69, aX8_clear_71, aX8_clear_74, aX8_clear_77, aX8_clear_78, aX8_clear_80, aX8_clear_83, aX8_clear_86, aX8_clear_87, aX8_clear_89, aX8_clear_92, aX8_clear_95, aX8_clear_96, aX8_clear_99, aX8_clear_100, sp_has hs hk7, sp_mHeld hk7, sp_debtOf hk7, Nat.zero_le, Nat.reduceLeDiff, Nat.reduceAdd, i1_0, rr_c3, zc9, oc9, zc10, oc10, zc11, oc11, zc12, oc12, zc13, oc13, zc15, oc15, Int32.lt_irrefl, Nat.zero_lt_one, Rt_cons, Rt_void, isB_0, isB_1, isB_b, true_and, and_true, cats_nil, cats_int, cats_ref, and_self, if_true, if_false, ite_self, le_nlt, ite_not, bI_t q, bI_t q2, q3, not_true_eq_false]
            · rw [bI_f (show ¬ (c ∧ okL (σ 43 0) s (k + 1) = true) from fun z => by have := z.2; rw [okL_s, q0.2] at this; simp [q, q2, q3] at this)]
              simp only [aX8_clear_63, aX8_clear_65, aX8_clear_68, aX8_clear_69, aX8_clear_71, aX8_clear_74, aX8_clear_77, aX8_clear_78, aX8_clear_80, aX8_clear_83, aX8_clear_86, aX8_clear_87, aX8_clear_89, aX8_clear_92, aX8_clear_95, aX8_clear_96, aX8_clear_99, aX8_clear_100, sp_has hs hk7, sp_mHeld hk7, sp_debtOf hk7, Nat.zero_le, Nat.reduceLeDiff, Nat.reduceAdd, i1_0, rr_c3, zc9, oc9, zc10, oc10, zc11, oc11, zc12, oc12, zc13, oc13, zc15, oc15, Int32.lt_irrefl, Nat.zero_lt_one, Rt_cons, Rt_void, isB_0, isB_1, isB_b, true_and, and_true, cats_nil, cats_int, cats_ref, and_self, if_true, if_false, ite_self, le_nlt, ite_not, bI_t q, bI_t q2, q3, not_false_eq_true]
          · rw [bI_f (show ¬ (c ∧ okL (σ 43 0) s (k + 1) = true) from fun z => by have := z.2; rw [okL_s, q0.2] at this; simp [q, q2] at this)]
            simp only [aX8_clear_63, aX8_clear_65, aX8_clear_68, aX8_clear_69, aX8_clear_71, aX8_clear_74, aX8_clear_77, aX8_clear_78, aX8_clear_80, aX8_clear_83, aX8_clear_86, aX8_clear_87, aX8_clear_89, aX8_clear_92, aX8_clear_95, aX8_clear_96, aX8_clear_99, aX8_clear_100, sp_has hs hk7, sp_mHeld hk7, Nat.zero_le, Nat.reduceLeDiff, Nat.reduceAdd, i1_0, rr_c3, zc9, oc9, zc10, oc10, zc11, oc11, zc12, oc12, zc13, oc13, zc15, oc15, Int32.lt_irrefl, Nat.zero_lt_one, Rt_cons, Rt_void, isB_0, isB_1, isB_b, true_and, and_true, cats_nil, cats_int, cats_ref, and_self, if_true, if_false, ite_self, le_nlt, ite_not, bI_t q, bI_f q2]
        · rw [bI_t (show c ∧ okL (σ 43 0) s (k + 1) = true from ⟨q0.1, by rw [okL_s, q0.2]; simp [q]⟩)]
          simp only [aX8_clear_63, aX8_clear_65, aX8_clear_68, aX8_clear_69, aX8_clear_71, aX8_clear_74, aX8_clear_77, aX8_clear_78, aX8_clear_80, aX8_clear_83, aX8_clear_86, aX8_clear_87, aX8_clear_89, aX8_clear_92, aX8_clear_95, aX8_clear_96, aX8_clear_99, aX8_clear_100, sp_has hs hk7, Nat.zero_le, Nat.reduceLeDiff, Nat.reduceAdd, i1_0, rr_c3, zc9, oc9, zc10, oc10, zc11, oc11, zc12, oc12, zc13, oc13, zc15, oc15, Int32.lt_irrefl, Nat.zero_lt_one, Rt_cons, Rt_void, isB_0, isB_1, isB_b, true_and, and_true, cats_nil, cats_int, cats_ref, and_self, if_true, if_false, ite_self, le_nlt, ite_not, bI_f q]
      · rw [bI_f q0, bI_f (show ¬ (c ∧ okL (σ 43 0) s (k + 1) = true) from fun z => q0 ⟨z.1, by have := z.2; rw [okL_s, Bool.and_eq_true] at this; exact this.1⟩)]
        simp only [aX8_clear_63, aX8_clear_65, aX8_clear_99, aX8_clear_100, Nat.zero_le, Nat.reduceLeDiff, Nat.reduceAdd, i1_0, rr_c3, zc9, oc9, zc10, oc10, zc11, oc11, zc12, oc12, zc13, oc13, zc15, oc15, Int32.lt_irrefl, Nat.zero_lt_one, Rt_cons, Rt_void, isB_0, isB_1, isB_b, true_and, and_true, cats_nil, cats_int, cats_ref, and_self, if_true, if_false, ite_self, le_nlt, ite_not]
    rw [A]
    rw [suL_s] at ih'
    by_cases q : s.testBit k = true
    · rw [if_pos q] at ih'
      simp only [aX8_clear_102, aX8_clear_104, aX8_clear_105, aX8_clear_107, aX8_clear_110, aX8_clear_113, aX8_clear_114, aX8_clear_116, aX8_clear_119, aX8_clear_122, aX8_clear_123, aX8_clear_124, aX8_clear_126, aX8_clear_129, sp_has hs hk7, sp_debtOf hk7, Nat.zero_le, Nat.reduceLeDiff, Nat.reduceAdd, i1_0, rr_c3, zc9, oc9, zc10, oc10, zc11, oc11, zc12, oc12, zc13, oc13, zc15, oc15, Int32.lt_irrefl, Nat.zero_lt_one, Rt_cons, Rt_void, isB_0, isB_1, isB_b, true_and, and_true, cats_nil, cats_int, cats_ref, and_self, if_true, if_false, ite_self, le_nlt, ite_not, bI_t q, nI_1]
      exact ih'
    · rw [if_neg q] at ih'
      simp only [aX8_clear_102, aX8_clear_104, aX8_clear_105, aX8_clear_107, aX8_clear_110, aX8_clear_113, aX8_clear_114, aX8_clear_116, aX8_clear_119, aX8_clear_122, aX8_clear_123, aX8_clear_124, aX8_clear_126, aX8_clear_129, sp_has hs hk7, Nat.zero_le, Nat.reduceLeDiff, Nat.reduceAdd, i1_0, rr_c3, zc9, oc9, zc10, oc10, zc11, oc11, zc12, oc12, zc13, oc13, zc15, oc15, Int32.lt_irrefl, Nat.zero_lt_one, Rt_cons, Rt_void, isB_0, isB_1, isB_b, true_and, and_true, cats_nil, cats_int, cats_ref, and_self, if_true, if_false, ite_self, le_nlt, ite_not, bI_f q, nI_1]
      exact ih'
theorem lp_mclear {N : Nat} {x : Int32} (hN : N ≤ 7) (e : σ 31 0 1 = nI N) : ∀ m k (l4 l5 l6 : Value), k + m = 2 ^ N → (Rn mX8_clear 16 [.ref (ad 29 0), .int x, .int (nI (clB (σ 43 0) N k)), .int (nI k), l4, l5, l6] [] fs (enc σ) Q ↔ Rt fs (enc σ) (some (.int (if x = 0 then nI (pop (clB (σ 43 0) N (2 ^ N)) 7) else nI (clB (σ 43 0) N (2 ^ N))))) Q) := by
  intro m
  have hp : 2 ^ N ≤ 128 := Nat.pow_le_pow_right (n := 2) (by omega) hN
  induction m with
  | zero =>
    intro k l4 l5 l6 hk
    have hk' : k = 2 ^ N := by omega
    have hb := clB_lt (w := σ 43 0) (N := N) hp
    rw [hk']
    by_cases q : x = 0
    · rw [if_pos q]
      simp only [aX8_clear_16, aX8_clear_17, aX8_clear_18, aX8_clear_19, aX8_clear_22, aX8_clear_23, aX8_clear_24, aX8_clear_25, aX8_clear_160, aX8_clear_161, aX8_clear_164, aX8_clear_165, aX8_clear_168, aX8_clear_171, aX8_clear_172, sp_ones hb, Nat.zero_le, Nat.reduceLeDiff, Nat.reduceAdd, i1_0, rr_c3, zc9, oc9, zc10, oc10, zc11, oc11, zc12, oc12, zc13, oc13, zc15, oc15, Int32.lt_irrefl, Nat.zero_lt_one, Rt_cons, Rt_void, isB_0, isB_1, isB_b, true_and, and_true, cats_nil, cats_int, cats_ref, and_self, if_true, if_false, ite_self, le_nlt, ite_not, aT_31, aN_31, cnt_31, v3.2.1, c1, e, sh1' N (by omega), q, not_true_eq_false]
    · rw [if_neg q]
      simp only [aX8_clear_16, aX8_clear_17, aX8_clear_18, aX8_clear_19, aX8_clear_22, aX8_clear_23, aX8_clear_24, aX8_clear_25, aX8_clear_160, aX8_clear_161, aX8_clear_164, aX8_clear_165, aX8_clear_168, aX8_clear_171, aX8_clear_172, Nat.zero_le, Nat.reduceLeDiff, Nat.reduceAdd, i1_0, rr_c3, zc9, oc9, zc10, oc10, zc11, oc11, zc12, oc12, zc13, oc13, zc15, oc15, Int32.lt_irrefl, Nat.zero_lt_one, Rt_cons, Rt_void, isB_0, isB_1, isB_b, true_and, and_true, cats_nil, cats_int, cats_ref, and_self, if_true, if_false, ite_self, le_nlt, ite_not, aT_31, aN_31, cnt_31, v3.2.1, c1, e, sh1' N (by omega), q, not_false_eq_true]
  | succ m ih =>
    intro k l4 l5 l6 hk
    have l : nI k < nI (2 ^ N) := nI_lt (by omega) (by omega)
    have hb := clB_lt (w := σ 43 0) (N := N) (show k ≤ 128 by omega)
    have hk1 : k < 128 := by omega
    have p1 := pop_le k 7
    have p2 := pop_le (clB (σ 43 0) N k) 7
    have lt := nI_ltI (a := pop (clB (σ 43 0) N k) 7) (b := pop k 7) (by omega) (by omega)
    rw [aX8_clear_16]
    have in0 := lp_mcl (fs := fs) (Q := Q) (x := x) (bb := nI (clB (σ 43 0) N k)) (c := pop (clB (σ 43 0) N k) 7 < pop k 7) hN hk1 e N 0 (by omega)
    have e0 : nI 0 = 0 := rfl
    have es : suL (σ 43 0) k 0 = 0 := rfl
    rw [es, e0] at in0
    have A : Rn mX8_clear 17 [.ref (ad 29 0), .int x, .int (nI (clB (σ 43 0) N k)), .int (nI k), l4, l5, l6] [.int (nI k)] fs (enc σ) Q ↔ Rn mX8_clear 52 [.ref (ad 29 0), .int x, .int (nI (clB (σ 43 0) N k)), .int (nI k), .int 0, .int (bI (pop (clB (σ 43 0) N k) 7 < pop k 7 ∧ okL (σ 43 0) k 0 = true)), .int 0] [] fs (enc σ) Q := by
      by_cases q : pop (clB (σ 43 0) N k) 7 < pop k 7
      · rw [bI_t (show _ ∧ okL (σ 43 0) k 0 = true from ⟨q, rfl⟩)]
        simp only [aX8_clear_17, aX8_clear_18, aX8_clear_19, aX8_clear_22, aX8_clear_23, aX8_clear_24, aX8_clear_25, aX8_clear_28, aX8_clear_29, aX8_clear_31, aX8_clear_32, aX8_clear_35, aX8_clear_36, aX8_clear_39, aX8_clear_42, aX8_clear_43, aX8_clear_46, aX8_clear_47, aX8_clear_49, aX8_clear_50, sp_ones hb, sp_ones hk1, Nat.zero_le, Nat.reduceLeDiff, Nat.reduceAdd, i1_0, rr_c3, zc9, oc9, zc10, oc10, zc11, oc11, zc12, oc12, zc13, oc13, zc15, oc15, Int32.lt_irrefl, Nat.zero_lt_one, Rt_cons, Rt_void, isB_0, isB_1, isB_b, true_and, and_true, cats_nil, cats_int, cats_ref, and_self, if_true, if_false, ite_self, le_nlt, ite_not, aT_31, aN_31, cnt_31, v3.2.1, c1, e, sh1' N (by omega), l, lt.mpr q, not_true_eq_false]
      · have q' : ¬ nI (pop (clB (σ 43 0) N k) 7) < nI (pop k 7) := fun z => q (lt.mp z)
        rw [bI_f (show ¬ (_ ∧ okL (σ 43 0) k 0 = true) from fun z => q z.1)]
        simp only [aX8_clear_17, aX8_clear_18, aX8_clear_19, aX8_clear_22, aX8_clear_23, aX8_clear_24, aX8_clear_25, aX8_clear_28, aX8_clear_29, aX8_clear_31, aX8_clear_32, aX8_clear_35, aX8_clear_36, aX8_clear_39, aX8_clear_42, aX8_clear_43, aX8_clear_46, aX8_clear_47, aX8_clear_49, aX8_clear_50, sp_ones hb, sp_ones hk1, Nat.zero_le, Nat.reduceLeDiff, Nat.reduceAdd, i1_0, rr_c3, zc9, oc9, zc10, oc10, zc11, oc11, zc12, oc12, zc13, oc13, zc15, oc15, Int32.lt_irrefl, Nat.zero_lt_one, Rt_cons, Rt_void, isB_0, isB_1, isB_b, true_and, and_true, cats_nil, cats_int, cats_ref, and_self, if_true, if_false, ite_self, le_nlt, ite_not, aT_31, aN_31, cnt_31, v3.2.1, c1, e, sh1' N (by omega), l, q', not_false_eq_true]
    rw [A, in0]
    have ih' := ih (k + 1) (.int (suL (σ 43 0) k N)) (.int (bI (pop (clB (σ 43 0) N k) 7 < pop k 7 ∧ okL (σ 43 0) k N = true))) (.int (nI N)) (by omega)
    rw [clB_s] at ih'
    by_cases q : pop (clB (σ 43 0) N k) 7 < pop k 7 ∧ okL (σ 43 0) k N = true
    · by_cases q2 : σ 43 0 1 < suL (σ 43 0) k N
      · rw [if_neg (fun z => z.2.2 q2)] at ih'
        simp only [aX8_clear_132, aX8_clear_134, aX8_clear_137, aX8_clear_139, aX8_clear_140, aX8_clear_143, aX8_clear_144, aX8_clear_145, aX8_clear_148, aX8_clear_149, aX8_clear_152, aX8_clear_153, aX8_clear_154, aX8_clear_157, Nat.zero_le, Nat.reduceLeDiff, Nat.reduceAdd, i1_0, rr_c3, zc9, oc9, zc10, oc10, zc11, oc11, zc12, oc12, zc13, oc13, zc15, oc15, Int32.lt_irrefl, Nat.zero_lt_one, Rt_cons, Rt_void, isB_0, isB_1, isB_b, true_and, and_true, cats_nil, cats_int, cats_ref, and_self, if_true, if_false, ite_self, le_nlt, ite_not, aT_43, aN_43, cnt_43, v99.2.1, c1, bI_t q, q2, nI_1] at ih' ⊢
        exact ih'
      · rw [if_pos ⟨q.1, q.2, q2⟩] at ih'
        simp only [aX8_clear_132, aX8_clear_134, aX8_clear_137, aX8_clear_139, aX8_clear_140, aX8_clear_143, aX8_clear_144, aX8_clear_145, aX8_clear_148, aX8_clear_149, aX8_clear_152, aX8_clear_153, aX8_clear_154, aX8_clear_157, Nat.zero_le, Nat.reduceLeDiff, Nat.reduceAdd, i1_0, rr_c3, zc9, oc9, zc10, oc10, zc11, oc11, zc12, oc12, zc13, oc13, zc15, oc15, Int32.lt_irrefl, Nat.zero_lt_one, Rt_cons, Rt_void, isB_0, isB_1, isB_b, true_and, and_true, cats_nil, cats_int, cats_ref, and_self, if_true, if_false, ite_self, le_nlt, ite_not, aT_43, aN_43, cnt_43, v99.2.1, c1, bI_t q, q2, nI_1] at ih' ⊢
        exact ih'
    · rw [if_neg (fun z => q ⟨z.1, z.2.1⟩)] at ih'
      simp only [aX8_clear_132, aX8_clear_134, aX8_clear_137, aX8_clear_139, aX8_clear_140, aX8_clear_143, aX8_clear_144, aX8_clear_145, aX8_clear_148, aX8_clear_149, aX8_clear_152, aX8_clear_153, aX8_clear_154, aX8_clear_157, Nat.zero_le, Nat.reduceLeDiff, Nat.reduceAdd, i1_0, rr_c3, zc9, oc9, zc10, oc10, zc11, oc11, zc12, oc12, zc13, oc13, zc15, oc15, Int32.lt_irrefl, Nat.zero_lt_one, Rt_cons, Rt_void, isB_0, isB_1, isB_b, true_and, and_true, cats_nil, cats_int, cats_ref, and_self, if_true, if_false, ite_self, le_nlt, ite_not, bI_f q, nI_1] at ih' ⊢
      exact ih'
theorem api_clear (x : Int32) : Sim Rel mX7_clear mX8_clear [.int x] := by
  refine Sim_of (Lc := [.ref (ad 0 0), .int x, .null, .null, .null]) (Lm := [.ref (ad 29 0), .int x, .null, .null, .null, .null, .null]) rfl rfl (fun σ hR => ?_)
  obtain ⟨r1, r2, C, N, G, r3, r4, r5, r6, r7⟩ := id hR
  obtain ⟨q1, q2, q3, q4, ⟨l0, l1, l2⟩, ⟨k0, k1, k2⟩, q5, q6, q7⟩ := id r3.1
  by_cases ho : x < 0 ∨ 1 < x
  · refine ⟨σ, σ, -1000000002, ?_, ?_, hR⟩
    · simp only [aX7_clear_0, aX7_clear_1, aX7_clear_2, aX7_clear_3, aX7_clear_6, aX7_clear_9, aX7_clear_11, sp_isOutside, Nat.zero_le, Nat.reduceLeDiff, Nat.reduceAdd, i1_0, rr_c3, zc9, oc9, zc10, oc10, zc11, oc11, zc12, oc12, zc13, oc13, zc15, oc15, Int32.lt_irrefl, Nat.zero_lt_one, Rt_cons, Rt_void, isB_0, isB_1, isB_b, true_and, and_true, cats_nil, cats_int, cats_ref, and_self, if_true, if_false, ite_self, le_nlt, ite_not, Rt_nil, bI_t ho]
    · simp only [aX8_clear_0, aX8_clear_1, aX8_clear_2, aX8_clear_3, aX8_clear_6, aX8_clear_9, aX8_clear_11, sp_in, Nat.zero_le, Nat.reduceLeDiff, Nat.reduceAdd, i1_0, rr_c3, zc9, oc9, zc10, oc10, zc11, oc11, zc12, oc12, zc13, oc13, zc15, oc15, Int32.lt_irrefl, Nat.zero_lt_one, Rt_cons, Rt_void, isB_0, isB_1, isB_b, true_and, and_true, cats_nil, cats_int, cats_ref, and_self, if_true, if_false, ite_self, le_nlt, ite_not, Rt_nil, bI_f (show ¬ (¬ x < 0 ∧ ¬ 1 < x) from fun z => ho.elim z.1 z.2)]
  · have hin := not_out.mp ho
    have hp := Nat.two_pow_pos N
    have c := lp_cclear (σ := σ) (x := x) (fs := []) (Q := fun X v => X = enc σ ∧ v = some (.int (if x = 0 then nI (pop (clB (σ 43 0) N (2 ^ N)) 7) else nI (clB (σ 43 0) N (2 ^ N))))) q2 k1 r3.2.2.1 (fun k hk => (r3.2.2.2.2.2.2.1 k hk).1) (2 ^ N - 1) 1 (by omega)
    have m := lp_mclear (σ := σ) (x := x) (fs := []) (Q := fun X v => X = enc σ ∧ v = some (.int (if x = 0 then nI (pop (clB (σ 43 0) N (2 ^ N)) 7) else nI (clB (σ 43 0) N (2 ^ N))))) q2 l1 (2 ^ N) 0 .null .null .null (by omega)
    have e1 : nI 1 = 1 := rfl
    have e0 : nI 0 = 0 := rfl
    have b0 : nI (clB (σ 43 0) N 0) = 0 := rfl
    have b1 : nI (clB (σ 43 0) N 1) = 0 := by
      rw [clB_s, if_neg (fun z => absurd z.1 (Nat.lt_irrefl _))]
      rfl
    rw [b1, e1] at c
    rw [b0, e0] at m
    refine ⟨σ, σ, if x = 0 then nI (pop (clB (σ 43 0) N (2 ^ N)) 7) else nI (clB (σ 43 0) N (2 ^ N)), ?_, ?_, hR⟩
    · simp only [aX7_clear_0, aX7_clear_1, aX7_clear_2, aX7_clear_3, aX7_clear_6, aX7_clear_9, aX7_clear_11, aX7_clear_12, aX7_clear_13, aX7_clear_14, aX7_clear_15, aX7_clear_16, aX7_clear_19, aX7_clear_22, aX7_clear_25, aX7_clear_26, aX7_clear_27, aX7_clear_28, sp_isOutside, Nat.zero_le, Nat.reduceLeDiff, Nat.reduceAdd, i1_0, rr_c3, zc9, oc9, zc10, oc10, zc11, oc11, zc12, oc12, zc13, oc13, zc15, oc15, Int32.lt_irrefl, Nat.zero_lt_one, Rt_cons, Rt_void, isB_0, isB_1, isB_b, true_and, and_true, cats_nil, cats_int, cats_ref, and_self, if_true, if_false, ite_self, le_nlt, ite_not, bI_f ho, k1, sh1' N (by omega)]
      rw [c]
      simp only [Nat.zero_le, Nat.reduceLeDiff, Nat.reduceAdd, i1_0, rr_c3, zc9, oc9, zc10, oc10, zc11, oc11, zc12, oc12, zc13, oc13, zc15, oc15, Int32.lt_irrefl, Nat.zero_lt_one, Rt_cons, Rt_void, isB_0, isB_1, isB_b, true_and, and_true, cats_nil, cats_int, cats_ref, and_self, if_true, if_false, ite_self, le_nlt, ite_not, Rt_nil]
    · simp only [aX8_clear_0, aX8_clear_1, aX8_clear_2, aX8_clear_3, aX8_clear_6, aX8_clear_9, aX8_clear_11, aX8_clear_12, aX8_clear_13, aX8_clear_14, aX8_clear_15, sp_in, Nat.zero_le, Nat.reduceLeDiff, Nat.reduceAdd, i1_0, rr_c3, zc9, oc9, zc10, oc10, zc11, oc11, zc12, oc12, zc13, oc13, zc15, oc15, Int32.lt_irrefl, Nat.zero_lt_one, Rt_cons, Rt_void, isB_0, isB_1, isB_b, true_and, and_true, cats_nil, cats_int, cats_ref, and_self, if_true, if_false, ite_self, le_nlt, ite_not, bI_t hin]
      rw [m]
      simp only [Nat.zero_le, Nat.reduceLeDiff, Nat.reduceAdd, i1_0, rr_c3, zc9, oc9, zc10, oc10, zc11, oc11, zc12, oc12, zc13, oc13, zc15, oc15, Int32.lt_irrefl, Nat.zero_lt_one, Rt_cons, Rt_void, isB_0, isB_1, isB_b, true_and, and_true, cats_nil, cats_int, cats_ref, and_self, if_true, if_false, ite_self, le_nlt, ite_not, Rt_nil]
end S74
