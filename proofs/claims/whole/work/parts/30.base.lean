-- numbers of truth
def bI (c : Prop) [Decidable c] : Int32 := if c then 1 else 0
theorem bI_t {c : Prop} [Decidable c] (h : c) : bI c = 1 := if_pos h
theorem bI_f {c : Prop} [Decidable c] (h : ¬ c) : bI c = 0 := if_neg h
theorem bI_0 {c : Prop} [Decidable c] : bI c = 0 ↔ ¬ c := by
  by_cases h : c
  · rw [bI_t h]; simp [h]
  · rw [bI_f h]; simp [h]
theorem bI_n0 {c : Prop} [Decidable c] : ¬ bI c = 0 ↔ c := by rw [bI_0]; exact Decidable.not_not
theorem bI_1 {c : Prop} [Decidable c] : bI c = 1 ↔ c := by
  by_cases h : c
  · rw [bI_t h]; simp [h]
  · rw [bI_f h]; simp [h]
theorem isB_b {c : Prop} [Decidable c] : isB (bI c) := by
  by_cases h : c
  · rw [bI_t h]; exact isB_1
  · rw [bI_f h]; exact isB_0
theorem nar_b {c : Prop} [Decidable c] : vp_nar .boolean (bI c) = bI c := by
  by_cases h : c
  · rw [bI_t h]; rfl
  · rw [bI_f h]; rfl
theorem i1_0 : ((1 : Int32) = 0) = False := by simp
theorem zc9 : 0 < cnt 9 := by decide
theorem oc9 : 1 < cnt 9 := by decide
theorem zc10 : 0 < cnt 10 := by decide
theorem oc10 : 1 < cnt 10 := by decide
theorem zc11 : 0 < cnt 11 := by decide
theorem oc11 : 1 < cnt 11 := by decide
theorem zc12 : 0 < cnt 12 := by decide
theorem oc12 : 1 < cnt 12 := by decide
theorem zc13 : 0 < cnt 13 := by decide
theorem oc13 : 1 < cnt 13 := by decide
theorem zc14 : 0 < cnt 14 := by decide
theorem oc14 : 1 < cnt 14 := by decide
theorem zc15 : 0 < cnt 15 := by decide
theorem oc15 : 1 < cnt 15 := by decide
theorem rr_c3 (x : Int32) : rr x < cnt 3 := by unfold rr; split <;> decide
theorem le_nlt {a b : Int32} : a ≤ b ↔ ¬ b < a := Int32.not_lt.symm
section S30
variable {fs : List Fm} {σ : Mem} {M : List va_E} {Q : List va_E → Option Value → Prop} {i : Nat}
theorem sp_isOutside {n l m : Int32} : Rn mX7_isOutside 0 [.int n, .int l, .int m] [] fs M Q ↔ Rt fs M (some (.int (bI (n < l ∨ m < n)))) Q := by
  simp only [aX7_isOutside_0, aX7_isOutside_1, aX7_isOutside_2, aX7_isOutside_5, aX7_isOutside_6, aX7_isOutside_7, aX7_isOutside_10, aX7_isOutside_11, aX7_isOutside_14, aX7_isOutside_15, Nat.zero_le, Nat.reduceLeDiff, Nat.reduceAdd, i1_0, rr_c3, zc9, oc9, zc10, oc10, zc11, oc11, zc12, oc12, zc13, oc13, zc14, oc14, zc15, oc15, Int32.lt_irrefl, Nat.zero_lt_one, Rt_cons, Rt_void, isB_0, isB_1, isB_b, true_and, and_true, cats_nil, cats_int, cats_ref, and_self, if_true, if_false, ite_self, le_nlt, ite_not]
  by_cases h1 : n < l
  · simp [h1, bI]
  · by_cases h2 : m < n <;> simp [h1, h2, bI]
theorem sp_isHouse {h : Int32} (hi : i < cnt 3) : Rn mX4_isHouse 0 [.ref (ad 3 i), .int h] [] fs (enc σ) Q ↔ Rt fs (enc σ) (some (.int (bI (¬ h < 0 ∧ h < σ 3 i 1)))) Q := by
  simp only [aX4_isHouse_0, aX4_isHouse_1, aX4_isHouse_4, aX4_isHouse_5, aX4_isHouse_6, aX4_isHouse_9, aX4_isHouse_12, aX4_isHouse_13, aX4_isHouse_16, aX4_isHouse_17, Nat.zero_le, Nat.reduceLeDiff, Nat.reduceAdd, i1_0, rr_c3, zc9, oc9, zc10, oc10, zc11, oc11, zc12, oc12, zc13, oc13, zc14, oc14, zc15, oc15, Int32.lt_irrefl, Nat.zero_lt_one, Rt_cons, Rt_void, isB_0, isB_1, isB_b, true_and, and_true, cats_nil, cats_int, cats_ref, and_self, if_true, if_false, ite_self, le_nlt, ite_not, hi]
  by_cases h1 : h < 0
  · simp [h1, bI]
  · by_cases h2 : h < σ 3 i 1 <;> simp [h1, h2, bI]
theorem sp_isGull {h : Int32} (hi : i < cnt 3) : Rn mX4_isGull 0 [.ref (ad 3 i), .int h] [] fs (enc σ) Q ↔ Rt fs (enc σ) (some (.int (bI (¬ h < 0 ∧ h < σ 3 i 2)))) Q := by
  simp only [aX4_isGull_0, aX4_isGull_1, aX4_isGull_4, aX4_isGull_5, aX4_isGull_6, aX4_isGull_9, aX4_isGull_12, aX4_isGull_13, aX4_isGull_16, aX4_isGull_17, Nat.zero_le, Nat.reduceLeDiff, Nat.reduceAdd, i1_0, rr_c3, zc9, oc9, zc10, oc10, zc11, oc11, zc12, oc12, zc13, oc13, zc14, oc14, zc15, oc15, Int32.lt_irrefl, Nat.zero_lt_one, Rt_cons, Rt_void, isB_0, isB_1, isB_b, true_and, and_true, cats_nil, cats_int, cats_ref, and_self, if_true, if_false, ite_self, le_nlt, ite_not, hi]
  by_cases h1 : h < 0
  · simp [h1, bI]
  · by_cases h2 : h < σ 3 i 2 <;> simp [h1, h2, bI]
theorem sp_isTold (hi : i < cnt 3) : Rn mX4_isTold 0 [.ref (ad 3 i)] [] fs (enc σ) Q ↔ Rt fs (enc σ) (some (.int (bI (0 < σ 3 i 0)))) Q := by
  simp only [aX4_isTold_0, aX4_isTold_1, aX4_isTold_4, aX4_isTold_7, aX4_isTold_8, aX4_isTold_11, aX4_isTold_12, Nat.zero_le, Nat.reduceLeDiff, Nat.reduceAdd, i1_0, rr_c3, zc9, oc9, zc10, oc10, zc11, oc11, zc12, oc12, zc13, oc13, zc14, oc14, zc15, oc15, Int32.lt_irrefl, Nat.zero_lt_one, Rt_cons, Rt_void, isB_0, isB_1, isB_b, true_and, and_true, cats_nil, cats_int, cats_ref, and_self, if_true, if_false, ite_self, le_nlt, ite_not, hi]
  by_cases h1 : 0 < σ 3 i 0 <;> simp [h1, bI]
theorem sp_isHeld {h : Int32} (hi : i < 34) : Rn mX5_isHeld 0 [.ref (ad 9 i), .int h] [] fs (enc σ) Q ↔ vp_in h 7 ∧ Rt fs (enc σ) (some (.int (bI (σ 14 i h.toNatClampNeg = 0 ∧ ¬ σ 11 i h.toNatClampNeg = -1)))) Q := by
  have c9 : i < cnt 9 := hi
  have c10 : i < cnt 10 := hi
  have c11 : i < cnt 11 := hi
  have c12 : i < cnt 12 := hi
  have c13 : i < cnt 13 := hi
  have c14 : i < cnt 14 := hi
  have c15 : i < cnt 15 := hi
  simp only [aX5_isHeld_0, aX5_isHeld_1, aX5_isHeld_4, aX5_isHeld_5, aX5_isHeld_6, aX5_isHeld_9, aX5_isHeld_10, aX5_isHeld_13, aX5_isHeld_14, aX5_isHeld_15, aX5_isHeld_16, aX5_isHeld_19, aX5_isHeld_20, aX5_isHeld_23, aX5_isHeld_24, Nat.zero_le, Nat.reduceLeDiff, Nat.reduceAdd, i1_0, rr_c3, zc9, oc9, zc10, oc10, zc11, oc11, zc12, oc12, zc13, oc13, zc14, oc14, zc15, oc15, Int32.lt_irrefl, Nat.zero_lt_one, Rt_cons, Rt_void, isB_0, isB_1, isB_b, true_and, and_true, cats_nil, cats_int, cats_ref, and_self, if_true, if_false, ite_self, le_nlt, ite_not, c9, c10, c11, c12, c13, c14, c15, aT_10, aT_11, aT_12, aT_13, aT_14, aT_15, aN_10, aN_11, aN_12, aN_13, aN_14, aN_15]
  by_cases hv : vp_in h 7
  · by_cases h1 : σ 14 i h.toNatClampNeg = 0
    · by_cases h2 : σ 11 i h.toNatClampNeg = -1 <;> simp [h1, h2, hv, bI]
    · simp [h1, hv, bI]
  · simp [hv]
end S30
