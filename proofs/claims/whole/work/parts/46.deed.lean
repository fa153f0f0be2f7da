-- numbers
theorem nI_2 (a : Nat) : nI a + 2 = nI (a + 2) := nI_add a 2
theorem nI_3 (a : Nat) : nI a + 3 = nI (a + 3) := nI_add a 3
theorem nI_4 (a : Nat) : nI a + 4 = nI (a + 4) := nI_add a 4
theorem n5 (a : Nat) : (5 : Int32) * nI a = nI (5 * a) := pk_mul 5 a
theorem n64 (a : Nat) : (64 : Int32) + nI a = nI (64 + a) := nI_add 64 a
theorem in99 {a : Nat} (h : a < 99) : vp_in (nI a) 99 := vp_in_nI h (by decide)
theorem in7 {a : Nat} (h : a < 7) : vp_in (nI a) 7 := vp_in_nI h (by decide)
theorem cl10 {a : Nat} (h : a < 10000) : (nI a).toNatClampNeg = a := nI_clamp (by omega)
theorem v99 : vp_in 0 99 ∧ vp_in 1 99 ∧ vp_in 2 99 ∧ vp_in 3 99 := ⟨in99 (a := 0) (by omega), in99 (a := 1) (by omega), in99 (a := 2) (by omega), in99 (a := 3) (by omega)⟩
theorem c0 : (0 : Int32).toNatClampNeg = 0 := by decide
theorem c1 : (1 : Int32).toNatClampNeg = 1 := by decide
theorem c2 : (2 : Int32).toNatClampNeg = 2 := by decide
theorem c3 : (3 : Int32).toNatClampNeg = 3 := by decide
theorem v3 : vp_in 0 3 ∧ vp_in 1 3 ∧ vp_in 2 3 := ⟨vp_in_nI (n := 0) (by omega) (by decide), vp_in_nI (n := 1) (by omega) (by decide), vp_in_nI (n := 2) (by omega) (by decide)⟩
theorem min_eq (x z : Int32) : (if z < x then z else x) = (if x < z then x else z) := by
  by_cases h : z < x
  · rw [if_pos h, if_neg (fun q => Int32.lt_irrefl (Int32.lt_trans h q))]
  · rw [if_neg h]
    by_cases h2 : x < z
    · rw [if_pos h2]
    · rw [if_neg h2]
      exact Int32.le_antisymm (Int32.not_lt.mp h) (Int32.not_lt.mp h2)
/-- is a house's number -/
abbrev isH (N : Nat) (h : Int32) : Prop := ¬ h < 0 ∧ h < nI N
theorem isH_of {N : Nat} {h : Int32} (hN : N ≤ 7) (hh : isH N h) : ∃ j : Nat, j < N ∧ h = nI j := by
  obtain ⟨j, hj, rfl⟩ := nI_of hh.1
  exact ⟨j, (nI_ltI hj (by omega)).mp hh.2, rfl⟩
theorem isH_nI {N j : Nat} (hN : N ≤ 7) (hj : j < N) : isH N (nI j) := ⟨nI_pos (by omega), nI_lt hj (by omega)⟩
theorem isH_m {N : Nat} {h : Int32} (hN : N ≤ 7) : (¬ h < 0 ∧ ¬ nI N - 1 < h) ↔ isH N h := by
  constructor
  · rintro ⟨a, b⟩
    refine ⟨a, ?_⟩
    obtain ⟨j, hj, rfl⟩ := nI_of a
    rcases Nat.lt_or_ge j N with q | q
    · exact nI_lt q (by omega)
    · exfalso
      apply b
      rw [Int32.lt_iff_toInt_lt, nI_toInt hj]
      have := pk_sub_toInt (a := N) (b := 1) (by omega) (by decide)
      have e : (nI N - 1).toInt = (N : Int) - 1 := this
      omega
  · rintro ⟨a, b⟩
    refine ⟨a, fun q => ?_⟩
    obtain ⟨j, hj, rfl⟩ := nI_of a
    have := (nI_ltI hj (by omega)).mp b
    rw [Int32.lt_iff_toInt_lt, nI_toInt hj] at q
    have e : (nI N - 1).toInt = (N : Int) - 1 := pk_sub_toInt (a := N) (b := 1) (by omega) (by decide)
    omega
section S46
variable {σ : Mem} {fs : List Fm} {M : List va_E} {Q : List va_E → Option Value → Prop}
theorem sp_lesser {a b : Int32} : Rn mX8_lesser 0 [.int a, .int b] [] fs M Q ↔ Rt fs M (some (.int (if a < b then a else b))) Q := by
  simp only [aX8_lesser_0, aX8_lesser_1, aX8_lesser_2, aX8_lesser_5, aX8_lesser_6, aX8_lesser_9, aX8_lesser_10, Nat.zero_le, Nat.reduceLeDiff, Nat.reduceAdd, i1_0, rr_c3, zc9, oc9, zc10, oc10, zc11, oc11, zc12, oc12, zc13, oc13, zc15, oc15, Int32.lt_irrefl, Nat.zero_lt_one, Rt_cons, Rt_void, isB_0, isB_1, isB_b, true_and, and_true, cats_nil, cats_int, cats_ref, and_self, if_true, if_false, ite_self, le_nlt, ite_not]
  by_cases h : a < b <;> simp [h]
theorem sp_mTold {C : Nat} (hC : C ≤ 12) (h : σ 31 0 0 = nI C) : Rn mX8_isTold 0 [.ref (ad 29 0)] [] fs (enc σ) Q ↔ Rt fs (enc σ) (some (.int (bI (0 < C)))) Q := by
  simp only [aX8_isTold_0, aX8_isTold_1, aX8_isTold_4, aX8_isTold_5, aX8_isTold_6, aX8_isTold_9, aX8_isTold_10, aX8_isTold_13, aX8_isTold_14, Nat.zero_le, Nat.reduceLeDiff, Nat.reduceAdd, i1_0, rr_c3, zc9, oc9, zc10, oc10, zc11, oc11, zc12, oc12, zc13, oc13, zc15, oc15, Int32.lt_irrefl, Nat.zero_lt_one, Rt_cons, Rt_void, isB_0, isB_1, isB_b, true_and, and_true, cats_nil, cats_int, cats_ref, and_self, if_true, if_false, ite_self, le_nlt, ite_not, aT_31, aN_31, cnt_31, v3.1, c0, h]
  by_cases h1 : 0 < C
  · have : (0 : Int32) < nI C := nI_lt (a := 0) h1 (by omega)
    simp [h1, this, bI]
  · have : C = 0 := by omega
    subst this
    have e : nI 0 = 0 := rfl
    simp [bI, e]
theorem sp_mHouse {N : Nat} {h : Int32} (hN : N ≤ 7) (e : σ 31 0 1 = nI N) : Rn mX8_isHouse 0 [.ref (ad 29 0), .int h] [] fs (enc σ) Q ↔ Rt fs (enc σ) (some (.int (bI (isH N h)))) Q := by
  simp only [aX8_isHouse_0, aX8_isHouse_1, aX8_isHouse_2, aX8_isHouse_3, aX8_isHouse_6, aX8_isHouse_7, aX8_isHouse_8, aX8_isHouse_9, aX8_isHouse_10, aX8_isHouse_13, sp_in, Nat.zero_le, Nat.reduceLeDiff, Nat.reduceAdd, i1_0, rr_c3, zc9, oc9, zc10, oc10, zc11, oc11, zc12, oc12, zc13, oc13, zc15, oc15, Int32.lt_irrefl, Nat.zero_lt_one, Rt_cons, Rt_void, isB_0, isB_1, isB_b, true_and, and_true, cats_nil, cats_int, cats_ref, and_self, if_true, if_false, ite_self, le_nlt, ite_not, aT_31, aN_31, cnt_31, v3.2.1, c1, e]
  have : bI (¬ h < 0 ∧ ¬ nI N - 1 < h) = bI (isH N h) := by
    by_cases q : isH N h
    · rw [bI_t q, bI_t ((isH_m hN).mpr q)]
    · rw [bI_f q, bI_f (fun z => q ((isH_m hN).mp z))]
  rw [this]
theorem sp_cHouse {N q : Nat} {h : Int32} (hq : q < 2) (e : σ 3 q 1 = nI N) : Rn mX4_isHouse 0 [.ref (ad 3 q), .int h] [] fs (enc σ) Q ↔ Rt fs (enc σ) (some (.int (bI (isH N h)))) Q := by
  rw [sp_isHouse hq, e]
theorem sp_cTold {C q : Nat} (hC : C ≤ 12) (hq : q < 2) (e : σ 3 q 0 = nI C) : Rn mX4_isTold 0 [.ref (ad 3 q)] [] fs (enc σ) Q ↔ Rt fs (enc σ) (some (.int (bI (0 < C)))) Q := by
  rw [sp_isTold hq, e]
  have : bI ((0 : Int32) < nI C) = bI (0 < C) := by
    by_cases q : 0 < C
    · rw [bI_t q]; exact bI_t (show (0 : Int32) < nI C from nI_lt (a := 0) q (by omega))
    · rw [bI_f q, bI_f]
      have : C = 0 := by omega
      subst this
      decide
  rw [this]
theorem sp_addHeads {i : Nat} {n : Int32} (hi : i < 34) : Rn mX5_addHeads 0 [.ref (ad 9 i), .int n] [] fs (enc σ) Q ↔ Rt fs (enc (upS σ 9 i 2 (if 9999 < σ 9 i 2 + n then 9999 else σ 9 i 2 + n))) none Q := by
  have c9 : i < cnt 9 := hi
  have c10 : i < cnt 10 := hi
  have c11 : i < cnt 11 := hi
  have c12 : i < cnt 12 := hi
  have c13 : i < cnt 13 := hi
  have c15 : i < cnt 15 := hi
  simp only [aX5_addHeads_0, aX5_addHeads_1, aX5_addHeads_4, aX5_addHeads_5, aX5_addHeads_8, aX5_addHeads_9, aX5_addHeads_10, aX5_addHeads_13, aX5_addHeads_16, Nat.zero_le, Nat.reduceLeDiff, Nat.reduceAdd, i1_0, rr_c3, zc9, oc9, zc10, oc10, zc11, oc11, zc12, oc12, zc13, oc13, zc15, oc15, Int32.lt_irrefl, Nat.zero_lt_one, Rt_cons, Rt_void, isB_0, isB_1, isB_b, true_and, and_true, cats_nil, cats_int, cats_ref, and_self, if_true, if_false, ite_self, le_nlt, ite_not, c9, c10, c11, c12, c13, c15, aT_10, aT_11, aT_12, aT_13, aT_15, aN_10, aN_11, aN_12, aN_13, aN_15, min_eq]
end S46
