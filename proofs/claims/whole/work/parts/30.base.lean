-- numbers of truth
def bI (c : Prop) [Decidable c] : Int32 := if c then 1 else 0
theorem bI_t {c : Prop} [Decidable c] (h : c) : bI c = 1 := if_pos h
theorem bI_f {c : Prop} [Decidable c] (h : ¬ c) : bI c = 0 := if_neg h
theorem bI_0 {c : Prop} [Decidable c] : bI c = 0 ↔ ¬ c := by
  by_cases h : c
  · rw [bI_t h]; simp [h]
  · rw [bI_f h]; simp [h]
theorem bI_n0 {c : Prop} [Decidable c] : ¬ bI c = 0 ↔ c := by rw [bI_0]; exact Decidable.not_not
theorem bI_1 {c : Prop} [Decidable c] : bI c = 1 ↔ c := by
  by_cases h : c
  · rw [bI_t h]; simp [h]
  · rw [bI_f h]; simp [h]
theorem isB_b {c : Prop} [Decidable c] : isB (bI c) := by
  by_cases h : c
  · rw [bI_t h]; exact isB_1
  · rw [bI_f h]; exact isB_0
theorem nar_b {c : Prop} [Decidable c] : vp_nar .boolean (bI c) = bI c := by
  by_cases h : c
  · rw [bI_t h]; rfl
  · rw [bI_f h]; rfl
theorem i1_0 : ((1 : Int32) = 0) = False := by simp
theorem zc9 : 0 < cnt 9 := by decide
theorem oc9 : 1 < cnt 9 := by decide
theorem zc10 : 0 < cnt 10 := by decide
theorem oc10 : 1 < cnt 10 := by decide
theorem zc11 : 0 < cnt 11 := by decide
theorem oc11 : 1 < cnt 11 := by decide
theorem zc12 : 0 < cnt 12 := by decide
theorem oc12 : 1 < cnt 12 := by decide
theorem zc13 : 0 < cnt 13 := by decide
theorem oc13 : 1 < cnt 13 := by decide
theorem zc15 : 0 < cnt 15 := by decide
theorem oc15 : 1 < cnt 15 := by decide
theorem rr_c3 (x : Int32) : rr x < cnt 3 := by unfold rr; split <;> decide
theorem le_nlt {a b : Int32} : a ≤ b ↔ ¬ b < a := Int32.not_lt.symm
theorem or_nI (a b : Nat) : nI a ||| nI b = nI (a ||| b) := by
  apply Int32.toBitVec_inj.1
  show BitVec.ofNat 32 a ||| BitVec.ofNat 32 b = BitVec.ofNat 32 (a ||| b)
  apply BitVec.eq_of_getLsbD_eq
  intro i hi
  simp [hi]
theorem sh1 : ∀ h, h < 7 → (1 : Int32) <<< (nI h &&& 31) = nI (2 ^ h) := by decide
set_option maxRecDepth 100000 in
theorem shr7 : ∀ a, a < 128 → ∀ h, h < 7 → nI a >>> (nI h &&& 31) &&& 1 = nI (a / 2 ^ h % 2) := by decide +kernel
set_option maxRecDepth 100000 in
theorem or7 : ∀ a, a < 128 → ∀ h, h < 7 → a ||| 2 ^ h = if a / 2 ^ h % 2 = 0 then a + 2 ^ h else a := by decide +kernel
-- the empty houses as one number
theorem eb_b (f : Nat → Int32) (h : Nat) : ∃ b : Nat, b ≤ 1 ∧ eb1 f h = 2 ^ h * b ∧ (b = 0 ↔ f h = 0) := by
  unfold eb1
  by_cases z : f h = 0
  · exact ⟨0, by omega, by rw [if_pos z]; rfl, by simp [z]⟩
  · exact ⟨1, by omega, by rw [if_neg z, Nat.mul_one], by simp [z]⟩
theorem emN_b (f : Nat → Int32) : ∃ b0 b1 b2 b3 b4 b5 b6 : Nat, (b0 ≤ 1 ∧ b1 ≤ 1 ∧ b2 ≤ 1 ∧ b3 ≤ 1 ∧ b4 ≤ 1 ∧ b5 ≤ 1 ∧ b6 ≤ 1) ∧ emN f = b0 + 2 * b1 + 4 * b2 + 8 * b3 + 16 * b4 + 32 * b5 + 64 * b6 ∧ ((b0 = 0 ↔ f 0 = 0) ∧ (b1 = 0 ↔ f 1 = 0) ∧ (b2 = 0 ↔ f 2 = 0) ∧ (b3 = 0 ↔ f 3 = 0) ∧ (b4 = 0 ↔ f 4 = 0) ∧ (b5 = 0 ↔ f 5 = 0) ∧ (b6 = 0 ↔ f 6 = 0)) := by
  obtain ⟨b0, x0, y0, z0⟩ := eb_b f 0
  obtain ⟨b1, x1, y1, z1⟩ := eb_b f 1
  obtain ⟨b2, x2, y2, z2⟩ := eb_b f 2
  obtain ⟨b3, x3, y3, z3⟩ := eb_b f 3
  obtain ⟨b4, x4, y4, z4⟩ := eb_b f 4
  obtain ⟨b5, x5, y5, z5⟩ := eb_b f 5
  obtain ⟨b6, x6, y6, z6⟩ := eb_b f 6
  refine ⟨b0, b1, b2, b3, b4, b5, b6, ⟨x0, x1, x2, x3, x4, x5, x6⟩, ?_, z0, z1, z2, z3, z4, z5, z6⟩
  unfold emN
  rw [y0, y1, y2, y3, y4, y5, y6]
  omega
theorem emN_lt (f : Nat → Int32) : emN f < 128 := by
  obtain ⟨b0, b1, b2, b3, b4, b5, b6, hx, e, -⟩ := emN_b f
  omega
theorem emN_0 {f : Nat → Int32} {h : Nat} (hh : h < 7) : emN f / 2 ^ h % 2 = 0 ↔ f h = 0 := by
  obtain ⟨b0, b1, b2, b3, b4, b5, b6, hx, e, z0, z1, z2, z3, z4, z5, z6⟩ := emN_b f
  rcases (show h = 0 ∨ h = 1 ∨ h = 2 ∨ h = 3 ∨ h = 4 ∨ h = 5 ∨ h = 6 by omega) with rfl | rfl | rfl | rfl | rfl | rfl | rfl
  · rw [← z0]; omega
  · rw [← z1]; omega
  · rw [← z2]; omega
  · rw [← z3]; omega
  · rw [← z4]; omega
  · rw [← z5]; omega
  · rw [← z6]; omega
theorem em_in {f : Nat → Int32} {h : Nat} (hh : h < 7) : emS f >>> (nI h &&& 31) &&& 1 = bI (¬ f h = 0) := by
  unfold emS
  rw [shr7 _ (emN_lt f) h hh]
  by_cases z : f h = 0
  · rw [bI_f (not_not_intro z), (emN_0 hh).mpr z]; rfl
  · have : emN f / 2 ^ h % 2 = 1 := by
      have h1 : ¬ emN f / 2 ^ h % 2 = 0 := fun y => z ((emN_0 hh).mp y)
      omega
    rw [bI_t z, this]; rfl
theorem emN_upd {f : Nat → Int32} {j : Nat} (hj : j < 7) : emN (upd f j 1) = if f j = 0 then emN f + 2 ^ j else emN f := by
  have h1 : ¬ (1 : Int32) = 0 := by decide
  have ej : eb1 (upd f j 1) j = 2 ^ j := by unfold eb1 upd; rw [if_pos rfl, if_neg h1]
  have ek : ∀ k, ¬ k = j → eb1 (upd f j 1) k = eb1 f k := fun k hk => by unfold eb1 upd; rw [if_neg hk]
  have e0 : eb1 f j = if f j = 0 then 0 else 2 ^ j := rfl
  unfold emN
  rcases (show j = 0 ∨ j = 1 ∨ j = 2 ∨ j = 3 ∨ j = 4 ∨ j = 5 ∨ j = 6 by omega) with rfl | rfl | rfl | rfl | rfl | rfl | rfl
  · rw [ej, ek 1 (by omega), ek 2 (by omega), ek 3 (by omega), ek 4 (by omega), ek 5 (by omega), ek 6 (by omega), e0]; split <;> omega
  · rw [ej, ek 0 (by omega), ek 2 (by omega), ek 3 (by omega), ek 4 (by omega), ek 5 (by omega), ek 6 (by omega), e0]; split <;> omega
  · rw [ej, ek 0 (by omega), ek 1 (by omega), ek 3 (by omega), ek 4 (by omega), ek 5 (by omega), ek 6 (by omega), e0]; split <;> omega
  · rw [ej, ek 0 (by omega), ek 1 (by omega), ek 2 (by omega), ek 4 (by omega), ek 5 (by omega), ek 6 (by omega), e0]; split <;> omega
  · rw [ej, ek 0 (by omega), ek 1 (by omega), ek 2 (by omega), ek 3 (by omega), ek 5 (by omega), ek 6 (by omega), e0]; split <;> omega
  · rw [ej, ek 0 (by omega), ek 1 (by omega), ek 2 (by omega), ek 3 (by omega), ek 4 (by omega), ek 6 (by omega), e0]; split <;> omega
  · rw [ej, ek 0 (by omega), ek 1 (by omega), ek 2 (by omega), ek 3 (by omega), ek 4 (by omega), ek 5 (by omega), e0]; split <;> omega
theorem emS_put {f : Nat → Int32} {j : Nat} (hj : j < 7) : emS f ||| (1 : Int32) <<< (nI j &&& 31) = emS (upd f j 1) := by
  unfold emS
  rw [sh1 j hj, or_nI, or7 _ (emN_lt f) j hj, emN_upd hj]
  by_cases z : f j = 0
  · rw [if_pos z, if_pos ((emN_0 hj).mpr z)]
  · rw [if_neg z, if_neg (fun y => z ((emN_0 hj).mp y))]
theorem emS_congr {f g : Nat → Int32} (h : ∀ k, k < 7 → f k = g k) : emS f = emS g := by
  unfold emS emN eb1
  rw [h 0 (by omega), h 1 (by omega), h 2 (by omega), h 3 (by omega), h 4 (by omega), h 5 (by omega), h 6 (by omega)]
theorem emS_z : emS (fun _ => 0) = 0 := by decide
section S30
variable {fs : List Fm} {σ : Mem} {M : List va_E} {Q : List va_E → Option Value → Prop} {i : Nat}
theorem sp_isOutside {n l m : Int32} : Rn mX7_isOutside 0 [.int n, .int l, .int m] [] fs M Q ↔ Rt fs M (some (.int (bI (n < l ∨ m < n)))) Q := by
  simp only [aX7_isOutside_0, aX7_isOutside_1, aX7_isOutside_2, aX7_isOutside_5, aX7_isOutside_6, aX7_isOutside_7, aX7_isOutside_10, aX7_isOutside_11, aX7_isOutside_14, aX7_isOutside_15, Nat.zero_le, Nat.reduceLeDiff, Nat.reduceAdd, i1_0, rr_c3, zc9, oc9, zc10, oc10, zc11, oc11, zc12, oc12, zc13, oc13, zc15, oc15, Int32.lt_irrefl, Nat.zero_lt_one, Rt_cons, Rt_void, isB_0, isB_1, isB_b, true_and, and_true, cats_nil, cats_int, cats_ref, and_self, if_true, if_false, ite_self, le_nlt, ite_not]
  by_cases h1 : n < l
  · simp [h1, bI]
  · by_cases h2 : m < n <;> simp [h1, h2, bI]
theorem sp_isHouse {h : Int32} (hi : i < cnt 3) : Rn mX4_isHouse 0 [.ref (ad 3 i), .int h] [] fs (enc σ) Q ↔ Rt fs (enc σ) (some (.int (bI (¬ h < 0 ∧ h < σ 3 i 1)))) Q := by
  simp only [aX4_isHouse_0, aX4_isHouse_1, aX4_isHouse_4, aX4_isHouse_5, aX4_isHouse_6, aX4_isHouse_9, aX4_isHouse_12, aX4_isHouse_13, aX4_isHouse_16, aX4_isHouse_17, Nat.zero_le, Nat.reduceLeDiff, Nat.reduceAdd, i1_0, rr_c3, zc9, oc9, zc10, oc10, zc11, oc11, zc12, oc12, zc13, oc13, zc15, oc15, Int32.lt_irrefl, Nat.zero_lt_one, Rt_cons, Rt_void, isB_0, isB_1, isB_b, true_and, and_true, cats_nil, cats_int, cats_ref, and_self, if_true, if_false, ite_self, le_nlt, ite_not, hi]
  by_cases h1 : h < 0
  · simp [h1, bI]
  · by_cases h2 : h < σ 3 i 1 <;> simp [h1, h2, bI]
theorem sp_isGull {h : Int32} (hi : i < cnt 3) : Rn mX4_isGull 0 [.ref (ad 3 i), .int h] [] fs (enc σ) Q ↔ Rt fs (enc σ) (some (.int (bI (¬ h < 0 ∧ h < σ 3 i 2)))) Q := by
  simp only [aX4_isGull_0, aX4_isGull_1, aX4_isGull_4, aX4_isGull_5, aX4_isGull_6, aX4_isGull_9, aX4_isGull_12, aX4_isGull_13, aX4_isGull_16, aX4_isGull_17, Nat.zero_le, Nat.reduceLeDiff, Nat.reduceAdd, i1_0, rr_c3, zc9, oc9, zc10, oc10, zc11, oc11, zc12, oc12, zc13, oc13, zc15, oc15, Int32.lt_irrefl, Nat.zero_lt_one, Rt_cons, Rt_void, isB_0, isB_1, isB_b, true_and, and_true, cats_nil, cats_int, cats_ref, and_self, if_true, if_false, ite_self, le_nlt, ite_not, hi]
  by_cases h1 : h < 0
  · simp [h1, bI]
  · by_cases h2 : h < σ 3 i 2 <;> simp [h1, h2, bI]
theorem sp_isTold (hi : i < cnt 3) : Rn mX4_isTold 0 [.ref (ad 3 i)] [] fs (enc σ) Q ↔ Rt fs (enc σ) (some (.int (bI (0 < σ 3 i 0)))) Q := by
  simp only [aX4_isTold_0, aX4_isTold_1, aX4_isTold_4, aX4_isTold_7, aX4_isTold_8, aX4_isTold_11, aX4_isTold_12, Nat.zero_le, Nat.reduceLeDiff, Nat.reduceAdd, i1_0, rr_c3, zc9, oc9, zc10, oc10, zc11, oc11, zc12, oc12, zc13, oc13, zc15, oc15, Int32.lt_irrefl, Nat.zero_lt_one, Rt_cons, Rt_void, isB_0, isB_1, isB_b, true_and, and_true, cats_nil, cats_int, cats_ref, and_self, if_true, if_false, ite_self, le_nlt, ite_not, hi]
  by_cases h1 : 0 < σ 3 i 0 <;> simp [h1, bI]
theorem sp_isIn {x y : Int32} : Rn mX7_isIn 0 [.int x, .int y] [] fs M Q ↔ Rt fs M (some (.int (bI (x >>> (y &&& 31) &&& 1 = 1)))) Q := by
  simp only [aX7_isIn_0, aX7_isIn_1, aX7_isIn_2, aX7_isIn_3, aX7_isIn_4, aX7_isIn_5, aX7_isIn_6, aX7_isIn_9, aX7_isIn_10, aX7_isIn_13, aX7_isIn_14, Nat.zero_le, Nat.reduceLeDiff, Nat.reduceAdd, i1_0, rr_c3, zc9, oc9, zc10, oc10, zc11, oc11, zc12, oc12, zc13, oc13, zc15, oc15, Int32.lt_irrefl, Nat.zero_lt_one, Rt_cons, Rt_void, isB_0, isB_1, isB_b, true_and, and_true, cats_nil, cats_int, cats_ref, and_self, if_true, if_false, ite_self, le_nlt, ite_not]
  by_cases h : x >>> (y &&& 31) &&& 1 = 1 <;> simp [h, bI]
theorem sp_isEmpty {j : Nat} (hi : i < 34) (hj : j < 7) : Rn mX5_isEmpty 0 [.ref (ad 9 i), .int (nI j)] [] fs (enc σ) Q ↔ Rt fs (enc σ) (some (.int (bI (¬ σ 14 i j = 0)))) Q := by
  have c9 : i < cnt 9 := hi
  have c10 : i < cnt 10 := hi
  have c11 : i < cnt 11 := hi
  have c12 : i < cnt 12 := hi
  have c13 : i < cnt 13 := hi
  have c15 : i < cnt 15 := hi
  simp only [aX5_isEmpty_0, aX5_isEmpty_1, aX5_isEmpty_4, aX5_isEmpty_5, aX5_isEmpty_8, sp_isIn, Nat.zero_le, Nat.reduceLeDiff, Nat.reduceAdd, i1_0, rr_c3, zc9, oc9, zc10, oc10, zc11, oc11, zc12, oc12, zc13, oc13, zc15, oc15, Int32.lt_irrefl, Nat.zero_lt_one, Rt_cons, Rt_void, isB_0, isB_1, isB_b, true_and, and_true, cats_nil, cats_int, cats_ref, and_self, if_true, if_false, ite_self, le_nlt, ite_not, c9, c10, c11, c12, c13, c15, aT_10, aT_11, aT_12, aT_13, aT_15, aN_10, aN_11, aN_12, aN_13, aN_15, em_in hj, bI_1]
theorem sp_isHeld {j : Nat} (hi : i < 34) (hj : j < 7) : Rn mX5_isHeld 0 [.ref (ad 9 i), .int (nI j)] [] fs (enc σ) Q ↔ Rt fs (enc σ) (some (.int (bI (σ 14 i j = 0 ∧ ¬ σ 11 i j = -1)))) Q := by
  have c9 : i < cnt 9 := hi
  have c10 : i < cnt 10 := hi
  have c11 : i < cnt 11 := hi
  have c12 : i < cnt 12 := hi
  have c13 : i < cnt 13 := hi
  have c15 : i < cnt 15 := hi
  have v : vp_in (nI j) 7 := vp_in_nI hj (by decide)
  have e : (nI j).toNatClampNeg = j := nI_clamp (by omega)
  simp only [aX5_isHeld_0, aX5_isHeld_1, aX5_isHeld_2, aX5_isHeld_5, aX5_isHeld_8, aX5_isHeld_9, aX5_isHeld_12, aX5_isHeld_13, aX5_isHeld_14, aX5_isHeld_15, aX5_isHeld_18, aX5_isHeld_19, aX5_isHeld_22, aX5_isHeld_23, sp_isEmpty hi hj, Nat.zero_le, Nat.reduceLeDiff, Nat.reduceAdd, i1_0, rr_c3, zc9, oc9, zc10, oc10, zc11, oc11, zc12, oc12, zc13, oc13, zc15, oc15, Int32.lt_irrefl, Nat.zero_lt_one, Rt_cons, Rt_void, isB_0, isB_1, isB_b, true_and, and_true, cats_nil, cats_int, cats_ref, and_self, if_true, if_false, ite_self, le_nlt, ite_not, c9, c10, c11, c12, c13, c15, aT_10, aT_11, aT_12, aT_13, aT_15, aN_10, aN_11, aN_12, aN_13, aN_15, v, e, bI_n0]
  by_cases h1 : σ 14 i j = 0
  · by_cases h2 : σ 11 i j = -1 <;> simp [h1, h2, bI]
  · simp [h1, bI]
end S30
