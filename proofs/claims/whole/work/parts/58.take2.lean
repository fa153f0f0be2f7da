theorem CS_good {σ : Mem} {i j : Nat} {x : Int32} {w : Nat → Int32} (h : CS σ i w) (hj : j < 7) : CS (upS σ 12 i j x) i (upd w (64 + 5 * j + 3) x) := by
  have eP : ∀ k, k ≠ 12 → upS σ 12 i j x k i = σ k i := fun k d => by rw [upS_ne (by omega)]
  have eP12 : upS σ 12 i j x 12 i = upd (σ 12 i) j x := by rw [upS_eq]
  have eW : ∀ a, ¬ a = 64 + 5 * j + 3 → upd w (64 + 5 * j + 3) x a = w a := fun a q => by rw [upd_ne q]
  refine CS_intro h (by rw [eP _ (by omega), eW _ (by omega)]; exact h.1) (by rw [eP _ (by omega), eW _ (by omega)]; exact h.2.1) (by rw [eP _ (by omega), eW _ (by omega)]; exact h.2.2.1) (by rw [eP _ (by omega)]) (by rw [eP _ (by omega)]) (eP 15 (by omega)) (fun t a b => eW _ (by omega)) (fun k hk => ?_)
  have ck := h.2.2.2.2.2 k hk
  by_cases hkj : k = j
  · subst hkj
    rw [eP 10 (by omega), eP 11 (by omega), eP12, eP 13 (by omega), eP 14 (by omega), upd_eq, upd_eq, eW _ (by omega), eW (64 + 5 * k + 2) (by omega), eW (64 + 5 * k + 4) (by omega), eW (64 + 5 * k + 1) (by omega)]
    exact ⟨ck.1, ck.2.1, rfl, ck.2.2.2⟩
  · exact Ch_congr (w := w) ck (by rw [eP 10 (by omega)]) (by rw [eP 11 (by omega)]) (by rw [eP12, upd_ne hkj]) (by rw [eP 13 (by omega)]) (by rw [eP 14 (by omega)]) (fun t ht => eW _ (by omega))
theorem CS_free {σ : Mem} {i j : Nat} {w : Nat → Int32} (h : CS σ i w) (hj : j < 7) (h0 : σ 14 i j = 0) : CS (upS σ 11 i j (-1)) i (upd (upd w (64 + 5 * j + 1) 1) (64 + 5 * j + 2) (-1)) := by
  have eP : ∀ k, k ≠ 11 → upS σ 11 i j (-1) k i = σ k i := fun k d => by rw [upS_ne (by omega)]
  have eP11 : upS σ 11 i j (-1) 11 i = upd (σ 11 i) j (-1) := by rw [upS_eq]
  have eW : ∀ a, ¬ a = 64 + 5 * j + 1 → ¬ a = 64 + 5 * j + 2 → upd (upd w (64 + 5 * j + 1) 1) (64 + 5 * j + 2) (-1) a = w a := fun a p q => by rw [upd_ne q, upd_ne p]
  refine CS_intro h (by rw [eP _ (by omega), eW _ (by omega) (by omega)]; exact h.1) (by rw [eP _ (by omega), eW _ (by omega) (by omega)]; exact h.2.1) (by rw [eP _ (by omega), eW _ (by omega) (by omega)]; exact h.2.2.1) (by rw [eP _ (by omega)]) (by rw [eP _ (by omega)]) (eP 15 (by omega)) (fun t a b => eW _ (by omega) (by omega)) (fun k hk => ?_)
  have ck := h.2.2.2.2.2 k hk
  by_cases hkj : k = j
  · subst hkj
    rw [eP 10 (by omega), eP11, eP 12 (by omega), eP 13 (by omega), eP 14 (by omega), upd_eq, upd_eq, upd_ne (show ¬ 64 + 5 * k + 1 = 64 + 5 * k + 2 by omega), upd_eq, eW _ (by omega) (by omega), eW (64 + 5 * k + 3) (by omega) (by omega), eW (64 + 5 * k + 4) (by omega) (by omega), h0]
    exact ⟨ck.1, rfl, ck.2.2.1, ck.2.2.2.1, Or.inl rfl, rfl⟩
  · exact Ch_congr (w := w) ck (by rw [eP 10 (by omega)]) (by rw [eP11, upd_ne hkj]) (by rw [eP 12 (by omega)]) (by rw [eP 13 (by omega)]) (by rw [eP 14 (by omega)]) (fun t ht => eW _ (by omega) (by omega))
section S58
variable {σ : Mem} {fs : List Fm} {M : List va_E} {Q : List va_E → Option Value → Prop}
theorem sp_goodDay {i j : Nat} {w : Nat → Int32} (hi : i < 34) (hj : j < 7) (h : CS σ i w) {x : Int32} (hx : x = if w (64 + 5 * j) = 0 then w (64 + 5 * j + 3) + 1 else 0) :
    Rn mX5_countGoodDay 0 [.ref (ad 9 i), .int (nI j)] [] fs (enc σ) Q ↔ Rt fs (enc (if x < 7 then upS σ 12 i j x else upS (upS σ 12 i j x) 11 i j (-1))) none Q := by
  have c9 : i < cnt 9 := hi
  have c10 : i < cnt 10 := hi
  have c11 : i < cnt 11 := hi
  have c12 : i < cnt 12 := hi
  have c13 : i < cnt 13 := hi
  have c15 : i < cnt 15 := hi
  have cj := h.2.2.2.2.2 j hj
  have e12 : ∀ x, upS σ 12 i j x 12 i j = x := fun x => by rw [upS_eq, upd_eq]
  have A : Rn mX5_countGoodDay 0 [.ref (ad 9 i), .int (nI j)] [] fs (enc σ) Q ↔ Rn mX5_countGoodDay 27 [.ref (ad 9 i), .int (nI j)] [] fs (enc (upS σ 12 i j x)) Q := by
    subst hx
    by_cases q : w (64 + 5 * j) = 0
    · simp only [aX5_countGoodDay_0, aX5_countGoodDay_1, aX5_countGoodDay_4, aX5_countGoodDay_5, aX5_countGoodDay_6, aX5_countGoodDay_9, aX5_countGoodDay_10, aX5_countGoodDay_11, aX5_countGoodDay_14, aX5_countGoodDay_15, aX5_countGoodDay_18, aX5_countGoodDay_19, aX5_countGoodDay_20, aX5_countGoodDay_21, aX5_countGoodDay_22, aX5_countGoodDay_25, aX5_countGoodDay_26, Nat.zero_le, Nat.reduceLeDiff, Nat.reduceAdd, i1_0, rr_c3, zc9, oc9, zc10, oc10, zc11, oc11, zc12, oc12, zc13, oc13, zc15, oc15, Int32.lt_irrefl, Nat.zero_lt_one, Rt_cons, Rt_void, isB_0, isB_1, isB_b, true_and, and_true, cats_nil, cats_int, cats_ref, and_self, if_true, if_false, ite_self, le_nlt, ite_not, c9, c10, c11, c12, c13, c15, aT_10, aT_11, aT_12, aT_13, aT_15, aN_10, aN_11, aN_12, aN_13, aN_15, in7 hj, cl10 (show j < 10000 by omega), cj.1, cj.2.2.1, q, not_true_eq_false]
    · simp only [aX5_countGoodDay_0, aX5_countGoodDay_1, aX5_countGoodDay_4, aX5_countGoodDay_5, aX5_countGoodDay_6, aX5_countGoodDay_9, aX5_countGoodDay_10, aX5_countGoodDay_11, aX5_countGoodDay_14, aX5_countGoodDay_15, aX5_countGoodDay_18, aX5_countGoodDay_19, aX5_countGoodDay_20, aX5_countGoodDay_21, aX5_countGoodDay_22, aX5_countGoodDay_25, aX5_countGoodDay_26, Nat.zero_le, Nat.reduceLeDiff, Nat.reduceAdd, i1_0, rr_c3, zc9, oc9, zc10, oc10, zc11, oc11, zc12, oc12, zc13, oc13, zc15, oc15, Int32.lt_irrefl, Nat.zero_lt_one, Rt_cons, Rt_void, isB_0, isB_1, isB_b, true_and, and_true, cats_nil, cats_int, cats_ref, and_self, if_true, if_false, ite_self, le_nlt, ite_not, c9, c10, c11, c12, c13, c15, aT_10, aT_11, aT_12, aT_13, aT_15, aN_10, aN_11, aN_12, aN_13, aN_15, in7 hj, cl10 (show j < 10000 by omega), cj.1, cj.2.2.1, q, not_false_eq_true]
  rw [A]
  by_cases q : x < 7
  · simp only [aX5_countGoodDay_27, aX5_countGoodDay_28, aX5_countGoodDay_31, aX5_countGoodDay_32, aX5_countGoodDay_33, aX5_countGoodDay_35, aX5_countGoodDay_38, aX5_countGoodDay_39, aX5_countGoodDay_42, aX5_countGoodDay_43, aX5_countGoodDay_44, aX5_countGoodDay_45, Nat.zero_le, Nat.reduceLeDiff, Nat.reduceAdd, i1_0, rr_c3, zc9, oc9, zc10, oc10, zc11, oc11, zc12, oc12, zc13, oc13, zc15, oc15, Int32.lt_irrefl, Nat.zero_lt_one, Rt_cons, Rt_void, isB_0, isB_1, isB_b, true_and, and_true, cats_nil, cats_int, cats_ref, and_self, if_true, if_false, ite_self, le_nlt, ite_not, c9, c10, c11, c12, c13, c15, aT_10, aT_11, aT_12, aT_13, aT_15, aN_10, aN_11, aN_12, aN_13, aN_15, in7 hj, cl10 (show j < 10000 by omega), e12, q]
  · simp only [aX5_countGoodDay_27, aX5_countGoodDay_28, aX5_countGoodDay_31, aX5_countGoodDay_32, aX5_countGoodDay_33, aX5_countGoodDay_35, aX5_countGoodDay_38, aX5_countGoodDay_39, aX5_countGoodDay_42, aX5_countGoodDay_43, aX5_countGoodDay_44, aX5_countGoodDay_45, Nat.zero_le, Nat.reduceLeDiff, Nat.reduceAdd, i1_0, rr_c3, zc9, oc9, zc10, oc10, zc11, oc11, zc12, oc12, zc13, oc13, zc15, oc15, Int32.lt_irrefl, Nat.zero_lt_one, Rt_cons, Rt_void, isB_0, isB_1, isB_b, true_and, and_true, cats_nil, cats_int, cats_ref, and_self, if_true, if_false, ite_self, le_nlt, ite_not, c9, c10, c11, c12, c13, c15, aT_10, aT_11, aT_12, aT_13, aT_15, aN_10, aN_11, aN_12, aN_13, aN_15, in7 hj, cl10 (show j < 10000 by omega), e12, q]
theorem tk_C {i j g : Nat} {pd lk : Int32} {x5 : Value} {kd pt : Int32} {w : Nat → Int32} (hi : i < 34) (hj : j < 7) (hg : g < 7) (h : CS σ i w) (hk : σ 7 (rr (σ 9 i 0)) g = kd) (hp : σ 8 (rr (σ 9 i 0)) g = pt) (hp0 : ¬ pt < 0) (hh : σ 14 i j = 0) (hgd : ∃ d : Nat, d ≤ 6 ∧ w (64 + 5 * j + 3) = nI d) :
    ∃ τ, (∀ fs Q, Rn mX5_takeTurn 152 [.ref (ad 9 i), .int (nI j), .int (nI g), .int pd, .int lk, x5] [] fs (enc σ) Q ↔ Rt fs (enc τ) none Q) ∧ CS τ i (pyD kd pt (pyC w j) j) ∧ Fr σ τ i := by
  have c9 : i < cnt 9 := hi
  have c10 : i < cnt 10 := hi
  have c11 : i < cnt 11 := hi
  have c12 : i < cnt 12 := hi
  have c13 : i < cnt 13 := hi
  have c15 : i < cnt 15 := hi
  have cj := h.2.2.2.2.2 j hj
  have r7 : rr (σ 9 i 0) < cnt 7 := rr_lt _
  have r8 : rr (σ 9 i 0) < cnt 8 := rr_lt _
  obtain ⟨x, hx⟩ : ∃ x, x = if w (64 + 5 * j) = 0 then w (64 + 5 * j + 3) + 1 else 0 := ⟨_, rfl⟩
  have h7 : x < 7 ↔ ¬ x = 7 := by
    obtain ⟨d, hd, e⟩ := hgd
    rw [hx, e, nI_1]
    split
    · have e1 := nI_ltI (a := d + 1) (b := 7) (by omega) (by decide)
      have e2 := nI_eq (a := d + 1) (b := 7) (by omega) (by decide)
      have e3 : nI 7 = 7 := rfl
      rw [e3] at e1 e2
      rw [e1, e2]
      omega
    · decide
  unfold pyC
  rw [← hx]
  unfold pyD
  rw [upd_eq, upd_ne (show ¬ 64 + 5 * j = 64 + 5 * j + 3 by omega)]
  by_cases q : x = 7
  · have q' : ¬ x < 7 := fun z => h7.mp z q
    have d0 : w (64 + 5 * j) = 0 := by
      rcases Decidable.em (w (64 + 5 * j) = 0) with z | z
      · exact z
      · rw [if_neg z] at hx
        rw [hx] at q
        exact absurd q (by decide)
    rw [if_pos q]
    refine ⟨upS (upS σ 12 i j x) 11 i j (-1), fun fs Q => ?_, CS_free (CS_good h hj) hj (by rw [upS_ne (by omega)]; exact hh), Fr_trans (Fr_upS (by omega) (by omega)) (Fr_upS (by omega) (by omega))⟩
    simp only [aX5_takeTurn_152, aX5_takeTurn_153, Nat.zero_le, Nat.reduceLeDiff, Nat.reduceAdd, i1_0, rr_c3, zc9, oc9, zc10, oc10, zc11, oc11, zc12, oc12, zc13, oc13, zc15, oc15, Int32.lt_irrefl, Nat.zero_lt_one, Rt_cons, Rt_void, isB_0, isB_1, isB_b, true_and, and_true, cats_nil, cats_int, cats_ref, and_self, if_true, if_false, ite_self, le_nlt, ite_not]
    rw [aX5_takeTurn_154 hi, sp_goodDay hi hj h hx, if_neg q']
    have f10 : upS (upS σ 12 i j x) 11 i j (-1) 10 i j = 0 := by rw [upS_ne (by omega), upS_ne (by omega), cj.1, d0]
    have f9 : upS (upS σ 12 i j x) 11 i j (-1) 9 i 0 = σ 9 i 0 := by rw [upS_ne (by omega), upS_ne (by omega)]
    have f8 : upS (upS σ 12 i j x) 11 i j (-1) 8 (rr (σ 9 i 0)) g = pt := by rw [upS_ne (by omega), upS_ne (by omega), hp]
    simp only [aX5_takeTurn_157, aX5_takeTurn_158, aX5_takeTurn_161, aX5_takeTurn_162, aX5_takeTurn_163, aX5_takeTurn_164, aX5_takeTurn_167, aX5_takeTurn_170, aX5_takeTurn_171, aX5_takeTurn_172, aX5_takeTurn_193, Nat.zero_le, Nat.reduceLeDiff, Nat.reduceAdd, i1_0, rr_c3, zc9, oc9, zc10, oc10, zc11, oc11, zc12, oc12, zc13, oc13, zc15, oc15, Int32.lt_irrefl, Nat.zero_lt_one, Rt_cons, Rt_void, isB_0, isB_1, isB_b, true_and, and_true, cats_nil, cats_int, cats_ref, and_self, if_true, if_false, ite_self, le_nlt, ite_not, c9, c10, c11, c12, c13, c15, aT_10, aT_11, aT_12, aT_13, aT_15, aN_10, aN_11, aN_12, aN_13, aN_15, aT_8, aN_8, r8, in7 hj, in7 hg, cl10 (show j < 10000 by omega), cl10 (show g < 10000 by omega), f10, f9, f8, hp0]
  · have q' : x < 7 := h7.mpr q
    rw [if_neg q]
    have f10 : upS σ 12 i j x 10 i j = w (64 + 5 * j) := by rw [upS_ne (by omega), cj.1]
    have f9 : upS σ 12 i j x 9 i 0 = σ 9 i 0 := by rw [upS_ne (by omega)]
    have f8 : upS σ 12 i j x 8 (rr (σ 9 i 0)) g = pt := by rw [upS_ne (by omega), hp]
    have f7 : upS σ 12 i j x 7 (rr (σ 9 i 0)) g = kd := by rw [upS_ne (by omega), hk]
    by_cases q1 : pt < w (64 + 5 * j)
    · by_cases q2 : kd = 2
      · rw [if_neg (fun z => z.2 q2)]
        refine ⟨upS σ 12 i j x, fun fs Q => ?_, CS_good h hj, Fr_upS (by omega) (by omega)⟩
        simp only [aX5_takeTurn_152, aX5_takeTurn_153, Nat.zero_le, Nat.reduceLeDiff, Nat.reduceAdd, i1_0, rr_c3, zc9, oc9, zc10, oc10, zc11, oc11, zc12, oc12, zc13, oc13, zc15, oc15, Int32.lt_irrefl, Nat.zero_lt_one, Rt_cons, Rt_void, isB_0, isB_1, isB_b, true_and, and_true, cats_nil, cats_int, cats_ref, and_self, if_true, if_false, ite_self, le_nlt, ite_not]
        rw [aX5_takeTurn_154 hi, sp_goodDay hi hj h hx, if_pos q']
        simp only [aX5_takeTurn_157, aX5_takeTurn_158, aX5_takeTurn_161, aX5_takeTurn_162, aX5_takeTurn_163, aX5_takeTurn_164, aX5_takeTurn_167, aX5_takeTurn_170, aX5_takeTurn_171, aX5_takeTurn_172, aX5_takeTurn_175, aX5_takeTurn_176, aX5_takeTurn_179, aX5_takeTurn_182, aX5_takeTurn_183, aX5_takeTurn_184, aX5_takeTurn_185, aX5_takeTurn_188, aX5_takeTurn_189, aX5_takeTurn_190, aX5_takeTurn_193, Nat.zero_le, Nat.reduceLeDiff, Nat.reduceAdd, i1_0, rr_c3, zc9, oc9, zc10, oc10, zc11, oc11, zc12, oc12, zc13, oc13, zc15, oc15, Int32.lt_irrefl, Nat.zero_lt_one, Rt_cons, Rt_void, isB_0, isB_1, isB_b, true_and, and_true, cats_nil, cats_int, cats_ref, and_self, if_true, if_false, ite_self, le_nlt, ite_not, c9, c10, c11, c12, c13, c15, aT_10, aT_11, aT_12, aT_13, aT_15, aN_10, aN_11, aN_12, aN_13, aN_15, aT_8, aN_8, r8, aT_7, aN_7, r7, in7 hj, in7 hg, cl10 (show j < 10000 by omega), cl10 (show g < 10000 by omega), f10, f9, f8, f7, q1, q2]
      · rw [if_pos ⟨q1, q2⟩]
        refine ⟨putC (upS σ 12 i j x) i j, fun fs Q => ?_, CS_put (CS_good h hj) hj, Fr_trans (Fr_upS (by omega) (by omega)) Fr_put⟩
        simp only [aX5_takeTurn_152, aX5_takeTurn_153, Nat.zero_le, Nat.reduceLeDiff, Nat.reduceAdd, i1_0, rr_c3, zc9, oc9, zc10, oc10, zc11, oc11, zc12, oc12, zc13, oc13, zc15, oc15, Int32.lt_irrefl, Nat.zero_lt_one, Rt_cons, Rt_void, isB_0, isB_1, isB_b, true_and, and_true, cats_nil, cats_int, cats_ref, and_self, if_true, if_false, ite_self, le_nlt, ite_not]
        rw [aX5_takeTurn_154 hi, sp_goodDay hi hj h hx, if_pos q']
        simp only [aX5_takeTurn_157, aX5_takeTurn_158, aX5_takeTurn_161, aX5_takeTurn_162, aX5_takeTurn_163, aX5_takeTurn_164, aX5_takeTurn_167, aX5_takeTurn_170, aX5_takeTurn_171, aX5_takeTurn_172, aX5_takeTurn_175, aX5_takeTurn_176, aX5_takeTurn_179, aX5_takeTurn_182, aX5_takeTurn_183, aX5_takeTurn_184, aX5_takeTurn_185, aX5_takeTurn_188, aX5_takeTurn_189, aX5_takeTurn_190, aX5_takeTurn_193, sp_evict hi hj, Nat.zero_le, Nat.reduceLeDiff, Nat.reduceAdd, i1_0, rr_c3, zc9, oc9, zc10, oc10, zc11, oc11, zc12, oc12, zc13, oc13, zc15, oc15, Int32.lt_irrefl, Nat.zero_lt_one, Rt_cons, Rt_void, isB_0, isB_1, isB_b, true_and, and_true, cats_nil, cats_int, cats_ref, and_self, if_true, if_false, ite_self, le_nlt, ite_not, c9, c10, c11, c12, c13, c15, aT_10, aT_11, aT_12, aT_13, aT_15, aN_10, aN_11, aN_12, aN_13, aN_15, aT_8, aN_8, r8, aT_7, aN_7, r7, in7 hj, in7 hg, cl10 (show j < 10000 by omega), cl10 (show g < 10000 by omega), f10, f9, f8, f7, q1, q2]
    · rw [if_neg (fun z => q1 z.1)]
      refine ⟨upS σ 12 i j x, fun fs Q => ?_, CS_good h hj, Fr_upS (by omega) (by omega)⟩
      simp only [aX5_takeTurn_152, aX5_takeTurn_153, Nat.zero_le, Nat.reduceLeDiff, Nat.reduceAdd, i1_0, rr_c3, zc9, oc9, zc10, oc10, zc11, oc11, zc12, oc12, zc13, oc13, zc15, oc15, Int32.lt_irrefl, Nat.zero_lt_one, Rt_cons, Rt_void, isB_0, isB_1, isB_b, true_and, and_true, cats_nil, cats_int, cats_ref, and_self, if_true, if_false, ite_self, le_nlt, ite_not]
      rw [aX5_takeTurn_154 hi, sp_goodDay hi hj h hx, if_pos q']
      simp only [aX5_takeTurn_157, aX5_takeTurn_158, aX5_takeTurn_161, aX5_takeTurn_162, aX5_takeTurn_163, aX5_takeTurn_164, aX5_takeTurn_167, aX5_takeTurn_170, aX5_takeTurn_171, aX5_takeTurn_172, aX5_takeTurn_193, Nat.zero_le, Nat.reduceLeDiff, Nat.reduceAdd, i1_0, rr_c3, zc9, oc9, zc10, oc10, zc11, oc11, zc12, oc12, zc13, oc13, zc15, oc15, Int32.lt_irrefl, Nat.zero_lt_one, Rt_cons, Rt_void, isB_0, isB_1, isB_b, true_and, and_true, cats_nil, cats_int, cats_ref, and_self, if_true, if_false, ite_self, le_nlt, ite_not, c9, c10, c11, c12, c13, c15, aT_10, aT_11, aT_12, aT_13, aT_15, aN_10, aN_11, aN_12, aN_13, aN_15, aT_8, aN_8, r8, in7 hj, in7 hg, cl10 (show j < 10000 by omega), cl10 (show g < 10000 by omega), f10, f9, f8, q1]
end S58
