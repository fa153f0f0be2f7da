-- fault, seed, feed, tear, write
theorem api_fault : Sim Rel mX7_fault mX8_fault [] := by
  refine Sim_of (Lc := [.ref (ad 0 0)]) (Lm := [.ref (ad 29 0)]) rfl rfl (fun σ hR => ⟨σ, σ, σ 1 0 2, ?_, ?_, hR⟩)
  · simp only [aX7_fault_0, aX7_fault_1, aX7_fault_4, aX7_fault_7, Nat.zero_le, Nat.reduceLeDiff, Nat.reduceAdd, i1_0, rr_c3, zc9, oc9, zc10, oc10, zc11, oc11, zc12, oc12, zc13, oc13, zc15, oc15, Int32.lt_irrefl, Nat.zero_lt_one, Rt_cons, Rt_void, isB_0, isB_1, isB_b, true_and, and_true, cats_nil, cats_int, cats_ref, and_self, if_true, if_false, ite_self, le_nlt, ite_not, Rt_nil]
  · simp only [aX8_fault_0, aX8_fault_1, aX8_fault_4, Nat.zero_le, Nat.reduceLeDiff, Nat.reduceAdd, i1_0, rr_c3, zc9, oc9, zc10, oc10, zc11, oc11, zc12, oc12, zc13, oc13, zc15, oc15, Int32.lt_irrefl, Nat.zero_lt_one, Rt_cons, Rt_void, isB_0, isB_1, isB_b, true_and, and_true, cats_nil, cats_int, cats_ref, and_self, if_true, if_false, ite_self, le_nlt, ite_not, Rt_nil]
    rw [hR.1.2]
theorem api_seed (x : Int32) : Sim Rel mX7_seed mX8_seed [.int x] := by
  refine Sim_of (Lc := [.ref (ad 0 0), .int x, .null]) (Lm := [.ref (ad 29 0), .int x, .null]) rfl rfl (fun σ hR => ?_)
  by_cases h : x < 0
  · refine ⟨σ, σ, -1000000002, ?_, ?_, hR⟩
    · simp only [aX7_seed_0, aX7_seed_1, aX7_seed_4, aX7_seed_6, aX7_seed_7, aX7_seed_8, aX7_seed_11, aX7_seed_12, aX7_seed_13, aX7_seed_14, aX7_seed_17, aX7_seed_18, Nat.zero_le, Nat.reduceLeDiff, Nat.reduceAdd, i1_0, rr_c3, zc9, oc9, zc10, oc10, zc11, oc11, zc12, oc12, zc13, oc13, zc15, oc15, Int32.lt_irrefl, Nat.zero_lt_one, Rt_cons, Rt_void, isB_0, isB_1, isB_b, true_and, and_true, cats_nil, cats_int, cats_ref, and_self, if_true, if_false, ite_self, le_nlt, ite_not, Rt_nil, h, not_true_eq_false, not_false_eq_true]
    · simp only [aX8_seed_0, aX8_seed_1, aX8_seed_4, aX8_seed_6, aX8_seed_7, aX8_seed_8, aX8_seed_11, aX8_seed_12, aX8_seed_13, aX8_seed_14, aX8_seed_17, aX8_seed_18, Nat.zero_le, Nat.reduceLeDiff, Nat.reduceAdd, i1_0, rr_c3, zc9, oc9, zc10, oc10, zc11, oc11, zc12, oc12, zc13, oc13, zc15, oc15, Int32.lt_irrefl, Nat.zero_lt_one, Rt_cons, Rt_void, isB_0, isB_1, isB_b, true_and, and_true, cats_nil, cats_int, cats_ref, and_self, if_true, if_false, ite_self, le_nlt, ite_not, Rt_nil, h, not_true_eq_false, not_false_eq_true]
  · refine ⟨upS σ 0 0 8 x, upS (upS σ 0 0 8 x) 29 0 22 x, σ 29 0 22, ?_, ?_, ?_⟩
    · simp only [aX7_seed_0, aX7_seed_1, aX7_seed_4, aX7_seed_6, aX7_seed_7, aX7_seed_8, aX7_seed_11, aX7_seed_12, aX7_seed_13, aX7_seed_14, aX7_seed_17, aX7_seed_18, Nat.zero_le, Nat.reduceLeDiff, Nat.reduceAdd, i1_0, rr_c3, zc9, oc9, zc10, oc10, zc11, oc11, zc12, oc12, zc13, oc13, zc15, oc15, Int32.lt_irrefl, Nat.zero_lt_one, Rt_cons, Rt_void, isB_0, isB_1, isB_b, true_and, and_true, cats_nil, cats_int, cats_ref, and_self, if_true, if_false, ite_self, le_nlt, ite_not, Rt_nil, h, not_true_eq_false, not_false_eq_true, hR.2.1.1]
    · simp only [aX8_seed_0, aX8_seed_1, aX8_seed_4, aX8_seed_6, aX8_seed_7, aX8_seed_8, aX8_seed_11, aX8_seed_12, aX8_seed_13, aX8_seed_14, aX8_seed_17, aX8_seed_18, Nat.zero_le, Nat.reduceLeDiff, Nat.reduceAdd, i1_0, rr_c3, zc9, oc9, zc10, oc10, zc11, oc11, zc12, oc12, zc13, oc13, zc15, oc15, Int32.lt_irrefl, Nat.zero_lt_one, Rt_cons, Rt_void, isB_0, isB_1, isB_b, true_and, and_true, cats_nil, cats_int, cats_ref, and_self, if_true, if_false, ite_self, le_nlt, ite_not, Rt_nil, h, not_true_eq_false, not_false_eq_true]
      simp [upS, updK]
    · obtain ⟨r1, r2, C, N, G, r3, r4, r5, r6, r7⟩ := hR
      have hne : ∀ k i, k ≠ 0 → k ≠ 29 → upS (upS σ 0 0 8 x) 29 0 22 x k i = σ k i := fun k i a b => (upS_ne (fun z => b z.1)).trans (upS_ne (fun z => a z.1))
      generalize hτ : upS (upS σ 0 0 8 x) 29 0 22 x = τ at hne ⊢
      have e0 : τ 0 0 = upd (σ 0 0) 8 x := by rw [← hτ]; simp [upS, updK]
      have e29 : τ 29 0 = upd (σ 29 0) 22 x := by rw [← hτ]; simp [upS, updK]
      have e9 := hne 9 0 (by decide) (by decide)
      refine ⟨TxtR_congr r1 (hne _ _ (by decide) (by decide)) (hne _ _ (by decide) (by decide)) (hne _ _ (by decide) (by decide)) (by rw [e29]; rfl) (by rw [e29]; rfl), ⟨by rw [e0, e29]; rfl, by rw [e29]; exact h⟩, C, N, G, ?_, ?_, ?_, ?_, ?_⟩
      · exact NowR_congr r3 (by rw [e0]; rfl) (fun k q a => hne _ _ (by omega) (by omega)) (fun k a b => hne _ _ (by omega) (by omega)) (fun k a => hne _ _ (by omega) (by omega)) (hne _ _ (by decide) (by decide))
      · exact EarR_congr r4 (by rw [hne 20 0 (by decide) (by decide)]) (by rw [e29]; rfl) (hne _ _ (by decide) (by decide)) (hne _ _ (by decide) (by decide)) (hne _ _ (by decide) (by decide)) (hne _ _ (by decide) (by decide))
      · exact BookR_congr r5 (by rw [hne 26 0 (by decide) (by decide)]) (by rw [e29]; rfl) (hne _ _ (by decide) (by decide)) (hne _ _ (by decide) (by decide)) (hne _ _ (by decide) (by decide))
      · rw [e9]
        exact PastR_congr r6 (hne _ _ (by decide) (by decide)) (by rw [e29]; rfl) (hne _ _ (by decide) (by decide)) (fun k i a b _ _ => hne _ _ (by omega) (by omega))
      · rw [e9]
        exact ImgR_congr r7 (fun i => hne _ _ (by decide) (by decide)) (hne _ _ (by decide) (by decide)) (hne _ _ (by decide) (by decide)) (hne _ _ (by decide) (by decide)) (fun k i a b _ _ => hne _ _ (by omega) (by omega))
