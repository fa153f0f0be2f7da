-- nothing is told yet: the rest (parts written by a program of mine)
section S91
variable {σ : Mem} {fs : List Fm} {M : List va_E} {Q : List va_E → Option Value → Prop}
theorem z_feed (x : Int32) : SimZ mX7_feed mX8_feed [.int x] := by
  refine Z_of (Lc := [.ref (ad 0 0), .int x]) (Lm := [.ref (ad 29 0), .int x]) rfl rfl (fun σ hR => ?_)
  by_cases h : x < 0 ∨ 255 < x
  · refine ⟨σ, σ, -1000000002, ?_, ?_, Or.inr hR⟩
    · simp only [aX7_feed_0, aX7_feed_1, aX7_feed_2, aX7_feed_5, aX7_feed_8, aX7_feed_11, aX7_feed_13, aX7_feed_14, aX7_feed_15, aX7_feed_18, aX7_feed_19, aX7_feed_22, aX7_feed_25, aX7_feed_26, aX7_feed_29, aX7_feed_32, aX7_feed_35, aX7_feed_37, sp_isOutside, Nat.zero_le, Nat.reduceLeDiff, Nat.reduceAdd, i1_0, rr_c3, zc9, oc9, zc10, oc10, zc11, oc11, zc12, oc12, zc13, oc13, zc15, oc15, Int32.lt_irrefl, Nat.zero_lt_one, Rt_cons, Rt_void, isB_0, isB_1, isB_b, true_and, and_true, cats_nil, cats_int, cats_ref, and_self, if_true, if_false, ite_self, le_nlt, ite_not, Rt_nil, bI_t h]
    · simp only [aX8_feed_0, aX8_feed_1, aX8_feed_2, aX8_feed_5, aX8_feed_8, aX8_feed_11, aX8_feed_13, aX8_feed_14, aX8_feed_15, aX8_feed_18, aX8_feed_21, aX8_feed_24, aX8_feed_26, aX8_feed_27, aX8_feed_28, aX8_feed_31, aX8_feed_32, aX8_feed_35, aX8_feed_36, aX8_feed_37, aX8_feed_38i, aX8_feed_38a, aX8_feed_39, aX8_feed_42, aX8_feed_43, aX8_feed_44, aX8_feed_47, aX8_feed_48, aX8_feed_51, sp_in, Nat.zero_le, Nat.reduceLeDiff, Nat.reduceAdd, i1_0, rr_c3, zc9, oc9, zc10, oc10, zc11, oc11, zc12, oc12, zc13, oc13, zc15, oc15, Int32.lt_irrefl, Nat.zero_lt_one, Rt_cons, Rt_void, isB_0, isB_1, isB_b, true_and, and_true, cats_nil, cats_int, cats_ref, and_self, if_true, if_false, ite_self, le_nlt, ite_not, Rt_nil, bI_f (show ¬ (¬ x < 0 ∧ ¬ 255 < x) from fun z => h.elim z.1 z.2)]
  · obtain ⟨hx0, hx1⟩ := not_out.mp h
    obtain ⟨d, hd, rfl⟩ := nI_of2 (M := 255) (n := 255) (by decide) hx0 (Int32.not_lt.mp hx1)
    obtain ⟨r1, r2, hz⟩ := id hR
    obtain ⟨⟨c, c1, c2, c3, c4⟩, c5⟩ := r1
    have hin : (¬ nI d < 0 ∧ ¬ 255 < nI d) := ⟨hx0, hx1⟩
    have n240 : nI 240 = 240 := rfl
    by_cases hc : c = 240
    · subst hc
      refine ⟨σ, σ, -1000000004, ?_, ?_, Or.inr hR⟩
      · simp only [aX7_feed_0, aX7_feed_1, aX7_feed_2, aX7_feed_5, aX7_feed_8, aX7_feed_11, aX7_feed_13, aX7_feed_14, aX7_feed_15, aX7_feed_18, aX7_feed_19, aX7_feed_22, aX7_feed_25, aX7_feed_26, aX7_feed_29, aX7_feed_32, aX7_feed_35, aX7_feed_37, aX6_append_0, aX6_append_1, aX6_append_4, aX6_append_7, aX6_append_10, aX6_append_11, aX6_append_12, aX6_append_13, aX6_append_16, aX6_append_17, aX6_append_20, aX6_append_21, aX6_append_22, aX6_append_23, aX6_append_24i, aX6_append_24a, aX6_append_25, aX6_append_28, aX6_append_29, aX6_append_30, aX6_append_33, aX6_append_34, sp_isOutside, Nat.zero_le, Nat.reduceLeDiff, Nat.reduceAdd, i1_0, rr_c3, zc9, oc9, zc10, oc10, zc11, oc11, zc12, oc12, zc13, oc13, zc15, oc15, Int32.lt_irrefl, Nat.zero_lt_one, Rt_cons, Rt_void, isB_0, isB_1, isB_b, true_and, and_true, cats_nil, cats_int, cats_ref, and_self, if_true, if_false, ite_self, le_nlt, ite_not, Rt_nil, bI_f h, c2, n240]
      · simp only [aX8_feed_0, aX8_feed_1, aX8_feed_2, aX8_feed_5, aX8_feed_8, aX8_feed_11, aX8_feed_13, aX8_feed_14, aX8_feed_15, aX8_feed_18, aX8_feed_21, aX8_feed_24, aX8_feed_26, aX8_feed_27, aX8_feed_28, aX8_feed_31, aX8_feed_32, aX8_feed_35, aX8_feed_36, aX8_feed_37, aX8_feed_38i, aX8_feed_38a, aX8_feed_39, aX8_feed_42, aX8_feed_43, aX8_feed_44, aX8_feed_47, aX8_feed_48, aX8_feed_51, sp_in, Nat.zero_le, Nat.reduceLeDiff, Nat.reduceAdd, i1_0, rr_c3, zc9, oc9, zc10, oc10, zc11, oc11, zc12, oc12, zc13, oc13, zc15, oc15, Int32.lt_irrefl, Nat.zero_lt_one, Rt_cons, Rt_void, isB_0, isB_1, isB_b, true_and, and_true, cats_nil, cats_int, cats_ref, and_self, if_true, if_false, ite_self, le_nlt, ite_not, Rt_nil, bI_t hin, c3, n240]
    · have hc2 : c < 240 := by omega
      have l1 : nI c < 240 := nI_lt (b := 240) hc2 (by decide)
      have l2 : ¬ nI c = 240 := fun z => by
        have := (nI_eq (a := c) (b := 240) (by omega) (by decide)).mp z
        omega
      have v1 : vp_in (nI c) 240 := vp_in_nI hc2 (by decide)
      have cl : (nI c).toNatClampNeg = c := nI_clamp (by omega)
      refine ⟨upS (upS σ 2 0 c (nI d)) 1 0 1 (nI c + 1), upS (upS (upS (upS σ 2 0 c (nI d)) 1 0 1 (nI c + 1)) 30 0 c (nI d)) 29 0 1 (nI c + 1), nI c + 1, ?_, ?_, ?_⟩
      · simp only [aX7_feed_0, aX7_feed_1, aX7_feed_2, aX7_feed_5, aX7_feed_8, aX7_feed_11, aX7_feed_13, aX7_feed_14, aX7_feed_15, aX7_feed_18, aX7_feed_19, aX7_feed_22, aX7_feed_25, aX7_feed_26, aX7_feed_29, aX7_feed_32, aX7_feed_35, aX7_feed_37, aX6_append_0, aX6_append_1, aX6_append_4, aX6_append_7, aX6_append_10, aX6_append_11, aX6_append_12, aX6_append_13, aX6_append_16, aX6_append_17, aX6_append_20, aX6_append_21, aX6_append_22, aX6_append_23, aX6_append_24i, aX6_append_24a, aX6_append_25, aX6_append_28, aX6_append_29, aX6_append_30, aX6_append_33, aX6_append_34, sp_isOutside, Nat.zero_le, Nat.reduceLeDiff, Nat.reduceAdd, i1_0, rr_c3, zc9, oc9, zc10, oc10, zc11, oc11, zc12, oc12, zc13, oc13, zc15, oc15, Int32.lt_irrefl, Nat.zero_lt_one, Rt_cons, Rt_void, isB_0, isB_1, isB_b, true_and, and_true, cats_nil, cats_int, cats_ref, and_self, if_true, if_false, ite_self, le_nlt, ite_not, Rt_nil, bI_f h, c2, cnt_2, aT_2, aN_2, l1, v1, cl, i2c_nI hd, nar_c hd]
        simp [upS, updK, upd, c2]
      · simp only [aX8_feed_0, aX8_feed_1, aX8_feed_2, aX8_feed_5, aX8_feed_8, aX8_feed_11, aX8_feed_13, aX8_feed_14, aX8_feed_15, aX8_feed_18, aX8_feed_21, aX8_feed_24, aX8_feed_26, aX8_feed_27, aX8_feed_28, aX8_feed_31, aX8_feed_32, aX8_feed_35, aX8_feed_36, aX8_feed_37, aX8_feed_38i, aX8_feed_38a, aX8_feed_39, aX8_feed_42, aX8_feed_43, aX8_feed_44, aX8_feed_47, aX8_feed_48, aX8_feed_51, sp_in, Nat.zero_le, Nat.reduceLeDiff, Nat.reduceAdd, i1_0, rr_c3, zc9, oc9, zc10, oc10, zc11, oc11, zc12, oc12, zc13, oc13, zc15, oc15, Int32.lt_irrefl, Nat.zero_lt_one, Rt_cons, Rt_void, isB_0, isB_1, isB_b, true_and, and_true, cats_nil, cats_int, cats_ref, and_self, if_true, if_false, ite_self, le_nlt, ite_not, Rt_nil, bI_t hin, cnt_30, aT_30, aN_30, upS_ne (show ¬ (29 = 1 ∧ 0 = 0) by decide), upS_ne (show ¬ (29 = 2 ∧ 0 = 0) by decide), upS_ne (show ¬ (29 = 30 ∧ 0 = 0) by decide), c3, l2, v1, cl, upS_eq, upd_eq]
      · have hne : ∀ k i, (k ≠ 2 ∧ k ≠ 1 ∧ k ≠ 30 ∧ k ≠ 29) → upS (upS (upS (upS σ 2 0 c (nI d)) 1 0 1 (nI c + 1)) 30 0 c (nI d)) 29 0 1 (nI c + 1) k i = σ k i := fun k i a => (upS_ne (fun z => a.2.2.2 z.1)).trans ((upS_ne (fun z => a.2.2.1 z.1)).trans ((upS_ne (fun z => a.2.1 z.1)).trans (upS_ne (fun z => a.1 z.1))))
        have e29 : upS (upS (upS (upS σ 2 0 c (nI d)) 1 0 1 (nI c + 1)) 30 0 c (nI d)) 29 0 1 (nI c + 1) 29 0 = upd (σ 29 0) 1 (nI c + 1) := by simp [upS, updK]
        have e1 : upS (upS (upS (upS σ 2 0 c (nI d)) 1 0 1 (nI c + 1)) 30 0 c (nI d)) 29 0 1 (nI c + 1) 1 0 = upd (σ 1 0) 1 (nI c + 1) := by simp [upS, updK]
        have e2 : upS (upS (upS (upS σ 2 0 c (nI d)) 1 0 1 (nI c + 1)) 30 0 c (nI d)) 29 0 1 (nI c + 1) 2 0 = upd (σ 2 0) c (nI d) := by simp [upS, updK]
        have e30 : upS (upS (upS (upS σ 2 0 c (nI d)) 1 0 1 (nI c + 1)) 30 0 c (nI d)) 29 0 1 (nI c + 1) 30 0 = upd (σ 30 0) c (nI d) := by simp [upS, updK]
        generalize upS (upS (upS (upS σ 2 0 c (nI d)) 1 0 1 (nI c + 1)) 30 0 c (nI d)) 29 0 1 (nI c + 1) = τ at hne e29 e1 e2 e30 ⊢
        refine Or.inr ⟨⟨⟨c + 1, by omega, by rw [e1, upd_eq, nI_succ], by rw [e29, upd_eq, nI_succ], fun j hj => ?_⟩, ?_⟩, SeedR_congr r2 (by rw [hne 0 0 (by decide)]) (by rw [e29]; first | done | rfl), Z0_congr hz (by rw [hne 0 0 (by omega)]) (hne _ _ (by omega)) (fun k i a b _ => hne _ _ (by omega)) (hne _ _ (by omega)) (fun i => hne _ _ (by omega)) (by rw [hne 20 0 (by omega)]) (by rw [hne 26 0 (by omega)]) (hne _ _ (by omega)) (hne _ _ (by omega)) (hne _ _ (by omega)) (hne _ _ (by omega)) (hne _ _ (by omega)) (by rw [e29]; rfl) (by rw [e29]; rfl) (by rw [e29]; rfl)⟩
        · rw [e2, e30]
          by_cases hjc : j = c
          · subst hjc
            rw [upd_eq, upd_eq]
            exact ⟨rfl, d, hd, rfl⟩
          · rw [upd_ne hjc, upd_ne hjc]
            exact c4 j (by omega)
        · rw [e1, e29]
          exact c5
theorem z_seed (x : Int32) : SimZ mX7_seed mX8_seed [.int x] := by
  refine Z_of (Lc := [.ref (ad 0 0), .int x, .null]) (Lm := [.ref (ad 29 0), .int x, .null]) rfl rfl (fun σ hR => ?_)
  by_cases h : x < 0
  · refine ⟨σ, σ, -1000000002, ?_, ?_, Or.inr hR⟩
    · simp only [aX7_seed_0, aX7_seed_1, aX7_seed_4, aX7_seed_6, aX7_seed_7, aX7_seed_8, aX7_seed_11, aX7_seed_12, aX7_seed_13, aX7_seed_14, aX7_seed_17, aX7_seed_18, Nat.zero_le, Nat.reduceLeDiff, Nat.reduceAdd, i1_0, rr_c3, zc9, oc9, zc10, oc10, zc11, oc11, zc12, oc12, zc13, oc13, zc15, oc15, Int32.lt_irrefl, Nat.zero_lt_one, Rt_cons, Rt_void, isB_0, isB_1, isB_b, true_and, and_true, cats_nil, cats_int, cats_ref, and_self, if_true, if_false, ite_self, le_nlt, ite_not, Rt_nil, h, not_true_eq_false, not_false_eq_true]
    · simp only [aX8_seed_0, aX8_seed_1, aX8_seed_4, aX8_seed_6, aX8_seed_7, aX8_seed_8, aX8_seed_11, aX8_seed_12, aX8_seed_13, aX8_seed_14, aX8_seed_17, aX8_seed_18, Nat.zero_le, Nat.reduceLeDiff, Nat.reduceAdd, i1_0, rr_c3, zc9, oc9, zc10, oc10, zc11, oc11, zc12, oc12, zc13, oc13, zc15, oc15, Int32.lt_irrefl, Nat.zero_lt_one, Rt_cons, Rt_void, isB_0, isB_1, isB_b, true_and, and_true, cats_nil, cats_int, cats_ref, and_self, if_true, if_false, ite_self, le_nlt, ite_not, Rt_nil, h, not_true_eq_false, not_false_eq_true]
  · refine ⟨upS σ 0 0 8 x, upS (upS σ 0 0 8 x) 29 0 22 x, σ 29 0 22, ?_, ?_, ?_⟩
    · simp only [aX7_seed_0, aX7_seed_1, aX7_seed_4, aX7_seed_6, aX7_seed_7, aX7_seed_8, aX7_seed_11, aX7_seed_12, aX7_seed_13, aX7_seed_14, aX7_seed_17, aX7_seed_18, Nat.zero_le, Nat.reduceLeDiff, Nat.reduceAdd, i1_0, rr_c3, zc9, oc9, zc10, oc10, zc11, oc11, zc12, oc12, zc13, oc13, zc15, oc15, Int32.lt_irrefl, Nat.zero_lt_one, Rt_cons, Rt_void, isB_0, isB_1, isB_b, true_and, and_true, cats_nil, cats_int, cats_ref, and_self, if_true, if_false, ite_self, le_nlt, ite_not, Rt_nil, h, not_true_eq_false, not_false_eq_true, hR.2.1.1]
    · simp only [aX8_seed_0, aX8_seed_1, aX8_seed_4, aX8_seed_6, aX8_seed_7, aX8_seed_8, aX8_seed_11, aX8_seed_12, aX8_seed_13, aX8_seed_14, aX8_seed_17, aX8_seed_18, Nat.zero_le, Nat.reduceLeDiff, Nat.reduceAdd, i1_0, rr_c3, zc9, oc9, zc10, oc10, zc11, oc11, zc12, oc12, zc13, oc13, zc15, oc15, Int32.lt_irrefl, Nat.zero_lt_one, Rt_cons, Rt_void, isB_0, isB_1, isB_b, true_and, and_true, cats_nil, cats_int, cats_ref, and_self, if_true, if_false, ite_self, le_nlt, ite_not, Rt_nil, h, not_true_eq_false, not_false_eq_true]
      simp [upS, updK]
    · obtain ⟨r1, r2, hz⟩ := hR
      have hne : ∀ k i, (k ≠ 0 ∧ k ≠ 29) → upS (upS σ 0 0 8 x) 29 0 22 x k i = σ k i := fun k i a => (upS_ne (fun z => a.2 z.1)).trans (upS_ne (fun z => a.1 z.1))
      generalize hτ : upS (upS σ 0 0 8 x) 29 0 22 x = τ at hne ⊢
      have e0 : τ 0 0 = upd (σ 0 0) 8 x := by rw [← hτ]; simp [upS, updK]
      have e29 : τ 29 0 = upd (σ 29 0) 22 x := by rw [← hτ]; simp [upS, updK]
      exact Or.inr ⟨TxtR_congr r1 (hne _ _ (by decide)) (hne _ _ (by decide)) (hne _ _ (by decide)) (by rw [e29]; rfl) (by rw [e29]; rfl), ⟨by rw [e0, e29]; rfl, by rw [e29]; exact h⟩, Z0_congr hz (by rw [e0]; rfl) (hne _ _ (by omega)) (fun k i a b _ => hne _ _ (by omega)) (hne _ _ (by omega)) (fun i => hne _ _ (by omega)) (by rw [hne 20 0 (by omega)]) (by rw [hne 26 0 (by omega)]) (hne _ _ (by omega)) (hne _ _ (by omega)) (hne _ _ (by omega)) (hne _ _ (by omega)) (hne _ _ (by omega)) (by rw [e29]; rfl) (by rw [e29]; rfl) (by rw [e29]; rfl)⟩
theorem z_tear : SimZ mX7_tear mX8_tear [] := by
  refine Z_of (Lc := [.ref (ad 0 0), .null]) (Lm := [.ref (ad 29 0), .null]) rfl rfl (fun σ hR => ?_)
  obtain ⟨t0, s0, ⟨⟨l0, l1, l2⟩, ⟨k0, k1, k2⟩, hne⟩, ⟨cs, w0, w1, w2, w3⟩, ⟨⟨e1, e2⟩, ⟨b1, b2⟩⟩, ⟨p1, ⟨px, p2, p3⟩, p4⟩, im⟩ := id hR
  have hq := rr_lt (σ 9 0 0)
  rw [nI_0] at e1 e2 b1 b2
  have u1 : upS σ 20 0 3 0 = σ := upS_self e1
  have u2 : upS σ 26 0 2 0 = σ := upS_self b1
  have u3 : upS σ 29 0 24 0 = σ := upS_self e2
  have u4 : upS σ 29 0 26 0 = σ := upS_self b2
  refine ⟨σ, σ, 0 + 0, ?_, ?_, Or.inr hR⟩
  · simp only [aX7_tear_0, aX7_tear_1, aX7_tear_4, aX7_tear_7, aX7_tear_8, aX7_tear_11, aX7_tear_14, aX7_tear_15, aX7_tear_16, aX7_tear_17, aX7_tear_20, aX7_tear_21, aX7_tear_24, aX7_tear_25, aX7_tear_28, aX7_tear_29, aX7_tear_32, aX7_tear_33, Nat.zero_le, Nat.reduceLeDiff, Nat.reduceAdd, i1_0, rr_c3, zc9, oc9, zc10, oc10, zc11, oc11, zc12, oc12, zc13, oc13, zc15, oc15, Int32.lt_irrefl, Nat.zero_lt_one, Rt_cons, Rt_void, isB_0, isB_1, isB_b, true_and, and_true, cats_nil, cats_int, cats_ref, and_self, if_true, if_false, ite_self, le_nlt, ite_not, Rt_nil, e1, b1, u1, u2]
  · simp only [aX8_tear_0, aX8_tear_1, aX8_tear_4, aX8_tear_5, aX8_tear_8, aX8_tear_9, aX8_tear_10, aX8_tear_11, aX8_tear_12, aX8_tear_15, aX8_tear_16, aX8_tear_17, aX8_tear_20, aX8_tear_21, Nat.zero_le, Nat.reduceLeDiff, Nat.reduceAdd, i1_0, rr_c3, zc9, oc9, zc10, oc10, zc11, oc11, zc12, oc12, zc13, oc13, zc15, oc15, Int32.lt_irrefl, Nat.zero_lt_one, Rt_cons, Rt_void, isB_0, isB_1, isB_b, true_and, and_true, cats_nil, cats_int, cats_ref, and_self, if_true, if_false, ite_self, le_nlt, ite_not, Rt_nil, e2, b2, u3, u4]
theorem z_keep (x : Int32) : SimZ mX7_keep mX8_keep [.int x] := by
  refine Z_of (Lc := [.ref (ad 0 0), .int x, .null]) (Lm := [.ref (ad 29 0), .int x]) rfl rfl (fun σ hR => ?_)
  by_cases ho : x < 0 ∨ 1 < x
  · refine ⟨σ, σ, -1000000001, ?_, ?_, Or.inr hR⟩
    · simp only [aX7_keep_0, aX7_keep_1, aX7_keep_2, aX7_keep_3, aX7_keep_6, aX7_keep_9, aX7_keep_11, sp_isOutside, Nat.zero_le, Nat.reduceLeDiff, Nat.reduceAdd, i1_0, rr_c3, zc9, oc9, zc10, oc10, zc11, oc11, zc12, oc12, zc13, oc13, zc15, oc15, Int32.lt_irrefl, Nat.zero_lt_one, Rt_cons, Rt_void, isB_0, isB_1, isB_b, true_and, and_true, cats_nil, cats_int, cats_ref, and_self, if_true, if_false, ite_self, le_nlt, ite_not, Rt_nil, bI_t ho]
    · simp only [aX8_keep_0, aX8_keep_1, aX8_keep_2, aX8_keep_3, aX8_keep_6, aX8_keep_9, aX8_keep_11, sp_in, Nat.zero_le, Nat.reduceLeDiff, Nat.reduceAdd, i1_0, rr_c3, zc9, oc9, zc10, oc10, zc11, oc11, zc12, oc12, zc13, oc13, zc15, oc15, Int32.lt_irrefl, Nat.zero_lt_one, Rt_cons, Rt_void, isB_0, isB_1, isB_b, true_and, and_true, cats_nil, cats_int, cats_ref, and_self, if_true, if_false, ite_self, le_nlt, ite_not, Rt_nil, bI_f (show ¬ (¬ x < 0 ∧ ¬ 1 < x) from fun z => ho.elim z.1 z.2)]
  · obtain ⟨t, ht, rfl⟩ := fl2 ho
    have hin := not_out.mp ho
    obtain ⟨r1, r2, hz⟩ := id hR
    have cs := hz.2.1.1
    have hb := CS_bool cs
    have v2 : vp_in (nI t) 2 := vp_in_nI ht (by decide)
    have ct : (nI t).toNatClampNeg = t := nI_clamp (by omega)
    have t19 : t < cnt 19 := by rw [cnt_19]; exact ht
    have c32 : 32 + t < cnt 9 := by rw [cnt_9]; omega
    have e0 : cpF σ (32 + t) 0 0 0 = σ 0 0 := cpF_ne (by omega)
    refine ⟨upS (upS (upS (cpF σ (32 + t) 0) 19 t 1 (σ 0 0 8)) 19 t 2 1) 16 0 2 0, upS (upS (upS (cpM (upS (upS (upS (cpF σ (32 + t) 0) 19 t 1 (σ 0 0 8)) 19 t 2 1) 16 0 2 0) 43 0 46 (99 * t)) 47 0 t (σ 29 0 22)) 48 0 t 1) 29 0 18 0, 1, ?_, ?_, ?_⟩
    · simp only [aX7_keep_0, aX7_keep_1, aX7_keep_2, aX7_keep_3, aX7_keep_6, aX7_keep_9, aX7_keep_11, aX7_keep_12, aX7_keep_13, aX7_keep_16, aX7_keep_17s, aX7_keep_17m, aX7_keep_18, aX7_keep_19, aX7_keep_20, aX7_keep_23, aX7_keep_24, aX7_keep_27, sp_isOutside, Nat.zero_le, Nat.reduceLeDiff, Nat.reduceAdd, i1_0, rr_c3, zc9, oc9, zc10, oc10, zc11, oc11, zc12, oc12, zc13, oc13, zc15, oc15, Int32.lt_irrefl, Nat.zero_lt_one, Rt_cons, Rt_void, isB_0, isB_1, isB_b, true_and, and_true, cats_nil, cats_int, cats_ref, and_self, if_true, if_false, ite_self, le_nlt, ite_not, Rt_nil, bI_f ho, v2, ct, t19, c32]
      rw [sp_copyFrom (by decide) (by omega) (by omega) hb]
      simp only [aX7_keep_30, aX7_keep_31, aX7_keep_32, aX7_keep_35, aX7_keep_38, aX7_keep_39, aX7_keep_40_0, aX7_keep_40_1, aX7_keep_43, aX7_keep_44, aX7_keep_47, aX7_keep_50, aX7_keep_51, sp_forget, Nat.zero_le, Nat.reduceLeDiff, Nat.reduceAdd, i1_0, rr_c3, zc9, oc9, zc10, oc10, zc11, oc11, zc12, oc12, zc13, oc13, zc15, oc15, Int32.lt_irrefl, Nat.zero_lt_one, Rt_cons, Rt_void, isB_0, isB_1, isB_b, true_and, and_true, cats_nil, cats_int, cats_ref, and_self, if_true, if_false, ite_self, le_nlt, ite_not, Rt_nil, t19, e0]
    · have hm : ∀ k i, 29 ≤ k → upS (upS (upS (cpF σ (32 + t) 0) 19 t 1 (σ 0 0 8)) 19 t 2 1) 16 0 2 0 k i = σ k i := fun k i a => by rw [upS_ne (by omega), upS_ne (by omega), upS_ne (by omega), cpF_ne (by omega)]
      generalize upS (upS (upS (cpF σ (32 + t) 0) 19 t 1 (σ 0 0 8)) 19 t 2 1) 16 0 2 0 = σ1 at hm ⊢
      have z0 : nI 0 = 0 := rfl
      have e3 : (99 : Int32) * nI t = nI (99 * t) := pk_mul 99 t
      simp only [aX8_keep_0, aX8_keep_1, aX8_keep_2, aX8_keep_3, aX8_keep_6, aX8_keep_9, aX8_keep_11, aX8_keep_12, aX8_keep_13, aX8_keep_16, aX8_keep_17, aX8_keep_18, aX8_keep_21, aX8_keep_23, aX8_keep_24, aX8_keep_25, sp_in, Nat.zero_le, Nat.reduceLeDiff, Nat.reduceAdd, i1_0, rr_c3, zc9, oc9, zc10, oc10, zc11, oc11, zc12, oc12, zc13, oc13, zc15, oc15, Int32.lt_irrefl, Nat.zero_lt_one, Rt_cons, Rt_void, isB_0, isB_1, isB_b, true_and, and_true, cats_nil, cats_int, cats_ref, and_self, if_true, if_false, ite_self, le_nlt, ite_not, Rt_nil, bI_t hin, e3]
      rw [← z0, sp_copies (by decide) (by decide) (by decide) (by decide) (by decide) (by decide) (by rw [aN_46]; omega) (by decide) (by decide)]
      have m29 : cpM σ1 43 0 46 (99 * t) 29 0 22 = σ 29 0 22 := by unfold cpM; rw [updK_ne (by decide), hm 29 0 (by omega)]
      simp only [aX8_keep_28, aX8_keep_29, aX8_keep_32, aX8_keep_33, aX8_keep_34, aX8_keep_37, aX8_keep_38, aX8_keep_39, aX8_keep_42, aX8_keep_43, aX8_keep_44, aX8_keep_45, aX8_keep_46, aX8_keep_47, aX8_keep_50, aX8_keep_51, Nat.zero_le, Nat.reduceLeDiff, Nat.reduceAdd, i1_0, rr_c3, zc9, oc9, zc10, oc10, zc11, oc11, zc12, oc12, zc13, oc13, zc15, oc15, Int32.lt_irrefl, Nat.zero_lt_one, Rt_cons, Rt_void, isB_0, isB_1, isB_b, true_and, and_true, cats_nil, cats_int, cats_ref, and_self, if_true, if_false, ite_self, le_nlt, ite_not, Rt_nil, aT_47, aN_47, cnt_47, aT_48, aN_48, cnt_48, v2, ct, m29, nar_b1, z0]
    · have hne : ∀ k i, (¬ (9 ≤ k ∧ k ≤ 15 ∧ i = 32 + t) ∧ k ≠ 19 ∧ k ≠ 16 ∧ k ≠ 46 ∧ k ≠ 47 ∧ k ≠ 48 ∧ k ≠ 29) → upS (upS (upS (cpM (upS (upS (upS (cpF σ (32 + t) 0) 19 t 1 (σ 0 0 8)) 19 t 2 1) 16 0 2 0) 43 0 46 (99 * t)) 47 0 t (σ 29 0 22)) 48 0 t 1) 29 0 18 0 k i = σ k i := fun k i a => by
        unfold cpM
        rw [upS_ne (by omega), upS_ne (by omega), upS_ne (by omega), updK_ne (by omega), upS_ne (by omega), upS_ne (by omega), upS_ne (by omega), cpF_ne (by omega)]
      have e29 : upS (upS (upS (cpM (upS (upS (upS (cpF σ (32 + t) 0) 19 t 1 (σ 0 0 8)) 19 t 2 1) 16 0 2 0) 43 0 46 (99 * t)) 47 0 t (σ 29 0 22)) 48 0 t 1) 29 0 18 0 29 0 = upd (σ 29 0) 18 0 := by
        unfold cpM
        rw [upS_eq, upS_ne (by omega), upS_ne (by omega), updK_ne (by omega), upS_ne (by omega), upS_ne (by omega), upS_ne (by omega), cpF_ne (by omega)]
      have e16 : upS (upS (upS (cpM (upS (upS (upS (cpF σ (32 + t) 0) 19 t 1 (σ 0 0 8)) 19 t 2 1) 16 0 2 0) 43 0 46 (99 * t)) 47 0 t (σ 29 0 22)) 48 0 t 1) 29 0 18 0 16 0 = upd (σ 16 0) 2 0 := by
        unfold cpM
        rw [upS_ne (by omega), upS_ne (by omega), upS_ne (by omega), updK_ne (by omega), upS_eq, upS_ne (by omega), upS_ne (by omega), cpF_ne (by omega)]
      have e46 : upS (upS (upS (cpM (upS (upS (upS (cpF σ (32 + t) 0) 19 t 1 (σ 0 0 8)) 19 t 2 1) 16 0 2 0) 43 0 46 (99 * t)) 47 0 t (σ 29 0 22)) 48 0 t 1) 29 0 18 0 46 0 = va_cpy (σ 43 0) (σ 46 0) 0 (99 * t) 99 := by
        unfold cpM
        rw [upS_ne (by omega), upS_ne (by omega), upS_ne (by omega), updK_eq, upS_ne (by omega), upS_ne (by omega), upS_ne (by omega), cpF_ne (by omega), upS_ne (by omega), upS_ne (by omega), upS_ne (by omega), cpF_ne (by omega)]
      have e47 : upS (upS (upS (cpM (upS (upS (upS (cpF σ (32 + t) 0) 19 t 1 (σ 0 0 8)) 19 t 2 1) 16 0 2 0) 43 0 46 (99 * t)) 47 0 t (σ 29 0 22)) 48 0 t 1) 29 0 18 0 47 0 = upd (σ 47 0) t (σ 29 0 22) := by
        unfold cpM
        rw [upS_ne (by omega), upS_ne (by omega), upS_eq, updK_ne (by omega), upS_ne (by omega), upS_ne (by omega), upS_ne (by omega), cpF_ne (by omega)]
      have e48 : upS (upS (upS (cpM (upS (upS (upS (cpF σ (32 + t) 0) 19 t 1 (σ 0 0 8)) 19 t 2 1) 16 0 2 0) 43 0 46 (99 * t)) 47 0 t (σ 29 0 22)) 48 0 t 1) 29 0 18 0 48 0 = upd (σ 48 0) t 1 := by
        unfold cpM
        rw [upS_ne (by omega), upS_eq, upS_ne (by omega), updK_ne (by omega), upS_ne (by omega), upS_ne (by omega), upS_ne (by omega), cpF_ne (by omega)]
      have e19 : upS (upS (upS (cpM (upS (upS (upS (cpF σ (32 + t) 0) 19 t 1 (σ 0 0 8)) 19 t 2 1) 16 0 2 0) 43 0 46 (99 * t)) 47 0 t (σ 29 0 22)) 48 0 t 1) 29 0 18 0 19 t = upd (upd (σ 19 t) 1 (σ 0 0 8)) 2 1 := by
        unfold cpM
        rw [upS_ne (by omega), upS_ne (by omega), upS_ne (by omega), updK_ne (by omega), upS_ne (by omega), upS_eq, upS_eq, cpF_ne (by omega)]
      have f19 : ∀ i, ¬ i = t → upS (upS (upS (cpM (upS (upS (upS (cpF σ (32 + t) 0) 19 t 1 (σ 0 0 8)) 19 t 2 1) 16 0 2 0) 43 0 46 (99 * t)) 47 0 t (σ 29 0 22)) 48 0 t 1) 29 0 18 0 19 i = σ 19 i := fun i hi => by
        unfold cpM
        rw [upS_ne (by omega), upS_ne (by omega), upS_ne (by omega), updK_ne (by omega), upS_ne (by omega), upS_ne (by omega), upS_ne (by omega), cpF_ne (by omega)]
      have est : ∀ k, 9 ≤ k → k ≤ 15 → upS (upS (upS (cpM (upS (upS (upS (cpF σ (32 + t) 0) 19 t 1 (σ 0 0 8)) 19 t 2 1) 16 0 2 0) 43 0 46 (99 * t)) 47 0 t (σ 29 0 22)) 48 0 t 1) 29 0 18 0 k (32 + t) = cpF σ (32 + t) 0 k (32 + t) := fun k a b => by
        unfold cpM
        rw [upS_ne (by omega), upS_ne (by omega), upS_ne (by omega), updK_ne (by omega), upS_ne (by omega), upS_ne (by omega), upS_ne (by omega)]
      generalize upS (upS (upS (cpM (upS (upS (upS (cpF σ (32 + t) 0) 19 t 1 (σ 0 0 8)) 19 t 2 1) 16 0 2 0) 43 0 46 (99 * t)) 47 0 t (σ 29 0 22)) 48 0 t 1) 29 0 18 0 = τ at hne e29 e16 e46 e47 e48 e19 f19 est ⊢
      have en : ∀ k, 9 ≤ k → k ≤ 15 → τ k 0 = σ k 0 := fun k a b => hne k 0 (by omega)
      obtain ⟨⟨l, kk, n⟩, ⟨_, w⟩, ⟨ee, bb⟩, ⟨p1, px, p4⟩, im⟩ := hz
      have e9 := en 9 (by omega) (by omega)
      refine Or.inr ⟨TxtR_congr r1 (hne _ _ (by omega)) (hne _ _ (by omega)) (hne _ _ (by omega)) (by rw [e29]; rfl) (by rw [e29]; rfl), SeedR_congr r2 (by rw [hne 0 0 (by omega)]) (by rw [e29]; rfl), ⟨by rw [hne 31 0 (by omega)]; exact l, by rw [e9, hne 3 _ (by omega)]; exact kk, by rw [e9, hne 0 0 (by omega)]; exact n⟩, ⟨CS_congr cs en (fun _ _ => rfl), by rw [hne 43 0 (by omega)]; exact w⟩, ⟨by rw [hne 20 0 (by omega), e29]; exact ee, by rw [hne 26 0 (by omega), e29]; exact bb⟩, ⟨by rw [e16]; rfl, by rw [e16]; exact px, by rw [e29]; rfl⟩, fun i hi => ?_⟩
      rw [e9, e46, e47, e48]
      by_cases hit : i = t
      · subst hit
        rw [e19, upd_eq, upd_eq, upd_eq]
        refine ⟨rfl, Or.inr ⟨rfl, by rw [upd_ne (by decide), upd_eq]; exact r2.1, r2.2, CS_congr (CS_copy (i := 0) (j := 32 + i) (by omega) cs) est (fun _ _ => rfl), ?_, fun s hs => ?_⟩⟩
        · rw [est 9 (by omega) (by omega), cpF_row (by omega)]
        · rw [pk_cpy_in (by omega) (by omega), show 0 + (99 * i + s - 99 * i) = s by omega]
          rcases (show s = 0 ∨ s = 1 ∨ s = 2 ∨ s = 3 by omega) with z | z | z | z <;> rw [z]
          · exact w.1
          · exact w.2.1
          · exact w.2.2.1
          · exact w.2.2.2
      · rw [f19 i hit, upd_ne hit, upd_ne hit]
        obtain ⟨g1, g2⟩ := im i hi
        have hk : ∀ k, 9 ≤ k → k ≤ 15 → τ k (32 + i) = σ k (32 + i) := fun k a b => hne k _ (by omega)
        exact ⟨g1, g2.imp id (fun ⟨a1, a2, a3, a4, a5, a6⟩ => ⟨a1, a2, a3, CS_congr a4 hk (fun _ _ => rfl), by rw [hk 9 (by omega) (by omega)]; exact a5, fun s hs => by rw [pk_cpy_out (by omega)]; exact a6 s hs⟩)⟩
theorem z_goBack (x : Int32) : SimZ mX7_goBack mX8_goBack [.int x] := by
  refine Z_of (Lc := [.ref (ad 0 0), .int x, .null]) (Lm := [.ref (ad 29 0), .int x]) rfl rfl (fun σ hR => ?_)
  by_cases ho : x < 0 ∨ 1 < x
  · refine ⟨σ, σ, -1000000001, ?_, ?_, Or.inr hR⟩
    · simp only [aX7_goBack_0, aX7_goBack_1, aX7_goBack_2, aX7_goBack_3, aX7_goBack_6, aX7_goBack_9, aX7_goBack_11, sp_isOutside, Nat.zero_le, Nat.reduceLeDiff, Nat.reduceAdd, i1_0, rr_c3, zc9, oc9, zc10, oc10, zc11, oc11, zc12, oc12, zc13, oc13, zc15, oc15, Int32.lt_irrefl, Nat.zero_lt_one, Rt_cons, Rt_void, isB_0, isB_1, isB_b, true_and, and_true, cats_nil, cats_int, cats_ref, and_self, if_true, if_false, ite_self, le_nlt, ite_not, Rt_nil, bI_t ho]
    · simp only [aX8_goBack_0, aX8_goBack_1, aX8_goBack_2, aX8_goBack_3, aX8_goBack_6, aX8_goBack_9, aX8_goBack_11, sp_in, Nat.zero_le, Nat.reduceLeDiff, Nat.reduceAdd, i1_0, rr_c3, zc9, oc9, zc10, oc10, zc11, oc11, zc12, oc12, zc13, oc13, zc15, oc15, Int32.lt_irrefl, Nat.zero_lt_one, Rt_cons, Rt_void, isB_0, isB_1, isB_b, true_and, and_true, cats_nil, cats_int, cats_ref, and_self, if_true, if_false, ite_self, le_nlt, ite_not, Rt_nil, bI_f (show ¬ (¬ x < 0 ∧ ¬ 1 < x) from fun z => ho.elim z.1 z.2)]
  · obtain ⟨t, ht, rfl⟩ := fl2 ho
    have hin := not_out.mp ho
    obtain ⟨r1, r2, hz⟩ := id hR
    have r7 := hz.2.2.2.2
    have v2 : vp_in (nI t) 2 := vp_in_nI ht (by decide)
    have ct : (nI t).toNatClampNeg = t := nI_clamp (by omega)
    have t19 : t < cnt 19 := by rw [cnt_19]; exact ht
    have c32 : 32 + t < cnt 9 := by rw [cnt_9]; omega
    obtain ⟨g1, g2⟩ := r7 t ht
    rcases g2 with g2 | ⟨a1, a2, a3, a4, a5, a6⟩
    · have g3 : σ 19 t 2 = 0 := g1.trans g2
      refine ⟨σ, σ, -1000000003, ?_, ?_, Or.inr hR⟩
      · simp only [aX7_goBack_0, aX7_goBack_1, aX7_goBack_2, aX7_goBack_3, aX7_goBack_6, aX7_goBack_9, aX7_goBack_11, aX7_goBack_12, aX7_goBack_13, aX7_goBack_16, aX7_goBack_17s, aX7_goBack_17m, aX7_goBack_18, aX7_goBack_19, aX7_goBack_20, aX7_goBack_23, aX7_goBack_26, aX7_goBack_28, sp_isOutside, Nat.zero_le, Nat.reduceLeDiff, Nat.reduceAdd, i1_0, rr_c3, zc9, oc9, zc10, oc10, zc11, oc11, zc12, oc12, zc13, oc13, zc15, oc15, Int32.lt_irrefl, Nat.zero_lt_one, Rt_cons, Rt_void, isB_0, isB_1, isB_b, true_and, and_true, cats_nil, cats_int, cats_ref, and_self, if_true, if_false, ite_self, le_nlt, ite_not, Rt_nil, bI_f ho, v2, ct, t19, g3, not_true_eq_false]
      · simp only [aX8_goBack_0, aX8_goBack_1, aX8_goBack_2, aX8_goBack_3, aX8_goBack_6, aX8_goBack_9, aX8_goBack_11, aX8_goBack_12, aX8_goBack_13, aX8_goBack_16, aX8_goBack_17, aX8_goBack_18, aX8_goBack_21, aX8_goBack_23, sp_in, Nat.zero_le, Nat.reduceLeDiff, Nat.reduceAdd, i1_0, rr_c3, zc9, oc9, zc10, oc10, zc11, oc11, zc12, oc12, zc13, oc13, zc15, oc15, Int32.lt_irrefl, Nat.zero_lt_one, Rt_cons, Rt_void, isB_0, isB_1, isB_b, true_and, and_true, cats_nil, cats_int, cats_ref, and_self, if_true, if_false, ite_self, le_nlt, ite_not, Rt_nil, bI_t hin, aT_48, aN_48, cnt_48, v2, ct, g2, not_true_eq_false]
    · have g3 : σ 19 t 2 = 1 := g1.trans a1
      have hb := CS_bool a4
      have e19 : cpF σ 0 (32 + t) 19 t = σ 19 t := cpF_ne (by omega)
      have z0 : nI 0 = 0 := rfl
      refine ⟨upS (upS (cpF σ 0 (32 + t)) 0 0 8 (σ 47 0 t)) 16 0 2 0, upS (upS (cpM (upS (upS (cpF σ 0 (32 + t)) 0 0 8 (σ 47 0 t)) 16 0 2 0) 46 (99 * t) 43 0) 29 0 22 (σ 47 0 t)) 29 0 18 0, 1, ?_, ?_, ?_⟩
      · simp only [aX7_goBack_0, aX7_goBack_1, aX7_goBack_2, aX7_goBack_3, aX7_goBack_6, aX7_goBack_9, aX7_goBack_11, aX7_goBack_12, aX7_goBack_13, aX7_goBack_16, aX7_goBack_17s, aX7_goBack_17m, aX7_goBack_18, aX7_goBack_19, aX7_goBack_20, aX7_goBack_23, aX7_goBack_26, aX7_goBack_28, aX7_goBack_29, aX7_goBack_30, aX7_goBack_33, aX7_goBack_34, aX7_goBack_37, sp_isOutside, Nat.zero_le, Nat.reduceLeDiff, Nat.reduceAdd, i1_0, rr_c3, zc9, oc9, zc10, oc10, zc11, oc11, zc12, oc12, zc13, oc13, zc15, oc15, Int32.lt_irrefl, Nat.zero_lt_one, Rt_cons, Rt_void, isB_0, isB_1, isB_b, true_and, and_true, cats_nil, cats_int, cats_ref, and_self, if_true, if_false, ite_self, le_nlt, ite_not, Rt_nil, bI_f ho, v2, ct, t19, c32, g3, not_false_eq_true]
        rw [sp_copyFrom (by omega) (by omega) (by omega) hb]
        simp only [aX7_goBack_40, aX7_goBack_41, aX7_goBack_42, aX7_goBack_45, aX7_goBack_48, aX7_goBack_49, aX7_goBack_52, aX7_goBack_55, aX7_goBack_56, sp_forget, Nat.zero_le, Nat.reduceLeDiff, Nat.reduceAdd, i1_0, rr_c3, zc9, oc9, zc10, oc10, zc11, oc11, zc12, oc12, zc13, oc13, zc15, oc15, Int32.lt_irrefl, Nat.zero_lt_one, Rt_cons, Rt_void, isB_0, isB_1, isB_b, true_and, and_true, cats_nil, cats_int, cats_ref, and_self, if_true, if_false, ite_self, le_nlt, ite_not, Rt_nil, t19, e19, a2]
      · have hm : ∀ k i, 29 ≤ k → upS (upS (cpF σ 0 (32 + t)) 0 0 8 (σ 47 0 t)) 16 0 2 0 k i = σ k i := fun k i a => by rw [upS_ne (by omega), upS_ne (by omega), cpF_ne (by omega)]
        generalize upS (upS (cpF σ 0 (32 + t)) 0 0 8 (σ 47 0 t)) 16 0 2 0 = σ1 at hm ⊢
        have e3 : (99 : Int32) * nI t = nI (99 * t) := pk_mul 99 t
        have m48 : σ1 48 0 t = 1 := by rw [hm _ _ (by omega)]; exact a1
        simp only [aX8_goBack_0, aX8_goBack_1, aX8_goBack_2, aX8_goBack_3, aX8_goBack_6, aX8_goBack_9, aX8_goBack_11, aX8_goBack_12, aX8_goBack_13, aX8_goBack_16, aX8_goBack_17, aX8_goBack_18, aX8_goBack_21, aX8_goBack_23, aX8_goBack_24, aX8_goBack_25, aX8_goBack_28, aX8_goBack_30, aX8_goBack_31, aX8_goBack_32, aX8_goBack_33, aX8_goBack_36, aX8_goBack_37, sp_in, Nat.zero_le, Nat.reduceLeDiff, Nat.reduceAdd, i1_0, rr_c3, zc9, oc9, zc10, oc10, zc11, oc11, zc12, oc12, zc13, oc13, zc15, oc15, Int32.lt_irrefl, Nat.zero_lt_one, Rt_cons, Rt_void, isB_0, isB_1, isB_b, true_and, and_true, cats_nil, cats_int, cats_ref, and_self, if_true, if_false, ite_self, le_nlt, ite_not, Rt_nil, bI_t hin, aT_48, aN_48, cnt_48, v2, ct, m48, e3, not_false_eq_true]
        rw [← z0, sp_copies (by decide) (by decide) (by decide) (by decide) (by decide) (by rw [aN_46]; omega) (by decide) (by decide) (by decide)]
        have m47 : cpM σ1 46 (99 * t) 43 0 47 0 t = σ 47 0 t := by unfold cpM; rw [updK_ne (by decide), hm 47 0 (by omega)]
        simp only [aX8_goBack_40, aX8_goBack_41, aX8_goBack_42, aX8_goBack_45, aX8_goBack_46, aX8_goBack_47, aX8_goBack_50, aX8_goBack_51, aX8_goBack_52, aX8_goBack_55, aX8_goBack_56, Nat.zero_le, Nat.reduceLeDiff, Nat.reduceAdd, i1_0, rr_c3, zc9, oc9, zc10, oc10, zc11, oc11, zc12, oc12, zc13, oc13, zc15, oc15, Int32.lt_irrefl, Nat.zero_lt_one, Rt_cons, Rt_void, isB_0, isB_1, isB_b, true_and, and_true, cats_nil, cats_int, cats_ref, and_self, if_true, if_false, ite_self, le_nlt, ite_not, Rt_nil, aT_47, aN_47, cnt_47, v2, ct, m47, z0]
      · generalize hτ : upS (upS (cpM (upS (upS (cpF σ 0 (32 + t)) 0 0 8 (σ 47 0 t)) 16 0 2 0) 46 (99 * t) 43 0) 29 0 22 (σ 47 0 t)) 29 0 18 0 = τ
        have hne : ∀ k i, (¬ (9 ≤ k ∧ k ≤ 15 ∧ i = 0) ∧ k ≠ 0 ∧ k ≠ 16 ∧ k ≠ 43 ∧ k ≠ 29) → τ k i = σ k i := fun k i a => by
          rw [← hτ]; unfold cpM
          rw [upS_ne (by omega), upS_ne (by omega), updK_ne (by omega), upS_ne (by omega), upS_ne (by omega), cpF_ne (by omega)]
        have e29 : τ 29 0 = upd (upd (σ 29 0) 22 (σ 47 0 t)) 18 0 := by
          rw [← hτ]; unfold cpM
          rw [upS_eq, upS_eq, updK_ne (by omega), upS_ne (by omega), upS_ne (by omega), cpF_ne (by omega)]
        have e16 : τ 16 0 = upd (σ 16 0) 2 0 := by
          rw [← hτ]; unfold cpM
          rw [upS_ne (by omega), upS_ne (by omega), updK_ne (by omega), upS_eq, upS_ne (by omega), cpF_ne (by omega)]
        have e0 : τ 0 0 = upd (σ 0 0) 8 (σ 47 0 t) := by
          rw [← hτ]; unfold cpM
          rw [upS_ne (by omega), upS_ne (by omega), updK_ne (by omega), upS_ne (by omega), upS_eq, cpF_ne (by omega)]
        have e43 : τ 43 0 = va_cpy (σ 46 0) (σ 43 0) (99 * t) 0 99 := by
          rw [← hτ]; unfold cpM
          rw [upS_ne (by omega), upS_ne (by omega), updK_eq, upS_ne (by omega), upS_ne (by omega), cpF_ne (by omega), upS_ne (by omega), upS_ne (by omega), cpF_ne (by omega)]
        have est : ∀ k, 9 ≤ k → k ≤ 15 → τ k 0 = cpF σ 0 (32 + t) k 0 := fun k a b => by
          rw [← hτ]; unfold cpM
          rw [upS_ne (by omega), upS_ne (by omega), updK_ne (by omega), upS_ne (by omega), upS_ne (by omega)]
        clear hτ
        have erow : rr (τ 9 0 0) = rr (σ 9 0 0) := by rw [est 9 (by omega) (by omega), cpF_row (by omega), a5]
        have hw : ∀ s, s < 99 → τ 43 0 s = σ 46 0 (99 * t + s) := fun s hs => by rw [e43, pk_cpy_in (by omega) (by omega), show 99 * t + (s - 0) = 99 * t + s by omega]
        obtain ⟨⟨l, kk, n⟩, ⟨_, w⟩, ⟨ee, bb⟩, ⟨p1, px, p4⟩, im⟩ := hz
        refine Or.inr ⟨TxtR_congr r1 (hne _ _ (by omega)) (hne _ _ (by omega)) (hne _ _ (by omega)) (by rw [e29]; rfl) (by rw [e29]; rfl), ⟨by rw [e0, e29]; rfl, by rw [e29]; exact a3⟩, ⟨by rw [hne 31 0 (by omega)]; exact l, by rw [erow, hne 3 _ (by omega)]; exact kk, by rw [erow, e0]; exact n⟩, ⟨CS_congr (CS_copy (i := 32 + t) (j := 0) (by omega) a4) est (fun _ _ => rfl), ?_, ?_, ?_, ?_⟩, ⟨by rw [hne 20 0 (by omega), e29]; exact ee, by rw [hne 26 0 (by omega), e29]; exact bb⟩, ⟨by rw [e16]; rfl, by rw [e16]; exact px, by rw [e29]; rfl⟩, fun i hi => ?_⟩
        · rw [hw 0 (by omega)]; exact a6 0 (by omega)
        · rw [hw 1 (by omega)]; exact a6 1 (by omega)
        · rw [hw 2 (by omega)]; exact a6 2 (by omega)
        · rw [hw 3 (by omega)]; exact a6 3 (by omega)
        · have hk : ∀ k, 9 ≤ k → k ≤ 15 → τ k (32 + i) = σ k (32 + i) := fun k a b => hne k _ (by omega)
          rw [erow, hne 19 _ (by omega), hne 46 0 (by omega), hne 47 0 (by omega), hne 48 0 (by omega), hk 9 (by omega) (by omega)]
          obtain ⟨g1, g2⟩ := im i hi
          exact ⟨g1, g2.imp id (fun ⟨a1, a2, a3, a4, a5, a6⟩ => ⟨a1, a2, a3, CS_congr a4 hk (fun _ _ => rfl), a5, a6⟩)⟩
/-- what only calls that try change is nothing of it -/
theorem Z_free {τ : Mem} (hR : Rel0 σ) (hne : ∀ k i, ¬ (9 ≤ k ∧ k ≤ 15 ∧ i = 1) → ¬ k = 44 → ¬ k = 29 → ¬ k = 20 → ¬ k = 24 → ¬ k = 25 → ¬ k = 51 → τ k i = σ k i) (h20 : τ 20 0 3 = σ 20 0 3) (h29 : ∀ s, s < 27 → τ 29 0 s = σ 29 0 s) : RelA τ := by
  obtain ⟨r1, r2, hz⟩ := hR
  have h := fun k i (a : ¬ (9 ≤ k ∧ k ≤ 15 ∧ i = 1) ∧ k ≠ 44 ∧ k ≠ 29 ∧ k ≠ 20 ∧ k ≠ 24 ∧ k ≠ 25 ∧ k ≠ 51) => hne k i a.1 a.2.1 a.2.2.1 a.2.2.2.1 a.2.2.2.2.1 a.2.2.2.2.2.1 a.2.2.2.2.2.2
  exact Or.inr ⟨TxtR_congr r1 (h _ _ (by omega)) (h _ _ (by omega)) (h _ _ (by omega)) (h29 _ (by omega)) (h29 _ (by omega)), SeedR_congr r2 (by rw [h 0 0 (by omega)]) (h29 _ (by omega)), Z0_congr hz (by rw [h 0 0 (by omega)]) (h _ _ (by omega)) (fun k i a b _ => h _ _ (by omega)) (h _ _ (by omega)) (fun i => h _ _ (by omega)) h20 (by rw [h 26 0 (by omega)]) (h _ _ (by omega)) (h _ _ (by omega)) (h _ _ (by omega)) (h _ _ (by omega)) (h _ _ (by omega)) (h29 _ (by omega)) (h29 _ (by omega)) (h29 _ (by omega))⟩
def zf : F1 := fun _ => 0
def Fz : F1 → F1 := passW zf zf zf zf 0 0
theorem rn0 : RN zf zf zf zf 0 0 0 := ⟨by omega, by omega, by omega, fun _ => rfl, fun j hj => absurd hj (Nat.not_lt_zero _), fun j hj => absurd hj (Nat.not_lt_zero _), fun j hj => absurd hj (Nat.not_lt_zero _)⟩
theorem NWp_F : NWp 0 0 zf wF := by
  refine ⟨fun a ha => by unfold wF; rw [if_pos ha], fun h hh => ?_⟩
  rw [if_neg (Nat.not_lt_zero _), if_neg (Nat.not_lt_zero _), if_neg (Nat.not_lt_zero _)]
  unfold wF
  rw [if_neg (by omega), if_neg (by omega), if_neg (by omega), if_neg (by omega), if_pos (by omega), if_neg (by omega), if_neg (by omega), if_pos (by omega), if_neg (by omega), if_neg (by omega), if_neg (by omega), if_neg (by omega), if_neg (by omega), if_neg (by omega)]
  exact ⟨rfl, rfl, rfl, rfl, rfl⟩
theorem WH_F : WH 10000 0 0 wF := ⟨WFw_new NWp_F (by omega) (by omega) (fun h hh => absurd hh (Nat.not_lt_zero _)), fun j hj z => by
  rw [(NWp_F.2 j hj).2.1, if_neg (Nat.not_lt_zero _)] at z
  exact absurd z (by decide)⟩
theorem cE_F : cE7 wF = 0 := by decide
theorem cE_Fz {u : F1} (e : cE7 u = 0) (k : Nat) : cE7 (itW Fz k u) = 0 := by
  have g : Gr 0 u (itW Fz k u) := Gr_it Gr_refl
  have := (cE_iff (by omega) g).2.mpr (fun t ht => absurd ht (Nat.not_lt_zero _))
  rw [← this, e]
theorem zT_RC {σ0 : Mem} {v : F1} (hz : Z0 σ0) (h : TrC σ0 σ v) : RC σ (rr (σ 9 1 0)) zf zf zf zf 0 0 0 := by
  have e := h.2.2 3 (rr (σ0 9 0 0)) (by omega)
  refine ⟨?_, fun j hj => absurd hj (Nat.not_lt_zero _), fun j hj => absurd hj (Nat.not_lt_zero _), fun j hj => absurd hj (Nat.not_lt_zero _)⟩
  rw [h.2.1, e]
  exact hz.1.2.1
theorem zT_cs {σ0 : Mem} {v : F1} (hz : Z0 σ0) (h : TrC σ0 σ v) : CS σ 0 wF := CS_congr hz.2.1.1 (fun k a b => h.2.2 k 0 (by omega)) (fun _ _ => rfl)
theorem zT_refl (hz : Z0 σ) : TrC σ (cpF σ 1 0) wF := ⟨CS_copy (by omega) hz.2.1.1, cpF_row (by omega), fun k i h => cpF_ne h⟩
theorem zT_re {σ0 : Mem} {v : F1} (hz : Z0 σ0) (h : TrC σ0 σ v) : TrC σ0 (cpF σ 1 0) wF := ⟨CS_copy (by omega) (zT_cs hz h), by rw [cpF_row (by omega), h.2.2 9 0 (by omega)], fun k i a => by rw [cpF_ne a, h.2.2 k i a]⟩
theorem zT_days {n : Nat} (hz : Z0 σ) (hn : n ≤ 60) : ∃ τ, (∀ fs Q, Rn mX7_tryDays 0 [.ref (ad 0 0), .int (nI n)] [] fs (enc σ) Q ↔ Rt fs (enc τ) none Q) ∧ TrC σ τ (itW Fz n wF) := by
  have t0 := zT_refl hz
  obtain ⟨τ, a1, a2, a3⟩ := sp_passDays rn0 (zT_RC hz t0) (show 1 < 34 by decide) hn (show 10000 ≤ 20000 by decide) t0.1 WH_F
  refine ⟨τ, fun fs Q => ?_, TrC_Fr t0 a3 a2⟩
  simp only [aX7_tryDays_0, aX7_tryDays_1, aX7_tryDays_4, aX7_tryDays_5, Nat.zero_le, Nat.reduceLeDiff, Nat.reduceAdd, i1_0, rr_c3, zc9, oc9, zc10, oc10, zc11, oc11, zc12, oc12, zc13, oc13, zc15, oc15, Int32.lt_irrefl, Nat.zero_lt_one, Rt_cons, Rt_void, isB_0, isB_1, isB_b, true_and, and_true, cats_nil, cats_int, cats_ref, and_self, if_true, if_false, ite_self, le_nlt, ite_not]
  rw [aX7_tryDays_8 (by decide), sp_copyFrom (by omega) (by omega) (by omega) (CS_bool hz.2.1.1)]
  simp only [aX7_tryDays_11, aX7_tryDays_12, aX7_tryDays_15, Nat.zero_le, Nat.reduceLeDiff, Nat.reduceAdd, i1_0, rr_c3, zc9, oc9, zc10, oc10, zc11, oc11, zc12, oc12, zc13, oc13, zc15, oc15, Int32.lt_irrefl, Nat.zero_lt_one, Rt_cons, Rt_void, isB_0, isB_1, isB_b, true_and, and_true, cats_nil, cats_int, cats_ref, and_self, if_true, if_false, ite_self, le_nlt, ite_not]
  rw [aX7_tryDays_16 (by decide), a1]
  simp only [aX7_tryDays_19, Nat.zero_le, Nat.reduceLeDiff, Nat.reduceAdd, i1_0, rr_c3, zc9, oc9, zc10, oc10, zc11, oc11, zc12, oc12, zc13, oc13, zc15, oc15, Int32.lt_irrefl, Nat.zero_lt_one, Rt_cons, Rt_void, isB_0, isB_1, isB_b, true_and, and_true, cats_nil, cats_int, cats_ref, and_self, if_true, if_false, ite_self, le_nlt, ite_not]
theorem zT_out {σ0 : Mem} {B k : Nat} {u : F1} (hz : Z0 σ0) (hu : WH B 0 0 u) (e : cE7 u = 0) (h : TrC σ0 σ (itW Fz k u)) : σ 9 1 3 = 0 ∧ σ 9 0 3 = 0 := by
  constructor
  · have hh : itW Fz k u 2 = nI (cE7 (itW Fz k u)) := (WH_it rn0 hu (n := k)).1.2.2.1
    rw [h.1.2.2.1, hh, cE_Fz e]; rfl
  · rw [h.2.2 9 0 (by omega)]; exact hz.2.1.1.2.2.1
/-- the reference tries -/
theorem zM_go {n : Nat} {f : F1} (hn : n ≤ 60) (e : σ 31 0 0 = nI 0) : ∃ υ, (∀ fs Q, Rn mX8_goesOn 0 [.ref (ad 29 0), .int (nI n), .null, .null, .null, .null, .null, .null, .null] [] fs (enc (updK σ 44 0 f)) Q ↔ Rt fs (enc υ) none Q) ∧ (υ 29 0 29 = 0 ∧ υ 29 0 30 = 0 ∧ υ 29 0 31 = -1 ∧ υ 29 0 32 = -1) ∧ MTr σ υ := by
  refine ⟨_, fun fs Q => sp_goesOn0 (w0 := f) hn (by rw [updK_ne (by omega)]; exact e) (by rw [updK_eq]), ⟨gM_o, gM_r, gM_f, gM_g⟩, fun k i a b => by rw [gM_ne a b, updK_ne (by omega)], fun s hs => by rw [gM_lo (by omega), updK_ne (by omega)]⟩
theorem zM_end {σ1 σ2 : Mem} {v : F1} (hR : Rel0 σ) (h1 : TrC σ σ1 v) (h2 : MTr σ1 σ2) : RelA σ2 :=
  Z_free hR (fun k i a b c _ _ _ _ => by rw [h2.1 k i b c, h1.2.2 k i a]) (by rw [h2.1 20 0 (by decide) (by decide), h1.2.2 20 0 (by omega)]) (fun s hs => by rw [h2.2 s (by omega), h1.2.2 29 0 (by omega)])
theorem zN {σ1 : Mem} {v : F1} (hz : Z0 σ) (h1 : TrC σ σ1 v) : σ1 31 0 0 = nI 0 ∧ σ1 31 0 1 = nI 0 ∧ σ1 3 (rr (σ1 9 1 0)) 1 = nI 0 ∧ σ1 3 (rr (σ1 9 0 0)) 1 = nI 0 := by
  rw [h1.2.2 31 0 (by omega), h1.2.1, h1.2.2 9 0 (by omega), h1.2.2 3 _ (by omega)]
  exact ⟨hz.1.1.1, hz.1.1.2.1, hz.1.2.1.2.1, hz.1.2.1.2.1⟩
theorem zz00 : (0 : Int32) &&& (0 ^^^ (-1)) = 0 := by decide
theorem z_outBy (n : Int32) : SimZ mX7_outBy mX8_outBy [.int n] := by
  refine Z_of (Lc := [.ref (ad 0 0), .int n]) (Lm := [.ref (ad 29 0), .int n]) rfl rfl (fun σ hR => ?_)
  have hz := hR.2.2
  by_cases ho : n < 0 ∨ 60 < n
  · refine ⟨σ, σ, -1000000002, ?_, ?_, Or.inr hR⟩
    · simp only [aX7_outBy_0, aX7_outBy_1, aX7_outBy_2, aX7_outBy_4, aX7_outBy_7, aX7_outBy_10, aX7_outBy_12, sp_isOutside, Nat.zero_le, Nat.reduceLeDiff, Nat.reduceAdd, i1_0, rr_c3, zc9, oc9, zc10, oc10, zc11, oc11, zc12, oc12, zc13, oc13, zc15, oc15, Int32.lt_irrefl, Nat.zero_lt_one, Rt_cons, Rt_void, isB_0, isB_1, isB_b, true_and, and_true, cats_nil, cats_int, cats_ref, and_self, if_true, if_false, ite_self, le_nlt, ite_not, Rt_nil, bI_t ho]
    · simp only [aX8_outBy_0, aX8_outBy_1, aX8_outBy_2, aX8_outBy_4, aX8_outBy_7, aX8_outBy_10, aX8_outBy_12, sp_in, Nat.zero_le, Nat.reduceLeDiff, Nat.reduceAdd, i1_0, rr_c3, zc9, oc9, zc10, oc10, zc11, oc11, zc12, oc12, zc13, oc13, zc15, oc15, Int32.lt_irrefl, Nat.zero_lt_one, Rt_cons, Rt_void, isB_0, isB_1, isB_b, true_and, and_true, cats_nil, cats_int, cats_ref, and_self, if_true, if_false, ite_self, le_nlt, ite_not, Rt_nil, bI_f (show ¬ (¬ n < 0 ∧ ¬ 60 < n) from fun z => ho.elim z.1 z.2)]
  · have hin := not_out.mp ho
    obtain ⟨t, ht, rfl⟩ := nI_of2 (M := 60) (n := 60) (by decide) hin.1 (Int32.not_lt.mp hin.2)
    obtain ⟨σ1, a1, a2⟩ := zT_days hz ht
    obtain ⟨m0, m1, n1, n0⟩ := zN hz a2
    obtain ⟨σ2, b1, b2, b3⟩ := zM_go (σ := σ1) (f := va_cpy (σ1 43 0) (σ1 44 0) 0 0 99) ht m0
    have ecp : cpM σ1 43 0 44 0 = updK σ1 44 0 (va_cpy (σ1 43 0) (σ1 44 0) 0 0 99) := rfl
    refine ⟨σ1, σ2, 0, ?_, ?_, zM_end hR a2 b3⟩
    · simp only [aX7_outBy_0, aX7_outBy_1, aX7_outBy_2, aX7_outBy_4, aX7_outBy_7, aX7_outBy_10, aX7_outBy_12, aX7_outBy_13, aX7_outBy_14, sp_isOutside, Nat.zero_le, Nat.reduceLeDiff, Nat.reduceAdd, i1_0, rr_c3, zc9, oc9, zc10, oc10, zc11, oc11, zc12, oc12, zc13, oc13, zc15, oc15, Int32.lt_irrefl, Nat.zero_lt_one, Rt_cons, Rt_void, isB_0, isB_1, isB_b, true_and, and_true, cats_nil, cats_int, cats_ref, and_self, if_true, if_false, ite_self, le_nlt, ite_not, Rt_nil, bI_f ho]
      rw [aX7_outBy_15, a1]
      simp only [aX7_outBy_18, aX7_outBy_19, aX7_outBy_22, aX7_newlyEmpty_0, aX7_newlyEmpty_1, aX7_newlyEmpty_4, aX7_newlyEmpty_7, aX7_newlyEmpty_8, aX7_newlyEmpty_11, aX7_newlyEmpty_14, aX7_newlyEmpty_15, aX7_newlyEmpty_16, aX7_newlyEmpty_17, Nat.zero_le, Nat.reduceLeDiff, Nat.reduceAdd, i1_0, rr_c3, zc9, oc9, zc10, oc10, zc11, oc11, zc12, oc12, zc13, oc13, zc15, oc15, Int32.lt_irrefl, Nat.zero_lt_one, Rt_cons, Rt_void, isB_0, isB_1, isB_b, true_and, and_true, cats_nil, cats_int, cats_ref, and_self, if_true, if_false, ite_self, le_nlt, ite_not, em_set a2.1 le07 (show NoE 0 (itW Fz t wF) from NoE_of (WH_it rn0 WH_F).1), em_set (zT_cs hz a2) le07 NoE_F, bs_0, nI_0, zz00, Rt_nil]
    · simp only [aX8_outBy_0, aX8_outBy_1, aX8_outBy_2, aX8_outBy_4, aX8_outBy_7, aX8_outBy_10, aX8_outBy_12, aX8_outBy_13, aX8_outBy_14, aX8_outBy_17, aX8_outBy_18, aX8_outBy_19, aX8_outBy_22, sp_in, Nat.zero_le, Nat.reduceLeDiff, Nat.reduceAdd, i1_0, rr_c3, zc9, oc9, zc10, oc10, zc11, oc11, zc12, oc12, zc13, oc13, zc15, oc15, Int32.lt_irrefl, Nat.zero_lt_one, Rt_cons, Rt_void, isB_0, isB_1, isB_b, true_and, and_true, cats_nil, cats_int, cats_ref, and_self, if_true, if_false, ite_self, le_nlt, ite_not, Rt_nil, bI_t hin]
      rw [aX8_outBy_23, cp0, ecp]
      simp only [aX8_outBy_26, aX8_outBy_27, Nat.zero_le, Nat.reduceLeDiff, Nat.reduceAdd, i1_0, rr_c3, zc9, oc9, zc10, oc10, zc11, oc11, zc12, oc12, zc13, oc13, zc15, oc15, Int32.lt_irrefl, Nat.zero_lt_one, Rt_cons, Rt_void, isB_0, isB_1, isB_b, true_and, and_true, cats_nil, cats_int, cats_ref, and_self, if_true, if_false, ite_self, le_nlt, ite_not]
      rw [aX8_outBy_28, b1]
      simp only [aX8_outBy_31, aX8_outBy_32, aX8_outBy_35, Nat.zero_le, Nat.reduceLeDiff, Nat.reduceAdd, i1_0, rr_c3, zc9, oc9, zc10, oc10, zc11, oc11, zc12, oc12, zc13, oc13, zc15, oc15, Int32.lt_irrefl, Nat.zero_lt_one, Rt_cons, Rt_void, isB_0, isB_1, isB_b, true_and, and_true, cats_nil, cats_int, cats_ref, and_self, if_true, if_false, ite_self, le_nlt, ite_not, Rt_nil, b2.1]
theorem z_redeemedBy (n : Int32) : SimZ mX7_redeemedBy mX8_redeemedBy [.int n] := by
  refine Z_of (Lc := [.ref (ad 0 0), .int n]) (Lm := [.ref (ad 29 0), .int n]) rfl rfl (fun σ hR => ?_)
  have hz := hR.2.2
  by_cases ho : n < 0 ∨ 60 < n
  · refine ⟨σ, σ, -1000000002, ?_, ?_, Or.inr hR⟩
    · simp only [aX7_redeemedBy_0, aX7_redeemedBy_1, aX7_redeemedBy_2, aX7_redeemedBy_4, aX7_redeemedBy_7, aX7_redeemedBy_10, aX7_redeemedBy_12, sp_isOutside, Nat.zero_le, Nat.reduceLeDiff, Nat.reduceAdd, i1_0, rr_c3, zc9, oc9, zc10, oc10, zc11, oc11, zc12, oc12, zc13, oc13, zc15, oc15, Int32.lt_irrefl, Nat.zero_lt_one, Rt_cons, Rt_void, isB_0, isB_1, isB_b, true_and, and_true, cats_nil, cats_int, cats_ref, and_self, if_true, if_false, ite_self, le_nlt, ite_not, Rt_nil, bI_t ho]
    · simp only [aX8_redeemedBy_0, aX8_redeemedBy_1, aX8_redeemedBy_2, aX8_redeemedBy_4, aX8_redeemedBy_7, aX8_redeemedBy_10, aX8_redeemedBy_12, sp_in, Nat.zero_le, Nat.reduceLeDiff, Nat.reduceAdd, i1_0, rr_c3, zc9, oc9, zc10, oc10, zc11, oc11, zc12, oc12, zc13, oc13, zc15, oc15, Int32.lt_irrefl, Nat.zero_lt_one, Rt_cons, Rt_void, isB_0, isB_1, isB_b, true_and, and_true, cats_nil, cats_int, cats_ref, and_self, if_true, if_false, ite_self, le_nlt, ite_not, Rt_nil, bI_f (show ¬ (¬ n < 0 ∧ ¬ 60 < n) from fun z => ho.elim z.1 z.2)]
  · have hin := not_out.mp ho
    obtain ⟨t, ht, rfl⟩ := nI_of2 (M := 60) (n := 60) (by decide) hin.1 (Int32.not_lt.mp hin.2)
    obtain ⟨σ1, a1, a2⟩ := zT_days hz ht
    obtain ⟨m0, m1, n1, n0⟩ := zN hz a2
    obtain ⟨σ2, b1, b2, b3⟩ := zM_go (σ := σ1) (f := va_cpy (σ1 43 0) (σ1 44 0) 0 0 99) ht m0
    have ecp : cpM σ1 43 0 44 0 = updK σ1 44 0 (va_cpy (σ1 43 0) (σ1 44 0) 0 0 99) := rfl
    refine ⟨σ1, σ2, 0, ?_, ?_, zM_end hR a2 b3⟩
    · simp only [aX7_redeemedBy_0, aX7_redeemedBy_1, aX7_redeemedBy_2, aX7_redeemedBy_4, aX7_redeemedBy_7, aX7_redeemedBy_10, aX7_redeemedBy_12, aX7_redeemedBy_13, aX7_redeemedBy_14, sp_isOutside, Nat.zero_le, Nat.reduceLeDiff, Nat.reduceAdd, i1_0, rr_c3, zc9, oc9, zc10, oc10, zc11, oc11, zc12, oc12, zc13, oc13, zc15, oc15, Int32.lt_irrefl, Nat.zero_lt_one, Rt_cons, Rt_void, isB_0, isB_1, isB_b, true_and, and_true, cats_nil, cats_int, cats_ref, and_self, if_true, if_false, ite_self, le_nlt, ite_not, Rt_nil, bI_f ho]
      rw [aX7_redeemedBy_15, a1]
      simp only [aX7_redeemedBy_18, aX7_redeemedBy_19, aX7_redeemedBy_22, aX7_redeemedBy_25, aX7_redeemedBy_26, aX7_redeemedBy_29, aX7_redeemedBy_32, aX7_redeemedBy_33, aX7_redeemedBy_34, aX7_redeemedBy_35, sp_ghs (show 1 < 34 by decide) le07 n1 a2.1, sp_ghs (show 0 < 34 by decide) le07 n0 (zT_cs hz a2), Nat.zero_le, Nat.reduceLeDiff, Nat.reduceAdd, i1_0, rr_c3, zc9, oc9, zc10, oc10, zc11, oc11, zc12, oc12, zc13, oc13, zc15, oc15, Int32.lt_irrefl, Nat.zero_lt_one, Rt_cons, Rt_void, isB_0, isB_1, isB_b, true_and, and_true, cats_nil, cats_int, cats_ref, and_self, if_true, if_false, ite_self, le_nlt, ite_not, bs_0, nI_0, zz00, Rt_nil]
    · simp only [aX8_redeemedBy_0, aX8_redeemedBy_1, aX8_redeemedBy_2, aX8_redeemedBy_4, aX8_redeemedBy_7, aX8_redeemedBy_10, aX8_redeemedBy_12, aX8_redeemedBy_13, aX8_redeemedBy_14, aX8_redeemedBy_17, aX8_redeemedBy_18, aX8_redeemedBy_19, aX8_redeemedBy_22, sp_in, Nat.zero_le, Nat.reduceLeDiff, Nat.reduceAdd, i1_0, rr_c3, zc9, oc9, zc10, oc10, zc11, oc11, zc12, oc12, zc13, oc13, zc15, oc15, Int32.lt_irrefl, Nat.zero_lt_one, Rt_cons, Rt_void, isB_0, isB_1, isB_b, true_and, and_true, cats_nil, cats_int, cats_ref, and_self, if_true, if_false, ite_self, le_nlt, ite_not, Rt_nil, bI_t hin]
      rw [aX8_redeemedBy_23, cp0, ecp]
      simp only [aX8_redeemedBy_26, aX8_redeemedBy_27, Nat.zero_le, Nat.reduceLeDiff, Nat.reduceAdd, i1_0, rr_c3, zc9, oc9, zc10, oc10, zc11, oc11, zc12, oc12, zc13, oc13, zc15, oc15, Int32.lt_irrefl, Nat.zero_lt_one, Rt_cons, Rt_void, isB_0, isB_1, isB_b, true_and, and_true, cats_nil, cats_int, cats_ref, and_self, if_true, if_false, ite_self, le_nlt, ite_not]
      rw [aX8_redeemedBy_28, b1]
      simp only [aX8_redeemedBy_31, aX8_redeemedBy_32, aX8_redeemedBy_35, Nat.zero_le, Nat.reduceLeDiff, Nat.reduceAdd, i1_0, rr_c3, zc9, oc9, zc10, oc10, zc11, oc11, zc12, oc12, zc13, oc13, zc15, oc15, Int32.lt_irrefl, Nat.zero_lt_one, Rt_cons, Rt_void, isB_0, isB_1, isB_b, true_and, and_true, cats_nil, cats_int, cats_ref, and_self, if_true, if_false, ite_self, le_nlt, ite_not, Rt_nil, b2.2.1]
theorem zl_first {σ0 : Mem} {x : Int32} (hz : Z0 σ0) : ∀ (m n : Nat) (σ : Mem) (l3 : Value), n + m = 61 → 1 ≤ n → TrC σ0 σ (itW Fz (n - 1) wF) →
    ∃ τ, (∀ fs Q, Rn mX7_firstOut 25 [.ref (ad 0 0), .int x, .int (nI n), l3] [] fs (enc σ) Q ↔ Rt fs (enc τ) (some (.int (-1))) Q) ∧ ∃ v, TrC σ0 τ v := by
  intro m
  induction m with
  | zero =>
    intro n σ l3 hn h1 ht
    obtain rfl : n = 61 := by omega
    refine ⟨σ, fun fs Q => ?_, _, ht⟩
    have l : (60 : Int32) < nI 61 := by decide
    simp only [aX7_firstOut_25, aX7_firstOut_26, aX7_firstOut_28, aX7_firstOut_88, aX7_firstOut_89, Nat.zero_le, Nat.reduceLeDiff, Nat.reduceAdd, i1_0, rr_c3, zc9, oc9, zc10, oc10, zc11, oc11, zc12, oc12, zc13, oc13, zc15, oc15, Int32.lt_irrefl, Nat.zero_lt_one, Rt_cons, Rt_void, isB_0, isB_1, isB_b, true_and, and_true, cats_nil, cats_int, cats_ref, and_self, if_true, if_false, ite_self, le_nlt, ite_not, l]
  | succ m ih =>
    intro n σ l3 hn h1 ht
    obtain ⟨k, rfl⟩ : ∃ k, n = k + 1 := ⟨n - 1, by omega⟩
    rw [show k + 1 - 1 = k by omega] at ht
    have hwk : WH (10000 + k) 0 0 (itW Fz k wF) := WH_it rn0 WH_F
    obtain ⟨τ1, a1, a2, a3⟩ := sp_passDayW rn0 (zT_RC hz ht) (show 1 < 34 by decide) ht.1 hwk (by omega)
    have ews : passW zf zf zf zf 0 0 (itW Fz k wF) = itW Fz (k + 1) wF := (itW_s (F := Fz)).symm
    rw [ews] at a2
    have t1 := TrC_Fr ht a3 a2
    obtain ⟨d, d1, d2⟩ := hwk.1.1
    have e91 : σ 9 1 1 = nI d := ht.1.1.trans d2
    have eN1 := (zN hz ht).2.2.1
    have ft := fun fs Q => sp_firstTurn (σ := σ) (fs := fs) (Q := Q) (show 1 < 34 by decide) le07 (show d < 100000 by omega) eN1 e91
    obtain ⟨o1, o0⟩ := zT_out hz WH_F cE_F t1
    have l : ¬ (60 : Int32) < nI (k + 1) := nI_nlt (a := 60) (by omega) (by omega)
    obtain ⟨τ, b1, b2⟩ := ih (k + 2) τ1 (.int (nI (d % 0 * (if 0 < 0 then 1 else 0)))) (by omega) (by omega) t1
    refine ⟨τ, fun fs Q => ?_, b2⟩
    rw [← b1, aX7_firstOut_25]
    simp only [aX7_firstOut_26, aX7_firstOut_28, aX7_firstOut_31, aX7_firstOut_32, Nat.zero_le, Nat.reduceLeDiff, Nat.reduceAdd, i1_0, rr_c3, zc9, oc9, zc10, oc10, zc11, oc11, zc12, oc12, zc13, oc13, zc15, oc15, Int32.lt_irrefl, Nat.zero_lt_one, Rt_cons, Rt_void, isB_0, isB_1, isB_b, true_and, and_true, cats_nil, cats_int, cats_ref, and_self, if_true, if_false, ite_self, le_nlt, ite_not, l]
    rw [aX7_firstOut_35 (by decide), ft]
    simp only [aX7_firstOut_38, aX7_firstOut_39, aX7_firstOut_40, Nat.zero_le, Nat.reduceLeDiff, Nat.reduceAdd, i1_0, rr_c3, zc9, oc9, zc10, oc10, zc11, oc11, zc12, oc12, zc13, oc13, zc15, oc15, Int32.lt_irrefl, Nat.zero_lt_one, Rt_cons, Rt_void, isB_0, isB_1, isB_b, true_and, and_true, cats_nil, cats_int, cats_ref, and_self, if_true, if_false, ite_self, le_nlt, ite_not]
    rw [aX7_firstOut_43 (by decide), a1]
    simp only [aX7_firstOut_46, aX7_firstOut_47, aX7_firstOut_50, aX7_firstOut_53, aX7_firstOut_54, aX7_firstOut_57, aX7_firstOut_60, aX7_firstOut_82, aX7_firstOut_85, Nat.zero_le, Nat.reduceLeDiff, Nat.reduceAdd, i1_0, rr_c3, zc9, oc9, zc10, oc10, zc11, oc11, zc12, oc12, zc13, oc13, zc15, oc15, Int32.lt_irrefl, Nat.zero_lt_one, Rt_cons, Rt_void, isB_0, isB_1, isB_b, true_and, and_true, cats_nil, cats_int, cats_ref, and_self, if_true, if_false, ite_self, le_nlt, ite_not, o1, o0, nI_1]
theorem z_firstOut (x : Int32) : SimZ mX7_firstOut mX8_firstOut [.int x] := by
  refine Z_of (Lc := [.ref (ad 0 0), .int x, .null, .null]) (Lm := [.ref (ad 29 0), .int x]) rfl rfl (fun σ hR => ?_)
  have hz := hR.2.2
  by_cases ho : x < 0 ∨ 1 < x
  · refine ⟨σ, σ, -1000000002, ?_, ?_, Or.inr hR⟩
    · simp only [aX7_firstOut_0, aX7_firstOut_1, aX7_firstOut_2, aX7_firstOut_3, aX7_firstOut_6, aX7_firstOut_9, aX7_firstOut_11, sp_isOutside, Nat.zero_le, Nat.reduceLeDiff, Nat.reduceAdd, i1_0, rr_c3, zc9, oc9, zc10, oc10, zc11, oc11, zc12, oc12, zc13, oc13, zc15, oc15, Int32.lt_irrefl, Nat.zero_lt_one, Rt_cons, Rt_void, isB_0, isB_1, isB_b, true_and, and_true, cats_nil, cats_int, cats_ref, and_self, if_true, if_false, ite_self, le_nlt, ite_not, Rt_nil, bI_t ho]
    · simp only [aX8_firstOut_0, aX8_firstOut_1, aX8_firstOut_2, aX8_firstOut_3, aX8_firstOut_6, aX8_firstOut_9, aX8_firstOut_11, sp_in, Nat.zero_le, Nat.reduceLeDiff, Nat.reduceAdd, i1_0, rr_c3, zc9, oc9, zc10, oc10, zc11, oc11, zc12, oc12, zc13, oc13, zc15, oc15, Int32.lt_irrefl, Nat.zero_lt_one, Rt_cons, Rt_void, isB_0, isB_1, isB_b, true_and, and_true, cats_nil, cats_int, cats_ref, and_self, if_true, if_false, ite_self, le_nlt, ite_not, Rt_nil, bI_f (show ¬ (¬ x < 0 ∧ ¬ 1 < x) from fun z => ho.elim z.1 z.2)]
  · have hin := not_out.mp ho
    obtain ⟨σ1, a1, v, a2⟩ := zl_first (x := x) hz 60 1 (cpF σ 1 0) .null (by omega) (by omega) (zT_refl hz)
    obtain ⟨m0, m1, n1, n0⟩ := zN hz a2
    obtain ⟨σ2, b1, b2, b3⟩ := zM_go (n := 60) (σ := σ1) (f := va_cpy (σ1 43 0) (σ1 44 0) 0 0 99) (by omega) m0
    have ecp : cpM σ1 43 0 44 0 = updK σ1 44 0 (va_cpy (σ1 43 0) (σ1 44 0) 0 0 99) := rfl
    have e1 : nI 1 = 1 := rfl
    have e60 : nI 60 = 60 := rfl
    rw [e1] at a1
    rw [e60] at b1
    refine ⟨σ1, σ2, -1, ?_, ?_, zM_end hR a2 b3⟩
    · simp only [aX7_firstOut_0, aX7_firstOut_1, aX7_firstOut_2, aX7_firstOut_3, aX7_firstOut_6, aX7_firstOut_9, aX7_firstOut_11, aX7_firstOut_12, aX7_firstOut_13, aX7_firstOut_16, aX7_firstOut_17, sp_isOutside, Nat.zero_le, Nat.reduceLeDiff, Nat.reduceAdd, i1_0, rr_c3, zc9, oc9, zc10, oc10, zc11, oc11, zc12, oc12, zc13, oc13, zc15, oc15, Int32.lt_irrefl, Nat.zero_lt_one, Rt_cons, Rt_void, isB_0, isB_1, isB_b, true_and, and_true, cats_nil, cats_int, cats_ref, and_self, if_true, if_false, ite_self, le_nlt, ite_not, Rt_nil, bI_f ho]
      rw [aX7_firstOut_20 (by decide), sp_copyFrom (by omega) (by omega) (by omega) (CS_bool hz.2.1.1)]
      simp only [aX7_firstOut_23, aX7_firstOut_24, Nat.zero_le, Nat.reduceLeDiff, Nat.reduceAdd, i1_0, rr_c3, zc9, oc9, zc10, oc10, zc11, oc11, zc12, oc12, zc13, oc13, zc15, oc15, Int32.lt_irrefl, Nat.zero_lt_one, Rt_cons, Rt_void, isB_0, isB_1, isB_b, true_and, and_true, cats_nil, cats_int, cats_ref, and_self, if_true, if_false, ite_self, le_nlt, ite_not]
      rw [a1]
      simp only [Nat.zero_le, Nat.reduceLeDiff, Nat.reduceAdd, i1_0, rr_c3, zc9, oc9, zc10, oc10, zc11, oc11, zc12, oc12, zc13, oc13, zc15, oc15, Int32.lt_irrefl, Nat.zero_lt_one, Rt_cons, Rt_void, isB_0, isB_1, isB_b, true_and, and_true, cats_nil, cats_int, cats_ref, and_self, if_true, if_false, ite_self, le_nlt, ite_not, Rt_nil]
    · simp only [aX8_firstOut_0, aX8_firstOut_1, aX8_firstOut_2, aX8_firstOut_3, aX8_firstOut_6, aX8_firstOut_9, aX8_firstOut_11, aX8_firstOut_12, aX8_firstOut_13, aX8_firstOut_16, aX8_firstOut_17, aX8_firstOut_18, aX8_firstOut_21, sp_in, Nat.zero_le, Nat.reduceLeDiff, Nat.reduceAdd, i1_0, rr_c3, zc9, oc9, zc10, oc10, zc11, oc11, zc12, oc12, zc13, oc13, zc15, oc15, Int32.lt_irrefl, Nat.zero_lt_one, Rt_cons, Rt_void, isB_0, isB_1, isB_b, true_and, and_true, cats_nil, cats_int, cats_ref, and_self, if_true, if_false, ite_self, le_nlt, ite_not, Rt_nil, bI_t hin]
      rw [aX8_firstOut_22, cp0, ecp]
      simp only [aX8_firstOut_25, aX8_firstOut_26, Nat.zero_le, Nat.reduceLeDiff, Nat.reduceAdd, i1_0, rr_c3, zc9, oc9, zc10, oc10, zc11, oc11, zc12, oc12, zc13, oc13, zc15, oc15, Int32.lt_irrefl, Nat.zero_lt_one, Rt_cons, Rt_void, isB_0, isB_1, isB_b, true_and, and_true, cats_nil, cats_int, cats_ref, and_self, if_true, if_false, ite_self, le_nlt, ite_not]
      rw [aX8_firstOut_28, b1]
      by_cases hx : x = 0
      · simp only [aX8_firstOut_31, aX8_firstOut_32, aX8_firstOut_35, aX8_firstOut_36, aX8_firstOut_39, aX8_firstOut_42, aX8_firstOut_43, aX8_firstOut_46, Nat.zero_le, Nat.reduceLeDiff, Nat.reduceAdd, i1_0, rr_c3, zc9, oc9, zc10, oc10, zc11, oc11, zc12, oc12, zc13, oc13, zc15, oc15, Int32.lt_irrefl, Nat.zero_lt_one, Rt_cons, Rt_void, isB_0, isB_1, isB_b, true_and, and_true, cats_nil, cats_int, cats_ref, and_self, if_true, if_false, ite_self, le_nlt, ite_not, Rt_nil, hx, not_true_eq_false, b2.2.2.1]
      · simp only [aX8_firstOut_31, aX8_firstOut_32, aX8_firstOut_35, aX8_firstOut_36, aX8_firstOut_39, aX8_firstOut_42, aX8_firstOut_43, aX8_firstOut_46, Nat.zero_le, Nat.reduceLeDiff, Nat.reduceAdd, i1_0, rr_c3, zc9, oc9, zc10, oc10, zc11, oc11, zc12, oc12, zc13, oc13, zc15, oc15, Int32.lt_irrefl, Nat.zero_lt_one, Rt_cons, Rt_void, isB_0, isB_1, isB_b, true_and, and_true, cats_nil, cats_int, cats_ref, and_self, if_true, if_false, ite_self, le_nlt, ite_not, Rt_nil, hx, not_false_eq_true, b2.2.2.2]
theorem z_bestSwap (n x : Int32) : SimZ mX7_bestSwap mX8_bestSwap [.int n, .int x] := by
  refine Z_of (Lc := [.ref (ad 0 0), .int n, .int x, .null, .null, .null, .null, .null]) (Lm := [.ref (ad 29 0), .int n, .int x, .null, .null, .null, .null]) rfl rfl (fun σ hR => ?_)
  have hz := hR.2.2
  by_cases ho : n < 0 ∨ 60 < n
  · refine ⟨σ, σ, -1000000002, ?_, ?_, Or.inr hR⟩
    · simp only [aX7_bestSwap_0, aX7_bestSwap_1, aX7_bestSwap_2, aX7_bestSwap_4, aX7_bestSwap_7, aX7_bestSwap_10, aX7_bestSwap_11, aX7_bestSwap_12, aX7_bestSwap_13, aX7_bestSwap_16, aX7_bestSwap_19, aX7_bestSwap_21, sp_isOutside, Nat.zero_le, Nat.reduceLeDiff, Nat.reduceAdd, i1_0, rr_c3, zc9, oc9, zc10, oc10, zc11, oc11, zc12, oc12, zc13, oc13, zc15, oc15, Int32.lt_irrefl, Nat.zero_lt_one, Rt_cons, Rt_void, isB_0, isB_1, isB_b, true_and, and_true, cats_nil, cats_int, cats_ref, and_self, if_true, if_false, ite_self, le_nlt, ite_not, Rt_nil, bI_t ho]
    · simp only [aX8_bestSwap_0, aX8_bestSwap_1, aX8_bestSwap_2, aX8_bestSwap_4, aX8_bestSwap_7, aX8_bestSwap_10, aX8_bestSwap_11, aX8_bestSwap_12, aX8_bestSwap_13, aX8_bestSwap_16, aX8_bestSwap_19, aX8_bestSwap_21, sp_in, Nat.zero_le, Nat.reduceLeDiff, Nat.reduceAdd, i1_0, rr_c3, zc9, oc9, zc10, oc10, zc11, oc11, zc12, oc12, zc13, oc13, zc15, oc15, Int32.lt_irrefl, Nat.zero_lt_one, Rt_cons, Rt_void, isB_0, isB_1, isB_b, true_and, and_true, cats_nil, cats_int, cats_ref, and_self, if_true, if_false, ite_self, le_nlt, ite_not, Rt_nil, bI_f (show ¬ (¬ n < 0 ∧ ¬ 60 < n) from fun z => ho.elim z.1 z.2)]
  · have hin := not_out.mp ho
    by_cases ho2 : x < 0 ∨ 1 < x
    · refine ⟨σ, σ, -1000000002, ?_, ?_, Or.inr hR⟩
      · simp only [aX7_bestSwap_0, aX7_bestSwap_1, aX7_bestSwap_2, aX7_bestSwap_4, aX7_bestSwap_7, aX7_bestSwap_10, aX7_bestSwap_11, aX7_bestSwap_12, aX7_bestSwap_13, aX7_bestSwap_16, aX7_bestSwap_19, aX7_bestSwap_21, sp_isOutside, Nat.zero_le, Nat.reduceLeDiff, Nat.reduceAdd, i1_0, rr_c3, zc9, oc9, zc10, oc10, zc11, oc11, zc12, oc12, zc13, oc13, zc15, oc15, Int32.lt_irrefl, Nat.zero_lt_one, Rt_cons, Rt_void, isB_0, isB_1, isB_b, true_and, and_true, cats_nil, cats_int, cats_ref, and_self, if_true, if_false, ite_self, le_nlt, ite_not, Rt_nil, bI_f ho, bI_t ho2]
      · simp only [aX8_bestSwap_0, aX8_bestSwap_1, aX8_bestSwap_2, aX8_bestSwap_4, aX8_bestSwap_7, aX8_bestSwap_10, aX8_bestSwap_11, aX8_bestSwap_12, aX8_bestSwap_13, aX8_bestSwap_16, aX8_bestSwap_19, aX8_bestSwap_21, sp_in, Nat.zero_le, Nat.reduceLeDiff, Nat.reduceAdd, i1_0, rr_c3, zc9, oc9, zc10, oc10, zc11, oc11, zc12, oc12, zc13, oc13, zc15, oc15, Int32.lt_irrefl, Nat.zero_lt_one, Rt_cons, Rt_void, isB_0, isB_1, isB_b, true_and, and_true, cats_nil, cats_int, cats_ref, and_self, if_true, if_false, ite_self, le_nlt, ite_not, Rt_nil, bI_t hin, bI_f (show ¬ (¬ x < 0 ∧ ¬ 1 < x) from fun z => ho2.elim z.1 z.2)]
    · have hin2 := not_out.mp ho2
      obtain ⟨t, ht, rfl⟩ := nI_of2 (M := 60) (n := 60) (by decide) hin.1 (Int32.not_lt.mp hin.2)
      obtain ⟨σ1, a1, a2⟩ := zT_days hz ht
      obtain ⟨m0, m1, n1, n0⟩ := zN hz a2
      rw [nI_0] at n0 m1
      obtain ⟨σ2, b1, b2, b3⟩ := zM_go (σ := σ1) (f := va_cpy (σ1 43 0) (σ1 44 0) 0 0 99) ht m0
      have m1' : σ2 31 0 1 = 0 := by rw [b3.1 31 0 (by decide) (by decide)]; exact m1
      have ecp : cpM σ1 43 0 44 0 = updK σ1 44 0 (va_cpy (σ1 43 0) (σ1 44 0) 0 0 99) := rfl
      have on := fun fs M Q => sp_ones (fs := fs) (M := M) (Q := Q) (a := 0) (by decide)
      rw [nI_0] at on
      refine ⟨σ1, σ2, -1, ?_, ?_, zM_end hR a2 b3⟩
      · simp only [aX7_bestSwap_0, aX7_bestSwap_1, aX7_bestSwap_2, aX7_bestSwap_4, aX7_bestSwap_7, aX7_bestSwap_10, aX7_bestSwap_11, aX7_bestSwap_12, aX7_bestSwap_13, aX7_bestSwap_16, aX7_bestSwap_19, aX7_bestSwap_21, aX7_bestSwap_22, aX7_bestSwap_23, sp_isOutside, Nat.zero_le, Nat.reduceLeDiff, Nat.reduceAdd, i1_0, rr_c3, zc9, oc9, zc10, oc10, zc11, oc11, zc12, oc12, zc13, oc13, zc15, oc15, Int32.lt_irrefl, Nat.zero_lt_one, Rt_cons, Rt_void, isB_0, isB_1, isB_b, true_and, and_true, cats_nil, cats_int, cats_ref, and_self, if_true, if_false, ite_self, le_nlt, ite_not, bI_f ho, bI_f ho2]
        rw [aX7_bestSwap_24, a1]
        simp only [aX7_bestSwap_27, aX7_bestSwap_28, aX7_bestSwap_31, aX7_bestSwap_34, aX7_bestSwap_35, aX7_bestSwap_38, aX7_bestSwap_41, aX7_bestSwap_42, aX7_bestSwap_43, aX7_bestSwap_44, aX7_bestSwap_46, aX7_bestSwap_47, aX7_bestSwap_49, aX7_bestSwap_51, aX7_bestSwap_52, aX7_bestSwap_55, aX7_bestSwap_58, aX7_bestSwap_61, aX7_bestSwap_146, aX7_bestSwap_148, aX7_bestSwap_149, aX7_bestSwap_152, aX7_bestSwap_153, aX7_bestSwap_156, aX7_bestSwap_158, aX7_bestSwap_161, aX7_bestSwap_162, Nat.zero_le, Nat.reduceLeDiff, Nat.reduceAdd, i1_0, rr_c3, zc9, oc9, zc10, oc10, zc11, oc11, zc12, oc12, zc13, oc13, zc15, oc15, Int32.lt_irrefl, Nat.zero_lt_one, Rt_cons, Rt_void, isB_0, isB_1, isB_b, true_and, and_true, cats_nil, cats_int, cats_ref, and_self, if_true, if_false, ite_self, le_nlt, ite_not, n0, Rt_nil]
      · simp only [aX8_bestSwap_0, aX8_bestSwap_1, aX8_bestSwap_2, aX8_bestSwap_4, aX8_bestSwap_7, aX8_bestSwap_10, aX8_bestSwap_11, aX8_bestSwap_12, aX8_bestSwap_13, aX8_bestSwap_16, aX8_bestSwap_19, aX8_bestSwap_21, aX8_bestSwap_22, aX8_bestSwap_23, aX8_bestSwap_26, aX8_bestSwap_27, aX8_bestSwap_28, aX8_bestSwap_31, sp_in, Nat.zero_le, Nat.reduceLeDiff, Nat.reduceAdd, i1_0, rr_c3, zc9, oc9, zc10, oc10, zc11, oc11, zc12, oc12, zc13, oc13, zc15, oc15, Int32.lt_irrefl, Nat.zero_lt_one, Rt_cons, Rt_void, isB_0, isB_1, isB_b, true_and, and_true, cats_nil, cats_int, cats_ref, and_self, if_true, if_false, ite_self, le_nlt, ite_not, bI_t hin, bI_t hin2]
        rw [aX8_bestSwap_32, cp0, ecp]
        simp only [aX8_bestSwap_35, aX8_bestSwap_36, Nat.zero_le, Nat.reduceLeDiff, Nat.reduceAdd, i1_0, rr_c3, zc9, oc9, zc10, oc10, zc11, oc11, zc12, oc12, zc13, oc13, zc15, oc15, Int32.lt_irrefl, Nat.zero_lt_one, Rt_cons, Rt_void, isB_0, isB_1, isB_b, true_and, and_true, cats_nil, cats_int, cats_ref, and_self, if_true, if_false, ite_self, le_nlt, ite_not]
        rw [aX8_bestSwap_37, b1]
        simp only [aX8_bestSwap_40, aX8_bestSwap_41, aX8_bestSwap_44, aX8_bestSwap_47, aX8_bestSwap_48, aX8_bestSwap_49, aX8_bestSwap_51, aX8_bestSwap_52, aX8_bestSwap_54, aX8_bestSwap_56, aX8_bestSwap_57, aX8_bestSwap_60, aX8_bestSwap_61, aX8_bestSwap_62, aX8_bestSwap_175, aX8_bestSwap_177, aX8_bestSwap_178, aX8_bestSwap_181, aX8_bestSwap_182, aX8_bestSwap_185, aX8_bestSwap_187, aX8_bestSwap_190, aX8_bestSwap_191, on, Nat.zero_le, Nat.reduceLeDiff, Nat.reduceAdd, i1_0, rr_c3, zc9, oc9, zc10, oc10, zc11, oc11, zc12, oc12, zc13, oc13, zc15, oc15, Int32.lt_irrefl, Nat.zero_lt_one, Rt_cons, Rt_void, isB_0, isB_1, isB_b, true_and, and_true, cats_nil, cats_int, cats_ref, and_self, if_true, if_false, ite_self, le_nlt, ite_not, b2.1, aT_31, aN_31, cnt_31, v3.2.1, c1, m1', Rt_nil]
/-- loans -/
theorem zl_ld {σ0 : Mem} {n a : Nat} (hz : Z0 σ0) (hn : n ≤ 60) (ha : a ≤ 999) : ∀ (m i : Nat) (σ : Mem), i + m = n → TrC σ0 σ (itW Fz i (addF wF (nI a))) →
    ∃ τ, (∀ fs Q, Rn mX7_loanDoes 21 [.ref (ad 0 0), .int (nI a), .int (nI n), .int (nI i)] [] fs (enc σ) Q ↔ Rt fs (enc τ) (some (.int 1)) Q) ∧ ∃ u, TrC σ0 τ u := by
  intro m
  have wa := WH_add (x := a) WH_F (by omega)
  have ca : cE7 (addF wF (nI a)) = 0 := by
    rw [cE7_same (w := wF) (fun h hh => by unfold addF; rw [upd_ne (by omega)])]; exact cE_F
  induction m with
  | zero =>
    intro i σ hi h
    obtain rfl : i = n := by omega
    obtain ⟨o1, o0⟩ := zT_out hz wa ca h
    refine ⟨σ, fun fs Q => ?_, _, h⟩
    rw [aX7_loanDoes_21]
    simp only [aX7_loanDoes_22, aX7_loanDoes_23, aX7_loanDoes_56, aX7_loanDoes_57, aX7_loanDoes_60, aX7_loanDoes_63, aX7_loanDoes_64, aX7_loanDoes_67, aX7_loanDoes_70, aX7_loanDoes_73, aX7_loanDoes_74, aX7_loanDoes_77, aX7_loanDoes_78, Nat.zero_le, Nat.reduceLeDiff, Nat.reduceAdd, i1_0, rr_c3, zc9, oc9, zc10, oc10, zc11, oc11, zc12, oc12, zc13, oc13, zc15, oc15, Int32.lt_irrefl, Nat.zero_lt_one, Rt_cons, Rt_void, isB_0, isB_1, isB_b, true_and, and_true, cats_nil, cats_int, cats_ref, and_self, if_true, if_false, ite_self, le_nlt, ite_not, o1, o0, not_true_eq_false]
  | succ m ih =>
    intro i σ hi h
    have l : nI i < nI n := nI_lt (by omega) (by omega)
    obtain ⟨o1, o0⟩ := zT_out hz wa ca h
    obtain ⟨τ, a1, a2, a3⟩ := sp_passDayW rn0 (zT_RC hz h) (show 1 < 34 by decide) h.1 (WH_it rn0 wa (n := i)) (by omega)
    have ews : passW zf zf zf zf 0 0 (itW Fz i (addF wF (nI a))) = itW Fz (i + 1) (addF wF (nI a)) := (itW_s (F := Fz)).symm
    have a2' : CS τ 1 (itW Fz (i + 1) (addF wF (nI a))) := by rw [← ews]; exact a2
    obtain ⟨τ2, b1, b2⟩ := ih (i + 1) τ (by omega) (TrC_Fr h a3 a2')
    refine ⟨τ2, fun fs Q => ?_, b2⟩
    rw [← b1, aX7_loanDoes_21]
    simp only [aX7_loanDoes_22, aX7_loanDoes_23, aX7_loanDoes_26, aX7_loanDoes_27, aX7_loanDoes_30, aX7_loanDoes_33, aX7_loanDoes_34, aX7_loanDoes_37, aX7_loanDoes_40, aX7_loanDoes_43, aX7_loanDoes_44, Nat.zero_le, Nat.reduceLeDiff, Nat.reduceAdd, i1_0, rr_c3, zc9, oc9, zc10, oc10, zc11, oc11, zc12, oc12, zc13, oc13, zc15, oc15, Int32.lt_irrefl, Nat.zero_lt_one, Rt_cons, Rt_void, isB_0, isB_1, isB_b, true_and, and_true, cats_nil, cats_int, cats_ref, and_self, if_true, if_false, ite_self, le_nlt, ite_not, l, o1, o0, not_true_eq_false]
    rw [aX7_loanDoes_47 (by decide), a1]
    simp only [aX7_loanDoes_50, aX7_loanDoes_53, Nat.zero_le, Nat.reduceLeDiff, Nat.reduceAdd, i1_0, rr_c3, zc9, oc9, zc10, oc10, zc11, oc11, zc12, oc12, zc13, oc13, zc15, oc15, Int32.lt_irrefl, Nat.zero_lt_one, Rt_cons, Rt_void, isB_0, isB_1, isB_b, true_and, and_true, cats_nil, cats_int, cats_ref, and_self, if_true, if_false, ite_self, le_nlt, ite_not, nI_1]
theorem zT_b {σ0 : Mem} {v : F1} (hz : Z0 σ0) (h : TrC σ0 σ v) : ∀ k, k < 7 → σ 14 0 k = 0 ∨ σ 14 0 k = 1 := CS_bool (zT_cs hz h)
theorem zs_ld {σ0 : Mem} {n a : Nat} {v : F1} (hz : Z0 σ0) (hn : n ≤ 60) (ha : a ≤ 999) (hb : ∀ k, k < 7 → σ 14 0 k = 0 ∨ σ 14 0 k = 1) (t0 : TrC σ0 (cpF σ 1 0) wF) :
    ∃ τ, (∀ fs Q, Rn mX7_loanDoes 0 [.ref (ad 0 0), .int (nI a), .int (nI n), .null] [] fs (enc σ) Q ↔ Rt fs (enc τ) (some (.int 1)) Q) ∧ ∃ u, TrC σ0 τ u := by
  have t1 := TrC_Fr t0 (Fr_upS (by omega) (by omega)) (CS_add (x := nI a) t0.1)
  obtain ⟨τ, a1, a2⟩ := zl_ld hz hn ha n 0 _ (by omega) t1
  refine ⟨τ, fun fs Q => ?_, a2⟩
  have a1' := a1 fs Q
  rw [nI_0] at a1'
  simp only [aX7_loanDoes_0, aX7_loanDoes_1, aX7_loanDoes_4, aX7_loanDoes_5, Nat.zero_le, Nat.reduceLeDiff, Nat.reduceAdd, i1_0, rr_c3, zc9, oc9, zc10, oc10, zc11, oc11, zc12, oc12, zc13, oc13, zc15, oc15, Int32.lt_irrefl, Nat.zero_lt_one, Rt_cons, Rt_void, isB_0, isB_1, isB_b, true_and, and_true, cats_nil, cats_int, cats_ref, and_self, if_true, if_false, ite_self, le_nlt, ite_not]
  rw [aX7_loanDoes_8 (by decide), sp_copyFrom (by omega) (by omega) (by omega) hb]
  simp only [aX7_loanDoes_11, aX7_loanDoes_12, aX7_loanDoes_15, Nat.zero_le, Nat.reduceLeDiff, Nat.reduceAdd, i1_0, rr_c3, zc9, oc9, zc10, oc10, zc11, oc11, zc12, oc12, zc13, oc13, zc15, oc15, Int32.lt_irrefl, Nat.zero_lt_one, Rt_cons, Rt_void, isB_0, isB_1, isB_b, true_and, and_true, cats_nil, cats_int, cats_ref, and_self, if_true, if_false, ite_self, le_nlt, ite_not]
  rw [aX7_loanDoes_16 (by decide), sp_addHeads (by omega)]
  simp only [aX7_loanDoes_19, aX7_loanDoes_20, Nat.zero_le, Nat.reduceLeDiff, Nat.reduceAdd, i1_0, rr_c3, zc9, oc9, zc10, oc10, zc11, oc11, zc12, oc12, zc13, oc13, zc15, oc15, Int32.lt_irrefl, Nat.zero_lt_one, Rt_cons, Rt_void, isB_0, isB_1, isB_b, true_and, and_true, cats_nil, cats_int, cats_ref, and_self, if_true, if_false, ite_self, le_nlt, ite_not]
  rw [a1']
theorem zl_half {σ0 : Mem} {n : Nat} (hz : Z0 σ0) (hn : n ≤ 60) : ∀ (m s hi : Nat) (σ : Mem) (l5 : Value), s + m = 10 → hi ≤ 999 → hi < 2 ^ m → (∃ v, TrC σ0 σ v) →
    ∃ τ, (∀ fs Q, Rn mX7_loan 35 [.ref (ad 0 0), .int (nI n), .int 0, .int (nI hi), .int (nI s), l5] [] fs (enc σ) Q ↔ Rt fs (enc τ) (some (.int 0)) Q) ∧ ∃ u, TrC σ0 τ u := by
  intro m
  induction m with
  | zero =>
    intro s hi σ l5 hs h2 h5 ⟨v, hv⟩
    obtain rfl : s = 10 := by omega
    refine ⟨σ, fun fs Q => ?_, v, hv⟩
    have e10 : nI 10 = 10 := rfl
    rw [aX7_loan_35]
    simp only [aX7_loan_37, aX7_loan_39, aX7_loan_81, aX7_loan_82, Nat.zero_le, Nat.reduceLeDiff, Nat.reduceAdd, i1_0, rr_c3, zc9, oc9, zc10, oc10, zc11, oc11, zc12, oc12, zc13, oc13, zc15, oc15, Int32.lt_irrefl, Nat.zero_lt_one, Rt_cons, Rt_void, isB_0, isB_1, isB_b, true_and, and_true, cats_nil, cats_int, cats_ref, and_self, if_true, if_false, ite_self, le_nlt, ite_not, e10]
  | succ m ih =>
    intro s hi σ l5 hs h2 h5 ⟨v, hv⟩
    have ls : nI s < 10 := nI_lt (b := 10) (by omega) (by decide)
    by_cases q : 0 < hi
    · have ll : (0 : Int32) < nI hi := nI_lt (a := 0) q (by omega)
      have hp : 2 ^ (m + 1) = 2 * 2 ^ m := by rw [Nat.pow_succ]; omega
      rw [hp] at h5
      have n20 : ¬ (2 : Int32) = 0 := by decide
      have ea : (0 : Int32) + nI hi = nI hi := by rw [← nI_0, nI_add, Nat.zero_add]
      have ed : nI hi / 2 = nI (hi / 2) := pk_div (d := 2) (by omega) (by decide) (by decide)
      have n10 : ¬ (1 : Int32) = 0 := by decide
      obtain ⟨τ, a1, a2⟩ := zs_ld (a := hi / 2) (v := v) hz hn (by omega) (zT_b hz hv) (zT_re hz hv)
      obtain ⟨τ2, b1, b2⟩ := ih (s + 1) (hi / 2) τ (.int (nI (hi / 2))) (by omega) (by omega) (by omega) a2
      refine ⟨τ2, fun fs Q => ?_, b2⟩
      rw [← b1, aX7_loan_35]
      simp only [aX7_loan_37, aX7_loan_39, aX7_loan_42, aX7_loan_43, aX7_loan_44, aX7_loan_47, aX7_loan_48, aX7_loan_49, aX7_loan_50, aX7_loan_51, aX7_loan_52, aX7_loan_54, aX7_loan_55, aX7_loan_57, Nat.zero_le, Nat.reduceLeDiff, Nat.reduceAdd, i1_0, rr_c3, zc9, oc9, zc10, oc10, zc11, oc11, zc12, oc12, zc13, oc13, zc15, oc15, Int32.lt_irrefl, Nat.zero_lt_one, Rt_cons, Rt_void, isB_0, isB_1, isB_b, true_and, and_true, cats_nil, cats_int, cats_ref, and_self, if_true, if_false, ite_self, le_nlt, ite_not, ls, ll, ea, n20, not_false_eq_true, ed]
      rw [aX7_loan_58, a1]
      simp only [aX7_loan_61, aX7_loan_64, aX7_loan_66, aX7_loan_67, aX7_loan_70, aX7_loan_72, aX7_loan_73, aX7_loan_74, aX7_loan_75, aX7_loan_78, Nat.zero_le, Nat.reduceLeDiff, Nat.reduceAdd, i1_0, rr_c3, zc9, oc9, zc10, oc10, zc11, oc11, zc12, oc12, zc13, oc13, zc15, oc15, Int32.lt_irrefl, Nat.zero_lt_one, Rt_cons, Rt_void, isB_0, isB_1, isB_b, true_and, and_true, cats_nil, cats_int, cats_ref, and_self, if_true, if_false, ite_self, le_nlt, ite_not, n10, nI_1]
    · obtain rfl : hi = 0 := by omega
      refine ⟨σ, fun fs Q => ?_, v, hv⟩
      rw [aX7_loan_35]
      simp only [aX7_loan_37, aX7_loan_39, aX7_loan_42, aX7_loan_43, aX7_loan_44, aX7_loan_81, aX7_loan_82, Nat.zero_le, Nat.reduceLeDiff, Nat.reduceAdd, i1_0, rr_c3, zc9, oc9, zc10, oc10, zc11, oc11, zc12, oc12, zc13, oc13, zc15, oc15, Int32.lt_irrefl, Nat.zero_lt_one, Rt_cons, Rt_void, isB_0, isB_1, isB_b, true_and, and_true, cats_nil, cats_int, cats_ref, and_self, if_true, if_false, ite_self, le_nlt, ite_not, ls, nI_0]
theorem z_loan (n : Int32) : SimZ mX7_loan mX8_loan [.int n] := by
  refine Z_of (Lc := [.ref (ad 0 0), .int n, .null, .null, .null, .null]) (Lm := [.ref (ad 29 0), .int n, .null]) rfl rfl (fun σ hR => ?_)
  have hz := hR.2.2
  by_cases ho : n < 0 ∨ 60 < n
  · refine ⟨σ, σ, -1000000002, ?_, ?_, Or.inr hR⟩
    · simp only [aX7_loan_0, aX7_loan_1, aX7_loan_2, aX7_loan_4, aX7_loan_7, aX7_loan_10, aX7_loan_12, sp_isOutside, Nat.zero_le, Nat.reduceLeDiff, Nat.reduceAdd, i1_0, rr_c3, zc9, oc9, zc10, oc10, zc11, oc11, zc12, oc12, zc13, oc13, zc15, oc15, Int32.lt_irrefl, Nat.zero_lt_one, Rt_cons, Rt_void, isB_0, isB_1, isB_b, true_and, and_true, cats_nil, cats_int, cats_ref, and_self, if_true, if_false, ite_self, le_nlt, ite_not, Rt_nil, bI_t ho]
    · simp only [aX8_loan_0, aX8_loan_1, aX8_loan_2, aX8_loan_4, aX8_loan_7, aX8_loan_10, aX8_loan_12, sp_in, Nat.zero_le, Nat.reduceLeDiff, Nat.reduceAdd, i1_0, rr_c3, zc9, oc9, zc10, oc10, zc11, oc11, zc12, oc12, zc13, oc13, zc15, oc15, Int32.lt_irrefl, Nat.zero_lt_one, Rt_cons, Rt_void, isB_0, isB_1, isB_b, true_and, and_true, cats_nil, cats_int, cats_ref, and_self, if_true, if_false, ite_self, le_nlt, ite_not, Rt_nil, bI_f (show ¬ (¬ n < 0 ∧ ¬ 60 < n) from fun z => ho.elim z.1 z.2)]
  · have hin := not_out.mp ho
    obtain ⟨t, ht, rfl⟩ := nI_of2 (M := 60) (n := 60) (by decide) hin.1 (Int32.not_lt.mp hin.2)
    have n999 : nI 999 = 999 := rfl
    have n10 : ¬ (1 : Int32) = 0 := by decide
    obtain ⟨τ0, a1, a2⟩ := zs_ld (σ := σ) (a := 999) (v := wF) hz ht (by omega) (CS_bool hz.2.1.1) (zT_refl hz)
    obtain ⟨σ1, b1, u, b2⟩ := zl_half hz ht 10 0 999 τ0 .null (by omega) (by omega) (by decide) a2
    obtain ⟨m0, m1, _, _⟩ := zN hz b2
    obtain ⟨x, hx⟩ : ∃ x, x = (if (9999 : Int32) < σ1 43 0 1 + 0 then (9999 : Int32) else σ1 43 0 1 + 0) := ⟨_, rfl⟩
    obtain ⟨σ2, d1, d2, d3⟩ := zM_go (σ := σ1) (f := upd (va_cpy (σ1 43 0) (σ1 44 0) 0 0 99) 1 x) ht m0
    have ecp : cpM σ1 43 0 44 0 = updK σ1 44 0 (va_cpy (σ1 43 0) (σ1 44 0) 0 0 99) := rfl
    refine ⟨σ1, σ2, 0, ?_, ?_, zM_end hR b2 d3⟩
    · rw [n999] at a1
      have b1' := b1 [] (fun X v => X = enc σ1 ∧ v = some (.int 0))
      rw [nI_0, n999] at b1'
      simp only [aX7_loan_0, aX7_loan_1, aX7_loan_2, aX7_loan_4, aX7_loan_7, aX7_loan_10, aX7_loan_12, aX7_loan_13, aX7_loan_14, aX7_loan_17, sp_isOutside, Nat.zero_le, Nat.reduceLeDiff, Nat.reduceAdd, i1_0, rr_c3, zc9, oc9, zc10, oc10, zc11, oc11, zc12, oc12, zc13, oc13, zc15, oc15, Int32.lt_irrefl, Nat.zero_lt_one, Rt_cons, Rt_void, isB_0, isB_1, isB_b, true_and, and_true, cats_nil, cats_int, cats_ref, and_self, if_true, if_false, ite_self, le_nlt, ite_not, bI_f ho]
      rw [aX7_loan_18, a1]
      simp only [aX7_loan_21, aX7_loan_24, aX7_loan_25, aX7_loan_26, aX7_loan_27, aX7_loan_28, aX7_loan_31, aX7_loan_32, aX7_loan_33, Nat.zero_le, Nat.reduceLeDiff, Nat.reduceAdd, i1_0, rr_c3, zc9, oc9, zc10, oc10, zc11, oc11, zc12, oc12, zc13, oc13, zc15, oc15, Int32.lt_irrefl, Nat.zero_lt_one, Rt_cons, Rt_void, isB_0, isB_1, isB_b, true_and, and_true, cats_nil, cats_int, cats_ref, and_self, if_true, if_false, ite_self, le_nlt, ite_not, n10, not_false_eq_true]
      rw [b1']
      simp only [Nat.zero_le, Nat.reduceLeDiff, Nat.reduceAdd, i1_0, rr_c3, zc9, oc9, zc10, oc10, zc11, oc11, zc12, oc12, zc13, oc13, zc15, oc15, Int32.lt_irrefl, Nat.zero_lt_one, Rt_cons, Rt_void, isB_0, isB_1, isB_b, true_and, and_true, cats_nil, cats_int, cats_ref, and_self, if_true, if_false, ite_self, le_nlt, ite_not, Rt_nil]
    · have lv : (0 : Int32) < 1000 := by decide
      have ml := hx.symm
      simp only [aX8_loan_0, aX8_loan_1, aX8_loan_2, aX8_loan_4, aX8_loan_7, aX8_loan_10, aX8_loan_12, aX8_loan_13, aX8_loan_14, sp_in, Nat.zero_le, Nat.reduceLeDiff, Nat.reduceAdd, i1_0, rr_c3, zc9, oc9, zc10, oc10, zc11, oc11, zc12, oc12, zc13, oc13, zc15, oc15, Int32.lt_irrefl, Nat.zero_lt_one, Rt_cons, Rt_void, isB_0, isB_1, isB_b, true_and, and_true, cats_nil, cats_int, cats_ref, and_self, if_true, if_false, ite_self, le_nlt, ite_not, bI_t hin]
      rw [aX8_loan_15]
      simp only [aX8_loan_16, aX8_loan_19, aX8_loan_22, aX8_loan_23, aX8_loan_26, aX8_loan_27, aX8_loan_28, aX8_loan_31, Nat.zero_le, Nat.reduceLeDiff, Nat.reduceAdd, i1_0, rr_c3, zc9, oc9, zc10, oc10, zc11, oc11, zc12, oc12, zc13, oc13, zc15, oc15, Int32.lt_irrefl, Nat.zero_lt_one, Rt_cons, Rt_void, isB_0, isB_1, isB_b, true_and, and_true, cats_nil, cats_int, cats_ref, and_self, if_true, if_false, ite_self, le_nlt, ite_not, lv]
      rw [aX8_loan_32, cp0, ecp]
      simp only [aX8_loan_35, aX8_loan_36, aX8_loan_39, aX8_loan_40, aX8_loan_43, aX8_loan_44, aX8_loan_47, aX8_loan_48, aX8_loan_49, aX8_loan_50, aX8_loan_51, aX8_loan_54, sp_lesser, Nat.zero_le, Nat.reduceLeDiff, Nat.reduceAdd, i1_0, rr_c3, zc9, oc9, zc10, oc10, zc11, oc11, zc12, oc12, zc13, oc13, zc15, oc15, Int32.lt_irrefl, Nat.zero_lt_one, Rt_cons, Rt_void, isB_0, isB_1, isB_b, true_and, and_true, cats_nil, cats_int, cats_ref, and_self, if_true, if_false, ite_self, le_nlt, ite_not, aT_43, aN_43, cnt_43, aT_44, aN_44, cnt_44, v99.2.1, c1, updK_ne (show ¬ (43 = 44 ∧ 0 = 0) by decide), ml, upS_updK]
      simp only [aX8_loan_55, aX8_loan_56, Nat.zero_le, Nat.reduceLeDiff, Nat.reduceAdd, i1_0, rr_c3, zc9, oc9, zc10, oc10, zc11, oc11, zc12, oc12, zc13, oc13, zc15, oc15, Int32.lt_irrefl, Nat.zero_lt_one, Rt_cons, Rt_void, isB_0, isB_1, isB_b, true_and, and_true, cats_nil, cats_int, cats_ref, and_self, if_true, if_false, ite_self, le_nlt, ite_not]
      rw [aX8_loan_57, d1]
      simp only [aX8_loan_60, aX8_loan_61, aX8_loan_64, aX8_loan_67, aX8_loan_68, Nat.zero_le, Nat.reduceLeDiff, Nat.reduceAdd, i1_0, rr_c3, zc9, oc9, zc10, oc10, zc11, oc11, zc12, oc12, zc13, oc13, zc15, oc15, Int32.lt_irrefl, Nat.zero_lt_one, Rt_cons, Rt_void, isB_0, isB_1, isB_b, true_and, and_true, cats_nil, cats_int, cats_ref, and_self, if_true, if_false, ite_self, le_nlt, ite_not, d2.1, not_true_eq_false, Rt_nil]
/-- gales -/
theorem gq_z {w gs hs bs' : F1} : gq 0 0 0 w gs hs bs' = fun p => decide (p = 99) := by
  funext p
  unfold gq cnd
  show (decide _ && true) = _
  rw [Bool.and_true]
  by_cases z : p = 99
  · rw [decide_eq_true (Or.inl z), decide_eq_true z]
  · rw [decide_eq_false z, decide_eq_false]
    intro y
    rcases y with y | y
    · exact z y
    · exact absurd y.2.1 (Nat.not_lt_zero _)
theorem zG {σ : Mem} (hz : Z0 σ) : ∃ σ1 σ2, (∀ fs Q, Rn mX1_findGales 0 [.ref (ad 20 0), .ref (ad 9 0), .null, .null] [] fs (enc σ) Q ↔ Rt fs (enc σ1) none Q) ∧ GC σ σ1 [99] ∧ (∀ fs Q, Rn mX8_finds 0 [.ref (ad 29 0), .null, .null, .null, .null] [] fs (enc σ1) Q ↔ Rt fs (enc σ2) none Q) ∧ GM σ1 σ2 [99] := by
  have hm : ∀ w gs hs bs' : F1, mgL (gq 0 0 0 w gs hs bs') 100 = [99] := fun w gs hs bs' => by rw [gq_z]; decide +kernel
  obtain ⟨⟨⟨l0, l1, l2⟩, ⟨k0, k1, k2⟩, hne⟩, ⟨cs, w⟩, ⟨⟨e1, e2⟩, bb⟩, p, im⟩ := hz
  have hrc : HrC σ 0 0 0 := ⟨e1, by omega, fun j hj => absurd hj (Nat.not_lt_zero _)⟩
  obtain ⟨σ1, a1, a2⟩ := sp_findGales le07 le07 hrc cs k1 k2
  rw [hm] at a2
  have hrm : HrM σ1 0 0 0 := ⟨by rw [a2.1 29 0 (by decide) (by decide) (by decide)]; exact e2, by omega, fun j hj => absurd hj (Nat.not_lt_zero _)⟩
  obtain ⟨σ2, b1, b2⟩ := sp_finds (σ := σ1) le07 le07 (fun z => absurd z (Nat.not_lt_zero _)) hrm (by rw [a2.1 31 0 (by decide) (by decide) (by decide)]; exact l1) (by rw [a2.1 31 0 (by decide) (by decide) (by decide)]; exact l2)
  rw [hm] at b2
  exact ⟨σ1, σ2, a1, a2, b1, b2⟩
theorem zG_end {σ1 σ2 : Mem} (hR : Rel0 σ) (a2 : GC σ σ1 [99]) (b2 : GM σ1 σ2 [99]) : RelA σ2 := Z_free hR (fun k i a b c d e f g => by rw [b2.1 k i c g, a2.1 k i d e f]) (by rw [b2.1 20 0 (by decide) (by decide), a2.2.1 3 (by decide)]) (fun s hs => by rw [b2.2.1 s (by omega), a2.1 29 0 (by decide) (by decide) (by decide)])
theorem z_gales (x : Int32) : SimZ mX7_gales mX8_gales [.int x] := by
  refine Z_of (Lc := [.ref (ad 0 0), .int x]) (Lm := [.ref (ad 29 0), .int x]) rfl rfl (fun σ hR => ?_)
  by_cases ho : x < 0 ∨ 1 < x
  · refine ⟨σ, σ, -1000000002, ?_, ?_, Or.inr hR⟩
    · simp only [aX7_gales_0, aX7_gales_1, aX7_gales_2, aX7_gales_3, aX7_gales_6, aX7_gales_9, aX7_gales_11, sp_isOutside, Nat.zero_le, Nat.reduceLeDiff, Nat.reduceAdd, i1_0, rr_c3, zc9, oc9, zc10, oc10, zc11, oc11, zc12, oc12, zc13, oc13, zc15, oc15, Int32.lt_irrefl, Nat.zero_lt_one, Rt_cons, Rt_void, isB_0, isB_1, isB_b, true_and, and_true, cats_nil, cats_int, cats_ref, and_self, if_true, if_false, ite_self, le_nlt, ite_not, Rt_nil, bI_t ho]
    · simp only [aX8_gales_0, aX8_gales_1, aX8_gales_2, aX8_gales_3, aX8_gales_6, aX8_gales_9, aX8_gales_11, sp_in, Nat.zero_le, Nat.reduceLeDiff, Nat.reduceAdd, i1_0, rr_c3, zc9, oc9, zc10, oc10, zc11, oc11, zc12, oc12, zc13, oc13, zc15, oc15, Int32.lt_irrefl, Nat.zero_lt_one, Rt_cons, Rt_void, isB_0, isB_1, isB_b, true_and, and_true, cats_nil, cats_int, cats_ref, and_self, if_true, if_false, ite_self, le_nlt, ite_not, Rt_nil, bI_f (show ¬ (¬ x < 0 ∧ ¬ 1 < x) from fun z => ho.elim z.1 z.2)]
  · have hin := not_out.mp ho
    obtain ⟨σ1, σ2, a1, a2, b1, b2⟩ := zG hR.2.2
    have ea : σ1 20 0 5 = 1 := a2.2.2.1
    have eb : σ2 29 0 34 = 1 := b2.2.2.1
    have n10 : ¬ (1 : Int32) = 0 := by decide
    have v22 : vp_in 0 22 := vp_in_nI (n := 0) (by decide) (by decide)
    have va : σ1 24 0 0 = 99 := a2.2.2.2 0 (by decide)
    have vb : σ2 51 0 0 = 99 := b2.2.2.2 0 (by decide)
    by_cases hx : x = 0
    · refine ⟨σ1, σ2, 1, ?_, ?_, zG_end hR a2 b2⟩
      · simp only [aX7_gales_0, aX7_gales_1, aX7_gales_2, aX7_gales_3, aX7_gales_6, aX7_gales_9, aX7_gales_11, aX7_gales_12, aX7_gales_13, aX7_gales_16, aX7_gales_17, sp_isOutside, Nat.zero_le, Nat.reduceLeDiff, Nat.reduceAdd, i1_0, rr_c3, zc9, oc9, zc10, oc10, zc11, oc11, zc12, oc12, zc13, oc13, zc15, oc15, Int32.lt_irrefl, Nat.zero_lt_one, Rt_cons, Rt_void, isB_0, isB_1, isB_b, true_and, and_true, cats_nil, cats_int, cats_ref, and_self, if_true, if_false, ite_self, le_nlt, ite_not, bI_f ho]
        rw [aX7_gales_20, a1]
        simp only [aX7_gales_23, aX7_gales_24, aX7_gales_27, aX7_gales_28, aX7_gales_31, aX7_gales_34, Nat.zero_le, Nat.reduceLeDiff, Nat.reduceAdd, i1_0, rr_c3, zc9, oc9, zc10, oc10, zc11, oc11, zc12, oc12, zc13, oc13, zc15, oc15, Int32.lt_irrefl, Nat.zero_lt_one, Rt_cons, Rt_void, isB_0, isB_1, isB_b, true_and, and_true, cats_nil, cats_int, cats_ref, and_self, if_true, if_false, ite_self, le_nlt, ite_not, Rt_nil, hx, not_true_eq_false, ea]
      · simp only [aX8_gales_0, aX8_gales_1, aX8_gales_2, aX8_gales_3, aX8_gales_6, aX8_gales_9, aX8_gales_11, aX8_gales_12, sp_in, Nat.zero_le, Nat.reduceLeDiff, Nat.reduceAdd, i1_0, rr_c3, zc9, oc9, zc10, oc10, zc11, oc11, zc12, oc12, zc13, oc13, zc15, oc15, Int32.lt_irrefl, Nat.zero_lt_one, Rt_cons, Rt_void, isB_0, isB_1, isB_b, true_and, and_true, cats_nil, cats_int, cats_ref, and_self, if_true, if_false, ite_self, le_nlt, ite_not, bI_t hin]
        rw [aX8_gales_13, b1]
        simp only [aX8_gales_16, aX8_gales_17, aX8_gales_20, aX8_gales_21, aX8_gales_24, aX8_gales_27, aX8_gales_28, aX8_gales_31, aX8_gales_34, aX8_gales_35, aX8_gales_38, aX8_gales_39, aX8_gales_42, aX8_gales_43, aX8_gales_44, Nat.zero_le, Nat.reduceLeDiff, Nat.reduceAdd, i1_0, rr_c3, zc9, oc9, zc10, oc10, zc11, oc11, zc12, oc12, zc13, oc13, zc15, oc15, Int32.lt_irrefl, Nat.zero_lt_one, Rt_cons, Rt_void, isB_0, isB_1, isB_b, true_and, and_true, cats_nil, cats_int, cats_ref, and_self, if_true, if_false, ite_self, le_nlt, ite_not, Rt_nil, hx, not_true_eq_false, eb]
    · refine ⟨σ1, σ2, 99, ?_, ?_, zG_end hR a2 b2⟩
      · simp only [aX7_gales_0, aX7_gales_1, aX7_gales_2, aX7_gales_3, aX7_gales_6, aX7_gales_9, aX7_gales_11, aX7_gales_12, aX7_gales_13, aX7_gales_16, aX7_gales_17, sp_isOutside, Nat.zero_le, Nat.reduceLeDiff, Nat.reduceAdd, i1_0, rr_c3, zc9, oc9, zc10, oc10, zc11, oc11, zc12, oc12, zc13, oc13, zc15, oc15, Int32.lt_irrefl, Nat.zero_lt_one, Rt_cons, Rt_void, isB_0, isB_1, isB_b, true_and, and_true, cats_nil, cats_int, cats_ref, and_self, if_true, if_false, ite_self, le_nlt, ite_not, bI_f ho]
        rw [aX7_gales_20, a1]
        simp only [aX7_gales_23, aX7_gales_24, aX7_gales_27, aX7_gales_28, aX7_gales_31, aX7_gales_34, aX7_gales_35, aX7_gales_36, aX7_gales_39, aX7_gales_42, aX7_gales_45, aX7_gales_46, aX7_gales_49, aX7_gales_50, aX7_gales_53, aX7_gales_56, aX7_gales_57, aX7_gales_58, Nat.zero_le, Nat.reduceLeDiff, Nat.reduceAdd, i1_0, rr_c3, zc9, oc9, zc10, oc10, zc11, oc11, zc12, oc12, zc13, oc13, zc15, oc15, Int32.lt_irrefl, Nat.zero_lt_one, Rt_cons, Rt_void, isB_0, isB_1, isB_b, true_and, and_true, cats_nil, cats_int, cats_ref, and_self, if_true, if_false, ite_self, le_nlt, ite_not, Rt_nil, hx, not_false_eq_true, ea, n10, aT_24, aN_24, cnt_24, v22, c0, va]
      · simp only [aX8_gales_0, aX8_gales_1, aX8_gales_2, aX8_gales_3, aX8_gales_6, aX8_gales_9, aX8_gales_11, aX8_gales_12, sp_in, Nat.zero_le, Nat.reduceLeDiff, Nat.reduceAdd, i1_0, rr_c3, zc9, oc9, zc10, oc10, zc11, oc11, zc12, oc12, zc13, oc13, zc15, oc15, Int32.lt_irrefl, Nat.zero_lt_one, Rt_cons, Rt_void, isB_0, isB_1, isB_b, true_and, and_true, cats_nil, cats_int, cats_ref, and_self, if_true, if_false, ite_self, le_nlt, ite_not, bI_t hin]
        rw [aX8_gales_13, b1]
        simp only [aX8_gales_16, aX8_gales_17, aX8_gales_20, aX8_gales_21, aX8_gales_24, aX8_gales_27, aX8_gales_28, aX8_gales_31, aX8_gales_34, aX8_gales_35, aX8_gales_38, aX8_gales_39, aX8_gales_42, aX8_gales_43, aX8_gales_44, Nat.zero_le, Nat.reduceLeDiff, Nat.reduceAdd, i1_0, rr_c3, zc9, oc9, zc10, oc10, zc11, oc11, zc12, oc12, zc13, oc13, zc15, oc15, Int32.lt_irrefl, Nat.zero_lt_one, Rt_cons, Rt_void, isB_0, isB_1, isB_b, true_and, and_true, cats_nil, cats_int, cats_ref, and_self, if_true, if_false, ite_self, le_nlt, ite_not, Rt_nil, hx, not_false_eq_true, eb, n10, aT_51, aN_51, cnt_51, v22, c0, vb]
theorem z_listen : SimZ mX7_listen mX8_listen [] := by
  refine Z_of (Lc := [.ref (ad 0 0), .null, .null, .null, .null]) (Lm := [.ref (ad 29 0), .null, .null, .null, .null]) rfl rfl (fun σ hR => ?_)
  have hz := hR.2.2
  obtain ⟨σ1, σ2, a1, a2, b1, b2⟩ := zG hz
  have n0 : σ1 3 (rr (σ1 9 0 0)) 1 = 0 := by rw [a2.1 9 0 (by decide) (by decide) (by decide), a2.1 3 _ (by decide) (by decide) (by decide)]; exact hz.1.2.1.2.1
  have m0 : σ2 31 0 1 = 0 := by rw [b2.1 31 0 (by decide) (by decide), a2.1 31 0 (by decide) (by decide) (by decide)]; exact hz.1.1.2.1
  refine ⟨σ1, σ2, -1, ?_, ?_, zG_end hR a2 b2⟩
  · simp only [aX7_listen_0, aX7_listen_1, aX7_listen_4, aX7_listen_5, Nat.zero_le, Nat.reduceLeDiff, Nat.reduceAdd, i1_0, rr_c3, zc9, oc9, zc10, oc10, zc11, oc11, zc12, oc12, zc13, oc13, zc15, oc15, Int32.lt_irrefl, Nat.zero_lt_one, Rt_cons, Rt_void, isB_0, isB_1, isB_b, true_and, and_true, cats_nil, cats_int, cats_ref, and_self, if_true, if_false, ite_self, le_nlt, ite_not]
    rw [aX7_listen_8, a1]
    simp only [aX7_listen_11, aX7_listen_12, aX7_listen_13, aX7_listen_14, aX7_listen_17, aX7_listen_20, aX7_listen_21, aX7_listen_22, aX7_listen_23, aX7_listen_24, aX7_listen_25, aX7_listen_28, aX7_listen_31, aX7_listen_34, aX7_listen_68, aX7_listen_69, Nat.zero_le, Nat.reduceLeDiff, Nat.reduceAdd, i1_0, rr_c3, zc9, oc9, zc10, oc10, zc11, oc11, zc12, oc12, zc13, oc13, zc15, oc15, Int32.lt_irrefl, Nat.zero_lt_one, Rt_cons, Rt_void, isB_0, isB_1, isB_b, true_and, and_true, cats_nil, cats_int, cats_ref, and_self, if_true, if_false, ite_self, le_nlt, ite_not, n0, Rt_nil]
  · simp only [aX8_listen_0, Nat.zero_le, Nat.reduceLeDiff, Nat.reduceAdd, i1_0, rr_c3, zc9, oc9, zc10, oc10, zc11, oc11, zc12, oc12, zc13, oc13, zc15, oc15, Int32.lt_irrefl, Nat.zero_lt_one, Rt_cons, Rt_void, isB_0, isB_1, isB_b, true_and, and_true, cats_nil, cats_int, cats_ref, and_self, if_true, if_false, ite_self, le_nlt, ite_not]
    rw [aX8_listen_1, b1]
    simp only [aX8_listen_4, aX8_listen_5, aX8_listen_6, aX8_listen_7, aX8_listen_10, aX8_listen_11, aX8_listen_12, aX8_listen_13, aX8_listen_14, aX8_listen_15, aX8_listen_18, aX8_listen_19, aX8_listen_20, aX8_listen_55, aX8_listen_56, Nat.zero_le, Nat.reduceLeDiff, Nat.reduceAdd, i1_0, rr_c3, zc9, oc9, zc10, oc10, zc11, oc11, zc12, oc12, zc13, oc13, zc15, oc15, Int32.lt_irrefl, Nat.zero_lt_one, Rt_cons, Rt_void, isB_0, isB_1, isB_b, true_and, and_true, cats_nil, cats_int, cats_ref, and_self, if_true, if_false, ite_self, le_nlt, ite_not, aT_31, aN_31, cnt_31, v3.2.1, c1, m0, Rt_nil]
/-- row, from any state -/
theorem Rel_txt {τ : Mem} (hR : Rel σ) (h : TxC σ τ) : Rel τ := by
  obtain ⟨r1, r2, C, N, G, r3, r4, r5, r6, r7⟩ := hR
  obtain ⟨t, hf, h29⟩ := h
  have hne := r3.2.1
  have g := fun k i (a : ¬ k = 1 ∧ ¬ (3 ≤ k ∧ k ≤ 8) ∧ ¬ k = 29 ∧ ¬ (37 ≤ k ∧ k ≤ 42)) => hf k i a.1 (fun z => a.2.1 ⟨z.1, z.2.1⟩) a.2.2.1 a.2.2.2
  have s29 := fun s (a : ¬ s = 1 ∧ ¬ s = 2 ∧ ¬ s = 27 ∧ ¬ s = 28) => h29 s a.1 a.2.1 a.2.2.1 a.2.2.2
  have e9 := g 9 0 (by omega)
  refine ⟨t, SeedR_congr r2 (by rw [g 0 0 (by omega)]) (s29 _ (by omega)), C, N, G, ⟨?_, by rw [e9, g 0 0 (by omega)]; exact hne, CS_congr r3.2.2.1 (fun k a b => g _ _ (by omega)) (fun s _ => by rw [g 43 0 (by omega)]), by rw [g 43 0 (by omega)]; exact r3.2.2.2⟩, EarR_congr r4 (by rw [g 20 0 (by omega)]) (s29 _ (by omega)) (g _ _ (by omega)) (g _ _ (by omega)) (g _ _ (by omega)) (g _ _ (by omega)), BookR_congr r5 (by rw [g 26 0 (by omega)]) (s29 _ (by omega)) (g _ _ (by omega)) (g _ _ (by omega)) (g _ _ (by omega)), ?_, ?_⟩
  · rw [e9]
    exact RowS_congr r3.1 (fun k a => hf k _ (by omega) (fun z => hne z.2.2.symm) (by omega) (by omega)) (fun k a => g _ _ (by omega))
  · rw [e9]; exact PastR_congr r6 (g _ _ (by omega)) (s29 _ (by omega)) (g _ _ (by omega)) (fun k i a b _ _ => g _ _ (by omega))
  · rw [e9]; exact ImgR_congr r7 (fun i => g _ _ (by omega)) (g _ _ (by omega)) (g _ _ (by omega)) (g _ _ (by omega)) (fun k i a b _ _ => g _ _ (by omega))
theorem Rel0_txt {τ : Mem} (hR : Rel0 σ) (h : TxC σ τ) : Rel0 τ := by
  obtain ⟨r1, r2, hz⟩ := hR
  obtain ⟨t, hf, h29⟩ := h
  have hne := hz.1.2.2
  have g := fun k i (a : ¬ k = 1 ∧ ¬ (3 ≤ k ∧ k ≤ 8) ∧ ¬ k = 29 ∧ ¬ (37 ≤ k ∧ k ≤ 42)) => hf k i a.1 (fun z => a.2.1 ⟨z.1, z.2.1⟩) a.2.2.1 a.2.2.2
  have s29 := fun s (a : ¬ s = 1 ∧ ¬ s = 2 ∧ ¬ s = 27 ∧ ¬ s = 28) => h29 s a.1 a.2.1 a.2.2.1 a.2.2.2
  exact ⟨t, SeedR_congr r2 (by rw [g 0 0 (by omega)]) (s29 _ (by omega)), Z0_congr hz (by rw [g 0 0 (by omega)]) (hf 3 _ (by omega) (fun z => hne z.2.2.symm) (by omega) (by omega)) (fun k i a b _ => g _ _ (by omega)) (g _ _ (by omega)) (fun i => g _ _ (by omega)) (by rw [g 20 0 (by omega)]) (by rw [g 26 0 (by omega)]) (g _ _ (by omega)) (g _ _ (by omega)) (g _ _ (by omega)) (g _ _ (by omega)) (g _ _ (by omega)) (s29 _ (by omega)) (s29 _ (by omega)) (s29 _ (by omega))⟩
theorem api_row : Sim Rel mX7_row mX8_row [] := by
  refine Sim_of (Lc := [.ref (ad 0 0), .null, .null, .null]) (Lm := [.ref (ad 29 0), .null]) rfl rfl (fun σ hR => ?_)
  obtain ⟨r1, r2, C, N, G, r3, r4, r5, ⟨c, x, p1, p2, p3, p4, p5, p6⟩, r7⟩ := id hR
  obtain ⟨σ1, σ2, r, a1, a2, a3⟩ := row_gen r1 r2 r3.2.1 ⟨x, p2, p4⟩
  exact ⟨σ1, σ2, r, a1, a2, a3.elim id (fun h => Rel_txt hR h)⟩
theorem z_row : SimZ mX7_row mX8_row [] := by
  refine Z_of (Lc := [.ref (ad 0 0), .null, .null, .null]) (Lm := [.ref (ad 29 0), .null]) rfl rfl (fun σ hR => ?_)
  obtain ⟨r1, r2, hz⟩ := id hR
  obtain ⟨σ1, σ2, r, a1, a2, a3⟩ := row_gen r1 r2 hz.1.2.2 hz.2.2.2.1.2.1
  exact ⟨σ1, σ2, r, a1, a2, a3.imp id (fun h => Rel0_txt hR h)⟩
end S91
