-- feed, tear
theorem i2c_nI {d : Nat} (h : d ≤ 255) : ((nI d).toUInt32 % 65536).toInt32 = nI d := by
  rw [pk_char, pk_tn (by omega), Nat.mod_eq_of_lt (by omega)]
theorem nar_c {d : Nat} (h : d ≤ 255) : vp_nar .char (nI d) = nI d := by
  have := pk_vc (nI d)
  rw [i2c_nI h] at this
  exact this
theorem sp_in {x l h : Int32} {fs : List Fm} {M : List va_E} {Q : List va_E → Option Value → Prop} : Rn mX8_in 0 [.int x, .int l, .int h] [] fs M Q ↔ Rt fs M (some (.int (bI (¬ x < l ∧ ¬ h < x)))) Q := by
  simp only [aX8_in_0, aX8_in_1, aX8_in_2, aX8_in_5, aX8_in_6, aX8_in_7, aX8_in_10, aX8_in_11, aX8_in_14, aX8_in_15, Nat.zero_le, Nat.reduceLeDiff, Nat.reduceAdd, i1_0, rr_c3, zc9, oc9, zc10, oc10, zc11, oc11, zc12, oc12, zc13, oc13, zc15, oc15, Int32.lt_irrefl, Nat.zero_lt_one, Rt_cons, Rt_void, isB_0, isB_1, isB_b, true_and, and_true, cats_nil, cats_int, cats_ref, and_self, if_true, if_false, ite_self, le_nlt, ite_not]
  by_cases h1 : x < l
  · simp [h1, bI]
  · by_cases h2 : h < x <;> simp [h1, h2, bI]
theorem not_out {n l m : Int32} : (¬ (n < l ∨ m < n)) ↔ (¬ n < l ∧ ¬ m < n) := not_or
theorem api_feed (x : Int32) : Sim Rel mX7_feed mX8_feed [.int x] := by
  refine Sim_of (Lc := [.ref (ad 0 0), .int x]) (Lm := [.ref (ad 29 0), .int x]) rfl rfl (fun σ hR => ?_)
  by_cases h : x < 0 ∨ 255 < x
  · refine ⟨σ, σ, -1000000002, ?_, ?_, hR⟩
    · simp only [aX7_feed_0, aX7_feed_1, aX7_feed_2, aX7_feed_5, aX7_feed_8, aX7_feed_11, aX7_feed_13, aX7_feed_14, aX7_feed_15, aX7_feed_18, aX7_feed_19, aX7_feed_22, aX7_feed_25, aX7_feed_26, aX7_feed_29, aX7_feed_32, aX7_feed_35, aX7_feed_37, sp_isOutside, Nat.zero_le, Nat.reduceLeDiff, Nat.reduceAdd, i1_0, rr_c3, zc9, oc9, zc10, oc10, zc11, oc11, zc12, oc12, zc13, oc13, zc15, oc15, Int32.lt_irrefl, Nat.zero_lt_one, Rt_cons, Rt_void, isB_0, isB_1, isB_b, true_and, and_true, cats_nil, cats_int, cats_ref, and_self, if_true, if_false, ite_self, le_nlt, ite_not, Rt_nil, bI_t h]
    · simp only [aX8_feed_0, aX8_feed_1, aX8_feed_2, aX8_feed_5, aX8_feed_8, aX8_feed_11, aX8_feed_13, aX8_feed_14, aX8_feed_15, aX8_feed_18, aX8_feed_21, aX8_feed_24, aX8_feed_26, aX8_feed_27, aX8_feed_28, aX8_feed_31, aX8_feed_32, aX8_feed_35, aX8_feed_36, aX8_feed_37, aX8_feed_38i, aX8_feed_38a, aX8_feed_39, aX8_feed_42, aX8_feed_43, aX8_feed_44, aX8_feed_47, aX8_feed_48, aX8_feed_51, sp_in, Nat.zero_le, Nat.reduceLeDiff, Nat.reduceAdd, i1_0, rr_c3, zc9, oc9, zc10, oc10, zc11, oc11, zc12, oc12, zc13, oc13, zc15, oc15, Int32.lt_irrefl, Nat.zero_lt_one, Rt_cons, Rt_void, isB_0, isB_1, isB_b, true_and, and_true, cats_nil, cats_int, cats_ref, and_self, if_true, if_false, ite_self, le_nlt, ite_not, Rt_nil, bI_f (show ¬ (¬ x < 0 ∧ ¬ 255 < x) from fun z => h.elim z.1 z.2)]
  · obtain ⟨hx0, hx1⟩ := not_out.mp h
    obtain ⟨d, hd, rfl⟩ := nI_of2 (M := 255) (n := 255) (by decide) hx0 (Int32.not_lt.mp hx1)
    obtain ⟨r1, r2, C, N, G, r3, r4, r5, r6, r7⟩ := id hR
    obtain ⟨⟨c, c1, c2, c3, c4⟩, c5⟩ := r1
    have hin : (¬ nI d < 0 ∧ ¬ 255 < nI d) := ⟨hx0, hx1⟩
    have n240 : nI 240 = 240 := rfl
    by_cases hc : c = 240
    · subst hc
      refine ⟨σ, σ, -1000000004, ?_, ?_, hR⟩
      · simp only [aX7_feed_0, aX7_feed_1, aX7_feed_2, aX7_feed_5, aX7_feed_8, aX7_feed_11, aX7_feed_13, aX7_feed_14, aX7_feed_15, aX7_feed_18, aX7_feed_19, aX7_feed_22, aX7_feed_25, aX7_feed_26, aX7_feed_29, aX7_feed_32, aX7_feed_35, aX7_feed_37, aX6_append_0, aX6_append_1, aX6_append_4, aX6_append_7, aX6_append_10, aX6_append_11, aX6_append_12, aX6_append_13, aX6_append_16, aX6_append_17, aX6_append_20, aX6_append_21, aX6_append_22, aX6_append_23, aX6_append_24i, aX6_append_24a, aX6_append_25, aX6_append_28, aX6_append_29, aX6_append_30, aX6_append_33, aX6_append_34, sp_isOutside, Nat.zero_le, Nat.reduceLeDiff, Nat.reduceAdd, i1_0, rr_c3, zc9, oc9, zc10, oc10, zc11, oc11, zc12, oc12, zc13, oc13, zc15, oc15, Int32.lt_irrefl, Nat.zero_lt_one, Rt_cons, Rt_void, isB_0, isB_1, isB_b, true_and, and_true, cats_nil, cats_int, cats_ref, and_self, if_true, if_false, ite_self, le_nlt, ite_not, Rt_nil, bI_f h, c2, n240]
      · simp only [aX8_feed_0, aX8_feed_1, aX8_feed_2, aX8_feed_5, aX8_feed_8, aX8_feed_11, aX8_feed_13, aX8_feed_14, aX8_feed_15, aX8_feed_18, aX8_feed_21, aX8_feed_24, aX8_feed_26, aX8_feed_27, aX8_feed_28, aX8_feed_31, aX8_feed_32, aX8_feed_35, aX8_feed_36, aX8_feed_37, aX8_feed_38i, aX8_feed_38a, aX8_feed_39, aX8_feed_42, aX8_feed_43, aX8_feed_44, aX8_feed_47, aX8_feed_48, aX8_feed_51, sp_in, Nat.zero_le, Nat.reduceLeDiff, Nat.reduceAdd, i1_0, rr_c3, zc9, oc9, zc10, oc10, zc11, oc11, zc12, oc12, zc13, oc13, zc15, oc15, Int32.lt_irrefl, Nat.zero_lt_one, Rt_cons, Rt_void, isB_0, isB_1, isB_b, true_and, and_true, cats_nil, cats_int, cats_ref, and_self, if_true, if_false, ite_self, le_nlt, ite_not, Rt_nil, bI_t hin, c3, n240]
    · have hc2 : c < 240 := by omega
      have l1 : nI c < 240 := nI_lt (b := 240) hc2 (by decide)
      have l2 : ¬ nI c = 240 := fun z => by
        have := (nI_eq (a := c) (b := 240) (by omega) (by decide)).mp z
        omega
      have v1 : vp_in (nI c) 240 := vp_in_nI hc2 (by decide)
      have cl : (nI c).toNatClampNeg = c := nI_clamp (by omega)
      refine ⟨upS (upS σ 2 0 c (nI d)) 1 0 1 (nI c + 1), upS (upS (upS (upS σ 2 0 c (nI d)) 1 0 1 (nI c + 1)) 30 0 c (nI d)) 29 0 1 (nI c + 1), nI c + 1, ?_, ?_, ?_⟩
      · simp only [aX7_feed_0, aX7_feed_1, aX7_feed_2, aX7_feed_5, aX7_feed_8, aX7_feed_11, aX7_feed_13, aX7_feed_14, aX7_feed_15, aX7_feed_18, aX7_feed_19, aX7_feed_22, aX7_feed_25, aX7_feed_26, aX7_feed_29, aX7_feed_32, aX7_feed_35, aX7_feed_37, aX6_append_0, aX6_append_1, aX6_append_4, aX6_append_7, aX6_append_10, aX6_append_11, aX6_append_12, aX6_append_13, aX6_append_16, aX6_append_17, aX6_append_20, aX6_append_21, aX6_append_22, aX6_append_23, aX6_append_24i, aX6_append_24a, aX6_append_25, aX6_append_28, aX6_append_29, aX6_append_30, aX6_append_33, aX6_append_34, sp_isOutside, Nat.zero_le, Nat.reduceLeDiff, Nat.reduceAdd, i1_0, rr_c3, zc9, oc9, zc10, oc10, zc11, oc11, zc12, oc12, zc13, oc13, zc15, oc15, Int32.lt_irrefl, Nat.zero_lt_one, Rt_cons, Rt_void, isB_0, isB_1, isB_b, true_and, and_true, cats_nil, cats_int, cats_ref, and_self, if_true, if_false, ite_self, le_nlt, ite_not, Rt_nil, bI_f h, c2, cnt_2, aT_2, aN_2, l1, v1, cl, i2c_nI hd, nar_c hd]
        simp [upS, updK, upd, c2]
      · simp only [aX8_feed_0, aX8_feed_1, aX8_feed_2, aX8_feed_5, aX8_feed_8, aX8_feed_11, aX8_feed_13, aX8_feed_14, aX8_feed_15, aX8_feed_18, aX8_feed_21, aX8_feed_24, aX8_feed_26, aX8_feed_27, aX8_feed_28, aX8_feed_31, aX8_feed_32, aX8_feed_35, aX8_feed_36, aX8_feed_37, aX8_feed_38i, aX8_feed_38a, aX8_feed_39, aX8_feed_42, aX8_feed_43, aX8_feed_44, aX8_feed_47, aX8_feed_48, aX8_feed_51, sp_in, Nat.zero_le, Nat.reduceLeDiff, Nat.reduceAdd, i1_0, rr_c3, zc9, oc9, zc10, oc10, zc11, oc11, zc12, oc12, zc13, oc13, zc15, oc15, Int32.lt_irrefl, Nat.zero_lt_one, Rt_cons, Rt_void, isB_0, isB_1, isB_b, true_and, and_true, cats_nil, cats_int, cats_ref, and_self, if_true, if_false, ite_self, le_nlt, ite_not, Rt_nil, bI_t hin, cnt_30, aT_30, aN_30, upS_ne (show ¬ (29 = 1 ∧ 0 = 0) by decide), upS_ne (show ¬ (29 = 2 ∧ 0 = 0) by decide), upS_ne (show ¬ (29 = 30 ∧ 0 = 0) by decide), c3, l2, v1, cl, upS_eq, upd_eq]
      · have hne : ∀ k i, (k ≠ 2 ∧ k ≠ 1 ∧ k ≠ 30 ∧ k ≠ 29) → upS (upS (upS (upS σ 2 0 c (nI d)) 1 0 1 (nI c + 1)) 30 0 c (nI d)) 29 0 1 (nI c + 1) k i = σ k i := fun k i a => (upS_ne (fun z => a.2.2.2 z.1)).trans ((upS_ne (fun z => a.2.2.1 z.1)).trans ((upS_ne (fun z => a.2.1 z.1)).trans (upS_ne (fun z => a.1 z.1))))
        have e29 : upS (upS (upS (upS σ 2 0 c (nI d)) 1 0 1 (nI c + 1)) 30 0 c (nI d)) 29 0 1 (nI c + 1) 29 0 = upd (σ 29 0) 1 (nI c + 1) := by simp [upS, updK]
        have e1 : upS (upS (upS (upS σ 2 0 c (nI d)) 1 0 1 (nI c + 1)) 30 0 c (nI d)) 29 0 1 (nI c + 1) 1 0 = upd (σ 1 0) 1 (nI c + 1) := by simp [upS, updK]
        have e2 : upS (upS (upS (upS σ 2 0 c (nI d)) 1 0 1 (nI c + 1)) 30 0 c (nI d)) 29 0 1 (nI c + 1) 2 0 = upd (σ 2 0) c (nI d) := by simp [upS, updK]
        have e30 : upS (upS (upS (upS σ 2 0 c (nI d)) 1 0 1 (nI c + 1)) 30 0 c (nI d)) 29 0 1 (nI c + 1) 30 0 = upd (σ 30 0) c (nI d) := by simp [upS, updK]
        generalize upS (upS (upS (upS σ 2 0 c (nI d)) 1 0 1 (nI c + 1)) 30 0 c (nI d)) 29 0 1 (nI c + 1) = τ at hne e29 e1 e2 e30 ⊢
        refine ⟨⟨⟨c + 1, by omega, by rw [e1, upd_eq, nI_succ], by rw [e29, upd_eq, nI_succ], fun j hj => ?_⟩, ?_⟩, SeedR_congr r2 (by rw [hne 0 0 (by decide)]) (by rw [e29]; first | done | rfl), C, N, G, NowR_congr r3 (by rw [hne 0 0 (by decide)]) (fun k q a => hne _ _ (by omega)) (fun k a b => hne _ _ (by omega)) (fun k a => hne _ _ (by omega)) (hne _ _ (by decide)), EarR_congr r4 (by rw [hne 20 0 (by decide)]) (by rw [e29]; first | done | rfl) (hne _ _ (by decide)) (hne _ _ (by decide)) (hne _ _ (by decide)) (hne _ _ (by decide)), BookR_congr r5 (by rw [hne 26 0 (by decide)]) (by rw [e29]; first | done | rfl) (hne _ _ (by decide)) (hne _ _ (by decide)) (hne _ _ (by decide)), (by rw [hne 9 0 (by decide)]; exact PastR_congr r6 (hne _ _ (by decide)) (by rw [e29]; first | done | rfl) (hne _ _ (by decide)) (fun k i a b _ _ => hne _ _ (by omega))), (by rw [hne 9 0 (by decide)]; exact ImgR_congr r7 (fun i => hne _ _ (by decide)) (hne _ _ (by decide)) (hne _ _ (by decide)) (hne _ _ (by decide)) (fun k i a b _ _ => hne _ _ (by omega)))⟩
        · rw [e2, e30]
          by_cases hjc : j = c
          · subst hjc
            rw [upd_eq, upd_eq]
            exact ⟨rfl, d, hd, rfl⟩
          · rw [upd_ne hjc, upd_ne hjc]
            exact c4 j (by omega)
        · rw [e1, e29]
          exact c5
theorem api_tear : Sim Rel mX7_tear mX8_tear [] := by
  refine Sim_of (Lc := [.ref (ad 0 0), .null]) (Lm := [.ref (ad 29 0), .null]) rfl rfl (fun σ hR => ?_)
  obtain ⟨r1, r2, C, N, G, r3, r4, r5, r6, r7⟩ := id hR
  obtain ⟨a, a1, a2, a3, a4⟩ := id r4
  obtain ⟨b, b1, b2, b3, b4⟩ := id r5
  refine ⟨upS (upS σ 20 0 3 0) 26 0 2 0, upS (upS (upS (upS σ 20 0 3 0) 26 0 2 0) 29 0 24 0) 29 0 26 0, nI a + nI b, ?_, ?_, ?_⟩
  · simp only [aX7_tear_0, aX7_tear_1, aX7_tear_4, aX7_tear_7, aX7_tear_8, aX7_tear_11, aX7_tear_14, aX7_tear_15, aX7_tear_16, aX7_tear_17, aX7_tear_20, aX7_tear_21, aX7_tear_24, aX7_tear_25, aX7_tear_28, aX7_tear_29, aX7_tear_32, aX7_tear_33, Nat.zero_le, Nat.reduceLeDiff, Nat.reduceAdd, i1_0, rr_c3, zc9, oc9, zc10, oc10, zc11, oc11, zc12, oc12, zc13, oc13, zc15, oc15, Int32.lt_irrefl, Nat.zero_lt_one, Rt_cons, Rt_void, isB_0, isB_1, isB_b, true_and, and_true, cats_nil, cats_int, cats_ref, and_self, if_true, if_false, ite_self, le_nlt, ite_not, Rt_nil, a2, b2]
  · simp only [aX8_tear_0, aX8_tear_1, aX8_tear_4, aX8_tear_5, aX8_tear_8, aX8_tear_9, aX8_tear_10, aX8_tear_11, aX8_tear_12, aX8_tear_15, aX8_tear_16, aX8_tear_17, aX8_tear_20, aX8_tear_21, Nat.zero_le, Nat.reduceLeDiff, Nat.reduceAdd, i1_0, rr_c3, zc9, oc9, zc10, oc10, zc11, oc11, zc12, oc12, zc13, oc13, zc15, oc15, Int32.lt_irrefl, Nat.zero_lt_one, Rt_cons, Rt_void, isB_0, isB_1, isB_b, true_and, and_true, cats_nil, cats_int, cats_ref, and_self, if_true, if_false, ite_self, le_nlt, ite_not, Rt_nil, upS_ne (show ¬ (29 = 20 ∧ 0 = 0) by decide), upS_ne (show ¬ (29 = 26 ∧ 0 = 0) by decide), a3, b3]
  · have hne : ∀ k i, (k ≠ 20 ∧ k ≠ 26 ∧ k ≠ 29) → upS (upS (upS (upS σ 20 0 3 0) 26 0 2 0) 29 0 24 0) 29 0 26 0 k i = σ k i := fun k i a => (upS_ne (fun z => a.2.2 z.1)).trans ((upS_ne (fun z => a.2.2 z.1)).trans ((upS_ne (fun z => a.2.1 z.1)).trans (upS_ne (fun z => a.1 z.1))))
    have e29 : upS (upS (upS (upS σ 20 0 3 0) 26 0 2 0) 29 0 24 0) 29 0 26 0 29 0 = upd (upd (σ 29 0) 24 0) 26 0 := by simp [upS, updK]
    have e20 : upS (upS (upS (upS σ 20 0 3 0) 26 0 2 0) 29 0 24 0) 29 0 26 0 20 0 = upd (σ 20 0) 3 0 := by simp [upS, updK]
    have e26 : upS (upS (upS (upS σ 20 0 3 0) 26 0 2 0) 29 0 24 0) 29 0 26 0 26 0 = upd (σ 26 0) 2 0 := by simp [upS, updK]
    generalize upS (upS (upS (upS σ 20 0 3 0) 26 0 2 0) 29 0 24 0) 29 0 26 0 = τ at hne e29 e20 e26 ⊢
    exact ⟨TxtR_congr r1 (hne _ _ (by decide)) (hne _ _ (by decide)) (hne _ _ (by decide)) (by rw [e29]; first | done | rfl) (by rw [e29]; first | done | rfl), SeedR_congr r2 (by rw [hne 0 0 (by decide)]) (by rw [e29]; first | done | rfl), C, N, G, NowR_congr r3 (by rw [hne 0 0 (by decide)]) (fun k q a => hne _ _ (by omega)) (fun k a b => hne _ _ (by omega)) (fun k a => hne _ _ (by omega)) (hne _ _ (by decide)), ⟨0, by omega, by rw [e20]; rfl, by rw [e29]; rfl, fun j hj => by omega⟩, ⟨0, by omega, by rw [e26]; rfl, by rw [e29]; rfl, fun j hj => by omega⟩, (by rw [hne 9 0 (by decide)]; exact PastR_congr r6 (hne _ _ (by decide)) (by rw [e29]; first | done | rfl) (hne _ _ (by decide)) (fun k i a b _ _ => hne _ _ (by omega))), (by rw [hne 9 0 (by decide)]; exact ImgR_congr r7 (fun i => hne _ _ (by decide)) (hne _ _ (by decide)) (hne _ _ (by decide)) (hne _ _ (by decide)) (fun k i a b _ _ => hne _ _ (by omega)))⟩
