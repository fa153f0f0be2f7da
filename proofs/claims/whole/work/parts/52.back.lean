/-- now is another State, and what is in the reference -/
theorem api_goBack (x : Int32) : Sim Rel mX7_goBack mX8_goBack [.int x] := by
  refine Sim_of (Lc := [.ref (ad 0 0), .int x, .null]) (Lm := [.ref (ad 29 0), .int x]) rfl rfl (fun σ hR => ?_)
  by_cases ho : x < 0 ∨ 1 < x
  · refine ⟨σ, σ, -1000000001, ?_, ?_, hR⟩
    · simp only [aX7_goBack_0, aX7_goBack_1, aX7_goBack_2, aX7_goBack_3, aX7_goBack_6, aX7_goBack_9, aX7_goBack_11, sp_isOutside, Nat.zero_le, Nat.reduceLeDiff, Nat.reduceAdd, i1_0, rr_c3, zc9, oc9, zc10, oc10, zc11, oc11, zc12, oc12, zc13, oc13, zc15, oc15, Int32.lt_irrefl, Nat.zero_lt_one, Rt_cons, Rt_void, isB_0, isB_1, isB_b, true_and, and_true, cats_nil, cats_int, cats_ref, and_self, if_true, if_false, ite_self, le_nlt, ite_not, Rt_nil, bI_t ho]
    · simp only [aX8_goBack_0, aX8_goBack_1, aX8_goBack_2, aX8_goBack_3, aX8_goBack_6, aX8_goBack_9, aX8_goBack_11, sp_in, Nat.zero_le, Nat.reduceLeDiff, Nat.reduceAdd, i1_0, rr_c3, zc9, oc9, zc10, oc10, zc11, oc11, zc12, oc12, zc13, oc13, zc15, oc15, Int32.lt_irrefl, Nat.zero_lt_one, Rt_cons, Rt_void, isB_0, isB_1, isB_b, true_and, and_true, cats_nil, cats_int, cats_ref, and_self, if_true, if_false, ite_self, le_nlt, ite_not, Rt_nil, bI_f (show ¬ (¬ x < 0 ∧ ¬ 1 < x) from fun z => ho.elim z.1 z.2)]
  · obtain ⟨t, ht, rfl⟩ := fl2 ho
    have hin := not_out.mp ho
    obtain ⟨r1, r2, C, N, G, r3, r4, r5, r6, r7⟩ := id hR
    have v2 : vp_in (nI t) 2 := vp_in_nI ht (by decide)
    have ct : (nI t).toNatClampNeg = t := nI_clamp (by omega)
    have t19 : t < cnt 19 := by rw [cnt_19]; exact ht
    have c32 : 32 + t < cnt 9 := by rw [cnt_9]; omega
    obtain ⟨g1, g2⟩ := r7 t ht
    rcases g2 with g2 | ⟨a1, a2, a3, a4, a5, a6⟩
    · have g3 : σ 19 t 2 = 0 := g1.trans g2
      refine ⟨σ, σ, -1000000003, ?_, ?_, hR⟩
      · simp only [aX7_goBack_0, aX7_goBack_1, aX7_goBack_2, aX7_goBack_3, aX7_goBack_6, aX7_goBack_9, aX7_goBack_11, aX7_goBack_12, aX7_goBack_13, aX7_goBack_16, aX7_goBack_17s, aX7_goBack_17m, aX7_goBack_18, aX7_goBack_19, aX7_goBack_20, aX7_goBack_23, aX7_goBack_26, aX7_goBack_28, sp_isOutside, Nat.zero_le, Nat.reduceLeDiff, Nat.reduceAdd, i1_0, rr_c3, zc9, oc9, zc10, oc10, zc11, oc11, zc12, oc12, zc13, oc13, zc15, oc15, Int32.lt_irrefl, Nat.zero_lt_one, Rt_cons, Rt_void, isB_0, isB_1, isB_b, true_and, and_true, cats_nil, cats_int, cats_ref, and_self, if_true, if_false, ite_self, le_nlt, ite_not, Rt_nil, bI_f ho, v2, ct, t19, g3, not_true_eq_false]
      · simp only [aX8_goBack_0, aX8_goBack_1, aX8_goBack_2, aX8_goBack_3, aX8_goBack_6, aX8_goBack_9, aX8_goBack_11, aX8_goBack_12, aX8_goBack_13, aX8_goBack_16, aX8_goBack_17, aX8_goBack_18, aX8_goBack_21, aX8_goBack_23, sp_in, Nat.zero_le, Nat.reduceLeDiff, Nat.reduceAdd, i1_0, rr_c3, zc9, oc9, zc10, oc10, zc11, oc11, zc12, oc12, zc13, oc13, zc15, oc15, Int32.lt_irrefl, Nat.zero_lt_one, Rt_cons, Rt_void, isB_0, isB_1, isB_b, true_and, and_true, cats_nil, cats_int, cats_ref, and_self, if_true, if_false, ite_self, le_nlt, ite_not, Rt_nil, bI_t hin, aT_48, aN_48, cnt_48, v2, ct, g2, not_true_eq_false]
    · have g3 : σ 19 t 2 = 1 := g1.trans a1
      have hb := CS_bool a4
      have e19 : cpF σ 0 (32 + t) 19 t = σ 19 t := cpF_ne (by omega)
      have z0 : nI 0 = 0 := rfl
      refine ⟨upS (upS (cpF σ 0 (32 + t)) 0 0 8 (σ 47 0 t)) 16 0 2 0, upS (upS (cpM (upS (upS (cpF σ 0 (32 + t)) 0 0 8 (σ 47 0 t)) 16 0 2 0) 46 (99 * t) 43 0) 29 0 22 (σ 47 0 t)) 29 0 18 0, 1, ?_, ?_, ?_⟩
      · simp only [aX7_goBack_0, aX7_goBack_1, aX7_goBack_2, aX7_goBack_3, aX7_goBack_6, aX7_goBack_9, aX7_goBack_11, aX7_goBack_12, aX7_goBack_13, aX7_goBack_16, aX7_goBack_17s, aX7_goBack_17m, aX7_goBack_18, aX7_goBack_19, aX7_goBack_20, aX7_goBack_23, aX7_goBack_26, aX7_goBack_28, aX7_goBack_29, aX7_goBack_30, aX7_goBack_33, aX7_goBack_34, aX7_goBack_37, sp_isOutside, Nat.zero_le, Nat.reduceLeDiff, Nat.reduceAdd, i1_0, rr_c3, zc9, oc9, zc10, oc10, zc11, oc11, zc12, oc12, zc13, oc13, zc15, oc15, Int32.lt_irrefl, Nat.zero_lt_one, Rt_cons, Rt_void, isB_0, isB_1, isB_b, true_and, and_true, cats_nil, cats_int, cats_ref, and_self, if_true, if_false, ite_self, le_nlt, ite_not, Rt_nil, bI_f ho, v2, ct, t19, c32, g3, not_false_eq_true]
        rw [sp_copyFrom (by omega) (by omega) (by omega) hb]
        simp only [aX7_goBack_40, aX7_goBack_41, aX7_goBack_42, aX7_goBack_45, aX7_goBack_48, aX7_goBack_49, aX7_goBack_52, aX7_goBack_55, aX7_goBack_56, sp_forget, Nat.zero_le, Nat.reduceLeDiff, Nat.reduceAdd, i1_0, rr_c3, zc9, oc9, zc10, oc10, zc11, oc11, zc12, oc12, zc13, oc13, zc15, oc15, Int32.lt_irrefl, Nat.zero_lt_one, Rt_cons, Rt_void, isB_0, isB_1, isB_b, true_and, and_true, cats_nil, cats_int, cats_ref, and_self, if_true, if_false, ite_self, le_nlt, ite_not, Rt_nil, t19, e19, a2]
      · have hm : ∀ k i, 29 ≤ k → upS (upS (cpF σ 0 (32 + t)) 0 0 8 (σ 47 0 t)) 16 0 2 0 k i = σ k i := fun k i a => by rw [upS_ne (by omega), upS_ne (by omega), cpF_ne (by omega)]
        generalize upS (upS (cpF σ 0 (32 + t)) 0 0 8 (σ 47 0 t)) 16 0 2 0 = σ1 at hm ⊢
        have e3 : (99 : Int32) * nI t = nI (99 * t) := pk_mul 99 t
        have m48 : σ1 48 0 t = 1 := by rw [hm _ _ (by omega)]; exact a1
        simp only [aX8_goBack_0, aX8_goBack_1, aX8_goBack_2, aX8_goBack_3, aX8_goBack_6, aX8_goBack_9, aX8_goBack_11, aX8_goBack_12, aX8_goBack_13, aX8_goBack_16, aX8_goBack_17, aX8_goBack_18, aX8_goBack_21, aX8_goBack_23, aX8_goBack_24, aX8_goBack_25, aX8_goBack_28, aX8_goBack_30, aX8_goBack_31, aX8_goBack_32, aX8_goBack_33, aX8_goBack_36, aX8_goBack_37, sp_in, Nat.zero_le, Nat.reduceLeDiff, Nat.reduceAdd, i1_0, rr_c3, zc9, oc9, zc10, oc10, zc11, oc11, zc12, oc12, zc13, oc13, zc15, oc15, Int32.lt_irrefl, Nat.zero_lt_one, Rt_cons, Rt_void, isB_0, isB_1, isB_b, true_and, and_true, cats_nil, cats_int, cats_ref, and_self, if_true, if_false, ite_self, le_nlt, ite_not, Rt_nil, bI_t hin, aT_48, aN_48, cnt_48, v2, ct, m48, e3, not_false_eq_true]
        rw [← z0, sp_copies (by decide) (by decide) (by decide) (by decide) (by decide) (by rw [aN_46]; omega) (by decide) (by decide) (by decide)]
        have m47 : cpM σ1 46 (99 * t) 43 0 47 0 t = σ 47 0 t := by unfold cpM; rw [updK_ne (by decide), hm 47 0 (by omega)]
        simp only [aX8_goBack_40, aX8_goBack_41, aX8_goBack_42, aX8_goBack_45, aX8_goBack_46, aX8_goBack_47, aX8_goBack_50, aX8_goBack_51, aX8_goBack_52, aX8_goBack_55, aX8_goBack_56, Nat.zero_le, Nat.reduceLeDiff, Nat.reduceAdd, i1_0, rr_c3, zc9, oc9, zc10, oc10, zc11, oc11, zc12, oc12, zc13, oc13, zc15, oc15, Int32.lt_irrefl, Nat.zero_lt_one, Rt_cons, Rt_void, isB_0, isB_1, isB_b, true_and, and_true, cats_nil, cats_int, cats_ref, and_self, if_true, if_false, ite_self, le_nlt, ite_not, Rt_nil, aT_47, aN_47, cnt_47, v2, ct, m47, z0]
      · generalize hτ : upS (upS (cpM (upS (upS (cpF σ 0 (32 + t)) 0 0 8 (σ 47 0 t)) 16 0 2 0) 46 (99 * t) 43 0) 29 0 22 (σ 47 0 t)) 29 0 18 0 = τ
        have hne : ∀ k i, (¬ (9 ≤ k ∧ k ≤ 15 ∧ i = 0) ∧ k ≠ 0 ∧ k ≠ 16 ∧ k ≠ 43 ∧ k ≠ 29) → τ k i = σ k i := fun k i a => by
          rw [← hτ]; unfold cpM
          rw [upS_ne (by omega), upS_ne (by omega), updK_ne (by omega), upS_ne (by omega), upS_ne (by omega), cpF_ne (by omega)]
        have e29 : τ 29 0 = upd (upd (σ 29 0) 22 (σ 47 0 t)) 18 0 := by
          rw [← hτ]; unfold cpM
          rw [upS_eq, upS_eq, updK_ne (by omega), upS_ne (by omega), upS_ne (by omega), cpF_ne (by omega)]
        have e16 : τ 16 0 = upd (σ 16 0) 2 0 := by
          rw [← hτ]; unfold cpM
          rw [upS_ne (by omega), upS_ne (by omega), updK_ne (by omega), upS_eq, upS_ne (by omega), cpF_ne (by omega)]
        have e0 : τ 0 0 = upd (σ 0 0) 8 (σ 47 0 t) := by
          rw [← hτ]; unfold cpM
          rw [upS_ne (by omega), upS_ne (by omega), updK_ne (by omega), upS_ne (by omega), upS_eq, cpF_ne (by omega)]
        have e43 : τ 43 0 = va_cpy (σ 46 0) (σ 43 0) (99 * t) 0 99 := by
          rw [← hτ]; unfold cpM
          rw [upS_ne (by omega), upS_ne (by omega), updK_eq, upS_ne (by omega), upS_ne (by omega), cpF_ne (by omega), upS_ne (by omega), upS_ne (by omega), cpF_ne (by omega)]
        have est : ∀ k, 9 ≤ k → k ≤ 15 → τ k 0 = cpF σ 0 (32 + t) k 0 := fun k a b => by
          rw [← hτ]; unfold cpM
          rw [upS_ne (by omega), upS_ne (by omega), updK_ne (by omega), upS_ne (by omega), upS_ne (by omega)]
        clear hτ
        have erow : rr (τ 9 0 0) = rr (σ 9 0 0) := by rw [est 9 (by omega) (by omega), cpF_row (by omega), a5]
        have hw : ∀ s, s < 99 → τ 43 0 s = σ 46 0 (99 * t + s) := fun s hs => by rw [e43, pk_cpy_in (by omega) (by omega), show 99 * t + (s - 0) = 99 * t + s by omega]
        refine ⟨TxtR_congr r1 (hne _ _ (by omega)) (hne _ _ (by omega)) (hne _ _ (by omega)) (by rw [e29]; rfl) (by rw [e29]; rfl), ⟨by rw [e0, e29]; rfl, by rw [e29]; exact a3⟩, C, N, G, ⟨?_, ?_, ?_, ?_⟩, EarR_congr r4 (by rw [hne 20 0 (by omega)]) (by rw [e29]; rfl) (hne _ _ (by omega)) (hne _ _ (by omega)) (hne _ _ (by omega)) (hne _ _ (by omega)), BookR_congr r5 (by rw [hne 26 0 (by omega)]) (by rw [e29]; rfl) (hne _ _ (by omega)) (hne _ _ (by omega)) (hne _ _ (by omega)), ?_, ?_⟩
        · rw [erow]; exact RowS_congr r3.1 (fun k a => hne _ _ (by omega)) (fun k a => hne _ _ (by omega))
        · rw [erow, e0]; exact r3.2.1
        · exact CS_congr (CS_copy (i := 32 + t) (j := 0) (by omega) a4) est hw
        · exact WFw_congr a6 hw
        · rw [erow]
          obtain ⟨c, y, p1, p2, p3, p4, p5, p6⟩ := r6
          exact ⟨0, y, by omega, p2, by rw [e16]; rfl, by rw [e16]; exact p4, by rw [e29]; rfl, fun j hj => by omega⟩
        · rw [erow]
          exact ImgR_congr r7 (fun i => hne _ _ (by omega)) (hne _ _ (by omega)) (hne _ _ (by omega)) (hne _ _ (by omega)) (fun k i a b d f => hne _ _ (by omega))
theorem bI_F [Decidable False] : bI False = 0 := if_neg id
theorem bI_T [Decidable True] : bI True = 1 := if_pos trivial
theorem api_undo (x : Int32) : Sim Rel mX7_undo mX8_undo [.int x] := by
  refine Sim_of (Lc := [.ref (ad 0 0), .int x]) (Lm := [.ref (ad 29 0), .int x]) rfl rfl (fun σ hR => ?_)
  by_cases ho : x < 1 ∨ 30 < x
  · refine ⟨σ, σ, -1000000002, ?_, ?_, hR⟩
    · simp only [aX7_undo_0, aX7_undo_1, aX7_undo_2, aX7_undo_4, aX7_undo_7, aX7_undo_10, aX7_undo_12, sp_isOutside, Nat.zero_le, Nat.reduceLeDiff, Nat.reduceAdd, i1_0, rr_c3, zc9, oc9, zc10, oc10, zc11, oc11, zc12, oc12, zc13, oc13, zc15, oc15, Int32.lt_irrefl, Nat.zero_lt_one, Rt_cons, Rt_void, isB_0, isB_1, isB_b, true_and, and_true, cats_nil, cats_int, cats_ref, and_self, if_true, if_false, ite_self, le_nlt, ite_not, Rt_nil, bI_t ho]
    · simp only [aX8_undo_0, aX8_undo_1, aX8_undo_2, aX8_undo_4, aX8_undo_7, aX8_undo_10, aX8_undo_12, sp_in, Nat.zero_le, Nat.reduceLeDiff, Nat.reduceAdd, i1_0, rr_c3, zc9, oc9, zc10, oc10, zc11, oc11, zc12, oc12, zc13, oc13, zc15, oc15, Int32.lt_irrefl, Nat.zero_lt_one, Rt_cons, Rt_void, isB_0, isB_1, isB_b, true_and, and_true, cats_nil, cats_int, cats_ref, and_self, if_true, if_false, ite_self, le_nlt, ite_not, Rt_nil, bI_f (show ¬ (¬ x < 1 ∧ ¬ 30 < x) from fun z => ho.elim z.1 z.2)]
  · have hin := not_out.mp ho
    obtain ⟨hx0, hx1⟩ := hin
    have hn0 : ¬ x < 0 := fun z => hx0 (Int32.lt_trans z (by decide))
    obtain ⟨d, hd, rfl⟩ := nI_of2 (M := 30) (n := 30) (by decide) hn0 (Int32.not_lt.mp hx1)
    have hd1 : 1 ≤ d := by
      rcases Nat.lt_or_ge d 1 with q | q
      · exact absurd (show nI d < 1 from nI_lt (b := 1) q (by decide)) hx0
      · exact q
    obtain ⟨r1, r2, C, N, G, r3, r4, r5, r6, r7⟩ := id hR
    obtain ⟨c, y, p1, p2, p3, p4, p5, p6⟩ := id r6
    have hlt : (nI c < nI d) ↔ c < d := nI_ltI (by omega) (by omega)
    by_cases hc : c < d
    · refine ⟨σ, σ, -1000000003, ?_, ?_, hR⟩
      · simp only [aX7_undo_0, aX7_undo_1, aX7_undo_2, aX7_undo_4, aX7_undo_7, aX7_undo_10, aX7_undo_12, aX7_undo_13, aX7_undo_14, aX7_undo_17, aX7_undo_18, aX7_undo_19, aX7_undo_22, aX7_undo_25, aX7_undo_28, aX7_undo_29, aX7_undo_32, aX7_undo_35, aX7_undo_38, aX7_undo_40, aX3_bringBack_0, aX3_bringBack_1, aX3_bringBack_2, aX3_bringBack_5, aX3_bringBack_6, aX3_bringBack_7, aX3_bringBack_10, aX3_bringBack_13, aX3_bringBack_14, sp_isOutside, Nat.zero_le, Nat.reduceLeDiff, Nat.reduceAdd, i1_0, rr_c3, zc9, oc9, zc10, oc10, zc11, oc11, zc12, oc12, zc13, oc13, zc15, oc15, Int32.lt_irrefl, Nat.zero_lt_one, Rt_cons, Rt_void, isB_0, isB_1, isB_b, true_and, and_true, cats_nil, cats_int, cats_ref, and_self, if_true, if_false, ite_self, le_nlt, ite_not, Rt_nil, bI_f ho, p3, hx0, hx1, or_self, bI_F, hlt, hc, not_true_eq_false]
      · simp only [aX8_undo_0, aX8_undo_1, aX8_undo_2, aX8_undo_4, aX8_undo_7, aX8_undo_10, aX8_undo_12, aX8_undo_13, aX8_undo_14, aX8_undo_15, aX8_undo_18, aX8_undo_21, aX8_undo_23, sp_in, Nat.zero_le, Nat.reduceLeDiff, Nat.reduceAdd, i1_0, rr_c3, zc9, oc9, zc10, oc10, zc11, oc11, zc12, oc12, zc13, oc13, zc15, oc15, Int32.lt_irrefl, Nat.zero_lt_one, Rt_cons, Rt_void, isB_0, isB_1, isB_b, true_and, and_true, cats_nil, cats_int, cats_ref, and_self, if_true, if_false, ite_self, le_nlt, ite_not, Rt_nil, bI_t (show (¬ nI d < 1 ∧ ¬ 30 < nI d) from ⟨hx0, hx1⟩), p5, hlt, hc, not_true_eq_false]
    · obtain ⟨y', hy'⟩ : ∃ y', y' = (y + 30 - d) % 30 := ⟨_, rfl⟩
      have hy2 : y' < 30 := by omega
      obtain ⟨b1, b2, b3⟩ := p6 (c - d) (by omega)
      have ei : 2 + (y + 30 - c + (c - d)) % 30 = 2 + y' := by omega
      rw [ei] at b1 b2
      have hb := CS_bool b1
      have e1 : nI y + 30 - nI d = nI (y + 30 - d) := by
        rw [show nI y + 30 = nI (y + 30) from nI_add y 30]
        exact pk_sub (by omega)
      have e2 : nI (y + 30 - d) - nI (y + 30 - d) / 30 * 30 = nI y' := by rw [hy']; exact pk_rem (a := y + 30 - d) (d := 30) (by omega) (by omega) (by omega)
      have e3 : nI c - nI d = nI (c - d) := pk_sub (by omega)
      have ne30 : ¬ (30 : Int32) = 0 := by decide
      have v30 : vp_in (nI y') 30 := vp_in_nI hy2 (by decide)
      have cy : (nI y').toNatClampNeg = y' := nI_clamp (by omega)
      have c9y : 2 + y' < cnt 9 := by rw [cnt_9]; omega
      have z0 : nI 0 = 0 := rfl
      have ek : ∀ k i, k ≠ 16 → upS (upS σ 16 0 1 (nI y')) 16 0 2 (nI (c - d)) k i = σ k i := fun k i a => by rw [upS_ne (by omega), upS_ne (by omega)]
      have hb' : ∀ h, h < 7 → upS (upS σ 16 0 1 (nI y')) 16 0 2 (nI (c - d)) 14 (2 + y') h = 0 ∨ upS (upS σ 16 0 1 (nI y')) 16 0 2 (nI (c - d)) 14 (2 + y') h = 1 := fun h hh => by rw [ek _ _ (by omega)]; exact hb h hh
      have b1' : CS (upS (upS σ 16 0 1 (nI y')) 16 0 2 (nI (c - d))) (2 + y') (fun t => σ 45 0 (99 * (c - d) + t)) := CS_congr b1 (fun k _ _ => ek _ _ (by omega)) (fun _ _ => rfl)
      have b2' : rr (upS (upS σ 16 0 1 (nI y')) 16 0 2 (nI (c - d)) 9 (2 + y') 0) = rr (σ 9 0 0) := by rw [ek _ _ (by omega)]; exact b2
      refine ⟨cpF (upS (upS σ 16 0 1 (nI y')) 16 0 2 (nI (c - d))) 0 (2 + y'), cpM (upS (cpF (upS (upS σ 16 0 1 (nI y')) 16 0 2 (nI (c - d))) 0 (2 + y')) 29 0 18 (nI (c - d))) 45 (99 * (c - d)) 43 0, σ 45 0 (99 * (c - d)), ?_, ?_, ?_⟩
      · simp only [aX7_undo_0, aX7_undo_1, aX7_undo_2, aX7_undo_4, aX7_undo_7, aX7_undo_10, aX7_undo_12, aX7_undo_13, aX7_undo_14, aX7_undo_17, aX7_undo_18, aX7_undo_19, aX7_undo_22, aX3_bringBack_0, aX3_bringBack_1, aX3_bringBack_2, aX3_bringBack_5, aX3_bringBack_6, aX3_bringBack_7, aX3_bringBack_10, aX3_bringBack_13, aX3_bringBack_14, aX3_bringBack_15, aX3_bringBack_16, aX3_bringBack_17, aX3_bringBack_20, aX3_bringBack_22, aX3_bringBack_23, aX3_bringBack_24, aX3_bringBack_25, aX3_bringBack_27, aX3_bringBack_28, aX3_bringBack_31, aX3_bringBack_32i, aX3_bringBack_32a, aX3_bringBack_33, aX3_bringBack_36, aX3_bringBack_37, aX3_bringBack_38, aX3_bringBack_41, aX3_bringBack_42, aX3_bringBack_43, aX3_bringBack_46, aX3_bringBack_47, aX3_bringBack_50s, aX3_bringBack_50m, aX3_bringBack_51, sp_isOutside, Nat.zero_le, Nat.reduceLeDiff, Nat.reduceAdd, i1_0, rr_c3, zc9, oc9, zc10, oc10, zc11, oc11, zc12, oc12, zc13, oc13, zc15, oc15, Int32.lt_irrefl, Nat.zero_lt_one, Rt_cons, Rt_void, isB_0, isB_1, isB_b, true_and, and_true, cats_nil, cats_int, cats_ref, and_self, if_true, if_false, ite_self, le_nlt, ite_not, Rt_nil, bI_f ho, p3, p4, hx0, hx1, or_self, bI_F, hlt, hc, not_false_eq_true, e1, e2, e3, ne30, upS_eq, upd_eq, upd_ne (show ¬ 2 = 1 by decide), upd_ne (show ¬ 1 = 2 by decide), v30, cy, c9y]
        rw [sp_copyFrom (by omega) (by omega) (by omega) hb']
        have e9 : cpF (upS (upS σ 16 0 1 (nI y')) 16 0 2 (nI (c - d))) 0 (2 + y') 9 0 1 = σ 45 0 (99 * (c - d)) := (CS_copy (i := 2 + y') (j := 0) (by omega) b1').1
        simp only [aX3_bringBack_54, aX3_bringBack_55, aX7_undo_25, aX7_undo_28, aX7_undo_29, aX7_undo_32, aX7_undo_35, aX7_undo_38, aX7_undo_40, Nat.zero_le, Nat.reduceLeDiff, Nat.reduceAdd, i1_0, rr_c3, zc9, oc9, zc10, oc10, zc11, oc11, zc12, oc12, zc13, oc13, zc15, oc15, Int32.lt_irrefl, Nat.zero_lt_one, Rt_cons, Rt_void, isB_0, isB_1, isB_b, true_and, and_true, cats_nil, cats_int, cats_ref, and_self, if_true, if_false, ite_self, le_nlt, ite_not, Rt_nil, e9]
      · have hm : ∀ k i, 29 ≤ k → cpF (upS (upS σ 16 0 1 (nI y')) 16 0 2 (nI (c - d))) 0 (2 + y') k i = σ k i := fun k i a => by rw [cpF_ne (by omega), ek _ _ (by omega)]
        generalize cpF (upS (upS σ 16 0 1 (nI y')) 16 0 2 (nI (c - d))) 0 (2 + y') = σ1 at hm ⊢
        have m18 : σ1 29 0 18 = nI c := by rw [hm _ _ (by omega)]; exact p5
        have e4 : (99 : Int32) * nI (c - d) = nI (99 * (c - d)) := pk_mul 99 (c - d)
        simp only [aX8_undo_0, aX8_undo_1, aX8_undo_2, aX8_undo_4, aX8_undo_7, aX8_undo_10, aX8_undo_12, aX8_undo_13, aX8_undo_14, aX8_undo_15, aX8_undo_18, aX8_undo_21, aX8_undo_23, aX8_undo_24, aX8_undo_25i, aX8_undo_25a, aX8_undo_26, aX8_undo_29, aX8_undo_30, aX8_undo_31, aX8_undo_34, aX8_undo_35, aX8_undo_38, aX8_undo_40, aX8_undo_41, aX8_undo_44, aX8_undo_45, aX8_undo_46, aX8_undo_49, aX8_undo_50, sp_in, Nat.zero_le, Nat.reduceLeDiff, Nat.reduceAdd, i1_0, rr_c3, zc9, oc9, zc10, oc10, zc11, oc11, zc12, oc12, zc13, oc13, zc15, oc15, Int32.lt_irrefl, Nat.zero_lt_one, Rt_cons, Rt_void, isB_0, isB_1, isB_b, true_and, and_true, cats_nil, cats_int, cats_ref, and_self, if_true, if_false, ite_self, le_nlt, ite_not, Rt_nil, bI_t (show (¬ nI d < 1 ∧ ¬ 30 < nI d) from ⟨hx0, hx1⟩), m18, hlt, hc, not_false_eq_true, e3, upS_eq, upd_eq, e4]
        rw [← z0, sp_copies (by decide) (by decide) (by decide) (by decide) (by decide) (by rw [aN_45]; omega) (by decide) (by decide) (by decide)]
        have m43 : cpM (upS σ1 29 0 18 (nI (c - d))) 45 (99 * (c - d)) 43 0 43 0 0 = σ 45 0 (99 * (c - d)) := by
          unfold cpM
          rw [updK_eq, pk_cpy_in (by omega) (by omega), upS_ne (by decide), hm _ _ (by omega)]
          rfl
        simp only [aX8_undo_53, aX8_undo_54, aX8_undo_57, aX8_undo_58, aX8_undo_59, Nat.zero_le, Nat.reduceLeDiff, Nat.reduceAdd, i1_0, rr_c3, zc9, oc9, zc10, oc10, zc11, oc11, zc12, oc12, zc13, oc13, zc15, oc15, Int32.lt_irrefl, Nat.zero_lt_one, Rt_cons, Rt_void, isB_0, isB_1, isB_b, true_and, and_true, cats_nil, cats_int, cats_ref, and_self, if_true, if_false, ite_self, le_nlt, ite_not, Rt_nil, aT_43, aN_43, cnt_43, z0, v99.1, c0, m43]
      · generalize hτ : cpM (upS (cpF (upS (upS σ 16 0 1 (nI y')) 16 0 2 (nI (c - d))) 0 (2 + y')) 29 0 18 (nI (c - d))) 45 (99 * (c - d)) 43 0 = τ
        have hne : ∀ k i, (¬ (9 ≤ k ∧ k ≤ 15 ∧ i = 0) ∧ k ≠ 16 ∧ k ≠ 43 ∧ k ≠ 29) → τ k i = σ k i := fun k i a => by
          rw [← hτ]; unfold cpM
          rw [updK_ne (by omega), upS_ne (by omega), cpF_ne (by omega), ek _ _ (by omega)]
        have e29 : τ 29 0 = upd (σ 29 0) 18 (nI (c - d)) := by
          rw [← hτ]; unfold cpM
          rw [updK_ne (by omega), upS_eq, cpF_ne (by omega), ek _ _ (by omega)]
        have e16 : τ 16 0 = upd (upd (σ 16 0) 1 (nI y')) 2 (nI (c - d)) := by
          rw [← hτ]; unfold cpM
          rw [updK_ne (by omega), upS_ne (by omega), cpF_ne (by omega), upS_eq, upS_eq]
        have e43 : τ 43 0 = va_cpy (σ 45 0) (σ 43 0) (99 * (c - d)) 0 99 := by
          rw [← hτ]; unfold cpM
          rw [updK_eq, upS_ne (by omega), cpF_ne (by omega), ek _ _ (by omega), upS_ne (by omega), cpF_ne (by omega), ek _ _ (by omega)]
        have est : ∀ k, 9 ≤ k → k ≤ 15 → τ k 0 = cpF (upS (upS σ 16 0 1 (nI y')) 16 0 2 (nI (c - d))) 0 (2 + y') k 0 := fun k a b => by
          rw [← hτ]; unfold cpM
          rw [updK_ne (by omega), upS_ne (by omega)]
        clear hτ
        have erow : rr (τ 9 0 0) = rr (σ 9 0 0) := by rw [est 9 (by omega) (by omega), cpF_row (by omega), b2']
        have hw : ∀ s, s < 99 → τ 43 0 s = σ 45 0 (99 * (c - d) + s) := fun s hs => by rw [e43, pk_cpy_in (by omega) (by omega), show 99 * (c - d) + (s - 0) = 99 * (c - d) + s by omega]
        refine ⟨TxtR_congr r1 (hne _ _ (by omega)) (hne _ _ (by omega)) (hne _ _ (by omega)) (by rw [e29]; rfl) (by rw [e29]; rfl), SeedR_congr r2 (by rw [hne 0 0 (by omega)]) (by rw [e29]; rfl), C, N, G, ⟨?_, ?_, ?_, ?_⟩, EarR_congr r4 (by rw [hne 20 0 (by omega)]) (by rw [e29]; rfl) (hne _ _ (by omega)) (hne _ _ (by omega)) (hne _ _ (by omega)) (hne _ _ (by omega)), BookR_congr r5 (by rw [hne 26 0 (by omega)]) (by rw [e29]; rfl) (hne _ _ (by omega)) (hne _ _ (by omega)) (hne _ _ (by omega)), ?_, ?_⟩
        · rw [erow]; exact RowS_congr r3.1 (fun k a => hne _ _ (by omega)) (fun k a => hne _ _ (by omega))
        · rw [erow, hne 0 0 (by omega)]; exact r3.2.1
        · exact CS_congr (CS_copy (i := 2 + y') (j := 0) (by omega) b1') est hw
        · exact WFw_congr b3 hw
        · rw [erow]
          refine ⟨c - d, y', by omega, hy2, by rw [e16]; rfl, by rw [e16]; rfl, by rw [e29]; rfl, fun j hj => ?_⟩
          have ej : 2 + (y' + 30 - (c - d) + j) % 30 = 2 + (y + 30 - c + j) % 30 := by omega
          have hj2 : 1 ≤ 2 + (y + 30 - c + j) % 30 := by omega
          rw [ej, hne 45 0 (by omega), hne 9 _ (by omega)]
          obtain ⟨f1, f2, f3⟩ := p6 j (by omega)
          exact ⟨CS_congr f1 (fun k a b => hne _ _ (by omega)) (fun _ _ => rfl), f2, f3⟩
        · rw [erow]
          exact ImgR_congr r7 (fun i => hne _ _ (by omega)) (hne _ _ (by omega)) (hne _ _ (by omega)) (hne _ _ (by omega)) (fun k i a b d f => hne _ _ (by omega))
