theorem fl2 {x : Int32} (h : ¬ (x < 0 ∨ 1 < x)) : ∃ t : Nat, t < 2 ∧ x = nI t := by
  obtain ⟨a, b⟩ := not_out.mp h
  obtain ⟨d, hd, rfl⟩ := nI_of2 (M := 1) (n := 1) (by decide) a (Int32.not_lt.mp b)
  exact ⟨d, by omega, rfl⟩
section S51
variable {σ : Mem} {fs : List Fm} {Q : List va_E → Option Value → Prop}
theorem sp_forget : Rn mX3_forget 0 [.ref (ad 16 0)] [] fs (enc σ) Q ↔ Rt fs (enc (upS σ 16 0 2 0)) none Q := by
  simp only [aX3_forget_0, aX3_forget_1, aX3_forget_2, aX3_forget_5, Nat.zero_le, Nat.reduceLeDiff, Nat.reduceAdd, i1_0, rr_c3, zc9, oc9, zc10, oc10, zc11, oc11, zc12, oc12, zc13, oc13, zc15, oc15, Int32.lt_irrefl, Nat.zero_lt_one, Rt_cons, Rt_void, isB_0, isB_1, isB_b, true_and, and_true, cats_nil, cats_int, cats_ref, and_self, if_true, if_false, ite_self, le_nlt, ite_not]
theorem api_keep (x : Int32) : Sim Rel mX7_keep mX8_keep [.int x] := by
  refine Sim_of (Lc := [.ref (ad 0 0), .int x, .null]) (Lm := [.ref (ad 29 0), .int x]) rfl rfl (fun σ hR => ?_)
  by_cases ho : x < 0 ∨ 1 < x
  · refine ⟨σ, σ, -1000000001, ?_, ?_, hR⟩
    · simp only [aX7_keep_0, aX7_keep_1, aX7_keep_2, aX7_keep_3, aX7_keep_6, aX7_keep_9, aX7_keep_11, sp_isOutside, Nat.zero_le, Nat.reduceLeDiff, Nat.reduceAdd, i1_0, rr_c3, zc9, oc9, zc10, oc10, zc11, oc11, zc12, oc12, zc13, oc13, zc15, oc15, Int32.lt_irrefl, Nat.zero_lt_one, Rt_cons, Rt_void, isB_0, isB_1, isB_b, true_and, and_true, cats_nil, cats_int, cats_ref, and_self, if_true, if_false, ite_self, le_nlt, ite_not, Rt_nil, bI_t ho]
    · simp only [aX8_keep_0, aX8_keep_1, aX8_keep_2, aX8_keep_3, aX8_keep_6, aX8_keep_9, aX8_keep_11, sp_in, Nat.zero_le, Nat.reduceLeDiff, Nat.reduceAdd, i1_0, rr_c3, zc9, oc9, zc10, oc10, zc11, oc11, zc12, oc12, zc13, oc13, zc15, oc15, Int32.lt_irrefl, Nat.zero_lt_one, Rt_cons, Rt_void, isB_0, isB_1, isB_b, true_and, and_true, cats_nil, cats_int, cats_ref, and_self, if_true, if_false, ite_self, le_nlt, ite_not, Rt_nil, bI_f (show ¬ (¬ x < 0 ∧ ¬ 1 < x) from fun z => ho.elim z.1 z.2)]
  · obtain ⟨t, ht, rfl⟩ := fl2 ho
    have hin := not_out.mp ho
    obtain ⟨r1, r2, C, N, G, r3, r4, r5, r6, r7⟩ := id hR
    have hb := CS_bool r3.2.2.1
    have v2 : vp_in (nI t) 2 := vp_in_nI ht (by decide)
    have ct : (nI t).toNatClampNeg = t := nI_clamp (by omega)
    have t19 : t < cnt 19 := by rw [cnt_19]; exact ht
    have c32 : 32 + t < cnt 9 := by rw [cnt_9]; omega
    have e0 : cpF σ (32 + t) 0 0 0 = σ 0 0 := cpF_ne (by omega)
    refine ⟨upS (upS (upS (cpF σ (32 + t) 0) 19 t 1 (σ 0 0 8)) 19 t 2 1) 16 0 2 0, upS (upS (upS (cpM (upS (upS (upS (cpF σ (32 + t) 0) 19 t 1 (σ 0 0 8)) 19 t 2 1) 16 0 2 0) 43 0 46 (99 * t)) 47 0 t (σ 29 0 22)) 48 0 t 1) 29 0 18 0, 1, ?_, ?_, ?_⟩
    · simp only [aX7_keep_0, aX7_keep_1, aX7_keep_2, aX7_keep_3, aX7_keep_6, aX7_keep_9, aX7_keep_11, aX7_keep_12, aX7_keep_13, aX7_keep_16, aX7_keep_17s, aX7_keep_17m, aX7_keep_18, aX7_keep_19, aX7_keep_20, aX7_keep_23, aX7_keep_24, aX7_keep_27, sp_isOutside, Nat.zero_le, Nat.reduceLeDiff, Nat.reduceAdd, i1_0, rr_c3, zc9, oc9, zc10, oc10, zc11, oc11, zc12, oc12, zc13, oc13, zc15, oc15, Int32.lt_irrefl, Nat.zero_lt_one, Rt_cons, Rt_void, isB_0, isB_1, isB_b, true_and, and_true, cats_nil, cats_int, cats_ref, and_self, if_true, if_false, ite_self, le_nlt, ite_not, Rt_nil, bI_f ho, v2, ct, t19, c32]
      rw [sp_copyFrom (by decide) (by omega) (by omega) hb]
      simp only [aX7_keep_30, aX7_keep_31, aX7_keep_32, aX7_keep_35, aX7_keep_38, aX7_keep_39, aX7_keep_40_0, aX7_keep_40_1, aX7_keep_43, aX7_keep_44, aX7_keep_47, aX7_keep_50, aX7_keep_51, sp_forget, Nat.zero_le, Nat.reduceLeDiff, Nat.reduceAdd, i1_0, rr_c3, zc9, oc9, zc10, oc10, zc11, oc11, zc12, oc12, zc13, oc13, zc15, oc15, Int32.lt_irrefl, Nat.zero_lt_one, Rt_cons, Rt_void, isB_0, isB_1, isB_b, true_and, and_true, cats_nil, cats_int, cats_ref, and_self, if_true, if_false, ite_self, le_nlt, ite_not, Rt_nil, t19, e0]
    · have hm : ∀ k i, 29 ≤ k → upS (upS (upS (cpF σ (32 + t) 0) 19 t 1 (σ 0 0 8)) 19 t 2 1) 16 0 2 0 k i = σ k i := fun k i a => by rw [upS_ne (by omega), upS_ne (by omega), upS_ne (by omega), cpF_ne (by omega)]
      generalize upS (upS (upS (cpF σ (32 + t) 0) 19 t 1 (σ 0 0 8)) 19 t 2 1) 16 0 2 0 = σ1 at hm ⊢
      have z0 : nI 0 = 0 := rfl
      have e3 : (99 : Int32) * nI t = nI (99 * t) := pk_mul 99 t
      simp only [aX8_keep_0, aX8_keep_1, aX8_keep_2, aX8_keep_3, aX8_keep_6, aX8_keep_9, aX8_keep_11, aX8_keep_12, aX8_keep_13, aX8_keep_16, aX8_keep_17, aX8_keep_18, aX8_keep_21, aX8_keep_23, aX8_keep_24, aX8_keep_25, sp_in, Nat.zero_le, Nat.reduceLeDiff, Nat.reduceAdd, i1_0, rr_c3, zc9, oc9, zc10, oc10, zc11, oc11, zc12, oc12, zc13, oc13, zc15, oc15, Int32.lt_irrefl, Nat.zero_lt_one, Rt_cons, Rt_void, isB_0, isB_1, isB_b, true_and, and_true, cats_nil, cats_int, cats_ref, and_self, if_true, if_false, ite_self, le_nlt, ite_not, Rt_nil, bI_t hin, e3]
      rw [← z0, sp_copies (by decide) (by decide) (by decide) (by decide) (by decide) (by decide) (by rw [aN_46]; omega) (by decide) (by decide)]
      have m29 : cpM σ1 43 0 46 (99 * t) 29 0 22 = σ 29 0 22 := by unfold cpM; rw [updK_ne (by decide), hm 29 0 (by omega)]
      simp only [aX8_keep_28, aX8_keep_29, aX8_keep_32, aX8_keep_33, aX8_keep_34, aX8_keep_37, aX8_keep_38, aX8_keep_39, aX8_keep_42, aX8_keep_43, aX8_keep_44, aX8_keep_45, aX8_keep_46, aX8_keep_47, aX8_keep_50, aX8_keep_51, Nat.zero_le, Nat.reduceLeDiff, Nat.reduceAdd, i1_0, rr_c3, zc9, oc9, zc10, oc10, zc11, oc11, zc12, oc12, zc13, oc13, zc15, oc15, Int32.lt_irrefl, Nat.zero_lt_one, Rt_cons, Rt_void, isB_0, isB_1, isB_b, true_and, and_true, cats_nil, cats_int, cats_ref, and_self, if_true, if_false, ite_self, le_nlt, ite_not, Rt_nil, aT_47, aN_47, cnt_47, aT_48, aN_48, cnt_48, v2, ct, m29, nar_b1, z0]
    · have hne : ∀ k i, (¬ (9 ≤ k ∧ k ≤ 15 ∧ i = 32 + t) ∧ k ≠ 19 ∧ k ≠ 16 ∧ k ≠ 46 ∧ k ≠ 47 ∧ k ≠ 48 ∧ k ≠ 29) → upS (upS (upS (cpM (upS (upS (upS (cpF σ (32 + t) 0) 19 t 1 (σ 0 0 8)) 19 t 2 1) 16 0 2 0) 43 0 46 (99 * t)) 47 0 t (σ 29 0 22)) 48 0 t 1) 29 0 18 0 k i = σ k i := fun k i a => by
        unfold cpM
        rw [upS_ne (by omega), upS_ne (by omega), upS_ne (by omega), updK_ne (by omega), upS_ne (by omega), upS_ne (by omega), upS_ne (by omega), cpF_ne (by omega)]
      have e29 : upS (upS (upS (cpM (upS (upS (upS (cpF σ (32 + t) 0) 19 t 1 (σ 0 0 8)) 19 t 2 1) 16 0 2 0) 43 0 46 (99 * t)) 47 0 t (σ 29 0 22)) 48 0 t 1) 29 0 18 0 29 0 = upd (σ 29 0) 18 0 := by
        unfold cpM
        rw [upS_eq, upS_ne (by omega), upS_ne (by omega), updK_ne (by omega), upS_ne (by omega), upS_ne (by omega), upS_ne (by omega), cpF_ne (by omega)]
      have e16 : upS (upS (upS (cpM (upS (upS (upS (cpF σ (32 + t) 0) 19 t 1 (σ 0 0 8)) 19 t 2 1) 16 0 2 0) 43 0 46 (99 * t)) 47 0 t (σ 29 0 22)) 48 0 t 1) 29 0 18 0 16 0 = upd (σ 16 0) 2 0 := by
        unfold cpM
        rw [upS_ne (by omega), upS_ne (by omega), upS_ne (by omega), updK_ne (by omega), upS_eq, upS_ne (by omega), upS_ne (by omega), cpF_ne (by omega)]
      have e46 : upS (upS (upS (cpM (upS (upS (upS (cpF σ (32 + t) 0) 19 t 1 (σ 0 0 8)) 19 t 2 1) 16 0 2 0) 43 0 46 (99 * t)) 47 0 t (σ 29 0 22)) 48 0 t 1) 29 0 18 0 46 0 = va_cpy (σ 43 0) (σ 46 0) 0 (99 * t) 99 := by
        unfold cpM
        rw [upS_ne (by omega), upS_ne (by omega), upS_ne (by omega), updK_eq, upS_ne (by omega), upS_ne (by omega), upS_ne (by omega), cpF_ne (by omega), upS_ne (by omega), upS_ne (by omega), upS_ne (by omega), cpF_ne (by omega)]
      have e47 : upS (upS (upS (cpM (upS (upS (upS (cpF σ (32 + t) 0) 19 t 1 (σ 0 0 8)) 19 t 2 1) 16 0 2 0) 43 0 46 (99 * t)) 47 0 t (σ 29 0 22)) 48 0 t 1) 29 0 18 0 47 0 = upd (σ 47 0) t (σ 29 0 22) := by
        unfold cpM
        rw [upS_ne (by omega), upS_ne (by omega), upS_eq, updK_ne (by omega), upS_ne (by omega), upS_ne (by omega), upS_ne (by omega), cpF_ne (by omega)]
      have e48 : upS (upS (upS (cpM (upS (upS (upS (cpF σ (32 + t) 0) 19 t 1 (σ 0 0 8)) 19 t 2 1) 16 0 2 0) 43 0 46 (99 * t)) 47 0 t (σ 29 0 22)) 48 0 t 1) 29 0 18 0 48 0 = upd (σ 48 0) t 1 := by
        unfold cpM
        rw [upS_ne (by omega), upS_eq, upS_ne (by omega), updK_ne (by omega), upS_ne (by omega), upS_ne (by omega), upS_ne (by omega), cpF_ne (by omega)]
      have e19 : upS (upS (upS (cpM (upS (upS (upS (cpF σ (32 + t) 0) 19 t 1 (σ 0 0 8)) 19 t 2 1) 16 0 2 0) 43 0 46 (99 * t)) 47 0 t (σ 29 0 22)) 48 0 t 1) 29 0 18 0 19 t = upd (upd (σ 19 t) 1 (σ 0 0 8)) 2 1 := by
        unfold cpM
        rw [upS_ne (by omega), upS_ne (by omega), upS_ne (by omega), updK_ne (by omega), upS_ne (by omega), upS_eq, upS_eq, cpF_ne (by omega)]
      have f19 : ∀ i, ¬ i = t → upS (upS (upS (cpM (upS (upS (upS (cpF σ (32 + t) 0) 19 t 1 (σ 0 0 8)) 19 t 2 1) 16 0 2 0) 43 0 46 (99 * t)) 47 0 t (σ 29 0 22)) 48 0 t 1) 29 0 18 0 19 i = σ 19 i := fun i hi => by
        unfold cpM
        rw [upS_ne (by omega), upS_ne (by omega), upS_ne (by omega), updK_ne (by omega), upS_ne (by omega), upS_ne (by omega), upS_ne (by omega), cpF_ne (by omega)]
      have est : ∀ k, 9 ≤ k → k ≤ 15 → upS (upS (upS (cpM (upS (upS (upS (cpF σ (32 + t) 0) 19 t 1 (σ 0 0 8)) 19 t 2 1) 16 0 2 0) 43 0 46 (99 * t)) 47 0 t (σ 29 0 22)) 48 0 t 1) 29 0 18 0 k (32 + t) = cpF σ (32 + t) 0 k (32 + t) := fun k a b => by
        unfold cpM
        rw [upS_ne (by omega), upS_ne (by omega), upS_ne (by omega), updK_ne (by omega), upS_ne (by omega), upS_ne (by omega), upS_ne (by omega)]
      generalize upS (upS (upS (cpM (upS (upS (upS (cpF σ (32 + t) 0) 19 t 1 (σ 0 0 8)) 19 t 2 1) 16 0 2 0) 43 0 46 (99 * t)) 47 0 t (σ 29 0 22)) 48 0 t 1) 29 0 18 0 = τ at hne e29 e16 e46 e47 e48 e19 f19 est ⊢
      have en : ∀ k, 9 ≤ k → k ≤ 15 → τ k 0 = σ k 0 := fun k a b => hne k 0 (by omega)
      refine ⟨TxtR_congr r1 (hne _ _ (by omega)) (hne _ _ (by omega)) (hne _ _ (by omega)) (by rw [e29]; rfl) (by rw [e29]; rfl), SeedR_congr r2 (by rw [hne 0 0 (by omega)]) (by rw [e29]; rfl), C, N, G, NowR_congr r3 (by rw [hne 0 0 (by omega)]) (fun k q a => hne _ _ (by omega)) en (fun k a => hne _ _ (by omega)) (hne _ _ (by omega)), EarR_congr r4 (by rw [hne 20 0 (by omega)]) (by rw [e29]; rfl) (hne _ _ (by omega)) (hne _ _ (by omega)) (hne _ _ (by omega)) (hne _ _ (by omega)), BookR_congr r5 (by rw [hne 26 0 (by omega)]) (by rw [e29]; rfl) (hne _ _ (by omega)) (hne _ _ (by omega)) (hne _ _ (by omega)), ?_, ?_⟩
      · obtain ⟨c, y, p1, p2, p3, p4, p5, p6⟩ := r6
        exact ⟨0, y, by omega, p2, by rw [e16]; rfl, by rw [e16]; exact p4, by rw [e29]; rfl, fun j hj => by omega⟩
      · rw [en 9 (by omega) (by omega)]
        intro i hi
        rw [e46, e47, e48]
        by_cases hit : i = t
        · subst hit
          rw [e19, upd_eq, upd_eq, upd_eq]
          have hw : ∀ s, s < 99 → va_cpy (σ 43 0) (σ 46 0) 0 (99 * i) 99 (99 * i + s) = σ 43 0 s := fun s hs => by rw [pk_cpy_in (by omega) (by omega), show 0 + (99 * i + s - 99 * i) = s by omega]
          refine ⟨rfl, Or.inr ⟨rfl, by rw [upd_ne (by decide), upd_eq]; exact r2.1, r2.2, CS_congr (CS_copy (i := 0) (j := 32 + i) (by omega) r3.2.2.1) est hw, ?_, WFw_congr r3.2.2.2 hw⟩⟩
          rw [est 9 (by omega) (by omega), cpF_row (by omega)]
        · rw [f19 i hit, upd_ne hit, upd_ne hit]
          obtain ⟨g1, g2⟩ := r7 i hi
          have hw : ∀ s, s < 99 → va_cpy (σ 43 0) (σ 46 0) 0 (99 * t) 99 (99 * i + s) = σ 46 0 (99 * i + s) := fun s hs => pk_cpy_out (by omega)
          have hk : ∀ k, 9 ≤ k → k ≤ 15 → τ k (32 + i) = σ k (32 + i) := fun k a b => hne k _ (by omega)
          refine ⟨g1, g2.imp id (fun ⟨a1, a2, a3, a4, a5, a6⟩ => ⟨a1, a2, a3, CS_congr a4 hk hw, by rw [hk 9 (by omega) (by omega)]; exact a5, WFw_congr a6 hw⟩)⟩
end S51
