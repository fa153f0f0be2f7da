theorem n2 (a : Nat) : (2 : Int32) * nI a = nI (2 * a) := pk_mul 2 a
theorem n3 (a : Nat) : (3 : Int32) * nI a = nI (3 * a) := pk_mul 3 a
/-- the first that is not so -/
def jd (f : Nat → Bool) : Nat → Nat → Int32
  | 0, _ => -1
  | m + 1, k => if f k = true then jd f m (k + 1) else nI k
theorem jd_s (f : Nat → Bool) (m k : Nat) : jd f (m + 1) k = if f k = true then jd f m (k + 1) else nI k := rfl
section S53
variable {σ : Mem} {fs : List Fm} {M : List va_E} {Q : List va_E → Option Value → Prop}
theorem api_write (h x : Int32) : Sim Rel mX7_write mX8_write [.int h, .int x] := by
  refine Sim_of (Lc := [.ref (ad 0 0), .int h, .int x]) (Lm := [.ref (ad 29 0), .int h, .int x]) rfl rfl (fun σ hR => ?_)
  obtain ⟨r1, r2, C, N, G, r3, r4, r5, r6, r7⟩ := id hR
  obtain ⟨q1, q2, q3, q4, ⟨l0, l1, l2⟩, ⟨k0, k1, k2⟩, q5⟩ := id r3.1
  have hq := rr_lt (σ 9 0 0)
  by_cases hH : isH N h
  · obtain ⟨j, hj, rfl⟩ := isH_of q2 hH
    by_cases ho : x < 0 ∨ 9999 < x
    · refine ⟨σ, σ, -1000000002, ?_, ?_, hR⟩
      · simp only [aX7_write_0, aX7_write_1, aX7_write_4, aX7_write_7, aX7_write_8, aX7_write_11, aX7_write_14, aX7_write_16, aX7_write_17, aX7_write_18, aX7_write_19, aX7_write_22, aX7_write_25, aX7_write_28, aX7_write_30, sp_cHouse hq k1, sp_isOutside, Nat.zero_le, Nat.reduceLeDiff, Nat.reduceAdd, i1_0, rr_c3, zc9, oc9, zc10, oc10, zc11, oc11, zc12, oc12, zc13, oc13, zc15, oc15, Int32.lt_irrefl, Nat.zero_lt_one, Rt_cons, Rt_void, isB_0, isB_1, isB_b, true_and, and_true, cats_nil, cats_int, cats_ref, and_self, if_true, if_false, ite_self, le_nlt, ite_not, Rt_nil, bI_t hH, bI_t ho]
      · simp only [aX8_write_0, aX8_write_1, aX8_write_2, aX8_write_5, aX8_write_8, aX8_write_10, aX8_write_11, aX8_write_12, aX8_write_13, aX8_write_16, aX8_write_19, aX8_write_22, aX8_write_24, sp_mHouse q2 l1, sp_in, Nat.zero_le, Nat.reduceLeDiff, Nat.reduceAdd, i1_0, rr_c3, zc9, oc9, zc10, oc10, zc11, oc11, zc12, oc12, zc13, oc13, zc15, oc15, Int32.lt_irrefl, Nat.zero_lt_one, Rt_cons, Rt_void, isB_0, isB_1, isB_b, true_and, and_true, cats_nil, cats_int, cats_ref, and_self, if_true, if_false, ite_self, le_nlt, ite_not, Rt_nil, bI_t hH, bI_f (show ¬ (¬ x < 0 ∧ ¬ 9999 < x) from fun z => ho.elim z.1 z.2)]
    · have hin := not_out.mp ho
      obtain ⟨c, b1, b2, b3, b4⟩ := id r5
      have n20 : nI 20 = 20 := rfl
      by_cases hc : c = 20
      · subst hc
        refine ⟨σ, σ, -1000000004, ?_, ?_, hR⟩
        · simp only [aX7_write_0, aX7_write_1, aX7_write_4, aX7_write_7, aX7_write_8, aX7_write_11, aX7_write_14, aX7_write_16, aX7_write_17, aX7_write_18, aX7_write_19, aX7_write_22, aX7_write_25, aX7_write_28, aX7_write_30, aX7_write_31, aX7_write_32, aX7_write_35, aX7_write_36, aX7_write_37, aX7_write_40, aX7_write_43, aX7_write_44, aX7_write_47, aX7_write_50, aX7_write_53, aX7_write_55, aX0_enter_0, aX0_enter_1, aX0_enter_4, aX0_enter_6, aX0_enter_9, aX0_enter_10, sp_cHouse hq k1, sp_isOutside, Nat.zero_le, Nat.reduceLeDiff, Nat.reduceAdd, i1_0, rr_c3, zc9, oc9, zc10, oc10, zc11, oc11, zc12, oc12, zc13, oc13, zc15, oc15, Int32.lt_irrefl, Nat.zero_lt_one, Rt_cons, Rt_void, isB_0, isB_1, isB_b, true_and, and_true, cats_nil, cats_int, cats_ref, and_self, if_true, if_false, ite_self, le_nlt, ite_not, Rt_nil, bI_t hH, bI_f ho, b2, n20]
        · simp only [aX8_write_0, aX8_write_1, aX8_write_2, aX8_write_5, aX8_write_8, aX8_write_10, aX8_write_11, aX8_write_12, aX8_write_13, aX8_write_16, aX8_write_19, aX8_write_22, aX8_write_24, aX8_write_25, aX8_write_26, aX8_write_29, aX8_write_31, aX8_write_34, aX8_write_36, sp_mHouse q2 l1, sp_in, Nat.zero_le, Nat.reduceLeDiff, Nat.reduceAdd, i1_0, rr_c3, zc9, oc9, zc10, oc10, zc11, oc11, zc12, oc12, zc13, oc13, zc15, oc15, Int32.lt_irrefl, Nat.zero_lt_one, Rt_cons, Rt_void, isB_0, isB_1, isB_b, true_and, and_true, cats_nil, cats_int, cats_ref, and_self, if_true, if_false, ite_self, le_nlt, ite_not, Rt_nil, bI_t hH, bI_t hin, b3, n20, not_true_eq_false]
      · have hc2 : c < 20 := by omega
        have l1' : nI c < 20 := nI_lt (b := 20) hc2 (by decide)
        have l2' : ¬ nI c = 20 := fun z => by
          have := (nI_eq (a := c) (b := 20) (by omega) (by decide)).mp z
          omega
        have v1 : vp_in (nI c) 20 := vp_in_nI hc2 (by decide)
        have cl : (nI c).toNatClampNeg = c := nI_clamp (by omega)
        have v2 : vp_in (nI (2 * c)) 40 := vp_in_nI (by omega) (by decide)
        have v3' : vp_in (nI (2 * c + 1)) 40 := vp_in_nI (by omega) (by decide)
        refine ⟨upS (upS (upS σ 27 0 c (nI j)) 28 0 c x) 26 0 2 (nI (c + 1)), upS (updK (upS (upS (upS σ 27 0 c (nI j)) 28 0 c x) 26 0 2 (nI (c + 1))) 50 0 (upd (upd (σ 50 0) (2 * c) (nI j)) (2 * c + 1) x)) 29 0 26 (nI (c + 1)), nI (c + 1), ?_, ?_, ?_⟩
        · have e1 : upS σ 27 0 c (nI j) 26 0 = σ 26 0 := upS_ne (by decide)
          have e2 : upS (upS σ 27 0 c (nI j)) 28 0 c x 26 0 = σ 26 0 := by rw [upS_ne (by decide), e1]
          simp only [aX7_write_0, aX7_write_1, aX7_write_4, aX7_write_7, aX7_write_8, aX7_write_11, aX7_write_14, aX7_write_16, aX7_write_17, aX7_write_18, aX7_write_19, aX7_write_22, aX7_write_25, aX7_write_28, aX7_write_30, aX7_write_31, aX7_write_32, aX7_write_35, aX7_write_36, aX7_write_37, aX7_write_40, aX7_write_43, aX7_write_44, aX7_write_47, aX7_write_50, aX7_write_53, aX7_write_55, aX0_enter_0, aX0_enter_1, aX0_enter_4, aX0_enter_6, aX0_enter_9, aX0_enter_10, aX0_enter_11, aX0_enter_12, aX0_enter_15, aX0_enter_16, aX0_enter_19, aX0_enter_20, aX0_enter_21, aX0_enter_22, aX0_enter_25, aX0_enter_26, aX0_enter_29, aX0_enter_30, aX0_enter_31, aX0_enter_32i, aX0_enter_32a, aX0_enter_33, aX0_enter_36, aX0_enter_37, aX0_enter_38, aX0_enter_41, aX0_enter_42, sp_cHouse hq k1, sp_isOutside, Nat.zero_le, Nat.reduceLeDiff, Nat.reduceAdd, i1_0, rr_c3, zc9, oc9, zc10, oc10, zc11, oc11, zc12, oc12, zc13, oc13, zc15, oc15, Int32.lt_irrefl, Nat.zero_lt_one, Rt_cons, Rt_void, isB_0, isB_1, isB_b, true_and, and_true, cats_nil, cats_int, cats_ref, and_self, if_true, if_false, ite_self, le_nlt, ite_not, Rt_nil, bI_t hH, bI_f ho, b2, l1', aT_27, aN_27, cnt_27, aT_28, aN_28, cnt_28, v1, cl, e1, e2, nI_1, upS_eq, upd_eq]
        · have hm : ∀ k i, 29 ≤ k → upS (upS (upS σ 27 0 c (nI j)) 28 0 c x) 26 0 2 (nI (c + 1)) k i = σ k i := fun k i a => by rw [upS_ne (by omega), upS_ne (by omega), upS_ne (by omega)]
          generalize upS (upS (upS σ 27 0 c (nI j)) 28 0 c x) 26 0 2 (nI (c + 1)) = σ1 at hm ⊢
          have m31 : σ1 31 0 1 = nI N := by rw [hm _ _ (by omega)]; exact l1
          have m26 : σ1 29 0 26 = nI c := by rw [hm _ _ (by omega)]; exact b3
          have m50 : σ1 50 0 = σ 50 0 := hm _ _ (by omega)
          have e3 : ∀ f, updK σ1 50 0 f 29 0 26 = nI c := fun f => by rw [updK_ne (by decide)]; exact m26
          simp only [aX8_write_0, aX8_write_1, aX8_write_2, aX8_write_5, aX8_write_8, aX8_write_10, aX8_write_11, aX8_write_12, aX8_write_13, aX8_write_16, aX8_write_19, aX8_write_22, aX8_write_24, aX8_write_25, aX8_write_26, aX8_write_29, aX8_write_31, aX8_write_34, aX8_write_36, aX8_write_37, aX8_write_38, aX8_write_41, aX8_write_42, aX8_write_43, aX8_write_46, aX8_write_47, aX8_write_48, aX8_write_49, aX8_write_50, aX8_write_53, aX8_write_54, aX8_write_55, aX8_write_58, aX8_write_59, aX8_write_60, aX8_write_61, aX8_write_62, sp_mHouse q2 m31, sp_in, Nat.zero_le, Nat.reduceLeDiff, Nat.reduceAdd, i1_0, rr_c3, zc9, oc9, zc10, oc10, zc11, oc11, zc12, oc12, zc13, oc13, zc15, oc15, Int32.lt_irrefl, Nat.zero_lt_one, Rt_cons, Rt_void, isB_0, isB_1, isB_b, true_and, and_true, cats_nil, cats_int, cats_ref, and_self, if_true, if_false, ite_self, le_nlt, ite_not, Rt_nil, bI_t hH, bI_t hin, m26, l2', not_false_eq_true, aT_50, aN_50, cnt_50, n2, nI_1, v2, v3', cl10 (show 2 * c < 10000 by omega), cl10 (show 2 * c + 1 < 10000 by omega), upS_chain, updK_eq, updK_idem, m50, e3]
          simp only [aX8_write_63, aX8_write_64i, aX8_write_64a, aX8_write_65, aX8_write_68, aX8_write_69, aX8_write_70, aX8_write_73, aX8_write_74, aX8_write_77, Nat.zero_le, Nat.reduceLeDiff, Nat.reduceAdd, i1_0, rr_c3, zc9, oc9, zc10, oc10, zc11, oc11, zc12, oc12, zc13, oc13, zc15, oc15, Int32.lt_irrefl, Nat.zero_lt_one, Rt_cons, Rt_void, isB_0, isB_1, isB_b, true_and, and_true, cats_nil, cats_int, cats_ref, and_self, if_true, if_false, ite_self, le_nlt, ite_not, Rt_nil, e3, nI_1, upS_eq, upd_eq]
          rfl
        · generalize hτ : upS (updK (upS (upS (upS σ 27 0 c (nI j)) 28 0 c x) 26 0 2 (nI (c + 1))) 50 0 (upd (upd (σ 50 0) (2 * c) (nI j)) (2 * c + 1) x)) 29 0 26 (nI (c + 1)) = τ
          have hne : ∀ k i, (k ≠ 27 ∧ k ≠ 28 ∧ k ≠ 26 ∧ k ≠ 50 ∧ k ≠ 29) → τ k i = σ k i := fun k i a => by rw [← hτ, upS_ne (by omega), updK_ne (by omega), upS_ne (by omega), upS_ne (by omega), upS_ne (by omega)]
          have e29 : τ 29 0 = upd (σ 29 0) 26 (nI (c + 1)) := by rw [← hτ, upS_eq, updK_ne (by omega), upS_ne (by omega), upS_ne (by omega), upS_ne (by omega)]
          have e26 : τ 26 0 = upd (σ 26 0) 2 (nI (c + 1)) := by rw [← hτ, upS_ne (by omega), updK_ne (by omega), upS_eq, upS_ne (by omega), upS_ne (by omega)]
          have e27 : τ 27 0 = upd (σ 27 0) c (nI j) := by rw [← hτ, upS_ne (by omega), updK_ne (by omega), upS_ne (by omega), upS_ne (by omega), upS_eq]
          have e28 : τ 28 0 = upd (σ 28 0) c x := by rw [← hτ, upS_ne (by omega), updK_ne (by omega), upS_ne (by omega), upS_eq, upS_ne (by omega)]
          have e50 : τ 50 0 = upd (upd (σ 50 0) (2 * c) (nI j)) (2 * c + 1) x := by rw [← hτ, upS_ne (by omega), updK_eq]
          clear hτ
          refine ⟨TxtR_congr r1 (hne _ _ (by decide)) (hne _ _ (by decide)) (hne _ _ (by decide)) (by rw [e29]; first | done | rfl) (by rw [e29]; first | done | rfl), SeedR_congr r2 (by rw [hne 0 0 (by decide)]) (by rw [e29]; first | done | rfl), C, N, G, NowR_congr r3 (by rw [hne 0 0 (by decide)]) (fun k q a => hne _ _ (by omega)) (fun k a b => hne _ _ (by omega)) (fun k a => hne _ _ (by omega)) (hne _ _ (by decide)), EarR_congr r4 (by rw [hne 20 0 (by decide)]) (by rw [e29]; first | done | rfl) (hne _ _ (by decide)) (hne _ _ (by decide)) (hne _ _ (by decide)) (hne _ _ (by decide)), ⟨c + 1, by omega, by rw [e26, upd_eq], by rw [e29, upd_eq], fun t ht => ?_⟩, (by rw [hne 9 0 (by decide)]; exact PastR_congr r6 (hne _ _ (by decide)) (by rw [e29]; first | done | rfl) (hne _ _ (by decide)) (fun k i a b _ _ => hne _ _ (by omega))), (by rw [hne 9 0 (by decide)]; exact ImgR_congr r7 (fun i => hne _ _ (by decide)) (hne _ _ (by decide)) (hne _ _ (by decide)) (hne _ _ (by decide)) (fun k i a b _ _ => hne _ _ (by omega)))⟩
          rw [e27, e28, e50]
          by_cases htc : t = c
          · subst htc
            exact ⟨j, hj, upd_eq _ _ _, by rw [upd_ne (by omega), upd_eq], by rw [upd_eq, upd_eq]⟩
          · obtain ⟨y, y1, y2, y3, y4⟩ := b4 t (by omega)
            exact ⟨y, y1, by rw [upd_ne htc]; exact y2, by rw [upd_ne (by omega), upd_ne (by omega)]; exact y3, by rw [upd_ne (by omega), upd_ne (by omega), upd_ne htc]; exact y4⟩
  · refine ⟨σ, σ, -1000000001, ?_, ?_, hR⟩
    · simp only [aX7_write_0, aX7_write_1, aX7_write_4, aX7_write_7, aX7_write_8, aX7_write_11, aX7_write_14, aX7_write_16, sp_cHouse hq k1, Nat.zero_le, Nat.reduceLeDiff, Nat.reduceAdd, i1_0, rr_c3, zc9, oc9, zc10, oc10, zc11, oc11, zc12, oc12, zc13, oc13, zc15, oc15, Int32.lt_irrefl, Nat.zero_lt_one, Rt_cons, Rt_void, isB_0, isB_1, isB_b, true_and, and_true, cats_nil, cats_int, cats_ref, and_self, if_true, if_false, ite_self, le_nlt, ite_not, Rt_nil, bI_f hH]
    · simp only [aX8_write_0, aX8_write_1, aX8_write_2, aX8_write_5, aX8_write_8, aX8_write_10, sp_mHouse q2 l1, Nat.zero_le, Nat.reduceLeDiff, Nat.reduceAdd, i1_0, rr_c3, zc9, oc9, zc10, oc10, zc11, oc11, zc12, oc12, zc13, oc13, zc15, oc15, Int32.lt_irrefl, Nat.zero_lt_one, Rt_cons, Rt_void, isB_0, isB_1, isB_b, true_and, and_true, cats_nil, cats_int, cats_ref, and_self, if_true, if_false, ite_self, le_nlt, ite_not, Rt_nil, bI_f hH]
theorem lp_firstWrong {c : Nat} {f : Nat → Bool} (hc : c ≤ 20) (h : σ 26 0 2 = nI c) (hf : ∀ k, k < c → ∃ y : Nat, y < 7 ∧ σ 27 0 k = nI y ∧ (f k = true ↔ σ 10 0 y = σ 28 0 k)) : ∀ m k, k + m = c → (Rn mX0_firstWrong 2 [.ref (ad 26 0), .ref (ad 9 0), .int (nI k)] [] fs (enc σ) Q ↔ Rt fs (enc σ) (some (.int (jd f m k))) Q) := by
  intro m
  induction m with
  | zero =>
    intro k hk
    have l : ¬ nI k < nI c := fun z => by
      have := (nI_ltI (by omega) (by omega)).mp z
      omega
    simp only [aX0_firstWrong_2, aX0_firstWrong_3, aX0_firstWrong_4, aX0_firstWrong_7, aX0_firstWrong_38, aX0_firstWrong_39, Nat.zero_le, Nat.reduceLeDiff, Nat.reduceAdd, i1_0, rr_c3, zc9, oc9, zc10, oc10, zc11, oc11, zc12, oc12, zc13, oc13, zc15, oc15, Int32.lt_irrefl, Nat.zero_lt_one, Rt_cons, Rt_void, isB_0, isB_1, isB_b, true_and, and_true, cats_nil, cats_int, cats_ref, and_self, if_true, if_false, ite_self, le_nlt, ite_not, h, l]
    rfl
  | succ m ih =>
    intro k hk
    have l : nI k < nI c := nI_lt (by omega) (by omega)
    obtain ⟨y, y1, y2, y3⟩ := hf k (by omega)
    have v1 : vp_in (nI k) 20 := vp_in_nI (by omega) (by decide)
    have cl : (nI k).toNatClampNeg = k := nI_clamp (by omega)
    rw [aX0_firstWrong_2]
    simp only [aX0_firstWrong_3, aX0_firstWrong_4, aX0_firstWrong_7, aX0_firstWrong_10, aX0_firstWrong_11, aX0_firstWrong_14, aX0_firstWrong_15, aX0_firstWrong_18, aX0_firstWrong_19, aX0_firstWrong_20, aX0_firstWrong_21, aX0_firstWrong_22, aX0_firstWrong_25, aX0_firstWrong_26, aX0_firstWrong_27, aX0_firstWrong_30, aX0_firstWrong_31, aX0_firstWrong_32, aX0_firstWrong_35, Nat.zero_le, Nat.reduceLeDiff, Nat.reduceAdd, i1_0, rr_c3, zc9, oc9, zc10, oc10, zc11, oc11, zc12, oc12, zc13, oc13, zc15, oc15, Int32.lt_irrefl, Nat.zero_lt_one, Rt_cons, Rt_void, isB_0, isB_1, isB_b, true_and, and_true, cats_nil, cats_int, cats_ref, and_self, if_true, if_false, ite_self, le_nlt, ite_not, h, l, aT_27, aN_27, cnt_27, aT_28, aN_28, cnt_28, aT_10, aN_10, v1, cl, y2, in7 y1, cl10 (show y < 10000 by omega), nI_1, ih (k + 1) (by omega), ← y3]
    rw [jd_s]
    by_cases q : f k = true <;> simp [q]
theorem lp_judge {c : Nat} {f : Nat → Bool} (hc : c ≤ 20) (h : σ 29 0 26 = nI c) (hf : ∀ k, k < c → ∃ y : Nat, y < 7 ∧ σ 50 0 (2 * k) = nI y ∧ (f k = true ↔ σ 43 0 (64 + 5 * y) = σ 50 0 (2 * k + 1))) : ∀ m k, k + m = c → (Rn mX8_judge 2 [.ref (ad 29 0), .int (nI k)] [] fs (enc σ) Q ↔ Rt fs (enc σ) (some (.int (jd f m k))) Q) := by
  intro m
  induction m with
  | zero =>
    intro k hk
    have l : ¬ nI k < nI c := fun z => by
      have := (nI_ltI (by omega) (by omega)).mp z
      omega
    simp only [aX8_judge_2, aX8_judge_3, aX8_judge_4, aX8_judge_7, aX8_judge_43, aX8_judge_44, Nat.zero_le, Nat.reduceLeDiff, Nat.reduceAdd, i1_0, rr_c3, zc9, oc9, zc10, oc10, zc11, oc11, zc12, oc12, zc13, oc13, zc15, oc15, Int32.lt_irrefl, Nat.zero_lt_one, Rt_cons, Rt_void, isB_0, isB_1, isB_b, true_and, and_true, cats_nil, cats_int, cats_ref, and_self, if_true, if_false, ite_self, le_nlt, ite_not, h, l]
    rfl
  | succ m ih =>
    intro k hk
    have l : nI k < nI c := nI_lt (by omega) (by omega)
    obtain ⟨y, y1, y2, y3⟩ := hf k (by omega)
    have v1 : vp_in (nI (2 * k)) 40 := vp_in_nI (by omega) (by decide)
    have v2 : vp_in (nI (2 * k + 1)) 40 := vp_in_nI (by omega) (by decide)
    rw [aX8_judge_2]
    simp only [aX8_judge_3, aX8_judge_4, aX8_judge_7, aX8_judge_10, aX8_judge_11, aX8_judge_12, aX8_judge_15, aX8_judge_16, aX8_judge_17, aX8_judge_18, aX8_judge_19, aX8_judge_22, aX8_judge_23, aX8_judge_26, aX8_judge_27, aX8_judge_28, aX8_judge_29, aX8_judge_30, aX8_judge_31, aX8_judge_32, aX8_judge_35, aX8_judge_36, aX8_judge_37, aX8_judge_40, sp_debtOf y1, Nat.zero_le, Nat.reduceLeDiff, Nat.reduceAdd, i1_0, rr_c3, zc9, oc9, zc10, oc10, zc11, oc11, zc12, oc12, zc13, oc13, zc15, oc15, Int32.lt_irrefl, Nat.zero_lt_one, Rt_cons, Rt_void, isB_0, isB_1, isB_b, true_and, and_true, cats_nil, cats_int, cats_ref, and_self, if_true, if_false, ite_self, le_nlt, ite_not, h, l, aT_50, aN_50, cnt_50, n2, nI_1, v1, v2, cl10 (show 2 * k < 10000 by omega), cl10 (show 2 * k + 1 < 10000 by omega), y2, ih (k + 1) (by omega), ← y3]
    rw [jd_s]
    by_cases q : f k = true <;> simp [q]
theorem api_judge : Sim Rel mX7_judge mX8_judge [] := by
  refine Sim_of (Lc := [.ref (ad 0 0)]) (Lm := [.ref (ad 29 0), .null]) rfl rfl (fun σ hR => ?_)
  obtain ⟨r1, r2, C, N, G, r3, r4, ⟨c, b1, b2, b3, b4⟩, r6, r7⟩ := id hR
  have q2 := r3.1.2.1
  have z0 : nI 0 = 0 := rfl
  let f : Nat → Bool := fun k => decide (σ 43 0 (64 + 5 * (σ 50 0 (2 * k)).toNatClampNeg) = σ 50 0 (2 * k + 1))
  have hf1 : ∀ k, k < c → ∃ y : Nat, y < 7 ∧ σ 27 0 k = nI y ∧ (f k = true ↔ σ 10 0 y = σ 28 0 k) := fun k hk => by
    obtain ⟨y, y1, y2, y3, y4⟩ := b4 k hk
    refine ⟨y, by omega, y2, ?_⟩
    show decide _ = true ↔ _
    rw [decide_eq_true_iff, y3, nI_clamp (by omega), y4, (r3.2.2.1.2.2.2.2.2 y (by omega)).1]
  have hf2 : ∀ k, k < c → ∃ y : Nat, y < 7 ∧ σ 50 0 (2 * k) = nI y ∧ (f k = true ↔ σ 43 0 (64 + 5 * y) = σ 50 0 (2 * k + 1)) := fun k hk => by
    obtain ⟨y, y1, y2, y3, y4⟩ := b4 k hk
    refine ⟨y, by omega, y3, ?_⟩
    show decide _ = true ↔ _
    rw [decide_eq_true_iff, y3, nI_clamp (by omega)]
  refine ⟨σ, σ, jd f c 0, ?_, ?_, hR⟩
  · have := lp_firstWrong (σ := σ) (fs := [(mX7_judge, 11, [.ref (ad 0 0)], [])]) (Q := fun X v => X = enc σ ∧ v = some (.int (jd f c 0))) b1 b2 hf1 c 0 (by omega)
    simp only [aX7_judge_0, aX7_judge_1, aX7_judge_4, aX7_judge_5, aX7_judge_8, aX0_firstWrong_0, aX0_firstWrong_1, Nat.zero_le, Nat.reduceLeDiff, Nat.reduceAdd, i1_0, rr_c3, zc9, oc9, zc10, oc10, zc11, oc11, zc12, oc12, zc13, oc13, zc15, oc15, Int32.lt_irrefl, Nat.zero_lt_one, Rt_cons, Rt_void, isB_0, isB_1, isB_b, true_and, and_true, cats_nil, cats_int, cats_ref, and_self, if_true, if_false, ite_self, le_nlt, ite_not, ← z0]
    rw [this]
    simp only [aX7_judge_11, Nat.zero_le, Nat.reduceLeDiff, Nat.reduceAdd, i1_0, rr_c3, zc9, oc9, zc10, oc10, zc11, oc11, zc12, oc12, zc13, oc13, zc15, oc15, Int32.lt_irrefl, Nat.zero_lt_one, Rt_cons, Rt_void, isB_0, isB_1, isB_b, true_and, and_true, cats_nil, cats_int, cats_ref, and_self, if_true, if_false, ite_self, le_nlt, ite_not, Rt_nil]
  · have := lp_judge (σ := σ) (fs := []) (Q := fun X v => X = enc σ ∧ v = some (.int (jd f c 0))) b1 b3 hf2 c 0 (by omega)
    simp only [aX8_judge_0, aX8_judge_1, Nat.zero_le, Nat.reduceLeDiff, Nat.reduceAdd, i1_0, rr_c3, zc9, oc9, zc10, oc10, zc11, oc11, zc12, oc12, zc13, oc13, zc15, oc15, Int32.lt_irrefl, Nat.zero_lt_one, Rt_cons, Rt_void, isB_0, isB_1, isB_b, true_and, and_true, cats_nil, cats_int, cats_ref, and_self, if_true, if_false, ite_self, le_nlt, ite_not, ← z0]
    rw [this]
    simp only [Nat.zero_le, Nat.reduceLeDiff, Nat.reduceAdd, i1_0, rr_c3, zc9, oc9, zc10, oc10, zc11, oc11, zc12, oc12, zc13, oc13, zc15, oc15, Int32.lt_irrefl, Nat.zero_lt_one, Rt_cons, Rt_void, isB_0, isB_1, isB_b, true_and, and_true, cats_nil, cats_int, cats_ref, and_self, if_true, if_false, ite_self, le_nlt, ite_not, Rt_nil]
end S53
