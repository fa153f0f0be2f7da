theorem notF_at {τ : Mem} {c : Nat} : notF τ c 45 0 = if c = 30 then va_cpy (τ 43 0) (shf (τ 45 0) 2871) 0 (99 * 29) 99 else va_cpy (τ 43 0) (τ 45 0) 0 (99 * c) 99 := by
  unfold notF cpM
  split
  · rw [upS_ne (by decide), updK_eq, upS_ne (by decide), upS_ne (by decide), updK_ne (by decide), updK_eq]
  · rw [upS_ne (by decide), updK_eq]
theorem notF_c {σ τ : Mem} {c : Nat} (h43 : τ 43 0 = σ 43 0) (h45 : τ 45 0 = σ 45 0) : notF τ c 45 0 = notF σ c 45 0 := by
  rw [notF_at, notF_at, h43, h45]
/-- a deed: remember() and changes of now in the class (σ1), notes() and now = w' in the reference -/
theorem Rel_deed {σ σ1 : Mem} {C N G c x : Nat} {w' : Nat → Int32} (r1 : TxtR σ) (r2 : SeedR σ) (r3 : NowR σ C N G) (r4 : EarR σ G N) (r5 : BookR σ N) (r7 : ImgR σ (rr (σ 9 0 0)) G N) (hc : c ≤ 30) (hx : x < 30)
    (hp : ∀ j, j < c → CS σ (2 + (x + 30 - c + j) % 30) (fun t => σ 45 0 (99 * j + t)) ∧ rr (σ 9 (2 + (x + 30 - c + j) % 30) 0) = rr (σ 9 0 0) ∧ WFw G N (fun t => σ 45 0 (99 * j + t)))
    (hcls : ∀ k i, k < 29 → ¬ (9 ≤ k ∧ k ≤ 15 ∧ i = 0) → σ1 k i = remF σ c x k i) (hmod : ∀ k i, 29 ≤ k → σ1 k i = σ k i) (hrow : rr (σ1 9 0 0) = rr (σ 9 0 0)) (hCS : CS σ1 0 w') (hWF : WFw G N w') : Rel (updK (notF σ1 c) 43 0 w') := by
  have hK : ∀ k i, k < 29 → updK (notF σ1 c) 43 0 w' k i = σ1 k i := fun k i a => (updK_ne (by omega)).trans (notF_ne (by omega) (by omega))
  have hne : ∀ k i, (¬ (9 ≤ k ∧ k ≤ 15 ∧ (i = 0 ∨ i = 2 + x)) ∧ k ≠ 16 ∧ k ≠ 43 ∧ k ≠ 45 ∧ k ≠ 29) → updK (notF σ1 c) 43 0 w' k i = σ k i := fun k i a => by
    rcases Nat.lt_or_ge k 29 with q | q
    · rw [hK k i q, hcls k i q (by omega), remF_ne (by omega) (by omega)]
    · rw [updK_ne (by omega), notF_ne (by omega) (by omega), hmod k i q]
  have h29 : ∀ s, s ≠ 18 → updK (notF σ1 c) 43 0 w' 29 0 s = σ 29 0 s := fun s a => by rw [updK_ne (by omega), notF_29 a, hmod 29 0 (by omega)]
  have e18 : updK (notF σ1 c) 43 0 w' 29 0 18 = nI (if c = 30 then 30 else c + 1) := by rw [updK_ne (by omega), notF_18]
  have e45 : updK (notF σ1 c) 43 0 w' 45 0 = notF σ c 45 0 := by rw [updK_ne (by omega), notF_c (hmod 43 0 (by omega)) (hmod 45 0 (by omega))]
  have e43 : updK (notF σ1 c) 43 0 w' 43 0 = w' := updK_eq _ _ _ _
  have e16 : updK (notF σ1 c) 43 0 w' 16 0 = remF σ c x 16 0 := by rw [hK 16 0 (by omega), hcls 16 0 (by omega) (by omega)]
  have ecl : ∀ k i, 9 ≤ k → k ≤ 15 → ¬ i = 0 → updK (notF σ1 c) 43 0 w' k i = remF σ c x k i := fun k i a b d => by rw [hK k i (by omega), hcls k i (by omega) (by omega)]
  have e0 : ∀ k, 9 ≤ k → k ≤ 15 → updK (notF σ1 c) 43 0 w' k 0 = σ1 k 0 := fun k a b => hK k 0 (by omega)
  have erow : rr (updK (notF σ1 c) 43 0 w' 9 0 0) = rr (σ 9 0 0) := by rw [hK 9 0 (by omega)]; exact hrow
  generalize updK (notF σ1 c) 43 0 w' = τ at hne h29 e18 e45 e43 e16 ecl e0 erow ⊢
  refine ⟨TxtR_congr r1 (hne _ _ (by omega)) (hne _ _ (by omega)) (hne _ _ (by omega)) (h29 _ (by decide)) (h29 _ (by decide)), SeedR_congr r2 (by rw [hne 0 0 (by omega)]) (h29 _ (by decide)), C, N, G, ?_, ?_, ?_, ?_, ?_⟩
  · refine ⟨?_, ?_, ?_, by rw [e43]; exact hWF⟩
    · rw [erow]
      exact RowS_congr r3.1 (fun k a => hne _ _ (by omega)) (fun k a => hne _ _ (by omega))
    · rw [erow, hne 0 0 (by omega)]
      exact r3.2.1
    · rw [e43]
      exact CS_congr hCS e0 (fun _ _ => rfl)
  · exact EarR_congr r4 (by rw [hne 20 0 (by omega)]) (h29 _ (by decide)) (hne _ _ (by omega)) (hne _ _ (by omega)) (hne _ _ (by omega)) (hne _ _ (by omega))
  · exact BookR_congr r5 (by rw [hne 26 0 (by omega)]) (h29 _ (by decide)) (hne _ _ (by omega)) (hne _ _ (by omega)) (hne _ _ (by omega))
  · rw [erow]
    refine PastR_note (σ := σ) hc hx hp r3.2.2.1 rfl r3.2.2.2 ?_ ?_ e18 e45 (fun k i a b d f => ecl k i a b (by omega))
    · rw [e16]; unfold remF; rw [upS_eq, upd_ne (by decide), upS_eq, upd_eq]
    · rw [e16]; unfold remF; rw [upS_eq, upd_eq]
  · rw [erow]
    exact ImgR_congr r7 (fun i => hne _ _ (by omega)) (hne _ _ (by omega)) (hne _ _ (by omega)) (hne _ _ (by omega)) (fun k i a b d f => hne _ _ (by omega))
/-- a State and its row of numbers, anew, with the log as it was -/
theorem CS_intro {σ τ : Mem} {i : Nat} {w v : Nat → Int32} (h : CS σ i w) (s1 : τ 9 i 1 = v 0) (s2 : τ 9 i 2 = v 1) (s3 : τ 9 i 3 = v 2) (s4 : τ 9 i 4 = σ 9 i 4) (s5 : τ 9 i 5 = σ 9 i 5) (s6 : τ 15 i = σ 15 i) (hw : ∀ j, 3 ≤ j → j < 64 → v j = w j)
    (hh : ∀ h, h < 7 → τ 10 i h = v (64 + 5 * h) ∧ τ 11 i h = v (64 + 5 * h + 2) ∧ τ 12 i h = v (64 + 5 * h + 3) ∧ τ 13 i h = v (64 + 5 * h + 4) ∧ (τ 14 i h = 0 ∨ τ 14 i h = 1) ∧ v (64 + 5 * h + 1) = std (τ 14 i h) (τ 11 i h)) : CS τ i v := by
  obtain ⟨h1, h2, h3, h4, ⟨c, d, hc, hd, h5, h6, h7⟩, h8⟩ := h
  exact ⟨s1, s2, s3, by rw [s4, hw 3 (by omega) (by omega)]; exact h4, ⟨c, d, hc, hd, by rw [s5]; exact h5, by rw [hw 3 (by omega) (by omega)]; exact h6, fun j hj t ht => by rw [s6, hw _ (by omega) (by omega)]; exact h7 j hj t ht⟩, hh⟩
theorem CS_bool {σ : Mem} {i : Nat} {w : Nat → Int32} (h : CS σ i w) : ∀ k, k < 7 → σ 14 i k = 0 ∨ σ 14 i k = 1 := fun k hk => (h.2.2.2.2.2 k hk).2.2.2.2.1
theorem upS_chain {τ : Mem} {k i j : Nat} {x : Int32} : upS τ k i j x = updK τ k i (upd (τ k i) j x) := rfl
theorem WFw_stock {B G N : Nat} {w : Nat → Int32} {v : Int32} (h : WFx B G N w) (hv : ∃ d : Nat, d ≤ 9999 ∧ v = nI d) : WFx B G N (upd w 1 v) := by
  obtain ⟨h1, h2, h3, h4, h5⟩ := h
  have ec : cE7 (upd w 1 v) = cE7 w := rfl
  refine ⟨h1, by rw [upd_eq]; exact hv, by rw [ec]; exact h3, fun h hh => ?_, fun h k hh hk hne => ?_⟩
  · rw [upd_ne (by omega), upd_ne (by omega), upd_ne (by omega), upd_ne (by omega), upd_ne (by omega)]
    exact h4 h hh
  · rw [upd_ne (by omega), upd_ne (by omega)]
    exact h5 h k hh hk hne
theorem api_lend (n : Int32) : Sim Rel mX7_lend mX8_lend [.int n] := by
  refine Sim_of (Lc := [.ref (ad 0 0), .int n]) (Lm := [.ref (ad 29 0), .int n]) rfl rfl (fun σ hR => ?_)
  by_cases h : n < 1 ∨ 999 < n
  · refine ⟨σ, σ, -1000000002, ?_, ?_, hR⟩
    · simp only [aX7_lend_0, aX7_lend_1, aX7_lend_2, aX7_lend_5, aX7_lend_8, aX7_lend_11, aX7_lend_13, aX7_lend_14, aX7_lend_15, aX7_lend_18, aX7_lend_21, aX7_lend_24, aX7_lend_27, aX7_lend_29, aX7_lend_30, aX7_lend_31, aX7_lend_34, aX7_lend_35, aX7_lend_38, aX7_lend_41, aX7_lend_42, aX7_lend_45, aX7_lend_46, aX7_lend_49, aX7_lend_50, aX7_lend_53, aX7_lend_56, sp_isOutside, Nat.zero_le, Nat.reduceLeDiff, Nat.reduceAdd, i1_0, rr_c3, zc9, oc9, zc10, oc10, zc11, oc11, zc12, oc12, zc13, oc13, zc15, oc15, Int32.lt_irrefl, Nat.zero_lt_one, Rt_cons, Rt_void, isB_0, isB_1, isB_b, true_and, and_true, cats_nil, cats_int, cats_ref, and_self, if_true, if_false, ite_self, le_nlt, ite_not, Rt_nil, bI_t h]
    · simp only [aX8_lend_0, aX8_lend_1, aX8_lend_2, aX8_lend_5, aX8_lend_8, aX8_lend_11, aX8_lend_13, aX8_lend_14, aX8_lend_15, aX8_lend_18, aX8_lend_21, aX8_lend_23, aX8_lend_24, aX8_lend_25, aX8_lend_28, aX8_lend_29, aX8_lend_32, aX8_lend_33, aX8_lend_36, aX8_lend_37, aX8_lend_40, aX8_lend_41, aX8_lend_42, aX8_lend_43, aX8_lend_44, aX8_lend_47, aX8_lend_48, aX8_lend_49, aX8_lend_52, aX8_lend_53, aX8_lend_54, sp_in, Nat.zero_le, Nat.reduceLeDiff, Nat.reduceAdd, i1_0, rr_c3, zc9, oc9, zc10, oc10, zc11, oc11, zc12, oc12, zc13, oc13, zc15, oc15, Int32.lt_irrefl, Nat.zero_lt_one, Rt_cons, Rt_void, isB_0, isB_1, isB_b, true_and, and_true, cats_nil, cats_int, cats_ref, and_self, if_true, if_false, ite_self, le_nlt, ite_not, Rt_nil, bI_f (show ¬ (¬ n < 1 ∧ ¬ 999 < n) from fun z => h.elim z.1 z.2)]
  · obtain ⟨hx0, hx1⟩ := not_out.mp h
    have hin : (¬ n < 1 ∧ ¬ 999 < n) := ⟨hx0, hx1⟩
    obtain ⟨r1, r2, C, N, G, r3, r4, r5, r6, r7⟩ := id hR
    obtain ⟨q1, q2, q3, q4, ⟨l0, l1, l2⟩, ⟨k0, k1, k2⟩, q5⟩ := id r3.1
    have hq := rr_lt (σ 9 0 0)
    by_cases hC : 0 < C
    · obtain ⟨c, x, p1, p2, p3, p4, p5, p6⟩ := r6
      obtain ⟨ws, ws1, ws2⟩ := r3.2.2.2.2.1
      have hb := CS_bool r3.2.2.1
      have hn0 : ¬ n < 0 := fun z => hx0 (Int32.lt_trans z (by decide))
      obtain ⟨d, hd, rfl⟩ := nI_of2 (M := 999) (n := 999) (by decide) hn0 (Int32.not_lt.mp hx1)
      have es : σ 9 0 2 = nI ws := r3.2.2.1.2.1.trans ws2
      obtain ⟨v, hv⟩ : ∃ v, v = if 9999 < nI ws + nI d then 9999 else nI ws + nI d := ⟨_, rfl⟩
      obtain ⟨u, hu1, hu2⟩ : ∃ u : Nat, u ≤ 9999 ∧ v = nI u := by
        rw [hv, nI_add]
        by_cases hl : 9999 < ws + d
        · rw [if_pos (show (9999 : Int32) < nI (ws + d) from nI_lt (a := 9999) hl (by omega))]
          exact ⟨9999, by omega, rfl⟩
        · rw [if_neg (show ¬ (9999 : Int32) < nI (ws + d) from fun z => hl ((nI_ltI (a := 9999) (by decide) (by omega)).mp z))]
          exact ⟨ws + d, by omega, rfl⟩
      refine ⟨upS (remF σ c x) 9 0 2 v, updK (notF (upS (remF σ c x) 9 0 2 v) c) 43 0 (upd (σ 43 0) 1 v), v, ?_, ?_, ?_⟩
      · simp only [aX7_lend_0, aX7_lend_1, aX7_lend_2, aX7_lend_5, aX7_lend_8, aX7_lend_11, aX7_lend_13, aX7_lend_14, aX7_lend_15, aX7_lend_18, aX7_lend_21, aX7_lend_24, aX7_lend_27, aX7_lend_29, aX7_lend_30, aX7_lend_31, aX7_lend_34, aX7_lend_35, aX7_lend_38, sp_isOutside, sp_cTold q1 hq k0, Nat.zero_le, Nat.reduceLeDiff, Nat.reduceAdd, i1_0, rr_c3, zc9, oc9, zc10, oc10, zc11, oc11, zc12, oc12, zc13, oc13, zc15, oc15, Int32.lt_irrefl, Nat.zero_lt_one, Rt_cons, Rt_void, isB_0, isB_1, isB_b, true_and, and_true, cats_nil, cats_int, cats_ref, and_self, if_true, if_false, ite_self, le_nlt, ite_not, Rt_nil, bI_f h, bI_t hC]
        rw [sp_remember p1 p2 p4 p3 hb]
        have e9 : remF σ c x 9 0 = σ 9 0 := remF_ne (by omega) (by omega)
        simp only [aX7_lend_41, aX7_lend_42, aX7_lend_45, aX7_lend_46, aX7_lend_49, aX7_lend_50, aX7_lend_53, aX7_lend_56, sp_addHeads (show 0 < 34 by decide), Nat.zero_le, Nat.reduceLeDiff, Nat.reduceAdd, i1_0, rr_c3, zc9, oc9, zc10, oc10, zc11, oc11, zc12, oc12, zc13, oc13, zc15, oc15, Int32.lt_irrefl, Nat.zero_lt_one, Rt_cons, Rt_void, isB_0, isB_1, isB_b, true_and, and_true, cats_nil, cats_int, cats_ref, and_self, if_true, if_false, ite_self, le_nlt, ite_not, Rt_nil, e9, es, ← hv, upS_eq, upd_eq]
      · have m31 : upS (remF σ c x) 9 0 2 v 31 0 0 = nI C := by rw [upS_ne (by decide), remF_ne (by omega) (by omega)]; exact l0
        have m18 : upS (remF σ c x) 9 0 2 v 29 0 18 = nI c := by rw [upS_ne (by decide), remF_ne (by omega) (by omega)]; exact p5
        have m43 : upS (remF σ c x) 9 0 2 v 43 0 = σ 43 0 := by rw [upS_ne (by decide), remF_ne (by omega) (by omega)]
        generalize upS (remF σ c x) 9 0 2 v = σ1 at m31 m18 m43 ⊢
        simp only [aX8_lend_0, aX8_lend_1, aX8_lend_2, aX8_lend_5, aX8_lend_8, aX8_lend_11, aX8_lend_13, aX8_lend_14, aX8_lend_15, aX8_lend_18, aX8_lend_21, aX8_lend_23, aX8_lend_24, aX8_lend_25, sp_in, sp_mTold q1 m31, Nat.zero_le, Nat.reduceLeDiff, Nat.reduceAdd, i1_0, rr_c3, zc9, oc9, zc10, oc10, zc11, oc11, zc12, oc12, zc13, oc13, zc15, oc15, Int32.lt_irrefl, Nat.zero_lt_one, Rt_cons, Rt_void, isB_0, isB_1, isB_b, true_and, and_true, cats_nil, cats_int, cats_ref, and_self, if_true, if_false, ite_self, le_nlt, ite_not, Rt_nil, bI_t hin, bI_t hC]
        rw [sp_notes p1 m18]
        have n43 : notF σ1 c 43 0 = σ 43 0 := by rw [notF_ne (by decide) (by decide), m43]
        simp only [aX8_lend_28, aX8_lend_29, aX8_lend_32, aX8_lend_33, aX8_lend_36, aX8_lend_37, aX8_lend_40, aX8_lend_41, aX8_lend_42, aX8_lend_43, aX8_lend_44, aX8_lend_47, aX8_lend_48, aX8_lend_49, aX8_lend_52, aX8_lend_53, aX8_lend_54, sp_lesser, Nat.zero_le, Nat.reduceLeDiff, Nat.reduceAdd, i1_0, rr_c3, zc9, oc9, zc10, oc10, zc11, oc11, zc12, oc12, zc13, oc13, zc15, oc15, Int32.lt_irrefl, Nat.zero_lt_one, Rt_cons, Rt_void, isB_0, isB_1, isB_b, true_and, and_true, cats_nil, cats_int, cats_ref, and_self, if_true, if_false, ite_self, le_nlt, ite_not, Rt_nil, aT_43, aN_43, cnt_43, v99.2.1, c1, n43, ws2, ← hv, upS_chain, updK_eq, upd_eq]
      · refine Rel_deed r1 r2 r3 r4 r5 r7 p1 p2 p6 (fun k i a b => upS_ne (by omega)) (fun k i a => by rw [upS_ne (by omega), remF_ne (by omega) (by omega)]) (by rw [upS_eq, upd_ne (by decide), remF_ne (by omega) (by omega)]) ?_ ?_
        · have e : ∀ k, 9 ≤ k → k ≤ 15 → remF σ c x k 0 = σ k 0 := fun k a b => remF_ne (by omega) (by omega)
          refine CS_intro r3.2.2.1 ?_ ?_ ?_ ?_ ?_ ?_ ?_ ?_
          · rw [upS_eq, e 9 (by omega) (by omega)]; exact r3.2.2.1.1
          · rw [upS_eq, upd_eq, upd_eq]
          · rw [upS_eq, e 9 (by omega) (by omega)]; exact r3.2.2.1.2.2.1
          · rw [upS_eq, e 9 (by omega) (by omega)]; rfl
          · rw [upS_eq, e 9 (by omega) (by omega)]; rfl
          · rw [upS_ne (by decide), e 15 (by omega) (by omega)]
          · intro j a b; rw [upd_ne (by omega)]
          · intro k hk
            rw [upS_ne (by decide), upS_ne (by decide), upS_ne (by decide), upS_ne (by decide), upS_ne (by decide), e 10 (by omega) (by omega), e 11 (by omega) (by omega), e 12 (by omega) (by omega), e 13 (by omega) (by omega), e 14 (by omega) (by omega), upd_ne (by omega), upd_ne (by omega), upd_ne (by omega), upd_ne (by omega), upd_ne (by omega)]
            exact r3.2.2.1.2.2.2.2.2 k hk
        · exact WFw_stock r3.2.2.2 ⟨u, hu1, hu2⟩
    · refine ⟨σ, σ, -1000000003, ?_, ?_, hR⟩
      · simp only [aX7_lend_0, aX7_lend_1, aX7_lend_2, aX7_lend_5, aX7_lend_8, aX7_lend_11, aX7_lend_13, aX7_lend_14, aX7_lend_15, aX7_lend_18, aX7_lend_21, aX7_lend_24, aX7_lend_27, aX7_lend_29, aX7_lend_30, aX7_lend_31, aX7_lend_34, aX7_lend_35, aX7_lend_38, aX7_lend_41, aX7_lend_42, aX7_lend_45, aX7_lend_46, aX7_lend_49, aX7_lend_50, aX7_lend_53, aX7_lend_56, sp_isOutside, sp_cTold q1 hq k0, Nat.zero_le, Nat.reduceLeDiff, Nat.reduceAdd, i1_0, rr_c3, zc9, oc9, zc10, oc10, zc11, oc11, zc12, oc12, zc13, oc13, zc15, oc15, Int32.lt_irrefl, Nat.zero_lt_one, Rt_cons, Rt_void, isB_0, isB_1, isB_b, true_and, and_true, cats_nil, cats_int, cats_ref, and_self, if_true, if_false, ite_self, le_nlt, ite_not, Rt_nil, bI_f h, bI_f hC]
      · simp only [aX8_lend_0, aX8_lend_1, aX8_lend_2, aX8_lend_5, aX8_lend_8, aX8_lend_11, aX8_lend_13, aX8_lend_14, aX8_lend_15, aX8_lend_18, aX8_lend_21, aX8_lend_23, aX8_lend_24, aX8_lend_25, aX8_lend_28, aX8_lend_29, aX8_lend_32, aX8_lend_33, aX8_lend_36, aX8_lend_37, aX8_lend_40, aX8_lend_41, aX8_lend_42, aX8_lend_43, aX8_lend_44, aX8_lend_47, aX8_lend_48, aX8_lend_49, aX8_lend_52, aX8_lend_53, aX8_lend_54, sp_in, sp_mTold q1 l0, Nat.zero_le, Nat.reduceLeDiff, Nat.reduceAdd, i1_0, rr_c3, zc9, oc9, zc10, oc10, zc11, oc11, zc12, oc12, zc13, oc13, zc15, oc15, Int32.lt_irrefl, Nat.zero_lt_one, Rt_cons, Rt_void, isB_0, isB_1, isB_b, true_and, and_true, cats_nil, cats_int, cats_ref, and_self, if_true, if_false, ite_self, le_nlt, ite_not, Rt_nil, bI_t hin, bI_f hC]
