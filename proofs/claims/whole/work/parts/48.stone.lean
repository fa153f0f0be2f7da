-- a house's numbers
def Ch (σ : Mem) (i : Nat) (w : Nat → Int32) (h : Nat) : Prop := σ 10 i h = w (64 + 5 * h) ∧ σ 11 i h = w (64 + 5 * h + 2) ∧ σ 12 i h = w (64 + 5 * h + 3) ∧ σ 13 i h = w (64 + 5 * h + 4) ∧ (σ 14 i h = 0 ∨ σ 14 i h = 1) ∧ w (64 + 5 * h + 1) = std (σ 14 i h) (σ 11 i h)
theorem Ch_congr {σ τ : Mem} {i h : Nat} {w v : Nat → Int32} (H : Ch σ i w h) (e10 : τ 10 i h = σ 10 i h) (e11 : τ 11 i h = σ 11 i h) (e12 : τ 12 i h = σ 12 i h) (e13 : τ 13 i h = σ 13 i h) (e14 : τ 14 i h = σ 14 i h) (ev : ∀ t, t < 5 → v (64 + 5 * h + t) = w (64 + 5 * h + t)) : Ch τ i v h := by
  unfold Ch
  rw [e10, e11, e12, e13, e14, ev 1 (by omega), ev 2 (by omega), ev 3 (by omega), ev 4 (by omega), show v (64 + 5 * h) = w (64 + 5 * h) from ev 0 (by omega)]
  exact H
def Wl (G N : Nat) (w : Nat → Int32) (h : Nat) : Prop := (∃ d : Nat, d ≤ 9999 ∧ w (64 + 5 * h) = nI d) ∧ (w (64 + 5 * h + 1) = 0 ∨ w (64 + 5 * h + 1) = 1 ∨ w (64 + 5 * h + 1) = 2) ∧
    (w (64 + 5 * h + 2) = -1 ∨ ∃ g : Nat, g < G ∧ w (64 + 5 * h + 2) = nI g) ∧ (∃ d : Nat, d ≤ 7 ∧ w (64 + 5 * h + 3) = nI d) ∧ (∃ d : Nat, d ≤ 100 ∧ w (64 + 5 * h + 4) = nI d ∧ (d ≤ 9 ∨ w (64 + 5 * h + 1) = 2)) ∧
    (N ≤ h → w (64 + 5 * h + 2) = -1 ∧ ¬ w (64 + 5 * h + 1) = 2) ∧ (w (64 + 5 * h + 2) = -1 ∨ w (64 + 5 * h + 1) = 2 ∨ ∃ d : Nat, d ≤ 6 ∧ w (64 + 5 * h + 3) = nI d)
theorem Wl_congr {G N h : Nat} {w v : Nat → Int32} (H : Wl G N w h) (ev : ∀ t, t < 5 → v (64 + 5 * h + t) = w (64 + 5 * h + t)) : Wl G N v h := by
  unfold Wl
  rw [ev 1 (by omega), ev 2 (by omega), ev 3 (by omega), ev 4 (by omega), show v (64 + 5 * h) = w (64 + 5 * h) from ev 0 (by omega)]
  exact H
theorem WFw_intro {B G N : Nat} {w : Nat → Int32} (h1 : ∃ d : Nat, d ≤ B ∧ w 0 = nI d) (h2 : ∃ d : Nat, d ≤ 9999 ∧ w 1 = nI d) (h3 : w 2 = nI (cE7 w)) (h4 : ∀ h, h < 7 → Wl G N w h) (h5 : ∀ h k, h < 7 → k < 7 → h ≠ k → ¬ w (64 + 5 * h + 2) = -1 → ¬ w (64 + 5 * h + 2) = w (64 + 5 * k + 2)) : WFx B G N w := ⟨h1, h2, h3, h4, h5⟩
/-- one more is empty -/
theorem cE7_put {w v : Nat → Int32} {j : Nat} (hj : j < 7) (h0 : ¬ w (64 + 5 * j + 1) = 2) (h1 : v (64 + 5 * j + 1) = 2) (h2 : ∀ h, h < 7 → ¬ h = j → v (64 + 5 * h + 1) = w (64 + 5 * h + 1)) : cE7 v = cE7 w + 1 := by
  have e : ∀ h, h < 7 → ¬ h = j → eN v h = eN w h := fun h a b => by unfold eN; rw [h2 h a b]
  have ej : eN v j = 1 := by unfold eN; rw [if_pos h1]
  have ek : eN w j = 0 := by unfold eN; rw [if_neg h0]
  unfold cE7
  rcases (show j = 0 ∨ j = 1 ∨ j = 2 ∨ j = 3 ∨ j = 4 ∨ j = 5 ∨ j = 6 by omega) with rfl | rfl | rfl | rfl | rfl | rfl | rfl
  · rw [ej, ek, e 1 (by omega) (by omega), e 2 (by omega) (by omega), e 3 (by omega) (by omega), e 4 (by omega) (by omega), e 5 (by omega) (by omega), e 6 (by omega) (by omega)]; omega
  · rw [ej, ek, e 0 (by omega) (by omega), e 2 (by omega) (by omega), e 3 (by omega) (by omega), e 4 (by omega) (by omega), e 5 (by omega) (by omega), e 6 (by omega) (by omega)]; omega
  · rw [ej, ek, e 0 (by omega) (by omega), e 1 (by omega) (by omega), e 3 (by omega) (by omega), e 4 (by omega) (by omega), e 5 (by omega) (by omega), e 6 (by omega) (by omega)]; omega
  · rw [ej, ek, e 0 (by omega) (by omega), e 1 (by omega) (by omega), e 2 (by omega) (by omega), e 4 (by omega) (by omega), e 5 (by omega) (by omega), e 6 (by omega) (by omega)]; omega
  · rw [ej, ek, e 0 (by omega) (by omega), e 1 (by omega) (by omega), e 2 (by omega) (by omega), e 3 (by omega) (by omega), e 5 (by omega) (by omega), e 6 (by omega) (by omega)]; omega
  · rw [ej, ek, e 0 (by omega) (by omega), e 1 (by omega) (by omega), e 2 (by omega) (by omega), e 3 (by omega) (by omega), e 4 (by omega) (by omega), e 6 (by omega) (by omega)]; omega
  · rw [ej, ek, e 0 (by omega) (by omega), e 1 (by omega) (by omega), e 2 (by omega) (by omega), e 3 (by omega) (by omega), e 4 (by omega) (by omega), e 5 (by omega) (by omega)]
theorem cE7_same {w v : Nat → Int32} (h : ∀ h, h < 7 → v (64 + 5 * h + 1) = w (64 + 5 * h + 1)) : cE7 v = cE7 w := by
  have e : ∀ k, k < 7 → eN v k = eN w k := fun k a => by unfold eN; rw [h k a]
  unfold cE7
  rw [e 0 (by omega), e 1 (by omega), e 2 (by omega), e 3 (by omega), e 4 (by omega), e 5 (by omega), e 6 (by omega)]
def putW (w : Nat → Int32) (j : Nat) : Nat → Int32 := upd (upd w (64 + 5 * j + 1) 2) 2 (w 2 + 1)
theorem putW_ne {w : Nat → Int32} {j a : Nat} (h1 : ¬ a = 2) (h2 : ¬ a = 64 + 5 * j + 1) : putW w j a = w a := by unfold putW; rw [upd_ne h1, upd_ne h2]
theorem WFw_put {B G N j : Nat} {w : Nat → Int32} (h : WFx B G N w) (hj : j < 7) (hjN : j < N) (hne : ¬ w (64 + 5 * j + 1) = 2) : WFx B G N (putW w j) := by
  obtain ⟨h1, h2, h3, h4, h5⟩ := h
  have o : ∀ a, ¬ a = 2 → ¬ a = 64 + 5 * j + 1 → putW w j a = w a := fun a b c => by unfold putW; rw [upd_ne b, upd_ne c]
  have e1 : putW w j (64 + 5 * j + 1) = 2 := by unfold putW; rw [upd_ne (by omega), upd_eq]
  have ec : cE7 (putW w j) = cE7 w + 1 := cE7_put hj hne e1 (fun k a b => o _ (by omega) (by omega))
  refine WFw_intro (by rw [o 0 (by omega) (by omega)]; exact h1) (by rw [o 1 (by omega) (by omega)]; exact h2) ?_ (fun k hk => ?_) (fun a b ha hb hab => ?_)
  · rw [ec]; unfold putW; rw [upd_eq, h3, nI_1]
  · have wk : Wl G N w k := h4 k hk
    by_cases hkj : k = j
    · subst hkj
      obtain ⟨a1, a2, a3, a4, a5, a6, a7⟩ := wk
      refine ⟨by rw [o _ (by omega) (by omega)]; exact a1, Or.inr (Or.inr e1), by rw [o _ (by omega) (by omega)]; exact a3, by rw [o _ (by omega) (by omega)]; exact a4, by rw [o _ (by omega) (by omega)]; obtain ⟨d, d1, d2, d3⟩ := a5; exact ⟨d, d1, d2, Or.inr e1⟩, fun z => absurd hjN (by omega), Or.inr (Or.inl e1)⟩
    · exact Wl_congr wk (fun t ht => o _ (by omega) (by omega))
  · rw [o _ (by omega) (by omega), o (64 + 5 * b + 2) (by omega) (by omega)]
    exact h5 a b ha hb hab
section S48
variable {σ : Mem} {fs : List Fm} {M : List va_E} {Q : List va_E → Option Value → Prop}
/-- put out -/
def putC (σ : Mem) (i j : Nat) : Mem := upS (upS σ 14 i j 1) 9 i 3 (σ 9 i 3 + 1)
theorem sp_evict {i j : Nat} (hi : i < 34) (hj : j < 7) : Rn mX5_evict 0 [.ref (ad 9 i), .int (nI j)] [] fs (enc σ) Q ↔ Rt fs (enc (putC σ i j)) none Q := by
  have c9 : i < cnt 9 := hi
  have c10 : i < cnt 10 := hi
  have c11 : i < cnt 11 := hi
  have c12 : i < cnt 12 := hi
  have c13 : i < cnt 13 := hi
  have c15 : i < cnt 15 := hi
  have e9 : ∀ f, updK σ 14 i f 9 i = σ 9 i := fun f => updK_ne (by omega)
  simp only [aX5_evict_0, aX5_evict_1i, aX5_evict_1a, aX5_evict_2, aX5_evict_5, aX5_evict_6, aX5_evict_7, aX5_evict_8, Nat.zero_le, Nat.reduceLeDiff, Nat.reduceAdd, i1_0, rr_c3, zc9, oc9, zc10, oc10, zc11, oc11, zc12, oc12, zc13, oc13, zc15, oc15, Int32.lt_irrefl, Nat.zero_lt_one, Rt_cons, Rt_void, isB_0, isB_1, isB_b, true_and, and_true, cats_nil, cats_int, cats_ref, and_self, if_true, if_false, ite_self, le_nlt, ite_not, c9, c10, c11, c12, c13, c15, aT_10, aT_11, aT_12, aT_13, aT_15, aN_10, aN_11, aN_12, aN_13, aN_15]
  rw [aX5_evict_9 hi (emS_put hj)]
  simp only [aX5_evict_12, aX5_evict_13i, aX5_evict_13a, aX5_evict_14, aX5_evict_17, aX5_evict_18, aX5_evict_19, aX5_evict_22, Nat.zero_le, Nat.reduceLeDiff, Nat.reduceAdd, i1_0, rr_c3, zc9, oc9, zc10, oc10, zc11, oc11, zc12, oc12, zc13, oc13, zc15, oc15, Int32.lt_irrefl, Nat.zero_lt_one, Rt_cons, Rt_void, isB_0, isB_1, isB_b, true_and, and_true, cats_nil, cats_int, cats_ref, and_self, if_true, if_false, ite_self, le_nlt, ite_not, c9, c10, c11, c12, c13, c15, aT_10, aT_11, aT_12, aT_13, aT_15, aN_10, aN_11, aN_12, aN_13, aN_15, e9]
  rfl
theorem sp_putsOut {k j : Nat} (ht : aT k = 0) (hc : 0 < cnt k) (hn : aN k = 99) (hj : j < 7) : Rn mX8_putsOut 0 [.ref (ad k 0), .int (nI j)] [] fs (enc σ) Q ↔ Rt fs (enc (updK σ k 0 (putW (σ k 0) j))) none Q := by
  have e2 : upd (σ k 0) (64 + 5 * j + 1) 2 2 = σ k 0 2 := upd_ne (by omega)
  simp only [aX8_putsOut_0, aX8_putsOut_1, aX8_putsOut_3, aX8_putsOut_4, aX8_putsOut_5, aX8_putsOut_6, aX8_putsOut_7, aX8_putsOut_8, aX8_putsOut_9, aX8_putsOut_10, aX8_putsOut_11, aX8_putsOut_12, aX8_putsOut_13, aX8_putsOut_14, aX8_putsOut_15, aX8_putsOut_16, aX8_putsOut_17, aX8_putsOut_18, Nat.zero_le, Nat.reduceLeDiff, Nat.reduceAdd, i1_0, rr_c3, zc9, oc9, zc10, oc10, zc11, oc11, zc12, oc12, zc13, oc13, zc15, oc15, Int32.lt_irrefl, Nat.zero_lt_one, Rt_cons, Rt_void, isB_0, isB_1, isB_b, true_and, and_true, cats_nil, cats_int, cats_ref, and_self, if_true, if_false, ite_self, le_nlt, ite_not, ht, hc, hn, n5, n64, nI_1, in99 (show 64 + 5 * j + 1 < 99 by omega), cl10 (show 64 + 5 * j + 1 < 10000 by omega), v99.2.2.1, c2, upS_chain, updK_eq, updK_idem, e2]
  rfl
theorem api_stone (h : Int32) : Sim Rel mX7_stone mX8_stone [.int h] := by
  refine Sim_of (Lc := [.ref (ad 0 0), .int h]) (Lm := [.ref (ad 29 0), .int h]) rfl rfl (fun σ hR => ?_)
  obtain ⟨r1, r2, C, N, G, r3, r4, r5, r6, r7⟩ := id hR
  obtain ⟨q1, q2, q3, q4, ⟨l0, l1, l2⟩, ⟨k0, k1, k2⟩, q5⟩ := id r3.1
  have hq := rr_lt (σ 9 0 0)
  by_cases hH : isH N h
  · obtain ⟨j, hj, rfl⟩ := isH_of q2 hH
    have hj7 : j < 7 := by omega
    have cs := r3.2.2.1.2.2.2.2.2 j hj7
    have st : (σ 43 0 (64 + 5 * j + 1) = 2) ↔ ¬ σ 14 0 j = 0 := by
      rw [cs.2.2.2.2.2]
      unfold std
      by_cases z : σ 14 0 j = 0
      · rw [if_pos z]
        constructor
        · intro y
          split at y <;> exact absurd y (by decide)
        · intro y; exact absurd z y
      · rw [if_neg z]; simp [z]
    by_cases he : σ 14 0 j = 0
    · have hne : ¬ σ 43 0 (64 + 5 * j + 1) = 2 := fun z => (st.mp z) he
      obtain ⟨c, x, p1, p2, p3, p4, p5, p6⟩ := r6
      have hb := CS_bool r3.2.2.1
      have e : ∀ k, 9 ≤ k → k ≤ 15 → remF σ c x k 0 = σ k 0 := fun k a b => remF_ne (by omega) (by omega)
      have e2 : σ 9 0 3 = σ 43 0 2 := r3.2.2.1.2.2.1
      refine ⟨putC (remF σ c x) 0 j, updK (notF (putC (remF σ c x) 0 j) c) 43 0 (putW (σ 43 0) j), σ 43 0 2 + 1, ?_, ?_, ?_⟩
      · simp only [aX7_stone_0, aX7_stone_1, aX7_stone_4, aX7_stone_7, aX7_stone_8, aX7_stone_11, aX7_stone_14, aX7_stone_16, aX7_stone_17, aX7_stone_18, aX7_stone_21, aX7_stone_22, aX7_stone_25, aX7_stone_28, aX7_stone_30, aX7_stone_31, aX7_stone_32, aX7_stone_35, aX7_stone_36, aX7_stone_39, sp_cHouse hq k1, sp_isEmpty (show 0 < 34 by decide) hj7, Nat.zero_le, Nat.reduceLeDiff, Nat.reduceAdd, i1_0, rr_c3, zc9, oc9, zc10, oc10, zc11, oc11, zc12, oc12, zc13, oc13, zc15, oc15, Int32.lt_irrefl, Nat.zero_lt_one, Rt_cons, Rt_void, isB_0, isB_1, isB_b, true_and, and_true, cats_nil, cats_int, cats_ref, and_self, if_true, if_false, ite_self, le_nlt, ite_not, Rt_nil, bI_t hH, bI_f (not_not_intro he)]
        rw [sp_remember p1 p2 p4 p3 hb]
        simp only [aX7_stone_42, aX7_stone_43, aX7_stone_46, aX7_stone_47, aX7_stone_50, aX7_stone_51, aX7_stone_54, aX7_stone_57, sp_evict (show 0 < 34 by decide) hj7, Nat.zero_le, Nat.reduceLeDiff, Nat.reduceAdd, i1_0, rr_c3, zc9, oc9, zc10, oc10, zc11, oc11, zc12, oc12, zc13, oc13, zc15, oc15, Int32.lt_irrefl, Nat.zero_lt_one, Rt_cons, Rt_void, isB_0, isB_1, isB_b, true_and, and_true, cats_nil, cats_int, cats_ref, and_self, if_true, if_false, ite_self, le_nlt, ite_not, Rt_nil]
        unfold putC
        rw [upS_eq, upd_eq, e 9 (by omega) (by omega), e2]
      · have hm : ∀ k i, 29 ≤ k → putC (remF σ c x) 0 j k i = σ k i := fun k i a => by unfold putC; rw [upS_ne (by omega), upS_ne (by omega), remF_ne (by omega) (by omega)]
        generalize putC (remF σ c x) 0 j = σ1 at hm ⊢
        have m31 : σ1 31 0 1 = nI N := by rw [hm _ _ (by omega)]; exact l1
        have m18 : σ1 29 0 18 = nI c := by rw [hm _ _ (by omega)]; exact p5
        have m43 : σ1 43 0 = σ 43 0 := hm _ _ (by omega)
        simp only [aX8_stone_0, aX8_stone_1, aX8_stone_2, aX8_stone_5, aX8_stone_8, aX8_stone_10, aX8_stone_11, aX8_stone_12, aX8_stone_15, aX8_stone_17, aX8_stone_18, aX8_stone_19, aX8_stone_20, aX8_stone_21, aX8_stone_22, aX8_stone_23, aX8_stone_24, aX8_stone_25, aX8_stone_28, aX8_stone_30, aX8_stone_31, aX8_stone_32, sp_mHouse q2 m31, Nat.zero_le, Nat.reduceLeDiff, Nat.reduceAdd, i1_0, rr_c3, zc9, oc9, zc10, oc10, zc11, oc11, zc12, oc12, zc13, oc13, zc15, oc15, Int32.lt_irrefl, Nat.zero_lt_one, Rt_cons, Rt_void, isB_0, isB_1, isB_b, true_and, and_true, cats_nil, cats_int, cats_ref, and_self, if_true, if_false, ite_self, le_nlt, ite_not, Rt_nil, bI_t hH, aT_43, aN_43, cnt_43, n5, n64, nI_1, in99 (show 64 + 5 * j + 1 < 99 by omega), cl10 (show 64 + 5 * j + 1 < 10000 by omega), m43, hne, not_false_eq_true]
        rw [sp_notes p1 m18]
        have n43 : notF σ1 c 43 0 = σ 43 0 := by rw [notF_ne (by decide) (by decide), m43]
        simp only [aX8_stone_35, aX8_stone_36, aX8_stone_39, aX8_stone_40, aX8_stone_43, aX8_stone_44, aX8_stone_47, aX8_stone_48, aX8_stone_49, sp_putsOut (k := 43) (by decide) (by decide) (by decide) hj7, Nat.zero_le, Nat.reduceLeDiff, Nat.reduceAdd, i1_0, rr_c3, zc9, oc9, zc10, oc10, zc11, oc11, zc12, oc12, zc13, oc13, zc15, oc15, Int32.lt_irrefl, Nat.zero_lt_one, Rt_cons, Rt_void, isB_0, isB_1, isB_b, true_and, and_true, cats_nil, cats_int, cats_ref, and_self, if_true, if_false, ite_self, le_nlt, ite_not, Rt_nil, aT_43, aN_43, cnt_43, v99.2.2.1, c2, n43, updK_eq]
        rfl
      · have eP : ∀ k, 9 ≤ k → k ≤ 15 → k ≠ 9 → k ≠ 14 → putC (remF σ c x) 0 j k 0 = σ k 0 := fun k a b d f => by unfold putC; rw [upS_ne (by omega), upS_ne (by omega), e k a b]
        have eP9 : putC (remF σ c x) 0 j 9 0 = upd (σ 9 0) 3 (σ 43 0 2 + 1) := by unfold putC; rw [upS_eq, upS_ne (by decide), e 9 (by omega) (by omega), e2]
        have eP14 : putC (remF σ c x) 0 j 14 0 = upd (σ 14 0) j 1 := by unfold putC; rw [upS_ne (by decide), upS_eq, e 14 (by omega) (by omega)]
        refine Rel_deed r1 r2 r3 r4 r5 r7 p1 p2 p6 (fun k i a b => by unfold putC; rw [upS_ne (by omega), upS_ne (by omega)]) (fun k i a => by unfold putC; rw [upS_ne (by omega), upS_ne (by omega), remF_ne (by omega) (by omega)]) (by rw [eP9, upd_ne (by decide)]) ?_ ?_
        · refine CS_intro r3.2.2.1 (by rw [eP9, putW_ne (by omega) (by omega)]; exact r3.2.2.1.1) (by rw [eP9, putW_ne (by omega) (by omega)]; exact r3.2.2.1.2.1) (by rw [eP9]; unfold putW; rw [upd_eq, upd_eq]) (by rw [eP9]; rfl) (by rw [eP9]; rfl) (eP 15 (by omega) (by omega) (by omega) (by omega)) (fun t a b => by unfold putW; rw [upd_ne (by omega), upd_ne (by omega)]) (fun k hk => ?_)
          have ck := r3.2.2.1.2.2.2.2.2 k hk
          by_cases hkj : k = j
          · subst hkj
            rw [eP 10 (by omega) (by omega) (by omega) (by omega), eP 11 (by omega) (by omega) (by omega) (by omega), eP 12 (by omega) (by omega) (by omega) (by omega), eP 13 (by omega) (by omega) (by omega) (by omega), eP14, upd_eq]
            unfold putW
            rw [upd_ne (by omega), upd_ne (by omega), upd_ne (by omega), upd_ne (by omega), upd_ne (by omega), upd_ne (by omega), upd_ne (by omega), upd_ne (by omega), upd_ne (show ¬ 64 + 5 * k + 1 = 2 by omega), upd_eq]
            exact ⟨ck.1, ck.2.1, ck.2.2.1, ck.2.2.2.1, Or.inr rfl, rfl⟩
          · exact Ch_congr (w := σ 43 0) ck (by rw [eP 10 (by omega) (by omega) (by omega) (by omega)]) (by rw [eP 11 (by omega) (by omega) (by omega) (by omega)]) (by rw [eP 12 (by omega) (by omega) (by omega) (by omega)]) (by rw [eP 13 (by omega) (by omega) (by omega) (by omega)]) (by rw [eP14, upd_ne hkj]) (fun t ht => by unfold putW; rw [upd_ne (by omega), upd_ne (by omega)])
        · exact WFw_put r3.2.2.2 hj7 hj hne
    · refine ⟨σ, σ, -1000000003, ?_, ?_, hR⟩
      · simp only [aX7_stone_0, aX7_stone_1, aX7_stone_4, aX7_stone_7, aX7_stone_8, aX7_stone_11, aX7_stone_14, aX7_stone_16, aX7_stone_17, aX7_stone_18, aX7_stone_21, aX7_stone_22, aX7_stone_25, aX7_stone_28, aX7_stone_30, sp_cHouse hq k1, sp_isEmpty (show 0 < 34 by decide) hj7, Nat.zero_le, Nat.reduceLeDiff, Nat.reduceAdd, i1_0, rr_c3, zc9, oc9, zc10, oc10, zc11, oc11, zc12, oc12, zc13, oc13, zc15, oc15, Int32.lt_irrefl, Nat.zero_lt_one, Rt_cons, Rt_void, isB_0, isB_1, isB_b, true_and, and_true, cats_nil, cats_int, cats_ref, and_self, if_true, if_false, ite_self, le_nlt, ite_not, Rt_nil, bI_t hH, bI_t he]
      · simp only [aX8_stone_0, aX8_stone_1, aX8_stone_2, aX8_stone_5, aX8_stone_8, aX8_stone_10, aX8_stone_11, aX8_stone_12, aX8_stone_15, aX8_stone_17, aX8_stone_18, aX8_stone_19, aX8_stone_20, aX8_stone_21, aX8_stone_22, aX8_stone_23, aX8_stone_24, aX8_stone_25, aX8_stone_28, aX8_stone_30, sp_mHouse q2 l1, Nat.zero_le, Nat.reduceLeDiff, Nat.reduceAdd, i1_0, rr_c3, zc9, oc9, zc10, oc10, zc11, oc11, zc12, oc12, zc13, oc13, zc15, oc15, Int32.lt_irrefl, Nat.zero_lt_one, Rt_cons, Rt_void, isB_0, isB_1, isB_b, true_and, and_true, cats_nil, cats_int, cats_ref, and_self, if_true, if_false, ite_self, le_nlt, ite_not, Rt_nil, bI_t hH, aT_43, aN_43, cnt_43, n5, n64, nI_1, in99 (show 64 + 5 * j + 1 < 99 by omega), cl10 (show 64 + 5 * j + 1 < 10000 by omega), st.mpr he, not_true_eq_false]
  · refine ⟨σ, σ, -1000000001, ?_, ?_, hR⟩
    · simp only [aX7_stone_0, aX7_stone_1, aX7_stone_4, aX7_stone_7, aX7_stone_8, aX7_stone_11, aX7_stone_14, aX7_stone_16, sp_cHouse hq k1, Nat.zero_le, Nat.reduceLeDiff, Nat.reduceAdd, i1_0, rr_c3, zc9, oc9, zc10, oc10, zc11, oc11, zc12, oc12, zc13, oc13, zc15, oc15, Int32.lt_irrefl, Nat.zero_lt_one, Rt_cons, Rt_void, isB_0, isB_1, isB_b, true_and, and_true, cats_nil, cats_int, cats_ref, and_self, if_true, if_false, ite_self, le_nlt, ite_not, Rt_nil, bI_f hH]
    · simp only [aX8_stone_0, aX8_stone_1, aX8_stone_2, aX8_stone_5, aX8_stone_8, aX8_stone_10, sp_mHouse q2 l1, Nat.zero_le, Nat.reduceLeDiff, Nat.reduceAdd, i1_0, rr_c3, zc9, oc9, zc10, oc10, zc11, oc11, zc12, oc12, zc13, oc13, zc15, oc15, Int32.lt_irrefl, Nat.zero_lt_one, Rt_cons, Rt_void, isB_0, isB_1, isB_b, true_and, and_true, cats_nil, cats_int, cats_ref, and_self, if_true, if_false, ite_self, le_nlt, ite_not, Rt_nil, bI_f hH]
end S48
