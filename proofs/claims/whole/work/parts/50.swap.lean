section S50
variable {σ : Mem} {fs : List Fm} {M : List va_E} {Q : List va_E → Option Value → Prop}
abbrev canE (w : Nat → Int32) (a b : Nat) : Prop := ¬ w (64 + 5 * a + 2) = -1 ∧ ¬ w (64 + 5 * b + 2) = -1
theorem sp_canExchange {i a b : Nat} {w : Nat → Int32} (hi : i < 34) (ha : a < 7) (hb : b < 7) (h : CS σ i w) : Rn mX5_canExchange 0 [.ref (ad 9 i), .int (nI a), .int (nI b)] [] fs (enc σ) Q ↔ Rt fs (enc σ) (some (.int (bI (canE w a b)))) Q := by
  have c9 : i < cnt 9 := hi
  have c10 : i < cnt 10 := hi
  have c11 : i < cnt 11 := hi
  have c12 : i < cnt 12 := hi
  have c13 : i < cnt 13 := hi
  have c15 : i < cnt 15 := hi
  have e1 : σ 11 i a = w (64 + 5 * a + 2) := (h.2.2.2.2.2 a ha).2.1
  have e2 : σ 11 i b = w (64 + 5 * b + 2) := (h.2.2.2.2.2 b hb).2.1
  simp only [aX5_canExchange_0, aX5_canExchange_1, aX5_canExchange_4, aX5_canExchange_5, aX5_canExchange_6, aX5_canExchange_7, aX5_canExchange_10, aX5_canExchange_11, aX5_canExchange_14, aX5_canExchange_15, aX5_canExchange_16, aX5_canExchange_17, aX5_canExchange_20, aX5_canExchange_21, aX5_canExchange_24, aX5_canExchange_25, Nat.zero_le, Nat.reduceLeDiff, Nat.reduceAdd, i1_0, rr_c3, zc9, oc9, zc10, oc10, zc11, oc11, zc12, oc12, zc13, oc13, zc15, oc15, Int32.lt_irrefl, Nat.zero_lt_one, Rt_cons, Rt_void, isB_0, isB_1, isB_b, true_and, and_true, cats_nil, cats_int, cats_ref, and_self, if_true, if_false, ite_self, le_nlt, ite_not, c9, c10, c11, c12, c13, c15, aT_10, aT_11, aT_12, aT_13, aT_15, aN_10, aN_11, aN_12, aN_13, aN_15, in7 ha, in7 hb, cl10 (show a < 10000 by omega), cl10 (show b < 10000 by omega), e1, e2]
  by_cases x : w (64 + 5 * a + 2) = -1
  · simp [x, bI, canE]
  · by_cases y : w (64 + 5 * b + 2) = -1 <;> simp [x, y, bI, canE]
theorem sp_canSwap {k a b : Nat} (ht : aT k = 0) (hc : 0 < cnt k) (hn : aN k = 99) (ha : a < 7) (hb : b < 7) : Rn mX8_canSwap 0 [.ref (ad k 0), .int (nI a), .int (nI b)] [] fs (enc σ) Q ↔ Rt fs (enc σ) (some (.int (bI (¬ a = b ∧ canE (σ k 0) a b)))) Q := by
  have hab : (nI a = nI b) ↔ a = b := nI_eq (by omega) (by omega)
  simp only [aX8_canSwap_0, aX8_canSwap_1, aX8_canSwap_2, aX8_canSwap_5, aX8_canSwap_6, aX8_canSwap_8, aX8_canSwap_9, aX8_canSwap_10, aX8_canSwap_11, aX8_canSwap_12, aX8_canSwap_13, aX8_canSwap_14, aX8_canSwap_15, aX8_canSwap_16, aX8_canSwap_19, aX8_canSwap_20, aX8_canSwap_22, aX8_canSwap_23, aX8_canSwap_24, aX8_canSwap_25, aX8_canSwap_26, aX8_canSwap_27, aX8_canSwap_28, aX8_canSwap_29, aX8_canSwap_30, aX8_canSwap_33, aX8_canSwap_34, aX8_canSwap_37, aX8_canSwap_38, Nat.zero_le, Nat.reduceLeDiff, Nat.reduceAdd, i1_0, rr_c3, zc9, oc9, zc10, oc10, zc11, oc11, zc12, oc12, zc13, oc13, zc15, oc15, Int32.lt_irrefl, Nat.zero_lt_one, Rt_cons, Rt_void, isB_0, isB_1, isB_b, true_and, and_true, cats_nil, cats_int, cats_ref, and_self, if_true, if_false, ite_self, le_nlt, ite_not, ht, hc, hn, n5, n64, nI_2, in99 (show 64 + 5 * a + 2 < 99 by omega), in99 (show 64 + 5 * b + 2 < 99 by omega), cl10 (show 64 + 5 * a + 2 < 10000 by omega), cl10 (show 64 + 5 * b + 2 < 10000 by omega), hab]
  by_cases z : a = b
  · simp [z, bI]
  · by_cases x : σ k 0 (64 + 5 * a + 2) = -1
    · simp [x, z, bI, canE]
    · by_cases y : σ k 0 (64 + 5 * b + 2) = -1 <;> simp [x, y, z, bI, canE]
def exC (σ : Mem) (i a b : Nat) : Mem := updK (updK σ 11 i (upd (upd (σ 11 i) a (σ 11 i b)) b (σ 11 i a))) 12 i (upd (upd (σ 12 i) a 0) b 0)
def exW (w : Nat → Int32) (a b : Nat) : Nat → Int32 := upd (upd (upd (upd w (64 + 5 * a + 2) (w (64 + 5 * b + 2))) (64 + 5 * b + 2) (w (64 + 5 * a + 2))) (64 + 5 * a + 3) 0) (64 + 5 * b + 3) 0
theorem sp_exchange {i a b : Nat} (hi : i < 34) (ha : a < 7) (hb : b < 7) : Rn mX5_exchange 0 [.ref (ad 9 i), .int (nI a), .int (nI b), .null] [] fs (enc σ) Q ↔ Rt fs (enc (exC σ i a b)) none Q := by
  have c9 : i < cnt 9 := hi
  have c10 : i < cnt 10 := hi
  have c11 : i < cnt 11 := hi
  have c12 : i < cnt 12 := hi
  have c13 : i < cnt 13 := hi
  have c15 : i < cnt 15 := hi
  have e : ∀ f, updK σ 11 i f 12 i = σ 12 i := fun f => updK_ne (by omega)
  simp only [aX5_exchange_0, aX5_exchange_1, aX5_exchange_4, aX5_exchange_5, aX5_exchange_6, aX5_exchange_7, aX5_exchange_8, aX5_exchange_11, aX5_exchange_12, aX5_exchange_13, aX5_exchange_16, aX5_exchange_17, aX5_exchange_18, aX5_exchange_19, aX5_exchange_20, aX5_exchange_23, aX5_exchange_24, aX5_exchange_25, aX5_exchange_26, aX5_exchange_27, aX5_exchange_30, aX5_exchange_31, aX5_exchange_32, aX5_exchange_33, aX5_exchange_34, aX5_exchange_37, aX5_exchange_38, aX5_exchange_39, aX5_exchange_40, Nat.zero_le, Nat.reduceLeDiff, Nat.reduceAdd, i1_0, rr_c3, zc9, oc9, zc10, oc10, zc11, oc11, zc12, oc12, zc13, oc13, zc15, oc15, Int32.lt_irrefl, Nat.zero_lt_one, Rt_cons, Rt_void, isB_0, isB_1, isB_b, true_and, and_true, cats_nil, cats_int, cats_ref, and_self, if_true, if_false, ite_self, le_nlt, ite_not, c9, c10, c11, c12, c13, c15, aT_10, aT_11, aT_12, aT_13, aT_15, aN_10, aN_11, aN_12, aN_13, aN_15, in7 ha, in7 hb, cl10 (show a < 10000 by omega), cl10 (show b < 10000 by omega), upS_chain, updK_eq, updK_idem, e]
  rfl
theorem sp_swaps {k a b : Nat} (ht : aT k = 0) (hc : 0 < cnt k) (hn : aN k = 99) (ha : a < 7) (hb : b < 7) : Rn mX8_swaps 0 [.ref (ad k 0), .int (nI a), .int (nI b), .null] [] fs (enc σ) Q ↔ Rt fs (enc (updK σ k 0 (exW (σ k 0) a b))) none Q := by
  simp only [aX8_swaps_0, aX8_swaps_1, aX8_swaps_3, aX8_swaps_4, aX8_swaps_5, aX8_swaps_6, aX8_swaps_7, aX8_swaps_8, aX8_swaps_9, aX8_swaps_10, aX8_swaps_11, aX8_swaps_12, aX8_swaps_14, aX8_swaps_15, aX8_swaps_16, aX8_swaps_17, aX8_swaps_18, aX8_swaps_19, aX8_swaps_20, aX8_swaps_21, aX8_swaps_23, aX8_swaps_24, aX8_swaps_25, aX8_swaps_26, aX8_swaps_27, aX8_swaps_28, aX8_swaps_29, aX8_swaps_30, aX8_swaps_31, aX8_swaps_32, aX8_swaps_34, aX8_swaps_35, aX8_swaps_36, aX8_swaps_37, aX8_swaps_38, aX8_swaps_39, aX8_swaps_40, aX8_swaps_41, aX8_swaps_42, aX8_swaps_43, aX8_swaps_45, aX8_swaps_46, aX8_swaps_47, aX8_swaps_48, aX8_swaps_49, aX8_swaps_50, aX8_swaps_51, aX8_swaps_52, aX8_swaps_53, aX8_swaps_54, aX8_swaps_56, aX8_swaps_57, aX8_swaps_58, aX8_swaps_59, aX8_swaps_60, aX8_swaps_61, aX8_swaps_62, aX8_swaps_63, aX8_swaps_64, Nat.zero_le, Nat.reduceLeDiff, Nat.reduceAdd, i1_0, rr_c3, zc9, oc9, zc10, oc10, zc11, oc11, zc12, oc12, zc13, oc13, zc15, oc15, Int32.lt_irrefl, Nat.zero_lt_one, Rt_cons, Rt_void, isB_0, isB_1, isB_b, true_and, and_true, cats_nil, cats_int, cats_ref, and_self, if_true, if_false, ite_self, le_nlt, ite_not, ht, hc, hn, n5, n64, nI_2, nI_3, in99 (show 64 + 5 * a + 2 < 99 by omega), in99 (show 64 + 5 * b + 2 < 99 by omega), cl10 (show 64 + 5 * a + 2 < 10000 by omega), cl10 (show 64 + 5 * b + 2 < 10000 by omega), in99 (show 64 + 5 * a + 3 < 99 by omega), in99 (show 64 + 5 * b + 3 < 99 by omega), cl10 (show 64 + 5 * a + 3 < 10000 by omega), cl10 (show 64 + 5 * b + 3 < 10000 by omega), upS_chain, updK_eq, updK_idem]
  rfl
theorem exW_ne {w : Nat → Int32} {a b t : Nat} (h1 : ¬ t = 64 + 5 * a + 2) (h2 : ¬ t = 64 + 5 * b + 2) (h3 : ¬ t = 64 + 5 * a + 3) (h4 : ¬ t = 64 + 5 * b + 3) : exW w a b t = w t := by unfold exW; rw [upd_ne h4, upd_ne h3, upd_ne h2, upd_ne h1]
/-- whose gull it has then -/
def pm (a b h : Nat) : Nat := if h = b then a else if h = a then b else h
theorem exW_g {w : Nat → Int32} {a b h : Nat} : exW w a b (64 + 5 * h + 2) = w (64 + 5 * (pm a b h) + 2) := by
  unfold exW pm
  rw [upd_ne (by omega), upd_ne (by omega)]
  by_cases hb : h = b
  · rw [if_pos hb, hb, upd_eq]
  · rw [if_neg hb, upd_ne (by omega)]
    by_cases ha : h = a
    · rw [if_pos ha, ha, upd_eq]
    · rw [if_neg ha, upd_ne (by omega)]
theorem exW_d {w : Nat → Int32} {a b h : Nat} : exW w a b (64 + 5 * h + 3) = if h = a ∨ h = b then 0 else w (64 + 5 * h + 3) := by
  unfold exW
  by_cases hb : h = b
  · rw [if_pos (Or.inr hb), hb, upd_eq]
  · rw [upd_ne (by omega)]
    by_cases ha : h = a
    · rw [if_pos (Or.inl ha), ha, upd_eq]
    · rw [if_neg (by omega), upd_ne (by omega), upd_ne (by omega), upd_ne (by omega)]
theorem pm_lt {a b h n : Nat} (ha : a < n) (hb : b < n) (hh : h < n) : pm a b h < n := by unfold pm; split <;> (try split) <;> omega
theorem pm_inj {a b h k : Nat} (hne : h ≠ k) : pm a b h ≠ pm a b k := by unfold pm; split <;> split <;> (try split) <;> (try split) <;> omega
theorem std_g {e g g' : Int32} (h : ¬ g = -1) (h' : ¬ g' = -1) : std e g = std e g' := by unfold std; rw [if_neg h, if_neg h']
theorem CS_ex {i a b : Nat} {w : Nat → Int32} (h : CS σ i w) (ha : a < 7) (hb : b < 7) (hc : canE w a b) : CS (exC σ i a b) i (exW w a b) := by
  have eP : ∀ k, k ≠ 11 → k ≠ 12 → exC σ i a b k i = σ k i := fun k d f => by unfold exC; rw [updK_ne (by omega), updK_ne (by omega)]
  have e11 : ∀ t, t < 7 → exC σ i a b 11 i t = exW w a b (64 + 5 * t + 2) := fun t ht => by
    unfold exC
    rw [updK_ne (by omega), updK_eq, exW_g]
    unfold pm
    by_cases q : t = b
    · rw [if_pos q, q, upd_eq]; exact (h.2.2.2.2.2 a ha).2.1
    · rw [if_neg q, upd_ne q]
      by_cases q2 : t = a
      · rw [if_pos q2, q2, upd_eq]; exact (h.2.2.2.2.2 b hb).2.1
      · rw [if_neg q2, upd_ne q2]; exact (h.2.2.2.2.2 t ht).2.1
  have e12 : ∀ t, t < 7 → exC σ i a b 12 i t = exW w a b (64 + 5 * t + 3) := fun t ht => by
    unfold exC
    rw [updK_eq, exW_d]
    by_cases q : t = b
    · rw [if_pos (Or.inr q), q, upd_eq]
    · rw [upd_ne q]
      by_cases q2 : t = a
      · rw [if_pos (Or.inl q2), q2, upd_eq]
      · rw [if_neg (by omega), upd_ne q2]; exact (h.2.2.2.2.2 t ht).2.2.1
  have o : ∀ t, t < 64 → exW w a b t = w t := fun t ht => exW_ne (by omega) (by omega) (by omega) (by omega)
  refine CS_intro h (by rw [eP 9 (by omega) (by omega), o 0 (by omega)]; exact h.1) (by rw [eP 9 (by omega) (by omega), o 1 (by omega)]; exact h.2.1) (by rw [eP 9 (by omega) (by omega), o 2 (by omega)]; exact h.2.2.1) (by rw [eP 9 (by omega) (by omega)]) (by rw [eP 9 (by omega) (by omega)]) (eP 15 (by omega) (by omega)) (fun t _ q => o t q) (fun k hk => ?_)
  have ck := h.2.2.2.2.2 k hk
  have n0 : exW w a b (64 + 5 * k) = w (64 + 5 * k) := exW_ne (by omega) (by omega) (by omega) (by omega)
  have n1 : exW w a b (64 + 5 * k + 1) = w (64 + 5 * k + 1) := exW_ne (by omega) (by omega) (by omega) (by omega)
  have n4 : exW w a b (64 + 5 * k + 4) = w (64 + 5 * k + 4) := exW_ne (by omega) (by omega) (by omega) (by omega)
  rw [eP 10 (by omega) (by omega), eP 13 (by omega) (by omega), eP 14 (by omega) (by omega), n0, n1, n4]
  refine ⟨ck.1, e11 k hk, e12 k hk, ck.2.2.2.1, ck.2.2.2.2.1, ?_⟩
  rw [ck.2.2.2.2.2, e11 k hk, exW_g, ck.2.1]
  unfold pm
  by_cases q : k = b
  · rw [if_pos q, q]; exact std_g hc.2 hc.1
  · rw [if_neg q]
    by_cases q2 : k = a
    · rw [if_pos q2, q2]; exact std_g hc.1 hc.2
    · rw [if_neg q2]
theorem WFw_ex {B G N a b : Nat} {w : Nat → Int32} (h : WFx B G N w) (hN : N ≤ 7) (ha : a < N) (hb : b < N) : WFx B G N (exW w a b) := by
  obtain ⟨h1, h2, h3, h4, h5⟩ := h
  have o : ∀ t, t < 64 → exW w a b t = w t := fun t ht => exW_ne (by omega) (by omega) (by omega) (by omega)
  have n1 : ∀ k, exW w a b (64 + 5 * k + 1) = w (64 + 5 * k + 1) := fun k => exW_ne (by omega) (by omega) (by omega) (by omega)
  have ec : cE7 (exW w a b) = cE7 w := cE7_same (fun k hk => n1 k)
  refine WFw_intro (by rw [o 0 (by omega)]; exact h1) (by rw [o 1 (by omega)]; exact h2) (by rw [ec, o 2 (by omega)]; exact h3) (fun k hk => ?_) (fun x y hx hy hxy => ?_)
  · obtain ⟨a1, a2, a3, a4, a5, a6, a7⟩ := (show Wl G N w k from h4 k hk)
    have n0 : exW w a b (64 + 5 * k) = w (64 + 5 * k) := exW_ne (by omega) (by omega) (by omega) (by omega)
    have n4 : exW w a b (64 + 5 * k + 4) = w (64 + 5 * k + 4) := exW_ne (by omega) (by omega) (by omega) (by omega)
    have pk : pm a b k < 7 := pm_lt (by omega) (by omega) hk
    unfold Wl
    rw [n0, n1, n4, exW_g, exW_d]
    refine ⟨a1, a2, (h4 _ pk).2.2.1, ?_, a5, fun q => ?_, ?_⟩
    · by_cases q : k = a ∨ k = b
      · rw [if_pos q]; exact ⟨0, by omega, rfl⟩
      · rw [if_neg q]; exact a4
    · have : pm a b k = k := by unfold pm; rw [if_neg (by omega), if_neg (by omega)]
      rw [this]; exact a6 q
    · by_cases q : k = a ∨ k = b
      · rw [if_pos q]; exact Or.inr (Or.inr ⟨0, by omega, rfl⟩)
      · have : pm a b k = k := by unfold pm; rw [if_neg (fun z => q (Or.inr z)), if_neg (fun z => q (Or.inl z))]
        rw [if_neg q, this]; exact a7
  · rw [exW_g, exW_g]
    exact h5 _ _ (pm_lt (by omega) (by omega) hx) (pm_lt (by omega) (by omega) hy) (pm_inj hxy)
theorem api_swap (h k : Int32) : Sim Rel mX7_swap mX8_swap [.int h, .int k] := by
  refine Sim_of (Lc := [.ref (ad 0 0), .int h, .int k]) (Lm := [.ref (ad 29 0), .int h, .int k]) rfl rfl (fun σ hR => ?_)
  obtain ⟨r1, r2, C, N, G, r3, r4, r5, r6, r7⟩ := id hR
  obtain ⟨q1, q2, q3, q4, ⟨l0, l1, l2⟩, ⟨k0, k1, k2⟩, q5⟩ := id r3.1
  have hq := rr_lt (σ 9 0 0)
  by_cases hH : isH N h
  · by_cases hK : isH N k
    · obtain ⟨a, ha, rfl⟩ := isH_of q2 hH
      obtain ⟨b, hb, rfl⟩ := isH_of q2 hK
      have ha7 : a < 7 := by omega
      have hb7 : b < 7 := by omega
      have hab : (nI a = nI b) ↔ a = b := nI_eq (by omega) (by omega)
      by_cases hn : a = b
      · subst hn
        refine ⟨σ, σ, -1000000001, ?_, ?_, hR⟩
        · simp only [aX7_swap_0, aX7_swap_1, aX7_swap_4, aX7_swap_7, aX7_swap_8, aX7_swap_11, aX7_swap_14, aX7_swap_15, aX7_swap_18, aX7_swap_21, aX7_swap_22, aX7_swap_25, aX7_swap_28, aX7_swap_29, aX7_swap_30, aX7_swap_33, aX7_swap_35, sp_cHouse hq k1, Nat.zero_le, Nat.reduceLeDiff, Nat.reduceAdd, i1_0, rr_c3, zc9, oc9, zc10, oc10, zc11, oc11, zc12, oc12, zc13, oc13, zc15, oc15, Int32.lt_irrefl, Nat.zero_lt_one, Rt_cons, Rt_void, isB_0, isB_1, isB_b, true_and, and_true, cats_nil, cats_int, cats_ref, and_self, if_true, if_false, ite_self, le_nlt, ite_not, Rt_nil, bI_t hH]
        · simp only [aX8_swap_0, aX8_swap_1, aX8_swap_2, aX8_swap_5, aX8_swap_8, aX8_swap_9, aX8_swap_10, aX8_swap_13, aX8_swap_16, aX8_swap_17, aX8_swap_18, aX8_swap_21, aX8_swap_23, sp_mHouse q2 l1, Nat.zero_le, Nat.reduceLeDiff, Nat.reduceAdd, i1_0, rr_c3, zc9, oc9, zc10, oc10, zc11, oc11, zc12, oc12, zc13, oc13, zc15, oc15, Int32.lt_irrefl, Nat.zero_lt_one, Rt_cons, Rt_void, isB_0, isB_1, isB_b, true_and, and_true, cats_nil, cats_int, cats_ref, and_self, if_true, if_false, ite_self, le_nlt, ite_not, Rt_nil, bI_t hH]
      · by_cases hc : canE (σ 43 0) a b
        · obtain ⟨c, x, p1, p2, p3, p4, p5, p6⟩ := r6
          have hbo := CS_bool r3.2.2.1
          have e : ∀ k, 9 ≤ k → k ≤ 15 → remF σ c x k 0 = σ k 0 := fun k a b => remF_ne (by omega) (by omega)
          have csE := CS_ex (CS_rem (c := c) (x := x) r3.2.2.1) ha7 hb7 hc
          refine ⟨exC (remF σ c x) 0 a b, updK (notF (exC (remF σ c x) 0 a b) c) 43 0 (exW (σ 43 0) a b), exW (σ 43 0) a b (64 + 5 * a + 2), ?_, ?_, ?_⟩
          · simp only [aX7_swap_0, aX7_swap_1, aX7_swap_4, aX7_swap_7, aX7_swap_8, aX7_swap_11, aX7_swap_14, aX7_swap_15, aX7_swap_18, aX7_swap_21, aX7_swap_22, aX7_swap_25, aX7_swap_28, aX7_swap_29, aX7_swap_30, aX7_swap_33, aX7_swap_35, aX7_swap_36, aX7_swap_37, aX7_swap_40, aX7_swap_41, aX7_swap_42, aX7_swap_45, aX7_swap_48, aX7_swap_50, aX7_swap_51, aX7_swap_52, aX7_swap_55, aX7_swap_56, aX7_swap_59, sp_cHouse hq k1, sp_canExchange (show 0 < 34 by decide) ha7 hb7 r3.2.2.1, Nat.zero_le, Nat.reduceLeDiff, Nat.reduceAdd, i1_0, rr_c3, zc9, oc9, zc10, oc10, zc11, oc11, zc12, oc12, zc13, oc13, zc15, oc15, Int32.lt_irrefl, Nat.zero_lt_one, Rt_cons, Rt_void, isB_0, isB_1, isB_b, true_and, and_true, cats_nil, cats_int, cats_ref, and_self, if_true, if_false, ite_self, le_nlt, ite_not, Rt_nil, bI_t hH, bI_t hK, bI_t hc, hab, hn]
            rw [sp_remember p1 p2 p4 p3 hbo]
            have e11 := (csE.2.2.2.2.2 a ha7).2.1
            simp only [aX7_swap_62, aX7_swap_63, aX7_swap_66, aX7_swap_67, aX7_swap_68, aX7_swap_71, aX7_swap_72, aX7_swap_75, aX7_swap_78, aX7_swap_79, aX7_swap_80, sp_exchange (show 0 < 34 by decide) ha7 hb7, Nat.zero_le, Nat.reduceLeDiff, Nat.reduceAdd, i1_0, rr_c3, zc9, oc9, zc10, oc10, zc11, oc11, zc12, oc12, zc13, oc13, zc15, oc15, Int32.lt_irrefl, Nat.zero_lt_one, Rt_cons, Rt_void, isB_0, isB_1, isB_b, true_and, and_true, cats_nil, cats_int, cats_ref, and_self, if_true, if_false, ite_self, le_nlt, ite_not, Rt_nil, aT_11, aN_11, in7 ha7, cl10 (show a < 10000 by omega), e11]
          · have hm : ∀ k i, 29 ≤ k → exC (remF σ c x) 0 a b k i = σ k i := fun k i a => by unfold exC; rw [updK_ne (by omega), updK_ne (by omega), remF_ne (by omega) (by omega)]
            generalize exC (remF σ c x) 0 a b = σ1 at hm ⊢
            have m31 : σ1 31 0 1 = nI N := by rw [hm _ _ (by omega)]; exact l1
            have m18 : σ1 29 0 18 = nI c := by rw [hm _ _ (by omega)]; exact p5
            have m43 : σ1 43 0 = σ 43 0 := hm _ _ (by omega)
            have hc1 : (¬ a = b ∧ canE (σ1 43 0) a b) := by rw [m43]; exact ⟨hn, hc⟩
            simp only [aX8_swap_0, aX8_swap_1, aX8_swap_2, aX8_swap_5, aX8_swap_8, aX8_swap_9, aX8_swap_10, aX8_swap_13, aX8_swap_16, aX8_swap_17, aX8_swap_18, aX8_swap_21, aX8_swap_23, aX8_swap_24, aX8_swap_25, aX8_swap_28, aX8_swap_29, aX8_swap_30, aX8_swap_33, aX8_swap_36, aX8_swap_38, aX8_swap_39, aX8_swap_40, sp_mHouse q2 m31, sp_canSwap (k := 43) (by decide) (by decide) (by decide) ha7 hb7, Nat.zero_le, Nat.reduceLeDiff, Nat.reduceAdd, i1_0, rr_c3, zc9, oc9, zc10, oc10, zc11, oc11, zc12, oc12, zc13, oc13, zc15, oc15, Int32.lt_irrefl, Nat.zero_lt_one, Rt_cons, Rt_void, isB_0, isB_1, isB_b, true_and, and_true, cats_nil, cats_int, cats_ref, and_self, if_true, if_false, ite_self, le_nlt, ite_not, Rt_nil, bI_t hH, bI_t hK, bI_t hc1, bI_t hc1.2, hab, hn, not_false_eq_true]
            rw [sp_notes p1 m18]
            have n43 : notF σ1 c 43 0 = σ 43 0 := by rw [notF_ne (by decide) (by decide), m43]
            simp only [aX8_swap_43, aX8_swap_44, aX8_swap_47, aX8_swap_48, aX8_swap_49, aX8_swap_52, aX8_swap_53, aX8_swap_56, aX8_swap_58, aX8_swap_59, aX8_swap_60, aX8_swap_61, aX8_swap_62, aX8_swap_63, aX8_swap_64, aX8_swap_65, sp_swaps (k := 43) (by decide) (by decide) (by decide) ha7 hb7, Nat.zero_le, Nat.reduceLeDiff, Nat.reduceAdd, i1_0, rr_c3, zc9, oc9, zc10, oc10, zc11, oc11, zc12, oc12, zc13, oc13, zc15, oc15, Int32.lt_irrefl, Nat.zero_lt_one, Rt_cons, Rt_void, isB_0, isB_1, isB_b, true_and, and_true, cats_nil, cats_int, cats_ref, and_self, if_true, if_false, ite_self, le_nlt, ite_not, Rt_nil, aT_43, aN_43, cnt_43, n5, n64, nI_2, in99 (show 64 + 5 * a + 2 < 99 by omega), cl10 (show 64 + 5 * a + 2 < 10000 by omega), n43, updK_eq]
          · exact Rel_deed r1 r2 r3 r4 r5 r7 p1 p2 p6 (fun k i a b => by unfold exC; rw [updK_ne (by omega), updK_ne (by omega)]) (fun k i a => by unfold exC; rw [updK_ne (by omega), updK_ne (by omega), remF_ne (by omega) (by omega)]) (by unfold exC; rw [updK_ne (by omega), updK_ne (by omega), e 9 (by omega) (by omega)]) csE (WFw_ex r3.2.2.2 q2 ha hb)
        · refine ⟨σ, σ, -1000000003, ?_, ?_, hR⟩
          · simp only [aX7_swap_0, aX7_swap_1, aX7_swap_4, aX7_swap_7, aX7_swap_8, aX7_swap_11, aX7_swap_14, aX7_swap_15, aX7_swap_18, aX7_swap_21, aX7_swap_22, aX7_swap_25, aX7_swap_28, aX7_swap_29, aX7_swap_30, aX7_swap_33, aX7_swap_35, aX7_swap_36, aX7_swap_37, aX7_swap_40, aX7_swap_41, aX7_swap_42, aX7_swap_45, aX7_swap_48, aX7_swap_50, sp_cHouse hq k1, sp_canExchange (show 0 < 34 by decide) ha7 hb7 r3.2.2.1, Nat.zero_le, Nat.reduceLeDiff, Nat.reduceAdd, i1_0, rr_c3, zc9, oc9, zc10, oc10, zc11, oc11, zc12, oc12, zc13, oc13, zc15, oc15, Int32.lt_irrefl, Nat.zero_lt_one, Rt_cons, Rt_void, isB_0, isB_1, isB_b, true_and, and_true, cats_nil, cats_int, cats_ref, and_self, if_true, if_false, ite_self, le_nlt, ite_not, Rt_nil, bI_t hH, bI_t hK, bI_f hc, hab, hn]
          · simp only [aX8_swap_0, aX8_swap_1, aX8_swap_2, aX8_swap_5, aX8_swap_8, aX8_swap_9, aX8_swap_10, aX8_swap_13, aX8_swap_16, aX8_swap_17, aX8_swap_18, aX8_swap_21, aX8_swap_23, aX8_swap_24, aX8_swap_25, aX8_swap_28, aX8_swap_29, aX8_swap_30, aX8_swap_33, aX8_swap_36, aX8_swap_38, sp_mHouse q2 l1, sp_canSwap (k := 43) (by decide) (by decide) (by decide) ha7 hb7, Nat.zero_le, Nat.reduceLeDiff, Nat.reduceAdd, i1_0, rr_c3, zc9, oc9, zc10, oc10, zc11, oc11, zc12, oc12, zc13, oc13, zc15, oc15, Int32.lt_irrefl, Nat.zero_lt_one, Rt_cons, Rt_void, isB_0, isB_1, isB_b, true_and, and_true, cats_nil, cats_int, cats_ref, and_self, if_true, if_false, ite_self, le_nlt, ite_not, Rt_nil, bI_t hH, bI_t hK, bI_f (show ¬ (¬ a = b ∧ canE (σ 43 0) a b) from fun z => hc z.2), bI_f hc, hab, hn, not_false_eq_true]
    · refine ⟨σ, σ, -1000000001, ?_, ?_, hR⟩
      · simp only [aX7_swap_0, aX7_swap_1, aX7_swap_4, aX7_swap_7, aX7_swap_8, aX7_swap_11, aX7_swap_14, aX7_swap_15, aX7_swap_18, aX7_swap_21, aX7_swap_22, aX7_swap_25, aX7_swap_28, aX7_swap_29, aX7_swap_30, aX7_swap_33, aX7_swap_35, sp_cHouse hq k1, Nat.zero_le, Nat.reduceLeDiff, Nat.reduceAdd, i1_0, rr_c3, zc9, oc9, zc10, oc10, zc11, oc11, zc12, oc12, zc13, oc13, zc15, oc15, Int32.lt_irrefl, Nat.zero_lt_one, Rt_cons, Rt_void, isB_0, isB_1, isB_b, true_and, and_true, cats_nil, cats_int, cats_ref, and_self, if_true, if_false, ite_self, le_nlt, ite_not, Rt_nil, bI_t hH, bI_f hK]
      · simp only [aX8_swap_0, aX8_swap_1, aX8_swap_2, aX8_swap_5, aX8_swap_8, aX8_swap_9, aX8_swap_10, aX8_swap_13, aX8_swap_16, aX8_swap_17, aX8_swap_18, aX8_swap_21, aX8_swap_23, sp_mHouse q2 l1, Nat.zero_le, Nat.reduceLeDiff, Nat.reduceAdd, i1_0, rr_c3, zc9, oc9, zc10, oc10, zc11, oc11, zc12, oc12, zc13, oc13, zc15, oc15, Int32.lt_irrefl, Nat.zero_lt_one, Rt_cons, Rt_void, isB_0, isB_1, isB_b, true_and, and_true, cats_nil, cats_int, cats_ref, and_self, if_true, if_false, ite_self, le_nlt, ite_not, Rt_nil, bI_t hH, bI_f hK]
  · refine ⟨σ, σ, -1000000001, ?_, ?_, hR⟩
    · simp only [aX7_swap_0, aX7_swap_1, aX7_swap_4, aX7_swap_7, aX7_swap_8, aX7_swap_11, aX7_swap_14, aX7_swap_15, aX7_swap_18, aX7_swap_21, aX7_swap_22, aX7_swap_25, aX7_swap_28, aX7_swap_29, aX7_swap_30, aX7_swap_33, aX7_swap_35, sp_cHouse hq k1, Nat.zero_le, Nat.reduceLeDiff, Nat.reduceAdd, i1_0, rr_c3, zc9, oc9, zc10, oc10, zc11, oc11, zc12, oc12, zc13, oc13, zc15, oc15, Int32.lt_irrefl, Nat.zero_lt_one, Rt_cons, Rt_void, isB_0, isB_1, isB_b, true_and, and_true, cats_nil, cats_int, cats_ref, and_self, if_true, if_false, ite_self, le_nlt, ite_not, Rt_nil, bI_f hH]
    · simp only [aX8_swap_0, aX8_swap_1, aX8_swap_2, aX8_swap_5, aX8_swap_8, aX8_swap_9, aX8_swap_10, aX8_swap_13, aX8_swap_16, aX8_swap_17, aX8_swap_18, aX8_swap_21, aX8_swap_23, sp_mHouse q2 l1, Nat.zero_le, Nat.reduceLeDiff, Nat.reduceAdd, i1_0, rr_c3, zc9, oc9, zc10, oc10, zc11, oc11, zc12, oc12, zc13, oc13, zc15, oc15, Int32.lt_irrefl, Nat.zero_lt_one, Rt_cons, Rt_void, isB_0, isB_1, isB_b, true_and, and_true, cats_nil, cats_int, cats_ref, and_self, if_true, if_false, ite_self, le_nlt, ite_not, Rt_nil, bI_f hH]
end S50
