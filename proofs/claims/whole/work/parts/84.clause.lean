-- houses and gulls are read (written by a program of mine)
section S84
variable {σ : Mem} {fs : List Fm} {M : List va_E} {Q : List va_E → Option Value → Prop}
theorem KC_row {σ0 : Mem} {q c k j : Nat} {x : Int32} {X : Int32 × Int32 × Nat} (h : KC σ0 σ q c X) (hk : 3 ≤ k ∧ k ≤ 8) : KC σ0 (upS σ k q j x) q c X := by
  refine ⟨fun k' i a b => by rw [upS_ne (fun z => b ⟨by omega, by omega, z.2⟩)]; exact h.1 k' i a b, ?_⟩
  rw [upS_ne (by omega)]
  exact h.2
theorem KM_row {σ0 : Mem} {c k j : Nat} {x : Int32} {Y : Nat × Int32} (h : KM σ0 σ c Y) (hk : 37 ≤ k ∧ k ≤ 42) : KM σ0 (upS σ k 0 j x) c Y := by
  refine ⟨fun k' i a b => by rw [upS_ne (by omega)]; exact h.1 k' i a b, fun s a b => by rw [upS_ne (by omega)]; exact h.2.1 s a b, ?_⟩
  rw [upS_ne (by omega)]
  exact h.2.2
theorem sp_chouse {σ0 : Mem} {q c p N G : Nat} {fp : Int32} {T : Nat → Int32} (hl : LT c T) (ht : ∀ j, j < c → σ0 2 0 j = T j) (hq : q < 2) (h : KC σ0 σ q c (0, fp, p)) (hp : p < c) (e1 : σ 3 q 1 = nI N) (hN : N < 7) :
    ∃ τ, (∀ fs Q, Rn mX6_readHouse 0 [.ref (ad 1 0), .null] [] fs (enc σ) Q ↔ Rt fs (enc τ) none Q) ∧ KC σ0 τ q c (cEnd c T (cNum 0 99 c T (cNum 1 9 c T (0, fp, p + 1)))) ∧ τ 3 q = upd (σ 3 q) 1 (nI (N + 1)) ∧ τ 5 q = upd (σ 5 q) N (nu c T (sk c T (p + 1))).2 ∧ τ 6 q = upd (σ 6 q) N (nu c T (sk c T (cNum 1 9 c T (0, fp, p + 1)).2.2)).2 ∧ ∀ k i, ¬ k = 1 → ¬ (k = 3 ∧ i = q) → ¬ (k = 5 ∧ i = q) → ¬ (k = 6 ∧ i = q) → τ k i = σ k i := by
  have k3 : q < cnt 3 := hq
  have ka : q < cnt 5 := hq
  have kb : q < cnt 6 := hq
  have h1 : KC σ0 (upS σ 1 0 4 (nI (p + 1))) q c (0, fp, p + 1) := KC_at h (by omega)
  obtain ⟨τ1, a1, a2, a3⟩ := sp_cnum (lo := 1) (hi := 9) hl ht h1
  have h2 : KC σ0 (upS τ1 5 q N (nu c T (sk c T (p + 1))).2) q c (cNum 1 9 c T (0, fp, p + 1)) := KC_row a2 (by omega)
  obtain ⟨τ2, b1, b2, b3⟩ := sp_cnum (lo := 0) (hi := 99) hl ht h2
  generalize hX2 : cNum 1 9 c T (0, fp, p + 1) = X2 at *
  have h3 : KC σ0 (upS τ2 6 q N (nu c T (sk c T X2.2.2)).2) q c (cNum 0 99 c T X2) := KC_row b2 (by omega)
  have h4 : KC σ0 (upS (upS τ2 6 q N (nu c T (sk c T X2.2.2)).2) 3 q 1 (nI (N + 1))) q c (cNum 0 99 c T X2) := KC_row h3 (by omega)
  obtain ⟨τ3, d1, d2, d3⟩ := sp_cend hl ht h4
  refine ⟨τ3, fun fs Q => ?_, d2, ?_, ?_, ?_, fun k i c1 c2 c3 c4 => ?_⟩
  · have r0 := h.2.2.2.2.2.1
    have r1 := h1.2.2.2.2.2.1
    have r2 := h2.2.2.2.2.2.1
    have r3 := h3.2.2.2.2.2.1
    have e4 : σ 1 0 4 = nI p := h.2.2.2.2.1
    have v7 := in7 (show N < 7 by omega)
    have cl := cl10 (show N < 10000 by omega)
    have l7 : nI N < 7 := nI_lt (b := 7) hN (by decide)
    simp only [aX6_readHouse_0, aX6_readHouse_1, aX6_readHouse_4, aX6_readHouse_7, aX6_readHouse_8, aX6_readHouse_9, aX6_readHouse_11, aX6_readHouse_14, aX6_readHouse_15, aX6_readHouse_16, aX6_readHouse_17, aX6_readHouse_20, aX6_readHouse_23, aX6_readHouse_24, aX6_readHouse_25i, aX6_readHouse_25a, aX6_readHouse_26, aX6_readHouse_29, aX6_readHouse_30, aX6_readHouse_31, aX6_readHouse_34, aX6_readHouse_35, aX6_readHouse_38, aX6_readHouse_41, aX6_readHouse_42, aX6_readHouse_43, aX6_readHouse_44, Nat.zero_le, Nat.reduceLeDiff, Nat.reduceAdd, i1_0, rr_c3, zc9, oc9, zc10, oc10, zc11, oc11, zc12, oc12, zc13, oc13, zc15, oc15, Int32.lt_irrefl, Nat.zero_lt_one, Rt_cons, Rt_void, isB_0, isB_1, isB_b, true_and, and_true, cats_nil, cats_int, cats_ref, and_self, if_true, if_false, ite_self, le_nlt, ite_not, r0, k3, e1, l7, e4, nI_1, r1]
    rw [aX6_readHouse_46]
    simp only [cats_int, cats_nil, cats_ref, Nat.reduceLeDiff, true_and, Nat.reduceAdd, Nat.zero_le]
    rw [a1]
    simp only [aX6_readHouse_49, aX6_readHouse_50, aX6_readHouse_51, aX6_readHouse_54, aX6_readHouse_57, aX6_readHouse_58, aX6_readHouse_59, aX6_readHouse_60, Nat.zero_le, Nat.reduceLeDiff, Nat.reduceAdd, i1_0, rr_c3, zc9, oc9, zc10, oc10, zc11, oc11, zc12, oc12, zc13, oc13, zc15, oc15, Int32.lt_irrefl, Nat.zero_lt_one, Rt_cons, Rt_void, isB_0, isB_1, isB_b, true_and, and_true, cats_nil, cats_int, cats_ref, and_self, if_true, if_false, ite_self, le_nlt, ite_not, aT_5, aN_5, ka, v7, cl, r2, k3]
    rw [aX6_readHouse_62]
    simp only [cats_int, cats_nil, cats_ref, Nat.reduceLeDiff, true_and, Nat.reduceAdd, Nat.zero_le]
    rw [b1]
    simp only [aX6_readHouse_65, aX6_readHouse_66, aX6_readHouse_67, aX6_readHouse_70, aX6_readHouse_71, aX6_readHouse_72, aX6_readHouse_73, aX6_readHouse_76, Nat.zero_le, Nat.reduceLeDiff, Nat.reduceAdd, i1_0, rr_c3, zc9, oc9, zc10, oc10, zc11, oc11, zc12, oc12, zc13, oc13, zc15, oc15, Int32.lt_irrefl, Nat.zero_lt_one, Rt_cons, Rt_void, isB_0, isB_1, isB_b, true_and, and_true, cats_nil, cats_int, cats_ref, and_self, if_true, if_false, ite_self, le_nlt, ite_not, aT_6, aN_6, kb, v7, cl, r3, k3, nI_1]
    rw [aX6_readHouse_77]
    simp only [cats_int, cats_nil, cats_ref, Nat.reduceLeDiff, true_and, Nat.reduceAdd, Nat.zero_le]
    rw [d1]
    simp only [aX6_readHouse_80, Nat.zero_le, Nat.reduceLeDiff, Nat.reduceAdd, i1_0, rr_c3, zc9, oc9, zc10, oc10, zc11, oc11, zc12, oc12, zc13, oc13, zc15, oc15, Int32.lt_irrefl, Nat.zero_lt_one, Rt_cons, Rt_void, isB_0, isB_1, isB_b, true_and, and_true, cats_nil, cats_int, cats_ref, and_self, if_true, if_false, ite_self, le_nlt, ite_not]
  · rw [d3 3 q (by decide), upS_eq, upS_ne (by omega), b3 3 q (by decide), upS_ne (by omega), a3 3 q (by decide), upS_ne (by omega)]
  · rw [d3 5 q (by decide), upS_ne (by omega), upS_ne (by omega), b3 5 q (by decide), upS_eq, a3 5 q (by decide), upS_ne (by omega)]
  · rw [d3 6 q (by decide), upS_ne (by omega), upS_eq, b3 6 q (by decide), upS_ne (by omega), a3 6 q (by decide), upS_ne (by omega)]
  · rw [d3 k i c1, upS_ne (by omega), upS_ne (by omega), b3 k i c1, upS_ne (by omega), a3 k i c1, upS_ne (by omega)]
theorem sp_cgull {σ0 : Mem} {q c p N G : Nat} {fp : Int32} {T : Nat → Int32} (hl : LT c T) (ht : ∀ j, j < c → σ0 2 0 j = T j) (hq : q < 2) (h : KC σ0 σ q c (0, fp, p)) (hp : p < c) (e1 : σ 3 q 2 = nI G) (e2 : σ 3 q 1 = nI N) (hG : G < N) (hN : N ≤ 7) :
    ∃ τ, (∀ fs Q, Rn mX6_readGull 0 [.ref (ad 1 0), .null] [] fs (enc σ) Q ↔ Rt fs (enc τ) none Q) ∧ KC σ0 τ q c (cEnd c T (cNum 1 99 c T (cNum 0 3 c T (0, fp, p + 1)))) ∧ τ 3 q = upd (σ 3 q) 2 (nI (G + 1)) ∧ τ 7 q = upd (σ 7 q) G (nu c T (sk c T (p + 1))).2 ∧ τ 8 q = upd (σ 8 q) G (nu c T (sk c T (cNum 0 3 c T (0, fp, p + 1)).2.2)).2 ∧ ∀ k i, ¬ k = 1 → ¬ (k = 3 ∧ i = q) → ¬ (k = 7 ∧ i = q) → ¬ (k = 8 ∧ i = q) → τ k i = σ k i := by
  have k3 : q < cnt 3 := hq
  have ka : q < cnt 7 := hq
  have kb : q < cnt 8 := hq
  have h1 : KC σ0 (upS σ 1 0 4 (nI (p + 1))) q c (0, fp, p + 1) := KC_at h (by omega)
  obtain ⟨τ1, a1, a2, a3⟩ := sp_cnum (lo := 0) (hi := 3) hl ht h1
  have h2 : KC σ0 (upS τ1 7 q G (nu c T (sk c T (p + 1))).2) q c (cNum 0 3 c T (0, fp, p + 1)) := KC_row a2 (by omega)
  obtain ⟨τ2, b1, b2, b3⟩ := sp_cnum (lo := 1) (hi := 99) hl ht h2
  generalize hX2 : cNum 0 3 c T (0, fp, p + 1) = X2 at *
  have h3 : KC σ0 (upS τ2 8 q G (nu c T (sk c T X2.2.2)).2) q c (cNum 1 99 c T X2) := KC_row b2 (by omega)
  have h4 : KC σ0 (upS (upS τ2 8 q G (nu c T (sk c T X2.2.2)).2) 3 q 2 (nI (G + 1))) q c (cNum 1 99 c T X2) := KC_row h3 (by omega)
  obtain ⟨τ3, d1, d2, d3⟩ := sp_cend hl ht h4
  refine ⟨τ3, fun fs Q => ?_, d2, ?_, ?_, ?_, fun k i c1 c2 c3 c4 => ?_⟩
  · have r0 := h.2.2.2.2.2.1
    have r1 := h1.2.2.2.2.2.1
    have r2 := h2.2.2.2.2.2.1
    have r3 := h3.2.2.2.2.2.1
    have e4 : σ 1 0 4 = nI p := h.2.2.2.2.1
    have v7 := in7 (show G < 7 by omega)
    have cl := cl10 (show G < 10000 by omega)
    have l7 : nI G < 7 := nI_lt (b := 7) (by omega) (by decide)
    have lN : nI G < nI N := nI_lt hG (by omega)
    simp only [aX6_readGull_0, aX6_readGull_1, aX6_readGull_4, aX6_readGull_7, aX6_readGull_8, aX6_readGull_9, aX6_readGull_10, aX6_readGull_13, aX6_readGull_16, aX6_readGull_19, aX6_readGull_20, aX6_readGull_22, aX6_readGull_25, aX6_readGull_26, aX6_readGull_27, aX6_readGull_28, aX6_readGull_31, aX6_readGull_34, aX6_readGull_35, aX6_readGull_36i, aX6_readGull_36a, aX6_readGull_37, aX6_readGull_40, aX6_readGull_41, aX6_readGull_42, aX6_readGull_45, aX6_readGull_46, aX6_readGull_49, aX6_readGull_52, aX6_readGull_53, aX6_readGull_54, aX6_readGull_55, Nat.zero_le, Nat.reduceLeDiff, Nat.reduceAdd, i1_0, rr_c3, zc9, oc9, zc10, oc10, zc11, oc11, zc12, oc12, zc13, oc13, zc15, oc15, Int32.lt_irrefl, Nat.zero_lt_one, Rt_cons, Rt_void, isB_0, isB_1, isB_b, true_and, and_true, cats_nil, cats_int, cats_ref, and_self, if_true, if_false, ite_self, le_nlt, ite_not, r0, k3, e1, e2, l7, lN, e4, nI_1, r1]
    rw [aX6_readGull_56]
    simp only [cats_int, cats_nil, cats_ref, Nat.reduceLeDiff, true_and, Nat.reduceAdd, Nat.zero_le]
    rw [a1]
    simp only [aX6_readGull_59, aX6_readGull_60, aX6_readGull_61, aX6_readGull_64, aX6_readGull_67, aX6_readGull_68, aX6_readGull_69, aX6_readGull_70, Nat.zero_le, Nat.reduceLeDiff, Nat.reduceAdd, i1_0, rr_c3, zc9, oc9, zc10, oc10, zc11, oc11, zc12, oc12, zc13, oc13, zc15, oc15, Int32.lt_irrefl, Nat.zero_lt_one, Rt_cons, Rt_void, isB_0, isB_1, isB_b, true_and, and_true, cats_nil, cats_int, cats_ref, and_self, if_true, if_false, ite_self, le_nlt, ite_not, aT_7, aN_7, ka, v7, cl, r2, k3]
    rw [aX6_readGull_72]
    simp only [cats_int, cats_nil, cats_ref, Nat.reduceLeDiff, true_and, Nat.reduceAdd, Nat.zero_le]
    rw [b1]
    simp only [aX6_readGull_75, aX6_readGull_76, aX6_readGull_77, aX6_readGull_80, aX6_readGull_81, aX6_readGull_82, aX6_readGull_83, aX6_readGull_86, Nat.zero_le, Nat.reduceLeDiff, Nat.reduceAdd, i1_0, rr_c3, zc9, oc9, zc10, oc10, zc11, oc11, zc12, oc12, zc13, oc13, zc15, oc15, Int32.lt_irrefl, Nat.zero_lt_one, Rt_cons, Rt_void, isB_0, isB_1, isB_b, true_and, and_true, cats_nil, cats_int, cats_ref, and_self, if_true, if_false, ite_self, le_nlt, ite_not, aT_8, aN_8, kb, v7, cl, r3, k3, nI_1]
    rw [aX6_readGull_87]
    simp only [cats_int, cats_nil, cats_ref, Nat.reduceLeDiff, true_and, Nat.reduceAdd, Nat.zero_le]
    rw [d1]
    simp only [aX6_readGull_90, Nat.zero_le, Nat.reduceLeDiff, Nat.reduceAdd, i1_0, rr_c3, zc9, oc9, zc10, oc10, zc11, oc11, zc12, oc12, zc13, oc13, zc15, oc15, Int32.lt_irrefl, Nat.zero_lt_one, Rt_cons, Rt_void, isB_0, isB_1, isB_b, true_and, and_true, cats_nil, cats_int, cats_ref, and_self, if_true, if_false, ite_self, le_nlt, ite_not]
  · rw [d3 3 q (by decide), upS_eq, upS_ne (by omega), b3 3 q (by decide), upS_ne (by omega), a3 3 q (by decide), upS_ne (by omega)]
  · rw [d3 7 q (by decide), upS_ne (by omega), upS_ne (by omega), b3 7 q (by decide), upS_eq, a3 7 q (by decide), upS_ne (by omega)]
  · rw [d3 8 q (by decide), upS_ne (by omega), upS_eq, b3 8 q (by decide), upS_ne (by omega), a3 8 q (by decide), upS_ne (by omega)]
  · rw [d3 k i c1, upS_ne (by omega), upS_ne (by omega), b3 k i c1, upS_ne (by omega), a3 k i c1, upS_ne (by omega)]
theorem sp_mhouse {σ0 : Mem} {c p N G : Nat} {T : Nat → Int32} (hl : LT c T) (ht : LY σ0 c T) (h : KM σ0 σ c (p, 0)) (hp : p < c) (e1 : σ 37 0 1 = nI N) (hN : N < 7) :
    ∃ τ, (∀ fs Q, Rn mX8_readsHouse 0 [.ref (ad 29 0), .null] [] fs (enc σ) Q ↔ Rt fs (enc τ) none Q) ∧ KM σ0 τ c (rEnd c T (rNum 0 99 c T (rNum 1 9 c T (p + 1, 0)))) ∧ τ 37 0 = upd (σ 37 0) 1 (nI (N + 1)) ∧ τ 39 0 = upd (σ 39 0) N (rVal 1 9 c T (p + 1, 0)) ∧ τ 40 0 = upd (σ 40 0) N (rVal 0 99 c T (rNum 1 9 c T (p + 1, 0))) ∧ ∀ k i, ¬ k = 29 → ¬ k = 37 → ¬ k = 39 → ¬ k = 40 → τ k i = σ k i := by
  have h1 : KM σ0 (upS σ 29 0 27 (nI (p + 1))) c (p + 1, 0) := KM_at h (by omega)
  obtain ⟨τ1, a1, a2, a3⟩ := sp_mnum (lo := 1) (hi := 9) hl ht h1
  have h2 : KM σ0 (upS τ1 39 0 N (rVal 1 9 c T (p + 1, 0))) c (rNum 1 9 c T (p + 1, 0)) := KM_row a2 (by omega)
  obtain ⟨τ2, b1, b2, b3⟩ := sp_mnum (lo := 0) (hi := 99) hl ht h2
  generalize hY2 : rNum 1 9 c T (p + 1, 0) = Y2 at *
  generalize hw1 : rVal 1 9 c T (p + 1, 0) = w1 at *
  have h3 : KM σ0 (upS τ2 40 0 N (rVal 0 99 c T Y2)) c (rNum 0 99 c T Y2) := KM_row b2 (by omega)
  obtain ⟨τ3, d1, d2, d3⟩ := sp_mend hl ht h3
  have e37 : τ3 37 0 = σ 37 0 := by rw [d3 37 0 (by decide), upS_ne (by omega), b3 37 0 (by decide), upS_ne (by omega), a3 37 0 (by decide), upS_ne (by omega)]
  refine ⟨upS τ3 37 0 1 (nI (N + 1)), fun fs Q => ?_, KM_row d2 (by omega), ?_, ?_, ?_, fun k i c1 c2 c3 c4 => ?_⟩
  · have e27 : σ 29 0 27 = nI p := h.2.2.1
    have v7 := in7 (show N < 7 by omega)
    have cl := cl10 (show N < 10000 by omega)
    have l7 : ¬ nI N = 7 := fun z => by
      have := (nI_eq (b := 7) (by omega) (by decide)).mp z
      omega
    simp only [aX8_readsHouse_0, aX8_readsHouse_1, aX8_readsHouse_4, aX8_readsHouse_5, aX8_readsHouse_6, aX8_readsHouse_7, aX8_readsHouse_8, aX8_readsHouse_10, aX8_readsHouse_13, aX8_readsHouse_14, aX8_readsHouse_15, aX8_readsHouse_18, aX8_readsHouse_19, aX8_readsHouse_20i, aX8_readsHouse_20a, aX8_readsHouse_21, aX8_readsHouse_24, aX8_readsHouse_25, aX8_readsHouse_26, aX8_readsHouse_29, aX8_readsHouse_30, aX8_readsHouse_33, aX8_readsHouse_34, aX8_readsHouse_35, aX8_readsHouse_36, Nat.zero_le, Nat.reduceLeDiff, Nat.reduceAdd, i1_0, rr_c3, zc9, oc9, zc10, oc10, zc11, oc11, zc12, oc12, zc13, oc13, zc15, oc15, Int32.lt_irrefl, Nat.zero_lt_one, Rt_cons, Rt_void, isB_0, isB_1, isB_b, true_and, and_true, cats_nil, cats_int, cats_ref, and_self, if_true, if_false, ite_self, le_nlt, ite_not, aT_37, aN_37, cnt_37, v3.2.1, c1, e1, l7, not_false_eq_true, e27, nI_1]
    rw [aX8_readsHouse_38]
    simp only [cats_int, cats_nil, cats_ref, Nat.reduceLeDiff, true_and, Nat.reduceAdd, Nat.zero_le]
    rw [a1]
    simp only [aX8_readsHouse_41, aX8_readsHouse_42, aX8_readsHouse_43, aX8_readsHouse_46, aX8_readsHouse_47, aX8_readsHouse_48, aX8_readsHouse_49, Nat.zero_le, Nat.reduceLeDiff, Nat.reduceAdd, i1_0, rr_c3, zc9, oc9, zc10, oc10, zc11, oc11, zc12, oc12, zc13, oc13, zc15, oc15, Int32.lt_irrefl, Nat.zero_lt_one, Rt_cons, Rt_void, isB_0, isB_1, isB_b, true_and, and_true, cats_nil, cats_int, cats_ref, and_self, if_true, if_false, ite_self, le_nlt, ite_not, aT_39, aN_39, cnt_39, v7, cl]
    rw [aX8_readsHouse_51]
    simp only [cats_int, cats_nil, cats_ref, Nat.reduceLeDiff, true_and, Nat.reduceAdd, Nat.zero_le]
    rw [b1]
    simp only [aX8_readsHouse_54, aX8_readsHouse_55, aX8_readsHouse_56, Nat.zero_le, Nat.reduceLeDiff, Nat.reduceAdd, i1_0, rr_c3, zc9, oc9, zc10, oc10, zc11, oc11, zc12, oc12, zc13, oc13, zc15, oc15, Int32.lt_irrefl, Nat.zero_lt_one, Rt_cons, Rt_void, isB_0, isB_1, isB_b, true_and, and_true, cats_nil, cats_int, cats_ref, and_self, if_true, if_false, ite_self, le_nlt, ite_not, aT_40, aN_40, cnt_40, v7, cl]
    rw [aX8_readsHouse_58]
    simp only [cats_int, cats_nil, cats_ref, Nat.reduceLeDiff, true_and, Nat.reduceAdd, Nat.zero_le]
    rw [d1]
    simp only [aX8_readsHouse_61, aX8_readsHouse_62, aX8_readsHouse_65, aX8_readsHouse_66, aX8_readsHouse_67, aX8_readsHouse_68, aX8_readsHouse_69, aX8_readsHouse_70, aX8_readsHouse_71, Nat.zero_le, Nat.reduceLeDiff, Nat.reduceAdd, i1_0, rr_c3, zc9, oc9, zc10, oc10, zc11, oc11, zc12, oc12, zc13, oc13, zc15, oc15, Int32.lt_irrefl, Nat.zero_lt_one, Rt_cons, Rt_void, isB_0, isB_1, isB_b, true_and, and_true, cats_nil, cats_int, cats_ref, and_self, if_true, if_false, ite_self, le_nlt, ite_not, aT_37, aN_37, cnt_37, v3.2.1, c1, e37, e1, nI_1]
  · rw [upS_eq, e37]
  · rw [upS_ne (by omega), d3 39 0 (by decide), upS_ne (by omega), b3 39 0 (by decide), upS_eq, a3 39 0 (by decide), upS_ne (by omega)]
  · rw [upS_ne (by omega), d3 40 0 (by decide), upS_eq, b3 40 0 (by decide), upS_ne (by omega), a3 40 0 (by decide), upS_ne (by omega)]
  · rw [upS_ne (by omega), d3 k i c1, upS_ne (by omega), b3 k i c1, upS_ne (by omega), a3 k i c1, upS_ne (by omega)]
theorem sp_mgull {σ0 : Mem} {c p N G : Nat} {T : Nat → Int32} (hl : LT c T) (ht : LY σ0 c T) (h : KM σ0 σ c (p, 0)) (hp : p < c) (e1 : σ 37 0 2 = nI G) (e2 : σ 37 0 1 = nI N) (hG : G < N) (hN : N ≤ 7) :
    ∃ τ, (∀ fs Q, Rn mX8_readsGull 0 [.ref (ad 29 0), .null] [] fs (enc σ) Q ↔ Rt fs (enc τ) none Q) ∧ KM σ0 τ c (rEnd c T (rNum 1 99 c T (rNum 0 3 c T (p + 1, 0)))) ∧ τ 37 0 = upd (σ 37 0) 2 (nI (G + 1)) ∧ τ 41 0 = upd (σ 41 0) G (rVal 0 3 c T (p + 1, 0)) ∧ τ 42 0 = upd (σ 42 0) G (rVal 1 99 c T (rNum 0 3 c T (p + 1, 0))) ∧ ∀ k i, ¬ k = 29 → ¬ k = 37 → ¬ k = 41 → ¬ k = 42 → τ k i = σ k i := by
  have h1 : KM σ0 (upS σ 29 0 27 (nI (p + 1))) c (p + 1, 0) := KM_at h (by omega)
  obtain ⟨τ1, a1, a2, a3⟩ := sp_mnum (lo := 0) (hi := 3) hl ht h1
  have h2 : KM σ0 (upS τ1 41 0 G (rVal 0 3 c T (p + 1, 0))) c (rNum 0 3 c T (p + 1, 0)) := KM_row a2 (by omega)
  obtain ⟨τ2, b1, b2, b3⟩ := sp_mnum (lo := 1) (hi := 99) hl ht h2
  generalize hY2 : rNum 0 3 c T (p + 1, 0) = Y2 at *
  generalize hw1 : rVal 0 3 c T (p + 1, 0) = w1 at *
  have h3 : KM σ0 (upS τ2 42 0 G (rVal 1 99 c T Y2)) c (rNum 1 99 c T Y2) := KM_row b2 (by omega)
  obtain ⟨τ3, d1, d2, d3⟩ := sp_mend hl ht h3
  have e37 : τ3 37 0 = σ 37 0 := by rw [d3 37 0 (by decide), upS_ne (by omega), b3 37 0 (by decide), upS_ne (by omega), a3 37 0 (by decide), upS_ne (by omega)]
  refine ⟨upS τ3 37 0 2 (nI (G + 1)), fun fs Q => ?_, KM_row d2 (by omega), ?_, ?_, ?_, fun k i c1 c2 c3 c4 => ?_⟩
  · have e27 : σ 29 0 27 = nI p := h.2.2.1
    have v7 := in7 (show G < 7 by omega)
    have cl := cl10 (show G < 10000 by omega)
    have l7 : ¬ nI G = nI N := fun z => by
      have := (nI_eq (by omega) (by omega)).mp z
      omega
    simp only [aX8_readsGull_0, aX8_readsGull_1, aX8_readsGull_4, aX8_readsGull_5, aX8_readsGull_6, aX8_readsGull_7, aX8_readsGull_8, aX8_readsGull_9, aX8_readsGull_12, aX8_readsGull_13, aX8_readsGull_14, aX8_readsGull_17, aX8_readsGull_18, aX8_readsGull_19, aX8_readsGull_22, aX8_readsGull_23, aX8_readsGull_24i, aX8_readsGull_24a, aX8_readsGull_25, aX8_readsGull_28, aX8_readsGull_29, aX8_readsGull_30, aX8_readsGull_33, aX8_readsGull_34, aX8_readsGull_37, aX8_readsGull_38, aX8_readsGull_39, aX8_readsGull_40, Nat.zero_le, Nat.reduceLeDiff, Nat.reduceAdd, i1_0, rr_c3, zc9, oc9, zc10, oc10, zc11, oc11, zc12, oc12, zc13, oc13, zc15, oc15, Int32.lt_irrefl, Nat.zero_lt_one, Rt_cons, Rt_void, isB_0, isB_1, isB_b, true_and, and_true, cats_nil, cats_int, cats_ref, and_self, if_true, if_false, ite_self, le_nlt, ite_not, aT_37, aN_37, cnt_37, v3.2.1, v3.2.2, c1, c2, e1, e2, l7, not_false_eq_true, e27, nI_1]
    rw [aX8_readsGull_41]
    simp only [cats_int, cats_nil, cats_ref, Nat.reduceLeDiff, true_and, Nat.reduceAdd, Nat.zero_le]
    rw [a1]
    simp only [aX8_readsGull_44, aX8_readsGull_45, aX8_readsGull_46, aX8_readsGull_49, aX8_readsGull_50, aX8_readsGull_51, aX8_readsGull_52, Nat.zero_le, Nat.reduceLeDiff, Nat.reduceAdd, i1_0, rr_c3, zc9, oc9, zc10, oc10, zc11, oc11, zc12, oc12, zc13, oc13, zc15, oc15, Int32.lt_irrefl, Nat.zero_lt_one, Rt_cons, Rt_void, isB_0, isB_1, isB_b, true_and, and_true, cats_nil, cats_int, cats_ref, and_self, if_true, if_false, ite_self, le_nlt, ite_not, aT_41, aN_41, cnt_41, v7, cl]
    rw [aX8_readsGull_54]
    simp only [cats_int, cats_nil, cats_ref, Nat.reduceLeDiff, true_and, Nat.reduceAdd, Nat.zero_le]
    rw [b1]
    simp only [aX8_readsGull_57, aX8_readsGull_58, aX8_readsGull_59, Nat.zero_le, Nat.reduceLeDiff, Nat.reduceAdd, i1_0, rr_c3, zc9, oc9, zc10, oc10, zc11, oc11, zc12, oc12, zc13, oc13, zc15, oc15, Int32.lt_irrefl, Nat.zero_lt_one, Rt_cons, Rt_void, isB_0, isB_1, isB_b, true_and, and_true, cats_nil, cats_int, cats_ref, and_self, if_true, if_false, ite_self, le_nlt, ite_not, aT_42, aN_42, cnt_42, v7, cl]
    rw [aX8_readsGull_61]
    simp only [cats_int, cats_nil, cats_ref, Nat.reduceLeDiff, true_and, Nat.reduceAdd, Nat.zero_le]
    rw [d1]
    simp only [aX8_readsGull_64, aX8_readsGull_65, aX8_readsGull_68, aX8_readsGull_69, aX8_readsGull_70, aX8_readsGull_71, aX8_readsGull_72, aX8_readsGull_73, aX8_readsGull_74, Nat.zero_le, Nat.reduceLeDiff, Nat.reduceAdd, i1_0, rr_c3, zc9, oc9, zc10, oc10, zc11, oc11, zc12, oc12, zc13, oc13, zc15, oc15, Int32.lt_irrefl, Nat.zero_lt_one, Rt_cons, Rt_void, isB_0, isB_1, isB_b, true_and, and_true, cats_nil, cats_int, cats_ref, and_self, if_true, if_false, ite_self, le_nlt, ite_not, aT_37, aN_37, cnt_37, v3.2.2, c2, e37, e1, nI_1]
  · rw [upS_eq, e37]
  · rw [upS_ne (by omega), d3 41 0 (by decide), upS_ne (by omega), b3 41 0 (by decide), upS_eq, a3 41 0 (by decide), upS_ne (by omega)]
  · rw [upS_ne (by omega), d3 42 0 (by decide), upS_eq, b3 42 0 (by decide), upS_ne (by omega), a3 42 0 (by decide), upS_ne (by omega)]
  · rw [upS_ne (by omega), d3 k i c1, upS_ne (by omega), b3 k i c1, upS_ne (by omega), a3 k i c1, upS_ne (by omega)]
end S84
