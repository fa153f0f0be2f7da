-- row, whole
/-- a text with a fault was read: nothing else is changed -/
def TxC (σ τ : Mem) : Prop := TxtR τ ∧ (∀ k i, ¬ k = 1 → ¬ (3 ≤ k ∧ k ≤ 8 ∧ i = rr (σ 0 0 1)) → ¬ k = 29 → ¬ (37 ≤ k ∧ k ≤ 42) → τ k i = σ k i) ∧ ∀ s, ¬ s = 1 → ¬ s = 2 → ¬ s = 27 → ¬ s = 28 → τ 29 0 s = σ 29 0 s
section S89
variable {σ : Mem} {fs : List Fm} {M : List va_E} {Q : List va_E → Option Value → Prop}
/-- the reference wipes its drafts -/
theorem sp_mwipe {c : Nat} {T : F1} : ∃ τ, (∀ fs Q, Rn mX8_row 0 [.ref (ad 29 0), .null] [] fs (enc σ) Q ↔ Rn mX8_row 93 [.ref (ad 29 0), .int (nI 7)] [] fs (enc τ) Q) ∧ KM σ τ c (0, 0) ∧ DM τ 0 0 0 T T T T T := by
  obtain ⟨σ0, e0⟩ : ∃ σ0, σ0 = upS (upS σ 29 0 27 0) 29 0 28 0 := ⟨_, rfl⟩
  obtain ⟨τ1, a1, a2, a3⟩ := lp_z37 3 0 σ0 (by omega) (fun j hj => absurd hj (Nat.not_lt_zero _))
  obtain ⟨τ2, b1, b2, b3⟩ := lp_z38 12 0 τ1 (by omega) (fun j hj => absurd hj (Nat.not_lt_zero _))
  obtain ⟨τ3, d1, d2, d3⟩ := lp_z39 7 0 τ2 (by omega) (fun j hj => absurd hj (Nat.not_lt_zero _))
  have f0 : ∀ k i, ¬ k = 29 → σ0 k i = σ k i := fun k i h => by rw [e0, upS_ne (by omega), upS_ne (by omega)]
  have f29 : σ0 29 0 = upd (upd (σ 29 0) 27 0) 28 0 := by rw [e0]; simp only [upS_eq]
  have fr : ∀ k i, ¬ (37 ≤ k ∧ k ≤ 42) → τ3 k i = σ0 k i := fun k i h => by rw [d2 k i (by omega) (by omega) (by omega) (by omega), b2 k i (by omega), a2 k i (by omega)]
  refine ⟨τ3, fun fs Q => ?_, ⟨fun k i h1 h2 => by rw [fr k i h2, f0 k i h1], fun s h1 h2 => by rw [fr 29 0 (by omega), f29, upd_ne h2, upd_ne h1], by rw [fr 29 0 (by omega), f29]; rfl, by rw [fr 29 0 (by omega), f29]; rfl, Nat.zero_le _⟩, ⟨?_, fun j hj => absurd hj (Nat.not_lt_zero _), fun j hj => absurd hj (Nat.not_lt_zero _), fun j _ hj => (d3 j hj).2.1, fun j hj => absurd hj (Nat.not_lt_zero _)⟩⟩
  · have a1' := a1 fs Q
    have b1' := b1 fs Q
    have d1' := d1 fs Q
    rw [nI_0] at a1' b1' d1'
    rw [e0] at a1'
    simp only [aX8_row_0, aX8_row_1, aX8_row_2, aX8_row_5, aX8_row_6, aX8_row_7, aX8_row_10, aX8_row_11, Nat.zero_le, Nat.reduceLeDiff, Nat.reduceAdd, i1_0, rr_c3, zc9, oc9, zc10, oc10, zc11, oc11, zc12, oc12, zc13, oc13, zc15, oc15, Int32.lt_irrefl, Nat.zero_lt_one, Rt_cons, Rt_void, isB_0, isB_1, isB_b, true_and, and_true, cats_nil, cats_int, cats_ref, and_self, if_true, if_false, ite_self, le_nlt, ite_not]
    rw [a1']
    simp only [aX8_row_30, aX8_row_31, Nat.zero_le, Nat.reduceLeDiff, Nat.reduceAdd, i1_0, rr_c3, zc9, oc9, zc10, oc10, zc11, oc11, zc12, oc12, zc13, oc13, zc15, oc15, Int32.lt_irrefl, Nat.zero_lt_one, Rt_cons, Rt_void, isB_0, isB_1, isB_b, true_and, and_true, cats_nil, cats_int, cats_ref, and_self, if_true, if_false, ite_self, le_nlt, ite_not]
    rw [b1']
    simp only [aX8_row_51, aX8_row_52, Nat.zero_le, Nat.reduceLeDiff, Nat.reduceAdd, i1_0, rr_c3, zc9, oc9, zc10, oc10, zc11, oc11, zc12, oc12, zc13, oc13, zc15, oc15, Int32.lt_irrefl, Nat.zero_lt_one, Rt_cons, Rt_void, isB_0, isB_1, isB_b, true_and, and_true, cats_nil, cats_int, cats_ref, and_self, if_true, if_false, ite_self, le_nlt, ite_not]
    rw [d1']
  · have e37 : τ3 37 0 = τ1 37 0 := by rw [d2 37 0 (by decide) (by decide) (by decide) (by decide), b2 37 0 (by decide)]
    rw [e37, a3 0 (by omega), a3 1 (by omega), a3 2 (by omega)]
    exact ⟨rfl, rfl, rfl⟩
theorem VD_0 {T : F1} : VD 0 0 0 T T T T T := ⟨by omega, by omega, by omega, fun _ => rfl, fun j hj => absurd hj (Nat.not_lt_zero _), fun j hj => absurd hj (Nat.not_lt_zero _), fun j hj => absurd hj (Nat.not_lt_zero _)⟩
theorem row_gen (hT : TxtR σ) (hs : SeedR σ) (hne : ¬ rr (σ 0 0 1) = rr (σ 9 0 0)) (hx : ∃ x : Nat, x < 30 ∧ σ 16 0 1 = nI x) :
    ∃ (σ1 σ2 : Mem) (r : Int32), Rn mX7_row 0 [.ref (ad 0 0), .null, .null, .null] [] [] (enc σ) (fun X v => X = enc σ1 ∧ v = some (.int r)) ∧ Rn mX8_row 0 [.ref (ad 29 0), .null] [] [] (enc σ1) (fun X v => X = enc σ2 ∧ v = some (.int r)) ∧ (Rel σ2 ∨ TxC σ σ2) := by
  obtain ⟨⟨c, u1, u2, u3, u4⟩, u5⟩ := hT
  obtain ⟨T, hTT⟩ : ∃ T, T = σ 30 0 := ⟨_, rfl⟩
  have hl : LT c T := ⟨u1, fun j hj => by rw [hTT]; exact (u4 j hj).2⟩
  have ht : ∀ j, j < c → σ 2 0 j = T j := fun j hj => by rw [hTT]; exact (u4 j hj).1
  obtain ⟨q, hq0⟩ : ∃ q, q = rr (σ 0 0 1) := ⟨_, rfl⟩
  have hq : q < 2 := by rw [hq0]; exact rr_lt _
  obtain ⟨X, Y, C, N, G, ct, ow, fd, kd, pt, m1, m2, m3, m4⟩ := reads_lp hl c (sk c T 0) 0 0 0 (-1) T T T T T (by omega) (sk_le (Nat.zero_le _)) VD_0
  obtain ⟨s1, k1, d1, run⟩ := sp_readInto hl hq ht u2
  obtain ⟨τ, l2, a1, a2, a3⟩ := m3 σ s1 q 0 (.ref (ad 3 q)) hq ht k1 d1 (by omega)
  have R := run τ l2 a1
  have x3 : τ 1 0 3 = X.1 := a2.2.2.1
  rw [x3] at R
  -- the reference, up to the end of its reading, on any memory with the same text
  have Mr : ∀ μ : Mem, LY μ c T → ∃ μ4, (∀ fs Q, Rn mX8_row 0 [.ref (ad 29 0), .null] [] fs (enc μ) Q ↔ Rn mX8_row 101 [.ref (ad 29 0), .int (nI 7)] [] fs (enc μ4) Q) ∧ KM μ μ4 c Y ∧ (X.1 = 0 → DM μ4 C N G ct ow fd kd pt) := by
    intro μ hμ
    obtain ⟨μ1, w1, w2, w3⟩ := sp_mwipe (σ := μ) (c := c) (T := T)
    obtain ⟨μ2, y1, y2, y3⟩ := sp_mskR hl hμ w2
    have y2' : KM μ μ2 c (sk c T 0, 0) := y2
    obtain ⟨μ3, z1, z2, z3⟩ := m4 μ μ2 hμ y2' (DM_29 w3 y3)
    refine ⟨μ3, fun fs Q => ?_, z2, z3⟩
    rw [w1]
    simp only [aX8_row_93, Nat.zero_le, Nat.reduceLeDiff, Nat.reduceAdd, i1_0, rr_c3, zc9, oc9, zc10, oc10, zc11, oc11, zc12, oc12, zc13, oc13, zc15, oc15, Int32.lt_irrefl, Nat.zero_lt_one, Rt_cons, Rt_void, isB_0, isB_1, isB_b, true_and, and_true, cats_nil, cats_int, cats_ref, and_self, if_true, if_false, ite_self, le_nlt, ite_not]
    rw [aX8_row_94, y1]
    simp only [aX8_row_97, Nat.zero_le, Nat.reduceLeDiff, Nat.reduceAdd, i1_0, rr_c3, zc9, oc9, zc10, oc10, zc11, oc11, zc12, oc12, zc13, oc13, zc15, oc15, Int32.lt_irrefl, Nat.zero_lt_one, Rt_cons, Rt_void, isB_0, isB_1, isB_b, true_and, and_true, cats_nil, cats_int, cats_ref, and_self, if_true, if_false, ite_self, le_nlt, ite_not]
    rw [aX8_row_98, z1]
    simp only [Nat.zero_le, Nat.reduceLeDiff, Nat.reduceAdd, i1_0, rr_c3, zc9, oc9, zc10, oc10, zc11, oc11, zc12, oc12, zc13, oc13, zc15, oc15, Int32.lt_irrefl, Nat.zero_lt_one, Rt_cons, Rt_void, isB_0, isB_1, isB_b, true_and, and_true, cats_nil, cats_int, cats_ref, and_self, if_true, if_false, ite_self, le_nlt, ite_not]
  have e00 : τ 0 0 = σ 0 0 := a2.1 0 0 (by decide) (by omega)
  have e99 : τ 9 0 = σ 9 0 := a2.1 9 0 (by decide) (by omega)
  have er : rr (σ 0 0 1) = q := hq0.symm
  rcases m1 with ⟨h1, h2, h3⟩ | ⟨h1, h2, h3⟩
  · -- a row
    have hv := (m2 h1).2
    have hd := a3 h1
    have hC := hv.1
    have hN := hv.2.1
    have hG := hv.2.2.1
    rw [h1] at R
    obtain ⟨ρ1, eρ1⟩ : ∃ ρ1, ρ1 = upS (upS τ 1 0 1 0) 0 0 1 (nI (rr (σ 9 0 0))) := ⟨_, rfl⟩
    have fρ1 : ∀ k i, ¬ k = 0 → ¬ k = 1 → ρ1 k i = τ k i := fun k i b1 b2 => by rw [eρ1, upS_ne (by omega), upS_ne (by omega)]
    obtain ⟨ρ2, b1, b2, b3, b4, b5, b6, b7, b8, b9⟩ := sp_begin (σ := ρ1) (i := 0) (q := q) (N := N) (G := G) (fd := fd) (by decide) hq hN hG (by rw [fρ1 3 q (by decide) (by decide)]; exact hd.1.2.1) (by rw [fρ1 3 q (by decide) (by decide)]; exact hd.1.2.2) (fun h hh => by rw [fρ1 6 q (by decide) (by decide)]; exact (hd.2.2.1 h hh).2)
    obtain ⟨σ1, eσ1⟩ : ∃ σ1, σ1 = upS (upS (upS (upS (upS ρ2 16 0 2 0) 19 0 2 0) 19 1 2 0) 20 0 3 0) 26 0 2 0 := ⟨_, rfl⟩
    have fσ1 : ∀ k i, ¬ k = 16 → ¬ k = 19 → ¬ k = 20 → ¬ k = 26 → σ1 k i = ρ2 k i := fun k i g1 g2 g3 g4 => by rw [eσ1, upS_ne (by omega), upS_ne (by omega), upS_ne (by omega), upS_ne (by omega), upS_ne (by omega)]
    have fS : ∀ k i, ¬ k = 0 → ¬ k = 1 → ¬ k = 16 → ¬ k = 19 → ¬ k = 20 → ¬ k = 26 → ¬ (9 ≤ k ∧ k ≤ 14 ∧ i = 0) → σ1 k i = τ k i := fun k i g0 g1 g2 g3 g4 g5 g6 => by rw [fσ1 k i g2 g3 g4 g5, b2 k i g6, fρ1 k i g0 g1]
    have fm : ∀ k i, 29 ≤ k → σ1 k i = σ k i := fun k i hk => by rw [fS k i (by omega) (by omega) (by omega) (by omega) (by omega) (by omega) (by omega), a2.1 k i (by omega) (by omega)]
    obtain ⟨μ4, w1, w2, w3⟩ := Mr σ1 ⟨by rw [fm 29 0 (by omega)]; exact u3, fun j hj => by rw [fm 30 0 (by omega), hTT]⟩
    obtain ⟨μ5, eμ5⟩ : ∃ μ5, μ5 = upS (upS μ4 29 0 1 0) 29 0 2 (-1) := ⟨_, rfl⟩
    have fμ5 : ∀ k i, ¬ k = 29 → μ5 k i = μ4 k i := fun k i hk => by rw [eμ5, upS_ne (by omega), upS_ne (by omega)]
    obtain ⟨μ6, y1, y2, y3, y4, y5, y6, y7⟩ := sp_takesAll (σ := μ5) hv (DM_29 (w3 h1) fμ5)
    obtain ⟨σ2, eσ2⟩ : ∃ σ2, σ2 = upS (upS (upS (upS (upS μ6 29 0 18 0) 29 0 24 0) 29 0 26 0) 48 0 0 0) 48 0 1 0 := ⟨_, rfl⟩
    refine ⟨σ1, σ2, nI N, ?_, ?_, Or.inl ?_⟩
    · have k9 : rr (upS τ 1 0 1 0 9 0 0) = rr (σ 9 0 0) := by rw [upS_ne (by omega), e99]
      have k0' : rr (upS τ 1 0 1 0 0 0 1) = q := by rw [upS_ne (by omega), e00]; exact er
      have k3 : q < cnt 3 := hq
      have hqq := rr_lt (σ 9 0 0)
      have c19 : (0 : Nat) < cnt 19 := by decide
      have c19' : (1 : Nat) < cnt 19 := by decide
      have l02 : (0 : Int32) < 2 := by decide
      have l12 : (1 : Int32) < 2 := by decide
      have s01 : (0 : Int32) + 1 = 1 := by decide
      have s12 : (1 : Int32) + 1 = 2 := by decide
      have v02 : vp_in 0 2 := vp_in_nI (n := 0) (by decide) (by decide)
      have v12 : vp_in 1 2 := vp_in_nI (n := 1) (by decide) (by decide)
      simp only [aX7_row_0, aX7_row_1, aX7_row_4, aX7_row_5, Nat.zero_le, Nat.reduceLeDiff, Nat.reduceAdd, i1_0, rr_c3, zc9, oc9, zc10, oc10, zc11, oc11, zc12, oc12, zc13, oc13, zc15, oc15, Int32.lt_irrefl, Nat.zero_lt_one, Rt_cons, Rt_void, isB_0, isB_1, isB_b, true_and, and_true, cats_nil, cats_int, cats_ref, and_self, if_true, if_false, ite_self, le_nlt, ite_not, er]
      rw [aX7_row_8, R]
      simp only [aX7_row_11, aX7_row_12, aX7_row_13, aX7_row_16, aX7_row_18, aX7_row_19, aX7_row_20, aX7_row_21, aX7_row_22, aX7_row_25, aX7_row_26, aX7_row_27, aX7_row_28, aX7_row_31, aX7_row_34, aX7_row_37, aX7_row_38, aX7_row_41, Nat.zero_le, Nat.reduceLeDiff, Nat.reduceAdd, i1_0, rr_c3, zc9, oc9, zc10, oc10, zc11, oc11, zc12, oc12, zc13, oc13, zc15, oc15, Int32.lt_irrefl, Nat.zero_lt_one, Rt_cons, Rt_void, isB_0, isB_1, isB_b, true_and, and_true, cats_nil, cats_int, cats_ref, and_self, if_true, if_false, ite_self, le_nlt, ite_not, k9, k0', hqq]
      rw [← eρ1, aX7_row_42 (by decide), b1]
      have eN : σ1 3 q 1 = nI N := by rw [fS 3 q (by decide) (by decide) (by decide) (by decide) (by decide) (by decide) (by omega)]; exact hd.1.2.1
      simp only [aX7_row_45, aX7_row_46, aX7_row_49, aX7_row_52, aX7_row_53, aX7_row_54, aX7_row_55, aX7_row_56, aX7_row_59, aX7_row_60, aX7_row_63, aX7_row_64s, aX7_row_64m, aX7_row_65, aX7_row_66_0, aX7_row_66_1, aX7_row_69, aX7_row_72, aX7_row_75, aX7_row_76, aX7_row_79, aX7_row_80, aX7_row_83, aX7_row_84, aX7_row_87, aX7_row_88, sp_forget, Nat.zero_le, Nat.reduceLeDiff, Nat.reduceAdd, i1_0, rr_c3, zc9, oc9, zc10, oc10, zc11, oc11, zc12, oc12, zc13, oc13, zc15, oc15, Int32.lt_irrefl, Nat.zero_lt_one, Rt_cons, Rt_void, isB_0, isB_1, isB_b, true_and, and_true, cats_nil, cats_int, cats_ref, and_self, if_true, if_false, ite_self, le_nlt, ite_not, l02, l12, s01, s12, v02, v12, c0, c1, c19, c19']
      rw [← eσ1]
      simp only [aX7_row_91, aX7_row_92, aX7_row_95, Nat.zero_le, Nat.reduceLeDiff, Nat.reduceAdd, i1_0, rr_c3, zc9, oc9, zc10, oc10, zc11, oc11, zc12, oc12, zc13, oc13, zc15, oc15, Int32.lt_irrefl, Nat.zero_lt_one, Rt_cons, Rt_void, isB_0, isB_1, isB_b, true_and, and_true, cats_nil, cats_int, cats_ref, and_self, if_true, if_false, ite_self, le_nlt, ite_not, k3, eN, Rt_nil]
    · have hw : μ4 29 0 28 = 0 := w2.2.2.2.1.trans h2
      have hw1 : upS μ4 29 0 1 0 29 0 28 = 0 := by rw [upS_eq, upd_ne (by decide)]; exact hw
      have hw2 : μ5 29 0 28 = 0 := by rw [eμ5, upS_eq, upd_ne (by decide)]; exact hw1
      have v02 : vp_in 0 2 := vp_in_nI (n := 0) (by decide) (by decide)
      have v12 : vp_in 1 2 := vp_in_nI (n := 1) (by decide) (by decide)
      rw [w1]
      simp only [aX8_row_101, aX8_row_102, aX8_row_103, aX8_row_106, aX8_row_107, aX8_row_108, aX8_row_111, aX8_row_114, aX8_row_115, aX8_row_118, aX8_row_119, aX8_row_122, Nat.zero_le, Nat.reduceLeDiff, Nat.reduceAdd, i1_0, rr_c3, zc9, oc9, zc10, oc10, zc11, oc11, zc12, oc12, zc13, oc13, zc15, oc15, Int32.lt_irrefl, Nat.zero_lt_one, Rt_cons, Rt_void, isB_0, isB_1, isB_b, true_and, and_true, cats_nil, cats_int, cats_ref, and_self, if_true, if_false, ite_self, le_nlt, ite_not, hw1, not_true_eq_false]
      rw [← eμ5]
      simp only [aX8_row_125, aX8_row_126, aX8_row_129, Nat.zero_le, Nat.reduceLeDiff, Nat.reduceAdd, i1_0, rr_c3, zc9, oc9, zc10, oc10, zc11, oc11, zc12, oc12, zc13, oc13, zc15, oc15, Int32.lt_irrefl, Nat.zero_lt_one, Rt_cons, Rt_void, isB_0, isB_1, isB_b, true_and, and_true, cats_nil, cats_int, cats_ref, and_self, if_true, if_false, ite_self, le_nlt, ite_not, hw2]
      simp only [aX8_row_140, Nat.zero_le, Nat.reduceLeDiff, Nat.reduceAdd, i1_0, rr_c3, zc9, oc9, zc10, oc10, zc11, oc11, zc12, oc12, zc13, oc13, zc15, oc15, Int32.lt_irrefl, Nat.zero_lt_one, Rt_cons, Rt_void, isB_0, isB_1, isB_b, true_and, and_true, cats_nil, cats_int, cats_ref, and_self, if_true, if_false, ite_self, le_nlt, ite_not]
      rw [aX8_row_141, y1]
      simp only [aX8_row_144, aX8_row_145, aX8_row_146, aX8_row_149, aX8_row_150, aX8_row_151, aX8_row_154, aX8_row_155, aX8_row_156, aX8_row_159, aX8_row_160, aX8_row_163, aX8_row_164, aX8_row_165, aX8_row_166, aX8_row_167, aX8_row_170, aX8_row_171, aX8_row_172, Nat.zero_le, Nat.reduceLeDiff, Nat.reduceAdd, i1_0, rr_c3, zc9, oc9, zc10, oc10, zc11, oc11, zc12, oc12, zc13, oc13, zc15, oc15, Int32.lt_irrefl, Nat.zero_lt_one, Rt_cons, Rt_void, isB_0, isB_1, isB_b, true_and, and_true, cats_nil, cats_int, cats_ref, and_self, if_true, if_false, ite_self, le_nlt, ite_not, aT_48, aN_48, cnt_48, v02, v12, c0, c1, nar_b0]
      rw [← eσ2]
      have e31 : σ2 31 0 1 = nI N := by rw [eσ2, upS_ne (by decide), upS_ne (by decide), upS_ne (by decide), upS_ne (by decide), upS_ne (by decide)]; exact y3.2.1
      simp only [aX8_row_173, aX8_row_174, aX8_row_177, aX8_row_178, aX8_row_179, Nat.zero_le, Nat.reduceLeDiff, Nat.reduceAdd, i1_0, rr_c3, zc9, oc9, zc10, oc10, zc11, oc11, zc12, oc12, zc13, oc13, zc15, oc15, Int32.lt_irrefl, Nat.zero_lt_one, Rt_cons, Rt_void, isB_0, isB_1, isB_b, true_and, and_true, cats_nil, cats_int, cats_ref, and_self, if_true, if_false, ite_self, le_nlt, ite_not, aT_31, aN_31, cnt_31, v3.2.1, c1, e31, Rt_nil]
    · have g2 : ∀ k i, ¬ k = 29 → ¬ k = 48 → σ2 k i = μ6 k i := fun k i z1 z2 => by rw [eσ2, upS_ne (by omega), upS_ne (by omega), upS_ne (by omega), upS_ne (by omega), upS_ne (by omega)]
      have g29 : σ2 29 0 = upd (upd (upd (μ6 29 0) 18 0) 24 0) 26 0 := by rw [eσ2, upS_ne (by decide), upS_ne (by decide)]; simp only [upS_eq]
      have g48 : σ2 48 0 = upd (upd (μ6 48 0) 0 0) 1 0 := by
        rw [eσ2]; simp only [upS_eq]
        rw [upS_ne (by decide), upS_ne (by decide), upS_ne (by decide)]
      have m29 : μ6 29 0 = upd (upd (μ4 29 0) 1 0) 2 (-1) := by rw [y2 29 0 (by omega) (by decide), eμ5]; simp only [upS_eq]
      have cl : ∀ k i, k < 29 → σ2 k i = σ1 k i := fun k i hk => by rw [g2 k i (by omega) (by omega), y2 k i (by omega) (by omega), fμ5 k i (by omega), w2.1 k i (by omega) (by omega)]
      have q16 : σ1 16 0 = upd (σ 16 0) 2 0 := by
        rw [eσ1, upS_ne (by decide), upS_ne (by decide), upS_ne (by decide), upS_ne (by decide), upS_eq, b2 16 0 (by omega), fρ1 16 0 (by decide) (by decide), a2.1 16 0 (by decide) (by omega)]
      have q0 : σ1 0 0 = upd (σ 0 0) 1 (nI (rr (σ 9 0 0))) := by
        rw [fσ1 0 0 (by decide) (by decide) (by decide) (by decide), b2 0 0 (by omega), eρ1, upS_eq, upS_ne (by decide), e00]
      have q1 : σ1 1 0 = upd (τ 1 0) 1 0 := by
        rw [fσ1 1 0 (by decide) (by decide) (by decide) (by decide), b2 1 0 (by omega), eρ1, upS_ne (by decide), upS_eq]
      have q19 : ∀ i, i < 2 → σ1 19 i 2 = 0 := fun i hi => by
        rcases (show i = 0 ∨ i = 1 by omega) with z | z
        · rw [z, eσ1, upS_ne (by decide), upS_ne (by decide), upS_ne (by decide), upS_eq, upd_eq]
        · rw [z, eσ1, upS_ne (by decide), upS_ne (by decide), upS_eq, upd_eq]
      have q20 : σ1 20 0 3 = 0 := by rw [eσ1, upS_ne (by decide), upS_eq, upd_eq]
      have q26 : σ1 26 0 2 = 0 := by rw [eσ1, upS_eq, upd_eq]
      have r9 : ∀ k, 9 ≤ k → k ≤ 14 → σ2 k 0 = ρ2 k 0 := fun k z1 z2 => by rw [cl k 0 (by omega), fσ1 k 0 (by omega) (by omega) (by omega) (by omega)]
      have rq : rr (σ2 9 0 0) = q := by rw [r9 9 (by omega) (by omega)]; exact b4
      have dat : ∀ k, 3 ≤ k → k ≤ 8 → σ2 k q = τ k q := fun k z1 z2 => by rw [cl k q (by omega), fS k q (by omega) (by omega) (by omega) (by omega) (by omega) (by omega) (by omega)]
      have mm : ∀ k i, (31 ≤ k ∧ k ≤ 36) ∨ k = 43 → σ2 k i = μ6 k i := fun k i z => g2 k i (by omega) (by omega)
      have s29 : ∀ s, ¬ s = 1 → ¬ s = 2 → ¬ s = 18 → ¬ s = 24 → ¬ s = 26 → ¬ s = 27 → ¬ s = 28 → σ2 29 0 s = σ 29 0 s := fun s z1 z2 z3 z4 z5 z6 z7 => by
        rw [g29, upd_ne z5, upd_ne z4, upd_ne z3, m29, upd_ne z2, upd_ne z1, w2.2.1 s z6 z7, fm 29 0 (by omega)]
      obtain ⟨x, x1, x2⟩ := hx
      refine ⟨⟨⟨0, by omega, by rw [cl 1 0 (by omega), q1]; rfl, by rw [g29, m29]; rfl, fun j hj => absurd hj (Nat.not_lt_zero _)⟩, ?_⟩, ⟨?_, ?_⟩, C, N, G, ⟨?_, ?_, ?_, ?_⟩, ⟨0, by omega, by rw [cl 20 0 (by omega)]; exact q20, by rw [g29]; rfl, fun j hj => absurd hj (Nat.not_lt_zero _)⟩, ⟨0, by omega, by rw [cl 26 0 (by omega)]; exact q26, by rw [g29]; rfl, fun j hj => absurd hj (Nat.not_lt_zero _)⟩, ⟨0, x, by omega, x1, by rw [cl 16 0 (by omega), q16]; rfl, by rw [cl 16 0 (by omega), q16]; exact x2, by rw [g29]; rfl, fun j hj => absurd hj (Nat.not_lt_zero _)⟩, fun i hi => ?_⟩
      · rw [cl 1 0 (by omega), q1, g29, m29, upd_ne (by decide), a2.2.2.2.1]
        exact (m2 h1).1
      · rw [cl 0 0 (by omega), q0, upd_ne (by decide), s29 22 (by decide) (by decide) (by decide) (by decide) (by decide) (by decide) (by decide)]; exact hs.1
      · rw [s29 22 (by decide) (by decide) (by decide) (by decide) (by decide) (by decide) (by decide)]; exact hs.2
      · rw [rq]
        refine ⟨hC, hN, hG, hv.2.2.2.1, ?_, ?_, fun j hj => ?_, fun j hj => ?_, fun j hj => ?_⟩
        · rw [mm 31 0 (by omega)]; exact y3
        · rw [dat 3 (by omega) (by omega)]; exact hd.1
        · rw [dat 4 (by omega) (by omega), mm 32 0 (by omega), hd.2.1 j hj, y4 j hj]; exact ⟨rfl, hv.2.2.2.2.1 j hj⟩
        · rw [dat 5 (by omega) (by omega), mm 33 0 (by omega), (hd.2.2.1 j hj).1, y5 j hj]; exact ⟨rfl, (hv.2.2.2.2.2.1 j hj).1⟩
        · rw [dat 7 (by omega) (by omega), dat 8 (by omega) (by omega), mm 35 0 (by omega), mm 36 0 (by omega), (hd.2.2.2 j hj).1, (hd.2.2.2 j hj).2, (y6 j hj).1, (y6 j hj).2]
          exact ⟨rfl, rfl, hv.2.2.2.2.2.2 j hj⟩
      · rw [rq, cl 0 0 (by omega), q0, upd_eq, rr_nI]
        exact fun z => hne (er.trans z.symm)
      · rw [mm 43 0 (by omega)]
        refine CS_new (by decide) hN hG ?_ ?_ ?_ ?_ ?_ ?_ y7
        · intro h hh
          rw [r9 10 (by omega) (by omega), r9 11 (by omega) (by omega), r9 12 (by omega) (by omega), r9 13 (by omega) (by omega), r9 14 (by omega) (by omega)]
          exact b3 h hh
        · rw [r9 9 (by omega) (by omega)]; exact b5
        · rw [r9 9 (by omega) (by omega)]; exact b6
        · rw [r9 9 (by omega) (by omega)]; exact b7
        · rw [r9 9 (by omega) (by omega)]; exact b8
        · rw [r9 9 (by omega) (by omega)]; exact b9
      · rw [mm 43 0 (by omega)]
        exact WFw_new y7 hN hG (fun h hh => (hv.2.2.2.2.2.1 h hh).2)
      · have k48 : σ2 48 0 i = 0 := by
          rw [g48]
          rcases (show i = 0 ∨ i = 1 by omega) with z | z <;> rw [z] <;> rfl
        exact ⟨by rw [cl 19 i (by omega), q19 i hi, k48], Or.inl k48⟩
  · -- a fault
    have n0 := f123 h1
    have l0 : 0 < X.1 := by rcases h1 with z | z | z <;> rw [z] <;> decide
    have fm : ∀ k i, 29 ≤ k → upS τ 1 0 1 0 k i = σ k i := fun k i hk => by rw [upS_ne (by omega), a2.1 k i (by omega) (by omega)]
    obtain ⟨μ4, w1, w2, w3⟩ := Mr (upS τ 1 0 1 0) ⟨by rw [fm 29 0 (by omega)]; exact u3, fun j hj => by rw [fm 30 0 (by omega), hTT]⟩
    refine ⟨upS τ 1 0 1 0, upS (upS μ4 29 0 1 0) 29 0 2 (nI Y.1), -10 - X.1, ?_, ?_, Or.inr ⟨?_, fun k i z1 z2 z3 z4 => ?_, fun s z1 z2 z3 z4 => ?_⟩⟩
    · simp only [aX7_row_0, aX7_row_1, aX7_row_4, aX7_row_5, Nat.zero_le, Nat.reduceLeDiff, Nat.reduceAdd, i1_0, rr_c3, zc9, oc9, zc10, oc10, zc11, oc11, zc12, oc12, zc13, oc13, zc15, oc15, Int32.lt_irrefl, Nat.zero_lt_one, Rt_cons, Rt_void, isB_0, isB_1, isB_b, true_and, and_true, cats_nil, cats_int, cats_ref, and_self, if_true, if_false, ite_self, le_nlt, ite_not, er]
      rw [aX7_row_8, R]
      simp only [aX7_row_11, aX7_row_12, aX7_row_13, aX7_row_16, aX7_row_18, aX7_row_19, aX7_row_20, Nat.zero_le, Nat.reduceLeDiff, Nat.reduceAdd, i1_0, rr_c3, zc9, oc9, zc10, oc10, zc11, oc11, zc12, oc12, zc13, oc13, zc15, oc15, Int32.lt_irrefl, Nat.zero_lt_one, Rt_cons, Rt_void, isB_0, isB_1, isB_b, true_and, and_true, cats_nil, cats_int, cats_ref, and_self, if_true, if_false, ite_self, le_nlt, ite_not, l0, Rt_nil]
    · have hw : μ4 29 0 28 = X.1 := w2.2.2.2.1.trans h2
      have hw1 : ¬ upS μ4 29 0 1 0 29 0 28 = 0 := by rw [upS_eq, upd_ne (by decide), hw]; exact n0
      have hat : upS μ4 29 0 1 0 29 0 27 = nI Y.1 := by rw [upS_eq, upd_ne (by decide)]; exact w2.2.2.1
      have hw2 : upS (upS μ4 29 0 1 0) 29 0 2 (nI Y.1) 29 0 28 = X.1 := by rw [upS_eq, upd_ne (by decide), upS_eq, upd_ne (by decide)]; exact hw
      rw [w1]
      simp only [aX8_row_101, aX8_row_102, aX8_row_103, aX8_row_106, aX8_row_107, aX8_row_108, aX8_row_111, aX8_row_114, aX8_row_115, aX8_row_118, aX8_row_119, aX8_row_122, aX8_row_125, aX8_row_126, aX8_row_129, aX8_row_132, aX8_row_134, aX8_row_135, aX8_row_138, aX8_row_139, Nat.zero_le, Nat.reduceLeDiff, Nat.reduceAdd, i1_0, rr_c3, zc9, oc9, zc10, oc10, zc11, oc11, zc12, oc12, zc13, oc13, zc15, oc15, Int32.lt_irrefl, Nat.zero_lt_one, Rt_cons, Rt_void, isB_0, isB_1, isB_b, true_and, and_true, cats_nil, cats_int, cats_ref, and_self, if_true, if_false, ite_self, le_nlt, ite_not, hw1, not_false_eq_true, hat, hw2, n0, Rt_nil]
    · have t1 : upS (upS μ4 29 0 1 0) 29 0 2 (nI Y.1) 1 0 = upd (τ 1 0) 1 0 := by rw [upS_ne (by decide), upS_ne (by decide), w2.1 1 0 (by decide) (by omega), upS_eq]
      have t29 : upS (upS μ4 29 0 1 0) 29 0 2 (nI Y.1) 29 0 = upd (upd (μ4 29 0) 1 0) 2 (nI Y.1) := by simp only [upS_eq]
      refine ⟨⟨0, by omega, by rw [t1]; rfl, by rw [t29]; rfl, fun j hj => absurd hj (Nat.not_lt_zero _)⟩, ?_⟩
      rw [t1, t29, upd_ne (by decide), upd_eq, a2.2.2.2.1]
      exact h3.symm
    · rw [upS_ne (by omega), upS_ne (by omega), w2.1 k i z3 z4, upS_ne (by omega), a2.1 k i z1 (by rw [er] at z2; exact z2)]
    · rw [upS_eq, upd_ne z2, upS_eq, upd_ne z1, w2.2.1 s z3 z4, fm 29 0 (by omega)]
end S89
