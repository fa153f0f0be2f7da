-- NOTHING IS TOLD YET: the other half of the relation (parts written by a program of mine)
def wF (a : Nat) : Int32 := if a < 64 then 0 else if (a - 64) % 5 = 1 then 1 else if (a - 64) % 5 = 2 then -1 else 0
def ZImg (σ : Mem) (q : Nat) : Prop := ∀ i, i < 2 → σ 19 i 2 = σ 48 0 i ∧ (σ 48 0 i = 0 ∨ (σ 48 0 i = 1 ∧ σ 19 i 1 = σ 47 0 i ∧ ¬ σ 47 0 i < 0 ∧ CS σ (32 + i) wF ∧ rr (σ 9 (32 + i) 0) = q ∧ ∀ t, t < 4 → σ 46 0 (99 * i + t) = 0))
def Z0 (σ : Mem) : Prop := ((σ 31 0 0 = nI 0 ∧ σ 31 0 1 = nI 0 ∧ σ 31 0 2 = nI 0) ∧ (σ 3 (rr (σ 9 0 0)) 0 = nI 0 ∧ σ 3 (rr (σ 9 0 0)) 1 = nI 0 ∧ σ 3 (rr (σ 9 0 0)) 2 = nI 0) ∧ ¬ rr (σ 0 0 1) = rr (σ 9 0 0)) ∧
  (CS σ 0 wF ∧ σ 43 0 0 = nI 0 ∧ σ 43 0 1 = nI 0 ∧ σ 43 0 2 = nI 0 ∧ σ 43 0 3 = nI 0) ∧
  ((σ 20 0 3 = nI 0 ∧ σ 29 0 24 = nI 0) ∧ (σ 26 0 2 = nI 0 ∧ σ 29 0 26 = nI 0)) ∧
  (σ 16 0 2 = nI 0 ∧ (∃ x : Nat, x < 30 ∧ σ 16 0 1 = nI x) ∧ σ 29 0 18 = nI 0) ∧ ZImg σ (rr (σ 9 0 0))
def Rel0 (σ : Mem) : Prop := TxtR σ ∧ SeedR σ ∧ Z0 σ
def RelA (σ : Mem) : Prop := Rel σ ∨ Rel0 σ
theorem Z0_congr {σ τ : Mem} (h : Z0 σ) (h0 : τ 0 0 1 = σ 0 0 1) (h3 : τ 3 (rr (σ 9 0 0)) = σ 3 (rr (σ 9 0 0))) (hk : ∀ k i, 9 ≤ k → k ≤ 15 → (i = 0 ∨ i = 32 ∨ i = 33) → τ k i = σ k i) (h16 : τ 16 0 = σ 16 0) (h19 : ∀ i, τ 19 i = σ 19 i) (h20 : τ 20 0 3 = σ 20 0 3) (h26 : τ 26 0 2 = σ 26 0 2) (h31 : τ 31 0 = σ 31 0) (h43 : τ 43 0 = σ 43 0) (h46 : τ 46 0 = σ 46 0) (h47 : τ 47 0 = σ 47 0) (h48 : τ 48 0 = σ 48 0) (g18 : τ 29 0 18 = σ 29 0 18) (g24 : τ 29 0 24 = σ 29 0 24) (g26 : τ 29 0 26 = σ 29 0 26) : Z0 τ := by
  obtain ⟨⟨l, k, n⟩, ⟨cs, w⟩, e, p, im⟩ := h
  unfold Z0
  rw [hk 9 0 (by omega) (by omega) (by omega), h0, h3, h16, h20, h26, h31, h43, g18, g24, g26]
  refine ⟨⟨l, k, n⟩, ⟨CS_congr cs (fun k a b => hk k 0 a b (by omega)) (fun _ _ => rfl), w⟩, e, p, fun i hi => ?_⟩
  rw [h19, h46, h47, h48, hk 9 (32 + i) (by omega) (by omega) (by omega)]
  obtain ⟨i1, i2⟩ := im i hi
  exact ⟨i1, i2.imp id (fun ⟨z1, z2, z3, z4, z5, z6⟩ => ⟨z1, z2, z3, CS_congr z4 (fun k a b => hk k _ a b (by omega)) (fun _ _ => rfl), z5, z6⟩)⟩
def SimZ (mc mm : Nat) (vs : List Value) : Prop := ∀ σ, Rel0 σ → ∃ (n1 n2 : Nat) (σ1 σ2 : Mem) (r : Int32), ev n1 mc 0 (entL (.ref (ad 0 0) :: vs) (mL mc)) [] (enc σ) = some (enc σ1, some (.int r)) ∧ ev n2 mm 0 (entL (.ref (ad 29 0) :: vs) (mL mm)) [] (enc σ1) = some (enc σ2, some (.int r)) ∧ RelA σ2
theorem Z_of {mc mm : Nat} {vs Lc Lm : List Value} (hLc : entL (.ref (ad 0 0) :: vs) (mL mc) = Lc) (hLm : entL (.ref (ad 29 0) :: vs) (mL mm) = Lm)
    (h : ∀ σ, Rel0 σ → ∃ (σ1 σ2 : Mem) (r : Int32), Rn mc 0 Lc [] [] (enc σ) (fun X v => X = enc σ1 ∧ v = some (.int r)) ∧ Rn mm 0 Lm [] [] (enc σ1) (fun X v => X = enc σ2 ∧ v = some (.int r)) ∧ RelA σ2) : SimZ mc mm vs := by
  intro σ hR
  obtain ⟨σ1, σ2, r, h1, h2, h3⟩ := h σ hR
  obtain ⟨n1, e1⟩ := Rn_ev h1
  obtain ⟨n2, e2⟩ := Rn_ev h2
  exact ⟨n1, n2, σ1, σ2, r, by rw [hLc]; exact e1, by rw [hLm]; exact e2, h3⟩
theorem Sim_A {mc mm : Nat} {vs : List Value} (h : Sim Rel mc mm vs) (z : SimZ mc mm vs) : Sim RelA mc mm vs := by
  intro σ hR
  rcases hR with hR | hR
  · obtain ⟨n1, n2, σ1, σ2, r, e1, e2, h3⟩ := h σ hR
    exact ⟨n1, n2, σ1, σ2, r, e1, e2, Or.inl h3⟩
  · exact z σ hR
theorem isH0 {h : Int32} : ¬ isH 0 h := fun z => z.1 z.2
theorem le07 : 0 ≤ 7 := by decide
theorem le012 : 0 ≤ 12 := by decide
theorem nl00 : ¬ 0 < 0 := by decide
section S90
variable {σ : Mem} {fs : List Fm} {M : List va_E} {Q : List va_E → Option Value → Prop}
theorem z_house (h x : Int32) : SimZ mX7_house mX8_house [.int h, .int x] := by
  refine Z_of (Lc := [.ref (ad 0 0), .int h, .int x]) (Lm := [.ref (ad 29 0), .int h, .int x]) rfl rfl (fun σ hR => ?_)
  obtain ⟨t0, s0, ⟨⟨l0, l1, l2⟩, ⟨k0, k1, k2⟩, hne⟩, ⟨cs, w0, w1, w2, w3⟩, ⟨⟨e1, e2⟩, ⟨b1, b2⟩⟩, ⟨p1, ⟨px, p2, p3⟩, p4⟩, im⟩ := id hR
  have hq := rr_lt (σ 9 0 0)
  refine ⟨σ, σ, -1000000001, ?_, ?_, Or.inr hR⟩
  · simp only [aX7_house_0, aX7_house_1, aX7_house_4, aX7_house_7, aX7_house_8, aX7_house_11, aX7_house_14, aX7_house_16, sp_cHouse hq k1, Nat.zero_le, Nat.reduceLeDiff, Nat.reduceAdd, i1_0, rr_c3, zc9, oc9, zc10, oc10, zc11, oc11, zc12, oc12, zc13, oc13, zc15, oc15, Int32.lt_irrefl, Nat.zero_lt_one, Rt_cons, Rt_void, isB_0, isB_1, isB_b, true_and, and_true, cats_nil, cats_int, cats_ref, and_self, if_true, if_false, ite_self, le_nlt, ite_not, Rt_nil, bI_f (isH0 (h := h))]
  · simp only [aX8_house_0, aX8_house_1, aX8_house_2, aX8_house_5, aX8_house_8, aX8_house_10, sp_mHouse le07 l1, Nat.zero_le, Nat.reduceLeDiff, Nat.reduceAdd, i1_0, rr_c3, zc9, oc9, zc10, oc10, zc11, oc11, zc12, oc12, zc13, oc13, zc15, oc15, Int32.lt_irrefl, Nat.zero_lt_one, Rt_cons, Rt_void, isB_0, isB_1, isB_b, true_and, and_true, cats_nil, cats_int, cats_ref, and_self, if_true, if_false, ite_self, le_nlt, ite_not, Rt_nil, bI_f (isH0 (h := h))]
theorem z_pay (h n : Int32) : SimZ mX7_pay mX8_pay [.int h, .int n] := by
  refine Z_of (Lc := [.ref (ad 0 0), .int h, .int n]) (Lm := [.ref (ad 29 0), .int h, .int n]) rfl rfl (fun σ hR => ?_)
  obtain ⟨t0, s0, ⟨⟨l0, l1, l2⟩, ⟨k0, k1, k2⟩, hne⟩, ⟨cs, w0, w1, w2, w3⟩, ⟨⟨e1, e2⟩, ⟨b1, b2⟩⟩, ⟨p1, ⟨px, p2, p3⟩, p4⟩, im⟩ := id hR
  have hq := rr_lt (σ 9 0 0)
  refine ⟨σ, σ, -1000000001, ?_, ?_, Or.inr hR⟩
  · simp only [aX7_pay_0, aX7_pay_1, aX7_pay_4, aX7_pay_7, aX7_pay_8, aX7_pay_11, aX7_pay_14, aX7_pay_16, sp_cHouse hq k1, Nat.zero_le, Nat.reduceLeDiff, Nat.reduceAdd, i1_0, rr_c3, zc9, oc9, zc10, oc10, zc11, oc11, zc12, oc12, zc13, oc13, zc15, oc15, Int32.lt_irrefl, Nat.zero_lt_one, Rt_cons, Rt_void, isB_0, isB_1, isB_b, true_and, and_true, cats_nil, cats_int, cats_ref, and_self, if_true, if_false, ite_self, le_nlt, ite_not, Rt_nil, bI_f (isH0 (h := h))]
  · simp only [aX8_pay_0, aX8_pay_1, aX8_pay_2, aX8_pay_5, aX8_pay_8, aX8_pay_10, sp_mHouse le07 l1, Nat.zero_le, Nat.reduceLeDiff, Nat.reduceAdd, i1_0, rr_c3, zc9, oc9, zc10, oc10, zc11, oc11, zc12, oc12, zc13, oc13, zc15, oc15, Int32.lt_irrefl, Nat.zero_lt_one, Rt_cons, Rt_void, isB_0, isB_1, isB_b, true_and, and_true, cats_nil, cats_int, cats_ref, and_self, if_true, if_false, ite_self, le_nlt, ite_not, Rt_nil, bI_f (isH0 (h := h))]
theorem z_bread (h n : Int32) : SimZ mX7_bread mX8_bread [.int h, .int n] := by
  refine Z_of (Lc := [.ref (ad 0 0), .int h, .int n]) (Lm := [.ref (ad 29 0), .int h, .int n]) rfl rfl (fun σ hR => ?_)
  obtain ⟨t0, s0, ⟨⟨l0, l1, l2⟩, ⟨k0, k1, k2⟩, hne⟩, ⟨cs, w0, w1, w2, w3⟩, ⟨⟨e1, e2⟩, ⟨b1, b2⟩⟩, ⟨p1, ⟨px, p2, p3⟩, p4⟩, im⟩ := id hR
  have hq := rr_lt (σ 9 0 0)
  refine ⟨σ, σ, -1000000001, ?_, ?_, Or.inr hR⟩
  · simp only [aX7_bread_0, aX7_bread_1, aX7_bread_4, aX7_bread_7, aX7_bread_8, aX7_bread_11, aX7_bread_14, aX7_bread_16, sp_cHouse hq k1, Nat.zero_le, Nat.reduceLeDiff, Nat.reduceAdd, i1_0, rr_c3, zc9, oc9, zc10, oc10, zc11, oc11, zc12, oc12, zc13, oc13, zc15, oc15, Int32.lt_irrefl, Nat.zero_lt_one, Rt_cons, Rt_void, isB_0, isB_1, isB_b, true_and, and_true, cats_nil, cats_int, cats_ref, and_self, if_true, if_false, ite_self, le_nlt, ite_not, Rt_nil, bI_f (isH0 (h := h))]
  · simp only [aX8_bread_0, aX8_bread_1, aX8_bread_2, aX8_bread_5, aX8_bread_8, aX8_bread_10, sp_mHouse le07 l1, Nat.zero_le, Nat.reduceLeDiff, Nat.reduceAdd, i1_0, rr_c3, zc9, oc9, zc10, oc10, zc11, oc11, zc12, oc12, zc13, oc13, zc15, oc15, Int32.lt_irrefl, Nat.zero_lt_one, Rt_cons, Rt_void, isB_0, isB_1, isB_b, true_and, and_true, cats_nil, cats_int, cats_ref, and_self, if_true, if_false, ite_self, le_nlt, ite_not, Rt_nil, bI_f (isH0 (h := h))]
theorem z_stone (h : Int32) : SimZ mX7_stone mX8_stone [.int h] := by
  refine Z_of (Lc := [.ref (ad 0 0), .int h]) (Lm := [.ref (ad 29 0), .int h]) rfl rfl (fun σ hR => ?_)
  obtain ⟨t0, s0, ⟨⟨l0, l1, l2⟩, ⟨k0, k1, k2⟩, hne⟩, ⟨cs, w0, w1, w2, w3⟩, ⟨⟨e1, e2⟩, ⟨b1, b2⟩⟩, ⟨p1, ⟨px, p2, p3⟩, p4⟩, im⟩ := id hR
  have hq := rr_lt (σ 9 0 0)
  refine ⟨σ, σ, -1000000001, ?_, ?_, Or.inr hR⟩
  · simp only [aX7_stone_0, aX7_stone_1, aX7_stone_4, aX7_stone_7, aX7_stone_8, aX7_stone_11, aX7_stone_14, aX7_stone_16, sp_cHouse hq k1, Nat.zero_le, Nat.reduceLeDiff, Nat.reduceAdd, i1_0, rr_c3, zc9, oc9, zc10, oc10, zc11, oc11, zc12, oc12, zc13, oc13, zc15, oc15, Int32.lt_irrefl, Nat.zero_lt_one, Rt_cons, Rt_void, isB_0, isB_1, isB_b, true_and, and_true, cats_nil, cats_int, cats_ref, and_self, if_true, if_false, ite_self, le_nlt, ite_not, Rt_nil, bI_f (isH0 (h := h))]
  · simp only [aX8_stone_0, aX8_stone_1, aX8_stone_2, aX8_stone_5, aX8_stone_8, aX8_stone_10, sp_mHouse le07 l1, Nat.zero_le, Nat.reduceLeDiff, Nat.reduceAdd, i1_0, rr_c3, zc9, oc9, zc10, oc10, zc11, oc11, zc12, oc12, zc13, oc13, zc15, oc15, Int32.lt_irrefl, Nat.zero_lt_one, Rt_cons, Rt_void, isB_0, isB_1, isB_b, true_and, and_true, cats_nil, cats_int, cats_ref, and_self, if_true, if_false, ite_self, le_nlt, ite_not, Rt_nil, bI_f (isH0 (h := h))]
theorem z_owes (h n : Int32) : SimZ mX7_owes mX8_owes [.int h, .int n] := by
  refine Z_of (Lc := [.ref (ad 0 0), .int h, .int n]) (Lm := [.ref (ad 29 0), .int h, .int n]) rfl rfl (fun σ hR => ?_)
  obtain ⟨t0, s0, ⟨⟨l0, l1, l2⟩, ⟨k0, k1, k2⟩, hne⟩, ⟨cs, w0, w1, w2, w3⟩, ⟨⟨e1, e2⟩, ⟨b1, b2⟩⟩, ⟨p1, ⟨px, p2, p3⟩, p4⟩, im⟩ := id hR
  have hq := rr_lt (σ 9 0 0)
  refine ⟨σ, σ, -1000000001, ?_, ?_, Or.inr hR⟩
  · simp only [aX7_owes_0, aX7_owes_1, aX7_owes_4, aX7_owes_7, aX7_owes_8, aX7_owes_11, aX7_owes_14, aX7_owes_16, sp_cHouse hq k1, Nat.zero_le, Nat.reduceLeDiff, Nat.reduceAdd, i1_0, rr_c3, zc9, oc9, zc10, oc10, zc11, oc11, zc12, oc12, zc13, oc13, zc15, oc15, Int32.lt_irrefl, Nat.zero_lt_one, Rt_cons, Rt_void, isB_0, isB_1, isB_b, true_and, and_true, cats_nil, cats_int, cats_ref, and_self, if_true, if_false, ite_self, le_nlt, ite_not, Rt_nil, bI_f (isH0 (h := h))]
  · simp only [aX8_owes_0, aX8_owes_1, aX8_owes_2, aX8_owes_5, aX8_owes_8, aX8_owes_10, sp_mHouse le07 l1, Nat.zero_le, Nat.reduceLeDiff, Nat.reduceAdd, i1_0, rr_c3, zc9, oc9, zc10, oc10, zc11, oc11, zc12, oc12, zc13, oc13, zc15, oc15, Int32.lt_irrefl, Nat.zero_lt_one, Rt_cons, Rt_void, isB_0, isB_1, isB_b, true_and, and_true, cats_nil, cats_int, cats_ref, and_self, if_true, if_false, ite_self, le_nlt, ite_not, Rt_nil, bI_f (isH0 (h := h))]
theorem z_mostBread (h : Int32) : SimZ mX7_mostBread mX8_mostBread [.int h] := by
  refine Z_of (Lc := [.ref (ad 0 0), .int h]) (Lm := [.ref (ad 29 0), .int h]) rfl rfl (fun σ hR => ?_)
  obtain ⟨t0, s0, ⟨⟨l0, l1, l2⟩, ⟨k0, k1, k2⟩, hne⟩, ⟨cs, w0, w1, w2, w3⟩, ⟨⟨e1, e2⟩, ⟨b1, b2⟩⟩, ⟨p1, ⟨px, p2, p3⟩, p4⟩, im⟩ := id hR
  have hq := rr_lt (σ 9 0 0)
  refine ⟨σ, σ, -1000000001, ?_, ?_, Or.inr hR⟩
  · simp only [aX7_mostBread_0, aX7_mostBread_1, aX7_mostBread_4, aX7_mostBread_7, aX7_mostBread_8, aX7_mostBread_11, aX7_mostBread_14, aX7_mostBread_16, sp_cHouse hq k1, Nat.zero_le, Nat.reduceLeDiff, Nat.reduceAdd, i1_0, rr_c3, zc9, oc9, zc10, oc10, zc11, oc11, zc12, oc12, zc13, oc13, zc15, oc15, Int32.lt_irrefl, Nat.zero_lt_one, Rt_cons, Rt_void, isB_0, isB_1, isB_b, true_and, and_true, cats_nil, cats_int, cats_ref, and_self, if_true, if_false, ite_self, le_nlt, ite_not, Rt_nil, bI_f (isH0 (h := h))]
  · simp only [aX8_mostBread_0, aX8_mostBread_1, aX8_mostBread_2, aX8_mostBread_5, aX8_mostBread_8, aX8_mostBread_10, sp_mHouse le07 l1, Nat.zero_le, Nat.reduceLeDiff, Nat.reduceAdd, i1_0, rr_c3, zc9, oc9, zc10, oc10, zc11, oc11, zc12, oc12, zc13, oc13, zc15, oc15, Int32.lt_irrefl, Nat.zero_lt_one, Rt_cons, Rt_void, isB_0, isB_1, isB_b, true_and, and_true, cats_nil, cats_int, cats_ref, and_self, if_true, if_false, ite_self, le_nlt, ite_not, Rt_nil, bI_f (isH0 (h := h))]
theorem z_write (h x : Int32) : SimZ mX7_write mX8_write [.int h, .int x] := by
  refine Z_of (Lc := [.ref (ad 0 0), .int h, .int x]) (Lm := [.ref (ad 29 0), .int h, .int x]) rfl rfl (fun σ hR => ?_)
  obtain ⟨t0, s0, ⟨⟨l0, l1, l2⟩, ⟨k0, k1, k2⟩, hne⟩, ⟨cs, w0, w1, w2, w3⟩, ⟨⟨e1, e2⟩, ⟨b1, b2⟩⟩, ⟨p1, ⟨px, p2, p3⟩, p4⟩, im⟩ := id hR
  have hq := rr_lt (σ 9 0 0)
  refine ⟨σ, σ, -1000000001, ?_, ?_, Or.inr hR⟩
  · simp only [aX7_write_0, aX7_write_1, aX7_write_4, aX7_write_7, aX7_write_8, aX7_write_11, aX7_write_14, aX7_write_16, sp_cHouse hq k1, Nat.zero_le, Nat.reduceLeDiff, Nat.reduceAdd, i1_0, rr_c3, zc9, oc9, zc10, oc10, zc11, oc11, zc12, oc12, zc13, oc13, zc15, oc15, Int32.lt_irrefl, Nat.zero_lt_one, Rt_cons, Rt_void, isB_0, isB_1, isB_b, true_and, and_true, cats_nil, cats_int, cats_ref, and_self, if_true, if_false, ite_self, le_nlt, ite_not, Rt_nil, bI_f (isH0 (h := h))]
  · simp only [aX8_write_0, aX8_write_1, aX8_write_2, aX8_write_5, aX8_write_8, aX8_write_10, sp_mHouse le07 l1, Nat.zero_le, Nat.reduceLeDiff, Nat.reduceAdd, i1_0, rr_c3, zc9, oc9, zc10, oc10, zc11, oc11, zc12, oc12, zc13, oc13, zc15, oc15, Int32.lt_irrefl, Nat.zero_lt_one, Rt_cons, Rt_void, isB_0, isB_1, isB_b, true_and, and_true, cats_nil, cats_int, cats_ref, and_self, if_true, if_false, ite_self, le_nlt, ite_not, Rt_nil, bI_f (isH0 (h := h))]
theorem z_swap (h k : Int32) : SimZ mX7_swap mX8_swap [.int h, .int k] := by
  refine Z_of (Lc := [.ref (ad 0 0), .int h, .int k]) (Lm := [.ref (ad 29 0), .int h, .int k]) rfl rfl (fun σ hR => ?_)
  obtain ⟨t0, s0, ⟨⟨l0, l1, l2⟩, ⟨k0, k1, k2⟩, hne⟩, ⟨cs, w0, w1, w2, w3⟩, ⟨⟨e1, e2⟩, ⟨b1, b2⟩⟩, ⟨p1, ⟨px, p2, p3⟩, p4⟩, im⟩ := id hR
  have hq := rr_lt (σ 9 0 0)
  refine ⟨σ, σ, -1000000001, ?_, ?_, Or.inr hR⟩
  · simp only [aX7_swap_0, aX7_swap_1, aX7_swap_4, aX7_swap_7, aX7_swap_8, aX7_swap_11, aX7_swap_14, aX7_swap_15, aX7_swap_18, aX7_swap_21, aX7_swap_22, aX7_swap_25, aX7_swap_28, aX7_swap_29, aX7_swap_30, aX7_swap_33, aX7_swap_35, sp_cHouse hq k1, Nat.zero_le, Nat.reduceLeDiff, Nat.reduceAdd, i1_0, rr_c3, zc9, oc9, zc10, oc10, zc11, oc11, zc12, oc12, zc13, oc13, zc15, oc15, Int32.lt_irrefl, Nat.zero_lt_one, Rt_cons, Rt_void, isB_0, isB_1, isB_b, true_and, and_true, cats_nil, cats_int, cats_ref, and_self, if_true, if_false, ite_self, le_nlt, ite_not, Rt_nil, bI_f (isH0 (h := h))]
  · simp only [aX8_swap_0, aX8_swap_1, aX8_swap_2, aX8_swap_5, aX8_swap_8, aX8_swap_9, aX8_swap_10, aX8_swap_13, aX8_swap_16, aX8_swap_17, aX8_swap_18, aX8_swap_21, aX8_swap_23, sp_mHouse le07 l1, Nat.zero_le, Nat.reduceLeDiff, Nat.reduceAdd, i1_0, rr_c3, zc9, oc9, zc10, oc10, zc11, oc11, zc12, oc12, zc13, oc13, zc15, oc15, Int32.lt_irrefl, Nat.zero_lt_one, Rt_cons, Rt_void, isB_0, isB_1, isB_b, true_and, and_true, cats_nil, cats_int, cats_ref, and_self, if_true, if_false, ite_self, le_nlt, ite_not, Rt_nil, bI_f (isH0 (h := h))]
theorem z_gull (h x : Int32) : SimZ mX7_gull mX8_gull [.int h, .int x] := by
  refine Z_of (Lc := [.ref (ad 0 0), .int h, .int x]) (Lm := [.ref (ad 29 0), .int h, .int x]) rfl rfl (fun σ hR => ?_)
  obtain ⟨t0, s0, ⟨⟨l0, l1, l2⟩, ⟨k0, k1, k2⟩, hne⟩, ⟨cs, w0, w1, w2, w3⟩, ⟨⟨e1, e2⟩, ⟨b1, b2⟩⟩, ⟨p1, ⟨px, p2, p3⟩, p4⟩, im⟩ := id hR
  have hq := rr_lt (σ 9 0 0)
  refine ⟨σ, σ, -1000000001, ?_, ?_, Or.inr hR⟩
  · simp only [aX7_gull_0, aX7_gull_1, aX7_gull_4, aX7_gull_7, aX7_gull_8, aX7_gull_11, aX7_gull_14, aX7_gull_16, sp_cGull hq k2, Nat.zero_le, Nat.reduceLeDiff, Nat.reduceAdd, i1_0, rr_c3, zc9, oc9, zc10, oc10, zc11, oc11, zc12, oc12, zc13, oc13, zc15, oc15, Int32.lt_irrefl, Nat.zero_lt_one, Rt_cons, Rt_void, isB_0, isB_1, isB_b, true_and, and_true, cats_nil, cats_int, cats_ref, and_self, if_true, if_false, ite_self, le_nlt, ite_not, Rt_nil, bI_f (isH0 (h := h))]
  · simp only [aX8_gull_0, aX8_gull_1, aX8_gull_2, aX8_gull_5, aX8_gull_8, aX8_gull_10, sp_mGull le07 l2, Nat.zero_le, Nat.reduceLeDiff, Nat.reduceAdd, i1_0, rr_c3, zc9, oc9, zc10, oc10, zc11, oc11, zc12, oc12, zc13, oc13, zc15, oc15, Int32.lt_irrefl, Nat.zero_lt_one, Rt_cons, Rt_void, isB_0, isB_1, isB_b, true_and, and_true, cats_nil, cats_int, cats_ref, and_self, if_true, if_false, ite_self, le_nlt, ite_not, Rt_nil, bI_f (isH0 (h := h))]
theorem z_home (h : Int32) : SimZ mX7_home mX8_home [.int h] := by
  refine Z_of (Lc := [.ref (ad 0 0), .int h, .null, .null]) (Lm := [.ref (ad 29 0), .int h, .null, .null]) rfl rfl (fun σ hR => ?_)
  obtain ⟨t0, s0, ⟨⟨l0, l1, l2⟩, ⟨k0, k1, k2⟩, hne⟩, ⟨cs, w0, w1, w2, w3⟩, ⟨⟨e1, e2⟩, ⟨b1, b2⟩⟩, ⟨p1, ⟨px, p2, p3⟩, p4⟩, im⟩ := id hR
  have hq := rr_lt (σ 9 0 0)
  refine ⟨σ, σ, -1000000001, ?_, ?_, Or.inr hR⟩
  · simp only [aX7_home_0, aX7_home_1, aX7_home_4, aX7_home_7, aX7_home_8, aX7_home_11, aX7_home_14, aX7_home_16, sp_cGull hq k2, Nat.zero_le, Nat.reduceLeDiff, Nat.reduceAdd, i1_0, rr_c3, zc9, oc9, zc10, oc10, zc11, oc11, zc12, oc12, zc13, oc13, zc15, oc15, Int32.lt_irrefl, Nat.zero_lt_one, Rt_cons, Rt_void, isB_0, isB_1, isB_b, true_and, and_true, cats_nil, cats_int, cats_ref, and_self, if_true, if_false, ite_self, le_nlt, ite_not, Rt_nil, bI_f (isH0 (h := h))]
  · simp only [aX8_home_0, aX8_home_1, aX8_home_2, aX8_home_5, aX8_home_8, aX8_home_10, sp_mGull le07 l2, Nat.zero_le, Nat.reduceLeDiff, Nat.reduceAdd, i1_0, rr_c3, zc9, oc9, zc10, oc10, zc11, oc11, zc12, oc12, zc13, oc13, zc15, oc15, Int32.lt_irrefl, Nat.zero_lt_one, Rt_cons, Rt_void, isB_0, isB_1, isB_b, true_and, and_true, cats_nil, cats_int, cats_ref, and_self, if_true, if_false, ite_self, le_nlt, ite_not, Rt_nil, bI_f (isH0 (h := h))]
theorem z_hear (h k b : Int32) : SimZ mX7_hear mX8_hear [.int h, .int k, .int b] := by
  refine Z_of (Lc := [.ref (ad 0 0), .int h, .int k, .int b]) (Lm := [.ref (ad 29 0), .int h, .int k, .int b]) rfl rfl (fun σ hR => ?_)
  obtain ⟨t0, s0, ⟨⟨l0, l1, l2⟩, ⟨k0, k1, k2⟩, hne⟩, ⟨cs, w0, w1, w2, w3⟩, ⟨⟨e1, e2⟩, ⟨b1, b2⟩⟩, ⟨p1, ⟨px, p2, p3⟩, p4⟩, im⟩ := id hR
  have hq := rr_lt (σ 9 0 0)
  refine ⟨σ, σ, -1000000001, ?_, ?_, Or.inr hR⟩
  · simp only [aX7_hear_0, aX7_hear_1, aX7_hear_4, aX7_hear_7, aX7_hear_8, aX7_hear_11, aX7_hear_14, aX7_hear_15, aX7_hear_18, aX7_hear_21, aX7_hear_22, aX7_hear_25, aX7_hear_28, aX7_hear_30, sp_cGull hq k2, Nat.zero_le, Nat.reduceLeDiff, Nat.reduceAdd, i1_0, rr_c3, zc9, oc9, zc10, oc10, zc11, oc11, zc12, oc12, zc13, oc13, zc15, oc15, Int32.lt_irrefl, Nat.zero_lt_one, Rt_cons, Rt_void, isB_0, isB_1, isB_b, true_and, and_true, cats_nil, cats_int, cats_ref, and_self, if_true, if_false, ite_self, le_nlt, ite_not, Rt_nil, bI_f (isH0 (h := h))]
  · simp only [aX8_hear_0, aX8_hear_1, aX8_hear_2, aX8_hear_5, aX8_hear_8, aX8_hear_9, aX8_hear_10, aX8_hear_13, aX8_hear_16, aX8_hear_18, sp_mGull le07 l2, Nat.zero_le, Nat.reduceLeDiff, Nat.reduceAdd, i1_0, rr_c3, zc9, oc9, zc10, oc10, zc11, oc11, zc12, oc12, zc13, oc13, zc15, oc15, Int32.lt_irrefl, Nat.zero_lt_one, Rt_cons, Rt_void, isB_0, isB_1, isB_b, true_and, and_true, cats_nil, cats_int, cats_ref, and_self, if_true, if_false, ite_self, le_nlt, ite_not, Rt_nil, bI_f (isH0 (h := h))]
theorem z_lend (n : Int32) : SimZ mX7_lend mX8_lend [.int n] := by
  refine Z_of (Lc := [.ref (ad 0 0), .int n]) (Lm := [.ref (ad 29 0), .int n]) rfl rfl (fun σ hR => ?_)
  obtain ⟨t0, s0, ⟨⟨l0, l1, l2⟩, ⟨k0, k1, k2⟩, hne⟩, ⟨cs, w0, w1, w2, w3⟩, ⟨⟨e1, e2⟩, ⟨b1, b2⟩⟩, ⟨p1, ⟨px, p2, p3⟩, p4⟩, im⟩ := id hR
  have hq := rr_lt (σ 9 0 0)
  by_cases ho : n < 1 ∨ 999 < n
  · refine ⟨σ, σ, -1000000002, ?_, ?_, Or.inr hR⟩
    · simp only [aX7_lend_0, aX7_lend_1, aX7_lend_2, aX7_lend_5, aX7_lend_8, aX7_lend_11, aX7_lend_13, aX7_lend_14, aX7_lend_15, aX7_lend_18, aX7_lend_21, aX7_lend_24, aX7_lend_27, aX7_lend_29, aX7_lend_30, aX7_lend_31, aX7_lend_34, aX7_lend_35, aX7_lend_38, aX7_lend_41, aX7_lend_42, aX7_lend_45, aX7_lend_46, aX7_lend_49, aX7_lend_50, aX7_lend_53, aX7_lend_56, sp_isOutside, Nat.zero_le, Nat.reduceLeDiff, Nat.reduceAdd, i1_0, rr_c3, zc9, oc9, zc10, oc10, zc11, oc11, zc12, oc12, zc13, oc13, zc15, oc15, Int32.lt_irrefl, Nat.zero_lt_one, Rt_cons, Rt_void, isB_0, isB_1, isB_b, true_and, and_true, cats_nil, cats_int, cats_ref, and_self, if_true, if_false, ite_self, le_nlt, ite_not, Rt_nil, bI_t ho]
    · simp only [aX8_lend_0, aX8_lend_1, aX8_lend_2, aX8_lend_5, aX8_lend_8, aX8_lend_11, aX8_lend_13, aX8_lend_14, aX8_lend_15, aX8_lend_18, aX8_lend_21, aX8_lend_23, aX8_lend_24, aX8_lend_25, aX8_lend_28, aX8_lend_29, aX8_lend_32, aX8_lend_33, aX8_lend_36, aX8_lend_37, aX8_lend_40, aX8_lend_41, aX8_lend_42, aX8_lend_43, aX8_lend_44, aX8_lend_47, aX8_lend_48, aX8_lend_49, aX8_lend_52, aX8_lend_53, aX8_lend_54, sp_in, Nat.zero_le, Nat.reduceLeDiff, Nat.reduceAdd, i1_0, rr_c3, zc9, oc9, zc10, oc10, zc11, oc11, zc12, oc12, zc13, oc13, zc15, oc15, Int32.lt_irrefl, Nat.zero_lt_one, Rt_cons, Rt_void, isB_0, isB_1, isB_b, true_and, and_true, cats_nil, cats_int, cats_ref, and_self, if_true, if_false, ite_self, le_nlt, ite_not, Rt_nil, bI_f (show ¬ (¬ n < 1 ∧ ¬ 999 < n) from fun z => ho.elim z.1 z.2)]
  · have hin := not_out.mp ho
    refine ⟨σ, σ, -1000000003, ?_, ?_, Or.inr hR⟩
    · simp only [aX7_lend_0, aX7_lend_1, aX7_lend_2, aX7_lend_5, aX7_lend_8, aX7_lend_11, aX7_lend_13, aX7_lend_14, aX7_lend_15, aX7_lend_18, aX7_lend_21, aX7_lend_24, aX7_lend_27, aX7_lend_29, aX7_lend_30, aX7_lend_31, aX7_lend_34, aX7_lend_35, aX7_lend_38, aX7_lend_41, aX7_lend_42, aX7_lend_45, aX7_lend_46, aX7_lend_49, aX7_lend_50, aX7_lend_53, aX7_lend_56, sp_isOutside, sp_cTold le012 hq k0, Nat.zero_le, Nat.reduceLeDiff, Nat.reduceAdd, i1_0, rr_c3, zc9, oc9, zc10, oc10, zc11, oc11, zc12, oc12, zc13, oc13, zc15, oc15, Int32.lt_irrefl, Nat.zero_lt_one, Rt_cons, Rt_void, isB_0, isB_1, isB_b, true_and, and_true, cats_nil, cats_int, cats_ref, and_self, if_true, if_false, ite_self, le_nlt, ite_not, Rt_nil, bI_f ho, bI_f nl00]
    · simp only [aX8_lend_0, aX8_lend_1, aX8_lend_2, aX8_lend_5, aX8_lend_8, aX8_lend_11, aX8_lend_13, aX8_lend_14, aX8_lend_15, aX8_lend_18, aX8_lend_21, aX8_lend_23, aX8_lend_24, aX8_lend_25, aX8_lend_28, aX8_lend_29, aX8_lend_32, aX8_lend_33, aX8_lend_36, aX8_lend_37, aX8_lend_40, aX8_lend_41, aX8_lend_42, aX8_lend_43, aX8_lend_44, aX8_lend_47, aX8_lend_48, aX8_lend_49, aX8_lend_52, aX8_lend_53, aX8_lend_54, sp_in, sp_mTold le012 l0, Nat.zero_le, Nat.reduceLeDiff, Nat.reduceAdd, i1_0, rr_c3, zc9, oc9, zc10, oc10, zc11, oc11, zc12, oc12, zc13, oc13, zc15, oc15, Int32.lt_irrefl, Nat.zero_lt_one, Rt_cons, Rt_void, isB_0, isB_1, isB_b, true_and, and_true, cats_nil, cats_int, cats_ref, and_self, if_true, if_false, ite_self, le_nlt, ite_not, Rt_nil, bI_t hin, bI_f nl00]
theorem z_ahead (x : Int32) : SimZ mX7_ahead mX8_ahead [.int x] := by
  refine Z_of (Lc := [.ref (ad 0 0), .int x]) (Lm := [.ref (ad 29 0), .int x]) rfl rfl (fun σ hR => ?_)
  obtain ⟨t0, s0, ⟨⟨l0, l1, l2⟩, ⟨k0, k1, k2⟩, hne⟩, ⟨cs, w0, w1, w2, w3⟩, ⟨⟨e1, e2⟩, ⟨b1, b2⟩⟩, ⟨p1, ⟨px, p2, p3⟩, p4⟩, im⟩ := id hR
  have hq := rr_lt (σ 9 0 0)
  by_cases ho : x < 0 ∨ 60 < x
  · refine ⟨σ, σ, -1000000002, ?_, ?_, Or.inr hR⟩
    · simp only [aX7_ahead_0, aX7_ahead_1, aX7_ahead_2, aX7_ahead_4, aX7_ahead_7, aX7_ahead_10, aX7_ahead_12, sp_isOutside, Nat.zero_le, Nat.reduceLeDiff, Nat.reduceAdd, i1_0, rr_c3, zc9, oc9, zc10, oc10, zc11, oc11, zc12, oc12, zc13, oc13, zc15, oc15, Int32.lt_irrefl, Nat.zero_lt_one, Rt_cons, Rt_void, isB_0, isB_1, isB_b, true_and, and_true, cats_nil, cats_int, cats_ref, and_self, if_true, if_false, ite_self, le_nlt, ite_not, Rt_nil, bI_t ho]
    · simp only [aX8_ahead_0, aX8_ahead_1, aX8_ahead_2, aX8_ahead_4, aX8_ahead_7, aX8_ahead_10, aX8_ahead_12, sp_in, Nat.zero_le, Nat.reduceLeDiff, Nat.reduceAdd, i1_0, rr_c3, zc9, oc9, zc10, oc10, zc11, oc11, zc12, oc12, zc13, oc13, zc15, oc15, Int32.lt_irrefl, Nat.zero_lt_one, Rt_cons, Rt_void, isB_0, isB_1, isB_b, true_and, and_true, cats_nil, cats_int, cats_ref, and_self, if_true, if_false, ite_self, le_nlt, ite_not, Rt_nil, bI_f (show ¬ (¬ x < 0 ∧ ¬ 60 < x) from fun z => ho.elim z.1 z.2)]
  · have hin := not_out.mp ho
    refine ⟨σ, σ, -1000000003, ?_, ?_, Or.inr hR⟩
    · simp only [aX7_ahead_0, aX7_ahead_1, aX7_ahead_2, aX7_ahead_4, aX7_ahead_7, aX7_ahead_10, aX7_ahead_12, aX7_ahead_13, aX7_ahead_14, aX7_ahead_17, aX7_ahead_20, aX7_ahead_23, aX7_ahead_26, aX7_ahead_27, aX7_ahead_30, aX7_ahead_33, aX7_ahead_34, aX7_ahead_37, aX7_ahead_40, aX7_ahead_41, aX7_ahead_42, aX7_ahead_45, aX7_ahead_48, aX7_ahead_50, sp_isOutside, sp_cTold le012 hq k0, Nat.zero_le, Nat.reduceLeDiff, Nat.reduceAdd, i1_0, rr_c3, zc9, oc9, zc10, oc10, zc11, oc11, zc12, oc12, zc13, oc13, zc15, oc15, Int32.lt_irrefl, Nat.zero_lt_one, Rt_cons, Rt_void, isB_0, isB_1, isB_b, true_and, and_true, cats_nil, cats_int, cats_ref, and_self, if_true, if_false, ite_self, le_nlt, ite_not, Rt_nil, bI_f ho, bI_f nl00]
    · simp only [aX8_ahead_0, aX8_ahead_1, aX8_ahead_2, aX8_ahead_4, aX8_ahead_7, aX8_ahead_10, aX8_ahead_12, aX8_ahead_13, aX8_ahead_14, aX8_ahead_17, aX8_ahead_20, aX8_ahead_21, aX8_ahead_24, aX8_ahead_25, aX8_ahead_28, aX8_ahead_29, aX8_ahead_30, aX8_ahead_31, aX8_ahead_32, aX8_ahead_33, aX8_ahead_36, aX8_ahead_37, aX8_ahead_38, aX8_ahead_39, aX8_ahead_40, aX8_ahead_43, aX8_ahead_45, sp_in, sp_mTold le012 l0, Nat.zero_le, Nat.reduceLeDiff, Nat.reduceAdd, i1_0, rr_c3, zc9, oc9, zc10, oc10, zc11, oc11, zc12, oc12, zc13, oc13, zc15, oc15, Int32.lt_irrefl, Nat.zero_lt_one, Rt_cons, Rt_void, isB_0, isB_1, isB_b, true_and, and_true, cats_nil, cats_int, cats_ref, and_self, if_true, if_false, ite_self, le_nlt, ite_not, Rt_nil, bI_t hin, bI_f nl00]
theorem z_day (n : Int32) : SimZ mX7_day mX8_day [.int n] := by
  refine Z_of (Lc := [.ref (ad 0 0), .int n, .null, .null]) (Lm := [.ref (ad 29 0), .int n, .null]) rfl rfl (fun σ hR => ?_)
  obtain ⟨t0, s0, ⟨⟨l0, l1, l2⟩, ⟨k0, k1, k2⟩, hne⟩, ⟨cs, w0, w1, w2, w3⟩, ⟨⟨e1, e2⟩, ⟨b1, b2⟩⟩, ⟨p1, ⟨px, p2, p3⟩, p4⟩, im⟩ := id hR
  have hq := rr_lt (σ 9 0 0)
  have n2 : ¬ (-1000000002 : Int32) = 0 := by decide
  have n3 : ¬ (-1000000003 : Int32) = 0 := by decide
  have e9 : σ 9 0 1 = nI 0 := cs.1
  by_cases ho : n < 1 ∨ 30 < n
  · refine ⟨σ, σ, -1000000002, ?_, ?_, Or.inr hR⟩
    · simp only [aX7_day_0, aX7_day_1, aX7_day_2, aX7_day_5, aX7_day_6, aX7_day_7, aX7_day_10, aX7_day_11, sp_refusal le012 (show 0 ≤ 10000 by decide) k0 e9, if_pos ho, Nat.zero_le, Nat.reduceLeDiff, Nat.reduceAdd, i1_0, rr_c3, zc9, oc9, zc10, oc10, zc11, oc11, zc12, oc12, zc13, oc13, zc15, oc15, Int32.lt_irrefl, Nat.zero_lt_one, Rt_cons, Rt_void, isB_0, isB_1, isB_b, true_and, and_true, cats_nil, cats_int, cats_ref, and_self, if_true, if_false, ite_self, le_nlt, ite_not, Rt_nil, n2]
    · simp only [aX8_day_0, aX8_day_1, aX8_day_2, aX8_day_4, aX8_day_7, aX8_day_10, aX8_day_12, sp_in, Nat.zero_le, Nat.reduceLeDiff, Nat.reduceAdd, i1_0, rr_c3, zc9, oc9, zc10, oc10, zc11, oc11, zc12, oc12, zc13, oc13, zc15, oc15, Int32.lt_irrefl, Nat.zero_lt_one, Rt_cons, Rt_void, isB_0, isB_1, isB_b, true_and, and_true, cats_nil, cats_int, cats_ref, and_self, if_true, if_false, ite_self, le_nlt, ite_not, Rt_nil, bI_f (show ¬ (¬ n < 1 ∧ ¬ 30 < n) from fun z => ho.elim z.1 z.2)]
  · have hin := not_out.mp ho
    refine ⟨σ, σ, -1000000003, ?_, ?_, Or.inr hR⟩
    · simp only [aX7_day_0, aX7_day_1, aX7_day_2, aX7_day_5, aX7_day_6, aX7_day_7, aX7_day_10, aX7_day_11, sp_refusal le012 (show 0 ≤ 10000 by decide) k0 e9, if_neg ho, if_pos (show (0 : Nat) = 0 from rfl), Nat.zero_le, Nat.reduceLeDiff, Nat.reduceAdd, i1_0, rr_c3, zc9, oc9, zc10, oc10, zc11, oc11, zc12, oc12, zc13, oc13, zc15, oc15, Int32.lt_irrefl, Nat.zero_lt_one, Rt_cons, Rt_void, isB_0, isB_1, isB_b, true_and, and_true, cats_nil, cats_int, cats_ref, and_self, if_true, if_false, ite_self, le_nlt, ite_not, Rt_nil, n3]
    · simp only [aX8_day_0, aX8_day_1, aX8_day_2, aX8_day_4, aX8_day_7, aX8_day_10, aX8_day_12, aX8_day_13, aX8_day_14, aX8_day_17, aX8_day_20, aX8_day_22, sp_in, sp_mTold le012 l0, Nat.zero_le, Nat.reduceLeDiff, Nat.reduceAdd, i1_0, rr_c3, zc9, oc9, zc10, oc10, zc11, oc11, zc12, oc12, zc13, oc13, zc15, oc15, Int32.lt_irrefl, Nat.zero_lt_one, Rt_cons, Rt_void, isB_0, isB_1, isB_b, true_and, and_true, cats_nil, cats_int, cats_ref, and_self, if_true, if_false, ite_self, le_nlt, ite_not, Rt_nil, bI_t hin, bI_f nl00]
theorem z_drift (n : Int32) : SimZ mX7_drift mX8_drift [.int n] := by
  refine Z_of (Lc := [.ref (ad 0 0), .int n, .null, .null]) (Lm := [.ref (ad 29 0), .int n, .null]) rfl rfl (fun σ hR => ?_)
  obtain ⟨t0, s0, ⟨⟨l0, l1, l2⟩, ⟨k0, k1, k2⟩, hne⟩, ⟨cs, w0, w1, w2, w3⟩, ⟨⟨e1, e2⟩, ⟨b1, b2⟩⟩, ⟨p1, ⟨px, p2, p3⟩, p4⟩, im⟩ := id hR
  have hq := rr_lt (σ 9 0 0)
  have n2 : ¬ (-1000000002 : Int32) = 0 := by decide
  have n3 : ¬ (-1000000003 : Int32) = 0 := by decide
  have e9 : σ 9 0 1 = nI 0 := cs.1
  by_cases ho : n < 1 ∨ 30 < n
  · refine ⟨σ, σ, -1000000002, ?_, ?_, Or.inr hR⟩
    · simp only [aX7_drift_0, aX7_drift_1, aX7_drift_2, aX7_drift_5, aX7_drift_6, aX7_drift_7, aX7_drift_10, aX7_drift_11, sp_refusal le012 (show 0 ≤ 10000 by decide) k0 e9, if_pos ho, Nat.zero_le, Nat.reduceLeDiff, Nat.reduceAdd, i1_0, rr_c3, zc9, oc9, zc10, oc10, zc11, oc11, zc12, oc12, zc13, oc13, zc15, oc15, Int32.lt_irrefl, Nat.zero_lt_one, Rt_cons, Rt_void, isB_0, isB_1, isB_b, true_and, and_true, cats_nil, cats_int, cats_ref, and_self, if_true, if_false, ite_self, le_nlt, ite_not, Rt_nil, n2]
    · simp only [aX8_drift_0, aX8_drift_1, aX8_drift_2, aX8_drift_4, aX8_drift_7, aX8_drift_10, aX8_drift_12, sp_in, Nat.zero_le, Nat.reduceLeDiff, Nat.reduceAdd, i1_0, rr_c3, zc9, oc9, zc10, oc10, zc11, oc11, zc12, oc12, zc13, oc13, zc15, oc15, Int32.lt_irrefl, Nat.zero_lt_one, Rt_cons, Rt_void, isB_0, isB_1, isB_b, true_and, and_true, cats_nil, cats_int, cats_ref, and_self, if_true, if_false, ite_self, le_nlt, ite_not, Rt_nil, bI_f (show ¬ (¬ n < 1 ∧ ¬ 30 < n) from fun z => ho.elim z.1 z.2)]
  · have hin := not_out.mp ho
    refine ⟨σ, σ, -1000000003, ?_, ?_, Or.inr hR⟩
    · simp only [aX7_drift_0, aX7_drift_1, aX7_drift_2, aX7_drift_5, aX7_drift_6, aX7_drift_7, aX7_drift_10, aX7_drift_11, sp_refusal le012 (show 0 ≤ 10000 by decide) k0 e9, if_neg ho, if_pos (show (0 : Nat) = 0 from rfl), Nat.zero_le, Nat.reduceLeDiff, Nat.reduceAdd, i1_0, rr_c3, zc9, oc9, zc10, oc10, zc11, oc11, zc12, oc12, zc13, oc13, zc15, oc15, Int32.lt_irrefl, Nat.zero_lt_one, Rt_cons, Rt_void, isB_0, isB_1, isB_b, true_and, and_true, cats_nil, cats_int, cats_ref, and_self, if_true, if_false, ite_self, le_nlt, ite_not, Rt_nil, n3]
    · simp only [aX8_drift_0, aX8_drift_1, aX8_drift_2, aX8_drift_4, aX8_drift_7, aX8_drift_10, aX8_drift_12, aX8_drift_13, aX8_drift_14, aX8_drift_17, aX8_drift_20, aX8_drift_22, sp_in, sp_mTold le012 l0, Nat.zero_le, Nat.reduceLeDiff, Nat.reduceAdd, i1_0, rr_c3, zc9, oc9, zc10, oc10, zc11, oc11, zc12, oc12, zc13, oc13, zc15, oc15, Int32.lt_irrefl, Nat.zero_lt_one, Rt_cons, Rt_void, isB_0, isB_1, isB_b, true_and, and_true, cats_nil, cats_int, cats_ref, and_self, if_true, if_false, ite_self, le_nlt, ite_not, Rt_nil, bI_t hin, bI_f nl00]
theorem z_logged (i x : Int32) : SimZ mX7_logged mX8_logged [.int i, .int x] := by
  refine Z_of (Lc := [.ref (ad 0 0), .int i, .int x]) (Lm := [.ref (ad 29 0), .int i, .int x]) rfl rfl (fun σ hR => ?_)
  obtain ⟨t0, s0, ⟨⟨l0, l1, l2⟩, ⟨k0, k1, k2⟩, hne⟩, ⟨cs, w0, w1, w2, w3⟩, ⟨⟨e1, e2⟩, ⟨b1, b2⟩⟩, ⟨p1, ⟨px, p2, p3⟩, p4⟩, im⟩ := id hR
  have hq := rr_lt (σ 9 0 0)
  by_cases ho : x < 0 ∨ 2 < x
  · refine ⟨σ, σ, -1000000002, ?_, ?_, Or.inr hR⟩
    · simp only [aX7_logged_0, aX7_logged_1, aX7_logged_2, aX7_logged_3, aX7_logged_6, aX7_logged_9, aX7_logged_11, sp_isOutside, Nat.zero_le, Nat.reduceLeDiff, Nat.reduceAdd, i1_0, rr_c3, zc9, oc9, zc10, oc10, zc11, oc11, zc12, oc12, zc13, oc13, zc15, oc15, Int32.lt_irrefl, Nat.zero_lt_one, Rt_cons, Rt_void, isB_0, isB_1, isB_b, true_and, and_true, cats_nil, cats_int, cats_ref, and_self, if_true, if_false, ite_self, le_nlt, ite_not, Rt_nil, bI_t ho]
    · simp only [aX8_logged_0, aX8_logged_1, aX8_logged_2, aX8_logged_3, aX8_logged_6, aX8_logged_9, aX8_logged_11, sp_in, Nat.zero_le, Nat.reduceLeDiff, Nat.reduceAdd, i1_0, rr_c3, zc9, oc9, zc10, oc10, zc11, oc11, zc12, oc12, zc13, oc13, zc15, oc15, Int32.lt_irrefl, Nat.zero_lt_one, Rt_cons, Rt_void, isB_0, isB_1, isB_b, true_and, and_true, cats_nil, cats_int, cats_ref, and_self, if_true, if_false, ite_self, le_nlt, ite_not, Rt_nil, bI_f (show ¬ (¬ x < 0 ∧ ¬ 2 < x) from fun z => ho.elim z.1 z.2)]
  · have hin := not_out.mp ho
    have e4 : σ 9 0 4 = nI 0 := cs.2.2.2.1
    refine ⟨σ, σ, -1, ?_, ?_, Or.inr hR⟩
    · by_cases h0 : i < 0
      · simp only [aX7_logged_0, aX7_logged_1, aX7_logged_2, aX7_logged_3, aX7_logged_6, aX7_logged_9, aX7_logged_11, aX7_logged_12, aX7_logged_13, aX7_logged_16, aX7_logged_17, aX7_logged_18, aX7_logged_21, aX5_cryAt_0, aX5_cryAt_1, aX5_cryAt_4, aX5_cryAt_5, aX5_cryAt_6, aX5_cryAt_9, aX5_cryAt_12, aX5_cryAt_13, sp_isOutside, Nat.zero_le, Nat.reduceLeDiff, Nat.reduceAdd, i1_0, rr_c3, zc9, oc9, zc10, oc10, zc11, oc11, zc12, oc12, zc13, oc13, zc15, oc15, Int32.lt_irrefl, Nat.zero_lt_one, Rt_cons, Rt_void, isB_0, isB_1, isB_b, true_and, and_true, cats_nil, cats_int, cats_ref, and_self, if_true, if_false, ite_self, le_nlt, ite_not, Rt_nil, bI_f ho, h0]
      · have h1 : ¬ i < nI 0 := h0
        simp only [aX7_logged_0, aX7_logged_1, aX7_logged_2, aX7_logged_3, aX7_logged_6, aX7_logged_9, aX7_logged_11, aX7_logged_12, aX7_logged_13, aX7_logged_16, aX7_logged_17, aX7_logged_18, aX7_logged_21, aX5_cryAt_0, aX5_cryAt_1, aX5_cryAt_4, aX5_cryAt_5, aX5_cryAt_6, aX5_cryAt_9, aX5_cryAt_12, aX5_cryAt_13, sp_isOutside, Nat.zero_le, Nat.reduceLeDiff, Nat.reduceAdd, i1_0, rr_c3, zc9, oc9, zc10, oc10, zc11, oc11, zc12, oc12, zc13, oc13, zc15, oc15, Int32.lt_irrefl, Nat.zero_lt_one, Rt_cons, Rt_void, isB_0, isB_1, isB_b, true_and, and_true, cats_nil, cats_int, cats_ref, and_self, if_true, if_false, ite_self, le_nlt, ite_not, Rt_nil, bI_f ho, h0, h1, e4]
    · simp only [aX8_logged_0, aX8_logged_1, aX8_logged_2, aX8_logged_3, aX8_logged_6, aX8_logged_9, aX8_logged_11, aX8_logged_12, aX8_logged_13, aX8_logged_14, aX8_logged_15, aX8_logged_18, aX8_logged_19, aX8_logged_20, aX8_logged_21, aX8_logged_22, aX8_logged_25, aX8_logged_28, aX8_logged_29, aX8_logged_32, aX8_logged_33, aX8_logged_34, aX8_logged_35, aX8_logged_36, aX8_logged_37, aX8_logged_38, aX8_logged_39, aX8_logged_40, aX8_logged_43, aX8_logged_44, sp_in, Nat.zero_le, Nat.reduceLeDiff, Nat.reduceAdd, i1_0, rr_c3, zc9, oc9, zc10, oc10, zc11, oc11, zc12, oc12, zc13, oc13, zc15, oc15, Int32.lt_irrefl, Nat.zero_lt_one, Rt_cons, Rt_void, isB_0, isB_1, isB_b, true_and, and_true, cats_nil, cats_int, cats_ref, and_self, if_true, if_false, ite_self, le_nlt, ite_not, Rt_nil, bI_t hin, aT_43, aN_43, cnt_43, v99.2.2.2, c3, w3, bI_f (fun z => isH0 ((isJ_m (N := 0) (h := i) (by omega)).mp z))]
theorem z_undo (x : Int32) : SimZ mX7_undo mX8_undo [.int x] := by
  refine Z_of (Lc := [.ref (ad 0 0), .int x]) (Lm := [.ref (ad 29 0), .int x]) rfl rfl (fun σ hR => ?_)
  obtain ⟨t0, s0, ⟨⟨l0, l1, l2⟩, ⟨k0, k1, k2⟩, hne⟩, ⟨cs, w0, w1, w2, w3⟩, ⟨⟨e1, e2⟩, ⟨b1, b2⟩⟩, ⟨p1, ⟨px, p2, p3⟩, p4⟩, im⟩ := id hR
  have hq := rr_lt (σ 9 0 0)
  by_cases ho : x < 1 ∨ 30 < x
  · refine ⟨σ, σ, -1000000002, ?_, ?_, Or.inr hR⟩
    · simp only [aX7_undo_0, aX7_undo_1, aX7_undo_2, aX7_undo_4, aX7_undo_7, aX7_undo_10, aX7_undo_12, sp_isOutside, Nat.zero_le, Nat.reduceLeDiff, Nat.reduceAdd, i1_0, rr_c3, zc9, oc9, zc10, oc10, zc11, oc11, zc12, oc12, zc13, oc13, zc15, oc15, Int32.lt_irrefl, Nat.zero_lt_one, Rt_cons, Rt_void, isB_0, isB_1, isB_b, true_and, and_true, cats_nil, cats_int, cats_ref, and_self, if_true, if_false, ite_self, le_nlt, ite_not, Rt_nil, bI_t ho]
    · simp only [aX8_undo_0, aX8_undo_1, aX8_undo_2, aX8_undo_4, aX8_undo_7, aX8_undo_10, aX8_undo_12, sp_in, Nat.zero_le, Nat.reduceLeDiff, Nat.reduceAdd, i1_0, rr_c3, zc9, oc9, zc10, oc10, zc11, oc11, zc12, oc12, zc13, oc13, zc15, oc15, Int32.lt_irrefl, Nat.zero_lt_one, Rt_cons, Rt_void, isB_0, isB_1, isB_b, true_and, and_true, cats_nil, cats_int, cats_ref, and_self, if_true, if_false, ite_self, le_nlt, ite_not, Rt_nil, bI_f (show ¬ (¬ x < 1 ∧ ¬ 30 < x) from fun z => ho.elim z.1 z.2)]
  · have hin := not_out.mp ho
    obtain ⟨hx0, hx1⟩ := hin
    have hn0 : ¬ x < 0 := fun z => hx0 (Int32.lt_trans z (by decide))
    obtain ⟨d, hd, rfl⟩ := nI_of2 (M := 30) (n := 30) (by decide) hn0 (Int32.not_lt.mp hx1)
    have hd1 : 1 ≤ d := by
      rcases Nat.lt_or_ge d 1 with q | q
      · exact absurd (show nI d < 1 from nI_lt (b := 1) q (by decide)) hx0
      · exact q
    have hlt : nI 0 < nI d := nI_lt (by omega) (by omega)
    refine ⟨σ, σ, -1000000003, ?_, ?_, Or.inr hR⟩
    · simp only [aX7_undo_0, aX7_undo_1, aX7_undo_2, aX7_undo_4, aX7_undo_7, aX7_undo_10, aX7_undo_12, aX7_undo_13, aX7_undo_14, aX7_undo_17, aX7_undo_18, aX7_undo_19, aX7_undo_22, aX7_undo_25, aX7_undo_28, aX7_undo_29, aX7_undo_32, aX7_undo_35, aX7_undo_38, aX7_undo_40, aX3_bringBack_0, aX3_bringBack_1, aX3_bringBack_2, aX3_bringBack_5, aX3_bringBack_6, aX3_bringBack_7, aX3_bringBack_10, aX3_bringBack_13, aX3_bringBack_14, sp_isOutside, Nat.zero_le, Nat.reduceLeDiff, Nat.reduceAdd, i1_0, rr_c3, zc9, oc9, zc10, oc10, zc11, oc11, zc12, oc12, zc13, oc13, zc15, oc15, Int32.lt_irrefl, Nat.zero_lt_one, Rt_cons, Rt_void, isB_0, isB_1, isB_b, true_and, and_true, cats_nil, cats_int, cats_ref, and_self, if_true, if_false, ite_self, le_nlt, ite_not, Rt_nil, bI_f ho, p1, hx0, hx1, or_self, bI_F, hlt, not_true_eq_false]
    · simp only [aX8_undo_0, aX8_undo_1, aX8_undo_2, aX8_undo_4, aX8_undo_7, aX8_undo_10, aX8_undo_12, aX8_undo_13, aX8_undo_14, aX8_undo_15, aX8_undo_18, aX8_undo_21, aX8_undo_23, sp_in, Nat.zero_le, Nat.reduceLeDiff, Nat.reduceAdd, i1_0, rr_c3, zc9, oc9, zc10, oc10, zc11, oc11, zc12, oc12, zc13, oc13, zc15, oc15, Int32.lt_irrefl, Nat.zero_lt_one, Rt_cons, Rt_void, isB_0, isB_1, isB_b, true_and, and_true, cats_nil, cats_int, cats_ref, and_self, if_true, if_false, ite_self, le_nlt, ite_not, Rt_nil, bI_t (show (¬ nI d < 1 ∧ ¬ 30 < nI d) from ⟨hx0, hx1⟩), p4, hlt, not_true_eq_false]
theorem z_sure (x y : Int32) : SimZ mX7_sure mX8_sure [.int x, .int y] := by
  refine Z_of (Lc := [.ref (ad 0 0), .int x, .int y, .null, .null, .null]) (Lm := [.ref (ad 29 0), .int x, .int y, .null, .null, .null]) rfl rfl (fun σ hR => ?_)
  by_cases ho : x < 0 ∨ 60 < x
  · refine ⟨σ, σ, -1000000002, ?_, ?_, Or.inr hR⟩
    · simp only [aX7_sure_0, aX7_sure_1, aX7_sure_2, aX7_sure_4, aX7_sure_7, aX7_sure_10, aX7_sure_11, aX7_sure_12, aX7_sure_14, aX7_sure_17, aX7_sure_20, aX7_sure_22, sp_isOutside, Nat.zero_le, Nat.reduceLeDiff, Nat.reduceAdd, i1_0, rr_c3, zc9, oc9, zc10, oc10, zc11, oc11, zc12, oc12, zc13, oc13, zc15, oc15, Int32.lt_irrefl, Nat.zero_lt_one, Rt_cons, Rt_void, isB_0, isB_1, isB_b, true_and, and_true, cats_nil, cats_int, cats_ref, and_self, if_true, if_false, ite_self, le_nlt, ite_not, Rt_nil, bI_t ho]
    · simp only [aX8_sure_0, aX8_sure_1, aX8_sure_2, aX8_sure_4, aX8_sure_7, aX8_sure_10, aX8_sure_11, aX8_sure_12, aX8_sure_14, aX8_sure_17, aX8_sure_20, aX8_sure_22, sp_in, Nat.zero_le, Nat.reduceLeDiff, Nat.reduceAdd, i1_0, rr_c3, zc9, oc9, zc10, oc10, zc11, oc11, zc12, oc12, zc13, oc13, zc15, oc15, Int32.lt_irrefl, Nat.zero_lt_one, Rt_cons, Rt_void, isB_0, isB_1, isB_b, true_and, and_true, cats_nil, cats_int, cats_ref, and_self, if_true, if_false, ite_self, le_nlt, ite_not, Rt_nil, bI_f (show ¬ (¬ x < 0 ∧ ¬ 60 < x) from fun z => ho.elim z.1 z.2)]
  · have hin := not_out.mp ho
    by_cases ho2 : y < 0 ∨ 100 < y
    · refine ⟨σ, σ, -1000000002, ?_, ?_, Or.inr hR⟩
      · simp only [aX7_sure_0, aX7_sure_1, aX7_sure_2, aX7_sure_4, aX7_sure_7, aX7_sure_10, aX7_sure_11, aX7_sure_12, aX7_sure_14, aX7_sure_17, aX7_sure_20, aX7_sure_22, sp_isOutside, Nat.zero_le, Nat.reduceLeDiff, Nat.reduceAdd, i1_0, rr_c3, zc9, oc9, zc10, oc10, zc11, oc11, zc12, oc12, zc13, oc13, zc15, oc15, Int32.lt_irrefl, Nat.zero_lt_one, Rt_cons, Rt_void, isB_0, isB_1, isB_b, true_and, and_true, cats_nil, cats_int, cats_ref, and_self, if_true, if_false, ite_self, le_nlt, ite_not, Rt_nil, bI_f ho, bI_t ho2]
      · simp only [aX8_sure_0, aX8_sure_1, aX8_sure_2, aX8_sure_4, aX8_sure_7, aX8_sure_10, aX8_sure_11, aX8_sure_12, aX8_sure_14, aX8_sure_17, aX8_sure_20, aX8_sure_22, sp_in, Nat.zero_le, Nat.reduceLeDiff, Nat.reduceAdd, i1_0, rr_c3, zc9, oc9, zc10, oc10, zc11, oc11, zc12, oc12, zc13, oc13, zc15, oc15, Int32.lt_irrefl, Nat.zero_lt_one, Rt_cons, Rt_void, isB_0, isB_1, isB_b, true_and, and_true, cats_nil, cats_int, cats_ref, and_self, if_true, if_false, ite_self, le_nlt, ite_not, Rt_nil, bI_t hin, bI_f (show ¬ (¬ y < 0 ∧ ¬ 100 < y) from fun z => ho2.elim z.1 z.2)]
    · have hin2 := not_out.mp ho2
      obtain ⟨t, ht, rfl⟩ := nI_of2 (M := 60) (n := 60) (by decide) hin.1 (Int32.not_lt.mp hin.2)
      have z0 : nI 0 = 0 := rfl
      refine ⟨σ, σ, (srF y t 1000000000).toInt32, ?_, ?_, Or.inr hR⟩
      · have := lp_csure (M := enc σ) (fs := []) (Q := fun X v => X = enc σ ∧ v = some (.int (srF y t 1000000000).toInt32)) (q := y) (l0 := .ref (ad 0 0)) ht t 0 1000000000 (by omega)
        rw [z0] at this
        simp only [aX7_sure_0, aX7_sure_1, aX7_sure_2, aX7_sure_4, aX7_sure_7, aX7_sure_10, aX7_sure_11, aX7_sure_12, aX7_sure_14, aX7_sure_17, aX7_sure_20, aX7_sure_22, aX7_sure_23, aX7_sure_26, aX7_sure_27, aX7_sure_28, sp_isOutside, Nat.zero_le, Nat.reduceLeDiff, Nat.reduceAdd, i1_0, rr_c3, zc9, oc9, zc10, oc10, zc11, oc11, zc12, oc12, zc13, oc13, zc15, oc15, Int32.lt_irrefl, Nat.zero_lt_one, Rt_cons, Rt_void, isB_0, isB_1, isB_b, true_and, and_true, cats_nil, cats_int, cats_ref, and_self, if_true, if_false, ite_self, le_nlt, ite_not, bI_f ho, bI_f ho2]
        rw [this]
        simp only [Nat.zero_le, Nat.reduceLeDiff, Nat.reduceAdd, i1_0, rr_c3, zc9, oc9, zc10, oc10, zc11, oc11, zc12, oc12, zc13, oc13, zc15, oc15, Int32.lt_irrefl, Nat.zero_lt_one, Rt_cons, Rt_void, isB_0, isB_1, isB_b, true_and, and_true, cats_nil, cats_int, cats_ref, and_self, if_true, if_false, ite_self, le_nlt, ite_not, Rt_nil]
      · have := lp_msure (M := enc σ) (fs := []) (Q := fun X v => X = enc σ ∧ v = some (.int (srF y t 1000000000).toInt32)) (q := y) (l0 := .ref (ad 29 0)) ht t 0 1000000000 (by omega)
        rw [z0] at this
        simp only [aX8_sure_0, aX8_sure_1, aX8_sure_2, aX8_sure_4, aX8_sure_7, aX8_sure_10, aX8_sure_11, aX8_sure_12, aX8_sure_14, aX8_sure_17, aX8_sure_20, aX8_sure_22, aX8_sure_23, aX8_sure_26, aX8_sure_27, aX8_sure_28, sp_in, Nat.zero_le, Nat.reduceLeDiff, Nat.reduceAdd, i1_0, rr_c3, zc9, oc9, zc10, oc10, zc11, oc11, zc12, oc12, zc13, oc13, zc15, oc15, Int32.lt_irrefl, Nat.zero_lt_one, Rt_cons, Rt_void, isB_0, isB_1, isB_b, true_and, and_true, cats_nil, cats_int, cats_ref, and_self, if_true, if_false, ite_self, le_nlt, ite_not, bI_t hin, bI_t hin2]
        rw [this]
        simp only [Nat.zero_le, Nat.reduceLeDiff, Nat.reduceAdd, i1_0, rr_c3, zc9, oc9, zc10, oc10, zc11, oc11, zc12, oc12, zc13, oc13, zc15, oc15, Int32.lt_irrefl, Nat.zero_lt_one, Rt_cons, Rt_void, isB_0, isB_1, isB_b, true_and, and_true, cats_nil, cats_int, cats_ref, and_self, if_true, if_false, ite_self, le_nlt, ite_not, Rt_nil]
theorem z_fault : SimZ mX7_fault mX8_fault [] := by
  refine Z_of (Lc := [.ref (ad 0 0)]) (Lm := [.ref (ad 29 0)]) rfl rfl (fun σ hR => ?_)
  obtain ⟨t0, s0, ⟨⟨l0, l1, l2⟩, ⟨k0, k1, k2⟩, hne⟩, ⟨cs, w0, w1, w2, w3⟩, ⟨⟨e1, e2⟩, ⟨b1, b2⟩⟩, ⟨p1, ⟨px, p2, p3⟩, p4⟩, im⟩ := id hR
  have hq := rr_lt (σ 9 0 0)
  refine ⟨σ, σ, σ 1 0 2, ?_, ?_, Or.inr hR⟩
  · simp only [aX7_fault_0, aX7_fault_1, aX7_fault_4, aX7_fault_7, Nat.zero_le, Nat.reduceLeDiff, Nat.reduceAdd, i1_0, rr_c3, zc9, oc9, zc10, oc10, zc11, oc11, zc12, oc12, zc13, oc13, zc15, oc15, Int32.lt_irrefl, Nat.zero_lt_one, Rt_cons, Rt_void, isB_0, isB_1, isB_b, true_and, and_true, cats_nil, cats_int, cats_ref, and_self, if_true, if_false, ite_self, le_nlt, ite_not, Rt_nil]
  · simp only [aX8_fault_0, aX8_fault_1, aX8_fault_4, Nat.zero_le, Nat.reduceLeDiff, Nat.reduceAdd, i1_0, rr_c3, zc9, oc9, zc10, oc10, zc11, oc11, zc12, oc12, zc13, oc13, zc15, oc15, Int32.lt_irrefl, Nat.zero_lt_one, Rt_cons, Rt_void, isB_0, isB_1, isB_b, true_and, and_true, cats_nil, cats_int, cats_ref, and_self, if_true, if_false, ite_self, le_nlt, ite_not, Rt_nil]
    rw [t0.2]
theorem z_judge : SimZ mX7_judge mX8_judge [] := by
  refine Z_of (Lc := [.ref (ad 0 0)]) (Lm := [.ref (ad 29 0), .null]) rfl rfl (fun σ hR => ?_)
  obtain ⟨t0, s0, ⟨⟨l0, l1, l2⟩, ⟨k0, k1, k2⟩, hne⟩, ⟨cs, w0, w1, w2, w3⟩, ⟨⟨e1, e2⟩, ⟨b1, b2⟩⟩, ⟨p1, ⟨px, p2, p3⟩, p4⟩, im⟩ := id hR
  have hq := rr_lt (σ 9 0 0)
  rw [nI_0] at b1 b2
  refine ⟨σ, σ, -1, ?_, ?_, Or.inr hR⟩
  · simp only [aX7_judge_0, aX7_judge_1, aX7_judge_4, aX7_judge_5, aX7_judge_8, aX7_judge_11, aX0_firstWrong_0, aX0_firstWrong_1, aX0_firstWrong_2, aX0_firstWrong_3, aX0_firstWrong_4, aX0_firstWrong_7, aX0_firstWrong_38, aX0_firstWrong_39, Nat.zero_le, Nat.reduceLeDiff, Nat.reduceAdd, i1_0, rr_c3, zc9, oc9, zc10, oc10, zc11, oc11, zc12, oc12, zc13, oc13, zc15, oc15, Int32.lt_irrefl, Nat.zero_lt_one, Rt_cons, Rt_void, isB_0, isB_1, isB_b, true_and, and_true, cats_nil, cats_int, cats_ref, and_self, if_true, if_false, ite_self, le_nlt, ite_not, Rt_nil, b1]
  · simp only [aX8_judge_0, aX8_judge_1, aX8_judge_2, aX8_judge_3, aX8_judge_4, aX8_judge_7, aX8_judge_43, aX8_judge_44, Nat.zero_le, Nat.reduceLeDiff, Nat.reduceAdd, i1_0, rr_c3, zc9, oc9, zc10, oc10, zc11, oc11, zc12, oc12, zc13, oc13, zc15, oc15, Int32.lt_irrefl, Nat.zero_lt_one, Rt_cons, Rt_void, isB_0, isB_1, isB_b, true_and, and_true, cats_nil, cats_int, cats_ref, and_self, if_true, if_false, ite_self, le_nlt, ite_not, Rt_nil, b2]
theorem NoE_F : NoE 0 wF := by decide
theorem bs_0 {p : Nat → Bool} : bs p 0 = 0 := rfl
theorem dbL_0 {w : F1} : dbL w 0 = 0 := rfl
theorem wsL_0 {w : F1} : wsL w 0 = -1 := rfl
theorem gapV_0 {w : F1} : gapV w 0 = 0 := rfl
theorem smN_0 {f : Nat → Nat} : smN f 0 = 0 := rfl
theorem z_told (x : Int32) : SimZ mX7_told mX8_told [.int x] := by
  refine Z_of (Lc := [.ref (ad 0 0), .int x]) (Lm := [.ref (ad 29 0), .int x]) rfl rfl (fun σ hR => ?_)
  obtain ⟨t0, s0, ⟨⟨l0, l1, l2⟩, ⟨k0, k1, k2⟩, hne⟩, ⟨cs, z0, z1, z2, z3⟩, ⟨⟨e1, e2⟩, ⟨b1, b2⟩⟩, ⟨p1, ⟨px, p2, p3⟩, p4⟩, im⟩ := id hR
  have hq := rr_lt (σ 9 0 0)
  have q2 := le07
  have hnE := NoE_F
  have h34 : (0 : Nat) < 34 := by decide
  by_cases ho : x < 0 ∨ 17 < x
  · have hd : x.toInt < 0 ∨ (17 : Int) < x.toInt := toI_out (a := 0) (b := 17) (by decide) ho
    refine ⟨σ, σ, -1000000002, ?_, ?_, Or.inr hR⟩
    · simp only [aX7_told_0, aX7_told_1_d hd, aX7_told_241, aX7_told_243, Nat.zero_le, Nat.reduceLeDiff, Nat.reduceAdd, i1_0, rr_c3, zc9, oc9, zc10, oc10, zc11, oc11, zc12, oc12, zc13, oc13, zc15, oc15, Int32.lt_irrefl, Nat.zero_lt_one, Rt_cons, Rt_void, isB_0, isB_1, isB_b, true_and, and_true, cats_nil, cats_int, cats_ref, and_self, if_true, if_false, ite_self, le_nlt, ite_not, Rt_nil]
    · simp only [aX8_told_0, aX8_told_1_d hd, aX8_told_181, aX8_told_183, Nat.zero_le, Nat.reduceLeDiff, Nat.reduceAdd, i1_0, rr_c3, zc9, oc9, zc10, oc10, zc11, oc11, zc12, oc12, zc13, oc13, zc15, oc15, Int32.lt_irrefl, Nat.zero_lt_one, Rt_cons, Rt_void, isB_0, isB_1, isB_b, true_and, and_true, cats_nil, cats_int, cats_ref, and_self, if_true, if_false, ite_self, le_nlt, ite_not, Rt_nil]
  · have hin := not_out.mp ho
    obtain ⟨t, ht, rfl⟩ := nI_of2 (M := 17) (n := 17) (by decide) hin.1 (Int32.not_lt.mp hin.2)
    obtain ⟨w0, w1, w2, w3, w4, w5, w6, w7, w8, w9, w10, w11, w12, w13, w14, w15, w16, w17⟩ := toldNI
    rcases (show t = 0 ∨ t = 1 ∨ t = 2 ∨ t = 3 ∨ t = 4 ∨ t = 5 ∨ t = 6 ∨ t = 7 ∨ t = 8 ∨ t = 9 ∨ t = 10 ∨ t = 11 ∨ t = 12 ∨ t = 13 ∨ t = 14 ∨ t = 15 ∨ t = 16 ∨ t = 17 by omega) with rfl | rfl | rfl | rfl | rfl | rfl | rfl | rfl | rfl | rfl | rfl | rfl | rfl | rfl | rfl | rfl | rfl | rfl
    · refine ⟨σ, σ, nI 0, ?_, ?_, Or.inr hR⟩
      · rw [w0]; simp only [aX7_told_0, aX7_told_1_0, aX7_told_88, aX7_told_89, aX7_told_92, aX7_told_95, aX7_told_98, Nat.zero_le, Nat.reduceLeDiff, Nat.reduceAdd, i1_0, rr_c3, zc9, oc9, zc10, oc10, zc11, oc11, zc12, oc12, zc13, oc13, zc15, oc15, Int32.lt_irrefl, Nat.zero_lt_one, Rt_cons, Rt_void, isB_0, isB_1, isB_b, true_and, and_true, cats_nil, cats_int, cats_ref, and_self, if_true, if_false, ite_self, le_nlt, ite_not, Rt_nil, k0]; rfl
      · rw [w0]; simp only [aX8_told_0, aX8_told_1_0, aX8_told_88, aX8_told_89, aX8_told_92, aX8_told_93, aX8_told_94, Nat.zero_le, Nat.reduceLeDiff, Nat.reduceAdd, i1_0, rr_c3, zc9, oc9, zc10, oc10, zc11, oc11, zc12, oc12, zc13, oc13, zc15, oc15, Int32.lt_irrefl, Nat.zero_lt_one, Rt_cons, Rt_void, isB_0, isB_1, isB_b, true_and, and_true, cats_nil, cats_int, cats_ref, and_self, if_true, if_false, ite_self, le_nlt, ite_not, Rt_nil, aT_31, aN_31, cnt_31, v3.1, c0, l0]; rfl
    · refine ⟨σ, σ, nI 0, ?_, ?_, Or.inr hR⟩
      · rw [w1]; simp only [aX7_told_0, aX7_told_1_1, aX7_told_99, aX7_told_100, aX7_told_103, aX7_told_106, aX7_told_109, Nat.zero_le, Nat.reduceLeDiff, Nat.reduceAdd, i1_0, rr_c3, zc9, oc9, zc10, oc10, zc11, oc11, zc12, oc12, zc13, oc13, zc15, oc15, Int32.lt_irrefl, Nat.zero_lt_one, Rt_cons, Rt_void, isB_0, isB_1, isB_b, true_and, and_true, cats_nil, cats_int, cats_ref, and_self, if_true, if_false, ite_self, le_nlt, ite_not, Rt_nil, k1]
      · rw [w1]; simp only [aX8_told_0, aX8_told_1_1, aX8_told_88, aX8_told_89, aX8_told_92, aX8_told_93, aX8_told_94, Nat.zero_le, Nat.reduceLeDiff, Nat.reduceAdd, i1_0, rr_c3, zc9, oc9, zc10, oc10, zc11, oc11, zc12, oc12, zc13, oc13, zc15, oc15, Int32.lt_irrefl, Nat.zero_lt_one, Rt_cons, Rt_void, isB_0, isB_1, isB_b, true_and, and_true, cats_nil, cats_int, cats_ref, and_self, if_true, if_false, ite_self, le_nlt, ite_not, Rt_nil, aT_31, aN_31, cnt_31, v3.2.1, c1, l1]
    · refine ⟨σ, σ, nI 0, ?_, ?_, Or.inr hR⟩
      · rw [w2]; simp only [aX7_told_0, aX7_told_1_2, aX7_told_110, aX7_told_111, aX7_told_114, aX7_told_117, aX7_told_120, Nat.zero_le, Nat.reduceLeDiff, Nat.reduceAdd, i1_0, rr_c3, zc9, oc9, zc10, oc10, zc11, oc11, zc12, oc12, zc13, oc13, zc15, oc15, Int32.lt_irrefl, Nat.zero_lt_one, Rt_cons, Rt_void, isB_0, isB_1, isB_b, true_and, and_true, cats_nil, cats_int, cats_ref, and_self, if_true, if_false, ite_self, le_nlt, ite_not, Rt_nil, k2]
      · rw [w2]; simp only [aX8_told_0, aX8_told_1_2, aX8_told_88, aX8_told_89, aX8_told_92, aX8_told_93, aX8_told_94, Nat.zero_le, Nat.reduceLeDiff, Nat.reduceAdd, i1_0, rr_c3, zc9, oc9, zc10, oc10, zc11, oc11, zc12, oc12, zc13, oc13, zc15, oc15, Int32.lt_irrefl, Nat.zero_lt_one, Rt_cons, Rt_void, isB_0, isB_1, isB_b, true_and, and_true, cats_nil, cats_int, cats_ref, and_self, if_true, if_false, ite_self, le_nlt, ite_not, Rt_nil, aT_31, aN_31, cnt_31, v3.2.2, c2, l2]
    · obtain ⟨⟨c, d1, d2, d3, d4⟩, d5⟩ := t0
      refine ⟨σ, σ, nI c, ?_, ?_, Or.inr hR⟩
      · rw [w3]; simp only [aX7_told_0, aX7_told_1_3, aX7_told_121, aX7_told_122, aX7_told_125, aX7_told_128, Nat.zero_le, Nat.reduceLeDiff, Nat.reduceAdd, i1_0, rr_c3, zc9, oc9, zc10, oc10, zc11, oc11, zc12, oc12, zc13, oc13, zc15, oc15, Int32.lt_irrefl, Nat.zero_lt_one, Rt_cons, Rt_void, isB_0, isB_1, isB_b, true_and, and_true, cats_nil, cats_int, cats_ref, and_self, if_true, if_false, ite_self, le_nlt, ite_not, Rt_nil, d2]
      · rw [w3]; simp only [aX8_told_0, aX8_told_1_3, aX8_told_95, aX8_told_96, aX8_told_99, Nat.zero_le, Nat.reduceLeDiff, Nat.reduceAdd, i1_0, rr_c3, zc9, oc9, zc10, oc10, zc11, oc11, zc12, oc12, zc13, oc13, zc15, oc15, Int32.lt_irrefl, Nat.zero_lt_one, Rt_cons, Rt_void, isB_0, isB_1, isB_b, true_and, and_true, cats_nil, cats_int, cats_ref, and_self, if_true, if_false, ite_self, le_nlt, ite_not, Rt_nil, d3]
    · refine ⟨σ, σ, nI 0, ?_, ?_, Or.inr hR⟩
      · rw [w4]; simp only [aX7_told_0, aX7_told_1_4, aX7_told_129, aX7_told_130, aX7_told_133, aX7_told_136, Nat.zero_le, Nat.reduceLeDiff, Nat.reduceAdd, i1_0, rr_c3, zc9, oc9, zc10, oc10, zc11, oc11, zc12, oc12, zc13, oc13, zc15, oc15, Int32.lt_irrefl, Nat.zero_lt_one, Rt_cons, Rt_void, isB_0, isB_1, isB_b, true_and, and_true, cats_nil, cats_int, cats_ref, and_self, if_true, if_false, ite_self, le_nlt, ite_not, Rt_nil, cs.1]; rfl
      · rw [w4]; simp only [aX8_told_0, aX8_told_1_4, aX8_told_100, aX8_told_101, aX8_told_104, aX8_told_105, aX8_told_106, Nat.zero_le, Nat.reduceLeDiff, Nat.reduceAdd, i1_0, rr_c3, zc9, oc9, zc10, oc10, zc11, oc11, zc12, oc12, zc13, oc13, zc15, oc15, Int32.lt_irrefl, Nat.zero_lt_one, Rt_cons, Rt_void, isB_0, isB_1, isB_b, true_and, and_true, cats_nil, cats_int, cats_ref, and_self, if_true, if_false, ite_self, le_nlt, ite_not, Rt_nil, aT_43, aN_43, cnt_43, v99.1, c0, z0]
    · refine ⟨σ, σ, nI 0, ?_, ?_, Or.inr hR⟩
      · rw [w5]; simp only [aX7_told_0, aX7_told_1_5, aX7_told_137, aX7_told_138, aX7_told_141, aX7_told_144, Nat.zero_le, Nat.reduceLeDiff, Nat.reduceAdd, i1_0, rr_c3, zc9, oc9, zc10, oc10, zc11, oc11, zc12, oc12, zc13, oc13, zc15, oc15, Int32.lt_irrefl, Nat.zero_lt_one, Rt_cons, Rt_void, isB_0, isB_1, isB_b, true_and, and_true, cats_nil, cats_int, cats_ref, and_self, if_true, if_false, ite_self, le_nlt, ite_not, Rt_nil, cs.2.1]; rfl
      · rw [w5]; simp only [aX8_told_0, aX8_told_1_5, aX8_told_107, aX8_told_108, aX8_told_111, aX8_told_112, aX8_told_113, Nat.zero_le, Nat.reduceLeDiff, Nat.reduceAdd, i1_0, rr_c3, zc9, oc9, zc10, oc10, zc11, oc11, zc12, oc12, zc13, oc13, zc15, oc15, Int32.lt_irrefl, Nat.zero_lt_one, Rt_cons, Rt_void, isB_0, isB_1, isB_b, true_and, and_true, cats_nil, cats_int, cats_ref, and_self, if_true, if_false, ite_self, le_nlt, ite_not, Rt_nil, aT_43, aN_43, cnt_43, v99.2.1, c1, z1]
    · refine ⟨σ, σ, nI 0, ?_, ?_, Or.inr hR⟩
      · rw [w6]; simp only [aX7_told_0, aX7_told_1_6, aX7_told_145, aX7_told_146, aX7_told_149, aX7_told_152, Nat.zero_le, Nat.reduceLeDiff, Nat.reduceAdd, i1_0, rr_c3, zc9, oc9, zc10, oc10, zc11, oc11, zc12, oc12, zc13, oc13, zc15, oc15, Int32.lt_irrefl, Nat.zero_lt_one, Rt_cons, Rt_void, isB_0, isB_1, isB_b, true_and, and_true, cats_nil, cats_int, cats_ref, and_self, if_true, if_false, ite_self, le_nlt, ite_not, Rt_nil, cs.2.2.1]; rfl
      · rw [w6]; simp only [aX8_told_0, aX8_told_1_6, aX8_told_114, aX8_told_115, aX8_told_118, aX8_told_119, aX8_told_120, Nat.zero_le, Nat.reduceLeDiff, Nat.reduceAdd, i1_0, rr_c3, zc9, oc9, zc10, oc10, zc11, oc11, zc12, oc12, zc13, oc13, zc15, oc15, Int32.lt_irrefl, Nat.zero_lt_one, Rt_cons, Rt_void, isB_0, isB_1, isB_b, true_and, and_true, cats_nil, cats_int, cats_ref, and_self, if_true, if_false, ite_self, le_nlt, ite_not, Rt_nil, aT_43, aN_43, cnt_43, v99.2.2.1, c2, z2]
    · refine ⟨σ, σ, nI 0, ?_, ?_, Or.inr hR⟩
      · rw [w7]; simp only [aX7_told_0, aX7_told_1_7, aX7_told_153, aX7_told_154, aX7_told_157, aX7_told_160, sp_heldSet h34 q2 k1 cs hnE, bs_0, Nat.zero_le, Nat.reduceLeDiff, Nat.reduceAdd, i1_0, rr_c3, zc9, oc9, zc10, oc10, zc11, oc11, zc12, oc12, zc13, oc13, zc15, oc15, Int32.lt_irrefl, Nat.zero_lt_one, Rt_cons, Rt_void, isB_0, isB_1, isB_b, true_and, and_true, cats_nil, cats_int, cats_ref, and_self, if_true, if_false, ite_self, le_nlt, ite_not, Rt_nil]
      · rw [w7]; simp only [aX8_told_0, aX8_told_1_7, aX8_told_121, aX8_told_122, aX8_told_123, aX8_told_126, sp_so q2 l1, bs_0, Nat.zero_le, Nat.reduceLeDiff, Nat.reduceAdd, i1_0, rr_c3, zc9, oc9, zc10, oc10, zc11, oc11, zc12, oc12, zc13, oc13, zc15, oc15, Int32.lt_irrefl, Nat.zero_lt_one, Rt_cons, Rt_void, isB_0, isB_1, isB_b, true_and, and_true, cats_nil, cats_int, cats_ref, and_self, if_true, if_false, ite_self, le_nlt, ite_not, Rt_nil]
    · refine ⟨σ, σ, nI 0, ?_, ?_, Or.inr hR⟩
      · rw [w8]; simp only [aX7_told_0, aX7_told_1_8, aX7_told_161, aX7_told_162, aX7_told_165, aX7_told_168, sp_freeSet h34 q2 k1 cs hnE, bs_0, Nat.zero_le, Nat.reduceLeDiff, Nat.reduceAdd, i1_0, rr_c3, zc9, oc9, zc10, oc10, zc11, oc11, zc12, oc12, zc13, oc13, zc15, oc15, Int32.lt_irrefl, Nat.zero_lt_one, Rt_cons, Rt_void, isB_0, isB_1, isB_b, true_and, and_true, cats_nil, cats_int, cats_ref, and_self, if_true, if_false, ite_self, le_nlt, ite_not, Rt_nil]
      · rw [w8]; simp only [aX8_told_0, aX8_told_1_8, aX8_told_127, aX8_told_128, aX8_told_129, aX8_told_132, sp_so q2 l1, bs_0, Nat.zero_le, Nat.reduceLeDiff, Nat.reduceAdd, i1_0, rr_c3, zc9, oc9, zc10, oc10, zc11, oc11, zc12, oc12, zc13, oc13, zc15, oc15, Int32.lt_irrefl, Nat.zero_lt_one, Rt_cons, Rt_void, isB_0, isB_1, isB_b, true_and, and_true, cats_nil, cats_int, cats_ref, and_self, if_true, if_false, ite_self, le_nlt, ite_not, Rt_nil]
    · refine ⟨σ, σ, nI 0, ?_, ?_, Or.inr hR⟩
      · rw [w9]; simp only [aX7_told_0, aX7_told_1_9, aX7_told_169, aX7_told_170, aX7_told_173, aX7_told_176, em_set cs q2 hnE, bs_0, Nat.zero_le, Nat.reduceLeDiff, Nat.reduceAdd, i1_0, rr_c3, zc9, oc9, zc10, oc10, zc11, oc11, zc12, oc12, zc13, oc13, zc15, oc15, Int32.lt_irrefl, Nat.zero_lt_one, Rt_cons, Rt_void, isB_0, isB_1, isB_b, true_and, and_true, cats_nil, cats_int, cats_ref, and_self, if_true, if_false, ite_self, le_nlt, ite_not, Rt_nil]
      · rw [w9]; simp only [aX8_told_0, aX8_told_1_9, aX8_told_133, aX8_told_134, aX8_told_135, aX8_told_138, sp_so q2 l1, bs_0, Nat.zero_le, Nat.reduceLeDiff, Nat.reduceAdd, i1_0, rr_c3, zc9, oc9, zc10, oc10, zc11, oc11, zc12, oc12, zc13, oc13, zc15, oc15, Int32.lt_irrefl, Nat.zero_lt_one, Rt_cons, Rt_void, isB_0, isB_1, isB_b, true_and, and_true, cats_nil, cats_int, cats_ref, and_self, if_true, if_false, ite_self, le_nlt, ite_not, Rt_nil]
    · refine ⟨σ, σ, 0, ?_, ?_, Or.inr hR⟩
      · rw [w10]; simp only [aX7_told_0, aX7_told_1_10, aX7_told_177, aX7_told_178, aX7_told_181, aX7_told_184, sp_cdebts h34 q2 k1 cs, dbL_0, Nat.zero_le, Nat.reduceLeDiff, Nat.reduceAdd, i1_0, rr_c3, zc9, oc9, zc10, oc10, zc11, oc11, zc12, oc12, zc13, oc13, zc15, oc15, Int32.lt_irrefl, Nat.zero_lt_one, Rt_cons, Rt_void, isB_0, isB_1, isB_b, true_and, and_true, cats_nil, cats_int, cats_ref, and_self, if_true, if_false, ite_self, le_nlt, ite_not, Rt_nil]
      · rw [w10]; simp only [aX8_told_0, aX8_told_1_10, aX8_told_139, aX8_told_140, aX8_told_143, sp_mdebts q2 l1, dbL_0, Nat.zero_le, Nat.reduceLeDiff, Nat.reduceAdd, i1_0, rr_c3, zc9, oc9, zc10, oc10, zc11, oc11, zc12, oc12, zc13, oc13, zc15, oc15, Int32.lt_irrefl, Nat.zero_lt_one, Rt_cons, Rt_void, isB_0, isB_1, isB_b, true_and, and_true, cats_nil, cats_int, cats_ref, and_self, if_true, if_false, ite_self, le_nlt, ite_not, Rt_nil]
    · refine ⟨σ, σ, nI 0, ?_, ?_, Or.inr hR⟩
      · rw [w11]; simp only [aX7_told_0, aX7_told_1_11, aX7_told_185, aX7_told_186, aX7_told_189, aX7_told_192, sp_castray h34 q2 k1 cs, smN_0, Nat.zero_le, Nat.reduceLeDiff, Nat.reduceAdd, i1_0, rr_c3, zc9, oc9, zc10, oc10, zc11, oc11, zc12, oc12, zc13, oc13, zc15, oc15, Int32.lt_irrefl, Nat.zero_lt_one, Rt_cons, Rt_void, isB_0, isB_1, isB_b, true_and, and_true, cats_nil, cats_int, cats_ref, and_self, if_true, if_false, ite_self, le_nlt, ite_not, Rt_nil]
      · rw [w11]; simp only [aX8_told_0, aX8_told_1_11, aX8_told_144, aX8_told_145, aX8_told_148, sp_mastray q2 q2 l1 l2, smN_0, Nat.zero_le, Nat.reduceLeDiff, Nat.reduceAdd, i1_0, rr_c3, zc9, oc9, zc10, oc10, zc11, oc11, zc12, oc12, zc13, oc13, zc15, oc15, Int32.lt_irrefl, Nat.zero_lt_one, Rt_cons, Rt_void, isB_0, isB_1, isB_b, true_and, and_true, cats_nil, cats_int, cats_ref, and_self, if_true, if_false, ite_self, le_nlt, ite_not, Rt_nil]
    · refine ⟨σ, σ, 0, ?_, ?_, Or.inr hR⟩
      · rw [w12]; simp only [aX7_told_0, aX7_told_1_12, aX7_told_193, aX7_told_194, aX7_told_197, aX7_told_200, sp_cgap h34 q2 k1 cs, gapV_0, Nat.zero_le, Nat.reduceLeDiff, Nat.reduceAdd, i1_0, rr_c3, zc9, oc9, zc10, oc10, zc11, oc11, zc12, oc12, zc13, oc13, zc15, oc15, Int32.lt_irrefl, Nat.zero_lt_one, Rt_cons, Rt_void, isB_0, isB_1, isB_b, true_and, and_true, cats_nil, cats_int, cats_ref, and_self, if_true, if_false, ite_self, le_nlt, ite_not, Rt_nil]
      · rw [w12]; simp only [aX8_told_0, aX8_told_1_12, aX8_told_149, aX8_told_150, aX8_told_153, sp_mgap q2 l1, gapV_0, Nat.zero_le, Nat.reduceLeDiff, Nat.reduceAdd, i1_0, rr_c3, zc9, oc9, zc10, oc10, zc11, oc11, zc12, oc12, zc13, oc13, zc15, oc15, Int32.lt_irrefl, Nat.zero_lt_one, Rt_cons, Rt_void, isB_0, isB_1, isB_b, true_and, and_true, cats_nil, cats_int, cats_ref, and_self, if_true, if_false, ite_self, le_nlt, ite_not, Rt_nil]
    · refine ⟨σ, σ, -1, ?_, ?_, Or.inr hR⟩
      · rw [w13]; simp only [aX7_told_0, aX7_told_1_13, aX7_told_201, aX7_told_202, aX7_told_205, aX7_told_208, sp_cworst h34 q2 k1 cs, wsL_0, Nat.zero_le, Nat.reduceLeDiff, Nat.reduceAdd, i1_0, rr_c3, zc9, oc9, zc10, oc10, zc11, oc11, zc12, oc12, zc13, oc13, zc15, oc15, Int32.lt_irrefl, Nat.zero_lt_one, Rt_cons, Rt_void, isB_0, isB_1, isB_b, true_and, and_true, cats_nil, cats_int, cats_ref, and_self, if_true, if_false, ite_self, le_nlt, ite_not, Rt_nil]
      · rw [w13]; simp only [aX8_told_0, aX8_told_1_13, aX8_told_154, aX8_told_155, aX8_told_158, sp_mworst q2 l1, wsL_0, Nat.zero_le, Nat.reduceLeDiff, Nat.reduceAdd, i1_0, rr_c3, zc9, oc9, zc10, oc10, zc11, oc11, zc12, oc12, zc13, oc13, zc15, oc15, Int32.lt_irrefl, Nat.zero_lt_one, Rt_cons, Rt_void, isB_0, isB_1, isB_b, true_and, and_true, cats_nil, cats_int, cats_ref, and_self, if_true, if_false, ite_self, le_nlt, ite_not, Rt_nil]
    · refine ⟨σ, σ, nI 0, ?_, ?_, Or.inr hR⟩
      · rw [w14]; simp only [aX7_told_0, aX7_told_1_14, aX7_told_209, aX7_told_210, aX7_told_213, aX7_told_216, Nat.zero_le, Nat.reduceLeDiff, Nat.reduceAdd, i1_0, rr_c3, zc9, oc9, zc10, oc10, zc11, oc11, zc12, oc12, zc13, oc13, zc15, oc15, Int32.lt_irrefl, Nat.zero_lt_one, Rt_cons, Rt_void, isB_0, isB_1, isB_b, true_and, and_true, cats_nil, cats_int, cats_ref, and_self, if_true, if_false, ite_self, le_nlt, ite_not, Rt_nil, cs.2.2.2.1]; rfl
      · rw [w14]; simp only [aX8_told_0, aX8_told_1_14, aX8_told_159, aX8_told_160, aX8_told_163, aX8_told_164, aX8_told_165, Nat.zero_le, Nat.reduceLeDiff, Nat.reduceAdd, i1_0, rr_c3, zc9, oc9, zc10, oc10, zc11, oc11, zc12, oc12, zc13, oc13, zc15, oc15, Int32.lt_irrefl, Nat.zero_lt_one, Rt_cons, Rt_void, isB_0, isB_1, isB_b, true_and, and_true, cats_nil, cats_int, cats_ref, and_self, if_true, if_false, ite_self, le_nlt, ite_not, Rt_nil, aT_43, aN_43, cnt_43, v99.2.2.2, c3, z3]
    · have d2 := e1
      have d3 := e2
      refine ⟨σ, σ, nI 0, ?_, ?_, Or.inr hR⟩
      · rw [w15]; simp only [aX7_told_0, aX7_told_1_15, aX7_told_217, aX7_told_218, aX7_told_221, aX7_told_224, Nat.zero_le, Nat.reduceLeDiff, Nat.reduceAdd, i1_0, rr_c3, zc9, oc9, zc10, oc10, zc11, oc11, zc12, oc12, zc13, oc13, zc15, oc15, Int32.lt_irrefl, Nat.zero_lt_one, Rt_cons, Rt_void, isB_0, isB_1, isB_b, true_and, and_true, cats_nil, cats_int, cats_ref, and_self, if_true, if_false, ite_self, le_nlt, ite_not, Rt_nil, d2]
      · rw [w15]; simp only [aX8_told_0, aX8_told_1_15, aX8_told_166, aX8_told_167, aX8_told_170, Nat.zero_le, Nat.reduceLeDiff, Nat.reduceAdd, i1_0, rr_c3, zc9, oc9, zc10, oc10, zc11, oc11, zc12, oc12, zc13, oc13, zc15, oc15, Int32.lt_irrefl, Nat.zero_lt_one, Rt_cons, Rt_void, isB_0, isB_1, isB_b, true_and, and_true, cats_nil, cats_int, cats_ref, and_self, if_true, if_false, ite_self, le_nlt, ite_not, Rt_nil, d3]
    · have d2 := b1
      have d3 := b2
      refine ⟨σ, σ, nI 0, ?_, ?_, Or.inr hR⟩
      · rw [w16]; simp only [aX7_told_0, aX7_told_1_16, aX7_told_225, aX7_told_226, aX7_told_229, aX7_told_232, Nat.zero_le, Nat.reduceLeDiff, Nat.reduceAdd, i1_0, rr_c3, zc9, oc9, zc10, oc10, zc11, oc11, zc12, oc12, zc13, oc13, zc15, oc15, Int32.lt_irrefl, Nat.zero_lt_one, Rt_cons, Rt_void, isB_0, isB_1, isB_b, true_and, and_true, cats_nil, cats_int, cats_ref, and_self, if_true, if_false, ite_self, le_nlt, ite_not, Rt_nil, d2]
      · rw [w16]; simp only [aX8_told_0, aX8_told_1_16, aX8_told_171, aX8_told_172, aX8_told_175, Nat.zero_le, Nat.reduceLeDiff, Nat.reduceAdd, i1_0, rr_c3, zc9, oc9, zc10, oc10, zc11, oc11, zc12, oc12, zc13, oc13, zc15, oc15, Int32.lt_irrefl, Nat.zero_lt_one, Rt_cons, Rt_void, isB_0, isB_1, isB_b, true_and, and_true, cats_nil, cats_int, cats_ref, and_self, if_true, if_false, ite_self, le_nlt, ite_not, Rt_nil, d3]
    · have d3 := p1
      have d5 := p4
      refine ⟨σ, σ, nI 0, ?_, ?_, Or.inr hR⟩
      · rw [w17]; simp only [aX7_told_0, aX7_told_1_17, aX7_told_233, aX7_told_234, aX7_told_237, aX7_told_240, Nat.zero_le, Nat.reduceLeDiff, Nat.reduceAdd, i1_0, rr_c3, zc9, oc9, zc10, oc10, zc11, oc11, zc12, oc12, zc13, oc13, zc15, oc15, Int32.lt_irrefl, Nat.zero_lt_one, Rt_cons, Rt_void, isB_0, isB_1, isB_b, true_and, and_true, cats_nil, cats_int, cats_ref, and_self, if_true, if_false, ite_self, le_nlt, ite_not, Rt_nil, d3]
      · rw [w17]; simp only [aX8_told_0, aX8_told_1_17, aX8_told_176, aX8_told_177, aX8_told_180, Nat.zero_le, Nat.reduceLeDiff, Nat.reduceAdd, i1_0, rr_c3, zc9, oc9, zc10, oc10, zc11, oc11, zc12, oc12, zc13, oc13, zc15, oc15, Int32.lt_irrefl, Nat.zero_lt_one, Rt_cons, Rt_void, isB_0, isB_1, isB_b, true_and, and_true, cats_nil, cats_int, cats_ref, and_self, if_true, if_false, ite_self, le_nlt, ite_not, Rt_nil, d5]
theorem z_clear (x : Int32) : SimZ mX7_clear mX8_clear [.int x] := by
  refine Z_of (Lc := [.ref (ad 0 0), .int x, .null, .null, .null]) (Lm := [.ref (ad 29 0), .int x, .null, .null, .null, .null, .null]) rfl rfl (fun σ hR => ?_)
  obtain ⟨t0, s0, ⟨⟨l0, l1, l2⟩, ⟨k0, k1, k2⟩, hne⟩, ⟨cs, w0, w1, w2, w3⟩, ⟨⟨e1, e2⟩, ⟨b1, b2⟩⟩, ⟨p1, ⟨px, p2, p3⟩, p4⟩, im⟩ := id hR
  have hq := rr_lt (σ 9 0 0)
  by_cases ho : x < 0 ∨ 1 < x
  · refine ⟨σ, σ, -1000000002, ?_, ?_, Or.inr hR⟩
    · simp only [aX7_clear_0, aX7_clear_1, aX7_clear_2, aX7_clear_3, aX7_clear_6, aX7_clear_9, aX7_clear_11, sp_isOutside, Nat.zero_le, Nat.reduceLeDiff, Nat.reduceAdd, i1_0, rr_c3, zc9, oc9, zc10, oc10, zc11, oc11, zc12, oc12, zc13, oc13, zc15, oc15, Int32.lt_irrefl, Nat.zero_lt_one, Rt_cons, Rt_void, isB_0, isB_1, isB_b, true_and, and_true, cats_nil, cats_int, cats_ref, and_self, if_true, if_false, ite_self, le_nlt, ite_not, Rt_nil, bI_t ho]
    · simp only [aX8_clear_0, aX8_clear_1, aX8_clear_2, aX8_clear_3, aX8_clear_6, aX8_clear_9, aX8_clear_11, sp_in, Nat.zero_le, Nat.reduceLeDiff, Nat.reduceAdd, i1_0, rr_c3, zc9, oc9, zc10, oc10, zc11, oc11, zc12, oc12, zc13, oc13, zc15, oc15, Int32.lt_irrefl, Nat.zero_lt_one, Rt_cons, Rt_void, isB_0, isB_1, isB_b, true_and, and_true, cats_nil, cats_int, cats_ref, and_self, if_true, if_false, ite_self, le_nlt, ite_not, Rt_nil, bI_f (show ¬ (¬ x < 0 ∧ ¬ 1 < x) from fun z => ho.elim z.1 z.2)]
  · have hin := not_out.mp ho
    have hw : ∀ k, k < 7 → ∃ d : Nat, d ≤ 9999 ∧ wF (64 + 5 * k) = nI d := fun k hk => by
      refine ⟨0, by omega, ?_⟩
      unfold wF
      rw [if_neg (by omega), if_neg (by omega), if_neg (by omega)]
      rfl
    have cb : ∀ w : F1, clB w 0 1 = 0 := fun w => by
      rw [clB_s, if_neg (fun z => absurd z.1 (Nat.lt_irrefl _))]; rfl
    have c := lp_cclear (σ := σ) (x := x) (fs := []) (Q := fun X v => X = enc σ ∧ v = some (.int 0)) le07 k1 cs hw 0 1 rfl
    have m := lp_mclear (σ := σ) (x := x) (fs := []) (Q := fun X v => X = enc σ ∧ v = some (.int 0)) le07 l1 1 0 .null .null .null rfl
    have e1' : nI 1 = 1 := rfl
    have e20 : (2 : Nat) ^ 0 = 1 := rfl
    have pz : nI (pop 0 7) = 0 := rfl
    have b0 : nI (clB (σ 43 0) 0 0) = 0 := rfl
    rw [e20, cb, pz, nI_0, ite_self, e1'] at c
    rw [e20, b0, cb, pz, nI_0, ite_self] at m
    refine ⟨σ, σ, 0, ?_, ?_, Or.inr hR⟩
    · have s0' := sh1' 0 (by omega)
      simp only [aX7_clear_0, aX7_clear_1, aX7_clear_2, aX7_clear_3, aX7_clear_6, aX7_clear_9, aX7_clear_11, aX7_clear_12, aX7_clear_13, aX7_clear_14, aX7_clear_15, aX7_clear_16, aX7_clear_19, aX7_clear_22, aX7_clear_25, aX7_clear_26, aX7_clear_27, aX7_clear_28, sp_isOutside, Nat.zero_le, Nat.reduceLeDiff, Nat.reduceAdd, i1_0, rr_c3, zc9, oc9, zc10, oc10, zc11, oc11, zc12, oc12, zc13, oc13, zc15, oc15, Int32.lt_irrefl, Nat.zero_lt_one, Rt_cons, Rt_void, isB_0, isB_1, isB_b, true_and, and_true, cats_nil, cats_int, cats_ref, and_self, if_true, if_false, ite_self, le_nlt, ite_not, bI_f ho, k1, s0', e20, e1']
      rw [c]
      simp only [Nat.zero_le, Nat.reduceLeDiff, Nat.reduceAdd, i1_0, rr_c3, zc9, oc9, zc10, oc10, zc11, oc11, zc12, oc12, zc13, oc13, zc15, oc15, Int32.lt_irrefl, Nat.zero_lt_one, Rt_cons, Rt_void, isB_0, isB_1, isB_b, true_and, and_true, cats_nil, cats_int, cats_ref, and_self, if_true, if_false, ite_self, le_nlt, ite_not, Rt_nil]
    · simp only [aX8_clear_0, aX8_clear_1, aX8_clear_2, aX8_clear_3, aX8_clear_6, aX8_clear_9, aX8_clear_11, aX8_clear_12, aX8_clear_13, aX8_clear_14, aX8_clear_15, sp_in, Nat.zero_le, Nat.reduceLeDiff, Nat.reduceAdd, i1_0, rr_c3, zc9, oc9, zc10, oc10, zc11, oc11, zc12, oc12, zc13, oc13, zc15, oc15, Int32.lt_irrefl, Nat.zero_lt_one, Rt_cons, Rt_void, isB_0, isB_1, isB_b, true_and, and_true, cats_nil, cats_int, cats_ref, and_self, if_true, if_false, ite_self, le_nlt, ite_not, bI_t hin]
      rw [m]
      simp only [Nat.zero_le, Nat.reduceLeDiff, Nat.reduceAdd, i1_0, rr_c3, zc9, oc9, zc10, oc10, zc11, oc11, zc12, oc12, zc13, oc13, zc15, oc15, Int32.lt_irrefl, Nat.zero_lt_one, Rt_cons, Rt_void, isB_0, isB_1, isB_b, true_and, and_true, cats_nil, cats_int, cats_ref, and_self, if_true, if_false, ite_self, le_nlt, ite_not, Rt_nil]
end S90
