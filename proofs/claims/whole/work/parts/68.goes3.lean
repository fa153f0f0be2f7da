theorem turn_all {N d t : Nat} (hN : N ≤ 7) (ht : t < N) : ∃ j, j < N ∧ (d + j) % N = t := by
  refine ⟨(t + N - d % N) % N, Nat.mod_lt _ (by omega), ?_⟩
  rcases (show N = 1 ∨ N = 2 ∨ N = 3 ∨ N = 4 ∨ N = 5 ∨ N = 6 ∨ N = 7 by omega) with rfl | rfl | rfl | rfl | rfl | rfl | rfl <;> omega
theorem in_cond {f : Nat → Nat} {E : Nat → Bool} {b j : Nat} (h7 : f j < 7) : (orL f E b (j + 1) &&& (b ^^^ 127)).testBit (f j) = true ↔ (E (f j) && !b.testBit (f j)) = true := by
  rw [andn_tb, orL_tb]
  have : (∃ i, i < j + 1 ∧ f i = f j) := ⟨j, by omega, rfl⟩
  cases hb : b.testBit (f j) <;> cases hE : E (f j) <;> simp [h7, this]
theorem or_all {N d a : Nat} {E E' : Nat → Bool} (hN : N ≤ 7) (ha : a = bs E N) (hE : ∀ t, t < N → E t = true → E' t = true) : orL (fun j => (d + j) % N) E' a N = bs E' N := by
  apply tb_ext
  intro t
  rw [orL_tb, bs_tb, ha, bs_tb]
  constructor
  · rintro (⟨h, ht⟩ | ⟨h, j, hj, e⟩)
    · exact ⟨hE t ht h, ht⟩
    · refine ⟨h, ?_⟩
      have := Nat.mod_lt (d + j) (show 0 < N by omega)
      omega
  · rintro ⟨h, ht⟩
    exact Or.inr ⟨h, turn_all hN ht⟩
section S68
variable {σ : Mem} {fs : List Fm} {M : List va_E} {Q : List va_E → Option Value → Prop}
theorem lp_in {n k d N b r : Nat} {w : Nat → Int32} {fg : Int32 × Int32} (hN : N ≤ 7) (hd : d < 100000) (hb : b < 128) (e31 : σ 31 0 1 = nI N) : ∀ (m j : Nat) (l6 l7 l8 : Value), j + m = N →
    ∃ x6 x7 x8, ∀ fs Q, Rn mX8_goesOn 58 [.ref (ad 29 0), .int (nI n), .int (nI k), .int (nI d), .int (nI b), .int (nI j), l6, l7, l8] [] fs (enc (gM σ w (nI (orL (fun j => (d + j) % N) (Eo (σ 43 0) w) b j)) (nI (orL (fun j => (d + j) % N) (Ro (σ 43 0) w) r j)) (fgL (fun t => Eo (σ 43 0) w t && !b.testBit t) (fun j => (d + j) % N) (nI (k + 1)) fg j).1 (fgL (fun t => Eo (σ 43 0) w t && !b.testBit t) (fun j => (d + j) % N) (nI (k + 1)) fg j).2)) Q ↔
      Rn mX8_goesOn 22 [.ref (ad 29 0), .int (nI n), .int (nI (k + 1)), .int (nI d), .int (nI b), .int (nI N), x6, x7, x8] [] fs (enc (gM σ w (nI (orL (fun j => (d + j) % N) (Eo (σ 43 0) w) b N)) (nI (orL (fun j => (d + j) % N) (Ro (σ 43 0) w) r N)) (fgL (fun t => Eo (σ 43 0) w t && !b.testBit t) (fun j => (d + j) % N) (nI (k + 1)) fg N).1 (fgL (fun t => Eo (σ 43 0) w t && !b.testBit t) (fun j => (d + j) % N) (nI (k + 1)) fg N).2)) Q := by
  intro m
  induction m with
  | zero =>
    intro j l6 l7 l8 hj
    obtain rfl : j = N := by omega
    refine ⟨l6, l7, l8, fun fs Q => ?_⟩
    have m31 : ∀ o r f g, gM σ w o r f g 31 0 1 = nI j := fun o r f g => by rw [gM_ne (by omega) (by omega)]; exact e31
    simp only [aX8_goesOn_58, aX8_goesOn_60, aX8_goesOn_61, aX8_goesOn_64, aX8_goesOn_65, aX8_goesOn_66, aX8_goesOn_255, aX8_goesOn_258, Nat.zero_le, Nat.reduceLeDiff, Nat.reduceAdd, i1_0, rr_c3, zc9, oc9, zc10, oc10, zc11, oc11, zc12, oc12, zc13, oc13, zc15, oc15, Int32.lt_irrefl, Nat.zero_lt_one, Rt_cons, Rt_void, isB_0, isB_1, isB_b, true_and, and_true, cats_nil, cats_int, cats_ref, and_self, if_true, if_false, ite_self, le_nlt, ite_not, aT_31, aN_31, cnt_31, v3.2.1, c1, m31, nI_1]
  | succ m ih =>
    intro j l6 l7 l8 hj
    have hf : ∀ t, (d + t) % N < 7 := fun t => by have := Nat.mod_lt (d + t) (show 0 < N by omega); omega
    have ha : orL (fun j => (d + j) % N) (Eo (σ 43 0) w) b j < 128 := orL_lt hb hf j
    obtain ⟨x8, h1⟩ := go_in (n := n) (k := k) (d := d) (j := j) (r := orL (fun j => (d + j) % N) (Ro (σ 43 0) w) r j) (w := w) (f := (fgL (fun t => Eo (σ 43 0) w t && !b.testBit t) (fun j => (d + j) % N) (nI (k + 1)) fg j).1) (g := (fgL (fun t => Eo (σ 43 0) w t && !b.testBit t) (fun j => (d + j) % N) (nI (k + 1)) fg j).2) (l6 := l6) (l7 := l7) (l8 := l8) hN (by omega) hd ha hb e31 (h := (d + j) % N) rfl
    obtain ⟨y6, y7, y8, h2⟩ := ih (j + 1) (.int (nI ((d + j) % N))) (.int (w (64 + 5 * ((d + j) % N) + 1))) x8 (by omega)
    refine ⟨y6, y7, y8, fun fs Q => ?_⟩
    rw [h1, ← h2]
    have e1 : orL (fun j => (d + j) % N) (Eo (σ 43 0) w) b j ||| (if Eo (σ 43 0) w ((d + j) % N) = true then 2 ^ ((d + j) % N) else 0) = orL (fun j => (d + j) % N) (Eo (σ 43 0) w) b (j + 1) := rfl
    have e2 : orL (fun j => (d + j) % N) (Ro (σ 43 0) w) r j ||| (if Ro (σ 43 0) w ((d + j) % N) = true then 2 ^ ((d + j) % N) else 0) = orL (fun j => (d + j) % N) (Ro (σ 43 0) w) r (j + 1) := rfl
    have hc := in_cond (f := fun j => (d + j) % N) (E := Eo (σ 43 0) w) (b := b) (j := j) (hf j)
    rw [e1, e2]
    have e3 : fgL (fun t => Eo (σ 43 0) w t && !b.testBit t) (fun j => (d + j) % N) (nI (k + 1)) fg (j + 1) = (if (fgL (fun t => Eo (σ 43 0) w t && !b.testBit t) (fun j => (d + j) % N) (nI (k + 1)) fg j).1 = -1 ∧ (Eo (σ 43 0) w ((d + j) % N) && !b.testBit ((d + j) % N)) = true then (nI ((d + j) % N), nI (k + 1)) else fgL (fun t => Eo (σ 43 0) w t && !b.testBit t) (fun j => (d + j) % N) (nI (k + 1)) fg j) := rfl
    rw [e3]
    generalize fgL (fun t => Eo (σ 43 0) w t && !b.testBit t) (fun j => (d + j) % N) (nI (k + 1)) fg j = F
    by_cases q : F.1 = -1 ∧ (Eo (σ 43 0) w ((d + j) % N) && !b.testBit ((d + j) % N)) = true
    · rw [if_pos ⟨q.1, hc.mpr q.2⟩, if_pos ⟨q.1, hc.mpr q.2⟩, if_pos q]
    · rw [if_neg (fun z => q ⟨z.1, hc.mp z.2⟩), if_neg (fun z => q ⟨z.1, hc.mp z.2⟩), if_neg q]
end S68
def foL (now : Nat → Int32) (F : (Nat → Int32) → (Nat → Int32)) (N : Nat) (w0 : Nat → Int32) : Nat → Int32 × Int32
  | 0 => (-1, -1)
  | k + 1 => fgL (fun t => Eo now (itW F (k + 1) w0) t && !(bs (Eo now (itW F k w0)) N).testBit t) (fun j => ((itW F k w0 0).toNatClampNeg + j) % N) (nI (k + 1)) (foL now F N w0 k) N
theorem bs_none {p : Nat → Bool} {n : Nat} (h : ∀ t, t < n → ¬ p t = true) : bs p n = 0 := by
  apply tb_ext
  intro t
  rw [bs_tb]
  constructor
  · rintro ⟨a, b⟩; exact absurd a (h t b)
  · intro z; simp at z
section S68
variable {σ : Mem} {fs : List Fm} {M : List va_E} {Q : List va_E → Option Value → Prop}
theorem lp_go {n C N G B : Nat} {ct ow kd pt w0 : Nat → Int32} (rn : RN ct ow kd pt C N G) (hC : 0 < C) (hn : n ≤ 60) (hB : B ≤ 20000) (e31 : σ 31 0 1 = nI N) (e310 : σ 31 0 0 = nI C) (e32 : σ 32 0 = ct) (e33 : σ 33 0 = ow) (e35 : σ 35 0 = kd) (e36 : σ 36 0 = pt) (hw : WH B G N w0) : ∀ (m k : Nat) (l3 l4 l5 l6 l7 l8 : Value), k + m = n →
    (Rn mX8_goesOn 22 [.ref (ad 29 0), .int (nI n), .int (nI k), l3, l4, l5, l6, l7, l8] [] fs (enc (gM σ (itW (passW ct ow kd pt C N) k w0) (nI (bs (Eo (σ 43 0) (itW (passW ct ow kd pt C N) k w0)) N)) (nI (bs (Ro (σ 43 0) (itW (passW ct ow kd pt C N) k w0)) N)) (foL (σ 43 0) (passW ct ow kd pt C N) N w0 k).1 (foL (σ 43 0) (passW ct ow kd pt C N) N w0 k).2)) Q ↔
      Rt fs (enc (gM σ (itW (passW ct ow kd pt C N) n w0) (nI (bs (Eo (σ 43 0) (itW (passW ct ow kd pt C N) n w0)) N)) (nI (bs (Ro (σ 43 0) (itW (passW ct ow kd pt C N) n w0)) N)) (foL (σ 43 0) (passW ct ow kd pt C N) N w0 n).1 (foL (σ 43 0) (passW ct ow kd pt C N) N w0 n).2)) none Q) := by
  intro m
  have hN := rn.2.1
  induction m with
  | zero =>
    intro k l3 l4 l5 l6 l7 l8 hk
    obtain rfl : k = n := by omega
    simp only [aX8_goesOn_22, aX8_goesOn_23, aX8_goesOn_24, aX8_goesOn_261, Nat.zero_le, Nat.reduceLeDiff, Nat.reduceAdd, i1_0, rr_c3, zc9, oc9, zc10, oc10, zc11, oc11, zc12, oc12, zc13, oc13, zc15, oc15, Int32.lt_irrefl, Nat.zero_lt_one, Rt_cons, Rt_void, isB_0, isB_1, isB_b, true_and, and_true, cats_nil, cats_int, cats_ref, and_self, if_true, if_false, ite_self, le_nlt, ite_not]
  | succ m ih =>
    intro k l3 l4 l5 l6 l7 l8 hk
    have l : nI k < nI n := nI_lt (by omega) (by omega)
    have hwk : WH (B + k) G N (itW (passW ct ow kd pt C N) k w0) := WH_it rn hw
    have ews : itW (passW ct ow kd pt C N) (k + 1) w0 = passW ct ow kd pt C N (itW (passW ct ow kd pt C N) k w0) := itW_s
    have g1 : Gr N (itW (passW ct ow kd pt C N) k w0) (itW (passW ct ow kd pt C N) (k + 1) w0) := by rw [ews]; exact Gr_pass Gr_refl
    obtain ⟨d, d1, d2⟩ := hwk.1.1
    have ed : (itW (passW ct ow kd pt C N) k w0 0).toNatClampNeg = d := by rw [d2]; exact nI_clamp (by omega)
    have fo : foL (σ 43 0) (passW ct ow kd pt C N) N w0 (k + 1) = fgL (fun t => Eo (σ 43 0) (itW (passW ct ow kd pt C N) (k + 1) w0) t && !(bs (Eo (σ 43 0) (itW (passW ct ow kd pt C N) k w0)) N).testBit t) (fun j => (d + j) % N) (nI (k + 1)) (foL (σ 43 0) (passW ct ow kd pt C N) N w0 k) N := by
      rw [← ed]; rfl
    have ha := bs_lt (p := Eo (σ 43 0) (itW (passW ct ow kd pt C N) k w0)) hN
    have oE := or_all (d := d) (a := bs (Eo (σ 43 0) (itW (passW ct ow kd pt C N) k w0)) N) hN rfl (fun t ht h => Gr_E (w0 := σ 43 0) g1 (by omega) h)
    have oR := or_all (d := d) (a := bs (Ro (σ 43 0) (itW (passW ct ow kd pt C N) k w0)) N) hN rfl (fun t ht h => Gr_R (w0 := σ 43 0) g1 (by omega) h)
    rw [aX8_goesOn_22]
    have m31 : ∀ w o r f g, gM σ w o r f g 31 0 0 = nI C := fun w o r f g => by rw [gM_ne (by omega) (by omega)]; exact e310
    simp only [aX8_goesOn_23, aX8_goesOn_24, aX8_goesOn_27, aX8_goesOn_28, aX8_goesOn_31, aX8_goesOn_34, aX8_goesOn_35, aX8_goesOn_38, aX8_goesOn_39, aX8_goesOn_40, aX8_goesOn_41, aX8_goesOn_42, aX8_goesOn_45, aX8_goesOn_47, aX8_goesOn_48, aX8_goesOn_49, sp_mTold rn.1 (m31 _ _ _ _ _), Nat.zero_le, Nat.reduceLeDiff, Nat.reduceAdd, i1_0, rr_c3, zc9, oc9, zc10, oc10, zc11, oc11, zc12, oc12, zc13, oc13, zc15, oc15, Int32.lt_irrefl, Nat.zero_lt_one, Rt_cons, Rt_void, isB_0, isB_1, isB_b, true_and, and_true, cats_nil, cats_int, cats_ref, and_self, if_true, if_false, ite_self, le_nlt, ite_not, l, bI_t hC, aT_44, aN_44, cnt_44, v99.1, c0, gM_44, d2, gM_o]
    rw [aX8_goesOn_52, sp_passesW (k0 := 44) (Or.inr rfl) rn hC (by rw [gM_ne (by omega) (by omega)]; exact e31) (m31 _ _ _ _ _) (by rw [gM_ne (by omega) (by omega)]; exact e32) (by rw [gM_ne (by omega) (by omega)]; exact e33) (by rw [gM_ne (by omega) (by omega)]; exact e35) (by rw [gM_ne (by omega) (by omega)]; exact e36) hwk (by omega) gM_44, gM_w, ← ews]
    generalize hw1 : itW (passW ct ow kd pt C N) (k + 1) w0 = w1 at oE oR fo
    simp only [aX8_goesOn_55, aX8_goesOn_56, Nat.zero_le, Nat.reduceLeDiff, Nat.reduceAdd, i1_0, rr_c3, zc9, oc9, zc10, oc10, zc11, oc11, zc12, oc12, zc13, oc13, zc15, oc15, Int32.lt_irrefl, Nat.zero_lt_one, Rt_cons, Rt_void, isB_0, isB_1, isB_b, true_and, and_true, cats_nil, cats_int, cats_ref, and_self, if_true, if_false, ite_self, le_nlt, ite_not]
    obtain ⟨x6, x7, x8, hin⟩ := lp_in (σ := σ) (n := n) (k := k) (d := d) (r := bs (Ro (σ 43 0) (itW (passW ct ow kd pt C N) k w0)) N) (w := w1) (fg := foL (σ 43 0) (passW ct ow kd pt C N) N w0 k) hN (by omega) ha e31 N 0 l6 l7 l8 (by omega)
    have hin' := hin fs Q
    rw [oE, oR, ← fo] at hin'
    have ih' := ih (k + 1) (.int (nI d)) (.int (nI (bs (Eo (σ 43 0) (itW (passW ct ow kd pt C N) k w0)) N))) (.int (nI N)) x6 x7 x8 (by omega)
    rw [hw1] at ih'
    rw [← ih', ← hin']
    rfl
theorem sp_goesOn {n C N G B : Nat} {ct ow kd pt w0 : Nat → Int32} (rn : RN ct ow kd pt C N G) (hC : 0 < C) (hn : n ≤ 60) (hB : B ≤ 20000) (e31 : σ 31 0 1 = nI N) (e310 : σ 31 0 0 = nI C) (e32 : σ 32 0 = ct) (e33 : σ 33 0 = ow) (e35 : σ 35 0 = kd) (e36 : σ 36 0 = pt) (hw : WH B G N w0) (e44 : σ 44 0 = w0) (hs : ∀ h, h < 7 → w0 (64 + 5 * h + 1) = σ 43 0 (64 + 5 * h + 1)) :
    Rn mX8_goesOn 0 [.ref (ad 29 0), .int (nI n), .null, .null, .null, .null, .null, .null, .null] [] fs (enc σ) Q ↔
      Rt fs (enc (gM σ (itW (passW ct ow kd pt C N) n w0) (nI (bs (Eo (σ 43 0) (itW (passW ct ow kd pt C N) n w0)) N)) (nI (bs (Ro (σ 43 0) (itW (passW ct ow kd pt C N) n w0)) N)) (foL (σ 43 0) (passW ct ow kd pt C N) N w0 n).1 (foL (σ 43 0) (passW ct ow kd pt C N) N w0 n).2)) none Q := by
  have hN := rn.2.1
  have := lp_go (σ := σ) (fs := fs) (Q := Q) rn hC hn hB e31 e310 e32 e33 e35 e36 hw n 0 .null .null .null .null .null .null (by omega)
  have b0 : bs (Eo (σ 43 0) (itW (passW ct ow kd pt C N) 0 w0)) N = 0 := bs_none (fun t ht => by
    show ¬ Eo (σ 43 0) w0 t = true
    unfold Eo
    rw [hs t (by omega)]
    simp)
  have b1 : bs (Ro (σ 43 0) (itW (passW ct ow kd pt C N) 0 w0)) N = 0 := bs_none (fun t ht => by
    show ¬ Ro (σ 43 0) w0 t = true
    unfold Ro
    rw [hs t (by omega)]
    simp)
  rw [b0, b1] at this
  rw [← this]
  simp only [aX8_goesOn_0, aX8_goesOn_1, aX8_goesOn_2, aX8_goesOn_5, aX8_goesOn_6, aX8_goesOn_7, aX8_goesOn_10, aX8_goesOn_11, aX8_goesOn_12, aX8_goesOn_15, aX8_goesOn_16, aX8_goesOn_17, aX8_goesOn_20, aX8_goesOn_21, Nat.zero_le, Nat.reduceLeDiff, Nat.reduceAdd, i1_0, rr_c3, zc9, oc9, zc10, oc10, zc11, oc11, zc12, oc12, zc13, oc13, zc15, oc15, Int32.lt_irrefl, Nat.zero_lt_one, Rt_cons, Rt_void, isB_0, isB_1, isB_b, true_and, and_true, cats_nil, cats_int, cats_ref, and_self, if_true, if_false, ite_self, le_nlt, ite_not]
  rw [gM_in e44]
  rfl
theorem sp_goesOn0 {n : Nat} {w0 : Nat → Int32} (hn : n ≤ 60) (e310 : σ 31 0 0 = nI 0) (e44 : σ 44 0 = w0) :
    Rn mX8_goesOn 0 [.ref (ad 29 0), .int (nI n), .null, .null, .null, .null, .null, .null, .null] [] fs (enc σ) Q ↔ Rt fs (enc (gM σ w0 0 0 (-1) (-1))) none Q := by
  have m31 : ∀ w o r f g, gM σ w o r f g 31 0 0 = nI 0 := fun w o r f g => by rw [gM_ne (by omega) (by omega)]; exact e310
  simp only [aX8_goesOn_0, aX8_goesOn_1, aX8_goesOn_2, aX8_goesOn_5, aX8_goesOn_6, aX8_goesOn_7, aX8_goesOn_10, aX8_goesOn_11, aX8_goesOn_12, aX8_goesOn_15, aX8_goesOn_16, aX8_goesOn_17, aX8_goesOn_20, aX8_goesOn_21, Nat.zero_le, Nat.reduceLeDiff, Nat.reduceAdd, i1_0, rr_c3, zc9, oc9, zc10, oc10, zc11, oc11, zc12, oc12, zc13, oc13, zc15, oc15, Int32.lt_irrefl, Nat.zero_lt_one, Rt_cons, Rt_void, isB_0, isB_1, isB_b, true_and, and_true, cats_nil, cats_int, cats_ref, and_self, if_true, if_false, ite_self, le_nlt, ite_not]
  rw [gM_in e44]
  by_cases h : 0 < n
  · have l : (0 : Int32) < nI n := nI_lt (a := 0) h (by omega)
    simp only [aX8_goesOn_22, aX8_goesOn_23, aX8_goesOn_24, aX8_goesOn_27, aX8_goesOn_28, aX8_goesOn_31, aX8_goesOn_261, sp_mTold (show 0 ≤ 12 by omega) (m31 _ _ _ _ _), Nat.zero_le, Nat.reduceLeDiff, Nat.reduceAdd, i1_0, rr_c3, zc9, oc9, zc10, oc10, zc11, oc11, zc12, oc12, zc13, oc13, zc15, oc15, Int32.lt_irrefl, Nat.zero_lt_one, Rt_cons, Rt_void, isB_0, isB_1, isB_b, true_and, and_true, cats_nil, cats_int, cats_ref, and_self, if_true, if_false, ite_self, le_nlt, ite_not, l, bI_f (Nat.lt_irrefl 0)]
  · obtain rfl : n = 0 := by omega
    have e0 : nI 0 = 0 := rfl
    simp only [aX8_goesOn_22, aX8_goesOn_23, aX8_goesOn_24, aX8_goesOn_261, Nat.zero_le, Nat.reduceLeDiff, Nat.reduceAdd, i1_0, rr_c3, zc9, oc9, zc10, oc10, zc11, oc11, zc12, oc12, zc13, oc13, zc15, oc15, Int32.lt_irrefl, Nat.zero_lt_one, Rt_cons, Rt_void, isB_0, isB_1, isB_b, true_and, and_true, cats_nil, cats_int, cats_ref, and_self, if_true, if_false, ite_self, le_nlt, ite_not, e0]
end S68
