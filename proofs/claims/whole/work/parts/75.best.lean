-- bestSwap
def bt (a h : Nat) : Nat := if a.testBit h = true then 1 else 0
theorem pop7 (a : Nat) : pop a 7 = bt a 0 + bt a 1 + bt a 2 + bt a 3 + bt a 4 + bt a 5 + bt a 6 := by
  show 0 + bt a 0 + bt a 1 + bt a 2 + bt a 3 + bt a 4 + bt a 5 + bt a 6 = _
  omega
theorem cE_pop {N : Nat} {w0 w : Nat → Int32} (hN : N ≤ 7) (g : Gr N w0 w) : cE7 w = cE7 w0 + pop (bs (Eo w0 w) N) 7 := by
  have A : ∀ h, h < 7 → eN w h = eN w0 h + bt (bs (Eo w0 w) N) h := fun h hh => by
    unfold bt
    have tb := bs_tb (p := Eo w0 w) (n := N) (t := h)
    by_cases q : (bs (Eo w0 w) N).testBit h = true
    · rw [if_pos q]
      obtain ⟨q1, q2⟩ := tb.mp q
      unfold Eo at q1
      rw [decide_eq_true_iff] at q1
      unfold eN
      rw [if_pos q1.1, if_neg q1.2]
    · rw [if_neg q]
      have q' : ¬ (Eo w0 w h = true ∧ h < N) := fun z => q (tb.mpr z)
      unfold Eo at q'
      rw [decide_eq_true_iff] at q'
      unfold eN
      rcases g h hh with ⟨a, _⟩ | ⟨c, a, ⟨b, _⟩ | ⟨b, _⟩⟩
      · rw [a]; rfl
      · rw [a, b]; rfl
      · exact absurd ⟨⟨b, by rw [a]; decide⟩, c⟩ q'
  have a0 := A 0 (by omega)
  have a1 := A 1 (by omega)
  have a2 := A 2 (by omega)
  have a3 := A 3 (by omega)
  have a4 := A 4 (by omega)
  have a5 := A 5 (by omega)
  have a6 := A 6 (by omega)
  rw [pop7]
  unfold cE7
  omega
/-- how many are put out behind a swap -/
def oSw (F : (Nat → Int32) → (Nat → Int32)) (w : Nat → Int32) (N n h k : Nat) : Nat := pop (bs (Eo w (itW F n (exW w h k))) N) 7
def stS (F : (Nat → Int32) → (Nat → Int32)) (w : Nat → Int32) (N n h k : Nat) (fb : Nat × Int32) : Nat × Int32 := if canE w h k ∧ oSw F w N n h k < fb.1 then (oSw F w N n h k, nI (100 * h + k)) else fb
def inS (F : (Nat → Int32) → (Nat → Int32)) (w : Nat → Int32) (N n h : Nat) : Nat → Nat → Nat × Int32 → Nat × Int32
  | 0, _, fb => fb
  | m + 1, k, fb => inS F w N n h m (k + 1) (stS F w N n h k fb)
def ouS (F : (Nat → Int32) → (Nat → Int32)) (w : Nat → Int32) (N n : Nat) : Nat → Nat → Nat × Int32 → Nat × Int32
  | 0, _, fb => fb
  | m + 1, h, fb => ouS F w N n m (h + 1) (inS F w N n h (N - (h + 1)) (h + 1) fb)
theorem stS_le {F : (Nat → Int32) → (Nat → Int32)} {w : Nat → Int32} {N n h k : Nat} {fb : Nat × Int32} (hf : fb.1 ≤ 7) : (stS F w N n h k fb).1 ≤ 7 := by
  unfold stS
  split
  · exact pop_le _ 7
  · exact hf
theorem inS_le {F : (Nat → Int32) → (Nat → Int32)} {w : Nat → Int32} {N n h : Nat} : ∀ {m k : Nat} {fb : Nat × Int32}, fb.1 ≤ 7 → (inS F w N n h m k fb).1 ≤ 7 := by
  intro m
  induction m with
  | zero => intro k fb h; exact h
  | succ m ih => intro k fb h; exact ih (stS_le h)
section S75
variable {σ : Mem} {fs : List Fm} {M : List va_E} {Q : List va_E → Option Value → Prop}
theorem NowR_Tr {σ0 : Mem} {C N G : Nat} {v : Nat → Int32} (r3 : NowR σ0 C N G) (h : TrC σ0 σ v) : NowR σ C N G :=
  NowR_congr r3 (by rw [h.2.2 0 0 (by omega)]) (fun k q a => h.2.2 _ _ (by omega)) (fun k a b => h.2.2 _ _ (by omega)) (fun k a => h.2.2 _ _ (by omega)) (h.2.2 _ _ (by omega))
theorem TrC_trans {σ0 σ1 τ : Mem} {v u : Nat → Int32} (h : TrC σ0 σ1 v) (h2 : TrC σ1 τ u) : TrC σ0 τ u := ⟨h2.1, by rw [h2.2.1, h.2.2 9 0 (by omega)], fun k i a => by rw [h2.2.2 k i a, h.2.2 k i a]⟩
theorem TrC_re {σ0 : Mem} {C N G : Nat} {v : Nat → Int32} (r3 : NowR σ0 C N G) (h : TrC σ0 σ v) : TrC σ0 (cpF σ 1 0) (σ0 43 0) := by
  have := TrC_trans h (TrC_cp (NowR_Tr r3 h))
  rw [h.2.2 43 0 (by omega)] at this
  exact this
theorem TrC_b {σ0 : Mem} {C N G : Nat} {v : Nat → Int32} (r3 : NowR σ0 C N G) (h : TrC σ0 σ v) : ∀ k, k < 7 → σ 14 0 k = 0 ∨ σ 14 0 k = 1 := by
  rw [h.2.2 14 0 (by omega)]; exact CS_bool r3.2.2.1
theorem TrC_out {σ0 : Mem} {C N G B : Nat} {v : Nat → Int32} (r3 : NowR σ0 C N G) (h : TrC σ0 σ v) (hw : WH B G N v) (g : Gr N (σ0 43 0) v) : σ 9 1 3 - σ 9 0 3 = nI (pop (bs (Eo (σ0 43 0) v) N) 7) := by
  have p1 : σ 9 1 3 = nI (cE7 v) := h.1.2.2.1.trans hw.1.2.2.1
  have p0 : σ 9 0 3 = nI (cE7 (σ0 43 0)) := by rw [h.2.2 9 0 (by omega)]; exact r3.2.2.1.2.2.1.trans r3.2.2.2.2.2.1
  have e := cE_pop r3.1.2.1 g
  rw [p1, p0, pk_sub (by omega), e]
  congr 1
  omega
theorem Gr_ex {N a b : Nat} {w v : Nat → Int32} (h : Gr N (exW w a b) v) : ∀ t, t < 7 → (v (64 + 5 * t + 1) = w (64 + 5 * t + 1) ∨ (t < N ∧ w (64 + 5 * t + 1) = 0)) := fun t ht => by
  rcases h t ht with ⟨x, _⟩ | ⟨x, y, _⟩
  · rw [exW_ne (by omega) (by omega) (by omega) (by omega)] at x; exact Or.inl x
  · rw [exW_ne (by omega) (by omega) (by omega) (by omega)] at y; exact Or.inr ⟨x, y⟩
theorem cE7_ex {w : Nat → Int32} {a b : Nat} : cE7 (exW w a b) = cE7 w := cE7_same (fun h hh => exW_ne (by omega) (by omega) (by omega) (by omega))
theorem Eo_ex {w v : Nat → Int32} {a b : Nat} : Eo (exW w a b) v = Eo w v := by
  funext t
  unfold Eo
  rw [exW_ne (by omega) (by omega) (by omega) (by omega)]
theorem sp_putOutBySwap {σ0 : Mem} {C N G n a b : Nat} {v : Nat → Int32} (r3 : NowR σ0 C N G) (h : TrC σ0 σ v) (hn : n ≤ 60) (ha : a < N) (hb : b < N) (hc : canE (σ0 43 0) a b) :
    ∃ τ, (∀ fs Q, Rn mX7_putOutBySwap 0 [.ref (ad 0 0), .int (nI a), .int (nI b), .int (nI n)] [] fs (enc σ) Q ↔ Rt fs (enc τ) (some (.int (nI (oSw (passW (σ0 32 0) (σ0 33 0) (σ0 35 0) (σ0 36 0) C N) (σ0 43 0) N n a b)))) Q) ∧ ∃ u, TrC σ0 τ u := by
  have hN := r3.1.2.1
  have t0 := TrC_re r3 h
  have t1 := TrC_Fr t0 (Fr_ex (a := a) (b := b)) (CS_ex t0.1 (by omega) (by omega) hc)
  have w0 := WH_now r3
  have w1 : WH 10000 G N (exW (σ0 43 0) a b) := ⟨WFw_ex w0.1 hN ha hb, HG_ex w0.2 hc (by omega) (by omega)⟩
  obtain ⟨τ, a1, a2, a3⟩ := sp_passDays (RN_of r3.1) (TrC_RC r3 t1) (show 1 < 34 by decide) hn (show 10000 ≤ 20000 by decide) t1.1 w1
  have t2 := TrC_Fr t1 a3 a2
  refine ⟨τ, fun fs Q => ?_, _, t2⟩
  have wn := WH_it (RN_of r3.1) w1 (n := n)
  have gn : Gr N (exW (σ0 43 0) a b) (itW (passW (σ0 32 0) (σ0 33 0) (σ0 35 0) (σ0 36 0) C N) n (exW (σ0 43 0) a b)) := Gr_it Gr_refl
  have eo : τ 9 1 3 - τ 9 0 3 = nI (oSw (passW (σ0 32 0) (σ0 33 0) (σ0 35 0) (σ0 36 0) C N) (σ0 43 0) N n a b) := by
    have p1 : τ 9 1 3 = nI (cE7 (itW (passW (σ0 32 0) (σ0 33 0) (σ0 35 0) (σ0 36 0) C N) n (exW (σ0 43 0) a b))) := a2.2.2.1.trans wn.1.2.2.1
    have p0 : τ 9 0 3 = nI (cE7 (σ0 43 0)) := by rw [t2.2.2 9 0 (by omega)]; exact r3.2.2.1.2.2.1.trans r3.2.2.2.2.2.1
    have e := cE_pop hN gn
    rw [cE7_ex, Eo_ex] at e
    unfold oSw
    rw [p1, p0, pk_sub (by omega), e]
    congr 1
    omega
  simp only [aX7_putOutBySwap_0, aX7_putOutBySwap_1, aX7_putOutBySwap_4, aX7_putOutBySwap_5, Nat.zero_le, Nat.reduceLeDiff, Nat.reduceAdd, i1_0, rr_c3, zc9, oc9, zc10, oc10, zc11, oc11, zc12, oc12, zc13, oc13, zc15, oc15, Int32.lt_irrefl, Nat.zero_lt_one, Rt_cons, Rt_void, isB_0, isB_1, isB_b, true_and, and_true, cats_nil, cats_int, cats_ref, and_self, if_true, if_false, ite_self, le_nlt, ite_not]
  rw [aX7_putOutBySwap_8 (by decide), sp_copyFrom (by omega) (by omega) (by omega) (TrC_b r3 h)]
  simp only [aX7_putOutBySwap_11, aX7_putOutBySwap_12, aX7_putOutBySwap_15, aX7_putOutBySwap_16, Nat.zero_le, Nat.reduceLeDiff, Nat.reduceAdd, i1_0, rr_c3, zc9, oc9, zc10, oc10, zc11, oc11, zc12, oc12, zc13, oc13, zc15, oc15, Int32.lt_irrefl, Nat.zero_lt_one, Rt_cons, Rt_void, isB_0, isB_1, isB_b, true_and, and_true, cats_nil, cats_int, cats_ref, and_self, if_true, if_false, ite_self, le_nlt, ite_not]
  rw [aX7_putOutBySwap_17 (by decide), sp_exchange (by omega) (by omega) (by omega)]
  simp only [aX7_putOutBySwap_20, aX7_putOutBySwap_21, aX7_putOutBySwap_24, Nat.zero_le, Nat.reduceLeDiff, Nat.reduceAdd, i1_0, rr_c3, zc9, oc9, zc10, oc10, zc11, oc11, zc12, oc12, zc13, oc13, zc15, oc15, Int32.lt_irrefl, Nat.zero_lt_one, Rt_cons, Rt_void, isB_0, isB_1, isB_b, true_and, and_true, cats_nil, cats_int, cats_ref, and_self, if_true, if_false, ite_self, le_nlt, ite_not]
  rw [aX7_putOutBySwap_25 (by decide), a1]
  simp only [aX7_putOutBySwap_28, aX7_putOutBySwap_29, aX7_putOutBySwap_32, aX7_putOutBySwap_35, aX7_putOutBySwap_36, aX7_putOutBySwap_39, aX7_putOutBySwap_42, aX7_putOutBySwap_43, Nat.zero_le, Nat.reduceLeDiff, Nat.reduceAdd, i1_0, rr_c3, zc9, oc9, zc10, oc10, zc11, oc11, zc12, oc12, zc13, oc13, zc15, oc15, Int32.lt_irrefl, Nat.zero_lt_one, Rt_cons, Rt_void, isB_0, isB_1, isB_b, true_and, and_true, cats_nil, cats_int, cats_ref, and_self, if_true, if_false, ite_self, le_nlt, ite_not, eo]
theorem lp_cbin {σ0 : Mem} {C N G n h : Nat} {x : Int32} (r3 : NowR σ0 C N G) (hn : n ≤ 60) (hh : h < N) : ∀ (m k : Nat) (σ : Mem) (fb : Nat × Int32) (l7 : Value), k + m = N → h < k → fb.1 ≤ 7 → (∃ v, TrC σ0 σ v) →
    ∃ τ l7', (∀ fs Q, Rn mX7_bestSwap 70 [.ref (ad 0 0), .int (nI n), .int x, .int (nI fb.1), .int fb.2, .int (nI h), .int (nI k), l7] [] fs (enc σ) Q ↔ Rn mX7_bestSwap 140 [.ref (ad 0 0), .int (nI n), .int x, .int (nI (inS (passW (σ0 32 0) (σ0 33 0) (σ0 35 0) (σ0 36 0) C N) (σ0 43 0) N n h m k fb).1), .int (inS (passW (σ0 32 0) (σ0 33 0) (σ0 35 0) (σ0 36 0) C N) (σ0 43 0) N n h m k fb).2, .int (nI h), .int (nI N), l7'] [] fs (enc τ) Q) ∧ ∃ v, TrC σ0 τ v := by
  intro m
  have hN := r3.1.2.1
  induction m with
  | zero =>
    intro k σ fb l7 hk hhk hf ⟨v, hv⟩
    obtain rfl : k = N := by omega
    have k1 := (NowR_Tr r3 hv).1.2.2.2.2.2.1.2.1
    refine ⟨σ, l7, fun fs Q => ?_, v, hv⟩
    simp only [aX7_bestSwap_70, aX7_bestSwap_72, aX7_bestSwap_73, aX7_bestSwap_76, aX7_bestSwap_79, aX7_bestSwap_82, Nat.zero_le, Nat.reduceLeDiff, Nat.reduceAdd, i1_0, rr_c3, zc9, oc9, zc10, oc10, zc11, oc11, zc12, oc12, zc13, oc13, zc15, oc15, Int32.lt_irrefl, Nat.zero_lt_one, Rt_cons, Rt_void, isB_0, isB_1, isB_b, true_and, and_true, cats_nil, cats_int, cats_ref, and_self, if_true, if_false, ite_self, le_nlt, ite_not, k1]
    rfl
  | succ m ih =>
    intro k σ fb l7 hk hhk hf ⟨v, hv⟩
    have r3' := NowR_Tr r3 hv
    have k1 := r3'.1.2.2.2.2.2.1.2.1
    have l : nI k < nI N := nI_lt (by omega) (by omega)
    have e43 : σ 43 0 = σ0 43 0 := hv.2.2 43 0 (by omega)
    have cs0 : CS σ 0 (σ0 43 0) := by rw [← e43]; exact r3'.2.2.1
    generalize hF : passW (σ0 32 0) (σ0 33 0) (σ0 35 0) (σ0 36 0) C N = F at ih ⊢
    by_cases q : canE (σ0 43 0) h k
    · obtain ⟨τ, a1, a2⟩ := sp_putOutBySwap r3 hv hn hh (show k < N by omega) q
      rw [hF] at a1
      have ole : oSw F (σ0 43 0) N n h k ≤ 7 := pop_le _ 7
      have lt := nI_ltI (a := oSw F (σ0 43 0) N n h k) (b := fb.1) (by omega) (by omega)
      by_cases q2 : oSw F (σ0 43 0) N n h k < fb.1
      · obtain ⟨τ2, y, b1, b2⟩ := ih (k + 1) τ (stS F (σ0 43 0) N n h k fb) (.int (nI (oSw F (σ0 43 0) N n h k))) (by omega) (by omega) (stS_le hf) a2
        refine ⟨τ2, y, fun fs Q => ?_, b2⟩
        have b1' := b1 fs Q
        have es : stS F (σ0 43 0) N n h k fb = (oSw F (σ0 43 0) N n h k, nI (100 * h + k)) := if_pos ⟨q, q2⟩
        show _ ↔ Rn mX7_bestSwap 140 [_, _, _, .int (nI (inS F (σ0 43 0) N n h m (k + 1) (stS F (σ0 43 0) N n h k fb)).1), .int (inS F (σ0 43 0) N n h m (k + 1) (stS F (σ0 43 0) N n h k fb)).2, _, _, _] [] fs _ Q
        rw [← b1', es, aX7_bestSwap_70]
        simp only [aX7_bestSwap_72, aX7_bestSwap_73, aX7_bestSwap_76, aX7_bestSwap_79, aX7_bestSwap_82, aX7_bestSwap_85, aX7_bestSwap_86, aX7_bestSwap_89, aX7_bestSwap_91, aX7_bestSwap_93, aX7_bestSwap_96, aX7_bestSwap_99, aX7_bestSwap_100, aX7_bestSwap_102, aX7_bestSwap_104, sp_canExchange (show 0 < 34 by decide) (show h < 7 by omega) (show k < 7 by omega) cs0, Nat.zero_le, Nat.reduceLeDiff, Nat.reduceAdd, i1_0, rr_c3, zc9, oc9, zc10, oc10, zc11, oc11, zc12, oc12, zc13, oc13, zc15, oc15, Int32.lt_irrefl, Nat.zero_lt_one, Rt_cons, Rt_void, isB_0, isB_1, isB_b, true_and, and_true, cats_nil, cats_int, cats_ref, and_self, if_true, if_false, ite_self, le_nlt, ite_not, k1, l, bI_t q]
        rw [aX7_bestSwap_105, a1]
        have e100 : (100 : Int32) * nI h = nI (100 * h) := pk_mul 100 h
        simp only [aX7_bestSwap_108, aX7_bestSwap_111, aX7_bestSwap_113, aX7_bestSwap_115, aX7_bestSwap_117, aX7_bestSwap_118, aX7_bestSwap_121, aX7_bestSwap_123, aX7_bestSwap_124, aX7_bestSwap_126, aX7_bestSwap_128, aX7_bestSwap_129, aX7_bestSwap_131, aX7_bestSwap_132, aX7_bestSwap_134, aX7_bestSwap_137, Nat.zero_le, Nat.reduceLeDiff, Nat.reduceAdd, i1_0, rr_c3, zc9, oc9, zc10, oc10, zc11, oc11, zc12, oc12, zc13, oc13, zc15, oc15, Int32.lt_irrefl, Nat.zero_lt_one, Rt_cons, Rt_void, isB_0, isB_1, isB_b, true_and, and_true, cats_nil, cats_int, cats_ref, and_self, if_true, if_false, ite_self, le_nlt, ite_not, lt.mpr q2, not_true_eq_false, e100, nI_add, nI_1]
      · obtain ⟨τ2, y, b1, b2⟩ := ih (k + 1) τ (stS F (σ0 43 0) N n h k fb) (.int (nI (oSw F (σ0 43 0) N n h k))) (by omega) (by omega) (stS_le hf) a2
        refine ⟨τ2, y, fun fs Q => ?_, b2⟩
        have b1' := b1 fs Q
        have es : stS F (σ0 43 0) N n h k fb = fb := if_neg (fun z => q2 z.2)
        have q2' : ¬ nI (oSw F (σ0 43 0) N n h k) < nI fb.1 := fun z => q2 (lt.mp z)
        show _ ↔ Rn mX7_bestSwap 140 [_, _, _, .int (nI (inS F (σ0 43 0) N n h m (k + 1) (stS F (σ0 43 0) N n h k fb)).1), .int (inS F (σ0 43 0) N n h m (k + 1) (stS F (σ0 43 0) N n h k fb)).2, _, _, _] [] fs _ Q
        rw [← b1', es, aX7_bestSwap_70]
        simp only [aX7_bestSwap_72, aX7_bestSwap_73, aX7_bestSwap_76, aX7_bestSwap_79, aX7_bestSwap_82, aX7_bestSwap_85, aX7_bestSwap_86, aX7_bestSwap_89, aX7_bestSwap_91, aX7_bestSwap_93, aX7_bestSwap_96, aX7_bestSwap_99, aX7_bestSwap_100, aX7_bestSwap_102, aX7_bestSwap_104, sp_canExchange (show 0 < 34 by decide) (show h < 7 by omega) (show k < 7 by omega) cs0, Nat.zero_le, Nat.reduceLeDiff, Nat.reduceAdd, i1_0, rr_c3, zc9, oc9, zc10, oc10, zc11, oc11, zc12, oc12, zc13, oc13, zc15, oc15, Int32.lt_irrefl, Nat.zero_lt_one, Rt_cons, Rt_void, isB_0, isB_1, isB_b, true_and, and_true, cats_nil, cats_int, cats_ref, and_self, if_true, if_false, ite_self, le_nlt, ite_not, k1, l, bI_t q]
        rw [aX7_bestSwap_105, a1]
        simp only [aX7_bestSwap_108, aX7_bestSwap_111, aX7_bestSwap_113, aX7_bestSwap_115, aX7_bestSwap_117, aX7_bestSwap_118, aX7_bestSwap_121, aX7_bestSwap_123, aX7_bestSwap_124, aX7_bestSwap_126, aX7_bestSwap_128, aX7_bestSwap_129, aX7_bestSwap_131, aX7_bestSwap_132, aX7_bestSwap_134, aX7_bestSwap_137, Nat.zero_le, Nat.reduceLeDiff, Nat.reduceAdd, i1_0, rr_c3, zc9, oc9, zc10, oc10, zc11, oc11, zc12, oc12, zc13, oc13, zc15, oc15, Int32.lt_irrefl, Nat.zero_lt_one, Rt_cons, Rt_void, isB_0, isB_1, isB_b, true_and, and_true, cats_nil, cats_int, cats_ref, and_self, if_true, if_false, ite_self, le_nlt, ite_not, q2', not_false_eq_true, nI_1]
    · obtain ⟨τ2, y, b1, b2⟩ := ih (k + 1) σ (stS F (σ0 43 0) N n h k fb) (.int 7) (by omega) (by omega) (stS_le hf) ⟨v, hv⟩
      refine ⟨τ2, y, fun fs Q => ?_, b2⟩
      have b1' := b1 fs Q
      have es : stS F (σ0 43 0) N n h k fb = fb := if_neg (fun z => q z.1)
      have q2' : ¬ (7 : Int32) < nI fb.1 := nI_nlt (a := 7) hf (by omega)
      show _ ↔ Rn mX7_bestSwap 140 [_, _, _, .int (nI (inS F (σ0 43 0) N n h m (k + 1) (stS F (σ0 43 0) N n h k fb)).1), .int (inS F (σ0 43 0) N n h m (k + 1) (stS F (σ0 43 0) N n h k fb)).2, _, _, _] [] fs _ Q
      rw [← b1', es, aX7_bestSwap_70]
      simp only [aX7_bestSwap_72, aX7_bestSwap_73, aX7_bestSwap_76, aX7_bestSwap_79, aX7_bestSwap_82, aX7_bestSwap_85, aX7_bestSwap_86, aX7_bestSwap_89, aX7_bestSwap_91, aX7_bestSwap_93, aX7_bestSwap_96, sp_canExchange (show 0 < 34 by decide) (show h < 7 by omega) (show k < 7 by omega) cs0, Nat.zero_le, Nat.reduceLeDiff, Nat.reduceAdd, i1_0, rr_c3, zc9, oc9, zc10, oc10, zc11, oc11, zc12, oc12, zc13, oc13, zc15, oc15, Int32.lt_irrefl, Nat.zero_lt_one, Rt_cons, Rt_void, isB_0, isB_1, isB_b, true_and, and_true, cats_nil, cats_int, cats_ref, and_self, if_true, if_false, ite_self, le_nlt, ite_not, k1, l, bI_f q]
      simp only [aX7_bestSwap_111, aX7_bestSwap_113, aX7_bestSwap_115, aX7_bestSwap_117, aX7_bestSwap_118, aX7_bestSwap_121, aX7_bestSwap_123, aX7_bestSwap_124, aX7_bestSwap_126, aX7_bestSwap_128, aX7_bestSwap_129, aX7_bestSwap_131, aX7_bestSwap_132, aX7_bestSwap_134, aX7_bestSwap_137, Nat.zero_le, Nat.reduceLeDiff, Nat.reduceAdd, i1_0, rr_c3, zc9, oc9, zc10, oc10, zc11, oc11, zc12, oc12, zc13, oc13, zc15, oc15, Int32.lt_irrefl, Nat.zero_lt_one, Rt_cons, Rt_void, isB_0, isB_1, isB_b, true_and, and_true, cats_nil, cats_int, cats_ref, and_self, if_true, if_false, ite_self, le_nlt, ite_not, q2', not_false_eq_true, nI_1]
def bsA (x : Int32) (fb : Nat × Int32) : Int32 := if fb.2 = -1 ∨ x = 0 then fb.2 else nI fb.1
theorem lp_cbout {σ0 : Mem} {C N G n : Nat} {x : Int32} (r3 : NowR σ0 C N G) (hn : n ≤ 60) : ∀ (m h : Nat) (σ : Mem) (fb : Nat × Int32) (l6 l7 : Value), h + m = N → fb.1 ≤ 7 → (∃ v, TrC σ0 σ v) →
    ∃ τ, (∀ fs Q, Rn mX7_bestSwap 49 [.ref (ad 0 0), .int (nI n), .int x, .int (nI fb.1), .int fb.2, .int (nI h), l6, l7] [] fs (enc σ) Q ↔ Rt fs (enc τ) (some (.int (bsA x (ouS (passW (σ0 32 0) (σ0 33 0) (σ0 35 0) (σ0 36 0) C N) (σ0 43 0) N n m h fb)))) Q) ∧ ∃ v, TrC σ0 τ v := by
  intro m
  have hN := r3.1.2.1
  induction m with
  | zero =>
    intro h σ fb l6 l7 hk hf ⟨v, hv⟩
    obtain rfl : h = N := by omega
    have k1 := (NowR_Tr r3 hv).1.2.2.2.2.2.1.2.1
    refine ⟨σ, fun fs Q => ?_, v, hv⟩
    show _ ↔ Rt fs (enc σ) (some (.int (bsA x fb))) Q
    unfold bsA
    by_cases q : fb.2 = -1
    · rw [if_pos (Or.inl q)]
      simp only [aX7_bestSwap_49, aX7_bestSwap_51, aX7_bestSwap_52, aX7_bestSwap_55, aX7_bestSwap_58, aX7_bestSwap_61, aX7_bestSwap_146, aX7_bestSwap_148, aX7_bestSwap_149, aX7_bestSwap_152, aX7_bestSwap_153, aX7_bestSwap_156, aX7_bestSwap_158, aX7_bestSwap_161, aX7_bestSwap_162, Nat.zero_le, Nat.reduceLeDiff, Nat.reduceAdd, i1_0, rr_c3, zc9, oc9, zc10, oc10, zc11, oc11, zc12, oc12, zc13, oc13, zc15, oc15, Int32.lt_irrefl, Nat.zero_lt_one, Rt_cons, Rt_void, isB_0, isB_1, isB_b, true_and, and_true, cats_nil, cats_int, cats_ref, and_self, if_true, if_false, ite_self, le_nlt, ite_not, k1, q]
    · by_cases q2 : x = 0
      · rw [if_pos (Or.inr q2)]
        simp only [aX7_bestSwap_49, aX7_bestSwap_51, aX7_bestSwap_52, aX7_bestSwap_55, aX7_bestSwap_58, aX7_bestSwap_61, aX7_bestSwap_146, aX7_bestSwap_148, aX7_bestSwap_149, aX7_bestSwap_152, aX7_bestSwap_153, aX7_bestSwap_156, aX7_bestSwap_158, aX7_bestSwap_161, aX7_bestSwap_162, Nat.zero_le, Nat.reduceLeDiff, Nat.reduceAdd, i1_0, rr_c3, zc9, oc9, zc10, oc10, zc11, oc11, zc12, oc12, zc13, oc13, zc15, oc15, Int32.lt_irrefl, Nat.zero_lt_one, Rt_cons, Rt_void, isB_0, isB_1, isB_b, true_and, and_true, cats_nil, cats_int, cats_ref, and_self, if_true, if_false, ite_self, le_nlt, ite_not, k1, q, q2, not_true_eq_false]
      · rw [if_neg (fun z => z.elim q q2)]
        simp only [aX7_bestSwap_49, aX7_bestSwap_51, aX7_bestSwap_52, aX7_bestSwap_55, aX7_bestSwap_58, aX7_bestSwap_61, aX7_bestSwap_146, aX7_bestSwap_148, aX7_bestSwap_149, aX7_bestSwap_152, aX7_bestSwap_153, aX7_bestSwap_156, aX7_bestSwap_158, aX7_bestSwap_161, aX7_bestSwap_162, Nat.zero_le, Nat.reduceLeDiff, Nat.reduceAdd, i1_0, rr_c3, zc9, oc9, zc10, oc10, zc11, oc11, zc12, oc12, zc13, oc13, zc15, oc15, Int32.lt_irrefl, Nat.zero_lt_one, Rt_cons, Rt_void, isB_0, isB_1, isB_b, true_and, and_true, cats_nil, cats_int, cats_ref, and_self, if_true, if_false, ite_self, le_nlt, ite_not, k1, q, q2, not_false_eq_true]
  | succ m ih =>
    intro h σ fb l6 l7 hk hf ⟨v, hv⟩
    have k1 := (NowR_Tr r3 hv).1.2.2.2.2.2.1.2.1
    have l : nI h < nI N := nI_lt (by omega) (by omega)
    obtain ⟨τ1, y, a1, a2⟩ := lp_cbin (x := x) r3 hn (show h < N by omega) (N - (h + 1)) (h + 1) σ fb l7 (by omega) (by omega) hf ⟨v, hv⟩
    obtain ⟨τ2, b1, b2⟩ := ih (h + 1) τ1 (inS (passW (σ0 32 0) (σ0 33 0) (σ0 35 0) (σ0 36 0) C N) (σ0 43 0) N n h (N - (h + 1)) (h + 1) fb) (.int (nI N)) y (by omega) (inS_le hf) a2
    refine ⟨τ2, fun fs Q => ?_, b2⟩
    show _ ↔ Rt fs (enc τ2) (some (.int (bsA x (ouS (passW (σ0 32 0) (σ0 33 0) (σ0 35 0) (σ0 36 0) C N) (σ0 43 0) N n m (h + 1) (inS (passW (σ0 32 0) (σ0 33 0) (σ0 35 0) (σ0 36 0) C N) (σ0 43 0) N n h (N - (h + 1)) (h + 1) fb))))) Q
    rw [← b1 fs Q, aX7_bestSwap_49]
    simp only [aX7_bestSwap_51, aX7_bestSwap_52, aX7_bestSwap_55, aX7_bestSwap_58, aX7_bestSwap_61, aX7_bestSwap_64, aX7_bestSwap_66, aX7_bestSwap_67, aX7_bestSwap_68, Nat.zero_le, Nat.reduceLeDiff, Nat.reduceAdd, i1_0, rr_c3, zc9, oc9, zc10, oc10, zc11, oc11, zc12, oc12, zc13, oc13, zc15, oc15, Int32.lt_irrefl, Nat.zero_lt_one, Rt_cons, Rt_void, isB_0, isB_1, isB_b, true_and, and_true, cats_nil, cats_int, cats_ref, and_self, if_true, if_false, ite_self, le_nlt, ite_not, k1, l, nI_1]
    rw [a1]
    simp only [aX7_bestSwap_140, aX7_bestSwap_143, Nat.zero_le, Nat.reduceLeDiff, Nat.reduceAdd, i1_0, rr_c3, zc9, oc9, zc10, oc10, zc11, oc11, zc12, oc12, zc13, oc13, zc15, oc15, Int32.lt_irrefl, Nat.zero_lt_one, Rt_cons, Rt_void, isB_0, isB_1, isB_b, true_and, and_true, cats_nil, cats_int, cats_ref, and_self, if_true, if_false, ite_self, le_nlt, ite_not, nI_1]
/-- the reference while it tries -/
def MTr (σ0 σ : Mem) : Prop := (∀ k i, ¬ k = 44 → ¬ k = 29 → σ k i = σ0 k i) ∧ ∀ s, s < 29 → σ 29 0 s = σ0 29 0 s
theorem MTr_refl : MTr σ σ := ⟨fun _ _ _ _ => rfl, fun _ _ => rfl⟩
theorem MTr_try {σ0 τ υ : Mem} {C N n : Nat} {u f : Nat → Int32} (h : MTr σ0 σ) (ht : TryR τ υ C N n u) (e : τ = updK σ 44 0 f) : MTr σ0 υ := by
  refine ⟨fun k i a b => ?_, fun s hs => ?_⟩
  · rw [ht.2.2.2.2.2.1 k i a b, e, updK_ne (by omega)]; exact h.1 k i a b
  · rw [ht.2.2.2.2.2.2 s (by omega), e, updK_ne (by omega)]; exact h.2 s hs
/-- copies(now, 0, tried, 0), then tried = u0 there, goesOn(n) -/
theorem sp_mtryX {σ0 τ : Mem} {n C N G B : Nat} {u0 f : Nat → Int32} (h : MTr σ0 σ) (e : τ = updK σ 44 0 f) (hf : Ag f u0) (rn : RN (σ0 32 0) (σ0 33 0) (σ0 35 0) (σ0 36 0) C N G) (hn : n ≤ 60) (hB : B ≤ 20000) (l0 : σ0 31 0 0 = nI C) (l1 : σ0 31 0 1 = nI N) (hw : WH B G N u0) (hs : ∀ h, h < 7 → u0 (64 + 5 * h + 1) = σ0 43 0 (64 + 5 * h + 1)) :
    ∃ υ, (∀ fs Q, Rn mX8_goesOn 0 [.ref (ad 29 0), .int (nI n), .null, .null, .null, .null, .null, .null, .null] [] fs (enc τ) Q ↔ Rt fs (enc υ) none Q) ∧ υ 29 0 29 = nI (bs (Eo (σ0 43 0) (itW (passW (σ0 32 0) (σ0 33 0) (σ0 35 0) (σ0 36 0) C N) n u0)) N) ∧ MTr σ0 υ := by
  have hne : ∀ k i, ¬ k = 44 → ¬ k = 29 → τ k i = σ0 k i := fun k i a b => by rw [e, updK_ne (by omega)]; exact h.1 k i a b
  obtain ⟨υ, a1, a2⟩ := sp_try (σ := τ) (n := n) (C := C) (N := N) (G := G) (B := B) (u0 := u0) (by rw [hne _ _ (by decide) (by decide), hne _ _ (by decide) (by decide), hne _ _ (by decide) (by decide), hne _ _ (by decide) (by decide)]; exact rn) hn hB (by rw [hne _ _ (by decide) (by decide)]; exact l0) (by rw [hne _ _ (by decide) (by decide)]; exact l1) hw (by rw [e, updK_eq]; exact hf) (fun h hh => by rw [hne _ _ (by decide) (by decide)]; exact hs h hh)
  refine ⟨υ, a1, ?_, MTr_try h a2 e⟩
  rw [a2.1, hne 43 0 (by decide) (by decide), hne 32 0 (by decide) (by decide), hne 33 0 (by decide) (by decide), hne 35 0 (by decide) (by decide), hne 36 0 (by decide) (by decide)]
theorem Ag_ex {v w : Nat → Int32} {a b : Nat} (h : Ag v w) (ha : a < 7) (hb : b < 7) : Ag (exW v a b) (exW w a b) := by
  unfold exW
  rw [h (64 + 5 * a + 2) (by omega), h (64 + 5 * b + 2) (by omega)]
  exact Ag_upd (Ag_upd (Ag_upd (Ag_upd h rfl) rfl) rfl) rfl
theorem lp_mbin {σ0 : Mem} {C N G n h : Nat} {x : Int32} (hN : N ≤ 7) (rn : RN (σ0 32 0) (σ0 33 0) (σ0 35 0) (σ0 36 0) C N G) (l0 : σ0 31 0 0 = nI C) (l1 : σ0 31 0 1 = nI N) (hw : WH 10000 G N (σ0 43 0)) (hn : n ≤ 60) (hh : h < N) : ∀ (m k : Nat) (σ : Mem) (fb : Nat × Int32), k + m = N → h < k → fb.1 ≤ 7 → MTr σ0 σ →
    ∃ τ, (∀ fs Q, Rn mX8_bestSwap 71 [.ref (ad 29 0), .int (nI n), .int x, .int (nI fb.1), .int fb.2, .int (nI h), .int (nI k)] [] fs (enc σ) Q ↔ Rn mX8_bestSwap 169 [.ref (ad 29 0), .int (nI n), .int x, .int (nI (inS (passW (σ0 32 0) (σ0 33 0) (σ0 35 0) (σ0 36 0) C N) (σ0 43 0) N n h m k fb).1), .int (inS (passW (σ0 32 0) (σ0 33 0) (σ0 35 0) (σ0 36 0) C N) (σ0 43 0) N n h m k fb).2, .int (nI h), .int (nI N)] [] fs (enc τ) Q) ∧ MTr σ0 τ := by
  intro m
  induction m with
  | zero =>
    intro k σ fb hk hhk hf hv
    obtain rfl : k = N := by omega
    have e31 : σ 31 0 1 = nI k := by rw [hv.1 31 0 (by decide) (by decide)]; exact l1
    refine ⟨σ, fun fs Q => ?_, hv⟩
    simp only [aX8_bestSwap_71, aX8_bestSwap_73, aX8_bestSwap_74, aX8_bestSwap_77, aX8_bestSwap_78, aX8_bestSwap_79, Nat.zero_le, Nat.reduceLeDiff, Nat.reduceAdd, i1_0, rr_c3, zc9, oc9, zc10, oc10, zc11, oc11, zc12, oc12, zc13, oc13, zc15, oc15, Int32.lt_irrefl, Nat.zero_lt_one, Rt_cons, Rt_void, isB_0, isB_1, isB_b, true_and, and_true, cats_nil, cats_int, cats_ref, and_self, if_true, if_false, ite_self, le_nlt, ite_not, aT_31, aN_31, cnt_31, v3.2.1, c1, e31]
    rfl
  | succ m ih =>
    intro k σ fb hk hhk hf hv
    have e31 : σ 31 0 1 = nI N := by rw [hv.1 31 0 (by decide) (by decide)]; exact l1
    have e43 : σ 43 0 = σ0 43 0 := hv.1 43 0 (by decide) (by decide)
    have l : nI k < nI N := nI_lt (by omega) (by omega)
    have cS := fun fs Q => sp_canSwap (σ := σ) (fs := fs) (Q := Q) (k := 43) (a := h) (b := k) (by decide) (by decide) (by decide) (by omega) (by omega)
    rw [e43] at cS
    by_cases q : canE (σ0 43 0) h k
    · have q' : ¬ h = k ∧ canE (σ0 43 0) h k := ⟨by omega, q⟩
      have w1 : WH 10000 G N (exW (σ0 43 0) h k) := ⟨WFw_ex hw.1 hN hh (by omega), HG_ex hw.2 q (by omega) (by omega)⟩
      obtain ⟨f, ef⟩ : ∃ f, f = va_cpy (σ 43 0) (σ 44 0) 0 0 99 := ⟨_, rfl⟩
      have af : Ag f (σ0 43 0) := by
        rw [ef, e43]
        intro j hj
        rw [pk_cpy_in (by omega) (by omega)]
        simp
      have ecp : cpM σ 43 0 44 0 = updK σ 44 0 f := by rw [ef]; rfl
      obtain ⟨υ, a1, a2, a3⟩ := sp_mtryX (τ := updK σ 44 0 (exW f h k)) (u0 := exW (σ0 43 0) h k) hv rfl (Ag_ex af (by omega) (by omega)) rn hn (by decide) l0 l1 w1 (fun t ht => exW_ne (by omega) (by omega) (by omega) (by omega))
      generalize hF : passW (σ0 32 0) (σ0 33 0) (σ0 35 0) (σ0 36 0) C N = F at ih a2 ⊢
      obtain ⟨τ2, b1, b2⟩ := ih (k + 1) υ (stS F (σ0 43 0) N n h k fb) (by omega) (by omega) (stS_le hf) a3
      refine ⟨τ2, fun fs Q => ?_, b2⟩
      have b1' := b1 fs Q
      have ole : oSw F (σ0 43 0) N n h k ≤ 7 := pop_le _ 7
      have on := fun fs M Q => sp_ones (fs := fs) (M := M) (Q := Q) (bs_lt (p := Eo (σ0 43 0) (itW F n (exW (σ0 43 0) h k))) hN)
      have eO : pop (bs (Eo (σ0 43 0) (itW F n (exW (σ0 43 0) h k))) N) 7 = oSw F (σ0 43 0) N n h k := rfl
      rw [eO] at on
      have lt := nI_ltI (a := oSw F (σ0 43 0) N n h k) (b := fb.1) (by omega) (by omega)
      show _ ↔ Rn mX8_bestSwap 169 [_, _, _, .int (nI (inS F (σ0 43 0) N n h m (k + 1) (stS F (σ0 43 0) N n h k fb)).1), .int (inS F (σ0 43 0) N n h m (k + 1) (stS F (σ0 43 0) N n h k fb)).2, _, _] [] fs _ Q
      rw [← b1', aX8_bestSwap_71]
      simp only [aX8_bestSwap_73, aX8_bestSwap_74, aX8_bestSwap_77, aX8_bestSwap_78, aX8_bestSwap_79, aX8_bestSwap_82, aX8_bestSwap_83, aX8_bestSwap_86, aX8_bestSwap_88, aX8_bestSwap_90, aX8_bestSwap_93, aX8_bestSwap_96, aX8_bestSwap_97, aX8_bestSwap_100, aX8_bestSwap_101, aX8_bestSwap_102, aX8_bestSwap_105, cS, Nat.zero_le, Nat.reduceLeDiff, Nat.reduceAdd, i1_0, rr_c3, zc9, oc9, zc10, oc10, zc11, oc11, zc12, oc12, zc13, oc13, zc15, oc15, Int32.lt_irrefl, Nat.zero_lt_one, Rt_cons, Rt_void, isB_0, isB_1, isB_b, true_and, and_true, cats_nil, cats_int, cats_ref, and_self, if_true, if_false, ite_self, le_nlt, ite_not, aT_31, aN_31, cnt_31, v3.2.1, c1, e31, l, bI_t q']
      rw [aX8_bestSwap_106, cp0, ecp]
      simp only [aX8_bestSwap_109, aX8_bestSwap_110, aX8_bestSwap_113, aX8_bestSwap_115, Nat.zero_le, Nat.reduceLeDiff, Nat.reduceAdd, i1_0, rr_c3, zc9, oc9, zc10, oc10, zc11, oc11, zc12, oc12, zc13, oc13, zc15, oc15, Int32.lt_irrefl, Nat.zero_lt_one, Rt_cons, Rt_void, isB_0, isB_1, isB_b, true_and, and_true, cats_nil, cats_int, cats_ref, and_self, if_true, if_false, ite_self, le_nlt, ite_not]
      rw [aX8_bestSwap_117, sp_swaps (k := 44) (by decide) (by decide) (by decide) (by omega) (by omega), updK_eq, updK_idem]
      simp only [aX8_bestSwap_120, aX8_bestSwap_121, Nat.zero_le, Nat.reduceLeDiff, Nat.reduceAdd, i1_0, rr_c3, zc9, oc9, zc10, oc10, zc11, oc11, zc12, oc12, zc13, oc13, zc15, oc15, Int32.lt_irrefl, Nat.zero_lt_one, Rt_cons, Rt_void, isB_0, isB_1, isB_b, true_and, and_true, cats_nil, cats_int, cats_ref, and_self, if_true, if_false, ite_self, le_nlt, ite_not]
      rw [aX8_bestSwap_122, a1]
      have e100 : (100 : Int32) * nI h = nI (100 * h) := pk_mul 100 h
      by_cases q2 : oSw F (σ0 43 0) N n h k < fb.1
      · have es : stS F (σ0 43 0) N n h k fb = (oSw F (σ0 43 0) N n h k, nI (100 * h + k)) := if_pos ⟨q, q2⟩
        rw [es]
        simp only [aX8_bestSwap_125, aX8_bestSwap_126, aX8_bestSwap_129, aX8_bestSwap_132, aX8_bestSwap_133, aX8_bestSwap_136, aX8_bestSwap_138, aX8_bestSwap_140, aX8_bestSwap_141, aX8_bestSwap_143, aX8_bestSwap_144, aX8_bestSwap_147, aX8_bestSwap_149, aX8_bestSwap_151, aX8_bestSwap_152, aX8_bestSwap_155, aX8_bestSwap_158, aX8_bestSwap_159, aX8_bestSwap_162, aX8_bestSwap_163, aX8_bestSwap_166, on, sp_lesser, Nat.zero_le, Nat.reduceLeDiff, Nat.reduceAdd, i1_0, rr_c3, zc9, oc9, zc10, oc10, zc11, oc11, zc12, oc12, zc13, oc13, zc15, oc15, Int32.lt_irrefl, Nat.zero_lt_one, Rt_cons, Rt_void, isB_0, isB_1, isB_b, true_and, and_true, cats_nil, cats_int, cats_ref, and_self, if_true, if_false, ite_self, le_nlt, ite_not, a2, lt.mpr q2, not_true_eq_false, e100, nI_add, nI_1]
      · have es : stS F (σ0 43 0) N n h k fb = fb := if_neg (fun z => q2 z.2)
        have q2' : ¬ nI (oSw F (σ0 43 0) N n h k) < nI fb.1 := fun z => q2 (lt.mp z)
        rw [es]
        simp only [aX8_bestSwap_125, aX8_bestSwap_126, aX8_bestSwap_129, aX8_bestSwap_132, aX8_bestSwap_133, aX8_bestSwap_136, aX8_bestSwap_138, aX8_bestSwap_140, aX8_bestSwap_141, aX8_bestSwap_143, aX8_bestSwap_144, aX8_bestSwap_147, aX8_bestSwap_149, aX8_bestSwap_151, aX8_bestSwap_152, aX8_bestSwap_155, aX8_bestSwap_158, aX8_bestSwap_159, aX8_bestSwap_162, aX8_bestSwap_163, aX8_bestSwap_166, on, sp_lesser, Nat.zero_le, Nat.reduceLeDiff, Nat.reduceAdd, i1_0, rr_c3, zc9, oc9, zc10, oc10, zc11, oc11, zc12, oc12, zc13, oc13, zc15, oc15, Int32.lt_irrefl, Nat.zero_lt_one, Rt_cons, Rt_void, isB_0, isB_1, isB_b, true_and, and_true, cats_nil, cats_int, cats_ref, and_self, if_true, if_false, ite_self, le_nlt, ite_not, a2, q2', not_false_eq_true, nI_1]
    · have q' : ¬ (¬ h = k ∧ canE (σ0 43 0) h k) := fun z => q z.2
      generalize hF : passW (σ0 32 0) (σ0 33 0) (σ0 35 0) (σ0 36 0) C N = F at ih ⊢
      obtain ⟨τ2, b1, b2⟩ := ih (k + 1) σ (stS F (σ0 43 0) N n h k fb) (by omega) (by omega) (stS_le hf) hv
      refine ⟨τ2, fun fs Q => ?_, b2⟩
      have b1' := b1 fs Q
      have es : stS F (σ0 43 0) N n h k fb = fb := if_neg (fun z => q z.1)
      show _ ↔ Rn mX8_bestSwap 169 [_, _, _, .int (nI (inS F (σ0 43 0) N n h m (k + 1) (stS F (σ0 43 0) N n h k fb)).1), .int (inS F (σ0 43 0) N n h m (k + 1) (stS F (σ0 43 0) N n h k fb)).2, _, _] [] fs _ Q
      rw [← b1', es, aX8_bestSwap_71]
      simp only [aX8_bestSwap_73, aX8_bestSwap_74, aX8_bestSwap_77, aX8_bestSwap_78, aX8_bestSwap_79, aX8_bestSwap_82, aX8_bestSwap_83, aX8_bestSwap_86, aX8_bestSwap_88, aX8_bestSwap_90, aX8_bestSwap_93, cS, Nat.zero_le, Nat.reduceLeDiff, Nat.reduceAdd, i1_0, rr_c3, zc9, oc9, zc10, oc10, zc11, oc11, zc12, oc12, zc13, oc13, zc15, oc15, Int32.lt_irrefl, Nat.zero_lt_one, Rt_cons, Rt_void, isB_0, isB_1, isB_b, true_and, and_true, cats_nil, cats_int, cats_ref, and_self, if_true, if_false, ite_self, le_nlt, ite_not, aT_31, aN_31, cnt_31, v3.2.1, c1, e31, l, bI_f q']
      simp only [aX8_bestSwap_163, aX8_bestSwap_166, Nat.zero_le, Nat.reduceLeDiff, Nat.reduceAdd, i1_0, rr_c3, zc9, oc9, zc10, oc10, zc11, oc11, zc12, oc12, zc13, oc13, zc15, oc15, Int32.lt_irrefl, Nat.zero_lt_one, Rt_cons, Rt_void, isB_0, isB_1, isB_b, true_and, and_true, cats_nil, cats_int, cats_ref, and_self, if_true, if_false, ite_self, le_nlt, ite_not, nI_1]
theorem lp_mbout {σ0 : Mem} {C N G n : Nat} {x : Int32} (hN : N ≤ 7) (rn : RN (σ0 32 0) (σ0 33 0) (σ0 35 0) (σ0 36 0) C N G) (l0 : σ0 31 0 0 = nI C) (l1 : σ0 31 0 1 = nI N) (hw : WH 10000 G N (σ0 43 0)) (hn : n ≤ 60) : ∀ (m h : Nat) (σ : Mem) (fb : Nat × Int32) (l6 : Value), h + m = N → fb.1 ≤ 7 → MTr σ0 σ →
    ∃ τ, (∀ fs Q, Rn mX8_bestSwap 54 [.ref (ad 29 0), .int (nI n), .int x, .int (nI fb.1), .int fb.2, .int (nI h), l6] [] fs (enc σ) Q ↔ Rt fs (enc τ) (some (.int (bsA x (ouS (passW (σ0 32 0) (σ0 33 0) (σ0 35 0) (σ0 36 0) C N) (σ0 43 0) N n m h fb)))) Q) ∧ MTr σ0 τ := by
  intro m
  induction m with
  | zero =>
    intro h σ fb l6 hk hf hv
    obtain rfl : h = N := by omega
    have e31 : σ 31 0 1 = nI h := by rw [hv.1 31 0 (by decide) (by decide)]; exact l1
    refine ⟨σ, fun fs Q => ?_, hv⟩
    show _ ↔ Rt fs (enc σ) (some (.int (bsA x fb))) Q
    unfold bsA
    by_cases q : fb.2 = -1
    · rw [if_pos (Or.inl q)]
      simp only [aX8_bestSwap_54, aX8_bestSwap_56, aX8_bestSwap_57, aX8_bestSwap_60, aX8_bestSwap_61, aX8_bestSwap_62, aX8_bestSwap_175, aX8_bestSwap_177, aX8_bestSwap_178, aX8_bestSwap_181, aX8_bestSwap_182, aX8_bestSwap_185, aX8_bestSwap_187, aX8_bestSwap_190, aX8_bestSwap_191, Nat.zero_le, Nat.reduceLeDiff, Nat.reduceAdd, i1_0, rr_c3, zc9, oc9, zc10, oc10, zc11, oc11, zc12, oc12, zc13, oc13, zc15, oc15, Int32.lt_irrefl, Nat.zero_lt_one, Rt_cons, Rt_void, isB_0, isB_1, isB_b, true_and, and_true, cats_nil, cats_int, cats_ref, and_self, if_true, if_false, ite_self, le_nlt, ite_not, aT_31, aN_31, cnt_31, v3.2.1, c1, e31, q]
    · by_cases q2 : x = 0
      · rw [if_pos (Or.inr q2)]
        simp only [aX8_bestSwap_54, aX8_bestSwap_56, aX8_bestSwap_57, aX8_bestSwap_60, aX8_bestSwap_61, aX8_bestSwap_62, aX8_bestSwap_175, aX8_bestSwap_177, aX8_bestSwap_178, aX8_bestSwap_181, aX8_bestSwap_182, aX8_bestSwap_185, aX8_bestSwap_187, aX8_bestSwap_190, aX8_bestSwap_191, Nat.zero_le, Nat.reduceLeDiff, Nat.reduceAdd, i1_0, rr_c3, zc9, oc9, zc10, oc10, zc11, oc11, zc12, oc12, zc13, oc13, zc15, oc15, Int32.lt_irrefl, Nat.zero_lt_one, Rt_cons, Rt_void, isB_0, isB_1, isB_b, true_and, and_true, cats_nil, cats_int, cats_ref, and_self, if_true, if_false, ite_self, le_nlt, ite_not, aT_31, aN_31, cnt_31, v3.2.1, c1, e31, q, q2, not_true_eq_false]
      · rw [if_neg (fun z => z.elim q q2)]
        simp only [aX8_bestSwap_54, aX8_bestSwap_56, aX8_bestSwap_57, aX8_bestSwap_60, aX8_bestSwap_61, aX8_bestSwap_62, aX8_bestSwap_175, aX8_bestSwap_177, aX8_bestSwap_178, aX8_bestSwap_181, aX8_bestSwap_182, aX8_bestSwap_185, aX8_bestSwap_187, aX8_bestSwap_190, aX8_bestSwap_191, Nat.zero_le, Nat.reduceLeDiff, Nat.reduceAdd, i1_0, rr_c3, zc9, oc9, zc10, oc10, zc11, oc11, zc12, oc12, zc13, oc13, zc15, oc15, Int32.lt_irrefl, Nat.zero_lt_one, Rt_cons, Rt_void, isB_0, isB_1, isB_b, true_and, and_true, cats_nil, cats_int, cats_ref, and_self, if_true, if_false, ite_self, le_nlt, ite_not, aT_31, aN_31, cnt_31, v3.2.1, c1, e31, q, q2, not_false_eq_true]
  | succ m ih =>
    intro h σ fb l6 hk hf hv
    have e31 : σ 31 0 1 = nI N := by rw [hv.1 31 0 (by decide) (by decide)]; exact l1
    have l : nI h < nI N := nI_lt (by omega) (by omega)
    obtain ⟨τ1, a1, a2⟩ := lp_mbin (x := x) hN rn l0 l1 hw hn (show h < N by omega) (N - (h + 1)) (h + 1) σ fb (by omega) (by omega) hf hv
    obtain ⟨τ2, b1, b2⟩ := ih (h + 1) τ1 (inS (passW (σ0 32 0) (σ0 33 0) (σ0 35 0) (σ0 36 0) C N) (σ0 43 0) N n h (N - (h + 1)) (h + 1) fb) (.int (nI N)) (by omega) (inS_le hf) a2
    refine ⟨τ2, fun fs Q => ?_, b2⟩
    show _ ↔ Rt fs (enc τ2) (some (.int (bsA x (ouS (passW (σ0 32 0) (σ0 33 0) (σ0 35 0) (σ0 36 0) C N) (σ0 43 0) N n m (h + 1) (inS (passW (σ0 32 0) (σ0 33 0) (σ0 35 0) (σ0 36 0) C N) (σ0 43 0) N n h (N - (h + 1)) (h + 1) fb))))) Q
    rw [← b1 fs Q, aX8_bestSwap_54]
    simp only [aX8_bestSwap_56, aX8_bestSwap_57, aX8_bestSwap_60, aX8_bestSwap_61, aX8_bestSwap_62, aX8_bestSwap_65, aX8_bestSwap_67, aX8_bestSwap_68, aX8_bestSwap_69, Nat.zero_le, Nat.reduceLeDiff, Nat.reduceAdd, i1_0, rr_c3, zc9, oc9, zc10, oc10, zc11, oc11, zc12, oc12, zc13, oc13, zc15, oc15, Int32.lt_irrefl, Nat.zero_lt_one, Rt_cons, Rt_void, isB_0, isB_1, isB_b, true_and, and_true, cats_nil, cats_int, cats_ref, and_self, if_true, if_false, ite_self, le_nlt, ite_not, aT_31, aN_31, cnt_31, v3.2.1, c1, e31, l, nI_1]
    rw [a1]
    simp only [aX8_bestSwap_169, aX8_bestSwap_172, Nat.zero_le, Nat.reduceLeDiff, Nat.reduceAdd, i1_0, rr_c3, zc9, oc9, zc10, oc10, zc11, oc11, zc12, oc12, zc13, oc13, zc15, oc15, Int32.lt_irrefl, Nat.zero_lt_one, Rt_cons, Rt_void, isB_0, isB_1, isB_b, true_and, and_true, cats_nil, cats_int, cats_ref, and_self, if_true, if_false, ite_self, le_nlt, ite_not, nI_1]
theorem api_bestSwap (n x : Int32) : Sim Rel mX7_bestSwap mX8_bestSwap [.int n, .int x] := by
  refine Sim_of (Lc := [.ref (ad 0 0), .int n, .int x, .null, .null, .null, .null, .null]) (Lm := [.ref (ad 29 0), .int n, .int x, .null, .null, .null, .null]) rfl rfl (fun σ hR => ?_)
  obtain ⟨r1, r2, C, N, G, r3, r4, r5, r6, r7⟩ := id hR
  by_cases ho : n < 0 ∨ 60 < n
  · refine ⟨σ, σ, -1000000002, ?_, ?_, hR⟩
    · simp only [aX7_bestSwap_0, aX7_bestSwap_1, aX7_bestSwap_2, aX7_bestSwap_4, aX7_bestSwap_7, aX7_bestSwap_10, aX7_bestSwap_11, aX7_bestSwap_12, aX7_bestSwap_13, aX7_bestSwap_16, aX7_bestSwap_19, aX7_bestSwap_21, sp_isOutside, Nat.zero_le, Nat.reduceLeDiff, Nat.reduceAdd, i1_0, rr_c3, zc9, oc9, zc10, oc10, zc11, oc11, zc12, oc12, zc13, oc13, zc15, oc15, Int32.lt_irrefl, Nat.zero_lt_one, Rt_cons, Rt_void, isB_0, isB_1, isB_b, true_and, and_true, cats_nil, cats_int, cats_ref, and_self, if_true, if_false, ite_self, le_nlt, ite_not, Rt_nil, bI_t ho]
    · simp only [aX8_bestSwap_0, aX8_bestSwap_1, aX8_bestSwap_2, aX8_bestSwap_4, aX8_bestSwap_7, aX8_bestSwap_10, aX8_bestSwap_11, aX8_bestSwap_12, aX8_bestSwap_13, aX8_bestSwap_16, aX8_bestSwap_19, aX8_bestSwap_21, sp_in, Nat.zero_le, Nat.reduceLeDiff, Nat.reduceAdd, i1_0, rr_c3, zc9, oc9, zc10, oc10, zc11, oc11, zc12, oc12, zc13, oc13, zc15, oc15, Int32.lt_irrefl, Nat.zero_lt_one, Rt_cons, Rt_void, isB_0, isB_1, isB_b, true_and, and_true, cats_nil, cats_int, cats_ref, and_self, if_true, if_false, ite_self, le_nlt, ite_not, Rt_nil, bI_f (show ¬ (¬ n < 0 ∧ ¬ 60 < n) from fun z => ho.elim z.1 z.2)]
  · have hin := not_out.mp ho
    by_cases ho2 : x < 0 ∨ 1 < x
    · refine ⟨σ, σ, -1000000002, ?_, ?_, hR⟩
      · simp only [aX7_bestSwap_0, aX7_bestSwap_1, aX7_bestSwap_2, aX7_bestSwap_4, aX7_bestSwap_7, aX7_bestSwap_10, aX7_bestSwap_11, aX7_bestSwap_12, aX7_bestSwap_13, aX7_bestSwap_16, aX7_bestSwap_19, aX7_bestSwap_21, sp_isOutside, Nat.zero_le, Nat.reduceLeDiff, Nat.reduceAdd, i1_0, rr_c3, zc9, oc9, zc10, oc10, zc11, oc11, zc12, oc12, zc13, oc13, zc15, oc15, Int32.lt_irrefl, Nat.zero_lt_one, Rt_cons, Rt_void, isB_0, isB_1, isB_b, true_and, and_true, cats_nil, cats_int, cats_ref, and_self, if_true, if_false, ite_self, le_nlt, ite_not, Rt_nil, bI_f ho, bI_t ho2]
      · simp only [aX8_bestSwap_0, aX8_bestSwap_1, aX8_bestSwap_2, aX8_bestSwap_4, aX8_bestSwap_7, aX8_bestSwap_10, aX8_bestSwap_11, aX8_bestSwap_12, aX8_bestSwap_13, aX8_bestSwap_16, aX8_bestSwap_19, aX8_bestSwap_21, sp_in, Nat.zero_le, Nat.reduceLeDiff, Nat.reduceAdd, i1_0, rr_c3, zc9, oc9, zc10, oc10, zc11, oc11, zc12, oc12, zc13, oc13, zc15, oc15, Int32.lt_irrefl, Nat.zero_lt_one, Rt_cons, Rt_void, isB_0, isB_1, isB_b, true_and, and_true, cats_nil, cats_int, cats_ref, and_self, if_true, if_false, ite_self, le_nlt, ite_not, Rt_nil, bI_t hin, bI_f (show ¬ (¬ x < 0 ∧ ¬ 1 < x) from fun z => ho2.elim z.1 z.2)]
    · have hin2 := not_out.mp ho2
      obtain ⟨t, ht, rfl⟩ := nI_of2 (M := 60) (n := 60) (by decide) hin.1 (Int32.not_lt.mp hin.2)
      have hN := r3.1.2.1
      obtain ⟨τ1, a1, a2⟩ := sp_tryDays r3 ht
      have eo := TrC_out r3 a2 (WH_it (RN_of r3.1) (WH_now r3) (n := t)) (Gr_it Gr_refl)
      obtain ⟨F, hF⟩ : ∃ F, F = passW (σ 32 0) (σ 33 0) (σ 35 0) (σ 36 0) C N := ⟨_, rfl⟩
      obtain ⟨σ1, b1, v, b2⟩ := lp_cbout (x := x) r3 ht N 0 τ1 (pop (bs (Eo (σ 43 0) (itW (passW (σ 32 0) (σ 33 0) (σ 35 0) (σ 36 0) C N) t (σ 43 0))) N) 7, -1) .null .null (by omega) (pop_le _ 7) ⟨_, a2⟩
      obtain ⟨m1, m2, m3, m4, m5, m6, e32, e33, e35, e36⟩ := mfacts r3 b2
      obtain ⟨f, ef⟩ : ∃ f, f = va_cpy (σ1 43 0) (σ1 44 0) 0 0 99 := ⟨_, rfl⟩
      have af : Ag f (σ1 43 0) := by
        rw [ef]
        intro j hj
        rw [pk_cpy_in (by omega) (by omega)]
        simp
      have ecp : cpM σ1 43 0 44 0 = updK σ1 44 0 f := by rw [ef]; rfl
      obtain ⟨υ, c1', c2', c3'⟩ := sp_mtryX (σ0 := σ1) (σ := σ1) (τ := updK σ1 44 0 f) (u0 := σ1 43 0) MTr_refl rfl af m1 ht (by decide) m2 m3 m4 (fun _ _ => rfl)
      obtain ⟨σ2, d1, d2⟩ := lp_mbout (x := x) hN m1 m2 m3 m4 ht N 0 υ (pop (bs (Eo (σ1 43 0) (itW (passW (σ1 32 0) (σ1 33 0) (σ1 35 0) (σ1 36 0) C N) t (σ1 43 0))) N) 7, -1) .null (by omega) (pop_le _ 7) c3'
      have on := fun fs M Q => sp_ones (fs := fs) (M := M) (Q := Q) (bs_lt (p := Eo (σ1 43 0) (itW (passW (σ1 32 0) (σ1 33 0) (σ1 35 0) (σ1 36 0) C N) t (σ1 43 0))) hN)
      rw [m5, e32, e33, e35, e36] at d1 on c2'
      have e0 : nI 0 = 0 := rfl
      rw [e0] at b1 d1
      refine ⟨σ1, σ2, bsA x (ouS (passW (σ 32 0) (σ 33 0) (σ 35 0) (σ 36 0) C N) (σ 43 0) N t N 0 (pop (bs (Eo (σ 43 0) (itW (passW (σ 32 0) (σ 33 0) (σ 35 0) (σ 36 0) C N) t (σ 43 0))) N) 7, -1)), ?_, ?_, ?_⟩
      · simp only [aX7_bestSwap_0, aX7_bestSwap_1, aX7_bestSwap_2, aX7_bestSwap_4, aX7_bestSwap_7, aX7_bestSwap_10, aX7_bestSwap_11, aX7_bestSwap_12, aX7_bestSwap_13, aX7_bestSwap_16, aX7_bestSwap_19, aX7_bestSwap_21, aX7_bestSwap_22, aX7_bestSwap_23, sp_isOutside, Nat.zero_le, Nat.reduceLeDiff, Nat.reduceAdd, i1_0, rr_c3, zc9, oc9, zc10, oc10, zc11, oc11, zc12, oc12, zc13, oc13, zc15, oc15, Int32.lt_irrefl, Nat.zero_lt_one, Rt_cons, Rt_void, isB_0, isB_1, isB_b, true_and, and_true, cats_nil, cats_int, cats_ref, and_self, if_true, if_false, ite_self, le_nlt, ite_not, bI_f ho, bI_f ho2]
        rw [aX7_bestSwap_24, a1]
        simp only [aX7_bestSwap_27, aX7_bestSwap_28, aX7_bestSwap_31, aX7_bestSwap_34, aX7_bestSwap_35, aX7_bestSwap_38, aX7_bestSwap_41, aX7_bestSwap_42, aX7_bestSwap_43, aX7_bestSwap_44, aX7_bestSwap_46, aX7_bestSwap_47, Nat.zero_le, Nat.reduceLeDiff, Nat.reduceAdd, i1_0, rr_c3, zc9, oc9, zc10, oc10, zc11, oc11, zc12, oc12, zc13, oc13, zc15, oc15, Int32.lt_irrefl, Nat.zero_lt_one, Rt_cons, Rt_void, isB_0, isB_1, isB_b, true_and, and_true, cats_nil, cats_int, cats_ref, and_self, if_true, if_false, ite_self, le_nlt, ite_not, eo]
        rw [b1]
        simp only [Nat.zero_le, Nat.reduceLeDiff, Nat.reduceAdd, i1_0, rr_c3, zc9, oc9, zc10, oc10, zc11, oc11, zc12, oc12, zc13, oc13, zc15, oc15, Int32.lt_irrefl, Nat.zero_lt_one, Rt_cons, Rt_void, isB_0, isB_1, isB_b, true_and, and_true, cats_nil, cats_int, cats_ref, and_self, if_true, if_false, ite_self, le_nlt, ite_not, Rt_nil]
      · simp only [aX8_bestSwap_0, aX8_bestSwap_1, aX8_bestSwap_2, aX8_bestSwap_4, aX8_bestSwap_7, aX8_bestSwap_10, aX8_bestSwap_11, aX8_bestSwap_12, aX8_bestSwap_13, aX8_bestSwap_16, aX8_bestSwap_19, aX8_bestSwap_21, aX8_bestSwap_22, aX8_bestSwap_23, aX8_bestSwap_26, aX8_bestSwap_27, aX8_bestSwap_28, aX8_bestSwap_31, sp_in, Nat.zero_le, Nat.reduceLeDiff, Nat.reduceAdd, i1_0, rr_c3, zc9, oc9, zc10, oc10, zc11, oc11, zc12, oc12, zc13, oc13, zc15, oc15, Int32.lt_irrefl, Nat.zero_lt_one, Rt_cons, Rt_void, isB_0, isB_1, isB_b, true_and, and_true, cats_nil, cats_int, cats_ref, and_self, if_true, if_false, ite_self, le_nlt, ite_not, bI_t hin, bI_t hin2]
        rw [aX8_bestSwap_32, cp0, ecp]
        simp only [aX8_bestSwap_35, aX8_bestSwap_36, Nat.zero_le, Nat.reduceLeDiff, Nat.reduceAdd, i1_0, rr_c3, zc9, oc9, zc10, oc10, zc11, oc11, zc12, oc12, zc13, oc13, zc15, oc15, Int32.lt_irrefl, Nat.zero_lt_one, Rt_cons, Rt_void, isB_0, isB_1, isB_b, true_and, and_true, cats_nil, cats_int, cats_ref, and_self, if_true, if_false, ite_self, le_nlt, ite_not]
        rw [aX8_bestSwap_37, c1']
        simp only [aX8_bestSwap_40, aX8_bestSwap_41, aX8_bestSwap_44, aX8_bestSwap_47, aX8_bestSwap_48, aX8_bestSwap_49, aX8_bestSwap_51, aX8_bestSwap_52, on, Nat.zero_le, Nat.reduceLeDiff, Nat.reduceAdd, i1_0, rr_c3, zc9, oc9, zc10, oc10, zc11, oc11, zc12, oc12, zc13, oc13, zc15, oc15, Int32.lt_irrefl, Nat.zero_lt_one, Rt_cons, Rt_void, isB_0, isB_1, isB_b, true_and, and_true, cats_nil, cats_int, cats_ref, and_self, if_true, if_false, ite_self, le_nlt, ite_not, c2']
        rw [d1]
        simp only [Nat.zero_le, Nat.reduceLeDiff, Nat.reduceAdd, i1_0, rr_c3, zc9, oc9, zc10, oc10, zc11, oc11, zc12, oc12, zc13, oc13, zc15, oc15, Int32.lt_irrefl, Nat.zero_lt_one, Rt_cons, Rt_void, isB_0, isB_1, isB_b, true_and, and_true, cats_nil, cats_int, cats_ref, and_self, if_true, if_false, ite_self, le_nlt, ite_not, Rt_nil]
      · exact Rel_free hR (fun k i a b c _ _ _ _ => by rw [d2.1 k i b c, b2.2.2 k i a]) (by rw [d2.1 20 0 (by decide) (by decide), b2.2.2 20 0 (by omega)]) (fun s hs => by rw [d2.2 s (by omega), b2.2.2 29 0 (by omega)])
end S75
