def passW (ct ow kd pt : Nat → Int32) (C N : Nat) (w : Nat → Int32) : Nat → Int32 := passF ct ow kd pt C N (w 0).toNatClampNeg w
def dayF (ct ow kd pt : Nat → Int32) (C N : Nat) (X : (Nat → Int32) × Int32) : (Nat → Int32) × Int32 := (passW ct ow kd pt C N X.1, X.2)
/-- what lasts along the days of a deed -/
def dP (G N k : Nat) (X : (Nat → Int32) × Int32) : Prop := WH (9000 + k) G N X.1 ∧ ¬ X.2 < 0
theorem WH_W {B G N C : Nat} {ct ow kd pt : Nat → Int32} {w : Nat → Int32} (rn : RN ct ow kd pt C N G) (h : WH B G N w) : WH (B + 1) G N (passW ct ow kd pt C N w) := WH_pass rn _ h
theorem dP_day {G N C k : Nat} {ct ow kd pt : Nat → Int32} {X : (Nat → Int32) × Int32} (rn : RN ct ow kd pt C N G) (h : dP G N k X) : dP G N (k + 1) (dayF ct ow kd pt C N X) := ⟨WH_W rn h.1, h.2⟩
theorem dP_wf {G N k : Nat} {X : (Nat → Int32) × Int32} (hk : k ≤ 30) (h : dP G N k X) : WFw G N X.1 := WFx_mono (by omega) h.1.1
section S62
variable {σ : Mem} {fs : List Fm} {M : List va_E} {Q : List va_E → Option Value → Prop}
theorem sp_passDayW {i C N G B : Nat} {ct ow kd pt w : Nat → Int32} (rn : RN ct ow kd pt C N G) (rc : RC σ (rr (σ 9 i 0)) ct ow kd pt C N G) (hi : i < 34) (h : CS σ i w) (hw : WH B G N w) (hB : B < 100000) :
    ∃ τ, (∀ fs Q, Rn mX5_passDay 0 [.ref (ad 9 i), .null, .null, .null] [] fs (enc σ) Q ↔ Rt fs (enc τ) none Q) ∧ CS τ i (passW ct ow kd pt C N w) ∧ Fr σ τ i := by
  obtain ⟨d, d1, d2⟩ := hw.1.1
  have e : (w 0).toNatClampNeg = d := by rw [d2]; exact nI_clamp (by omega)
  unfold passW
  rw [e]
  exact sp_passDay rn rc hi h hw (by omega) d2
theorem sp_passesW {k0 C N G B : Nat} {ct ow kd pt w : Nat → Int32} (hk : k0 = 43 ∨ k0 = 44) (rn : RN ct ow kd pt C N G) (hC : 0 < C) (e31 : σ 31 0 1 = nI N) (e310 : σ 31 0 0 = nI C) (e32 : σ 32 0 = ct) (e33 : σ 33 0 = ow) (e35 : σ 35 0 = kd) (e36 : σ 36 0 = pt) (hw : WH B G N w) (hB : B < 100000) (ek : σ k0 0 = w) :
    Rn mX8_passes 0 [.ref (ad 29 0), .ref (ad k0 0), .null, .null] [] fs (enc σ) Q ↔ Rt fs (enc (updK σ k0 0 (passW ct ow kd pt C N w))) none Q := by
  obtain ⟨d, d1, d2⟩ := hw.1.1
  have e : (w 0).toNatClampNeg = d := by rw [d2]; exact nI_clamp (by omega)
  unfold passW
  rw [e]
  exact sp_passes hk rn hC (by omega) e31 e310 e32 e33 e35 e36 hw d2 ek
theorem lp_day {σ0 : Mem} {n q C N G : Nat} {ct ow kd pt : Nat → Int32} {l2 : Value} (hn : n ≤ 30) (rn : RN ct ow kd pt C N G) (rc : RC σ0 q ct ow kd pt C N G) (hq : q < 2) : ∀ (m k : Nat) (σ : Mem) (D : DS), k + m = n → CI σ0 σ q D → dP G N k D.2.2.2 →
    ∃ τ, (∀ fs Q, Rn mX7_day 14 [.ref (ad 0 0), .int (nI n), l2, .int (nI k)] [] fs (enc σ) Q ↔ Rn mX7_day 43 [.ref (ad 0 0), .int (nI n), l2, .int (nI n)] [] fs (enc τ) Q) ∧ CI σ0 τ q (itD (dayF ct ow kd pt C N) m D) := by
  intro m
  induction m with
  | zero =>
    intro k σ D hk h hp
    obtain rfl : k = n := by omega
    refine ⟨σ, fun fs Q => ?_, h⟩
    simp only [aX7_day_14, aX7_day_15, aX7_day_16, Nat.zero_le, Nat.reduceLeDiff, Nat.reduceAdd, i1_0, rr_c3, zc9, oc9, zc10, oc10, zc11, oc11, zc12, oc12, zc13, oc13, zc15, oc15, Int32.lt_irrefl, Nat.zero_lt_one, Rt_cons, Rt_void, isB_0, isB_1, isB_b, true_and, and_true, cats_nil, cats_int, cats_ref, and_self, if_true, if_false, ite_self, le_nlt, ite_not]
  | succ m ih =>
    intro k σ D hk h hp
    obtain ⟨c, x, P, w, s⟩ := D
    have h1 := CI_rem h
    have rc1 : RC (remF σ c x) (rr (remF σ c x 9 0 0)) ct ow kd pt C N G := by
      rw [h1.2.2.1]
      exact RC_congr rc (fun k a b => h1.2.2.2.2.2 k q (by omega) (by omega) (by omega))
    obtain ⟨τ1, a1, a2, a3⟩ := sp_passDayW rn rc1 (show 0 < 34 by decide) h1.2.1 hp.1 (by omega)
    have h2 := CI_Fr h1 a3 a2
    obtain ⟨τ, b1, b2⟩ := ih (k + 1) τ1 _ (by omega) h2 (dP_day rn hp)
    refine ⟨τ, fun fs Q => ?_, b2⟩
    have l : nI k < nI n := nI_lt (by omega) (by omega)
    rw [aX7_day_14]
    simp only [aX7_day_15, aX7_day_16, aX7_day_19, aX7_day_20, aX7_day_23, aX7_day_24, Nat.zero_le, Nat.reduceLeDiff, Nat.reduceAdd, i1_0, rr_c3, zc9, oc9, zc10, oc10, zc11, oc11, zc12, oc12, zc13, oc13, zc15, oc15, Int32.lt_irrefl, Nat.zero_lt_one, Rt_cons, Rt_void, isB_0, isB_1, isB_b, true_and, and_true, cats_nil, cats_int, cats_ref, and_self, if_true, if_false, ite_self, le_nlt, ite_not, l]
    rw [aX7_day_27, sp_remember h.1.1 h.1.2.1 h.1.2.2.2.1 h.1.2.2.1 (CS_bool h.2.1)]
    simp only [aX7_day_30, aX7_day_31, Nat.zero_le, Nat.reduceLeDiff, Nat.reduceAdd, i1_0, rr_c3, zc9, oc9, zc10, oc10, zc11, oc11, zc12, oc12, zc13, oc13, zc15, oc15, Int32.lt_irrefl, Nat.zero_lt_one, Rt_cons, Rt_void, isB_0, isB_1, isB_b, true_and, and_true, cats_nil, cats_int, cats_ref, and_self, if_true, if_false, ite_self, le_nlt, ite_not]
    rw [aX7_day_34 (by decide), a1]
    simp only [aX7_day_37, aX7_day_40, Nat.zero_le, Nat.reduceLeDiff, Nat.reduceAdd, i1_0, rr_c3, zc9, oc9, zc10, oc10, zc11, oc11, zc12, oc12, zc13, oc13, zc15, oc15, Int32.lt_irrefl, Nat.zero_lt_one, Rt_cons, Rt_void, isB_0, isB_1, isB_b, true_and, and_true, cats_nil, cats_int, cats_ref, and_self, if_true, if_false, ite_self, le_nlt, ite_not, nI_1]
    exact b1 fs Q
theorem lp_mday {σ0 : Mem} {n C N G : Nat} {ct ow kd pt : Nat → Int32} (hn : n ≤ 30) (rn : RN ct ow kd pt C N G) (hC : 0 < C) (e31 : σ0 31 0 1 = nI N) (e310 : σ0 31 0 0 = nI C) (e32 : σ0 32 0 = ct) (e33 : σ0 33 0 = ow) (e35 : σ0 35 0 = kd) (e36 : σ0 36 0 = pt) : ∀ (m k : Nat) (σ : Mem) (c x : Nat) (P : Nat → Nat → Int32) (w : Nat → Int32) (s : Int32), k + m = n → c ≤ 30 → MI σ0 σ (c, x, P, w, s) → dP G N k (w, s) →
    ∃ τ, (∀ fs Q, Rn mX8_day 40 [.ref (ad 29 0), .int (nI n), .int (nI k)] [] fs (enc σ) Q ↔ Rn mX8_day 63 [.ref (ad 29 0), .int (nI n), .int (nI n)] [] fs (enc τ) Q) ∧ MI σ0 τ (itD (dayF ct ow kd pt C N) m (c, x, P, w, s)) := by
  intro m
  induction m with
  | zero =>
    intro k σ c x P w s hk hc h hp
    obtain rfl : k = n := by omega
    refine ⟨σ, fun fs Q => ?_, h⟩
    simp only [aX8_day_40, aX8_day_41, aX8_day_42, Nat.zero_le, Nat.reduceLeDiff, Nat.reduceAdd, i1_0, rr_c3, zc9, oc9, zc10, oc10, zc11, oc11, zc12, oc12, zc13, oc13, zc15, oc15, Int32.lt_irrefl, Nat.zero_lt_one, Rt_cons, Rt_void, isB_0, isB_1, isB_b, true_and, and_true, cats_nil, cats_int, cats_ref, and_self, if_true, if_false, ite_self, le_nlt, ite_not]
  | succ m ih =>
    intro k σ c x P w s hk hc h hp
    have hk' : k + 1 + m = n := by omega
    have h1 := MI_not hc h
    have f : ∀ k i, ¬ k = 43 → ¬ k = 45 → ¬ k = 29 → notF σ c k i = σ0 k i := h1.2.2.2.2
    have a1 := fun fs Q => sp_passesW (σ := notF σ c) (fs := fs) (Q := Q) (k0 := 43) (Or.inl rfl) rn hC (by rw [f _ _ (by omega) (by omega) (by omega)]; exact e31) (by rw [f _ _ (by omega) (by omega) (by omega)]; exact e310) (by rw [f _ _ (by omega) (by omega) (by omega)]; exact e32) (by rw [f _ _ (by omega) (by omega) (by omega)]; exact e33) (by rw [f _ _ (by omega) (by omega) (by omega)]; exact e35) (by rw [f _ _ (by omega) (by omega) (by omega)]; exact e36) hp.1 (by omega) h1.2.1
    have h2 := MI_w (v := passW ct ow kd pt C N w) h1
    have hc' : noteC c ≤ 30 := by
      have : c ≤ 30 := hc
      unfold noteC
      split <;> omega
    obtain ⟨τ, b1, b2⟩ := ih (k + 1) (updK (notF σ c) 43 0 (passW ct ow kd pt C N w)) (noteC c) ((x + 1) % 30) (noteP P c w) (passW ct ow kd pt C N w) s hk' hc' h2 (dP_day (X := (w, s)) rn hp)
    refine ⟨τ, fun fs Q => ?_, b2⟩
    have l : nI k < nI n := nI_lt (by omega) (by omega)
    rw [aX8_day_40]
    simp only [aX8_day_41, aX8_day_42, aX8_day_45, Nat.zero_le, Nat.reduceLeDiff, Nat.reduceAdd, i1_0, rr_c3, zc9, oc9, zc10, oc10, zc11, oc11, zc12, oc12, zc13, oc13, zc15, oc15, Int32.lt_irrefl, Nat.zero_lt_one, Rt_cons, Rt_void, isB_0, isB_1, isB_b, true_and, and_true, cats_nil, cats_int, cats_ref, and_self, if_true, if_false, ite_self, le_nlt, ite_not, l]
    rw [aX8_day_46, sp_notes hc h.1.1]
    simp only [aX8_day_49, aX8_day_50, aX8_day_51, Nat.zero_le, Nat.reduceLeDiff, Nat.reduceAdd, i1_0, rr_c3, zc9, oc9, zc10, oc10, zc11, oc11, zc12, oc12, zc13, oc13, zc15, oc15, Int32.lt_irrefl, Nat.zero_lt_one, Rt_cons, Rt_void, isB_0, isB_1, isB_b, true_and, and_true, cats_nil, cats_int, cats_ref, and_self, if_true, if_false, ite_self, le_nlt, ite_not]
    rw [aX8_day_54, a1]
    simp only [aX8_day_57, aX8_day_60, Nat.zero_le, Nat.reduceLeDiff, Nat.reduceAdd, i1_0, rr_c3, zc9, oc9, zc10, oc10, zc11, oc11, zc12, oc12, zc13, oc13, zc15, oc15, Int32.lt_irrefl, Nat.zero_lt_one, Rt_cons, Rt_void, isB_0, isB_1, isB_b, true_and, and_true, cats_nil, cats_int, cats_ref, and_self, if_true, if_false, ite_self, le_nlt, ite_not, nI_1]
    exact b1 fs Q
theorem sp_refusal {C d : Nat} {n : Int32} (hC : C ≤ 12) (hd : d ≤ 10000) (e : σ 3 (rr (σ 9 0 0)) 0 = nI C) (ed : σ 9 0 1 = nI d) : Rn mX7_refusalOfDays 0 [.ref (ad 0 0), .int n] [] fs (enc σ) Q ↔ Rt fs (enc σ) (some (.int (if n < 1 ∨ 30 < n then -1000000002 else if C = 0 then -1000000003 else if 9000 < d then -1000000004 else 0))) Q := by
  by_cases h : n < 1 ∨ 30 < n
  · rw [if_pos h]
    simp only [aX7_refusalOfDays_0, aX7_refusalOfDays_1, aX7_refusalOfDays_2, aX7_refusalOfDays_4, aX7_refusalOfDays_7, aX7_refusalOfDays_10, aX7_refusalOfDays_12, aX7_refusalOfDays_13, aX7_refusalOfDays_14, aX7_refusalOfDays_17, aX7_refusalOfDays_20, aX7_refusalOfDays_23, aX7_refusalOfDays_26, aX7_refusalOfDays_28, aX7_refusalOfDays_29, aX7_refusalOfDays_30, aX7_refusalOfDays_33, aX7_refusalOfDays_36, aX7_refusalOfDays_39, aX7_refusalOfDays_42, aX7_refusalOfDays_44, aX7_refusalOfDays_47, aX7_refusalOfDays_48, sp_isOutside, Nat.zero_le, Nat.reduceLeDiff, Nat.reduceAdd, i1_0, rr_c3, zc9, oc9, zc10, oc10, zc11, oc11, zc12, oc12, zc13, oc13, zc15, oc15, Int32.lt_irrefl, Nat.zero_lt_one, Rt_cons, Rt_void, isB_0, isB_1, isB_b, true_and, and_true, cats_nil, cats_int, cats_ref, and_self, if_true, if_false, ite_self, le_nlt, ite_not, bI_t h]
  · rw [if_neg h]
    by_cases h2 : C = 0
    · rw [if_pos h2]
      simp only [aX7_refusalOfDays_0, aX7_refusalOfDays_1, aX7_refusalOfDays_2, aX7_refusalOfDays_4, aX7_refusalOfDays_7, aX7_refusalOfDays_10, aX7_refusalOfDays_12, aX7_refusalOfDays_13, aX7_refusalOfDays_14, aX7_refusalOfDays_17, aX7_refusalOfDays_20, aX7_refusalOfDays_23, aX7_refusalOfDays_26, aX7_refusalOfDays_28, aX7_refusalOfDays_29, aX7_refusalOfDays_30, aX7_refusalOfDays_33, aX7_refusalOfDays_36, aX7_refusalOfDays_39, aX7_refusalOfDays_42, aX7_refusalOfDays_44, aX7_refusalOfDays_47, aX7_refusalOfDays_48, sp_isOutside, sp_cTold hC (rr_lt _) e, Nat.zero_le, Nat.reduceLeDiff, Nat.reduceAdd, i1_0, rr_c3, zc9, oc9, zc10, oc10, zc11, oc11, zc12, oc12, zc13, oc13, zc15, oc15, Int32.lt_irrefl, Nat.zero_lt_one, Rt_cons, Rt_void, isB_0, isB_1, isB_b, true_and, and_true, cats_nil, cats_int, cats_ref, and_self, if_true, if_false, ite_self, le_nlt, ite_not, bI_f h, bI_f (show ¬ 0 < C by omega)]
    · have l := nI_ltI (a := 9000) (b := d) (by decide) (by omega)
      have e9 : nI 9000 = 9000 := rfl
      rw [e9] at l
      rw [if_neg h2]
      by_cases h3 : 9000 < d
      · rw [if_pos h3]
        simp only [aX7_refusalOfDays_0, aX7_refusalOfDays_1, aX7_refusalOfDays_2, aX7_refusalOfDays_4, aX7_refusalOfDays_7, aX7_refusalOfDays_10, aX7_refusalOfDays_12, aX7_refusalOfDays_13, aX7_refusalOfDays_14, aX7_refusalOfDays_17, aX7_refusalOfDays_20, aX7_refusalOfDays_23, aX7_refusalOfDays_26, aX7_refusalOfDays_28, aX7_refusalOfDays_29, aX7_refusalOfDays_30, aX7_refusalOfDays_33, aX7_refusalOfDays_36, aX7_refusalOfDays_39, aX7_refusalOfDays_42, aX7_refusalOfDays_44, aX7_refusalOfDays_47, aX7_refusalOfDays_48, sp_isOutside, sp_cTold hC (rr_lt _) e, Nat.zero_le, Nat.reduceLeDiff, Nat.reduceAdd, i1_0, rr_c3, zc9, oc9, zc10, oc10, zc11, oc11, zc12, oc12, zc13, oc13, zc15, oc15, Int32.lt_irrefl, Nat.zero_lt_one, Rt_cons, Rt_void, isB_0, isB_1, isB_b, true_and, and_true, cats_nil, cats_int, cats_ref, and_self, if_true, if_false, ite_self, le_nlt, ite_not, bI_f h, bI_t (show 0 < C by omega), ed, l.mpr h3, not_true_eq_false]
      · rw [if_neg h3]
        have l' : ¬ 9000 < nI d := fun z => h3 (l.mp z)
        simp only [aX7_refusalOfDays_0, aX7_refusalOfDays_1, aX7_refusalOfDays_2, aX7_refusalOfDays_4, aX7_refusalOfDays_7, aX7_refusalOfDays_10, aX7_refusalOfDays_12, aX7_refusalOfDays_13, aX7_refusalOfDays_14, aX7_refusalOfDays_17, aX7_refusalOfDays_20, aX7_refusalOfDays_23, aX7_refusalOfDays_26, aX7_refusalOfDays_28, aX7_refusalOfDays_29, aX7_refusalOfDays_30, aX7_refusalOfDays_33, aX7_refusalOfDays_36, aX7_refusalOfDays_39, aX7_refusalOfDays_42, aX7_refusalOfDays_44, aX7_refusalOfDays_47, aX7_refusalOfDays_48, sp_isOutside, sp_cTold hC (rr_lt _) e, Nat.zero_le, Nat.reduceLeDiff, Nat.reduceAdd, i1_0, rr_c3, zc9, oc9, zc10, oc10, zc11, oc11, zc12, oc12, zc13, oc13, zc15, oc15, Int32.lt_irrefl, Nat.zero_lt_one, Rt_cons, Rt_void, isB_0, isB_1, isB_b, true_and, and_true, cats_nil, cats_int, cats_ref, and_self, if_true, if_false, ite_self, le_nlt, ite_not, bI_f h, bI_t (show 0 < C by omega), ed, l']
theorem api_day (n : Int32) : Sim Rel mX7_day mX8_day [.int n] := by
  refine Sim_of (Lc := [.ref (ad 0 0), .int n, .null, .null]) (Lm := [.ref (ad 29 0), .int n, .null]) rfl rfl (fun σ hR => ?_)
  obtain ⟨r1, r2, C, N, G, r3, r4, r5, r6, r7⟩ := id hR
  obtain ⟨q1, q2, q3, q4, ⟨l0, l1, l2⟩, ⟨k0, k1, k2⟩, q5, q6, q7⟩ := id r3.1
  have hq := rr_lt (σ 9 0 0)
  obtain ⟨d, d1, d2⟩ := r3.2.2.2.1
  have e9 : σ 9 0 1 = nI d := r3.2.2.1.1.trans d2
  have n2 : ¬ (-1000000002 : Int32) = 0 := by decide
  have n3 : ¬ (-1000000003 : Int32) = 0 := by decide
  have n4 : ¬ (-1000000004 : Int32) = 0 := by decide
  have l := nI_ltI (a := 9000) (b := d) (by decide) (by omega)
  have en9 : nI 9000 = 9000 := rfl
  rw [en9] at l
  by_cases ho : n < 1 ∨ 30 < n
  · refine ⟨σ, σ, -1000000002, ?_, ?_, hR⟩
    · simp only [aX7_day_0, aX7_day_1, aX7_day_2, aX7_day_5, aX7_day_6, aX7_day_7, aX7_day_10, aX7_day_11, sp_refusal q1 d1 k0 e9, if_pos ho, Nat.zero_le, Nat.reduceLeDiff, Nat.reduceAdd, i1_0, rr_c3, zc9, oc9, zc10, oc10, zc11, oc11, zc12, oc12, zc13, oc13, zc15, oc15, Int32.lt_irrefl, Nat.zero_lt_one, Rt_cons, Rt_void, isB_0, isB_1, isB_b, true_and, and_true, cats_nil, cats_int, cats_ref, and_self, if_true, if_false, ite_self, le_nlt, ite_not, Rt_nil, n2]
    · simp only [aX8_day_0, aX8_day_1, aX8_day_2, aX8_day_4, aX8_day_7, aX8_day_10, aX8_day_12, sp_in, Nat.zero_le, Nat.reduceLeDiff, Nat.reduceAdd, i1_0, rr_c3, zc9, oc9, zc10, oc10, zc11, oc11, zc12, oc12, zc13, oc13, zc15, oc15, Int32.lt_irrefl, Nat.zero_lt_one, Rt_cons, Rt_void, isB_0, isB_1, isB_b, true_and, and_true, cats_nil, cats_int, cats_ref, and_self, if_true, if_false, ite_self, le_nlt, ite_not, Rt_nil, bI_f (show ¬ (¬ n < 1 ∧ ¬ 30 < n) from fun z => ho.elim z.1 z.2)]
  · have hin := not_out.mp ho
    have hn0 : ¬ n < 0 := fun z => hin.1 (Int32.lt_trans z (by decide))
    obtain ⟨a, ha, rfl⟩ := nI_of2 (M := 30) (n := 30) (by decide) hn0 (Int32.not_lt.mp hin.2)
    by_cases hC : C = 0
    · refine ⟨σ, σ, -1000000003, ?_, ?_, hR⟩
      · simp only [aX7_day_0, aX7_day_1, aX7_day_2, aX7_day_5, aX7_day_6, aX7_day_7, aX7_day_10, aX7_day_11, sp_refusal q1 d1 k0 e9, if_neg ho, if_pos hC, Nat.zero_le, Nat.reduceLeDiff, Nat.reduceAdd, i1_0, rr_c3, zc9, oc9, zc10, oc10, zc11, oc11, zc12, oc12, zc13, oc13, zc15, oc15, Int32.lt_irrefl, Nat.zero_lt_one, Rt_cons, Rt_void, isB_0, isB_1, isB_b, true_and, and_true, cats_nil, cats_int, cats_ref, and_self, if_true, if_false, ite_self, le_nlt, ite_not, Rt_nil, n3]
      · simp only [aX8_day_0, aX8_day_1, aX8_day_2, aX8_day_4, aX8_day_7, aX8_day_10, aX8_day_12, aX8_day_13, aX8_day_14, aX8_day_17, aX8_day_20, aX8_day_22, sp_in, sp_mTold q1 l0, Nat.zero_le, Nat.reduceLeDiff, Nat.reduceAdd, i1_0, rr_c3, zc9, oc9, zc10, oc10, zc11, oc11, zc12, oc12, zc13, oc13, zc15, oc15, Int32.lt_irrefl, Nat.zero_lt_one, Rt_cons, Rt_void, isB_0, isB_1, isB_b, true_and, and_true, cats_nil, cats_int, cats_ref, and_self, if_true, if_false, ite_self, le_nlt, ite_not, Rt_nil, bI_t hin, bI_f (show ¬ 0 < C by omega)]
    · by_cases hd : 9000 < d
      · refine ⟨σ, σ, -1000000004, ?_, ?_, hR⟩
        · simp only [aX7_day_0, aX7_day_1, aX7_day_2, aX7_day_5, aX7_day_6, aX7_day_7, aX7_day_10, aX7_day_11, sp_refusal q1 d1 k0 e9, if_neg ho, if_neg hC, if_pos hd, Nat.zero_le, Nat.reduceLeDiff, Nat.reduceAdd, i1_0, rr_c3, zc9, oc9, zc10, oc10, zc11, oc11, zc12, oc12, zc13, oc13, zc15, oc15, Int32.lt_irrefl, Nat.zero_lt_one, Rt_cons, Rt_void, isB_0, isB_1, isB_b, true_and, and_true, cats_nil, cats_int, cats_ref, and_self, if_true, if_false, ite_self, le_nlt, ite_not, Rt_nil, n4]
        · simp only [aX8_day_0, aX8_day_1, aX8_day_2, aX8_day_4, aX8_day_7, aX8_day_10, aX8_day_12, aX8_day_13, aX8_day_14, aX8_day_17, aX8_day_20, aX8_day_22, aX8_day_23, aX8_day_24, aX8_day_27, aX8_day_28, aX8_day_29, aX8_day_32, aX8_day_35, aX8_day_37, sp_in, sp_mTold q1 l0, Nat.zero_le, Nat.reduceLeDiff, Nat.reduceAdd, i1_0, rr_c3, zc9, oc9, zc10, oc10, zc11, oc11, zc12, oc12, zc13, oc13, zc15, oc15, Int32.lt_irrefl, Nat.zero_lt_one, Rt_cons, Rt_void, isB_0, isB_1, isB_b, true_and, and_true, cats_nil, cats_int, cats_ref, and_self, if_true, if_false, ite_self, le_nlt, ite_not, Rt_nil, bI_t hin, bI_t (show 0 < C by omega), aT_43, aN_43, cnt_43, v99.1, c0, d2, l.mpr hd, not_true_eq_false]
      · obtain ⟨c, x, p1, p2, p3, p4, p5, p6⟩ := r6
        have ci := CI_of p1 p2 p3 p4 p6 r3.2.2.1 rfl r2.1
        have rn := RN_of r3.1
        have wh : WH (9000 + 0) G N (σ 43 0) := by
          refine ⟨?_, HG_of r3.2.2.1⟩
          obtain ⟨_, h⟩ := r3.2.2.2
          exact ⟨⟨d, by omega, d2⟩, h⟩
        have dp : dP G N 0 (σ 43 0, σ 29 0 22) := ⟨wh, r2.2⟩
        obtain ⟨σ1, a1, a2⟩ := lp_day (n := a) (l2 := .int 0) ha rn (RC_of r3.1) hq a 0 σ _ (by omega) ci dp
        have mi := MI_of (x := x) a2 p5
        have f := a2.2.2.2.2.2
        obtain ⟨σ2, b1, b2⟩ := lp_mday (n := a) ha rn (by omega) (by rw [f _ _ (by omega) (by omega) (by omega)]; exact l1) (by rw [f _ _ (by omega) (by omega) (by omega)]; exact l0) (f 32 0 (by omega) (by omega) (by omega)) (f 33 0 (by omega) (by omega) (by omega)) (f 35 0 (by omega) (by omega) (by omega)) (f 36 0 (by omega) (by omega) (by omega)) a 0 σ1 _ _ _ _ _ (by omega) p1 mi dp
        obtain ⟨g1, g2⟩ := itD_P (p := dP G N) (wf := WFw G N) (fun k X h => dP_day rn h) (fun k X a b => dP_wf a b) a 0 (c, x, (fun j t => σ 45 0 (99 * j + t)), σ 43 0, σ 29 0 22) (by omega) p1 dp (fun j hj => (p6 j hj).2.2)
        have l' : ¬ 9000 < nI d := fun z => hd (l.mp z)
        have e0 : nI 0 = 0 := rfl
        rw [e0] at a1 b1
        refine ⟨σ1, σ2, σ1 9 0 2, ?_, ?_, Rel_days r1 r3 r4 r5 r7 a2 b2 g1.2 (dP_wf (by omega) g1) g2⟩
        · simp only [aX7_day_0, aX7_day_1, aX7_day_2, aX7_day_5, aX7_day_6, aX7_day_7, aX7_day_10, aX7_day_11, aX7_day_12, aX7_day_13, sp_refusal q1 d1 k0 e9, if_neg ho, if_neg hC, if_neg hd, Nat.zero_le, Nat.reduceLeDiff, Nat.reduceAdd, i1_0, rr_c3, zc9, oc9, zc10, oc10, zc11, oc11, zc12, oc12, zc13, oc13, zc15, oc15, Int32.lt_irrefl, Nat.zero_lt_one, Rt_cons, Rt_void, isB_0, isB_1, isB_b, true_and, and_true, cats_nil, cats_int, cats_ref, and_self, if_true, if_false, ite_self, le_nlt, ite_not, a1]
          simp only [aX7_day_43, aX7_day_44, aX7_day_47, aX7_day_50, Nat.zero_le, Nat.reduceLeDiff, Nat.reduceAdd, i1_0, rr_c3, zc9, oc9, zc10, oc10, zc11, oc11, zc12, oc12, zc13, oc13, zc15, oc15, Int32.lt_irrefl, Nat.zero_lt_one, Rt_cons, Rt_void, isB_0, isB_1, isB_b, true_and, and_true, cats_nil, cats_int, cats_ref, and_self, if_true, if_false, ite_self, le_nlt, ite_not, Rt_nil]
        · have m31 : σ1 31 0 0 = nI C := by rw [f _ _ (by omega) (by omega) (by omega)]; exact l0
          have m43 : σ1 43 0 0 = nI d := by rw [f _ _ (by omega) (by omega) (by omega)]; exact d2
          simp only [aX8_day_0, aX8_day_1, aX8_day_2, aX8_day_4, aX8_day_7, aX8_day_10, aX8_day_12, aX8_day_13, aX8_day_14, aX8_day_17, aX8_day_20, aX8_day_22, aX8_day_23, aX8_day_24, aX8_day_27, aX8_day_28, aX8_day_29, aX8_day_32, aX8_day_35, aX8_day_37, aX8_day_38, aX8_day_39, sp_in, sp_mTold q1 m31, Nat.zero_le, Nat.reduceLeDiff, Nat.reduceAdd, i1_0, rr_c3, zc9, oc9, zc10, oc10, zc11, oc11, zc12, oc12, zc13, oc13, zc15, oc15, Int32.lt_irrefl, Nat.zero_lt_one, Rt_cons, Rt_void, isB_0, isB_1, isB_b, true_and, and_true, cats_nil, cats_int, cats_ref, and_self, if_true, if_false, ite_self, le_nlt, ite_not, bI_t hin, bI_t (show 0 < C by omega), aT_43, aN_43, cnt_43, v99.1, c0, m43, l', b1]
          simp only [aX8_day_63, aX8_day_64, aX8_day_67, aX8_day_68, aX8_day_69, Nat.zero_le, Nat.reduceLeDiff, Nat.reduceAdd, i1_0, rr_c3, zc9, oc9, zc10, oc10, zc11, oc11, zc12, oc12, zc13, oc13, zc15, oc15, Int32.lt_irrefl, Nat.zero_lt_one, Rt_cons, Rt_void, isB_0, isB_1, isB_b, true_and, and_true, cats_nil, cats_int, cats_ref, and_self, if_true, if_false, ite_self, le_nlt, ite_not, Rt_nil, aT_43, aN_43, cnt_43, v99.2.1, c1]
          rw [b2.2.1, a2.2.1.2.1]
end S62
