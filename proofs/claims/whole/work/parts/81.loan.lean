-- loan
theorem fnd_at {f : Nat → Bool} : ∀ {m k a : Nat}, k ≤ a → a < k + m → f a = true → (∀ t, k ≤ t → t < a → ¬ f t = true) → fnd f m k = nI a := by
  intro m
  induction m with
  | zero => intro k a h1 h2; omega
  | succ m ih =>
    intro k a h1 h2 h3 h4
    rw [fnd_s]
    by_cases q : k = a
    · rw [q, if_pos h3]
    · rw [if_neg (h4 k (Nat.le_refl _) (by omega))]
      exact ih (by omega) (by omega) h3 (fun t a b => h4 t (by omega) b)
theorem fnd_none {f : Nat → Bool} : ∀ {m k : Nat}, (∀ t, k ≤ t → t < k + m → ¬ f t = true) → fnd f m k = -1 := by
  intro m
  induction m with
  | zero => intro k _; rfl
  | succ m ih =>
    intro k h
    rw [fnd_s, if_neg (h k (Nat.le_refl _) (by omega))]
    exact ih (fun t a b => h t (by omega) (by omega))
section S81
variable {σ : Mem} {fs : List Fm} {M : List va_E} {Q : List va_E → Option Value → Prop}
theorem lok_dec (F : (Nat → Int32) → (Nat → Int32)) (now : Nat → Int32) (n v : Nat) : lok F now n v ↔ decide (cE7 now = cE7 (itW F n (addF now (nI v)))) = true := by
  rw [decide_eq_true_iff]; exact Iff.rfl
def lokB (F : (Nat → Int32) → (Nat → Int32)) (now : Nat → Int32) (n v : Nat) : Bool := decide (cE7 now = cE7 (itW F n (addF now (nI v))))
theorem lp_ld {σ0 : Mem} {C N G n a : Nat} (r3 : NowR σ0 C N G) (hn : n ≤ 60) (ha : a ≤ 999) : ∀ (m i : Nat) (σ : Mem), i + m = n → TrC σ0 σ (itW (passW (σ0 32 0) (σ0 33 0) (σ0 35 0) (σ0 36 0) C N) i (addF (σ0 43 0) (nI a))) →
    ∃ τ, (∀ fs Q, Rn mX7_loanDoes 21 [.ref (ad 0 0), .int (nI a), .int (nI n), .int (nI i)] [] fs (enc σ) Q ↔ Rt fs (enc τ) (some (.int (bI (lokB (passW (σ0 32 0) (σ0 33 0) (σ0 35 0) (σ0 36 0) C N) (σ0 43 0) n a = true)))) Q) ∧ ∃ u, TrC σ0 τ u := by
  intro m
  have hN := r3.1.2.1
  have rn := RN_of r3.1
  have w0 := WH_add (x := a) (WH_now r3) (by omega)
  have P0 : ∀ σ u, TrC σ0 σ u → σ 9 0 3 = nI (cE7 (σ0 43 0)) := fun σ u h => by rw [h.2.2 9 0 (by omega)]; exact r3.2.2.1.2.2.1.trans r3.2.2.2.2.2.1
  have P1 : ∀ σ i, TrC σ0 σ (itW (passW (σ0 32 0) (σ0 33 0) (σ0 35 0) (σ0 36 0) C N) i (addF (σ0 43 0) (nI a))) → σ 9 1 3 = nI (cE7 (itW (passW (σ0 32 0) (σ0 33 0) (σ0 35 0) (σ0 36 0) C N) i (addF (σ0 43 0) (nI a)))) := fun σ i h => h.1.2.2.1.trans (WH_it rn w0 (n := i)).1.2.2.1
  have E : ∀ i, (nI (cE7 (itW (passW (σ0 32 0) (σ0 33 0) (σ0 35 0) (σ0 36 0) C N) i (addF (σ0 43 0) (nI a)))) = nI (cE7 (σ0 43 0)) ↔ cE7 (σ0 43 0) = cE7 (itW (passW (σ0 32 0) (σ0 33 0) (σ0 35 0) (σ0 36 0) C N) i (addF (σ0 43 0) (nI a)))) := fun i => by
    have l1 := cE7_le (σ0 43 0)
    have l2 := cE7_le (itW (passW (σ0 32 0) (σ0 33 0) (σ0 35 0) (σ0 36 0) C N) i (addF (σ0 43 0) (nI a)))
    rw [nI_eq (by omega) (by omega)]
    exact ⟨Eq.symm, Eq.symm⟩
  have T : ∀ σ (l : Value), TrC σ0 σ (itW (passW (σ0 32 0) (σ0 33 0) (σ0 35 0) (σ0 36 0) C N) n (addF (σ0 43 0) (nI a))) → ∀ fs Q, (Rn mX7_loanDoes 56 [.ref (ad 0 0), .int (nI a), .int (nI n), l] [] fs (enc σ) Q ↔ Rt fs (enc σ) (some (.int (bI (lokB (passW (σ0 32 0) (σ0 33 0) (σ0 35 0) (σ0 36 0) C N) (σ0 43 0) n a = true)))) Q) := fun σ l h fs Q => by
    have p0 := P0 σ _ h
    have p1 := P1 σ n h
    by_cases q : cE7 (σ0 43 0) = cE7 (itW (passW (σ0 32 0) (σ0 33 0) (σ0 35 0) (σ0 36 0) C N) n (addF (σ0 43 0) (nI a)))
    · rw [bI_t (show lokB _ _ _ _ = true from decide_eq_true q)]
      have q' := (E n).mpr q
      rw [q'] at p1
      simp only [aX7_loanDoes_56, aX7_loanDoes_57, aX7_loanDoes_60, aX7_loanDoes_63, aX7_loanDoes_64, aX7_loanDoes_67, aX7_loanDoes_70, aX7_loanDoes_73, aX7_loanDoes_74, aX7_loanDoes_77, aX7_loanDoes_78, Nat.zero_le, Nat.reduceLeDiff, Nat.reduceAdd, i1_0, rr_c3, zc9, oc9, zc10, oc10, zc11, oc11, zc12, oc12, zc13, oc13, zc15, oc15, Int32.lt_irrefl, Nat.zero_lt_one, Rt_cons, Rt_void, isB_0, isB_1, isB_b, true_and, and_true, cats_nil, cats_int, cats_ref, and_self, if_true, if_false, ite_self, le_nlt, ite_not, p0, p1, not_true_eq_false]
    · rw [bI_f (show ¬ lokB _ _ _ _ = true from fun z => q (of_decide_eq_true z))]
      have q' := (not_congr (E n)).mpr q
      simp only [aX7_loanDoes_56, aX7_loanDoes_57, aX7_loanDoes_60, aX7_loanDoes_63, aX7_loanDoes_64, aX7_loanDoes_67, aX7_loanDoes_70, aX7_loanDoes_73, aX7_loanDoes_74, aX7_loanDoes_77, aX7_loanDoes_78, Nat.zero_le, Nat.reduceLeDiff, Nat.reduceAdd, i1_0, rr_c3, zc9, oc9, zc10, oc10, zc11, oc11, zc12, oc12, zc13, oc13, zc15, oc15, Int32.lt_irrefl, Nat.zero_lt_one, Rt_cons, Rt_void, isB_0, isB_1, isB_b, true_and, and_true, cats_nil, cats_int, cats_ref, and_self, if_true, if_false, ite_self, le_nlt, ite_not, p0, p1, q', not_false_eq_true]
  induction m with
  | zero =>
    intro i σ hi h
    obtain rfl : i = n := by omega
    refine ⟨σ, fun fs Q => ?_, _, h⟩
    rw [aX7_loanDoes_21]
    simp only [aX7_loanDoes_22, aX7_loanDoes_23, Nat.zero_le, Nat.reduceLeDiff, Nat.reduceAdd, i1_0, rr_c3, zc9, oc9, zc10, oc10, zc11, oc11, zc12, oc12, zc13, oc13, zc15, oc15, Int32.lt_irrefl, Nat.zero_lt_one, Rt_cons, Rt_void, isB_0, isB_1, isB_b, true_and, and_true, cats_nil, cats_int, cats_ref, and_self, if_true, if_false, ite_self, le_nlt, ite_not]
    exact T σ _ h fs Q
  | succ m ih =>
    intro i σ hi h
    have l : nI i < nI n := nI_lt (by omega) (by omega)
    have p0 := P0 σ _ h
    have p1 := P1 σ i h
    by_cases q : cE7 (σ0 43 0) = cE7 (itW (passW (σ0 32 0) (σ0 33 0) (σ0 35 0) (σ0 36 0) C N) i (addF (σ0 43 0) (nI a)))
    · obtain ⟨τ, a1, a2, a3⟩ := sp_passDayW rn (TrC_RC r3 h) (show 1 < 34 by decide) h.1 (WH_it rn w0 (n := i)) (by omega)
      have h2 : TrC σ0 τ (itW (passW (σ0 32 0) (σ0 33 0) (σ0 35 0) (σ0 36 0) C N) (i + 1) (addF (σ0 43 0) (nI a))) := by rw [itW_s]; exact TrC_Fr h a3 a2
      obtain ⟨τ2, b1, b2⟩ := ih (i + 1) τ (by omega) h2
      refine ⟨τ2, fun fs Q => ?_, b2⟩
      have q' := (E i).mpr q
      rw [q'] at p1
      rw [← b1, aX7_loanDoes_21]
      simp only [aX7_loanDoes_22, aX7_loanDoes_23, aX7_loanDoes_26, aX7_loanDoes_27, aX7_loanDoes_30, aX7_loanDoes_33, aX7_loanDoes_34, aX7_loanDoes_37, aX7_loanDoes_40, aX7_loanDoes_43, aX7_loanDoes_44, Nat.zero_le, Nat.reduceLeDiff, Nat.reduceAdd, i1_0, rr_c3, zc9, oc9, zc10, oc10, zc11, oc11, zc12, oc12, zc13, oc13, zc15, oc15, Int32.lt_irrefl, Nat.zero_lt_one, Rt_cons, Rt_void, isB_0, isB_1, isB_b, true_and, and_true, cats_nil, cats_int, cats_ref, and_self, if_true, if_false, ite_self, le_nlt, ite_not, l, p0, p1, not_true_eq_false]
      rw [aX7_loanDoes_47 (by decide), a1]
      simp only [aX7_loanDoes_50, aX7_loanDoes_53, Nat.zero_le, Nat.reduceLeDiff, Nat.reduceAdd, i1_0, rr_c3, zc9, oc9, zc10, oc10, zc11, oc11, zc12, oc12, zc13, oc13, zc15, oc15, Int32.lt_irrefl, Nat.zero_lt_one, Rt_cons, Rt_void, isB_0, isB_1, isB_b, true_and, and_true, cats_nil, cats_int, cats_ref, and_self, if_true, if_false, ite_self, le_nlt, ite_not, nI_1]
    · have q' := (not_congr (E i)).mpr q
      refine ⟨σ, fun fs Q => ?_, _, h⟩
      have gi : Gr N (σ0 43 0) (itW (passW (σ0 32 0) (σ0 33 0) (σ0 35 0) (σ0 36 0) C N) i (addF (σ0 43 0) (nI a))) := Gr_it Gr_add
      have c1' := (cE_iff hN gi).1
      have q2 : ¬ cE7 (σ0 43 0) = cE7 (itW (passW (σ0 32 0) (σ0 33 0) (σ0 35 0) (σ0 36 0) C N) n (addF (σ0 43 0) (nI a))) := by
        have : ∀ m i, cE7 (itW (passW (σ0 32 0) (σ0 33 0) (σ0 35 0) (σ0 36 0) C N) i (addF (σ0 43 0) (nI a))) ≤ cE7 (itW (passW (σ0 32 0) (σ0 33 0) (σ0 35 0) (σ0 36 0) C N) (i + m) (addF (σ0 43 0) (nI a))) := by
          intro m
          induction m with
          | zero => intro i; exact Nat.le_refl _
          | succ m ihm =>
            intro i
            refine Nat.le_trans (ihm i) ?_
            rw [← Nat.add_assoc, itW_s]
            exact (cE_iff hN (Gr_pass Gr_refl)).1
        have := this (m + 1) i
        rw [hi] at this
        omega
      rw [bI_f (show ¬ lokB _ _ _ _ = true from fun z => q2 (of_decide_eq_true z)), aX7_loanDoes_21]
      simp only [aX7_loanDoes_22, aX7_loanDoes_23, aX7_loanDoes_26, aX7_loanDoes_27, aX7_loanDoes_30, aX7_loanDoes_33, aX7_loanDoes_34, aX7_loanDoes_37, aX7_loanDoes_40, Nat.zero_le, Nat.reduceLeDiff, Nat.reduceAdd, i1_0, rr_c3, zc9, oc9, zc10, oc10, zc11, oc11, zc12, oc12, zc13, oc13, zc15, oc15, Int32.lt_irrefl, Nat.zero_lt_one, Rt_cons, Rt_void, isB_0, isB_1, isB_b, true_and, and_true, cats_nil, cats_int, cats_ref, and_self, if_true, if_false, ite_self, le_nlt, ite_not, l, p0, p1, q', not_false_eq_true]
      simp only [aX7_loanDoes_56, aX7_loanDoes_57, aX7_loanDoes_60, aX7_loanDoes_63, aX7_loanDoes_64, aX7_loanDoes_67, aX7_loanDoes_70, aX7_loanDoes_73, aX7_loanDoes_74, aX7_loanDoes_77, aX7_loanDoes_78, Nat.zero_le, Nat.reduceLeDiff, Nat.reduceAdd, i1_0, rr_c3, zc9, oc9, zc10, oc10, zc11, oc11, zc12, oc12, zc13, oc13, zc15, oc15, Int32.lt_irrefl, Nat.zero_lt_one, Rt_cons, Rt_void, isB_0, isB_1, isB_b, true_and, and_true, cats_nil, cats_int, cats_ref, and_self, if_true, if_false, ite_self, le_nlt, ite_not, p0, p1, q', not_false_eq_true]
theorem sp_loanDoes {σ0 : Mem} {C N G n a : Nat} {v : Nat → Int32} (r3 : NowR σ0 C N G) (hn : n ≤ 60) (ha : a ≤ 999) (h : TrC σ0 σ v) :
    ∃ τ, (∀ fs Q, Rn mX7_loanDoes 0 [.ref (ad 0 0), .int (nI a), .int (nI n), .null] [] fs (enc σ) Q ↔ Rt fs (enc τ) (some (.int (bI (lokB (passW (σ0 32 0) (σ0 33 0) (σ0 35 0) (σ0 36 0) C N) (σ0 43 0) n a = true)))) Q) ∧ ∃ u, TrC σ0 τ u := by
  have t0 := TrC_re r3 h
  have t1 := TrC_Fr t0 (Fr_upS (by omega) (by omega)) (CS_add (x := nI a) t0.1)
  obtain ⟨τ, a1, a2⟩ := lp_ld r3 hn ha n 0 _ (by omega) t1
  refine ⟨τ, fun fs Q => ?_, a2⟩
  have a1' := a1 fs Q
  rw [nI_0] at a1'
  simp only [aX7_loanDoes_0, aX7_loanDoes_1, aX7_loanDoes_4, aX7_loanDoes_5, Nat.zero_le, Nat.reduceLeDiff, Nat.reduceAdd, i1_0, rr_c3, zc9, oc9, zc10, oc10, zc11, oc11, zc12, oc12, zc13, oc13, zc15, oc15, Int32.lt_irrefl, Nat.zero_lt_one, Rt_cons, Rt_void, isB_0, isB_1, isB_b, true_and, and_true, cats_nil, cats_int, cats_ref, and_self, if_true, if_false, ite_self, le_nlt, ite_not]
  rw [aX7_loanDoes_8 (by decide), sp_copyFrom (by omega) (by omega) (by omega) (TrC_b r3 h)]
  simp only [aX7_loanDoes_11, aX7_loanDoes_12, aX7_loanDoes_15, Nat.zero_le, Nat.reduceLeDiff, Nat.reduceAdd, i1_0, rr_c3, zc9, oc9, zc10, oc10, zc11, oc11, zc12, oc12, zc13, oc13, zc15, oc15, Int32.lt_irrefl, Nat.zero_lt_one, Rt_cons, Rt_void, isB_0, isB_1, isB_b, true_and, and_true, cats_nil, cats_int, cats_ref, and_self, if_true, if_false, ite_self, le_nlt, ite_not]
  rw [aX7_loanDoes_16 (by decide), sp_addHeads (by omega)]
  simp only [aX7_loanDoes_19, aX7_loanDoes_20, Nat.zero_le, Nat.reduceLeDiff, Nat.reduceAdd, i1_0, rr_c3, zc9, oc9, zc10, oc10, zc11, oc11, zc12, oc12, zc13, oc13, zc15, oc15, Int32.lt_irrefl, Nat.zero_lt_one, Rt_cons, Rt_void, isB_0, isB_1, isB_b, true_and, and_true, cats_nil, cats_int, cats_ref, and_self, if_true, if_false, ite_self, le_nlt, ite_not]
  rw [a1']
theorem lp_half {σ0 : Mem} {C N G n : Nat} (r3 : NowR σ0 C N G) (hn : n ≤ 60) : ∀ (m s lo hi : Nat) (σ : Mem) (l5 : Value), s + m = 10 → lo ≤ hi → hi ≤ 999 → lokB (passW (σ0 32 0) (σ0 33 0) (σ0 35 0) (σ0 36 0) C N) (σ0 43 0) n hi = true → (∀ t, t < lo → ¬ lokB (passW (σ0 32 0) (σ0 33 0) (σ0 35 0) (σ0 36 0) C N) (σ0 43 0) n t = true) → hi - lo < 2 ^ m → (∃ v, TrC σ0 σ v) →
    ∃ τ, (∀ fs Q, Rn mX7_loan 35 [.ref (ad 0 0), .int (nI n), .int (nI lo), .int (nI hi), .int (nI s), l5] [] fs (enc σ) Q ↔ Rt fs (enc τ) (some (.int (fnd (lokB (passW (σ0 32 0) (σ0 33 0) (σ0 35 0) (σ0 36 0) C N) (σ0 43 0) n) 1000 0))) Q) ∧ ∃ u, TrC σ0 τ u := by
  intro m
  have rn := RN_of r3.1
  have mono : ∀ a b, a ≤ b → b ≤ 999 → lokB (passW (σ0 32 0) (σ0 33 0) (σ0 35 0) (σ0 36 0) C N) (σ0 43 0) n a = true → lokB (passW (σ0 32 0) (σ0 33 0) (σ0 35 0) (σ0 36 0) C N) (σ0 43 0) n b = true := fun a b hab hb h => (lok_dec _ _ _ _).mp (lok_mono rn (WH_now r3) hab (by omega) ((lok_dec _ _ _ _).mpr h))
  generalize hP : lokB (passW (σ0 32 0) (σ0 33 0) (σ0 35 0) (σ0 36 0) C N) (σ0 43 0) n = P at mono ⊢
  have R : ∀ lo, lo ≤ 999 → P lo = true → (∀ t, t < lo → ¬ P t = true) → fnd P 1000 0 = nI lo := fun lo h1 h2 h3 => fnd_at (by omega) (by omega) h2 (fun t _ ht => h3 t ht)
  induction m with
  | zero =>
    intro s lo hi σ l5 hs h1 h2 h3 h4 h5 ⟨v, hv⟩
    obtain rfl : s = 10 := by omega
    have h5' : hi - lo < 1 := h5
    obtain rfl : lo = hi := by omega
    refine ⟨σ, fun fs Q => ?_, v, hv⟩
    have e10 : nI 10 = 10 := rfl
    rw [R lo h2 h3 h4, aX7_loan_35]
    simp only [aX7_loan_37, aX7_loan_39, aX7_loan_81, aX7_loan_82, Nat.zero_le, Nat.reduceLeDiff, Nat.reduceAdd, i1_0, rr_c3, zc9, oc9, zc10, oc10, zc11, oc11, zc12, oc12, zc13, oc13, zc15, oc15, Int32.lt_irrefl, Nat.zero_lt_one, Rt_cons, Rt_void, isB_0, isB_1, isB_b, true_and, and_true, cats_nil, cats_int, cats_ref, and_self, if_true, if_false, ite_self, le_nlt, ite_not, e10]
  | succ m ih =>
    intro s lo hi σ l5 hs h1 h2 h3 h4 h5 ⟨v, hv⟩
    have ls : nI s < 10 := nI_lt (b := 10) (by omega) (by decide)
    by_cases q : lo < hi
    · have ll : nI lo < nI hi := nI_lt q (by omega)
      have hp : 2 ^ (m + 1) = 2 * 2 ^ m := by rw [Nat.pow_succ]; omega
      rw [hp] at h5
      have n20 : ¬ (2 : Int32) = 0 := by decide
      have ed : nI (lo + hi) / 2 = nI ((lo + hi) / 2) := pk_div (d := 2) (by omega) (by decide) (by decide)
      obtain ⟨τ, a1, a2⟩ := sp_loanDoes (a := (lo + hi) / 2) r3 hn (by omega) hv
      rw [hP] at a1
      generalize hmid : (lo + hi) / 2 = mid at ed a1
      by_cases q2 : P mid = true
      · obtain ⟨τ2, b1, b2⟩ := ih (s + 1) lo mid τ (.int (nI mid)) (by omega) (by omega) (by omega) q2 h4 (by omega) a2
        refine ⟨τ2, fun fs Q => ?_, b2⟩
        rw [← b1, aX7_loan_35]
        simp only [aX7_loan_37, aX7_loan_39, aX7_loan_42, aX7_loan_43, aX7_loan_44, aX7_loan_47, aX7_loan_48, aX7_loan_49, aX7_loan_50, aX7_loan_51, aX7_loan_52, aX7_loan_54, aX7_loan_55, aX7_loan_57, Nat.zero_le, Nat.reduceLeDiff, Nat.reduceAdd, i1_0, rr_c3, zc9, oc9, zc10, oc10, zc11, oc11, zc12, oc12, zc13, oc13, zc15, oc15, Int32.lt_irrefl, Nat.zero_lt_one, Rt_cons, Rt_void, isB_0, isB_1, isB_b, true_and, and_true, cats_nil, cats_int, cats_ref, and_self, if_true, if_false, ite_self, le_nlt, ite_not, ls, ll, nI_add, n20, not_false_eq_true, ed]
        rw [aX7_loan_58, a1]
        simp only [aX7_loan_61, aX7_loan_64, aX7_loan_66, aX7_loan_67, aX7_loan_70, aX7_loan_72, aX7_loan_73, aX7_loan_74, aX7_loan_75, aX7_loan_78, Nat.zero_le, Nat.reduceLeDiff, Nat.reduceAdd, i1_0, rr_c3, zc9, oc9, zc10, oc10, zc11, oc11, zc12, oc12, zc13, oc13, zc15, oc15, Int32.lt_irrefl, Nat.zero_lt_one, Rt_cons, Rt_void, isB_0, isB_1, isB_b, true_and, and_true, cats_nil, cats_int, cats_ref, and_self, if_true, if_false, ite_self, le_nlt, ite_not, bI_t q2, nI_1]
      · obtain ⟨τ2, b1, b2⟩ := ih (s + 1) (mid + 1) hi τ (.int (nI mid)) (by omega) (by omega) h2 h3 (fun t ht z => q2 (mono t mid (by omega) (by omega) z)) (by omega) a2
        refine ⟨τ2, fun fs Q => ?_, b2⟩
        rw [← b1, aX7_loan_35]
        simp only [aX7_loan_37, aX7_loan_39, aX7_loan_42, aX7_loan_43, aX7_loan_44, aX7_loan_47, aX7_loan_48, aX7_loan_49, aX7_loan_50, aX7_loan_51, aX7_loan_52, aX7_loan_54, aX7_loan_55, aX7_loan_57, Nat.zero_le, Nat.reduceLeDiff, Nat.reduceAdd, i1_0, rr_c3, zc9, oc9, zc10, oc10, zc11, oc11, zc12, oc12, zc13, oc13, zc15, oc15, Int32.lt_irrefl, Nat.zero_lt_one, Rt_cons, Rt_void, isB_0, isB_1, isB_b, true_and, and_true, cats_nil, cats_int, cats_ref, and_self, if_true, if_false, ite_self, le_nlt, ite_not, ls, ll, nI_add, n20, not_false_eq_true, ed]
        rw [aX7_loan_58, a1]
        simp only [aX7_loan_61, aX7_loan_64, aX7_loan_66, aX7_loan_67, aX7_loan_70, aX7_loan_72, aX7_loan_73, aX7_loan_74, aX7_loan_75, aX7_loan_78, Nat.zero_le, Nat.reduceLeDiff, Nat.reduceAdd, i1_0, rr_c3, zc9, oc9, zc10, oc10, zc11, oc11, zc12, oc12, zc13, oc13, zc15, oc15, Int32.lt_irrefl, Nat.zero_lt_one, Rt_cons, Rt_void, isB_0, isB_1, isB_b, true_and, and_true, cats_nil, cats_int, cats_ref, and_self, if_true, if_false, ite_self, le_nlt, ite_not, bI_f q2, nI_1]
    · obtain rfl : lo = hi := by omega
      refine ⟨σ, fun fs Q => ?_, v, hv⟩
      rw [R lo h2 h3 h4, aX7_loan_35]
      simp only [aX7_loan_37, aX7_loan_39, aX7_loan_42, aX7_loan_43, aX7_loan_44, aX7_loan_81, aX7_loan_82, Nat.zero_le, Nat.reduceLeDiff, Nat.reduceAdd, i1_0, rr_c3, zc9, oc9, zc10, oc10, zc11, oc11, zc12, oc12, zc13, oc13, zc15, oc15, Int32.lt_irrefl, Nat.zero_lt_one, Rt_cons, Rt_void, isB_0, isB_1, isB_b, true_and, and_true, cats_nil, cats_int, cats_ref, and_self, if_true, if_false, ite_self, le_nlt, ite_not, ls]
theorem lp_mloan {σ0 : Mem} {C N G n : Nat} (hN : N ≤ 7) (rn : RN (σ0 32 0) (σ0 33 0) (σ0 35 0) (σ0 36 0) C N G) (l0 : σ0 31 0 0 = nI C) (l1 : σ0 31 0 1 = nI N) (hw : WH 10000 G N (σ0 43 0)) (hn : n ≤ 60) : ∀ (m v : Nat) (σ : Mem), v + m = 1000 → MTr σ0 σ →
    ∃ τ, (∀ fs Q, Rn mX8_loan 15 [.ref (ad 29 0), .int (nI n), .int (nI v)] [] fs (enc σ) Q ↔ Rt fs (enc τ) (some (.int (fnd (lokB (passW (σ0 32 0) (σ0 33 0) (σ0 35 0) (σ0 36 0) C N) (σ0 43 0) n) m v))) Q) ∧ MTr σ0 τ := by
  intro m
  induction m with
  | zero =>
    intro v σ hv h
    obtain rfl : v = 1000 := by omega
    refine ⟨σ, fun fs Q => ?_, h⟩
    have e : nI 1000 = 1000 := rfl
    simp only [aX8_loan_15, aX8_loan_16, aX8_loan_19, aX8_loan_75, aX8_loan_76, Nat.zero_le, Nat.reduceLeDiff, Nat.reduceAdd, i1_0, rr_c3, zc9, oc9, zc10, oc10, zc11, oc11, zc12, oc12, zc13, oc13, zc15, oc15, Int32.lt_irrefl, Nat.zero_lt_one, Rt_cons, Rt_void, isB_0, isB_1, isB_b, true_and, and_true, cats_nil, cats_int, cats_ref, and_self, if_true, if_false, ite_self, le_nlt, ite_not, e]
    rfl
  | succ m ih =>
    intro v σ hv h
    have lv : nI v < 1000 := nI_lt (b := 1000) (by omega) (by decide)
    have e43 : σ 43 0 = σ0 43 0 := h.1 43 0 (by decide) (by decide)
    obtain ⟨f, ef⟩ : ∃ f, f = va_cpy (σ 43 0) (σ 44 0) 0 0 99 := ⟨_, rfl⟩
    have af : Ag f (σ0 43 0) := by
      rw [ef, e43]
      intro j hj
      rw [pk_cpy_in (by omega) (by omega)]
      simp
    have ecp : cpM σ 43 0 44 0 = updK σ 44 0 f := by rw [ef]; rfl
    obtain ⟨x, hx⟩ : ∃ x, x = (if 9999 < σ0 43 0 1 + nI v then 9999 else σ0 43 0 1 + nI v) := ⟨_, rfl⟩
    have af2 : Ag (upd f 1 x) (addF (σ0 43 0) (nI v)) := by
      unfold addF
      exact Ag_upd af hx
    obtain ⟨υ, a1, a2, a3⟩ := sp_mtryX (τ := updK σ 44 0 (upd f 1 x)) (u0 := addF (σ0 43 0) (nI v)) h rfl af2 rn hn (by decide) l0 l1 (WH_add hw (by omega)) (fun t ht => by unfold addF; rw [upd_ne (by omega)])
    obtain ⟨τ2, b1, b2⟩ := ih (v + 1) υ (by omega) a3
    have g : Gr N (σ0 43 0) (itW (passW (σ0 32 0) (σ0 33 0) (σ0 35 0) (σ0 36 0) C N) n (addF (σ0 43 0) (nI v))) := Gr_it Gr_add
    have ic := (cE_iff hN g).2
    have bl := bs_lt (p := Eo (σ0 43 0) (itW (passW (σ0 32 0) (σ0 33 0) (σ0 35 0) (σ0 36 0) C N) n (addF (σ0 43 0) (nI v)))) hN
    have common : ∀ fs Q, (Rn mX8_loan 15 [.ref (ad 29 0), .int (nI n), .int (nI v)] [] fs (enc σ) Q ↔ Rn mX8_loan 60 [.ref (ad 29 0), .int (nI n), .int (nI v)] [] fs (enc υ) Q) := fun fs Q => by
      have ml : (if (9999 : Int32) < σ0 43 0 1 + nI v then (9999 : Int32) else σ0 43 0 1 + nI v) = x := hx.symm
      rw [aX8_loan_15]
      simp only [aX8_loan_16, aX8_loan_19, aX8_loan_22, aX8_loan_23, aX8_loan_26, aX8_loan_27, aX8_loan_28, aX8_loan_31, Nat.zero_le, Nat.reduceLeDiff, Nat.reduceAdd, i1_0, rr_c3, zc9, oc9, zc10, oc10, zc11, oc11, zc12, oc12, zc13, oc13, zc15, oc15, Int32.lt_irrefl, Nat.zero_lt_one, Rt_cons, Rt_void, isB_0, isB_1, isB_b, true_and, and_true, cats_nil, cats_int, cats_ref, and_self, if_true, if_false, ite_self, le_nlt, ite_not, lv]
      rw [aX8_loan_32, cp0, ecp]
      simp only [aX8_loan_35, aX8_loan_36, aX8_loan_39, aX8_loan_40, aX8_loan_43, aX8_loan_44, aX8_loan_47, aX8_loan_48, aX8_loan_49, aX8_loan_50, aX8_loan_51, aX8_loan_54, sp_lesser, Nat.zero_le, Nat.reduceLeDiff, Nat.reduceAdd, i1_0, rr_c3, zc9, oc9, zc10, oc10, zc11, oc11, zc12, oc12, zc13, oc13, zc15, oc15, Int32.lt_irrefl, Nat.zero_lt_one, Rt_cons, Rt_void, isB_0, isB_1, isB_b, true_and, and_true, cats_nil, cats_int, cats_ref, and_self, if_true, if_false, ite_self, le_nlt, ite_not, aT_43, aN_43, cnt_43, aT_44, aN_44, cnt_44, v99.2.1, c1, updK_ne (show ¬ (43 = 44 ∧ 0 = 0) by decide), e43, ml, upS_updK]
      simp only [aX8_loan_55, aX8_loan_56, Nat.zero_le, Nat.reduceLeDiff, Nat.reduceAdd, i1_0, rr_c3, zc9, oc9, zc10, oc10, zc11, oc11, zc12, oc12, zc13, oc13, zc15, oc15, Int32.lt_irrefl, Nat.zero_lt_one, Rt_cons, Rt_void, isB_0, isB_1, isB_b, true_and, and_true, cats_nil, cats_int, cats_ref, and_self, if_true, if_false, ite_self, le_nlt, ite_not]
      rw [aX8_loan_57, a1]
      simp only [Nat.zero_le, Nat.reduceLeDiff, Nat.reduceAdd, i1_0, rr_c3, zc9, oc9, zc10, oc10, zc11, oc11, zc12, oc12, zc13, oc13, zc15, oc15, Int32.lt_irrefl, Nat.zero_lt_one, Rt_cons, Rt_void, isB_0, isB_1, isB_b, true_and, and_true, cats_nil, cats_int, cats_ref, and_self, if_true, if_false, ite_self, le_nlt, ite_not]
    by_cases q : lokB (passW (σ0 32 0) (σ0 33 0) (σ0 35 0) (σ0 36 0) C N) (σ0 43 0) n v = true
    · have b0 : bs (Eo (σ0 43 0) (itW (passW (σ0 32 0) (σ0 33 0) (σ0 35 0) (σ0 36 0) C N) n (addF (σ0 43 0) (nI v)))) N = 0 := bs_none (ic.mp (of_decide_eq_true q))
      rw [b0, nI_0] at a2
      refine ⟨υ, fun fs Q => ?_, a3⟩
      rw [fnd_s, if_pos q, common]
      simp only [aX8_loan_60, aX8_loan_61, aX8_loan_64, aX8_loan_67, aX8_loan_68, Nat.zero_le, Nat.reduceLeDiff, Nat.reduceAdd, i1_0, rr_c3, zc9, oc9, zc10, oc10, zc11, oc11, zc12, oc12, zc13, oc13, zc15, oc15, Int32.lt_irrefl, Nat.zero_lt_one, Rt_cons, Rt_void, isB_0, isB_1, isB_b, true_and, and_true, cats_nil, cats_int, cats_ref, and_self, if_true, if_false, ite_self, le_nlt, ite_not, a2, not_true_eq_false]
    · have b0 : ¬ bs (Eo (σ0 43 0) (itW (passW (σ0 32 0) (σ0 33 0) (σ0 35 0) (σ0 36 0) C N) n (addF (σ0 43 0) (nI v)))) N = 0 := fun z => q (decide_eq_true (ic.mpr (fun t ht e => by
        have := bs_tb.mpr ⟨e, ht⟩
        rw [z] at this
        simp at this)))
      have a2' : ¬ υ 29 0 29 = 0 := by rw [a2]; exact nI_ne0 (by omega) (by omega)
      refine ⟨τ2, fun fs Q => ?_, b2⟩
      rw [fnd_s, if_neg q, common, ← b1]
      simp only [aX8_loan_60, aX8_loan_61, aX8_loan_64, aX8_loan_67, aX8_loan_68, aX8_loan_69, aX8_loan_72, Nat.zero_le, Nat.reduceLeDiff, Nat.reduceAdd, i1_0, rr_c3, zc9, oc9, zc10, oc10, zc11, oc11, zc12, oc12, zc13, oc13, zc15, oc15, Int32.lt_irrefl, Nat.zero_lt_one, Rt_cons, Rt_void, isB_0, isB_1, isB_b, true_and, and_true, cats_nil, cats_int, cats_ref, and_self, if_true, if_false, ite_self, le_nlt, ite_not, a2', not_false_eq_true, nI_1]
theorem api_loan (n : Int32) : Sim Rel mX7_loan mX8_loan [.int n] := by
  refine Sim_of (Lc := [.ref (ad 0 0), .int n, .null, .null, .null, .null]) (Lm := [.ref (ad 29 0), .int n, .null]) rfl rfl (fun σ hR => ?_)
  obtain ⟨r1, r2, C, N, G, r3, r4, r5, r6, r7⟩ := id hR
  by_cases ho : n < 0 ∨ 60 < n
  · refine ⟨σ, σ, -1000000002, ?_, ?_, hR⟩
    · simp only [aX7_loan_0, aX7_loan_1, aX7_loan_2, aX7_loan_4, aX7_loan_7, aX7_loan_10, aX7_loan_12, sp_isOutside, Nat.zero_le, Nat.reduceLeDiff, Nat.reduceAdd, i1_0, rr_c3, zc9, oc9, zc10, oc10, zc11, oc11, zc12, oc12, zc13, oc13, zc15, oc15, Int32.lt_irrefl, Nat.zero_lt_one, Rt_cons, Rt_void, isB_0, isB_1, isB_b, true_and, and_true, cats_nil, cats_int, cats_ref, and_self, if_true, if_false, ite_self, le_nlt, ite_not, Rt_nil, bI_t ho]
    · simp only [aX8_loan_0, aX8_loan_1, aX8_loan_2, aX8_loan_4, aX8_loan_7, aX8_loan_10, aX8_loan_12, sp_in, Nat.zero_le, Nat.reduceLeDiff, Nat.reduceAdd, i1_0, rr_c3, zc9, oc9, zc10, oc10, zc11, oc11, zc12, oc12, zc13, oc13, zc15, oc15, Int32.lt_irrefl, Nat.zero_lt_one, Rt_cons, Rt_void, isB_0, isB_1, isB_b, true_and, and_true, cats_nil, cats_int, cats_ref, and_self, if_true, if_false, ite_self, le_nlt, ite_not, Rt_nil, bI_f (show ¬ (¬ n < 0 ∧ ¬ 60 < n) from fun z => ho.elim z.1 z.2)]
  · have hin := not_out.mp ho
    obtain ⟨t, ht, rfl⟩ := nI_of2 (M := 60) (n := 60) (by decide) hin.1 (Int32.not_lt.mp hin.2)
    have hN := r3.1.2.1
    have rn := RN_of r3.1
    have n999 : nI 999 = 999 := rfl
    obtain ⟨τ0, a1, a2⟩ : ∃ τ0, (∀ fs Q, Rn mX7_loanDoes 0 [.ref (ad 0 0), .int (nI 999), .int (nI t), .null] [] fs (enc σ) Q ↔ Rt fs (enc τ0) (some (.int (bI (lokB (passW (σ 32 0) (σ 33 0) (σ 35 0) (σ 36 0) C N) (σ 43 0) t 999 = true)))) Q) ∧ ∃ u, TrC σ τ0 u := by
      have t0 := TrC_cp r3
      have t1 := TrC_Fr t0 (Fr_upS (by omega) (by omega)) (CS_add (x := nI 999) t0.1)
      obtain ⟨τ, a1, a2⟩ := lp_ld r3 ht (show 999 ≤ 999 by decide) t 0 _ (by omega) t1
      refine ⟨τ, fun fs Q => ?_, a2⟩
      have a1' := a1 fs Q
      rw [nI_0] at a1'
      simp only [aX7_loanDoes_0, aX7_loanDoes_1, aX7_loanDoes_4, aX7_loanDoes_5, Nat.zero_le, Nat.reduceLeDiff, Nat.reduceAdd, i1_0, rr_c3, zc9, oc9, zc10, oc10, zc11, oc11, zc12, oc12, zc13, oc13, zc15, oc15, Int32.lt_irrefl, Nat.zero_lt_one, Rt_cons, Rt_void, isB_0, isB_1, isB_b, true_and, and_true, cats_nil, cats_int, cats_ref, and_self, if_true, if_false, ite_self, le_nlt, ite_not]
      rw [aX7_loanDoes_8 (by decide), sp_copyFrom (by omega) (by omega) (by omega) (CS_bool r3.2.2.1)]
      simp only [aX7_loanDoes_11, aX7_loanDoes_12, aX7_loanDoes_15, Nat.zero_le, Nat.reduceLeDiff, Nat.reduceAdd, i1_0, rr_c3, zc9, oc9, zc10, oc10, zc11, oc11, zc12, oc12, zc13, oc13, zc15, oc15, Int32.lt_irrefl, Nat.zero_lt_one, Rt_cons, Rt_void, isB_0, isB_1, isB_b, true_and, and_true, cats_nil, cats_int, cats_ref, and_self, if_true, if_false, ite_self, le_nlt, ite_not]
      rw [aX7_loanDoes_16 (by decide), sp_addHeads (by omega)]
      simp only [aX7_loanDoes_19, aX7_loanDoes_20, Nat.zero_le, Nat.reduceLeDiff, Nat.reduceAdd, i1_0, rr_c3, zc9, oc9, zc10, oc10, zc11, oc11, zc12, oc12, zc13, oc13, zc15, oc15, Int32.lt_irrefl, Nat.zero_lt_one, Rt_cons, Rt_void, isB_0, isB_1, isB_b, true_and, and_true, cats_nil, cats_int, cats_ref, and_self, if_true, if_false, ite_self, le_nlt, ite_not]
      rw [a1']
    have mono : ∀ a b, a ≤ b → b ≤ 999 → lokB (passW (σ 32 0) (σ 33 0) (σ 35 0) (σ 36 0) C N) (σ 43 0) t a = true → lokB (passW (σ 32 0) (σ 33 0) (σ 35 0) (σ 36 0) C N) (σ 43 0) t b = true := fun a b hab hb h => (lok_dec _ _ _ _).mp (lok_mono rn (WH_now r3) hab (by omega) ((lok_dec _ _ _ _).mpr h))
    have Cl : ∃ σ1, (∀ fs Q, Rn mX7_loan 0 [.ref (ad 0 0), .int (nI t), .null, .null, .null, .null] [] fs (enc σ) Q ↔ Rt fs (enc σ1) (some (.int (fnd (lokB (passW (σ 32 0) (σ 33 0) (σ 35 0) (σ 36 0) C N) (σ 43 0) t) 1000 0))) Q) ∧ ∃ u, TrC σ σ1 u := by
      by_cases q : lokB (passW (σ 32 0) (σ 33 0) (σ 35 0) (σ 36 0) C N) (σ 43 0) t 999 = true
      · obtain ⟨σ1, b1, b2⟩ := lp_half r3 ht 10 0 0 999 τ0 .null (by omega) (by omega) (by omega) q (fun t ht => absurd ht (Nat.not_lt_zero _)) (by decide) a2
        refine ⟨σ1, fun fs Q => ?_, b2⟩
        have b1' := b1 fs Q
        rw [nI_0, n999] at b1'
        rw [n999] at a1
        simp only [aX7_loan_0, aX7_loan_1, aX7_loan_2, aX7_loan_4, aX7_loan_7, aX7_loan_10, aX7_loan_12, aX7_loan_13, aX7_loan_14, aX7_loan_17, sp_isOutside, Nat.zero_le, Nat.reduceLeDiff, Nat.reduceAdd, i1_0, rr_c3, zc9, oc9, zc10, oc10, zc11, oc11, zc12, oc12, zc13, oc13, zc15, oc15, Int32.lt_irrefl, Nat.zero_lt_one, Rt_cons, Rt_void, isB_0, isB_1, isB_b, true_and, and_true, cats_nil, cats_int, cats_ref, and_self, if_true, if_false, ite_self, le_nlt, ite_not, bI_f ho]
        rw [aX7_loan_18, a1]
        simp only [aX7_loan_21, aX7_loan_24, aX7_loan_25, aX7_loan_26, aX7_loan_27, aX7_loan_28, aX7_loan_31, aX7_loan_32, aX7_loan_33, Nat.zero_le, Nat.reduceLeDiff, Nat.reduceAdd, i1_0, rr_c3, zc9, oc9, zc10, oc10, zc11, oc11, zc12, oc12, zc13, oc13, zc15, oc15, Int32.lt_irrefl, Nat.zero_lt_one, Rt_cons, Rt_void, isB_0, isB_1, isB_b, true_and, and_true, cats_nil, cats_int, cats_ref, and_self, if_true, if_false, ite_self, le_nlt, ite_not, bI_t q, not_false_eq_true]
        rw [b1']
      · refine ⟨τ0, fun fs Q => ?_, a2⟩
        rw [fnd_none (fun t _ ht z => q (mono t 999 (by omega) (by omega) z))]
        rw [n999] at a1
        simp only [aX7_loan_0, aX7_loan_1, aX7_loan_2, aX7_loan_4, aX7_loan_7, aX7_loan_10, aX7_loan_12, aX7_loan_13, aX7_loan_14, aX7_loan_17, sp_isOutside, Nat.zero_le, Nat.reduceLeDiff, Nat.reduceAdd, i1_0, rr_c3, zc9, oc9, zc10, oc10, zc11, oc11, zc12, oc12, zc13, oc13, zc15, oc15, Int32.lt_irrefl, Nat.zero_lt_one, Rt_cons, Rt_void, isB_0, isB_1, isB_b, true_and, and_true, cats_nil, cats_int, cats_ref, and_self, if_true, if_false, ite_self, le_nlt, ite_not, bI_f ho]
        rw [aX7_loan_18, a1]
        simp only [aX7_loan_21, aX7_loan_24, aX7_loan_25, Nat.zero_le, Nat.reduceLeDiff, Nat.reduceAdd, i1_0, rr_c3, zc9, oc9, zc10, oc10, zc11, oc11, zc12, oc12, zc13, oc13, zc15, oc15, Int32.lt_irrefl, Nat.zero_lt_one, Rt_cons, Rt_void, isB_0, isB_1, isB_b, true_and, and_true, cats_nil, cats_int, cats_ref, and_self, if_true, if_false, ite_self, le_nlt, ite_not, bI_f q, not_true_eq_false]
    obtain ⟨σ1, b1, u, b2⟩ := Cl
    obtain ⟨m1, m2, m3, m4, m5, m6, e32, e33, e35, e36⟩ := mfacts r3 b2
    obtain ⟨σ2, d1, d2⟩ := lp_mloan (σ0 := σ1) hN m1 m2 m3 m4 ht 1000 0 σ1 (by omega) MTr_refl
    rw [m5, e32, e33, e35, e36] at d1
    refine ⟨σ1, σ2, fnd (lokB (passW (σ 32 0) (σ 33 0) (σ 35 0) (σ 36 0) C N) (σ 43 0) t) 1000 0, ?_, ?_, ?_⟩
    · rw [b1]
      simp only [Nat.zero_le, Nat.reduceLeDiff, Nat.reduceAdd, i1_0, rr_c3, zc9, oc9, zc10, oc10, zc11, oc11, zc12, oc12, zc13, oc13, zc15, oc15, Int32.lt_irrefl, Nat.zero_lt_one, Rt_cons, Rt_void, isB_0, isB_1, isB_b, true_and, and_true, cats_nil, cats_int, cats_ref, and_self, if_true, if_false, ite_self, le_nlt, ite_not, Rt_nil]
    · have d1' := d1 [] (fun X v => X = enc σ2 ∧ v = some (.int (fnd (lokB (passW (σ 32 0) (σ 33 0) (σ 35 0) (σ 36 0) C N) (σ 43 0) t) 1000 0)))
      rw [nI_0] at d1'
      simp only [aX8_loan_0, aX8_loan_1, aX8_loan_2, aX8_loan_4, aX8_loan_7, aX8_loan_10, aX8_loan_12, aX8_loan_13, aX8_loan_14, sp_in, Nat.zero_le, Nat.reduceLeDiff, Nat.reduceAdd, i1_0, rr_c3, zc9, oc9, zc10, oc10, zc11, oc11, zc12, oc12, zc13, oc13, zc15, oc15, Int32.lt_irrefl, Nat.zero_lt_one, Rt_cons, Rt_void, isB_0, isB_1, isB_b, true_and, and_true, cats_nil, cats_int, cats_ref, and_self, if_true, if_false, ite_self, le_nlt, ite_not, bI_t hin]
      rw [d1']
      simp only [Nat.zero_le, Nat.reduceLeDiff, Nat.reduceAdd, i1_0, rr_c3, zc9, oc9, zc10, oc10, zc11, oc11, zc12, oc12, zc13, oc13, zc15, oc15, Int32.lt_irrefl, Nat.zero_lt_one, Rt_cons, Rt_void, isB_0, isB_1, isB_b, true_and, and_true, cats_nil, cats_int, cats_ref, and_self, if_true, if_false, ite_self, le_nlt, ite_not, Rt_nil]
    · exact Rel_free hR (fun k i a b c _ _ _ _ => by rw [d2.1 k i b c, b2.2.2 k i a]) (by rw [d2.1 20 0 (by decide) (by decide), b2.2.2 20 0 (by omega)]) (fun s hs => by rw [d2.2 s (by omega), b2.2.2 29 0 (by omega)])
end S81
