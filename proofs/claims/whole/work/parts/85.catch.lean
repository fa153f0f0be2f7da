-- catches are read
def rSk (c : Nat) (T : Nat → Int32) (Y : Nat × Int32) : Nat × Int32 := if Y.2 = 0 then (sk c T Y.1, 0) else Y
section S85
variable {σ : Mem} {fs : List Fm} {M : List va_E} {Q : List va_E → Option Value → Prop}
theorem sp_mskR {σ0 : Mem} {c : Nat} {T : Nat → Int32} {Y : Nat × Int32} (hl : LT c T) (ht : LY σ0 c T) (h : KM σ0 σ c Y) :
    ∃ τ, (∀ fs Q, Rn mX8_skips 0 [.ref (ad 29 0)] [] fs (enc σ) Q ↔ Rt fs (enc τ) none Q) ∧ KM σ0 τ c (rSk c T Y) ∧ ∀ k i, ¬ k = 29 → τ k i = σ k i := by
  unfold rSk
  by_cases hw : Y.2 = 0
  · rw [if_pos hw]
    refine ⟨_, fun fs Q => sp_mskip hl ht h hw, ?_, fun k i hk => upS_ne (by omega)⟩
    have := KM_at h (sk_le (T := T) h.2.2.2.2)
    rw [hw] at this
    exact this
  · rw [if_neg hw]
    exact ⟨σ, fun fs Q => sp_mskip0 (by rw [h.2.2.2.1]; exact hw), h, fun _ _ _ => rfl⟩
theorem rEnd_sk {c a : Nat} {T : Nat → Int32} (h : a ≤ c) : rEnd c T (sk c T a, 0) = rEnd c T (a, 0) := by
  unfold rEnd
  rw [if_pos rfl, if_pos rfl, sk_sk h]
theorem in12 {a : Nat} (h : a < 12) : vp_in (nI a) 12 := vp_in_nI h (by decide)
theorem cEnd_ge {c : Nat} {T : Nat → Int32} {X : Int32 × Int32 × Nat} (h : X.2.2 ≤ c) : X.2.2 ≤ (cEnd c T X).2.2 := by
  have := sk_ge (T := T) h
  unfold cEnd
  split
  · show X.2.2 ≤ sk c T X.2.2 + 1; omega
  · exact this
theorem cEnd_fp {c : Nat} {T : Nat → Int32} {X : Int32 × Int32 × Nat} (h : (cEnd c T X).1 = 0) : (cEnd c T X).2.1 = X.2.1 := by
  have := (cEnd_0 h).2
  unfold cEnd
  rw [if_pos this]
theorem cNum_fp {lo hi : Int32} {c : Nat} {T : Nat → Int32} {X : Int32 × Int32 × Nat} (h : (cNum lo hi c T X).1 = 0) : (cNum lo hi c T X).2.1 = X.2.1 := by
  have := (cNum_0 h).2
  unfold cNum
  show (if X.1 = 0 ∧ ¬ nf lo hi c T (sk c T X.2.2) = 0 then _ else X.2.1) = X.2.1
  rw [if_neg (fun z => z.2 this)]
theorem cNum_ok {lo hi fp : Int32} {c p : Nat} {T : Nat → Int32} (n0 : nf lo hi c T (sk c T p) = 0) : cNum lo hi c T (0, fp, p) = (0, fp, (nu c T (sk c T p)).1) := by
  unfold cNum
  show (if (0 : Int32) = 0 then _ else _, if (0 : Int32) = 0 ∧ _ then _ else _, _) = _
  rw [if_pos rfl, if_neg (fun z => z.2 n0), n0]
theorem rNum_ok {lo hi : Int32} {c p : Nat} {T : Nat → Int32} (n0 : nf lo hi c T (sk c T p) = 0) : rNum lo hi c T (p, 0) = ((nu c T (sk c T p)).1, 0) := by
  unfold rNum
  rw [if_pos rfl]
  show (if nf lo hi c T (sk c T p) = 0 then _ else _, nf lo hi c T (sk c T p)) = _
  rw [if_pos n0, n0]
theorem rVal_ok {lo hi : Int32} {c p : Nat} {T : Nat → Int32} (n0 : nf lo hi c T (sk c T p) = 0) : rVal lo hi c T (p, 0) = (nu c T (sk c T p)).2 := by
  unfold rVal
  rw [if_pos rfl]
  show (if nf lo hi c T (sk c T p) = 1 then _ else _) = _
  rw [n0, if_neg (by decide)]
/-- catches from the i-th on, in both -/
def CatP (c : Nat) (T : Nat → Int32) (fp : Int32) (i p : Nat) (ct : Nat → Int32) : Prop :=
    ∃ (X : Int32 × Int32 × Nat) (Y : Nat × Int32) (C' : Nat) (ct' : Nat → Int32), Mt X Y ∧ (X.1 = 0 → X.2.1 = fp ∧ p < X.2.2 ∧ 0 < C' ∧ C' ≤ 12 ∧ ∀ j, j < C' → ∃ d : Nat, d ≤ 99 ∧ ct' j = nI d) ∧
      (∀ (σ0 σ : Mem) (q : Nat) (l4 : Value), q < 2 → (∀ j, j < c → σ0 2 0 j = T j) → KC σ0 σ q c (0, fp, p) → (∀ j, j < i → σ 4 q j = ct j) →
        ∃ τ, (∀ fs Q, Rn mX6_readCatches 28 [.ref (ad 1 0), .int 1, .int 1, .int (nI i), l4] [] fs (enc σ) Q ↔ Rt fs (enc τ) none Q) ∧ KC σ0 τ q c X ∧ (∀ k j, ¬ k = 1 → ¬ (k = 3 ∧ j = q) → ¬ (k = 4 ∧ j = q) → τ k j = σ k j) ∧ (∀ s, ¬ s = 0 → τ 3 q s = σ 3 q s) ∧ (X.1 = 0 → τ 3 q 0 = nI C' ∧ ∀ j, j < C' → τ 4 q j = ct' j)) ∧
      (∀ (σ0 σ : Mem), LY σ0 c T → KM σ0 σ c (rSk c T (rNum 0 99 c T (p, 0))) → σ 37 0 0 = nI (i + 1) → (∀ j, j < i → σ 38 0 j = ct j) → σ 38 0 i = rVal 0 99 c T (p, 0) →
        ∃ τ, (∀ fs Q, Rn mX8_readsCatches 49 [.ref (ad 29 0)] [] fs (enc σ) Q ↔ Rt fs (enc τ) none Q) ∧ KM σ0 τ c Y ∧ (∀ k j, ¬ k = 29 → ¬ k = 37 → ¬ k = 38 → τ k j = σ k j) ∧ (∀ s, ¬ s = 0 → τ 37 0 s = σ 37 0 s) ∧ (X.1 = 0 → τ 37 0 0 = nI C' ∧ ∀ j, j < C' → τ 38 0 j = ct' j))
theorem cat_f {c i p : Nat} {T : Nat → Int32} {fp : Int32} {ct : Nat → Int32} (hl : LT c T) (hi : i < 12) (hp : p ≤ c) (n0 : ¬ nf 0 99 c T (sk c T p) = 0) : CatP c T fp i p ct := by
  have n10 : ¬ (1 : Int32) = 0 := by decide
  have hx1 : (cNum 0 99 c T (0, fp, p)).1 = nf 0 99 c T (sk c T p) := by
    show (if (0 : Int32) = 0 then nf 0 99 c T (sk c T p) else 0) = _
    rw [if_pos rfl]
  have hy2 : (rNum 0 99 c T (p, 0)).2 = nf 0 99 c T (sk c T p) := by unfold rNum; rw [if_pos rfl]
  have nX : ¬ (cNum 0 99 c T (0, fp, p)).1 = 0 := by rw [hx1]; exact n0
  have nY : ¬ (rNum 0 99 c T (p, 0)).2 = 0 := by rw [hy2]; exact n0
  refine ⟨cNum 0 99 c T (0, fp, p), rNum 0 99 c T (p, 0), 0, ct, Mt_num (Or.inl ⟨rfl, rfl, rfl⟩), fun z => absurd z nX, ?_, ?_⟩
  · intro σ0 σ q l4 hq ht h hdat
    obtain ⟨τ1, a1, a2, a3⟩ := sp_cnum (lo := 0) (hi := 99) hl ht h
    refine ⟨τ1, fun fs Q => ?_, a2, fun k j c1 c2 c3 => a3 k j c1, fun s hs => by rw [a3 3 q (by decide)], fun z => absurd z nX⟩
    have li : nI i < 12 := nI_lt (b := 12) hi (by decide)
    have f1 : ¬ τ1 1 0 3 = 0 := by rw [a2.2.2.1]; exact nX
    rw [aX6_readCatches_28]
    simp only [aX6_readCatches_29, aX6_readCatches_31, aX6_readCatches_34, aX6_readCatches_35, aX6_readCatches_38, aX6_readCatches_39, aX6_readCatches_40, Nat.zero_le, Nat.reduceLeDiff, Nat.reduceAdd, i1_0, rr_c3, zc9, oc9, zc10, oc10, zc11, oc11, zc12, oc12, zc13, oc13, zc15, oc15, Int32.lt_irrefl, Nat.zero_lt_one, Rt_cons, Rt_void, isB_0, isB_1, isB_b, true_and, and_true, cats_nil, cats_int, cats_ref, and_self, if_true, if_false, ite_self, le_nlt, ite_not, li, n10]
    rw [aX6_readCatches_42, a1]
    simp only [aX6_readCatches_45, aX6_readCatches_47, aX6_readCatches_48, aX6_readCatches_51, aX6_readCatches_54, Nat.zero_le, Nat.reduceLeDiff, Nat.reduceAdd, i1_0, rr_c3, zc9, oc9, zc10, oc10, zc11, oc11, zc12, oc12, zc13, oc13, zc15, oc15, Int32.lt_irrefl, Nat.zero_lt_one, Rt_cons, Rt_void, isB_0, isB_1, isB_b, true_and, and_true, cats_nil, cats_int, cats_ref, and_self, if_true, if_false, ite_self, le_nlt, ite_not, f1]
  · intro σ0 σ ht h e37 hdat ev
    have eS : rSk c T (rNum 0 99 c T (p, 0)) = rNum 0 99 c T (p, 0) := if_neg nY
    rw [eS] at h
    obtain ⟨τ3, d1, d2, d3⟩ := sp_mend hl ht h
    have eR : rEnd c T (rNum 0 99 c T (p, 0)) = rNum 0 99 c T (p, 0) := if_neg nY
    rw [eR] at d2
    have nw : ¬ σ 29 0 28 = 0 := by rw [h.2.2.2.1]; exact nY
    refine ⟨τ3, fun fs Q => ?_, d2, fun k j c1 c2 c3 => d3 k j c1, fun s hs => by rw [d3 37 0 (by decide)], fun z => absurd z nX⟩
    rw [aX8_readsCatches_49]
    simp only [aX8_readsCatches_50, aX8_readsCatches_53, Nat.zero_le, Nat.reduceLeDiff, Nat.reduceAdd, i1_0, rr_c3, zc9, oc9, zc10, oc10, zc11, oc11, zc12, oc12, zc13, oc13, zc15, oc15, Int32.lt_irrefl, Nat.zero_lt_one, Rt_cons, Rt_void, isB_0, isB_1, isB_b, true_and, and_true, cats_nil, cats_int, cats_ref, and_self, if_true, if_false, ite_self, le_nlt, ite_not, nw, not_false_eq_true]
    simp only [aX8_readsCatches_129, aX8_readsCatches_130, Nat.zero_le, Nat.reduceLeDiff, Nat.reduceAdd, i1_0, rr_c3, zc9, oc9, zc10, oc10, zc11, oc11, zc12, oc12, zc13, oc13, zc15, oc15, Int32.lt_irrefl, Nat.zero_lt_one, Rt_cons, Rt_void, isB_0, isB_1, isB_b, true_and, and_true, cats_nil, cats_int, cats_ref, and_self, if_true, if_false, ite_self, le_nlt, ite_not]
    rw [aX8_readsCatches_132, d1]
    simp only [aX8_readsCatches_135, Nat.zero_le, Nat.reduceLeDiff, Nat.reduceAdd, i1_0, rr_c3, zc9, oc9, zc10, oc10, zc11, oc11, zc12, oc12, zc13, oc13, zc15, oc15, Int32.lt_irrefl, Nat.zero_lt_one, Rt_cons, Rt_void, isB_0, isB_1, isB_b, true_and, and_true, cats_nil, cats_int, cats_ref, and_self, if_true, if_false, ite_self, le_nlt, ite_not]
theorem sp_cstep {σ0 : Mem} {c i p q : Nat} {T : Nat → Int32} {fp : Int32} {l4 : Value} (hl : LT c T) (hi : i < 12) (n0 : nf 0 99 c T (sk c T p) = 0) (hq : q < 2) (ht : ∀ j, j < c → σ0 2 0 j = T j) (h : KC σ0 σ q c (0, fp, p)) :
    ∃ τ, (∀ fs Q, Rn mX6_readCatches 28 [.ref (ad 1 0), .int 1, .int 1, .int (nI i), l4] [] fs (enc σ) Q ↔ Rn mX6_readCatches 76 [.ref (ad 1 0), .int 1, .int 1, .int (nI i), .int (nu c T (sk c T p)).2] [] fs (enc τ) Q) ∧ KC σ0 τ q c (0, fp, (nu c T (sk c T p)).1) ∧ τ 3 q = upd (σ 3 q) 0 (nI (i + 1)) ∧ τ 4 q = upd (σ 4 q) i (nu c T (sk c T p)).2 ∧ ∀ k j, ¬ k = 1 → ¬ (k = 3 ∧ j = q) → ¬ (k = 4 ∧ j = q) → τ k j = σ k j := by
  have n10 : ¬ (1 : Int32) = 0 := by decide
  have k3 : q < cnt 3 := hq
  have k4 : q < cnt 4 := hq
  obtain ⟨τ1, a1, a2, a3⟩ := sp_cnum (lo := 0) (hi := 99) hl ht h
  rw [cNum_ok n0] at a2
  have a1' : ∀ fs Q, Rn mX6_readNumber 0 [.ref (ad 1 0), .int 0, .int 99, .null, .null] [] fs (enc σ) Q ↔ Rt fs (enc τ1) (some (.int (nu c T (sk c T p)).2)) Q := a1
  generalize (nu c T (sk c T p)).2 = v at *
  have h2 : KC σ0 (upS τ1 4 q i v) q c (0, fp, (nu c T (sk c T p)).1) := KC_row a2 (by omega)
  have h3 : KC σ0 (upS (upS τ1 4 q i v) 3 q 0 (nI (i + 1))) q c (0, fp, (nu c T (sk c T p)).1) := KC_row h2 (by omega)
  refine ⟨_, fun fs Q => ?_, h3, ?_, ?_, fun k j c1 c2 c3 => ?_⟩
  · have r1 : rr (τ1 1 0 5) = q := a2.2.2.2.2.2.1
    have r2 : rr (upS τ1 4 q i v 1 0 5) = q := h2.2.2.2.2.2.1
    have f1 : τ1 1 0 3 = 0 := a2.2.2.1
    have li : nI i < 12 := nI_lt (b := 12) hi (by decide)
    have vi := in12 hi
    have ci := cl10 (show i < 10000 by omega)
    rw [aX6_readCatches_28]
    simp only [aX6_readCatches_29, aX6_readCatches_31, aX6_readCatches_34, aX6_readCatches_35, aX6_readCatches_38, aX6_readCatches_39, aX6_readCatches_40, Nat.zero_le, Nat.reduceLeDiff, Nat.reduceAdd, i1_0, rr_c3, zc9, oc9, zc10, oc10, zc11, oc11, zc12, oc12, zc13, oc13, zc15, oc15, Int32.lt_irrefl, Nat.zero_lt_one, Rt_cons, Rt_void, isB_0, isB_1, isB_b, true_and, and_true, cats_nil, cats_int, cats_ref, and_self, if_true, if_false, ite_self, le_nlt, ite_not, li, n10]
    rw [aX6_readCatches_42, a1']
    simp only [aX6_readCatches_45, aX6_readCatches_47, aX6_readCatches_48, aX6_readCatches_51, aX6_readCatches_54, aX6_readCatches_55, aX6_readCatches_56, aX6_readCatches_59, aX6_readCatches_62, aX6_readCatches_63, aX6_readCatches_65, aX6_readCatches_66, aX6_readCatches_67, aX6_readCatches_70, aX6_readCatches_71, aX6_readCatches_72, aX6_readCatches_73, Nat.zero_le, Nat.reduceLeDiff, Nat.reduceAdd, i1_0, rr_c3, zc9, oc9, zc10, oc10, zc11, oc11, zc12, oc12, zc13, oc13, zc15, oc15, Int32.lt_irrefl, Nat.zero_lt_one, Rt_cons, Rt_void, isB_0, isB_1, isB_b, true_and, and_true, cats_nil, cats_int, cats_ref, and_self, if_true, if_false, ite_self, le_nlt, ite_not, f1, r1, r2, k3, k4, aT_4, aN_4, vi, ci, nI_1]
  · rw [upS_eq, upS_ne (by omega), a3 3 q (by decide)]
  · rw [upS_ne (by omega), upS_eq, a3 4 q (by decide)]
  · rw [upS_ne c2, upS_ne c3, a3 k j c1]
/-- behind the last number -/
theorem sp_clast {σ0 : Mem} {c q : Nat} {T : Nat → Int32} {X : Int32 × Int32 × Nat} {l1 l2 l3 l4 : Value} (hl : LT c T) (ht : ∀ j, j < c → σ0 2 0 j = T j) (h : KC σ0 σ q c X) :
    ∃ τ, (∀ fs Q, Rn mX6_readCatches 105 [.ref (ad 1 0), l1, l2, l3, l4] [] fs (enc σ) Q ↔ Rt fs (enc τ) none Q) ∧ KC σ0 τ q c (cEnd c T X) ∧ ∀ k i, ¬ k = 1 → τ k i = σ k i := by
  obtain ⟨τ, a1, a2⟩ := sp_cend hl ht h
  refine ⟨τ, fun fs Q => ?_, a2⟩
  simp only [aX6_readCatches_105, Nat.zero_le, Nat.reduceLeDiff, Nat.reduceAdd, i1_0, rr_c3, zc9, oc9, zc10, oc10, zc11, oc11, zc12, oc12, zc13, oc13, zc15, oc15, Int32.lt_irrefl, Nat.zero_lt_one, Rt_cons, Rt_void, isB_0, isB_1, isB_b, true_and, and_true, cats_nil, cats_int, cats_ref, and_self, if_true, if_false, ite_self, le_nlt, ite_not]
  rw [aX6_readCatches_106, a1]
  simp only [aX6_readCatches_109, Nat.zero_le, Nat.reduceLeDiff, Nat.reduceAdd, i1_0, rr_c3, zc9, oc9, zc10, oc10, zc11, oc11, zc12, oc12, zc13, oc13, zc15, oc15, Int32.lt_irrefl, Nat.zero_lt_one, Rt_cons, Rt_void, isB_0, isB_1, isB_b, true_and, and_true, cats_nil, cats_int, cats_ref, and_self, if_true, if_false, ite_self, le_nlt, ite_not]
theorem sp_mlast {σ0 : Mem} {c : Nat} {T : Nat → Int32} {Y : Nat × Int32} (hl : LT c T) (ht : LY σ0 c T) (h : KM σ0 σ c Y) :
    ∃ τ, (∀ fs Q, Rn mX8_readsCatches 129 [.ref (ad 29 0)] [] fs (enc σ) Q ↔ Rt fs (enc τ) none Q) ∧ KM σ0 τ c (rEnd c T Y) ∧ ∀ k i, ¬ k = 29 → τ k i = σ k i := by
  obtain ⟨τ, a1, a2⟩ := sp_mend hl ht h
  refine ⟨τ, fun fs Q => ?_, a2⟩
  simp only [aX8_readsCatches_129, aX8_readsCatches_130, Nat.zero_le, Nat.reduceLeDiff, Nat.reduceAdd, i1_0, rr_c3, zc9, oc9, zc10, oc10, zc11, oc11, zc12, oc12, zc13, oc13, zc15, oc15, Int32.lt_irrefl, Nat.zero_lt_one, Rt_cons, Rt_void, isB_0, isB_1, isB_b, true_and, and_true, cats_nil, cats_int, cats_ref, and_self, if_true, if_false, ite_self, le_nlt, ite_not]
  rw [aX8_readsCatches_132, a1]
  simp only [aX8_readsCatches_135, Nat.zero_le, Nat.reduceLeDiff, Nat.reduceAdd, i1_0, rr_c3, zc9, oc9, zc10, oc10, zc11, oc11, zc12, oc12, zc13, oc13, zc15, oc15, Int32.lt_irrefl, Nat.zero_lt_one, Rt_cons, Rt_void, isB_0, isB_1, isB_b, true_and, and_true, cats_nil, cats_int, cats_ref, and_self, if_true, if_false, ite_self, le_nlt, ite_not]
theorem cat_n {c i p : Nat} {T : Nat → Int32} {fp : Int32} {ct : Nat → Int32} (hl : LT c T) (hi : i < 12) (hp : p ≤ c) (n0 : nf 0 99 c T (sk c T p) = 0) (hct : ∀ j, j < i → ∃ d : Nat, d ≤ 99 ∧ ct j = nI d)
    (ih : i + 1 < 12 → ∀ p', p' ≤ c → CatP c T fp (i + 1) p' (upd ct i (nu c T (sk c T p)).2)) : CatP c T fp i p ct := by
  have n10 : ¬ (1 : Int32) = 0 := by decide
  have hc := hl.1
  obtain ⟨d0, _, d1, d2⟩ := nf_val (lo := 0) (hi := 99) (by omega) (by omega) n0
  have ska := sk_le (T := T) hp
  have skg := sk_ge (T := T) hp
  have nl := (nu_le (T := T) ska).2
  have ngt : sk c T p < (nu c T (sk c T p)).1 := (nf_0 n0).1
  have eY1 := rNum_ok n0
  have eV := rVal_ok n0
  have eS : rSk c T ((nu c T (sk c T p)).1, 0) = (sk c T (nu c T (sk c T p)).1, 0) := if_pos rfl
  have St := fun (σ0 σ : Mem) (q : Nat) (l4 : Value) (hq : q < 2) (ht : ∀ j, j < c → σ0 2 0 j = T j) (h : KC σ0 σ q c (0, fp, p)) => sp_cstep (l4 := l4) hl hi n0 hq ht h
  generalize (nu c T (sk c T p)).1 = e at *
  generalize (nu c T (sk c T p)).2 = v at *
  have ske := sk_le (T := T) nl
  have skge := sk_ge (T := T) nl
  have hct' : ∀ j, j < i + 1 → ∃ d : Nat, d ≤ 99 ∧ upd ct i v j = nI d := fun j hj => by
    by_cases z : j = i
    · rw [z, upd_eq]; exact ⟨d0, d1, d2⟩
    · rw [upd_ne z]; exact hct j (by omega)
  have dt : ∀ (f g : Nat → Int32), f = upd g i v → (∀ j, j < i → g j = ct j) → ∀ j, j < i + 1 → f j = upd ct i v j := fun f g hf hg j hj => by
    rw [hf]
    by_cases z : j = i
    · rw [z, upd_eq, upd_eq]
    · rw [upd_ne z, upd_ne z]; exact hg j (by omega)
  have dm : ∀ σ : Mem, (∀ j, j < i → σ 38 0 j = ct j) → σ 38 0 i = rVal 0 99 c T (p, 0) → ∀ j, j < i + 1 → σ 38 0 j = upd ct i v j := fun σ h1 h2 j hj => by
    by_cases z : j = i
    · rw [z, upd_eq, h2, eV]
    · rw [upd_ne z]; exact h1 j (by omega)
  by_cases q12 : i + 1 < 12
  · by_cases z : lk c T (sk c T e) = 44
    · have zc := lk_in z (by decide)
      obtain ⟨X, Y, C', ct', m1, m2, m3, m4⟩ := ih q12 (sk c T e + 1) (by omega)
      refine ⟨X, Y, C', ct', m1, fun y => ⟨(m2 y).1, by have := (m2 y).2.1; omega, (m2 y).2.2⟩, ?_, ?_⟩
      · intro σ0 σ q l4 hq ht h hdat
        obtain ⟨τ1, a1, a2, a3, a4, a5⟩ := St σ0 σ q l4 hq ht h
        have N := fun fs Q => sp_cisNext (fs := fs) (Q := Q) (w := 44) hl ht a2
        have N' : ∀ fs Q, Rn mX6_isNext 0 [.ref (ad 1 0), .int 44] [] fs (enc τ1) Q ↔ Rt fs (enc (upS τ1 1 0 4 (nI (sk c T e + 1)))) (some (.int 1)) Q := fun fs Q => by
          rw [N]
          show Rt fs (enc (upS τ1 1 0 4 (nI (if lk c T (sk c T e) = 44 then sk c T e + 1 else sk c T e)))) (some (.int (bI (lk c T (sk c T e) = 44)))) Q ↔ _
          rw [if_pos z, bI_t z]
        obtain ⟨τ2, b1, b2, b3, b4, b5⟩ := m3 σ0 (upS τ1 1 0 4 (nI (sk c T e + 1))) q (.int v) hq ht (KC_at a2 (by omega)) (fun j hj => by rw [upS_ne (by omega)]; exact dt _ _ a4 hdat j hj)
        refine ⟨τ2, fun fs Q => ?_, b2, fun k j c1 c2 c3 => by rw [b3 k j c1 c2 c3, upS_ne (by omega), a5 k j c1 c2 c3], fun s hs => by rw [b4 s hs, upS_ne (by omega), a3, upd_ne hs], b5⟩
        have l12 : nI (i + 1) < 12 := nI_lt (b := 12) q12 (by decide)
        rw [a1, ← b1]
        simp only [aX6_readCatches_76, aX6_readCatches_77, aX6_readCatches_78, aX6_readCatches_79, aX6_readCatches_81, aX6_readCatches_84, aX6_readCatches_85, Nat.zero_le, Nat.reduceLeDiff, Nat.reduceAdd, i1_0, rr_c3, zc9, oc9, zc10, oc10, zc11, oc11, zc12, oc12, zc13, oc13, zc15, oc15, Int32.lt_irrefl, Nat.zero_lt_one, Rt_cons, Rt_void, isB_0, isB_1, isB_b, true_and, and_true, cats_nil, cats_int, cats_ref, and_self, if_true, if_false, ite_self, le_nlt, ite_not, l12, nI_1]
        rw [aX6_readCatches_87, N']
        simp only [aX6_readCatches_90, aX6_readCatches_93, aX6_readCatches_94, aX6_readCatches_97, aX6_readCatches_98, aX6_readCatches_99, aX6_readCatches_102, Nat.zero_le, Nat.reduceLeDiff, Nat.reduceAdd, i1_0, rr_c3, zc9, oc9, zc10, oc10, zc11, oc11, zc12, oc12, zc13, oc13, zc15, oc15, Int32.lt_irrefl, Nat.zero_lt_one, Rt_cons, Rt_void, isB_0, isB_1, isB_b, true_and, and_true, cats_nil, cats_int, cats_ref, and_self, if_true, if_false, ite_self, le_nlt, ite_not, n10, nI_1]
      · intro σ0 σ ht h e37 hdat ev
        rw [eY1, eS] at h
        have L := fun fs Q => sp_look (fs := fs) (Q := Q) hl (KM_LY h ht) h.2.2.2.2 h.2.2.1
        have L' : ∀ fs Q, Rn mX8_look 0 [.ref (ad 29 0)] [] fs (enc σ) Q ↔ Rt fs (enc σ) (some (.int (lk c T (sk c T e)))) Q := L
        have hw : σ 29 0 28 = 0 := h.2.2.2.1
        have h1 : KM σ0 (upS σ 29 0 27 (nI (sk c T e + 1))) c (sk c T e + 1, 0) := KM_at h (by omega)
        obtain ⟨τ1, a1, a2, a3⟩ := sp_mnum (lo := 0) (hi := 99) hl ht h1
        have h2 : KM σ0 (upS τ1 38 0 (i + 1) (rVal 0 99 c T (sk c T e + 1, 0))) c (rNum 0 99 c T (sk c T e + 1, 0)) := KM_row a2 (by omega)
        have e37' : τ1 37 0 0 = nI (i + 1) := by rw [a3 37 0 (by decide), upS_ne (by omega)]; exact e37
        have h3 : KM σ0 (upS (upS τ1 38 0 (i + 1) (rVal 0 99 c T (sk c T e + 1, 0))) 37 0 0 (nI (i + 1 + 1))) c (rNum 0 99 c T (sk c T e + 1, 0)) := KM_row h2 (by omega)
        obtain ⟨τ2, b1, b2, b3⟩ := sp_mskR hl ht h3
        have dd := dm σ hdat ev
        obtain ⟨τ3, f1, f2, f3, f4, f5⟩ := m4 σ0 τ2 ht b2 (by rw [b3 37 0 (by decide), upS_eq, upd_eq]) (fun j hj => by rw [b3 38 0 (by decide), upS_ne (by omega), upS_eq, upd_ne (by omega), a3 38 0 (by decide), upS_ne (by omega)]; exact dd j hj) (by rw [b3 38 0 (by decide), upS_ne (by omega), upS_eq, upd_eq])
        refine ⟨τ3, fun fs Q => ?_, f2, fun k j c1 c2 c3 => ?_, fun s hs => ?_, f5⟩
        · have n12 : ¬ nI (i + 1) = 12 := fun y => by
            have := (nI_eq (b := 12) (by omega) (by decide)).mp y
            omega
          have e27 : σ 29 0 27 = nI (sk c T e) := h.2.2.1
          have vi := in12 q12
          have ci := cl10 (show i + 1 < 10000 by omega)
          have e37u : upS σ 29 0 27 (nI (sk c T e + 1)) 37 0 0 = nI (i + 1) := by rw [upS_ne (by omega)]; exact e37
          have e37v : upS τ1 38 0 (i + 1) (rVal 0 99 c T (sk c T e + 1, 0)) 37 0 0 = nI (i + 1) := by rw [upS_ne (by omega)]; exact e37'
          rw [← f1, aX8_readsCatches_49]
          simp only [aX8_readsCatches_50, aX8_readsCatches_53, aX8_readsCatches_56, aX8_readsCatches_57, aX8_readsCatches_60, aX8_readsCatches_62, aX8_readsCatches_65, aX8_readsCatches_66, aX8_readsCatches_69, aX8_readsCatches_70, aX8_readsCatches_71, aX8_readsCatches_73, aX8_readsCatches_76, aX8_readsCatches_77, aX8_readsCatches_78, aX8_readsCatches_81, aX8_readsCatches_84, aX8_readsCatches_85i, aX8_readsCatches_85a, aX8_readsCatches_86, aX8_readsCatches_89, aX8_readsCatches_90, aX8_readsCatches_91, aX8_readsCatches_94, aX8_readsCatches_95, aX8_readsCatches_98, aX8_readsCatches_99, aX8_readsCatches_102, aX8_readsCatches_103, aX8_readsCatches_104, aX8_readsCatches_105, aX8_readsCatches_106, L', Nat.zero_le, Nat.reduceLeDiff, Nat.reduceAdd, i1_0, rr_c3, zc9, oc9, zc10, oc10, zc11, oc11, zc12, oc12, zc13, oc13, zc15, oc15, Int32.lt_irrefl, Nat.zero_lt_one, Rt_cons, Rt_void, isB_0, isB_1, isB_b, true_and, and_true, cats_nil, cats_int, cats_ref, and_self, if_true, if_false, ite_self, le_nlt, ite_not, hw, not_true_eq_false, z, aT_37, aN_37, cnt_37, v3.1, c0, e37, n12, not_false_eq_true, e27, nI_1, e37u]
          rw [aX8_readsCatches_108]
          simp only [cats_int, cats_nil, cats_ref, Nat.reduceLeDiff, true_and, Nat.reduceAdd, Nat.zero_le]
          rw [a1]
          simp only [aX8_readsCatches_111, aX8_readsCatches_112, aX8_readsCatches_113, aX8_readsCatches_116, aX8_readsCatches_117, aX8_readsCatches_118, aX8_readsCatches_119, aX8_readsCatches_120, aX8_readsCatches_121, aX8_readsCatches_122, Nat.zero_le, Nat.reduceLeDiff, Nat.reduceAdd, i1_0, rr_c3, zc9, oc9, zc10, oc10, zc11, oc11, zc12, oc12, zc13, oc13, zc15, oc15, Int32.lt_irrefl, Nat.zero_lt_one, Rt_cons, Rt_void, isB_0, isB_1, isB_b, true_and, and_true, cats_nil, cats_int, cats_ref, and_self, if_true, if_false, ite_self, le_nlt, ite_not, aT_38, aN_38, cnt_38, vi, ci, aT_37, aN_37, cnt_37, v3.1, c0, e37v, nI_1]
          rw [aX8_readsCatches_123, b1]
          simp only [Nat.zero_le, Nat.reduceLeDiff, Nat.reduceAdd, i1_0, rr_c3, zc9, oc9, zc10, oc10, zc11, oc11, zc12, oc12, zc13, oc13, zc15, oc15, Int32.lt_irrefl, Nat.zero_lt_one, Rt_cons, Rt_void, isB_0, isB_1, isB_b, true_and, and_true, cats_nil, cats_int, cats_ref, and_self, if_true, if_false, ite_self, le_nlt, ite_not]
          rw [aX8_readsCatches_126]
        · rw [f3 k j c1 c2 c3, b3 k j c1, upS_ne (by omega), upS_ne (by omega), a3 k j c1, upS_ne (by omega)]
        · rw [f4 s hs, b3 37 0 (by decide), upS_eq, upd_ne hs, upS_ne (by omega), a3 37 0 (by decide), upS_ne (by omega)]
    · refine ⟨cEnd c T (0, fp, sk c T e), rEnd c T (sk c T e, 0), i + 1, upd ct i v, Mt_end (Or.inl ⟨rfl, rfl, rfl⟩), fun z0 => ⟨cEnd_fp z0, ?_, by omega, by omega, hct'⟩, ?_, ?_⟩
      · have : sk c T e ≤ (cEnd c T (0, fp, sk c T e)).2.2 := cEnd_ge (T := T) (X := (0, fp, sk c T e)) ske
        omega
      · intro σ0 σ q l4 hq ht h hdat
        obtain ⟨τ1, a1, a2, a3, a4, a5⟩ := St σ0 σ q l4 hq ht h
        have N := fun fs Q => sp_cisNext (fs := fs) (Q := Q) (w := 44) hl ht a2
        have N' : ∀ fs Q, Rn mX6_isNext 0 [.ref (ad 1 0), .int 44] [] fs (enc τ1) Q ↔ Rt fs (enc (upS τ1 1 0 4 (nI (sk c T e)))) (some (.int 0)) Q := fun fs Q => by
          rw [N]
          show Rt fs (enc (upS τ1 1 0 4 (nI (if lk c T (sk c T e) = 44 then sk c T e + 1 else sk c T e)))) (some (.int (bI (lk c T (sk c T e) = 44)))) Q ↔ _
          rw [if_neg z, bI_f z]
        have h2 : KC σ0 (upS τ1 1 0 4 (nI (sk c T e))) q c (0, fp, sk c T e) := KC_at a2 ske
        obtain ⟨τ2, b1, b2, b3⟩ := sp_clast (l1 := .int 1) (l2 := .int 0) (l3 := .int (nI (i + 1))) (l4 := .int v) hl ht h2
        refine ⟨τ2, fun fs Q => ?_, b2, fun k j c1 c2 c3 => by rw [b3 k j c1, upS_ne (by omega), a5 k j c1 c2 c3], fun s hs => by rw [b3 3 q (by decide), upS_ne (by omega), a3, upd_ne hs], fun _ => ⟨by rw [b3 3 q (by decide), upS_ne (by omega), a3, upd_eq], fun j hj => by rw [b3 4 q (by decide), upS_ne (by omega)]; exact dt _ _ a4 hdat j hj⟩⟩
        have l12 : nI (i + 1) < 12 := nI_lt (b := 12) q12 (by decide)
        rw [a1, ← b1]
        simp only [aX6_readCatches_76, aX6_readCatches_77, aX6_readCatches_78, aX6_readCatches_79, aX6_readCatches_81, aX6_readCatches_84, aX6_readCatches_85, Nat.zero_le, Nat.reduceLeDiff, Nat.reduceAdd, i1_0, rr_c3, zc9, oc9, zc10, oc10, zc11, oc11, zc12, oc12, zc13, oc13, zc15, oc15, Int32.lt_irrefl, Nat.zero_lt_one, Rt_cons, Rt_void, isB_0, isB_1, isB_b, true_and, and_true, cats_nil, cats_int, cats_ref, and_self, if_true, if_false, ite_self, le_nlt, ite_not, l12, nI_1]
        rw [aX6_readCatches_87, N']
        simp only [aX6_readCatches_90, aX6_readCatches_93, aX6_readCatches_94, aX6_readCatches_97, aX6_readCatches_98, aX6_readCatches_99, aX6_readCatches_102, Nat.zero_le, Nat.reduceLeDiff, Nat.reduceAdd, i1_0, rr_c3, zc9, oc9, zc10, oc10, zc11, oc11, zc12, oc12, zc13, oc13, zc15, oc15, Int32.lt_irrefl, Nat.zero_lt_one, Rt_cons, Rt_void, isB_0, isB_1, isB_b, true_and, and_true, cats_nil, cats_int, cats_ref, and_self, if_true, if_false, ite_self, le_nlt, ite_not, nI_1]
        rw [aX6_readCatches_28]
        simp only [aX6_readCatches_29, aX6_readCatches_31, aX6_readCatches_34, aX6_readCatches_35, Nat.zero_le, Nat.reduceLeDiff, Nat.reduceAdd, i1_0, rr_c3, zc9, oc9, zc10, oc10, zc11, oc11, zc12, oc12, zc13, oc13, zc15, oc15, Int32.lt_irrefl, Nat.zero_lt_one, Rt_cons, Rt_void, isB_0, isB_1, isB_b, true_and, and_true, cats_nil, cats_int, cats_ref, and_self, if_true, if_false, ite_self, le_nlt, ite_not, l12]
      · intro σ0 σ ht h e37 hdat ev
        rw [eY1, eS] at h
        have L := fun fs Q => sp_look (fs := fs) (Q := Q) hl (KM_LY h ht) h.2.2.2.2 h.2.2.1
        have L' : ∀ fs Q, Rn mX8_look 0 [.ref (ad 29 0)] [] fs (enc σ) Q ↔ Rt fs (enc σ) (some (.int (lk c T (sk c T e)))) Q := L
        have hw : σ 29 0 28 = 0 := h.2.2.2.1
        obtain ⟨τ3, f1, f2, f3⟩ := sp_mlast hl ht h
        have dd := dm σ hdat ev
        refine ⟨τ3, fun fs Q => ?_, f2, fun k j c1 c2 c3 => f3 k j c1, fun s hs => by rw [f3 37 0 (by decide)], fun _ => ⟨by rw [f3 37 0 (by decide)]; exact e37, fun j hj => by rw [f3 38 0 (by decide)]; exact dd j hj⟩⟩
        rw [aX8_readsCatches_49, ← f1]
        simp only [aX8_readsCatches_50, aX8_readsCatches_53, aX8_readsCatches_56, aX8_readsCatches_57, aX8_readsCatches_60, aX8_readsCatches_62, L', Nat.zero_le, Nat.reduceLeDiff, Nat.reduceAdd, i1_0, rr_c3, zc9, oc9, zc10, oc10, zc11, oc11, zc12, oc12, zc13, oc13, zc15, oc15, Int32.lt_irrefl, Nat.zero_lt_one, Rt_cons, Rt_void, isB_0, isB_1, isB_b, true_and, and_true, cats_nil, cats_int, cats_ref, and_self, if_true, if_false, ite_self, le_nlt, ite_not, hw, not_true_eq_false, z, not_false_eq_true]
  · have e12 : i + 1 = 12 := by omega
    have e12' : nI (i + 1) = 12 := by rw [e12]; rfl
    refine ⟨cEnd c T (0, fp, e), rEnd c T (sk c T e, 0), i + 1, upd ct i v, ?_, fun z0 => ⟨cEnd_fp z0, ?_, by omega, by omega, hct'⟩, ?_, ?_⟩
    · rw [rEnd_sk nl]; exact Mt_end (Or.inl ⟨rfl, rfl, rfl⟩)
    · have : e ≤ (cEnd c T (0, fp, e)).2.2 := cEnd_ge (T := T) (X := (0, fp, e)) nl
      omega
    · intro σ0 σ q l4 hq ht h hdat
      obtain ⟨τ1, a1, a2, a3, a4, a5⟩ := St σ0 σ q l4 hq ht h
      obtain ⟨τ2, b1, b2, b3⟩ := sp_clast (l1 := .int 1) (l2 := .int 0) (l3 := .int (nI (i + 1))) (l4 := .int v) hl ht a2
      refine ⟨τ2, fun fs Q => ?_, b2, fun k j c1 c2 c3 => by rw [b3 k j c1, a5 k j c1 c2 c3], fun s hs => by rw [b3 3 q (by decide), a3, upd_ne hs], fun _ => ⟨by rw [b3 3 q (by decide), a3, upd_eq], fun j hj => by rw [b3 4 q (by decide)]; exact dt _ _ a4 hdat j hj⟩⟩
      rw [a1, ← b1]
      simp only [aX6_readCatches_76, aX6_readCatches_77, aX6_readCatches_78, aX6_readCatches_79, aX6_readCatches_81, aX6_readCatches_97, aX6_readCatches_98, aX6_readCatches_99, aX6_readCatches_102, Nat.zero_le, Nat.reduceLeDiff, Nat.reduceAdd, i1_0, rr_c3, zc9, oc9, zc10, oc10, zc11, oc11, zc12, oc12, zc13, oc13, zc15, oc15, Int32.lt_irrefl, Nat.zero_lt_one, Rt_cons, Rt_void, isB_0, isB_1, isB_b, true_and, and_true, cats_nil, cats_int, cats_ref, and_self, if_true, if_false, ite_self, le_nlt, ite_not, nI_1, e12']
      rw [aX6_readCatches_28]
      simp only [aX6_readCatches_29, aX6_readCatches_31, Nat.zero_le, Nat.reduceLeDiff, Nat.reduceAdd, i1_0, rr_c3, zc9, oc9, zc10, oc10, zc11, oc11, zc12, oc12, zc13, oc13, zc15, oc15, Int32.lt_irrefl, Nat.zero_lt_one, Rt_cons, Rt_void, isB_0, isB_1, isB_b, true_and, and_true, cats_nil, cats_int, cats_ref, and_self, if_true, if_false, ite_self, le_nlt, ite_not]
    · intro σ0 σ ht h e37 hdat ev
      rw [eY1, eS] at h
      have L := fun fs Q => sp_look (fs := fs) (Q := Q) hl (KM_LY h ht) h.2.2.2.2 h.2.2.1
      have L' : ∀ fs Q, Rn mX8_look 0 [.ref (ad 29 0)] [] fs (enc σ) Q ↔ Rt fs (enc σ) (some (.int (lk c T (sk c T e)))) Q := L
      have hw : σ 29 0 28 = 0 := h.2.2.2.1
      have dd := dm σ hdat ev
      by_cases z : lk c T (sk c T e) = 44
      · have eR : rEnd c T (sk c T e, 0) = (sk c T e, 1) := by
          unfold rEnd
          rw [if_pos rfl]
          show (if lk c T (sk c T (sk c T e)) = 59 then (sk c T (sk c T e) + 1, (0 : Int32)) else (sk c T (sk c T e), (1 : Int32))) = _
          rw [sk_sk nl, z, if_neg (by decide)]
        have h2 : KM σ0 (upS σ 29 0 28 1) c (sk c T e, 1) := KM_wr h
        obtain ⟨τ3, f1, f2, f3⟩ := sp_mlast hl ht h2
        have eR2 : rEnd c T (sk c T e, 1) = (sk c T e, 1) := if_neg n10
        rw [eR2] at f2
        rw [eR]
        have nw : ¬ upS σ 29 0 28 1 29 0 28 = 0 := by rw [upS_eq, upd_eq]; exact n10
        refine ⟨τ3, fun fs Q => ?_, f2, fun k j c1 c2 c3 => by rw [f3 k j c1, upS_ne (by omega)], fun s hs => by rw [f3 37 0 (by decide), upS_ne (by omega)], fun _ => ⟨by rw [f3 37 0 (by decide), upS_ne (by omega)]; exact e37, fun j hj => by rw [f3 38 0 (by decide), upS_ne (by omega)]; exact dd j hj⟩⟩
        rw [aX8_readsCatches_49]
        simp only [aX8_readsCatches_50, aX8_readsCatches_53, aX8_readsCatches_56, aX8_readsCatches_57, aX8_readsCatches_60, aX8_readsCatches_62, aX8_readsCatches_65, aX8_readsCatches_66, aX8_readsCatches_69, aX8_readsCatches_70, aX8_readsCatches_71, aX8_readsCatches_73, aX8_readsCatches_76, aX8_readsCatches_77, aX8_readsCatches_78, aX8_readsCatches_81, L', sp_fails, Nat.zero_le, Nat.reduceLeDiff, Nat.reduceAdd, i1_0, rr_c3, zc9, oc9, zc10, oc10, zc11, oc11, zc12, oc12, zc13, oc13, zc15, oc15, Int32.lt_irrefl, Nat.zero_lt_one, Rt_cons, Rt_void, isB_0, isB_1, isB_b, true_and, and_true, cats_nil, cats_int, cats_ref, and_self, if_true, if_false, ite_self, le_nlt, ite_not, hw, not_true_eq_false, z, aT_37, aN_37, cnt_37, v3.1, c0, e37, e12']
        simp only [aX8_readsCatches_122, Nat.zero_le, Nat.reduceLeDiff, Nat.reduceAdd, i1_0, rr_c3, zc9, oc9, zc10, oc10, zc11, oc11, zc12, oc12, zc13, oc13, zc15, oc15, Int32.lt_irrefl, Nat.zero_lt_one, Rt_cons, Rt_void, isB_0, isB_1, isB_b, true_and, and_true, cats_nil, cats_int, cats_ref, and_self, if_true, if_false, ite_self, le_nlt, ite_not]
        rw [aX8_readsCatches_123, sp_mskip0 nw]
        simp only [Nat.zero_le, Nat.reduceLeDiff, Nat.reduceAdd, i1_0, rr_c3, zc9, oc9, zc10, oc10, zc11, oc11, zc12, oc12, zc13, oc13, zc15, oc15, Int32.lt_irrefl, Nat.zero_lt_one, Rt_cons, Rt_void, isB_0, isB_1, isB_b, true_and, and_true, cats_nil, cats_int, cats_ref, and_self, if_true, if_false, ite_self, le_nlt, ite_not]
        rw [aX8_readsCatches_126, aX8_readsCatches_49]
        simp only [aX8_readsCatches_50, aX8_readsCatches_53, Nat.zero_le, Nat.reduceLeDiff, Nat.reduceAdd, i1_0, rr_c3, zc9, oc9, zc10, oc10, zc11, oc11, zc12, oc12, zc13, oc13, zc15, oc15, Int32.lt_irrefl, Nat.zero_lt_one, Rt_cons, Rt_void, isB_0, isB_1, isB_b, true_and, and_true, cats_nil, cats_int, cats_ref, and_self, if_true, if_false, ite_self, le_nlt, ite_not, nw, not_false_eq_true]
        rw [f1]
      · obtain ⟨τ3, f1, f2, f3⟩ := sp_mlast hl ht h
        refine ⟨τ3, fun fs Q => ?_, f2, fun k j c1 c2 c3 => f3 k j c1, fun s hs => by rw [f3 37 0 (by decide)], fun _ => ⟨by rw [f3 37 0 (by decide)]; exact e37, fun j hj => by rw [f3 38 0 (by decide)]; exact dd j hj⟩⟩
        rw [aX8_readsCatches_49, ← f1]
        simp only [aX8_readsCatches_50, aX8_readsCatches_53, aX8_readsCatches_56, aX8_readsCatches_57, aX8_readsCatches_60, aX8_readsCatches_62, L', Nat.zero_le, Nat.reduceLeDiff, Nat.reduceAdd, i1_0, rr_c3, zc9, oc9, zc10, oc10, zc11, oc11, zc12, oc12, zc13, oc13, zc15, oc15, Int32.lt_irrefl, Nat.zero_lt_one, Rt_cons, Rt_void, isB_0, isB_1, isB_b, true_and, and_true, cats_nil, cats_int, cats_ref, and_self, if_true, if_false, ite_self, le_nlt, ite_not, hw, not_true_eq_false, z, not_false_eq_true]
theorem catch_lp {c : Nat} {T : Nat → Int32} {fp : Int32} (hl : LT c T) : ∀ (m i p : Nat) (ct : Nat → Int32), i + (m + 1) = 12 → p ≤ c → (∀ j, j < i → ∃ d : Nat, d ≤ 99 ∧ ct j = nI d) → CatP c T fp i p ct := by
  intro m
  induction m with
  | zero =>
    intro i p ct hi hp hct
    by_cases n0 : nf 0 99 c T (sk c T p) = 0
    · exact cat_n hl (by omega) hp n0 hct (fun h => absurd h (by omega))
    · exact cat_f hl (by omega) hp n0
  | succ m ih =>
    intro i p ct hi hp hct
    by_cases n0 : nf 0 99 c T (sk c T p) = 0
    · refine cat_n hl (by omega) hp n0 hct (fun h p' hp' => ih (i + 1) p' _ (by omega) hp' (fun j hj => ?_))
      obtain ⟨d0, _, d1, d2⟩ := nf_val (lo := 0) (hi := 99) (by omega) (by omega) n0
      by_cases z : j = i
      · rw [z, upd_eq]; exact ⟨d0, d1, d2⟩
      · rw [upd_ne z]; exact hct j (by omega)
    · exact cat_f hl (by omega) hp n0
end S85
