-- told
def smN (f : Nat → Nat) : Nat → Nat
  | 0 => 0
  | n + 1 => smN f n + f n
theorem smN_zero {f : Nat → Nat} : ∀ {n : Nat}, (∀ k, k < n → f k = 0) → smN f n = 0 := by
  intro n
  induction n with
  | zero => intro _; rfl
  | succ n ih => intro h; show smN f n + f n = 0; rw [ih (fun k hk => h k (by omega)), h n (by omega)]
theorem smN_one {f : Nat → Nat} {t : Nat} : ∀ {n : Nat}, t < n → (∀ k, k < n → ¬ k = t → f k = 0) → smN f n = f t := by
  intro n
  induction n with
  | zero => intro h; omega
  | succ n ih =>
    intro ht h
    show smN f n + f n = f t
    by_cases q : t = n
    · subst q
      rw [smN_zero (fun k hk => h k (by omega) (by omega)), Nat.zero_add]
    · rw [ih (by omega) (fun k hk => h k (by omega)), h n (by omega) (fun z => q z.symm), Nat.add_zero]
theorem smN_cong {f g : Nat → Nat} : ∀ {n : Nat}, (∀ k, k < n → f k = g k) → smN f n = smN g n := by
  intro n
  induction n with
  | zero => intro _; rfl
  | succ n ih => intro h; show smN f n + f n = smN g n + g n; rw [ih (fun k hk => h k (by omega)), h n (by omega)]
theorem smN_add {f g : Nat → Nat} : ∀ {n : Nat}, smN (fun k => f k + g k) n = smN f n + smN g n := by
  intro n
  induction n with
  | zero => rfl
  | succ n ih => show smN (fun k => f k + g k) n + (f n + g n) = smN f n + f n + (smN g n + g n); rw [ih]; omega
theorem smN_swap {a : Nat → Nat → Nat} {m : Nat} : ∀ {n : Nat}, smN (fun h => smN (fun g => a h g) m) n = smN (fun g => smN (fun h => a h g) n) m := by
  intro n
  induction n with
  | zero => exact (smN_zero (fun k _ => rfl)).symm
  | succ n ih =>
    show smN (fun h => smN (fun g => a h g) m) n + smN (fun g => a n g) m = smN (fun g => smN (fun h => a h g) n + a n g) m
    rw [ih, smN_add]
theorem smN_le {f : Nat → Nat} (h : ∀ k, f k ≤ 1) : ∀ n, smN f n ≤ n := by
  intro n
  induction n with
  | zero => exact Nat.le_refl _
  | succ n ih => have := h n; show smN f n + f n ≤ n + 1; omega
def asH (w : Nat → Int32) (h : Nat) : Nat := if ¬ w (64 + 5 * h + 2) = -1 ∧ ¬ w (64 + 5 * h + 2) = nI h then 1 else 0
def asG (N : Nat) (w : Nat → Int32) (g : Nat) : Nat := if ¬ hoW N w (nI g) = -1 ∧ ¬ hoW N w (nI g) = nI g then 1 else 0
theorem as_eq {N G : Nat} {w : Nat → Int32} (hN : N ≤ 7) (hG : G ≤ 7) (hg : ∀ h, h < 7 → w (64 + 5 * h + 2) = -1 ∨ ∃ g : Nat, g < G ∧ w (64 + 5 * h + 2) = nI g) (hi : ∀ h k, h < 7 → k < 7 → h ≠ k → ¬ w (64 + 5 * h + 2) = -1 → ¬ w (64 + 5 * h + 2) = w (64 + 5 * k + 2)) : smN (asH w) N = smN (asG N w) G := by
  have A : smN (asH w) N = smN (fun h => smN (fun g => if w (64 + 5 * h + 2) = nI g ∧ ¬ g = h then 1 else 0) G) N := smN_cong (fun h hh => by
    rcases hg h (by omega) with z | ⟨g, g1, g2⟩
    · rw [smN_zero (fun g hg => if_neg (fun y => nI_ne1 (a := g) (by omega) (by rw [← y.1]; exact z)))]
      unfold asH
      rw [if_neg (fun y => y.1 z)]
    · rw [smN_one g1 (fun k hk hne => if_neg (fun y => hne (by have := y.1; rw [g2] at this; exact ((nI_eq (by omega) (by omega)).mp this).symm)))]
      unfold asH
      have ne := nI_ne1 (a := g) (by omega)
      have eqv := nI_eq (a := g) (b := h) (by omega) (by omega)
      rw [g2]
      by_cases q : g = h
      · rw [if_neg (fun y => y.2 (eqv.mpr q)), if_neg (fun y => y.2 q)]
      · rw [if_pos ⟨ne, fun z => q (eqv.mp z)⟩, if_pos ⟨rfl, q⟩])
  have B : smN (asG N w) G = smN (fun g => smN (fun h => if w (64 + 5 * h + 2) = nI g ∧ ¬ g = h then 1 else 0) N) G := smN_cong (fun g hgG => by
    unfold asG
    rcases hoW_cases (N := N) (w := w) (x := nI g) with ⟨z, y⟩ | ⟨t, t1, t2, t3⟩
    · rw [smN_zero (fun h hh => if_neg (fun q => y h hh q.1)), if_neg (fun q => q.1 z)]
    · have ne := nI_ne1 (a := t) (by omega)
      have neg := nI_ne1 (a := g) (by omega)
      have eqv := nI_eq (a := t) (b := g) (by omega) (by omega)
      rw [smN_one t1 (fun k hk hne => if_neg (fun q => hi t k (by omega) (by omega) (fun e => hne e.symm) (by rw [t2]; exact neg) (by rw [t2, q.1]))), t3]
      by_cases q : g = t
      · rw [if_neg (fun y => y.2 (eqv.mpr q.symm)), if_neg (fun y => y.2 q)]
      · rw [if_pos ⟨ne, fun z => q (eqv.mp z).symm⟩, if_pos ⟨t2, q⟩])
  rw [A, B, smN_swap]
def dbL (w : Nat → Int32) : Nat → Int32
  | 0 => 0
  | k + 1 => dbL w k + (if w (64 + 5 * k + 1) = 0 then w (64 + 5 * k) else 0)
def wsL (w : Nat → Int32) : Nat → Int32
  | 0 => -1
  | k + 1 => if w (64 + 5 * k + 1) = 0 ∧ (wsL w k = -1 ∨ w (64 + 5 * (wsL w k).toNatClampNeg) < w (64 + 5 * k)) then nI k else wsL w k
theorem wsL_s (w : Nat → Int32) (k : Nat) : wsL w (k + 1) = if w (64 + 5 * k + 1) = 0 ∧ (wsL w k = -1 ∨ w (64 + 5 * (wsL w k).toNatClampNeg) < w (64 + 5 * k)) then nI k else wsL w k := rfl
theorem wsL_c {w : Nat → Int32} : ∀ {k : Nat}, k ≤ 7 → (wsL w k = -1 ∧ ∀ t, t < k → ¬ w (64 + 5 * t + 1) = 0) ∨ ∃ t : Nat, t < k ∧ wsL w k = nI t := by
  intro k
  induction k with
  | zero => intro _; exact Or.inl ⟨rfl, fun t ht => by omega⟩
  | succ k ih =>
    intro hk
    rw [wsL_s]
    by_cases q : w (64 + 5 * k + 1) = 0 ∧ (wsL w k = -1 ∨ w (64 + 5 * (wsL w k).toNatClampNeg) < w (64 + 5 * k))
    · rw [if_pos q]; exact Or.inr ⟨k, by omega, rfl⟩
    · rw [if_neg q]
      rcases ih (by omega) with ⟨a, b⟩ | ⟨t, a, b⟩
      · refine Or.inl ⟨a, fun t ht => ?_⟩
        by_cases e : t = k
        · subst e; exact fun z => q ⟨z, Or.inl a⟩
        · exact b t (by omega)
      · exact Or.inr ⟨t, by omega, b⟩
def gpI (w : Nat → Int32) (s : Nat) : Nat → Nat
  | 0 => s
  | k + 1 => if w (64 + 5 * k + 1) = 0 ∧ w (64 + 5 * k) < w (64 + 5 * gpI w s k) then k else gpI w s k
theorem gpI_s (w : Nat → Int32) (s k : Nat) : gpI w s (k + 1) = if w (64 + 5 * k + 1) = 0 ∧ w (64 + 5 * k) < w (64 + 5 * gpI w s k) then k else gpI w s k := rfl
theorem gpI_lt {w : Nat → Int32} {s : Nat} (hs : s < 7) : ∀ {k : Nat}, k ≤ 7 → gpI w s k < 7 := by
  intro k
  induction k with
  | zero => intro _; exact hs
  | succ k ih => intro hk; rw [gpI_s]; split
                 · omega
                 · exact ih (by omega)
section S71
variable {σ : Mem} {fs : List Fm} {M : List va_E} {Q : List va_E → Option Value → Prop}
theorem lp_cdebt {i N : Nat} {w : Nat → Int32} (hi : i < 34) (hN : N ≤ 7) (e : σ 3 (rr (σ 9 i 0)) 1 = nI N) (h : CS σ i w) : ∀ m k, k + m = N → (Rn mX5_debtOfHeld 4 [.ref (ad 9 i), .int (dbL w k), .int (nI k)] [] fs (enc σ) Q ↔ Rt fs (enc σ) (some (.int (dbL w N))) Q) := by
  intro m
  have c9 : i < cnt 9 := hi
  have c10 : i < cnt 10 := hi
  have c11 : i < cnt 11 := hi
  have c12 : i < cnt 12 := hi
  have c13 : i < cnt 13 := hi
  have c15 : i < cnt 15 := hi
  induction m with
  | zero =>
    intro k hk
    obtain rfl : k = N := by omega
    simp only [aX5_debtOfHeld_4, aX5_debtOfHeld_5, aX5_debtOfHeld_6, aX5_debtOfHeld_9, aX5_debtOfHeld_12, aX5_debtOfHeld_42, aX5_debtOfHeld_43, Nat.zero_le, Nat.reduceLeDiff, Nat.reduceAdd, i1_0, rr_c3, zc9, oc9, zc10, oc10, zc11, oc11, zc12, oc12, zc13, oc13, zc15, oc15, Int32.lt_irrefl, Nat.zero_lt_one, Rt_cons, Rt_void, isB_0, isB_1, isB_b, true_and, and_true, cats_nil, cats_int, cats_ref, and_self, if_true, if_false, ite_self, le_nlt, ite_not, c9, c10, c11, c12, c13, c15, aT_10, aT_11, aT_12, aT_13, aT_15, aN_10, aN_11, aN_12, aN_13, aN_15, rr_lt, e]
  | succ m ih =>
    intro k hk
    have l : nI k < nI N := nI_lt (by omega) (by omega)
    have ck := h.2.2.2.2.2 k (by omega)
    rw [aX5_debtOfHeld_4]
    have ih' := ih (k + 1) (by omega)
    have es : dbL w (k + 1) = dbL w k + (if w (64 + 5 * k + 1) = 0 then w (64 + 5 * k) else 0) := rfl
    rw [es] at ih'
    by_cases q : w (64 + 5 * k + 1) = 0
    · rw [if_pos q] at ih'
      simp only [aX5_debtOfHeld_5, aX5_debtOfHeld_6, aX5_debtOfHeld_9, aX5_debtOfHeld_12, aX5_debtOfHeld_15, aX5_debtOfHeld_16, aX5_debtOfHeld_17, aX5_debtOfHeld_18, aX5_debtOfHeld_21, aX5_debtOfHeld_24, aX5_debtOfHeld_25, aX5_debtOfHeld_28, aX5_debtOfHeld_29, aX5_debtOfHeld_30, aX5_debtOfHeld_33, aX5_debtOfHeld_34, aX5_debtOfHeld_35, aX5_debtOfHeld_36, aX5_debtOfHeld_39, sp_held hi (show k < 7 by omega) (w := w) ck, Nat.zero_le, Nat.reduceLeDiff, Nat.reduceAdd, i1_0, rr_c3, zc9, oc9, zc10, oc10, zc11, oc11, zc12, oc12, zc13, oc13, zc15, oc15, Int32.lt_irrefl, Nat.zero_lt_one, Rt_cons, Rt_void, isB_0, isB_1, isB_b, true_and, and_true, cats_nil, cats_int, cats_ref, and_self, if_true, if_false, ite_self, le_nlt, ite_not, c9, c10, c11, c12, c13, c15, aT_10, aT_11, aT_12, aT_13, aT_15, aN_10, aN_11, aN_12, aN_13, aN_15, rr_lt, e, l, bI_t q, in7 (show k < 7 by omega), cl10 (show k < 10000 by omega), ck.1, nI_1]
      exact ih'
    · rw [if_neg q] at ih'
      simp only [aX5_debtOfHeld_5, aX5_debtOfHeld_6, aX5_debtOfHeld_9, aX5_debtOfHeld_12, aX5_debtOfHeld_15, aX5_debtOfHeld_16, aX5_debtOfHeld_17, aX5_debtOfHeld_18, aX5_debtOfHeld_21, aX5_debtOfHeld_24, aX5_debtOfHeld_25, aX5_debtOfHeld_28, aX5_debtOfHeld_29, aX5_debtOfHeld_30, aX5_debtOfHeld_33, aX5_debtOfHeld_34, aX5_debtOfHeld_35, aX5_debtOfHeld_36, aX5_debtOfHeld_39, sp_held hi (show k < 7 by omega) (w := w) ck, Nat.zero_le, Nat.reduceLeDiff, Nat.reduceAdd, i1_0, rr_c3, zc9, oc9, zc10, oc10, zc11, oc11, zc12, oc12, zc13, oc13, zc15, oc15, Int32.lt_irrefl, Nat.zero_lt_one, Rt_cons, Rt_void, isB_0, isB_1, isB_b, true_and, and_true, cats_nil, cats_int, cats_ref, and_self, if_true, if_false, ite_self, le_nlt, ite_not, c9, c10, c11, c12, c13, c15, aT_10, aT_11, aT_12, aT_13, aT_15, aN_10, aN_11, aN_12, aN_13, aN_15, rr_lt, e, l, bI_f q, nI_1]
      exact ih'
theorem lp_mdebt {N : Nat} (hN : N ≤ 7) (e : σ 31 0 1 = nI N) : ∀ m k, k + m = N → (Rn mX8_debts 4 [.ref (ad 29 0), .int (dbL (σ 43 0) k), .int (nI k)] [] fs (enc σ) Q ↔ Rt fs (enc σ) (some (.int (dbL (σ 43 0) N))) Q) := by
  intro m
  induction m with
  | zero =>
    intro k hk
    obtain rfl : k = N := by omega
    simp only [aX8_debts_4, aX8_debts_5, aX8_debts_6, aX8_debts_9, aX8_debts_10, aX8_debts_11, aX8_debts_40, aX8_debts_41, Nat.zero_le, Nat.reduceLeDiff, Nat.reduceAdd, i1_0, rr_c3, zc9, oc9, zc10, oc10, zc11, oc11, zc12, oc12, zc13, oc13, zc15, oc15, Int32.lt_irrefl, Nat.zero_lt_one, Rt_cons, Rt_void, isB_0, isB_1, isB_b, true_and, and_true, cats_nil, cats_int, cats_ref, and_self, if_true, if_false, ite_self, le_nlt, ite_not, aT_31, aN_31, cnt_31, v3.2.1, c1, e]
  | succ m ih =>
    intro k hk
    have l : nI k < nI N := nI_lt (by omega) (by omega)
    rw [aX8_debts_4]
    have ih' := ih (k + 1) (by omega)
    have es : dbL (σ 43 0) (k + 1) = dbL (σ 43 0) k + (if σ 43 0 (64 + 5 * k + 1) = 0 then σ 43 0 (64 + 5 * k) else 0) := rfl
    rw [es] at ih'
    by_cases q : σ 43 0 (64 + 5 * k + 1) = 0
    · rw [if_pos q] at ih'
      simp only [aX8_debts_5, aX8_debts_6, aX8_debts_9, aX8_debts_10, aX8_debts_11, aX8_debts_14, aX8_debts_15, aX8_debts_16, aX8_debts_17, aX8_debts_20, aX8_debts_23, aX8_debts_24, aX8_debts_25, aX8_debts_28, aX8_debts_31, aX8_debts_32, aX8_debts_33, aX8_debts_34, aX8_debts_37, sp_mHeld (show k < 7 by omega), sp_debtOf (show k < 7 by omega), Nat.zero_le, Nat.reduceLeDiff, Nat.reduceAdd, i1_0, rr_c3, zc9, oc9, zc10, oc10, zc11, oc11, zc12, oc12, zc13, oc13, zc15, oc15, Int32.lt_irrefl, Nat.zero_lt_one, Rt_cons, Rt_void, isB_0, isB_1, isB_b, true_and, and_true, cats_nil, cats_int, cats_ref, and_self, if_true, if_false, ite_self, le_nlt, ite_not, aT_31, aN_31, cnt_31, v3.2.1, c1, e, l, bI_t q, nI_1]
      exact ih'
    · rw [if_neg q] at ih'
      simp only [aX8_debts_5, aX8_debts_6, aX8_debts_9, aX8_debts_10, aX8_debts_11, aX8_debts_14, aX8_debts_15, aX8_debts_16, aX8_debts_17, aX8_debts_20, aX8_debts_23, aX8_debts_24, aX8_debts_25, aX8_debts_28, aX8_debts_31, aX8_debts_32, aX8_debts_33, aX8_debts_34, aX8_debts_37, sp_mHeld (show k < 7 by omega), sp_debtOf (show k < 7 by omega), Nat.zero_le, Nat.reduceLeDiff, Nat.reduceAdd, i1_0, rr_c3, zc9, oc9, zc10, oc10, zc11, oc11, zc12, oc12, zc13, oc13, zc15, oc15, Int32.lt_irrefl, Nat.zero_lt_one, Rt_cons, Rt_void, isB_0, isB_1, isB_b, true_and, and_true, cats_nil, cats_int, cats_ref, and_self, if_true, if_false, ite_self, le_nlt, ite_not, aT_31, aN_31, cnt_31, v3.2.1, c1, e, l, bI_f q, nI_1]
      exact ih'
theorem lp_castray {i N : Nat} {w : Nat → Int32} (hi : i < 34) (hN : N ≤ 7) (e : σ 3 (rr (σ 9 i 0)) 1 = nI N) (h : CS σ i w) : ∀ m k, k + m = N → (Rn mX5_astray 4 [.ref (ad 9 i), .int (nI (smN (asH w) k)), .int (nI k)] [] fs (enc σ) Q ↔ Rt fs (enc σ) (some (.int (nI (smN (asH w) N)))) Q) := by
  intro m
  have c9 : i < cnt 9 := hi
  have c10 : i < cnt 10 := hi
  have c11 : i < cnt 11 := hi
  have c12 : i < cnt 12 := hi
  have c13 : i < cnt 13 := hi
  have c15 : i < cnt 15 := hi
  induction m with
  | zero =>
    intro k hk
    obtain rfl : k = N := by omega
    simp only [aX5_astray_4, aX5_astray_5, aX5_astray_6, aX5_astray_9, aX5_astray_12, aX5_astray_44, aX5_astray_45, Nat.zero_le, Nat.reduceLeDiff, Nat.reduceAdd, i1_0, rr_c3, zc9, oc9, zc10, oc10, zc11, oc11, zc12, oc12, zc13, oc13, zc15, oc15, Int32.lt_irrefl, Nat.zero_lt_one, Rt_cons, Rt_void, isB_0, isB_1, isB_b, true_and, and_true, cats_nil, cats_int, cats_ref, and_self, if_true, if_false, ite_self, le_nlt, ite_not, c9, c10, c11, c12, c13, c15, aT_10, aT_11, aT_12, aT_13, aT_15, aN_10, aN_11, aN_12, aN_13, aN_15, rr_lt, e]
  | succ m ih =>
    intro k hk
    have l : nI k < nI N := nI_lt (by omega) (by omega)
    have ck := h.2.2.2.2.2 k (by omega)
    rw [aX5_astray_4]
    have ih' := ih (k + 1) (by omega)
    have es : smN (asH w) (k + 1) = smN (asH w) k + (if ¬ w (64 + 5 * k + 2) = -1 ∧ ¬ w (64 + 5 * k + 2) = nI k then 1 else 0) := rfl
    rw [es] at ih'
    by_cases q : w (64 + 5 * k + 2) = -1
    · rw [if_neg (fun z => z.1 q)] at ih'
      simp only [aX5_astray_5, aX5_astray_6, aX5_astray_9, aX5_astray_12, aX5_astray_15, aX5_astray_16, aX5_astray_19, aX5_astray_20, aX5_astray_21, aX5_astray_22, aX5_astray_25, aX5_astray_26, aX5_astray_29, aX5_astray_30, aX5_astray_31, aX5_astray_32, aX5_astray_35, aX5_astray_38, aX5_astray_41, Nat.zero_le, Nat.reduceLeDiff, Nat.reduceAdd, i1_0, rr_c3, zc9, oc9, zc10, oc10, zc11, oc11, zc12, oc12, zc13, oc13, zc15, oc15, Int32.lt_irrefl, Nat.zero_lt_one, Rt_cons, Rt_void, isB_0, isB_1, isB_b, true_and, and_true, cats_nil, cats_int, cats_ref, and_self, if_true, if_false, ite_self, le_nlt, ite_not, c9, c10, c11, c12, c13, c15, aT_10, aT_11, aT_12, aT_13, aT_15, aN_10, aN_11, aN_12, aN_13, aN_15, rr_lt, e, l, in7 (show k < 7 by omega), cl10 (show k < 10000 by omega), ck.2.1, q, nI_1]
      exact ih'
    · by_cases q2 : w (64 + 5 * k + 2) = nI k
      · have q' : ¬ nI k = -1 := by rw [← q2]; exact q
        rw [if_neg (fun z => z.2 q2)] at ih'
        simp only [aX5_astray_5, aX5_astray_6, aX5_astray_9, aX5_astray_12, aX5_astray_15, aX5_astray_16, aX5_astray_19, aX5_astray_20, aX5_astray_21, aX5_astray_22, aX5_astray_25, aX5_astray_26, aX5_astray_29, aX5_astray_30, aX5_astray_31, aX5_astray_32, aX5_astray_35, aX5_astray_38, aX5_astray_41, Nat.zero_le, Nat.reduceLeDiff, Nat.reduceAdd, i1_0, rr_c3, zc9, oc9, zc10, oc10, zc11, oc11, zc12, oc12, zc13, oc13, zc15, oc15, Int32.lt_irrefl, Nat.zero_lt_one, Rt_cons, Rt_void, isB_0, isB_1, isB_b, true_and, and_true, cats_nil, cats_int, cats_ref, and_self, if_true, if_false, ite_self, le_nlt, ite_not, c9, c10, c11, c12, c13, c15, aT_10, aT_11, aT_12, aT_13, aT_15, aN_10, aN_11, aN_12, aN_13, aN_15, rr_lt, e, l, in7 (show k < 7 by omega), cl10 (show k < 10000 by omega), ck.2.1, q2, q', nI_1]
        exact ih'
      · rw [if_pos ⟨q, q2⟩] at ih'
        simp only [aX5_astray_5, aX5_astray_6, aX5_astray_9, aX5_astray_12, aX5_astray_15, aX5_astray_16, aX5_astray_19, aX5_astray_20, aX5_astray_21, aX5_astray_22, aX5_astray_25, aX5_astray_26, aX5_astray_29, aX5_astray_30, aX5_astray_31, aX5_astray_32, aX5_astray_35, aX5_astray_38, aX5_astray_41, Nat.zero_le, Nat.reduceLeDiff, Nat.reduceAdd, i1_0, rr_c3, zc9, oc9, zc10, oc10, zc11, oc11, zc12, oc12, zc13, oc13, zc15, oc15, Int32.lt_irrefl, Nat.zero_lt_one, Rt_cons, Rt_void, isB_0, isB_1, isB_b, true_and, and_true, cats_nil, cats_int, cats_ref, and_self, if_true, if_false, ite_self, le_nlt, ite_not, c9, c10, c11, c12, c13, c15, aT_10, aT_11, aT_12, aT_13, aT_15, aN_10, aN_11, aN_12, aN_13, aN_15, rr_lt, e, l, in7 (show k < 7 by omega), cl10 (show k < 10000 by omega), ck.2.1, q, q2, nI_1]
        exact ih'
theorem lp_mastray {N G : Nat} (hN : N ≤ 7) (hG : G ≤ 7) (e : σ 31 0 1 = nI N) (e2 : σ 31 0 2 = nI G) : ∀ m k, k + m = G → (Rn mX8_astray 4 [.ref (ad 29 0), .int (nI (smN (asG N (σ 43 0)) k)), .int (nI k)] [] fs (enc σ) Q ↔ Rt fs (enc σ) (some (.int (nI (smN (asG N (σ 43 0)) G)))) Q) := by
  intro m
  induction m with
  | zero =>
    intro k hk
    obtain rfl : k = G := by omega
    simp only [aX8_astray_4, aX8_astray_5, aX8_astray_6, aX8_astray_9, aX8_astray_10, aX8_astray_11, aX8_astray_46, aX8_astray_47, Nat.zero_le, Nat.reduceLeDiff, Nat.reduceAdd, i1_0, rr_c3, zc9, oc9, zc10, oc10, zc11, oc11, zc12, oc12, zc13, oc13, zc15, oc15, Int32.lt_irrefl, Nat.zero_lt_one, Rt_cons, Rt_void, isB_0, isB_1, isB_b, true_and, and_true, cats_nil, cats_int, cats_ref, and_self, if_true, if_false, ite_self, le_nlt, ite_not, aT_31, aN_31, cnt_31, v3.2.2, c2, e2]
  | succ m ih =>
    intro k hk
    have l : nI k < nI G := nI_lt (by omega) (by omega)
    rw [aX8_astray_4]
    have ih' := ih (k + 1) (by omega)
    have es : smN (asG N (σ 43 0)) (k + 1) = smN (asG N (σ 43 0)) k + (if ¬ hoW N (σ 43 0) (nI k) = -1 ∧ ¬ hoW N (σ 43 0) (nI k) = nI k then 1 else 0) := rfl
    rw [es] at ih'
    by_cases q : hoW N (σ 43 0) (nI k) = -1
    · rw [if_neg (fun z => z.1 q)] at ih'
      simp only [aX8_astray_5, aX8_astray_6, aX8_astray_9, aX8_astray_10, aX8_astray_11, aX8_astray_14, aX8_astray_15, aX8_astray_16, aX8_astray_17, aX8_astray_20, aX8_astray_21, aX8_astray_24, aX8_astray_25, aX8_astray_26, aX8_astray_29, aX8_astray_30, aX8_astray_33, aX8_astray_34, aX8_astray_37, aX8_astray_38, aX8_astray_39, aX8_astray_40, aX8_astray_43, sp_holds hN e, Nat.zero_le, Nat.reduceLeDiff, Nat.reduceAdd, i1_0, rr_c3, zc9, oc9, zc10, oc10, zc11, oc11, zc12, oc12, zc13, oc13, zc15, oc15, Int32.lt_irrefl, Nat.zero_lt_one, Rt_cons, Rt_void, isB_0, isB_1, isB_b, true_and, and_true, cats_nil, cats_int, cats_ref, and_self, if_true, if_false, ite_self, le_nlt, ite_not, aT_31, aN_31, cnt_31, v3.2.2, c2, e2, l, q, Int32.add_zero, nI_1]
      exact ih'
    · by_cases q2 : hoW N (σ 43 0) (nI k) = nI k
      · have q' : ¬ nI k = -1 := by rw [← q2]; exact q
        rw [if_neg (fun z => z.2 q2)] at ih'
        simp only [aX8_astray_5, aX8_astray_6, aX8_astray_9, aX8_astray_10, aX8_astray_11, aX8_astray_14, aX8_astray_15, aX8_astray_16, aX8_astray_17, aX8_astray_20, aX8_astray_21, aX8_astray_24, aX8_astray_25, aX8_astray_26, aX8_astray_29, aX8_astray_30, aX8_astray_33, aX8_astray_34, aX8_astray_37, aX8_astray_38, aX8_astray_39, aX8_astray_40, aX8_astray_43, sp_holds hN e, Nat.zero_le, Nat.reduceLeDiff, Nat.reduceAdd, i1_0, rr_c3, zc9, oc9, zc10, oc10, zc11, oc11, zc12, oc12, zc13, oc13, zc15, oc15, Int32.lt_irrefl, Nat.zero_lt_one, Rt_cons, Rt_void, isB_0, isB_1, isB_b, true_and, and_true, cats_nil, cats_int, cats_ref, and_self, if_true, if_false, ite_self, le_nlt, ite_not, aT_31, aN_31, cnt_31, v3.2.2, c2, e2, l, q2, q', not_true_eq_false, Int32.add_zero, nI_1]
        exact ih'
      · rw [if_pos ⟨q, q2⟩] at ih'
        simp only [aX8_astray_5, aX8_astray_6, aX8_astray_9, aX8_astray_10, aX8_astray_11, aX8_astray_14, aX8_astray_15, aX8_astray_16, aX8_astray_17, aX8_astray_20, aX8_astray_21, aX8_astray_24, aX8_astray_25, aX8_astray_26, aX8_astray_29, aX8_astray_30, aX8_astray_33, aX8_astray_34, aX8_astray_37, aX8_astray_38, aX8_astray_39, aX8_astray_40, aX8_astray_43, sp_holds hN e, Nat.zero_le, Nat.reduceLeDiff, Nat.reduceAdd, i1_0, rr_c3, zc9, oc9, zc10, oc10, zc11, oc11, zc12, oc12, zc13, oc13, zc15, oc15, Int32.lt_irrefl, Nat.zero_lt_one, Rt_cons, Rt_void, isB_0, isB_1, isB_b, true_and, and_true, cats_nil, cats_int, cats_ref, and_self, if_true, if_false, ite_self, le_nlt, ite_not, aT_31, aN_31, cnt_31, v3.2.2, c2, e2, l, q, q2, not_false_eq_true, nI_1]
        exact ih'
theorem lp_cworst {i N : Nat} {w : Nat → Int32} (hi : i < 34) (hN : N ≤ 7) (e : σ 3 (rr (σ 9 i 0)) 1 = nI N) (h : CS σ i w) : ∀ m k, k + m = N → (Rn mX5_worst 4 [.ref (ad 9 i), .int (wsL w k), .int (nI k)] [] fs (enc σ) Q ↔ Rt fs (enc σ) (some (.int (wsL w N))) Q) := by
  intro m
  have c9 : i < cnt 9 := hi
  have c10 : i < cnt 10 := hi
  have c11 : i < cnt 11 := hi
  have c12 : i < cnt 12 := hi
  have c13 : i < cnt 13 := hi
  have c15 : i < cnt 15 := hi
  induction m with
  | zero =>
    intro k hk
    obtain rfl : k = N := by omega
    simp only [aX5_worst_4, aX5_worst_5, aX5_worst_6, aX5_worst_9, aX5_worst_12, aX5_worst_51, aX5_worst_52, Nat.zero_le, Nat.reduceLeDiff, Nat.reduceAdd, i1_0, rr_c3, zc9, oc9, zc10, oc10, zc11, oc11, zc12, oc12, zc13, oc13, zc15, oc15, Int32.lt_irrefl, Nat.zero_lt_one, Rt_cons, Rt_void, isB_0, isB_1, isB_b, true_and, and_true, cats_nil, cats_int, cats_ref, and_self, if_true, if_false, ite_self, le_nlt, ite_not, c9, c10, c11, c12, c13, c15, aT_10, aT_11, aT_12, aT_13, aT_15, aN_10, aN_11, aN_12, aN_13, aN_15, rr_lt, e]
  | succ m ih =>
    intro k hk
    have l : nI k < nI N := nI_lt (by omega) (by omega)
    have ck := h.2.2.2.2.2 k (by omega)
    rw [aX5_worst_4]
    have ih' := ih (k + 1) (by omega)
    rw [wsL_s] at ih'
    by_cases q : w (64 + 5 * k + 1) = 0
    · rcases wsL_c (w := w) (k := k) (by omega) with ⟨z, _⟩ | ⟨t, t1, t2⟩
      · rw [if_pos ⟨q, Or.inl z⟩] at ih'
        simp only [aX5_worst_5, aX5_worst_6, aX5_worst_9, aX5_worst_12, aX5_worst_15, aX5_worst_16, aX5_worst_17, aX5_worst_20, aX5_worst_23, aX5_worst_24, aX5_worst_25, aX5_worst_28, aX5_worst_29, aX5_worst_32, aX5_worst_33, aX5_worst_34, aX5_worst_35, aX5_worst_38, aX5_worst_39, aX5_worst_40, aX5_worst_43, aX5_worst_44, aX5_worst_45, aX5_worst_48, sp_held hi (show k < 7 by omega) (w := w) ck, Nat.zero_le, Nat.reduceLeDiff, Nat.reduceAdd, i1_0, rr_c3, zc9, oc9, zc10, oc10, zc11, oc11, zc12, oc12, zc13, oc13, zc15, oc15, Int32.lt_irrefl, Nat.zero_lt_one, Rt_cons, Rt_void, isB_0, isB_1, isB_b, true_and, and_true, cats_nil, cats_int, cats_ref, and_self, if_true, if_false, ite_self, le_nlt, ite_not, c9, c10, c11, c12, c13, c15, aT_10, aT_11, aT_12, aT_13, aT_15, aN_10, aN_11, aN_12, aN_13, aN_15, rr_lt, e, l, bI_t q, z, nI_1]
        exact ih'
      · have ne := nI_ne1 (a := t) (by omega)
        have ct := h.2.2.2.2.2 t (by omega)
        have et : (nI t).toNatClampNeg = t := nI_clamp (by omega)
        rw [t2, et] at ih'
        rw [t2]
        by_cases q2 : w (64 + 5 * t) < w (64 + 5 * k)
        · rw [if_pos ⟨q, Or.inr q2⟩] at ih'
          simp only [aX5_worst_5, aX5_worst_6, aX5_worst_9, aX5_worst_12, aX5_worst_15, aX5_worst_16, aX5_worst_17, aX5_worst_20, aX5_worst_23, aX5_worst_24, aX5_worst_25, aX5_worst_28, aX5_worst_29, aX5_worst_32, aX5_worst_33, aX5_worst_34, aX5_worst_35, aX5_worst_38, aX5_worst_39, aX5_worst_40, aX5_worst_43, aX5_worst_44, aX5_worst_45, aX5_worst_48, sp_held hi (show k < 7 by omega) (w := w) ck, Nat.zero_le, Nat.reduceLeDiff, Nat.reduceAdd, i1_0, rr_c3, zc9, oc9, zc10, oc10, zc11, oc11, zc12, oc12, zc13, oc13, zc15, oc15, Int32.lt_irrefl, Nat.zero_lt_one, Rt_cons, Rt_void, isB_0, isB_1, isB_b, true_and, and_true, cats_nil, cats_int, cats_ref, and_self, if_true, if_false, ite_self, le_nlt, ite_not, c9, c10, c11, c12, c13, c15, aT_10, aT_11, aT_12, aT_13, aT_15, aN_10, aN_11, aN_12, aN_13, aN_15, rr_lt, e, l, bI_t q, ne, in7 (show k < 7 by omega), cl10 (show k < 10000 by omega), in7 (show t < 7 by omega), cl10 (show t < 10000 by omega), ck.1, ct.1, q2, not_true_eq_false, nI_1]
          exact ih'
        · rw [if_neg (fun z => z.2.elim ne q2)] at ih'
          simp only [aX5_worst_5, aX5_worst_6, aX5_worst_9, aX5_worst_12, aX5_worst_15, aX5_worst_16, aX5_worst_17, aX5_worst_20, aX5_worst_23, aX5_worst_24, aX5_worst_25, aX5_worst_28, aX5_worst_29, aX5_worst_32, aX5_worst_33, aX5_worst_34, aX5_worst_35, aX5_worst_38, aX5_worst_39, aX5_worst_40, aX5_worst_43, aX5_worst_44, aX5_worst_45, aX5_worst_48, sp_held hi (show k < 7 by omega) (w := w) ck, Nat.zero_le, Nat.reduceLeDiff, Nat.reduceAdd, i1_0, rr_c3, zc9, oc9, zc10, oc10, zc11, oc11, zc12, oc12, zc13, oc13, zc15, oc15, Int32.lt_irrefl, Nat.zero_lt_one, Rt_cons, Rt_void, isB_0, isB_1, isB_b, true_and, and_true, cats_nil, cats_int, cats_ref, and_self, if_true, if_false, ite_self, le_nlt, ite_not, c9, c10, c11, c12, c13, c15, aT_10, aT_11, aT_12, aT_13, aT_15, aN_10, aN_11, aN_12, aN_13, aN_15, rr_lt, e, l, bI_t q, ne, in7 (show k < 7 by omega), cl10 (show k < 10000 by omega), in7 (show t < 7 by omega), cl10 (show t < 10000 by omega), ck.1, ct.1, q2, not_false_eq_true, nI_1]
          exact ih'
    · rw [if_neg (fun z => q z.1)] at ih'
      simp only [aX5_worst_5, aX5_worst_6, aX5_worst_9, aX5_worst_12, aX5_worst_15, aX5_worst_16, aX5_worst_17, aX5_worst_20, aX5_worst_23, aX5_worst_24, aX5_worst_25, aX5_worst_28, aX5_worst_29, aX5_worst_32, aX5_worst_33, aX5_worst_34, aX5_worst_35, aX5_worst_38, aX5_worst_39, aX5_worst_40, aX5_worst_43, aX5_worst_44, aX5_worst_45, aX5_worst_48, sp_held hi (show k < 7 by omega) (w := w) ck, Nat.zero_le, Nat.reduceLeDiff, Nat.reduceAdd, i1_0, rr_c3, zc9, oc9, zc10, oc10, zc11, oc11, zc12, oc12, zc13, oc13, zc15, oc15, Int32.lt_irrefl, Nat.zero_lt_one, Rt_cons, Rt_void, isB_0, isB_1, isB_b, true_and, and_true, cats_nil, cats_int, cats_ref, and_self, if_true, if_false, ite_self, le_nlt, ite_not, c9, c10, c11, c12, c13, c15, aT_10, aT_11, aT_12, aT_13, aT_15, aN_10, aN_11, aN_12, aN_13, aN_15, rr_lt, e, l, bI_f q, nI_1]
      exact ih'
theorem lp_mworst {N : Nat} (hN : N ≤ 7) (e : σ 31 0 1 = nI N) : ∀ m k, k + m = N → (Rn mX8_worst 4 [.ref (ad 29 0), .int (wsL (σ 43 0) k), .int (nI k)] [] fs (enc σ) Q ↔ Rt fs (enc σ) (some (.int (wsL (σ 43 0) N))) Q) := by
  intro m
  induction m with
  | zero =>
    intro k hk
    obtain rfl : k = N := by omega
    simp only [aX8_worst_4, aX8_worst_5, aX8_worst_6, aX8_worst_9, aX8_worst_10, aX8_worst_11, aX8_worst_52, aX8_worst_53, Nat.zero_le, Nat.reduceLeDiff, Nat.reduceAdd, i1_0, rr_c3, zc9, oc9, zc10, oc10, zc11, oc11, zc12, oc12, zc13, oc13, zc15, oc15, Int32.lt_irrefl, Nat.zero_lt_one, Rt_cons, Rt_void, isB_0, isB_1, isB_b, true_and, and_true, cats_nil, cats_int, cats_ref, and_self, if_true, if_false, ite_self, le_nlt, ite_not, aT_31, aN_31, cnt_31, v3.2.1, c1, e]
  | succ m ih =>
    intro k hk
    have l : nI k < nI N := nI_lt (by omega) (by omega)
    rw [aX8_worst_4]
    have ih' := ih (k + 1) (by omega)
    rw [wsL_s] at ih'
    by_cases q : σ 43 0 (64 + 5 * k + 1) = 0
    · rcases wsL_c (w := σ 43 0) (k := k) (by omega) with ⟨z, _⟩ | ⟨t, t1, t2⟩
      · rw [if_pos ⟨q, Or.inl z⟩] at ih'
        simp only [aX8_worst_5, aX8_worst_6, aX8_worst_9, aX8_worst_10, aX8_worst_11, aX8_worst_14, aX8_worst_15, aX8_worst_16, aX8_worst_19, aX8_worst_22, aX8_worst_23, aX8_worst_24, aX8_worst_27, aX8_worst_28, aX8_worst_29, aX8_worst_32, aX8_worst_33, aX8_worst_34, aX8_worst_37, aX8_worst_40, aX8_worst_41, aX8_worst_44, aX8_worst_45, aX8_worst_46, aX8_worst_49, sp_mHeld (show k < 7 by omega), Nat.zero_le, Nat.reduceLeDiff, Nat.reduceAdd, i1_0, rr_c3, zc9, oc9, zc10, oc10, zc11, oc11, zc12, oc12, zc13, oc13, zc15, oc15, Int32.lt_irrefl, Nat.zero_lt_one, Rt_cons, Rt_void, isB_0, isB_1, isB_b, true_and, and_true, cats_nil, cats_int, cats_ref, and_self, if_true, if_false, ite_self, le_nlt, ite_not, aT_31, aN_31, cnt_31, v3.2.1, c1, e, l, bI_t q, z, nI_1]
        exact ih'
      · have ne := nI_ne1 (a := t) (by omega)
        have et : (nI t).toNatClampNeg = t := nI_clamp (by omega)
        rw [t2, et] at ih'
        rw [t2]
        by_cases q2 : σ 43 0 (64 + 5 * t) < σ 43 0 (64 + 5 * k)
        · rw [if_pos ⟨q, Or.inr q2⟩] at ih'
          simp only [aX8_worst_5, aX8_worst_6, aX8_worst_9, aX8_worst_10, aX8_worst_11, aX8_worst_14, aX8_worst_15, aX8_worst_16, aX8_worst_19, aX8_worst_22, aX8_worst_23, aX8_worst_24, aX8_worst_27, aX8_worst_28, aX8_worst_29, aX8_worst_32, aX8_worst_33, aX8_worst_34, aX8_worst_37, aX8_worst_40, aX8_worst_41, aX8_worst_44, aX8_worst_45, aX8_worst_46, aX8_worst_49, sp_mHeld (show k < 7 by omega), sp_debtOf (show k < 7 by omega), sp_debtOf (show t < 7 by omega), Nat.zero_le, Nat.reduceLeDiff, Nat.reduceAdd, i1_0, rr_c3, zc9, oc9, zc10, oc10, zc11, oc11, zc12, oc12, zc13, oc13, zc15, oc15, Int32.lt_irrefl, Nat.zero_lt_one, Rt_cons, Rt_void, isB_0, isB_1, isB_b, true_and, and_true, cats_nil, cats_int, cats_ref, and_self, if_true, if_false, ite_self, le_nlt, ite_not, aT_31, aN_31, cnt_31, v3.2.1, c1, e, l, bI_t q, ne, q2, not_true_eq_false, nI_1]
          exact ih'
        · rw [if_neg (fun z => z.2.elim ne q2)] at ih'
          simp only [aX8_worst_5, aX8_worst_6, aX8_worst_9, aX8_worst_10, aX8_worst_11, aX8_worst_14, aX8_worst_15, aX8_worst_16, aX8_worst_19, aX8_worst_22, aX8_worst_23, aX8_worst_24, aX8_worst_27, aX8_worst_28, aX8_worst_29, aX8_worst_32, aX8_worst_33, aX8_worst_34, aX8_worst_37, aX8_worst_40, aX8_worst_41, aX8_worst_44, aX8_worst_45, aX8_worst_46, aX8_worst_49, sp_mHeld (show k < 7 by omega), sp_debtOf (show k < 7 by omega), sp_debtOf (show t < 7 by omega), Nat.zero_le, Nat.reduceLeDiff, Nat.reduceAdd, i1_0, rr_c3, zc9, oc9, zc10, oc10, zc11, oc11, zc12, oc12, zc13, oc13, zc15, oc15, Int32.lt_irrefl, Nat.zero_lt_one, Rt_cons, Rt_void, isB_0, isB_1, isB_b, true_and, and_true, cats_nil, cats_int, cats_ref, and_self, if_true, if_false, ite_self, le_nlt, ite_not, aT_31, aN_31, cnt_31, v3.2.1, c1, e, l, bI_t q, ne, q2, not_false_eq_true, nI_1]
          exact ih'
    · rw [if_neg (fun z => q z.1)] at ih'
      simp only [aX8_worst_5, aX8_worst_6, aX8_worst_9, aX8_worst_10, aX8_worst_11, aX8_worst_14, aX8_worst_15, aX8_worst_16, aX8_worst_19, aX8_worst_22, aX8_worst_23, aX8_worst_24, aX8_worst_27, aX8_worst_28, aX8_worst_29, aX8_worst_32, aX8_worst_33, aX8_worst_34, aX8_worst_37, aX8_worst_40, aX8_worst_41, aX8_worst_44, aX8_worst_45, aX8_worst_46, aX8_worst_49, sp_mHeld (show k < 7 by omega), Nat.zero_le, Nat.reduceLeDiff, Nat.reduceAdd, i1_0, rr_c3, zc9, oc9, zc10, oc10, zc11, oc11, zc12, oc12, zc13, oc13, zc15, oc15, Int32.lt_irrefl, Nat.zero_lt_one, Rt_cons, Rt_void, isB_0, isB_1, isB_b, true_and, and_true, cats_nil, cats_int, cats_ref, and_self, if_true, if_false, ite_self, le_nlt, ite_not, aT_31, aN_31, cnt_31, v3.2.1, c1, e, l, bI_f q, nI_1]
      exact ih'
theorem sp_cworst {i N : Nat} {w : Nat → Int32} (hi : i < 34) (hN : N ≤ 7) (e : σ 3 (rr (σ 9 i 0)) 1 = nI N) (h : CS σ i w) : Rn mX5_worst 0 [.ref (ad 9 i), .null, .null] [] fs (enc σ) Q ↔ Rt fs (enc σ) (some (.int (wsL w N))) Q := by
  have := lp_cworst (fs := fs) (Q := Q) hi hN e h N 0 (by omega)
  have e1 : nI 0 = 0 := rfl
  have e0 : wsL w 0 = -1 := rfl
  rw [e1, e0] at this
  simp only [aX5_worst_0, aX5_worst_1, aX5_worst_2, aX5_worst_3, Nat.zero_le, Nat.reduceLeDiff, Nat.reduceAdd, i1_0, rr_c3, zc9, oc9, zc10, oc10, zc11, oc11, zc12, oc12, zc13, oc13, zc15, oc15, Int32.lt_irrefl, Nat.zero_lt_one, Rt_cons, Rt_void, isB_0, isB_1, isB_b, true_and, and_true, cats_nil, cats_int, cats_ref, and_self, if_true, if_false, ite_self, le_nlt, ite_not]
  exact this
theorem sp_mworst {N : Nat} (hN : N ≤ 7) (e : σ 31 0 1 = nI N) : Rn mX8_worst 0 [.ref (ad 29 0), .null, .null] [] fs (enc σ) Q ↔ Rt fs (enc σ) (some (.int (wsL (σ 43 0) N))) Q := by
  have := lp_mworst (fs := fs) (Q := Q) hN e N 0 (by omega)
  have e1 : nI 0 = 0 := rfl
  have e0 : wsL (σ 43 0) 0 = -1 := rfl
  rw [e1, e0] at this
  simp only [aX8_worst_0, aX8_worst_1, aX8_worst_2, aX8_worst_3, Nat.zero_le, Nat.reduceLeDiff, Nat.reduceAdd, i1_0, rr_c3, zc9, oc9, zc10, oc10, zc11, oc11, zc12, oc12, zc13, oc13, zc15, oc15, Int32.lt_irrefl, Nat.zero_lt_one, Rt_cons, Rt_void, isB_0, isB_1, isB_b, true_and, and_true, cats_nil, cats_int, cats_ref, and_self, if_true, if_false, ite_self, le_nlt, ite_not]
  exact this
theorem lp_cgap {i N s : Nat} {w : Nat → Int32} (hi : i < 34) (hN : N ≤ 7) (hs : s < 7) (e : σ 3 (rr (σ 9 i 0)) 1 = nI N) (h : CS σ i w) : ∀ m k, k + m = N → (Rn mX5_gap 21 [.ref (ad 9 i), .int (nI s), .int (w (64 + 5 * gpI w s k)), .int (nI k)] [] fs (enc σ) Q ↔ Rt fs (enc σ) (some (.int (w (64 + 5 * s) - w (64 + 5 * gpI w s N)))) Q) := by
  intro m
  have c9 : i < cnt 9 := hi
  have c10 : i < cnt 10 := hi
  have c11 : i < cnt 11 := hi
  have c12 : i < cnt 12 := hi
  have c13 : i < cnt 13 := hi
  have c15 : i < cnt 15 := hi
  have ct := h.2.2.2.2.2 s hs
  induction m with
  | zero =>
    intro k hk
    obtain rfl : k = N := by omega
    simp only [aX5_gap_21, aX5_gap_22, aX5_gap_23, aX5_gap_26, aX5_gap_29, aX5_gap_61, aX5_gap_62, aX5_gap_65, aX5_gap_66, aX5_gap_67, aX5_gap_68, aX5_gap_69, Nat.zero_le, Nat.reduceLeDiff, Nat.reduceAdd, i1_0, rr_c3, zc9, oc9, zc10, oc10, zc11, oc11, zc12, oc12, zc13, oc13, zc15, oc15, Int32.lt_irrefl, Nat.zero_lt_one, Rt_cons, Rt_void, isB_0, isB_1, isB_b, true_and, and_true, cats_nil, cats_int, cats_ref, and_self, if_true, if_false, ite_self, le_nlt, ite_not, c9, c10, c11, c12, c13, c15, aT_10, aT_11, aT_12, aT_13, aT_15, aN_10, aN_11, aN_12, aN_13, aN_15, rr_lt, e, in7 hs, cl10 (show s < 10000 by omega), ct.1]
  | succ m ih =>
    intro k hk
    have l : nI k < nI N := nI_lt (by omega) (by omega)
    have ck := h.2.2.2.2.2 k (by omega)
    rw [aX5_gap_21]
    have ih' := ih (k + 1) (by omega)
    rw [gpI_s] at ih'
    by_cases q : w (64 + 5 * k + 1) = 0
    · by_cases q2 : w (64 + 5 * k) < w (64 + 5 * gpI w s k)
      · rw [if_pos ⟨q, q2⟩] at ih'
        simp only [aX5_gap_22, aX5_gap_23, aX5_gap_26, aX5_gap_29, aX5_gap_32, aX5_gap_33, aX5_gap_34, aX5_gap_37, aX5_gap_40, aX5_gap_41, aX5_gap_42, aX5_gap_45, aX5_gap_46, aX5_gap_47, aX5_gap_50, aX5_gap_53, aX5_gap_54, aX5_gap_55, aX5_gap_58, sp_held hi (show k < 7 by omega) (w := w) ck, Nat.zero_le, Nat.reduceLeDiff, Nat.reduceAdd, i1_0, rr_c3, zc9, oc9, zc10, oc10, zc11, oc11, zc12, oc12, zc13, oc13, zc15, oc15, Int32.lt_irrefl, Nat.zero_lt_one, Rt_cons, Rt_void, isB_0, isB_1, isB_b, true_and, and_true, cats_nil, cats_int, cats_ref, and_self, if_true, if_false, ite_self, le_nlt, ite_not, c9, c10, c11, c12, c13, c15, aT_10, aT_11, aT_12, aT_13, aT_15, aN_10, aN_11, aN_12, aN_13, aN_15, rr_lt, e, l, bI_t q, in7 (show k < 7 by omega), cl10 (show k < 10000 by omega), ck.1, q2, nI_1]
        exact ih'
      · rw [if_neg (fun z => q2 z.2)] at ih'
        simp only [aX5_gap_22, aX5_gap_23, aX5_gap_26, aX5_gap_29, aX5_gap_32, aX5_gap_33, aX5_gap_34, aX5_gap_37, aX5_gap_40, aX5_gap_41, aX5_gap_42, aX5_gap_45, aX5_gap_46, aX5_gap_47, aX5_gap_50, aX5_gap_53, aX5_gap_54, aX5_gap_55, aX5_gap_58, sp_held hi (show k < 7 by omega) (w := w) ck, Nat.zero_le, Nat.reduceLeDiff, Nat.reduceAdd, i1_0, rr_c3, zc9, oc9, zc10, oc10, zc11, oc11, zc12, oc12, zc13, oc13, zc15, oc15, Int32.lt_irrefl, Nat.zero_lt_one, Rt_cons, Rt_void, isB_0, isB_1, isB_b, true_and, and_true, cats_nil, cats_int, cats_ref, and_self, if_true, if_false, ite_self, le_nlt, ite_not, c9, c10, c11, c12, c13, c15, aT_10, aT_11, aT_12, aT_13, aT_15, aN_10, aN_11, aN_12, aN_13, aN_15, rr_lt, e, l, bI_t q, in7 (show k < 7 by omega), cl10 (show k < 10000 by omega), ck.1, q2, nI_1]
        exact ih'
    · rw [if_neg (fun z => q z.1)] at ih'
      simp only [aX5_gap_22, aX5_gap_23, aX5_gap_26, aX5_gap_29, aX5_gap_32, aX5_gap_33, aX5_gap_34, aX5_gap_37, aX5_gap_40, aX5_gap_41, aX5_gap_42, aX5_gap_45, aX5_gap_46, aX5_gap_47, aX5_gap_50, aX5_gap_53, aX5_gap_54, aX5_gap_55, aX5_gap_58, sp_held hi (show k < 7 by omega) (w := w) ck, Nat.zero_le, Nat.reduceLeDiff, Nat.reduceAdd, i1_0, rr_c3, zc9, oc9, zc10, oc10, zc11, oc11, zc12, oc12, zc13, oc13, zc15, oc15, Int32.lt_irrefl, Nat.zero_lt_one, Rt_cons, Rt_void, isB_0, isB_1, isB_b, true_and, and_true, cats_nil, cats_int, cats_ref, and_self, if_true, if_false, ite_self, le_nlt, ite_not, c9, c10, c11, c12, c13, c15, aT_10, aT_11, aT_12, aT_13, aT_15, aN_10, aN_11, aN_12, aN_13, aN_15, rr_lt, e, l, bI_f q, nI_1]
      exact ih'
theorem lp_mgap {N s : Nat} (hN : N ≤ 7) (hs : s < 7) (e : σ 31 0 1 = nI N) (ew : wsL (σ 43 0) N = nI s) : ∀ m k, k + m = N → (Rn mX8_gap 7 [.ref (ad 29 0), .int (nI (gpI (σ 43 0) s k)), .int (nI k)] [] fs (enc σ) Q ↔ Rt fs (enc σ) (some (.int (σ 43 0 (64 + 5 * s) - σ 43 0 (64 + 5 * gpI (σ 43 0) s N)))) Q) := by
  intro m
  induction m with
  | zero =>
    intro k hk
    obtain rfl : k = N := by omega
    have hg := gpI_lt (w := σ 43 0) hs hN
    have ne := nI_ne1 (a := gpI (σ 43 0) s k) (by omega)
    simp only [aX8_gap_7, aX8_gap_8, aX8_gap_9, aX8_gap_12, aX8_gap_13, aX8_gap_14, aX8_gap_50, aX8_gap_51, aX8_gap_52, aX8_gap_55, aX8_gap_56, aX8_gap_59, aX8_gap_60, aX8_gap_61, aX8_gap_64, aX8_gap_67, aX8_gap_68, aX8_gap_69, aX8_gap_72, aX8_gap_73, sp_mworst hN e, sp_debtOf hs, sp_debtOf hg, ew, Nat.zero_le, Nat.reduceLeDiff, Nat.reduceAdd, i1_0, rr_c3, zc9, oc9, zc10, oc10, zc11, oc11, zc12, oc12, zc13, oc13, zc15, oc15, Int32.lt_irrefl, Nat.zero_lt_one, Rt_cons, Rt_void, isB_0, isB_1, isB_b, true_and, and_true, cats_nil, cats_int, cats_ref, and_self, if_true, if_false, ite_self, le_nlt, ite_not, aT_31, aN_31, cnt_31, v3.2.1, c1, e, ne, not_false_eq_true]
  | succ m ih =>
    intro k hk
    have l : nI k < nI N := nI_lt (by omega) (by omega)
    have hg := gpI_lt (w := σ 43 0) hs (show k ≤ 7 by omega)
    rw [aX8_gap_7]
    have ih' := ih (k + 1) (by omega)
    rw [gpI_s] at ih'
    by_cases q : σ 43 0 (64 + 5 * k + 1) = 0
    · by_cases q2 : σ 43 0 (64 + 5 * k) < σ 43 0 (64 + 5 * gpI (σ 43 0) s k)
      · rw [if_pos ⟨q, q2⟩] at ih'
        simp only [aX8_gap_8, aX8_gap_9, aX8_gap_12, aX8_gap_13, aX8_gap_14, aX8_gap_17, aX8_gap_18, aX8_gap_19, aX8_gap_22, aX8_gap_25, aX8_gap_26, aX8_gap_27, aX8_gap_30, aX8_gap_31, aX8_gap_32, aX8_gap_35, aX8_gap_38, aX8_gap_39, aX8_gap_42, aX8_gap_43, aX8_gap_44, aX8_gap_47, sp_mHeld (show k < 7 by omega), sp_debtOf (show k < 7 by omega), sp_debtOf hg, Nat.zero_le, Nat.reduceLeDiff, Nat.reduceAdd, i1_0, rr_c3, zc9, oc9, zc10, oc10, zc11, oc11, zc12, oc12, zc13, oc13, zc15, oc15, Int32.lt_irrefl, Nat.zero_lt_one, Rt_cons, Rt_void, isB_0, isB_1, isB_b, true_and, and_true, cats_nil, cats_int, cats_ref, and_self, if_true, if_false, ite_self, le_nlt, ite_not, aT_31, aN_31, cnt_31, v3.2.1, c1, e, l, bI_t q, q2, not_true_eq_false, nI_1]
        exact ih'
      · rw [if_neg (fun z => q2 z.2)] at ih'
        simp only [aX8_gap_8, aX8_gap_9, aX8_gap_12, aX8_gap_13, aX8_gap_14, aX8_gap_17, aX8_gap_18, aX8_gap_19, aX8_gap_22, aX8_gap_25, aX8_gap_26, aX8_gap_27, aX8_gap_30, aX8_gap_31, aX8_gap_32, aX8_gap_35, aX8_gap_38, aX8_gap_39, aX8_gap_42, aX8_gap_43, aX8_gap_44, aX8_gap_47, sp_mHeld (show k < 7 by omega), sp_debtOf (show k < 7 by omega), sp_debtOf hg, Nat.zero_le, Nat.reduceLeDiff, Nat.reduceAdd, i1_0, rr_c3, zc9, oc9, zc10, oc10, zc11, oc11, zc12, oc12, zc13, oc13, zc15, oc15, Int32.lt_irrefl, Nat.zero_lt_one, Rt_cons, Rt_void, isB_0, isB_1, isB_b, true_and, and_true, cats_nil, cats_int, cats_ref, and_self, if_true, if_false, ite_self, le_nlt, ite_not, aT_31, aN_31, cnt_31, v3.2.1, c1, e, l, bI_t q, q2, not_false_eq_true, nI_1]
        exact ih'
    · rw [if_neg (fun z => q z.1)] at ih'
      simp only [aX8_gap_8, aX8_gap_9, aX8_gap_12, aX8_gap_13, aX8_gap_14, aX8_gap_17, aX8_gap_18, aX8_gap_19, aX8_gap_22, aX8_gap_25, aX8_gap_26, aX8_gap_27, aX8_gap_30, aX8_gap_31, aX8_gap_32, aX8_gap_35, aX8_gap_38, aX8_gap_39, aX8_gap_42, aX8_gap_43, aX8_gap_44, aX8_gap_47, sp_mHeld (show k < 7 by omega), Nat.zero_le, Nat.reduceLeDiff, Nat.reduceAdd, i1_0, rr_c3, zc9, oc9, zc10, oc10, zc11, oc11, zc12, oc12, zc13, oc13, zc15, oc15, Int32.lt_irrefl, Nat.zero_lt_one, Rt_cons, Rt_void, isB_0, isB_1, isB_b, true_and, and_true, cats_nil, cats_int, cats_ref, and_self, if_true, if_false, ite_self, le_nlt, ite_not, aT_31, aN_31, cnt_31, v3.2.1, c1, e, l, bI_f q, nI_1]
      exact ih'
theorem lp_mgap0 {N : Nat} (hN : N ≤ 7) (e : σ 31 0 1 = nI N) (hh : ∀ t, t < N → ¬ σ 43 0 (64 + 5 * t + 1) = 0) : ∀ m k, k + m = N → (Rn mX8_gap 7 [.ref (ad 29 0), .int (-1), .int (nI k)] [] fs (enc σ) Q ↔ Rt fs (enc σ) (some (.int 0)) Q) := by
  intro m
  induction m with
  | zero =>
    intro k hk
    obtain rfl : k = N := by omega
    simp only [aX8_gap_7, aX8_gap_8, aX8_gap_9, aX8_gap_12, aX8_gap_13, aX8_gap_14, aX8_gap_50, aX8_gap_51, aX8_gap_52, aX8_gap_55, aX8_gap_56, aX8_gap_59, aX8_gap_60, aX8_gap_61, aX8_gap_64, aX8_gap_67, aX8_gap_68, aX8_gap_69, aX8_gap_72, aX8_gap_73, Nat.zero_le, Nat.reduceLeDiff, Nat.reduceAdd, i1_0, rr_c3, zc9, oc9, zc10, oc10, zc11, oc11, zc12, oc12, zc13, oc13, zc15, oc15, Int32.lt_irrefl, Nat.zero_lt_one, Rt_cons, Rt_void, isB_0, isB_1, isB_b, true_and, and_true, cats_nil, cats_int, cats_ref, and_self, if_true, if_false, ite_self, le_nlt, ite_not, aT_31, aN_31, cnt_31, v3.2.1, c1, e, not_true_eq_false]
  | succ m ih =>
    intro k hk
    have l : nI k < nI N := nI_lt (by omega) (by omega)
    rw [aX8_gap_7]
    have ih' := ih (k + 1) (by omega)
    have q := hh k (by omega)
    simp only [aX8_gap_8, aX8_gap_9, aX8_gap_12, aX8_gap_13, aX8_gap_14, aX8_gap_17, aX8_gap_18, aX8_gap_19, aX8_gap_22, aX8_gap_25, aX8_gap_26, aX8_gap_27, aX8_gap_30, aX8_gap_31, aX8_gap_32, aX8_gap_35, aX8_gap_38, aX8_gap_39, aX8_gap_42, aX8_gap_43, aX8_gap_44, aX8_gap_47, sp_mHeld (show k < 7 by omega), Nat.zero_le, Nat.reduceLeDiff, Nat.reduceAdd, i1_0, rr_c3, zc9, oc9, zc10, oc10, zc11, oc11, zc12, oc12, zc13, oc13, zc15, oc15, Int32.lt_irrefl, Nat.zero_lt_one, Rt_cons, Rt_void, isB_0, isB_1, isB_b, true_and, and_true, cats_nil, cats_int, cats_ref, and_self, if_true, if_false, ite_self, le_nlt, ite_not, aT_31, aN_31, cnt_31, v3.2.1, c1, e, l, bI_f q, nI_1]
    exact ih'
def gapV (w : Nat → Int32) (N : Nat) : Int32 := if wsL w N = -1 then 0 else w (64 + 5 * (wsL w N).toNatClampNeg) - w (64 + 5 * gpI w (wsL w N).toNatClampNeg N)
theorem sp_cgap {i N : Nat} {w : Nat → Int32} (hi : i < 34) (hN : N ≤ 7) (e : σ 3 (rr (σ 9 i 0)) 1 = nI N) (h : CS σ i w) : Rn mX5_gap 0 [.ref (ad 9 i), .null, .null, .null] [] fs (enc σ) Q ↔ Rt fs (enc σ) (some (.int (gapV w N))) Q := by
  have c9 : i < cnt 9 := hi
  have c10 : i < cnt 10 := hi
  have c11 : i < cnt 11 := hi
  have c12 : i < cnt 12 := hi
  have c13 : i < cnt 13 := hi
  have c15 : i < cnt 15 := hi
  unfold gapV
  have e1 : nI 0 = 0 := rfl
  rcases wsL_c (w := w) hN with ⟨z, _⟩ | ⟨t, t1, t2⟩
  · rw [if_pos z]
    simp only [aX5_gap_0, aX5_gap_1, aX5_gap_4, aX5_gap_5, aX5_gap_6, aX5_gap_7, aX5_gap_10, aX5_gap_11, sp_cworst hi hN e h, Nat.zero_le, Nat.reduceLeDiff, Nat.reduceAdd, i1_0, rr_c3, zc9, oc9, zc10, oc10, zc11, oc11, zc12, oc12, zc13, oc13, zc15, oc15, Int32.lt_irrefl, Nat.zero_lt_one, Rt_cons, Rt_void, isB_0, isB_1, isB_b, true_and, and_true, cats_nil, cats_int, cats_ref, and_self, if_true, if_false, ite_self, le_nlt, ite_not, c9, c10, c11, c12, c13, c15, aT_10, aT_11, aT_12, aT_13, aT_15, aN_10, aN_11, aN_12, aN_13, aN_15, z, not_true_eq_false]
  · have ne := nI_ne1 (a := t) (by omega)
    have ct := h.2.2.2.2.2 t (by omega)
    have this := lp_cgap (fs := fs) (Q := Q) hi hN (show t < 7 by omega) e h N 0 (by omega)
    have e0 : gpI w t 0 = t := rfl
    rw [e1, e0] at this
    rw [t2, if_neg ne, nI_clamp (show t < 2 ^ 31 by omega)]
    simp only [aX5_gap_0, aX5_gap_1, aX5_gap_4, aX5_gap_5, aX5_gap_6, aX5_gap_7, aX5_gap_10, aX5_gap_11, aX5_gap_12, aX5_gap_13, aX5_gap_16, aX5_gap_17, aX5_gap_18, aX5_gap_19, aX5_gap_20, sp_cworst hi hN e h, Nat.zero_le, Nat.reduceLeDiff, Nat.reduceAdd, i1_0, rr_c3, zc9, oc9, zc10, oc10, zc11, oc11, zc12, oc12, zc13, oc13, zc15, oc15, Int32.lt_irrefl, Nat.zero_lt_one, Rt_cons, Rt_void, isB_0, isB_1, isB_b, true_and, and_true, cats_nil, cats_int, cats_ref, and_self, if_true, if_false, ite_self, le_nlt, ite_not, c9, c10, c11, c12, c13, c15, aT_10, aT_11, aT_12, aT_13, aT_15, aN_10, aN_11, aN_12, aN_13, aN_15, t2, ne, not_false_eq_true, in7 (show t < 7 by omega), cl10 (show t < 10000 by omega), ct.1]
    exact this
theorem sp_mgap {N : Nat} (hN : N ≤ 7) (e : σ 31 0 1 = nI N) : Rn mX8_gap 0 [.ref (ad 29 0), .null, .null] [] fs (enc σ) Q ↔ Rt fs (enc σ) (some (.int (gapV (σ 43 0) N))) Q := by
  unfold gapV
  have e1 : nI 0 = 0 := rfl
  rcases wsL_c (w := σ 43 0) hN with ⟨z, y⟩ | ⟨t, t1, t2⟩
  · rw [if_pos z]
    have this := lp_mgap0 (fs := fs) (Q := Q) hN e y N 0 (by omega)
    rw [e1] at this
    simp only [aX8_gap_0, aX8_gap_1, aX8_gap_4, aX8_gap_5, aX8_gap_6, sp_mworst hN e, Nat.zero_le, Nat.reduceLeDiff, Nat.reduceAdd, i1_0, rr_c3, zc9, oc9, zc10, oc10, zc11, oc11, zc12, oc12, zc13, oc13, zc15, oc15, Int32.lt_irrefl, Nat.zero_lt_one, Rt_cons, Rt_void, isB_0, isB_1, isB_b, true_and, and_true, cats_nil, cats_int, cats_ref, and_self, if_true, if_false, ite_self, le_nlt, ite_not, z]
    exact this
  · have ne := nI_ne1 (a := t) (by omega)
    have this := lp_mgap (fs := fs) (Q := Q) hN (show t < 7 by omega) e t2 N 0 (by omega)
    have e0 : gpI (σ 43 0) t 0 = t := rfl
    rw [e1, e0] at this
    rw [t2, if_neg ne, nI_clamp (show t < 2 ^ 31 by omega)]
    simp only [aX8_gap_0, aX8_gap_1, aX8_gap_4, aX8_gap_5, aX8_gap_6, sp_mworst hN e, Nat.zero_le, Nat.reduceLeDiff, Nat.reduceAdd, i1_0, rr_c3, zc9, oc9, zc10, oc10, zc11, oc11, zc12, oc12, zc13, oc13, zc15, oc15, Int32.lt_irrefl, Nat.zero_lt_one, Rt_cons, Rt_void, isB_0, isB_1, isB_b, true_and, and_true, cats_nil, cats_int, cats_ref, and_self, if_true, if_false, ite_self, le_nlt, ite_not, t2]
    exact this
theorem sp_cdebts {i N : Nat} {w : Nat → Int32} (hi : i < 34) (hN : N ≤ 7) (e : σ 3 (rr (σ 9 i 0)) 1 = nI N) (h : CS σ i w) : Rn mX5_debtOfHeld 0 [.ref (ad 9 i), .null, .null] [] fs (enc σ) Q ↔ Rt fs (enc σ) (some (.int (dbL w N))) Q := by
  have := lp_cdebt (fs := fs) (Q := Q) hi hN e h N 0 (by omega)
  have e1 : nI 0 = 0 := rfl
  have e0 : dbL w 0 = 0 := rfl
  rw [e1, e0] at this
  simp only [aX5_debtOfHeld_0, aX5_debtOfHeld_1, aX5_debtOfHeld_2, aX5_debtOfHeld_3, Nat.zero_le, Nat.reduceLeDiff, Nat.reduceAdd, i1_0, rr_c3, zc9, oc9, zc10, oc10, zc11, oc11, zc12, oc12, zc13, oc13, zc15, oc15, Int32.lt_irrefl, Nat.zero_lt_one, Rt_cons, Rt_void, isB_0, isB_1, isB_b, true_and, and_true, cats_nil, cats_int, cats_ref, and_self, if_true, if_false, ite_self, le_nlt, ite_not]
  exact this
theorem sp_mdebts {N : Nat} (hN : N ≤ 7) (e : σ 31 0 1 = nI N) : Rn mX8_debts 0 [.ref (ad 29 0), .null, .null] [] fs (enc σ) Q ↔ Rt fs (enc σ) (some (.int (dbL (σ 43 0) N))) Q := by
  have := lp_mdebt (fs := fs) (Q := Q) hN e N 0 (by omega)
  have e1 : nI 0 = 0 := rfl
  have e0 : dbL (σ 43 0) 0 = 0 := rfl
  rw [e1, e0] at this
  simp only [aX8_debts_0, aX8_debts_1, aX8_debts_2, aX8_debts_3, Nat.zero_le, Nat.reduceLeDiff, Nat.reduceAdd, i1_0, rr_c3, zc9, oc9, zc10, oc10, zc11, oc11, zc12, oc12, zc13, oc13, zc15, oc15, Int32.lt_irrefl, Nat.zero_lt_one, Rt_cons, Rt_void, isB_0, isB_1, isB_b, true_and, and_true, cats_nil, cats_int, cats_ref, and_self, if_true, if_false, ite_self, le_nlt, ite_not]
  exact this
theorem sp_castray {i N : Nat} {w : Nat → Int32} (hi : i < 34) (hN : N ≤ 7) (e : σ 3 (rr (σ 9 i 0)) 1 = nI N) (h : CS σ i w) : Rn mX5_astray 0 [.ref (ad 9 i), .null, .null] [] fs (enc σ) Q ↔ Rt fs (enc σ) (some (.int (nI (smN (asH w) N)))) Q := by
  have := lp_castray (fs := fs) (Q := Q) hi hN e h N 0 (by omega)
  have e1 : nI 0 = 0 := rfl
  have e0 : nI (smN (asH w) 0) = 0 := rfl
  rw [e0, e1] at this
  simp only [aX5_astray_0, aX5_astray_1, aX5_astray_2, aX5_astray_3, Nat.zero_le, Nat.reduceLeDiff, Nat.reduceAdd, i1_0, rr_c3, zc9, oc9, zc10, oc10, zc11, oc11, zc12, oc12, zc13, oc13, zc15, oc15, Int32.lt_irrefl, Nat.zero_lt_one, Rt_cons, Rt_void, isB_0, isB_1, isB_b, true_and, and_true, cats_nil, cats_int, cats_ref, and_self, if_true, if_false, ite_self, le_nlt, ite_not]
  exact this
theorem sp_mastray {N G : Nat} (hN : N ≤ 7) (hG : G ≤ 7) (e : σ 31 0 1 = nI N) (e2 : σ 31 0 2 = nI G) : Rn mX8_astray 0 [.ref (ad 29 0), .null, .null] [] fs (enc σ) Q ↔ Rt fs (enc σ) (some (.int (nI (smN (asG N (σ 43 0)) G)))) Q := by
  have := lp_mastray (fs := fs) (Q := Q) hN hG e e2 G 0 (by omega)
  have e1 : nI 0 = 0 := rfl
  have e0 : nI (smN (asG N (σ 43 0)) 0) = 0 := rfl
  rw [e0, e1] at this
  simp only [aX8_astray_0, aX8_astray_1, aX8_astray_2, aX8_astray_3, Nat.zero_le, Nat.reduceLeDiff, Nat.reduceAdd, i1_0, rr_c3, zc9, oc9, zc10, oc10, zc11, oc11, zc12, oc12, zc13, oc13, zc15, oc15, Int32.lt_irrefl, Nat.zero_lt_one, Rt_cons, Rt_void, isB_0, isB_1, isB_b, true_and, and_true, cats_nil, cats_int, cats_ref, and_self, if_true, if_false, ite_self, le_nlt, ite_not]
  exact this
theorem toldNI : nI 0 = 0 ∧ nI 1 = 1 ∧ nI 2 = 2 ∧ nI 3 = 3 ∧ nI 4 = 4 ∧ nI 5 = 5 ∧ nI 6 = 6 ∧ nI 7 = 7 ∧ nI 8 = 8 ∧ nI 9 = 9 ∧ nI 10 = 10 ∧ nI 11 = 11 ∧ nI 12 = 12 ∧ nI 13 = 13 ∧ nI 14 = 14 ∧ nI 15 = 15 ∧ nI 16 = 16 ∧ nI 17 = 17 := by decide
theorem api_told (x : Int32) : Sim Rel mX7_told mX8_told [.int x] := by
  refine Sim_of (Lc := [.ref (ad 0 0), .int x]) (Lm := [.ref (ad 29 0), .int x]) rfl rfl (fun σ hR => ?_)
  obtain ⟨r1, r2, C, N, G, r3, r4, r5, r6, r7⟩ := id hR
  obtain ⟨q1, q2, q3, q4, ⟨l0, l1, l2⟩, ⟨k0, k1, k2⟩, q5, q6, q7⟩ := id r3.1
  have hq := rr_lt (σ 9 0 0)
  have hG : G ≤ 7 := by omega
  have cs := r3.2.2.1
  have hnE := NoE_of r3.2.2.2
  have h34 : (0 : Nat) < 34 := by decide
  by_cases ho : x < 0 ∨ 17 < x
  · have hd : x.toInt < 0 ∨ (17 : Int) < x.toInt := toI_out (a := 0) (b := 17) (by decide) ho
    refine ⟨σ, σ, -1000000002, ?_, ?_, hR⟩
    · simp only [aX7_told_0, aX7_told_1_d hd, aX7_told_241, aX7_told_243, Nat.zero_le, Nat.reduceLeDiff, Nat.reduceAdd, i1_0, rr_c3, zc9, oc9, zc10, oc10, zc11, oc11, zc12, oc12, zc13, oc13, zc15, oc15, Int32.lt_irrefl, Nat.zero_lt_one, Rt_cons, Rt_void, isB_0, isB_1, isB_b, true_and, and_true, cats_nil, cats_int, cats_ref, and_self, if_true, if_false, ite_self, le_nlt, ite_not, Rt_nil]
    · simp only [aX8_told_0, aX8_told_1_d hd, aX8_told_181, aX8_told_183, Nat.zero_le, Nat.reduceLeDiff, Nat.reduceAdd, i1_0, rr_c3, zc9, oc9, zc10, oc10, zc11, oc11, zc12, oc12, zc13, oc13, zc15, oc15, Int32.lt_irrefl, Nat.zero_lt_one, Rt_cons, Rt_void, isB_0, isB_1, isB_b, true_and, and_true, cats_nil, cats_int, cats_ref, and_self, if_true, if_false, ite_self, le_nlt, ite_not, Rt_nil]
  · have hin := not_out.mp ho
    obtain ⟨t, ht, rfl⟩ := nI_of2 (M := 17) (n := 17) (by decide) hin.1 (Int32.not_lt.mp hin.2)
    obtain ⟨w0, w1, w2, w3, w4, w5, w6, w7, w8, w9, w10, w11, w12, w13, w14, w15, w16, w17⟩ := toldNI
    rcases (show t = 0 ∨ t = 1 ∨ t = 2 ∨ t = 3 ∨ t = 4 ∨ t = 5 ∨ t = 6 ∨ t = 7 ∨ t = 8 ∨ t = 9 ∨ t = 10 ∨ t = 11 ∨ t = 12 ∨ t = 13 ∨ t = 14 ∨ t = 15 ∨ t = 16 ∨ t = 17 by omega) with rfl | rfl | rfl | rfl | rfl | rfl | rfl | rfl | rfl | rfl | rfl | rfl | rfl | rfl | rfl | rfl | rfl | rfl
    · refine ⟨σ, σ, nI C, ?_, ?_, hR⟩
      · rw [w0]; simp only [aX7_told_0, aX7_told_1_0, aX7_told_88, aX7_told_89, aX7_told_92, aX7_told_95, aX7_told_98, Nat.zero_le, Nat.reduceLeDiff, Nat.reduceAdd, i1_0, rr_c3, zc9, oc9, zc10, oc10, zc11, oc11, zc12, oc12, zc13, oc13, zc15, oc15, Int32.lt_irrefl, Nat.zero_lt_one, Rt_cons, Rt_void, isB_0, isB_1, isB_b, true_and, and_true, cats_nil, cats_int, cats_ref, and_self, if_true, if_false, ite_self, le_nlt, ite_not, Rt_nil, k0]
      · rw [w0]; simp only [aX8_told_0, aX8_told_1_0, aX8_told_88, aX8_told_89, aX8_told_92, aX8_told_93, aX8_told_94, Nat.zero_le, Nat.reduceLeDiff, Nat.reduceAdd, i1_0, rr_c3, zc9, oc9, zc10, oc10, zc11, oc11, zc12, oc12, zc13, oc13, zc15, oc15, Int32.lt_irrefl, Nat.zero_lt_one, Rt_cons, Rt_void, isB_0, isB_1, isB_b, true_and, and_true, cats_nil, cats_int, cats_ref, and_self, if_true, if_false, ite_self, le_nlt, ite_not, Rt_nil, aT_31, aN_31, cnt_31, v3.1, c0, l0]
    · refine ⟨σ, σ, nI N, ?_, ?_, hR⟩
      · rw [w1]; simp only [aX7_told_0, aX7_told_1_1, aX7_told_99, aX7_told_100, aX7_told_103, aX7_told_106, aX7_told_109, Nat.zero_le, Nat.reduceLeDiff, Nat.reduceAdd, i1_0, rr_c3, zc9, oc9, zc10, oc10, zc11, oc11, zc12, oc12, zc13, oc13, zc15, oc15, Int32.lt_irrefl, Nat.zero_lt_one, Rt_cons, Rt_void, isB_0, isB_1, isB_b, true_and, and_true, cats_nil, cats_int, cats_ref, and_self, if_true, if_false, ite_self, le_nlt, ite_not, Rt_nil, k1]
      · rw [w1]; simp only [aX8_told_0, aX8_told_1_1, aX8_told_88, aX8_told_89, aX8_told_92, aX8_told_93, aX8_told_94, Nat.zero_le, Nat.reduceLeDiff, Nat.reduceAdd, i1_0, rr_c3, zc9, oc9, zc10, oc10, zc11, oc11, zc12, oc12, zc13, oc13, zc15, oc15, Int32.lt_irrefl, Nat.zero_lt_one, Rt_cons, Rt_void, isB_0, isB_1, isB_b, true_and, and_true, cats_nil, cats_int, cats_ref, and_self, if_true, if_false, ite_self, le_nlt, ite_not, Rt_nil, aT_31, aN_31, cnt_31, v3.2.1, c1, l1]
    · refine ⟨σ, σ, nI G, ?_, ?_, hR⟩
      · rw [w2]; simp only [aX7_told_0, aX7_told_1_2, aX7_told_110, aX7_told_111, aX7_told_114, aX7_told_117, aX7_told_120, Nat.zero_le, Nat.reduceLeDiff, Nat.reduceAdd, i1_0, rr_c3, zc9, oc9, zc10, oc10, zc11, oc11, zc12, oc12, zc13, oc13, zc15, oc15, Int32.lt_irrefl, Nat.zero_lt_one, Rt_cons, Rt_void, isB_0, isB_1, isB_b, true_and, and_true, cats_nil, cats_int, cats_ref, and_self, if_true, if_false, ite_self, le_nlt, ite_not, Rt_nil, k2]
      · rw [w2]; simp only [aX8_told_0, aX8_told_1_2, aX8_told_88, aX8_told_89, aX8_told_92, aX8_told_93, aX8_told_94, Nat.zero_le, Nat.reduceLeDiff, Nat.reduceAdd, i1_0, rr_c3, zc9, oc9, zc10, oc10, zc11, oc11, zc12, oc12, zc13, oc13, zc15, oc15, Int32.lt_irrefl, Nat.zero_lt_one, Rt_cons, Rt_void, isB_0, isB_1, isB_b, true_and, and_true, cats_nil, cats_int, cats_ref, and_self, if_true, if_false, ite_self, le_nlt, ite_not, Rt_nil, aT_31, aN_31, cnt_31, v3.2.2, c2, l2]
    · obtain ⟨⟨c, d1, d2, d3, d4⟩, d5⟩ := r1
      refine ⟨σ, σ, nI c, ?_, ?_, hR⟩
      · rw [w3]; simp only [aX7_told_0, aX7_told_1_3, aX7_told_121, aX7_told_122, aX7_told_125, aX7_told_128, Nat.zero_le, Nat.reduceLeDiff, Nat.reduceAdd, i1_0, rr_c3, zc9, oc9, zc10, oc10, zc11, oc11, zc12, oc12, zc13, oc13, zc15, oc15, Int32.lt_irrefl, Nat.zero_lt_one, Rt_cons, Rt_void, isB_0, isB_1, isB_b, true_and, and_true, cats_nil, cats_int, cats_ref, and_self, if_true, if_false, ite_self, le_nlt, ite_not, Rt_nil, d2]
      · rw [w3]; simp only [aX8_told_0, aX8_told_1_3, aX8_told_95, aX8_told_96, aX8_told_99, Nat.zero_le, Nat.reduceLeDiff, Nat.reduceAdd, i1_0, rr_c3, zc9, oc9, zc10, oc10, zc11, oc11, zc12, oc12, zc13, oc13, zc15, oc15, Int32.lt_irrefl, Nat.zero_lt_one, Rt_cons, Rt_void, isB_0, isB_1, isB_b, true_and, and_true, cats_nil, cats_int, cats_ref, and_self, if_true, if_false, ite_self, le_nlt, ite_not, Rt_nil, d3]
    · refine ⟨σ, σ, σ 43 0 0, ?_, ?_, hR⟩
      · rw [w4]; simp only [aX7_told_0, aX7_told_1_4, aX7_told_129, aX7_told_130, aX7_told_133, aX7_told_136, Nat.zero_le, Nat.reduceLeDiff, Nat.reduceAdd, i1_0, rr_c3, zc9, oc9, zc10, oc10, zc11, oc11, zc12, oc12, zc13, oc13, zc15, oc15, Int32.lt_irrefl, Nat.zero_lt_one, Rt_cons, Rt_void, isB_0, isB_1, isB_b, true_and, and_true, cats_nil, cats_int, cats_ref, and_self, if_true, if_false, ite_self, le_nlt, ite_not, Rt_nil, cs.1]
      · rw [w4]; simp only [aX8_told_0, aX8_told_1_4, aX8_told_100, aX8_told_101, aX8_told_104, aX8_told_105, aX8_told_106, Nat.zero_le, Nat.reduceLeDiff, Nat.reduceAdd, i1_0, rr_c3, zc9, oc9, zc10, oc10, zc11, oc11, zc12, oc12, zc13, oc13, zc15, oc15, Int32.lt_irrefl, Nat.zero_lt_one, Rt_cons, Rt_void, isB_0, isB_1, isB_b, true_and, and_true, cats_nil, cats_int, cats_ref, and_self, if_true, if_false, ite_self, le_nlt, ite_not, Rt_nil, aT_43, aN_43, cnt_43, v99.1, c0]
    · refine ⟨σ, σ, σ 43 0 1, ?_, ?_, hR⟩
      · rw [w5]; simp only [aX7_told_0, aX7_told_1_5, aX7_told_137, aX7_told_138, aX7_told_141, aX7_told_144, Nat.zero_le, Nat.reduceLeDiff, Nat.reduceAdd, i1_0, rr_c3, zc9, oc9, zc10, oc10, zc11, oc11, zc12, oc12, zc13, oc13, zc15, oc15, Int32.lt_irrefl, Nat.zero_lt_one, Rt_cons, Rt_void, isB_0, isB_1, isB_b, true_and, and_true, cats_nil, cats_int, cats_ref, and_self, if_true, if_false, ite_self, le_nlt, ite_not, Rt_nil, cs.2.1]
      · rw [w5]; simp only [aX8_told_0, aX8_told_1_5, aX8_told_107, aX8_told_108, aX8_told_111, aX8_told_112, aX8_told_113, Nat.zero_le, Nat.reduceLeDiff, Nat.reduceAdd, i1_0, rr_c3, zc9, oc9, zc10, oc10, zc11, oc11, zc12, oc12, zc13, oc13, zc15, oc15, Int32.lt_irrefl, Nat.zero_lt_one, Rt_cons, Rt_void, isB_0, isB_1, isB_b, true_and, and_true, cats_nil, cats_int, cats_ref, and_self, if_true, if_false, ite_self, le_nlt, ite_not, Rt_nil, aT_43, aN_43, cnt_43, v99.2.1, c1]
    · refine ⟨σ, σ, σ 43 0 2, ?_, ?_, hR⟩
      · rw [w6]; simp only [aX7_told_0, aX7_told_1_6, aX7_told_145, aX7_told_146, aX7_told_149, aX7_told_152, Nat.zero_le, Nat.reduceLeDiff, Nat.reduceAdd, i1_0, rr_c3, zc9, oc9, zc10, oc10, zc11, oc11, zc12, oc12, zc13, oc13, zc15, oc15, Int32.lt_irrefl, Nat.zero_lt_one, Rt_cons, Rt_void, isB_0, isB_1, isB_b, true_and, and_true, cats_nil, cats_int, cats_ref, and_self, if_true, if_false, ite_self, le_nlt, ite_not, Rt_nil, cs.2.2.1]
      · rw [w6]; simp only [aX8_told_0, aX8_told_1_6, aX8_told_114, aX8_told_115, aX8_told_118, aX8_told_119, aX8_told_120, Nat.zero_le, Nat.reduceLeDiff, Nat.reduceAdd, i1_0, rr_c3, zc9, oc9, zc10, oc10, zc11, oc11, zc12, oc12, zc13, oc13, zc15, oc15, Int32.lt_irrefl, Nat.zero_lt_one, Rt_cons, Rt_void, isB_0, isB_1, isB_b, true_and, and_true, cats_nil, cats_int, cats_ref, and_self, if_true, if_false, ite_self, le_nlt, ite_not, Rt_nil, aT_43, aN_43, cnt_43, v99.2.2.1, c2]
    · refine ⟨σ, σ, nI (bs (fun t => decide (σ 43 0 (64 + 5 * t + 1) = 0)) N), ?_, ?_, hR⟩
      · rw [w7]; simp only [aX7_told_0, aX7_told_1_7, aX7_told_153, aX7_told_154, aX7_told_157, aX7_told_160, sp_heldSet h34 q2 k1 cs hnE, Nat.zero_le, Nat.reduceLeDiff, Nat.reduceAdd, i1_0, rr_c3, zc9, oc9, zc10, oc10, zc11, oc11, zc12, oc12, zc13, oc13, zc15, oc15, Int32.lt_irrefl, Nat.zero_lt_one, Rt_cons, Rt_void, isB_0, isB_1, isB_b, true_and, and_true, cats_nil, cats_int, cats_ref, and_self, if_true, if_false, ite_self, le_nlt, ite_not, Rt_nil]
      · rw [w7]; simp only [aX8_told_0, aX8_told_1_7, aX8_told_121, aX8_told_122, aX8_told_123, aX8_told_126, sp_so q2 l1, Nat.zero_le, Nat.reduceLeDiff, Nat.reduceAdd, i1_0, rr_c3, zc9, oc9, zc10, oc10, zc11, oc11, zc12, oc12, zc13, oc13, zc15, oc15, Int32.lt_irrefl, Nat.zero_lt_one, Rt_cons, Rt_void, isB_0, isB_1, isB_b, true_and, and_true, cats_nil, cats_int, cats_ref, and_self, if_true, if_false, ite_self, le_nlt, ite_not, Rt_nil]
    · refine ⟨σ, σ, nI (bs (fun t => decide (σ 43 0 (64 + 5 * t + 1) = 1)) N), ?_, ?_, hR⟩
      · rw [w8]; simp only [aX7_told_0, aX7_told_1_8, aX7_told_161, aX7_told_162, aX7_told_165, aX7_told_168, sp_freeSet h34 q2 k1 cs hnE, Nat.zero_le, Nat.reduceLeDiff, Nat.reduceAdd, i1_0, rr_c3, zc9, oc9, zc10, oc10, zc11, oc11, zc12, oc12, zc13, oc13, zc15, oc15, Int32.lt_irrefl, Nat.zero_lt_one, Rt_cons, Rt_void, isB_0, isB_1, isB_b, true_and, and_true, cats_nil, cats_int, cats_ref, and_self, if_true, if_false, ite_self, le_nlt, ite_not, Rt_nil]
      · rw [w8]; simp only [aX8_told_0, aX8_told_1_8, aX8_told_127, aX8_told_128, aX8_told_129, aX8_told_132, sp_so q2 l1, Nat.zero_le, Nat.reduceLeDiff, Nat.reduceAdd, i1_0, rr_c3, zc9, oc9, zc10, oc10, zc11, oc11, zc12, oc12, zc13, oc13, zc15, oc15, Int32.lt_irrefl, Nat.zero_lt_one, Rt_cons, Rt_void, isB_0, isB_1, isB_b, true_and, and_true, cats_nil, cats_int, cats_ref, and_self, if_true, if_false, ite_self, le_nlt, ite_not, Rt_nil]
    · refine ⟨σ, σ, nI (bs (fun t => decide (σ 43 0 (64 + 5 * t + 1) = 2)) N), ?_, ?_, hR⟩
      · rw [w9]; simp only [aX7_told_0, aX7_told_1_9, aX7_told_169, aX7_told_170, aX7_told_173, aX7_told_176, em_set cs q2 hnE, Nat.zero_le, Nat.reduceLeDiff, Nat.reduceAdd, i1_0, rr_c3, zc9, oc9, zc10, oc10, zc11, oc11, zc12, oc12, zc13, oc13, zc15, oc15, Int32.lt_irrefl, Nat.zero_lt_one, Rt_cons, Rt_void, isB_0, isB_1, isB_b, true_and, and_true, cats_nil, cats_int, cats_ref, and_self, if_true, if_false, ite_self, le_nlt, ite_not, Rt_nil]
      · rw [w9]; simp only [aX8_told_0, aX8_told_1_9, aX8_told_133, aX8_told_134, aX8_told_135, aX8_told_138, sp_so q2 l1, Nat.zero_le, Nat.reduceLeDiff, Nat.reduceAdd, i1_0, rr_c3, zc9, oc9, zc10, oc10, zc11, oc11, zc12, oc12, zc13, oc13, zc15, oc15, Int32.lt_irrefl, Nat.zero_lt_one, Rt_cons, Rt_void, isB_0, isB_1, isB_b, true_and, and_true, cats_nil, cats_int, cats_ref, and_self, if_true, if_false, ite_self, le_nlt, ite_not, Rt_nil]
    · refine ⟨σ, σ, dbL (σ 43 0) N, ?_, ?_, hR⟩
      · rw [w10]; simp only [aX7_told_0, aX7_told_1_10, aX7_told_177, aX7_told_178, aX7_told_181, aX7_told_184, sp_cdebts h34 q2 k1 cs, Nat.zero_le, Nat.reduceLeDiff, Nat.reduceAdd, i1_0, rr_c3, zc9, oc9, zc10, oc10, zc11, oc11, zc12, oc12, zc13, oc13, zc15, oc15, Int32.lt_irrefl, Nat.zero_lt_one, Rt_cons, Rt_void, isB_0, isB_1, isB_b, true_and, and_true, cats_nil, cats_int, cats_ref, and_self, if_true, if_false, ite_self, le_nlt, ite_not, Rt_nil]
      · rw [w10]; simp only [aX8_told_0, aX8_told_1_10, aX8_told_139, aX8_told_140, aX8_told_143, sp_mdebts q2 l1, Nat.zero_le, Nat.reduceLeDiff, Nat.reduceAdd, i1_0, rr_c3, zc9, oc9, zc10, oc10, zc11, oc11, zc12, oc12, zc13, oc13, zc15, oc15, Int32.lt_irrefl, Nat.zero_lt_one, Rt_cons, Rt_void, isB_0, isB_1, isB_b, true_and, and_true, cats_nil, cats_int, cats_ref, and_self, if_true, if_false, ite_self, le_nlt, ite_not, Rt_nil]
    · have ea : smN (asH (σ 43 0)) N = smN (asG N (σ 43 0)) G := as_eq q2 hG (fun h hh => (r3.2.2.2.2.2.2.1 h hh).2.2.1) r3.2.2.2.2.2.2.2
      refine ⟨σ, σ, nI (smN (asH (σ 43 0)) N), ?_, ?_, hR⟩
      · rw [w11]; simp only [aX7_told_0, aX7_told_1_11, aX7_told_185, aX7_told_186, aX7_told_189, aX7_told_192, sp_castray h34 q2 k1 cs, Nat.zero_le, Nat.reduceLeDiff, Nat.reduceAdd, i1_0, rr_c3, zc9, oc9, zc10, oc10, zc11, oc11, zc12, oc12, zc13, oc13, zc15, oc15, Int32.lt_irrefl, Nat.zero_lt_one, Rt_cons, Rt_void, isB_0, isB_1, isB_b, true_and, and_true, cats_nil, cats_int, cats_ref, and_self, if_true, if_false, ite_self, le_nlt, ite_not, Rt_nil]
      · rw [w11]; simp only [aX8_told_0, aX8_told_1_11, aX8_told_144, aX8_told_145, aX8_told_148, sp_mastray q2 hG l1 l2, Nat.zero_le, Nat.reduceLeDiff, Nat.reduceAdd, i1_0, rr_c3, zc9, oc9, zc10, oc10, zc11, oc11, zc12, oc12, zc13, oc13, zc15, oc15, Int32.lt_irrefl, Nat.zero_lt_one, Rt_cons, Rt_void, isB_0, isB_1, isB_b, true_and, and_true, cats_nil, cats_int, cats_ref, and_self, if_true, if_false, ite_self, le_nlt, ite_not, Rt_nil, ea]
    · refine ⟨σ, σ, gapV (σ 43 0) N, ?_, ?_, hR⟩
      · rw [w12]; simp only [aX7_told_0, aX7_told_1_12, aX7_told_193, aX7_told_194, aX7_told_197, aX7_told_200, sp_cgap h34 q2 k1 cs, Nat.zero_le, Nat.reduceLeDiff, Nat.reduceAdd, i1_0, rr_c3, zc9, oc9, zc10, oc10, zc11, oc11, zc12, oc12, zc13, oc13, zc15, oc15, Int32.lt_irrefl, Nat.zero_lt_one, Rt_cons, Rt_void, isB_0, isB_1, isB_b, true_and, and_true, cats_nil, cats_int, cats_ref, and_self, if_true, if_false, ite_self, le_nlt, ite_not, Rt_nil]
      · rw [w12]; simp only [aX8_told_0, aX8_told_1_12, aX8_told_149, aX8_told_150, aX8_told_153, sp_mgap q2 l1, Nat.zero_le, Nat.reduceLeDiff, Nat.reduceAdd, i1_0, rr_c3, zc9, oc9, zc10, oc10, zc11, oc11, zc12, oc12, zc13, oc13, zc15, oc15, Int32.lt_irrefl, Nat.zero_lt_one, Rt_cons, Rt_void, isB_0, isB_1, isB_b, true_and, and_true, cats_nil, cats_int, cats_ref, and_self, if_true, if_false, ite_self, le_nlt, ite_not, Rt_nil]
    · refine ⟨σ, σ, wsL (σ 43 0) N, ?_, ?_, hR⟩
      · rw [w13]; simp only [aX7_told_0, aX7_told_1_13, aX7_told_201, aX7_told_202, aX7_told_205, aX7_told_208, sp_cworst h34 q2 k1 cs, Nat.zero_le, Nat.reduceLeDiff, Nat.reduceAdd, i1_0, rr_c3, zc9, oc9, zc10, oc10, zc11, oc11, zc12, oc12, zc13, oc13, zc15, oc15, Int32.lt_irrefl, Nat.zero_lt_one, Rt_cons, Rt_void, isB_0, isB_1, isB_b, true_and, and_true, cats_nil, cats_int, cats_ref, and_self, if_true, if_false, ite_self, le_nlt, ite_not, Rt_nil]
      · rw [w13]; simp only [aX8_told_0, aX8_told_1_13, aX8_told_154, aX8_told_155, aX8_told_158, sp_mworst q2 l1, Nat.zero_le, Nat.reduceLeDiff, Nat.reduceAdd, i1_0, rr_c3, zc9, oc9, zc10, oc10, zc11, oc11, zc12, oc12, zc13, oc13, zc15, oc15, Int32.lt_irrefl, Nat.zero_lt_one, Rt_cons, Rt_void, isB_0, isB_1, isB_b, true_and, and_true, cats_nil, cats_int, cats_ref, and_self, if_true, if_false, ite_self, le_nlt, ite_not, Rt_nil]
    · refine ⟨σ, σ, σ 43 0 3, ?_, ?_, hR⟩
      · rw [w14]; simp only [aX7_told_0, aX7_told_1_14, aX7_told_209, aX7_told_210, aX7_told_213, aX7_told_216, Nat.zero_le, Nat.reduceLeDiff, Nat.reduceAdd, i1_0, rr_c3, zc9, oc9, zc10, oc10, zc11, oc11, zc12, oc12, zc13, oc13, zc15, oc15, Int32.lt_irrefl, Nat.zero_lt_one, Rt_cons, Rt_void, isB_0, isB_1, isB_b, true_and, and_true, cats_nil, cats_int, cats_ref, and_self, if_true, if_false, ite_self, le_nlt, ite_not, Rt_nil, cs.2.2.2.1]
      · rw [w14]; simp only [aX8_told_0, aX8_told_1_14, aX8_told_159, aX8_told_160, aX8_told_163, aX8_told_164, aX8_told_165, Nat.zero_le, Nat.reduceLeDiff, Nat.reduceAdd, i1_0, rr_c3, zc9, oc9, zc10, oc10, zc11, oc11, zc12, oc12, zc13, oc13, zc15, oc15, Int32.lt_irrefl, Nat.zero_lt_one, Rt_cons, Rt_void, isB_0, isB_1, isB_b, true_and, and_true, cats_nil, cats_int, cats_ref, and_self, if_true, if_false, ite_self, le_nlt, ite_not, Rt_nil, aT_43, aN_43, cnt_43, v99.2.2.2, c3]
    · obtain ⟨c, d1, d2, d3, d4⟩ := r4
      refine ⟨σ, σ, nI c, ?_, ?_, hR⟩
      · rw [w15]; simp only [aX7_told_0, aX7_told_1_15, aX7_told_217, aX7_told_218, aX7_told_221, aX7_told_224, Nat.zero_le, Nat.reduceLeDiff, Nat.reduceAdd, i1_0, rr_c3, zc9, oc9, zc10, oc10, zc11, oc11, zc12, oc12, zc13, oc13, zc15, oc15, Int32.lt_irrefl, Nat.zero_lt_one, Rt_cons, Rt_void, isB_0, isB_1, isB_b, true_and, and_true, cats_nil, cats_int, cats_ref, and_self, if_true, if_false, ite_self, le_nlt, ite_not, Rt_nil, d2]
      · rw [w15]; simp only [aX8_told_0, aX8_told_1_15, aX8_told_166, aX8_told_167, aX8_told_170, Nat.zero_le, Nat.reduceLeDiff, Nat.reduceAdd, i1_0, rr_c3, zc9, oc9, zc10, oc10, zc11, oc11, zc12, oc12, zc13, oc13, zc15, oc15, Int32.lt_irrefl, Nat.zero_lt_one, Rt_cons, Rt_void, isB_0, isB_1, isB_b, true_and, and_true, cats_nil, cats_int, cats_ref, and_self, if_true, if_false, ite_self, le_nlt, ite_not, Rt_nil, d3]
    · obtain ⟨c, d1, d2, d3, d4⟩ := r5
      refine ⟨σ, σ, nI c, ?_, ?_, hR⟩
      · rw [w16]; simp only [aX7_told_0, aX7_told_1_16, aX7_told_225, aX7_told_226, aX7_told_229, aX7_told_232, Nat.zero_le, Nat.reduceLeDiff, Nat.reduceAdd, i1_0, rr_c3, zc9, oc9, zc10, oc10, zc11, oc11, zc12, oc12, zc13, oc13, zc15, oc15, Int32.lt_irrefl, Nat.zero_lt_one, Rt_cons, Rt_void, isB_0, isB_1, isB_b, true_and, and_true, cats_nil, cats_int, cats_ref, and_self, if_true, if_false, ite_self, le_nlt, ite_not, Rt_nil, d2]
      · rw [w16]; simp only [aX8_told_0, aX8_told_1_16, aX8_told_171, aX8_told_172, aX8_told_175, Nat.zero_le, Nat.reduceLeDiff, Nat.reduceAdd, i1_0, rr_c3, zc9, oc9, zc10, oc10, zc11, oc11, zc12, oc12, zc13, oc13, zc15, oc15, Int32.lt_irrefl, Nat.zero_lt_one, Rt_cons, Rt_void, isB_0, isB_1, isB_b, true_and, and_true, cats_nil, cats_int, cats_ref, and_self, if_true, if_false, ite_self, le_nlt, ite_not, Rt_nil, d3]
    · obtain ⟨c, y, d1, d2, d3, d4, d5, d6⟩ := r6
      refine ⟨σ, σ, nI c, ?_, ?_, hR⟩
      · rw [w17]; simp only [aX7_told_0, aX7_told_1_17, aX7_told_233, aX7_told_234, aX7_told_237, aX7_told_240, Nat.zero_le, Nat.reduceLeDiff, Nat.reduceAdd, i1_0, rr_c3, zc9, oc9, zc10, oc10, zc11, oc11, zc12, oc12, zc13, oc13, zc15, oc15, Int32.lt_irrefl, Nat.zero_lt_one, Rt_cons, Rt_void, isB_0, isB_1, isB_b, true_and, and_true, cats_nil, cats_int, cats_ref, and_self, if_true, if_false, ite_self, le_nlt, ite_not, Rt_nil, d3]
      · rw [w17]; simp only [aX8_told_0, aX8_told_1_17, aX8_told_176, aX8_told_177, aX8_told_180, Nat.zero_le, Nat.reduceLeDiff, Nat.reduceAdd, i1_0, rr_c3, zc9, oc9, zc10, oc10, zc11, oc11, zc12, oc12, zc13, oc13, zc15, oc15, Int32.lt_irrefl, Nat.zero_lt_one, Rt_cons, Rt_void, isB_0, isB_1, isB_b, true_and, and_true, cats_nil, cats_int, cats_ref, and_self, if_true, if_false, ite_self, le_nlt, ite_not, Rt_nil, d5]
theorem api_hear0 (x0 x1 b : Int32) (hb01 : b = 0 ∨ b = 1) : Sim Rel mX7_hear mX8_hear [.int x0, .int x1, .int b] := by
  refine Sim_of (Lc := [.ref (ad 0 0), .int x0, .int x1, .int b]) (Lm := [.ref (ad 29 0), .int x0, .int x1, .int b]) rfl rfl (fun σ hR => ?_)
  obtain ⟨r1, r2, C, N, G, r3, r4, r5, r6, r7⟩ := id hR
  obtain ⟨q1, q2, q3, q4, ⟨l0, l1, l2⟩, ⟨k0, k1, k2⟩, q5, q6, q7⟩ := id r3.1
  have hq := rr_lt (σ 9 0 0)
  have hG : G ≤ 7 := by omega
  by_cases hg : isH G x0
  · by_cases hh : isH N x1
    · obtain ⟨g, g1, rfl⟩ := isH_of hG hg
      obtain ⟨h, h1, rfl⟩ := isH_of q2 hh
      obtain ⟨c, d1, d2, d3, d4⟩ := id r4
      have n6 : nI 6 = 6 := rfl
      by_cases hc : c = 6
      · subst hc
        refine ⟨σ, σ, -1000000004, ?_, ?_, hR⟩
        · simp only [aX7_hear_0, aX7_hear_1, aX7_hear_4, aX7_hear_7, aX7_hear_8, aX7_hear_11, aX7_hear_14, aX7_hear_15, aX7_hear_18, aX7_hear_21, aX7_hear_22, aX7_hear_25, aX7_hear_28, aX7_hear_30, aX7_hear_31, aX7_hear_32, aX7_hear_35, aX7_hear_36, aX7_hear_37, aX7_hear_38, aX7_hear_41, aX7_hear_44, aX7_hear_45, aX7_hear_48, aX7_hear_51, aX7_hear_54, aX7_hear_56, aX1_take_0, aX1_take_1, aX1_take_4, aX1_take_6, aX1_take_9, aX1_take_10, sp_cGull hq k2, sp_cHouse hq k1, Nat.zero_le, Nat.reduceLeDiff, Nat.reduceAdd, i1_0, rr_c3, zc9, oc9, zc10, oc10, zc11, oc11, zc12, oc12, zc13, oc13, zc15, oc15, Int32.lt_irrefl, Nat.zero_lt_one, Rt_cons, Rt_void, isB_0, isB_1, isB_b, true_and, and_true, cats_nil, cats_int, cats_ref, and_self, if_true, if_false, ite_self, le_nlt, ite_not, Rt_nil, bI_t hg, bI_t hh, d2, n6]
        · simp only [aX8_hear_0, aX8_hear_1, aX8_hear_2, aX8_hear_5, aX8_hear_8, aX8_hear_9, aX8_hear_10, aX8_hear_13, aX8_hear_16, aX8_hear_18, aX8_hear_19, aX8_hear_20, aX8_hear_23, aX8_hear_25, aX8_hear_28, aX8_hear_30, sp_mGull hG l2, sp_mHouse q2 l1, Nat.zero_le, Nat.reduceLeDiff, Nat.reduceAdd, i1_0, rr_c3, zc9, oc9, zc10, oc10, zc11, oc11, zc12, oc12, zc13, oc13, zc15, oc15, Int32.lt_irrefl, Nat.zero_lt_one, Rt_cons, Rt_void, isB_0, isB_1, isB_b, true_and, and_true, cats_nil, cats_int, cats_ref, and_self, if_true, if_false, ite_self, le_nlt, ite_not, Rt_nil, bI_t hg, bI_t hh, d3, n6, not_true_eq_false]
      · have hc2 : c < 6 := by omega
        have la : nI c < 6 := nI_lt (b := 6) hc2 (by decide)
        have lb : ¬ nI c = 6 := fun z => hc ((nI_eq (a := c) (b := 6) (by omega) (by decide)).mp z)
        have v6 : vp_in (nI c) 6 := vp_in_nI hc2 (by decide)
        have cl := cl10 (show c < 10000 by omega)
        have i0 : vp_in (nI (3 * c)) 18 := vp_in_nI (by omega) (by decide)
        have i1 : vp_in (nI (3 * c + 1)) 18 := vp_in_nI (by omega) (by decide)
        have i2 : vp_in (nI (3 * c + 2)) 18 := vp_in_nI (by omega) (by decide)
        have cb : vp_nar .boolean b = b := by rcases hb01 with z | z <;> rw [z] <;> rfl
        obtain ⟨σ1, hσ1⟩ : ∃ σ1, σ1 = upS (upS (upS (upS σ 21 0 c (nI g)) 22 0 c (nI h)) 23 0 c b) 20 0 3 (nI (c + 1)) := ⟨_, rfl⟩
        have a20 : ∀ x y z, upS (upS (upS σ 21 0 c x) 22 0 c y) 23 0 c z 20 0 = σ 20 0 := fun x y z => by rw [upS_ne (by decide), upS_ne (by decide), upS_ne (by decide)]
        have a20b : ∀ x y, upS (upS σ 21 0 c x) 22 0 c y 20 0 = σ 20 0 := fun x y => by rw [upS_ne (by decide), upS_ne (by decide)]
        have a20c : ∀ x, upS σ 21 0 c x 20 0 = σ 20 0 := fun x => by rw [upS_ne (by decide)]
        have e29 : σ1 29 0 = σ 29 0 := by rw [hσ1, upS_ne (by decide), upS_ne (by decide), upS_ne (by decide), upS_ne (by decide)]
        have e31 : σ1 31 0 = σ 31 0 := by rw [hσ1, upS_ne (by decide), upS_ne (by decide), upS_ne (by decide), upS_ne (by decide)]
        obtain ⟨σ2, hσ2⟩ : ∃ σ2, σ2 = upS (updK σ1 49 0 (upd (upd (upd (σ1 49 0) (3 * c) (nI g)) (3 * c + 1) (nI h)) (3 * c + 2) b)) 29 0 24 (nI (c + 1)) := ⟨_, rfl⟩
        refine ⟨σ1, σ2, nI (c + 1), ?_, ?_, ?_⟩
        · simp only [aX7_hear_0, aX7_hear_1, aX7_hear_4, aX7_hear_7, aX7_hear_8, aX7_hear_11, aX7_hear_14, aX7_hear_15, aX7_hear_18, aX7_hear_21, aX7_hear_22, aX7_hear_25, aX7_hear_28, aX7_hear_30, aX7_hear_31, aX7_hear_32, aX7_hear_35, aX7_hear_36, sp_cGull hq k2, sp_cHouse hq k1, Nat.zero_le, Nat.reduceLeDiff, Nat.reduceAdd, i1_0, rr_c3, zc9, oc9, zc10, oc10, zc11, oc11, zc12, oc12, zc13, oc13, zc15, oc15, Int32.lt_irrefl, Nat.zero_lt_one, Rt_cons, Rt_void, isB_0, isB_1, isB_b, true_and, and_true, cats_nil, cats_int, cats_ref, and_self, if_true, if_false, ite_self, le_nlt, ite_not, Rt_nil, bI_t hg, bI_t hh]
          rw [aX7_hear_37]
          simp only [aX7_hear_38, aX1_take_0, aX1_take_1, aX1_take_4, aX1_take_6, aX1_take_9, aX1_take_10, aX1_take_11, aX1_take_12, aX1_take_15, aX1_take_16, aX1_take_19, aX1_take_20, aX1_take_21, aX1_take_22, aX1_take_25, aX1_take_26, aX1_take_29, aX1_take_30, aX1_take_31, aX1_take_32, aX1_take_35, aX1_take_36, aX1_take_39, aX1_take_40, aX1_take_41, aX1_take_42i, aX1_take_42a, aX1_take_43, aX1_take_46, aX1_take_47, aX1_take_48, aX1_take_51, aX1_take_52, Nat.zero_le, Nat.reduceLeDiff, Nat.reduceAdd, i1_0, rr_c3, zc9, oc9, zc10, oc10, zc11, oc11, zc12, oc12, zc13, oc13, zc15, oc15, Int32.lt_irrefl, Nat.zero_lt_one, Rt_cons, Rt_void, isB_0, isB_1, isB_b, true_and, and_true, cats_nil, cats_int, cats_ref, and_self, if_true, if_false, ite_self, le_nlt, ite_not, d2, la, aT_21, aN_21, cnt_21, aT_22, aN_22, cnt_22, aT_23, aN_23, cnt_23, v6, cl, cb, a20, a20b, a20c, nI_1]
          simp only [aX7_hear_41, aX7_hear_44, aX7_hear_45, aX7_hear_48, aX7_hear_51, aX7_hear_54, aX7_hear_56, Nat.zero_le, Nat.reduceLeDiff, Nat.reduceAdd, i1_0, rr_c3, zc9, oc9, zc10, oc10, zc11, oc11, zc12, oc12, zc13, oc13, zc15, oc15, Int32.lt_irrefl, Nat.zero_lt_one, Rt_cons, Rt_void, isB_0, isB_1, isB_b, true_and, and_true, cats_nil, cats_int, cats_ref, and_self, if_true, if_false, ite_self, le_nlt, ite_not, Rt_nil, upS_eq, upd_eq, hσ1]
        · have m31a : σ1 31 0 1 = nI N := by rw [e31]; exact l1
          have m31b : σ1 31 0 2 = nI G := by rw [e31]; exact l2
          have m24 : σ1 29 0 24 = nI c := by rw [e29]; exact d3
          have u29 : ∀ f, updK σ1 49 0 f 29 0 = σ1 29 0 := fun f => updK_ne (by decide)
          rw [hσ2]
          have A : Rn mX8_hear 0 [.ref (ad 29 0), .int (nI g), .int (nI h), .int b] [] [] (enc σ1) (fun X v => X = enc (upS (updK σ1 49 0 (upd (upd (upd (σ1 49 0) (3 * c) (nI g)) (3 * c + 1) (nI h)) (3 * c + 2) b)) 29 0 24 (nI (c + 1))) ∧ v = some (.int (nI (c + 1)))) ↔ Rn mX8_hear 70 [.ref (ad 29 0), .int (nI g), .int (nI h), .int b] [.int b, .int (nI (3 * c + 2)), .ref (ad 49 0)] [] (enc (updK σ1 49 0 (upd (upd (σ1 49 0) (3 * c) (nI g)) (3 * c + 1) (nI h)))) (fun X v => X = enc (upS (updK σ1 49 0 (upd (upd (upd (σ1 49 0) (3 * c) (nI g)) (3 * c + 1) (nI h)) (3 * c + 2) b)) 29 0 24 (nI (c + 1))) ∧ v = some (.int (nI (c + 1)))) := by
            simp only [aX8_hear_0, aX8_hear_1, aX8_hear_2, aX8_hear_5, aX8_hear_8, aX8_hear_9, aX8_hear_10, aX8_hear_13, aX8_hear_16, aX8_hear_18, aX8_hear_19, aX8_hear_20, aX8_hear_23, aX8_hear_25, aX8_hear_28, aX8_hear_30, aX8_hear_31, aX8_hear_32, aX8_hear_35, aX8_hear_36, aX8_hear_37, aX8_hear_40, aX8_hear_41, aX8_hear_42, aX8_hear_43, aX8_hear_44, aX8_hear_47, aX8_hear_48, aX8_hear_49, aX8_hear_52, aX8_hear_53, aX8_hear_54, aX8_hear_55, aX8_hear_56, aX8_hear_57, aX8_hear_58, aX8_hear_61, aX8_hear_62, aX8_hear_63, aX8_hear_66, aX8_hear_67, aX8_hear_68, aX8_hear_69, sp_mGull hG m31b, sp_mHouse q2 m31a, Nat.zero_le, Nat.reduceLeDiff, Nat.reduceAdd, i1_0, rr_c3, zc9, oc9, zc10, oc10, zc11, oc11, zc12, oc12, zc13, oc13, zc15, oc15, Int32.lt_irrefl, Nat.zero_lt_one, Rt_cons, Rt_void, isB_0, isB_1, isB_b, true_and, and_true, cats_nil, cats_int, cats_ref, and_self, if_true, if_false, ite_self, le_nlt, ite_not, bI_t hg, bI_t hh, m24, lb, not_false_eq_true, aT_49, aN_49, cnt_49, n3, nI_1, nI_2, i0, i1, cl10 (show 3 * c < 10000 by omega), cl10 (show 3 * c + 1 < 10000 by omega), upS_chain, updK_eq, updK_idem, u29]
          rw [A]
          rcases hb01 with z | z
          · rw [z]
            simp only [aX8_hear_70, aX8_hear_73, aX8_hear_74, aX8_hear_77, aX8_hear_78, aX8_hear_79, aX8_hear_80i, aX8_hear_80a, aX8_hear_81, aX8_hear_84, aX8_hear_85, aX8_hear_86, aX8_hear_89, aX8_hear_90, aX8_hear_93, Nat.zero_le, Nat.reduceLeDiff, Nat.reduceAdd, i1_0, rr_c3, zc9, oc9, zc10, oc10, zc11, oc11, zc12, oc12, zc13, oc13, zc15, oc15, Int32.lt_irrefl, Nat.zero_lt_one, Rt_cons, Rt_void, isB_0, isB_1, isB_b, true_and, and_true, cats_nil, cats_int, cats_ref, and_self, if_true, if_false, ite_self, le_nlt, ite_not, Rt_nil, aT_49, aN_49, cnt_49, i2, cl10 (show 3 * c + 2 < 10000 by omega), upS_chain, updK_eq, updK_idem, u29, m24, nI_1, upd_eq]
          · rw [z]
            simp only [aX8_hear_70, aX8_hear_73, aX8_hear_74, aX8_hear_77, aX8_hear_78, aX8_hear_79, aX8_hear_80i, aX8_hear_80a, aX8_hear_81, aX8_hear_84, aX8_hear_85, aX8_hear_86, aX8_hear_89, aX8_hear_90, aX8_hear_93, Nat.zero_le, Nat.reduceLeDiff, Nat.reduceAdd, i1_0, rr_c3, zc9, oc9, zc10, oc10, zc11, oc11, zc12, oc12, zc13, oc13, zc15, oc15, Int32.lt_irrefl, Nat.zero_lt_one, Rt_cons, Rt_void, isB_0, isB_1, isB_b, true_and, and_true, cats_nil, cats_int, cats_ref, and_self, if_true, if_false, ite_self, le_nlt, ite_not, Rt_nil, aT_49, aN_49, cnt_49, i2, cl10 (show 3 * c + 2 < 10000 by omega), upS_chain, updK_eq, updK_idem, u29, m24, nI_1, upd_eq]
        · have hne : ∀ k i, (k ≠ 20 ∧ k ≠ 21 ∧ k ≠ 22 ∧ k ≠ 23 ∧ k ≠ 29 ∧ k ≠ 49) → σ2 k i = σ k i := fun k i a => by rw [hσ2, upS_ne (by omega), updK_ne (by omega), hσ1, upS_ne (by omega), upS_ne (by omega), upS_ne (by omega), upS_ne (by omega)]
          have f29 : σ2 29 0 = upd (σ 29 0) 24 (nI (c + 1)) := by rw [hσ2, upS_eq, updK_ne (by decide), e29]
          have f20 : σ2 20 0 = upd (σ 20 0) 3 (nI (c + 1)) := by rw [hσ2, upS_ne (by decide), updK_ne (by decide), hσ1, upS_eq, a20]
          have f21 : σ2 21 0 = upd (σ 21 0) c (nI g) := by rw [hσ2, upS_ne (by decide), updK_ne (by decide), hσ1, upS_ne (by decide), upS_ne (by decide), upS_ne (by decide), upS_eq]
          have f22 : σ2 22 0 = upd (σ 22 0) c (nI h) := by rw [hσ2, upS_ne (by decide), updK_ne (by decide), hσ1, upS_ne (by decide), upS_ne (by decide), upS_eq, upS_ne (by decide)]
          have f23 : σ2 23 0 = upd (σ 23 0) c b := by rw [hσ2, upS_ne (by decide), updK_ne (by decide), hσ1, upS_ne (by decide), upS_eq, upS_ne (by decide), upS_ne (by decide)]
          have f49 : σ2 49 0 = upd (upd (upd (σ 49 0) (3 * c) (nI g)) (3 * c + 1) (nI h)) (3 * c + 2) b := by rw [hσ2, upS_ne (by decide), updK_eq, hσ1, upS_ne (by decide), upS_ne (by decide), upS_ne (by decide), upS_ne (by decide)]
          have e29' : ∀ s, s ≠ 24 → σ2 29 0 s = σ 29 0 s := fun s a => by rw [f29, upd_ne a]
          refine ⟨TxtR_congr r1 (hne _ _ (by decide)) (hne _ _ (by decide)) (hne _ _ (by decide)) (e29' _ (by decide)) (e29' _ (by decide)), SeedR_congr r2 (by rw [hne 0 0 (by decide)]) (e29' _ (by decide)), C, N, G, NowR_congr r3 (by rw [hne 0 0 (by decide)]) (fun k q a => hne _ _ (by omega)) (fun k a b => hne _ _ (by omega)) (fun k a => hne _ _ (by omega)) (hne _ _ (by decide)), ⟨c + 1, by omega, by rw [f20, upd_eq], by rw [f29, upd_eq], fun j hj => ?_⟩, BookR_congr r5 (by rw [hne 26 0 (by decide)]) (e29' _ (by decide)) (hne _ _ (by decide)) (hne _ _ (by decide)) (hne _ _ (by decide)), (by rw [hne 9 0 (by decide)]; exact PastR_congr r6 (hne _ _ (by decide)) (e29' _ (by decide)) (hne _ _ (by decide)) (fun k i a b _ _ => hne _ _ (by omega))), (by rw [hne 9 0 (by decide)]; exact ImgR_congr r7 (fun i => hne _ _ (by decide)) (hne _ _ (by decide)) (hne _ _ (by decide)) (hne _ _ (by decide)) (fun k i a b _ _ => hne _ _ (by omega)))⟩
          by_cases hjc : j = c
          · subst hjc
            refine ⟨g, h, g1, h1, by rw [f21, upd_eq], by rw [f22, upd_eq], by rw [f49, upd_ne (by omega), upd_ne (by omega), upd_eq], by rw [f49, upd_ne (by omega), upd_eq], by rw [f49, f23, upd_eq, upd_eq], by rw [f23, upd_eq]; exact hb01⟩
          · obtain ⟨a, b', z1, z2, z3, z4, z5, z6, z7, z8⟩ := d4 j (by omega)
            refine ⟨a, b', z1, z2, by rw [f21, upd_ne hjc]; exact z3, by rw [f22, upd_ne hjc]; exact z4, by rw [f49, upd_ne (by omega), upd_ne (by omega), upd_ne (by omega)]; exact z5, by rw [f49, upd_ne (by omega), upd_ne (by omega), upd_ne (by omega)]; exact z6, by rw [f49, f23, upd_ne hjc, upd_ne (by omega), upd_ne (by omega), upd_ne (by omega)]; exact z7, by rw [f23, upd_ne hjc]; exact z8⟩
    · refine ⟨σ, σ, -1000000001, ?_, ?_, hR⟩
      · simp only [aX7_hear_0, aX7_hear_1, aX7_hear_4, aX7_hear_7, aX7_hear_8, aX7_hear_11, aX7_hear_14, aX7_hear_15, aX7_hear_18, aX7_hear_21, aX7_hear_22, aX7_hear_25, aX7_hear_28, aX7_hear_30, sp_cGull hq k2, sp_cHouse hq k1, Nat.zero_le, Nat.reduceLeDiff, Nat.reduceAdd, i1_0, rr_c3, zc9, oc9, zc10, oc10, zc11, oc11, zc12, oc12, zc13, oc13, zc15, oc15, Int32.lt_irrefl, Nat.zero_lt_one, Rt_cons, Rt_void, isB_0, isB_1, isB_b, true_and, and_true, cats_nil, cats_int, cats_ref, and_self, if_true, if_false, ite_self, le_nlt, ite_not, Rt_nil, bI_t hg, bI_f hh]
      · simp only [aX8_hear_0, aX8_hear_1, aX8_hear_2, aX8_hear_5, aX8_hear_8, aX8_hear_9, aX8_hear_10, aX8_hear_13, aX8_hear_16, aX8_hear_18, sp_mGull hG l2, sp_mHouse q2 l1, Nat.zero_le, Nat.reduceLeDiff, Nat.reduceAdd, i1_0, rr_c3, zc9, oc9, zc10, oc10, zc11, oc11, zc12, oc12, zc13, oc13, zc15, oc15, Int32.lt_irrefl, Nat.zero_lt_one, Rt_cons, Rt_void, isB_0, isB_1, isB_b, true_and, and_true, cats_nil, cats_int, cats_ref, and_self, if_true, if_false, ite_self, le_nlt, ite_not, Rt_nil, bI_t hg, bI_f hh]
  · refine ⟨σ, σ, -1000000001, ?_, ?_, hR⟩
    · simp only [aX7_hear_0, aX7_hear_1, aX7_hear_4, aX7_hear_7, aX7_hear_8, aX7_hear_11, aX7_hear_14, aX7_hear_15, aX7_hear_18, aX7_hear_21, aX7_hear_22, aX7_hear_25, aX7_hear_28, aX7_hear_30, sp_cGull hq k2, sp_cHouse hq k1, Nat.zero_le, Nat.reduceLeDiff, Nat.reduceAdd, i1_0, rr_c3, zc9, oc9, zc10, oc10, zc11, oc11, zc12, oc12, zc13, oc13, zc15, oc15, Int32.lt_irrefl, Nat.zero_lt_one, Rt_cons, Rt_void, isB_0, isB_1, isB_b, true_and, and_true, cats_nil, cats_int, cats_ref, and_self, if_true, if_false, ite_self, le_nlt, ite_not, Rt_nil, bI_f hg]
    · simp only [aX8_hear_0, aX8_hear_1, aX8_hear_2, aX8_hear_5, aX8_hear_8, aX8_hear_9, aX8_hear_10, aX8_hear_13, aX8_hear_16, aX8_hear_18, sp_mGull hG l2, sp_mHouse q2 l1, Nat.zero_le, Nat.reduceLeDiff, Nat.reduceAdd, i1_0, rr_c3, zc9, oc9, zc10, oc10, zc11, oc11, zc12, oc12, zc13, oc13, zc15, oc15, Int32.lt_irrefl, Nat.zero_lt_one, Rt_cons, Rt_void, isB_0, isB_1, isB_b, true_and, and_true, cats_nil, cats_int, cats_ref, and_self, if_true, if_false, ite_self, le_nlt, ite_not, Rt_nil, bI_f hg]
theorem api_hear (x0 x1 x2 : Int32) : Sim Rel mX7_hear mX8_hear [.int x0, .int x1, .int (bI (¬ x2 = 0))] := api_hear0 _ _ _ (by by_cases q : x2 = 0 <;> simp [bI, q])
end S71
