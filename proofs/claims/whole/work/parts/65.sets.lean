-- sets of houses
set_option maxRecDepth 100000 in
theorem andn7 : ∀ a, a < 128 → ∀ b, b < 128 → nI a &&& (nI b ^^^ (-1)) = nI (a &&& (b ^^^ 127)) := by decide +kernel
theorem tb_div (a h : Nat) : a / 2 ^ h % 2 = if a.testBit h = true then 1 else 0 := by
  have := Nat.testBit_eq_decide_div_mod_eq (x := a) (i := h)
  have h2 : a / 2 ^ h % 2 < 2 := Nat.mod_lt _ (by omega)
  rw [this]
  by_cases q : a / 2 ^ h % 2 = 1
  · simp [q]
  · have : a / 2 ^ h % 2 = 0 := by omega
    simp [this]
theorem bitI {a h : Nat} (ha : a < 128) (hh : h < 7) : nI a >>> (nI h &&& 31) &&& 1 = bI (a.testBit h = true) := by
  rw [shr7 a ha h hh, tb_div]
  unfold bI
  split <;> rfl
def orL (f : Nat → Nat) (p : Nat → Bool) (a : Nat) : Nat → Nat
  | 0 => a
  | m + 1 => orL f p a m ||| (if p (f m) = true then 2 ^ f m else 0)
theorem tb_if (c : Bool) (h t : Nat) : (if c = true then 2 ^ h else 0).testBit t = (c && decide (h = t)) := by
  cases c
  · simp
  · simp [Nat.testBit_two_pow]
theorem orL_tb {f : Nat → Nat} {p : Nat → Bool} {a t : Nat} : ∀ {m : Nat}, (orL f p a m).testBit t = true ↔ a.testBit t = true ∨ (p t = true ∧ ∃ j, j < m ∧ f j = t) := by
  intro m
  induction m with
  | zero => simp [orL]
  | succ m ih =>
    unfold orL
    rw [Nat.testBit_or, tb_if, Bool.or_eq_true, ih, Bool.and_eq_true, decide_eq_true_iff]
    constructor
    · rintro ((h | ⟨h, j, hj, e⟩) | ⟨h, e⟩)
      · exact Or.inl h
      · exact Or.inr ⟨h, j, by omega, e⟩
      · exact Or.inr ⟨by rw [← e]; exact h, m, by omega, e⟩
    · rintro (h | ⟨h, j, hj, e⟩)
      · exact Or.inl (Or.inl h)
      · by_cases q : j = m
        · subst q
          exact Or.inr ⟨by rw [e]; exact h, e⟩
        · exact Or.inl (Or.inr ⟨h, j, by omega, e⟩)
theorem orL_lt {f : Nat → Nat} {p : Nat → Bool} {a : Nat} (ha : a < 128) (hf : ∀ j, f j < 7) : ∀ m, orL f p a m < 128 := by
  intro m
  induction m with
  | zero => exact ha
  | succ m ih =>
    unfold orL
    have h2 : (if p (f m) = true then 2 ^ f m else 0) < 2 ^ 7 := by
      split
      · exact Nat.pow_lt_pow_right (by omega) (hf m)
      · omega
    exact Nat.or_lt_two_pow (n := 7) ih h2
/-- the set of what is so among the first n -/
def bs (p : Nat → Bool) (n : Nat) : Nat := orL (fun j => j) p 0 n
theorem bs_tb {p : Nat → Bool} {n t : Nat} : (bs p n).testBit t = true ↔ p t = true ∧ t < n := by
  unfold bs
  rw [orL_tb]
  constructor
  · rintro (h | ⟨h, j, hj, e⟩)
    · simp at h
    · exact ⟨h, by omega⟩
  · rintro ⟨h, e⟩
    exact Or.inr ⟨h, t, e, rfl⟩
theorem orL_lt2 {f : Nat → Nat} {p : Nat → Bool} {a : Nat} (ha : a < 128) : ∀ m, (∀ j, j < m → f j < 7) → orL f p a m < 128 := by
  intro m
  induction m with
  | zero => intro _; exact ha
  | succ m ih =>
    intro hf
    unfold orL
    have h2 : (if p (f m) = true then 2 ^ f m else 0) < 2 ^ 7 := by
      split
      · exact Nat.pow_lt_pow_right (by omega) (hf m (by omega))
      · omega
    exact Nat.or_lt_two_pow (n := 7) (ih (fun j hj => hf j (by omega))) h2
theorem bs_lt {p : Nat → Bool} {n : Nat} (hn : n ≤ 7) : bs p n < 128 := orL_lt2 (by omega) n (fun j hj => by show j < 7; omega)
theorem tb_ext {a b : Nat} (h : ∀ t, a.testBit t = true ↔ b.testBit t = true) : a = b := by
  apply Nat.eq_of_testBit_eq
  intro t
  have := h t
  cases ha : a.testBit t <;> cases hb : b.testBit t <;> simp [ha, hb] at this <;> rfl
theorem bs_cong {p q : Nat → Bool} {n : Nat} (h : ∀ t, t < n → p t = q t) : bs p n = bs q n := by
  apply tb_ext
  intro t
  rw [bs_tb, bs_tb]
  constructor
  · rintro ⟨a, b⟩; exact ⟨by rw [← h t b]; exact a, b⟩
  · rintro ⟨a, b⟩; exact ⟨by rw [h t b]; exact a, b⟩
theorem tb_127 (t : Nat) : Nat.testBit 127 t = decide (t < 7) := by
  have : (127 : Nat) = 2 ^ 7 - 1 := rfl
  rw [this, Nat.testBit_two_pow_sub_one]
theorem andn_tb {a b t : Nat} : (a &&& (b ^^^ 127)).testBit t = true ↔ a.testBit t = true ∧ (b.testBit t ^^ decide (t < 7)) = true := by
  rw [Nat.testBit_and, Nat.testBit_xor, tb_127, Bool.and_eq_true]
theorem bs_diff {p q : Nat → Bool} {n : Nat} (hn : n ≤ 7) : nI (bs p n) &&& (nI (bs q n) ^^^ (-1)) = nI (bs (fun t => p t && !q t) n) := by
  rw [andn7 _ (bs_lt hn) _ (bs_lt hn)]
  congr 1
  apply tb_ext
  intro t
  rw [andn_tb, bs_tb, bs_tb]
  by_cases ht : t < n
  · have h7 : t < 7 := by omega
    have : (bs q n).testBit t = q t := by
      cases hq : q t
      · cases hb : (bs q n).testBit t
        · rfl
        · have := (bs_tb.mp hb).1; rw [hq] at this; cases this
      · exact bs_tb.mpr ⟨hq, ht⟩
    rw [this]
    simp [ht, h7]
  · simp [ht]
theorem bs_succ (p : Nat → Bool) (n : Nat) : bs p (n + 1) = bs p n ||| (if p n = true then 2 ^ n else 0) := rfl
section S65
variable {σ : Mem} {fs : List Fm} {M : List va_E} {Q : List va_E → Option Value → Prop}
theorem sp_has {a h : Nat} (ha : a < 128) (hh : h < 7) : Rn mX8_has 0 [.int (nI a), .int (nI h)] [] fs M Q ↔ Rt fs M (some (.int (bI (a.testBit h = true)))) Q := by
  simp only [aX8_has_0, aX8_has_1, aX8_has_2, aX8_has_3, aX8_has_4, aX8_has_5, aX8_has_6, aX8_has_9, aX8_has_10, aX8_has_13, aX8_has_14, Nat.zero_le, Nat.reduceLeDiff, Nat.reduceAdd, i1_0, rr_c3, zc9, oc9, zc10, oc10, zc11, oc11, zc12, oc12, zc13, oc13, zc15, oc15, Int32.lt_irrefl, Nat.zero_lt_one, Rt_cons, Rt_void, isB_0, isB_1, isB_b, true_and, and_true, cats_nil, cats_int, cats_ref, and_self, if_true, if_false, ite_self, le_nlt, ite_not, bitI ha hh, bI_1]
  by_cases q : a.testBit h = true
  · simp [q, bI]
  · simp [q, bI]
theorem sp_in7 {a h : Nat} (ha : a < 128) (hh : h < 7) : Rn mX7_isIn 0 [.int (nI a), .int (nI h)] [] fs M Q ↔ Rt fs M (some (.int (bI (a.testBit h = true)))) Q := by
  rw [sp_isIn, bitI ha hh]
  by_cases q : a.testBit h = true
  · rw [bI_t q, bI_t rfl]
  · rw [bI_f q, bI_f (by decide)]
theorem em_bs (f : Nat → Int32) : emN f = bs (fun t => decide (¬ f t = 0)) 7 := by
  apply tb_ext
  intro t
  rw [bs_tb, decide_eq_true_iff]
  by_cases ht : t < 7
  · have h1 := emN_0 (f := f) ht
    have h2 := tb_div (emN f) t
    constructor
    · intro q
      rw [if_pos q] at h2
      exact ⟨(fun z => by rw [h1.mpr z] at h2; omega), ht⟩
    · rintro ⟨q, -⟩
      by_cases z : (emN f).testBit t = true
      · exact z
      · rw [if_neg z] at h2; exact absurd (h1.mp h2) q
  · constructor
    · intro q
      rw [Nat.testBit_lt_two_pow (Nat.lt_of_lt_of_le (emN_lt f) (show 2 ^ 7 ≤ 2 ^ t from Nat.pow_le_pow_right (by omega) (by omega)))] at q
      cases q
    · rintro ⟨-, q⟩; exact absurd q ht
theorem st2_iff {i j : Nat} {w : Nat → Int32} (h : Ch σ i w j) : w (64 + 5 * j + 1) = 2 ↔ ¬ σ 14 i j = 0 := by
  rw [h.2.2.2.2.2]
  unfold std
  by_cases z : σ 14 i j = 0
  · rw [if_pos z]
    constructor
    · intro y
      split at y <;> exact absurd y (by decide)
    · intro y; exact absurd z y
  · rw [if_neg z]; simp [z]
/-- none is empty behind the last -/
abbrev NoE (N : Nat) (w : Nat → Int32) : Prop := ∀ t, t < 7 → N ≤ t → ¬ w (64 + 5 * t + 1) = 2
theorem NoE_of {B G N : Nat} {w : Nat → Int32} (h : WFx B G N w) : NoE N w := fun t ht hn => ((h.2.2.2.1 t ht).2.2.2.2.2.1 hn).2
/-- the empty houses -/
theorem em_set {i N : Nat} {w : Nat → Int32} (h : CS σ i w) (hN : N ≤ 7) (hb : NoE N w) : emS (σ 14 i) = nI (bs (fun t => decide (w (64 + 5 * t + 1) = 2)) N) := by
  unfold emS
  rw [em_bs]
  congr 1
  apply tb_ext
  intro t
  rw [bs_tb, bs_tb, decide_eq_true_iff, decide_eq_true_iff]
  constructor
  · rintro ⟨a, b⟩
    have e := (st2_iff (w := w) (h.2.2.2.2.2 t b)).mpr a
    refine ⟨e, ?_⟩
    rcases Nat.lt_or_ge t N with z | z
    · exact z
    · exact absurd e (hb t b z)
  · rintro ⟨a, b⟩
    exact ⟨(st2_iff (w := w) (h.2.2.2.2.2 t (by omega))).mp a, by omega⟩
theorem all_s : ∀ N, N ≤ 7 → (1 : Int32) <<< (nI N &&& 31) - 1 = nI (2 ^ N - 1) := by decide
theorem bs_all {N : Nat} : 2 ^ N - 1 = bs (fun _ => true) N := by
  apply tb_ext
  intro t
  rw [bs_tb, Nat.testBit_two_pow_sub_one, decide_eq_true_iff]
  simp
theorem lp_ghs {i N : Nat} {w : Nat → Int32} (hi : i < 34) (hN : N ≤ 7) (e : σ 3 (rr (σ 9 i 0)) 1 = nI N) (h : CS σ i w) : ∀ m k, k + m = N → (Rn mX5_gullHeldSet 4 [.ref (ad 9 i), .int (nI (bs (fun t => decide (¬ w (64 + 5 * t + 2) = -1)) k)), .int (nI k)] [] fs (enc σ) Q ↔ Rt fs (enc σ) (some (.int (nI (bs (fun t => decide (¬ w (64 + 5 * t + 2) = -1)) N)))) Q) := by
  intro m
  have c9 : i < cnt 9 := hi
  have c10 : i < cnt 10 := hi
  have c11 : i < cnt 11 := hi
  have c12 : i < cnt 12 := hi
  have c13 : i < cnt 13 := hi
  have c15 : i < cnt 15 := hi
  induction m with
  | zero =>
    intro k hk
    obtain rfl : k = N := by omega
    simp only [aX5_gullHeldSet_4, aX5_gullHeldSet_5, aX5_gullHeldSet_6, aX5_gullHeldSet_9, aX5_gullHeldSet_12, aX5_gullHeldSet_37, aX5_gullHeldSet_38, Nat.zero_le, Nat.reduceLeDiff, Nat.reduceAdd, i1_0, rr_c3, zc9, oc9, zc10, oc10, zc11, oc11, zc12, oc12, zc13, oc13, zc15, oc15, Int32.lt_irrefl, Nat.zero_lt_one, Rt_cons, Rt_void, isB_0, isB_1, isB_b, true_and, and_true, cats_nil, cats_int, cats_ref, and_self, if_true, if_false, ite_self, le_nlt, ite_not, c9, c10, c11, c12, c13, c15, aT_10, aT_11, aT_12, aT_13, aT_15, aN_10, aN_11, aN_12, aN_13, aN_15, rr_lt, e]
  | succ m ih =>
    intro k hk
    have l : nI k < nI N := nI_lt (by omega) (by omega)
    have ck := h.2.2.2.2.2 k (by omega)
    rw [aX5_gullHeldSet_4]
    have ih' := ih (k + 1) (by omega)
    rw [bs_succ] at ih'
    by_cases q : w (64 + 5 * k + 2) = -1
    · rw [if_neg (by simp [q]), Nat.or_zero] at ih'
      simp only [aX5_gullHeldSet_5, aX5_gullHeldSet_6, aX5_gullHeldSet_9, aX5_gullHeldSet_12, aX5_gullHeldSet_15, aX5_gullHeldSet_16, aX5_gullHeldSet_19, aX5_gullHeldSet_20, aX5_gullHeldSet_21, aX5_gullHeldSet_22, aX5_gullHeldSet_25, aX5_gullHeldSet_26, aX5_gullHeldSet_27, aX5_gullHeldSet_28, aX5_gullHeldSet_29, aX5_gullHeldSet_30, aX5_gullHeldSet_31, aX5_gullHeldSet_34, Nat.zero_le, Nat.reduceLeDiff, Nat.reduceAdd, i1_0, rr_c3, zc9, oc9, zc10, oc10, zc11, oc11, zc12, oc12, zc13, oc13, zc15, oc15, Int32.lt_irrefl, Nat.zero_lt_one, Rt_cons, Rt_void, isB_0, isB_1, isB_b, true_and, and_true, cats_nil, cats_int, cats_ref, and_self, if_true, if_false, ite_self, le_nlt, ite_not, c9, c10, c11, c12, c13, c15, aT_10, aT_11, aT_12, aT_13, aT_15, aN_10, aN_11, aN_12, aN_13, aN_15, rr_lt, e, l, in7 (show k < 7 by omega), cl10 (show k < 10000 by omega), ck.2.1, q, not_true_eq_false, nI_1]
      exact ih'
    · rw [if_pos (by simp [q])] at ih'
      simp only [aX5_gullHeldSet_5, aX5_gullHeldSet_6, aX5_gullHeldSet_9, aX5_gullHeldSet_12, aX5_gullHeldSet_15, aX5_gullHeldSet_16, aX5_gullHeldSet_19, aX5_gullHeldSet_20, aX5_gullHeldSet_21, aX5_gullHeldSet_22, aX5_gullHeldSet_25, aX5_gullHeldSet_26, aX5_gullHeldSet_27, aX5_gullHeldSet_28, aX5_gullHeldSet_29, aX5_gullHeldSet_30, aX5_gullHeldSet_31, aX5_gullHeldSet_34, Nat.zero_le, Nat.reduceLeDiff, Nat.reduceAdd, i1_0, rr_c3, zc9, oc9, zc10, oc10, zc11, oc11, zc12, oc12, zc13, oc13, zc15, oc15, Int32.lt_irrefl, Nat.zero_lt_one, Rt_cons, Rt_void, isB_0, isB_1, isB_b, true_and, and_true, cats_nil, cats_int, cats_ref, and_self, if_true, if_false, ite_self, le_nlt, ite_not, c9, c10, c11, c12, c13, c15, aT_10, aT_11, aT_12, aT_13, aT_15, aN_10, aN_11, aN_12, aN_13, aN_15, rr_lt, e, l, in7 (show k < 7 by omega), cl10 (show k < 10000 by omega), ck.2.1, q, not_false_eq_true, sh1 k (by omega), or_nI, nI_1]
      exact ih'
theorem sp_ghs {i N : Nat} {w : Nat → Int32} (hi : i < 34) (hN : N ≤ 7) (e : σ 3 (rr (σ 9 i 0)) 1 = nI N) (h : CS σ i w) : Rn mX5_gullHeldSet 0 [.ref (ad 9 i), .null, .null] [] fs (enc σ) Q ↔ Rt fs (enc σ) (some (.int (nI (bs (fun t => decide (¬ w (64 + 5 * t + 2) = -1)) N)))) Q := by
  have := lp_ghs (fs := fs) (Q := Q) hi hN e h N 0 (by omega)
  have e0 : nI (bs (fun t => decide (¬ w (64 + 5 * t + 2) = -1)) 0) = 0 := rfl
  have e1 : nI 0 = 0 := rfl
  rw [e0, e1] at this
  simp only [aX5_gullHeldSet_0, aX5_gullHeldSet_1, aX5_gullHeldSet_2, aX5_gullHeldSet_3, Nat.zero_le, Nat.reduceLeDiff, Nat.reduceAdd, i1_0, rr_c3, zc9, oc9, zc10, oc10, zc11, oc11, zc12, oc12, zc13, oc13, zc15, oc15, Int32.lt_irrefl, Nat.zero_lt_one, Rt_cons, Rt_void, isB_0, isB_1, isB_b, true_and, and_true, cats_nil, cats_int, cats_ref, and_self, if_true, if_false, ite_self, le_nlt, ite_not]
  exact this
theorem sp_heldSet {i N : Nat} {w : Nat → Int32} (hi : i < 34) (hN : N ≤ 7) (e : σ 3 (rr (σ 9 i 0)) 1 = nI N) (h : CS σ i w) (hb : NoE N w) : Rn mX5_heldSet 0 [.ref (ad 9 i)] [] fs (enc σ) Q ↔ Rt fs (enc σ) (some (.int (nI (bs (fun t => decide (w (64 + 5 * t + 1) = 0)) N)))) Q := by
  have c9 : i < cnt 9 := hi
  have c10 : i < cnt 10 := hi
  have c11 : i < cnt 11 := hi
  have c12 : i < cnt 12 := hi
  have c13 : i < cnt 13 := hi
  have c15 : i < cnt 15 := hi
  have ec : bs (fun t => decide (¬ w (64 + 5 * t + 2) = -1) && !decide (w (64 + 5 * t + 1) = 2)) N = bs (fun t => decide (w (64 + 5 * t + 1) = 0)) N := bs_cong (fun t ht => by
    have ck := h.2.2.2.2.2 t (by omega)
    have h2 := st2_iff (w := w) ck
    have h0 := held_iff (w := w) ck
    rw [ck.2.1] at h0
    by_cases a : σ 14 i t = 0 <;> by_cases b : w (64 + 5 * t + 2) = -1 <;> simp [h2, ← h0, a, b])
  simp only [aX5_heldSet_0, aX5_heldSet_1, aX5_heldSet_4, aX5_heldSet_5, aX5_heldSet_8, aX5_heldSet_9, aX5_heldSet_10, aX5_heldSet_11, sp_ghs hi hN e h, Nat.zero_le, Nat.reduceLeDiff, Nat.reduceAdd, i1_0, rr_c3, zc9, oc9, zc10, oc10, zc11, oc11, zc12, oc12, zc13, oc13, zc15, oc15, Int32.lt_irrefl, Nat.zero_lt_one, Rt_cons, Rt_void, isB_0, isB_1, isB_b, true_and, and_true, cats_nil, cats_int, cats_ref, and_self, if_true, if_false, ite_self, le_nlt, ite_not, c9, c10, c11, c12, c13, c15, aT_10, aT_11, aT_12, aT_13, aT_15, aN_10, aN_11, aN_12, aN_13, aN_15, em_set h hN hb, bs_diff hN, ec]
theorem sp_freeSet {i N : Nat} {w : Nat → Int32} (hi : i < 34) (hN : N ≤ 7) (e : σ 3 (rr (σ 9 i 0)) 1 = nI N) (h : CS σ i w) (hb : NoE N w) : Rn mX5_freeSet 0 [.ref (ad 9 i)] [] fs (enc σ) Q ↔ Rt fs (enc σ) (some (.int (nI (bs (fun t => decide (w (64 + 5 * t + 1) = 1)) N)))) Q := by
  have c9 : i < cnt 9 := hi
  have c10 : i < cnt 10 := hi
  have c11 : i < cnt 11 := hi
  have c12 : i < cnt 12 := hi
  have c13 : i < cnt 13 := hi
  have c15 : i < cnt 15 := hi
  have ec : bs (fun t => (true && !decide (¬ w (64 + 5 * t + 2) = -1)) && !decide (w (64 + 5 * t + 1) = 2)) N = bs (fun t => decide (w (64 + 5 * t + 1) = 1)) N := bs_cong (fun t ht => by
    have ck := h.2.2.2.2.2 t (by omega)
    have e2 := ck.2.2.2.2.2
    rw [ck.2.1] at e2
    unfold std at e2
    by_cases a : σ 14 i t = 0 <;> by_cases b : w (64 + 5 * t + 2) = -1 <;> simp [e2, a, b])
  simp only [aX5_freeSet_0, aX5_freeSet_1, aX5_freeSet_2, aX5_freeSet_5, aX5_freeSet_8, aX5_freeSet_9, aX5_freeSet_10, aX5_freeSet_11, aX5_freeSet_12, aX5_freeSet_15, aX5_freeSet_16, aX5_freeSet_17, aX5_freeSet_18, aX5_freeSet_19, aX5_freeSet_22, aX5_freeSet_23, aX5_freeSet_24, aX5_freeSet_25, sp_ghs hi hN e h, Nat.zero_le, Nat.reduceLeDiff, Nat.reduceAdd, i1_0, rr_c3, zc9, oc9, zc10, oc10, zc11, oc11, zc12, oc12, zc13, oc13, zc15, oc15, Int32.lt_irrefl, Nat.zero_lt_one, Rt_cons, Rt_void, isB_0, isB_1, isB_b, true_and, and_true, cats_nil, cats_int, cats_ref, and_self, if_true, if_false, ite_self, le_nlt, ite_not, c9, c10, c11, c12, c13, c15, aT_10, aT_11, aT_12, aT_13, aT_15, aN_10, aN_11, aN_12, aN_13, aN_15, rr_lt, e, all_s N hN, em_set h hN hb]
  rw [bs_all, bs_diff hN, bs_diff hN, ec]
theorem lp_so {N : Nat} {v : Int32} (hN : N ≤ 7) (e : σ 31 0 1 = nI N) : ∀ m k, k + m = N → (Rn mX8_housesSo 4 [.ref (ad 29 0), .int v, .int (nI (bs (fun t => decide (σ 43 0 (64 + 5 * t + 1) = v)) k)), .int (nI k)] [] fs (enc σ) Q ↔ Rt fs (enc σ) (some (.int (nI (bs (fun t => decide (σ 43 0 (64 + 5 * t + 1) = v)) N)))) Q) := by
  intro m
  induction m with
  | zero =>
    intro k hk
    obtain rfl : k = N := by omega
    simp only [aX8_housesSo_4, aX8_housesSo_5, aX8_housesSo_6, aX8_housesSo_9, aX8_housesSo_10, aX8_housesSo_11, aX8_housesSo_47, aX8_housesSo_48, Nat.zero_le, Nat.reduceLeDiff, Nat.reduceAdd, i1_0, rr_c3, zc9, oc9, zc10, oc10, zc11, oc11, zc12, oc12, zc13, oc13, zc15, oc15, Int32.lt_irrefl, Nat.zero_lt_one, Rt_cons, Rt_void, isB_0, isB_1, isB_b, true_and, and_true, cats_nil, cats_int, cats_ref, and_self, if_true, if_false, ite_self, le_nlt, ite_not, aT_31, aN_31, cnt_31, v3.2.1, c1, e]
  | succ m ih =>
    intro k hk
    have l : nI k < nI N := nI_lt (by omega) (by omega)
    rw [aX8_housesSo_4]
    have ih' := ih (k + 1) (by omega)
    rw [bs_succ] at ih'
    have z0 : (0 : Int32) = nI 0 := rfl
    by_cases q : σ 43 0 (64 + 5 * k + 1) = v
    · rw [if_pos (by simp [q])] at ih'
      simp only [aX8_housesSo_5, aX8_housesSo_6, aX8_housesSo_9, aX8_housesSo_10, aX8_housesSo_11, aX8_housesSo_14, aX8_housesSo_15, aX8_housesSo_16, aX8_housesSo_19, aX8_housesSo_21, aX8_housesSo_22, aX8_housesSo_23, aX8_housesSo_24, aX8_housesSo_25, aX8_housesSo_26, aX8_housesSo_27, aX8_housesSo_28, aX8_housesSo_29, aX8_housesSo_32, aX8_housesSo_33, aX8_housesSo_34, aX8_housesSo_35, aX8_housesSo_38, aX8_housesSo_39, aX8_housesSo_40, aX8_housesSo_41, aX8_housesSo_44, Nat.zero_le, Nat.reduceLeDiff, Nat.reduceAdd, i1_0, rr_c3, zc9, oc9, zc10, oc10, zc11, oc11, zc12, oc12, zc13, oc13, zc15, oc15, Int32.lt_irrefl, Nat.zero_lt_one, Rt_cons, Rt_void, isB_0, isB_1, isB_b, true_and, and_true, cats_nil, cats_int, cats_ref, and_self, if_true, if_false, ite_self, le_nlt, ite_not, aT_31, aN_31, cnt_31, v3.2.1, c1, e, l, aT_43, aN_43, cnt_43, n5, n64, nI_1, in99 (show 64 + 5 * k + 1 < 99 by omega), cl10 (show 64 + 5 * k + 1 < 10000 by omega), q, not_true_eq_false, sh1 k (by omega), or_nI]
      exact ih'
    · rw [if_neg (by simp [q])] at ih'
      simp only [aX8_housesSo_5, aX8_housesSo_6, aX8_housesSo_9, aX8_housesSo_10, aX8_housesSo_11, aX8_housesSo_14, aX8_housesSo_15, aX8_housesSo_16, aX8_housesSo_19, aX8_housesSo_21, aX8_housesSo_22, aX8_housesSo_23, aX8_housesSo_24, aX8_housesSo_25, aX8_housesSo_26, aX8_housesSo_27, aX8_housesSo_28, aX8_housesSo_29, Nat.zero_le, Nat.reduceLeDiff, Nat.reduceAdd, i1_0, rr_c3, zc9, oc9, zc10, oc10, zc11, oc11, zc12, oc12, zc13, oc13, zc15, oc15, Int32.lt_irrefl, Nat.zero_lt_one, Rt_cons, Rt_void, isB_0, isB_1, isB_b, true_and, and_true, cats_nil, cats_int, cats_ref, and_self, if_true, if_false, ite_self, le_nlt, ite_not, aT_31, aN_31, cnt_31, v3.2.1, c1, e, l, aT_43, aN_43, cnt_43, n5, n64, nI_1, in99 (show 64 + 5 * k + 1 < 99 by omega), cl10 (show 64 + 5 * k + 1 < 10000 by omega), q, not_false_eq_true]
      rw [aX8_housesSo_38, z0]
      simp only [aX8_housesSo_39, aX8_housesSo_40, aX8_housesSo_41, aX8_housesSo_44, Nat.zero_le, Nat.reduceLeDiff, Nat.reduceAdd, i1_0, rr_c3, zc9, oc9, zc10, oc10, zc11, oc11, zc12, oc12, zc13, oc13, zc15, oc15, Int32.lt_irrefl, Nat.zero_lt_one, Rt_cons, Rt_void, isB_0, isB_1, isB_b, true_and, and_true, cats_nil, cats_int, cats_ref, and_self, if_true, if_false, ite_self, le_nlt, ite_not, or_nI, nI_1]
      exact ih'
theorem sp_so {N : Nat} {v : Int32} (hN : N ≤ 7) (e : σ 31 0 1 = nI N) : Rn mX8_housesSo 0 [.ref (ad 29 0), .int v, .null, .null] [] fs (enc σ) Q ↔ Rt fs (enc σ) (some (.int (nI (bs (fun t => decide (σ 43 0 (64 + 5 * t + 1) = v)) N)))) Q := by
  have := lp_so (v := v) (fs := fs) (Q := Q) hN e N 0 (by omega)
  have e0 : nI (bs (fun t => decide (σ 43 0 (64 + 5 * t + 1) = v)) 0) = 0 := rfl
  have e1 : nI 0 = 0 := rfl
  rw [e0, e1] at this
  simp only [aX8_housesSo_0, aX8_housesSo_1, aX8_housesSo_2, aX8_housesSo_3, Nat.zero_le, Nat.reduceLeDiff, Nat.reduceAdd, i1_0, rr_c3, zc9, oc9, zc10, oc10, zc11, oc11, zc12, oc12, zc13, oc13, zc15, oc15, Int32.lt_irrefl, Nat.zero_lt_one, Rt_cons, Rt_void, isB_0, isB_1, isB_b, true_and, and_true, cats_nil, cats_int, cats_ref, and_self, if_true, if_false, ite_self, le_nlt, ite_not]
  exact this
/-- how many are in a set of at most seven -/
def pop (a : Nat) : Nat → Nat
  | 0 => 0
  | n + 1 => pop a n + (if a.testBit n = true then 1 else 0)
theorem pop_le (a : Nat) : ∀ n, pop a n ≤ n := by
  intro n
  induction n with
  | zero => exact Nat.le_refl _
  | succ n ih => unfold pop; split <;> omega
theorem lp_ones {a : Nat} (ha : a < 128) : ∀ m k, k + m = 7 → (Rn mX8_ones 4 [.int (nI a), .int (nI (pop a k)), .int (nI k)] [] fs M Q ↔ Rt fs M (some (.int (nI (pop a 7)))) Q) := by
  intro m
  induction m with
  | zero =>
    intro k hk
    obtain rfl : k = 7 := by omega
    have e7 : nI 7 = 7 := rfl
    simp only [aX8_ones_4, aX8_ones_5, aX8_ones_7, aX8_ones_24, aX8_ones_25, Nat.zero_le, Nat.reduceLeDiff, Nat.reduceAdd, i1_0, rr_c3, zc9, oc9, zc10, oc10, zc11, oc11, zc12, oc12, zc13, oc13, zc15, oc15, Int32.lt_irrefl, Nat.zero_lt_one, Rt_cons, Rt_void, isB_0, isB_1, isB_b, true_and, and_true, cats_nil, cats_int, cats_ref, and_self, if_true, if_false, ite_self, le_nlt, ite_not, e7]
  | succ m ih =>
    intro k hk
    have l : nI k < 7 := nI_lt (b := 7) (by omega) (by decide)
    have e1 : nI (pop a k) + bI (a.testBit k = true) = nI (pop a (k + 1)) := by
      show _ = nI (pop a k + _)
      by_cases q : a.testBit k = true
      · rw [bI_t q, if_pos q, nI_1]
      · rw [bI_f q, if_neg q, Int32.add_zero, Nat.add_zero]
    rw [aX8_ones_4]
    simp only [aX8_ones_5, aX8_ones_7, aX8_ones_10, aX8_ones_11, aX8_ones_12, aX8_ones_13, aX8_ones_14, aX8_ones_15, aX8_ones_16, aX8_ones_17, aX8_ones_18, aX8_ones_21, Nat.zero_le, Nat.reduceLeDiff, Nat.reduceAdd, i1_0, rr_c3, zc9, oc9, zc10, oc10, zc11, oc11, zc12, oc12, zc13, oc13, zc15, oc15, Int32.lt_irrefl, Nat.zero_lt_one, Rt_cons, Rt_void, isB_0, isB_1, isB_b, true_and, and_true, cats_nil, cats_int, cats_ref, and_self, if_true, if_false, ite_self, le_nlt, ite_not, l, bitI ha (show k < 7 by omega), e1, nI_1]
    exact ih (k + 1) (by omega)
theorem sp_ones {a : Nat} (ha : a < 128) : Rn mX8_ones 0 [.int (nI a), .null, .null] [] fs M Q ↔ Rt fs M (some (.int (nI (pop a 7)))) Q := by
  have := lp_ones (fs := fs) (M := M) (Q := Q) ha 7 0 (by omega)
  have e1 : nI 0 = 0 := rfl
  have e0 : nI (pop a 0) = 0 := rfl
  rw [e0, e1] at this
  simp only [aX8_ones_0, aX8_ones_1, aX8_ones_2, aX8_ones_3, Nat.zero_le, Nat.reduceLeDiff, Nat.reduceAdd, i1_0, rr_c3, zc9, oc9, zc10, oc10, zc11, oc11, zc12, oc12, zc13, oc13, zc15, oc15, Int32.lt_irrefl, Nat.zero_lt_one, Rt_cons, Rt_void, isB_0, isB_1, isB_b, true_and, and_true, cats_nil, cats_int, cats_ref, and_self, if_true, if_false, ite_self, le_nlt, ite_not]
  exact this
end S65
