-- gulls: who holds what; gull, home, sure, mostBread, hear
def fnd (f : Nat → Bool) : Nat → Nat → Int32
  | 0, _ => -1
  | m + 1, k => if f k = true then nI k else fnd f m (k + 1)
theorem fnd_s (f : Nat → Bool) (m k : Nat) : fnd f (m + 1) k = if f k = true then nI k else fnd f m (k + 1) := rfl
theorem fnd_cases (f : Nat → Bool) : ∀ m k, (fnd f m k = -1 ∧ ∀ t, k ≤ t → t < k + m → ¬ f t = true) ∨ ∃ t, k ≤ t ∧ t < k + m ∧ f t = true ∧ fnd f m k = nI t := by
  intro m
  induction m with
  | zero => intro k; exact Or.inl ⟨rfl, fun t a b => by omega⟩
  | succ m ih =>
    intro k
    rw [fnd_s]
    by_cases q : f k = true
    · exact Or.inr ⟨k, by omega, by omega, q, by rw [if_pos q]⟩
    · rw [if_neg q]
      rcases ih (k + 1) with ⟨a, b⟩ | ⟨t, a, b, c, d⟩
      · refine Or.inl ⟨a, fun t x y => ?_⟩
        by_cases e : t = k
        · subst e; exact q
        · exact b t (by omega) (by omega)
      · exact Or.inr ⟨t, by omega, by omega, c, d⟩
/-- the house that gull x holds -/
def hoW (N : Nat) (w : Nat → Int32) (x : Int32) : Int32 := fnd (fun t => decide (w (64 + 5 * t + 2) = x)) N 0
theorem hoW_cases {N : Nat} {w : Nat → Int32} {x : Int32} : (hoW N w x = -1 ∧ ∀ t, t < N → ¬ w (64 + 5 * t + 2) = x) ∨ ∃ t, t < N ∧ w (64 + 5 * t + 2) = x ∧ hoW N w x = nI t := by
  rcases fnd_cases (fun t => decide (w (64 + 5 * t + 2) = x)) N 0 with ⟨a, b⟩ | ⟨t, _, b, c, d⟩
  · refine Or.inl ⟨a, fun t ht z => b t (by omega) (by omega) ?_⟩
    simp [z]
  · exact Or.inr ⟨t, by omega, by simpa using c, d⟩
theorem pig : ∀ (n : Nat) (f : Nat → Nat), (∀ i, i ≤ n → f i < n) → ∃ i j, i < j ∧ j ≤ n ∧ f i = f j := by
  intro n
  induction n with
  | zero => intro f h; exact absurd (h 0 (by omega)) (by omega)
  | succ n ih =>
    intro f h
    by_cases q : ∃ i, i ≤ n ∧ f i = f (n + 1)
    · obtain ⟨i, hi, e⟩ := q
      exact ⟨i, n + 1, by omega, by omega, e⟩
    · have hv := h (n + 1) (by omega)
      have q' : ∀ i, i ≤ n → ¬ f i = f (n + 1) := fun i hi e => q ⟨i, hi, e⟩
      obtain ⟨i, j, a, b, c⟩ := ih (fun i => if f i < f (n + 1) then f i else f i - 1) (fun i hi => by
        have h1 := h i (by omega)
        have h2 := q' i hi
        show (if f i < f (n + 1) then f i else f i - 1) < n
        split <;> omega)
      refine ⟨i, j, a, by omega, ?_⟩
      have h1 := q' i (by omega)
      have h2 := q' j b
      split at c <;> split at c <;> omega
/-- the way of a gull home: it stood at n houses -/
def wayP (w : Nat → Int32) (G g n : Nat) (x : Int32) : Prop := ∃ f : Nat → Nat, f 0 = g ∧ x = nI (f (n - 1)) ∧ (∀ i, i < n → f i < G) ∧ ∀ i, 1 ≤ i → i < n → ¬ f i = g ∧ w (64 + 5 * f i + 2) = nI (f (i - 1))
theorem way8 {w : Nat → Int32} {G g : Nat} {x : Int32} (hG : G ≤ 7) (h : wayP w G g 8 x) : False := by
  obtain ⟨f, h0, _, h2, h3⟩ := h
  obtain ⟨i, j, a, b, c⟩ := pig 7 f (fun i hi => by have := h2 i (by omega); omega)
  have : ∀ i j, i < j → j ≤ 7 → f i = f j → False := by
    intro i
    induction i with
    | zero =>
      intro j a b c
      exact (h3 j (by omega) (by omega)).1 (by rw [← c]; exact h0)
    | succ i ih =>
      intro j a b c
      have e1 := (h3 (i + 1) (by omega) (by omega)).2
      have e2 := (h3 j (by omega) (by omega)).2
      rw [c, e2] at e1
      have g1 := h2 i (by omega)
      have g2 := h2 (j - 1) (by omega)
      have e3 : f (j - 1) = f i := by
        have := (nI_eq (a := f (j - 1)) (b := f (i + 1 - 1)) (by omega) (by rw [show i + 1 - 1 = i by omega]; omega)).mp e1
        rw [show i + 1 - 1 = i by omega] at this
        exact this
      exact ih (j - 1) (by omega) (by omega) e3.symm
  exact this i j a b c
def hmC (st : Int32 → Int32) (G : Nat) (g : Int32) : Nat → Nat → Int32 → Int32
  | 0, _, _ => -1
  | m + 1, n, x => if st x = g then nI n else if isH G (st x) then hmC st G g m (n + 1) (st x) else -1
def hmM (st : Int32 → Int32) (G : Nat) (g : Int32) : Nat → Nat → Int32 → Int32
  | 0, _, _ => -1
  | m + 1, n, x => if (if isH G x then st x else -1) = g then nI n else if (if isH G x then st x else -1) = -1 then -1 else hmM st G g m (n + 1) (if isH G x then st x else -1)
theorem hmC_s (st : Int32 → Int32) (G : Nat) (g : Int32) (m n : Nat) (x : Int32) : hmC st G g (m + 1) n x = if st x = g then nI n else if isH G (st x) then hmC st G g m (n + 1) (st x) else -1 := rfl
theorem hmM_s (st : Int32 → Int32) (G : Nat) (g : Int32) (m n : Nat) (x : Int32) : hmM st G g (m + 1) n x = if (if isH G x then st x else -1) = g then nI n else if (if isH G x then st x else -1) = -1 then -1 else hmM st G g m (n + 1) (if isH G x then st x else -1) := rfl
theorem nI_ne1 {a : Nat} (h : a < 2 ^ 31) : ¬ nI a = -1 := fun z => nI_pos h (by rw [z]; decide)
theorem hm_eq {w : Nat → Int32} {N G g : Nat} (hN : N ≤ 7) (hG : G ≤ N) (hg : g < G) : ∀ m n x, n + m = 8 → 1 ≤ n → wayP w G g n x → isH G x → hmC (hoW N w) G (nI g) m n x = hmM (hoW N w) G (nI g) (m + 1) n x := by
  intro m
  induction m with
  | zero =>
    intro n x h8 hn hp hx
    obtain rfl : n = 8 := by omega
    exact (way8 (by omega) hp).elim
  | succ m ih =>
    intro n x h8 hn hp hx
    rw [hmC_s, hmM_s, if_pos hx]
    by_cases q : hoW N w x = nI g
    · rw [if_pos q, if_pos q]
    · rw [if_neg q, if_neg q]
      by_cases q2 : isH G (hoW N w x)
      · rw [if_pos q2]
        have hne : ¬ hoW N w x = -1 := fun z => q2.1 (by rw [z]; decide)
        rw [if_neg hne]
        refine ih (n + 1) _ (by omega) (by omega) ?_ q2
        rcases hoW_cases (N := N) (w := w) (x := x) with z | ⟨t, t1, t2, t3⟩
        · exact absurd z.1 hne
        · obtain ⟨f, f0, f1, f2, f3⟩ := hp
          have tG : t < G := by
            have := q2.2
            rw [t3] at this
            exact (nI_ltI (by omega) (by omega)).mp this
          refine ⟨fun i => if i = n then t else f i, ?_, ?_, fun i hi => ?_, fun i h1 hi => ?_⟩
          · show (if 0 = n then t else f 0) = g
            rw [if_neg (by omega)]; exact f0
          · show _ = nI (if n + 1 - 1 = n then t else _)
            rw [if_pos (by omega)]; exact t3
          · show (if i = n then t else f i) < G
            by_cases e : i = n
            · rw [if_pos e]; exact tG
            · rw [if_neg e]; exact f2 i (by omega)
          · show ¬ (if i = n then t else f i) = g ∧ w (64 + 5 * (if i = n then t else f i) + 2) = nI (if i - 1 = n then t else f (i - 1))
            rw [if_neg (show ¬ i - 1 = n by omega)]
            by_cases e : i = n
            · rw [if_pos e, t2, f1, e]
              exact ⟨fun z => q (by rw [t3, z]), rfl⟩
            · rw [if_neg e]; exact f3 i h1 (by omega)
      · rw [if_neg q2]
        by_cases q3 : hoW N w x = -1
        · rw [if_pos q3]
        · have e : ¬ (-1 : Int32) = nI g := fun z => nI_ne1 (a := g) (by omega) z.symm
          rw [if_neg q3]
          cases m with
          | zero => rw [hmM_s, if_neg q2, if_neg e, if_pos rfl]
          | succ m => rw [hmM_s, if_neg q2, if_neg e, if_pos rfl]
section S69
variable {σ : Mem} {fs : List Fm} {M : List va_E} {Q : List va_E → Option Value → Prop}
theorem lp_houseOf {i N : Nat} {x : Int32} {w : Nat → Int32} (hi : i < 34) (hN : N ≤ 7) (e : σ 3 (rr (σ 9 i 0)) 1 = nI N) (h : CS σ i w) : ∀ m k, k + m = N → (Rn mX5_houseOf 2 [.ref (ad 9 i), .int x, .int (nI k)] [] fs (enc σ) Q ↔ Rt fs (enc σ) (some (.int (fnd (fun t => decide (w (64 + 5 * t + 2) = x)) m k))) Q) := by
  intro m
  have c9 : i < cnt 9 := hi
  have c10 : i < cnt 10 := hi
  have c11 : i < cnt 11 := hi
  have c12 : i < cnt 12 := hi
  have c13 : i < cnt 13 := hi
  have c15 : i < cnt 15 := hi
  induction m with
  | zero =>
    intro k hk
    obtain rfl : k = N := by omega
    simp only [aX5_houseOf_2, aX5_houseOf_3, aX5_houseOf_4, aX5_houseOf_7, aX5_houseOf_10, aX5_houseOf_31, aX5_houseOf_32, Nat.zero_le, Nat.reduceLeDiff, Nat.reduceAdd, i1_0, rr_c3, zc9, oc9, zc10, oc10, zc11, oc11, zc12, oc12, zc13, oc13, zc15, oc15, Int32.lt_irrefl, Nat.zero_lt_one, Rt_cons, Rt_void, isB_0, isB_1, isB_b, true_and, and_true, cats_nil, cats_int, cats_ref, and_self, if_true, if_false, ite_self, le_nlt, ite_not, c9, c10, c11, c12, c13, c15, aT_10, aT_11, aT_12, aT_13, aT_15, aN_10, aN_11, aN_12, aN_13, aN_15, rr_lt, e]
    rfl
  | succ m ih =>
    intro k hk
    have l : nI k < nI N := nI_lt (by omega) (by omega)
    have ck := h.2.2.2.2.2 k (by omega)
    rw [aX5_houseOf_2, fnd_s]
    have ih' := ih (k + 1) (by omega)
    by_cases q : w (64 + 5 * k + 2) = x
    · rw [if_pos (by simp [q])]
      simp only [aX5_houseOf_3, aX5_houseOf_4, aX5_houseOf_7, aX5_houseOf_10, aX5_houseOf_13, aX5_houseOf_14, aX5_houseOf_17, aX5_houseOf_18, aX5_houseOf_19, aX5_houseOf_20, aX5_houseOf_23, aX5_houseOf_24, Nat.zero_le, Nat.reduceLeDiff, Nat.reduceAdd, i1_0, rr_c3, zc9, oc9, zc10, oc10, zc11, oc11, zc12, oc12, zc13, oc13, zc15, oc15, Int32.lt_irrefl, Nat.zero_lt_one, Rt_cons, Rt_void, isB_0, isB_1, isB_b, true_and, and_true, cats_nil, cats_int, cats_ref, and_self, if_true, if_false, ite_self, le_nlt, ite_not, c9, c10, c11, c12, c13, c15, aT_10, aT_11, aT_12, aT_13, aT_15, aN_10, aN_11, aN_12, aN_13, aN_15, rr_lt, e, l, in7 (show k < 7 by omega), cl10 (show k < 10000 by omega), ck.2.1, q, not_true_eq_false]
    · rw [if_neg (by simp [q])]
      simp only [aX5_houseOf_3, aX5_houseOf_4, aX5_houseOf_7, aX5_houseOf_10, aX5_houseOf_13, aX5_houseOf_14, aX5_houseOf_17, aX5_houseOf_18, aX5_houseOf_19, aX5_houseOf_20, aX5_houseOf_23, aX5_houseOf_24, aX5_houseOf_25, aX5_houseOf_28, Nat.zero_le, Nat.reduceLeDiff, Nat.reduceAdd, i1_0, rr_c3, zc9, oc9, zc10, oc10, zc11, oc11, zc12, oc12, zc13, oc13, zc15, oc15, Int32.lt_irrefl, Nat.zero_lt_one, Rt_cons, Rt_void, isB_0, isB_1, isB_b, true_and, and_true, cats_nil, cats_int, cats_ref, and_self, if_true, if_false, ite_self, le_nlt, ite_not, c9, c10, c11, c12, c13, c15, aT_10, aT_11, aT_12, aT_13, aT_15, aN_10, aN_11, aN_12, aN_13, aN_15, rr_lt, e, l, in7 (show k < 7 by omega), cl10 (show k < 10000 by omega), ck.2.1, q, not_false_eq_true, nI_1]
      exact ih'
theorem sp_houseOf {i N : Nat} {x : Int32} {w : Nat → Int32} (hi : i < 34) (hN : N ≤ 7) (e : σ 3 (rr (σ 9 i 0)) 1 = nI N) (h : CS σ i w) : Rn mX5_houseOf 0 [.ref (ad 9 i), .int x, .null] [] fs (enc σ) Q ↔ Rt fs (enc σ) (some (.int (hoW N w x))) Q := by
  have := lp_houseOf (x := x) (fs := fs) (Q := Q) hi hN e h N 0 (by omega)
  have e1 : nI 0 = 0 := rfl
  rw [e1] at this
  simp only [aX5_houseOf_0, aX5_houseOf_1, Nat.zero_le, Nat.reduceLeDiff, Nat.reduceAdd, i1_0, rr_c3, zc9, oc9, zc10, oc10, zc11, oc11, zc12, oc12, zc13, oc13, zc15, oc15, Int32.lt_irrefl, Nat.zero_lt_one, Rt_cons, Rt_void, isB_0, isB_1, isB_b, true_and, and_true, cats_nil, cats_int, cats_ref, and_self, if_true, if_false, ite_self, le_nlt, ite_not]
  exact this
theorem lp_holds {N : Nat} {x : Int32} (hN : N ≤ 7) (e : σ 31 0 1 = nI N) : ∀ m k, k + m = N → (Rn mX8_holds 2 [.ref (ad 29 0), .int x, .int (nI k)] [] fs (enc σ) Q ↔ Rt fs (enc σ) (some (.int (fnd (fun t => decide (σ 43 0 (64 + 5 * t + 2) = x)) m k))) Q) := by
  intro m
  induction m with
  | zero =>
    intro k hk
    obtain rfl : k = N := by omega
    simp only [aX8_holds_2, aX8_holds_3, aX8_holds_4, aX8_holds_7, aX8_holds_8, aX8_holds_9, aX8_holds_37, aX8_holds_38, Nat.zero_le, Nat.reduceLeDiff, Nat.reduceAdd, i1_0, rr_c3, zc9, oc9, zc10, oc10, zc11, oc11, zc12, oc12, zc13, oc13, zc15, oc15, Int32.lt_irrefl, Nat.zero_lt_one, Rt_cons, Rt_void, isB_0, isB_1, isB_b, true_and, and_true, cats_nil, cats_int, cats_ref, and_self, if_true, if_false, ite_self, le_nlt, ite_not, aT_31, aN_31, cnt_31, v3.2.1, c1, e]
    rfl
  | succ m ih =>
    intro k hk
    have l : nI k < nI N := nI_lt (by omega) (by omega)
    rw [aX8_holds_2, fnd_s]
    have ih' := ih (k + 1) (by omega)
    by_cases q : σ 43 0 (64 + 5 * k + 2) = x
    · rw [if_pos (by simp [q])]
      simp only [aX8_holds_3, aX8_holds_4, aX8_holds_7, aX8_holds_8, aX8_holds_9, aX8_holds_12, aX8_holds_13, aX8_holds_16, aX8_holds_18, aX8_holds_19, aX8_holds_20, aX8_holds_21, aX8_holds_22, aX8_holds_23, aX8_holds_24, aX8_holds_25, aX8_holds_26, aX8_holds_29, aX8_holds_30, Nat.zero_le, Nat.reduceLeDiff, Nat.reduceAdd, i1_0, rr_c3, zc9, oc9, zc10, oc10, zc11, oc11, zc12, oc12, zc13, oc13, zc15, oc15, Int32.lt_irrefl, Nat.zero_lt_one, Rt_cons, Rt_void, isB_0, isB_1, isB_b, true_and, and_true, cats_nil, cats_int, cats_ref, and_self, if_true, if_false, ite_self, le_nlt, ite_not, aT_31, aN_31, cnt_31, v3.2.1, c1, e, l, aT_43, aN_43, cnt_43, n5, n64, nI_2, in99 (show 64 + 5 * k + 2 < 99 by omega), cl10 (show 64 + 5 * k + 2 < 10000 by omega), q, not_true_eq_false]
    · rw [if_neg (by simp [q])]
      simp only [aX8_holds_3, aX8_holds_4, aX8_holds_7, aX8_holds_8, aX8_holds_9, aX8_holds_12, aX8_holds_13, aX8_holds_16, aX8_holds_18, aX8_holds_19, aX8_holds_20, aX8_holds_21, aX8_holds_22, aX8_holds_23, aX8_holds_24, aX8_holds_25, aX8_holds_26, aX8_holds_29, aX8_holds_30, aX8_holds_31, aX8_holds_34, Nat.zero_le, Nat.reduceLeDiff, Nat.reduceAdd, i1_0, rr_c3, zc9, oc9, zc10, oc10, zc11, oc11, zc12, oc12, zc13, oc13, zc15, oc15, Int32.lt_irrefl, Nat.zero_lt_one, Rt_cons, Rt_void, isB_0, isB_1, isB_b, true_and, and_true, cats_nil, cats_int, cats_ref, and_self, if_true, if_false, ite_self, le_nlt, ite_not, aT_31, aN_31, cnt_31, v3.2.1, c1, e, l, aT_43, aN_43, cnt_43, n5, n64, nI_2, in99 (show 64 + 5 * k + 2 < 99 by omega), cl10 (show 64 + 5 * k + 2 < 10000 by omega), q, not_false_eq_true, nI_1]
      exact ih'
theorem sp_holds {N : Nat} {x : Int32} (hN : N ≤ 7) (e : σ 31 0 1 = nI N) : Rn mX8_holds 0 [.ref (ad 29 0), .int x, .null] [] fs (enc σ) Q ↔ Rt fs (enc σ) (some (.int (hoW N (σ 43 0) x))) Q := by
  have := lp_holds (x := x) (fs := fs) (Q := Q) hN e N 0 (by omega)
  have e1 : nI 0 = 0 := rfl
  rw [e1] at this
  simp only [aX8_holds_0, aX8_holds_1, Nat.zero_le, Nat.reduceLeDiff, Nat.reduceAdd, i1_0, rr_c3, zc9, oc9, zc10, oc10, zc11, oc11, zc12, oc12, zc13, oc13, zc15, oc15, Int32.lt_irrefl, Nat.zero_lt_one, Rt_cons, Rt_void, isB_0, isB_1, isB_b, true_and, and_true, cats_nil, cats_int, cats_ref, and_self, if_true, if_false, ite_self, le_nlt, ite_not]
  exact this
theorem sp_cGull {G q : Nat} {h : Int32} (hq : q < 2) (e : σ 3 q 2 = nI G) : Rn mX4_isGull 0 [.ref (ad 3 q), .int h] [] fs (enc σ) Q ↔ Rt fs (enc σ) (some (.int (bI (isH G h)))) Q := by
  rw [sp_isGull hq, e]
theorem sp_mGull {G : Nat} {h : Int32} (hG : G ≤ 7) (e : σ 31 0 2 = nI G) : Rn mX8_isGull 0 [.ref (ad 29 0), .int h] [] fs (enc σ) Q ↔ Rt fs (enc σ) (some (.int (bI (isH G h)))) Q := by
  simp only [aX8_isGull_0, aX8_isGull_1, aX8_isGull_2, aX8_isGull_3, aX8_isGull_6, aX8_isGull_7, aX8_isGull_8, aX8_isGull_9, aX8_isGull_10, aX8_isGull_13, sp_in, Nat.zero_le, Nat.reduceLeDiff, Nat.reduceAdd, i1_0, rr_c3, zc9, oc9, zc10, oc10, zc11, oc11, zc12, oc12, zc13, oc13, zc15, oc15, Int32.lt_irrefl, Nat.zero_lt_one, Rt_cons, Rt_void, isB_0, isB_1, isB_b, true_and, and_true, cats_nil, cats_int, cats_ref, and_self, if_true, if_false, ite_self, le_nlt, ite_not, aT_31, aN_31, cnt_31, v3.2.2, c2, e]
  rw [bI_iff (isH_m hG)]
theorem toI_out {x : Int32} {a b : Nat} (hb : b < 2 ^ 31) (ho : x < 0 ∨ nI b < x) : x.toInt < 0 ∨ (b : Int) < x.toInt := ho.imp (fun z => by
    have h5 : (0 : Int32).toInt = 0 := by decide
    have := Int32.lt_iff_toInt_lt.mp z
    omega) (fun z => by
    have h5 : (nI b).toInt = b := nI_toInt hb
    have := Int32.lt_iff_toInt_lt.mp z
    omega)
theorem api_gull (h x : Int32) : Sim Rel mX7_gull mX8_gull [.int h, .int x] := by
  refine Sim_of (Lc := [.ref (ad 0 0), .int h, .int x]) (Lm := [.ref (ad 29 0), .int h, .int x]) rfl rfl (fun σ hR => ?_)
  obtain ⟨r1, r2, C, N, G, r3, r4, r5, r6, r7⟩ := id hR
  obtain ⟨q1, q2, q3, q4, ⟨l0, l1, l2⟩, ⟨k0, k1, k2⟩, q5, q6, q7⟩ := id r3.1
  have hq := rr_lt (σ 9 0 0)
  have hG : G ≤ 7 := by omega
  have c7 : rr (σ 9 0 0) < cnt 7 := hq
  have c8 : rr (σ 9 0 0) < cnt 8 := hq
  by_cases hH : isH G h
  · obtain ⟨j, hj, rfl⟩ := isH_of hG hH
    have hj7 : j < 7 := by omega
    have cl := cl10 (show j < 10000 by omega)
    by_cases ho : x < 0 ∨ 2 < x
    · have hd : x.toInt < 0 ∨ (2 : Int) < x.toInt := toI_out (a := 0) (b := 2) (by decide) ho
      refine ⟨σ, σ, -1000000002, ?_, ?_, hR⟩
      · simp only [aX7_gull_0, aX7_gull_1, aX7_gull_4, aX7_gull_7, aX7_gull_8, aX7_gull_11, aX7_gull_14, aX7_gull_16, aX7_gull_17, sp_cGull hq k2, Nat.zero_le, Nat.reduceLeDiff, Nat.reduceAdd, i1_0, rr_c3, zc9, oc9, zc10, oc10, zc11, oc11, zc12, oc12, zc13, oc13, zc15, oc15, Int32.lt_irrefl, Nat.zero_lt_one, Rt_cons, Rt_void, isB_0, isB_1, isB_b, true_and, and_true, cats_nil, cats_int, cats_ref, and_self, if_true, if_false, ite_self, le_nlt, ite_not, Rt_nil, bI_t hH, aX7_gull_18_d hd, aX7_gull_79, aX7_gull_81]
      · simp only [aX8_gull_0, aX8_gull_1, aX8_gull_2, aX8_gull_5, aX8_gull_8, aX8_gull_10, aX8_gull_11, sp_mGull hG l2, Nat.zero_le, Nat.reduceLeDiff, Nat.reduceAdd, i1_0, rr_c3, zc9, oc9, zc10, oc10, zc11, oc11, zc12, oc12, zc13, oc13, zc15, oc15, Int32.lt_irrefl, Nat.zero_lt_one, Rt_cons, Rt_void, isB_0, isB_1, isB_b, true_and, and_true, cats_nil, cats_int, cats_ref, and_self, if_true, if_false, ite_self, le_nlt, ite_not, Rt_nil, bI_t hH, aX8_gull_12_d hd, aX8_gull_60, aX8_gull_62]
    · have hin := not_out.mp ho
      obtain ⟨t, ht, rfl⟩ := nI_of2 (M := 2) (n := 2) (by decide) hin.1 (Int32.not_lt.mp hin.2)
      rcases (show t = 0 ∨ t = 1 ∨ t = 2 by omega) with rfl | rfl | rfl
      · rw [show nI 0 = 0 from rfl]
        refine ⟨σ, σ, σ 35 0 j, ?_, ?_, hR⟩
        · simp only [aX7_gull_0, aX7_gull_1, aX7_gull_4, aX7_gull_7, aX7_gull_8, aX7_gull_11, aX7_gull_14, aX7_gull_16, aX7_gull_17, sp_cGull hq k2, Nat.zero_le, Nat.reduceLeDiff, Nat.reduceAdd, i1_0, rr_c3, zc9, oc9, zc10, oc10, zc11, oc11, zc12, oc12, zc13, oc13, zc15, oc15, Int32.lt_irrefl, Nat.zero_lt_one, Rt_cons, Rt_void, isB_0, isB_1, isB_b, true_and, and_true, cats_nil, cats_int, cats_ref, and_self, if_true, if_false, ite_self, le_nlt, ite_not, Rt_nil, bI_t hH, aX7_gull_18_0, aX7_gull_44, aX7_gull_45, aX7_gull_48, aX7_gull_51, aX7_gull_54, aX7_gull_55, aX7_gull_56, aT_7, aN_7, c7, in7 hj7, cl, (q7 j hj).1]
        · simp only [aX8_gull_0, aX8_gull_1, aX8_gull_2, aX8_gull_5, aX8_gull_8, aX8_gull_10, aX8_gull_11, sp_mGull hG l2, Nat.zero_le, Nat.reduceLeDiff, Nat.reduceAdd, i1_0, rr_c3, zc9, oc9, zc10, oc10, zc11, oc11, zc12, oc12, zc13, oc13, zc15, oc15, Int32.lt_irrefl, Nat.zero_lt_one, Rt_cons, Rt_void, isB_0, isB_1, isB_b, true_and, and_true, cats_nil, cats_int, cats_ref, and_self, if_true, if_false, ite_self, le_nlt, ite_not, Rt_nil, bI_t hH, aX8_gull_12_0, aX8_gull_40, aX8_gull_41, aX8_gull_44, aX8_gull_45, aX8_gull_46, aT_35, aN_35, cnt_35, in7 hj7, cl]
      · rw [show nI 1 = 1 from rfl]
        refine ⟨σ, σ, σ 36 0 j, ?_, ?_, hR⟩
        · simp only [aX7_gull_0, aX7_gull_1, aX7_gull_4, aX7_gull_7, aX7_gull_8, aX7_gull_11, aX7_gull_14, aX7_gull_16, aX7_gull_17, sp_cGull hq k2, Nat.zero_le, Nat.reduceLeDiff, Nat.reduceAdd, i1_0, rr_c3, zc9, oc9, zc10, oc10, zc11, oc11, zc12, oc12, zc13, oc13, zc15, oc15, Int32.lt_irrefl, Nat.zero_lt_one, Rt_cons, Rt_void, isB_0, isB_1, isB_b, true_and, and_true, cats_nil, cats_int, cats_ref, and_self, if_true, if_false, ite_self, le_nlt, ite_not, Rt_nil, bI_t hH, aX7_gull_18_1, aX7_gull_57, aX7_gull_58, aX7_gull_61, aX7_gull_64, aX7_gull_67, aX7_gull_68, aX7_gull_69, aT_8, aN_8, c8, in7 hj7, cl, (q7 j hj).2.1]
        · simp only [aX8_gull_0, aX8_gull_1, aX8_gull_2, aX8_gull_5, aX8_gull_8, aX8_gull_10, aX8_gull_11, sp_mGull hG l2, Nat.zero_le, Nat.reduceLeDiff, Nat.reduceAdd, i1_0, rr_c3, zc9, oc9, zc10, oc10, zc11, oc11, zc12, oc12, zc13, oc13, zc15, oc15, Int32.lt_irrefl, Nat.zero_lt_one, Rt_cons, Rt_void, isB_0, isB_1, isB_b, true_and, and_true, cats_nil, cats_int, cats_ref, and_self, if_true, if_false, ite_self, le_nlt, ite_not, Rt_nil, bI_t hH, aX8_gull_12_1, aX8_gull_47, aX8_gull_48, aX8_gull_51, aX8_gull_52, aX8_gull_53, aT_36, aN_36, cnt_36, in7 hj7, cl]
      · rw [show nI 2 = 2 from rfl]
        refine ⟨σ, σ, hoW N (σ 43 0) (nI j), ?_, ?_, hR⟩
        · simp only [aX7_gull_0, aX7_gull_1, aX7_gull_4, aX7_gull_7, aX7_gull_8, aX7_gull_11, aX7_gull_14, aX7_gull_16, aX7_gull_17, sp_cGull hq k2, Nat.zero_le, Nat.reduceLeDiff, Nat.reduceAdd, i1_0, rr_c3, zc9, oc9, zc10, oc10, zc11, oc11, zc12, oc12, zc13, oc13, zc15, oc15, Int32.lt_irrefl, Nat.zero_lt_one, Rt_cons, Rt_void, isB_0, isB_1, isB_b, true_and, and_true, cats_nil, cats_int, cats_ref, and_self, if_true, if_false, ite_self, le_nlt, ite_not, Rt_nil, bI_t hH, aX7_gull_18_2, aX7_gull_70, aX7_gull_71, aX7_gull_74, aX7_gull_75, aX7_gull_78, sp_houseOf (show 0 < 34 by decide) q2 k1 r3.2.2.1]
        · simp only [aX8_gull_0, aX8_gull_1, aX8_gull_2, aX8_gull_5, aX8_gull_8, aX8_gull_10, aX8_gull_11, sp_mGull hG l2, Nat.zero_le, Nat.reduceLeDiff, Nat.reduceAdd, i1_0, rr_c3, zc9, oc9, zc10, oc10, zc11, oc11, zc12, oc12, zc13, oc13, zc15, oc15, Int32.lt_irrefl, Nat.zero_lt_one, Rt_cons, Rt_void, isB_0, isB_1, isB_b, true_and, and_true, cats_nil, cats_int, cats_ref, and_self, if_true, if_false, ite_self, le_nlt, ite_not, Rt_nil, bI_t hH, aX8_gull_12_2, aX8_gull_54, aX8_gull_55, aX8_gull_56, aX8_gull_59, sp_holds q2 l1]
  · refine ⟨σ, σ, -1000000001, ?_, ?_, hR⟩
    · simp only [aX7_gull_0, aX7_gull_1, aX7_gull_4, aX7_gull_7, aX7_gull_8, aX7_gull_11, aX7_gull_14, aX7_gull_16, sp_cGull hq k2, Nat.zero_le, Nat.reduceLeDiff, Nat.reduceAdd, i1_0, rr_c3, zc9, oc9, zc10, oc10, zc11, oc11, zc12, oc12, zc13, oc13, zc15, oc15, Int32.lt_irrefl, Nat.zero_lt_one, Rt_cons, Rt_void, isB_0, isB_1, isB_b, true_and, and_true, cats_nil, cats_int, cats_ref, and_self, if_true, if_false, ite_self, le_nlt, ite_not, Rt_nil, bI_f hH]
    · simp only [aX8_gull_0, aX8_gull_1, aX8_gull_2, aX8_gull_5, aX8_gull_8, aX8_gull_10, sp_mGull hG l2, Nat.zero_le, Nat.reduceLeDiff, Nat.reduceAdd, i1_0, rr_c3, zc9, oc9, zc10, oc10, zc11, oc11, zc12, oc12, zc13, oc13, zc15, oc15, Int32.lt_irrefl, Nat.zero_lt_one, Rt_cons, Rt_void, isB_0, isB_1, isB_b, true_and, and_true, cats_nil, cats_int, cats_ref, and_self, if_true, if_false, ite_self, le_nlt, ite_not, Rt_nil, bI_f hH]
theorem lp_chome {N G : Nat} {g : Int32} (hN : N ≤ 7) (e : σ 3 (rr (σ 9 0 0)) 1 = nI N) (e2 : σ 3 (rr (σ 9 0 0)) 2 = nI G) (h : CS σ 0 (σ 43 0)) : ∀ m n x, n + m = 8 → (Rn mX7_home 21 [.ref (ad 0 0), .int g, .int x, .int (nI n)] [] fs (enc σ) Q ↔ Rt fs (enc σ) (some (.int (hmC (hoW N (σ 43 0)) G g m n x))) Q) := by
  intro m
  have hq := rr_lt (σ 9 0 0)
  induction m with
  | zero =>
    intro n x hn
    obtain rfl : n = 8 := by omega
    have l : (7 : Int32) < nI 8 := by decide
    simp only [aX7_home_21, aX7_home_22, aX7_home_24, aX7_home_65, aX7_home_66, Nat.zero_le, Nat.reduceLeDiff, Nat.reduceAdd, i1_0, rr_c3, zc9, oc9, zc10, oc10, zc11, oc11, zc12, oc12, zc13, oc13, zc15, oc15, Int32.lt_irrefl, Nat.zero_lt_one, Rt_cons, Rt_void, isB_0, isB_1, isB_b, true_and, and_true, cats_nil, cats_int, cats_ref, and_self, if_true, if_false, ite_self, le_nlt, ite_not, l]
    rfl
  | succ m ih =>
    intro n x hn
    have l : ¬ (7 : Int32) < nI n := nI_nlt (a := 7) (by omega) (by omega)
    rw [aX7_home_21, hmC_s]
    have ih' := ih (n + 1) (hoW N (σ 43 0) x) (by omega)
    by_cases q : hoW N (σ 43 0) x = g
    · rw [if_pos q]
      simp only [aX7_home_22, aX7_home_24, aX7_home_27, aX7_home_28, aX7_home_31, aX7_home_32, aX7_home_35, aX7_home_36, aX7_home_37, aX7_home_38, aX7_home_41, aX7_home_42, sp_houseOf (show 0 < 34 by decide) hN e h, Nat.zero_le, Nat.reduceLeDiff, Nat.reduceAdd, i1_0, rr_c3, zc9, oc9, zc10, oc10, zc11, oc11, zc12, oc12, zc13, oc13, zc15, oc15, Int32.lt_irrefl, Nat.zero_lt_one, Rt_cons, Rt_void, isB_0, isB_1, isB_b, true_and, and_true, cats_nil, cats_int, cats_ref, and_self, if_true, if_false, ite_self, le_nlt, ite_not, l, q, not_true_eq_false]
    · rw [if_neg q]
      by_cases q2 : isH G (hoW N (σ 43 0) x)
      · rw [if_pos q2]
        simp only [aX7_home_22, aX7_home_24, aX7_home_27, aX7_home_28, aX7_home_31, aX7_home_32, aX7_home_35, aX7_home_36, aX7_home_37, aX7_home_38, aX7_home_41, aX7_home_42, aX7_home_43, aX7_home_44, aX7_home_47, aX7_home_50, aX7_home_51, aX7_home_54, aX7_home_57, aX7_home_58, aX7_home_59, aX7_home_62, sp_houseOf (show 0 < 34 by decide) hN e h, sp_cGull hq e2, Nat.zero_le, Nat.reduceLeDiff, Nat.reduceAdd, i1_0, rr_c3, zc9, oc9, zc10, oc10, zc11, oc11, zc12, oc12, zc13, oc13, zc15, oc15, Int32.lt_irrefl, Nat.zero_lt_one, Rt_cons, Rt_void, isB_0, isB_1, isB_b, true_and, and_true, cats_nil, cats_int, cats_ref, and_self, if_true, if_false, ite_self, le_nlt, ite_not, l, q, not_false_eq_true, bI_t q2, nI_1]
        exact ih'
      · rw [if_neg q2]
        simp only [aX7_home_22, aX7_home_24, aX7_home_27, aX7_home_28, aX7_home_31, aX7_home_32, aX7_home_35, aX7_home_36, aX7_home_37, aX7_home_38, aX7_home_41, aX7_home_42, aX7_home_43, aX7_home_44, aX7_home_47, aX7_home_50, aX7_home_51, aX7_home_54, aX7_home_57, aX7_home_58, sp_houseOf (show 0 < 34 by decide) hN e h, sp_cGull hq e2, Nat.zero_le, Nat.reduceLeDiff, Nat.reduceAdd, i1_0, rr_c3, zc9, oc9, zc10, oc10, zc11, oc11, zc12, oc12, zc13, oc13, zc15, oc15, Int32.lt_irrefl, Nat.zero_lt_one, Rt_cons, Rt_void, isB_0, isB_1, isB_b, true_and, and_true, cats_nil, cats_int, cats_ref, and_self, if_true, if_false, ite_self, le_nlt, ite_not, l, q, not_false_eq_true, bI_f q2]
theorem lp_mhome {N G : Nat} {g : Int32} (hN : N ≤ 7) (hG : G ≤ 7) (e : σ 31 0 1 = nI N) (e2 : σ 31 0 2 = nI G) : ∀ m n x, n + m = 9 → (Rn mX8_home 15 [.ref (ad 29 0), .int g, .int x, .int (nI n)] [] fs (enc σ) Q ↔ Rt fs (enc σ) (some (.int (hmM (hoW N (σ 43 0)) G g m n x))) Q) := by
  intro m
  induction m with
  | zero =>
    intro n x hn
    obtain rfl : n = 9 := by omega
    have l : nI 9 = 9 := rfl
    simp only [aX8_home_15, aX8_home_16, aX8_home_18, aX8_home_66, aX8_home_67, Nat.zero_le, Nat.reduceLeDiff, Nat.reduceAdd, i1_0, rr_c3, zc9, oc9, zc10, oc10, zc11, oc11, zc12, oc12, zc13, oc13, zc15, oc15, Int32.lt_irrefl, Nat.zero_lt_one, Rt_cons, Rt_void, isB_0, isB_1, isB_b, true_and, and_true, cats_nil, cats_int, cats_ref, and_self, if_true, if_false, ite_self, le_nlt, ite_not, l]
    rfl
  | succ m ih =>
    intro n x hn
    have l : nI n < 9 := nI_lt (b := 9) (by omega) (by omega)
    rw [aX8_home_15, hmM_s]
    have A : Rn mX8_home 16 [.ref (ad 29 0), .int g, .int x, .int (nI n)] [.int (nI n)] fs (enc σ) Q ↔ Rn mX8_home 39 [.ref (ad 29 0), .int g, .int (if isH G x then hoW N (σ 43 0) x else -1), .int (nI n)] [] fs (enc σ) Q := by
      by_cases q : isH G x
      · rw [if_pos q]
        simp only [aX8_home_16, aX8_home_18, aX8_home_21, aX8_home_22, aX8_home_23, aX8_home_26, aX8_home_29, aX8_home_30, aX8_home_31, aX8_home_34, aX8_home_37, aX8_home_38, sp_mGull hG e2, sp_holds hN e, Nat.zero_le, Nat.reduceLeDiff, Nat.reduceAdd, i1_0, rr_c3, zc9, oc9, zc10, oc10, zc11, oc11, zc12, oc12, zc13, oc13, zc15, oc15, Int32.lt_irrefl, Nat.zero_lt_one, Rt_cons, Rt_void, isB_0, isB_1, isB_b, true_and, and_true, cats_nil, cats_int, cats_ref, and_self, if_true, if_false, ite_self, le_nlt, ite_not, l, bI_t q]
      · rw [if_neg q]
        simp only [aX8_home_16, aX8_home_18, aX8_home_21, aX8_home_22, aX8_home_23, aX8_home_26, aX8_home_29, aX8_home_30, aX8_home_31, aX8_home_34, aX8_home_37, aX8_home_38, sp_mGull hG e2, sp_holds hN e, Nat.zero_le, Nat.reduceLeDiff, Nat.reduceAdd, i1_0, rr_c3, zc9, oc9, zc10, oc10, zc11, oc11, zc12, oc12, zc13, oc13, zc15, oc15, Int32.lt_irrefl, Nat.zero_lt_one, Rt_cons, Rt_void, isB_0, isB_1, isB_b, true_and, and_true, cats_nil, cats_int, cats_ref, and_self, if_true, if_false, ite_self, le_nlt, ite_not, l, bI_f q]
    rw [A]
    generalize (if isH G x then hoW N (σ 43 0) x else -1) = y
    have ih' := ih (n + 1) y (by omega)
    by_cases q : y = g
    · rw [if_pos q]
      simp only [aX8_home_39, aX8_home_40, aX8_home_41, aX8_home_44, aX8_home_45, aX8_home_46, aX8_home_49, aX8_home_50, aX8_home_51, aX8_home_54, aX8_home_55, aX8_home_58, aX8_home_59, Nat.zero_le, Nat.reduceLeDiff, Nat.reduceAdd, i1_0, rr_c3, zc9, oc9, zc10, oc10, zc11, oc11, zc12, oc12, zc13, oc13, zc15, oc15, Int32.lt_irrefl, Nat.zero_lt_one, Rt_cons, Rt_void, isB_0, isB_1, isB_b, true_and, and_true, cats_nil, cats_int, cats_ref, and_self, if_true, if_false, ite_self, le_nlt, ite_not, q, not_true_eq_false]
    · rw [if_neg q]
      by_cases q2 : y = -1
      · have q' : ¬ (-1 : Int32) = g := by rw [← q2]; exact q
        rw [if_pos q2]
        simp only [aX8_home_39, aX8_home_40, aX8_home_41, aX8_home_44, aX8_home_45, aX8_home_46, aX8_home_49, aX8_home_50, aX8_home_51, aX8_home_54, aX8_home_55, aX8_home_58, aX8_home_59, Nat.zero_le, Nat.reduceLeDiff, Nat.reduceAdd, i1_0, rr_c3, zc9, oc9, zc10, oc10, zc11, oc11, zc12, oc12, zc13, oc13, zc15, oc15, Int32.lt_irrefl, Nat.zero_lt_one, Rt_cons, Rt_void, isB_0, isB_1, isB_b, true_and, and_true, cats_nil, cats_int, cats_ref, and_self, if_true, if_false, ite_self, le_nlt, ite_not, q2, q', not_true_eq_false, not_false_eq_true]
      · rw [if_neg q2]
        simp only [aX8_home_39, aX8_home_40, aX8_home_41, aX8_home_44, aX8_home_45, aX8_home_46, aX8_home_49, aX8_home_50, aX8_home_51, aX8_home_54, aX8_home_55, aX8_home_58, aX8_home_59, aX8_home_60, aX8_home_63, Nat.zero_le, Nat.reduceLeDiff, Nat.reduceAdd, i1_0, rr_c3, zc9, oc9, zc10, oc10, zc11, oc11, zc12, oc12, zc13, oc13, zc15, oc15, Int32.lt_irrefl, Nat.zero_lt_one, Rt_cons, Rt_void, isB_0, isB_1, isB_b, true_and, and_true, cats_nil, cats_int, cats_ref, and_self, if_true, if_false, ite_self, le_nlt, ite_not, q, q2, not_false_eq_true, nI_1]
        exact ih'
theorem api_home (h : Int32) : Sim Rel mX7_home mX8_home [.int h] := by
  refine Sim_of (Lc := [.ref (ad 0 0), .int h, .null, .null]) (Lm := [.ref (ad 29 0), .int h, .null, .null]) rfl rfl (fun σ hR => ?_)
  obtain ⟨r1, r2, C, N, G, r3, r4, r5, r6, r7⟩ := id hR
  obtain ⟨q1, q2, q3, q4, ⟨l0, l1, l2⟩, ⟨k0, k1, k2⟩, q5, q6, q7⟩ := id r3.1
  have hq := rr_lt (σ 9 0 0)
  have hG : G ≤ 7 := by omega
  by_cases hH : isH G h
  · obtain ⟨j, hj, rfl⟩ := isH_of hG hH
    have e1 : nI 1 = 1 := rfl
    have heq := hm_eq (w := σ 43 0) q2 q3 hj 7 1 (nI j) (by omega) (by omega) ⟨fun _ => j, rfl, rfl, fun _ _ => hj, fun i a b => by omega⟩ hH
    refine ⟨σ, σ, hmC (hoW N (σ 43 0)) G (nI j) 7 1 (nI j), ?_, ?_, hR⟩
    · have := lp_chome (σ := σ) (fs := []) (Q := fun X v => X = enc σ ∧ v = some (.int (hmC (hoW N (σ 43 0)) G (nI j) 7 1 (nI j)))) (g := nI j) q2 k1 k2 r3.2.2.1 7 1 (nI j) (by omega)
      rw [e1] at this
      simp only [aX7_home_0, aX7_home_1, aX7_home_4, aX7_home_7, aX7_home_8, aX7_home_11, aX7_home_14, aX7_home_16, aX7_home_17, aX7_home_18, aX7_home_19, aX7_home_20, sp_cGull hq k2, Nat.zero_le, Nat.reduceLeDiff, Nat.reduceAdd, i1_0, rr_c3, zc9, oc9, zc10, oc10, zc11, oc11, zc12, oc12, zc13, oc13, zc15, oc15, Int32.lt_irrefl, Nat.zero_lt_one, Rt_cons, Rt_void, isB_0, isB_1, isB_b, true_and, and_true, cats_nil, cats_int, cats_ref, and_self, if_true, if_false, ite_self, le_nlt, ite_not, bI_t hH]
      rw [this]
      simp only [Nat.zero_le, Nat.reduceLeDiff, Nat.reduceAdd, i1_0, rr_c3, zc9, oc9, zc10, oc10, zc11, oc11, zc12, oc12, zc13, oc13, zc15, oc15, Int32.lt_irrefl, Nat.zero_lt_one, Rt_cons, Rt_void, isB_0, isB_1, isB_b, true_and, and_true, cats_nil, cats_int, cats_ref, and_self, if_true, if_false, ite_self, le_nlt, ite_not, Rt_nil]
    · have := lp_mhome (σ := σ) (fs := []) (Q := fun X v => X = enc σ ∧ v = some (.int (hmC (hoW N (σ 43 0)) G (nI j) 7 1 (nI j)))) (g := nI j) q2 hG l1 l2 8 1 (nI j) (by omega)
      rw [e1] at this
      simp only [aX8_home_0, aX8_home_1, aX8_home_2, aX8_home_5, aX8_home_8, aX8_home_10, aX8_home_11, aX8_home_12, aX8_home_13, aX8_home_14, sp_mGull hG l2, Nat.zero_le, Nat.reduceLeDiff, Nat.reduceAdd, i1_0, rr_c3, zc9, oc9, zc10, oc10, zc11, oc11, zc12, oc12, zc13, oc13, zc15, oc15, Int32.lt_irrefl, Nat.zero_lt_one, Rt_cons, Rt_void, isB_0, isB_1, isB_b, true_and, and_true, cats_nil, cats_int, cats_ref, and_self, if_true, if_false, ite_self, le_nlt, ite_not, bI_t hH]
      rw [this]
      simp only [Nat.zero_le, Nat.reduceLeDiff, Nat.reduceAdd, i1_0, rr_c3, zc9, oc9, zc10, oc10, zc11, oc11, zc12, oc12, zc13, oc13, zc15, oc15, Int32.lt_irrefl, Nat.zero_lt_one, Rt_cons, Rt_void, isB_0, isB_1, isB_b, true_and, and_true, cats_nil, cats_int, cats_ref, and_self, if_true, if_false, ite_self, le_nlt, ite_not, Rt_nil, heq]
  · refine ⟨σ, σ, -1000000001, ?_, ?_, hR⟩
    · simp only [aX7_home_0, aX7_home_1, aX7_home_4, aX7_home_7, aX7_home_8, aX7_home_11, aX7_home_14, aX7_home_16, sp_cGull hq k2, Nat.zero_le, Nat.reduceLeDiff, Nat.reduceAdd, i1_0, rr_c3, zc9, oc9, zc10, oc10, zc11, oc11, zc12, oc12, zc13, oc13, zc15, oc15, Int32.lt_irrefl, Nat.zero_lt_one, Rt_cons, Rt_void, isB_0, isB_1, isB_b, true_and, and_true, cats_nil, cats_int, cats_ref, and_self, if_true, if_false, ite_self, le_nlt, ite_not, Rt_nil, bI_f hH]
    · simp only [aX8_home_0, aX8_home_1, aX8_home_2, aX8_home_5, aX8_home_8, aX8_home_10, sp_mGull hG l2, Nat.zero_le, Nat.reduceLeDiff, Nat.reduceAdd, i1_0, rr_c3, zc9, oc9, zc10, oc10, zc11, oc11, zc12, oc12, zc13, oc13, zc15, oc15, Int32.lt_irrefl, Nat.zero_lt_one, Rt_cons, Rt_void, isB_0, isB_1, isB_b, true_and, and_true, cats_nil, cats_int, cats_ref, and_self, if_true, if_false, ite_self, le_nlt, ite_not, Rt_nil, bI_f hH]
def srF (q : Int32) : Nat → Int64 → Int64
  | 0, v => v
  | m + 1, v => srF q m (v * q.toInt64 / 100)
theorem srF_s (q : Int32) (m : Nat) (v : Int64) : srF q (m + 1) v = srF q m (v * q.toInt64 / 100) := rfl
theorem lp_csure {n : Nat} {q : Int32} {l0 : Value} (hn : n ≤ 60) : ∀ m k v, k + m = n → (Rn mX7_sure 30 [l0, .int (nI n), .int q, .long v, .null, .int (nI k)] [] fs M Q ↔ Rt fs M (some (.int (srF q m v).toInt32)) Q) := by
  intro m
  have ne : ¬ (100 : Int64) = 0 := by decide
  induction m with
  | zero =>
    intro k v hk
    obtain rfl : k = n := by omega
    simp only [aX7_sure_30, aX7_sure_32, aX7_sure_33, aX7_sure_51, aX7_sure_52, aX7_sure_53, Nat.zero_le, Nat.reduceLeDiff, Nat.reduceAdd, i1_0, rr_c3, zc9, oc9, zc10, oc10, zc11, oc11, zc12, oc12, zc13, oc13, zc15, oc15, Int32.lt_irrefl, Nat.zero_lt_one, Rt_cons, Rt_void, isB_0, isB_1, isB_b, true_and, and_true, cats_nil, cats_int, cats_ref, and_self, if_true, if_false, ite_self, le_nlt, ite_not]
    rfl
  | succ m ih =>
    intro k v hk
    have l : nI k < nI n := nI_lt (by omega) (by omega)
    rw [aX7_sure_30, srF_s]
    simp only [aX7_sure_32, aX7_sure_33, aX7_sure_36, aX7_sure_37, aX7_sure_38, aX7_sure_39, aX7_sure_40, aX7_sure_43, aX7_sure_44, aX7_sure_45, aX7_sure_48, Nat.zero_le, Nat.reduceLeDiff, Nat.reduceAdd, i1_0, rr_c3, zc9, oc9, zc10, oc10, zc11, oc11, zc12, oc12, zc13, oc13, zc15, oc15, Int32.lt_irrefl, Nat.zero_lt_one, Rt_cons, Rt_void, isB_0, isB_1, isB_b, true_and, and_true, cats_nil, cats_int, cats_ref, and_self, if_true, if_false, ite_self, le_nlt, ite_not, l, ne, not_false_eq_true, nI_1]
    exact ih (k + 1) _ (by omega)
theorem lp_msure {n : Nat} {q : Int32} {l0 : Value} (hn : n ≤ 60) : ∀ m k v, k + m = n → (Rn mX8_sure 30 [l0, .int (nI n), .int q, .long v, .null, .int (nI k)] [] fs M Q ↔ Rt fs M (some (.int (srF q m v).toInt32)) Q) := by
  intro m
  have ne : ¬ (100 : Int64) = 0 := by decide
  induction m with
  | zero =>
    intro k v hk
    obtain rfl : k = n := by omega
    simp only [aX8_sure_30, aX8_sure_32, aX8_sure_33, aX8_sure_51, aX8_sure_52, aX8_sure_53, Nat.zero_le, Nat.reduceLeDiff, Nat.reduceAdd, i1_0, rr_c3, zc9, oc9, zc10, oc10, zc11, oc11, zc12, oc12, zc13, oc13, zc15, oc15, Int32.lt_irrefl, Nat.zero_lt_one, Rt_cons, Rt_void, isB_0, isB_1, isB_b, true_and, and_true, cats_nil, cats_int, cats_ref, and_self, if_true, if_false, ite_self, le_nlt, ite_not]
    rfl
  | succ m ih =>
    intro k v hk
    have l : nI k < nI n := nI_lt (by omega) (by omega)
    rw [aX8_sure_30, srF_s]
    simp only [aX8_sure_32, aX8_sure_33, aX8_sure_36, aX8_sure_37, aX8_sure_38, aX8_sure_39, aX8_sure_40, aX8_sure_43, aX8_sure_44, aX8_sure_45, aX8_sure_48, Nat.zero_le, Nat.reduceLeDiff, Nat.reduceAdd, i1_0, rr_c3, zc9, oc9, zc10, oc10, zc11, oc11, zc12, oc12, zc13, oc13, zc15, oc15, Int32.lt_irrefl, Nat.zero_lt_one, Rt_cons, Rt_void, isB_0, isB_1, isB_b, true_and, and_true, cats_nil, cats_int, cats_ref, and_self, if_true, if_false, ite_self, le_nlt, ite_not, l, ne, not_false_eq_true, nI_1]
    exact ih (k + 1) _ (by omega)
theorem api_sure (x y : Int32) : Sim Rel mX7_sure mX8_sure [.int x, .int y] := by
  refine Sim_of (Lc := [.ref (ad 0 0), .int x, .int y, .null, .null, .null]) (Lm := [.ref (ad 29 0), .int x, .int y, .null, .null, .null]) rfl rfl (fun σ hR => ?_)
  by_cases ho : x < 0 ∨ 60 < x
  · refine ⟨σ, σ, -1000000002, ?_, ?_, hR⟩
    · simp only [aX7_sure_0, aX7_sure_1, aX7_sure_2, aX7_sure_4, aX7_sure_7, aX7_sure_10, aX7_sure_11, aX7_sure_12, aX7_sure_14, aX7_sure_17, aX7_sure_20, aX7_sure_22, sp_isOutside, Nat.zero_le, Nat.reduceLeDiff, Nat.reduceAdd, i1_0, rr_c3, zc9, oc9, zc10, oc10, zc11, oc11, zc12, oc12, zc13, oc13, zc15, oc15, Int32.lt_irrefl, Nat.zero_lt_one, Rt_cons, Rt_void, isB_0, isB_1, isB_b, true_and, and_true, cats_nil, cats_int, cats_ref, and_self, if_true, if_false, ite_self, le_nlt, ite_not, Rt_nil, bI_t ho]
    · simp only [aX8_sure_0, aX8_sure_1, aX8_sure_2, aX8_sure_4, aX8_sure_7, aX8_sure_10, aX8_sure_11, aX8_sure_12, aX8_sure_14, aX8_sure_17, aX8_sure_20, aX8_sure_22, sp_in, Nat.zero_le, Nat.reduceLeDiff, Nat.reduceAdd, i1_0, rr_c3, zc9, oc9, zc10, oc10, zc11, oc11, zc12, oc12, zc13, oc13, zc15, oc15, Int32.lt_irrefl, Nat.zero_lt_one, Rt_cons, Rt_void, isB_0, isB_1, isB_b, true_and, and_true, cats_nil, cats_int, cats_ref, and_self, if_true, if_false, ite_self, le_nlt, ite_not, Rt_nil, bI_f (show ¬ (¬ x < 0 ∧ ¬ 60 < x) from fun z => ho.elim z.1 z.2)]
  · have hin := not_out.mp ho
    by_cases ho2 : y < 0 ∨ 100 < y
    · refine ⟨σ, σ, -1000000002, ?_, ?_, hR⟩
      · simp only [aX7_sure_0, aX7_sure_1, aX7_sure_2, aX7_sure_4, aX7_sure_7, aX7_sure_10, aX7_sure_11, aX7_sure_12, aX7_sure_14, aX7_sure_17, aX7_sure_20, aX7_sure_22, sp_isOutside, Nat.zero_le, Nat.reduceLeDiff, Nat.reduceAdd, i1_0, rr_c3, zc9, oc9, zc10, oc10, zc11, oc11, zc12, oc12, zc13, oc13, zc15, oc15, Int32.lt_irrefl, Nat.zero_lt_one, Rt_cons, Rt_void, isB_0, isB_1, isB_b, true_and, and_true, cats_nil, cats_int, cats_ref, and_self, if_true, if_false, ite_self, le_nlt, ite_not, Rt_nil, bI_f ho, bI_t ho2]
      · simp only [aX8_sure_0, aX8_sure_1, aX8_sure_2, aX8_sure_4, aX8_sure_7, aX8_sure_10, aX8_sure_11, aX8_sure_12, aX8_sure_14, aX8_sure_17, aX8_sure_20, aX8_sure_22, sp_in, Nat.zero_le, Nat.reduceLeDiff, Nat.reduceAdd, i1_0, rr_c3, zc9, oc9, zc10, oc10, zc11, oc11, zc12, oc12, zc13, oc13, zc15, oc15, Int32.lt_irrefl, Nat.zero_lt_one, Rt_cons, Rt_void, isB_0, isB_1, isB_b, true_and, and_true, cats_nil, cats_int, cats_ref, and_self, if_true, if_false, ite_self, le_nlt, ite_not, Rt_nil, bI_t hin, bI_f (show ¬ (¬ y < 0 ∧ ¬ 100 < y) from fun z => ho2.elim z.1 z.2)]
    · have hin2 := not_out.mp ho2
      obtain ⟨t, ht, rfl⟩ := nI_of2 (M := 60) (n := 60) (by decide) hin.1 (Int32.not_lt.mp hin.2)
      have z0 : nI 0 = 0 := rfl
      refine ⟨σ, σ, (srF y t 1000000000).toInt32, ?_, ?_, hR⟩
      · have := lp_csure (M := enc σ) (fs := []) (Q := fun X v => X = enc σ ∧ v = some (.int (srF y t 1000000000).toInt32)) (q := y) (l0 := .ref (ad 0 0)) ht t 0 1000000000 (by omega)
        rw [z0] at this
        simp only [aX7_sure_0, aX7_sure_1, aX7_sure_2, aX7_sure_4, aX7_sure_7, aX7_sure_10, aX7_sure_11, aX7_sure_12, aX7_sure_14, aX7_sure_17, aX7_sure_20, aX7_sure_22, aX7_sure_23, aX7_sure_26, aX7_sure_27, aX7_sure_28, sp_isOutside, Nat.zero_le, Nat.reduceLeDiff, Nat.reduceAdd, i1_0, rr_c3, zc9, oc9, zc10, oc10, zc11, oc11, zc12, oc12, zc13, oc13, zc15, oc15, Int32.lt_irrefl, Nat.zero_lt_one, Rt_cons, Rt_void, isB_0, isB_1, isB_b, true_and, and_true, cats_nil, cats_int, cats_ref, and_self, if_true, if_false, ite_self, le_nlt, ite_not, bI_f ho, bI_f ho2]
        rw [this]
        simp only [Nat.zero_le, Nat.reduceLeDiff, Nat.reduceAdd, i1_0, rr_c3, zc9, oc9, zc10, oc10, zc11, oc11, zc12, oc12, zc13, oc13, zc15, oc15, Int32.lt_irrefl, Nat.zero_lt_one, Rt_cons, Rt_void, isB_0, isB_1, isB_b, true_and, and_true, cats_nil, cats_int, cats_ref, and_self, if_true, if_false, ite_self, le_nlt, ite_not, Rt_nil]
      · have := lp_msure (M := enc σ) (fs := []) (Q := fun X v => X = enc σ ∧ v = some (.int (srF y t 1000000000).toInt32)) (q := y) (l0 := .ref (ad 29 0)) ht t 0 1000000000 (by omega)
        rw [z0] at this
        simp only [aX8_sure_0, aX8_sure_1, aX8_sure_2, aX8_sure_4, aX8_sure_7, aX8_sure_10, aX8_sure_11, aX8_sure_12, aX8_sure_14, aX8_sure_17, aX8_sure_20, aX8_sure_22, aX8_sure_23, aX8_sure_26, aX8_sure_27, aX8_sure_28, sp_in, Nat.zero_le, Nat.reduceLeDiff, Nat.reduceAdd, i1_0, rr_c3, zc9, oc9, zc10, oc10, zc11, oc11, zc12, oc12, zc13, oc13, zc15, oc15, Int32.lt_irrefl, Nat.zero_lt_one, Rt_cons, Rt_void, isB_0, isB_1, isB_b, true_and, and_true, cats_nil, cats_int, cats_ref, and_self, if_true, if_false, ite_self, le_nlt, ite_not, bI_t hin, bI_t hin2]
        rw [this]
        simp only [Nat.zero_le, Nat.reduceLeDiff, Nat.reduceAdd, i1_0, rr_c3, zc9, oc9, zc10, oc10, zc11, oc11, zc12, oc12, zc13, oc13, zc15, oc15, Int32.lt_irrefl, Nat.zero_lt_one, Rt_cons, Rt_void, isB_0, isB_1, isB_b, true_and, and_true, cats_nil, cats_int, cats_ref, and_self, if_true, if_false, ite_self, le_nlt, ite_not, Rt_nil]
end S69
