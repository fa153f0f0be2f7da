-- listen: pure
/-- how many of the first k have x -/
def cnF (f : Nat → Nat) (x : Nat) : Nat → Nat
  | 0 => 0
  | k + 1 => cnF f x k + (if f k = x then 1 else 0)
theorem cnF_s (f : Nat → Nat) (x k : Nat) : cnF f x (k + 1) = cnF f x k + (if f k = x then 1 else 0) := rfl
theorem cnF_le (f : Nat → Nat) (x : Nat) : ∀ k, cnF f x k ≤ k := by
  intro k
  induction k with
  | zero => exact Nat.le_refl _
  | succ k ih => rw [cnF_s]; split <;> omega
theorem cnF_mono (f : Nat → Nat) (x : Nat) {k : Nat} : ∀ {m : Nat}, cnF f x k ≤ cnF f x (k + m) := by
  intro m
  induction m with
  | zero => exact Nat.le_refl _
  | succ m ih => rw [← Nat.add_assoc, cnF_s]; omega
/-- the class's greatest -/
def gmF (f : Nat → Nat) : Nat → Nat
  | 0 => 0
  | k + 1 => max (gmF f k) (cnF f (f k) (k + 1))
theorem gmF_s (f : Nat → Nat) (k : Nat) : gmF f (k + 1) = max (gmF f k) (cnF f (f k) (k + 1)) := rfl
/-- the reference's -/
def moF (f : Nat → Nat) (L : Nat) : Nat → Nat
  | 0 => 0
  | a + 1 => if moF f L a < cnF f (f a) L then cnF f (f a) L else moF f L a
theorem moF_s (f : Nat → Nat) (L a : Nat) : moF f L (a + 1) = if moF f L a < cnF f (f a) L then cnF f (f a) L else moF f L a := rfl
theorem gm_up (f : Nat → Nat) (x : Nat) : ∀ k, cnF f x k ≤ gmF f k := by
  intro k
  induction k with
  | zero => exact Nat.le_refl _
  | succ k ih =>
    rw [gmF_s]
    by_cases q : f k = x
    · rw [q]; exact Nat.le_max_right _ _
    · rw [cnF_s, if_neg q]
      exact Nat.le_trans ih (Nat.le_max_left _ _)
theorem gm_lo (f : Nat → Nat) {M : Nat} : ∀ k, (∀ i, i < k → cnF f (f i) (i + 1) ≤ M) → gmF f k ≤ M := by
  intro k
  induction k with
  | zero => intro _; exact Nat.zero_le _
  | succ k ih =>
    intro h
    rw [gmF_s]
    exact Nat.max_le.mpr ⟨ih (fun i hi => h i (by omega)), h k (by omega)⟩
theorem mo_up (f : Nat → Nat) (L : Nat) : ∀ a i, i < a → cnF f (f i) L ≤ moF f L a := by
  intro a
  induction a with
  | zero => intro i hi; omega
  | succ a ih =>
    intro i hi
    rw [moF_s]
    by_cases q : i = a
    · rw [q]; split <;> omega
    · have := ih i (by omega)
      split <;> omega
theorem mo_lo (f : Nat → Nat) (L : Nat) {M : Nat} : ∀ a, (∀ i, i < a → cnF f (f i) L ≤ M) → moF f L a ≤ M := by
  intro a
  induction a with
  | zero => intro _; exact Nat.zero_le _
  | succ a ih =>
    intro h
    rw [moF_s]
    have := ih (fun i hi => h i (by omega))
    have := h a (by omega)
    split <;> omega
theorem gm_mo (f : Nat → Nat) (L : Nat) : gmF f L = moF f L L := by
  refine Nat.le_antisymm (gm_lo f L (fun i hi => ?_)) (mo_lo f L L (fun i _ => gm_up f (f i) L))
  have := cnF_mono f (f i) (k := i + 1) (m := L - (i + 1))
  rw [show i + 1 + (L - (i + 1)) = L by omega] at this
  exact Nat.le_trans this (mo_up f L L i hi)
theorem gm_le (f : Nat → Nat) (L : Nat) : gmF f L ≤ L := gm_lo f L (fun i hi => Nat.le_trans (cnF_le _ _ _) (by omega))
/-- part of a gale, by who is at the house: 0 none -/
def ptF (x : Int32) : Nat := (x + 1).toNatClampNeg
theorem ptF_n1 : ptF (-1) = 0 := by decide
theorem ptF_nI {g : Nat} (h : g < 10000) : ptF (nI g) = g + 1 := by unfold ptF; rw [nI_1]; exact nI_clamp (by omega)
/-- none, or a gull -/
def gulP (G : Nat) (x : Int32) : Prop := x = -1 ∨ ∃ g : Nat, g < G ∧ x = nI g
theorem gulP_pt {G : Nat} {x : Int32} (hG : G ≤ 7) (h : gulP G x) : x + 1 = nI (ptF x) ∧ ptF x ≤ 7 := by
  rcases h with rfl | ⟨g, g1, rfl⟩
  · exact ⟨by decide, by decide⟩
  · rw [ptF_nI (by omega)]; exact ⟨nI_1 g, by omega⟩
theorem gulP_inj {G : Nat} {x y : Int32} (hG : G ≤ 7) (hx : gulP G x) (hy : gulP G y) : x = y ↔ ptF x = ptF y := by
  constructor
  · intro z; rw [z]
  · intro z
    rcases hx with rfl | ⟨g, g1, rfl⟩
    · rcases hy with rfl | ⟨k, k1, rfl⟩
      · rfl
      · rw [ptF_n1, ptF_nI (by omega)] at z; omega
    · rcases hy with rfl | ⟨k, k1, rfl⟩
      · rw [ptF_n1, ptF_nI (by omega)] at z; omega
      · rw [ptF_nI (by omega), ptF_nI (by omega)] at z
        rw [show g = k by omega]
theorem swp_gul {G p : Nat} {x : Int32} (hp : p < 100) (hG : p = 99 ∨ (p / 10 < G ∧ p % 10 < G)) (h : gulP G x) : gulP G (swp p x) := by
  rcases h with rfl | ⟨g, g1, rfl⟩
  · exact Or.inl (swp_n1 hp)
  · obtain ⟨y, y1, y2⟩ := swp_lt hp hG g1
    exact Or.inr ⟨y, y1, y2⟩
section S79
variable {σ : Mem} {fs : List Fm} {M : List va_E} {Q : List va_E → Option Value → Prop}
theorem lp_whoAt {N G h p : Nat} (hN : N ≤ 7) (hG : G ≤ 7) (hp : p < 100) (hh : h < N) (hi : Inj (σ 43 0)) (e1 : σ 31 0 1 = nI N) (e2 : σ 31 0 2 = nI G) : ∀ m k, k + m = G →
    (Rn mX8_whoAt 2 [.ref (ad 29 0), .int (nI h), .int (nI p), .int (nI k)] [] fs (enc σ) Q ↔ Rt fs (enc σ) (some (.int (fnd (fun g => decide (swp p (σ 43 0 (64 + 5 * h + 2)) = nI g)) m k))) Q) := by
  intro m
  induction m with
  | zero =>
    intro k hk
    obtain rfl : k = G := by omega
    simp only [aX8_whoAt_2, aX8_whoAt_3, aX8_whoAt_4, aX8_whoAt_7, aX8_whoAt_8, aX8_whoAt_9, aX8_whoAt_30, aX8_whoAt_31, Nat.zero_le, Nat.reduceLeDiff, Nat.reduceAdd, i1_0, rr_c3, zc9, oc9, zc10, oc10, zc11, oc11, zc12, oc12, zc13, oc13, zc15, oc15, Int32.lt_irrefl, Nat.zero_lt_one, Rt_cons, Rt_void, isB_0, isB_1, isB_b, true_and, and_true, cats_nil, cats_int, cats_ref, and_self, if_true, if_false, ite_self, le_nlt, ite_not, aT_31, aN_31, cnt_31, v3.2.2, c2, e2]
    rfl
  | succ m ih =>
    intro k hk
    have l : nI k < nI G := nI_lt (by omega) (by omega)
    have wa := fun fs Q => sp_wasAt (σ := σ) (fs := fs) (Q := Q) (x := nI k) hN hp e1
    have wi := was_iff hN hi hp (show k < 7 by omega) hh
    rw [fnd_s]
    by_cases q : swp p (σ 43 0 (64 + 5 * h + 2)) = nI k
    · rw [if_pos (decide_eq_true q)]
      simp only [aX8_whoAt_2, aX8_whoAt_3, aX8_whoAt_4, aX8_whoAt_7, aX8_whoAt_8, aX8_whoAt_9, aX8_whoAt_12, aX8_whoAt_13, aX8_whoAt_14, aX8_whoAt_15, aX8_whoAt_18, aX8_whoAt_19, aX8_whoAt_22, aX8_whoAt_23, wa, Nat.zero_le, Nat.reduceLeDiff, Nat.reduceAdd, i1_0, rr_c3, zc9, oc9, zc10, oc10, zc11, oc11, zc12, oc12, zc13, oc13, zc15, oc15, Int32.lt_irrefl, Nat.zero_lt_one, Rt_cons, Rt_void, isB_0, isB_1, isB_b, true_and, and_true, cats_nil, cats_int, cats_ref, and_self, if_true, if_false, ite_self, le_nlt, ite_not, aT_31, aN_31, cnt_31, v3.2.2, c2, e2, l, wi.mpr q, not_true_eq_false]
    · rw [if_neg (fun z => q (of_decide_eq_true z))]
      have q2 : ¬ hoW N (σ 43 0) (swp p (nI k)) = nI h := fun z => q (wi.mp z)
      rw [← ih (k + 1) (by omega), aX8_whoAt_2]
      simp only [aX8_whoAt_3, aX8_whoAt_4, aX8_whoAt_7, aX8_whoAt_8, aX8_whoAt_9, aX8_whoAt_12, aX8_whoAt_13, aX8_whoAt_14, aX8_whoAt_15, aX8_whoAt_18, aX8_whoAt_19, aX8_whoAt_22, aX8_whoAt_23, aX8_whoAt_24, aX8_whoAt_27, wa, Nat.zero_le, Nat.reduceLeDiff, Nat.reduceAdd, i1_0, rr_c3, zc9, oc9, zc10, oc10, zc11, oc11, zc12, oc12, zc13, oc13, zc15, oc15, Int32.lt_irrefl, Nat.zero_lt_one, Rt_cons, Rt_void, isB_0, isB_1, isB_b, true_and, and_true, cats_nil, cats_int, cats_ref, and_self, if_true, if_false, ite_self, le_nlt, ite_not, aT_31, aN_31, cnt_31, v3.2.2, c2, e2, l, q2, not_false_eq_true, nI_1]
theorem fnd_gul {G : Nat} {x : Int32} (hG : G ≤ 7) (h : gulP G x) : fnd (fun g => decide (x = nI g)) G 0 = x := by
  rcases fnd_cases (fun g => decide (x = nI g)) G 0 with ⟨a, b⟩ | ⟨t, t1, t2, t3, t4⟩
  · rcases h with z | ⟨g, g1, z⟩
    · rw [a, z]
    · exact absurd (decide_eq_true z) (b g (by omega) (by omega))
  · rw [t4]; exact (of_decide_eq_true t3).symm
theorem sp_whoAt {N G h p : Nat} (hN : N ≤ 7) (hG : G ≤ 7) (hp : p < 100) (hpG : p = 99 ∨ (p / 10 < G ∧ p % 10 < G)) (hh : h < N) (hi : Inj (σ 43 0)) (hg : gulP G (σ 43 0 (64 + 5 * h + 2))) (e1 : σ 31 0 1 = nI N) (e2 : σ 31 0 2 = nI G) :
    Rn mX8_whoAt 0 [.ref (ad 29 0), .int (nI h), .int (nI p), .null] [] fs (enc σ) Q ↔ Rt fs (enc σ) (some (.int (swp p (σ 43 0 (64 + 5 * h + 2))))) Q := by
  have L := lp_whoAt (fs := fs) (Q := Q) hN hG hp hh hi e1 e2 G 0 (by omega)
  rw [fnd_gul hG (swp_gul hp hpG hg), nI_0] at L
  rw [← L]
  simp only [aX8_whoAt_0, aX8_whoAt_1, Nat.zero_le, Nat.reduceLeDiff, Nat.reduceAdd, i1_0, rr_c3, zc9, oc9, zc10, oc10, zc11, oc11, zc12, oc12, zc13, oc13, zc15, oc15, Int32.lt_irrefl, Nat.zero_lt_one, Rt_cons, Rt_void, isB_0, isB_1, isB_b, true_and, and_true, cats_nil, cats_int, cats_ref, and_self, if_true, if_false, ite_self, le_nlt, ite_not]
/-- a list of pairs -/
def PL (G : Nat) (l : List Nat) : Prop := l.length ≤ 22 ∧ ∀ j, j < l.length → l.getD j 0 < 100 ∧ (l.getD j 0 = 99 ∨ (l.getD j 0 / 10 < G ∧ l.getD j 0 % 10 < G))
/-- part of the j-th -/
def pj (x : Int32) (l : List Nat) (j : Nat) : Nat := ptF (swp (l.getD j 0) x)
theorem pj_gul {G j : Nat} {x : Int32} {l : List Nat} (hl : PL G l) (hx : gulP G x) (hj : j < l.length) : gulP G (swp (l.getD j 0) x) := swp_gul (hl.2 j hj).1 (hl.2 j hj).2 hx
theorem lp_alin {N G h a : Nat} {l : List Nat} {mo : Int32} (hN : N ≤ 7) (hG : G ≤ 7) (hh : h < N) (hi : Inj (σ 43 0)) (hg : gulP G (σ 43 0 (64 + 5 * h + 2))) (e1 : σ 31 0 1 = nI N) (e2 : σ 31 0 2 = nI G) (hl : PL G l) (hL : Ls (σ 51 0) (σ 29 0 34) l) (ha : a < l.length) : ∀ m b, b + m = l.length →
    (Rn mX8_alike 18 [.ref (ad 29 0), .int (nI h), .int mo, .int (nI a), .int (nI (cnF (pj (σ 43 0 (64 + 5 * h + 2)) l) (pj (σ 43 0 (64 + 5 * h + 2)) l a) b)), .int (nI b)] [] fs (enc σ) Q ↔ Rn mX8_alike 69 [.ref (ad 29 0), .int (nI h), .int mo, .int (nI a), .int (nI (cnF (pj (σ 43 0 (64 + 5 * h + 2)) l) (pj (σ 43 0 (64 + 5 * h + 2)) l a) l.length)), .int (nI l.length)] [] fs (enc σ) Q) := by
  intro m
  have h22 := hl.1
  induction m with
  | zero =>
    intro b hb
    obtain rfl : b = l.length := by omega
    rw [aX8_alike_18]
    simp only [aX8_alike_20, aX8_alike_21, aX8_alike_24, Nat.zero_le, Nat.reduceLeDiff, Nat.reduceAdd, i1_0, rr_c3, zc9, oc9, zc10, oc10, zc11, oc11, zc12, oc12, zc13, oc13, zc15, oc15, Int32.lt_irrefl, Nat.zero_lt_one, Rt_cons, Rt_void, isB_0, isB_1, isB_b, true_and, and_true, cats_nil, cats_int, cats_ref, and_self, if_true, if_false, ite_self, le_nlt, ite_not, hL.1]
  | succ m ih =>
    intro b hb
    have lt : nI b < nI l.length := nI_lt (by omega) (by omega)
    have va : vp_in (nI a) 22 := vp_in_nI (by omega) (by decide)
    have vb : vp_in (nI b) 22 := vp_in_nI (by omega) (by decide)
    have ca := cl10 (show a < 10000 by omega)
    have cb := cl10 (show b < 10000 by omega)
    have ea := hL.2 a ha
    have eb := hL.2 b (by omega)
    have wA := fun fs Q => sp_whoAt (σ := σ) (fs := fs) (Q := Q) hN hG (hl.2 a ha).1 (hl.2 a ha).2 hh hi hg e1 e2
    have wB := fun fs Q => sp_whoAt (σ := σ) (fs := fs) (Q := Q) hN hG (hl.2 b (by omega)).1 (hl.2 b (by omega)).2 hh hi hg e1 e2
    have ij := gulP_inj hG (pj_gul hl hg ha) (pj_gul hl hg (show b < l.length by omega))
    rw [← ih (b + 1) (by omega), cnF_s, aX8_alike_18]
    by_cases q : swp (l.getD a 0) (σ 43 0 (64 + 5 * h + 2)) = swp (l.getD b 0) (σ 43 0 (64 + 5 * h + 2))
    · have q2 : pj (σ 43 0 (64 + 5 * h + 2)) l b = pj (σ 43 0 (64 + 5 * h + 2)) l a := (ij.mp q).symm
      rw [if_pos q2]
      simp only [aX8_alike_20, aX8_alike_21, aX8_alike_24, aX8_alike_27, aX8_alike_29, aX8_alike_30, aX8_alike_31, aX8_alike_32, aX8_alike_35, aX8_alike_36, Nat.zero_le, Nat.reduceLeDiff, Nat.reduceAdd, i1_0, rr_c3, zc9, oc9, zc10, oc10, zc11, oc11, zc12, oc12, zc13, oc13, zc15, oc15, Int32.lt_irrefl, Nat.zero_lt_one, Rt_cons, Rt_void, isB_0, isB_1, isB_b, true_and, and_true, cats_nil, cats_int, cats_ref, and_self, if_true, if_false, ite_self, le_nlt, ite_not, hL.1, lt, aT_51, aN_51, cnt_51, va, ca, ea]
      rw [aX8_alike_37]
      simp only [cats_int, cats_nil, cats_ref, Nat.reduceLeDiff, true_and, Nat.reduceAdd]
      rw [wA]
      simp only [aX8_alike_40, aX8_alike_41, aX8_alike_42, aX8_alike_43, aX8_alike_46, aX8_alike_48, Nat.zero_le, Nat.reduceLeDiff, Nat.reduceAdd, i1_0, rr_c3, zc9, oc9, zc10, oc10, zc11, oc11, zc12, oc12, zc13, oc13, zc15, oc15, Int32.lt_irrefl, Nat.zero_lt_one, Rt_cons, Rt_void, isB_0, isB_1, isB_b, true_and, and_true, cats_nil, cats_int, cats_ref, and_self, if_true, if_false, ite_self, le_nlt, ite_not, aT_51, aN_51, cnt_51, vb, cb, eb]
      rw [aX8_alike_49]
      simp only [cats_int, cats_nil, cats_ref, Nat.reduceLeDiff, true_and, Nat.reduceAdd]
      rw [wB]
      simp only [aX8_alike_52, aX8_alike_55, aX8_alike_56, aX8_alike_59, aX8_alike_60, aX8_alike_61, aX8_alike_63, aX8_alike_66, Nat.zero_le, Nat.reduceLeDiff, Nat.reduceAdd, i1_0, rr_c3, zc9, oc9, zc10, oc10, zc11, oc11, zc12, oc12, zc13, oc13, zc15, oc15, Int32.lt_irrefl, Nat.zero_lt_one, Rt_cons, Rt_void, isB_0, isB_1, isB_b, true_and, and_true, cats_nil, cats_int, cats_ref, and_self, if_true, if_false, ite_self, le_nlt, ite_not, q, not_true_eq_false, nI_1]
    · have q2 : ¬ pj (σ 43 0 (64 + 5 * h + 2)) l b = pj (σ 43 0 (64 + 5 * h + 2)) l a := fun z => q (ij.mpr z.symm)
      rw [if_neg q2]
      simp only [aX8_alike_20, aX8_alike_21, aX8_alike_24, aX8_alike_27, aX8_alike_29, aX8_alike_30, aX8_alike_31, aX8_alike_32, aX8_alike_35, aX8_alike_36, Nat.zero_le, Nat.reduceLeDiff, Nat.reduceAdd, i1_0, rr_c3, zc9, oc9, zc10, oc10, zc11, oc11, zc12, oc12, zc13, oc13, zc15, oc15, Int32.lt_irrefl, Nat.zero_lt_one, Rt_cons, Rt_void, isB_0, isB_1, isB_b, true_and, and_true, cats_nil, cats_int, cats_ref, and_self, if_true, if_false, ite_self, le_nlt, ite_not, hL.1, lt, aT_51, aN_51, cnt_51, va, ca, ea]
      rw [aX8_alike_37]
      simp only [cats_int, cats_nil, cats_ref, Nat.reduceLeDiff, true_and, Nat.reduceAdd]
      rw [wA]
      simp only [aX8_alike_40, aX8_alike_41, aX8_alike_42, aX8_alike_43, aX8_alike_46, aX8_alike_48, Nat.zero_le, Nat.reduceLeDiff, Nat.reduceAdd, i1_0, rr_c3, zc9, oc9, zc10, oc10, zc11, oc11, zc12, oc12, zc13, oc13, zc15, oc15, Int32.lt_irrefl, Nat.zero_lt_one, Rt_cons, Rt_void, isB_0, isB_1, isB_b, true_and, and_true, cats_nil, cats_int, cats_ref, and_self, if_true, if_false, ite_self, le_nlt, ite_not, aT_51, aN_51, cnt_51, vb, cb, eb]
      rw [aX8_alike_49]
      simp only [cats_int, cats_nil, cats_ref, Nat.reduceLeDiff, true_and, Nat.reduceAdd]
      rw [wB]
      have z0 : ∀ x : Nat, nI x + 0 = nI (x + 0) := fun x => nI_add x 0
      simp only [aX8_alike_52, aX8_alike_55, aX8_alike_56, aX8_alike_59, aX8_alike_60, aX8_alike_61, aX8_alike_63, aX8_alike_66, Nat.zero_le, Nat.reduceLeDiff, Nat.reduceAdd, i1_0, rr_c3, zc9, oc9, zc10, oc10, zc11, oc11, zc12, oc12, zc13, oc13, zc15, oc15, Int32.lt_irrefl, Nat.zero_lt_one, Rt_cons, Rt_void, isB_0, isB_1, isB_b, true_and, and_true, cats_nil, cats_int, cats_ref, and_self, if_true, if_false, ite_self, le_nlt, ite_not, q, not_false_eq_true, z0, nI_1]
theorem lp_alou {N G h : Nat} {l : List Nat} (hN : N ≤ 7) (hG : G ≤ 7) (hh : h < N) (hi : Inj (σ 43 0)) (hg : gulP G (σ 43 0 (64 + 5 * h + 2))) (e1 : σ 31 0 1 = nI N) (e2 : σ 31 0 2 = nI G) (hl : PL G l) (hL : Ls (σ 51 0) (σ 29 0 34) l) : ∀ m a (l4 l5 : Value), a + m = l.length →
    (Rn mX8_alike 4 [.ref (ad 29 0), .int (nI h), .int (nI (moF (pj (σ 43 0 (64 + 5 * h + 2)) l) l.length a)), .int (nI a), l4, l5] [] fs (enc σ) Q ↔ Rt fs (enc σ) (some (.int (nI (moF (pj (σ 43 0 (64 + 5 * h + 2)) l) l.length l.length)))) Q) := by
  intro m
  have h22 := hl.1
  induction m with
  | zero =>
    intro a l4 l5 ha
    obtain rfl : a = l.length := by omega
    rw [aX8_alike_4]
    simp only [aX8_alike_5, aX8_alike_6, aX8_alike_9, aX8_alike_88, aX8_alike_89, Nat.zero_le, Nat.reduceLeDiff, Nat.reduceAdd, i1_0, rr_c3, zc9, oc9, zc10, oc10, zc11, oc11, zc12, oc12, zc13, oc13, zc15, oc15, Int32.lt_irrefl, Nat.zero_lt_one, Rt_cons, Rt_void, isB_0, isB_1, isB_b, true_and, and_true, cats_nil, cats_int, cats_ref, and_self, if_true, if_false, ite_self, le_nlt, ite_not, hL.1]
  | succ m ih =>
    intro a l4 l5 ha
    have lt : nI a < nI l.length := nI_lt (by omega) (by omega)
    have I := lp_alin (fs := fs) (Q := Q) (mo := nI (moF (pj (σ 43 0 (64 + 5 * h + 2)) l) l.length a)) hN hG hh hi hg e1 e2 hl hL (show a < l.length by omega) l.length 0 (by omega)
    rw [show cnF (pj (σ 43 0 (64 + 5 * h + 2)) l) (pj (σ 43 0 (64 + 5 * h + 2)) l a) 0 = 0 from rfl, nI_0] at I
    have m1 : moF (pj (σ 43 0 (64 + 5 * h + 2)) l) l.length a ≤ l.length := mo_lo _ _ _ (fun i _ => cnF_le _ _ _)
    have m2 := cnF_le (pj (σ 43 0 (64 + 5 * h + 2)) l) (pj (σ 43 0 (64 + 5 * h + 2)) l a) l.length
    have J := ih (a + 1) (.int (nI (cnF (pj (σ 43 0 (64 + 5 * h + 2)) l) (pj (σ 43 0 (64 + 5 * h + 2)) l a) l.length))) (.int (nI l.length)) (by omega)
    rw [moF_s] at J
    have ll := nI_ltI (a := moF (pj (σ 43 0 (64 + 5 * h + 2)) l) l.length a) (b := cnF (pj (σ 43 0 (64 + 5 * h + 2)) l) (pj (σ 43 0 (64 + 5 * h + 2)) l a) l.length) (by omega) (by omega)
    rw [← J, aX8_alike_4]
    simp only [aX8_alike_5, aX8_alike_6, aX8_alike_9, aX8_alike_12, aX8_alike_13, aX8_alike_15, aX8_alike_16, Nat.zero_le, Nat.reduceLeDiff, Nat.reduceAdd, i1_0, rr_c3, zc9, oc9, zc10, oc10, zc11, oc11, zc12, oc12, zc13, oc13, zc15, oc15, Int32.lt_irrefl, Nat.zero_lt_one, Rt_cons, Rt_void, isB_0, isB_1, isB_b, true_and, and_true, cats_nil, cats_int, cats_ref, and_self, if_true, if_false, ite_self, le_nlt, ite_not, hL.1, lt]
    rw [I]
    by_cases q : moF (pj (σ 43 0 (64 + 5 * h + 2)) l) l.length a < cnF (pj (σ 43 0 (64 + 5 * h + 2)) l) (pj (σ 43 0 (64 + 5 * h + 2)) l a) l.length
    · rw [if_pos q]
      simp only [aX8_alike_69, aX8_alike_71, aX8_alike_72, aX8_alike_75, aX8_alike_77, aX8_alike_80, aX8_alike_81, aX8_alike_82, aX8_alike_85, Nat.zero_le, Nat.reduceLeDiff, Nat.reduceAdd, i1_0, rr_c3, zc9, oc9, zc10, oc10, zc11, oc11, zc12, oc12, zc13, oc13, zc15, oc15, Int32.lt_irrefl, Nat.zero_lt_one, Rt_cons, Rt_void, isB_0, isB_1, isB_b, true_and, and_true, cats_nil, cats_int, cats_ref, and_self, if_true, if_false, ite_self, le_nlt, ite_not, ll.mpr q, not_true_eq_false, nI_1]
    · rw [if_neg q]
      have q2 : ¬ nI (moF (pj (σ 43 0 (64 + 5 * h + 2)) l) l.length a) < nI (cnF (pj (σ 43 0 (64 + 5 * h + 2)) l) (pj (σ 43 0 (64 + 5 * h + 2)) l a) l.length) := fun z => q (ll.mp z)
      simp only [aX8_alike_69, aX8_alike_71, aX8_alike_72, aX8_alike_75, aX8_alike_77, aX8_alike_80, aX8_alike_81, aX8_alike_82, aX8_alike_85, Nat.zero_le, Nat.reduceLeDiff, Nat.reduceAdd, i1_0, rr_c3, zc9, oc9, zc10, oc10, zc11, oc11, zc12, oc12, zc13, oc13, zc15, oc15, Int32.lt_irrefl, Nat.zero_lt_one, Rt_cons, Rt_void, isB_0, isB_1, isB_b, true_and, and_true, cats_nil, cats_int, cats_ref, and_self, if_true, if_false, ite_self, le_nlt, ite_not, q2, not_false_eq_true, nI_1]
theorem sp_alike {N G h : Nat} {l : List Nat} (hN : N ≤ 7) (hG : G ≤ 7) (hh : h < N) (hi : Inj (σ 43 0)) (hg : gulP G (σ 43 0 (64 + 5 * h + 2))) (e1 : σ 31 0 1 = nI N) (e2 : σ 31 0 2 = nI G) (hl : PL G l) (hL : Ls (σ 51 0) (σ 29 0 34) l) :
    Rn mX8_alike 0 [.ref (ad 29 0), .int (nI h), .null, .null, .null, .null] [] fs (enc σ) Q ↔ Rt fs (enc σ) (some (.int (nI (moF (pj (σ 43 0 (64 + 5 * h + 2)) l) l.length l.length)))) Q := by
  have L := lp_alou (fs := fs) (Q := Q) hN hG hh hi hg e1 e2 hl hL l.length 0 .null .null (by omega)
  rw [show moF (pj (σ 43 0 (64 + 5 * h + 2)) l) l.length 0 = 0 from rfl, nI_0] at L
  rw [← L]
  simp only [aX8_alike_0, aX8_alike_1, aX8_alike_2, aX8_alike_3, Nat.zero_le, Nat.reduceLeDiff, Nat.reduceAdd, i1_0, rr_c3, zc9, oc9, zc10, oc10, zc11, oc11, zc12, oc12, zc13, oc13, zc15, oc15, Int32.lt_irrefl, Nat.zero_lt_one, Rt_cons, Rt_void, isB_0, isB_1, isB_b, true_and, and_true, cats_nil, cats_int, cats_ref, and_self, if_true, if_false, ite_self, le_nlt, ite_not]
/-- which house, how many -/
def liF (x : Nat → Nat) : Nat → Int32 × Nat → Int32 × Nat
  | 0, b => b
  | h + 1, b => if x h < (liF x h b).2 then (nI h, x h) else liF x h b
theorem liF_s (x : Nat → Nat) (h : Nat) (b : Int32 × Nat) : liF x (h + 1) b = if x h < (liF x h b).2 then (nI h, x h) else liF x h b := rfl
theorem liF_le {x : Nat → Nat} {b : Int32 × Nat} {L : Nat} (hb : b.2 ≤ L) (hx : ∀ h, x h ≤ L) : ∀ h, (liF x h b).2 ≤ L := by
  intro h
  induction h with
  | zero => exact hb
  | succ h ih =>
    rw [liF_s]
    split
    · exact hx h
    · exact ih
theorem lp_mlis {N G : Nat} {l : List Nat} (hN : N ≤ 7) (hG : G ≤ 7) (hi : Inj (σ 43 0)) (hg : ∀ h, h < 7 → gulP G (σ 43 0 (64 + 5 * h + 2))) (e1 : σ 31 0 1 = nI N) (e2 : σ 31 0 2 = nI G) (hl : PL G l) (hL : Ls (σ 51 0) (σ 29 0 34) l) : ∀ m h (l4 : Value), h + m = N →
    (Rn mX8_listen 13 [.ref (ad 29 0), .int (liF (fun h => gmF (pj (σ 43 0 (64 + 5 * h + 2)) l) l.length) h (-1, l.length)).1, .int (nI (liF (fun h => gmF (pj (σ 43 0 (64 + 5 * h + 2)) l) l.length) h (-1, l.length)).2), .int (nI h), l4] [] fs (enc σ) Q ↔ Rt fs (enc σ) (some (.int (liF (fun h => gmF (pj (σ 43 0 (64 + 5 * h + 2)) l) l.length) N (-1, l.length)).1)) Q) := by
  intro m
  have h22 := hl.1
  induction m with
  | zero =>
    intro h l4 hh
    obtain rfl : h = N := by omega
    rw [aX8_listen_13]
    simp only [aX8_listen_14, aX8_listen_15, aX8_listen_18, aX8_listen_19, aX8_listen_20, aX8_listen_55, aX8_listen_56, Nat.zero_le, Nat.reduceLeDiff, Nat.reduceAdd, i1_0, rr_c3, zc9, oc9, zc10, oc10, zc11, oc11, zc12, oc12, zc13, oc13, zc15, oc15, Int32.lt_irrefl, Nat.zero_lt_one, Rt_cons, Rt_void, isB_0, isB_1, isB_b, true_and, and_true, cats_nil, cats_int, cats_ref, and_self, if_true, if_false, ite_self, le_nlt, ite_not, aT_31, aN_31, cnt_31, v3.2.1, c1, e1]
  | succ m ih =>
    intro h l4 hh
    have lt : nI h < nI N := nI_lt (by omega) (by omega)
    have A := fun fs Q => sp_alike (σ := σ) (fs := fs) (Q := Q) hN hG (show h < N by omega) hi (hg h (by omega)) e1 e2 hl hL
    rw [← gm_mo] at A
    have J := ih (h + 1) (.int (nI (gmF (pj (σ 43 0 (64 + 5 * h + 2)) l) l.length))) (by omega)
    rw [liF_s] at J
    have b1 := liF_le (x := fun h => gmF (pj (σ 43 0 (64 + 5 * h + 2)) l) l.length) (b := (-1, l.length)) (L := l.length) (Nat.le_refl _) (fun h => gm_le _ _) h
    generalize liF (fun h => gmF (pj (σ 43 0 (64 + 5 * h + 2)) l) l.length) h (-1, l.length) = B at J b1 ⊢
    have b2 := gm_le (pj (σ 43 0 (64 + 5 * h + 2)) l) l.length
    generalize gmF (pj (σ 43 0 (64 + 5 * h + 2)) l) l.length = x at J A b2
    have ll := nI_ltI (a := x) (b := B.2) (by omega) (by omega)
    rw [← J, aX8_listen_13]
    by_cases q : x < B.2
    · rw [if_pos q]
      simp only [aX8_listen_14, aX8_listen_15, aX8_listen_18, aX8_listen_19, aX8_listen_20, aX8_listen_23, aX8_listen_24, aX8_listen_25, aX8_listen_28, aX8_listen_30, aX8_listen_32, aX8_listen_33, aX8_listen_36, aX8_listen_37, aX8_listen_40, aX8_listen_41, aX8_listen_42, aX8_listen_44, aX8_listen_45, aX8_listen_48, aX8_listen_49, aX8_listen_52, A, sp_lesser, Nat.zero_le, Nat.reduceLeDiff, Nat.reduceAdd, i1_0, rr_c3, zc9, oc9, zc10, oc10, zc11, oc11, zc12, oc12, zc13, oc13, zc15, oc15, Int32.lt_irrefl, Nat.zero_lt_one, Rt_cons, Rt_void, isB_0, isB_1, isB_b, true_and, and_true, cats_nil, cats_int, cats_ref, and_self, if_true, if_false, ite_self, le_nlt, ite_not, aT_31, aN_31, cnt_31, v3.2.1, c1, e1, lt, ll.mpr q, not_true_eq_false, nI_1]
    · rw [if_neg q]
      have q2 : ¬ nI x < nI B.2 := fun z => q (ll.mp z)
      simp only [aX8_listen_14, aX8_listen_15, aX8_listen_18, aX8_listen_19, aX8_listen_20, aX8_listen_23, aX8_listen_24, aX8_listen_25, aX8_listen_28, aX8_listen_30, aX8_listen_32, aX8_listen_33, aX8_listen_36, aX8_listen_37, aX8_listen_40, aX8_listen_41, aX8_listen_42, aX8_listen_44, aX8_listen_45, aX8_listen_48, aX8_listen_49, aX8_listen_52, A, sp_lesser, Nat.zero_le, Nat.reduceLeDiff, Nat.reduceAdd, i1_0, rr_c3, zc9, oc9, zc10, oc10, zc11, oc11, zc12, oc12, zc13, oc13, zc15, oc15, Int32.lt_irrefl, Nat.zero_lt_one, Rt_cons, Rt_void, isB_0, isB_1, isB_b, true_and, and_true, cats_nil, cats_int, cats_ref, and_self, if_true, if_false, ite_self, le_nlt, ite_not, aT_31, aN_31, cnt_31, v3.2.1, c1, e1, lt, q2, not_false_eq_true, nI_1]
/-- the class's parts -/
theorem lp_gpz {h : Int32} {l4 l5 : Value} : ∀ (m k : Nat) (σ : Mem), k + m = 8 → (∀ j, j < k → σ 25 0 j = 0) →
    ∃ τ, (∀ fs Q, Rn mX1_greatestPart 2 [.ref (ad 20 0), .ref (ad 9 0), .int h, .int (nI k), l4, l5] [] fs (enc σ) Q ↔ Rn mX1_greatestPart 21 [.ref (ad 20 0), .ref (ad 9 0), .int h, .int (nI 8), l4, l5] [] fs (enc τ) Q) ∧ (∀ k i, ¬ k = 25 → τ k i = σ k i) ∧ ∀ j, j < 8 → τ 25 0 j = 0 := by
  intro m
  induction m with
  | zero =>
    intro k σ hk hz
    obtain rfl : k = 8 := by omega
    refine ⟨σ, fun fs Q => ?_, fun _ _ _ => rfl, hz⟩
    have e8 : nI 8 = 8 := rfl
    have l8 : (7 : Int32) < 8 := by decide
    simp only [aX1_greatestPart_2, aX1_greatestPart_3, aX1_greatestPart_5, Nat.zero_le, Nat.reduceLeDiff, Nat.reduceAdd, i1_0, rr_c3, zc9, oc9, zc10, oc10, zc11, oc11, zc12, oc12, zc13, oc13, zc15, oc15, Int32.lt_irrefl, Nat.zero_lt_one, Rt_cons, Rt_void, isB_0, isB_1, isB_b, true_and, and_true, cats_nil, cats_int, cats_ref, and_self, if_true, if_false, ite_self, le_nlt, ite_not, e8, l8]
  | succ m ih =>
    intro k σ hk hz
    have nl : ¬ (7 : Int32) < nI k := nI_nlt (a := 7) (by omega) (by decide)
    have v8 : vp_in (nI k) 8 := vp_in_nI (by omega) (by decide)
    have cl := cl10 (show k < 10000 by omega)
    obtain ⟨τ, a1, a2, a3⟩ := ih (k + 1) (upS σ 25 0 k 0) (by omega) (fun j hj => by
      rw [upS_eq]
      by_cases q : j = k
      · rw [q, upd_eq]
      · rw [upd_ne q]; exact hz j (by omega))
    refine ⟨τ, fun fs Q => ?_, fun k i a => by rw [a2 k i a, upS_ne (by omega)], a3⟩
    rw [← a1, aX1_greatestPart_2]
    simp only [aX1_greatestPart_3, aX1_greatestPart_5, aX1_greatestPart_8, aX1_greatestPart_9, aX1_greatestPart_12, aX1_greatestPart_13, aX1_greatestPart_14, aX1_greatestPart_15, aX1_greatestPart_18, Nat.zero_le, Nat.reduceLeDiff, Nat.reduceAdd, i1_0, rr_c3, zc9, oc9, zc10, oc10, zc11, oc11, zc12, oc12, zc13, oc13, zc15, oc15, Int32.lt_irrefl, Nat.zero_lt_one, Rt_cons, Rt_void, isB_0, isB_1, isB_b, true_and, and_true, cats_nil, cats_int, cats_ref, and_self, if_true, if_false, ite_self, le_nlt, ite_not, nl, aT_25, aN_25, cnt_25, v8, cl, nI_1]
theorem lp_gp {σ0 : Mem} {G h : Nat} {l : List Nat} {w : Nat → Int32} (hG : G ≤ 7) (hh : h < 7) (hc : CS σ0 0 w) (hg : gulP G (w (64 + 5 * h + 2))) (hl : PL G l) : ∀ (m k : Nat) (σ : Mem) (l5 : Value), k + m = l.length → GC σ0 σ l → (∀ x, x < 8 → σ 25 0 x = nI (cnF (pj (w (64 + 5 * h + 2)) l) x k)) →
    ∃ τ, (∀ fs Q, Rn mX1_greatestPart 26 [.ref (ad 20 0), .ref (ad 9 0), .int (nI h), .int (nI (gmF (pj (w (64 + 5 * h + 2)) l) k)), .int (nI k), l5] [] fs (enc σ) Q ↔ Rt fs (enc τ) (some (.int (nI (gmF (pj (w (64 + 5 * h + 2)) l) l.length)))) Q) ∧ GC σ0 τ l := by
  intro m
  have h22 := hl.1
  induction m with
  | zero =>
    intro k σ l5 hk hgc hz
    obtain rfl : k = l.length := by omega
    refine ⟨σ, fun fs Q => ?_, hgc⟩
    rw [aX1_greatestPart_26]
    simp only [aX1_greatestPart_28, aX1_greatestPart_29, aX1_greatestPart_32, aX1_greatestPart_80, aX1_greatestPart_81, Nat.zero_le, Nat.reduceLeDiff, Nat.reduceAdd, i1_0, rr_c3, zc9, oc9, zc10, oc10, zc11, oc11, zc12, oc12, zc13, oc13, zc15, oc15, Int32.lt_irrefl, Nat.zero_lt_one, Rt_cons, Rt_void, isB_0, isB_1, isB_b, true_and, and_true, cats_nil, cats_int, cats_ref, and_self, if_true, if_false, ite_self, le_nlt, ite_not, hgc.2.2.1]
  | succ m ih =>
    intro k σ l5 hk hgc hz
    have lt : nI k < nI l.length := nI_lt (by omega) (by omega)
    have vk : vp_in (nI k) 22 := vp_in_nI (by omega) (by decide)
    have ck := cl10 (show k < 10000 by omega)
    have ek := hgc.2.2.2 k (by omega)
    have gt := fun fs Q => sp_gullThen (σ := σ) (fs := fs) (Q := Q) (show 0 < 34 by decide) hh (hl.2 k (by omega)).1 (GC_CS hgc hc)
    obtain ⟨p1, p2⟩ := gulP_pt hG (pj_gul hl hg (show k < l.length by omega))
    have epj : ptF (swp (l.getD k 0) (w (64 + 5 * h + 2))) = pj (w (64 + 5 * h + 2)) l k := rfl
    rw [epj] at p1 p2
    have hz' := fun x hx => (hz x hx)
    generalize hf : pj (w (64 + 5 * h + 2)) l = f at p1 p2 ih hz ⊢
    have e25 := hz (f k) (by omega)
    have v8 : vp_in (nI (f k)) 8 := vp_in_nI (by omega) (by decide)
    have c8 := cl10 (show f k < 10000 by omega)
    have hgc2 : GC σ0 (upS σ 25 0 (f k) (nI (cnF f (f k) k + 1))) l := ⟨fun k i a b c => by rw [upS_ne (by omega)]; exact hgc.1 k i a b c, fun s hs => by rw [upS_ne (by omega)]; exact hgc.2.1 s hs, by rw [upS_ne (by omega), upS_ne (by omega)]; exact hgc.2.2⟩
    obtain ⟨τ, a1, a2⟩ := ih (k + 1) (upS σ 25 0 (f k) (nI (cnF f (f k) k + 1))) (.int (nI (f k))) (by omega) hgc2 (fun x hx => by
      rw [upS_eq, cnF_s]
      by_cases q : x = f k
      · rw [q, upd_eq, if_pos rfl]
      · rw [upd_ne q, if_neg (fun z => q z.symm)]; exact hz x hx)
    refine ⟨τ, fun fs Q => ?_, a2⟩
    have m1 : gmF f k ≤ k := gm_le f k
    have m2 := cnF_le f (f k) k
    have ll := nI_ltI (a := gmF f k) (b := cnF f (f k) k + 1) (by omega) (by omega)
    have em : (if nI (gmF f k) < nI (cnF f (f k) k + 1) then nI (cnF f (f k) k + 1) else nI (gmF f k)) = nI (gmF f (k + 1)) := by
      rw [gmF_s, cnF_s, if_pos rfl]
      by_cases q : gmF f k < cnF f (f k) k + 1
      · rw [if_pos (ll.mpr q), Nat.max_eq_right (by omega)]
      · rw [if_neg (fun z => q (ll.mp z)), Nat.max_eq_left (by omega)]
    rw [← a1, ← em, aX1_greatestPart_26]
    simp only [aX1_greatestPart_28, aX1_greatestPart_29, aX1_greatestPart_32, aX1_greatestPart_35, aX1_greatestPart_36, aX1_greatestPart_37, aX1_greatestPart_40, aX1_greatestPart_42, aX1_greatestPart_43, Nat.zero_le, Nat.reduceLeDiff, Nat.reduceAdd, i1_0, rr_c3, zc9, oc9, zc10, oc10, zc11, oc11, zc12, oc12, zc13, oc13, zc15, oc15, Int32.lt_irrefl, Nat.zero_lt_one, Rt_cons, Rt_void, isB_0, isB_1, isB_b, true_and, and_true, cats_nil, cats_int, cats_ref, and_self, if_true, if_false, ite_self, le_nlt, ite_not, hgc.2.2.1, lt, aT_24, aN_24, cnt_24, vk, ck, ek]
    rw [aX1_greatestPart_44]
    simp only [cats_int, cats_nil, cats_ref, Nat.reduceLeDiff, true_and, Nat.reduceAdd, Nat.zero_le]
    rw [gt]
    simp only [aX1_greatestPart_47, aX1_greatestPart_48, aX1_greatestPart_49, aX1_greatestPart_51, aX1_greatestPart_52, aX1_greatestPart_55, aX1_greatestPart_57, aX1_greatestPart_58, aX1_greatestPart_59, aX1_greatestPart_60, aX1_greatestPart_61, aX1_greatestPart_62, aX1_greatestPart_63, aX1_greatestPart_64, aX1_greatestPart_67, aX1_greatestPart_69, aX1_greatestPart_70, aX1_greatestPart_73, aX1_greatestPart_74, aX1_greatestPart_77, Nat.zero_le, Nat.reduceLeDiff, Nat.reduceAdd, i1_0, rr_c3, zc9, oc9, zc10, oc10, zc11, oc11, zc12, oc12, zc13, oc13, zc15, oc15, Int32.lt_irrefl, Nat.zero_lt_one, Rt_cons, Rt_void, isB_0, isB_1, isB_b, true_and, and_true, cats_nil, cats_int, cats_ref, and_self, if_true, if_false, ite_self, le_nlt, ite_not, p1, aT_25, aN_25, cnt_25, v8, c8, e25, upS_eq, upd_eq, nI_1]
theorem sp_gp {σ0 : Mem} {G h : Nat} {l : List Nat} {w : Nat → Int32} (hG : G ≤ 7) (hh : h < 7) (hc : CS σ0 0 w) (hg : gulP G (w (64 + 5 * h + 2))) (hl : PL G l) (hgc : GC σ0 σ l) :
    ∃ τ, (∀ fs Q, Rn mX1_greatestPart 0 [.ref (ad 20 0), .ref (ad 9 0), .int (nI h), .null, .null, .null] [] fs (enc σ) Q ↔ Rt fs (enc τ) (some (.int (nI (gmF (pj (w (64 + 5 * h + 2)) l) l.length)))) Q) ∧ GC σ0 τ l := by
  obtain ⟨τ1, a1, a2, a3⟩ := lp_gpz (h := nI h) (l4 := .null) (l5 := .null) 8 0 σ (by omega) (fun j hj => by omega)
  have hgc1 : GC σ0 τ1 l := ⟨fun k i a b c => by rw [a2 k i c]; exact hgc.1 k i a b c, fun s hs => by rw [a2 20 0 (by decide)]; exact hgc.2.1 s hs, by rw [a2 24 0 (by decide), a2 20 0 (by decide)]; exact hgc.2.2⟩
  obtain ⟨τ2, b1, b2⟩ := lp_gp hG hh hc hg hl l.length 0 τ1 .null (by omega) hgc1 (fun x hx => by rw [a3 x hx]; rfl)
  refine ⟨τ2, fun fs Q => ?_, b2⟩
  have a1' := a1 fs Q
  have b1' := b1 fs Q
  rw [show gmF (pj (w (64 + 5 * h + 2)) l) 0 = 0 from rfl, nI_0] at b1'
  rw [nI_0] at a1'
  simp only [aX1_greatestPart_0, aX1_greatestPart_1, Nat.zero_le, Nat.reduceLeDiff, Nat.reduceAdd, i1_0, rr_c3, zc9, oc9, zc10, oc10, zc11, oc11, zc12, oc12, zc13, oc13, zc15, oc15, Int32.lt_irrefl, Nat.zero_lt_one, Rt_cons, Rt_void, isB_0, isB_1, isB_b, true_and, and_true, cats_nil, cats_int, cats_ref, and_self, if_true, if_false, ite_self, le_nlt, ite_not]
  rw [a1', ← b1']
  simp only [aX1_greatestPart_21, aX1_greatestPart_22, aX1_greatestPart_23, aX1_greatestPart_24, Nat.zero_le, Nat.reduceLeDiff, Nat.reduceAdd, i1_0, rr_c3, zc9, oc9, zc10, oc10, zc11, oc11, zc12, oc12, zc13, oc13, zc15, oc15, Int32.lt_irrefl, Nat.zero_lt_one, Rt_cons, Rt_void, isB_0, isB_1, isB_b, true_and, and_true, cats_nil, cats_int, cats_ref, and_self, if_true, if_false, ite_self, le_nlt, ite_not]
theorem lp_clis {σ0 : Mem} {N G : Nat} {l : List Nat} {w : Nat → Int32} (hN : N ≤ 7) (hG : G ≤ 7) (hc : CS σ0 0 w) (hg : ∀ h, h < 7 → gulP G (w (64 + 5 * h + 2))) (e1 : σ0 3 (rr (σ0 9 0 0)) 1 = nI N) (hl : PL G l) : ∀ (m h : Nat) (σ : Mem) (l4 : Value), h + m = N → GC σ0 σ l →
    ∃ τ, (∀ fs Q, Rn mX7_listen 23 [.ref (ad 0 0), .int (liF (fun h => gmF (pj (w (64 + 5 * h + 2)) l) l.length) h (-1, l.length)).1, .int (nI (liF (fun h => gmF (pj (w (64 + 5 * h + 2)) l) l.length) h (-1, l.length)).2), .int (nI h), l4] [] fs (enc σ) Q ↔ Rt fs (enc τ) (some (.int (liF (fun h => gmF (pj (w (64 + 5 * h + 2)) l) l.length) N (-1, l.length)).1)) Q) ∧ GC σ0 τ l := by
  intro m
  have h22 := hl.1
  induction m with
  | zero =>
    intro h σ l4 hh hgc
    obtain rfl : h = N := by omega
    have e1' : σ 3 (rr (σ 9 0 0)) 1 = nI h := by rw [hgc.1 9 0 (by decide) (by decide) (by decide), hgc.1 3 _ (by decide) (by decide) (by decide)]; exact e1
    refine ⟨σ, fun fs Q => ?_, hgc⟩
    rw [aX7_listen_23]
    simp only [aX7_listen_24, aX7_listen_25, aX7_listen_28, aX7_listen_31, aX7_listen_34, aX7_listen_68, aX7_listen_69, Nat.zero_le, Nat.reduceLeDiff, Nat.reduceAdd, i1_0, rr_c3, zc9, oc9, zc10, oc10, zc11, oc11, zc12, oc12, zc13, oc13, zc15, oc15, Int32.lt_irrefl, Nat.zero_lt_one, Rt_cons, Rt_void, isB_0, isB_1, isB_b, true_and, and_true, cats_nil, cats_int, cats_ref, and_self, if_true, if_false, ite_self, le_nlt, ite_not, e1']
  | succ m ih =>
    intro h σ l4 hh hgc
    have e1' : σ 3 (rr (σ 9 0 0)) 1 = nI N := by rw [hgc.1 9 0 (by decide) (by decide) (by decide), hgc.1 3 _ (by decide) (by decide) (by decide)]; exact e1
    have lt : nI h < nI N := nI_lt (by omega) (by omega)
    obtain ⟨τ1, A, g1⟩ := sp_gp hG (show h < 7 by omega) hc (hg h (by omega)) hl hgc
    obtain ⟨τ2, J, g2⟩ := ih (h + 1) τ1 (.int (nI (gmF (pj (w (64 + 5 * h + 2)) l) l.length))) (by omega) g1
    refine ⟨τ2, fun fs Q => ?_, g2⟩
    have J' := J fs Q
    rw [liF_s] at J'
    have b1 := liF_le (x := fun h => gmF (pj (w (64 + 5 * h + 2)) l) l.length) (b := (-1, l.length)) (L := l.length) (Nat.le_refl _) (fun h => gm_le _ _) h
    generalize liF (fun h => gmF (pj (w (64 + 5 * h + 2)) l) l.length) h (-1, l.length) = B at J' b1 ⊢
    have b2 := gm_le (pj (w (64 + 5 * h + 2)) l) l.length
    generalize gmF (pj (w (64 + 5 * h + 2)) l) l.length = x at J' A b2
    have ll := nI_ltI (a := x) (b := B.2) (by omega) (by omega)
    rw [← J', aX7_listen_23]
    by_cases q : x < B.2
    · rw [if_pos q]
      simp only [aX7_listen_24, aX7_listen_25, aX7_listen_28, aX7_listen_31, aX7_listen_34, aX7_listen_37, aX7_listen_38, aX7_listen_41, aX7_listen_42, aX7_listen_45, Nat.zero_le, Nat.reduceLeDiff, Nat.reduceAdd, i1_0, rr_c3, zc9, oc9, zc10, oc10, zc11, oc11, zc12, oc12, zc13, oc13, zc15, oc15, Int32.lt_irrefl, Nat.zero_lt_one, Rt_cons, Rt_void, isB_0, isB_1, isB_b, true_and, and_true, cats_nil, cats_int, cats_ref, and_self, if_true, if_false, ite_self, le_nlt, ite_not, e1', lt]
      rw [aX7_listen_46, A]
      simp only [aX7_listen_49, aX7_listen_51, aX7_listen_53, aX7_listen_54, aX7_listen_57, aX7_listen_59, aX7_listen_60, aX7_listen_61, aX7_listen_62, aX7_listen_65, Nat.zero_le, Nat.reduceLeDiff, Nat.reduceAdd, i1_0, rr_c3, zc9, oc9, zc10, oc10, zc11, oc11, zc12, oc12, zc13, oc13, zc15, oc15, Int32.lt_irrefl, Nat.zero_lt_one, Rt_cons, Rt_void, isB_0, isB_1, isB_b, true_and, and_true, cats_nil, cats_int, cats_ref, and_self, if_true, if_false, ite_self, le_nlt, ite_not, ll.mpr q, not_true_eq_false, nI_1]
    · rw [if_neg q]
      have q2 : ¬ nI x < nI B.2 := fun z => q (ll.mp z)
      simp only [aX7_listen_24, aX7_listen_25, aX7_listen_28, aX7_listen_31, aX7_listen_34, aX7_listen_37, aX7_listen_38, aX7_listen_41, aX7_listen_42, aX7_listen_45, Nat.zero_le, Nat.reduceLeDiff, Nat.reduceAdd, i1_0, rr_c3, zc9, oc9, zc10, oc10, zc11, oc11, zc12, oc12, zc13, oc13, zc15, oc15, Int32.lt_irrefl, Nat.zero_lt_one, Rt_cons, Rt_void, isB_0, isB_1, isB_b, true_and, and_true, cats_nil, cats_int, cats_ref, and_self, if_true, if_false, ite_self, le_nlt, ite_not, e1', lt]
      rw [aX7_listen_46, A]
      simp only [aX7_listen_49, aX7_listen_51, aX7_listen_53, aX7_listen_54, aX7_listen_57, aX7_listen_59, aX7_listen_60, aX7_listen_61, aX7_listen_62, aX7_listen_65, Nat.zero_le, Nat.reduceLeDiff, Nat.reduceAdd, i1_0, rr_c3, zc9, oc9, zc10, oc10, zc11, oc11, zc12, oc12, zc13, oc13, zc15, oc15, Int32.lt_irrefl, Nat.zero_lt_one, Rt_cons, Rt_void, isB_0, isB_1, isB_b, true_and, and_true, cats_nil, cats_int, cats_ref, and_self, if_true, if_false, ite_self, le_nlt, ite_not, q2, not_false_eq_true, nI_1]
theorem PL_mg {N G c : Nat} {w gs hs bs' : Nat → Int32} (hG : G ≤ 7) : PL G (mgL (gq N G c w gs hs bs') 100) := by
  constructor
  · have h99 : cnd N G w 99 = true := by unfold cnd; rw [decide_eq_true_iff]; exact Or.inl rfl
    have := mg_22 (q := gq N G c w gs hs bs') (p := 99) hG (fun p hp => gq_c hp) (by omega) h99
    rw [mgL_s]
    split
    · rw [List.length_append]
      show _ + 1 ≤ 22
      omega
    · omega
  · intro j hj
    have hm : (mgL (gq N G c w gs hs bs') 100).getD j 0 ∈ mgL (gq N G c w gs hs bs') 100 := by
      rw [List.getD_eq_getElem?_getD, List.getElem?_eq_getElem hj]
      exact List.getElem_mem hj
    obtain ⟨m1, m2⟩ := mgL_mem hm
    refine ⟨m2, ?_⟩
    have := gq_c m1
    unfold cnd at this
    rw [decide_eq_true_iff] at this
    exact this.imp id (fun z => ⟨by omega, z.2.1⟩)
theorem api_listen : Sim Rel mX7_listen mX8_listen [] := by
  refine Sim_of (Lc := [.ref (ad 0 0), .null, .null, .null, .null]) (Lm := [.ref (ad 29 0), .null, .null, .null, .null]) rfl rfl (fun σ hR => ?_)
  obtain ⟨r1, r2, C, N, G, r3, r4, r5, r6, r7⟩ := id hR
  obtain ⟨q1, q2, q3, q4, ⟨l0, l1, l2⟩, ⟨k0, k1, k2⟩, q5, q6, q7⟩ := id r3.1
  have hG : G ≤ 7 := by omega
  obtain ⟨c, c1, c2, c3, c4⟩ := id r4
  have hrc : HrC σ G N c := ⟨c2, c1, fun j hj => by obtain ⟨g, h, a1, a2, a3, a4, a5, a6, a7, a8⟩ := c4 j hj; exact ⟨g, h, a1, a2, a3, a4, a8⟩⟩
  have hrm : HrM σ G N c := ⟨c3, c1, c4⟩
  obtain ⟨τ1, a1, a2⟩ := sp_findGales q2 hG hrc r3.2.2.1 k1 k2
  have hgul : ∀ h, h < 7 → gulP G (σ 43 0 (64 + 5 * h + 2)) := fun h hh => (r3.2.2.2.2.2.2.1 h hh).2.2.1
  have hPL := PL_mg (N := N) (c := c) (w := σ 43 0) (gs := σ 21 0) (hs := σ 22 0) (bs' := σ 23 0) hG
  obtain ⟨σ1, d1, d2⟩ := lp_clis q2 hG r3.2.2.1 hgul k1 hPL N 0 τ1 .null (by omega) a2
  have hrm1 : HrM σ1 G N c := by
    unfold HrM
    rw [d2.1 29 0 (by decide) (by decide) (by decide), d2.1 21 0 (by decide) (by decide) (by decide), d2.1 22 0 (by decide) (by decide) (by decide), d2.1 23 0 (by decide) (by decide) (by decide), d2.1 49 0 (by decide) (by decide) (by decide)]
    exact hrm
  have e43 := d2.1 43 0 (by decide) (by decide) (by decide)
  have e31 := d2.1 31 0 (by decide) (by decide) (by decide)
  obtain ⟨σ2, b1, b2⟩ := sp_finds (σ := σ1) (N := N) (G := G) (c := c) q2 hG (fun _ => by rw [e43]; exact r3.2.2.2.2.2.2.2) hrm1 (by rw [e31]; exact l1) (by rw [e31]; exact l2)
  rw [e43, d2.1 21 0 (by decide) (by decide) (by decide), d2.1 22 0 (by decide) (by decide) (by decide), d2.1 23 0 (by decide) (by decide) (by decide)] at b2
  generalize mgL (gq N G c (σ 43 0) (σ 21 0) (σ 22 0) (σ 23 0)) 100 = L at a2 b2 d1 d2 hPL
  have f43 : σ2 43 0 = σ 43 0 := by rw [b2.1 43 0 (by decide) (by decide), e43]
  have f31 : σ2 31 0 = σ 31 0 := by rw [b2.1 31 0 (by decide) (by decide), e31]
  have D := lp_mlis (σ := σ2) (fs := []) (Q := fun X v => X = enc σ2 ∧ v = some (.int (liF (fun h => gmF (pj (σ 43 0 (64 + 5 * h + 2)) L) L.length) N (-1, L.length)).1)) q2 hG (by rw [f43]; exact r3.2.2.2.2.2.2.2) (by rw [f43]; exact hgul) (by rw [f31]; exact l1) (by rw [f31]; exact l2) hPL b2.2.2 N 0 .null (by omega)
  rw [f43] at D
  refine ⟨σ1, σ2, (liF (fun h => gmF (pj (σ 43 0 (64 + 5 * h + 2)) L) L.length) N (-1, L.length)).1, ?_, ?_, Rel_free hR (fun k i a b c d e f g => by rw [b2.1 k i c g, d2.1 k i d e f]) (by rw [b2.1 20 0 (by decide) (by decide), d2.2.1 3 (by decide)]) (fun s hs => by rw [b2.2.1 s (by omega), d2.1 29 0 (by decide) (by decide) (by decide)])⟩
  · simp only [aX7_listen_0, aX7_listen_1, aX7_listen_4, aX7_listen_5, Nat.zero_le, Nat.reduceLeDiff, Nat.reduceAdd, i1_0, rr_c3, zc9, oc9, zc10, oc10, zc11, oc11, zc12, oc12, zc13, oc13, zc15, oc15, Int32.lt_irrefl, Nat.zero_lt_one, Rt_cons, Rt_void, isB_0, isB_1, isB_b, true_and, and_true, cats_nil, cats_int, cats_ref, and_self, if_true, if_false, ite_self, le_nlt, ite_not]
    rw [aX7_listen_8, a1]
    have d1' := d1 [] (fun X v => X = enc σ1 ∧ v = some (.int (liF (fun h => gmF (pj (σ 43 0 (64 + 5 * h + 2)) L) L.length) N (-1, L.length)).1))
    rw [show liF (fun h => gmF (pj (σ 43 0 (64 + 5 * h + 2)) L) L.length) 0 (-1, L.length) = (-1, L.length) from rfl, nI_0] at d1'
    simp only [aX7_listen_11, aX7_listen_12, aX7_listen_13, aX7_listen_14, aX7_listen_17, aX7_listen_20, aX7_listen_21, aX7_listen_22, Nat.zero_le, Nat.reduceLeDiff, Nat.reduceAdd, i1_0, rr_c3, zc9, oc9, zc10, oc10, zc11, oc11, zc12, oc12, zc13, oc13, zc15, oc15, Int32.lt_irrefl, Nat.zero_lt_one, Rt_cons, Rt_void, isB_0, isB_1, isB_b, true_and, and_true, cats_nil, cats_int, cats_ref, and_self, if_true, if_false, ite_self, le_nlt, ite_not, a2.2.2.1]
    rw [d1']
    simp only [Nat.zero_le, Nat.reduceLeDiff, Nat.reduceAdd, i1_0, rr_c3, zc9, oc9, zc10, oc10, zc11, oc11, zc12, oc12, zc13, oc13, zc15, oc15, Int32.lt_irrefl, Nat.zero_lt_one, Rt_cons, Rt_void, isB_0, isB_1, isB_b, true_and, and_true, cats_nil, cats_int, cats_ref, and_self, if_true, if_false, ite_self, le_nlt, ite_not, Rt_nil]
  · simp only [aX8_listen_0, Nat.zero_le, Nat.reduceLeDiff, Nat.reduceAdd, i1_0, rr_c3, zc9, oc9, zc10, oc10, zc11, oc11, zc12, oc12, zc13, oc13, zc15, oc15, Int32.lt_irrefl, Nat.zero_lt_one, Rt_cons, Rt_void, isB_0, isB_1, isB_b, true_and, and_true, cats_nil, cats_int, cats_ref, and_self, if_true, if_false, ite_self, le_nlt, ite_not]
    rw [aX8_listen_1, b1]
    rw [show liF (fun h => gmF (pj (σ 43 0 (64 + 5 * h + 2)) L) L.length) 0 (-1, L.length) = (-1, L.length) from rfl, nI_0] at D
    simp only [aX8_listen_4, aX8_listen_5, aX8_listen_6, aX8_listen_7, aX8_listen_10, aX8_listen_11, aX8_listen_12, Nat.zero_le, Nat.reduceLeDiff, Nat.reduceAdd, i1_0, rr_c3, zc9, oc9, zc10, oc10, zc11, oc11, zc12, oc12, zc13, oc13, zc15, oc15, Int32.lt_irrefl, Nat.zero_lt_one, Rt_cons, Rt_void, isB_0, isB_1, isB_b, true_and, and_true, cats_nil, cats_int, cats_ref, and_self, if_true, if_false, ite_self, le_nlt, ite_not, b2.2.2.1]
    rw [D]
    simp only [Nat.zero_le, Nat.reduceLeDiff, Nat.reduceAdd, i1_0, rr_c3, zc9, oc9, zc10, oc10, zc11, oc11, zc12, oc12, zc13, oc13, zc15, oc15, Int32.lt_irrefl, Nat.zero_lt_one, Rt_cons, Rt_void, isB_0, isB_1, isB_b, true_and, and_true, cats_nil, cats_int, cats_ref, and_self, if_true, if_false, ite_self, le_nlt, ite_not, Rt_nil]
end S79
