-- gales
section S78
variable {σ : Mem} {fs : List Fm} {M : List va_E} {Q : List va_E → Option Value → Prop}
/-- the class while it finds gales -/
def GC (σ0 τ : Mem) (l : List Nat) : Prop := (∀ k i, ¬ k = 20 → ¬ k = 24 → ¬ k = 25 → τ k i = σ0 k i) ∧ (∀ s, ¬ s = 5 → τ 20 0 s = σ0 20 0 s) ∧ Ls (τ 24 0) (τ 20 0 5) l
/-- the reference while it finds gales -/
def GM (σ0 τ : Mem) (l : List Nat) : Prop := (∀ k i, ¬ k = 29 → ¬ k = 51 → τ k i = σ0 k i) ∧ (∀ s, ¬ s = 34 → τ 29 0 s = σ0 29 0 s) ∧ Ls (τ 51 0) (τ 29 0 34) l
theorem GC_CS {σ0 τ : Mem} {l : List Nat} {w : Nat → Int32} (h : GC σ0 τ l) (c : CS σ0 0 w) : CS τ 0 w := CS_congr c (fun k a b => h.1 k _ (by omega) (by omega) (by omega)) (fun _ _ => rfl)
theorem GC_Hr {σ0 τ : Mem} {l : List Nat} {G N c : Nat} (h : GC σ0 τ l) (r : HrC σ0 G N c) : HrC τ G N c := by
  unfold HrC
  rw [h.2.1 3 (by decide), h.1 21 0 (by decide) (by decide) (by decide), h.1 22 0 (by decide) (by decide) (by decide), h.1 23 0 (by decide) (by decide) (by decide)]
  exact r
theorem sp_add {σ0 τ : Mem} {N G c p : Nat} {w : Nat → Int32} {l : List Nat} (hN : N ≤ 7) (hp : p < 100) (hr : HrC σ0 G N c) (hc : CS σ0 0 w) (hg : GC σ0 τ l) (hl : l.length < 22) :
    ∃ υ, (∀ fs Q, Rn mX1_addIfFitting 0 [.ref (ad 20 0), .ref (ad 9 0), .int (nI p), .null, .null] [] fs (enc τ) Q ↔ Rt fs (enc υ) none Q) ∧ GC σ0 υ (if okH w (σ0 21 0) (σ0 22 0) (σ0 23 0) p c = true then l ++ [p] else l) := by
  have e21 := hg.1 21 0 (by decide) (by decide) (by decide)
  have e22 := hg.1 22 0 (by decide) (by decide) (by decide)
  have e23 := hg.1 23 0 (by decide) (by decide) (by decide)
  have L := fun fs Q => lp_add (σ := τ) (fs := fs) (Q := Q) hN hp (GC_Hr hg hr) (GC_CS hg hc) c 0 .null (by omega) rfl
  rw [e21, e22, e23] at L
  by_cases q : okH w (σ0 21 0) (σ0 22 0) (σ0 23 0) p c = true
  · rw [if_pos q]
    have e5 := hg.2.2.1
    have lt : nI l.length < Int32.ofNat 22 := nI_lt hl (by decide)
    have v22 : vp_in (nI l.length) 22 := vp_in_nI hl (by decide)
    have cl := cl10 (show l.length < 10000 by omega)
    refine ⟨upS (upS τ 24 0 l.length (nI p)) 20 0 5 (nI (l.length + 1)), fun fs Q => ?_, fun k i a b c => ?_, fun s hs => ?_, ?_⟩
    · obtain ⟨l3, l4, L'⟩ := L fs Q
      rw [if_pos q, nI_0] at L'
      simp only [aX1_addIfFitting_0, aX1_addIfFitting_1, Nat.zero_le, Nat.reduceLeDiff, Nat.reduceAdd, i1_0, rr_c3, zc9, oc9, zc10, oc10, zc11, oc11, zc12, oc12, zc13, oc13, zc15, oc15, Int32.lt_irrefl, Nat.zero_lt_one, Rt_cons, Rt_void, isB_0, isB_1, isB_b, true_and, and_true, cats_nil, cats_int, cats_ref, and_self, if_true, if_false, ite_self, le_nlt, ite_not]
      rw [L']
      have a3 : (0 : Nat) < 3 := by decide
      simp only [aX1_addIfFitting_55, aX1_addIfFitting_56, aX1_addIfFitting_59, aX1_addIfFitting_60, aX1_addIfFitting_63, aX1_addIfFitting_64, aX1_addIfFitting_67, aX1_addIfFitting_68, aX1_addIfFitting_71, aX1_addIfFitting_72, aX1_addIfFitting_75, aX1_addIfFitting_76, aX1_addIfFitting_77, aX1_addIfFitting_78i, aX1_addIfFitting_78a, aX1_addIfFitting_79, aX1_addIfFitting_82, aX1_addIfFitting_83, aX1_addIfFitting_84, aX1_addIfFitting_87, Nat.zero_le, Nat.reduceLeDiff, Nat.reduceAdd, i1_0, rr_c3, zc9, oc9, zc10, oc10, zc11, oc11, zc12, oc12, zc13, oc13, zc15, oc15, Int32.lt_irrefl, Nat.zero_lt_one, Rt_cons, Rt_void, isB_0, isB_1, isB_b, true_and, and_true, cats_nil, cats_int, cats_ref, and_self, if_true, if_false, ite_self, le_nlt, ite_not, aT_24, aN_24, cnt_24, a3, e5, lt, v22, cl, not_true_eq_false, upS_ne (show ¬ (20 = 24 ∧ 0 = 0) by decide), nI_1]
    · rw [upS_ne (by omega), upS_ne (by omega)]; exact hg.1 k i a b c
    · rw [upS_eq, upd_ne hs, upS_ne (by omega)]; exact hg.2.1 s hs
    · rw [upS_eq, upd_eq, upS_ne (by omega), upS_eq]
      exact Ls_push hg.2.2
  · rw [if_neg q]
    refine ⟨τ, fun fs Q => ?_, hg⟩
    obtain ⟨l3, l4, L'⟩ := L fs Q
    rw [if_neg q, nI_0] at L'
    simp only [aX1_addIfFitting_0, aX1_addIfFitting_1, Nat.zero_le, Nat.reduceLeDiff, Nat.reduceAdd, i1_0, rr_c3, zc9, oc9, zc10, oc10, zc11, oc11, zc12, oc12, zc13, oc13, zc15, oc15, Int32.lt_irrefl, Nat.zero_lt_one, Rt_cons, Rt_void, isB_0, isB_1, isB_b, true_and, and_true, cats_nil, cats_int, cats_ref, and_self, if_true, if_false, ite_self, le_nlt, ite_not]
    rw [L']
/-- a pair that fits -/
def gq (N G c : Nat) (w gs hs bs' : Nat → Int32) (p : Nat) : Bool := cnd N G w p && okH w gs hs bs' p c
theorem gq_c {N G c p : Nat} {w gs hs bs' : Nat → Int32} (h : gq N G c w gs hs bs' p = true) : cnd N G w p = true := by
  unfold gq at h; rw [Bool.and_eq_true] at h; exact h.1
theorem gq_no {N G c p : Nat} {w gs hs bs' : Nat → Int32} (h : ¬ (p = 99 ∨ (p / 10 < p % 10 ∧ p % 10 < G))) : ¬ gq N G c w gs hs bs' p = true := fun z => by
  have := gq_c z
  unfold cnd at this
  rw [decide_eq_true_iff] at this
  exact h (this.imp id (fun y => ⟨y.1, y.2.1⟩))
theorem gq_step {N G c p : Nat} {w gs hs bs' : Nat → Int32} (h : cnd N G w p = true) : mgL (gq N G c w gs hs bs') (p + 1) = if okH w gs hs bs' p c = true then mgL (gq N G c w gs hs bs') p ++ [p] else mgL (gq N G c w gs hs bs') p := by
  rw [mgL_s]
  unfold gq
  rw [h, Bool.true_and]
theorem gq_skip {N G c p : Nat} {w gs hs bs' : Nat → Int32} (h : ¬ cnd N G w p = true) : mgL (gq N G c w gs hs bs') (p + 1) = mgL (gq N G c w gs hs bs') p := by
  rw [mgL_s, if_neg (fun z => h (gq_c z))]
theorem lp_fin {σ0 : Mem} {N G c g : Nat} {w : Nat → Int32} (hN : N ≤ 7) (hG : G ≤ 7) (hr : HrC σ0 G N c) (hc : CS σ0 0 w) (e1 : σ0 3 (rr (σ0 9 0 0)) 1 = nI N) (e2 : σ0 3 (rr (σ0 9 0 0)) 2 = nI G) (hgG : g < G) : ∀ (m k : Nat) (τ : Mem), k + m = G → g < k → GC σ0 τ (mgL (gq N G c w (σ0 21 0) (σ0 22 0) (σ0 23 0)) (10 * g + k)) →
    ∃ υ, (∀ fs Q, Rn mX1_findGales 22 [.ref (ad 20 0), .ref (ad 9 0), .int (nI g), .int (nI k)] [] fs (enc τ) Q ↔ Rn mX1_findGales 68 [.ref (ad 20 0), .ref (ad 9 0), .int (nI g), .int (nI G)] [] fs (enc υ) Q) ∧ GC σ0 υ (mgL (gq N G c w (σ0 21 0) (σ0 22 0) (σ0 23 0)) (10 * g + G)) := by
  intro m
  induction m with
  | zero =>
    intro k τ hk hgk h
    obtain rfl : k = G := by omega
    have e2' : τ 3 (rr (τ 9 0 0)) 2 = nI k := by rw [h.1 9 0 (by decide) (by decide) (by decide), h.1 3 _ (by decide) (by decide) (by decide)]; exact e2
    refine ⟨τ, fun fs Q => ?_, h⟩
    simp only [aX1_findGales_22, aX1_findGales_23, aX1_findGales_24, aX1_findGales_27, aX1_findGales_30, Nat.zero_le, Nat.reduceLeDiff, Nat.reduceAdd, i1_0, rr_c3, zc9, oc9, zc10, oc10, zc11, oc11, zc12, oc12, zc13, oc13, zc15, oc15, Int32.lt_irrefl, Nat.zero_lt_one, Rt_cons, Rt_void, isB_0, isB_1, isB_b, true_and, and_true, cats_nil, cats_int, cats_ref, and_self, if_true, if_false, ite_self, le_nlt, ite_not, rr_lt, e2']
  | succ m ih =>
    intro k τ hk hgk h
    have e9 := h.1 9 0 (by decide) (by decide) (by decide)
    have e2' : τ 3 (rr (τ 9 0 0)) 2 = nI G := by rw [e9, h.1 3 _ (by decide) (by decide) (by decide)]; exact e2
    have e1' : τ 3 (rr (τ 9 0 0)) 1 = nI N := by rw [e9, h.1 3 _ (by decide) (by decide) (by decide)]; exact e1
    have l : nI k < nI G := nI_lt (by omega) (by omega)
    have ho := fun x fs Q => sp_houseOf (σ := τ) (fs := fs) (Q := Q) (x := x) (show 0 < 34 by decide) hN e1' (GC_CS h hc)
    have p1 : (10 * g + k) / 10 = g := by omega
    have p2 : (10 * g + k) % 10 = k := by omega
    have e10 : (10 : Int32) * nI g = nI (10 * g) := pk_mul 10 g
    by_cases q : cnd N G w (10 * g + k) = true
    · have q' := q
      unfold cnd at q'
      rw [decide_eq_true_iff, p1, p2] at q'
      have q2 := q'.resolve_left (by omega)
      obtain ⟨υ, a1, a2⟩ := sp_add (p := 10 * g + k) hN (by omega) hr hc h (mg_22 hG (fun p hp => gq_c hp) (by omega) q)
      rw [← gq_step q] at a2
      obtain ⟨υ2, b1, b2⟩ := ih (k + 1) υ (by omega) (by omega) a2
      refine ⟨υ2, fun fs Q => ?_, b2⟩
      rw [← b1, aX1_findGales_22]
      simp only [aX1_findGales_23, aX1_findGales_24, aX1_findGales_27, aX1_findGales_30, aX1_findGales_33, aX1_findGales_34, aX1_findGales_35, aX1_findGales_38, aX1_findGales_39, aX1_findGales_42, aX1_findGales_43, aX1_findGales_44, aX1_findGales_47, aX1_findGales_48, aX1_findGales_51, aX1_findGales_52, aX1_findGales_53, aX1_findGales_55, aX1_findGales_56, aX1_findGales_57, aX1_findGales_58, ho, Nat.zero_le, Nat.reduceLeDiff, Nat.reduceAdd, i1_0, rr_c3, zc9, oc9, zc10, oc10, zc11, oc11, zc12, oc12, zc13, oc13, zc15, oc15, Int32.lt_irrefl, Nat.zero_lt_one, Rt_cons, Rt_void, isB_0, isB_1, isB_b, true_and, and_true, cats_nil, cats_int, cats_ref, and_self, if_true, if_false, ite_self, le_nlt, ite_not, rr_lt, e2', l, q2.2.2.1, q2.2.2.2, e10, nI_add]
      rw [aX1_findGales_59, a1]
      simp only [aX1_findGales_62, aX1_findGales_65, Nat.zero_le, Nat.reduceLeDiff, Nat.reduceAdd, i1_0, rr_c3, zc9, oc9, zc10, oc10, zc11, oc11, zc12, oc12, zc13, oc13, zc15, oc15, Int32.lt_irrefl, Nat.zero_lt_one, Rt_cons, Rt_void, isB_0, isB_1, isB_b, true_and, and_true, cats_nil, cats_int, cats_ref, and_self, if_true, if_false, ite_self, le_nlt, ite_not, nI_1]
    · have q' : hoW N w (nI g) = -1 ∨ ¬ hoW N w (nI g) = -1 ∧ hoW N w (nI k) = -1 := by
        by_cases z : hoW N w (nI g) = -1
        · exact Or.inl z
        · by_cases y : hoW N w (nI k) = -1
          · exact Or.inr ⟨z, y⟩
          · refine absurd ?_ q
            unfold cnd
            rw [decide_eq_true_iff, p1, p2]
            exact Or.inr ⟨hgk, by omega, z, y⟩
      have h2 := h
      rw [← gq_skip q] at h2
      obtain ⟨υ2, b1, b2⟩ := ih (k + 1) τ (by omega) (by omega) h2
      refine ⟨υ2, fun fs Q => ?_, b2⟩
      rw [← b1, aX1_findGales_22]
      rcases q' with z | ⟨z, y⟩
      · simp only [aX1_findGales_23, aX1_findGales_24, aX1_findGales_27, aX1_findGales_30, aX1_findGales_33, aX1_findGales_34, aX1_findGales_35, aX1_findGales_38, aX1_findGales_39, aX1_findGales_62, aX1_findGales_65, ho, Nat.zero_le, Nat.reduceLeDiff, Nat.reduceAdd, i1_0, rr_c3, zc9, oc9, zc10, oc10, zc11, oc11, zc12, oc12, zc13, oc13, zc15, oc15, Int32.lt_irrefl, Nat.zero_lt_one, Rt_cons, Rt_void, isB_0, isB_1, isB_b, true_and, and_true, cats_nil, cats_int, cats_ref, and_self, if_true, if_false, ite_self, le_nlt, ite_not, rr_lt, e2', l, z, nI_1]
      · simp only [aX1_findGales_23, aX1_findGales_24, aX1_findGales_27, aX1_findGales_30, aX1_findGales_33, aX1_findGales_34, aX1_findGales_35, aX1_findGales_38, aX1_findGales_39, aX1_findGales_42, aX1_findGales_43, aX1_findGales_44, aX1_findGales_47, aX1_findGales_48, aX1_findGales_62, aX1_findGales_65, ho, Nat.zero_le, Nat.reduceLeDiff, Nat.reduceAdd, i1_0, rr_c3, zc9, oc9, zc10, oc10, zc11, oc11, zc12, oc12, zc13, oc13, zc15, oc15, Int32.lt_irrefl, Nat.zero_lt_one, Rt_cons, Rt_void, isB_0, isB_1, isB_b, true_and, and_true, cats_nil, cats_int, cats_ref, and_self, if_true, if_false, ite_self, le_nlt, ite_not, rr_lt, e2', l, z, y, nI_1]
theorem lp_fou {σ0 : Mem} {N G c : Nat} {w : Nat → Int32} (hN : N ≤ 7) (hG : G ≤ 7) (hr : HrC σ0 G N c) (hc : CS σ0 0 w) (e1 : σ0 3 (rr (σ0 9 0 0)) 1 = nI N) (e2 : σ0 3 (rr (σ0 9 0 0)) 2 = nI G) : ∀ (m g : Nat) (τ : Mem) (l3 : Value), g + m = G → GC σ0 τ (mgL (gq N G c w (σ0 21 0) (σ0 22 0) (σ0 23 0)) (10 * g)) →
    ∃ υ, (∀ fs Q, Rn mX1_findGales 7 [.ref (ad 20 0), .ref (ad 9 0), .int (nI g), l3] [] fs (enc τ) Q ↔ Rt fs (enc υ) none Q) ∧ GC σ0 υ (mgL (gq N G c w (σ0 21 0) (σ0 22 0) (σ0 23 0)) 100) := by
  intro m
  induction m with
  | zero =>
    intro g τ l3 hk h
    obtain rfl : g = G := by omega
    have e2' : τ 3 (rr (τ 9 0 0)) 2 = nI g := by rw [h.1 9 0 (by decide) (by decide) (by decide), h.1 3 _ (by decide) (by decide) (by decide)]; exact e2
    have s := mgL_skip (q := gq N g c w (σ0 21 0) (σ0 22 0) (σ0 23 0)) (k := 10 * g) (m := 99 - 10 * g) (fun p a b => gq_no (by omega))
    rw [show 10 * g + (99 - 10 * g) = 99 by omega] at s
    rw [← s] at h
    have q : cnd N g w 99 = true := by unfold cnd; rw [decide_eq_true_iff]; exact Or.inl rfl
    obtain ⟨υ, a1, a2⟩ := sp_add (p := 99) hN (by omega) hr hc h (mg_22 hG (fun p hp => gq_c hp) (by omega) q)
    rw [← gq_step q] at a2
    refine ⟨υ, fun fs Q => ?_, a2⟩
    simp only [aX1_findGales_7, aX1_findGales_8, aX1_findGales_9, aX1_findGales_12, aX1_findGales_15, aX1_findGales_74, aX1_findGales_75, aX1_findGales_76, Nat.zero_le, Nat.reduceLeDiff, Nat.reduceAdd, i1_0, rr_c3, zc9, oc9, zc10, oc10, zc11, oc11, zc12, oc12, zc13, oc13, zc15, oc15, Int32.lt_irrefl, Nat.zero_lt_one, Rt_cons, Rt_void, isB_0, isB_1, isB_b, true_and, and_true, cats_nil, cats_int, cats_ref, and_self, if_true, if_false, ite_self, le_nlt, ite_not, rr_lt, e2']
    have a1' := a1
    have e99' : nI 99 = 99 := rfl
    rw [e99'] at a1'
    rw [aX1_findGales_78, a1']
    simp only [aX1_findGales_81, Nat.zero_le, Nat.reduceLeDiff, Nat.reduceAdd, i1_0, rr_c3, zc9, oc9, zc10, oc10, zc11, oc11, zc12, oc12, zc13, oc13, zc15, oc15, Int32.lt_irrefl, Nat.zero_lt_one, Rt_cons, Rt_void, isB_0, isB_1, isB_b, true_and, and_true, cats_nil, cats_int, cats_ref, and_self, if_true, if_false, ite_self, le_nlt, ite_not]
  | succ m ih =>
    intro g τ l3 hk h
    have e2' : τ 3 (rr (τ 9 0 0)) 2 = nI G := by rw [h.1 9 0 (by decide) (by decide) (by decide), h.1 3 _ (by decide) (by decide) (by decide)]; exact e2
    have l : nI g < nI G := nI_lt (by omega) (by omega)
    have s := mgL_skip (q := gq N G c w (σ0 21 0) (σ0 22 0) (σ0 23 0)) (k := 10 * g) (m := g + 1) (fun p a b => gq_no (by omega))
    rw [← s] at h
    obtain ⟨υ, a1, a2⟩ := lp_fin hN hG hr hc e1 e2 (show g < G by omega) (G - (g + 1)) (g + 1) τ (by omega) (by omega) h
    have s2 := mgL_skip (q := gq N G c w (σ0 21 0) (σ0 22 0) (σ0 23 0)) (k := 10 * g + G) (m := 10 - G) (fun p a b => gq_no (by omega))
    rw [show 10 * g + G + (10 - G) = 10 * (g + 1) by omega] at s2
    rw [← s2] at a2
    obtain ⟨υ2, b1, b2⟩ := ih (g + 1) υ (.int (nI G)) (by omega) a2
    refine ⟨υ2, fun fs Q => ?_, b2⟩
    rw [← b1, aX1_findGales_7]
    simp only [aX1_findGales_8, aX1_findGales_9, aX1_findGales_12, aX1_findGales_15, aX1_findGales_18, aX1_findGales_19, aX1_findGales_20, aX1_findGales_21, Nat.zero_le, Nat.reduceLeDiff, Nat.reduceAdd, i1_0, rr_c3, zc9, oc9, zc10, oc10, zc11, oc11, zc12, oc12, zc13, oc13, zc15, oc15, Int32.lt_irrefl, Nat.zero_lt_one, Rt_cons, Rt_void, isB_0, isB_1, isB_b, true_and, and_true, cats_nil, cats_int, cats_ref, and_self, if_true, if_false, ite_self, le_nlt, ite_not, rr_lt, e2', l, nI_1]
    rw [a1]
    simp only [aX1_findGales_68, aX1_findGales_71, Nat.zero_le, Nat.reduceLeDiff, Nat.reduceAdd, i1_0, rr_c3, zc9, oc9, zc10, oc10, zc11, oc11, zc12, oc12, zc13, oc13, zc15, oc15, Int32.lt_irrefl, Nat.zero_lt_one, Rt_cons, Rt_void, isB_0, isB_1, isB_b, true_and, and_true, cats_nil, cats_int, cats_ref, and_self, if_true, if_false, ite_self, le_nlt, ite_not, nI_1]
theorem sp_findGales {N G c : Nat} {w : Nat → Int32} (hN : N ≤ 7) (hG : G ≤ 7) (hr : HrC σ G N c) (hc : CS σ 0 w) (e1 : σ 3 (rr (σ 9 0 0)) 1 = nI N) (e2 : σ 3 (rr (σ 9 0 0)) 2 = nI G) :
    ∃ υ, (∀ fs Q, Rn mX1_findGales 0 [.ref (ad 20 0), .ref (ad 9 0), .null, .null] [] fs (enc σ) Q ↔ Rt fs (enc υ) none Q) ∧ GC σ υ (mgL (gq N G c w (σ 21 0) (σ 22 0) (σ 23 0)) 100) := by
  have h0 : GC σ (upS σ 20 0 5 0) (mgL (gq N G c w (σ 21 0) (σ 22 0) (σ 23 0)) (10 * 0)) := ⟨fun k i a b c => upS_ne (by omega), fun s hs => by rw [upS_eq, upd_ne hs], by rw [upS_eq, upd_eq]; exact ⟨rfl, fun j hj => absurd hj (Nat.not_lt_zero _)⟩⟩
  obtain ⟨υ, a1, a2⟩ := lp_fou hN hG hr hc e1 e2 G 0 (upS σ 20 0 5 0) .null (by omega) h0
  refine ⟨υ, fun fs Q => ?_, a2⟩
  have a1' := a1 fs Q
  rw [nI_0] at a1'
  simp only [aX1_findGales_0, aX1_findGales_1, aX1_findGales_2, aX1_findGales_5, aX1_findGales_6, Nat.zero_le, Nat.reduceLeDiff, Nat.reduceAdd, i1_0, rr_c3, zc9, oc9, zc10, oc10, zc11, oc11, zc12, oc12, zc13, oc13, zc15, oc15, Int32.lt_irrefl, Nat.zero_lt_one, Rt_cons, Rt_void, isB_0, isB_1, isB_b, true_and, and_true, cats_nil, cats_int, cats_ref, and_self, if_true, if_false, ite_self, le_nlt, ite_not]
  rw [a1']
/-- what is heard, in the reference -/
def HrM (σ : Mem) (G N c : Nat) : Prop := σ 29 0 24 = nI c ∧ c ≤ 6 ∧ ∀ j, j < c → ∃ g h : Nat, g < G ∧ h < N ∧ σ 21 0 j = nI g ∧ σ 22 0 j = nI h ∧ σ 49 0 (3 * j) = nI g ∧ σ 49 0 (3 * j + 1) = nI h ∧ σ 49 0 (3 * j + 2) = σ 23 0 j ∧ (σ 23 0 j = 0 ∨ σ 23 0 j = 1)
theorem lp_isHeard {N G c p : Nat} (hN : N ≤ 7) (hG : G ≤ 7) (hp : p < 100) (hi : 0 < c → Inj (σ 43 0)) (hr : HrM σ G N c) (e : σ 31 0 1 = nI N) : ∀ m j, j + m = c →
    (Rn mX8_isHeard 4 [.ref (ad 29 0), .int (nI p), .int (bI (okH (σ 43 0) (σ 21 0) (σ 22 0) (σ 23 0) p j = true)), .int (nI j)] [] fs (enc σ) Q ↔ Rt fs (enc σ) (some (.int (bI (okH (σ 43 0) (σ 21 0) (σ 22 0) (σ 23 0) p c = true)))) Q) := by
  intro m
  induction m with
  | zero =>
    intro j hj
    obtain rfl : j = c := by omega
    simp only [aX8_isHeard_4, aX8_isHeard_5, aX8_isHeard_6, aX8_isHeard_9, aX8_isHeard_81, aX8_isHeard_82, Nat.zero_le, Nat.reduceLeDiff, Nat.reduceAdd, i1_0, rr_c3, zc9, oc9, zc10, oc10, zc11, oc11, zc12, oc12, zc13, oc13, zc15, oc15, Int32.lt_irrefl, Nat.zero_lt_one, Rt_cons, Rt_void, isB_0, isB_1, isB_b, true_and, and_true, cats_nil, cats_int, cats_ref, and_self, if_true, if_false, ite_self, le_nlt, ite_not, hr.1]
  | succ m ih =>
    intro j hj
    obtain ⟨g, h, g1, h1, e21, e22, f0, f1, f2, e23⟩ := hr.2.2 j (by omega)
    have h6 := hr.2.1
    have l : nI j < nI c := nI_lt (by omega) (by omega)
    have wa := fun x fs Q => sp_wasAt (σ := σ) (fs := fs) (Q := Q) (x := x) hN hp e
    have wi := was_iff hN (hi (by omega)) hp (show g < 7 by omega) h1
    have hh : hrd (σ 43 0) (σ 21 0) (σ 22 0) (σ 23 0) p j = (decide (swp p (σ 43 0 (64 + 5 * h + 2)) = nI g) == decide (σ 23 0 j = 1)) := by
      unfold hrd
      rw [e21, e22, nI_clamp (show h < 2 ^ 31 by omega)]
    have es := okH_s (σ 43 0) (σ 21 0) (σ 22 0) (σ 23 0) p j
    have n01 : ¬ (0 : Int32) = 1 := by decide
    have n10 : ¬ (1 : Int32) = 0 := by decide
    have t3 : (3 : Int32) * nI j = nI (3 * j) := pk_mul 3 j
    have v0 : vp_in (nI (3 * j)) 18 := vp_in_nI (by omega) (by decide)
    have v1 : vp_in (nI (3 * j + 1)) 18 := vp_in_nI (by omega) (by decide)
    have v2 : vp_in (nI (3 * j + 2)) 18 := vp_in_nI (by omega) (by decide)
    have k0 := cl10 (show 3 * j < 10000 by omega)
    have k1 := cl10 (show 3 * j + 1 < 10000 by omega)
    have k2 := cl10 (show 3 * j + 2 < 10000 by omega)
    have ih' := ih (j + 1) (by omega)
    rw [← ih', aX8_isHeard_4]
    by_cases o : okH (σ 43 0) (σ 21 0) (σ 22 0) (σ 23 0) p j = true
    · rw [o, hh, Bool.true_and] at es
      by_cases q : swp p (σ 43 0 (64 + 5 * h + 2)) = nI g
      · have q2 := wi.mpr q
        rcases e23 with z | z
        · have es' : ¬ okH (σ 43 0) (σ 21 0) (σ 22 0) (σ 23 0) p (j + 1) = true := by rw [es]; simp [q, z]
          simp only [aX8_isHeard_5, aX8_isHeard_6, aX8_isHeard_9, aX8_isHeard_12, aX8_isHeard_13, aX8_isHeard_16, aX8_isHeard_17, aX8_isHeard_18, aX8_isHeard_21, aX8_isHeard_22, aX8_isHeard_23, aX8_isHeard_24, aX8_isHeard_25, aX8_isHeard_26, aX8_isHeard_29, aX8_isHeard_30, aX8_isHeard_33, aX8_isHeard_34, aX8_isHeard_35, aX8_isHeard_36, aX8_isHeard_37, aX8_isHeard_38, aX8_isHeard_39, aX8_isHeard_42, aX8_isHeard_43, aX8_isHeard_46, aX8_isHeard_47, aX8_isHeard_48, aX8_isHeard_51, aX8_isHeard_52, aX8_isHeard_53, aX8_isHeard_54, aX8_isHeard_55, aX8_isHeard_56, aX8_isHeard_57, aX8_isHeard_58, aX8_isHeard_61, aX8_isHeard_62, aX8_isHeard_65, aX8_isHeard_66, aX8_isHeard_69, aX8_isHeard_70, aX8_isHeard_73, aX8_isHeard_74, aX8_isHeard_75, aX8_isHeard_78, wa, Nat.zero_le, Nat.reduceLeDiff, Nat.reduceAdd, i1_0, rr_c3, zc9, oc9, zc10, oc10, zc11, oc11, zc12, oc12, zc13, oc13, zc15, oc15, Int32.lt_irrefl, Nat.zero_lt_one, Rt_cons, Rt_void, isB_0, isB_1, isB_b, true_and, and_true, cats_nil, cats_int, cats_ref, and_self, if_true, if_false, ite_self, le_nlt, ite_not, hr.1, l, bI_t o, bI_f es', n10, n01, aT_49, aN_49, cnt_49, t3, nI_1, nI_2, v0, v1, v2, k0, k1, k2, f0, f1, f2, q2, z, not_true_eq_false, not_false_eq_true]
        · have es' : okH (σ 43 0) (σ 21 0) (σ 22 0) (σ 23 0) p (j + 1) = true := by rw [es]; simp [q, z]
          simp only [aX8_isHeard_5, aX8_isHeard_6, aX8_isHeard_9, aX8_isHeard_12, aX8_isHeard_13, aX8_isHeard_16, aX8_isHeard_17, aX8_isHeard_18, aX8_isHeard_21, aX8_isHeard_22, aX8_isHeard_23, aX8_isHeard_24, aX8_isHeard_25, aX8_isHeard_26, aX8_isHeard_29, aX8_isHeard_30, aX8_isHeard_33, aX8_isHeard_34, aX8_isHeard_35, aX8_isHeard_36, aX8_isHeard_37, aX8_isHeard_38, aX8_isHeard_39, aX8_isHeard_42, aX8_isHeard_43, aX8_isHeard_46, aX8_isHeard_47, aX8_isHeard_48, aX8_isHeard_51, aX8_isHeard_52, aX8_isHeard_53, aX8_isHeard_54, aX8_isHeard_55, aX8_isHeard_56, aX8_isHeard_57, aX8_isHeard_58, aX8_isHeard_61, aX8_isHeard_62, aX8_isHeard_65, aX8_isHeard_66, aX8_isHeard_69, aX8_isHeard_70, aX8_isHeard_73, aX8_isHeard_74, aX8_isHeard_75, aX8_isHeard_78, wa, Nat.zero_le, Nat.reduceLeDiff, Nat.reduceAdd, i1_0, rr_c3, zc9, oc9, zc10, oc10, zc11, oc11, zc12, oc12, zc13, oc13, zc15, oc15, Int32.lt_irrefl, Nat.zero_lt_one, Rt_cons, Rt_void, isB_0, isB_1, isB_b, true_and, and_true, cats_nil, cats_int, cats_ref, and_self, if_true, if_false, ite_self, le_nlt, ite_not, hr.1, l, bI_t o, bI_t es', n10, n01, aT_49, aN_49, cnt_49, t3, nI_1, nI_2, v0, v1, v2, k0, k1, k2, f0, f1, f2, q2, z, not_true_eq_false, not_false_eq_true]
      · have q2 : ¬ hoW N (σ 43 0) (swp p (nI g)) = nI h := fun z => q (wi.mp z)
        rcases e23 with z | z
        · have es' : okH (σ 43 0) (σ 21 0) (σ 22 0) (σ 23 0) p (j + 1) = true := by rw [es]; simp [q, z]
          simp only [aX8_isHeard_5, aX8_isHeard_6, aX8_isHeard_9, aX8_isHeard_12, aX8_isHeard_13, aX8_isHeard_16, aX8_isHeard_17, aX8_isHeard_18, aX8_isHeard_21, aX8_isHeard_22, aX8_isHeard_23, aX8_isHeard_24, aX8_isHeard_25, aX8_isHeard_26, aX8_isHeard_29, aX8_isHeard_30, aX8_isHeard_33, aX8_isHeard_34, aX8_isHeard_35, aX8_isHeard_36, aX8_isHeard_37, aX8_isHeard_38, aX8_isHeard_39, aX8_isHeard_42, aX8_isHeard_43, aX8_isHeard_46, aX8_isHeard_47, aX8_isHeard_48, aX8_isHeard_51, aX8_isHeard_52, aX8_isHeard_53, aX8_isHeard_54, aX8_isHeard_55, aX8_isHeard_56, aX8_isHeard_57, aX8_isHeard_58, aX8_isHeard_61, aX8_isHeard_62, aX8_isHeard_65, aX8_isHeard_66, aX8_isHeard_69, aX8_isHeard_70, aX8_isHeard_73, aX8_isHeard_74, aX8_isHeard_75, aX8_isHeard_78, wa, Nat.zero_le, Nat.reduceLeDiff, Nat.reduceAdd, i1_0, rr_c3, zc9, oc9, zc10, oc10, zc11, oc11, zc12, oc12, zc13, oc13, zc15, oc15, Int32.lt_irrefl, Nat.zero_lt_one, Rt_cons, Rt_void, isB_0, isB_1, isB_b, true_and, and_true, cats_nil, cats_int, cats_ref, and_self, if_true, if_false, ite_self, le_nlt, ite_not, hr.1, l, bI_t o, bI_t es', n10, n01, aT_49, aN_49, cnt_49, t3, nI_1, nI_2, v0, v1, v2, k0, k1, k2, f0, f1, f2, q2, z, not_true_eq_false, not_false_eq_true]
        · have es' : ¬ okH (σ 43 0) (σ 21 0) (σ 22 0) (σ 23 0) p (j + 1) = true := by rw [es]; simp [q, z]
          simp only [aX8_isHeard_5, aX8_isHeard_6, aX8_isHeard_9, aX8_isHeard_12, aX8_isHeard_13, aX8_isHeard_16, aX8_isHeard_17, aX8_isHeard_18, aX8_isHeard_21, aX8_isHeard_22, aX8_isHeard_23, aX8_isHeard_24, aX8_isHeard_25, aX8_isHeard_26, aX8_isHeard_29, aX8_isHeard_30, aX8_isHeard_33, aX8_isHeard_34, aX8_isHeard_35, aX8_isHeard_36, aX8_isHeard_37, aX8_isHeard_38, aX8_isHeard_39, aX8_isHeard_42, aX8_isHeard_43, aX8_isHeard_46, aX8_isHeard_47, aX8_isHeard_48, aX8_isHeard_51, aX8_isHeard_52, aX8_isHeard_53, aX8_isHeard_54, aX8_isHeard_55, aX8_isHeard_56, aX8_isHeard_57, aX8_isHeard_58, aX8_isHeard_61, aX8_isHeard_62, aX8_isHeard_65, aX8_isHeard_66, aX8_isHeard_69, aX8_isHeard_70, aX8_isHeard_73, aX8_isHeard_74, aX8_isHeard_75, aX8_isHeard_78, wa, Nat.zero_le, Nat.reduceLeDiff, Nat.reduceAdd, i1_0, rr_c3, zc9, oc9, zc10, oc10, zc11, oc11, zc12, oc12, zc13, oc13, zc15, oc15, Int32.lt_irrefl, Nat.zero_lt_one, Rt_cons, Rt_void, isB_0, isB_1, isB_b, true_and, and_true, cats_nil, cats_int, cats_ref, and_self, if_true, if_false, ite_self, le_nlt, ite_not, hr.1, l, bI_t o, bI_f es', n10, n01, aT_49, aN_49, cnt_49, t3, nI_1, nI_2, v0, v1, v2, k0, k1, k2, f0, f1, f2, q2, z, not_true_eq_false, not_false_eq_true]
    · have es' : ¬ okH (σ 43 0) (σ 21 0) (σ 22 0) (σ 23 0) p (j + 1) = true := by rw [es]; simp [o]
      simp only [aX8_isHeard_5, aX8_isHeard_6, aX8_isHeard_9, aX8_isHeard_12, aX8_isHeard_13, aX8_isHeard_73, aX8_isHeard_74, aX8_isHeard_75, aX8_isHeard_78, Nat.zero_le, Nat.reduceLeDiff, Nat.reduceAdd, i1_0, rr_c3, zc9, oc9, zc10, oc10, zc11, oc11, zc12, oc12, zc13, oc13, zc15, oc15, Int32.lt_irrefl, Nat.zero_lt_one, Rt_cons, Rt_void, isB_0, isB_1, isB_b, true_and, and_true, cats_nil, cats_int, cats_ref, and_self, if_true, if_false, ite_self, le_nlt, ite_not, hr.1, l, bI_f o, bI_f es', nI_1]
theorem sp_isHeard {N G c p : Nat} (hN : N ≤ 7) (hG : G ≤ 7) (hp : p < 100) (hi : 0 < c → Inj (σ 43 0)) (hr : HrM σ G N c) (e : σ 31 0 1 = nI N) : Rn mX8_isHeard 0 [.ref (ad 29 0), .int (nI p), .null, .null] [] fs (enc σ) Q ↔ Rt fs (enc σ) (some (.int (bI (okH (σ 43 0) (σ 21 0) (σ 22 0) (σ 23 0) p c = true)))) Q := by
  have L := lp_isHeard (fs := fs) (Q := Q) hN hG hp hi hr e c 0 (by omega)
  rw [bI_t (show okH (σ 43 0) (σ 21 0) (σ 22 0) (σ 23 0) p 0 = true from rfl), nI_0] at L
  rw [← L]
  simp only [aX8_isHeard_0, aX8_isHeard_1, aX8_isHeard_2, aX8_isHeard_3, Nat.zero_le, Nat.reduceLeDiff, Nat.reduceAdd, i1_0, rr_c3, zc9, oc9, zc10, oc10, zc11, oc11, zc12, oc12, zc13, oc13, zc15, oc15, Int32.lt_irrefl, Nat.zero_lt_one, Rt_cons, Rt_void, isB_0, isB_1, isB_b, true_and, and_true, cats_nil, cats_int, cats_ref, and_self, if_true, if_false, ite_self, le_nlt, ite_not]
theorem GM_Hr {σ0 τ : Mem} {l : List Nat} {G N c : Nat} (h : GM σ0 τ l) (r : HrM σ0 G N c) : HrM τ G N c := by
  unfold HrM
  rw [h.2.1 24 (by decide), h.1 21 0 (by decide) (by decide), h.1 22 0 (by decide) (by decide), h.1 23 0 (by decide) (by decide), h.1 49 0 (by decide) (by decide)]
  exact r
theorem lp_finds {σ0 : Mem} {N G c : Nat} (hN : N ≤ 7) (hG : G ≤ 7) (hi : 0 < c → Inj (σ0 43 0)) (hr : HrM σ0 G N c) (e1 : σ0 31 0 1 = nI N) (e2 : σ0 31 0 2 = nI G) : ∀ (m p : Nat) (τ : Mem) (l2 l3 l4 : Value), p + m = 100 → GM σ0 τ (mgL (gq N G c (σ0 43 0) (σ0 21 0) (σ0 22 0) (σ0 23 0)) p) →
    ∃ υ, (∀ fs Q, Rn mX8_finds 7 [.ref (ad 29 0), .int (nI p), l2, l3, l4] [] fs (enc τ) Q ↔ Rt fs (enc υ) none Q) ∧ GM σ0 υ (mgL (gq N G c (σ0 43 0) (σ0 21 0) (σ0 22 0) (σ0 23 0)) 100) := by
  intro m
  induction m with
  | zero =>
    intro p τ l2 l3 l4 hp h
    obtain rfl : p = 100 := by omega
    refine ⟨τ, fun fs Q => ?_, h⟩
    have e100 : nI 100 = 100 := rfl
    simp only [aX8_finds_7, aX8_finds_8, aX8_finds_10, aX8_finds_114, Nat.zero_le, Nat.reduceLeDiff, Nat.reduceAdd, i1_0, rr_c3, zc9, oc9, zc10, oc10, zc11, oc11, zc12, oc12, zc13, oc13, zc15, oc15, Int32.lt_irrefl, Nat.zero_lt_one, Rt_cons, Rt_void, isB_0, isB_1, isB_b, true_and, and_true, cats_nil, cats_int, cats_ref, and_self, if_true, if_false, ite_self, le_nlt, ite_not, e100]
  | succ m ih =>
    intro p τ l2 l3 l4 hp h
    have hp' : p < 100 := by omega
    have l : nI p < 100 := nI_lt (b := 100) hp' (by decide)
    have n10 : ¬ (10 : Int32) = 0 := by decide
    have e43 := h.1 43 0 (by decide) (by decide)
    have e1' : τ 31 0 1 = nI N := by rw [h.1 31 0 (by decide) (by decide)]; exact e1
    have e2' : τ 31 0 2 = nI G := by rw [h.1 31 0 (by decide) (by decide)]; exact e2
    have hi' : 0 < c → Inj (τ 43 0) := by rw [e43]; exact hi
    have isg := fun x fs Q => sp_mGull (σ := τ) (fs := fs) (Q := Q) (h := x) hG e2'
    have hol := fun x fs Q => sp_holds (σ := τ) (fs := fs) (Q := Q) (x := x) hN e1'
    have ish := fun fs Q => sp_isHeard (σ := τ) (fs := fs) (Q := Q) hN hG hp' hi' (GM_Hr h hr) e1'
    rw [e43, h.1 21 0 (by decide) (by decide), h.1 22 0 (by decide) (by decide), h.1 23 0 (by decide) (by decide)] at ish
    rw [e43] at hol
    have ab := d10 hp'
    have lt := nI_ltI (a := p / 10) (b := p % 10) (by omega) (by omega)
    have i10 : (1 : Int32) = 0 ↔ False := by decide
    by_cases q : cnd N G (σ0 43 0) p = true
    · have q' := q
      unfold cnd at q'
      rw [decide_eq_true_iff] at q'
      have M : ∀ fs Q, (Rn mX8_finds 7 [.ref (ad 29 0), .int (nI p), l2, l3, l4] [] fs (enc τ) Q ↔ Rn mX8_finds 80 [.ref (ad 29 0), .int (nI p), .int (nI (p / 10)), .int (nI (p % 10)), .int 1] [] fs (enc τ) Q) := fun fs Q => by
        rcases q' with z | ⟨z1, z2, z3, z4⟩
        · have z' := (e99 hp').mpr z
          rw [aX8_finds_7]
          simp only [aX8_finds_8, aX8_finds_10, aX8_finds_13, aX8_finds_14, aX8_finds_16, aX8_finds_17, aX8_finds_18, aX8_finds_19, aX8_finds_21, aX8_finds_22, Nat.zero_le, Nat.reduceLeDiff, Nat.reduceAdd, i1_0, rr_c3, zc9, oc9, zc10, oc10, zc11, oc11, zc12, oc12, zc13, oc13, zc15, oc15, Int32.lt_irrefl, Nat.zero_lt_one, Rt_cons, Rt_void, isB_0, isB_1, isB_b, true_and, and_true, cats_nil, cats_int, cats_ref, and_self, if_true, if_false, ite_self, le_nlt, ite_not, l, n10, not_false_eq_true, ab.1, ab.2]
          rw [aX8_finds_23]
          simp only [aX8_finds_24, aX8_finds_26, aX8_finds_68, aX8_finds_69, aX8_finds_72, aX8_finds_73, aX8_finds_75, aX8_finds_77, Nat.zero_le, Nat.reduceLeDiff, Nat.reduceAdd, i1_0, rr_c3, zc9, oc9, zc10, oc10, zc11, oc11, zc12, oc12, zc13, oc13, zc15, oc15, Int32.lt_irrefl, Nat.zero_lt_one, Rt_cons, Rt_void, isB_0, isB_1, isB_b, true_and, and_true, cats_nil, cats_int, cats_ref, and_self, if_true, if_false, ite_self, le_nlt, ite_not, z']
        · by_cases z : p = 99
          · have z' := (e99 hp').mpr z
            rw [aX8_finds_7]
            simp only [aX8_finds_8, aX8_finds_10, aX8_finds_13, aX8_finds_14, aX8_finds_16, aX8_finds_17, aX8_finds_18, aX8_finds_19, aX8_finds_21, aX8_finds_22, Nat.zero_le, Nat.reduceLeDiff, Nat.reduceAdd, i1_0, rr_c3, zc9, oc9, zc10, oc10, zc11, oc11, zc12, oc12, zc13, oc13, zc15, oc15, Int32.lt_irrefl, Nat.zero_lt_one, Rt_cons, Rt_void, isB_0, isB_1, isB_b, true_and, and_true, cats_nil, cats_int, cats_ref, and_self, if_true, if_false, ite_self, le_nlt, ite_not, l, n10, not_false_eq_true, ab.1, ab.2]
            rw [aX8_finds_23]
            simp only [aX8_finds_24, aX8_finds_26, aX8_finds_68, aX8_finds_69, aX8_finds_72, aX8_finds_73, aX8_finds_75, aX8_finds_77, Nat.zero_le, Nat.reduceLeDiff, Nat.reduceAdd, i1_0, rr_c3, zc9, oc9, zc10, oc10, zc11, oc11, zc12, oc12, zc13, oc13, zc15, oc15, Int32.lt_irrefl, Nat.zero_lt_one, Rt_cons, Rt_void, isB_0, isB_1, isB_b, true_and, and_true, cats_nil, cats_int, cats_ref, and_self, if_true, if_false, ite_self, le_nlt, ite_not, z']
          · have z' : ¬ nI p = 99 := fun y => z ((e99 hp').mp y)
            have ig1 : isH G (nI (p / 10)) := isH_nI hG (by omega)
            have ig2 : isH G (nI (p % 10)) := isH_nI hG (by omega)
            rw [aX8_finds_7]
            simp only [aX8_finds_8, aX8_finds_10, aX8_finds_13, aX8_finds_14, aX8_finds_16, aX8_finds_17, aX8_finds_18, aX8_finds_19, aX8_finds_21, aX8_finds_22, aX8_finds_23, aX8_finds_24, aX8_finds_26, aX8_finds_29, aX8_finds_30, aX8_finds_31, aX8_finds_34, aX8_finds_35, aX8_finds_36, aX8_finds_39, aX8_finds_42, aX8_finds_43, aX8_finds_44, aX8_finds_47, aX8_finds_50, aX8_finds_51, aX8_finds_52, aX8_finds_55, aX8_finds_56, aX8_finds_59, aX8_finds_60, aX8_finds_61, aX8_finds_64, aX8_finds_65, aX8_finds_68, aX8_finds_69, aX8_finds_72, aX8_finds_73, aX8_finds_75, aX8_finds_77, isg, hol, Nat.zero_le, Nat.reduceLeDiff, Nat.reduceAdd, i1_0, rr_c3, zc9, oc9, zc10, oc10, zc11, oc11, zc12, oc12, zc13, oc13, zc15, oc15, Int32.lt_irrefl, Nat.zero_lt_one, Rt_cons, Rt_void, isB_0, isB_1, isB_b, true_and, and_true, cats_nil, cats_int, cats_ref, and_self, if_true, if_false, ite_self, le_nlt, ite_not, l, n10, not_false_eq_true, ab.1, ab.2, z', lt.mpr z1, not_true_eq_false, bI_t ig1, bI_t ig2, z3, z4]
      have st := gq_step (c := c) (gs := σ0 21 0) (hs := σ0 22 0) (bs' := σ0 23 0) q
      have l22 := mg_22 (q := gq N G c (σ0 43 0) (σ0 21 0) (σ0 22 0) (σ0 23 0)) hG (fun p hp => gq_c hp) hp' q
      by_cases o : okH (σ0 43 0) (σ0 21 0) (σ0 22 0) (σ0 23 0) p c = true
      · rw [if_pos o] at st
        generalize hl : mgL (gq N G c (σ0 43 0) (σ0 21 0) (σ0 22 0) (σ0 23 0)) p = L at h st l22
        have hne : GM σ0 (upS (upS τ 51 0 L.length (nI p)) 29 0 34 (nI (L.length + 1))) (L ++ [p]) := by
          refine ⟨fun k i a b => ?_, fun s hs => ?_, ?_⟩
          · rw [upS_ne (by omega), upS_ne (by omega)]; exact h.1 k i a b
          · rw [upS_eq, upd_ne hs, upS_ne (by omega)]; exact h.2.1 s hs
          · rw [upS_eq, upd_eq, upS_ne (by omega), upS_eq]
            exact Ls_push h.2.2
        rw [← st] at hne
        obtain ⟨υ, b1, b2⟩ := ih (p + 1) _ (.int (nI (p / 10))) (.int (nI (p % 10))) (.int 1) (by omega) hne
        refine ⟨υ, fun fs Q => ?_, b2⟩
        rw [M, ← b1]
        have e5 := h.2.2.1
        have v22 : vp_in (nI L.length) 22 := vp_in_nI l22 (by decide)
        have cl := cl10 (show L.length < 10000 by omega)
        simp only [aX8_finds_80, aX8_finds_81, aX8_finds_82, aX8_finds_85, aX8_finds_88, aX8_finds_89, aX8_finds_92, aX8_finds_93, aX8_finds_96, aX8_finds_97, aX8_finds_98, aX8_finds_99i, aX8_finds_99a, aX8_finds_100, aX8_finds_103, aX8_finds_104, aX8_finds_105, aX8_finds_108, aX8_finds_111, ish, Nat.zero_le, Nat.reduceLeDiff, Nat.reduceAdd, i1_0, rr_c3, zc9, oc9, zc10, oc10, zc11, oc11, zc12, oc12, zc13, oc13, zc15, oc15, Int32.lt_irrefl, Nat.zero_lt_one, Rt_cons, Rt_void, isB_0, isB_1, isB_b, true_and, and_true, cats_nil, cats_int, cats_ref, and_self, if_true, if_false, ite_self, le_nlt, ite_not, bI_t o, aT_51, aN_51, cnt_51, e5, v22, cl, upS_ne (show ¬ (29 = 51 ∧ 0 = 0) by decide), nI_1]
      · rw [if_neg o] at st
        rw [← st] at h
        obtain ⟨υ, b1, b2⟩ := ih (p + 1) τ (.int (nI (p / 10))) (.int (nI (p % 10))) (.int 1) (by omega) h
        refine ⟨υ, fun fs Q => ?_, b2⟩
        rw [M, ← b1]
        simp only [aX8_finds_80, aX8_finds_81, aX8_finds_82, aX8_finds_85, aX8_finds_88, aX8_finds_89, aX8_finds_92, aX8_finds_93, aX8_finds_96, aX8_finds_97, aX8_finds_98, aX8_finds_99i, aX8_finds_99a, aX8_finds_100, aX8_finds_103, aX8_finds_104, aX8_finds_105, aX8_finds_108, aX8_finds_111, ish, Nat.zero_le, Nat.reduceLeDiff, Nat.reduceAdd, i1_0, rr_c3, zc9, oc9, zc10, oc10, zc11, oc11, zc12, oc12, zc13, oc13, zc15, oc15, Int32.lt_irrefl, Nat.zero_lt_one, Rt_cons, Rt_void, isB_0, isB_1, isB_b, true_and, and_true, cats_nil, cats_int, cats_ref, and_self, if_true, if_false, ite_self, le_nlt, ite_not, bI_f o, nI_1]
    · have q' : ¬ p = 99 ∧ ¬ (p / 10 < p % 10 ∧ p % 10 < G ∧ ¬ hoW N (σ0 43 0) (nI (p / 10)) = -1 ∧ ¬ hoW N (σ0 43 0) (nI (p % 10)) = -1) := by
        unfold cnd at q
        rw [decide_eq_true_iff] at q
        exact not_or.mp q
      have z' : ¬ nI p = 99 := fun y => q'.1 ((e99 hp').mp y)
      have h2 := h
      rw [← gq_skip q] at h2
      obtain ⟨υ, b1, b2⟩ := ih (p + 1) τ (.int (nI (p / 10))) (.int (nI (p % 10))) (.int 0) (by omega) h2
      refine ⟨υ, fun fs Q => ?_, b2⟩
      rw [← b1, aX8_finds_7]
      by_cases z1 : p / 10 < p % 10
      · by_cases z2 : p % 10 < G
        · have ig1 : isH G (nI (p / 10)) := isH_nI hG (by omega)
          have ig2 : isH G (nI (p % 10)) := isH_nI hG (by omega)
          by_cases z3 : hoW N (σ0 43 0) (nI (p / 10)) = -1
          · simp only [aX8_finds_8, aX8_finds_10, aX8_finds_13, aX8_finds_14, aX8_finds_16, aX8_finds_17, aX8_finds_18, aX8_finds_19, aX8_finds_21, aX8_finds_22, aX8_finds_23, aX8_finds_24, aX8_finds_26, aX8_finds_29, aX8_finds_30, aX8_finds_31, aX8_finds_34, aX8_finds_35, aX8_finds_36, aX8_finds_39, aX8_finds_42, aX8_finds_43, aX8_finds_44, aX8_finds_47, aX8_finds_50, aX8_finds_51, aX8_finds_52, aX8_finds_55, aX8_finds_56, aX8_finds_59, aX8_finds_60, aX8_finds_61, aX8_finds_64, aX8_finds_65, aX8_finds_68, aX8_finds_69, aX8_finds_72, aX8_finds_73, aX8_finds_75, aX8_finds_77, aX8_finds_108, aX8_finds_111, isg, hol, Nat.zero_le, Nat.reduceLeDiff, Nat.reduceAdd, i1_0, rr_c3, zc9, oc9, zc10, oc10, zc11, oc11, zc12, oc12, zc13, oc13, zc15, oc15, Int32.lt_irrefl, Nat.zero_lt_one, Rt_cons, Rt_void, isB_0, isB_1, isB_b, true_and, and_true, cats_nil, cats_int, cats_ref, and_self, if_true, if_false, ite_self, le_nlt, ite_not, l, n10, not_false_eq_true, ab.1, ab.2, z', lt.mpr z1, not_true_eq_false, bI_t ig1, bI_t ig2, z3, nI_1]
          · have z4 : hoW N (σ0 43 0) (nI (p % 10)) = -1 := Decidable.not_not.mp (fun y => q'.2 ⟨z1, z2, z3, y⟩)
            simp only [aX8_finds_8, aX8_finds_10, aX8_finds_13, aX8_finds_14, aX8_finds_16, aX8_finds_17, aX8_finds_18, aX8_finds_19, aX8_finds_21, aX8_finds_22, aX8_finds_23, aX8_finds_24, aX8_finds_26, aX8_finds_29, aX8_finds_30, aX8_finds_31, aX8_finds_34, aX8_finds_35, aX8_finds_36, aX8_finds_39, aX8_finds_42, aX8_finds_43, aX8_finds_44, aX8_finds_47, aX8_finds_50, aX8_finds_51, aX8_finds_52, aX8_finds_55, aX8_finds_56, aX8_finds_59, aX8_finds_60, aX8_finds_61, aX8_finds_64, aX8_finds_65, aX8_finds_68, aX8_finds_69, aX8_finds_72, aX8_finds_73, aX8_finds_75, aX8_finds_77, aX8_finds_108, aX8_finds_111, isg, hol, Nat.zero_le, Nat.reduceLeDiff, Nat.reduceAdd, i1_0, rr_c3, zc9, oc9, zc10, oc10, zc11, oc11, zc12, oc12, zc13, oc13, zc15, oc15, Int32.lt_irrefl, Nat.zero_lt_one, Rt_cons, Rt_void, isB_0, isB_1, isB_b, true_and, and_true, cats_nil, cats_int, cats_ref, and_self, if_true, if_false, ite_self, le_nlt, ite_not, l, n10, not_false_eq_true, ab.1, ab.2, z', lt.mpr z1, not_true_eq_false, bI_t ig1, bI_t ig2, z3, z4, nI_1]
        · have ig2 : ¬ isH G (nI (p % 10)) := fun y => z2 ((nI_ltI (by omega) (by omega)).mp y.2)
          by_cases z3 : p / 10 < G
          · have ig1 : isH G (nI (p / 10)) := isH_nI hG z3
            simp only [aX8_finds_8, aX8_finds_10, aX8_finds_13, aX8_finds_14, aX8_finds_16, aX8_finds_17, aX8_finds_18, aX8_finds_19, aX8_finds_21, aX8_finds_22, aX8_finds_23, aX8_finds_24, aX8_finds_26, aX8_finds_29, aX8_finds_30, aX8_finds_31, aX8_finds_34, aX8_finds_35, aX8_finds_36, aX8_finds_39, aX8_finds_42, aX8_finds_43, aX8_finds_44, aX8_finds_47, aX8_finds_72, aX8_finds_73, aX8_finds_75, aX8_finds_77, aX8_finds_108, aX8_finds_111, isg, Nat.zero_le, Nat.reduceLeDiff, Nat.reduceAdd, i1_0, rr_c3, zc9, oc9, zc10, oc10, zc11, oc11, zc12, oc12, zc13, oc13, zc15, oc15, Int32.lt_irrefl, Nat.zero_lt_one, Rt_cons, Rt_void, isB_0, isB_1, isB_b, true_and, and_true, cats_nil, cats_int, cats_ref, and_self, if_true, if_false, ite_self, le_nlt, ite_not, l, n10, not_false_eq_true, ab.1, ab.2, z', lt.mpr z1, not_true_eq_false, bI_t ig1, bI_f ig2, nI_1]
          · have ig1 : ¬ isH G (nI (p / 10)) := fun y => z3 ((nI_ltI (by omega) (by omega)).mp y.2)
            simp only [aX8_finds_8, aX8_finds_10, aX8_finds_13, aX8_finds_14, aX8_finds_16, aX8_finds_17, aX8_finds_18, aX8_finds_19, aX8_finds_21, aX8_finds_22, aX8_finds_23, aX8_finds_24, aX8_finds_26, aX8_finds_29, aX8_finds_30, aX8_finds_31, aX8_finds_34, aX8_finds_35, aX8_finds_36, aX8_finds_39, aX8_finds_42, aX8_finds_43, aX8_finds_44, aX8_finds_47, aX8_finds_72, aX8_finds_73, aX8_finds_75, aX8_finds_77, aX8_finds_108, aX8_finds_111, isg, Nat.zero_le, Nat.reduceLeDiff, Nat.reduceAdd, i1_0, rr_c3, zc9, oc9, zc10, oc10, zc11, oc11, zc12, oc12, zc13, oc13, zc15, oc15, Int32.lt_irrefl, Nat.zero_lt_one, Rt_cons, Rt_void, isB_0, isB_1, isB_b, true_and, and_true, cats_nil, cats_int, cats_ref, and_self, if_true, if_false, ite_self, le_nlt, ite_not, l, n10, not_false_eq_true, ab.1, ab.2, z', lt.mpr z1, not_true_eq_false, bI_f ig1, nI_1]
      · have z1' : ¬ nI (p / 10) < nI (p % 10) := fun y => z1 (lt.mp y)
        simp only [aX8_finds_8, aX8_finds_10, aX8_finds_13, aX8_finds_14, aX8_finds_16, aX8_finds_17, aX8_finds_18, aX8_finds_19, aX8_finds_21, aX8_finds_22, aX8_finds_23, aX8_finds_24, aX8_finds_26, aX8_finds_29, aX8_finds_30, aX8_finds_31, aX8_finds_72, aX8_finds_73, aX8_finds_75, aX8_finds_77, aX8_finds_108, aX8_finds_111, Nat.zero_le, Nat.reduceLeDiff, Nat.reduceAdd, i1_0, rr_c3, zc9, oc9, zc10, oc10, zc11, oc11, zc12, oc12, zc13, oc13, zc15, oc15, Int32.lt_irrefl, Nat.zero_lt_one, Rt_cons, Rt_void, isB_0, isB_1, isB_b, true_and, and_true, cats_nil, cats_int, cats_ref, and_self, if_true, if_false, ite_self, le_nlt, ite_not, l, n10, not_false_eq_true, ab.1, ab.2, z', z1', nI_1]
theorem sp_finds {N G c : Nat} (hN : N ≤ 7) (hG : G ≤ 7) (hi : 0 < c → Inj (σ 43 0)) (hr : HrM σ G N c) (e1 : σ 31 0 1 = nI N) (e2 : σ 31 0 2 = nI G) :
    ∃ υ, (∀ fs Q, Rn mX8_finds 0 [.ref (ad 29 0), .null, .null, .null, .null] [] fs (enc σ) Q ↔ Rt fs (enc υ) none Q) ∧ GM σ υ (mgL (gq N G c (σ 43 0) (σ 21 0) (σ 22 0) (σ 23 0)) 100) := by
  have h0 : GM σ (upS σ 29 0 34 0) (mgL (gq N G c (σ 43 0) (σ 21 0) (σ 22 0) (σ 23 0)) 0) := ⟨fun k i a b => upS_ne (by omega), fun s hs => by rw [upS_eq, upd_ne hs], by rw [upS_eq, upd_eq]; exact ⟨rfl, fun j hj => absurd hj (Nat.not_lt_zero _)⟩⟩
  obtain ⟨υ, a1, a2⟩ := lp_finds hN hG hi hr e1 e2 100 0 (upS σ 29 0 34 0) .null .null .null (by omega) h0
  refine ⟨υ, fun fs Q => ?_, a2⟩
  have a1' := a1 fs Q
  rw [nI_0] at a1'
  simp only [aX8_finds_0, aX8_finds_1, aX8_finds_2, aX8_finds_5, aX8_finds_6, Nat.zero_le, Nat.reduceLeDiff, Nat.reduceAdd, i1_0, rr_c3, zc9, oc9, zc10, oc10, zc11, oc11, zc12, oc12, zc13, oc13, zc15, oc15, Int32.lt_irrefl, Nat.zero_lt_one, Rt_cons, Rt_void, isB_0, isB_1, isB_b, true_and, and_true, cats_nil, cats_int, cats_ref, and_self, if_true, if_false, ite_self, le_nlt, ite_not]
  rw [a1']
theorem api_gales (x : Int32) : Sim Rel mX7_gales mX8_gales [.int x] := by
  refine Sim_of (Lc := [.ref (ad 0 0), .int x]) (Lm := [.ref (ad 29 0), .int x]) rfl rfl (fun σ hR => ?_)
  obtain ⟨r1, r2, C, N, G, r3, r4, r5, r6, r7⟩ := id hR
  obtain ⟨q1, q2, q3, q4, ⟨l0, l1, l2⟩, ⟨k0, k1, k2⟩, q5, q6, q7⟩ := id r3.1
  by_cases ho : x < 0 ∨ 1 < x
  · refine ⟨σ, σ, -1000000002, ?_, ?_, hR⟩
    · simp only [aX7_gales_0, aX7_gales_1, aX7_gales_2, aX7_gales_3, aX7_gales_6, aX7_gales_9, aX7_gales_11, sp_isOutside, Nat.zero_le, Nat.reduceLeDiff, Nat.reduceAdd, i1_0, rr_c3, zc9, oc9, zc10, oc10, zc11, oc11, zc12, oc12, zc13, oc13, zc15, oc15, Int32.lt_irrefl, Nat.zero_lt_one, Rt_cons, Rt_void, isB_0, isB_1, isB_b, true_and, and_true, cats_nil, cats_int, cats_ref, and_self, if_true, if_false, ite_self, le_nlt, ite_not, Rt_nil, bI_t ho]
    · simp only [aX8_gales_0, aX8_gales_1, aX8_gales_2, aX8_gales_3, aX8_gales_6, aX8_gales_9, aX8_gales_11, sp_in, Nat.zero_le, Nat.reduceLeDiff, Nat.reduceAdd, i1_0, rr_c3, zc9, oc9, zc10, oc10, zc11, oc11, zc12, oc12, zc13, oc13, zc15, oc15, Int32.lt_irrefl, Nat.zero_lt_one, Rt_cons, Rt_void, isB_0, isB_1, isB_b, true_and, and_true, cats_nil, cats_int, cats_ref, and_self, if_true, if_false, ite_self, le_nlt, ite_not, Rt_nil, bI_f (show ¬ (¬ x < 0 ∧ ¬ 1 < x) from fun z => ho.elim z.1 z.2)]
  · have hin := not_out.mp ho
    obtain ⟨c, c1, c2, c3, c4⟩ := id r4
    have hrc : HrC σ G N c := ⟨c2, c1, fun j hj => by obtain ⟨g, h, a1, a2, a3, a4, a5, a6, a7, a8⟩ := c4 j hj; exact ⟨g, h, a1, a2, a3, a4, a8⟩⟩
    have hrm : HrM σ G N c := ⟨c3, c1, c4⟩
    obtain ⟨σ1, a1, a2⟩ := sp_findGales q2 (by omega) hrc r3.2.2.1 k1 k2
    have hrm1 : HrM σ1 G N c := by
      unfold HrM
      rw [a2.1 29 0 (by decide) (by decide) (by decide), a2.1 21 0 (by decide) (by decide) (by decide), a2.1 22 0 (by decide) (by decide) (by decide), a2.1 23 0 (by decide) (by decide) (by decide), a2.1 49 0 (by decide) (by decide) (by decide)]
      exact hrm
    have e43 := a2.1 43 0 (by decide) (by decide) (by decide)
    obtain ⟨σ2, b1, b2⟩ := sp_finds (σ := σ1) (N := N) (G := G) (c := c) q2 (by omega) (fun _ => by rw [e43]; exact r3.2.2.2.2.2.2.2) hrm1 (by rw [a2.1 31 0 (by decide) (by decide) (by decide)]; exact l1) (by rw [a2.1 31 0 (by decide) (by decide) (by decide)]; exact l2)
    rw [e43, a2.1 21 0 (by decide) (by decide) (by decide), a2.1 22 0 (by decide) (by decide) (by decide), a2.1 23 0 (by decide) (by decide) (by decide)] at b2
    generalize mgL (gq N G c (σ 43 0) (σ 21 0) (σ 22 0) (σ 23 0)) 100 = L at a2 b2
    have ea := a2.2.2.1
    have eb := b2.2.2.1
    have hRel : Rel σ2 := Rel_free hR (fun k i a b c d e f g => by rw [b2.1 k i c g, a2.1 k i d e f]) (by rw [b2.1 20 0 (by decide) (by decide), a2.2.1 3 (by decide)]) (fun s hs => by rw [b2.2.1 s (by omega), a2.1 29 0 (by decide) (by decide) (by decide)])
    by_cases hx : x = 0
    · refine ⟨σ1, σ2, nI L.length, ?_, ?_, hRel⟩
      · simp only [aX7_gales_0, aX7_gales_1, aX7_gales_2, aX7_gales_3, aX7_gales_6, aX7_gales_9, aX7_gales_11, aX7_gales_12, aX7_gales_13, aX7_gales_16, aX7_gales_17, sp_isOutside, Nat.zero_le, Nat.reduceLeDiff, Nat.reduceAdd, i1_0, rr_c3, zc9, oc9, zc10, oc10, zc11, oc11, zc12, oc12, zc13, oc13, zc15, oc15, Int32.lt_irrefl, Nat.zero_lt_one, Rt_cons, Rt_void, isB_0, isB_1, isB_b, true_and, and_true, cats_nil, cats_int, cats_ref, and_self, if_true, if_false, ite_self, le_nlt, ite_not, bI_f ho]
        rw [aX7_gales_20, a1]
        simp only [aX7_gales_23, aX7_gales_24, aX7_gales_27, aX7_gales_28, aX7_gales_31, aX7_gales_34, Nat.zero_le, Nat.reduceLeDiff, Nat.reduceAdd, i1_0, rr_c3, zc9, oc9, zc10, oc10, zc11, oc11, zc12, oc12, zc13, oc13, zc15, oc15, Int32.lt_irrefl, Nat.zero_lt_one, Rt_cons, Rt_void, isB_0, isB_1, isB_b, true_and, and_true, cats_nil, cats_int, cats_ref, and_self, if_true, if_false, ite_self, le_nlt, ite_not, Rt_nil, hx, not_true_eq_false, ea]
      · simp only [aX8_gales_0, aX8_gales_1, aX8_gales_2, aX8_gales_3, aX8_gales_6, aX8_gales_9, aX8_gales_11, aX8_gales_12, sp_in, Nat.zero_le, Nat.reduceLeDiff, Nat.reduceAdd, i1_0, rr_c3, zc9, oc9, zc10, oc10, zc11, oc11, zc12, oc12, zc13, oc13, zc15, oc15, Int32.lt_irrefl, Nat.zero_lt_one, Rt_cons, Rt_void, isB_0, isB_1, isB_b, true_and, and_true, cats_nil, cats_int, cats_ref, and_self, if_true, if_false, ite_self, le_nlt, ite_not, bI_t hin]
        rw [aX8_gales_13, b1]
        simp only [aX8_gales_16, aX8_gales_17, aX8_gales_20, aX8_gales_21, aX8_gales_24, aX8_gales_27, aX8_gales_28, aX8_gales_31, aX8_gales_34, aX8_gales_35, aX8_gales_38, aX8_gales_39, aX8_gales_42, aX8_gales_43, aX8_gales_44, Nat.zero_le, Nat.reduceLeDiff, Nat.reduceAdd, i1_0, rr_c3, zc9, oc9, zc10, oc10, zc11, oc11, zc12, oc12, zc13, oc13, zc15, oc15, Int32.lt_irrefl, Nat.zero_lt_one, Rt_cons, Rt_void, isB_0, isB_1, isB_b, true_and, and_true, cats_nil, cats_int, cats_ref, and_self, if_true, if_false, ite_self, le_nlt, ite_not, Rt_nil, hx, not_true_eq_false, eb]
    · have v22 : vp_in 0 22 := vp_in_nI (n := 0) (by decide) (by decide)
      have hl22 : L.length < 2 ^ 31 ∨ ¬ L.length < 2 ^ 31 := Decidable.em _
      refine ⟨σ1, σ2, if nI L.length = 0 then -1 else σ1 24 0 0, ?_, ?_, hRel⟩
      · simp only [aX7_gales_0, aX7_gales_1, aX7_gales_2, aX7_gales_3, aX7_gales_6, aX7_gales_9, aX7_gales_11, aX7_gales_12, aX7_gales_13, aX7_gales_16, aX7_gales_17, sp_isOutside, Nat.zero_le, Nat.reduceLeDiff, Nat.reduceAdd, i1_0, rr_c3, zc9, oc9, zc10, oc10, zc11, oc11, zc12, oc12, zc13, oc13, zc15, oc15, Int32.lt_irrefl, Nat.zero_lt_one, Rt_cons, Rt_void, isB_0, isB_1, isB_b, true_and, and_true, cats_nil, cats_int, cats_ref, and_self, if_true, if_false, ite_self, le_nlt, ite_not, bI_f ho]
        rw [aX7_gales_20, a1]
        by_cases hL : nI L.length = 0
        · rw [if_pos hL]
          simp only [aX7_gales_23, aX7_gales_24, aX7_gales_27, aX7_gales_28, aX7_gales_31, aX7_gales_34, aX7_gales_35, aX7_gales_36, aX7_gales_39, aX7_gales_42, aX7_gales_45, aX7_gales_46, aX7_gales_49, aX7_gales_50, aX7_gales_53, aX7_gales_56, aX7_gales_57, aX7_gales_58, Nat.zero_le, Nat.reduceLeDiff, Nat.reduceAdd, i1_0, rr_c3, zc9, oc9, zc10, oc10, zc11, oc11, zc12, oc12, zc13, oc13, zc15, oc15, Int32.lt_irrefl, Nat.zero_lt_one, Rt_cons, Rt_void, isB_0, isB_1, isB_b, true_and, and_true, cats_nil, cats_int, cats_ref, and_self, if_true, if_false, ite_self, le_nlt, ite_not, Rt_nil, hx, not_false_eq_true, ea, hL, not_true_eq_false]
        · rw [if_neg hL]
          simp only [aX7_gales_23, aX7_gales_24, aX7_gales_27, aX7_gales_28, aX7_gales_31, aX7_gales_34, aX7_gales_35, aX7_gales_36, aX7_gales_39, aX7_gales_42, aX7_gales_45, aX7_gales_46, aX7_gales_49, aX7_gales_50, aX7_gales_53, aX7_gales_56, aX7_gales_57, aX7_gales_58, Nat.zero_le, Nat.reduceLeDiff, Nat.reduceAdd, i1_0, rr_c3, zc9, oc9, zc10, oc10, zc11, oc11, zc12, oc12, zc13, oc13, zc15, oc15, Int32.lt_irrefl, Nat.zero_lt_one, Rt_cons, Rt_void, isB_0, isB_1, isB_b, true_and, and_true, cats_nil, cats_int, cats_ref, and_self, if_true, if_false, ite_self, le_nlt, ite_not, Rt_nil, hx, not_false_eq_true, ea, hL, aT_24, aN_24, cnt_24, v22, c0]
      · simp only [aX8_gales_0, aX8_gales_1, aX8_gales_2, aX8_gales_3, aX8_gales_6, aX8_gales_9, aX8_gales_11, aX8_gales_12, sp_in, Nat.zero_le, Nat.reduceLeDiff, Nat.reduceAdd, i1_0, rr_c3, zc9, oc9, zc10, oc10, zc11, oc11, zc12, oc12, zc13, oc13, zc15, oc15, Int32.lt_irrefl, Nat.zero_lt_one, Rt_cons, Rt_void, isB_0, isB_1, isB_b, true_and, and_true, cats_nil, cats_int, cats_ref, and_self, if_true, if_false, ite_self, le_nlt, ite_not, bI_t hin]
        rw [aX8_gales_13, b1]
        by_cases hL : nI L.length = 0
        · rw [if_pos hL]
          simp only [aX8_gales_16, aX8_gales_17, aX8_gales_20, aX8_gales_21, aX8_gales_24, aX8_gales_27, aX8_gales_28, aX8_gales_31, aX8_gales_34, aX8_gales_35, aX8_gales_38, aX8_gales_39, aX8_gales_42, aX8_gales_43, aX8_gales_44, Nat.zero_le, Nat.reduceLeDiff, Nat.reduceAdd, i1_0, rr_c3, zc9, oc9, zc10, oc10, zc11, oc11, zc12, oc12, zc13, oc13, zc15, oc15, Int32.lt_irrefl, Nat.zero_lt_one, Rt_cons, Rt_void, isB_0, isB_1, isB_b, true_and, and_true, cats_nil, cats_int, cats_ref, and_self, if_true, if_false, ite_self, le_nlt, ite_not, Rt_nil, hx, not_false_eq_true, eb, hL, not_true_eq_false]
        · rw [if_neg hL]
          have hL0 : 0 < L.length := by
            rcases Nat.eq_zero_or_pos L.length with z | z
            · exact absurd (by rw [z]; rfl) hL
            · exact z
          simp only [aX8_gales_16, aX8_gales_17, aX8_gales_20, aX8_gales_21, aX8_gales_24, aX8_gales_27, aX8_gales_28, aX8_gales_31, aX8_gales_34, aX8_gales_35, aX8_gales_38, aX8_gales_39, aX8_gales_42, aX8_gales_43, aX8_gales_44, Nat.zero_le, Nat.reduceLeDiff, Nat.reduceAdd, i1_0, rr_c3, zc9, oc9, zc10, oc10, zc11, oc11, zc12, oc12, zc13, oc13, zc15, oc15, Int32.lt_irrefl, Nat.zero_lt_one, Rt_cons, Rt_void, isB_0, isB_1, isB_b, true_and, and_true, cats_nil, cats_int, cats_ref, and_self, if_true, if_false, ite_self, le_nlt, ite_not, Rt_nil, hx, not_false_eq_true, eb, hL, aT_51, aN_51, cnt_51, v22, c0]
          rw [a2.2.2.2 0 hL0, b2.2.2.2 0 hL0]
end S78
