-- reading, in the reference
section S83
variable {σ : Mem} {fs : List Fm} {M : List va_E} {Q : List va_E → Option Value → Prop}
/-- the reference's text -/
def LY (σ : Mem) (c : Nat) (T : Nat → Int32) : Prop := σ 29 0 1 = nI c ∧ ∀ j, j < c → σ 30 0 j = T j
theorem LY_at {c : Nat} {T : Nat → Int32} {x : Int32} (h : LY σ c T) : LY (upS σ 29 0 27 x) c T := ⟨by rw [upS_eq, upd_ne (by omega)]; exact h.1, fun j hj => by rw [upS_ne (by omega)]; exact h.2 j hj⟩
theorem sp_look {c p : Nat} {T : Nat → Int32} (hl : LT c T) (hx : LY σ c T) (hp : p ≤ c) (h : σ 29 0 27 = nI p) : Rn mX8_look 0 [.ref (ad 29 0)] [] fs (enc σ) Q ↔ Rt fs (enc σ) (some (.int (lk c T p))) Q := by
  have hc := hl.1
  by_cases q : p < c
  · have l : nI p < nI c := nI_lt q (by omega)
    rw [lk_lt q]
    simp only [aX8_look_0, aX8_look_1, aX8_look_4, aX8_look_5, aX8_look_8, aX8_look_11, aX8_look_12, aX8_look_15, aX8_look_16, aX8_look_19, aX8_look_20, aX8_look_23, aX8_look_24, Nat.zero_le, Nat.reduceLeDiff, Nat.reduceAdd, i1_0, rr_c3, zc9, oc9, zc10, oc10, zc11, oc11, zc12, oc12, zc13, oc13, zc15, oc15, Int32.lt_irrefl, Nat.zero_lt_one, Rt_cons, Rt_void, isB_0, isB_1, isB_b, true_and, and_true, cats_nil, cats_int, cats_ref, and_self, if_true, if_false, ite_self, le_nlt, ite_not, h, hx.1, l, aT_30, aN_30, cnt_30, in240 (show p < 240 by omega), cl10 (show p < 10000 by omega), hx.2 p q]
  · rw [lk_ge q]
    have l : ¬ nI p < nI c := nI_nlt (by omega) (by omega)
    simp only [aX8_look_0, aX8_look_1, aX8_look_4, aX8_look_5, aX8_look_8, aX8_look_11, aX8_look_12, aX8_look_15, aX8_look_16, aX8_look_19, aX8_look_20, aX8_look_23, aX8_look_24, Nat.zero_le, Nat.reduceLeDiff, Nat.reduceAdd, i1_0, rr_c3, zc9, oc9, zc10, oc10, zc11, oc11, zc12, oc12, zc13, oc13, zc15, oc15, Int32.lt_irrefl, Nat.zero_lt_one, Rt_cons, Rt_void, isB_0, isB_1, isB_b, true_and, and_true, cats_nil, cats_int, cats_ref, and_self, if_true, if_false, ite_self, le_nlt, ite_not, h, hx.1, l]
theorem lp_mskip {c : Nat} {T : Nat → Int32} (hl : LT c T) : ∀ (m p : Nat) (σ : Mem), c - p = m → p ≤ c → LY σ c T → σ 29 0 27 = nI p → σ 29 0 28 = 0 →
    (Rn mX8_skips 0 [.ref (ad 29 0)] [] fs (enc σ) Q ↔ Rt fs (enc (upS σ 29 0 27 (nI (sk c T p)))) none Q) := by
  intro m
  have hc := hl.1
  induction m with
  | zero =>
    intro p σ hm hp hx h hw
    have L := fun fs Q => sp_look (fs := fs) (Q := Q) hl hx hp h
    have n32 : ¬ lk c T p = 32 := by rw [lk_ge (by omega)]; exact n132
    rw [sk_b n32, upS_self h]
    simp only [aX8_skips_0, aX8_skips_1, aX8_skips_4, aX8_skips_7, aX8_skips_8, aX8_skips_11, aX8_skips_13, aX8_skips_29, L, Nat.zero_le, Nat.reduceLeDiff, Nat.reduceAdd, i1_0, rr_c3, zc9, oc9, zc10, oc10, zc11, oc11, zc12, oc12, zc13, oc13, zc15, oc15, Int32.lt_irrefl, Nat.zero_lt_one, Rt_cons, Rt_void, isB_0, isB_1, isB_b, true_and, and_true, cats_nil, cats_int, cats_ref, and_self, if_true, if_false, ite_self, le_nlt, ite_not, hw, not_true_eq_false, n32, not_false_eq_true]
  | succ m ih =>
    intro p σ hm hp hx h hw
    have L := fun fs Q => sp_look (fs := fs) (Q := Q) hl hx hp h
    by_cases q : lk c T p = 32
    · have ih' := ih (p + 1) (upS σ 29 0 27 (nI (p + 1))) (by omega) (by omega) (LY_at hx) (by rw [upS_eq, upd_eq]) (by rw [upS_eq, upd_ne (by omega)]; exact hw)
      rw [upS_idem] at ih'
      rw [sk_a q, ← ih', aX8_skips_0]
      simp only [aX8_skips_1, aX8_skips_4, aX8_skips_7, aX8_skips_8, aX8_skips_11, aX8_skips_13, aX8_skips_16, aX8_skips_17i, aX8_skips_17a, aX8_skips_18, aX8_skips_21, aX8_skips_22, aX8_skips_23, aX8_skips_26, L, Nat.zero_le, Nat.reduceLeDiff, Nat.reduceAdd, i1_0, rr_c3, zc9, oc9, zc10, oc10, zc11, oc11, zc12, oc12, zc13, oc13, zc15, oc15, Int32.lt_irrefl, Nat.zero_lt_one, Rt_cons, Rt_void, isB_0, isB_1, isB_b, true_and, and_true, cats_nil, cats_int, cats_ref, and_self, if_true, if_false, ite_self, le_nlt, ite_not, hw, not_true_eq_false, q, h, nI_1]
    · rw [sk_b q, upS_self h]
      simp only [aX8_skips_0, aX8_skips_1, aX8_skips_4, aX8_skips_7, aX8_skips_8, aX8_skips_11, aX8_skips_13, aX8_skips_29, L, Nat.zero_le, Nat.reduceLeDiff, Nat.reduceAdd, i1_0, rr_c3, zc9, oc9, zc10, oc10, zc11, oc11, zc12, oc12, zc13, oc13, zc15, oc15, Int32.lt_irrefl, Nat.zero_lt_one, Rt_cons, Rt_void, isB_0, isB_1, isB_b, true_and, and_true, cats_nil, cats_int, cats_ref, and_self, if_true, if_false, ite_self, le_nlt, ite_not, hw, not_true_eq_false, q, not_false_eq_true]
theorem sp_mskip0 (hw : ¬ σ 29 0 28 = 0) : Rn mX8_skips 0 [.ref (ad 29 0)] [] fs (enc σ) Q ↔ Rt fs (enc σ) none Q := by
  simp only [aX8_skips_0, aX8_skips_1, aX8_skips_4, aX8_skips_29, Nat.zero_le, Nat.reduceLeDiff, Nat.reduceAdd, i1_0, rr_c3, zc9, oc9, zc10, oc10, zc11, oc11, zc12, oc12, zc13, oc13, zc15, oc15, Int32.lt_irrefl, Nat.zero_lt_one, Rt_cons, Rt_void, isB_0, isB_1, isB_b, true_and, and_true, cats_nil, cats_int, cats_ref, and_self, if_true, if_false, ite_self, le_nlt, ite_not, hw, not_false_eq_true]
theorem sp_fails {n : Int32} : Rn mX8_fails 0 [.ref (ad 29 0), .int n] [] fs (enc σ) Q ↔ Rt fs (enc (upS σ 29 0 28 (if σ 29 0 28 = 0 then n else σ 29 0 28))) none Q := by
  by_cases q : σ 29 0 28 = 0
  · rw [if_pos q]
    simp only [aX8_fails_0, aX8_fails_1, aX8_fails_2, aX8_fails_5, aX8_fails_8, aX8_fails_9, aX8_fails_12, aX8_fails_13, aX8_fails_16, aX8_fails_19, Nat.zero_le, Nat.reduceLeDiff, Nat.reduceAdd, i1_0, rr_c3, zc9, oc9, zc10, oc10, zc11, oc11, zc12, oc12, zc13, oc13, zc15, oc15, Int32.lt_irrefl, Nat.zero_lt_one, Rt_cons, Rt_void, isB_0, isB_1, isB_b, true_and, and_true, cats_nil, cats_int, cats_ref, and_self, if_true, if_false, ite_self, le_nlt, ite_not, q, not_true_eq_false]
  · rw [if_neg q]
    simp only [aX8_fails_0, aX8_fails_1, aX8_fails_2, aX8_fails_5, aX8_fails_8, aX8_fails_9, aX8_fails_12, aX8_fails_13, aX8_fails_16, aX8_fails_19, Nat.zero_le, Nat.reduceLeDiff, Nat.reduceAdd, i1_0, rr_c3, zc9, oc9, zc10, oc10, zc11, oc11, zc12, oc12, zc13, oc13, zc15, oc15, Int32.lt_irrefl, Nat.zero_lt_one, Rt_cons, Rt_void, isB_0, isB_1, isB_b, true_and, and_true, cats_nil, cats_int, cats_ref, and_self, if_true, if_false, ite_self, le_nlt, ite_not, q, not_false_eq_true]
theorem lp_mnum {c a : Nat} {T : Nat → Int32} {l1 l2 : Value} (hl : LT c T) : ∀ (m p : Nat) (v : Int32) (σ : Mem), c - p = m → p ≤ c → LY σ c T → σ 29 0 27 = nI p →
    (Rn mX8_number 42 [.ref (ad 29 0), l1, l2, .int (nI a), .int v] [] fs (enc σ) Q ↔ Rn mX8_number 99 [.ref (ad 29 0), l1, l2, .int (nI a), .int (nuN c T a m p v).2] [] fs (enc (upS σ 29 0 27 (nI (nuN c T a m p v).1))) Q) := by
  intro m
  have hc := hl.1
  induction m with
  | zero =>
    intro p v σ hm hp hx h
    have L := fun fs Q => sp_look (fs := fs) (Q := Q) hl hx hp h
    have q : ¬ dg (lk c T p) := fun z => absurd (dg_lt z) (by omega)
    have e : nuN c T a 0 p v = (p, v) := rfl
    rw [e, upS_self h]
    simp only [aX8_number_42, aX8_number_43, aX8_number_46, aX8_number_48, aX8_number_50, aX8_number_53, L, sp_in, Nat.zero_le, Nat.reduceLeDiff, Nat.reduceAdd, i1_0, rr_c3, zc9, oc9, zc10, oc10, zc11, oc11, zc12, oc12, zc13, oc13, zc15, oc15, Int32.lt_irrefl, Nat.zero_lt_one, Rt_cons, Rt_void, isB_0, isB_1, isB_b, true_and, and_true, cats_nil, cats_int, cats_ref, and_self, if_true, if_false, ite_self, le_nlt, ite_not, bI_f q]
  | succ m ih =>
    intro p v σ hm hp hx h
    have L := fun fs Q => sp_look (fs := fs) (Q := Q) hl hx hp h
    rw [nuN_s]
    by_cases q : dg (lk c T p)
    · rw [if_pos q]
      have ih' := ih (p + 1) (if nI p - nI a < 3 then 10 * v + lk c T p - 48 else v) (upS σ 29 0 27 (nI (p + 1))) (by omega) (by omega) (LY_at hx) (by rw [upS_eq, upd_eq])
      rw [upS_idem] at ih'
      rw [← ih', aX8_number_42]
      by_cases z : nI p - nI a < 3
      · rw [if_pos z]
        simp only [aX8_number_43, aX8_number_46, aX8_number_48, aX8_number_50, aX8_number_53, aX8_number_56, aX8_number_57, aX8_number_60, aX8_number_61, aX8_number_62, aX8_number_63, aX8_number_66, aX8_number_68, aX8_number_70, aX8_number_71, aX8_number_72, aX8_number_75, aX8_number_76, aX8_number_78, aX8_number_79, aX8_number_82, aX8_number_84, aX8_number_86, aX8_number_87i, aX8_number_87a, aX8_number_88, aX8_number_91, aX8_number_92, aX8_number_93, aX8_number_96, L, sp_in, Nat.zero_le, Nat.reduceLeDiff, Nat.reduceAdd, i1_0, rr_c3, zc9, oc9, zc10, oc10, zc11, oc11, zc12, oc12, zc13, oc13, zc15, oc15, Int32.lt_irrefl, Nat.zero_lt_one, Rt_cons, Rt_void, isB_0, isB_1, isB_b, true_and, and_true, cats_nil, cats_int, cats_ref, and_self, if_true, if_false, ite_self, le_nlt, ite_not, bI_t q, h, z, not_true_eq_false, nI_1]
      · rw [if_neg z]
        simp only [aX8_number_43, aX8_number_46, aX8_number_48, aX8_number_50, aX8_number_53, aX8_number_56, aX8_number_57, aX8_number_60, aX8_number_61, aX8_number_62, aX8_number_63, aX8_number_66, aX8_number_68, aX8_number_70, aX8_number_71, aX8_number_72, aX8_number_75, aX8_number_76, aX8_number_78, aX8_number_79, aX8_number_82, aX8_number_84, aX8_number_86, aX8_number_87i, aX8_number_87a, aX8_number_88, aX8_number_91, aX8_number_92, aX8_number_93, aX8_number_96, L, sp_in, Nat.zero_le, Nat.reduceLeDiff, Nat.reduceAdd, i1_0, rr_c3, zc9, oc9, zc10, oc10, zc11, oc11, zc12, oc12, zc13, oc13, zc15, oc15, Int32.lt_irrefl, Nat.zero_lt_one, Rt_cons, Rt_void, isB_0, isB_1, isB_b, true_and, and_true, cats_nil, cats_int, cats_ref, and_self, if_true, if_false, ite_self, le_nlt, ite_not, bI_t q, h, z, not_false_eq_true, nI_1]
    · rw [if_neg q, upS_self h]
      simp only [aX8_number_42, aX8_number_43, aX8_number_46, aX8_number_48, aX8_number_50, aX8_number_53, L, sp_in, Nat.zero_le, Nat.reduceLeDiff, Nat.reduceAdd, i1_0, rr_c3, zc9, oc9, zc10, oc10, zc11, oc11, zc12, oc12, zc13, oc13, zc15, oc15, Int32.lt_irrefl, Nat.zero_lt_one, Rt_cons, Rt_void, isB_0, isB_1, isB_b, true_and, and_true, cats_nil, cats_int, cats_ref, and_self, if_true, if_false, ite_self, le_nlt, ite_not, bI_f q]
/-- the reference while it reads: at, wrong -/
def KM (σ0 σ : Mem) (c : Nat) (Y : Nat × Int32) : Prop := (∀ k i, ¬ k = 29 → ¬ (37 ≤ k ∧ k ≤ 42) → σ k i = σ0 k i) ∧ (∀ s, ¬ s = 27 → ¬ s = 28 → σ 29 0 s = σ0 29 0 s) ∧ σ 29 0 27 = nI Y.1 ∧ σ 29 0 28 = Y.2 ∧ Y.1 ≤ c
theorem KM_LY {σ0 : Mem} {c : Nat} {T : Nat → Int32} {Y : Nat × Int32} (h : KM σ0 σ c Y) (ht : LY σ0 c T) : LY σ c T := ⟨by rw [h.2.1 1 (by decide) (by decide)]; exact ht.1, fun j hj => by rw [h.1 30 0 (by decide) (by omega)]; exact ht.2 j hj⟩
theorem KM_at {σ0 : Mem} {c p : Nat} {Y : Nat × Int32} (h : KM σ0 σ c Y) (hp : p ≤ c) : KM σ0 (upS σ 29 0 27 (nI p)) c (p, Y.2) := by
  refine ⟨fun k i a b => by rw [upS_ne (by omega)]; exact h.1 k i a b, fun s a b => by rw [upS_eq, upd_ne a]; exact h.2.1 s a b, by rw [upS_eq, upd_eq], by rw [upS_eq, upd_ne (by omega)]; exact h.2.2.2.1, hp⟩
theorem KM_wr {σ0 : Mem} {c : Nat} {w : Int32} {Y : Nat × Int32} (h : KM σ0 σ c Y) : KM σ0 (upS σ 29 0 28 w) c (Y.1, w) := by
  refine ⟨fun k i a b => by rw [upS_ne (by omega)]; exact h.1 k i a b, fun s a b => by rw [upS_eq, upd_ne b]; exact h.2.1 s a b, by rw [upS_eq, upd_ne (by omega)]; exact h.2.2.1, by rw [upS_eq, upd_eq], h.2.2.2.2⟩
theorem sp_mskip {σ0 : Mem} {c : Nat} {T : Nat → Int32} {Y : Nat × Int32} (hl : LT c T) (ht : LY σ0 c T) (h : KM σ0 σ c Y) (hw : Y.2 = 0) :
    Rn mX8_skips 0 [.ref (ad 29 0)] [] fs (enc σ) Q ↔ Rt fs (enc (upS σ 29 0 27 (nI (sk c T Y.1)))) none Q := lp_mskip hl _ _ _ rfl h.2.2.2.2 (KM_LY h ht) h.2.2.1 (h.2.2.2.1.trans hw)
theorem sp_mnum {σ0 : Mem} {c : Nat} {lo hi : Int32} {T : Nat → Int32} {Y : Nat × Int32} (hl : LT c T) (ht : LY σ0 c T) (h : KM σ0 σ c Y) :
    ∃ τ, (∀ fs Q, Rn mX8_number 0 [.ref (ad 29 0), .int lo, .int hi, .null, .null] [] fs (enc σ) Q ↔ Rt fs (enc τ) (some (.int (rVal lo hi c T Y))) Q) ∧ KM σ0 τ c (rNum lo hi c T Y) ∧ ∀ k i, ¬ k = 29 → τ k i = σ k i := by
  have hp := h.2.2.2.2
  have hc := hl.1
  unfold rVal rNum
  by_cases hw : Y.2 = 0
  · rw [if_pos hw, if_pos hw]
    have h1 := KM_at h (sk_le (T := T) hp)
    have h2 := KM_at h1 (nu_le (T := T) (sk_le (T := T) hp)).2
    have hw' : upS σ 29 0 27 (nI (sk c T Y.1)) 29 0 28 = 0 := h1.2.2.2.1.trans hw
    have S := fun fs Q => sp_mskip (fs := fs) (Q := Q) hl ht h hw
    have K := fun fs Q => sp_look (σ := upS σ 29 0 27 (nI (sk c T Y.1))) (fs := fs) (Q := Q) (p := sk c T Y.1) hl (KM_LY h1 ht) (sk_le hp) (by rw [upS_eq, upd_eq])
    have L := fun fs Q => lp_mnum (fs := fs) (Q := Q) (a := sk c T Y.1) (l1 := .int lo) (l2 := .int hi) hl _ (sk c T Y.1) 0 (upS σ 29 0 27 (nI (sk c T Y.1))) rfl (sk_le hp) (KM_LY h1 ht) (by rw [upS_eq, upd_eq])
    rw [upS_idem] at L h2
    have eN : nuN c T (sk c T Y.1) (c - sk c T Y.1) (sk c T Y.1) 0 = nu c T (sk c T Y.1) := rfl
    rw [eN] at L
    have le := nu_le (T := T) (sk_le (T := T) hp)
    have ska := sk_le (T := T) hp
    generalize sk c T Y.1 = a at *
    have enf : nf lo hi c T a = if (nu c T a).1 = a then 1 else if 3 < nI (nu c T a).1 - nI a ∨ ((nu c T a).2 < lo ∨ hi < (nu c T a).2) then 2 else 0 := rfl
    have n10 : ¬ (1 : Int32) = 0 := by decide
    have n20 : ¬ (2 : Int32) = 0 := by decide
    have n21 : ¬ (2 : Int32) = 1 := by decide
    have n01 : ¬ (0 : Int32) = 1 := by decide
    by_cases q1 : (nu c T a).1 = a
    · have nd := nu_dg.mp q1
      rw [if_pos q1] at enf
      rw [enf, if_pos rfl, if_neg n10]
      refine ⟨_, fun fs Q => ?_, KM_wr (w := 1) h1, fun k i hk => by rw [upS_ne (by omega), upS_ne (by omega)]⟩
      simp only [aX8_number_0, Nat.zero_le, Nat.reduceLeDiff, Nat.reduceAdd, i1_0, rr_c3, zc9, oc9, zc10, oc10, zc11, oc11, zc12, oc12, zc13, oc13, zc15, oc15, Int32.lt_irrefl, Nat.zero_lt_one, Rt_cons, Rt_void, isB_0, isB_1, isB_b, true_and, and_true, cats_nil, cats_int, cats_ref, and_self, if_true, if_false, ite_self, le_nlt, ite_not]
      rw [aX8_number_1, S]
      simp only [aX8_number_4, aX8_number_5, aX8_number_8, aX8_number_11, aX8_number_12, aX8_number_13, aX8_number_14, aX8_number_17, aX8_number_19, aX8_number_21, aX8_number_24, aX8_number_27, aX8_number_28, aX8_number_29, aX8_number_32, aX8_number_33, K, sp_in, sp_fails, Nat.zero_le, Nat.reduceLeDiff, Nat.reduceAdd, i1_0, rr_c3, zc9, oc9, zc10, oc10, zc11, oc11, zc12, oc12, zc13, oc13, zc15, oc15, Int32.lt_irrefl, Nat.zero_lt_one, Rt_cons, Rt_void, isB_0, isB_1, isB_b, true_and, and_true, cats_nil, cats_int, cats_ref, and_self, if_true, if_false, ite_self, le_nlt, ite_not, hw', bI_f nd, not_true_eq_false]
    · have nd : dg (lk c T a) := Decidable.not_not.mp (fun z => q1 (nu_dg.mpr z))
      have e4 : upS σ 29 0 27 (nI (nu c T a).1) 29 0 27 = nI (nu c T a).1 := by rw [upS_eq, upd_eq]
      have e5 : upS σ 29 0 27 (nI a) 29 0 27 = nI a := by rw [upS_eq, upd_eq]
      have F : ∀ fs Q, (Rn mX8_number 0 [.ref (ad 29 0), .int lo, .int hi, .null, .null] [] fs (enc σ) Q ↔ Rn mX8_number 99 [.ref (ad 29 0), .int lo, .int hi, .int (nI a), .int (nu c T a).2] [] fs (enc (upS σ 29 0 27 (nI (nu c T a).1))) Q) := fun fs Q => by
        rw [← L]
        simp only [aX8_number_0, Nat.zero_le, Nat.reduceLeDiff, Nat.reduceAdd, i1_0, rr_c3, zc9, oc9, zc10, oc10, zc11, oc11, zc12, oc12, zc13, oc13, zc15, oc15, Int32.lt_irrefl, Nat.zero_lt_one, Rt_cons, Rt_void, isB_0, isB_1, isB_b, true_and, and_true, cats_nil, cats_int, cats_ref, and_self, if_true, if_false, ite_self, le_nlt, ite_not]
        rw [aX8_number_1, S]
        simp only [aX8_number_4, aX8_number_5, aX8_number_8, aX8_number_11, aX8_number_12, aX8_number_13, aX8_number_14, aX8_number_17, aX8_number_19, aX8_number_21, aX8_number_24, aX8_number_27, aX8_number_28, aX8_number_29, aX8_number_32, aX8_number_33, aX8_number_34, aX8_number_35, aX8_number_38, aX8_number_39, aX8_number_40, K, sp_in, Nat.zero_le, Nat.reduceLeDiff, Nat.reduceAdd, i1_0, rr_c3, zc9, oc9, zc10, oc10, zc11, oc11, zc12, oc12, zc13, oc13, zc15, oc15, Int32.lt_irrefl, Nat.zero_lt_one, Rt_cons, Rt_void, isB_0, isB_1, isB_b, true_and, and_true, cats_nil, cats_int, cats_ref, and_self, if_true, if_false, ite_self, le_nlt, ite_not, hw', bI_t nd, not_false_eq_true, e5]
      generalize nu c T a = ev at *
      rw [if_neg q1] at enf
      by_cases q2 : 3 < nI ev.1 - nI a ∨ (ev.2 < lo ∨ hi < ev.2)
      · rw [if_pos q2] at enf
        rw [enf, if_neg n21, if_neg n20]
        refine ⟨_, fun fs Q => ?_, KM_wr (w := 2) h1, fun k i hk => by rw [upS_ne (by omega), upS_ne (by omega)]⟩
        rw [F]
        by_cases q3 : 3 < nI ev.1 - nI a
        · simp only [aX8_number_99, aX8_number_100, aX8_number_103, aX8_number_104, aX8_number_105, aX8_number_106, aX8_number_109, aX8_number_111, aX8_number_112, aX8_number_113, aX8_number_116, aX8_number_119, aX8_number_120, aX8_number_121, aX8_number_124, aX8_number_125, aX8_number_126, aX8_number_129, aX8_number_131, sp_in, sp_fails, Nat.zero_le, Nat.reduceLeDiff, Nat.reduceAdd, i1_0, rr_c3, zc9, oc9, zc10, oc10, zc11, oc11, zc12, oc12, zc13, oc13, zc15, oc15, Int32.lt_irrefl, Nat.zero_lt_one, Rt_cons, Rt_void, isB_0, isB_1, isB_b, true_and, and_true, cats_nil, cats_int, cats_ref, and_self, if_true, if_false, ite_self, le_nlt, ite_not, e4, q3, upS_idem, hw']
        · have q4 := q2.resolve_left q3
          simp only [aX8_number_99, aX8_number_100, aX8_number_103, aX8_number_104, aX8_number_105, aX8_number_106, aX8_number_109, aX8_number_111, aX8_number_112, aX8_number_113, aX8_number_116, aX8_number_119, aX8_number_120, aX8_number_121, aX8_number_124, aX8_number_125, aX8_number_126, aX8_number_129, aX8_number_131, sp_in, sp_fails, Nat.zero_le, Nat.reduceLeDiff, Nat.reduceAdd, i1_0, rr_c3, zc9, oc9, zc10, oc10, zc11, oc11, zc12, oc12, zc13, oc13, zc15, oc15, Int32.lt_irrefl, Nat.zero_lt_one, Rt_cons, Rt_void, isB_0, isB_1, isB_b, true_and, and_true, cats_nil, cats_int, cats_ref, and_self, if_true, if_false, ite_self, le_nlt, ite_not, e4, q3, upS_idem, hw', bI_f (show ¬ (¬ ev.2 < lo ∧ ¬ hi < ev.2) from fun z => q4.elim z.1 z.2), not_true_eq_false]
      · rw [if_neg q2] at enf
        rw [enf, if_neg n01, if_pos rfl]
        have q3 := not_or.mp q2
        refine ⟨_, fun fs Q => ?_, by rw [← hw]; exact h2, fun k i hk => by rw [upS_ne (by omega)]⟩
        rw [F]
        simp only [aX8_number_99, aX8_number_100, aX8_number_103, aX8_number_104, aX8_number_105, aX8_number_106, aX8_number_109, aX8_number_111, aX8_number_112, aX8_number_113, aX8_number_116, aX8_number_119, aX8_number_120, aX8_number_121, aX8_number_124, aX8_number_125, aX8_number_126, aX8_number_129, aX8_number_131, sp_in, sp_fails, Nat.zero_le, Nat.reduceLeDiff, Nat.reduceAdd, i1_0, rr_c3, zc9, oc9, zc10, oc10, zc11, oc11, zc12, oc12, zc13, oc13, zc15, oc15, Int32.lt_irrefl, Nat.zero_lt_one, Rt_cons, Rt_void, isB_0, isB_1, isB_b, true_and, and_true, cats_nil, cats_int, cats_ref, and_self, if_true, if_false, ite_self, le_nlt, ite_not, e4, q3.1, bI_t (not_or.mp q3.2), not_false_eq_true]
  · rw [if_neg hw, if_neg hw]
    have hw' : ¬ σ 29 0 28 = 0 := by rw [h.2.2.2.1]; exact hw
    refine ⟨σ, fun fs Q => ?_, h, fun _ _ _ => rfl⟩
    simp only [aX8_number_0, Nat.zero_le, Nat.reduceLeDiff, Nat.reduceAdd, i1_0, rr_c3, zc9, oc9, zc10, oc10, zc11, oc11, zc12, oc12, zc13, oc13, zc15, oc15, Int32.lt_irrefl, Nat.zero_lt_one, Rt_cons, Rt_void, isB_0, isB_1, isB_b, true_and, and_true, cats_nil, cats_int, cats_ref, and_self, if_true, if_false, ite_self, le_nlt, ite_not]
    rw [aX8_number_1, sp_mskip0 hw']
    simp only [aX8_number_4, aX8_number_5, aX8_number_8, aX8_number_11, aX8_number_12, Nat.zero_le, Nat.reduceLeDiff, Nat.reduceAdd, i1_0, rr_c3, zc9, oc9, zc10, oc10, zc11, oc11, zc12, oc12, zc13, oc13, zc15, oc15, Int32.lt_irrefl, Nat.zero_lt_one, Rt_cons, Rt_void, isB_0, isB_1, isB_b, true_and, and_true, cats_nil, cats_int, cats_ref, and_self, if_true, if_false, ite_self, le_nlt, ite_not, hw']
theorem sp_mend {σ0 : Mem} {c : Nat} {T : Nat → Int32} {Y : Nat × Int32} (hl : LT c T) (ht : LY σ0 c T) (h : KM σ0 σ c Y) :
    ∃ τ, (∀ fs Q, Rn mX8_word 0 [.ref (ad 29 0), .int 59] [] fs (enc σ) Q ↔ Rt fs (enc τ) none Q) ∧ KM σ0 τ c (rEnd c T Y) ∧ ∀ k i, ¬ k = 29 → τ k i = σ k i := by
  have hp := h.2.2.2.2
  unfold rEnd
  by_cases hw : Y.2 = 0
  · rw [if_pos hw]
    have h1 := KM_at h (sk_le (T := T) hp)
    have hw' : upS σ 29 0 27 (nI (sk c T Y.1)) 29 0 28 = 0 := h1.2.2.2.1.trans hw
    have S := fun fs Q => sp_mskip (fs := fs) (Q := Q) hl ht h hw
    have K := fun fs Q => sp_look (σ := upS σ 29 0 27 (nI (sk c T Y.1))) (fs := fs) (Q := Q) (p := sk c T Y.1) hl (KM_LY h1 ht) (sk_le hp) (by rw [upS_eq, upd_eq])
    by_cases z : lk c T (sk c T Y.1) = 59
    · rw [if_pos z]
      have hlt := lk_in z (by decide)
      refine ⟨upS σ 29 0 27 (nI (sk c T Y.1 + 1)), fun fs Q => ?_, by rw [← hw]; exact KM_at h (by omega), fun k i hk => upS_ne (by omega)⟩
      simp only [aX8_word_0, Nat.zero_le, Nat.reduceLeDiff, Nat.reduceAdd, i1_0, rr_c3, zc9, oc9, zc10, oc10, zc11, oc11, zc12, oc12, zc13, oc13, zc15, oc15, Int32.lt_irrefl, Nat.zero_lt_one, Rt_cons, Rt_void, isB_0, isB_1, isB_b, true_and, and_true, cats_nil, cats_int, cats_ref, and_self, if_true, if_false, ite_self, le_nlt, ite_not]
      rw [aX8_word_1, S]
      simp only [aX8_word_4, aX8_word_5, aX8_word_8, aX8_word_11, aX8_word_12, aX8_word_15, aX8_word_16, aX8_word_19, aX8_word_20i, aX8_word_20a, aX8_word_21, aX8_word_24, aX8_word_25, aX8_word_26, aX8_word_29, aX8_word_32, aX8_word_33, aX8_word_34, aX8_word_37, K, Nat.zero_le, Nat.reduceLeDiff, Nat.reduceAdd, i1_0, rr_c3, zc9, oc9, zc10, oc10, zc11, oc11, zc12, oc12, zc13, oc13, zc15, oc15, Int32.lt_irrefl, Nat.zero_lt_one, Rt_cons, Rt_void, isB_0, isB_1, isB_b, true_and, and_true, cats_nil, cats_int, cats_ref, and_self, if_true, if_false, ite_self, le_nlt, ite_not, hw', z, not_true_eq_false, upS_eq, upd_eq, upS_idem, nI_1]
    · rw [if_neg z]
      refine ⟨_, fun fs Q => ?_, KM_wr (w := 1) h1, fun k i hk => by rw [upS_ne (by omega), upS_ne (by omega)]⟩
      simp only [aX8_word_0, Nat.zero_le, Nat.reduceLeDiff, Nat.reduceAdd, i1_0, rr_c3, zc9, oc9, zc10, oc10, zc11, oc11, zc12, oc12, zc13, oc13, zc15, oc15, Int32.lt_irrefl, Nat.zero_lt_one, Rt_cons, Rt_void, isB_0, isB_1, isB_b, true_and, and_true, cats_nil, cats_int, cats_ref, and_self, if_true, if_false, ite_self, le_nlt, ite_not]
      rw [aX8_word_1, S]
      simp only [aX8_word_4, aX8_word_5, aX8_word_8, aX8_word_11, aX8_word_12, aX8_word_15, aX8_word_16, aX8_word_19, aX8_word_20i, aX8_word_20a, aX8_word_21, aX8_word_24, aX8_word_25, aX8_word_26, aX8_word_29, aX8_word_32, aX8_word_33, aX8_word_34, aX8_word_37, K, sp_fails, Nat.zero_le, Nat.reduceLeDiff, Nat.reduceAdd, i1_0, rr_c3, zc9, oc9, zc10, oc10, zc11, oc11, zc12, oc12, zc13, oc13, zc15, oc15, Int32.lt_irrefl, Nat.zero_lt_one, Rt_cons, Rt_void, isB_0, isB_1, isB_b, true_and, and_true, cats_nil, cats_int, cats_ref, and_self, if_true, if_false, ite_self, le_nlt, ite_not, hw', z, not_true_eq_false, not_false_eq_true]
  · rw [if_neg hw]
    have hw' : ¬ σ 29 0 28 = 0 := by rw [h.2.2.2.1]; exact hw
    refine ⟨σ, fun fs Q => ?_, h, fun _ _ _ => rfl⟩
    simp only [aX8_word_0, Nat.zero_le, Nat.reduceLeDiff, Nat.reduceAdd, i1_0, rr_c3, zc9, oc9, zc10, oc10, zc11, oc11, zc12, oc12, zc13, oc13, zc15, oc15, Int32.lt_irrefl, Nat.zero_lt_one, Rt_cons, Rt_void, isB_0, isB_1, isB_b, true_and, and_true, cats_nil, cats_int, cats_ref, and_self, if_true, if_false, ite_self, le_nlt, ite_not]
    rw [aX8_word_1, sp_mskip0 hw']
    simp only [aX8_word_4, aX8_word_5, aX8_word_8, aX8_word_37, Nat.zero_le, Nat.reduceLeDiff, Nat.reduceAdd, i1_0, rr_c3, zc9, oc9, zc10, oc10, zc11, oc11, zc12, oc12, zc13, oc13, zc15, oc15, Int32.lt_irrefl, Nat.zero_lt_one, Rt_cons, Rt_void, isB_0, isB_1, isB_b, true_and, and_true, cats_nil, cats_int, cats_ref, and_self, if_true, if_false, ite_self, le_nlt, ite_not, hw', not_false_eq_true]
end S83
