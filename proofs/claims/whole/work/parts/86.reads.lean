-- clauses, and the whole text
abbrev F1 : Type := Nat → Int32
def DC (σ : Mem) (q C N G : Nat) (ct ow fd kd pt : F1) : Prop := (σ 3 q 0 = nI C ∧ σ 3 q 1 = nI N ∧ σ 3 q 2 = nI G) ∧ (∀ j, j < C → σ 4 q j = ct j) ∧ (∀ h, h < N → σ 5 q h = ow h ∧ σ 6 q h = fd h) ∧ (∀ g, g < G → σ 7 q g = kd g ∧ σ 8 q g = pt g)
def DM (σ : Mem) (C N G : Nat) (ct ow fd kd pt : F1) : Prop := (σ 37 0 0 = nI C ∧ σ 37 0 1 = nI N ∧ σ 37 0 2 = nI G) ∧ (∀ j, j < C → σ 38 0 j = ct j) ∧ (∀ h, h < N → σ 39 0 h = ow h ∧ σ 40 0 h = fd h) ∧ (∀ h, N ≤ h → h < 7 → σ 40 0 h = 0) ∧ (∀ g, g < G → σ 41 0 g = kd g ∧ σ 42 0 g = pt g)
def VD (C N G : Nat) (ct ow fd kd pt : F1) : Prop := C ≤ 12 ∧ N ≤ 7 ∧ G ≤ N ∧ (C = 0 → N = 0) ∧ (∀ j, j < C → ∃ d : Nat, d ≤ 99 ∧ ct j = nI d) ∧ (∀ h, h < N → (∃ d : Nat, 1 ≤ d ∧ d ≤ 9 ∧ ow h = nI d) ∧ ∃ d : Nat, d ≤ 99 ∧ fd h = nI d) ∧ (∀ g, g < G → (∃ d : Nat, d ≤ 3 ∧ kd g = nI d) ∧ ∃ d : Nat, 1 ≤ d ∧ d ≤ 99 ∧ pt g = nI d)
/-- a clause, in both -/
def ClP (c : Nat) (T : F1) (fp : Int32) (p C N G : Nat) (ct ow fd kd pt : F1) : Prop :=
    ∃ (X : Int32 × Int32 × Nat) (Y : Nat × Int32) (C' N' G' : Nat) (ct' ow' fd' kd' pt' : F1), Mt X Y ∧ (X.1 = 0 → X.2.1 = fp ∧ p < X.2.2 ∧ VD C' N' G' ct' ow' fd' kd' pt') ∧
      (∀ (σ0 σ : Mem) (q : Nat), q < 2 → (∀ j, j < c → σ0 2 0 j = T j) → KC σ0 σ q c (0, fp, p) → DC σ q C N G ct ow fd kd pt →
        ∃ τ, (∀ fs Q, Rn mX6_readClause 0 [.ref (ad 1 0), .null, .null] [] fs (enc σ) Q ↔ Rt fs (enc τ) none Q) ∧ KC σ0 τ q c X ∧ (X.1 = 0 → DC τ q C' N' G' ct' ow' fd' kd' pt')) ∧
      (∀ (σ0 σ : Mem), LY σ0 c T → KM σ0 σ c (p, 0) → DM σ C N G ct ow fd kd pt →
        ∃ τ, (∀ fs Q, Rn mX8_reads 15 [.ref (ad 29 0)] [] fs (enc σ) Q ↔ Rn mX8_reads 85 [.ref (ad 29 0)] [] fs (enc τ) Q) ∧ KM σ0 τ c Y ∧ (X.1 = 0 → DM τ C' N' G' ct' ow' fd' kd' pt'))
section S86
variable {σ : Mem} {fs : List Fm} {M : List va_E} {Q : List va_E → Option Value → Prop}
theorem cl_fault {c p C N G : Nat} {T : F1} {fp n : Int32} {ct ow fd kd pt : F1} (hn : n = 1 ∨ n = 2 ∨ n = 3)
    (h1 : ∀ (σ0 σ : Mem) (q : Nat), q < 2 → (∀ j, j < c → σ0 2 0 j = T j) → KC σ0 σ q c (0, fp, p) → DC σ q C N G ct ow fd kd pt → ∀ fs Q, Rn mX6_readClause 0 [.ref (ad 1 0), .null, .null] [] fs (enc σ) Q ↔ Rt fs (enc (if σ 1 0 3 = 0 then upS (upS σ 1 0 3 n) 1 0 2 (nI p) else σ)) none Q)
    (h2 : ∀ (σ0 σ : Mem), LY σ0 c T → KM σ0 σ c (p, 0) → DM σ C N G ct ow fd kd pt → ∀ fs Q, Rn mX8_reads 15 [.ref (ad 29 0)] [] fs (enc σ) Q ↔ Rn mX8_reads 85 [.ref (ad 29 0)] [] fs (enc (upS σ 29 0 28 n)) Q) : ClP c T fp p C N G ct ow fd kd pt := by
  have n0 := f123 hn
  refine ⟨(n, nI p, p), (p, n), C, N, G, ct, ow, fd, kd, pt, Or.inr ⟨hn, rfl, rfl⟩, fun z => absurd z n0, ?_, ?_⟩
  · intro σ0 σ q hq ht h hd
    refine ⟨_, h1 σ0 σ q hq ht h hd, ?_, fun z => absurd z n0⟩
    have := KC_fail (n := n) (x := nI p) h
    have e : (if (0 : Int32) = 0 then n else 0, if (0 : Int32) = 0 then nI p else fp, p) = (n, nI p, p) := by rw [if_pos rfl, if_pos rfl]
    have e' : (if ((0 : Int32), fp, p).1 = 0 then n else ((0 : Int32), fp, p).1, if ((0 : Int32), fp, p).1 = 0 then nI p else ((0 : Int32), fp, p).2.1, ((0 : Int32), fp, p).2.2) = (n, nI p, p) := e
    rw [e'] at this
    exact this
  · intro σ0 σ ht h hd
    exact ⟨_, h2 σ0 σ ht h hd, KM_wr h, fun z => absurd z n0⟩
theorem k113 : ¬ (104 : Int32) = 113 ∧ ¬ (103 : Int32) = 113 ∧ ¬ (103 : Int32) = 104 ∧ ¬ (104 : Int32) = 103 := by decide
/-- the head of a clause, in the class -/
theorem sp_chead {σ0 : Mem} {q c p C : Nat} {fp : Int32} {T : F1} (hl : LT c T) (hq : q < 2) (hC : C ≤ 12) (ht : ∀ j, j < c → σ0 2 0 j = T j) (h : KC σ0 σ q c (0, fp, p)) (e : σ 3 q 0 = nI C) :
    Rn mX6_readClause 0 [.ref (ad 1 0), .null, .null] [] fs (enc σ) Q ↔ Rn mX6_readClause 21 [.ref (ad 1 0), .int (lk c T p), .int (if 0 < C then 0 else 1)] [] fs (enc σ) Q := by
  have H := fun fs Q => sp_letterHere (fs := fs) (Q := Q) hl (KC_LX h ht) h.2.2.2.2.2.2 h.2.2.2.2.1
  have H' : ∀ fs Q, Rn mX6_letterHere 0 [.ref (ad 1 0)] [] fs (enc σ) Q ↔ Rt fs (enc σ) (some (.int (lk c T p))) Q := H
  have K := fun fs Q => sp_cTold (σ := σ) (fs := fs) (Q := Q) hC hq e
  have r : rr (σ 1 0 5) = q := h.2.2.2.2.2.1
  have k3 : q < cnt 3 := hq
  by_cases z : 0 < C
  · rw [if_pos z]
    simp only [aX6_readClause_0, aX6_readClause_1, aX6_readClause_4, aX6_readClause_5, aX6_readClause_6, aX6_readClause_9, aX6_readClause_12, aX6_readClause_15, aX6_readClause_16, aX6_readClause_19, aX6_readClause_20, H', K, Nat.zero_le, Nat.reduceLeDiff, Nat.reduceAdd, i1_0, rr_c3, zc9, oc9, zc10, oc10, zc11, oc11, zc12, oc12, zc13, oc13, zc15, oc15, Int32.lt_irrefl, Nat.zero_lt_one, Rt_cons, Rt_void, isB_0, isB_1, isB_b, true_and, and_true, cats_nil, cats_int, cats_ref, and_self, if_true, if_false, ite_self, le_nlt, ite_not, r, k3, bI_t z]
  · rw [if_neg z]
    simp only [aX6_readClause_0, aX6_readClause_1, aX6_readClause_4, aX6_readClause_5, aX6_readClause_6, aX6_readClause_9, aX6_readClause_12, aX6_readClause_15, aX6_readClause_16, aX6_readClause_19, aX6_readClause_20, H', K, Nat.zero_le, Nat.reduceLeDiff, Nat.reduceAdd, i1_0, rr_c3, zc9, oc9, zc10, oc10, zc11, oc11, zc12, oc12, zc13, oc13, zc15, oc15, Int32.lt_irrefl, Nat.zero_lt_one, Rt_cons, Rt_void, isB_0, isB_1, isB_b, true_and, and_true, cats_nil, cats_int, cats_ref, and_self, if_true, if_false, ite_self, le_nlt, ite_not, r, k3, bI_f z]
theorem sp_mlook {σ0 : Mem} {c p : Nat} {w : Int32} {T : F1} (hl : LT c T) (ht : LY σ0 c T) (h : KM σ0 σ c (p, w)) : Rn mX8_look 0 [.ref (ad 29 0)] [] fs (enc σ) Q ↔ Rt fs (enc σ) (some (.int (lk c T p))) Q := sp_look hl (KM_LY h ht) h.2.2.2.2 h.2.2.1
theorem cl_q {c p C N G : Nat} {T : F1} {fp : Int32} {ct ow fd kd pt : F1} (hl : LT c T) (hp : p < c) (hv : VD C N G ct ow fd kd pt) (hx : lk c T p = 113) : ClP c T fp p C N G ct ow fd kd pt := by
  have n10 : ¬ (1 : Int32) = 0 := by decide
  by_cases hC : 0 < C
  · refine cl_fault (n := 3) (Or.inr (Or.inr rfl)) (fun σ0 σ q hq ht h hd fs Q => ?_) (fun σ0 σ ht h hd fs Q => ?_)
    · have e4 : σ 1 0 4 = nI p := h.2.2.2.2.1
      rw [sp_chead hl hq hv.1 ht h hd.1.1, if_pos hC, hx]
      simp only [aX6_readClause_21, aX6_readClause_22, aX6_readClause_24, aX6_readClause_27, aX6_readClause_28, aX6_readClause_29, aX6_readClause_32, aX6_readClause_78, aX6_readCatches_0, aX6_readCatches_1, aX6_readCatches_4, aX6_readCatches_5, aX6_readCatches_6, aX6_readCatches_7, aX6_readCatches_10, aX6_readCatches_13, sp_fail, Nat.zero_le, Nat.reduceLeDiff, Nat.reduceAdd, i1_0, rr_c3, zc9, oc9, zc10, oc10, zc11, oc11, zc12, oc12, zc13, oc13, zc15, oc15, Int32.lt_irrefl, Nat.zero_lt_one, Rt_cons, Rt_void, isB_0, isB_1, isB_b, true_and, and_true, cats_nil, cats_int, cats_ref, and_self, if_true, if_false, ite_self, le_nlt, ite_not, not_true_eq_false, e4]
    · have L := fun fs Q => sp_mlook (fs := fs) (Q := Q) hl ht h
      have e37 := hd.1.1
      have l0 : (0 : Int32) < nI C := nI_lt (a := 0) hC (by have := hv.1; omega)
      have hw : σ 29 0 28 = 0 := h.2.2.2.1
      simp only [aX8_reads_15, aX8_reads_16, aX8_reads_19, aX8_reads_21, aX8_reads_24, aX8_reads_25, aX8_reads_28, aX8_readsCatches_0, aX8_readsCatches_1, aX8_readsCatches_4, aX8_readsCatches_5, aX8_readsCatches_6, aX8_readsCatches_9, aX8_readsCatches_10, aX8_readsCatches_11, aX8_readsCatches_14, L, sp_fails, Nat.zero_le, Nat.reduceLeDiff, Nat.reduceAdd, i1_0, rr_c3, zc9, oc9, zc10, oc10, zc11, oc11, zc12, oc12, zc13, oc13, zc15, oc15, Int32.lt_irrefl, Nat.zero_lt_one, Rt_cons, Rt_void, isB_0, isB_1, isB_b, true_and, and_true, cats_nil, cats_int, cats_ref, and_self, if_true, if_false, ite_self, le_nlt, ite_not, hx, not_true_eq_false, aT_37, aN_37, cnt_37, v3.1, c0, e37, l0, hw]
  · obtain rfl : C = 0 := by omega
    obtain ⟨X, Y, C', ct', m1, m2, m3, m4⟩ := catch_lp (fp := fp) hl 11 0 (p + 1) ct (by omega) (by omega) (fun j hj => absurd hj (Nat.not_lt_zero _))
    have hN : N = 0 := hv.2.2.2.1 rfl
    subst hN
    have hG : G = 0 := by have := hv.2.2.1; omega
    subst hG
    refine ⟨X, Y, C', 0, 0, ct', ow, fd, kd, pt, m1, fun z => ⟨(m2 z).1, by have := (m2 z).2.1; omega, (m2 z).2.2.2.1, by omega, by omega, fun _ => rfl, (m2 z).2.2.2.2, fun h hh => absurd hh (Nat.not_lt_zero _), fun h hh => absurd hh (Nat.not_lt_zero _)⟩, ?_, ?_⟩
    · intro σ0 σ q hq ht h hd
      have h1 : KC σ0 (upS σ 1 0 4 (nI (p + 1))) q c (0, fp, p + 1) := KC_at h (by omega)
      obtain ⟨τ, a1, a2, a3, a4, a5⟩ := m3 σ0 _ q .null hq ht h1 (fun j hj => absurd hj (Nat.not_lt_zero _))
      refine ⟨τ, fun fs Q => ?_, a2, fun z => ⟨⟨(a5 z).1, by rw [a4 1 (by decide), upS_ne (by omega)]; exact hd.1.2.1, by rw [a4 2 (by decide), upS_ne (by omega)]; exact hd.1.2.2⟩, (a5 z).2, fun h hh => absurd hh (Nat.not_lt_zero _), fun h hh => absurd hh (Nat.not_lt_zero _)⟩⟩
      have e4 : σ 1 0 4 = nI p := h.2.2.2.2.1
      rw [nI_0] at a1
      rw [sp_chead hl hq hv.1 ht h hd.1.1, if_neg hC, hx]
      simp only [aX6_readClause_21, aX6_readClause_22, aX6_readClause_24, aX6_readClause_27, aX6_readClause_28, Nat.zero_le, Nat.reduceLeDiff, Nat.reduceAdd, i1_0, rr_c3, zc9, oc9, zc10, oc10, zc11, oc11, zc12, oc12, zc13, oc13, zc15, oc15, Int32.lt_irrefl, Nat.zero_lt_one, Rt_cons, Rt_void, isB_0, isB_1, isB_b, true_and, and_true, cats_nil, cats_int, cats_ref, and_self, if_true, if_false, ite_self, le_nlt, ite_not, not_true_eq_false]
      rw [aX6_readClause_29]
      simp only [cats_int, cats_nil, cats_ref, Nat.reduceLeDiff, true_and, Nat.reduceAdd, Nat.zero_le]
      simp only [aX6_readCatches_0, aX6_readCatches_1, aX6_readCatches_4, aX6_readCatches_5, aX6_readCatches_6, aX6_readCatches_7, aX6_readCatches_10, aX6_readCatches_13, aX6_readCatches_14, aX6_readCatches_15i, aX6_readCatches_15a, aX6_readCatches_16, aX6_readCatches_19, aX6_readCatches_20, aX6_readCatches_21, aX6_readCatches_24, aX6_readCatches_25, aX6_readCatches_26, aX6_readCatches_27, Nat.zero_le, Nat.reduceLeDiff, Nat.reduceAdd, i1_0, rr_c3, zc9, oc9, zc10, oc10, zc11, oc11, zc12, oc12, zc13, oc13, zc15, oc15, Int32.lt_irrefl, Nat.zero_lt_one, Rt_cons, Rt_void, isB_0, isB_1, isB_b, true_and, and_true, cats_nil, cats_int, cats_ref, and_self, if_true, if_false, ite_self, le_nlt, ite_not, n10, not_false_eq_true, e4, nI_1]
      rw [a1]
      simp only [aX6_readClause_32, aX6_readClause_78, Nat.zero_le, Nat.reduceLeDiff, Nat.reduceAdd, i1_0, rr_c3, zc9, oc9, zc10, oc10, zc11, oc11, zc12, oc12, zc13, oc13, zc15, oc15, Int32.lt_irrefl, Nat.zero_lt_one, Rt_cons, Rt_void, isB_0, isB_1, isB_b, true_and, and_true, cats_nil, cats_int, cats_ref, and_self, if_true, if_false, ite_self, le_nlt, ite_not]
    · intro σ0 σ ht h hd
      have L := fun fs Q => sp_mlook (fs := fs) (Q := Q) hl ht h
      have e27 : σ 29 0 27 = nI p := h.2.2.1
      have h1 : KM σ0 (upS σ 29 0 27 (nI (p + 1))) c (p + 1, 0) := KM_at h (by omega)
      obtain ⟨τ1, a1, a2, a3⟩ := sp_mnum (lo := 0) (hi := 99) hl ht h1
      have h2 : KM σ0 (upS τ1 38 0 0 (rVal 0 99 c T (p + 1, 0))) c (rNum 0 99 c T (p + 1, 0)) := KM_row a2 (by omega)
      have h3 : KM σ0 (upS (upS τ1 38 0 0 (rVal 0 99 c T (p + 1, 0))) 37 0 0 1) c (rNum 0 99 c T (p + 1, 0)) := KM_row h2 (by omega)
      obtain ⟨τ2, b1, b2, b3⟩ := sp_mskR hl ht h3
      obtain ⟨τ3, f1, f2, f3, f4, f5⟩ := m4 σ0 τ2 ht b2 (by rw [b3 37 0 (by decide), upS_eq, upd_eq]; rfl) (fun j hj => absurd hj (Nat.not_lt_zero _)) (by rw [b3 38 0 (by decide), upS_ne (by omega), upS_eq, upd_eq])
      have fr : ∀ k j, ¬ k = 29 → ¬ k = 37 → ¬ k = 38 → τ3 k j = σ k j := fun k j d1 d2 d3 => by rw [f3 k j d1 d2 d3, b3 k j d1, upS_ne (by omega), upS_ne (by omega), a3 k j d1, upS_ne (by omega)]
      have fs37 : ∀ s, ¬ s = 0 → τ3 37 0 s = σ 37 0 s := fun s hs => by rw [f4 s hs, b3 37 0 (by decide), upS_eq, upd_ne hs, upS_ne (by omega), a3 37 0 (by decide), upS_ne (by omega)]
      refine ⟨τ3, fun fs Q => ?_, f2, fun z => ⟨⟨(f5 z).1, by rw [fs37 1 (by decide)]; exact hd.1.2.1, by rw [fs37 2 (by decide)]; exact hd.1.2.2⟩, (f5 z).2, fun h hh => absurd hh (Nat.not_lt_zero _), fun h hh hh7 => by rw [fr 40 0 (by decide) (by decide) (by decide)]; exact hd.2.2.2.1 h hh hh7, fun h hh => absurd hh (Nat.not_lt_zero _)⟩⟩
      have e37 : σ 37 0 0 = 0 := hd.1.1
      simp only [aX8_reads_15, aX8_reads_16, aX8_reads_19, aX8_reads_21, aX8_reads_24, aX8_reads_25, aX8_readsCatches_0, aX8_readsCatches_1, aX8_readsCatches_4, aX8_readsCatches_5, aX8_readsCatches_6, aX8_readsCatches_9, aX8_readsCatches_10, aX8_readsCatches_11, aX8_readsCatches_14, aX8_readsCatches_15, aX8_readsCatches_16i, aX8_readsCatches_16a, aX8_readsCatches_17, aX8_readsCatches_20, aX8_readsCatches_21, aX8_readsCatches_22, aX8_readsCatches_25, aX8_readsCatches_26, aX8_readsCatches_29, aX8_readsCatches_30, aX8_readsCatches_31, aX8_readsCatches_32, L, Nat.zero_le, Nat.reduceLeDiff, Nat.reduceAdd, i1_0, rr_c3, zc9, oc9, zc10, oc10, zc11, oc11, zc12, oc12, zc13, oc13, zc15, oc15, Int32.lt_irrefl, Nat.zero_lt_one, Rt_cons, Rt_void, isB_0, isB_1, isB_b, true_and, and_true, cats_nil, cats_int, cats_ref, and_self, if_true, if_false, ite_self, le_nlt, ite_not, hx, not_true_eq_false, aT_37, aN_37, cnt_37, v3.1, c0, e37, e27, nI_1]
      have v12 : vp_in 0 12 := in12 (a := 0) (by omega)
      rw [aX8_readsCatches_34]
      simp only [cats_int, cats_nil, cats_ref, Nat.reduceLeDiff, true_and, Nat.reduceAdd, Nat.zero_le]
      rw [a1]
      simp only [aX8_readsCatches_37, aX8_readsCatches_38, aX8_readsCatches_39, aX8_readsCatches_42, aX8_readsCatches_43, aX8_readsCatches_44, aX8_readsCatches_45, Nat.zero_le, Nat.reduceLeDiff, Nat.reduceAdd, i1_0, rr_c3, zc9, oc9, zc10, oc10, zc11, oc11, zc12, oc12, zc13, oc13, zc15, oc15, Int32.lt_irrefl, Nat.zero_lt_one, Rt_cons, Rt_void, isB_0, isB_1, isB_b, true_and, and_true, cats_nil, cats_int, cats_ref, and_self, if_true, if_false, ite_self, le_nlt, ite_not, aT_38, aN_38, cnt_38, v12, c0, aT_37, aN_37, cnt_37, v3.1]
      rw [aX8_readsCatches_46, b1]
      simp only [Nat.zero_le, Nat.reduceLeDiff, Nat.reduceAdd, i1_0, rr_c3, zc9, oc9, zc10, oc10, zc11, oc11, zc12, oc12, zc13, oc13, zc15, oc15, Int32.lt_irrefl, Nat.zero_lt_one, Rt_cons, Rt_void, isB_0, isB_1, isB_b, true_and, and_true, cats_nil, cats_int, cats_ref, and_self, if_true, if_false, ite_self, le_nlt, ite_not]
      rw [f1]
      simp only [aX8_reads_28, Nat.zero_le, Nat.reduceLeDiff, Nat.reduceAdd, i1_0, rr_c3, zc9, oc9, zc10, oc10, zc11, oc11, zc12, oc12, zc13, oc13, zc15, oc15, Int32.lt_irrefl, Nat.zero_lt_one, Rt_cons, Rt_void, isB_0, isB_1, isB_b, true_and, and_true, cats_nil, cats_int, cats_ref, and_self, if_true, if_false, ite_self, le_nlt, ite_not]
theorem cl_1 {c p C N G : Nat} {T : F1} {fp : Int32} {ct ow fd kd pt : F1} (hl : LT c T) (hp : p < c) (hv : VD C N G ct ow fd kd pt) (hx : ¬ lk c T p = 113) (hy : C = 0 ∨ (¬ lk c T p = 104 ∧ ¬ lk c T p = 103)) : ClP c T fp p C N G ct ow fd kd pt := by
  have n10 : ¬ (1 : Int32) = 0 := by decide
  refine cl_fault (n := 1) (Or.inl rfl) (fun σ0 σ q hq ht h hd fs Q => ?_) (fun σ0 σ ht h hd fs Q => ?_)
  · have e4 : σ 1 0 4 = nI p := h.2.2.2.2.1
    rw [sp_chead hl hq hv.1 ht h hd.1.1]
    generalize lk c T p = x at hx hy ⊢
    by_cases z1 : x = 104
    · have hC : ¬ 0 < C := hy.elim (fun z => by omega) (fun z => absurd z1 z.1)
      rw [if_neg hC]
      subst z1
      simp only [aX6_readClause_21, aX6_readClause_22, aX6_readClause_24, aX6_readClause_35, aX6_readClause_36, aX6_readClause_38, aX6_readClause_41, aX6_readClause_42, aX6_readClause_52, aX6_readClause_53, aX6_readClause_55, aX6_readClause_69, aX6_readClause_70, aX6_readClause_71, aX6_readClause_72, aX6_readClause_75, aX6_readClause_78, sp_fail, Nat.zero_le, Nat.reduceLeDiff, Nat.reduceAdd, i1_0, rr_c3, zc9, oc9, zc10, oc10, zc11, oc11, zc12, oc12, zc13, oc13, zc15, oc15, Int32.lt_irrefl, Nat.zero_lt_one, Rt_cons, Rt_void, isB_0, isB_1, isB_b, true_and, and_true, cats_nil, cats_int, cats_ref, and_self, if_true, if_false, ite_self, le_nlt, ite_not, hx, k113.2.2.2, n10, not_true_eq_false, not_false_eq_true, e4]
    · by_cases z2 : x = 103
      · have hC : ¬ 0 < C := hy.elim (fun z => by omega) (fun z => absurd z2 z.2)
        rw [if_neg hC]
        subst z2
        simp only [aX6_readClause_21, aX6_readClause_22, aX6_readClause_24, aX6_readClause_35, aX6_readClause_36, aX6_readClause_38, aX6_readClause_41, aX6_readClause_42, aX6_readClause_52, aX6_readClause_53, aX6_readClause_55, aX6_readClause_58, aX6_readClause_59, aX6_readClause_69, aX6_readClause_70, aX6_readClause_71, aX6_readClause_72, aX6_readClause_75, aX6_readClause_78, sp_fail, Nat.zero_le, Nat.reduceLeDiff, Nat.reduceAdd, i1_0, rr_c3, zc9, oc9, zc10, oc10, zc11, oc11, zc12, oc12, zc13, oc13, zc15, oc15, Int32.lt_irrefl, Nat.zero_lt_one, Rt_cons, Rt_void, isB_0, isB_1, isB_b, true_and, and_true, cats_nil, cats_int, cats_ref, and_self, if_true, if_false, ite_self, le_nlt, ite_not, hx, k113.2.2.1, n10, not_true_eq_false, not_false_eq_true, e4]
      · simp only [aX6_readClause_21, aX6_readClause_22, aX6_readClause_24, aX6_readClause_35, aX6_readClause_36, aX6_readClause_38, aX6_readClause_52, aX6_readClause_53, aX6_readClause_55, aX6_readClause_69, aX6_readClause_70, aX6_readClause_71, aX6_readClause_72, aX6_readClause_75, aX6_readClause_78, sp_fail, Nat.zero_le, Nat.reduceLeDiff, Nat.reduceAdd, i1_0, rr_c3, zc9, oc9, zc10, oc10, zc11, oc11, zc12, oc12, zc13, oc13, zc15, oc15, Int32.lt_irrefl, Nat.zero_lt_one, Rt_cons, Rt_void, isB_0, isB_1, isB_b, true_and, and_true, cats_nil, cats_int, cats_ref, and_self, if_true, if_false, ite_self, le_nlt, ite_not, hx, z1, z2, not_false_eq_true, e4]
  · have L := fun fs Q => sp_mlook (fs := fs) (Q := Q) hl ht h
    have hw : σ 29 0 28 = 0 := h.2.2.2.1
    have e37 := hd.1.1
    rcases Nat.eq_zero_or_pos C with z | z
    · have e37' : σ 37 0 0 = 0 := by rw [e37, z]; rfl
      simp only [aX8_reads_15, aX8_reads_16, aX8_reads_19, aX8_reads_21, aX8_reads_24, aX8_reads_25, aX8_reads_28, aX8_reads_31, aX8_reads_32, aX8_reads_35, aX8_reads_36, aX8_reads_37, aX8_reads_40, aX8_reads_41, aX8_reads_42, aX8_reads_45, L, sp_fails, Nat.zero_le, Nat.reduceLeDiff, Nat.reduceAdd, i1_0, rr_c3, zc9, oc9, zc10, oc10, zc11, oc11, zc12, oc12, zc13, oc13, zc15, oc15, Int32.lt_irrefl, Nat.zero_lt_one, Rt_cons, Rt_void, isB_0, isB_1, isB_b, true_and, and_true, cats_nil, cats_int, cats_ref, and_self, if_true, if_false, ite_self, le_nlt, ite_not, hx, not_false_eq_true, aT_37, aN_37, cnt_37, v3.1, c0, e37', not_true_eq_false, hw]
    · have z' := hy.resolve_left (by omega)
      have e37' : ¬ σ 37 0 0 = 0 := by rw [e37]; exact nI_ne0 z (by have := hv.1; omega)
      simp only [aX8_reads_15, aX8_reads_16, aX8_reads_19, aX8_reads_21, aX8_reads_24, aX8_reads_25, aX8_reads_28, aX8_reads_31, aX8_reads_32, aX8_reads_35, aX8_reads_36, aX8_reads_37, aX8_reads_48, aX8_reads_49, aX8_reads_52, aX8_reads_54, aX8_reads_64, aX8_reads_65, aX8_reads_68, aX8_reads_70, aX8_reads_80, aX8_reads_81, aX8_reads_82, L, sp_fails, Nat.zero_le, Nat.reduceLeDiff, Nat.reduceAdd, i1_0, rr_c3, zc9, oc9, zc10, oc10, zc11, oc11, zc12, oc12, zc13, oc13, zc15, oc15, Int32.lt_irrefl, Nat.zero_lt_one, Rt_cons, Rt_void, isB_0, isB_1, isB_b, true_and, and_true, cats_nil, cats_int, cats_ref, and_self, if_true, if_false, ite_self, le_nlt, ite_not, hx, z'.1, z'.2, not_false_eq_true, aT_37, aN_37, cnt_37, v3.1, c0, e37', hw]
theorem cNum_ge {lo hi : Int32} {c : Nat} {T : F1} {X : Int32 × Int32 × Nat} (h : X.2.2 ≤ c) : X.2.2 ≤ (cNum lo hi c T X).2.2 ∧ (cNum lo hi c T X).2.2 ≤ c := by
  have a := sk_ge (T := T) h
  have b := sk_le (T := T) h
  have d := nu_le (T := T) b
  exact ⟨by show X.2.2 ≤ (nu c T (sk c T X.2.2)).1; omega, d.2⟩
theorem cl_h {c p C N G : Nat} {T : F1} {fp : Int32} {ct ow fd kd pt : F1} (hl : LT c T) (hp : p < c) (hv : VD C N G ct ow fd kd pt) (hx : lk c T p = 104) (hC : 0 < C) : ClP c T fp p C N G ct ow fd kd pt := by
  have h12 := hv.1
  have e0 : ∀ (σ : Mem), σ 37 0 0 = nI C → ¬ σ 37 0 0 = 0 := fun σ e => by rw [e]; exact nI_ne0 hC (by omega)
  by_cases h7 : N < 7
  · have g1 := cNum_ge (lo := 1) (hi := 9) (T := T) (X := (0, fp, p + 1)) (show p + 1 ≤ c by omega)
    have g2 := cNum_ge (lo := 0) (hi := 99) (T := T) g1.2
    have g3 := cEnd_ge (T := T) g2.2
    have ok : (cEnd c T (cNum 0 99 c T (cNum 1 9 c T (0, fp, p + 1)))).1 = 0 → nf 1 9 c T (sk c T (p + 1)) = 0 ∧ nf 0 99 c T (sk c T (nu c T (sk c T (p + 1))).1) = 0 := fun z => by
      have z3 := (cEnd_0 z).1
      have z2 := cNum_0 z3
      have z1 := (cNum_0 z2.1).2
      have z1' : nf 1 9 c T (sk c T (p + 1)) = 0 := z1
      have z22 := z2.2
      rw [cNum_ok z1'] at z22
      exact ⟨z1', z22⟩
    refine ⟨_, _, C, N + 1, G, ct, upd ow N (nu c T (sk c T (p + 1))).2, upd fd N (nu c T (sk c T (cNum 1 9 c T (0, fp, p + 1)).2.2)).2, kd, pt, Mt_end (Mt_num (Mt_num (Or.inl ⟨rfl, rfl, rfl⟩ : Mt (0, fp, p + 1) (p + 1, 0)))), fun z => ⟨by rw [cEnd_fp z, cNum_fp (cEnd_0 z).1, cNum_fp (cNum_0 (cEnd_0 z).1).1], Nat.lt_of_lt_of_le (Nat.lt_succ_self p) (Nat.le_trans g1.1 (Nat.le_trans g2.1 g3)), h12, by omega, by have := hv.2.2.1; omega, by omega, hv.2.2.2.2.1, fun j hj => ?_, hv.2.2.2.2.2.2⟩, ?_, ?_⟩
    · obtain ⟨o1, o2⟩ := ok z
      by_cases y : j = N
      · rw [y, upd_eq, upd_eq, cNum_ok o1]
        obtain ⟨d, d1, d2, d3⟩ := nf_val (lo := 1) (hi := 9) (by omega) (by omega) o1
        obtain ⟨b, b1, b2, b3⟩ := nf_val (lo := 0) (hi := 99) (by omega) (by omega) o2
        exact ⟨⟨d, d1, d2, d3⟩, b, b2, b3⟩
      · rw [upd_ne y, upd_ne y]; exact hv.2.2.2.2.2.1 j (by omega)
    · intro σ0 σ q hq ht h hd
      obtain ⟨τ, a1, a2, a3, a4, a5, a6⟩ := sp_chouse (G := 0) hl ht hq h hp hd.1.2.1 h7
      refine ⟨τ, fun fs Q => ?_, a2, fun z => ⟨⟨by rw [a3, upd_ne (by decide)]; exact hd.1.1, by rw [a3, upd_eq], by rw [a3, upd_ne (by decide)]; exact hd.1.2.2⟩, fun j hj => by rw [a6 4 q (by decide) (by omega) (by omega) (by omega)]; exact hd.2.1 j hj, fun j hj => ?_, fun j hj => by rw [a6 7 q (by decide) (by omega) (by omega) (by omega), a6 8 q (by decide) (by omega) (by omega) (by omega)]; exact hd.2.2.2 j hj⟩⟩
      · rw [sp_chead hl hq hv.1 ht h hd.1.1, if_pos hC, hx]
        simp only [aX6_readClause_21, aX6_readClause_22, aX6_readClause_24, aX6_readClause_35, aX6_readClause_36, aX6_readClause_38, aX6_readClause_41, aX6_readClause_42, aX6_readClause_45, Nat.zero_le, Nat.reduceLeDiff, Nat.reduceAdd, i1_0, rr_c3, zc9, oc9, zc10, oc10, zc11, oc11, zc12, oc12, zc13, oc13, zc15, oc15, Int32.lt_irrefl, Nat.zero_lt_one, Rt_cons, Rt_void, isB_0, isB_1, isB_b, true_and, and_true, cats_nil, cats_int, cats_ref, and_self, if_true, if_false, ite_self, le_nlt, ite_not, k113.1, not_true_eq_false, not_false_eq_true]
        rw [aX6_readClause_46, a1]
        simp only [aX6_readClause_49, aX6_readClause_78, Nat.zero_le, Nat.reduceLeDiff, Nat.reduceAdd, i1_0, rr_c3, zc9, oc9, zc10, oc10, zc11, oc11, zc12, oc12, zc13, oc13, zc15, oc15, Int32.lt_irrefl, Nat.zero_lt_one, Rt_cons, Rt_void, isB_0, isB_1, isB_b, true_and, and_true, cats_nil, cats_int, cats_ref, and_self, if_true, if_false, ite_self, le_nlt, ite_not]
      · rw [a4, a5]
        by_cases y : j = N
        · rw [y, upd_eq, upd_eq, upd_eq, upd_eq]; exact ⟨rfl, rfl⟩
        · rw [upd_ne y, upd_ne y, upd_ne y, upd_ne y]; exact hd.2.2.1 j (by omega)
    · intro σ0 σ ht h hd
      have L := fun fs Q => sp_mlook (fs := fs) (Q := Q) hl ht h
      obtain ⟨τ, a1, a2, a3, a4, a5, a6⟩ := sp_mhouse (G := 0) hl ht h hp hd.1.2.1 h7
      refine ⟨τ, fun fs Q => ?_, a2, fun z => ⟨⟨by rw [a3, upd_ne (by decide)]; exact hd.1.1, by rw [a3, upd_eq], by rw [a3, upd_ne (by decide)]; exact hd.1.2.2⟩, fun j hj => by rw [a6 38 0 (by decide) (by decide) (by decide) (by decide)]; exact hd.2.1 j hj, fun j hj => ?_, fun j hj hj7 => ?_, fun j hj => by rw [a6 41 0 (by decide) (by decide) (by decide) (by decide), a6 42 0 (by decide) (by decide) (by decide) (by decide)]; exact hd.2.2.2.2 j hj⟩⟩
      · simp only [aX8_reads_15, aX8_reads_16, aX8_reads_19, aX8_reads_21, aX8_reads_24, aX8_reads_25, aX8_reads_28, aX8_reads_31, aX8_reads_32, aX8_reads_35, aX8_reads_36, aX8_reads_37, aX8_reads_48, aX8_reads_49, aX8_reads_52, aX8_reads_54, aX8_reads_57, L, Nat.zero_le, Nat.reduceLeDiff, Nat.reduceAdd, i1_0, rr_c3, zc9, oc9, zc10, oc10, zc11, oc11, zc12, oc12, zc13, oc13, zc15, oc15, Int32.lt_irrefl, Nat.zero_lt_one, Rt_cons, Rt_void, isB_0, isB_1, isB_b, true_and, and_true, cats_nil, cats_int, cats_ref, and_self, if_true, if_false, ite_self, le_nlt, ite_not, hx, k113.1, not_false_eq_true, not_true_eq_false, aT_37, aN_37, cnt_37, v3.1, c0, e0 σ hd.1.1]
        rw [aX8_reads_58, a1]
        simp only [aX8_reads_61, Nat.zero_le, Nat.reduceLeDiff, Nat.reduceAdd, i1_0, rr_c3, zc9, oc9, zc10, oc10, zc11, oc11, zc12, oc12, zc13, oc13, zc15, oc15, Int32.lt_irrefl, Nat.zero_lt_one, Rt_cons, Rt_void, isB_0, isB_1, isB_b, true_and, and_true, cats_nil, cats_int, cats_ref, and_self, if_true, if_false, ite_self, le_nlt, ite_not]
      · obtain ⟨o1, o2⟩ := ok z
        rw [a4, a5, rNum_ok o1, rVal_ok o1, rVal_ok o2, cNum_ok o1]
        by_cases y : j = N
        · rw [y, upd_eq, upd_eq, upd_eq, upd_eq]; exact ⟨rfl, rfl⟩
        · rw [upd_ne y, upd_ne y, upd_ne y, upd_ne y]; exact hd.2.2.1 j (by omega)
      · rw [a5, upd_ne (by omega)]; exact hd.2.2.2.1 j (by omega) hj7
  · obtain rfl : N = 7 := by have := hv.2.1; omega
    refine cl_fault (n := 3) (Or.inr (Or.inr rfl)) (fun σ0 σ q hq ht h hd fs Q => ?_) (fun σ0 σ ht h hd fs Q => ?_)
    · have e4 : σ 1 0 4 = nI p := h.2.2.2.2.1
      have r0 : rr (σ 1 0 5) = q := h.2.2.2.2.2.1
      have k3 : q < cnt 3 := hq
      have e1 : σ 3 q 1 = 7 := hd.1.2.1
      rw [sp_chead hl hq hv.1 ht h hd.1.1, if_pos hC, hx]
      simp only [aX6_readClause_21, aX6_readClause_22, aX6_readClause_24, aX6_readClause_35, aX6_readClause_36, aX6_readClause_38, aX6_readClause_41, aX6_readClause_42, aX6_readClause_45, aX6_readClause_46, aX6_readClause_49, aX6_readClause_78, aX6_readHouse_0, aX6_readHouse_1, aX6_readHouse_4, aX6_readHouse_7, aX6_readHouse_8, aX6_readHouse_9, aX6_readHouse_11, aX6_readHouse_14, aX6_readHouse_15, aX6_readHouse_16, aX6_readHouse_17, aX6_readHouse_20, aX6_readHouse_23, sp_fail, Nat.zero_le, Nat.reduceLeDiff, Nat.reduceAdd, i1_0, rr_c3, zc9, oc9, zc10, oc10, zc11, oc11, zc12, oc12, zc13, oc13, zc15, oc15, Int32.lt_irrefl, Nat.zero_lt_one, Rt_cons, Rt_void, isB_0, isB_1, isB_b, true_and, and_true, cats_nil, cats_int, cats_ref, and_self, if_true, if_false, ite_self, le_nlt, ite_not, k113.1, not_true_eq_false, not_false_eq_true, r0, k3, e1, e4]
    · have L := fun fs Q => sp_mlook (fs := fs) (Q := Q) hl ht h
      have hw : σ 29 0 28 = 0 := h.2.2.2.1
      have e1 : σ 37 0 1 = 7 := hd.1.2.1
      simp only [aX8_reads_15, aX8_reads_16, aX8_reads_19, aX8_reads_21, aX8_reads_24, aX8_reads_25, aX8_reads_28, aX8_reads_31, aX8_reads_32, aX8_reads_35, aX8_reads_36, aX8_reads_37, aX8_reads_48, aX8_reads_49, aX8_reads_52, aX8_reads_54, aX8_reads_57, aX8_reads_58, aX8_reads_61, aX8_readsHouse_0, aX8_readsHouse_1, aX8_readsHouse_4, aX8_readsHouse_5, aX8_readsHouse_6, aX8_readsHouse_7, aX8_readsHouse_8, aX8_readsHouse_10, aX8_readsHouse_13, aX8_readsHouse_14, aX8_readsHouse_15, aX8_readsHouse_18, L, sp_fails, Nat.zero_le, Nat.reduceLeDiff, Nat.reduceAdd, i1_0, rr_c3, zc9, oc9, zc10, oc10, zc11, oc11, zc12, oc12, zc13, oc13, zc15, oc15, Int32.lt_irrefl, Nat.zero_lt_one, Rt_cons, Rt_void, isB_0, isB_1, isB_b, true_and, and_true, cats_nil, cats_int, cats_ref, and_self, if_true, if_false, ite_self, le_nlt, ite_not, hx, k113.1, not_false_eq_true, not_true_eq_false, aT_37, aN_37, cnt_37, v3.1, v3.2.1, c0, c1, e0 σ hd.1.1, e1, hw]
theorem cl_g {c p C N G : Nat} {T : F1} {fp : Int32} {ct ow fd kd pt : F1} (hl : LT c T) (hp : p < c) (hv : VD C N G ct ow fd kd pt) (hx : lk c T p = 103) (hC : 0 < C) : ClP c T fp p C N G ct ow fd kd pt := by
  have h12 := hv.1
  have hN := hv.2.1
  have e0 : ∀ (σ : Mem), σ 37 0 0 = nI C → ¬ σ 37 0 0 = 0 := fun σ e => by rw [e]; exact nI_ne0 hC (by omega)
  by_cases h7 : G < N
  · have g1 := cNum_ge (lo := 0) (hi := 3) (T := T) (X := (0, fp, p + 1)) (show p + 1 ≤ c by omega)
    have g2 := cNum_ge (lo := 1) (hi := 99) (T := T) g1.2
    have g3 := cEnd_ge (T := T) g2.2
    have ok : (cEnd c T (cNum 1 99 c T (cNum 0 3 c T (0, fp, p + 1)))).1 = 0 → nf 0 3 c T (sk c T (p + 1)) = 0 ∧ nf 1 99 c T (sk c T (nu c T (sk c T (p + 1))).1) = 0 := fun z => by
      have z3 := (cEnd_0 z).1
      have z2 := cNum_0 z3
      have z1 := (cNum_0 z2.1).2
      have z1' : nf 0 3 c T (sk c T (p + 1)) = 0 := z1
      have z22 := z2.2
      rw [cNum_ok z1'] at z22
      exact ⟨z1', z22⟩
    refine ⟨_, _, C, N, G + 1, ct, ow, fd, upd kd G (nu c T (sk c T (p + 1))).2, upd pt G (nu c T (sk c T (cNum 0 3 c T (0, fp, p + 1)).2.2)).2, Mt_end (Mt_num (Mt_num (Or.inl ⟨rfl, rfl, rfl⟩ : Mt (0, fp, p + 1) (p + 1, 0)))), fun z => ⟨by rw [cEnd_fp z, cNum_fp (cEnd_0 z).1, cNum_fp (cNum_0 (cEnd_0 z).1).1], Nat.lt_of_lt_of_le (Nat.lt_succ_self p) (Nat.le_trans g1.1 (Nat.le_trans g2.1 g3)), h12, hN, by omega, by omega, hv.2.2.2.2.1, hv.2.2.2.2.2.1, fun j hj => ?_⟩, ?_, ?_⟩
    · obtain ⟨o1, o2⟩ := ok z
      by_cases y : j = G
      · rw [y, upd_eq, upd_eq, cNum_ok o1]
        obtain ⟨d, d1, d2, d3⟩ := nf_val (lo := 0) (hi := 3) (by omega) (by omega) o1
        obtain ⟨b, b1, b2, b3⟩ := nf_val (lo := 1) (hi := 99) (by omega) (by omega) o2
        exact ⟨⟨d, d2, d3⟩, b, b1, b2, b3⟩
      · rw [upd_ne y, upd_ne y]; exact hv.2.2.2.2.2.2 j (by omega)
    · intro σ0 σ q hq ht h hd
      obtain ⟨τ, a1, a2, a3, a4, a5, a6⟩ := sp_cgull hl ht hq h hp hd.1.2.2 hd.1.2.1 h7 hN
      refine ⟨τ, fun fs Q => ?_, a2, fun z => ⟨⟨by rw [a3, upd_ne (by decide)]; exact hd.1.1, by rw [a3, upd_ne (by decide)]; exact hd.1.2.1, by rw [a3, upd_eq]⟩, fun j hj => by rw [a6 4 q (by decide) (by omega) (by omega) (by omega)]; exact hd.2.1 j hj, fun j hj => by rw [a6 5 q (by decide) (by omega) (by omega) (by omega), a6 6 q (by decide) (by omega) (by omega) (by omega)]; exact hd.2.2.1 j hj, fun j hj => ?_⟩⟩
      · rw [sp_chead hl hq hv.1 ht h hd.1.1, if_pos hC, hx]
        simp only [aX6_readClause_21, aX6_readClause_22, aX6_readClause_24, aX6_readClause_35, aX6_readClause_36, aX6_readClause_38, aX6_readClause_52, aX6_readClause_53, aX6_readClause_55, aX6_readClause_58, aX6_readClause_59, aX6_readClause_62, Nat.zero_le, Nat.reduceLeDiff, Nat.reduceAdd, i1_0, rr_c3, zc9, oc9, zc10, oc10, zc11, oc11, zc12, oc12, zc13, oc13, zc15, oc15, Int32.lt_irrefl, Nat.zero_lt_one, Rt_cons, Rt_void, isB_0, isB_1, isB_b, true_and, and_true, cats_nil, cats_int, cats_ref, and_self, if_true, if_false, ite_self, le_nlt, ite_not, k113.2.1, k113.2.2.1, not_true_eq_false, not_false_eq_true]
        rw [aX6_readClause_63, a1]
        simp only [aX6_readClause_66, aX6_readClause_78, Nat.zero_le, Nat.reduceLeDiff, Nat.reduceAdd, i1_0, rr_c3, zc9, oc9, zc10, oc10, zc11, oc11, zc12, oc12, zc13, oc13, zc15, oc15, Int32.lt_irrefl, Nat.zero_lt_one, Rt_cons, Rt_void, isB_0, isB_1, isB_b, true_and, and_true, cats_nil, cats_int, cats_ref, and_self, if_true, if_false, ite_self, le_nlt, ite_not]
      · rw [a4, a5]
        by_cases y : j = G
        · rw [y, upd_eq, upd_eq, upd_eq, upd_eq]; exact ⟨rfl, rfl⟩
        · rw [upd_ne y, upd_ne y, upd_ne y, upd_ne y]; exact hd.2.2.2 j (by omega)
    · intro σ0 σ ht h hd
      have L := fun fs Q => sp_mlook (fs := fs) (Q := Q) hl ht h
      obtain ⟨τ, a1, a2, a3, a4, a5, a6⟩ := sp_mgull hl ht h hp hd.1.2.2 hd.1.2.1 h7 hN
      refine ⟨τ, fun fs Q => ?_, a2, fun z => ⟨⟨by rw [a3, upd_ne (by decide)]; exact hd.1.1, by rw [a3, upd_ne (by decide)]; exact hd.1.2.1, by rw [a3, upd_eq]⟩, fun j hj => by rw [a6 38 0 (by decide) (by decide) (by decide) (by decide)]; exact hd.2.1 j hj, fun j hj => by rw [a6 39 0 (by decide) (by decide) (by decide) (by decide), a6 40 0 (by decide) (by decide) (by decide) (by decide)]; exact hd.2.2.1 j hj, fun j hj hj7 => by rw [a6 40 0 (by decide) (by decide) (by decide) (by decide)]; exact hd.2.2.2.1 j hj hj7, fun j hj => ?_⟩⟩
      · simp only [aX8_reads_15, aX8_reads_16, aX8_reads_19, aX8_reads_21, aX8_reads_24, aX8_reads_25, aX8_reads_28, aX8_reads_31, aX8_reads_32, aX8_reads_35, aX8_reads_36, aX8_reads_37, aX8_reads_48, aX8_reads_49, aX8_reads_52, aX8_reads_54, aX8_reads_64, aX8_reads_65, aX8_reads_68, aX8_reads_70, aX8_reads_73, L, Nat.zero_le, Nat.reduceLeDiff, Nat.reduceAdd, i1_0, rr_c3, zc9, oc9, zc10, oc10, zc11, oc11, zc12, oc12, zc13, oc13, zc15, oc15, Int32.lt_irrefl, Nat.zero_lt_one, Rt_cons, Rt_void, isB_0, isB_1, isB_b, true_and, and_true, cats_nil, cats_int, cats_ref, and_self, if_true, if_false, ite_self, le_nlt, ite_not, hx, k113.2.1, k113.2.2.1, not_false_eq_true, not_true_eq_false, aT_37, aN_37, cnt_37, v3.1, c0, e0 σ hd.1.1]
        rw [aX8_reads_74, a1]
        simp only [aX8_reads_77, Nat.zero_le, Nat.reduceLeDiff, Nat.reduceAdd, i1_0, rr_c3, zc9, oc9, zc10, oc10, zc11, oc11, zc12, oc12, zc13, oc13, zc15, oc15, Int32.lt_irrefl, Nat.zero_lt_one, Rt_cons, Rt_void, isB_0, isB_1, isB_b, true_and, and_true, cats_nil, cats_int, cats_ref, and_self, if_true, if_false, ite_self, le_nlt, ite_not]
      · obtain ⟨o1, o2⟩ := ok z
        rw [a4, a5, rNum_ok o1, rVal_ok o1, rVal_ok o2, cNum_ok o1]
        by_cases y : j = G
        · rw [y, upd_eq, upd_eq, upd_eq, upd_eq]; exact ⟨rfl, rfl⟩
        · rw [upd_ne y, upd_ne y, upd_ne y, upd_ne y]; exact hd.2.2.2.2 j (by omega)
  · obtain rfl : G = N := by have := hv.2.2.1; omega
    refine cl_fault (n := 3) (Or.inr (Or.inr rfl)) (fun σ0 σ q hq ht h hd fs Q => ?_) (fun σ0 σ ht h hd fs Q => ?_)
    · have e4 : σ 1 0 4 = nI p := h.2.2.2.2.1
      have r0 : rr (σ 1 0 5) = q := h.2.2.2.2.2.1
      have k3 : q < cnt 3 := hq
      have e1 := hd.1.2.1
      have e2 := hd.1.2.2
      rw [sp_chead hl hq hv.1 ht h hd.1.1, if_pos hC, hx]
      simp only [aX6_readClause_21, aX6_readClause_22, aX6_readClause_24, aX6_readClause_35, aX6_readClause_36, aX6_readClause_38, aX6_readClause_52, aX6_readClause_53, aX6_readClause_55, aX6_readClause_58, aX6_readClause_59, aX6_readClause_62, aX6_readClause_63, aX6_readClause_66, aX6_readClause_78, aX6_readGull_0, aX6_readGull_1, aX6_readGull_4, aX6_readGull_7, aX6_readGull_8, aX6_readGull_9, aX6_readGull_10, aX6_readGull_13, aX6_readGull_16, aX6_readGull_19, aX6_readGull_20, aX6_readGull_22, aX6_readGull_25, aX6_readGull_26, aX6_readGull_27, aX6_readGull_28, aX6_readGull_31, aX6_readGull_34, sp_fail, Nat.zero_le, Nat.reduceLeDiff, Nat.reduceAdd, i1_0, rr_c3, zc9, oc9, zc10, oc10, zc11, oc11, zc12, oc12, zc13, oc13, zc15, oc15, Int32.lt_irrefl, Nat.zero_lt_one, Rt_cons, Rt_void, isB_0, isB_1, isB_b, true_and, and_true, cats_nil, cats_int, cats_ref, and_self, if_true, if_false, ite_self, le_nlt, ite_not, k113.2.1, k113.2.2.1, not_true_eq_false, not_false_eq_true, r0, k3, e1, e2, e4]
    · have L := fun fs Q => sp_mlook (fs := fs) (Q := Q) hl ht h
      have hw : σ 29 0 28 = 0 := h.2.2.2.1
      have e1 := hd.1.2.1
      have e2 := hd.1.2.2
      simp only [aX8_reads_15, aX8_reads_16, aX8_reads_19, aX8_reads_21, aX8_reads_24, aX8_reads_25, aX8_reads_28, aX8_reads_31, aX8_reads_32, aX8_reads_35, aX8_reads_36, aX8_reads_37, aX8_reads_48, aX8_reads_49, aX8_reads_52, aX8_reads_54, aX8_reads_64, aX8_reads_65, aX8_reads_68, aX8_reads_70, aX8_reads_73, aX8_reads_74, aX8_reads_77, aX8_readsGull_0, aX8_readsGull_1, aX8_readsGull_4, aX8_readsGull_5, aX8_readsGull_6, aX8_readsGull_7, aX8_readsGull_8, aX8_readsGull_9, aX8_readsGull_12, aX8_readsGull_13, aX8_readsGull_14, aX8_readsGull_17, aX8_readsGull_18, aX8_readsGull_19, aX8_readsGull_22, L, sp_fails, Nat.zero_le, Nat.reduceLeDiff, Nat.reduceAdd, i1_0, rr_c3, zc9, oc9, zc10, oc10, zc11, oc11, zc12, oc12, zc13, oc13, zc15, oc15, Int32.lt_irrefl, Nat.zero_lt_one, Rt_cons, Rt_void, isB_0, isB_1, isB_b, true_and, and_true, cats_nil, cats_int, cats_ref, and_self, if_true, if_false, ite_self, le_nlt, ite_not, hx, k113.2.1, k113.2.2.1, not_false_eq_true, not_true_eq_false, aT_37, aN_37, cnt_37, v3.1, v3.2.1, v3.2.2, c0, c1, c2, e0 σ hd.1.1, e1, e2, hw]
theorem clause {c p C N G : Nat} {T : F1} {fp : Int32} {ct ow fd kd pt : F1} (hl : LT c T) (hp : p < c) (hv : VD C N G ct ow fd kd pt) : ClP c T fp p C N G ct ow fd kd pt := by
  by_cases x1 : lk c T p = 113
  · exact cl_q hl hp hv x1
  · rcases Nat.eq_zero_or_pos C with z | z
    · exact cl_1 hl hp hv x1 (Or.inl z)
    · by_cases x2 : lk c T p = 104
      · exact cl_h hl hp hv x2 z
      · by_cases x3 : lk c T p = 103
        · exact cl_g hl hp hv x3 z
        · exact cl_1 hl hp hv x1 (Or.inr ⟨x2, x3⟩)
/-- the rest of the text, in both -/
def RdP (c : Nat) (T : F1) (fp : Int32) (p C N G : Nat) (ct ow fd kd pt : F1) : Prop :=
    ∃ (X : Int32 × Int32 × Nat) (Y : Nat × Int32) (C' N' G' : Nat) (ct' ow' fd' kd' pt' : F1), Mt X Y ∧ (X.1 = 0 → X.2.1 = fp ∧ VD C' N' G' ct' ow' fd' kd' pt') ∧
      (∀ (σ0 σ : Mem) (q k : Nat) (l1 : Value), q < 2 → (∀ j, j < c → σ0 2 0 j = T j) → KC σ0 σ q c (0, fp, p) → DC σ q C N G ct ow fd kd pt → k ≤ p →
        ∃ τ l2, (∀ fs Q, Rn mX6_readInto 30 [.ref (ad 1 0), l1, .int (nI k)] [] fs (enc σ) Q ↔ Rn mX6_readInto 69 [.ref (ad 1 0), l1, l2] [] fs (enc τ) Q) ∧ KC σ0 τ q c X ∧ (X.1 = 0 → DC τ q C' N' G' ct' ow' fd' kd' pt')) ∧
      (∀ (σ0 σ : Mem), LY σ0 c T → KM σ0 σ c (p, 0) → DM σ C N G ct ow fd kd pt →
        ∃ τ, (∀ fs Q, Rn mX8_reads 0 [.ref (ad 29 0)] [] fs (enc σ) Q ↔ Rt fs (enc τ) none Q) ∧ KM σ0 τ c Y ∧ (X.1 = 0 → DM τ C' N' G' ct' ow' fd' kd' pt'))
theorem DC_at {q C N G : Nat} {x : Int32} {ct ow fd kd pt : F1} (h : DC σ q C N G ct ow fd kd pt) : DC (upS σ 1 0 4 x) q C N G ct ow fd kd pt := by
  unfold DC
  rw [upS_ne (by omega), upS_ne (by omega), upS_ne (by omega), upS_ne (by omega), upS_ne (by omega), upS_ne (by omega)]
  exact h
theorem DM_29 {τ : Mem} {C N G : Nat} {ct ow fd kd pt : F1} (h : DM σ C N G ct ow fd kd pt) (e : ∀ k i, ¬ k = 29 → τ k i = σ k i) : DM τ C N G ct ow fd kd pt := by
  unfold DM
  rw [e 37 0 (by decide), e 38 0 (by decide), e 39 0 (by decide), e 40 0 (by decide), e 41 0 (by decide), e 42 0 (by decide)]
  exact h
theorem reads_lp {c : Nat} {T : F1} (hl : LT c T) : ∀ (m p C N G : Nat) (fp : Int32) (ct ow fd kd pt : F1), c - p ≤ m → p ≤ c → VD C N G ct ow fd kd pt → RdP c T fp p C N G ct ow fd kd pt := by
  intro m
  have hc := hl.1
  have base : ∀ (p C N G : Nat) (fp : Int32) (ct ow fd kd pt : F1), p = c → VD C N G ct ow fd kd pt → RdP c T fp p C N G ct ow fd kd pt := fun p C N G fp ct ow fd kd pt hp hv => by
    refine ⟨(0, fp, p), (p, 0), C, N, G, ct, ow, fd, kd, pt, Or.inl ⟨rfl, rfl, rfl⟩, fun _ => ⟨rfl, hv⟩, ?_, ?_⟩
    · intro σ0 σ q k l1 hq ht h hd hk
      refine ⟨σ, .int (nI k), fun fs Q => ?_, h, fun _ => hd⟩
      have e4 : σ 1 0 4 = nI p := h.2.2.2.2.1
      have e1 : σ 1 0 1 = nI p := by rw [hp]; exact h.2.1
      rw [aX6_readInto_30]
      by_cases y : nI k < 240
      · simp only [aX6_readInto_31, aX6_readInto_34, aX6_readInto_37, aX6_readInto_38, aX6_readInto_41, aX6_readInto_42, aX6_readInto_45, Nat.zero_le, Nat.reduceLeDiff, Nat.reduceAdd, i1_0, rr_c3, zc9, oc9, zc10, oc10, zc11, oc11, zc12, oc12, zc13, oc13, zc15, oc15, Int32.lt_irrefl, Nat.zero_lt_one, Rt_cons, Rt_void, isB_0, isB_1, isB_b, true_and, and_true, cats_nil, cats_int, cats_ref, and_self, if_true, if_false, ite_self, le_nlt, ite_not, y, e4, e1]
      · simp only [aX6_readInto_31, aX6_readInto_34, Nat.zero_le, Nat.reduceLeDiff, Nat.reduceAdd, i1_0, rr_c3, zc9, oc9, zc10, oc10, zc11, oc11, zc12, oc12, zc13, oc13, zc15, oc15, Int32.lt_irrefl, Nat.zero_lt_one, Rt_cons, Rt_void, isB_0, isB_1, isB_b, true_and, and_true, cats_nil, cats_int, cats_ref, and_self, if_true, if_false, ite_self, le_nlt, ite_not, y]
    · intro σ0 σ ht h hd
      refine ⟨σ, fun fs Q => ?_, h, fun _ => hd⟩
      have L := fun fs Q => sp_mlook (fs := fs) (Q := Q) hl ht h
      have hw : σ 29 0 28 = 0 := h.2.2.2.1
      have ex : lk c T p = -1 := lk_ge (by omega)
      simp only [aX8_reads_0, aX8_reads_1, aX8_reads_4, aX8_reads_7, aX8_reads_8, aX8_reads_11, aX8_reads_12, aX8_reads_92, L, Nat.zero_le, Nat.reduceLeDiff, Nat.reduceAdd, i1_0, rr_c3, zc9, oc9, zc10, oc10, zc11, oc11, zc12, oc12, zc13, oc13, zc15, oc15, Int32.lt_irrefl, Nat.zero_lt_one, Rt_cons, Rt_void, isB_0, isB_1, isB_b, true_and, and_true, cats_nil, cats_int, cats_ref, and_self, if_true, if_false, ite_self, le_nlt, ite_not, hw, not_true_eq_false, ex]
  induction m with
  | zero =>
    intro p C N G fp ct ow fd kd pt hm hp hv
    exact base p C N G fp ct ow fd kd pt (by omega) hv
  | succ m ih =>
    intro p C N G fp ct ow fd kd pt hm hp hv
    rcases Nat.lt_or_ge p c with hpc | hpc
    · obtain ⟨X, Y, C1, N1, G1, ct1, ow1, fd1, kd1, pt1, m1, m2, m3, m4⟩ := clause (fp := fp) hl hpc hv
      have nx : ¬ lk c T p = -1 := fun z => (lk_n1 hl).mp z hpc
      -- the class, up to the next clause
      have C1' : ∀ (σ0 σ : Mem) (q k : Nat) (l1 : Value), q < 2 → (∀ j, j < c → σ0 2 0 j = T j) → KC σ0 σ q c (0, fp, p) → DC σ q C N G ct ow fd kd pt → k ≤ p → ∃ τ, (∀ fs Q, Rn mX6_readInto 30 [.ref (ad 1 0), l1, .int (nI k)] [] fs (enc σ) Q ↔ Rn mX6_readInto 30 [.ref (ad 1 0), l1, .int (nI (k + 1))] [] fs (enc τ) Q) ∧ KC σ0 τ q c (X.1, X.2.1, sk c T X.2.2) ∧ (X.1 = 0 → DC τ q C1 N1 G1 ct1 ow1 fd1 kd1 pt1) ∧ X.2.2 ≤ c := by
        intro σ0 σ q k l1 hq ht h hd hk
        obtain ⟨τ, a1, a2, a3⟩ := m3 σ0 σ q hq ht h hd
        have S := fun fs Q => sp_cskip (fs := fs) (Q := Q) hl ht a2
        refine ⟨upS τ 1 0 4 (nI (sk c T X.2.2)), fun fs Q => ?_, KC_at a2 (sk_le a2.2.2.2.2.2.2), fun z => DC_at (a3 z), a2.2.2.2.2.2.2⟩
        have e4 : σ 1 0 4 = nI p := h.2.2.2.2.1
        have e1 : σ 1 0 1 = nI c := h.2.1
        have e3 : σ 1 0 3 = 0 := h.2.2.1
        have l4 : nI p < nI c := nI_lt hpc (by omega)
        have lk' : nI k < 240 := nI_lt (b := 240) (by omega) (by decide)
        rw [aX6_readInto_30]
        simp only [aX6_readInto_31, aX6_readInto_34, aX6_readInto_37, aX6_readInto_38, aX6_readInto_41, aX6_readInto_42, aX6_readInto_45, aX6_readInto_48, aX6_readInto_49, aX6_readInto_52, aX6_readInto_55, Nat.zero_le, Nat.reduceLeDiff, Nat.reduceAdd, i1_0, rr_c3, zc9, oc9, zc10, oc10, zc11, oc11, zc12, oc12, zc13, oc13, zc15, oc15, Int32.lt_irrefl, Nat.zero_lt_one, Rt_cons, Rt_void, isB_0, isB_1, isB_b, true_and, and_true, cats_nil, cats_int, cats_ref, and_self, if_true, if_false, ite_self, le_nlt, ite_not, lk', e4, e1, e3, l4, not_true_eq_false]
        rw [aX6_readInto_56, a1]
        simp only [aX6_readInto_59, Nat.zero_le, Nat.reduceLeDiff, Nat.reduceAdd, i1_0, rr_c3, zc9, oc9, zc10, oc10, zc11, oc11, zc12, oc12, zc13, oc13, zc15, oc15, Int32.lt_irrefl, Nat.zero_lt_one, Rt_cons, Rt_void, isB_0, isB_1, isB_b, true_and, and_true, cats_nil, cats_int, cats_ref, and_self, if_true, if_false, ite_self, le_nlt, ite_not]
        rw [aX6_readInto_60, S]
        simp only [aX6_readInto_63, aX6_readInto_66, Nat.zero_le, Nat.reduceLeDiff, Nat.reduceAdd, i1_0, rr_c3, zc9, oc9, zc10, oc10, zc11, oc11, zc12, oc12, zc13, oc13, zc15, oc15, Int32.lt_irrefl, Nat.zero_lt_one, Rt_cons, Rt_void, isB_0, isB_1, isB_b, true_and, and_true, cats_nil, cats_int, cats_ref, and_self, if_true, if_false, ite_self, le_nlt, ite_not, nI_1]
      have M1' : ∀ (σ0 σ : Mem), LY σ0 c T → KM σ0 σ c (p, 0) → DM σ C N G ct ow fd kd pt → ∃ τ, (∀ fs Q, Rn mX8_reads 0 [.ref (ad 29 0)] [] fs (enc σ) Q ↔ Rn mX8_reads 0 [.ref (ad 29 0)] [] fs (enc τ) Q) ∧ KM σ0 τ c (rSk c T Y) ∧ (X.1 = 0 → DM τ C1 N1 G1 ct1 ow1 fd1 kd1 pt1) := by
        intro σ0 σ ht h hd
        obtain ⟨τ, a1, a2, a3⟩ := m4 σ0 σ ht h hd
        obtain ⟨τ2, b1, b2, b3⟩ := sp_mskR hl ht a2
        refine ⟨τ2, fun fs Q => ?_, b2, fun z => DM_29 (a3 z) b3⟩
        have L := fun fs Q => sp_mlook (fs := fs) (Q := Q) hl ht h
        have hw : σ 29 0 28 = 0 := h.2.2.2.1
        rw [aX8_reads_0]
        simp only [aX8_reads_1, aX8_reads_4, aX8_reads_7, aX8_reads_8, aX8_reads_11, aX8_reads_12, L, Nat.zero_le, Nat.reduceLeDiff, Nat.reduceAdd, i1_0, rr_c3, zc9, oc9, zc10, oc10, zc11, oc11, zc12, oc12, zc13, oc13, zc15, oc15, Int32.lt_irrefl, Nat.zero_lt_one, Rt_cons, Rt_void, isB_0, isB_1, isB_b, true_and, and_true, cats_nil, cats_int, cats_ref, and_self, if_true, if_false, ite_self, le_nlt, ite_not, hw, not_true_eq_false, nx]
        rw [a1]
        simp only [aX8_reads_85, Nat.zero_le, Nat.reduceLeDiff, Nat.reduceAdd, i1_0, rr_c3, zc9, oc9, zc10, oc10, zc11, oc11, zc12, oc12, zc13, oc13, zc15, oc15, Int32.lt_irrefl, Nat.zero_lt_one, Rt_cons, Rt_void, isB_0, isB_1, isB_b, true_and, and_true, cats_nil, cats_int, cats_ref, and_self, if_true, if_false, ite_self, le_nlt, ite_not]
        rw [aX8_reads_86, b1]
        simp only [Nat.zero_le, Nat.reduceLeDiff, Nat.reduceAdd, i1_0, rr_c3, zc9, oc9, zc10, oc10, zc11, oc11, zc12, oc12, zc13, oc13, zc15, oc15, Int32.lt_irrefl, Nat.zero_lt_one, Rt_cons, Rt_void, isB_0, isB_1, isB_b, true_and, and_true, cats_nil, cats_int, cats_ref, and_self, if_true, if_false, ite_self, le_nlt, ite_not]
        rw [aX8_reads_89]
      by_cases x0 : X.1 = 0
      · have hY : Y.2 = 0 ∧ Y.1 = X.2.2 := by
          rcases m1 with ⟨_, z1, z2⟩ | ⟨z, _, _⟩
          · exact ⟨z1, z2⟩
          · exact absurd x0 (f123 z)
        have eY : rSk c T Y = (sk c T X.2.2, 0) := by unfold rSk; rw [if_pos hY.1, hY.2]
        have hXc : X.2.2 ≤ c ∨ c < X.2.2 := by omega
        rcases hXc with hXc | hXc
        · have g := sk_ge (T := T) hXc
          have g2 := sk_le (T := T) hXc
          have := (m2 x0).2.1
          obtain ⟨X', Y', C', N', G', ct', ow', fd', kd', pt', w1, w2, w3, w4⟩ := ih (sk c T X.2.2) C1 N1 G1 X.2.1 ct1 ow1 fd1 kd1 pt1 (by omega) g2 (m2 x0).2.2
          refine ⟨X', Y', C', N', G', ct', ow', fd', kd', pt', w1, fun z => ⟨(w2 z).1.trans (m2 x0).1, (w2 z).2⟩, ?_, ?_⟩
          · intro σ0 σ q k l1 hq ht h hd hk
            obtain ⟨τ, a1, a2, a3, a4⟩ := C1' σ0 σ q k l1 hq ht h hd hk
            rw [x0] at a2
            obtain ⟨τ2, l2, b1, b2, b3⟩ := w3 σ0 τ q (k + 1) l1 hq ht a2 (a3 x0) (by omega)
            exact ⟨τ2, l2, fun fs Q => (a1 fs Q).trans (b1 fs Q), b2, b3⟩
          · intro σ0 σ ht h hd
            obtain ⟨τ, a1, a2, a3⟩ := M1' σ0 σ ht h hd
            rw [eY] at a2
            obtain ⟨τ2, b1, b2, b3⟩ := w4 σ0 τ ht a2 (a3 x0)
            exact ⟨τ2, fun fs Q => (a1 fs Q).trans (b1 fs Q), b2, b3⟩
        · -- the class's place is never behind the text
          refine ⟨(0, fp, p), (p, 0), C, N, G, ct, ow, fd, kd, pt, Or.inl ⟨rfl, rfl, rfl⟩, fun _ => ⟨rfl, hv⟩, ?_, ?_⟩
          · intro σ0 σ q k l1 hq ht h hd hk
            obtain ⟨τ, a1, a2, a3, a4⟩ := C1' σ0 σ q k l1 hq ht h hd hk
            exact absurd a4 (by omega)
          · intro σ0 σ ht h hd
            obtain ⟨τ, a1, a2, a3⟩ := m4 σ0 σ ht h hd
            have := a2.2.2.2.2
            rw [hY.2] at this
            exact absurd this (by omega)
      · have hY : ¬ Y.2 = 0 := by
          rcases m1 with ⟨z, _, _⟩ | ⟨z, z1, _⟩
          · exact absurd z x0
          · rw [z1]; exact x0
        have eY : rSk c T Y = Y := if_neg hY
        have m1' : Mt (X.1, X.2.1, sk c T X.2.2) Y := by
          rcases m1 with ⟨z, _, _⟩ | z
          · exact absurd z x0
          · exact Or.inr z
        refine ⟨(X.1, X.2.1, sk c T X.2.2), Y, C, N, G, ct, ow, fd, kd, pt, m1', fun z => absurd z x0, ?_, ?_⟩
        · intro σ0 σ q k l1 hq ht h hd hk
          obtain ⟨τ, a1, a2, a3, a4⟩ := C1' σ0 σ q k l1 hq ht h hd hk
          refine ⟨τ, .int (nI (k + 1)), fun fs Q => ?_, a2, fun z => absurd z x0⟩
          have e3 : ¬ τ 1 0 3 = 0 := by rw [a2.2.2.1]; exact x0
          rw [a1, aX6_readInto_30]
          by_cases y : nI (k + 1) < 240
          · by_cases y2 : τ 1 0 4 < τ 1 0 1
            · simp only [aX6_readInto_31, aX6_readInto_34, aX6_readInto_37, aX6_readInto_38, aX6_readInto_41, aX6_readInto_42, aX6_readInto_45, aX6_readInto_48, aX6_readInto_49, aX6_readInto_52, Nat.zero_le, Nat.reduceLeDiff, Nat.reduceAdd, i1_0, rr_c3, zc9, oc9, zc10, oc10, zc11, oc11, zc12, oc12, zc13, oc13, zc15, oc15, Int32.lt_irrefl, Nat.zero_lt_one, Rt_cons, Rt_void, isB_0, isB_1, isB_b, true_and, and_true, cats_nil, cats_int, cats_ref, and_self, if_true, if_false, ite_self, le_nlt, ite_not, y, y2, e3, not_false_eq_true]
            · simp only [aX6_readInto_31, aX6_readInto_34, aX6_readInto_37, aX6_readInto_38, aX6_readInto_41, aX6_readInto_42, aX6_readInto_45, Nat.zero_le, Nat.reduceLeDiff, Nat.reduceAdd, i1_0, rr_c3, zc9, oc9, zc10, oc10, zc11, oc11, zc12, oc12, zc13, oc13, zc15, oc15, Int32.lt_irrefl, Nat.zero_lt_one, Rt_cons, Rt_void, isB_0, isB_1, isB_b, true_and, and_true, cats_nil, cats_int, cats_ref, and_self, if_true, if_false, ite_self, le_nlt, ite_not, y, y2]
          · simp only [aX6_readInto_31, aX6_readInto_34, Nat.zero_le, Nat.reduceLeDiff, Nat.reduceAdd, i1_0, rr_c3, zc9, oc9, zc10, oc10, zc11, oc11, zc12, oc12, zc13, oc13, zc15, oc15, Int32.lt_irrefl, Nat.zero_lt_one, Rt_cons, Rt_void, isB_0, isB_1, isB_b, true_and, and_true, cats_nil, cats_int, cats_ref, and_self, if_true, if_false, ite_self, le_nlt, ite_not, y]
        · intro σ0 σ ht h hd
          obtain ⟨τ, a1, a2, a3⟩ := M1' σ0 σ ht h hd
          rw [eY] at a2
          refine ⟨τ, fun fs Q => ?_, a2, fun z => absurd z x0⟩
          have hw : ¬ τ 29 0 28 = 0 := by rw [a2.2.2.2.1]; exact hY
          rw [a1]
          simp only [aX8_reads_0, aX8_reads_1, aX8_reads_4, aX8_reads_92, Nat.zero_le, Nat.reduceLeDiff, Nat.reduceAdd, i1_0, rr_c3, zc9, oc9, zc10, oc10, zc11, oc11, zc12, oc12, zc13, oc13, zc15, oc15, Int32.lt_irrefl, Nat.zero_lt_one, Rt_cons, Rt_void, isB_0, isB_1, isB_b, true_and, and_true, cats_nil, cats_int, cats_ref, and_self, if_true, if_false, ite_self, le_nlt, ite_not, hw, not_false_eq_true]
    · exact base p C N G fp ct ow fd kd pt (by omega) hv
end S86
