theorem cryW_ne {w : Nat → Int32} {h l : Int32} {a : Nat} (ha : a < 3 ∨ 64 ≤ a) : cryW w h l a = w a := by
  unfold cryW
  rw [upd_ne (by omega), upd_ne (by omega), upd_ne (by omega), upd_ne (by omega)]
  unfold shk
  rw [if_neg (by omega)]
theorem cryW_3 {w : Nat → Int32} {h l : Int32} {d : Nat} (hd : d ≤ 20) (e : w 3 = nI d) : cryW w h l 3 = nI (if d = 20 then 20 else d + 1) := by
  unfold cryW
  rw [upd_eq, e]
  by_cases h20 : d = 20
  · subst h20; rfl
  · rw [if_neg h20, if_pos (show nI d < 20 from nI_lt (b := 20) (by omega) (by decide)), nI_1]
theorem cryW_log {w : Nat → Int32} {h l : Int32} {a : Nat} (h1 : 6 < a) (h2 : a < 64) : cryW w h l a = w (a - 3) := by
  unfold cryW
  rw [upd_ne (by omega), upd_ne (by omega), upd_ne (by omega), upd_ne (by omega)]
  unfold shk
  rw [if_pos (by omega)]
theorem CS_cry {σ : Mem} {i c d : Nat} {h l : Int32} {w : Nat → Int32} (H : CS σ i w) (hc : c < 20) (hd : d ≤ 20) (h5 : σ 9 i 5 = nI c) (h6 : w 3 = nI d) (h7 : ∀ j, j < d → ∀ t, t < 3 → σ 15 i (3 * ((c + 39 - j) % 20) + t) = w (4 + 3 * j + t)) : CS (cryC σ i c d h l) i (cryW w h l) := by
  have eP : ∀ k, k ≠ 9 → k ≠ 15 → cryC σ i c d h l k i = σ k i := fun k a b => by unfold cryC; rw [upS_ne (by omega), upS_ne (by omega), updK_ne (by omega)]
  have e9 : cryC σ i c d h l 9 i = upd (upd (σ 9 i) 5 (nI ((c + 1) % 20))) 4 (nI (if d = 20 then 20 else d + 1)) := by unfold cryC; rw [upS_eq, upS_eq, updK_ne (by omega)]
  have e15 : cryC σ i c d h l 15 i = upd (upd (upd (σ 15 i) (3 * c) (σ 9 i 1)) (3 * c + 1) h) (3 * c + 2) l := by unfold cryC; rw [upS_ne (by omega), upS_ne (by omega), updK_eq]
  refine ⟨by rw [e9, cryW_ne (by omega)]; exact H.1, by rw [e9, cryW_ne (by omega)]; exact H.2.1, by rw [e9, cryW_ne (by omega)]; exact H.2.2.1, by rw [e9, upd_eq, cryW_3 hd h6], ⟨(c + 1) % 20, (if d = 20 then 20 else d + 1), by omega, by split <;> omega, by rw [e9, upd_ne (by omega), upd_eq], cryW_3 hd h6, fun j hj t ht => ?_⟩, fun k hk => ?_⟩
  · rw [e15]
    by_cases j0 : j = 0
    · subst j0
      have e : ((c + 1) % 20 + 39 - 0) % 20 = c := by omega
      rw [e]
      unfold cryW
      rcases (show t = 0 ∨ t = 1 ∨ t = 2 by omega) with rfl | rfl | rfl
      · rw [Nat.add_zero (3 * c), upd_ne (by omega), upd_ne (by omega), upd_eq, upd_ne (by omega), upd_ne (by omega), upd_ne (by omega)]; exact H.1
      · rw [upd_ne (by omega), upd_eq, upd_ne (by omega), upd_ne (by omega), upd_eq]
      · rw [upd_eq, upd_ne (by omega), upd_eq]
    · have hj20 : j < 20 := by
        revert hj; split <;> omega
      have hjd : j - 1 < d := by
        revert hj; split <;> omega
      have e : ((c + 1) % 20 + 39 - j) % 20 = (c + 39 - (j - 1)) % 20 := by omega
      have ne : ¬ (c + 39 - (j - 1)) % 20 = c := by omega
      rw [e, upd_ne (by omega), upd_ne (by omega), upd_ne (by omega), h7 (j - 1) hjd t ht, cryW_log (by omega) (by omega)]
      congr 1
      omega
  · rw [eP 10 (by omega) (by omega), eP 11 (by omega) (by omega), eP 12 (by omega) (by omega), eP 13 (by omega) (by omega), eP 14 (by omega) (by omega), cryW_ne (by omega), cryW_ne (by omega), cryW_ne (by omega), cryW_ne (by omega), cryW_ne (by omega)]
    exact H.2.2.2.2.2 k hk
/-- what the row's numbers always are -/
def RN (ct ow kd pt : Nat → Int32) (C N G : Nat) : Prop := C ≤ 12 ∧ N ≤ 7 ∧ G ≤ N ∧ (C = 0 → N = 0) ∧ (∀ j, j < C → ∃ d : Nat, d ≤ 99 ∧ ct j = nI d) ∧ (∀ h, h < N → ∃ d : Nat, 1 ≤ d ∧ d ≤ 9 ∧ ow h = nI d) ∧ (∀ g, g < G → (∃ d : Nat, d ≤ 3 ∧ kd g = nI d) ∧ ∃ d : Nat, 1 ≤ d ∧ d ≤ 99 ∧ pt g = nI d)
theorem RN_of {σ : Mem} {q C N G : Nat} (h : RowS σ q C N G) : RN (σ 32 0) (σ 33 0) (σ 35 0) (σ 36 0) C N G :=
  ⟨h.1, h.2.1, h.2.2.1, h.2.2.2.1, fun j hj => (h.2.2.2.2.2.2.1 j hj).2, fun j hj => (h.2.2.2.2.2.2.2.1 j hj).2, fun g hg => (h.2.2.2.2.2.2.2.2 g hg).2.2⟩
/-- Row q holds these numbers -/
def RC (σ : Mem) (q : Nat) (ct ow kd pt : Nat → Int32) (C N G : Nat) : Prop := (σ 3 q 0 = nI C ∧ σ 3 q 1 = nI N ∧ σ 3 q 2 = nI G) ∧ (∀ j, j < C → σ 4 q j = ct j) ∧ (∀ h, h < N → σ 5 q h = ow h) ∧ (∀ g, g < G → σ 7 q g = kd g ∧ σ 8 q g = pt g)
theorem RC_of {σ : Mem} {q C N G : Nat} (h : RowS σ q C N G) : RC σ q (σ 32 0) (σ 33 0) (σ 35 0) (σ 36 0) C N G :=
  ⟨h.2.2.2.2.2.1, fun j hj => (h.2.2.2.2.2.2.1 j hj).1, fun j hj => (h.2.2.2.2.2.2.2.1 j hj).1, fun g hg => ⟨(h.2.2.2.2.2.2.2.2 g hg).1, (h.2.2.2.2.2.2.2.2 g hg).2.1⟩⟩
theorem RC_congr {σ τ : Mem} {q : Nat} {ct ow kd pt : Nat → Int32} {C N G : Nat} (h : RC σ q ct ow kd pt C N G) (hk : ∀ k, 3 ≤ k → k ≤ 8 → τ k q = σ k q) : RC τ q ct ow kd pt C N G := by
  unfold RC
  rw [hk 3 (by omega) (by omega), hk 4 (by omega) (by omega), hk 5 (by omega) (by omega), hk 7 (by omega) (by omega), hk 8 (by omega) (by omega)]
  exact h
theorem RC_Fr {σ τ : Mem} {i q : Nat} {ct ow kd pt : Nat → Int32} {C N G : Nat} (h : RC σ q ct ow kd pt C N G) (f : Fr σ τ i) : RC τ q ct ow kd pt C N G := RC_congr h (fun k a b => f.1 k q (by omega))
section S57
variable {σ : Mem} {fs : List Fm} {M : List va_E} {Q : List va_E → Option Value → Prop}
theorem tk_A {i j g : Nat} {w : Nat → Int32} (hi : i < 34) (hj : j < 7) (h : CS σ i w) (hh : w (64 + 5 * j + 1) = 0) (eg : w (64 + 5 * j + 2) = nI g) :
    Rn mX5_takeTurn 0 [.ref (ad 9 i), .int (nI j), .null, .null, .null, .null] [] fs (enc σ) Q ↔ Rn mX5_takeTurn 56 [.ref (ad 9 i), .int (nI j), .int (nI g), .int (if σ 5 (rr (σ 9 i 0)) j < w 1 then σ 5 (rr (σ 9 i 0)) j else w 1), .int (lck (σ 5 (rr (σ 9 i 0)) j) w), .null] [] fs (enc (upS σ 9 i 2 (w 1 - (if σ 5 (rr (σ 9 i 0)) j < w 1 then σ 5 (rr (σ 9 i 0)) j else w 1)))) Q := by
  have c9 : i < cnt 9 := hi
  have c10 : i < cnt 10 := hi
  have c11 : i < cnt 11 := hi
  have c12 : i < cnt 12 := hi
  have c13 : i < cnt 13 := hi
  have c15 : i < cnt 15 := hi
  have cj := h.2.2.2.2.2 j hj
  have e1 : σ 9 i 2 = w 1 := h.2.1
  have e2 : σ 11 i j = nI g := cj.2.1.trans eg
  have r5 : rr (σ 9 i 0) < cnt 5 := rr_lt _
  have hT : bI (w (64 + 5 * j + 1) = 0) = 1 := bI_t hh
  unfold lck
  simp only [aX5_takeTurn_0, aX5_takeTurn_1, aX5_takeTurn_2, aX5_takeTurn_5, aX5_takeTurn_8, aX5_takeTurn_9, aX5_takeTurn_10, aX5_takeTurn_13, aX5_takeTurn_14, aX5_takeTurn_15, aX5_takeTurn_16, aX5_takeTurn_17, aX5_takeTurn_20, aX5_takeTurn_23, aX5_takeTurn_24, aX5_takeTurn_25, aX5_takeTurn_26, aX5_takeTurn_29, aX5_takeTurn_32, aX5_takeTurn_33, aX5_takeTurn_34, aX5_takeTurn_37, aX5_takeTurn_40, aX5_takeTurn_41, aX5_takeTurn_42, aX5_takeTurn_43, aX5_takeTurn_44, aX5_takeTurn_46, aX5_takeTurn_47i, aX5_takeTurn_47a, aX5_takeTurn_48, aX5_takeTurn_51, aX5_takeTurn_52, aX5_takeTurn_53, sp_held hi hj (w := w) cj, Nat.zero_le, Nat.reduceLeDiff, Nat.reduceAdd, i1_0, rr_c3, zc9, oc9, zc10, oc10, zc11, oc11, zc12, oc12, zc13, oc13, zc15, oc15, Int32.lt_irrefl, Nat.zero_lt_one, Rt_cons, Rt_void, isB_0, isB_1, isB_b, true_and, and_true, cats_nil, cats_int, cats_ref, and_self, if_true, if_false, ite_self, le_nlt, ite_not, c9, c10, c11, c12, c13, c15, aT_10, aT_11, aT_12, aT_13, aT_15, aN_10, aN_11, aN_12, aN_13, aN_15, hT, aT_5, aN_5, r5, in7 hj, cl10 (show j < 10000 by omega), e1, e2, min_eq (σ 5 (rr (σ 9 i 0)) j) (w 1)]
theorem tk_0 {i j : Nat} {w : Nat → Int32} (hi : i < 34) (hj : j < 7) (h : CS σ i w) (hh : ¬ w (64 + 5 * j + 1) = 0) :
    Rn mX5_takeTurn 0 [.ref (ad 9 i), .int (nI j), .null, .null, .null, .null] [] fs (enc σ) Q ↔ Rt fs (enc σ) none Q := by
  have c9 : i < cnt 9 := hi
  have c10 : i < cnt 10 := hi
  have c11 : i < cnt 11 := hi
  have c12 : i < cnt 12 := hi
  have c13 : i < cnt 13 := hi
  have c15 : i < cnt 15 := hi
  have cj := h.2.2.2.2.2 j hj
  have hT : bI (w (64 + 5 * j + 1) = 0) = 0 := bI_f hh
  simp only [aX5_takeTurn_0, aX5_takeTurn_1, aX5_takeTurn_2, aX5_takeTurn_5, aX5_takeTurn_8, sp_held hi hj (w := w) cj, Nat.zero_le, Nat.reduceLeDiff, Nat.reduceAdd, i1_0, rr_c3, zc9, oc9, zc10, oc10, zc11, oc11, zc12, oc12, zc13, oc13, zc15, oc15, Int32.lt_irrefl, Nat.zero_lt_one, Rt_cons, Rt_void, isB_0, isB_1, isB_b, true_and, and_true, cats_nil, cats_int, cats_ref, and_self, if_true, if_false, ite_self, le_nlt, ite_not, c9, hT]
theorem tk_B {i j g : Nat} {pd lk kd : Int32} {w : Nat → Int32} (hi : i < 34) (hj : j < 7) (hg : g < 7) (h : CS σ i w) (hk : σ 7 (rr (σ 9 i 0)) g = kd) (hl : ¬ 0 < lk → lk = 0) (hd9 : ¬ 9999 < w (64 + 5 * j)) :
    ∃ τ x5, (∀ fs Q, Rn mX5_takeTurn 56 [.ref (ad 9 i), .int (nI j), .int (nI g), .int pd, .int lk, .null] [] fs (enc (upS σ 9 i 2 (w 1 - pd))) Q ↔ Rn mX5_takeTurn 152 [.ref (ad 9 i), .int (nI j), .int (nI g), .int pd, .int lk, x5] [] fs (enc τ) Q) ∧ 
      CS τ i (pyB lk (upd (upd w 1 (w 1 - pd)) (64 + 5 * j) (if 9999 < w (64 + 5 * j) + (if kd = 1 then 2 * lk else lk) then 9999 else w (64 + 5 * j) + (if kd = 1 then 2 * lk else lk))) j) ∧ Fr σ τ i := by
  have c9 : i < cnt 9 := hi
  have c10 : i < cnt 10 := hi
  have c11 : i < cnt 11 := hi
  have c12 : i < cnt 12 := hi
  have c13 : i < cnt 13 := hi
  have c15 : i < cnt 15 := hi
  have cj := h.2.2.2.2.2 j hj
  have r7 : rr (σ 9 i 0) < cnt 7 := rr_lt _
  have c7 : ∀ x y, upS σ 9 i 2 x 7 y = σ 7 y := fun x y => upS_ne (by omega)
  have c10' : ∀ x, upS σ 9 i 2 x 10 i = σ 10 i := fun x => upS_ne (by omega)
  have crow : ∀ x, upS σ 9 i 2 x 9 i 0 = σ 9 i 0 := fun x => by rw [upS_eq, upd_ne (by omega)]
  have cst : ∀ x, upS σ 9 i 2 x 9 i 2 = x := fun x => by rw [upS_eq, upd_eq]
  unfold pyB
  by_cases q : 0 < lk
  · rw [if_pos q]
    obtain ⟨d, hd⟩ : ∃ d, d = (if 9999 < w (64 + 5 * j) + (if kd = 1 then 2 * lk else lk) then 9999 else w (64 + 5 * j) + (if kd = 1 then 2 * lk else lk)) := ⟨_, rfl⟩
    rw [← hd]
    have cs2 : CS (upS (upS σ 9 i 2 (w 1 - pd)) 10 i j d) i (upd (upd w 1 (w 1 - pd)) (64 + 5 * j) d) := CS_sd h hj
    obtain ⟨s1, s2, s3, s4, ⟨c, e, hc, he, h5, h6, h7⟩, s8⟩ := id cs2
    refine ⟨cryC (upS (upS σ 9 i 2 (w 1 - pd)) 10 i j d) i c e (nI j) lk, .int (if kd = 1 then 2 * lk else lk), fun fs Q => ?_, CS_cry cs2 hc he h5 h6 h7, Fr_trans (Fr_trans (Fr_upS (by omega) (by omega)) (Fr_upS (by omega) (by omega))) Fr_cry⟩
    have hA : Rn mX5_takeTurn 56 [.ref (ad 9 i), .int (nI j), .int (nI g), .int pd, .int lk, .null] [] fs (enc (upS σ 9 i 2 (w 1 - pd))) Q ↔ Rn mX5_takeTurn 83 [.ref (ad 9 i), .int (nI j), .int (nI g), .int pd, .int lk, .null] [.int (if kd = 1 then 2 * lk else lk)] fs (enc (upS σ 9 i 2 (w 1 - pd))) Q := by
      by_cases k1 : kd = 1
      · simp only [aX5_takeTurn_56, aX5_takeTurn_58, aX5_takeTurn_61, aX5_takeTurn_62, aX5_takeTurn_65, aX5_takeTurn_68, aX5_takeTurn_69, aX5_takeTurn_70, aX5_takeTurn_71, aX5_takeTurn_74, aX5_takeTurn_75, aX5_takeTurn_77, aX5_takeTurn_78, aX5_takeTurn_81, Nat.zero_le, Nat.reduceLeDiff, Nat.reduceAdd, i1_0, rr_c3, zc9, oc9, zc10, oc10, zc11, oc11, zc12, oc12, zc13, oc13, zc15, oc15, Int32.lt_irrefl, Nat.zero_lt_one, Rt_cons, Rt_void, isB_0, isB_1, isB_b, true_and, and_true, cats_nil, cats_int, cats_ref, and_self, if_true, if_false, ite_self, le_nlt, ite_not, c9, c10, c11, c12, c13, c15, aT_10, aT_11, aT_12, aT_13, aT_15, aN_10, aN_11, aN_12, aN_13, aN_15, q, aT_7, aN_7, r7, in7 hg, cl10 (show g < 10000 by omega), crow, c7, hk, k1, not_true_eq_false]
      · simp only [aX5_takeTurn_56, aX5_takeTurn_58, aX5_takeTurn_61, aX5_takeTurn_62, aX5_takeTurn_65, aX5_takeTurn_68, aX5_takeTurn_69, aX5_takeTurn_70, aX5_takeTurn_71, aX5_takeTurn_74, aX5_takeTurn_75, aX5_takeTurn_77, aX5_takeTurn_78, aX5_takeTurn_81, Nat.zero_le, Nat.reduceLeDiff, Nat.reduceAdd, i1_0, rr_c3, zc9, oc9, zc10, oc10, zc11, oc11, zc12, oc12, zc13, oc13, zc15, oc15, Int32.lt_irrefl, Nat.zero_lt_one, Rt_cons, Rt_void, isB_0, isB_1, isB_b, true_and, and_true, cats_nil, cats_int, cats_ref, and_self, if_true, if_false, ite_self, le_nlt, ite_not, c9, c10, c11, c12, c13, c15, aT_10, aT_11, aT_12, aT_13, aT_15, aN_10, aN_11, aN_12, aN_13, aN_15, q, aT_7, aN_7, r7, in7 hg, cl10 (show g < 10000 by omega), crow, c7, hk, k1, not_false_eq_true]
    rw [hA]
    simp only [aX5_takeTurn_83, aX5_takeTurn_85, aX5_takeTurn_86, aX5_takeTurn_89, aX5_takeTurn_90, aX5_takeTurn_93, aX5_takeTurn_94, aX5_takeTurn_97, aX5_takeTurn_98, aX5_takeTurn_99, aX5_takeTurn_101, aX5_takeTurn_102, aX5_takeTurn_105, aX5_takeTurn_106, aX5_takeTurn_107, aX5_takeTurn_108, Nat.zero_le, Nat.reduceLeDiff, Nat.reduceAdd, i1_0, rr_c3, zc9, oc9, zc10, oc10, zc11, oc11, zc12, oc12, zc13, oc13, zc15, oc15, Int32.lt_irrefl, Nat.zero_lt_one, Rt_cons, Rt_void, isB_0, isB_1, isB_b, true_and, and_true, cats_nil, cats_int, cats_ref, and_self, if_true, if_false, ite_self, le_nlt, ite_not, c9, c10, c11, c12, c13, c15, aT_10, aT_11, aT_12, aT_13, aT_15, aN_10, aN_11, aN_12, aN_13, aN_15, in7 hj, cl10 (show j < 10000 by omega), c10', cj.1, min_eq (9999 : Int32), ← hd]
    rw [aX5_takeTurn_110 hi, sp_cryOut hi hc he h5 (s4.trans h6)]
    simp only [aX5_takeTurn_113, Nat.zero_le, Nat.reduceLeDiff, Nat.reduceAdd, i1_0, rr_c3, zc9, oc9, zc10, oc10, zc11, oc11, zc12, oc12, zc13, oc13, zc15, oc15, Int32.lt_irrefl, Nat.zero_lt_one, Rt_cons, Rt_void, isB_0, isB_1, isB_b, true_and, and_true, cats_nil, cats_int, cats_ref, and_self, if_true, if_false, ite_self, le_nlt, ite_not]
  · have l0 := hl q
    subst l0
    have ea : (if kd = 1 then 2 * (0 : Int32) else 0) = 0 := by split <;> rfl
    have eW : upd (upd w 1 (w 1 - pd)) (64 + 5 * j) (if 9999 < w (64 + 5 * j) + (if kd = 1 then 2 * (0 : Int32) else 0) then 9999 else w (64 + 5 * j) + (if kd = 1 then 2 * (0 : Int32) else 0)) = upd w 1 (w 1 - pd) := by
      rw [ea, Int32.add_zero, if_neg hd9]
      exact upd_self (by rw [upd_ne (by omega)])
    rw [if_neg q, eW, upd_eq]
    have e0 : upd w 1 (w 1 - pd) (64 + 5 * j) = w (64 + 5 * j) := upd_ne (by omega)
    rw [e0]
    by_cases q1 : 0 < w (64 + 5 * j)
    · by_cases q2 : 0 < w 1 - pd
      · rw [if_pos ⟨q1, q2⟩]
        refine ⟨upS (upS (upS σ 9 i 2 (w 1 - pd)) 9 i 2 (w 1 - pd - 1)) 10 i j (w (64 + 5 * j) - 1), .null, fun fs Q => ?_, CS_sd (CS_s h) hj, Fr_trans (Fr_trans (Fr_upS (by omega) (by omega)) (Fr_upS (by omega) (by omega))) (Fr_upS (by omega) (by omega))⟩
        have c10'' : ∀ x y, upS (upS σ 9 i 2 x) 9 i 2 y 10 i = σ 10 i := fun x y => by rw [upS_ne (by omega), upS_ne (by omega)]
        simp only [aX5_takeTurn_56, aX5_takeTurn_58, aX5_takeTurn_116, aX5_takeTurn_117, aX5_takeTurn_120, aX5_takeTurn_121, aX5_takeTurn_122, aX5_takeTurn_125, aX5_takeTurn_126, aX5_takeTurn_129, aX5_takeTurn_132, aX5_takeTurn_133i, aX5_takeTurn_133a, aX5_takeTurn_134, aX5_takeTurn_137, aX5_takeTurn_138, aX5_takeTurn_139, aX5_takeTurn_142, aX5_takeTurn_143, aX5_takeTurn_146, aX5_takeTurn_147, aX5_takeTurn_148, aX5_takeTurn_149, aX5_takeTurn_150, aX5_takeTurn_151, Nat.zero_le, Nat.reduceLeDiff, Nat.reduceAdd, i1_0, rr_c3, zc9, oc9, zc10, oc10, zc11, oc11, zc12, oc12, zc13, oc13, zc15, oc15, Int32.lt_irrefl, Nat.zero_lt_one, Rt_cons, Rt_void, isB_0, isB_1, isB_b, true_and, and_true, cats_nil, cats_int, cats_ref, and_self, if_true, if_false, ite_self, le_nlt, ite_not, c9, c10, c11, c12, c13, c15, aT_10, aT_11, aT_12, aT_13, aT_15, aN_10, aN_11, aN_12, aN_13, aN_15, q, in7 hj, cl10 (show j < 10000 by omega), c10', c10'', cj.1, cst, q1, q2]
      · rw [if_neg (fun z => q2 z.2)]
        refine ⟨upS σ 9 i 2 (w 1 - pd), .null, fun fs Q => ?_, CS_s h, Fr_upS (by omega) (by omega)⟩
        simp only [aX5_takeTurn_56, aX5_takeTurn_58, aX5_takeTurn_116, aX5_takeTurn_117, aX5_takeTurn_120, aX5_takeTurn_121, aX5_takeTurn_122, aX5_takeTurn_125, aX5_takeTurn_126, aX5_takeTurn_129, aX5_takeTurn_132, aX5_takeTurn_133i, aX5_takeTurn_133a, aX5_takeTurn_134, aX5_takeTurn_137, aX5_takeTurn_138, aX5_takeTurn_139, aX5_takeTurn_142, aX5_takeTurn_143, aX5_takeTurn_146, aX5_takeTurn_147, aX5_takeTurn_148, aX5_takeTurn_149, aX5_takeTurn_150, aX5_takeTurn_151, Nat.zero_le, Nat.reduceLeDiff, Nat.reduceAdd, i1_0, rr_c3, zc9, oc9, zc10, oc10, zc11, oc11, zc12, oc12, zc13, oc13, zc15, oc15, Int32.lt_irrefl, Nat.zero_lt_one, Rt_cons, Rt_void, isB_0, isB_1, isB_b, true_and, and_true, cats_nil, cats_int, cats_ref, and_self, if_true, if_false, ite_self, le_nlt, ite_not, c9, c10, c11, c12, c13, c15, aT_10, aT_11, aT_12, aT_13, aT_15, aN_10, aN_11, aN_12, aN_13, aN_15, q, in7 hj, cl10 (show j < 10000 by omega), c10', cj.1, cst, q1, q2]
    · rw [if_neg (fun z => q1 z.1)]
      refine ⟨upS σ 9 i 2 (w 1 - pd), .null, fun fs Q => ?_, CS_s h, Fr_upS (by omega) (by omega)⟩
      simp only [aX5_takeTurn_56, aX5_takeTurn_58, aX5_takeTurn_116, aX5_takeTurn_117, aX5_takeTurn_120, aX5_takeTurn_121, aX5_takeTurn_122, aX5_takeTurn_125, aX5_takeTurn_126, aX5_takeTurn_129, aX5_takeTurn_132, aX5_takeTurn_133i, aX5_takeTurn_133a, aX5_takeTurn_134, aX5_takeTurn_137, aX5_takeTurn_138, aX5_takeTurn_139, aX5_takeTurn_142, aX5_takeTurn_143, aX5_takeTurn_146, aX5_takeTurn_147, aX5_takeTurn_148, aX5_takeTurn_149, aX5_takeTurn_150, aX5_takeTurn_151, Nat.zero_le, Nat.reduceLeDiff, Nat.reduceAdd, i1_0, rr_c3, zc9, oc9, zc10, oc10, zc11, oc11, zc12, oc12, zc13, oc13, zc15, oc15, Int32.lt_irrefl, Nat.zero_lt_one, Rt_cons, Rt_void, isB_0, isB_1, isB_b, true_and, and_true, cats_nil, cats_int, cats_ref, and_self, if_true, if_false, ite_self, le_nlt, ite_not, c9, c10, c11, c12, c13, c15, aT_10, aT_11, aT_12, aT_13, aT_15, aN_10, aN_11, aN_12, aN_13, aN_15, q, in7 hj, cl10 (show j < 10000 by omega), c10', cj.1, cst, q1]
end S57
