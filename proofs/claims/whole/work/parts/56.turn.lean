-- the class's turn of a house
/-- only State i has changed, and not its row -/
def Fr (σ τ : Mem) (i : Nat) : Prop := (∀ k n, ¬ (9 ≤ k ∧ k ≤ 15 ∧ n = i) → τ k n = σ k n) ∧ τ 9 i 0 = σ 9 i 0
theorem Fr_refl {σ : Mem} {i : Nat} : Fr σ σ i := ⟨fun _ _ _ => rfl, rfl⟩
theorem Fr_trans {σ τ υ : Mem} {i : Nat} (h1 : Fr σ τ i) (h2 : Fr τ υ i) : Fr σ υ i := ⟨fun k n h => (h2.1 k n h).trans (h1.1 k n h), h2.2.trans h1.2⟩
theorem Fr_upS {σ : Mem} {k i j : Nat} {x : Int32} (hk : 9 ≤ k ∧ k ≤ 15) (hj : ¬ (k = 9 ∧ j = 0)) : Fr σ (upS σ k i j x) i := by
  refine ⟨fun k' n h => upS_ne (by omega), ?_⟩
  by_cases h9 : k = 9
  · subst h9
    rw [upS_eq, upd_ne (by omega)]
  · rw [upS_ne (by omega)]
theorem upd_self {f : Nat → Int32} {a : Nat} {x : Int32} (h : x = f a) : upd f a x = f := by
  funext k
  unfold upd
  split
  · rename_i e; rw [h, e]
  · rfl
theorem CS_sd {σ : Mem} {i j : Nat} {x y : Int32} {w : Nat → Int32} (h : CS σ i w) (hj : j < 7) : CS (upS (upS σ 9 i 2 x) 10 i j y) i (upd (upd w 1 x) (64 + 5 * j) y) := by
  have eP : ∀ k, k ≠ 9 → k ≠ 10 → upS (upS σ 9 i 2 x) 10 i j y k i = σ k i := fun k d f => by rw [upS_ne (by omega), upS_ne (by omega)]
  have eP9 : upS (upS σ 9 i 2 x) 10 i j y 9 i = upd (σ 9 i) 2 x := by rw [upS_ne (by omega), upS_eq]
  have eP10 : upS (upS σ 9 i 2 x) 10 i j y 10 i = upd (σ 10 i) j y := by rw [upS_eq, upS_ne (by omega)]
  have eW : ∀ a, ¬ a = 1 → ¬ a = 64 + 5 * j → upd (upd w 1 x) (64 + 5 * j) y a = w a := fun a p q => by rw [upd_ne q, upd_ne p]
  refine CS_intro h (by rw [eP9, eW _ (by omega) (by omega)]; exact h.1) (by rw [eP9, upd_eq, upd_ne (by omega), upd_eq]) (by rw [eP9, eW _ (by omega) (by omega)]; exact h.2.2.1) (by rw [eP9]; rfl) (by rw [eP9]; rfl) (eP 15 (by omega) (by omega)) (fun t a b => eW _ (by omega) (by omega)) (fun k hk => ?_)
  have ck := h.2.2.2.2.2 k hk
  by_cases hkj : k = j
  · subst hkj
    rw [eP 11 (by omega) (by omega), eP 12 (by omega) (by omega), eP 13 (by omega) (by omega), eP 14 (by omega) (by omega), eP10, upd_eq, upd_eq, eW _ (by omega) (by omega), eW (64 + 5 * k + 3) (by omega) (by omega), eW (64 + 5 * k + 4) (by omega) (by omega), eW (64 + 5 * k + 1) (by omega) (by omega)]
    exact ⟨rfl, ck.2⟩
  · exact Ch_congr (w := w) ck (by rw [eP10, upd_ne hkj]) (by rw [eP 11 (by omega) (by omega)]) (by rw [eP 12 (by omega) (by omega)]) (by rw [eP 13 (by omega) (by omega)]) (by rw [eP 14 (by omega) (by omega)]) (fun t ht => eW _ (by omega) (by omega))
theorem CS_s {σ : Mem} {i : Nat} {x : Int32} {w : Nat → Int32} (h : CS σ i w) : CS (upS σ 9 i 2 x) i (upd w 1 x) := by
  have eP : ∀ k, k ≠ 9 → upS σ 9 i 2 x k i = σ k i := fun k d => by rw [upS_ne (by omega)]
  have eP9 : upS σ 9 i 2 x 9 i = upd (σ 9 i) 2 x := by rw [upS_eq]
  refine CS_intro h (by rw [eP9, upd_ne (by omega)]; exact h.1) (by rw [eP9, upd_eq, upd_eq]) (by rw [eP9, upd_ne (by omega)]; exact h.2.2.1) (by rw [eP9]; rfl) (by rw [eP9]; rfl) (eP 15 (by omega)) (fun t a b => upd_ne (by omega)) (fun k hk => ?_)
  have ck := h.2.2.2.2.2 k hk
  exact Ch_congr (w := w) ck (by rw [eP 10 (by omega)]) (by rw [eP 11 (by omega)]) (by rw [eP 12 (by omega)]) (by rw [eP 13 (by omega)]) (by rw [eP 14 (by omega)]) (fun t ht => upd_ne (by omega))
theorem CS_put {σ : Mem} {i j : Nat} {w : Nat → Int32} (h : CS σ i w) (hj : j < 7) : CS (putC σ i j) i (putW w j) := by
  have eP : ∀ k, k ≠ 9 → k ≠ 14 → putC σ i j k i = σ k i := fun k d f => by unfold putC; rw [upS_ne (by omega), upS_ne (by omega)]
  have eP9 : putC σ i j 9 i = upd (σ 9 i) 3 (w 2 + 1) := by unfold putC; rw [upS_eq, upS_ne (by omega), h.2.2.1]
  have eP14 : putC σ i j 14 i = upd (σ 14 i) j 1 := by unfold putC; rw [upS_ne (by omega), upS_eq]
  have e1 : putW w j (64 + 5 * j + 1) = 2 := by unfold putW; rw [upd_ne (by omega), upd_eq]
  refine CS_intro h (by rw [eP9, putW_ne (by omega) (by omega)]; exact h.1) (by rw [eP9, putW_ne (by omega) (by omega)]; exact h.2.1) (by rw [eP9]; unfold putW; rw [upd_eq, upd_eq]) (by rw [eP9]; rfl) (by rw [eP9]; rfl) (eP 15 (by omega) (by omega)) (fun t a b => putW_ne (by omega) (by omega)) (fun k hk => ?_)
  have ck := h.2.2.2.2.2 k hk
  by_cases hkj : k = j
  · subst hkj
    rw [eP 10 (by omega) (by omega), eP 11 (by omega) (by omega), eP 12 (by omega) (by omega), eP 13 (by omega) (by omega), eP14, upd_eq, e1, putW_ne (by omega) (by omega), putW_ne (a := 64 + 5 * k + 2) (by omega) (by omega), putW_ne (a := 64 + 5 * k + 3) (by omega) (by omega), putW_ne (a := 64 + 5 * k + 4) (by omega) (by omega)]
    exact ⟨ck.1, ck.2.1, ck.2.2.1, ck.2.2.2.1, Or.inr rfl, rfl⟩
  · exact Ch_congr (w := w) ck (by rw [eP 10 (by omega) (by omega)]) (by rw [eP 11 (by omega) (by omega)]) (by rw [eP 12 (by omega) (by omega)]) (by rw [eP 13 (by omega) (by omega)]) (by rw [eP14, upd_ne hkj]) (fun t ht => putW_ne (by omega) (by omega))
theorem Fr_put {σ : Mem} {i j : Nat} : Fr σ (putC σ i j) i := by
  unfold putC
  exact Fr_trans (Fr_upS (by omega) (by omega)) (Fr_upS (by omega) (by omega))
/-- cryOut with nextCry c, cries d -/
def cryC (σ : Mem) (i c d : Nat) (h l : Int32) : Mem := upS (upS (updK σ 15 i (upd (upd (upd (σ 15 i) (3 * c) (σ 9 i 1)) (3 * c + 1) h) (3 * c + 2) l)) 9 i 5 (nI ((c + 1) % 20))) 9 i 4 (nI (if d = 20 then 20 else d + 1))
theorem Fr_cry {σ : Mem} {i c d : Nat} {h l : Int32} : Fr σ (cryC σ i c d h l) i := by
  unfold cryC
  refine ⟨fun k n q => ?_, ?_⟩
  · rw [upS_ne (by omega), upS_ne (by omega), updK_ne (by omega)]
  · rw [upS_eq, upd_ne (by omega), upS_eq, upd_ne (by omega), updK_ne (by omega)]
section S56
variable {σ : Mem} {fs : List Fm} {M : List va_E} {Q : List va_E → Option Value → Prop}
theorem sp_cryOut {i c d : Nat} {h l : Int32} (hi : i < 34) (hc : c < 20) (hd : d ≤ 20) (e5 : σ 9 i 5 = nI c) (e4 : σ 9 i 4 = nI d) : Rn mX5_cryOut 0 [.ref (ad 9 i), .int h, .int l] [] fs (enc σ) Q ↔ Rt fs (enc (cryC σ i c d h l)) none Q := by
  have c9 : i < cnt 9 := hi
  have c10 : i < cnt 10 := hi
  have c11 : i < cnt 11 := hi
  have c12 : i < cnt 12 := hi
  have c13 : i < cnt 13 := hi
  have c15 : i < cnt 15 := hi
  have n20 : ¬ (20 : Int32) = 0 := by decide
  have er : nI (c + 1) - nI (c + 1) / 20 * 20 = nI ((c + 1) % 20) := pk_rem (d := 20) (by omega) (by omega) (by omega)
  have v0 : vp_in (nI (3 * c)) 60 := vp_in_nI (by omega) (by decide)
  have v1 : vp_in (nI (3 * c + 1)) 60 := vp_in_nI (by omega) (by decide)
  have v2 : vp_in (nI (3 * c + 2)) 60 := vp_in_nI (by omega) (by decide)
  have f9 : ∀ f, updK σ 15 i f 9 i = σ 9 i := fun f => updK_ne (by omega)
  have em : (if nI (d + 1) < 20 then nI (d + 1) else 20) = nI (if d = 20 then 20 else d + 1) := by
    by_cases h20 : d = 20
    · subst h20; rfl
    · rw [if_neg h20]
      by_cases h19 : d = 19
      · subst h19; rfl
      · rw [if_pos (show nI (d + 1) < 20 from nI_lt (b := 20) (by omega) (by decide))]
  have e54 : ∀ x, upd (σ 9 i) 5 x 4 = nI d := fun x => by rw [upd_ne (by omega), e4]
  simp only [aX5_cryOut_0, aX5_cryOut_1, aX5_cryOut_4, aX5_cryOut_5, aX5_cryOut_6, aX5_cryOut_9, aX5_cryOut_10, aX5_cryOut_11, aX5_cryOut_14, aX5_cryOut_15, aX5_cryOut_16, aX5_cryOut_19, aX5_cryOut_20, aX5_cryOut_21, aX5_cryOut_24, aX5_cryOut_25, aX5_cryOut_26, aX5_cryOut_27, aX5_cryOut_28, aX5_cryOut_29, aX5_cryOut_30, aX5_cryOut_33, aX5_cryOut_34, aX5_cryOut_35, aX5_cryOut_38, aX5_cryOut_39, aX5_cryOut_40, aX5_cryOut_41, aX5_cryOut_42, aX5_cryOut_43, aX5_cryOut_44, aX5_cryOut_45, aX5_cryOut_48, aX5_cryOut_49, aX5_cryOut_50, aX5_cryOut_52, aX5_cryOut_53, aX5_cryOut_56, aX5_cryOut_57, aX5_cryOut_59, aX5_cryOut_60, aX5_cryOut_63, aX5_cryOut_64, aX5_cryOut_65, aX5_cryOut_68, aX5_cryOut_71, Nat.zero_le, Nat.reduceLeDiff, Nat.reduceAdd, i1_0, rr_c3, zc9, oc9, zc10, oc10, zc11, oc11, zc12, oc12, zc13, oc13, zc15, oc15, Int32.lt_irrefl, Nat.zero_lt_one, Rt_cons, Rt_void, isB_0, isB_1, isB_b, true_and, and_true, cats_nil, cats_int, cats_ref, and_self, if_true, if_false, ite_self, le_nlt, ite_not, c9, c10, c11, c12, c13, c15, aT_10, aT_11, aT_12, aT_13, aT_15, aN_10, aN_11, aN_12, aN_13, aN_15, e5, n3, nI_1, nI_2, v0, v1, v2, cl10 (show 3 * c < 10000 by omega), cl10 (show 3 * c + 1 < 10000 by omega), cl10 (show 3 * c + 2 < 10000 by omega), n20, not_false_eq_true, er, upS_chain, updK_eq, updK_idem, f9, e54, em]
  unfold cryC
  simp only [upS_chain, updK_eq, updK_idem, f9]
end S56
