-- State.copyFrom: State j becomes State i
def cpS (i j s : Nat) (τ : Mem) : Mem := upS τ 9 j s (τ 9 i s)
def cpK (i j n k : Nat) (τ : Mem) : Mem := updK τ k j (va_cpy (τ k i) (τ k j) 0 0 n)
def cp9 (σ : Mem) (j i : Nat) : Mem := cpS i j 5 (cpS i j 4 (cpS i j 3 (cpS i j 2 (cpS i j 1 (upS σ 9 j 0 (nI (rr (σ 9 i 0))))))))
def cpF (σ : Mem) (j i : Nat) : Mem := cpK i j 60 15 (cpK i j 7 13 (cpK i j 7 12 (cpK i j 7 11 (cpK i j 7 10 (cpK i j 7 14 (cp9 σ j i))))))
theorem cpF_ne {σ : Mem} {i j k n : Nat} (h : ¬ (9 ≤ k ∧ k ≤ 15 ∧ n = j)) : cpF σ j i k n = σ k n := by
  have h9 : ¬ (k = 9 ∧ n = j) := fun z => h ⟨by omega, by omega, z.2⟩
  have h10 : ¬ (k = 10 ∧ n = j) := fun z => h ⟨by omega, by omega, z.2⟩
  have h11 : ¬ (k = 11 ∧ n = j) := fun z => h ⟨by omega, by omega, z.2⟩
  have h12 : ¬ (k = 12 ∧ n = j) := fun z => h ⟨by omega, by omega, z.2⟩
  have h13 : ¬ (k = 13 ∧ n = j) := fun z => h ⟨by omega, by omega, z.2⟩
  have h14 : ¬ (k = 14 ∧ n = j) := fun z => h ⟨by omega, by omega, z.2⟩
  have h15 : ¬ (k = 15 ∧ n = j) := fun z => h ⟨by omega, by omega, z.2⟩
  unfold cpF cpK cp9 cpS
  rw [updK_ne h15, updK_ne h13, updK_ne h12, updK_ne h11, updK_ne h10, updK_ne h14, upS_ne h9, upS_ne h9, upS_ne h9, upS_ne h9, upS_ne h9, upS_ne h9]
theorem cpF_9 {σ : Mem} {i j : Nat} (hij : ¬ i = j) : cpF σ j i 9 j = upd (upd (upd (upd (upd (upd (σ 9 j) 0 (nI (rr (σ 9 i 0)))) 1 (σ 9 i 1)) 2 (σ 9 i 2)) 3 (σ 9 i 3)) 4 (σ 9 i 4)) 5 (σ 9 i 5) := by
  unfold cpF cpK cp9 cpS
  rw [updK_ne (by omega), updK_ne (by omega), updK_ne (by omega), updK_ne (by omega), updK_ne (by omega), updK_ne (by omega)]
  simp only [upS_eq, upS_ne (fun z : (9 = 9 ∧ i = j) => hij z.2)]
theorem cpF_k {σ : Mem} {i j k h : Nat} (hij : ¬ i = j) (hk : 10 ≤ k ∧ k ≤ 14) (hh : h < 7) : cpF σ j i k j h = σ k i h := by
  have hv : ∀ (τ : Mem) (k' k2 : Nat) (f : Nat → Int32), updK τ k' j f k2 i = τ k2 i := fun τ k' k2 f => updK_ne (fun z => hij z.2)
  have hu : ∀ (τ : Mem) (k' k2 s : Nat) (x : Int32), upS τ k' j s x k2 i = τ k2 i := fun τ k' k2 s x => upS_ne (fun z => hij z.2)
  have c9 : ∀ k2, cp9 σ j i k2 i = σ k2 i := fun k2 => by
    unfold cp9 cpS
    simp only [hu]
  unfold cpF cpK
  rcases (show k = 10 ∨ k = 11 ∨ k = 12 ∨ k = 13 ∨ k = 14 by omega) with rfl | rfl | rfl | rfl | rfl
  · rw [updK_ne (by omega), updK_ne (by omega), updK_ne (by omega), updK_ne (by omega), updK_eq, pk_cpy_in (by omega) (by omega)]
    simp only [hv, c9, Nat.zero_add, Nat.sub_zero]
  · rw [updK_ne (by omega), updK_ne (by omega), updK_ne (by omega), updK_eq, pk_cpy_in (by omega) (by omega)]
    simp only [hv, c9, Nat.zero_add, Nat.sub_zero]
  · rw [updK_ne (by omega), updK_ne (by omega), updK_eq, pk_cpy_in (by omega) (by omega)]
    simp only [hv, c9, Nat.zero_add, Nat.sub_zero]
  · rw [updK_ne (by omega), updK_eq, pk_cpy_in (by omega) (by omega)]
    simp only [hv, c9, Nat.zero_add, Nat.sub_zero]
  · rw [updK_ne (by omega), updK_ne (by omega), updK_ne (by omega), updK_ne (by omega), updK_ne (by omega), updK_eq, pk_cpy_in (by omega) (by omega)]
    simp only [hv, c9, Nat.zero_add, Nat.sub_zero]
theorem cpF_15 {σ : Mem} {i j h : Nat} (hij : ¬ i = j) (hh : h < 60) : cpF σ j i 15 j h = σ 15 i h := by
  have hv : ∀ (τ : Mem) (k' k2 : Nat) (f : Nat → Int32), updK τ k' j f k2 i = τ k2 i := fun τ k' k2 f => updK_ne (fun z => hij z.2)
  have hu : ∀ (τ : Mem) (k' k2 s : Nat) (x : Int32), upS τ k' j s x k2 i = τ k2 i := fun τ k' k2 s x => upS_ne (fun z => hij z.2)
  have c9 : ∀ k2, cp9 σ j i k2 i = σ k2 i := fun k2 => by
    unfold cp9 cpS
    simp only [hu]
  unfold cpF cpK
  rw [updK_eq, pk_cpy_in (by omega) (by omega)]
  simp only [hv, c9, Nat.zero_add, Nat.sub_zero]
theorem rr_nI (x : Int32) : rr (nI (rr x)) = rr x := by
  have := rr_lt x
  rcases (show rr x = 0 ∨ rr x = 1 by omega) with h | h <;> rw [h] <;> rfl
theorem cpF_row {σ : Mem} {i j : Nat} (hij : ¬ i = j) : rr (cpF σ j i 9 j 0) = rr (σ 9 i 0) := by
  rw [cpF_9 hij]
  exact rr_nI _
theorem CS_copy {σ : Mem} {i j : Nat} {w : Nat → Int32} (hij : ¬ i = j) (h : CS σ i w) : CS (cpF σ j i) j w := by
  obtain ⟨h1, h2, h3, h4, ⟨c, d, hc, hd, h5, h6, h7⟩, h8⟩ := h
  have e9 := cpF_9 (σ := σ) hij
  refine ⟨by rw [e9]; exact h1, by rw [e9]; exact h2, by rw [e9]; exact h3, by rw [e9]; exact h4, ⟨c, d, hc, hd, by rw [e9]; exact h5, h6, fun a ha t ht => by rw [cpF_15 hij (by omega)]; exact h7 a ha t ht⟩, fun h hh => ?_⟩
  rw [cpF_k hij (by omega) hh, cpF_k hij (by omega) hh, cpF_k hij (by omega) hh, cpF_k hij (by omega) hh, cpF_k hij (by omega) hh]
  exact h8 h hh
theorem sp_copyFrom {σ : Mem} {i j : Nat} {fs : List Fm} {Q : List va_E → Option Value → Prop} (hi : i < 34) (hj : j < 34) (hij : ¬ i = j) (hb : ∀ h, h < 7 → σ 14 i h = 0 ∨ σ 14 i h = 1) : Rn mX5_copyFrom 0 [.ref (ad 9 j), .ref (ad 9 i)] [] fs (enc σ) Q ↔ Rt fs (enc (cpF σ j i)) none Q := by
  have ci : i < cnt 9 := hi
  have cj : j < cnt 9 := hj
  have hv : ∀ (τ : Mem) (k' k2 : Nat) (f : Nat → Int32), updK τ k' j f k2 i = τ k2 i := fun τ k' k2 f => updK_ne (fun z => hij z.2)
  have hu : ∀ (τ : Mem) (k' k2 s : Nat) (x : Int32), upS τ k' j s x k2 i = τ k2 i := fun τ k' k2 s x => upS_ne (fun z => hij z.2)
  have c9 : ∀ k2, cp9 σ j i k2 i = σ k2 i := fun k2 => by
    unfold cp9 cpS
    simp only [hu]
  have hcp : ∀ (τ : Mem), emS (τ 14 i) = emS (va_cpy (τ 14 i) (τ 14 j) 0 0 7) := fun τ => emS_congr (fun k hk => by
    rw [pk_cpy_in (by omega) (by omega)]
    simp only [Nat.zero_add, Nat.sub_zero])
  simp only [aX5_copyFrom_0, aX5_copyFrom_1, aX5_copyFrom_2, aX5_copyFrom_5, aX5_copyFrom_8, aX5_copyFrom_9, aX5_copyFrom_10, aX5_copyFrom_13, aX5_copyFrom_16, aX5_copyFrom_17, aX5_copyFrom_18, aX5_copyFrom_21, aX5_copyFrom_24, aX5_copyFrom_25, aX5_copyFrom_26, aX5_copyFrom_29, aX5_copyFrom_32, aX5_copyFrom_33, aX5_copyFrom_34, aX5_copyFrom_37, aX5_copyFrom_40, aX5_copyFrom_41, aX5_copyFrom_42, aX5_copyFrom_45, aX5_copyFrom_48, aX5_copyFrom_49, aX5_copyFrom_50, Nat.zero_le, Nat.reduceLeDiff, Nat.reduceAdd, i1_0, rr_c3, zc9, oc9, zc10, oc10, zc11, oc11, zc12, oc12, zc13, oc13, zc15, oc15, Int32.lt_irrefl, Nat.zero_lt_one, Rt_cons, Rt_void, isB_0, isB_1, isB_b, true_and, and_true, cats_nil, cats_int, cats_ref, and_self, if_true, if_false, ite_self, le_nlt, ite_not, ci, cj, rr_lt]
  rw [aX5_copyFrom_53 hj (hcp _)]
  simp only [aX5_copyFrom_56, aX5_copyFrom_57, aX5_copyFrom_60, aX5_copyFrom_61, aX5_copyFrom_62, aX5_copyFrom_65, aX5_copyFrom_66, Nat.zero_le, Nat.reduceLeDiff, Nat.reduceAdd, i1_0, rr_c3, zc9, oc9, zc10, oc10, zc11, oc11, zc12, oc12, zc13, oc13, zc15, oc15, Int32.lt_irrefl, Nat.zero_lt_one, Rt_cons, Rt_void, isB_0, isB_1, isB_b, true_and, and_true, cats_nil, cats_int, cats_ref, and_self, if_true, if_false, ite_self, le_nlt, ite_not, ci, cj]
  rw [aX5_copyFrom_68 (by decide) (by decide) hi hj (by decide) (fun q _ => rfl)]
  simp only [aX5_copyFrom_71, aX5_copyFrom_72, aX5_copyFrom_75, aX5_copyFrom_76, aX5_copyFrom_77, aX5_copyFrom_80, aX5_copyFrom_81, Nat.zero_le, Nat.reduceLeDiff, Nat.reduceAdd, i1_0, rr_c3, zc9, oc9, zc10, oc10, zc11, oc11, zc12, oc12, zc13, oc13, zc15, oc15, Int32.lt_irrefl, Nat.zero_lt_one, Rt_cons, Rt_void, isB_0, isB_1, isB_b, true_and, and_true, cats_nil, cats_int, cats_ref, and_self, if_true, if_false, ite_self, le_nlt, ite_not, ci, cj]
  rw [aX5_copyFrom_83 (by decide) (by decide) hi hj (by decide) (fun q _ => rfl)]
  simp only [aX5_copyFrom_86, aX5_copyFrom_87, aX5_copyFrom_90, aX5_copyFrom_91, aX5_copyFrom_92, aX5_copyFrom_95, aX5_copyFrom_96, Nat.zero_le, Nat.reduceLeDiff, Nat.reduceAdd, i1_0, rr_c3, zc9, oc9, zc10, oc10, zc11, oc11, zc12, oc12, zc13, oc13, zc15, oc15, Int32.lt_irrefl, Nat.zero_lt_one, Rt_cons, Rt_void, isB_0, isB_1, isB_b, true_and, and_true, cats_nil, cats_int, cats_ref, and_self, if_true, if_false, ite_self, le_nlt, ite_not, ci, cj]
  rw [aX5_copyFrom_98 (by decide) (by decide) hi hj (by decide) (fun q _ => rfl)]
  simp only [aX5_copyFrom_101, aX5_copyFrom_102, aX5_copyFrom_105, aX5_copyFrom_106, aX5_copyFrom_107, aX5_copyFrom_110, aX5_copyFrom_111, Nat.zero_le, Nat.reduceLeDiff, Nat.reduceAdd, i1_0, rr_c3, zc9, oc9, zc10, oc10, zc11, oc11, zc12, oc12, zc13, oc13, zc15, oc15, Int32.lt_irrefl, Nat.zero_lt_one, Rt_cons, Rt_void, isB_0, isB_1, isB_b, true_and, and_true, cats_nil, cats_int, cats_ref, and_self, if_true, if_false, ite_self, le_nlt, ite_not, ci, cj]
  rw [aX5_copyFrom_113 (by decide) (by decide) hi hj (by decide) (fun q _ => rfl)]
  simp only [aX5_copyFrom_116, aX5_copyFrom_117, aX5_copyFrom_120, aX5_copyFrom_121, aX5_copyFrom_122, aX5_copyFrom_125, aX5_copyFrom_126, Nat.zero_le, Nat.reduceLeDiff, Nat.reduceAdd, i1_0, rr_c3, zc9, oc9, zc10, oc10, zc11, oc11, zc12, oc12, zc13, oc13, zc15, oc15, Int32.lt_irrefl, Nat.zero_lt_one, Rt_cons, Rt_void, isB_0, isB_1, isB_b, true_and, and_true, cats_nil, cats_int, cats_ref, and_self, if_true, if_false, ite_self, le_nlt, ite_not, ci, cj]
  rw [aX5_copyFrom_128 (by decide) (by decide) hi hj (by decide) (fun q _ => rfl)]
  simp only [aX5_copyFrom_131, Nat.zero_le, Nat.reduceLeDiff, Nat.reduceAdd, i1_0, rr_c3, zc9, oc9, zc10, oc10, zc11, oc11, zc12, oc12, zc13, oc13, zc15, oc15, Int32.lt_irrefl, Nat.zero_lt_one, Rt_cons, Rt_void, isB_0, isB_1, isB_b, true_and, and_true, cats_nil, cats_int, cats_ref, and_self, if_true, if_false, ite_self, le_nlt, ite_not]
  rfl
