-- State.<init>, over any cells (written by a program of mine)
def MB (M : List va_E) (a : Nat) (f0 f1 f2 f3 f4 f5 f6 : Value) (g0 g1 g2 g3 g4 : F1) : List va_E := M.set a (.inr (5, [f0, f1, f2, f3, f4, f5, f6, .ref M.length, .ref (M.length + 1), .ref (M.length + 2), .ref (M.length + 3), .ref (M.length + 4)])) ++ [.inl (0, 7, .inl g0), .inl (0, 7, .inl g1), .inl (0, 7, .inl g2), .inl (0, 7, .inl g3), .inl (0, 60, .inl g4)]
section S93
variable {M : List va_E} {a r : Nat} {f0 f1 f2 f3 f4 f5 f6 : Value} {g0 g1 g2 g3 g4 : F1}
variable {fs : List Fm} {Q : List va_E → Option Value → Prop} {st : List Value} {l0 l1 l2 : Value}
theorem MB_a (ha : a < M.length) : (MB M a f0 f1 f2 f3 f4 f5 f6 g0 g1 g2 g3 g4)[a]? = some (.inr (5, [f0, f1, f2, f3, f4, f5, f6, .ref M.length, .ref (M.length + 1), .ref (M.length + 2), .ref (M.length + 3), .ref (M.length + 4)])) := by
  unfold MB
  rw [List.getElem?_append_left (by rw [List.length_set]; exact ha), List.getElem?_set_self ha]
theorem MB_r (hr : r < M.length) (hn : ¬ a = r) : (MB M a f0 f1 f2 f3 f4 f5 f6 g0 g1 g2 g3 g4)[r]? = M[r]? := by
  unfold MB
  rw [List.getElem?_append_left (by rw [List.length_set]; exact hr), List.getElem?_set_ne hn]
theorem MB_sa {x : List va_E} {c d : va_E} : (M.set a c ++ x).set a d = (if a < M.length then M.set a d ++ x else (M.set a c ++ x).set a d) := by
  by_cases h : a < M.length
  · rw [if_pos h, List.set_append_left _ _ (by rw [List.length_set]; exact h), List.set_set]
  · rw [if_neg h]
theorem MB_0 : (MB M a f0 f1 f2 f3 f4 f5 f6 g0 g1 g2 g3 g4)[M.length]? = some (.inl (0, 7, .inl g0)) := by
  unfold MB
  rw [List.getElem?_append_right (by rw [List.length_set]; omega), List.length_set, show M.length - M.length = 0 by omega]
  rfl
theorem MB_s0 {h : F1} : (MB M a f0 f1 f2 f3 f4 f5 f6 g0 g1 g2 g3 g4).set (M.length) (.inl (0, 7, .inl h)) = MB M a f0 f1 f2 f3 f4 f5 f6 h g1 g2 g3 g4 := by
  unfold MB
  rw [List.set_append_right _ _ (by rw [List.length_set]; omega), List.length_set, show M.length - M.length = 0 by omega]
  rfl
theorem MB_1 : (MB M a f0 f1 f2 f3 f4 f5 f6 g0 g1 g2 g3 g4)[M.length + 1]? = some (.inl (0, 7, .inl g1)) := by
  unfold MB
  rw [List.getElem?_append_right (by rw [List.length_set]; omega), List.length_set, show M.length + 1 - M.length = 1 by omega]
  rfl
theorem MB_s1 {h : F1} : (MB M a f0 f1 f2 f3 f4 f5 f6 g0 g1 g2 g3 g4).set (M.length + 1) (.inl (0, 7, .inl h)) = MB M a f0 f1 f2 f3 f4 f5 f6 g0 h g2 g3 g4 := by
  unfold MB
  rw [List.set_append_right _ _ (by rw [List.length_set]; omega), List.length_set, show M.length + 1 - M.length = 1 by omega]
  rfl
theorem MB_2 : (MB M a f0 f1 f2 f3 f4 f5 f6 g0 g1 g2 g3 g4)[M.length + 2]? = some (.inl (0, 7, .inl g2)) := by
  unfold MB
  rw [List.getElem?_append_right (by rw [List.length_set]; omega), List.length_set, show M.length + 2 - M.length = 2 by omega]
  rfl
theorem MB_s2 {h : F1} : (MB M a f0 f1 f2 f3 f4 f5 f6 g0 g1 g2 g3 g4).set (M.length + 2) (.inl (0, 7, .inl h)) = MB M a f0 f1 f2 f3 f4 f5 f6 g0 g1 h g3 g4 := by
  unfold MB
  rw [List.set_append_right _ _ (by rw [List.length_set]; omega), List.length_set, show M.length + 2 - M.length = 2 by omega]
  rfl
theorem MB_3 : (MB M a f0 f1 f2 f3 f4 f5 f6 g0 g1 g2 g3 g4)[M.length + 3]? = some (.inl (0, 7, .inl g3)) := by
  unfold MB
  rw [List.getElem?_append_right (by rw [List.length_set]; omega), List.length_set, show M.length + 3 - M.length = 3 by omega]
  rfl
theorem MB_s3 {h : F1} : (MB M a f0 f1 f2 f3 f4 f5 f6 g0 g1 g2 g3 g4).set (M.length + 3) (.inl (0, 7, .inl h)) = MB M a f0 f1 f2 f3 f4 f5 f6 g0 g1 g2 h g4 := by
  unfold MB
  rw [List.set_append_right _ _ (by rw [List.length_set]; omega), List.length_set, show M.length + 3 - M.length = 3 by omega]
  rfl
theorem MB_4 : (MB M a f0 f1 f2 f3 f4 f5 f6 g0 g1 g2 g3 g4)[M.length + 4]? = some (.inl (0, 60, .inl g4)) := by
  unfold MB
  rw [List.getElem?_append_right (by rw [List.length_set]; omega), List.length_set, show M.length + 4 - M.length = 4 by omega]
  rfl
theorem MB_s4 {h : F1} : (MB M a f0 f1 f2 f3 f4 f5 f6 g0 g1 g2 g3 g4).set (M.length + 4) (.inl (0, 60, .inl h)) = MB M a f0 f1 f2 f3 f4 f5 f6 g0 g1 g2 g3 h := by
  unfold MB
  rw [List.set_append_right _ _ (by rw [List.length_set]; omega), List.length_set, show M.length + 4 - M.length = 4 by omega]
  rfl
theorem bX5_begin_2 {x : Int32} (ha : a < M.length) : Rn mX5_begin 2 [l0, l1, l2] (.ref r :: .ref a :: st) fs (MB M a f0 f1 f2 f3 f4 f5 f6 g0 g1 g2 g3 g4) Q ↔ Rn mX5_begin 5 [l0, l1, l2] st fs (MB M a (.ref r) f1 f2 f3 f4 f5 f6 g0 g1 g2 g3 g4) Q := R_put hbX5_begin hoX5_begin fl_5_31 (by
  unfold pF; rw [MB_a ha]
  show (if _ then _ else _) = _
  rw [if_pos ⟨rfl, by simp, ⟨rfl, rfl⟩, Or.inl rfl⟩]
  unfold MB
  rw [MB_sa, if_pos ha]
  rfl) dX5_begin_2
theorem bX5_begin_7 {x : Int32} (ha : a < M.length) : Rn mX5_begin 7 [l0, l1, l2] (.int x :: .ref a :: st) fs (MB M a f0 f1 f2 f3 f4 f5 f6 g0 g1 g2 g3 g4) Q ↔ Rn mX5_begin 10 [l0, l1, l2] st fs (MB M a f0 (.int x) f2 f3 f4 f5 f6 g0 g1 g2 g3 g4) Q := R_put hbX5_begin hoX5_begin fl_5_35 (by
  unfold pF; rw [MB_a ha]
  show (if _ then _ else _) = _
  rw [if_pos ⟨rfl, by simp, ⟨rfl, rfl⟩, Or.inl rfl⟩]
  unfold MB
  rw [MB_sa, if_pos ha]
  rfl) dX5_begin_7
theorem bX5_begin_12 {x : Int32} (ha : a < M.length) : Rn mX5_begin 12 [l0, l1, l2] (.int x :: .ref a :: st) fs (MB M a f0 f1 f2 f3 f4 f5 f6 g0 g1 g2 g3 g4) Q ↔ Rn mX5_begin 15 [l0, l1, l2] st fs (MB M a f0 f1 (.int x) f3 f4 f5 f6 g0 g1 g2 g3 g4) Q := R_put hbX5_begin hoX5_begin fl_5_39 (by
  unfold pF; rw [MB_a ha]
  show (if _ then _ else _) = _
  rw [if_pos ⟨rfl, by simp, ⟨rfl, rfl⟩, Or.inl rfl⟩]
  unfold MB
  rw [MB_sa, if_pos ha]
  rfl) dX5_begin_12
theorem bX5_begin_17 {x : Int32} (ha : a < M.length) : Rn mX5_begin 17 [l0, l1, l2] (.int x :: .ref a :: st) fs (MB M a f0 f1 f2 f3 f4 f5 f6 g0 g1 g2 g3 g4) Q ↔ Rn mX5_begin 20 [l0, l1, l2] st fs (MB M a f0 f1 f2 (.int x) f4 f5 f6 g0 g1 g2 g3 g4) Q := R_put hbX5_begin hoX5_begin fl_5_42 (by
  unfold pF; rw [MB_a ha]
  show (if _ then _ else _) = _
  rw [if_pos ⟨rfl, by simp, ⟨rfl, rfl⟩, Or.inl rfl⟩]
  unfold MB
  rw [MB_sa, if_pos ha]
  rfl) dX5_begin_17
theorem bX5_begin_22 {x : Int32} (ha : a < M.length) : Rn mX5_begin 22 [l0, l1, l2] (.int x :: .ref a :: st) fs (MB M a f0 f1 f2 f3 f4 f5 f6 g0 g1 g2 g3 g4) Q ↔ Rn mX5_begin 25 [l0, l1, l2] st fs (MB M a f0 f1 f2 f3 (.int x) f5 f6 g0 g1 g2 g3 g4) Q := R_put hbX5_begin hoX5_begin fl_5_45 (by
  unfold pF; rw [MB_a ha]
  show (if _ then _ else _) = _
  rw [if_pos ⟨rfl, by simp, ⟨rfl, rfl⟩, Or.inl rfl⟩]
  unfold MB
  rw [MB_sa, if_pos ha]
  rfl) dX5_begin_22
theorem bX5_begin_27 {x : Int32} (ha : a < M.length) : Rn mX5_begin 27 [l0, l1, l2] (.int x :: .ref a :: st) fs (MB M a f0 f1 f2 f3 f4 f5 f6 g0 g1 g2 g3 g4) Q ↔ Rn mX5_begin 30 [l0, l1, l2] st fs (MB M a f0 f1 f2 f3 f4 (.int x) f6 g0 g1 g2 g3 g4) Q := R_put hbX5_begin hoX5_begin fl_5_48 (by
  unfold pF; rw [MB_a ha]
  show (if _ then _ else _) = _
  rw [if_pos ⟨rfl, by simp, ⟨rfl, rfl⟩, Or.inl rfl⟩]
  unfold MB
  rw [MB_sa, if_pos ha]
  rfl) dX5_begin_27
theorem bX5_begin_32 {x : Int32} (ha : a < M.length) : Rn mX5_begin 32 [l0, l1, l2] (.int x :: .ref a :: st) fs (MB M a f0 f1 f2 f3 f4 f5 f6 g0 g1 g2 g3 g4) Q ↔ Rn mX5_begin 35 [l0, l1, l2] st fs (MB M a f0 f1 f2 f3 f4 f5 (.int x) g0 g1 g2 g3 g4) Q := R_put hbX5_begin hoX5_begin fl_5_51 (by
  unfold pF; rw [MB_a ha]
  show (if _ then _ else _) = _
  rw [if_pos ⟨rfl, by simp, ⟨rfl, rfl⟩, Or.inl rfl⟩]
  unfold MB
  rw [MB_sa, if_pos ha]
  rfl) dX5_begin_32
theorem bX5_begin_44 (ha : a < M.length) : Rn mX5_begin 44 [l0, l1, l2] (.ref a :: st) fs (MB M a f0 f1 f2 f3 f4 f5 f6 g0 g1 g2 g3 g4) Q ↔ Rn mX5_begin 47 [l0, l1, l2] (.ref M.length :: st) fs (MB M a f0 f1 f2 f3 f4 f5 f6 g0 g1 g2 g3 g4) Q := R_get hbX5_begin hoX5_begin fl_5_9 (by unfold gF; rw [MB_a ha]; rfl) dX5_begin_44
theorem bX5_begin_68 (ha : a < M.length) : Rn mX5_begin 68 [l0, l1, l2] (.ref a :: st) fs (MB M a f0 f1 f2 f3 f4 f5 f6 g0 g1 g2 g3 g4) Q ↔ Rn mX5_begin 71 [l0, l1, l2] (.ref (M.length + 1) :: st) fs (MB M a f0 f1 f2 f3 f4 f5 f6 g0 g1 g2 g3 g4) Q := R_get hbX5_begin hoX5_begin fl_5_15 (by unfold gF; rw [MB_a ha]; rfl) dX5_begin_68
theorem bX5_begin_87 (ha : a < M.length) : Rn mX5_begin 87 [l0, l1, l2] (.ref a :: st) fs (MB M a f0 f1 f2 f3 f4 f5 f6 g0 g1 g2 g3 g4) Q ↔ Rn mX5_begin 90 [l0, l1, l2] (.ref (M.length + 2) :: st) fs (MB M a f0 f1 f2 f3 f4 f5 f6 g0 g1 g2 g3 g4) Q := R_get hbX5_begin hoX5_begin fl_5_18 (by unfold gF; rw [MB_a ha]; rfl) dX5_begin_87
theorem bX5_begin_94 (ha : a < M.length) : Rn mX5_begin 94 [l0, l1, l2] (.ref a :: st) fs (MB M a f0 f1 f2 f3 f4 f5 f6 g0 g1 g2 g3 g4) Q ↔ Rn mX5_begin 97 [l0, l1, l2] (.ref (M.length + 3) :: st) fs (MB M a f0 f1 f2 f3 f4 f5 f6 g0 g1 g2 g3 g4) Q := R_get hbX5_begin hoX5_begin fl_5_21 (by unfold gF; rw [MB_a ha]; rfl) dX5_begin_94
theorem bX5_begin_50 {g : List Value} (hr : r < M.length) (hn : ¬ a = r) (hR : M[r]? = some (.inr (4, .int 0 :: .int 0 :: .int 0 :: g))) : Rn mX5_begin 50 [l0, l1, l2] (.ref r :: st) fs (MB M a f0 f1 f2 f3 f4 f5 f6 g0 g1 g2 g3 g4) Q ↔ Rn mX5_begin 53 [l0, l1, l2] (.int 0 :: st) fs (MB M a f0 f1 f2 f3 f4 f5 f6 g0 g1 g2 g3 g4) Q := R_get hbX5_begin hoX5_begin fl_5_54 (by unfold gF; rw [MB_r hr hn, hR]; rfl) dX5_begin_50
theorem bX5_begin_74 {g : List Value} (hr : r < M.length) (hn : ¬ a = r) (hR : M[r]? = some (.inr (4, .int 0 :: .int 0 :: .int 0 :: g))) : Rn mX5_begin 74 [l0, l1, l2] (.ref r :: st) fs (MB M a f0 f1 f2 f3 f4 f5 f6 g0 g1 g2 g3 g4) Q ↔ Rn mX5_begin 77 [l0, l1, l2] (.int 0 :: st) fs (MB M a f0 f1 f2 f3 f4 f5 f6 g0 g1 g2 g3 g4) Q := R_get hbX5_begin hoX5_begin fl_5_62 (by unfold gF; rw [MB_r hr hn, hR]; rfl) dX5_begin_74
theorem bX5_begin_66 {k : Nat} {x : Int32} (hk : k < 7) : Rn mX5_begin 66 [l0, l1, l2] (.int x :: .int (nI k) :: .ref M.length :: st) fs (MB M a f0 f1 f2 f3 f4 f5 f6 g0 g1 g2 g3 g4) Q ↔ Rn mX5_begin 67 [l0, l1, l2] st fs (MB M a f0 f1 f2 f3 f4 f5 f6 (upd g0 k x) g1 g2 g3 g4) Q := by
  rw [R_M (st' := st) (M1 := MB M a f0 f1 f2 f3 f4 f5 f6 (upd g0 k x) g1 g2 g3 g4) (by rw [hbX5_begin]; exact dX5_begin_66) rfl (by
    have v : ¬ (nI k < 0 ∨ 7 ≤ (nI k).toNatClampNeg) := in7 hk
    simp only [stepM, pA, MB_0]
    rw [if_pos ⟨trivial, v⟩, nI_clamp (by omega), MB_s0]
    rfl)]
theorem bX5_begin_85 {k : Nat} {x : Int32} (hk : k < 7) : Rn mX5_begin 85 [l0, l1, l2] (.int x :: .int (nI k) :: .ref (M.length + 1) :: st) fs (MB M a f0 f1 f2 f3 f4 f5 f6 g0 g1 g2 g3 g4) Q ↔ Rn mX5_begin 86 [l0, l1, l2] st fs (MB M a f0 f1 f2 f3 f4 f5 f6 g0 (upd g1 k x) g2 g3 g4) Q := by
  rw [R_M (st' := st) (M1 := MB M a f0 f1 f2 f3 f4 f5 f6 g0 (upd g1 k x) g2 g3 g4) (by rw [hbX5_begin]; exact dX5_begin_85) rfl (by
    have v : ¬ (nI k < 0 ∨ 7 ≤ (nI k).toNatClampNeg) := in7 hk
    simp only [stepM, pA, MB_1]
    rw [if_pos ⟨trivial, v⟩, nI_clamp (by omega), MB_s1]
    rfl)]
theorem bX5_begin_92 {k : Nat} {x : Int32} (hk : k < 7) : Rn mX5_begin 92 [l0, l1, l2] (.int x :: .int (nI k) :: .ref (M.length + 2) :: st) fs (MB M a f0 f1 f2 f3 f4 f5 f6 g0 g1 g2 g3 g4) Q ↔ Rn mX5_begin 93 [l0, l1, l2] st fs (MB M a f0 f1 f2 f3 f4 f5 f6 g0 g1 (upd g2 k x) g3 g4) Q := by
  rw [R_M (st' := st) (M1 := MB M a f0 f1 f2 f3 f4 f5 f6 g0 g1 (upd g2 k x) g3 g4) (by rw [hbX5_begin]; exact dX5_begin_92) rfl (by
    have v : ¬ (nI k < 0 ∨ 7 ≤ (nI k).toNatClampNeg) := in7 hk
    simp only [stepM, pA, MB_2]
    rw [if_pos ⟨trivial, v⟩, nI_clamp (by omega), MB_s2]
    rfl)]
theorem bX5_begin_99 {k : Nat} {x : Int32} (hk : k < 7) : Rn mX5_begin 99 [l0, l1, l2] (.int x :: .int (nI k) :: .ref (M.length + 3) :: st) fs (MB M a f0 f1 f2 f3 f4 f5 f6 g0 g1 g2 g3 g4) Q ↔ Rn mX5_begin 100 [l0, l1, l2] st fs (MB M a f0 f1 f2 f3 f4 f5 f6 g0 g1 g2 (upd g3 k x) g4) Q := by
  rw [R_M (st' := st) (M1 := MB M a f0 f1 f2 f3 f4 f5 f6 g0 g1 g2 (upd g3 k x) g4) (by rw [hbX5_begin]; exact dX5_begin_99) rfl (by
    have v : ¬ (nI k < 0 ∨ 7 ≤ (nI k).toNatClampNeg) := in7 hk
    simp only [stepM, pA, MB_3]
    rw [if_pos ⟨trivial, v⟩, nI_clamp (by omega), MB_s3]
    rfl)]
def zr : F1 := fun _ => 0
def gN (k : Nat) : F1 := fun j => if j < k then -1 else 0
theorem zr_u {k : Nat} : upd zr k 0 = zr := upd_self rfl
theorem gN_u {k : Nat} : upd (gN k) k (-1) = gN (k + 1) := by
  funext j
  unfold upd gN
  by_cases z : j = k
  · rw [if_pos z, if_pos (by omega)]
  · rw [if_neg z]
    by_cases y : j < k
    · rw [if_pos y, if_pos (by omega)]
    · rw [if_neg y, if_neg (by omega)]
theorem gN_0 : gN 0 = zr := by funext j; unfold gN zr; rw [if_neg (Nat.not_lt_zero _)]
theorem lp_bgM {g : List Value} (ha : a < M.length) (hr : r < M.length) (hn : ¬ a = r) (hR : M[r]? = some (.inr (4, .int 0 :: .int 0 :: .int 0 :: g))) : ∀ m k, k + m = 7 → (Rn mX5_begin 37 [.ref a, .ref r, .int (nI k)] [] fs (MB M a f0 f1 f2 f3 f4 f5 f6 zr (gN k) zr zr zr) Q ↔ Rt fs (MB M a f0 f1 f2 f3 f4 f5 f6 zr (gN 7) zr zr zr) none Q) := by
  intro m
  induction m with
  | zero =>
    intro k hk
    obtain rfl : k = 7 := by omega
    have e7 : nI 7 = 7 := rfl
    rw [e7]
    simp only [aX5_begin_37, aX5_begin_38, aX5_begin_40, aX5_begin_106, Nat.zero_le, Nat.reduceLeDiff, Nat.reduceAdd, i1_0, rr_c3, zc9, oc9, zc10, oc10, zc11, oc11, zc12, oc12, zc13, oc13, zc15, oc15, Int32.lt_irrefl, Nat.zero_lt_one, Rt_cons, Rt_void, isB_0, isB_1, isB_b, true_and, and_true, cats_nil, cats_int, cats_ref, and_self, if_true, if_false, ite_self, le_nlt, ite_not]
  | succ m ih =>
    intro k hk
    have hk7 : k < 7 := by omega
    have l7 : nI k < 7 := nI_lt (b := 7) hk7 (by decide)
    have l0 : ¬ nI k < 0 := nI_pos (by omega)
    rw [← ih (k + 1) (by omega), ← gN_u, aX5_begin_37]
    simp only [aX5_begin_38, aX5_begin_40, aX5_begin_43, aX5_begin_47, aX5_begin_48, aX5_begin_49, aX5_begin_53, aX5_begin_65, aX5_begin_67, aX5_begin_71, aX5_begin_72, aX5_begin_73, aX5_begin_77, aX5_begin_84, aX5_begin_86, aX5_begin_90, aX5_begin_91, aX5_begin_93, aX5_begin_97, aX5_begin_98, aX5_begin_100, aX5_begin_103, bX5_begin_44 ha, bX5_begin_68 ha, bX5_begin_87 ha, bX5_begin_94 ha, bX5_begin_50 hr hn hR, bX5_begin_74 hr hn hR, bX5_begin_66 hk7, bX5_begin_85 hk7, bX5_begin_92 hk7, bX5_begin_99 hk7, Nat.zero_le, Nat.reduceLeDiff, Nat.reduceAdd, i1_0, rr_c3, zc9, oc9, zc10, oc10, zc11, oc11, zc12, oc12, zc13, oc13, zc15, oc15, Int32.lt_irrefl, Nat.zero_lt_one, Rt_cons, Rt_void, isB_0, isB_1, isB_b, true_and, and_true, cats_nil, cats_int, cats_ref, and_self, if_true, if_false, ite_self, le_nlt, ite_not, l7, l0, zr_u, nI_1]
theorem sp_bgM {g : List Value} (ha : a < M.length) (hr : r < M.length) (hn : ¬ a = r) (hR : M[r]? = some (.inr (4, .int 0 :: .int 0 :: .int 0 :: g))) : Rn mX5_begin 0 [.ref a, .ref r, .null] [] fs (MB M a f0 f1 f2 f3 f4 f5 f6 zr zr zr zr zr) Q ↔ Rt fs (MB M a (.ref r) (.int 0) (.int 0) (.int 0) (.int 0) (.int 0) (.int 0) zr (gN 7) zr zr zr) none Q := by
  have L := lp_bgM (fs := fs) (Q := Q) (f0 := .ref r) (f1 := .int 0) (f2 := .int 0) (f3 := .int 0) (f4 := .int 0) (f5 := .int 0) (f6 := .int 0) ha hr hn hR 7 0 (by omega)
  rw [gN_0, nI_0] at L
  rw [← L]
  simp only [aX5_begin_0, aX5_begin_1, aX5_begin_5, aX5_begin_6, aX5_begin_10, aX5_begin_11, aX5_begin_15, aX5_begin_16, aX5_begin_20, aX5_begin_21, aX5_begin_25, aX5_begin_26, aX5_begin_30, aX5_begin_31, aX5_begin_35, aX5_begin_36, bX5_begin_2 (x := 0) ha, bX5_begin_7 ha, bX5_begin_12 ha, bX5_begin_17 ha, bX5_begin_22 ha, bX5_begin_27 ha, bX5_begin_32 ha, Nat.zero_le, Nat.reduceLeDiff, Nat.reduceAdd, i1_0, rr_c3, zc9, oc9, zc10, oc10, zc11, oc11, zc12, oc12, zc13, oc13, zc15, oc15, Int32.lt_irrefl, Nat.zero_lt_one, Rt_cons, Rt_void, isB_0, isB_1, isB_b, true_and, and_true, cats_nil, cats_int, cats_ref, and_self, if_true, if_false, ite_self, le_nlt, ite_not]
end S93
