-- goesOn
def gM (σ : Mem) (w : Nat → Int32) (o r f g : Int32) : Mem := updK (updK σ 44 0 w) 29 0 (upd (upd (upd (upd (σ 29 0) 29 o) 30 r) 31 f) 32 g)
section S67
variable {σ : Mem} {w : Nat → Int32} {o r f g : Int32}
theorem gM_44 : gM σ w o r f g 44 0 = w := by unfold gM; rw [updK_ne (by omega), updK_eq]
theorem gM_ne {k i : Nat} (h1 : ¬ k = 44) (h2 : ¬ k = 29) : gM σ w o r f g k i = σ k i := by unfold gM; rw [updK_ne (by omega), updK_ne (by omega)]
theorem gM_29 : gM σ w o r f g 29 0 = upd (upd (upd (upd (σ 29 0) 29 o) 30 r) 31 f) 32 g := by unfold gM; rw [updK_eq]
theorem gM_lo {s : Nat} (h : s < 29 ∨ 32 < s) : gM σ w o r f g 29 0 s = σ 29 0 s := by rw [gM_29, upd_ne (by omega), upd_ne (by omega), upd_ne (by omega), upd_ne (by omega)]
theorem gM_o : gM σ w o r f g 29 0 29 = o := by rw [gM_29, upd_ne (by omega), upd_ne (by omega), upd_ne (by omega), upd_eq]
theorem gM_r : gM σ w o r f g 29 0 30 = r := by rw [gM_29, upd_ne (by omega), upd_ne (by omega), upd_eq]
theorem gM_f : gM σ w o r f g 29 0 31 = f := by rw [gM_29, upd_ne (by omega), upd_eq]
theorem gM_g : gM σ w o r f g 29 0 32 = g := by rw [gM_29, upd_eq]
theorem gM_w {v : Nat → Int32} : updK (gM σ w o r f g) 44 0 v = gM σ v o r f g := by
  unfold gM
  funext k i
  unfold updK
  by_cases h : k = 44 ∧ i = 0
  · rw [if_pos h, if_neg (by omega), if_pos h]
  · rw [if_neg h]
    by_cases h2 : k = 29 ∧ i = 0
    · rw [if_pos h2, if_pos h2]
    · rw [if_neg h2, if_neg h2, if_neg h, if_neg h]
theorem upd_comm {f : Nat → Int32} {a b : Nat} {x y : Int32} (h : ¬ a = b) : upd (upd f a x) b y = upd (upd f b y) a x := by
  funext k
  unfold upd
  by_cases h1 : k = a
  · rw [if_pos h1, if_neg (by omega), if_pos h1]
  · rw [if_neg h1, if_neg h1]
theorem upd_idem {f : Nat → Int32} {a : Nat} {x y : Int32} : upd (upd f a x) a y = upd f a y := by
  funext k
  unfold upd
  split <;> rfl
theorem gM_so {x : Int32} : upS (gM σ w o r f g) 29 0 29 x = gM σ w x r f g := by
  unfold gM
  rw [upS_updK, upd_comm (a := 32) (by omega), upd_comm (a := 31) (by omega), upd_comm (a := 30) (by omega), upd_idem]
theorem gM_sr {x : Int32} : upS (gM σ w o r f g) 29 0 30 x = gM σ w o x f g := by
  unfold gM
  rw [upS_updK, upd_comm (a := 32) (by omega), upd_comm (a := 31) (by omega), upd_idem]
theorem gM_sf {x : Int32} : upS (gM σ w o r f g) 29 0 31 x = gM σ w o r x g := by
  unfold gM
  rw [upS_updK, upd_comm (a := 32) (by omega), upd_idem]
theorem gM_sg {x : Int32} : upS (gM σ w o r f g) 29 0 32 x = gM σ w o r f x := by
  unfold gM
  rw [upS_updK, upd_idem]
theorem gM_in (e : σ 44 0 = w) : upS (upS (upS (upS σ 29 0 29 0) 29 0 30 0) 29 0 31 (-1)) 29 0 32 (-1) = gM σ w 0 0 (-1) (-1) := by
  unfold gM
  rw [updK_self (k := 44) (i := 0) e.symm]
  simp only [upS_chain, updK_eq, updK_idem]
end S67
def fgL (p : Nat → Bool) (f : Nat → Nat) (x : Int32) (fg : Int32 × Int32) : Nat → Int32 × Int32
  | 0 => fg
  | j + 1 => if (fgL p f x fg j).1 = -1 ∧ p (f j) = true then (nI (f j), x) else fgL p f x fg j
theorem bI_ite {c : Prop} [Decidable c] {α : Sort _} {x y : α} : (if bI c = 0 then x else y) = if c then y else x := by
  by_cases h : c
  · rw [bI_t h, if_pos h, if_neg (by decide)]
  · rw [bI_f h, if_neg h, if_pos rfl]
section S67
variable {σ : Mem} {fs : List Fm} {M : List va_E} {Q : List va_E → Option Value → Prop}
/-- one house of the inner loop -/
theorem go_in {n k d N j a b r : Nat} {w : Nat → Int32} {f g : Int32} {l6 l7 l8 : Value} (hN : N ≤ 7) (hj : j < N) (hd : d < 100000) (ha : a < 128) (hb : b < 128) (e31 : σ 31 0 1 = nI N) {h : Nat} (hh : h = (d + j) % N) :
    ∃ x8, ∀ fs Q, Rn mX8_goesOn 58 [.ref (ad 29 0), .int (nI n), .int (nI k), .int (nI d), .int (nI b), .int (nI j), l6, l7, l8] [] fs (enc (gM σ w (nI a) (nI r) f g)) Q ↔
    Rn mX8_goesOn 58 [.ref (ad 29 0), .int (nI n), .int (nI k), .int (nI d), .int (nI b), .int (nI (j + 1)), .int (nI h), .int (w (64 + 5 * h + 1)), x8] [] fs (enc (gM σ w (nI (a ||| (if Eo (σ 43 0) w h = true then 2 ^ h else 0))) (nI (r ||| (if Ro (σ 43 0) w h = true then 2 ^ h else 0))) (if f = -1 ∧ ((a ||| (if Eo (σ 43 0) w h = true then 2 ^ h else 0)) &&& (b ^^^ 127)).testBit h = true then nI h else f) (if f = -1 ∧ ((a ||| (if Eo (σ 43 0) w h = true then 2 ^ h else 0)) &&& (b ^^^ 127)).testBit h = true then nI (k + 1) else g))) Q := by
  have hh7 : h < 7 := by rw [hh]; have := Nat.mod_lt (d + j) (show 0 < N by omega); omega
  have ha' : (a ||| (if Eo (σ 43 0) w h = true then 2 ^ h else 0)) < 128 := by
    have h2 : (if Eo (σ 43 0) w h = true then 2 ^ h else 0) < 2 ^ 7 := by
      split
      · exact Nat.pow_lt_pow_right (by omega) hh7
      · omega
    exact Nat.or_lt_two_pow (n := 7) ha h2
  have hx : ((a ||| (if Eo (σ 43 0) w h = true then 2 ^ h else 0)) &&& (b ^^^ 127)) < 128 := Nat.lt_of_le_of_lt Nat.and_le_left ha'
  refine ⟨.int (bI (f = -1 ∧ ((a ||| (if Eo (σ 43 0) w h = true then 2 ^ h else 0)) &&& (b ^^^ 127)).testBit h = true)), fun fs Q => ?_⟩
  have m31 : ∀ o r f g, gM σ w o r f g 31 0 1 = nI N := fun o r f g => by rw [gM_ne (by omega) (by omega)]; exact e31
  have m43 : ∀ o r f g, gM σ w o r f g 43 0 = σ 43 0 := fun o r f g => gM_ne (by omega) (by omega)
  have l : nI j < nI N := nI_lt (by omega) (by omega)
  have l3 : ¬ nI N = 0 := nI_ne0 (by omega) (by omega)
  have e1 : nI (d + j) - nI (d + j) / nI N * nI N = nI h := by rw [pk_rem (by omega) (by omega) (by omega), hh]
  have i1 := in99 (show 64 + 5 * h + 1 < 99 by omega)
  have k1 := cl10 (show 64 + 5 * h + 1 < 10000 by omega)
  have z0 : (0 : Int32) = nI 0 := rfl
  -- 58 .. 98
  have A : Rn mX8_goesOn 58 [.ref (ad 29 0), .int (nI n), .int (nI k), .int (nI d), .int (nI b), .int (nI j), l6, l7, l8] [] fs (enc (gM σ w (nI a) (nI r) f g)) Q ↔ Rn mX8_goesOn 98 [.ref (ad 29 0), .int (nI n), .int (nI k), .int (nI d), .int (nI b), .int (nI j), .int (nI h), .int (w (64 + 5 * h + 1)), l8] [] fs (enc (gM σ w (nI a) (nI r) f g)) Q := by
    simp only [aX8_goesOn_58, aX8_goesOn_60, aX8_goesOn_61, aX8_goesOn_64, aX8_goesOn_65, aX8_goesOn_66, aX8_goesOn_69, aX8_goesOn_70, aX8_goesOn_72, aX8_goesOn_73, aX8_goesOn_74, aX8_goesOn_77, aX8_goesOn_78, aX8_goesOn_79, aX8_goesOn_80, aX8_goesOn_82, aX8_goesOn_83, aX8_goesOn_86, aX8_goesOn_88, aX8_goesOn_89, aX8_goesOn_91, aX8_goesOn_92, aX8_goesOn_93, aX8_goesOn_94, aX8_goesOn_95, aX8_goesOn_96, Nat.zero_le, Nat.reduceLeDiff, Nat.reduceAdd, i1_0, rr_c3, zc9, oc9, zc10, oc10, zc11, oc11, zc12, oc12, zc13, oc13, zc15, oc15, Int32.lt_irrefl, Nat.zero_lt_one, Rt_cons, Rt_void, isB_0, isB_1, isB_b, true_and, and_true, cats_nil, cats_int, cats_ref, and_self, if_true, if_false, ite_self, le_nlt, ite_not, aT_31, aN_31, cnt_31, v3.2.1, c1, m31, l, nI_add, l3, e1, not_false_eq_true, aT_44, aN_44, cnt_44, n5, n64, nI_1, i1, k1, gM_44]
  rw [A]
  -- 98 .. 139
  have B : Rn mX8_goesOn 98 [.ref (ad 29 0), .int (nI n), .int (nI k), .int (nI d), .int (nI b), .int (nI j), .int (nI h), .int (w (64 + 5 * h + 1)), l8] [] fs (enc (gM σ w (nI a) (nI r) f g)) Q ↔ Rn mX8_goesOn 139 [.ref (ad 29 0), .int (nI n), .int (nI k), .int (nI d), .int (nI b), .int (nI j), .int (nI h), .int (w (64 + 5 * h + 1)), l8] [] fs (enc (gM σ w (nI (a ||| (if Eo (σ 43 0) w h = true then 2 ^ h else 0))) (nI r) f g)) Q := by
    unfold Eo
    by_cases q1 : w (64 + 5 * h + 1) = 2
    · by_cases q2 : σ 43 0 (64 + 5 * h + 1) = 2
      · rw [if_neg (by simp [q2])]
        simp only [aX8_goesOn_98, aX8_goesOn_99i, aX8_goesOn_99a, aX8_goesOn_100, aX8_goesOn_103, aX8_goesOn_105, aX8_goesOn_106, aX8_goesOn_109, aX8_goesOn_110, aX8_goesOn_113, aX8_goesOn_115, aX8_goesOn_116, aX8_goesOn_118, aX8_goesOn_119, aX8_goesOn_120, aX8_goesOn_121, aX8_goesOn_122, aX8_goesOn_123, aX8_goesOn_124, aX8_goesOn_127, aX8_goesOn_128, aX8_goesOn_130, aX8_goesOn_131, Nat.zero_le, Nat.reduceLeDiff, Nat.reduceAdd, i1_0, rr_c3, zc9, oc9, zc10, oc10, zc11, oc11, zc12, oc12, zc13, oc13, zc15, oc15, Int32.lt_irrefl, Nat.zero_lt_one, Rt_cons, Rt_void, isB_0, isB_1, isB_b, true_and, and_true, cats_nil, cats_int, cats_ref, and_self, if_true, if_false, ite_self, le_nlt, ite_not, gM_o, q1, not_true_eq_false, aT_43, aN_43, cnt_43, n5, n64, nI_1, i1, k1, m43, q2]
        rw [aX8_goesOn_134, z0]
        simp only [aX8_goesOn_135, aX8_goesOn_136, Nat.zero_le, Nat.reduceLeDiff, Nat.reduceAdd, i1_0, rr_c3, zc9, oc9, zc10, oc10, zc11, oc11, zc12, oc12, zc13, oc13, zc15, oc15, Int32.lt_irrefl, Nat.zero_lt_one, Rt_cons, Rt_void, isB_0, isB_1, isB_b, true_and, and_true, cats_nil, cats_int, cats_ref, and_self, if_true, if_false, ite_self, le_nlt, ite_not, or_nI, gM_so]
      · rw [if_pos (by simp [q1, q2])]
        simp only [aX8_goesOn_98, aX8_goesOn_99i, aX8_goesOn_99a, aX8_goesOn_100, aX8_goesOn_103, aX8_goesOn_105, aX8_goesOn_106, aX8_goesOn_109, aX8_goesOn_110, aX8_goesOn_113, aX8_goesOn_115, aX8_goesOn_116, aX8_goesOn_118, aX8_goesOn_119, aX8_goesOn_120, aX8_goesOn_121, aX8_goesOn_122, aX8_goesOn_123, aX8_goesOn_124, aX8_goesOn_127, aX8_goesOn_128, aX8_goesOn_130, aX8_goesOn_131, aX8_goesOn_134, aX8_goesOn_135, aX8_goesOn_136, Nat.zero_le, Nat.reduceLeDiff, Nat.reduceAdd, i1_0, rr_c3, zc9, oc9, zc10, oc10, zc11, oc11, zc12, oc12, zc13, oc13, zc15, oc15, Int32.lt_irrefl, Nat.zero_lt_one, Rt_cons, Rt_void, isB_0, isB_1, isB_b, true_and, and_true, cats_nil, cats_int, cats_ref, and_self, if_true, if_false, ite_self, le_nlt, ite_not, gM_o, q1, not_true_eq_false, aT_43, aN_43, cnt_43, n5, n64, nI_1, i1, k1, m43, q2, sh1 h hh7, or_nI, gM_so]
    · rw [if_neg (by simp [q1])]
      simp only [aX8_goesOn_98, aX8_goesOn_99i, aX8_goesOn_99a, aX8_goesOn_100, aX8_goesOn_103, aX8_goesOn_105, aX8_goesOn_106, Nat.zero_le, Nat.reduceLeDiff, Nat.reduceAdd, i1_0, rr_c3, zc9, oc9, zc10, oc10, zc11, oc11, zc12, oc12, zc13, oc13, zc15, oc15, Int32.lt_irrefl, Nat.zero_lt_one, Rt_cons, Rt_void, isB_0, isB_1, isB_b, true_and, and_true, cats_nil, cats_int, cats_ref, and_self, if_true, if_false, ite_self, le_nlt, ite_not, gM_o, q1, not_false_eq_true]
      rw [aX8_goesOn_134, z0]
      simp only [aX8_goesOn_135, aX8_goesOn_136, Nat.zero_le, Nat.reduceLeDiff, Nat.reduceAdd, i1_0, rr_c3, zc9, oc9, zc10, oc10, zc11, oc11, zc12, oc12, zc13, oc13, zc15, oc15, Int32.lt_irrefl, Nat.zero_lt_one, Rt_cons, Rt_void, isB_0, isB_1, isB_b, true_and, and_true, cats_nil, cats_int, cats_ref, and_self, if_true, if_false, ite_self, le_nlt, ite_not, or_nI, gM_so]
  rw [B]
  generalize (a ||| (if Eo (σ 43 0) w h = true then 2 ^ h else 0)) = a' at ha' hx ⊢
  -- 139 .. 180
  have C : Rn mX8_goesOn 139 [.ref (ad 29 0), .int (nI n), .int (nI k), .int (nI d), .int (nI b), .int (nI j), .int (nI h), .int (w (64 + 5 * h + 1)), l8] [] fs (enc (gM σ w (nI a') (nI r) f g)) Q ↔ Rn mX8_goesOn 180 [.ref (ad 29 0), .int (nI n), .int (nI k), .int (nI d), .int (nI b), .int (nI j), .int (nI h), .int (w (64 + 5 * h + 1)), l8] [] fs (enc (gM σ w (nI a') (nI (r ||| (if Ro (σ 43 0) w h = true then 2 ^ h else 0))) f g)) Q := by
    unfold Ro
    by_cases q1 : w (64 + 5 * h + 1) = 1
    · by_cases q2 : σ 43 0 (64 + 5 * h + 1) = 1
      · rw [if_neg (by simp [q2])]
        simp only [aX8_goesOn_139, aX8_goesOn_140i, aX8_goesOn_140a, aX8_goesOn_141, aX8_goesOn_144, aX8_goesOn_146, aX8_goesOn_147, aX8_goesOn_150, aX8_goesOn_151, aX8_goesOn_154, aX8_goesOn_156, aX8_goesOn_157, aX8_goesOn_159, aX8_goesOn_160, aX8_goesOn_161, aX8_goesOn_162, aX8_goesOn_163, aX8_goesOn_164, aX8_goesOn_165, aX8_goesOn_168, aX8_goesOn_169, aX8_goesOn_171, aX8_goesOn_172, Nat.zero_le, Nat.reduceLeDiff, Nat.reduceAdd, i1_0, rr_c3, zc9, oc9, zc10, oc10, zc11, oc11, zc12, oc12, zc13, oc13, zc15, oc15, Int32.lt_irrefl, Nat.zero_lt_one, Rt_cons, Rt_void, isB_0, isB_1, isB_b, true_and, and_true, cats_nil, cats_int, cats_ref, and_self, if_true, if_false, ite_self, le_nlt, ite_not, gM_r, q1, not_true_eq_false, aT_43, aN_43, cnt_43, n5, n64, nI_1, i1, k1, m43, q2]
        rw [aX8_goesOn_175, z0]
        simp only [aX8_goesOn_176, aX8_goesOn_177, Nat.zero_le, Nat.reduceLeDiff, Nat.reduceAdd, i1_0, rr_c3, zc9, oc9, zc10, oc10, zc11, oc11, zc12, oc12, zc13, oc13, zc15, oc15, Int32.lt_irrefl, Nat.zero_lt_one, Rt_cons, Rt_void, isB_0, isB_1, isB_b, true_and, and_true, cats_nil, cats_int, cats_ref, and_self, if_true, if_false, ite_self, le_nlt, ite_not, or_nI, gM_sr]
      · rw [if_pos (by simp [q1, q2])]
        simp only [aX8_goesOn_139, aX8_goesOn_140i, aX8_goesOn_140a, aX8_goesOn_141, aX8_goesOn_144, aX8_goesOn_146, aX8_goesOn_147, aX8_goesOn_150, aX8_goesOn_151, aX8_goesOn_154, aX8_goesOn_156, aX8_goesOn_157, aX8_goesOn_159, aX8_goesOn_160, aX8_goesOn_161, aX8_goesOn_162, aX8_goesOn_163, aX8_goesOn_164, aX8_goesOn_165, aX8_goesOn_168, aX8_goesOn_169, aX8_goesOn_171, aX8_goesOn_172, aX8_goesOn_175, aX8_goesOn_176, aX8_goesOn_177, Nat.zero_le, Nat.reduceLeDiff, Nat.reduceAdd, i1_0, rr_c3, zc9, oc9, zc10, oc10, zc11, oc11, zc12, oc12, zc13, oc13, zc15, oc15, Int32.lt_irrefl, Nat.zero_lt_one, Rt_cons, Rt_void, isB_0, isB_1, isB_b, true_and, and_true, cats_nil, cats_int, cats_ref, and_self, if_true, if_false, ite_self, le_nlt, ite_not, gM_r, q1, not_true_eq_false, aT_43, aN_43, cnt_43, n5, n64, nI_1, i1, k1, m43, q2, sh1 h hh7, or_nI, gM_sr]
    · rw [if_neg (by simp [q1])]
      simp only [aX8_goesOn_139, aX8_goesOn_140i, aX8_goesOn_140a, aX8_goesOn_141, aX8_goesOn_144, aX8_goesOn_146, aX8_goesOn_147, Nat.zero_le, Nat.reduceLeDiff, Nat.reduceAdd, i1_0, rr_c3, zc9, oc9, zc10, oc10, zc11, oc11, zc12, oc12, zc13, oc13, zc15, oc15, Int32.lt_irrefl, Nat.zero_lt_one, Rt_cons, Rt_void, isB_0, isB_1, isB_b, true_and, and_true, cats_nil, cats_int, cats_ref, and_self, if_true, if_false, ite_self, le_nlt, ite_not, gM_r, q1, not_false_eq_true]
      rw [aX8_goesOn_175, z0]
      simp only [aX8_goesOn_176, aX8_goesOn_177, Nat.zero_le, Nat.reduceLeDiff, Nat.reduceAdd, i1_0, rr_c3, zc9, oc9, zc10, oc10, zc11, oc11, zc12, oc12, zc13, oc13, zc15, oc15, Int32.lt_irrefl, Nat.zero_lt_one, Rt_cons, Rt_void, isB_0, isB_1, isB_b, true_and, and_true, cats_nil, cats_int, cats_ref, and_self, if_true, if_false, ite_self, le_nlt, ite_not, or_nI, gM_sr]
  rw [C]
  generalize nI (r ||| (if Ro (σ 43 0) w h = true then 2 ^ h else 0)) = r'
  -- 180 .. 212
  have D : Rn mX8_goesOn 180 [.ref (ad 29 0), .int (nI n), .int (nI k), .int (nI d), .int (nI b), .int (nI j), .int (nI h), .int (w (64 + 5 * h + 1)), l8] [] fs (enc (gM σ w (nI a') r' f g)) Q ↔ Rn mX8_goesOn 212 [.ref (ad 29 0), .int (nI n), .int (nI k), .int (nI d), .int (nI b), .int (nI j), .int (nI h), .int (w (64 + 5 * h + 1)), .int (bI (f = -1 ∧ (a' &&& (b ^^^ 127)).testBit h = true))] [] fs (enc (gM σ w (nI a') r' f g)) Q := by
    by_cases q1 : f = -1
    · by_cases q2 : (a' &&& (b ^^^ 127)).testBit h = true
      · simp only [aX8_goesOn_180, aX8_goesOn_181, aX8_goesOn_184, aX8_goesOn_185, aX8_goesOn_188, aX8_goesOn_189, aX8_goesOn_192, aX8_goesOn_194, aX8_goesOn_195, aX8_goesOn_196, aX8_goesOn_197, aX8_goesOn_199, aX8_goesOn_202, aX8_goesOn_205, aX8_goesOn_206, aX8_goesOn_209, aX8_goesOn_210, Nat.zero_le, Nat.reduceLeDiff, Nat.reduceAdd, i1_0, rr_c3, zc9, oc9, zc10, oc10, zc11, oc11, zc12, oc12, zc13, oc13, zc15, oc15, Int32.lt_irrefl, Nat.zero_lt_one, Rt_cons, Rt_void, isB_0, isB_1, isB_b, true_and, and_true, cats_nil, cats_int, cats_ref, and_self, if_true, if_false, ite_self, le_nlt, ite_not, gM_f, gM_o, q1, not_true_eq_false, andn7 a' ha' b hb, sp_has hx hh7, bI_t q2, bI_t (show ((-1 : Int32) = -1 ∧ (a' &&& (b ^^^ 127)).testBit h = true) from ⟨rfl, q2⟩)]
      · simp only [aX8_goesOn_180, aX8_goesOn_181, aX8_goesOn_184, aX8_goesOn_185, aX8_goesOn_188, aX8_goesOn_189, aX8_goesOn_192, aX8_goesOn_194, aX8_goesOn_195, aX8_goesOn_196, aX8_goesOn_197, aX8_goesOn_199, aX8_goesOn_202, aX8_goesOn_205, aX8_goesOn_206, aX8_goesOn_209, aX8_goesOn_210, Nat.zero_le, Nat.reduceLeDiff, Nat.reduceAdd, i1_0, rr_c3, zc9, oc9, zc10, oc10, zc11, oc11, zc12, oc12, zc13, oc13, zc15, oc15, Int32.lt_irrefl, Nat.zero_lt_one, Rt_cons, Rt_void, isB_0, isB_1, isB_b, true_and, and_true, cats_nil, cats_int, cats_ref, and_self, if_true, if_false, ite_self, le_nlt, ite_not, gM_f, gM_o, q1, not_true_eq_false, andn7 a' ha' b hb, sp_has hx hh7, bI_f q2, bI_f (show ¬ ((-1 : Int32) = -1 ∧ (a' &&& (b ^^^ 127)).testBit h = true) from fun z => q2 z.2)]
    · rw [bI_f (show ¬ (f = -1 ∧ (a' &&& (b ^^^ 127)).testBit h = true) from fun z => q1 z.1)]
      simp only [aX8_goesOn_180, aX8_goesOn_181, aX8_goesOn_184, aX8_goesOn_185, aX8_goesOn_209, aX8_goesOn_210, Nat.zero_le, Nat.reduceLeDiff, Nat.reduceAdd, i1_0, rr_c3, zc9, oc9, zc10, oc10, zc11, oc11, zc12, oc12, zc13, oc13, zc15, oc15, Int32.lt_irrefl, Nat.zero_lt_one, Rt_cons, Rt_void, isB_0, isB_1, isB_b, true_and, and_true, cats_nil, cats_int, cats_ref, and_self, if_true, if_false, ite_self, le_nlt, ite_not, gM_f, q1, not_false_eq_true]
  rw [D]
  generalize (a' &&& (b ^^^ 127)).testBit h = tb
  by_cases q : f = -1 ∧ tb = true
  · rw [bI_t q, if_pos q, if_pos q]
    simp only [aX8_goesOn_212, aX8_goesOn_213, aX8_goesOn_215, aX8_goesOn_218, aX8_goesOn_220, aX8_goesOn_223, aX8_goesOn_224, aX8_goesOn_227, aX8_goesOn_230, aX8_goesOn_231, aX8_goesOn_233, aX8_goesOn_236, aX8_goesOn_237, aX8_goesOn_238, aX8_goesOn_239, aX8_goesOn_242, aX8_goesOn_243, aX8_goesOn_246, aX8_goesOn_249, aX8_goesOn_252, Nat.zero_le, Nat.reduceLeDiff, Nat.reduceAdd, i1_0, rr_c3, zc9, oc9, zc10, oc10, zc11, oc11, zc12, oc12, zc13, oc13, zc15, oc15, Int32.lt_irrefl, Nat.zero_lt_one, Rt_cons, Rt_void, isB_0, isB_1, isB_b, true_and, and_true, cats_nil, cats_int, cats_ref, and_self, if_true, if_false, ite_self, le_nlt, ite_not, gM_sf, gM_sg, nI_1]
  · rw [bI_f q, if_neg q, if_neg q]
    simp only [aX8_goesOn_212, aX8_goesOn_213, aX8_goesOn_215, aX8_goesOn_218, aX8_goesOn_220, aX8_goesOn_223, aX8_goesOn_224, aX8_goesOn_227, aX8_goesOn_230, aX8_goesOn_231, aX8_goesOn_233, aX8_goesOn_236, aX8_goesOn_237, aX8_goesOn_238, aX8_goesOn_239, aX8_goesOn_242, aX8_goesOn_243, aX8_goesOn_246, aX8_goesOn_249, aX8_goesOn_252, Nat.zero_le, Nat.reduceLeDiff, Nat.reduceAdd, i1_0, rr_c3, zc9, oc9, zc10, oc10, zc11, oc11, zc12, oc12, zc13, oc13, zc15, oc15, Int32.lt_irrefl, Nat.zero_lt_one, Rt_cons, Rt_void, isB_0, isB_1, isB_b, true_and, and_true, cats_nil, cats_int, cats_ref, and_self, if_true, if_false, ite_self, le_nlt, ite_not, gM_f, gM_g, gM_sf, gM_sg, nI_1]
end S67
