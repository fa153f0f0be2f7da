-- a day
def HG (w : Nat → Int32) : Prop := ∀ j, j < 7 → w (64 + 5 * j + 1) = 0 → ¬ w (64 + 5 * j + 2) = -1
theorem HG_of {σ : Mem} {i : Nat} {w : Nat → Int32} (h : CS σ i w) : HG w := fun _ hj h0 => (CS_held h hj h0).2
def WH (B G N : Nat) (w : Nat → Int32) : Prop := WFx B G N w ∧ HG w
theorem turnW_ne {ow kd pt w : Nat → Int32} {j a : Nat} (h0 : a < 3 ∨ 64 ≤ a) (h1 : ¬ a = 1) (h2 : ¬ a = 2) (h3 : a < 64 + 5 * j ∨ 64 + 5 * j + 4 ≤ a) : turnW ow kd pt w j a = w a := by
  unfold turnW
  split
  · unfold pysF
    generalize hv : pyB (lck (ow j) w) (pyA (ow j) (kd (w (64 + 5 * j + 2)).toNatClampNeg) w j) j = v
    have e : pyC v j a = w a := by rw [pyC_ne (by omega), ← hv, pyB_ne h0 h1 (by omega), pyA_ne h1 (by omega)]
    unfold pyD
    split
    · rw [upd_ne (by omega), upd_ne (by omega), e]
    · split
      · rw [putW_ne h2 (by omega), e]
      · exact e
  · rfl
theorem turnW_0 {ow kd pt w : Nat → Int32} {j : Nat} : turnW ow kd pt w j 0 = w 0 := turnW_ne (by omega) (by omega) (by omega) (by omega)
theorem HG_turn {ow kd pt w : Nat → Int32} {j : Nat} (h : HG w) : HG (turnW ow kd pt w j) := by
  intro k hk
  by_cases q : k = j
  · subst q
    unfold turnW
    split
    · rename_i hh
      have hg := h k hk hh
      unfold pysF
      generalize hv : pyB (lck (ow k) w) (pyA (ow k) (kd (w (64 + 5 * k + 2)).toNatClampNeg) w k) k = v
      have e1 : pyC v k (64 + 5 * k + 2) = w (64 + 5 * k + 2) := by rw [pyC_ne (by omega), ← hv, pyB_ne (by omega) (by omega) (by omega), pyA_ne (by omega) (by omega)]
      unfold pyD
      split
      · rw [upd_ne (show ¬ 64 + 5 * k + 1 = 64 + 5 * k + 2 by omega), upd_eq]
        exact fun z => absurd z (by decide)
      · split
        · rw [putW_ne (a := 64 + 5 * k + 2) (by omega) (by omega), e1]
          exact fun _ => hg
        · rw [e1]; exact fun _ => hg
    · exact h k hk
  · rw [turnW_ne (by omega) (by omega) (by omega) (by omega), turnW_ne (by omega) (by omega) (by omega) (by omega)]
    exact h k hk
theorem WH_turn {B G N C : Nat} {ct ow kd pt w : Nat → Int32} (rn : RN ct ow kd pt C N G) (h : WH B G N w) {j : Nat} (hj : j < N) : WH B G N (turnW ow kd pt w j) :=
  ⟨WFx_turn rn h.1 hj (h.2 j (by have := rn.2.1; omega)), HG_turn h.2⟩
/-- m turns from the k-th on, of day d -/
def trs (ow kd pt : Nat → Int32) (N d : Nat) : Nat → Nat → (Nat → Int32) → (Nat → Int32)
  | _, 0, w => w
  | k, m + 1, w => trs ow kd pt N d (k + 1) m (turnW ow kd pt w ((d + k) % N))
theorem trs_0 {ow kd pt : Nat → Int32} {N d : Nat} : ∀ {m k : Nat} {w : Nat → Int32}, trs ow kd pt N d k m w 0 = w 0 := by
  intro m
  induction m with
  | zero => intro k w; rfl
  | succ m ih => intro k w; exact ih.trans turnW_0
theorem WH_trs {B G N C : Nat} {ct ow kd pt : Nat → Int32} {d : Nat} (rn : RN ct ow kd pt C N G) : ∀ {m k : Nat} {w : Nat → Int32}, k + m ≤ N → WH B G N w → WH B G N (trs ow kd pt N d k m w) := by
  intro m
  induction m with
  | zero => intro k w _ h; exact h
  | succ m ih => intro k w hk h; exact ih (by omega) (WH_turn rn h (Nat.mod_lt _ (by omega)))
/-- what is caught on day d -/
def ctF (ct : Nat → Int32) (C d : Nat) : Int32 := if 0 < C then ct (d % C) else 0
def addF (w : Nat → Int32) (x : Int32) : Nat → Int32 := upd w 1 (if 9999 < w 1 + x then 9999 else w 1 + x)
def incF (w : Nat → Int32) : Nat → Int32 := upd w 0 (w 0 + 1)
def passF (ct ow kd pt : Nat → Int32) (C N d : Nat) (w : Nat → Int32) : Nat → Int32 := incF (trs ow kd pt N d 0 N (addF w (ctF ct C d)))
theorem addF_val {w : Nat → Int32} {s x : Nat} (hs : s ≤ 9999) (hx : x ≤ 9999) (e : w 1 = nI s) : addF w (nI x) 1 = nI (min 9999 (s + x)) := by
  unfold addF
  rw [upd_eq, e, nI_add, min9 (by omega)]
theorem WH_add {B G N x : Nat} {w : Nat → Int32} (h : WH B G N w) (hx : x ≤ 9999) : WH B G N (addF w (nI x)) := by
  obtain ⟨s, s1, s2⟩ := h.1.2.1
  refine ⟨WFw_stock h.1 ⟨min 9999 (s + x), by omega, ?_⟩, fun j hj => ?_⟩
  · have := addF_val (w := w) s1 hx s2
    unfold addF at this
    rw [upd_eq] at this
    exact this
  · unfold addF
    rw [upd_ne (by omega), upd_ne (by omega)]
    exact h.2 j hj
theorem ctF_val {ct ow kd pt : Nat → Int32} {C N G : Nat} (rn : RN ct ow kd pt C N G) (d : Nat) : ∃ x : Nat, x ≤ 99 ∧ ctF ct C d = nI x := by
  unfold ctF
  split
  · exact rn.2.2.2.2.1 _ (Nat.mod_lt _ (by assumption))
  · exact ⟨0, by omega, rfl⟩
theorem WH_inc {B G N : Nat} {w : Nat → Int32} (h : WH B G N w) : WH (B + 1) G N (incF w) := by
  obtain ⟨⟨⟨d, d1, d2⟩, h2, h3, h4, h5⟩, h6⟩ := h
  have ec : cE7 (incF w) = cE7 w := rfl
  refine ⟨WFw_intro ⟨d + 1, by omega, by unfold incF; rw [upd_eq, d2, nI_1]⟩ h2 (by rw [ec]; exact h3) (fun k hk => Wl_congr (h4 k hk) (fun t ht => by unfold incF; rw [upd_ne (by omega)])) (fun a b ha hb hab => ?_), fun j hj => ?_⟩
  · unfold incF
    rw [upd_ne (by omega), upd_ne (by omega)]
    exact h5 a b ha hb hab
  · unfold incF
    rw [upd_ne (by omega), upd_ne (by omega)]
    exact h6 j hj
theorem WH_pass {B G N C : Nat} {ct ow kd pt : Nat → Int32} {w : Nat → Int32} (rn : RN ct ow kd pt C N G) (d : Nat) (h : WH B G N w) : WH (B + 1) G N (passF ct ow kd pt C N d w) := by
  obtain ⟨x, x1, x2⟩ := ctF_val rn d
  unfold passF
  rw [x2]
  exact WH_inc (WH_trs rn (by omega) (WH_add h (by omega)))
theorem passF_0 {ct ow kd pt w : Nat → Int32} {C N d e : Nat} (h : w 0 = nI e) : passF ct ow kd pt C N d w 0 = nI (e + 1) := by
  unfold passF incF
  rw [upd_eq, trs_0]
  unfold addF
  rw [upd_ne (by omega), h, nI_1]
theorem CS_inc {σ : Mem} {i : Nat} {w : Nat → Int32} (h : CS σ i w) : CS (upS σ 9 i 1 (σ 9 i 1 + 1)) i (incF w) := by
  have eP : ∀ k, k ≠ 9 → upS σ 9 i 1 (σ 9 i 1 + 1) k i = σ k i := fun k d => by rw [upS_ne (by omega)]
  have eP9 : upS σ 9 i 1 (σ 9 i 1 + 1) 9 i = upd (σ 9 i) 1 (σ 9 i 1 + 1) := by rw [upS_eq]
  unfold incF
  refine CS_intro h (by rw [eP9, upd_eq, upd_eq, h.1]) (by rw [eP9, upd_ne (by omega), upd_ne (by omega)]; exact h.2.1) (by rw [eP9, upd_ne (by omega), upd_ne (by omega)]; exact h.2.2.1) (by rw [eP9]; rfl) (by rw [eP9]; rfl) (eP 15 (by omega)) (fun t a b => upd_ne (by omega)) (fun k hk => ?_)
  have ck := h.2.2.2.2.2 k hk
  exact Ch_congr (w := w) ck (by rw [eP 10 (by omega)]) (by rw [eP 11 (by omega)]) (by rw [eP 12 (by omega)]) (by rw [eP 13 (by omega)]) (by rw [eP 14 (by omega)]) (fun t ht => upd_ne (by omega))
section S60
variable {σ : Mem} {fs : List Fm} {M : List va_E} {Q : List va_E → Option Value → Prop}
theorem sp_catch {q C d : Nat} {ct : Nat → Int32} (hq : q < 2) (hC : C ≤ 12) (hd : d < 100000) (e : σ 3 q 0 = nI C) (ec : ∀ j, j < C → σ 4 q j = ct j) : Rn mX4_catchOf 0 [.ref (ad 3 q), .int (nI d)] [] fs (enc σ) Q ↔ Rt fs (enc σ) (some (.int (ctF ct C d))) Q := by
  unfold ctF
  by_cases h : 0 < C
  · rw [if_pos h, sp_catchOf hq h hC hd e, ec _ (Nat.mod_lt _ h)]
  · obtain rfl : C = 0 := by omega
    have c3 : q < cnt 3 := hq
    have e0 : nI 0 = 0 := rfl
    rw [if_neg h]
    simp only [aX4_catchOf_0, aX4_catchOf_1, aX4_catchOf_4, aX4_catchOf_7, aX4_catchOf_8, aX4_catchOf_11, aX4_catchOf_12, aX4_catchOf_15, aX4_catchOf_16, aX4_catchOf_17, aX4_catchOf_20, aX4_catchOf_21, aX4_catchOf_22, aX4_catchOf_25, aX4_catchOf_26, Nat.zero_le, Nat.reduceLeDiff, Nat.reduceAdd, i1_0, rr_c3, zc9, oc9, zc10, oc10, zc11, oc11, zc12, oc12, zc13, oc13, zc15, oc15, Int32.lt_irrefl, Nat.zero_lt_one, Rt_cons, Rt_void, isB_0, isB_1, isB_b, true_and, and_true, cats_nil, cats_int, cats_ref, and_self, if_true, if_false, ite_self, le_nlt, ite_not, c3, e, e0]
theorem sp_firstTurn {i N d : Nat} (hi : i < 34) (hN : N ≤ 7) (hd : d < 100000) (e : σ 3 (rr (σ 9 i 0)) 1 = nI N) (ed : σ 9 i 1 = nI d) : Rn mX5_firstTurn 0 [.ref (ad 9 i)] [] fs (enc σ) Q ↔ Rt fs (enc σ) (some (.int (nI (d % N * (if 0 < N then 1 else 0))))) Q := by
  have c9 : i < cnt 9 := hi
  have c10 : i < cnt 10 := hi
  have c11 : i < cnt 11 := hi
  have c12 : i < cnt 12 := hi
  have c13 : i < cnt 13 := hi
  have c15 : i < cnt 15 := hi
  by_cases h : 0 < N
  · have l1 : (0 : Int32) < nI N := nI_lt (a := 0) h (by omega)
    have l3 : ¬ nI N = 0 := nI_ne0 h (by omega)
    have e1 : nI d - nI d / nI N * nI N = nI (d % N) := pk_rem (by omega) h (by omega)
    rw [if_pos h, Nat.mul_one]
    simp only [aX5_firstTurn_0, aX5_firstTurn_1, aX5_firstTurn_4, aX5_firstTurn_7, aX5_firstTurn_10, aX5_firstTurn_11, aX5_firstTurn_14, aX5_firstTurn_15, aX5_firstTurn_18, aX5_firstTurn_21, aX5_firstTurn_22, aX5_firstTurn_25, aX5_firstTurn_26, Nat.zero_le, Nat.reduceLeDiff, Nat.reduceAdd, i1_0, rr_c3, zc9, oc9, zc10, oc10, zc11, oc11, zc12, oc12, zc13, oc13, zc15, oc15, Int32.lt_irrefl, Nat.zero_lt_one, Rt_cons, Rt_void, isB_0, isB_1, isB_b, true_and, and_true, cats_nil, cats_int, cats_ref, and_self, if_true, if_false, ite_self, le_nlt, ite_not, c9, c10, c11, c12, c13, c15, aT_10, aT_11, aT_12, aT_13, aT_15, aN_10, aN_11, aN_12, aN_13, aN_15, rr_lt, e, ed, l1, l3, e1, not_false_eq_true]
  · obtain rfl : N = 0 := by omega
    have e0 : nI 0 = 0 := rfl
    simp only [aX5_firstTurn_0, aX5_firstTurn_1, aX5_firstTurn_4, aX5_firstTurn_7, aX5_firstTurn_10, aX5_firstTurn_11, aX5_firstTurn_14, aX5_firstTurn_15, aX5_firstTurn_18, aX5_firstTurn_21, aX5_firstTurn_22, aX5_firstTurn_25, aX5_firstTurn_26, Nat.zero_le, Nat.reduceLeDiff, Nat.reduceAdd, i1_0, rr_c3, zc9, oc9, zc10, oc10, zc11, oc11, zc12, oc12, zc13, oc13, zc15, oc15, Int32.lt_irrefl, Nat.zero_lt_one, Rt_cons, Rt_void, isB_0, isB_1, isB_b, true_and, and_true, cats_nil, cats_int, cats_ref, and_self, if_true, if_false, ite_self, le_nlt, ite_not, c9, c10, c11, c12, c13, c15, aT_10, aT_11, aT_12, aT_13, aT_15, aN_10, aN_11, aN_12, aN_13, aN_15, rr_lt, e, e0, Nat.mul_zero, Nat.lt_irrefl]
theorem lp_pass {i C N G B d f : Nat} {ct ow kd pt : Nat → Int32} (rn : RN ct ow kd pt C N G) (hi : i < 34) (hf : f = d % N) : ∀ (m k : Nat) (σ : Mem) (w : Nat → Int32), k + m = N → RC σ (rr (σ 9 i 0)) ct ow kd pt C N G → CS σ i w → WH B G N w →
    ∃ τ, (∀ fs Q, Rn mX5_passDay 30 [.ref (ad 9 i), .int (nI N), .int (nI f), .int (nI k)] [] fs (enc σ) Q ↔ Rn mX5_passDay 50 [.ref (ad 9 i), .int (nI N), .int (nI f), .int (nI N)] [] fs (enc τ) Q) ∧ CS τ i (trs ow kd pt N d k m w) ∧ Fr σ τ i := by
  intro m
  induction m with
  | zero =>
    intro k σ w hk rc h hw
    obtain rfl : k = N := by omega
    refine ⟨σ, fun fs Q => ?_, h, Fr_refl⟩
    simp only [aX5_passDay_30, aX5_passDay_31, aX5_passDay_32, Nat.zero_le, Nat.reduceLeDiff, Nat.reduceAdd, i1_0, rr_c3, zc9, oc9, zc10, oc10, zc11, oc11, zc12, oc12, zc13, oc13, zc15, oc15, Int32.lt_irrefl, Nat.zero_lt_one, Rt_cons, Rt_void, isB_0, isB_1, isB_b, true_and, and_true, cats_nil, cats_int, cats_ref, and_self, if_true, if_false, ite_self, le_nlt, ite_not]
  | succ m ih =>
    intro k σ w hk rc h hw
    have hN := rn.2.1
    have hj : (d + k) % N < N := Nat.mod_lt _ (by omega)
    obtain ⟨τ1, a1, a2, a3⟩ := sp_takeTurn rn rc hi hj h hw.1
    obtain ⟨τ2, b1, b2, b3⟩ := ih (k + 1) τ1 _ (by omega) (by rw [a3.2]; exact RC_Fr rc a3) a2 (WH_turn rn hw hj)
    refine ⟨τ2, fun fs Q => ?_, b2, Fr_trans a3 b3⟩
    have l : nI k < nI N := nI_lt (by omega) (by omega)
    have l3 : ¬ nI N = 0 := nI_ne0 (by omega) (by omega)
    have hfN : f < N := by rw [hf]; exact Nat.mod_lt _ (by omega)
    have e1 : nI (f + k) - nI (f + k) / nI N * nI N = nI ((d + k) % N) := by
      rw [pk_rem (by omega) (by omega) (by omega), hf, Nat.mod_add_mod]
    rw [aX5_passDay_30]
    simp only [aX5_passDay_31, aX5_passDay_32, aX5_passDay_35, aX5_passDay_36, aX5_passDay_37, aX5_passDay_38, aX5_passDay_39, aX5_passDay_40, Nat.zero_le, Nat.reduceLeDiff, Nat.reduceAdd, i1_0, rr_c3, zc9, oc9, zc10, oc10, zc11, oc11, zc12, oc12, zc13, oc13, zc15, oc15, Int32.lt_irrefl, Nat.zero_lt_one, Rt_cons, Rt_void, isB_0, isB_1, isB_b, true_and, and_true, cats_nil, cats_int, cats_ref, and_self, if_true, if_false, ite_self, le_nlt, ite_not, l, l3, nI_add, e1, not_false_eq_true]
    rw [aX5_passDay_41 hi, a1]
    simp only [aX5_passDay_44, aX5_passDay_47, Nat.zero_le, Nat.reduceLeDiff, Nat.reduceAdd, i1_0, rr_c3, zc9, oc9, zc10, oc10, zc11, oc11, zc12, oc12, zc13, oc13, zc15, oc15, Int32.lt_irrefl, Nat.zero_lt_one, Rt_cons, Rt_void, isB_0, isB_1, isB_b, true_and, and_true, cats_nil, cats_int, cats_ref, and_self, if_true, if_false, ite_self, le_nlt, ite_not, nI_1]
    exact b1 fs Q
theorem CS_add {i : Nat} {w : Nat → Int32} {x : Int32} (h : CS σ i w) : CS (upS σ 9 i 2 (if 9999 < σ 9 i 2 + x then 9999 else σ 9 i 2 + x)) i (addF w x) := by
  unfold addF
  rw [h.2.1]
  exact CS_s h
theorem sp_passDay {i C N G B d : Nat} {ct ow kd pt w : Nat → Int32} (rn : RN ct ow kd pt C N G) (rc : RC σ (rr (σ 9 i 0)) ct ow kd pt C N G) (hi : i < 34) (h : CS σ i w) (hw : WH B G N w) (hd : d < 100000) (ed : w 0 = nI d) :
    ∃ τ, (∀ fs Q, Rn mX5_passDay 0 [.ref (ad 9 i), .null, .null, .null] [] fs (enc σ) Q ↔ Rt fs (enc τ) none Q) ∧ CS τ i (passF ct ow kd pt C N d w) ∧ Fr σ τ i := by
  have c9 : i < cnt 9 := hi
  obtain ⟨x, x1, x2⟩ := ctF_val rn d
  have hA := CS_add (x := ctF ct C d) h
  have fA : Fr σ (upS σ 9 i 2 (if 9999 < σ 9 i 2 + ctF ct C d then 9999 else σ 9 i 2 + ctF ct C d)) i := Fr_upS (by omega) (by omega)
  have e1 : σ 9 i 1 = nI d := h.1.trans ed
  have wA : WH B G N (addF w (ctF ct C d)) := by rw [x2]; exact WH_add hw (by omega)
  obtain ⟨υ, hυ⟩ : ∃ υ, υ = upS σ 9 i 2 (if 9999 < σ 9 i 2 + ctF ct C d then 9999 else σ 9 i 2 + ctF ct C d) := ⟨_, rfl⟩
  rw [← hυ] at hA fA
  have rA : RC υ (rr (υ 9 i 0)) ct ow kd pt C N G := by rw [fA.2]; exact RC_Fr rc fA
  have eA : υ 9 i 1 = nI d := by rw [hA.1]; unfold addF; rw [upd_ne (by omega), ed]
  by_cases hN : 0 < N
  · obtain ⟨τ, b1, b2, b3⟩ := lp_pass (d := d) (f := d % N) rn hi rfl N 0 υ _ (by omega) rA hA wA
    refine ⟨upS τ 9 i 1 (τ 9 i 1 + 1), fun fs Q => ?_, CS_inc b2, Fr_trans (Fr_trans fA b3) (Fr_upS (by omega) (by omega))⟩
    have e0 : nI 0 = 0 := rfl
    rw [e0] at b1
    simp only [aX5_passDay_0, aX5_passDay_1, aX5_passDay_2, aX5_passDay_5, aX5_passDay_6, aX5_passDay_9, aX5_passDay_12, aX5_passDay_15, aX5_passDay_16, aX5_passDay_19, aX5_passDay_22, aX5_passDay_23, aX5_passDay_24, aX5_passDay_27, aX5_passDay_28, aX5_passDay_29, Nat.zero_le, Nat.reduceLeDiff, Nat.reduceAdd, i1_0, rr_c3, zc9, oc9, zc10, oc10, zc11, oc11, zc12, oc12, zc13, oc13, zc15, oc15, Int32.lt_irrefl, Nat.zero_lt_one, Rt_cons, Rt_void, isB_0, isB_1, isB_b, true_and, and_true, cats_nil, cats_int, cats_ref, and_self, if_true, if_false, ite_self, le_nlt, ite_not, c9, rr_lt, e1, sp_catch (rr_lt _) rn.1 hd rc.1.1 rc.2.1, sp_addHeads hi, ← hυ, rA.1.2.1, sp_firstTurn hi rn.2.1 hd rA.1.2.1 eA, if_pos hN, Nat.mul_one, b1]
    simp only [aX5_passDay_50, aX5_passDay_51i, aX5_passDay_51a, aX5_passDay_52, aX5_passDay_55, aX5_passDay_56, aX5_passDay_57, aX5_passDay_60, Nat.zero_le, Nat.reduceLeDiff, Nat.reduceAdd, i1_0, rr_c3, zc9, oc9, zc10, oc10, zc11, oc11, zc12, oc12, zc13, oc13, zc15, oc15, Int32.lt_irrefl, Nat.zero_lt_one, Rt_cons, Rt_void, isB_0, isB_1, isB_b, true_and, and_true, cats_nil, cats_int, cats_ref, and_self, if_true, if_false, ite_self, le_nlt, ite_not, c9]
  · obtain rfl : N = 0 := by omega
    have e0 : nI 0 = 0 := rfl
    refine ⟨upS υ 9 i 1 (υ 9 i 1 + 1), fun fs Q => ?_, CS_inc hA, Fr_trans fA (Fr_upS (by omega) (by omega))⟩
    simp only [aX5_passDay_0, aX5_passDay_1, aX5_passDay_2, aX5_passDay_5, aX5_passDay_6, aX5_passDay_9, aX5_passDay_12, aX5_passDay_15, aX5_passDay_16, aX5_passDay_19, aX5_passDay_22, aX5_passDay_23, aX5_passDay_24, aX5_passDay_27, aX5_passDay_28, aX5_passDay_29, aX5_passDay_30, aX5_passDay_31, aX5_passDay_32, Nat.zero_le, Nat.reduceLeDiff, Nat.reduceAdd, i1_0, rr_c3, zc9, oc9, zc10, oc10, zc11, oc11, zc12, oc12, zc13, oc13, zc15, oc15, Int32.lt_irrefl, Nat.zero_lt_one, Rt_cons, Rt_void, isB_0, isB_1, isB_b, true_and, and_true, cats_nil, cats_int, cats_ref, and_self, if_true, if_false, ite_self, le_nlt, ite_not, c9, rr_lt, e1, sp_catch (rr_lt _) rn.1 hd rc.1.1 rc.2.1, sp_addHeads hi, ← hυ, rA.1.2.1, sp_firstTurn hi rn.2.1 hd rA.1.2.1 eA, e0]
    simp only [aX5_passDay_50, aX5_passDay_51i, aX5_passDay_51a, aX5_passDay_52, aX5_passDay_55, aX5_passDay_56, aX5_passDay_57, aX5_passDay_60, Nat.zero_le, Nat.reduceLeDiff, Nat.reduceAdd, i1_0, rr_c3, zc9, oc9, zc10, oc10, zc11, oc11, zc12, oc12, zc13, oc13, zc15, oc15, Int32.lt_irrefl, Nat.zero_lt_one, Rt_cons, Rt_void, isB_0, isB_1, isB_b, true_and, and_true, cats_nil, cats_int, cats_ref, and_self, if_true, if_false, ite_self, le_nlt, ite_not, c9]
/-- the reference's -/
theorem lp_passes {k0 C N G B d : Nat} {ct ow kd pt : Nat → Int32} (hk : k0 = 43 ∨ k0 = 44) (rn : RN ct ow kd pt C N G) (hd : d < 100000) : ∀ (m k : Nat) (w : Nat → Int32) (l3 : Value), k + m = N → σ 31 0 1 = nI N → σ 33 0 = ow → σ 35 0 = kd → σ 36 0 = pt → WH B G N w → w 0 = nI d →
    (Rn mX8_passes 30 [.ref (ad 29 0), .ref (ad k0 0), .int (nI k), l3] [] fs (enc (updK σ k0 0 w)) Q ↔ Rt fs (enc (updK σ k0 0 (incF (trs ow kd pt N d k m w)))) none Q) := by
  intro m
  have ht : aT k0 = 0 := by rcases hk with rfl | rfl <;> rfl
  have hc : 0 < cnt k0 := by rcases hk with rfl | rfl <;> decide
  have hn : aN k0 = 99 := by rcases hk with rfl | rfl <;> rfl
  have u31 : ∀ f, updK σ k0 0 f 31 0 = σ 31 0 := fun f => updK_ne (by omega)
  induction m with
  | zero =>
    intro k w l3 hkm e31 e33 e35 e36 hw ew
    obtain rfl : k = N := by omega
    simp only [aX8_passes_30, aX8_passes_31, aX8_passes_32, aX8_passes_35, aX8_passes_36, aX8_passes_37, aX8_passes_78, aX8_passes_79, aX8_passes_80, aX8_passes_81, aX8_passes_82, aX8_passes_83, aX8_passes_84, aX8_passes_85, Nat.zero_le, Nat.reduceLeDiff, Nat.reduceAdd, i1_0, rr_c3, zc9, oc9, zc10, oc10, zc11, oc11, zc12, oc12, zc13, oc13, zc15, oc15, Int32.lt_irrefl, Nat.zero_lt_one, Rt_cons, Rt_void, isB_0, isB_1, isB_b, true_and, and_true, cats_nil, cats_int, cats_ref, and_self, if_true, if_false, ite_self, le_nlt, ite_not, aT_31, aN_31, cnt_31, v3.2.1, c1, u31, e31, ht, hc, hn, v99.1, c0, updK_eq, upS_updK]
    rfl
  | succ m ih =>
    intro k w l3 hkm e31 e33 e35 e36 hw ew
    have hN := rn.2.1
    have hj : (d + k) % N < N := Nat.mod_lt _ (by omega)
    have l : nI k < nI N := nI_lt (by omega) (by omega)
    have l3' : ¬ nI N = 0 := nI_ne0 (by omega) (by omega)
    have e1 : nI (d + k) - nI (d + k) / nI N * nI N = nI ((d + k) % N) := pk_rem (by omega) (by omega) (by omega)
    have ih' := ih (k + 1) (turnW ow kd pt w ((d + k) % N)) (.int (nI ((d + k) % N))) (by omega) e31 e33 e35 e36 (WH_turn rn hw hj) (turnW_0.trans ew)
    unfold trs
    rw [← ih', aX8_passes_30]
    generalize hjj : (d + k) % N = j at hj e1 ih' ⊢
    have hj7 : j < 7 := by omega
    have A : Rn mX8_passes 31 [.ref (ad 29 0), .ref (ad k0 0), .int (nI k), l3] [.int (nI k)] fs (enc (updK σ k0 0 w)) Q ↔ Rn mX8_passes 63 [.ref (ad 29 0), .ref (ad k0 0), .int (nI k), .int (nI j)] [.int (w (64 + 5 * j + 1))] fs (enc (updK σ k0 0 w)) Q := by
      simp only [aX8_passes_31, aX8_passes_32, aX8_passes_35, aX8_passes_36, aX8_passes_37, aX8_passes_40, aX8_passes_41, aX8_passes_42, aX8_passes_43, aX8_passes_44, aX8_passes_45, aX8_passes_46, aX8_passes_49, aX8_passes_50, aX8_passes_51, aX8_passes_52, aX8_passes_53, aX8_passes_54, aX8_passes_56, aX8_passes_57, aX8_passes_58, aX8_passes_59, aX8_passes_60, aX8_passes_61, aX8_passes_62, Nat.zero_le, Nat.reduceLeDiff, Nat.reduceAdd, i1_0, rr_c3, zc9, oc9, zc10, oc10, zc11, oc11, zc12, oc12, zc13, oc13, zc15, oc15, Int32.lt_irrefl, Nat.zero_lt_one, Rt_cons, Rt_void, isB_0, isB_1, isB_b, true_and, and_true, cats_nil, cats_int, cats_ref, and_self, if_true, if_false, ite_self, le_nlt, ite_not, aT_31, aN_31, cnt_31, v3.2.1, c1, u31, e31, ht, hc, hn, v99.1, c0, updK_eq, ew, nI_add, l, l3', e1, not_false_eq_true, n5, n64, nI_1, in99 (show 64 + 5 * j + 1 < 99 by omega), cl10 (show 64 + 5 * j + 1 < 10000 by omega)]
    rw [A]
    unfold turnW
    by_cases q : w (64 + 5 * j + 1) = 0
    · obtain ⟨g, g1, g2⟩ : ∃ g : Nat, g < G ∧ w (64 + 5 * j + 2) = nI g := (hw.1.2.2.2.1 j hj7).2.2.1.resolve_left (hw.2 j hj7 q)
      have hg7 : g < 7 := by have := rn.2.2.1; omega
      have f33 : updK σ k0 0 w 33 0 = ow := (updK_ne (by omega)).trans e33
      have f35 : updK σ k0 0 w 35 0 = kd := (updK_ne (by omega)).trans e35
      have f36 : updK σ k0 0 w 36 0 = pt := (updK_ne (by omega)).trans e36
      rw [if_pos q, g2, cl10 (show g < 10000 by omega)]
      simp only [aX8_passes_63, aX8_passes_66, aX8_passes_67, aX8_passes_68, aX8_passes_69, aX8_passes_72, aX8_passes_75, Nat.zero_le, Nat.reduceLeDiff, Nat.reduceAdd, i1_0, rr_c3, zc9, oc9, zc10, oc10, zc11, oc11, zc12, oc12, zc13, oc13, zc15, oc15, Int32.lt_irrefl, Nat.zero_lt_one, Rt_cons, Rt_void, isB_0, isB_1, isB_b, true_and, and_true, cats_nil, cats_int, cats_ref, and_self, if_true, if_false, ite_self, le_nlt, ite_not, hc, sp_pays (σ := updK σ k0 0 w) (k0 := k0) (by omega) (by omega) (by omega) (by omega) ht hc hn hj7 hg7 (by rw [updK_eq]; exact g2), f33, f35, f36, updK_eq, updK_idem, q, not_true_eq_false, nI_1]
    · rw [if_neg q]
      simp only [aX8_passes_63, aX8_passes_66, aX8_passes_67, aX8_passes_68, aX8_passes_69, aX8_passes_72, aX8_passes_75, Nat.zero_le, Nat.reduceLeDiff, Nat.reduceAdd, i1_0, rr_c3, zc9, oc9, zc10, oc10, zc11, oc11, zc12, oc12, zc13, oc13, zc15, oc15, Int32.lt_irrefl, Nat.zero_lt_one, Rt_cons, Rt_void, isB_0, isB_1, isB_b, true_and, and_true, cats_nil, cats_int, cats_ref, and_self, if_true, if_false, ite_self, le_nlt, ite_not, q, not_false_eq_true, nI_1]
theorem sp_passes {k0 C N G B d : Nat} {ct ow kd pt w : Nat → Int32} (hk : k0 = 43 ∨ k0 = 44) (rn : RN ct ow kd pt C N G) (hC : 0 < C) (hd : d < 100000) (e31 : σ 31 0 1 = nI N) (e310 : σ 31 0 0 = nI C) (e32 : σ 32 0 = ct) (e33 : σ 33 0 = ow) (e35 : σ 35 0 = kd) (e36 : σ 36 0 = pt) (hw : WH B G N w) (ew : w 0 = nI d) (ek : σ k0 0 = w) :
    Rn mX8_passes 0 [.ref (ad 29 0), .ref (ad k0 0), .null, .null] [] fs (enc σ) Q ↔ Rt fs (enc (updK σ k0 0 (passF ct ow kd pt C N d w))) none Q := by
  have ht : aT k0 = 0 := by rcases hk with rfl | rfl <;> rfl
  have hc : 0 < cnt k0 := by rcases hk with rfl | rfl <;> decide
  have hn : aN k0 = 99 := by rcases hk with rfl | rfl <;> rfl
  have l3' : ¬ nI C = 0 := nI_ne0 hC (by have := rn.1; omega)
  have hm : d % C < C := Nat.mod_lt _ hC
  have e1 : nI d - nI d / nI C * nI C = nI (d % C) := pk_rem (by omega) hC (by have := rn.1; omega)
  have v : vp_in (nI (d % C)) 12 := vp_in_nI (by have := rn.1; omega) (by decide)
  obtain ⟨x, x1, x2⟩ := ctF_val rn d
  have ec : ct (d % C) = ctF ct C d := by unfold ctF; rw [if_pos hC]
  have wA : WH B G N (addF w (ctF ct C d)) := by rw [x2]; exact WH_add hw (by omega)
  have eA : addF w (ctF ct C d) 0 = nI d := by unfold addF; rw [upd_ne (by omega), ew]
  have := lp_passes (σ := σ) (fs := fs) (Q := Q) hk rn hd N 0 (addF w (ctF ct C d)) .null (by omega) e31 e33 e35 e36 wA eA
  have e0 : nI 0 = 0 := rfl
  rw [e0] at this
  simp only [aX8_passes_0, aX8_passes_1, aX8_passes_2, aX8_passes_5, aX8_passes_6, aX8_passes_7, aX8_passes_8, aX8_passes_9, aX8_passes_12, aX8_passes_13, aX8_passes_14, aX8_passes_15, aX8_passes_16, aX8_passes_19, aX8_passes_20, aX8_passes_21, aX8_passes_22, aX8_passes_23, aX8_passes_24, aX8_passes_27, aX8_passes_28, aX8_passes_29, Nat.zero_le, Nat.reduceLeDiff, Nat.reduceAdd, i1_0, rr_c3, zc9, oc9, zc10, oc10, zc11, oc11, zc12, oc12, zc13, oc13, zc15, oc15, Int32.lt_irrefl, Nat.zero_lt_one, Rt_cons, Rt_void, isB_0, isB_1, isB_b, true_and, and_true, cats_nil, cats_int, cats_ref, and_self, if_true, if_false, ite_self, le_nlt, ite_not, ht, hc, hn, aT_31, aN_31, cnt_31, v3.1, c0, c1, v99.1, v99.2.1, e310, ek, ew, l3', not_false_eq_true, e1, aT_32, aN_32, cnt_32, v, cl10 (show d % C < 10000 by have := rn.1; omega), e32, sp_lesser, ec]
  have ec2 : upS σ k0 0 1 (if 9999 < w 1 + ctF ct C d then 9999 else w 1 + ctF ct C d) = updK σ k0 0 (addF w (ctF ct C d)) := by
    unfold addF
    rw [upS_chain, ek]
  rw [ec2]
  exact this
end S60
