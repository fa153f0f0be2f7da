-- what is tried: only the first 99 numbers count
def Ag (v w : Nat → Int32) : Prop := ∀ j, j < 99 → v j = w j
theorem Ag_refl {w : Nat → Int32} : Ag w w := fun _ _ => rfl
theorem Ag_symm {v w : Nat → Int32} (h : Ag v w) : Ag w v := fun j hj => (h j hj).symm
theorem Ag_trans {u v w : Nat → Int32} (h : Ag u v) (g : Ag v w) : Ag u w := fun j hj => (h j hj).trans (g j hj)
theorem Ag_upd {v w : Nat → Int32} {a : Nat} {x y : Int32} (h : Ag v w) (e : x = y) : Ag (upd v a x) (upd w a y) := by
  intro j hj
  unfold upd
  split
  · exact e
  · exact h j hj
section S72a
variable {v w : Nat → Int32} {j : Nat}
theorem Ag_cry {a b : Int32} (h : Ag v w) : Ag (cryW v a b) (cryW w a b) := by
  unfold cryW
  rw [h 0 (by omega), h 3 (by omega)]
  refine Ag_upd (Ag_upd (Ag_upd (Ag_upd ?_ rfl) rfl) rfl) rfl
  intro x hx
  unfold shk
  split
  · exact h _ (by omega)
  · exact h _ hx
theorem Ag_pyA {ow kd : Int32} (h : Ag v w) (hj : j < 7) : Ag (pyA ow kd v j) (pyA ow kd w j) := by
  unfold pyA
  rw [h 1 (by omega), h (64 + 5 * j) (by omega)]
  exact Ag_upd (Ag_upd h rfl) rfl
theorem Ag_pyB {lk : Int32} (h : Ag v w) (hj : j < 7) : Ag (pyB lk v j) (pyB lk w j) := by
  unfold pyB
  rw [h 1 (by omega), h (64 + 5 * j) (by omega)]
  split
  · exact Ag_cry h
  · split
    · exact Ag_upd (Ag_upd h rfl) rfl
    · exact h
theorem Ag_pyC (h : Ag v w) (hj : j < 7) : Ag (pyC v j) (pyC w j) := by
  unfold pyC
  rw [h (64 + 5 * j) (by omega), h (64 + 5 * j + 3) (by omega)]
  exact Ag_upd h rfl
theorem Ag_put (h : Ag v w) : Ag (putW v j) (putW w j) := by
  unfold putW
  rw [h 2 (by omega)]
  exact Ag_upd (Ag_upd h rfl) rfl
theorem Ag_pyD {kd pt : Int32} (h : Ag v w) (hj : j < 7) : Ag (pyD kd pt v j) (pyD kd pt w j) := by
  unfold pyD
  rw [h (64 + 5 * j) (by omega), h (64 + 5 * j + 3) (by omega)]
  split
  · exact Ag_upd (Ag_upd h rfl) rfl
  · split
    · exact Ag_put h
    · exact h
theorem Ag_turn {ow kd pt : Nat → Int32} (h : Ag v w) (hj : j < 7) : Ag (turnW ow kd pt v j) (turnW ow kd pt w j) := by
  unfold turnW
  rw [h (64 + 5 * j + 1) (by omega), h (64 + 5 * j + 2) (by omega)]
  split
  · unfold pysF lck
    rw [h 1 (by omega)]
    exact Ag_pyD (Ag_pyC (Ag_pyB (Ag_pyA h hj) hj) hj) hj
  · exact h
end S72a
theorem Ag_trs {ow kd pt : Nat → Int32} {N d : Nat} (hN : N ≤ 7) : ∀ {m k : Nat} {v w : Nat → Int32}, k + m ≤ N → Ag v w → Ag (trs ow kd pt N d k m v) (trs ow kd pt N d k m w) := by
  intro m
  induction m with
  | zero => intro k v w _ h; exact h
  | succ m ih =>
    intro k v w hk h
    have := Nat.mod_lt (d + k) (show 0 < N by omega)
    exact ih (by omega) (Ag_turn h (by omega))
theorem Ag_pass {ct ow kd pt : Nat → Int32} {C N : Nat} {v w : Nat → Int32} (hN : N ≤ 7) (h : Ag v w) : Ag (passW ct ow kd pt C N v) (passW ct ow kd pt C N w) := by
  unfold passW passF
  rw [h 0 (by omega)]
  generalize (w 0).toNatClampNeg = d
  have h1 : Ag (addF v (ctF ct C d)) (addF w (ctF ct C d)) := by
    unfold addF
    rw [h 1 (by omega)]
    exact Ag_upd h rfl
  have h2 := Ag_trs (ow := ow) (kd := kd) (pt := pt) (d := d) hN (show 0 + N ≤ N by omega) h1
  unfold incF
  rw [h2 0 (by omega)]
  exact Ag_upd h2 rfl
theorem Ag_it {ct ow kd pt : Nat → Int32} {C N : Nat} (hN : N ≤ 7) : ∀ {n : Nat} {v w : Nat → Int32}, Ag v w → Ag (itW (passW ct ow kd pt C N) n v) (itW (passW ct ow kd pt C N) n w) := by
  intro n
  induction n with
  | zero => intro v w h; exact h
  | succ n ih => intro v w h; exact ih (Ag_pass hN h)
theorem Ag_WH {B G N : Nat} {v w : Nat → Int32} (h : Ag v w) (hw : WH B G N w) : WH B G N v := ⟨WFw_congr hw.1 h, fun j hj => by rw [h _ (by omega), h _ (by omega)]; exact hw.2 j hj⟩
theorem Ag_Eo {n v w : Nat → Int32} {h : Nat} (hh : h < 7) (a : Ag v w) : Eo n v h = Eo n w h := by unfold Eo; rw [a _ (by omega)]
theorem Ag_Ro {n v w : Nat → Int32} {h : Nat} (hh : h < 7) (a : Ag v w) : Ro n v h = Ro n w h := by unfold Ro; rw [a _ (by omega)]
theorem fgL_cong {p p' : Nat → Bool} {f : Nat → Nat} {x : Int32} {fg : Int32 × Int32} : ∀ {j : Nat}, (∀ i, i < j → p (f i) = p' (f i)) → fgL p f x fg j = fgL p' f x fg j := by
  intro j
  induction j with
  | zero => intro _; rfl
  | succ j ih =>
    intro h
    unfold fgL
    rw [ih (fun i hi => h i (by omega)), h j (by omega)]
theorem foL_Ag {now : Nat → Int32} {ct ow kd pt : Nat → Int32} {C N : Nat} {v w : Nat → Int32} (hN : N ≤ 7) (h : Ag v w) : ∀ k, foL now (passW ct ow kd pt C N) N v k = foL now (passW ct ow kd pt C N) N w k := by
  intro k
  induction k with
  | zero => rfl
  | succ k ih =>
    unfold foL
    have a1 := Ag_it (ct := ct) (ow := ow) (kd := kd) (pt := pt) (C := C) hN (n := k + 1) h
    have a0 := Ag_it (ct := ct) (ow := ow) (kd := kd) (pt := pt) (C := C) hN (n := k) h
    rw [ih, a0 0 (by omega)]
    refine fgL_cong (fun i hi => ?_)
    have hm := Nat.mod_lt ((itW (passW ct ow kd pt C N) k w 0).toNatClampNeg + i) (show 0 < N by omega)
    show (Eo now (itW (passW ct ow kd pt C N) (k + 1) v) _ && _) = (Eo now (itW (passW ct ow kd pt C N) (k + 1) w) _ && _)
    rw [Ag_Eo (by omega) a1, bs_cong (fun t ht => Ag_Eo (n := now) (show t < 7 by omega) a0)]
theorem foL_0 {now : Nat → Int32} {F : (Nat → Int32) → (Nat → Int32)} {w : Nat → Int32} : ∀ k, foL now F 0 w k = (-1, -1) := by
  intro k
  induction k with
  | zero => rfl
  | succ k ih => unfold foL; rw [ih]; rfl
/-- what goesOn leaves -/
def TryR (σ τ : Mem) (C N n : Nat) (u0 : Nat → Int32) : Prop :=
  τ 29 0 29 = nI (bs (Eo (σ 43 0) (itW (passW (σ 32 0) (σ 33 0) (σ 35 0) (σ 36 0) C N) n u0)) N) ∧
  τ 29 0 30 = nI (bs (Ro (σ 43 0) (itW (passW (σ 32 0) (σ 33 0) (σ 35 0) (σ 36 0) C N) n u0)) N) ∧
  τ 29 0 31 = (foL (σ 43 0) (passW (σ 32 0) (σ 33 0) (σ 35 0) (σ 36 0) C N) N u0 n).1 ∧
  τ 29 0 32 = (foL (σ 43 0) (passW (σ 32 0) (σ 33 0) (σ 35 0) (σ 36 0) C N) N u0 n).2 ∧
  (0 < C → Ag (τ 44 0) (itW (passW (σ 32 0) (σ 33 0) (σ 35 0) (σ 36 0) C N) n u0)) ∧
  (∀ k i, ¬ k = 44 → ¬ k = 29 → τ k i = σ k i) ∧ ∀ s, s < 29 ∨ 32 < s → τ 29 0 s = σ 29 0 s
section S72
variable {σ : Mem} {fs : List Fm} {M : List va_E} {Q : List va_E → Option Value → Prop}
theorem sp_try {n C N G B : Nat} {u0 : Nat → Int32} (rn : RN (σ 32 0) (σ 33 0) (σ 35 0) (σ 36 0) C N G) (hn : n ≤ 60) (hB : B ≤ 20000) (l0 : σ 31 0 0 = nI C) (l1 : σ 31 0 1 = nI N) (hw : WH B G N u0) (ha : Ag (σ 44 0) u0) (hs : ∀ h, h < 7 → u0 (64 + 5 * h + 1) = σ 43 0 (64 + 5 * h + 1)) :
    ∃ τ, (∀ fs Q, Rn mX8_goesOn 0 [.ref (ad 29 0), .int (nI n), .null, .null, .null, .null, .null, .null, .null] [] fs (enc σ) Q ↔ Rt fs (enc τ) none Q) ∧ TryR σ τ C N n u0 := by
  have hN := rn.2.1
  by_cases hC : 0 < C
  · refine ⟨_, fun fs Q => sp_goesOn (σ := σ) (fs := fs) (Q := Q) (w0 := σ 44 0) rn hC hn hB l1 l0 rfl rfl rfl rfl (Ag_WH ha hw) rfl (fun h hh => by rw [ha _ (by omega)]; exact hs h hh), ?_⟩
    have a := Ag_it (ct := σ 32 0) (ow := σ 33 0) (kd := σ 35 0) (pt := σ 36 0) (C := C) hN (n := n) ha
    refine ⟨?_, ?_, ?_, ?_, fun _ => ?_, fun k i a b => gM_ne a b, fun s hs => gM_lo hs⟩
    · rw [gM_o, bs_cong (fun t ht => Ag_Eo (show t < 7 by omega) a)]
    · rw [gM_r, bs_cong (fun t ht => Ag_Ro (show t < 7 by omega) a)]
    · rw [gM_f, foL_Ag hN ha]
    · rw [gM_g, foL_Ag hN ha]
    · rw [gM_44]; exact a
  · obtain rfl : C = 0 := by omega
    obtain rfl : N = 0 := rn.2.2.2.1 rfl
    refine ⟨_, fun fs Q => sp_goesOn0 (σ := σ) (fs := fs) (Q := Q) (w0 := σ 44 0) hn l0 rfl, ?_⟩
    refine ⟨by rw [gM_o]; rfl, by rw [gM_r]; rfl, by rw [gM_f, foL_0], by rw [gM_g, foL_0], fun h => absurd h (by omega), fun k i a b => gM_ne a b, fun s hs => gM_lo hs⟩
/-- what only calls that try change is nothing of the relation -/
theorem Rel_free {σ τ : Mem} (hR : Rel σ) (hne : ∀ k i, ¬ (9 ≤ k ∧ k ≤ 15 ∧ i = 1) → ¬ k = 44 → ¬ k = 29 → ¬ k = 20 → ¬ k = 24 → ¬ k = 25 → ¬ k = 51 → τ k i = σ k i) (h20 : τ 20 0 3 = σ 20 0 3) (h29 : ∀ s, s < 27 → τ 29 0 s = σ 29 0 s) : Rel τ := by
  obtain ⟨r1, r2, C, N, G, r3, r4, r5, r6, r7⟩ := hR
  have h := fun k i (a : ¬ (9 ≤ k ∧ k ≤ 15 ∧ i = 1) ∧ k ≠ 44 ∧ k ≠ 29 ∧ k ≠ 20 ∧ k ≠ 24 ∧ k ≠ 25 ∧ k ≠ 51) => hne k i a.1 a.2.1 a.2.2.1 a.2.2.2.1 a.2.2.2.2.1 a.2.2.2.2.2.1 a.2.2.2.2.2.2
  refine ⟨TxtR_congr r1 (h _ _ (by omega)) (h _ _ (by omega)) (h _ _ (by omega)) (h29 _ (by omega)) (h29 _ (by omega)), SeedR_congr r2 (by rw [h 0 0 (by omega)]) (h29 _ (by omega)), C, N, G, ?_, ?_, ?_, ?_, ?_⟩
  · exact NowR_congr r3 (by rw [h 0 0 (by omega)]) (fun k q a => h _ _ (by omega)) (fun k a b => h _ _ (by omega)) (fun k a => h _ _ (by omega)) (h _ _ (by omega))
  · exact EarR_congr r4 h20 (h29 _ (by omega)) (h _ _ (by omega)) (h _ _ (by omega)) (h _ _ (by omega)) (h _ _ (by omega))
  · exact BookR_congr r5 (by rw [h 26 0 (by omega)]) (h29 _ (by omega)) (h _ _ (by omega)) (h _ _ (by omega)) (h _ _ (by omega))
  · rw [h 9 0 (by omega)]
    exact PastR_congr r6 (h _ _ (by omega)) (h29 _ (by omega)) (h _ _ (by omega)) (fun k i a b _ _ => h _ _ (by omega))
  · rw [h 9 0 (by omega)]
    exact ImgR_congr r7 (fun i => h _ _ (by omega)) (h _ _ (by omega)) (h _ _ (by omega)) (h _ _ (by omega)) (fun k i a b _ _ => h _ _ (by omega))
/-- the trial, as it is copied -/
def TrC (σ τ : Mem) (v : Nat → Int32) : Prop := CS τ 1 v ∧ rr (τ 9 1 0) = rr (σ 9 0 0) ∧ ∀ k i, ¬ (9 ≤ k ∧ k ≤ 15 ∧ i = 1) → τ k i = σ k i
theorem TrC_cp {C N G : Nat} (r3 : NowR σ C N G) : TrC σ (cpF σ 1 0) (σ 43 0) := ⟨CS_copy (by omega) r3.2.2.1, cpF_row (by omega), fun k i h => cpF_ne h⟩
theorem TrC_RC {C N G : Nat} {τ : Mem} {v : Nat → Int32} (r3 : NowR σ C N G) (h : TrC σ τ v) : RC τ (rr (τ 9 1 0)) (σ 32 0) (σ 33 0) (σ 35 0) (σ 36 0) C N G := by
  rw [h.2.1]
  exact RC_congr (RC_of r3.1) (fun k a b => h.2.2 k _ (by omega))
theorem TrC_Fr {τ υ : Mem} {v v' : Nat → Int32} (h : TrC σ τ v) (f : Fr τ υ 1) (c : CS υ 1 v') : TrC σ υ v' := ⟨c, by rw [f.2]; exact h.2.1, fun k i a => by rw [f.1 k i a]; exact h.2.2 k i a⟩
theorem WH_now {C N G : Nat} (r3 : NowR σ C N G) : WH 10000 G N (σ 43 0) := ⟨r3.2.2.2, HG_of r3.2.2.1⟩
theorem sp_tryDays {n C N G : Nat} (r3 : NowR σ C N G) (hn : n ≤ 60) : ∃ τ, (∀ fs Q, Rn mX7_tryDays 0 [.ref (ad 0 0), .int (nI n)] [] fs (enc σ) Q ↔ Rt fs (enc τ) none Q) ∧ TrC σ τ (itW (passW (σ 32 0) (σ 33 0) (σ 35 0) (σ 36 0) C N) n (σ 43 0)) := by
  have t0 := TrC_cp r3
  obtain ⟨τ, a1, a2, a3⟩ := sp_passDays (RN_of r3.1) (TrC_RC r3 t0) (show 1 < 34 by decide) hn (show 10000 ≤ 20000 by decide) t0.1 (WH_now r3)
  refine ⟨τ, fun fs Q => ?_, TrC_Fr t0 a3 a2⟩
  simp only [aX7_tryDays_0, aX7_tryDays_1, aX7_tryDays_4, aX7_tryDays_5, Nat.zero_le, Nat.reduceLeDiff, Nat.reduceAdd, i1_0, rr_c3, zc9, oc9, zc10, oc10, zc11, oc11, zc12, oc12, zc13, oc13, zc15, oc15, Int32.lt_irrefl, Nat.zero_lt_one, Rt_cons, Rt_void, isB_0, isB_1, isB_b, true_and, and_true, cats_nil, cats_int, cats_ref, and_self, if_true, if_false, ite_self, le_nlt, ite_not]
  rw [aX7_tryDays_8 (by decide), sp_copyFrom (by omega) (by omega) (by omega) (CS_bool r3.2.2.1)]
  simp only [aX7_tryDays_11, aX7_tryDays_12, aX7_tryDays_15, Nat.zero_le, Nat.reduceLeDiff, Nat.reduceAdd, i1_0, rr_c3, zc9, oc9, zc10, oc10, zc11, oc11, zc12, oc12, zc13, oc13, zc15, oc15, Int32.lt_irrefl, Nat.zero_lt_one, Rt_cons, Rt_void, isB_0, isB_1, isB_b, true_and, and_true, cats_nil, cats_int, cats_ref, and_self, if_true, if_false, ite_self, le_nlt, ite_not]
  rw [aX7_tryDays_16 (by decide), a1]
  simp only [aX7_tryDays_19, Nat.zero_le, Nat.reduceLeDiff, Nat.reduceAdd, i1_0, rr_c3, zc9, oc9, zc10, oc10, zc11, oc11, zc12, oc12, zc13, oc13, zc15, oc15, Int32.lt_irrefl, Nat.zero_lt_one, Rt_cons, Rt_void, isB_0, isB_1, isB_b, true_and, and_true, cats_nil, cats_int, cats_ref, and_self, if_true, if_false, ite_self, le_nlt, ite_not]
theorem cpM_44 : Ag (cpM σ 43 0 44 0 44 0) (σ 43 0) := fun j hj => by
  unfold cpM
  rw [updK_eq, pk_cpy_in (by omega) (by omega)]
  simp
/-- copies(now, 0, tried, 0), goesOn(n) -/
theorem sp_mtry {n C N G : Nat} (rn : RN (σ 32 0) (σ 33 0) (σ 35 0) (σ 36 0) C N G) (hn : n ≤ 60) (l0 : σ 31 0 0 = nI C) (l1 : σ 31 0 1 = nI N) (hw : WH 10000 G N (σ 43 0)) :
    ∃ τ, (∀ fs Q, Rn mX8_goesOn 0 [.ref (ad 29 0), .int (nI n), .null, .null, .null, .null, .null, .null, .null] [] fs (enc (cpM σ 43 0 44 0)) Q ↔ Rt fs (enc τ) none Q) ∧ TryR σ τ C N n (σ 43 0) := by
  have hne : ∀ k i, ¬ k = 44 → cpM σ 43 0 44 0 k i = σ k i := fun k i a => by unfold cpM; rw [updK_ne (by omega)]
  obtain ⟨τ, a1, a2⟩ := sp_try (σ := cpM σ 43 0 44 0) (n := n) (C := C) (N := N) (G := G) (B := 10000) (u0 := σ 43 0) (by rw [hne _ _ (by decide), hne _ _ (by decide), hne _ _ (by decide), hne _ _ (by decide)]; exact rn) hn (by decide) (by rw [hne _ _ (by decide)]; exact l0) (by rw [hne _ _ (by decide)]; exact l1) hw cpM_44 (fun h hh => by rw [hne _ _ (by decide)])
  refine ⟨τ, a1, ?_⟩
  unfold TryR at a2 ⊢
  rw [hne 43 0 (by decide), hne 32 0 (by decide), hne 33 0 (by decide), hne 35 0 (by decide), hne 36 0 (by decide), hne 29 0 (by decide)] at a2
  exact ⟨a2.1, a2.2.1, a2.2.2.1, a2.2.2.2.1, a2.2.2.2.2.1, fun k i a b => by rw [a2.2.2.2.2.2.1 k i a b, hne k i a], a2.2.2.2.2.2.2⟩
theorem Rel_tried {σ1 σ2 : Mem} {C N n : Nat} {u v : Nat → Int32} (hR : Rel σ) (h1 : TrC σ σ1 v) (h2 : TryR σ1 σ2 C N n u) : Rel σ2 :=
  Rel_free hR (fun k i a b c _ _ _ _ => by rw [h2.2.2.2.2.2.1 k i b c, h1.2.2 k i a]) (by rw [h2.2.2.2.2.2.1 20 0 (by decide) (by decide), h1.2.2 20 0 (by omega)]) (fun s hs => by rw [h2.2.2.2.2.2.2 s (by omega), h1.2.2 29 0 (by omega)])
theorem sp_newlyEmpty {σ0 : Mem} {C N G : Nat} {v : Nat → Int32} (r3 : NowR σ0 C N G) (h : TrC σ0 σ v) (hv : NoE N v) : Rn mX7_newlyEmpty 0 [.ref (ad 0 0)] [] fs (enc σ) Q ↔ Rt fs (enc σ) (some (.int (nI (bs (Eo (σ0 43 0) v) N)))) Q := by
  obtain ⟨q1, q2, q3, q4, ⟨l0, l1, l2⟩, ⟨k0, k1, k2⟩, q5, q6, q7⟩ := id r3.1
  have e1 : σ 3 (rr (σ 9 1 0)) 1 = nI N := by rw [h.2.1, h.2.2 3 _ (by omega)]; exact k1
  have e0 : σ 3 (rr (σ 9 0 0)) 1 = nI N := by rw [h.2.2 9 0 (by omega), h.2.2 3 _ (by omega)]; exact k1
  have c0' : CS σ 0 (σ0 43 0) := CS_congr r3.2.2.1 (fun k a b => h.2.2 k _ (by omega)) (fun _ _ => rfl)
  simp only [aX7_newlyEmpty_0, aX7_newlyEmpty_1, aX7_newlyEmpty_4, aX7_newlyEmpty_7, aX7_newlyEmpty_8, aX7_newlyEmpty_11, aX7_newlyEmpty_14, aX7_newlyEmpty_15, aX7_newlyEmpty_16, aX7_newlyEmpty_17, Nat.zero_le, Nat.reduceLeDiff, Nat.reduceAdd, i1_0, rr_c3, zc9, oc9, zc10, oc10, zc11, oc11, zc12, oc12, zc13, oc13, zc15, oc15, Int32.lt_irrefl, Nat.zero_lt_one, Rt_cons, Rt_void, isB_0, isB_1, isB_b, true_and, and_true, cats_nil, cats_int, cats_ref, and_self, if_true, if_false, ite_self, le_nlt, ite_not, em_set h.1 q2 hv, em_set c0' q2 (NoE_of r3.2.2.2), bs_diff q2]
  rw [bs_cong (fun t ht => ?_)]
  unfold Eo
  by_cases a : v (64 + 5 * t + 1) = 2 <;> by_cases b : σ0 43 0 (64 + 5 * t + 1) = 2 <;> simp [a, b]
end S72
