-- days tried
/-- house h: as it was, or redeemed, or put out since w0 -/
def GrH (N : Nat) (w0 w : Nat → Int32) (h : Nat) : Prop := (w (64 + 5 * h + 1) = w0 (64 + 5 * h + 1) ∧ w (64 + 5 * h + 2) = w0 (64 + 5 * h + 2)) ∨ (h < N ∧ w0 (64 + 5 * h + 1) = 0 ∧ ((w (64 + 5 * h + 1) = 1 ∧ w (64 + 5 * h + 2) = -1) ∨ (w (64 + 5 * h + 1) = 2 ∧ w (64 + 5 * h + 2) = w0 (64 + 5 * h + 2))))
def Gr (N : Nat) (w0 w : Nat → Int32) : Prop := ∀ h, h < 7 → GrH N w0 w h
theorem Gr_refl {N : Nat} {w : Nat → Int32} : Gr N w w := fun _ _ => Or.inl ⟨rfl, rfl⟩
/-- what a turn makes of its own house -/
theorem turnW_own {ow kd pt w : Nat → Int32} {j : Nat} (hh : w (64 + 5 * j + 1) = 0) : (turnW ow kd pt w j (64 + 5 * j + 1) = 0 ∧ turnW ow kd pt w j (64 + 5 * j + 2) = w (64 + 5 * j + 2)) ∨ (turnW ow kd pt w j (64 + 5 * j + 1) = 1 ∧ turnW ow kd pt w j (64 + 5 * j + 2) = -1) ∨ (turnW ow kd pt w j (64 + 5 * j + 1) = 2 ∧ turnW ow kd pt w j (64 + 5 * j + 2) = w (64 + 5 * j + 2)) := by
  unfold turnW
  rw [if_pos hh]
  unfold pysF
  generalize hv : pyB (lck (ow j) w) (pyA (ow j) (kd (w (64 + 5 * j + 2)).toNatClampNeg) w j) j = v
  have e1 : pyC v j (64 + 5 * j + 1) = 0 := by rw [pyC_ne (by omega), ← hv, pyB_ne (by omega) (by omega) (by omega), pyA_ne (by omega) (by omega), hh]
  have e2 : pyC v j (64 + 5 * j + 2) = w (64 + 5 * j + 2) := by rw [pyC_ne (by omega), ← hv, pyB_ne (by omega) (by omega) (by omega), pyA_ne (by omega) (by omega)]
  unfold pyD
  split
  · refine Or.inr (Or.inl ⟨?_, ?_⟩)
    · rw [upd_ne (by omega), upd_eq]
    · rw [upd_eq]
  · split
    · refine Or.inr (Or.inr ⟨?_, ?_⟩)
      · unfold putW; rw [upd_ne (by omega), upd_eq]
      · rw [putW_ne (by omega) (by omega), e2]
    · exact Or.inl ⟨e1, e2⟩
theorem Gr_turn {N j : Nat} {ow kd pt w0 w : Nat → Int32} (h : Gr N w0 w) (hj : j < N) : Gr N w0 (turnW ow kd pt w j) := by
  intro k hk
  by_cases q : k = j
  · subst q
    by_cases hh : w (64 + 5 * k + 1) = 0
    · have hk0 : w (64 + 5 * k + 1) = w0 (64 + 5 * k + 1) ∧ w (64 + 5 * k + 2) = w0 (64 + 5 * k + 2) := by
        rcases h k hk with z | ⟨_, _, z | z⟩
        · exact z
        · rw [hh] at z; exact absurd z.1 (by decide)
        · rw [hh] at z; exact absurd z.1 (by decide)
      have h0 : w0 (64 + 5 * k + 1) = 0 := by rw [← hk0.1]; exact hh
      rcases turnW_own (ow := ow) (kd := kd) (pt := pt) hh with z | z | z
      · exact Or.inl ⟨by rw [z.1, h0], by rw [z.2, hk0.2]⟩
      · exact Or.inr ⟨hj, h0, Or.inl z⟩
      · exact Or.inr ⟨hj, h0, Or.inr ⟨z.1, by rw [z.2, hk0.2]⟩⟩
    · have : turnW ow kd pt w k = w := by unfold turnW; rw [if_neg hh]
      rw [this]
      exact h k hk
  · unfold GrH
    rw [turnW_ne (by omega) (by omega) (by omega) (by omega), turnW_ne (by omega) (by omega) (by omega) (by omega)]
    exact h k hk
theorem Gr_trs {N d : Nat} {ow kd pt w0 : Nat → Int32} : ∀ {m k : Nat} {w : Nat → Int32}, k + m ≤ N → Gr N w0 w → Gr N w0 (trs ow kd pt N d k m w) := by
  intro m
  induction m with
  | zero => intro k w _ h; exact h
  | succ m ih => intro k w hk h; exact ih (by omega) (Gr_turn h (Nat.mod_lt _ (by omega)))
theorem Gr_pass {C N : Nat} {ct ow kd pt w0 w : Nat → Int32} (h : Gr N w0 w) : Gr N w0 (passW ct ow kd pt C N w) := by
  unfold passW passF
  have h1 : Gr N w0 (addF w (ctF ct C (w 0).toNatClampNeg)) := fun k hk => by
    unfold addF GrH
    rw [upd_ne (by omega), upd_ne (by omega)]
    exact h k hk
  have h2 := Gr_trs (ow := ow) (kd := kd) (pt := pt) (d := (w 0).toNatClampNeg) (m := N) (k := 0) (by omega) h1
  intro k hk
  unfold incF GrH
  rw [upd_ne (by omega), upd_ne (by omega)]
  exact h2 k hk
/-- put out since w0 -/
def Eo (w0 w : Nat → Int32) (h : Nat) : Bool := decide (w (64 + 5 * h + 1) = 2 ∧ ¬ w0 (64 + 5 * h + 1) = 2)
def Ro (w0 w : Nat → Int32) (h : Nat) : Bool := decide (w (64 + 5 * h + 1) = 1 ∧ ¬ w0 (64 + 5 * h + 1) = 1)
theorem Gr_E {N : Nat} {w0 w v : Nat → Int32} {h : Nat} (g : Gr N w v) (hh : h < 7) (e : Eo w0 w h = true) : Eo w0 v h = true := by
  unfold Eo at e ⊢
  rw [decide_eq_true_iff] at e ⊢
  refine ⟨?_, e.2⟩
  rcases g h hh with z | ⟨_, z, _⟩
  · rw [z.1]; exact e.1
  · rw [e.1] at z; exact absurd z (by decide)
theorem Gr_R {N : Nat} {w0 w v : Nat → Int32} {h : Nat} (g : Gr N w v) (hh : h < 7) (e : Ro w0 w h = true) : Ro w0 v h = true := by
  unfold Ro at e ⊢
  rw [decide_eq_true_iff] at e ⊢
  refine ⟨?_, e.2⟩
  rcases g h hh with z | ⟨_, z, _⟩
  · rw [z.1]; exact e.1
  · rw [e.1] at z; exact absurd z (by decide)
/-- n days -/
def itW (F : (Nat → Int32) → (Nat → Int32)) : Nat → (Nat → Int32) → (Nat → Int32)
  | 0, w => w
  | n + 1, w => itW F n (F w)
theorem itW_s {F : (Nat → Int32) → (Nat → Int32)} : ∀ {n : Nat} {w : Nat → Int32}, itW F (n + 1) w = F (itW F n w) := by
  intro n
  induction n with
  | zero => intro w; rfl
  | succ n ih => intro w; exact ih
theorem WH_it {B G N C : Nat} {ct ow kd pt : Nat → Int32} (rn : RN ct ow kd pt C N G) : ∀ {n : Nat} {w : Nat → Int32}, WH B G N w → WH (B + n) G N (itW (passW ct ow kd pt C N) n w) := by
  intro n
  induction n with
  | zero => intro w h; exact h
  | succ n ih => intro w h; rw [itW_s]; exact WH_W rn (ih h)
theorem Gr_it {N C : Nat} {ct ow kd pt w0 : Nat → Int32} : ∀ {n : Nat} {w : Nat → Int32}, Gr N w0 w → Gr N w0 (itW (passW ct ow kd pt C N) n w) := by
  intro n
  induction n with
  | zero => intro w h; exact h
  | succ n ih => intro w h; rw [itW_s]; exact Gr_pass (ih h)
theorem lp_passDays {i n C N G B : Nat} {ct ow kd pt : Nat → Int32} (rn : RN ct ow kd pt C N G) (hi : i < 34) (hn : n ≤ 60) (hB : B ≤ 20000) : ∀ (m k : Nat) (σ : Mem) (w : Nat → Int32), k + m = n → RC σ (rr (σ 9 i 0)) ct ow kd pt C N G → CS σ i w → WH (B + k) G N w →
    ∃ τ, (∀ fs Q, Rn mX5_passDays 2 [.ref (ad 9 i), .int (nI n), .int (nI k)] [] fs (enc σ) Q ↔ Rt fs (enc τ) none Q) ∧ CS τ i (itW (passW ct ow kd pt C N) m w) ∧ Fr σ τ i := by
  intro m
  induction m with
  | zero =>
    intro k σ w hk rc h hw
    obtain rfl : k = n := by omega
    refine ⟨σ, fun fs Q => ?_, h, Fr_refl⟩
    simp only [aX5_passDays_2, aX5_passDays_3, aX5_passDays_4, aX5_passDays_17, Nat.zero_le, Nat.reduceLeDiff, Nat.reduceAdd, i1_0, rr_c3, zc9, oc9, zc10, oc10, zc11, oc11, zc12, oc12, zc13, oc13, zc15, oc15, Int32.lt_irrefl, Nat.zero_lt_one, Rt_cons, Rt_void, isB_0, isB_1, isB_b, true_and, and_true, cats_nil, cats_int, cats_ref, and_self, if_true, if_false, ite_self, le_nlt, ite_not]
  | succ m ih =>
    intro k σ w hk rc h hw
    obtain ⟨τ1, a1, a2, a3⟩ := sp_passDayW rn rc hi h hw (by omega)
    obtain ⟨τ2, b1, b2, b3⟩ := ih (k + 1) τ1 _ (by omega) (by rw [a3.2]; exact RC_Fr rc a3) a2 (WH_W rn hw)
    refine ⟨τ2, fun fs Q => ?_, b2, Fr_trans a3 b3⟩
    have l : nI k < nI n := nI_lt (by omega) (by omega)
    rw [aX5_passDays_2]
    simp only [aX5_passDays_3, aX5_passDays_4, aX5_passDays_7, Nat.zero_le, Nat.reduceLeDiff, Nat.reduceAdd, i1_0, rr_c3, zc9, oc9, zc10, oc10, zc11, oc11, zc12, oc12, zc13, oc13, zc15, oc15, Int32.lt_irrefl, Nat.zero_lt_one, Rt_cons, Rt_void, isB_0, isB_1, isB_b, true_and, and_true, cats_nil, cats_int, cats_ref, and_self, if_true, if_false, ite_self, le_nlt, ite_not, l]
    rw [aX5_passDays_8 hi, a1]
    simp only [aX5_passDays_11, aX5_passDays_14, Nat.zero_le, Nat.reduceLeDiff, Nat.reduceAdd, i1_0, rr_c3, zc9, oc9, zc10, oc10, zc11, oc11, zc12, oc12, zc13, oc13, zc15, oc15, Int32.lt_irrefl, Nat.zero_lt_one, Rt_cons, Rt_void, isB_0, isB_1, isB_b, true_and, and_true, cats_nil, cats_int, cats_ref, and_self, if_true, if_false, ite_self, le_nlt, ite_not, nI_1]
    exact b1 fs Q
theorem sp_passDays {σ : Mem} {i n C N G B : Nat} {ct ow kd pt w : Nat → Int32} (rn : RN ct ow kd pt C N G) (rc : RC σ (rr (σ 9 i 0)) ct ow kd pt C N G) (hi : i < 34) (hn : n ≤ 60) (hB : B ≤ 20000) (h : CS σ i w) (hw : WH B G N w) :
    ∃ τ, (∀ fs Q, Rn mX5_passDays 0 [.ref (ad 9 i), .int (nI n), .null] [] fs (enc σ) Q ↔ Rt fs (enc τ) none Q) ∧ CS τ i (itW (passW ct ow kd pt C N) n w) ∧ Fr σ τ i := by
  obtain ⟨τ, a1, a2, a3⟩ := lp_passDays (B := B) rn hi hn hB n 0 σ w (by omega) rc h hw
  refine ⟨τ, fun fs Q => ?_, a2, a3⟩
  have e0 : nI 0 = 0 := rfl
  rw [e0] at a1
  simp only [aX5_passDays_0, aX5_passDays_1, Nat.zero_le, Nat.reduceLeDiff, Nat.reduceAdd, i1_0, rr_c3, zc9, oc9, zc10, oc10, zc11, oc11, zc12, oc12, zc13, oc13, zc15, oc15, Int32.lt_irrefl, Nat.zero_lt_one, Rt_cons, Rt_void, isB_0, isB_1, isB_b, true_and, and_true, cats_nil, cats_int, cats_ref, and_self, if_true, if_false, ite_self, le_nlt, ite_not]
  exact a1 fs Q
