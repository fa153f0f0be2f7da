-- a turn, as pure numbers
theorem pyA_ne {ow kd : Int32} {w : Nat → Int32} {j a : Nat} (h1 : ¬ a = 1) (h2 : ¬ a = 64 + 5 * j) : pyA ow kd w j a = w a := by unfold pyA; rw [upd_ne h2, upd_ne h1]
theorem pyB_ne {lk : Int32} {w : Nat → Int32} {j a : Nat} (h0 : a < 3 ∨ 64 ≤ a) (h1 : ¬ a = 1) (h2 : ¬ a = 64 + 5 * j) : pyB lk w j a = w a := by
  unfold pyB
  split
  · exact cryW_ne h0
  · split
    · rw [upd_ne h2, upd_ne h1]
    · rfl
theorem pd_val {o s : Nat} (ho : o ≤ 9) (hs : s ≤ 9999) : (if nI o < nI s then nI o else nI s) = nI (min o s) := by
  by_cases h : o < s
  · rw [if_pos (nI_lt h (by omega)), Nat.min_eq_left (by omega)]
  · rw [if_neg (nI_nlt (by omega) (by omega)), Nat.min_eq_right (by omega)]
theorem lck_val {o s : Nat} {w : Nat → Int32} (ho : o ≤ 9) (hs : s ≤ 9999) (e : w 1 = nI s) : lck (nI o) w = nI (o - s) := by
  unfold lck
  rw [e, pd_val ho hs, pk_sub (by omega)]
  congr 1
  omega
theorem min9 {a : Nat} (ha : a < 100000) : (if 9999 < nI a then 9999 else nI a) = nI (min 9999 a) := by
  by_cases h : 9999 < a
  · rw [if_pos (show (9999 : Int32) < nI a from nI_lt (a := 9999) h (by omega)), Nat.min_eq_left (by omega)]; rfl
  · rw [if_neg (show ¬ (9999 : Int32) < nI a from fun z => h ((nI_ltI (a := 9999) (by decide) (by omega)).mp z)), Nat.min_eq_right (by omega)]
theorem pyA_s {o s j : Nat} {kd : Int32} {w : Nat → Int32} (ho : o ≤ 9) (hs : s ≤ 9999) (e : w 1 = nI s) : pyA (nI o) kd w j 1 = nI (s - o) := by
  unfold pyA
  rw [upd_ne (by omega), upd_eq, e, pd_val ho hs, pk_sub (by omega)]
  congr 1
  omega
theorem pyA_d {o s d j : Nat} {kd : Int32} {w : Nat → Int32} (ho : o ≤ 9) (hs : s ≤ 9999) (hd : d ≤ 9999) (e : w 1 = nI s) (e2 : w (64 + 5 * j) = nI d) : pyA (nI o) kd w j (64 + 5 * j) = nI (min 9999 (d + (if kd = 1 then 2 * (o - s) else o - s))) := by
  have el : nI o - nI (min o s) = nI (o - s) := by
    rw [pk_sub (by omega)]
    congr 1
    omega
  have em : (2 : Int32) * nI (o - s) = nI (2 * (o - s)) := pk_mul 2 _
  unfold pyA
  rw [upd_eq, e, e2, pd_val ho hs, el, em]
  by_cases k : kd = 1
  · rw [if_pos k, if_pos k, nI_add, min9 (by omega)]
  · rw [if_neg k, if_neg k, nI_add, min9 (by omega)]
/-- stock and debt behind a turn -/
def tS (o s d : Nat) : Nat := if s < o then 0 else if 0 < d ∧ 0 < s - o then s - o - 1 else s - o
def tD (o : Nat) (kd : Int32) (s d : Nat) : Nat := if s < o then min 9999 (d + (if kd = 1 then 2 * (o - s) else o - s)) else if 0 < d ∧ 0 < s - o then d - 1 else d
theorem nI_g0 {a : Nat} (h : a < 100000) : (0 : Int32) < nI a ↔ 0 < a := nI_ltI (a := 0) (by decide) (by omega)
theorem pyB_s {o s d j : Nat} {kd : Int32} {w : Nat → Int32} (ho : o ≤ 9) (hs : s ≤ 9999) (hd : d ≤ 9999) (e : w 1 = nI s) (e2 : w (64 + 5 * j) = nI d) : pyB (lck (nI o) w) (pyA (nI o) kd w j) j 1 = nI (tS o s d) := by
  rw [lck_val ho hs e]
  unfold pyB tS
  rw [pyA_s ho hs e, pyA_d ho hs hd e e2]
  by_cases h : s < o
  · rw [if_pos ((nI_g0 (by omega)).mpr (by omega)), if_pos h, cryW_ne (by omega), pyA_s ho hs e]
    congr 1
    omega
  · have z : o - s = 0 := by omega
    have ed : min 9999 (d + (if kd = 1 then 2 * (o - s) else o - s)) = d := by
      rw [z]; simp; omega
    rw [if_neg (fun q => h (by have := (nI_g0 (by omega)).mp q; omega)), if_neg h, ed]
    by_cases q : 0 < d ∧ 0 < s - o
    · rw [if_pos ⟨(nI_g0 (by omega)).mpr q.1, (nI_g0 (by omega)).mpr q.2⟩, if_pos q, upd_ne (by omega), upd_eq, show (1 : Int32) = nI 1 from rfl, pk_sub (by omega)]
    · rw [if_neg (fun y => q ⟨(nI_g0 (by omega)).mp y.1, (nI_g0 (by omega)).mp y.2⟩), if_neg q, pyA_s ho hs e]
theorem pyB_d {o s d j : Nat} {kd : Int32} {w : Nat → Int32} (ho : o ≤ 9) (hs : s ≤ 9999) (hd : d ≤ 9999) (e : w 1 = nI s) (e2 : w (64 + 5 * j) = nI d) : pyB (lck (nI o) w) (pyA (nI o) kd w j) j (64 + 5 * j) = nI (tD o kd s d) := by
  rw [lck_val ho hs e]
  unfold pyB tD
  rw [pyA_s ho hs e, pyA_d ho hs hd e e2]
  by_cases h : s < o
  · rw [if_pos ((nI_g0 (by omega)).mpr (by omega)), if_pos h, cryW_ne (by omega), pyA_d ho hs hd e e2]
  · have z : o - s = 0 := by omega
    have ed : min 9999 (d + (if kd = 1 then 2 * (o - s) else o - s)) = d := by
      rw [z]; simp; omega
    rw [if_neg (fun q => h (by have := (nI_g0 (by omega)).mp q; omega)), if_neg h, ed]
    by_cases q : 0 < d ∧ 0 < s - o
    · rw [if_pos ⟨(nI_g0 (by omega)).mpr q.1, (nI_g0 (by omega)).mpr q.2⟩, if_pos q, upd_eq, show (1 : Int32) = nI 1 from rfl, pk_sub (by omega)]
    · rw [if_neg (fun y => q ⟨(nI_g0 (by omega)).mp y.1, (nI_g0 (by omega)).mp y.2⟩), if_neg q, pyA_d ho hs hd e e2, ed]
theorem tS_le {o s d : Nat} (h : s ≤ 9999) : tS o s d ≤ 9999 := by unfold tS; split <;> (try split) <;> omega
theorem tD_le {o s d : Nat} {kd : Int32} (h : d ≤ 9999) : tD o kd s d ≤ 9999 := by unfold tD; split <;> (try split) <;> omega
/-- one house's numbers and the stock have changed -/
theorem WFx_upd {B G N j : Nat} {w v : Nat → Int32} (h : WFx B G N w) (hj : j < 7) (e0 : v 0 = w 0) (s : ∃ d : Nat, d ≤ 9999 ∧ v 1 = nI d) (e2 : v 2 = w 2) (hs : v (64 + 5 * j + 1) = 2 ↔ w (64 + 5 * j + 1) = 2) (ho : ∀ k, k < 7 → ¬ k = j → ∀ t, t < 5 → v (64 + 5 * k + t) = w (64 + 5 * k + t)) (hl : Wl G N v j) (hg : v (64 + 5 * j + 2) = w (64 + 5 * j + 2) ∨ v (64 + 5 * j + 2) = -1) : WFx B G N v := by
  obtain ⟨h1, h2, h3, h4, h5⟩ := h
  have ee : ∀ k, k < 7 → eN v k = eN w k := fun k hk => by
    unfold eN
    by_cases q : k = j
    · subst q
      by_cases z : w (64 + 5 * k + 1) = 2
      · rw [if_pos z, if_pos (hs.mpr z)]
      · rw [if_neg z, if_neg (fun y => z (hs.mp y))]
    · rw [ho k hk q 1 (by omega)]
  have ec : cE7 v = cE7 w := by
    unfold cE7
    rw [ee 0 (by omega), ee 1 (by omega), ee 2 (by omega), ee 3 (by omega), ee 4 (by omega), ee 5 (by omega), ee 6 (by omega)]
  refine WFw_intro (by rw [e0]; exact h1) s (by rw [e2, ec]; exact h3) (fun k hk => ?_) (fun a b ha hb hab hn => ?_)
  · by_cases q : k = j
    · subst q; exact hl
    · exact Wl_congr (h4 k hk) (ho k hk q)
  · by_cases qa : a = j
    · subst qa
      rcases hg with z | z
      · rw [z] at hn ⊢
        rw [ho b hb (fun y => hab y.symm) 2 (by omega)]
        exact h5 a b ha hb hab hn
      · exact absurd z hn
    · rw [ho a ha qa 2 (by omega)] at hn ⊢
      by_cases qb : b = j
      · subst qb
        rcases hg with z | z
        · rw [z]; exact h5 a b ha hb hab hn
        · rw [z]; exact hn
      · rw [ho b hb qb 2 (by omega)]
        exact h5 a b ha hb hab hn
/-- a house's turn -/
def turnW (ow kd pt : Nat → Int32) (w : Nat → Int32) (j : Nat) : Nat → Int32 := if w (64 + 5 * j + 1) = 0 then pysF (ow j) (kd (w (64 + 5 * j + 2)).toNatClampNeg) (pt (w (64 + 5 * j + 2)).toNatClampNeg) w j else w
theorem CS_held {σ : Mem} {i j : Nat} {w : Nat → Int32} (h : CS σ i w) (hj : j < 7) (h0 : w (64 + 5 * j + 1) = 0) : σ 14 i j = 0 ∧ ¬ w (64 + 5 * j + 2) = -1 := by
  have cj := h.2.2.2.2.2 j hj
  have := (held_iff (w := w) cj).mpr h0
  rw [cj.2.1] at this
  exact this
theorem pyC_ne {w : Nat → Int32} {j a : Nat} (h : ¬ a = 64 + 5 * j + 3) : pyC w j a = w a := by unfold pyC; rw [upd_ne h]
theorem WFx_turn {B G N C : Nat} {ct ow kd pt w : Nat → Int32} (rn : RN ct ow kd pt C N G) (h : WFx B G N w) {j : Nat} (hj : j < N) (hg : w (64 + 5 * j + 1) = 0 → ¬ w (64 + 5 * j + 2) = -1) : WFx B G N (turnW ow kd pt w j) := by
  unfold turnW
  by_cases hh : w (64 + 5 * j + 1) = 0
  · rw [if_pos hh]
    have hj7 : j < 7 := by have := rn.2.1; omega
    obtain ⟨s, s1, s2⟩ := h.2.1
    obtain ⟨⟨d, d1, d2⟩, a2, a3, a4, a5, a6, a7⟩ := h.2.2.2.1 j hj7
    obtain ⟨o, o1, o2, o3⟩ := rn.2.2.2.2.2.1 j hj
    obtain ⟨gd, gd1, gd2⟩ : ∃ d : Nat, d ≤ 6 ∧ w (64 + 5 * j + 3) = nI d := by
      rcases a7 with z | z | z
      · exact absurd z (hg hh)
      · rw [hh] at z; exact absurd z (by decide)
      · exact z
    unfold pysF
    rw [o3]
    generalize kd (w (64 + 5 * j + 2)).toNatClampNeg = kk
    generalize pt (w (64 + 5 * j + 2)).toNatClampNeg = pp
    have e1 : pyB (lck (nI o) w) (pyA (nI o) kk w j) j 1 = nI (tS o s d) := pyB_s o2 s1 d1 s2 d2
    have e2 : pyB (lck (nI o) w) (pyA (nI o) kk w j) j (64 + 5 * j) = nI (tD o kk s d) := pyB_d o2 s1 d1 s2 d2
    have e3 : ∀ a, (a < 3 ∨ 64 ≤ a) → ¬ a = 1 → ¬ a = 64 + 5 * j → pyB (lck (nI o) w) (pyA (nI o) kk w j) j a = w a := fun a p q r => (pyB_ne p q r).trans (pyA_ne q r)
    generalize pyB (lck (nI o) w) (pyA (nI o) kk w j) j = v at e1 e2 e3 ⊢
    have f3 : ∀ a, (a < 3 ∨ 64 ≤ a) → ¬ a = 1 → ¬ a = 64 + 5 * j → ¬ a = 64 + 5 * j + 3 → pyC v j a = w a := fun a p q r t => (pyC_ne t).trans (e3 a p q r)
    have fs : pyC v j 1 = nI (tS o s d) := (pyC_ne (by omega)).trans e1
    have fd : pyC v j (64 + 5 * j) = nI (tD o kk s d) := (pyC_ne (by omega)).trans e2
    obtain ⟨x, x1, x2⟩ : ∃ x : Nat, x ≤ 7 ∧ pyC v j (64 + 5 * j + 3) = nI x := by
      unfold pyC
      rw [upd_eq, e3 (64 + 5 * j + 3) (by omega) (by omega) (by omega), gd2, nI_1]
      split
      · exact ⟨gd + 1, by omega, rfl⟩
      · exact ⟨0, by omega, rfl⟩
    generalize pyC v j = u at f3 fs fd x2 ⊢
    have st : u (64 + 5 * j + 1) = 0 := (f3 _ (by omega) (by omega) (by omega) (by omega)).trans hh
    unfold pyD
    rw [x2]
    by_cases q : nI x = 7
    · rw [if_pos q]
      have g1 : ∀ a, ¬ a = 64 + 5 * j + 1 → ¬ a = 64 + 5 * j + 2 → upd (upd u (64 + 5 * j + 1) 1) (64 + 5 * j + 2) (-1) a = u a := fun a p r => by rw [upd_ne r, upd_ne p]
      have g2 : upd (upd u (64 + 5 * j + 1) 1) (64 + 5 * j + 2) (-1) (64 + 5 * j + 2) = -1 := upd_eq _ _ _
      have g3 : upd (upd u (64 + 5 * j + 1) 1) (64 + 5 * j + 2) (-1) (64 + 5 * j + 1) = 1 := by rw [upd_ne (by omega), upd_eq]
      refine WFx_upd h hj7 (by rw [g1 _ (by omega) (by omega), f3 _ (by omega) (by omega) (by omega) (by omega)]) ⟨_, tS_le s1, by rw [g1 _ (by omega) (by omega), fs]⟩ (by rw [g1 _ (by omega) (by omega), f3 _ (by omega) (by omega) (by omega) (by omega)]) (by rw [g3, hh]; decide) (fun k hk hkj t ht => by rw [g1 _ (by omega) (by omega), f3 _ (by omega) (by omega) (by omega) (by omega)]) ?_ (Or.inr g2)
      refine ⟨⟨_, tD_le d1, by rw [g1 _ (by omega) (by omega), fd]⟩, Or.inr (Or.inl g3), Or.inl g2, ⟨x, x1, by rw [g1 _ (by omega) (by omega), x2]⟩, ?_, fun _ => ⟨g2, by rw [g3]; decide⟩, Or.inl g2⟩
      rw [g1 _ (by omega) (by omega), f3 _ (by omega) (by omega) (by omega) (by omega)]
      obtain ⟨b, b1, b2, b3⟩ := a5
      refine ⟨b, b1, b2, b3.imp id (fun z => ?_)⟩
      rw [hh] at z
      exact absurd z (by decide)
    · rw [if_neg q]
      have x6 : x ≤ 6 := by
        rcases Nat.lt_or_ge x 7 with z | z
        · omega
        · exfalso; apply q
          have : x = 7 := by omega
          rw [this]; rfl
      have hu : WFx B G N u := by
        refine WFx_upd h hj7 (f3 _ (by omega) (by omega) (by omega) (by omega)) ⟨_, tS_le s1, fs⟩ (f3 _ (by omega) (by omega) (by omega) (by omega)) (by rw [st, hh]) (fun k hk hkj t ht => f3 _ (by omega) (by omega) (by omega) (by omega)) ?_ (Or.inl (f3 _ (by omega) (by omega) (by omega) (by omega)))
        unfold Wl
        rw [f3 (64 + 5 * j + 1) (by omega) (by omega) (by omega) (by omega), f3 (64 + 5 * j + 2) (by omega) (by omega) (by omega) (by omega), f3 (64 + 5 * j + 4) (by omega) (by omega) (by omega) (by omega)]
        exact ⟨⟨_, tD_le d1, fd⟩, a2, a3, ⟨x, x1, x2⟩, a5, a6, Or.inr (Or.inr ⟨x, x6, x2⟩)⟩
      split
      · exact WFw_put hu hj7 hj (by rw [st]; decide)
      · exact hu
  · rw [if_neg hh]; exact h
theorem sp_takeTurn {σ : Mem} {i j C N G B : Nat} {ct ow kd pt w : Nat → Int32} (rn : RN ct ow kd pt C N G) (rc : RC σ (rr (σ 9 i 0)) ct ow kd pt C N G) (hi : i < 34) (hj : j < N) (h : CS σ i w) (hw : WFx B G N w) :
    ∃ τ, (∀ fs Q, Rn mX5_takeTurn 0 [.ref (ad 9 i), .int (nI j), .null, .null, .null, .null] [] fs (enc σ) Q ↔ Rt fs (enc τ) none Q) ∧ CS τ i (turnW ow kd pt w j) ∧ Fr σ τ i := by
  have hj7 : j < 7 := by have := rn.2.1; omega
  unfold turnW
  by_cases hh : w (64 + 5 * j + 1) = 0
  · rw [if_pos hh]
    obtain ⟨e14, gne⟩ := CS_held h hj7 hh
    obtain ⟨s, s1, s2⟩ := hw.2.1
    obtain ⟨⟨d, d1, d2⟩, a2, a3, a4, a5, a6, a7⟩ := hw.2.2.2.1 j hj7
    obtain ⟨o, o1, o2, o3⟩ := rn.2.2.2.2.2.1 j hj
    obtain ⟨g, g1, g2⟩ : ∃ g : Nat, g < G ∧ w (64 + 5 * j + 2) = nI g := a3.resolve_left gne
    have hg7 : g < 7 := by have := rn.2.2.1; have := rn.2.1; omega
    have gd : ∃ d : Nat, d ≤ 6 ∧ w (64 + 5 * j + 3) = nI d := by
      rcases a7 with z | z | z
      · exact absurd z gne
      · rw [hh] at z; exact absurd z (by decide)
      · exact z
    obtain ⟨_, p, p1, p2, p3⟩ := rn.2.2.2.2.2.2 g g1
    have ek := rc.2.2.2 g g1
    have eo : σ 5 (rr (σ 9 i 0)) j = ow j := rc.2.2.1 j hj
    rw [g2, cl10 (show g < 10000 by omega)]
    obtain ⟨τ1, x5, b1, b2, b3⟩ := tk_B (pd := if ow j < w 1 then ow j else w 1) (lk := lck (ow j) w) (kd := kd g) hi hj7 hg7 h ek.1 (fun q => by
      rw [o3, lck_val o2 s1 s2] at q ⊢
      have : ¬ 0 < o - s := fun z => q ((nI_g0 (by omega)).mpr z)
      rw [show o - s = 0 by omega]; rfl) (by rw [d2]; exact fun z => by have := (nI_ltI (a := 9999) (by decide) (by omega)).mp z; omega)
    have b2' : CS τ1 i (pyB (lck (ow j) w) (pyA (ow j) (kd g) w j) j) := b2
    have q1 : pyB (lck (ow j) w) (pyA (ow j) (kd g) w j) j (64 + 5 * j + 1) = 0 := ((pyB_ne (by omega) (by omega) (by omega)).trans (pyA_ne (by omega) (by omega))).trans hh
    have q3 : pyB (lck (ow j) w) (pyA (ow j) (kd g) w j) j (64 + 5 * j + 3) = w (64 + 5 * j + 3) := (pyB_ne (by omega) (by omega) (by omega)).trans (pyA_ne (by omega) (by omega))
    obtain ⟨τ2, c1, c2, c3⟩ := tk_C (pd := if ow j < w 1 then ow j else w 1) (lk := lck (ow j) w) (x5 := x5) (kd := kd g) (pt := pt g) hi hj7 hg7 b2' (by rw [b3.2, b3.1 7 _ (by omega)]; exact ek.1) (by rw [b3.2, b3.1 8 _ (by omega)]; exact ek.2) (by rw [p3]; exact nI_pos (by omega)) (CS_held b2' hj7 q1).1 (by rw [q3]; exact gd)
    refine ⟨τ2, fun fs Q => ?_, c2, Fr_trans b3 c3⟩
    rw [tk_A hi hj7 h hh g2, eo, b1, c1]
  · rw [if_neg hh]
    exact ⟨σ, fun fs Q => tk_0 hi hj7 h hh, h, Fr_refl⟩
