-- reading: letters, blanks, numbers
theorem upS_self {σ : Mem} {k i j : Nat} {x : Int32} (h : σ k i j = x) : upS σ k i j x = σ := by
  unfold upS
  refine updK_self ?_
  exact upd_self h.symm
theorem upS_idem {σ : Mem} {k i j : Nat} {x y : Int32} : upS (upS σ k i j x) k i j y = upS σ k i j y := by
  unfold upS
  rw [updK_eq, updK_idem, upd_idem]
def lk (c : Nat) (T : Nat → Int32) (p : Nat) : Int32 := if p < c then T p else -1
/-- letters -/
def LT (c : Nat) (T : Nat → Int32) : Prop := c ≤ 240 ∧ ∀ j, j < c → ∃ d : Nat, d ≤ 255 ∧ T j = nI d
theorem lk_lt {c p : Nat} {T : Nat → Int32} (h : p < c) : lk c T p = T p := if_pos h
theorem lk_ge {c p : Nat} {T : Nat → Int32} (h : ¬ p < c) : lk c T p = -1 := if_neg h
theorem lk_in {c p : Nat} {T : Nat → Int32} {x : Int32} (h : lk c T p = x) (hx : ¬ x = -1) : p < c := by
  rcases Nat.lt_or_ge p c with q | q
  · exact q
  · rw [lk_ge (by omega)] at h; exact absurd h.symm hx
theorem lk_n1 {c p : Nat} {T : Nat → Int32} (hl : LT c T) : lk c T p = -1 ↔ ¬ p < c := by
  constructor
  · intro h z
    rw [lk_lt z] at h
    obtain ⟨d, d1, d2⟩ := hl.2 p z
    rw [d2] at h
    exact nI_ne1 (by omega) h
  · exact fun h => lk_ge h
def skN (c : Nat) (T : Nat → Int32) : Nat → Nat → Nat
  | 0, p => p
  | m + 1, p => if lk c T p = 32 then skN c T m (p + 1) else p
def sk (c : Nat) (T : Nat → Int32) (p : Nat) : Nat := skN c T (c - p) p
theorem n132 : ¬ (-1 : Int32) = 32 := by decide
theorem sk_u {c p : Nat} {T : Nat → Int32} : sk c T p = if lk c T p = 32 then sk c T (p + 1) else p := by
  unfold sk
  rcases Nat.lt_or_ge p c with q | q
  · rw [show c - p = (c - (p + 1)) + 1 by omega]; rfl
  · rw [lk_ge (by omega), if_neg n132, show c - p = 0 by omega]; rfl
theorem sk_a {c p : Nat} {T : Nat → Int32} (h : lk c T p = 32) : sk c T p = sk c T (p + 1) := by rw [sk_u, if_pos h]
theorem sk_b {c p : Nat} {T : Nat → Int32} (h : ¬ lk c T p = 32) : sk c T p = p := by rw [sk_u, if_neg h]
theorem sk_p {c : Nat} {T : Nat → Int32} : ∀ m p, c - p = m → p ≤ c → p ≤ sk c T p ∧ sk c T p ≤ c ∧ ¬ lk c T (sk c T p) = 32 := by
  intro m
  induction m with
  | zero =>
    intro p h1 h2
    have : ¬ lk c T p = 32 := by rw [lk_ge (by omega)]; exact n132
    rw [sk_b this]
    exact ⟨Nat.le_refl _, h2, this⟩
  | succ m ih =>
    intro p h1 h2
    by_cases q : lk c T p = 32
    · rw [sk_a q]
      have := ih (p + 1) (by omega) (by omega)
      exact ⟨by omega, this.2⟩
    · rw [sk_b q]; exact ⟨Nat.le_refl _, h2, q⟩
theorem sk_ge {c p : Nat} {T : Nat → Int32} (h : p ≤ c) : p ≤ sk c T p := (sk_p _ p rfl h).1
theorem sk_le {c p : Nat} {T : Nat → Int32} (h : p ≤ c) : sk c T p ≤ c := (sk_p _ p rfl h).2.1
theorem sk_ne {c p : Nat} {T : Nat → Int32} (h : p ≤ c) : ¬ lk c T (sk c T p) = 32 := (sk_p _ p rfl h).2.2
theorem sk_sk {c p : Nat} {T : Nat → Int32} (h : p ≤ c) : sk c T (sk c T p) = sk c T p := sk_b (sk_ne h)
abbrev dg (x : Int32) : Prop := ¬ x < 48 ∧ ¬ 57 < x
def nuN (c : Nat) (T : Nat → Int32) (a : Nat) : Nat → Nat → Int32 → Nat × Int32
  | 0, p, v => (p, v)
  | m + 1, p, v => if dg (lk c T p) then nuN c T a m (p + 1) (if nI p - nI a < 3 then 10 * v + lk c T p - 48 else v) else (p, v)
theorem nuN_s (c : Nat) (T : Nat → Int32) (a m p : Nat) (v : Int32) : nuN c T a (m + 1) p v = if dg (lk c T p) then nuN c T a m (p + 1) (if nI p - nI a < 3 then 10 * v + lk c T p - 48 else v) else (p, v) := rfl
theorem nu_p {c a : Nat} {T : Nat → Int32} : ∀ m p v, c - p = m → p ≤ c → p ≤ (nuN c T a m p v).1 ∧ (nuN c T a m p v).1 ≤ c := by
  intro m
  induction m with
  | zero => intro p v h1 h2; exact ⟨Nat.le_refl _, h2⟩
  | succ m ih =>
    intro p v h1 h2
    rw [nuN_s]
    split
    · have := ih (p + 1) (if nI p - nI a < 3 then 10 * v + lk c T p - 48 else v) (by omega) (by omega)
      exact ⟨by omega, this.2⟩
    · exact ⟨Nat.le_refl _, h2⟩
/-- a number that begins at a: its end, its value -/
def nu (c : Nat) (T : Nat → Int32) (a : Nat) : Nat × Int32 := nuN c T a (c - a) a 0
theorem nu_le {c a : Nat} {T : Nat → Int32} (h : a ≤ c) : a ≤ (nu c T a).1 ∧ (nu c T a).1 ≤ c := nu_p _ _ _ rfl h
theorem dg_lt {c p : Nat} {T : Nat → Int32} (h : dg (lk c T p)) : p < c := by
  rcases Nat.lt_or_ge p c with q | q
  · exact q
  · rw [lk_ge (by omega)] at h; exact absurd h (by decide)
theorem nu_dg {c a : Nat} {T : Nat → Int32} : (nu c T a).1 = a ↔ ¬ dg (lk c T a) := by
  unfold nu
  rcases Nat.lt_or_ge a c with q | q
  · rw [show c - a = (c - (a + 1)) + 1 by omega, nuN_s]
    by_cases d : dg (lk c T a)
    · rw [if_pos d]
      have := (nu_p (c := c) (T := T) (a := a) (c - (a + 1)) (a + 1) (if nI a - nI a < 3 then 10 * 0 + lk c T a - 48 else 0) rfl (by omega)).1
      constructor
      · intro z; omega
      · intro z; exact absurd d z
    · rw [if_neg d]; exact ⟨fun _ => d, fun _ => rfl⟩
  · rw [show c - a = 0 by omega]
    exact ⟨fun _ z => absurd (dg_lt z) (by omega), fun _ => rfl⟩
theorem nu_0 {c a : Nat} {T : Nat → Int32} (h : ¬ dg (lk c T a)) : nu c T a = (a, 0) := by
  unfold nu
  rcases Nat.lt_or_ge a c with q | q
  · rw [show c - a = (c - (a + 1)) + 1 by omega, nuN_s, if_neg h]
  · rw [show c - a = 0 by omega]; rfl
/-- the fault of a number -/
def nf (lo hi : Int32) (c : Nat) (T : Nat → Int32) (a : Nat) : Int32 := if (nu c T a).1 = a then 1 else if 3 < nI (nu c T a).1 - nI a ∨ ((nu c T a).2 < lo ∨ hi < (nu c T a).2) then 2 else 0
/-- the class's way: fault, its place, at -/
def cNum (lo hi : Int32) (c : Nat) (T : Nat → Int32) (X : Int32 × Int32 × Nat) : Int32 × Int32 × Nat := (if X.1 = 0 then nf lo hi c T (sk c T X.2.2) else X.1, if X.1 = 0 ∧ ¬ nf lo hi c T (sk c T X.2.2) = 0 then nI (sk c T X.2.2) else X.2.1, (nu c T (sk c T X.2.2)).1)
def cEnd (c : Nat) (T : Nat → Int32) (X : Int32 × Int32 × Nat) : Int32 × Int32 × Nat := if lk c T (sk c T X.2.2) = 59 then (X.1, X.2.1, sk c T X.2.2 + 1) else (if X.1 = 0 then 1 else X.1, if X.1 = 0 then nI (sk c T X.2.2) else X.2.1, sk c T X.2.2)
/-- the reference's: at, wrong -/
def rNum (lo hi : Int32) (c : Nat) (T : Nat → Int32) (Y : Nat × Int32) : Nat × Int32 := if Y.2 = 0 then (if nf lo hi c T (sk c T Y.1) = 0 then (nu c T (sk c T Y.1)).1 else sk c T Y.1, nf lo hi c T (sk c T Y.1)) else Y
def rVal (lo hi : Int32) (c : Nat) (T : Nat → Int32) (Y : Nat × Int32) : Int32 := if Y.2 = 0 then (if nf lo hi c T (sk c T Y.1) = 1 then 0 else (nu c T (sk c T Y.1)).2) else 0
def rEnd (c : Nat) (T : Nat → Int32) (Y : Nat × Int32) : Nat × Int32 := if Y.2 = 0 then (if lk c T (sk c T Y.1) = 59 then (sk c T Y.1 + 1, 0) else (sk c T Y.1, 1)) else Y
/-- both ways are one -/
def Mt (X : Int32 × Int32 × Nat) (Y : Nat × Int32) : Prop := (X.1 = 0 ∧ Y.2 = 0 ∧ Y.1 = X.2.2) ∨ ((X.1 = 1 ∨ X.1 = 2 ∨ X.1 = 3) ∧ Y.2 = X.1 ∧ nI Y.1 = X.2.1)
theorem f123 {x : Int32} (h : x = 1 ∨ x = 2 ∨ x = 3) : ¬ x = 0 := by rcases h with rfl | rfl | rfl <;> decide
theorem nf_c {lo hi : Int32} {c a : Nat} {T : Nat → Int32} : nf lo hi c T a = 0 ∨ nf lo hi c T a = 1 ∨ nf lo hi c T a = 2 := by
  unfold nf
  split
  · exact Or.inr (Or.inl rfl)
  · split
    · exact Or.inr (Or.inr rfl)
    · exact Or.inl rfl
theorem Mt_num {lo hi : Int32} {c : Nat} {T : Nat → Int32} {X : Int32 × Int32 × Nat} {Y : Nat × Int32} (h : Mt X Y) : Mt (cNum lo hi c T X) (rNum lo hi c T Y) := by
  unfold cNum rNum
  rcases h with ⟨h1, h2, h3⟩ | ⟨h1, h2, h3⟩
  · rw [h3, if_pos h1, if_pos h2]
    by_cases q : nf lo hi c T (sk c T X.2.2) = 0
    · rw [if_neg (fun z => z.2 q), if_pos q]; exact Or.inl ⟨q, q, rfl⟩
    · rw [if_pos ⟨h1, q⟩, if_neg q]
      refine Or.inr ⟨?_, rfl, rfl⟩
      rcases nf_c (lo := lo) (hi := hi) (c := c) (a := sk c T X.2.2) (T := T) with z | z | z
      · exact absurd z q
      · exact Or.inl z
      · exact Or.inr (Or.inl z)
  · have n0 := f123 h1
    rw [if_neg n0, if_neg (fun z => n0 z.1), if_neg (by rw [h2]; exact n0)]
    exact Or.inr ⟨h1, h2, h3⟩
theorem Mt_end {c : Nat} {T : Nat → Int32} {X : Int32 × Int32 × Nat} {Y : Nat × Int32} (h : Mt X Y) : Mt (cEnd c T X) (rEnd c T Y) := by
  unfold cEnd rEnd
  rcases h with ⟨h1, h2, h3⟩ | ⟨h1, h2, h3⟩
  · rw [h3, if_pos h2]
    by_cases q : lk c T (sk c T X.2.2) = 59
    · rw [if_pos q, if_pos q]; exact Or.inl ⟨h1, rfl, rfl⟩
    · rw [if_neg q, if_neg q, if_pos h1, if_pos h1]; exact Or.inr ⟨Or.inl rfl, rfl, rfl⟩
  · have n0 := f123 h1
    rw [if_neg (show ¬ Y.2 = 0 by rw [h2]; exact n0)]
    by_cases q : lk c T (sk c T X.2.2) = 59
    · rw [if_pos q]; exact Or.inr ⟨h1, h2, h3⟩
    · rw [if_neg q, if_neg n0, if_neg n0]; exact Or.inr ⟨h1, h2, h3⟩
theorem cNum_0 {lo hi : Int32} {c : Nat} {T : Nat → Int32} {X : Int32 × Int32 × Nat} (h : (cNum lo hi c T X).1 = 0) : X.1 = 0 ∧ nf lo hi c T (sk c T X.2.2) = 0 := by
  unfold cNum at h
  by_cases q : X.1 = 0
  · simp only [if_pos q] at h; exact ⟨q, h⟩
  · simp only [if_neg q] at h; exact absurd h q
theorem cEnd_0 {c : Nat} {T : Nat → Int32} {X : Int32 × Int32 × Nat} (h : (cEnd c T X).1 = 0) : X.1 = 0 ∧ lk c T (sk c T X.2.2) = 59 := by
  unfold cEnd at h
  by_cases q : lk c T (sk c T X.2.2) = 59
  · rw [if_pos q] at h; exact ⟨h, q⟩
  · rw [if_neg q] at h
    by_cases z : X.1 = 0
    · simp only [if_pos z] at h; exact absurd h (by decide)
    · simp only [if_neg z] at h; exact absurd h z
theorem nf_0 {lo hi : Int32} {c a : Nat} {T : Nat → Int32} (h : nf lo hi c T a = 0) : a < (nu c T a).1 ∧ ¬ (nu c T a).2 < lo ∧ ¬ hi < (nu c T a).2 := by
  unfold nf at h
  by_cases q : (nu c T a).1 = a
  · rw [if_pos q] at h; exact absurd h (by decide)
  · rw [if_neg q] at h
    by_cases z : 3 < nI (nu c T a).1 - nI a ∨ ((nu c T a).2 < lo ∨ hi < (nu c T a).2)
    · rw [if_pos z] at h; exact absurd h (by decide)
    · have z' := not_or.mp z
      have z2 := not_or.mp z'.2
      refine ⟨?_, z2.1, z2.2⟩
      rcases Nat.lt_or_ge a c with y | y
      · have := (nu_le (T := T) (show a ≤ c by omega)).1
        omega
      · exact absurd (by unfold nu; rw [show c - a = 0 by omega]; rfl) q
/-- a number that is right: where, what -/
theorem nf_val {lo hi c a : Nat} {T : Nat → Int32} (hl : lo ≤ hi) (hh : hi < 2 ^ 31) (h : nf (nI lo) (nI hi) c T a = 0) : ∃ d : Nat, lo ≤ d ∧ d ≤ hi ∧ (nu c T a).2 = nI d := by
  obtain ⟨_, h1, h2⟩ := nf_0 h
  by_cases q : (nu c T a).2 < 0
  · exact absurd (Int32.lt_of_lt_of_le q (nI_pos' (show lo < 2 ^ 31 by omega))) h1
  · obtain ⟨d, d1, d2⟩ := nI_of q
    rw [d2, nI_ltI (by omega) (by omega)] at h1 h2
    exact ⟨d, by omega, by omega, d2⟩
section S82
variable {σ : Mem} {fs : List Fm} {M : List va_E} {Q : List va_E → Option Value → Prop}
/-- the class's text -/
def LX (σ : Mem) (c : Nat) (T : Nat → Int32) : Prop := σ 1 0 1 = nI c ∧ ∀ j, j < c → σ 2 0 j = T j
theorem LX_at {c : Nat} {T : Nat → Int32} {x : Int32} (h : LX σ c T) : LX (upS σ 1 0 4 x) c T := ⟨by rw [upS_eq, upd_ne (by omega)]; exact h.1, fun j hj => by rw [upS_ne (by omega)]; exact h.2 j hj⟩
theorem in240 {a : Nat} (h : a < 240) : vp_in (nI a) 240 := vp_in_nI h (by decide)
theorem sp_letterHere {c p : Nat} {T : Nat → Int32} (hl : LT c T) (hx : LX σ c T) (hp : p ≤ c) (h : σ 1 0 4 = nI p) : Rn mX6_letterHere 0 [.ref (ad 1 0)] [] fs (enc σ) Q ↔ Rt fs (enc σ) (some (.int (lk c T p))) Q := by
  have hc := hl.1
  by_cases q : p < c
  · have l : nI p < nI c := nI_lt q (by omega)
    rw [lk_lt q]
    simp only [aX6_letterHere_0, aX6_letterHere_1, aX6_letterHere_4, aX6_letterHere_5, aX6_letterHere_8, aX6_letterHere_11, aX6_letterHere_12, aX6_letterHere_15, aX6_letterHere_16, aX6_letterHere_19, aX6_letterHere_20, aX6_letterHere_23, aX6_letterHere_24, Nat.zero_le, Nat.reduceLeDiff, Nat.reduceAdd, i1_0, rr_c3, zc9, oc9, zc10, oc10, zc11, oc11, zc12, oc12, zc13, oc13, zc15, oc15, Int32.lt_irrefl, Nat.zero_lt_one, Rt_cons, Rt_void, isB_0, isB_1, isB_b, true_and, and_true, cats_nil, cats_int, cats_ref, and_self, if_true, if_false, ite_self, le_nlt, ite_not, h, hx.1, l, aT_2, aN_2, cnt_2, in240 (show p < 240 by omega), cl10 (show p < 10000 by omega), hx.2 p q]
  · rw [lk_ge q]
    have l : ¬ nI p < nI c := nI_nlt (by omega) (by omega)
    simp only [aX6_letterHere_0, aX6_letterHere_1, aX6_letterHere_4, aX6_letterHere_5, aX6_letterHere_8, aX6_letterHere_11, aX6_letterHere_12, aX6_letterHere_15, aX6_letterHere_16, aX6_letterHere_19, aX6_letterHere_20, aX6_letterHere_23, aX6_letterHere_24, Nat.zero_le, Nat.reduceLeDiff, Nat.reduceAdd, i1_0, rr_c3, zc9, oc9, zc10, oc10, zc11, oc11, zc12, oc12, zc13, oc13, zc15, oc15, Int32.lt_irrefl, Nat.zero_lt_one, Rt_cons, Rt_void, isB_0, isB_1, isB_b, true_and, and_true, cats_nil, cats_int, cats_ref, and_self, if_true, if_false, ite_self, le_nlt, ite_not, h, hx.1, l]
theorem lp_cskip {c : Nat} {T : Nat → Int32} (hl : LT c T) : ∀ (m p : Nat) (σ : Mem), c - p = m → p ≤ c → LX σ c T → σ 1 0 4 = nI p →
    (Rn mX6_skipBlanks 0 [.ref (ad 1 0)] [] fs (enc σ) Q ↔ Rt fs (enc (upS σ 1 0 4 (nI (sk c T p)))) none Q) := by
  intro m
  have hc := hl.1
  induction m with
  | zero =>
    intro p σ hm hp hx h
    have l : ¬ nI p < nI c := nI_nlt (by omega) (by omega)
    rw [sk_b (by rw [lk_ge (by omega)]; exact n132), upS_self h]
    simp only [aX6_skipBlanks_0, aX6_skipBlanks_1, aX6_skipBlanks_4, aX6_skipBlanks_5, aX6_skipBlanks_8, aX6_skipBlanks_11, aX6_skipBlanks_12, aX6_skipBlanks_15, aX6_skipBlanks_16, aX6_skipBlanks_19, aX6_skipBlanks_20, aX6_skipBlanks_22, aX6_skipBlanks_25, aX6_skipBlanks_26i, aX6_skipBlanks_26a, aX6_skipBlanks_27, aX6_skipBlanks_30, aX6_skipBlanks_31, aX6_skipBlanks_32, aX6_skipBlanks_35, aX6_skipBlanks_38, Nat.zero_le, Nat.reduceLeDiff, Nat.reduceAdd, i1_0, rr_c3, zc9, oc9, zc10, oc10, zc11, oc11, zc12, oc12, zc13, oc13, zc15, oc15, Int32.lt_irrefl, Nat.zero_lt_one, Rt_cons, Rt_void, isB_0, isB_1, isB_b, true_and, and_true, cats_nil, cats_int, cats_ref, and_self, if_true, if_false, ite_self, le_nlt, ite_not, h, hx.1, l]
  | succ m ih =>
    intro p σ hm hp hx h
    have l : nI p < nI c := nI_lt (by omega) (by omega)
    by_cases q : lk c T p = 32
    · have ih' := ih (p + 1) (upS σ 1 0 4 (nI (p + 1))) (by omega) (by omega) (LX_at hx) (by rw [upS_eq, upd_eq])
      rw [upS_idem] at ih'
      rw [sk_a q, ← ih']
      rw [lk_lt (by omega)] at q
      rw [aX6_skipBlanks_0]
      simp only [aX6_skipBlanks_1, aX6_skipBlanks_4, aX6_skipBlanks_5, aX6_skipBlanks_8, aX6_skipBlanks_11, aX6_skipBlanks_12, aX6_skipBlanks_15, aX6_skipBlanks_16, aX6_skipBlanks_19, aX6_skipBlanks_20, aX6_skipBlanks_22, aX6_skipBlanks_25, aX6_skipBlanks_26i, aX6_skipBlanks_26a, aX6_skipBlanks_27, aX6_skipBlanks_30, aX6_skipBlanks_31, aX6_skipBlanks_32, aX6_skipBlanks_35, Nat.zero_le, Nat.reduceLeDiff, Nat.reduceAdd, i1_0, rr_c3, zc9, oc9, zc10, oc10, zc11, oc11, zc12, oc12, zc13, oc13, zc15, oc15, Int32.lt_irrefl, Nat.zero_lt_one, Rt_cons, Rt_void, isB_0, isB_1, isB_b, true_and, and_true, cats_nil, cats_int, cats_ref, and_self, if_true, if_false, ite_self, le_nlt, ite_not, h, hx.1, l, aT_2, aN_2, cnt_2, in240 (show p < 240 by omega), cl10 (show p < 10000 by omega), hx.2 p (show p < c by omega), q, not_true_eq_false, nI_1]
    · rw [sk_b q, upS_self h]
      rw [lk_lt (by omega)] at q
      simp only [aX6_skipBlanks_0, aX6_skipBlanks_1, aX6_skipBlanks_4, aX6_skipBlanks_5, aX6_skipBlanks_8, aX6_skipBlanks_11, aX6_skipBlanks_12, aX6_skipBlanks_15, aX6_skipBlanks_16, aX6_skipBlanks_19, aX6_skipBlanks_20, aX6_skipBlanks_22, aX6_skipBlanks_38, Nat.zero_le, Nat.reduceLeDiff, Nat.reduceAdd, i1_0, rr_c3, zc9, oc9, zc10, oc10, zc11, oc11, zc12, oc12, zc13, oc13, zc15, oc15, Int32.lt_irrefl, Nat.zero_lt_one, Rt_cons, Rt_void, isB_0, isB_1, isB_b, true_and, and_true, cats_nil, cats_int, cats_ref, and_self, if_true, if_false, ite_self, le_nlt, ite_not, h, hx.1, l, aT_2, aN_2, cnt_2, in240 (show p < 240 by omega), cl10 (show p < 10000 by omega), hx.2 p (show p < c by omega), q, not_false_eq_true]
theorem sp_isFigure {x : Int32} : Rn mX6_isFigure 0 [.int x] [] fs M Q ↔ Rt fs M (some (.int (bI (dg x)))) Q := by
  simp only [aX6_isFigure_0, aX6_isFigure_1, aX6_isFigure_3, aX6_isFigure_6, aX6_isFigure_7, aX6_isFigure_9, aX6_isFigure_12, aX6_isFigure_13, aX6_isFigure_16, aX6_isFigure_17, Nat.zero_le, Nat.reduceLeDiff, Nat.reduceAdd, i1_0, rr_c3, zc9, oc9, zc10, oc10, zc11, oc11, zc12, oc12, zc13, oc13, zc15, oc15, Int32.lt_irrefl, Nat.zero_lt_one, Rt_cons, Rt_void, isB_0, isB_1, isB_b, true_and, and_true, cats_nil, cats_int, cats_ref, and_self, if_true, if_false, ite_self, le_nlt, ite_not]
  by_cases h1 : x < 48
  · simp [h1, bI, dg]
  · by_cases h2 : 57 < x <;> simp [h1, h2, bI, dg]
theorem lp_cnum {c a : Nat} {T : Nat → Int32} {l1 l2 : Value} (hl : LT c T) : ∀ (m p : Nat) (v : Int32) (σ : Mem), c - p = m → p ≤ c → LX σ c T → σ 1 0 4 = nI p →
    (Rn mX6_readNumber 12 [.ref (ad 1 0), l1, l2, .int (nI a), .int v] [] fs (enc σ) Q ↔ Rn mX6_readNumber 86 [.ref (ad 1 0), l1, l2, .int (nI a), .int (nuN c T a m p v).2] [] fs (enc (upS σ 1 0 4 (nI (nuN c T a m p v).1))) Q) := by
  intro m
  have hc := hl.1
  induction m with
  | zero =>
    intro p v σ hm hp hx h
    have l : ¬ nI p < nI c := nI_nlt (by omega) (by omega)
    have e : nuN c T a 0 p v = (p, v) := rfl
    rw [e, upS_self h]
    simp only [aX6_readNumber_12, aX6_readNumber_13, aX6_readNumber_16, aX6_readNumber_17, aX6_readNumber_20, Nat.zero_le, Nat.reduceLeDiff, Nat.reduceAdd, i1_0, rr_c3, zc9, oc9, zc10, oc10, zc11, oc11, zc12, oc12, zc13, oc13, zc15, oc15, Int32.lt_irrefl, Nat.zero_lt_one, Rt_cons, Rt_void, isB_0, isB_1, isB_b, true_and, and_true, cats_nil, cats_int, cats_ref, and_self, if_true, if_false, ite_self, le_nlt, ite_not, h, hx.1, l]
  | succ m ih =>
    intro p v σ hm hp hx h
    have l : nI p < nI c := nI_lt (by omega) (by omega)
    have hpc : p < c := by omega
    rw [nuN_s]
    by_cases q : dg (lk c T p)
    · rw [if_pos q, lk_lt hpc]
      rw [lk_lt hpc] at q
      have ih' := ih (p + 1) (if nI p - nI a < 3 then 10 * v + T p - 48 else v) (upS σ 1 0 4 (nI (p + 1))) (by omega) (by omega) (LX_at hx) (by rw [upS_eq, upd_eq])
      rw [upS_idem] at ih'
      rw [← ih', aX6_readNumber_12]
      by_cases z : nI p - nI a < 3
      · rw [if_pos z]
        simp only [aX6_readNumber_13, aX6_readNumber_16, aX6_readNumber_17, aX6_readNumber_20, aX6_readNumber_23, aX6_readNumber_24, aX6_readNumber_27, aX6_readNumber_28, aX6_readNumber_31, aX6_readNumber_32, aX6_readNumber_35, aX6_readNumber_38, aX6_readNumber_39, aX6_readNumber_42, aX6_readNumber_43, aX6_readNumber_44, aX6_readNumber_45, aX6_readNumber_48, aX6_readNumber_50, aX6_readNumber_52, aX6_readNumber_53, aX6_readNumber_54, aX6_readNumber_57, aX6_readNumber_58, aX6_readNumber_61, aX6_readNumber_62, aX6_readNumber_63, aX6_readNumber_65, aX6_readNumber_66, aX6_readNumber_69, aX6_readNumber_71, aX6_readNumber_73, aX6_readNumber_74i, aX6_readNumber_74a, aX6_readNumber_75, aX6_readNumber_78, aX6_readNumber_79, aX6_readNumber_80, aX6_readNumber_83, sp_isFigure, Nat.zero_le, Nat.reduceLeDiff, Nat.reduceAdd, i1_0, rr_c3, zc9, oc9, zc10, oc10, zc11, oc11, zc12, oc12, zc13, oc13, zc15, oc15, Int32.lt_irrefl, Nat.zero_lt_one, Rt_cons, Rt_void, isB_0, isB_1, isB_b, true_and, and_true, cats_nil, cats_int, cats_ref, and_self, if_true, if_false, ite_self, le_nlt, ite_not, h, hx.1, l, aT_2, aN_2, cnt_2, in240 (show p < 240 by omega), cl10 (show p < 10000 by omega), hx.2 p hpc, bI_t q, z, not_true_eq_false, nI_1]
      · rw [if_neg z]
        simp only [aX6_readNumber_13, aX6_readNumber_16, aX6_readNumber_17, aX6_readNumber_20, aX6_readNumber_23, aX6_readNumber_24, aX6_readNumber_27, aX6_readNumber_28, aX6_readNumber_31, aX6_readNumber_32, aX6_readNumber_35, aX6_readNumber_38, aX6_readNumber_39, aX6_readNumber_42, aX6_readNumber_43, aX6_readNumber_44, aX6_readNumber_45, aX6_readNumber_48, aX6_readNumber_50, aX6_readNumber_52, aX6_readNumber_53, aX6_readNumber_54, aX6_readNumber_57, aX6_readNumber_58, aX6_readNumber_61, aX6_readNumber_62, aX6_readNumber_63, aX6_readNumber_65, aX6_readNumber_66, aX6_readNumber_69, aX6_readNumber_71, aX6_readNumber_73, aX6_readNumber_74i, aX6_readNumber_74a, aX6_readNumber_75, aX6_readNumber_78, aX6_readNumber_79, aX6_readNumber_80, aX6_readNumber_83, sp_isFigure, Nat.zero_le, Nat.reduceLeDiff, Nat.reduceAdd, i1_0, rr_c3, zc9, oc9, zc10, oc10, zc11, oc11, zc12, oc12, zc13, oc13, zc15, oc15, Int32.lt_irrefl, Nat.zero_lt_one, Rt_cons, Rt_void, isB_0, isB_1, isB_b, true_and, and_true, cats_nil, cats_int, cats_ref, and_self, if_true, if_false, ite_self, le_nlt, ite_not, h, hx.1, l, aT_2, aN_2, cnt_2, in240 (show p < 240 by omega), cl10 (show p < 10000 by omega), hx.2 p hpc, bI_t q, z, not_false_eq_true, nI_1]
    · rw [if_neg q, upS_self h]
      rw [lk_lt hpc] at q
      simp only [aX6_readNumber_12, aX6_readNumber_13, aX6_readNumber_16, aX6_readNumber_17, aX6_readNumber_20, aX6_readNumber_23, aX6_readNumber_24, aX6_readNumber_27, aX6_readNumber_28, aX6_readNumber_31, aX6_readNumber_32, aX6_readNumber_35, sp_isFigure, Nat.zero_le, Nat.reduceLeDiff, Nat.reduceAdd, i1_0, rr_c3, zc9, oc9, zc10, oc10, zc11, oc11, zc12, oc12, zc13, oc13, zc15, oc15, Int32.lt_irrefl, Nat.zero_lt_one, Rt_cons, Rt_void, isB_0, isB_1, isB_b, true_and, and_true, cats_nil, cats_int, cats_ref, and_self, if_true, if_false, ite_self, le_nlt, ite_not, h, hx.1, l, aT_2, aN_2, cnt_2, in240 (show p < 240 by omega), cl10 (show p < 10000 by omega), hx.2 p hpc, bI_f q]
theorem sp_fail {n x : Int32} : Rn mX6_fail 0 [.ref (ad 1 0), .int n, .int x] [] fs (enc σ) Q ↔ Rt fs (enc (if σ 1 0 3 = 0 then upS (upS σ 1 0 3 n) 1 0 2 x else σ)) none Q := by
  by_cases q : σ 1 0 3 = 0
  · rw [if_pos q]
    simp only [aX6_fail_0, aX6_fail_1, aX6_fail_4, aX6_fail_7, aX6_fail_8, aX6_fail_9, aX6_fail_12, aX6_fail_13, aX6_fail_14, aX6_fail_17, Nat.zero_le, Nat.reduceLeDiff, Nat.reduceAdd, i1_0, rr_c3, zc9, oc9, zc10, oc10, zc11, oc11, zc12, oc12, zc13, oc13, zc15, oc15, Int32.lt_irrefl, Nat.zero_lt_one, Rt_cons, Rt_void, isB_0, isB_1, isB_b, true_and, and_true, cats_nil, cats_int, cats_ref, and_self, if_true, if_false, ite_self, le_nlt, ite_not, q, not_true_eq_false]
  · rw [if_neg q]
    simp only [aX6_fail_0, aX6_fail_1, aX6_fail_4, aX6_fail_7, aX6_fail_8, aX6_fail_9, aX6_fail_12, aX6_fail_13, aX6_fail_14, aX6_fail_17, Nat.zero_le, Nat.reduceLeDiff, Nat.reduceAdd, i1_0, rr_c3, zc9, oc9, zc10, oc10, zc11, oc11, zc12, oc12, zc13, oc13, zc15, oc15, Int32.lt_irrefl, Nat.zero_lt_one, Rt_cons, Rt_void, isB_0, isB_1, isB_b, true_and, and_true, cats_nil, cats_int, cats_ref, and_self, if_true, if_false, ite_self, le_nlt, ite_not, q, not_false_eq_true]
/-- the class while it reads: fault, its place, at -/
def KC (σ0 σ : Mem) (q c : Nat) (X : Int32 × Int32 × Nat) : Prop := (∀ k i, ¬ k = 1 → ¬ (3 ≤ k ∧ k ≤ 8 ∧ i = q) → σ k i = σ0 k i) ∧ σ 1 0 1 = nI c ∧ σ 1 0 3 = X.1 ∧ σ 1 0 2 = X.2.1 ∧ σ 1 0 4 = nI X.2.2 ∧ rr (σ 1 0 5) = q ∧ X.2.2 ≤ c
theorem KC_LX {σ0 : Mem} {q c : Nat} {T : Nat → Int32} {X : Int32 × Int32 × Nat} (h : KC σ0 σ q c X) (ht : ∀ j, j < c → σ0 2 0 j = T j) : LX σ c T := ⟨h.2.1, fun j hj => by rw [h.1 2 0 (by decide) (by omega)]; exact ht j hj⟩
theorem KC_at {σ0 : Mem} {q c p : Nat} {X : Int32 × Int32 × Nat} (h : KC σ0 σ q c X) (hp : p ≤ c) : KC σ0 (upS σ 1 0 4 (nI p)) q c (X.1, X.2.1, p) := by
  refine ⟨fun k i a b => by rw [upS_ne (by omega)]; exact h.1 k i a b, ?_⟩
  rw [upS_eq, upd_ne (by omega), upd_ne (by omega), upd_ne (by omega), upd_eq, upd_ne (by omega)]
  exact ⟨h.2.1, h.2.2.1, h.2.2.2.1, rfl, h.2.2.2.2.2.1, hp⟩
theorem KC_fail {σ0 : Mem} {q c : Nat} {n x : Int32} {X : Int32 × Int32 × Nat} (h : KC σ0 σ q c X) : KC σ0 (if σ 1 0 3 = 0 then upS (upS σ 1 0 3 n) 1 0 2 x else σ) q c (if X.1 = 0 then n else X.1, if X.1 = 0 then x else X.2.1, X.2.2) := by
  rw [h.2.2.1]
  by_cases z : X.1 = 0
  · rw [if_pos z, if_pos z, if_pos z]
    refine ⟨fun k i a b => by rw [upS_ne (by omega), upS_ne (by omega)]; exact h.1 k i a b, ?_⟩
    rw [upS_eq, upS_eq, upd_ne (by omega), upd_ne (by omega), upd_ne (by omega), upd_eq, upd_eq, upd_ne (by omega), upd_ne (by omega), upd_ne (by omega), upd_ne (by omega)]
    exact ⟨h.2.1, rfl, rfl, h.2.2.2.2⟩
  · rw [if_neg z, if_neg z, if_neg z]; exact h
theorem fail_ne {n x : Int32} {k i : Nat} (hk : ¬ k = 1) : (if σ 1 0 3 = 0 then upS (upS σ 1 0 3 n) 1 0 2 x else σ) k i = σ k i := by
  split
  · rw [upS_ne (by omega), upS_ne (by omega)]
  · rfl
theorem sp_cskip {σ0 : Mem} {q c : Nat} {T : Nat → Int32} {X : Int32 × Int32 × Nat} (hl : LT c T) (ht : ∀ j, j < c → σ0 2 0 j = T j) (h : KC σ0 σ q c X) :
    Rn mX6_skipBlanks 0 [.ref (ad 1 0)] [] fs (enc σ) Q ↔ Rt fs (enc (upS σ 1 0 4 (nI (sk c T X.2.2)))) none Q := lp_cskip hl _ _ _ rfl h.2.2.2.2.2.2 (KC_LX h ht) h.2.2.2.2.1
theorem sp_cnum {σ0 : Mem} {q c : Nat} {lo hi : Int32} {T : Nat → Int32} {X : Int32 × Int32 × Nat} (hl : LT c T) (ht : ∀ j, j < c → σ0 2 0 j = T j) (h : KC σ0 σ q c X) :
    ∃ τ, (∀ fs Q, Rn mX6_readNumber 0 [.ref (ad 1 0), .int lo, .int hi, .null, .null] [] fs (enc σ) Q ↔ Rt fs (enc τ) (some (.int (nu c T (sk c T X.2.2)).2)) Q) ∧ KC σ0 τ q c (cNum lo hi c T X) ∧ ∀ k i, ¬ k = 1 → τ k i = σ k i := by
  have hp := h.2.2.2.2.2.2
  have hc := hl.1
  have h1 := KC_at h (sk_le (T := T) hp)
  have h2 := KC_at h1 (nu_le (T := T) (sk_le (T := T) hp)).2
  rw [upS_idem] at h2
  have S := fun fs Q => sp_cskip (fs := fs) (Q := Q) hl ht h
  have L := fun fs Q => lp_cnum (fs := fs) (Q := Q) (a := sk c T X.2.2) (l1 := .int lo) (l2 := .int hi) hl _ (sk c T X.2.2) 0 (upS σ 1 0 4 (nI (sk c T X.2.2))) rfl (sk_le hp) (KC_LX h1 ht) (by rw [upS_eq, upd_eq])
  rw [upS_idem] at L
  have eN : nuN c T (sk c T X.2.2) (c - sk c T X.2.2) (sk c T X.2.2) 0 = nu c T (sk c T X.2.2) := rfl
  rw [eN] at L
  have le := nu_le (T := T) (sk_le (T := T) hp)
  have ska := sk_le (T := T) hp
  unfold cNum
  generalize sk c T X.2.2 = a at *
  have enf : nf lo hi c T a = if (nu c T a).1 = a then 1 else if 3 < nI (nu c T a).1 - nI a ∨ ((nu c T a).2 < lo ∨ hi < (nu c T a).2) then 2 else 0 := rfl
  generalize nu c T a = ev at *
  have F : ∀ fs Q, (Rn mX6_readNumber 0 [.ref (ad 1 0), .int lo, .int hi, .null, .null] [] fs (enc σ) Q ↔ Rn mX6_readNumber 86 [.ref (ad 1 0), .int lo, .int hi, .int (nI a), .int ev.2] [] fs (enc (upS σ 1 0 4 (nI ev.1))) Q) := fun fs Q => by
    rw [← L]
    simp only [aX6_readNumber_0, Nat.zero_le, Nat.reduceLeDiff, Nat.reduceAdd, i1_0, rr_c3, zc9, oc9, zc10, oc10, zc11, oc11, zc12, oc12, zc13, oc13, zc15, oc15, Int32.lt_irrefl, Nat.zero_lt_one, Rt_cons, Rt_void, isB_0, isB_1, isB_b, true_and, and_true, cats_nil, cats_int, cats_ref, and_self, if_true, if_false, ite_self, le_nlt, ite_not]
    rw [aX6_readNumber_1, S]
    simp only [aX6_readNumber_4, aX6_readNumber_5, aX6_readNumber_8, aX6_readNumber_9, aX6_readNumber_10, Nat.zero_le, Nat.reduceLeDiff, Nat.reduceAdd, i1_0, rr_c3, zc9, oc9, zc10, oc10, zc11, oc11, zc12, oc12, zc13, oc13, zc15, oc15, Int32.lt_irrefl, Nat.zero_lt_one, Rt_cons, Rt_void, isB_0, isB_1, isB_b, true_and, and_true, cats_nil, cats_int, cats_ref, and_self, if_true, if_false, ite_self, le_nlt, ite_not, upS_eq, upd_eq]
  have e4 : upS σ 1 0 4 (nI ev.1) 1 0 4 = nI ev.1 := by rw [upS_eq, upd_eq]
  by_cases q1 : ev.1 = a
  · rw [if_pos q1] at enf
    rw [enf]
    refine ⟨_, fun fs Q => ?_, by
      have := KC_fail (n := 1) (x := nI a) h2
      have n10 : ¬ (1 : Int32) = 0 := by decide
      by_cases z : X.1 = 0
      · rw [if_pos z, if_pos ⟨z, n10⟩]; simp only [if_pos z] at this; exact this
      · rw [if_neg z, if_neg (show ¬ (X.1 = 0 ∧ ¬ (1 : Int32) = 0) from fun y => z y.1)]; simp only [if_neg z] at this; exact this, fun k i hk => by rw [fail_ne hk, upS_ne (by omega)]⟩
    rw [F]
    rw [q1] at e4
    simp only [aX6_readNumber_86, aX6_readNumber_87, aX6_readNumber_90, aX6_readNumber_91, aX6_readNumber_94, aX6_readNumber_95, aX6_readNumber_96, aX6_readNumber_97, aX6_readNumber_100, aX6_readNumber_129, aX6_readNumber_131, sp_fail, Nat.zero_le, Nat.reduceLeDiff, Nat.reduceAdd, i1_0, rr_c3, zc9, oc9, zc10, oc10, zc11, oc11, zc12, oc12, zc13, oc13, zc15, oc15, Int32.lt_irrefl, Nat.zero_lt_one, Rt_cons, Rt_void, isB_0, isB_1, isB_b, true_and, and_true, cats_nil, cats_int, cats_ref, and_self, if_true, if_false, ite_self, le_nlt, ite_not, q1, e4, not_true_eq_false]
  · rw [if_neg q1] at enf
    have q1' : ¬ nI ev.1 = nI a := fun z => q1 ((nI_eq (by omega) (by omega)).mp z)
    by_cases q2 : 3 < nI ev.1 - nI a
    · rw [if_pos (Or.inl q2)] at enf
      rw [enf]
      refine ⟨_, fun fs Q => ?_, by
        have := KC_fail (n := 2) (x := nI a) h2
        have n10 : ¬ (2 : Int32) = 0 := by decide
        by_cases z : X.1 = 0
        · rw [if_pos z, if_pos ⟨z, n10⟩]; simp only [if_pos z] at this; exact this
        · rw [if_neg z, if_neg (show ¬ (X.1 = 0 ∧ ¬ (2 : Int32) = 0) from fun y => z y.1)]; simp only [if_neg z] at this; exact this, fun k i hk => by rw [fail_ne hk, upS_ne (by omega)]⟩
      rw [F]
      simp only [aX6_readNumber_86, aX6_readNumber_87, aX6_readNumber_90, aX6_readNumber_91, aX6_readNumber_103, aX6_readNumber_104, aX6_readNumber_107, aX6_readNumber_108, aX6_readNumber_109, aX6_readNumber_110, aX6_readNumber_113, aX6_readNumber_115, aX6_readNumber_116, aX6_readNumber_117, aX6_readNumber_120, aX6_readNumber_123, aX6_readNumber_124, aX6_readNumber_125, aX6_readNumber_126, aX6_readNumber_129, aX6_readNumber_131, sp_fail, sp_isOutside, Nat.zero_le, Nat.reduceLeDiff, Nat.reduceAdd, i1_0, rr_c3, zc9, oc9, zc10, oc10, zc11, oc11, zc12, oc12, zc13, oc13, zc15, oc15, Int32.lt_irrefl, Nat.zero_lt_one, Rt_cons, Rt_void, isB_0, isB_1, isB_b, true_and, and_true, cats_nil, cats_int, cats_ref, and_self, if_true, if_false, ite_self, le_nlt, ite_not, e4, q1', not_false_eq_true, q2]
    · by_cases q3 : ev.2 < lo ∨ hi < ev.2
      · rw [if_pos (Or.inr q3)] at enf
        rw [enf]
        refine ⟨_, fun fs Q => ?_, by
          have := KC_fail (n := 2) (x := nI a) h2
          have n10 : ¬ (2 : Int32) = 0 := by decide
          by_cases z : X.1 = 0
          · rw [if_pos z, if_pos ⟨z, n10⟩]; simp only [if_pos z] at this; exact this
          · rw [if_neg z, if_neg (show ¬ (X.1 = 0 ∧ ¬ (2 : Int32) = 0) from fun y => z y.1)]; simp only [if_neg z] at this; exact this, fun k i hk => by rw [fail_ne hk, upS_ne (by omega)]⟩
        rw [F]
        simp only [aX6_readNumber_86, aX6_readNumber_87, aX6_readNumber_90, aX6_readNumber_91, aX6_readNumber_103, aX6_readNumber_104, aX6_readNumber_107, aX6_readNumber_108, aX6_readNumber_109, aX6_readNumber_110, aX6_readNumber_113, aX6_readNumber_115, aX6_readNumber_116, aX6_readNumber_117, aX6_readNumber_120, aX6_readNumber_123, aX6_readNumber_124, aX6_readNumber_125, aX6_readNumber_126, aX6_readNumber_129, aX6_readNumber_131, sp_fail, sp_isOutside, Nat.zero_le, Nat.reduceLeDiff, Nat.reduceAdd, i1_0, rr_c3, zc9, oc9, zc10, oc10, zc11, oc11, zc12, oc12, zc13, oc13, zc15, oc15, Int32.lt_irrefl, Nat.zero_lt_one, Rt_cons, Rt_void, isB_0, isB_1, isB_b, true_and, and_true, cats_nil, cats_int, cats_ref, and_self, if_true, if_false, ite_self, le_nlt, ite_not, e4, q1', not_false_eq_true, q2, bI_t q3]
      · rw [if_neg (fun z => z.elim q2 q3)] at enf
        rw [enf]
        refine ⟨_, fun fs Q => ?_, by
          by_cases z : X.1 = 0
          · rw [if_pos z, if_neg (fun y => y.2 rfl)]; rw [← z]; exact h2
          · rw [if_neg z, if_neg (show ¬ (X.1 = 0 ∧ ¬ (0 : Int32) = 0) from fun y => z y.1)]; exact h2, fun k i hk => by rw [upS_ne (by omega)]⟩
        rw [F]
        simp only [aX6_readNumber_86, aX6_readNumber_87, aX6_readNumber_90, aX6_readNumber_91, aX6_readNumber_103, aX6_readNumber_104, aX6_readNumber_107, aX6_readNumber_108, aX6_readNumber_109, aX6_readNumber_110, aX6_readNumber_113, aX6_readNumber_115, aX6_readNumber_116, aX6_readNumber_117, aX6_readNumber_120, aX6_readNumber_123, aX6_readNumber_124, aX6_readNumber_125, aX6_readNumber_126, aX6_readNumber_129, aX6_readNumber_131, sp_fail, sp_isOutside, Nat.zero_le, Nat.reduceLeDiff, Nat.reduceAdd, i1_0, rr_c3, zc9, oc9, zc10, oc10, zc11, oc11, zc12, oc12, zc13, oc13, zc15, oc15, Int32.lt_irrefl, Nat.zero_lt_one, Rt_cons, Rt_void, isB_0, isB_1, isB_b, true_and, and_true, cats_nil, cats_int, cats_ref, and_self, if_true, if_false, ite_self, le_nlt, ite_not, e4, q1', not_false_eq_true, q2, bI_f q3]
theorem sp_cisNext {σ0 : Mem} {q c : Nat} {w : Int32} {T : Nat → Int32} {X : Int32 × Int32 × Nat} (hl : LT c T) (ht : ∀ j, j < c → σ0 2 0 j = T j) (h : KC σ0 σ q c X) :
    Rn mX6_isNext 0 [.ref (ad 1 0), .int w] [] fs (enc σ) Q ↔ Rt fs (enc (upS σ 1 0 4 (nI (if lk c T (sk c T X.2.2) = w then sk c T X.2.2 + 1 else sk c T X.2.2)))) (some (.int (bI (lk c T (sk c T X.2.2) = w)))) Q := by
  have hp := h.2.2.2.2.2.2
  have h1 := KC_at h (sk_le (T := T) hp)
  have S := fun fs Q => sp_cskip (fs := fs) (Q := Q) hl ht h
  have H := fun fs Q => sp_letterHere (σ := upS σ 1 0 4 (nI (sk c T X.2.2))) (fs := fs) (Q := Q) (p := sk c T X.2.2) hl (KC_LX h1 ht) (sk_le hp) (by rw [upS_eq, upd_eq])
  simp only [aX6_isNext_0, Nat.zero_le, Nat.reduceLeDiff, Nat.reduceAdd, i1_0, rr_c3, zc9, oc9, zc10, oc10, zc11, oc11, zc12, oc12, zc13, oc13, zc15, oc15, Int32.lt_irrefl, Nat.zero_lt_one, Rt_cons, Rt_void, isB_0, isB_1, isB_b, true_and, and_true, cats_nil, cats_int, cats_ref, and_self, if_true, if_false, ite_self, le_nlt, ite_not]
  rw [aX6_isNext_1, S]
  by_cases z : lk c T (sk c T X.2.2) = w
  · rw [if_pos z, bI_t z]
    simp only [aX6_isNext_4, aX6_isNext_5, aX6_isNext_8, aX6_isNext_9, aX6_isNext_12, aX6_isNext_13, aX6_isNext_14, aX6_isNext_15i, aX6_isNext_15a, aX6_isNext_16, aX6_isNext_19, aX6_isNext_20, aX6_isNext_21, aX6_isNext_24, aX6_isNext_25, H, Nat.zero_le, Nat.reduceLeDiff, Nat.reduceAdd, i1_0, rr_c3, zc9, oc9, zc10, oc10, zc11, oc11, zc12, oc12, zc13, oc13, zc15, oc15, Int32.lt_irrefl, Nat.zero_lt_one, Rt_cons, Rt_void, isB_0, isB_1, isB_b, true_and, and_true, cats_nil, cats_int, cats_ref, and_self, if_true, if_false, ite_self, le_nlt, ite_not, z, upS_eq, upd_eq, upS_idem, nI_1]
  · rw [if_neg z, bI_f z]
    simp only [aX6_isNext_4, aX6_isNext_5, aX6_isNext_8, aX6_isNext_9, aX6_isNext_12, aX6_isNext_13, aX6_isNext_14, aX6_isNext_15i, aX6_isNext_15a, aX6_isNext_16, aX6_isNext_19, aX6_isNext_20, aX6_isNext_21, aX6_isNext_24, aX6_isNext_25, H, Nat.zero_le, Nat.reduceLeDiff, Nat.reduceAdd, i1_0, rr_c3, zc9, oc9, zc10, oc10, zc11, oc11, zc12, oc12, zc13, oc13, zc15, oc15, Int32.lt_irrefl, Nat.zero_lt_one, Rt_cons, Rt_void, isB_0, isB_1, isB_b, true_and, and_true, cats_nil, cats_int, cats_ref, and_self, if_true, if_false, ite_self, le_nlt, ite_not, z]
theorem sp_cend {σ0 : Mem} {q c : Nat} {T : Nat → Int32} {X : Int32 × Int32 × Nat} (hl : LT c T) (ht : ∀ j, j < c → σ0 2 0 j = T j) (h : KC σ0 σ q c X) :
    ∃ τ, (∀ fs Q, Rn mX6_readEnd 0 [.ref (ad 1 0)] [] fs (enc σ) Q ↔ Rt fs (enc τ) none Q) ∧ KC σ0 τ q c (cEnd c T X) ∧ ∀ k i, ¬ k = 1 → τ k i = σ k i := by
  have hp := h.2.2.2.2.2.2
  have N := fun fs Q => sp_cisNext (fs := fs) (Q := Q) (w := 59) hl ht h
  unfold cEnd
  by_cases z : lk c T (sk c T X.2.2) = 59
  · rw [if_pos z]
    have hlt := lk_in z (by decide)
    refine ⟨upS σ 1 0 4 (nI (sk c T X.2.2 + 1)), fun fs Q => ?_, KC_at h (by omega), fun k i hk => upS_ne (by omega)⟩
    simp only [aX6_readEnd_0, aX6_readEnd_1, Nat.zero_le, Nat.reduceLeDiff, Nat.reduceAdd, i1_0, rr_c3, zc9, oc9, zc10, oc10, zc11, oc11, zc12, oc12, zc13, oc13, zc15, oc15, Int32.lt_irrefl, Nat.zero_lt_one, Rt_cons, Rt_void, isB_0, isB_1, isB_b, true_and, and_true, cats_nil, cats_int, cats_ref, and_self, if_true, if_false, ite_self, le_nlt, ite_not]
    rw [aX6_readEnd_3, N, if_pos z]
    simp only [aX6_readEnd_6, aX6_readEnd_9, aX6_readEnd_10, aX6_readEnd_11, aX6_readEnd_12, aX6_readEnd_15, aX6_readEnd_18, Nat.zero_le, Nat.reduceLeDiff, Nat.reduceAdd, i1_0, rr_c3, zc9, oc9, zc10, oc10, zc11, oc11, zc12, oc12, zc13, oc13, zc15, oc15, Int32.lt_irrefl, Nat.zero_lt_one, Rt_cons, Rt_void, isB_0, isB_1, isB_b, true_and, and_true, cats_nil, cats_int, cats_ref, and_self, if_true, if_false, ite_self, le_nlt, ite_not, bI_t z]
  · rw [if_neg z]
    have h1 := KC_at h (sk_le (T := T) hp)
    refine ⟨_, fun fs Q => ?_, KC_fail (n := 1) (x := nI (sk c T X.2.2)) h1, fun k i hk => by rw [fail_ne hk, upS_ne (by omega)]⟩
    simp only [aX6_readEnd_0, aX6_readEnd_1, Nat.zero_le, Nat.reduceLeDiff, Nat.reduceAdd, i1_0, rr_c3, zc9, oc9, zc10, oc10, zc11, oc11, zc12, oc12, zc13, oc13, zc15, oc15, Int32.lt_irrefl, Nat.zero_lt_one, Rt_cons, Rt_void, isB_0, isB_1, isB_b, true_and, and_true, cats_nil, cats_int, cats_ref, and_self, if_true, if_false, ite_self, le_nlt, ite_not]
    rw [aX6_readEnd_3, N, if_neg z]
    simp only [aX6_readEnd_6, aX6_readEnd_9, aX6_readEnd_10, aX6_readEnd_11, aX6_readEnd_12, aX6_readEnd_15, aX6_readEnd_18, sp_fail, Nat.zero_le, Nat.reduceLeDiff, Nat.reduceAdd, i1_0, rr_c3, zc9, oc9, zc10, oc10, zc11, oc11, zc12, oc12, zc13, oc13, zc15, oc15, Int32.lt_irrefl, Nat.zero_lt_one, Rt_cons, Rt_void, isB_0, isB_1, isB_b, true_and, and_true, cats_nil, cats_int, cats_ref, and_self, if_true, if_false, ite_self, le_nlt, ite_not, bI_f z, not_true_eq_false, upS_eq, upd_eq]
end S82
