-- gales: pure
def swp (p : Nat) (x : Int32) : Int32 := if p = 99 then x else if x = nI (p / 10) then nI (p % 10) else if x = nI (p % 10) then nI (p / 10) else x
theorem swp_inv (p : Nat) (x : Int32) : swp p (swp p x) = x := by
  unfold swp
  by_cases h0 : p = 99
  · simp [h0]
  · rw [if_neg h0, if_neg h0]
    by_cases h1 : x = nI (p / 10)
    · rw [if_pos h1]
      by_cases h2 : nI (p % 10) = nI (p / 10)
      · rw [if_pos h2, h1, h2]
      · rw [if_neg h2, if_pos rfl, h1]
    · rw [if_neg h1]
      by_cases h2 : x = nI (p % 10)
      · rw [if_pos h2, if_pos rfl, h2]
      · rw [if_neg h2, if_neg h1, if_neg h2]
theorem swp_n1 {p : Nat} (hp : p < 100) : swp p (-1) = -1 := by
  unfold swp
  have a := nI_ne1 (a := p / 10) (by omega)
  have b := nI_ne1 (a := p % 10) (by omega)
  rw [if_neg (fun z : (-1 : Int32) = nI (p / 10) => a z.symm), if_neg (fun z : (-1 : Int32) = nI (p % 10) => b z.symm), ite_self]
theorem swp_lt {p G x : Nat} (hp : p < 100) (hG : p = 99 ∨ (p / 10 < G ∧ p % 10 < G)) (hx : x < G) : ∃ y : Nat, y < G ∧ swp p (nI x) = nI y := by
  unfold swp
  by_cases h0 : p = 99
  · exact ⟨x, hx, if_pos h0⟩
  · have hG' := hG.resolve_left h0
    rw [if_neg h0]
    by_cases h1 : nI x = nI (p / 10)
    · exact ⟨_, hG'.2, if_pos h1⟩
    · rw [if_neg h1]
      by_cases h2 : nI x = nI (p % 10)
      · exact ⟨_, hG'.1, if_pos h2⟩
      · exact ⟨x, hx, if_neg h2⟩
theorem swp_ne {p x : Nat} (hp : p < 100) (hx : x < 100) : ¬ swp p (nI x) = -1 := by
  obtain ⟨y, h1, h2⟩ := swp_lt (G := 100) hp (Or.inr ⟨by omega, by omega⟩) hx
  rw [h2]
  exact nI_ne1 (by omega)
/-- no gull holds two houses -/
abbrev Inj (w : Nat → Int32) : Prop := ∀ h k, h < 7 → k < 7 → h ≠ k → ¬ w (64 + 5 * h + 2) = -1 → ¬ w (64 + 5 * h + 2) = w (64 + 5 * k + 2)
theorem hoW_iff {N h : Nat} {w : Nat → Int32} {x : Int32} (hN : N ≤ 7) (hi : Inj w) (hx : ¬ x = -1) (hh : h < N) : hoW N w x = nI h ↔ w (64 + 5 * h + 2) = x := by
  rcases hoW_cases (N := N) (w := w) (x := x) with ⟨a, b⟩ | ⟨t, t1, t2, t3⟩
  · constructor
    · intro z; rw [a] at z; exact absurd z.symm (nI_ne1 (by omega))
    · intro z; exact absurd z (b h hh)
  · constructor
    · intro z
      rw [t3] at z
      have := (nI_eq (by omega) (by omega)).mp z
      rw [← this]; exact t2
    · intro z
      rw [t3]
      by_cases q : t = h
      · rw [q]
      · exact absurd (by rw [t2, z]) (hi t h (by omega) (by omega) q (by rw [t2]; exact hx))
theorem was_iff {N h g p : Nat} {w : Nat → Int32} (hN : N ≤ 7) (hi : Inj w) (hp : p < 100) (hg : g < 7) (hh : h < N) : hoW N w (swp p (nI g)) = nI h ↔ swp p (w (64 + 5 * h + 2)) = nI g := by
  rw [hoW_iff hN hi (swp_ne hp (by omega)) hh]
  constructor
  · intro z; rw [z, swp_inv]
  · intro z; rw [← z, swp_inv]
/-- what is heard: gull, house, was -/
def hrd (w : Nat → Int32) (gs hs bs' : Nat → Int32) (p j : Nat) : Bool := decide (swp p (w (64 + 5 * (hs j).toNatClampNeg + 2)) = gs j) == decide (bs' j = 1)
def okH (w : Nat → Int32) (gs hs bs' : Nat → Int32) (p : Nat) : Nat → Bool
  | 0 => true
  | j + 1 => okH w gs hs bs' p j && hrd w gs hs bs' p j
theorem okH_s (w gs hs bs' : Nat → Int32) (p j : Nat) : okH w gs hs bs' p (j + 1) = (okH w gs hs bs' p j && hrd w gs hs bs' p j) := rfl
theorem okH_f {w gs hs bs' : Nat → Int32} {p j : Nat} (h : okH w gs hs bs' p j = false) : ∀ {m : Nat}, okH w gs hs bs' p (j + m) = false := by
  intro m
  induction m with
  | zero => exact h
  | succ m ih => rw [← Nat.add_assoc, okH_s, ih]; rfl
def cnd (N G : Nat) (w : Nat → Int32) (p : Nat) : Bool := decide (p = 99 ∨ (p / 10 < p % 10 ∧ p % 10 < G ∧ ¬ hoW N w (nI (p / 10)) = -1 ∧ ¬ hoW N w (nI (p % 10)) = -1))
/-- the pairs below k that fit -/
def mgL (q : Nat → Bool) : Nat → List Nat
  | 0 => []
  | k + 1 => if q k = true then mgL q k ++ [k] else mgL q k
theorem mgL_s (q : Nat → Bool) (k : Nat) : mgL q (k + 1) = if q k = true then mgL q k ++ [k] else mgL q k := rfl
theorem mgL_skip {q : Nat → Bool} {k : Nat} : ∀ {m : Nat}, (∀ p, k ≤ p → p < k + m → ¬ q p = true) → mgL q (k + m) = mgL q k := by
  intro m
  induction m with
  | zero => intro _; rfl
  | succ m ih =>
    intro h
    rw [← Nat.add_assoc, mgL_s, if_neg (h _ (by omega) (by omega))]
    exact ih (fun p a b => h p a (by omega))
theorem mgL_mem {q : Nat → Bool} : ∀ {k p : Nat}, p ∈ mgL q k → q p = true ∧ p < k := by
  intro k
  induction k with
  | zero => intro p h; cases h
  | succ k ih =>
    intro p h
    rw [mgL_s] at h
    by_cases z : q k = true
    · rw [if_pos z] at h
      rcases List.mem_append.mp h with y | y
      · have := ih y; exact ⟨this.1, by omega⟩
      · have : p = k := by simpa using y
        rw [this]; exact ⟨z, by omega⟩
    · rw [if_neg z] at h
      have := ih h; exact ⟨this.1, by omega⟩
theorem mgL_le {q q' : Nat → Bool} (h : ∀ p, q p = true → q' p = true) : ∀ k, (mgL q k).length ≤ (mgL q' k).length := by
  intro k
  induction k with
  | zero => exact Nat.le_refl _
  | succ k ih =>
    rw [mgL_s, mgL_s]
    by_cases z : q k = true
    · rw [if_pos z, if_pos (h k z), List.length_append, List.length_append]
      exact Nat.add_le_add_right ih _
    · rw [if_neg z]
      split
      · rw [List.length_append]; omega
      · exact ih
def rkQ (p : Nat) : Bool := decide (p = 99 ∨ (p / 10 < p % 10 ∧ p % 10 < 7))
set_option maxRecDepth 100000 in
theorem rk_22 : ∀ p, p < 100 → rkQ p = true → (mgL rkQ p).length < 22 := by decide +kernel
theorem mg_22 {q : Nat → Bool} {N G p : Nat} {w : Nat → Int32} (hG : G ≤ 7) (hq : ∀ p, q p = true → cnd N G w p = true) (hp : p < 100) (hc : cnd N G w p = true) : (mgL q p).length < 22 := by
  have hr : ∀ p, cnd N G w p = true → rkQ p = true := fun p h => by
    unfold cnd at h
    unfold rkQ
    rw [decide_eq_true_iff] at h ⊢
    exact h.imp id (fun z => ⟨z.1, by omega⟩)
  have := mgL_le (q := q) (q' := rkQ) (fun p h => hr p (hq p h)) p
  have := rk_22 p hp (hr p hc)
  omega
/-- the numbers of a list in a row -/
def Ls (f : Nat → Int32) (c : Int32) (l : List Nat) : Prop := c = nI l.length ∧ ∀ j, j < l.length → f j = nI (l.getD j 0)
theorem Ls_push {f : Nat → Int32} {c : Int32} {l : List Nat} {p : Nat} (h : Ls f c l) : Ls (upd f l.length (nI p)) (nI (l.length + 1)) (l ++ [p]) := by
  refine ⟨by rw [List.length_append]; rfl, fun j hj => ?_⟩
  rw [List.length_append] at hj
  have hj' : j < l.length + 1 := hj
  by_cases q : j = l.length
  · subst q
    rw [upd_eq]
    simp
  · rw [upd_ne q, h.2 j (by omega)]
    congr 1
    simp [List.getD, List.getElem?_append_left (show j < l.length by omega)]
