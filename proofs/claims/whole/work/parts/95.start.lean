-- both constructors, run
def vO (fs : List Value) (j : Nat) : Int32 := match fs[j]? with
  | some (.int x) => x
  | some (.ref a) => if a = ad 3 0 then 0 else 1
  | _ => 0
/-- no house is empty yet -/
def vOf (M : List va_E) (k i j : Nat) : Int32 := if k = 14 then 0 else match M[ad k i]? with
  | some (.inl (_, _, .inl f)) => f j
  | some (.inr (_, fs)) => vO fs j
  | _ => 0
def objF (k i : Nat) (f : F1) : Option (Nat × List Value) := match cellF k i f with
  | .inr p => some p
  | _ => none
def vwO (k : Nat) (f : F1) : F1 := if k = 9 then (fun j => if j = 6 then 0 else f j) else f
def okCell (M : List va_E) (q : Nat × Nat) : Bool := match M[ad q.1 q.2]? with
  | some (.inl (t, n, .inl _)) => decide (aT q.1 < 3 ∧ t = aT q.1 ∧ n = aN q.1)
  | some (.inl (t, n, .inr (.inr (.inr (.inr f))))) => (decide (q.1 = 17 ∧ t = 3 ∧ n = 30) && (List.range 30).all (fun j => decide (f j = some (ad 9 (2 + j))))) || (decide (q.1 = 18 ∧ t = 4 ∧ n = 2) && (List.range 2).all (fun j => decide (f j = some (ad 19 j))))
  | some (.inr p) => decide (objF q.1 q.2 (vwO q.1 (vO p.2)) = some p)
  | _ => false
/-- what the start wants of the cells -/
def wants : List (Nat × Nat × Nat × Int32) := [(1, 0, 1, 0), (29, 0, 1, 0), (1, 0, 2, -1), (29, 0, 2, -1), (0, 0, 8, 0), (29, 0, 22, 0), (31, 0, 0, 0), (31, 0, 1, 0), (31, 0, 2, 0), (9, 0, 0, 0), (3, 0, 0, 0), (3, 0, 1, 0), (3, 0, 2, 0), (0, 0, 1, 1), (9, 0, 1, 0), (9, 0, 2, 0), (9, 0, 3, 0), (9, 0, 4, 0), (9, 0, 5, 0), (43, 0, 0, 0), (43, 0, 1, 0), (43, 0, 2, 0), (43, 0, 3, 0), (20, 0, 3, 0), (29, 0, 24, 0), (26, 0, 2, 0), (29, 0, 26, 0), (16, 0, 2, 0), (16, 0, 1, 0), (29, 0, 18, 0), (19, 0, 2, 0), (19, 1, 2, 0), (48, 0, 0, 0), (48, 0, 1, 0)]
def chkM (M : List va_E) : Bool := decide (M.length = 256 ∧ szM M ≤ 100000) && (tbK.all (okCell M) && (wants.all (fun q => decide (vOf M q.1 q.2.1 q.2.2.1 = q.2.2.2)) && (List.range 7).all (fun h => decide (vOf M 10 0 h = 0 ∧ vOf M 11 0 h = -1 ∧ vOf M 12 0 h = 0 ∧ vOf M 13 0 h = 0 ∧ vOf M 14 0 h = 0))))
def startB : Bool := match em 700 mX7_init 0 (entL [.ref 0] (mL mX7_init)) [] [.inr (7, dfl 7)] with
  | some (M1, none) => decide (M1.length = 233 ∧ szM M1 ≤ 100000) && (match em 300 mX8_init 0 (entL [.ref 233] (mL mX8_init)) [] (M1 ++ [.inr (8, dfl 8)]) with
    | some (M2, none) => chkM M2
    | _ => false)
  | _ => false
set_option maxRecDepth 1000000 in
theorem start_ok : startB = true := by decide +kernel
theorem start_ev : ∃ (M1 M2 : List va_E) (k1 k2 : Nat), ev k1 mX7_init 0 (entL [.ref 0] (mL mX7_init)) [] [.inr (7, dfl 7)] = some (M1, none) ∧ (M1.length = 233 ∧ szM M1 ≤ 100000) ∧ ev k2 mX8_init 0 (entL [.ref 233] (mL mX8_init)) [] (M1 ++ [.inr (8, dfl 8)]) = some (M2, none) ∧ chkM M2 = true := by
  have h := start_ok
  unfold startB at h
  split at h
  · rename_i M1 h1
    rw [Bool.and_eq_true, decide_eq_true_eq] at h
    obtain ⟨hl, h⟩ := h
    split at h
    · rename_i M2 h2
      obtain ⟨k1, e1⟩ := em_ev _ _ _ _ _ _ _ h1
      obtain ⟨k2, e2⟩ := em_ev _ _ _ _ _ _ _ h2
      exact ⟨M1, M2, k1, k2, e1, hl, e2, h⟩
    · cases h
  · cases h
