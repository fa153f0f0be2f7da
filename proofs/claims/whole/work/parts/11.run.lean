-- RUNS: a top frame, the frames that wait below it, the cells
abbrev Fm : Type := Nat × Nat × List Value × List Value
def Rt : List Fm → List va_E → Option Value → (List va_E → Option Value → Prop) → Prop
  | [], M, v, Q => Q M v
  | f :: fs, M, v, Q => ∃ n M' r, ev n f.1 f.2.1 f.2.2.1 (v.toList ++ f.2.2.2) M = some (M', r) ∧ Rt fs M' r Q
def Rn (mi pc : Nat) (L st : List Value) (fs : List Fm) (M : List va_E) (Q : List va_E → Option Value → Prop) : Prop := ∃ n M' r, ev n mi pc L st M = some (M', r) ∧ Rt fs M' r Q
theorem ev_mono1 : ∀ (n mi pc : Nat) (L st : List Value) (M : List va_E) (x : List va_E × Option Value), ev n mi pc L st M = some x → ev (n + 1) mi pc L st M = some x := by
  intro n
  induction n with
  | zero => intro mi pc L st M x h; cases h
  | succ n ih =>
    intro mi pc L st M x h
    unfold ev at h ⊢
    split at h
    · split at h
      · exact ih _ _ _ _ _ _ h
      · split at h
        · split at h
          · rename_i hk
            simp only [hk, if_true]
            rw [hk] at h
            exact ih _ _ _ _ _ _ h
          · cases h
        · split at h
          · split at h
            · rename_i hk
              simp only [hk, if_true]
              rw [hk] at h
              exact ih _ _ _ _ _ _ h
            · cases h
          · split at h
            · split at h
              · rename_i hk
                simp only [hk, if_true]
                split at h
                · rename_i he
                  simp only [ih _ _ _ _ _ _ he]
                  exact ih _ _ _ _ _ _ h
                · cases h
              · cases h
            · exact h
    · cases h
theorem ev_mono {n k mi pc : Nat} {L st : List Value} {M : List va_E} {x : List va_E × Option Value} (hk : n ≤ k) (h : ev n mi pc L st M = some x) : ev k mi pc L st M = some x := by
  obtain ⟨d, rfl⟩ := Nat.exists_eq_add_of_le hk
  induction d with
  | zero => exact h
  | succ d ih => exact ev_mono1 _ _ _ _ _ _ _ (ih (Nat.le_add_right _ _))
section RUN
variable {mi pc len : Nat} {L st : List Value} {fs : List Fm} {M : List va_E} {Q : List va_E → Option Value → Prop} {i : Instr}
theorem Rn_succ {x : List va_E × Option Value} {n : Nat} (h : ev n mi pc L st M = some x) : ∃ k, n = k + 1 := by
  cases n with
  | zero => cases h
  | succ k => exact ⟨k, rfl⟩
theorem R_P {pc' : Nat} {L' st' : List Value} (hd : decode (mb mi) pc = .ok (i, len)) (h : stepP mi pc L st i len = some (pc', L', st')) : Rn mi pc L st fs M Q ↔ Rn mi pc' L' st' fs M Q := by
  constructor
  · rintro ⟨n, M', r, h1, h2⟩
    obtain ⟨k, rfl⟩ := Rn_succ h1
    unfold ev at h1
    simp only [hd, h] at h1
    exact ⟨k, M', r, h1, h2⟩
  · rintro ⟨n, M', r, h1, h2⟩
    refine ⟨n + 1, M', r, ?_, h2⟩
    unfold ev
    simp only [hd, h]
    exact h1
theorem R_M {st' : List Value} {M1 : List va_E} (hd : decode (mb mi) pc = .ok (i, len)) (h0 : stepP mi pc L st i len = none) (h : stepM mi i st M = some (len, st', M1)) : Rn mi pc L st fs M Q ↔ Rn mi (pc + len) L st' fs M1 Q := by
  constructor
  · rintro ⟨n, M', r, h1, h2⟩
    obtain ⟨k, rfl⟩ := Rn_succ h1
    unfold ev at h1
    simp only [hd, h0, h, if_true] at h1
    exact ⟨k, M', r, h1, h2⟩
  · rintro ⟨n, M', r, h1, h2⟩
    refine ⟨n + 1, M', r, ?_, h2⟩
    unfold ev
    simp only [hd, h0, h, if_true]
    exact h1
theorem R_N {st' : List Value} {ce : va_E} (hd : decode (mb mi) pc = .ok (i, len)) (h0 : stepP mi pc L st i len = none) (h1 : stepM mi i st M = none) (h : stepN mi i st = some (len, st', ce)) : Rn mi pc L st fs M Q ↔ Rn mi (pc + len) L (.ref M.length :: st') fs (M ++ [ce]) Q := by
  constructor
  · rintro ⟨n, M', r, h1', h2⟩
    obtain ⟨k, rfl⟩ := Rn_succ h1'
    unfold ev at h1'
    simp only [hd, h0, h1, h, if_true] at h1'
    exact ⟨k, M', r, h1', h2⟩
  · rintro ⟨n, M', r, h1', h2⟩
    refine ⟨n + 1, M', r, ?_, h2⟩
    unfold ev
    simp only [hd, h0, h1, h, if_true]
    exact h1'
theorem R_C {y : Nat} {as r : List Value} (hd : decode (mb mi) pc = .ok (i, 3)) (h0 : stepP mi pc L st i 3 = none) (h1 : stepM mi i st M = none) (hn : stepN mi i st = none) (h : stepC mi i st M = some (y, as, r)) : Rn mi pc L st fs M Q ↔ Rn y 0 (entL as (mL y)) [] ((mi, pc + 3, L, r) :: fs) M Q := by
  constructor
  · rintro ⟨n, M', v, h1', h2⟩
    obtain ⟨k, rfl⟩ := Rn_succ h1'
    unfold ev at h1'
    simp only [hd, h0, h1, hn, h, if_true] at h1'
    split at h1'
    · rename_i M1 v1 he
      exact ⟨k, M1, v1, he, k, M', v, h1', h2⟩
    · cases h1'
  · rintro ⟨n, M1, v1, he, k, M', v, h1', h2⟩
    refine ⟨n + k + 1, M', v, ?_, h2⟩
    unfold ev
    simp only [hd, h0, h1, hn, h, if_true, ev_mono (Nat.le_add_right n k) he]
    exact ev_mono (Nat.le_add_left k n) h1'
theorem R_R {v : Option Value} (hd : decode (mb mi) pc = .ok (i, 1)) (h0 : stepP mi pc L st i 1 = none) (h1 : stepM mi i st M = none) (hn : stepN mi i st = none) (hc : stepC mi i st M = none) (h : stepR mi i st = some v) : Rn mi pc L st fs M Q ↔ Rt fs M v Q := by
  constructor
  · rintro ⟨n, M', r, h1', h2⟩
    obtain ⟨k, rfl⟩ := Rn_succ h1'
    unfold ev at h1'
    simp only [hd, h0, h1, hn, hc, h, if_true] at h1'
    cases h1'
    exact h2
  · intro h2
    refine ⟨1, M, v, ?_, h2⟩
    unfold ev
    simp only [hd, h0, h1, hn, hc, h, if_true]
/-- a step that can't be done -/
theorem R_no (hd : decode (mb mi) pc = .ok (i, len)) (h0 : stepP mi pc L st i len = none) (h1 : stepM mi i st M = none) (hn : stepN mi i st = none) (hc : stepC mi i st M = none) (h : stepR mi i st = none) : Rn mi pc L st fs M Q ↔ False := by
  constructor
  · rintro ⟨n, M', r, h1', h2⟩
    obtain ⟨k, rfl⟩ := Rn_succ h1'
    unfold ev at h1'
    simp only [hd, h0, h1, hn, hc, h] at h1'
    cases h1'
  · exact fun h => h.elim
theorem R_bra {c : Prop} [d : Decidable c] {t : Nat} {st' : List Value} (hd : decode (mb mi) pc = .ok (i, 3)) (h : stepP mi pc L st i 3 = some (if c then t else pc + 3, L, st')) : Rn mi pc L st fs M Q ↔ if c then Rn mi t L st' fs M Q else Rn mi (pc + 3) L st' fs M Q := by
  rw [R_P hd h]
  by_cases hc : c
  · rw [if_pos hc, if_pos hc]
  · rw [if_neg hc, if_neg hc]
end RUN
theorem Rt_cons {mi pc : Nat} {L st : List Value} {fs : List Fm} {M : List va_E} {v : Value} {Q : List va_E → Option Value → Prop} : Rt ((mi, pc, L, st) :: fs) M (some v) Q ↔ Rn mi pc L (v :: st) fs M Q := Iff.rfl
theorem Rt_void {mi pc : Nat} {L st : List Value} {fs : List Fm} {M : List va_E} {Q : List va_E → Option Value → Prop} : Rt ((mi, pc, L, st) :: fs) M none Q ↔ Rn mi pc L st fs M Q := Iff.rfl
theorem Rt_nil {M : List va_E} {v : Option Value} {Q : List va_E → Option Value → Prop} : Rt [] M v Q ↔ Q M v := Iff.rfl
