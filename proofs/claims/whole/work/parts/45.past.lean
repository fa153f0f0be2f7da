-- behind remember() and notes() what can be undone is one more
theorem remF_ne {σ : Mem} {c x k n : Nat} (h : ¬ (9 ≤ k ∧ k ≤ 15 ∧ n = 2 + x)) (h16 : k ≠ 16) : remF σ c x k n = σ k n := by
  unfold remF
  rw [upS_ne (fun z => h16 z.1), upS_ne (fun z => h16 z.1), cpF_ne h]
theorem notF_ne {σ : Mem} {c k n : Nat} (h45 : k ≠ 45) (h29 : k ≠ 29) : notF σ c k n = σ k n := by
  unfold notF cpM
  split
  · rw [upS_ne (fun z => h29 z.1), updK_ne (fun z => h45 z.1), upS_ne (fun z => h29 z.1), updK_ne (fun z => h45 z.1)]
  · rw [upS_ne (fun z => h29 z.1), updK_ne (fun z => h45 z.1)]
theorem notF_29 {σ : Mem} {c s : Nat} (hs : ¬ s = 18) : notF σ c 29 0 s = σ 29 0 s := by
  unfold notF cpM
  split
  · rw [upS_eq, upd_ne hs, updK_ne (by decide), upS_eq, upd_ne hs, updK_ne (by decide)]
  · rw [upS_eq, upd_ne hs, updK_ne (by decide)]
theorem notF_18 {σ : Mem} {c : Nat} : notF σ c 29 0 18 = nI (if c = 30 then 30 else c + 1) := by
  unfold notF
  split
  · rw [upS_eq, upd_eq]
  · rw [upS_eq, upd_eq]
/-- the past behind notes(): what was there (one less, if there were 30), then now -/
theorem notF_45 {σ : Mem} {c j t : Nat} (hc : c ≤ 30) (ht : t < 99) (hj : j < (if c = 30 then 30 else c + 1)) : notF σ c 45 0 (99 * j + t) = if j + 1 = (if c = 30 then 30 else c + 1) then σ 43 0 t else σ 45 0 (99 * (if c = 30 then j + 1 else j) + t) := by
  unfold notF cpM
  by_cases h30 : c = 30
  · simp only [h30, if_true] at hj ⊢
    rw [upS_ne (by decide), updK_eq]
    by_cases hl : j + 1 = 30
    · rw [if_pos hl, pk_cpy_in (by omega) (by omega), upS_ne (by decide), updK_ne (by decide), show 0 + (99 * j + t - 99 * 29) = t by omega]
    · rw [if_neg hl, pk_cpy_out (by omega), upS_ne (by decide), updK_eq]
      unfold shf
      rw [if_pos (by omega), show 99 * j + t + 99 = 99 * (j + 1) + t by omega]
  · simp only [h30, if_false] at hj ⊢
    rw [upS_ne (by decide), updK_eq]
    by_cases hl : j + 1 = c + 1
    · rw [if_pos hl, pk_cpy_in (by omega) (by omega), show 0 + (99 * j + t - 99 * c) = t by omega]
    · rw [if_neg hl, pk_cpy_out (by omega)]
/-- τ: the class as behind remember(), the reference as behind notes(), whatever else is now -/
theorem PastR_note {σ τ : Mem} {q G N c x : Nat} (hc : c ≤ 30) (hx : x < 30) (hp : ∀ j, j < c → CS σ (2 + (x + 30 - c + j) % 30) (fun t => σ 45 0 (99 * j + t)) ∧ rr (σ 9 (2 + (x + 30 - c + j) % 30) 0) = q ∧ WFw G N (fun t => σ 45 0 (99 * j + t)))
    (h0 : CS σ 0 (σ 43 0)) (hq : rr (σ 9 0 0) = q) (hw : WFw G N (σ 43 0))
    (h1 : τ 16 0 1 = nI ((x + 1) % 30)) (h2 : τ 16 0 2 = nI (if c = 30 then 30 else c + 1)) (h3 : τ 29 0 18 = nI (if c = 30 then 30 else c + 1)) (h4 : τ 45 0 = notF σ c 45 0) (hk : ∀ k i, 9 ≤ k → k ≤ 15 → 2 ≤ i → i < 32 → τ k i = remF σ c x k i) : PastR τ q G N := by
  have hcc : (if c = 30 then 30 else c + 1) ≤ 30 := by split <;> omega
  refine ⟨if c = 30 then 30 else c + 1, (x + 1) % 30, hcc, by omega, h2, h1, h3, fun j hj => ?_⟩
  rw [h4, hk 9 _ (by omega) (by omega) (by omega) (by omega)]
  by_cases hl : j + 1 = (if c = 30 then 30 else c + 1)
  · have e : 2 + ((x + 1) % 30 + 30 - (if c = 30 then 30 else c + 1) + j) % 30 = 2 + x := by omega
    rw [e]
    have hw' : ∀ t, t < 99 → notF σ c 45 0 (99 * j + t) = σ 43 0 t := fun t ht => by rw [notF_45 hc ht hj, if_pos hl]
    refine ⟨CS_congr (CS_copy (i := 0) (j := 2 + x) (by omega) h0) (fun k a b => ?_) hw', ?_, ?_⟩
    · rw [hk k _ a b (by omega) (by omega)]
      unfold remF
      rw [upS_ne (by omega), upS_ne (by omega)]
    · unfold remF
      rw [upS_ne (by omega), upS_ne (by omega), cpF_row (by omega)]
      exact hq
    · exact WFw_congr hw hw'
  · obtain ⟨j', hj', ej⟩ : ∃ j' : Nat, j' < c ∧ j' = (if c = 30 then j + 1 else j) := ⟨_, by split <;> split at hj <;> split at hl <;> omega, rfl⟩
    have e : 2 + ((x + 1) % 30 + 30 - (if c = 30 then 30 else c + 1) + j) % 30 = 2 + (x + 30 - c + j') % 30 := by
      split at ej <;> split <;> omega
    have e2 : ¬ 2 + (x + 30 - c + j') % 30 = 2 + x := by omega
    rw [e]
    obtain ⟨p1, p2, p3⟩ := hp j' hj'
    have hw' : ∀ t, t < 99 → notF σ c 45 0 (99 * j + t) = σ 45 0 (99 * j' + t) := fun t ht => by rw [notF_45 hc ht hj, if_neg hl, ← ej]
    refine ⟨CS_congr p1 (fun k a b => ?_) hw', ?_, WFw_congr p3 hw'⟩
    · rw [hk k _ a b (by omega) (by omega)]
      exact remF_ne (fun z => e2 z.2.2) (by omega)
    · rw [remF_ne (fun z => e2 z.2.2) (by omega)]
      exact p2
