-- days and what can be undone
abbrev DS : Type := Nat × Nat × (Nat → Nat → Int32) × (Nat → Int32) × Int32
def noteC (c : Nat) : Nat := if c = 30 then 30 else c + 1
def noteP (P : Nat → Nat → Int32) (c : Nat) (w : Nat → Int32) : Nat → Nat → Int32 := fun j => if j + 1 = noteC c then w else P (if c = 30 then j + 1 else j)
def dst (F : (Nat → Int32) × Int32 → (Nat → Int32) × Int32) (D : DS) : DS := (noteC D.1, (D.2.1 + 1) % 30, noteP D.2.2.1 D.1 D.2.2.2.1, F D.2.2.2)
def itD (F : (Nat → Int32) × Int32 → (Nat → Int32) × Int32) : Nat → DS → DS
  | 0, D => D
  | m + 1, D => itD F m (dst F D)
def CI (σ0 σ : Mem) (q : Nat) (D : DS) : Prop := (D.1 ≤ 30 ∧ D.2.1 < 30 ∧ σ 16 0 2 = nI D.1 ∧ σ 16 0 1 = nI D.2.1 ∧ ∀ j, j < D.1 → CS σ (2 + (D.2.1 + 30 - D.1 + j) % 30) (D.2.2.1 j) ∧ rr (σ 9 (2 + (D.2.1 + 30 - D.1 + j) % 30) 0) = q) ∧
  CS σ 0 D.2.2.2.1 ∧ rr (σ 9 0 0) = q ∧ σ 0 0 8 = D.2.2.2.2 ∧ σ 0 0 1 = σ0 0 0 1 ∧ ∀ k i, ¬ (9 ≤ k ∧ k ≤ 15 ∧ i < 32) → ¬ k = 16 → ¬ k = 0 → σ k i = σ0 k i
def MI (σ0 σ : Mem) (D : DS) : Prop := (σ 29 0 18 = nI D.1 ∧ ∀ j, j < D.1 → ∀ t, t < 99 → σ 45 0 (99 * j + t) = D.2.2.1 j t) ∧ σ 43 0 = D.2.2.2.1 ∧ σ 29 0 22 = D.2.2.2.2 ∧ (∀ t, ¬ t = 18 → ¬ t = 22 → σ 29 0 t = σ0 29 0 t) ∧ ∀ k i, ¬ k = 43 → ¬ k = 45 → ¬ k = 29 → σ k i = σ0 k i
theorem CI_rem {σ0 σ : Mem} {q c x : Nat} {P : Nat → Nat → Int32} {w : Nat → Int32} {s : Int32} (h : CI σ0 σ q (c, x, P, w, s)) : CI σ0 (remF σ c x) q (noteC c, (x + 1) % 30, noteP P c w, w, s) := by
  obtain ⟨⟨h1, h2, h3, h4, h5⟩, h6, h7, h8, h9, h10⟩ := h
  simp only at h1 h2 h3 h4 h5 h6 h8
  refine ⟨⟨?_, ?_, ?_, ?_, fun j hj => ?_⟩, CS_rem h6, ?_, ?_, ?_, fun k i a b d => ?_⟩
  · show noteC c ≤ 30
    unfold noteC; split <;> omega
  · show (x + 1) % 30 < 30
    omega
  · unfold remF; rw [upS_eq, upd_eq]; rfl
  · unfold remF; rw [upS_eq, upd_ne (by omega), upS_eq, upd_eq]
  · simp only at hj ⊢
    unfold noteP
    have hj' : j < (if c = 30 then 30 else c + 1) := hj
    by_cases hl : j + 1 = noteC c
    · have hl' : j + 1 = (if c = 30 then 30 else c + 1) := hl
      have hnc : noteC c ≤ 30 := by unfold noteC; split <;> omega
      have e : 2 + ((x + 1) % 30 + 30 - noteC c + j) % 30 = 2 + x := by clear hl' hj'; omega
      rw [e, if_pos hl]
      refine ⟨CS_congr (CS_copy (i := 0) (j := 2 + x) (by omega) h6) (fun k a b => ?_) (fun _ _ => rfl), ?_⟩
      · unfold remF
        rw [upS_ne (by omega), upS_ne (by omega)]
      · unfold remF
        rw [upS_ne (by omega), upS_ne (by omega), cpF_row (by omega)]
        exact h7
    · have hl' : ¬ j + 1 = (if c = 30 then 30 else c + 1) := hl
      rw [if_neg hl]
      obtain ⟨j', hj2, ej⟩ : ∃ j' : Nat, j' < c ∧ j' = (if c = 30 then j + 1 else j) := ⟨_, by split <;> split at hj' <;> split at hl' <;> omega, rfl⟩
      have e2 : ¬ 2 + (x + 30 - c + j') % 30 = 2 + x := by clear hl' hl hj' hj; split at ej <;> omega
      have e : 2 + ((x + 1) % 30 + 30 - noteC c + j) % 30 = 2 + (x + 30 - c + j') % 30 := by
        unfold noteC
        split at ej <;> split <;> omega
      rw [e, ← ej]
      obtain ⟨p1, p2⟩ := h5 j' hj2
      refine ⟨CS_congr p1 (fun k a b => remF_ne (fun z => e2 z.2.2) (by omega)) (fun _ _ => rfl), ?_⟩
      rw [remF_ne (fun z => e2 z.2.2) (by omega)]
      exact p2
  · rw [remF_ne (by omega) (by omega)]; exact h7
  · rw [remF_ne (by omega) (by omega)]; exact h8
  · rw [remF_ne (by omega) (by omega)]; exact h9
  · rw [remF_ne (by omega) b]; exact h10 k i a b d
theorem CI_Fr {σ0 σ τ : Mem} {q c x : Nat} {P : Nat → Nat → Int32} {w v : Nat → Int32} {s : Int32} (h : CI σ0 σ q (c, x, P, w, s)) (f : Fr σ τ 0) (hc : CS τ 0 v) : CI σ0 τ q (c, x, P, v, s) := by
  obtain ⟨⟨h1, h2, h3, h4, h5⟩, h6, h7, h8, h9, h10⟩ := h
  simp only at h1 h2 h3 h4 h5 h6 h8
  refine ⟨⟨h1, h2, by rw [f.1 16 0 (by omega)]; exact h3, by rw [f.1 16 0 (by omega)]; exact h4, fun j hj => ?_⟩, hc, by rw [f.2]; exact h7, by rw [f.1 0 0 (by omega)]; exact h8, by rw [f.1 0 0 (by omega)]; exact h9, fun k i a b d => by rw [f.1 k i (by omega)]; exact h10 k i a b d⟩
  obtain ⟨p1, p2⟩ := h5 j hj
  exact ⟨CS_congr p1 (fun k a b => f.1 k _ (by omega)) (fun _ _ => rfl), by rw [f.1 9 _ (by omega)]; exact p2⟩
theorem CI_seed {σ0 σ : Mem} {q c x : Nat} {P : Nat → Nat → Int32} {w : Nat → Int32} {s t : Int32} (h : CI σ0 σ q (c, x, P, w, s)) : CI σ0 (upS σ 0 0 8 t) q (c, x, P, w, t) := by
  obtain ⟨⟨h1, h2, h3, h4, h5⟩, h6, h7, h8, h9, h10⟩ := h
  simp only at h1 h2 h3 h4 h5 h6 h8
  refine ⟨⟨h1, h2, by rw [upS_ne (by omega)]; exact h3, by rw [upS_ne (by omega)]; exact h4, fun j hj => ?_⟩, CS_congr h6 (fun k a b => upS_ne (by omega)) (fun _ _ => rfl), by rw [upS_ne (by omega)]; exact h7, by rw [upS_eq, upd_eq], by rw [upS_eq, upd_ne (by omega)]; exact h9, fun k i a b d => by rw [upS_ne (by omega)]; exact h10 k i a b d⟩
  obtain ⟨p1, p2⟩ := h5 j hj
  exact ⟨CS_congr p1 (fun k a b => upS_ne (by omega)) (fun _ _ => rfl), by rw [upS_ne (by omega)]; exact p2⟩
theorem MI_not {σ0 σ : Mem} {c x : Nat} {P : Nat → Nat → Int32} {w : Nat → Int32} {s : Int32} (hc : c ≤ 30) (h : MI σ0 σ (c, x, P, w, s)) : MI σ0 (notF σ c) (noteC c, (x + 1) % 30, noteP P c w, w, s) := by
  obtain ⟨⟨h1, h2⟩, h3, h4, h5, h6⟩ := h
  simp only at h1 h2 h3 h4
  refine ⟨⟨notF_18, fun j hj t ht => ?_⟩, by rw [notF_ne (by omega) (by omega)]; exact h3, by rw [notF_29 (by omega)]; exact h4, fun t a b => by rw [notF_29 a]; exact h5 t a b, fun k i a b d => by rw [notF_ne b d]; exact h6 k i a b d⟩
  simp only at hj ⊢
  have hj' : j < (if c = 30 then 30 else c + 1) := hj
  rw [notF_45 hc ht hj]
  show (if j + 1 = noteC c then _ else _) = _
  unfold noteP
  by_cases hl : j + 1 = noteC c
  · rw [if_pos hl, if_pos hl, h3]
  · have hl' : ¬ j + 1 = (if c = 30 then 30 else c + 1) := hl
    rw [if_neg hl, if_neg hl]
    exact h2 _ (by split <;> split at hj' <;> split at hl' <;> omega) t ht
theorem MI_w {σ0 σ : Mem} {c x : Nat} {P : Nat → Nat → Int32} {w v : Nat → Int32} {s : Int32} (h : MI σ0 σ (c, x, P, w, s)) : MI σ0 (updK σ 43 0 v) (c, x, P, v, s) := by
  obtain ⟨⟨h1, h2⟩, h3, h4, h5, h6⟩ := h
  simp only at h1 h2 h3 h4
  exact ⟨⟨by rw [updK_ne (by omega)]; exact h1, fun j hj t ht => by rw [updK_ne (by omega)]; exact h2 j hj t ht⟩, updK_eq _ _ _ _, by rw [updK_ne (by omega)]; exact h4, fun t a b => by rw [updK_ne (by omega)]; exact h5 t a b, fun k i a b d => by rw [updK_ne (by omega)]; exact h6 k i a b d⟩
theorem MI_seed {σ0 σ : Mem} {c x : Nat} {P : Nat → Nat → Int32} {w : Nat → Int32} {s t : Int32} (h : MI σ0 σ (c, x, P, w, s)) : MI σ0 (upS σ 29 0 22 t) (c, x, P, w, t) := by
  obtain ⟨⟨h1, h2⟩, h3, h4, h5, h6⟩ := h
  simp only at h1 h2 h3 h4
  exact ⟨⟨by rw [upS_eq, upd_ne (by omega)]; exact h1, fun j hj t ht => by rw [upS_ne (by omega)]; exact h2 j hj t ht⟩, by rw [upS_ne (by omega)]; exact h3, by rw [upS_eq, upd_eq], fun t a b => by rw [upS_eq, upd_ne b]; exact h5 t a b, fun k i a b d => by rw [upS_ne (by omega)]; exact h6 k i a b d⟩
/-- behind both -/
theorem Rel_days {σ σ1 σ2 : Mem} {C N G : Nat} {D : DS} (r1 : TxtR σ) (r3 : NowR σ C N G) (r4 : EarR σ G N) (r5 : BookR σ N) (r7 : ImgR σ (rr (σ 9 0 0)) G N) (h1 : CI σ σ1 (rr (σ 9 0 0)) D) (h2 : MI σ1 σ2 D) (hs : ¬ D.2.2.2.2 < 0) (hw : WFw G N D.2.2.2.1) (hp : ∀ j, j < D.1 → WFw G N (D.2.2.1 j)) : Rel σ2 := by
  obtain ⟨⟨a1, a2, a3, a4, a5⟩, a6, a7, a8, a9, a10⟩ := h1
  obtain ⟨⟨b1, b2⟩, b3, b4, b5, b6⟩ := h2
  have hne : ∀ k i, (¬ (9 ≤ k ∧ k ≤ 15 ∧ i < 32) ∧ k ≠ 16 ∧ k ≠ 43 ∧ k ≠ 45 ∧ k ≠ 29 ∧ k ≠ 0) → σ2 k i = σ k i := fun k i a => by
    rw [b6 k i (by omega) (by omega) (by omega), a10 k i (by omega) (by omega) (by omega)]
  have h29 : ∀ s, s ≠ 18 → s ≠ 22 → σ2 29 0 s = σ 29 0 s := fun s a b => by rw [b5 s a b, a10 29 0 (by omega) (by omega) (by omega)]
  have ecl : ∀ k i, k < 29 → σ2 k i = σ1 k i := fun k i a => b6 k i (by omega) (by omega) (by omega)
  have erow : rr (σ2 9 0 0) = rr (σ 9 0 0) := by rw [ecl 9 0 (by omega)]; exact a7
  refine ⟨TxtR_congr r1 (hne _ _ (by omega)) (hne _ _ (by omega)) (hne _ _ (by omega)) (h29 _ (by decide) (by decide)) (h29 _ (by decide) (by decide)), ⟨by rw [ecl 0 0 (by omega), a8, b4], by rw [b4]; exact hs⟩, C, N, G, ⟨?_, ?_, ?_, by rw [b3]; exact hw⟩, ?_, ?_, ?_, ?_⟩
  · rw [erow]
    exact RowS_congr r3.1 (fun k a => hne _ _ (by omega)) (fun k a => hne _ _ (by omega))
  · rw [erow, ecl 0 0 (by omega), a9]
    exact r3.2.1
  · rw [b3]
    exact CS_congr a6 (fun k a b => ecl _ _ (by omega)) (fun _ _ => rfl)
  · exact EarR_congr r4 (by rw [hne 20 0 (by omega)]) (h29 _ (by decide) (by decide)) (hne _ _ (by omega)) (hne _ _ (by omega)) (hne _ _ (by omega)) (hne _ _ (by omega))
  · exact BookR_congr r5 (by rw [hne 26 0 (by omega)]) (h29 _ (by decide) (by decide)) (hne _ _ (by omega)) (hne _ _ (by omega)) (hne _ _ (by omega))
  · rw [erow]
    refine ⟨D.1, D.2.1, a1, a2, by rw [ecl 16 0 (by omega)]; exact a3, by rw [ecl 16 0 (by omega)]; exact a4, b1, fun j hj => ?_⟩
    obtain ⟨p1, p2⟩ := a5 j hj
    exact ⟨CS_congr p1 (fun k a b => ecl _ _ (by omega)) (fun t ht => b2 j hj t ht), by rw [ecl 9 _ (by omega)]; exact p2, WFw_congr (hp j hj) (fun t ht => b2 j hj t ht)⟩
  · rw [erow]
    exact ImgR_congr r7 (fun i => hne _ _ (by omega)) (hne _ _ (by omega)) (hne _ _ (by omega)) (hne _ _ (by omega)) (fun k i a b d f => hne _ _ (by omega))
theorem CI_of {σ : Mem} {c x : Nat} {q G N : Nat} (hc : c ≤ 30) (hx : x < 30) (p3 : σ 16 0 2 = nI c) (p4 : σ 16 0 1 = nI x) (p6 : ∀ j, j < c → CS σ (2 + (x + 30 - c + j) % 30) (fun t => σ 45 0 (99 * j + t)) ∧ rr (σ 9 (2 + (x + 30 - c + j) % 30) 0) = q ∧ WFw G N (fun t => σ 45 0 (99 * j + t))) (h : CS σ 0 (σ 43 0)) (hq : rr (σ 9 0 0) = q) (hs : σ 0 0 8 = σ 29 0 22) : CI σ σ q (c, x, (fun j t => σ 45 0 (99 * j + t)), σ 43 0, σ 29 0 22) :=
  ⟨⟨hc, hx, p3, p4, fun j hj => ⟨(p6 j hj).1, (p6 j hj).2.1⟩⟩, h, hq, hs, rfl, fun _ _ _ _ _ => rfl⟩
theorem MI_of {σ σ1 : Mem} {c x q : Nat} {D : DS} (h : CI σ σ1 q D) (p5 : σ 29 0 18 = nI c) : MI σ1 σ1 (c, x, (fun j t => σ 45 0 (99 * j + t)), σ 43 0, σ 29 0 22) := by
  have e := h.2.2.2.2.2
  refine ⟨⟨by rw [e 29 0 (by omega) (by omega) (by omega)]; exact p5, fun j hj t ht => by rw [e 45 0 (by omega) (by omega) (by omega)]⟩, by rw [e 43 0 (by omega) (by omega) (by omega)], by rw [e 29 0 (by omega) (by omega) (by omega)], fun _ _ _ => rfl, fun _ _ _ _ _ => rfl⟩
theorem WFx_mono {B B' G N : Nat} {w : Nat → Int32} (hb : B ≤ B') (h : WFx B G N w) : WFx B' G N w := by
  obtain ⟨⟨d, d1, d2⟩, h⟩ := h
  exact ⟨⟨d, by omega, d2⟩, h⟩
theorem itD_P {F : (Nat → Int32) × Int32 → (Nat → Int32) × Int32} {p : Nat → (Nat → Int32) × Int32 → Prop} {wf : (Nat → Int32) → Prop} (hF : ∀ k X, p k X → p (k + 1) (F X)) (hp : ∀ k X, k ≤ 30 → p k X → wf X.1) : ∀ m k (D : DS), k + m ≤ 30 → D.1 ≤ 30 → p k D.2.2.2 → (∀ j, j < D.1 → wf (D.2.2.1 j)) → p (k + m) (itD F m D).2.2.2 ∧ ∀ j, j < (itD F m D).1 → wf ((itD F m D).2.2.1 j) := by
  intro m
  induction m with
  | zero => intro k D _ _ h1 h2; exact ⟨h1, h2⟩
  | succ m ih =>
    intro k D hk hc h1 h2
    have e := ih (k + 1) (dst F D) (by omega) (by unfold dst noteC; simp only; split <;> omega) (hF k _ h1) (fun j hj => ?_)
    · rw [show k + 1 + m = k + (m + 1) by omega] at e
      exact e
    · unfold dst at hj ⊢
      simp only at hj ⊢
      unfold noteC at hj
      unfold noteP
      split
      · exact hp k _ (by omega) h1
      · rename_i hl
        unfold noteC at hl
        exact h2 _ (by split <;> split at hj <;> split at hl <;> omega)
