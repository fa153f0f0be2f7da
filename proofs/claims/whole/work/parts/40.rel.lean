-- THE RELATION between the object and the reference
theorem updK_eq (σ : Mem) (k i : Nat) (f : Nat → Int32) : updK σ k i f k i = f := by simp [updK]
theorem updK_ne {σ : Mem} {k i k' i' : Nat} {f : Nat → Int32} (h : ¬ (k' = k ∧ i' = i)) : updK σ k i f k' i' = σ k' i' := by simp [updK, h]
theorem upS_eq (σ : Mem) (k i j : Nat) (x : Int32) : upS σ k i j x k i = upd (σ k i) j x := by simp [upS, updK]
theorem upS_ne {σ : Mem} {k i j k' i' : Nat} {x : Int32} (h : ¬ (k' = k ∧ i' = i)) : upS σ k i j x k' i' = σ k' i' := by simp [upS, updK, h]
theorem upd_eq (f : Nat → Int32) (k : Nat) (x : Int32) : upd f k x k = x := by simp [upd]
theorem upd_ne {f : Nat → Int32} {k j : Nat} {x : Int32} (h : ¬ j = k) : upd f k x j = f j := by simp [upd, h]
/-- 0 held, 1 free, 2 empty -/
def std (e g : Int32) : Int32 := if e = 0 then (if g = -1 then 1 else 0) else 2
/-- State i is the reference's row of numbers w -/
def CS (σ : Mem) (i : Nat) (w : Nat → Int32) : Prop :=
  σ 9 i 1 = w 0 ∧ σ 9 i 2 = w 1 ∧ σ 9 i 3 = w 2 ∧ σ 9 i 4 = w 3 ∧
  (∃ c d : Nat, c < 20 ∧ d ≤ 20 ∧ σ 9 i 5 = nI c ∧ w 3 = nI d ∧ ∀ j, j < d → ∀ t, t < 3 → σ 15 i (3 * ((c + 39 - j) % 20) + t) = w (4 + 3 * j + t)) ∧
  ∀ h, h < 7 → σ 10 i h = w (64 + 5 * h) ∧ σ 11 i h = w (64 + 5 * h + 2) ∧ σ 12 i h = w (64 + 5 * h + 3) ∧ σ 13 i h = w (64 + 5 * h + 4) ∧ (σ 14 i h = 0 ∨ σ 14 i h = 1) ∧ w (64 + 5 * h + 1) = std (σ 14 i h) (σ 11 i h)
theorem CS_congr {σ τ : Mem} {i : Nat} {w v : Nat → Int32} (h : CS σ i w) (hk : ∀ k, 9 ≤ k → k ≤ 15 → τ k i = σ k i) (hw : ∀ j, j < 99 → v j = w j) : CS τ i v := by
  obtain ⟨h1, h2, h3, h4, ⟨c, d, hc, hd, h5, h6, h7⟩, h8⟩ := h
  have k9 := hk 9 (by omega) (by omega)
  have k10 := hk 10 (by omega) (by omega)
  have k11 := hk 11 (by omega) (by omega)
  have k12 := hk 12 (by omega) (by omega)
  have k13 := hk 13 (by omega) (by omega)
  have k14 := hk 14 (by omega) (by omega)
  have k15 := hk 15 (by omega) (by omega)
  unfold CS
  rw [k9, k10, k11, k12, k13, k14, k15]
  refine ⟨by rw [hw 0 (by omega)]; exact h1, by rw [hw 1 (by omega)]; exact h2, by rw [hw 2 (by omega)]; exact h3, by rw [hw 3 (by omega)]; exact h4, ⟨c, d, hc, hd, h5, by rw [hw 3 (by omega)]; exact h6, fun j hj t ht => by rw [hw _ (by omega)]; exact h7 j hj t ht⟩, fun h hh => ?_⟩
  rw [hw _ (by omega), hw _ (by omega), hw _ (by omega), hw _ (by omega), hw _ (by omega)]
  exact h8 h hh
/-- what the reference's row of numbers w always is; G: gulls, N: houses -/
def eN (w : Nat → Int32) (h : Nat) : Nat := if w (64 + 5 * h + 1) = 2 then 1 else 0
def cE7 (w : Nat → Int32) : Nat := eN w 0 + eN w 1 + eN w 2 + eN w 3 + eN w 4 + eN w 5 + eN w 6
def WFx (B G N : Nat) (w : Nat → Int32) : Prop :=
  (∃ d : Nat, d ≤ B ∧ w 0 = nI d) ∧ (∃ d : Nat, d ≤ 9999 ∧ w 1 = nI d) ∧ w 2 = nI (cE7 w) ∧
  (∀ h, h < 7 → (∃ d : Nat, d ≤ 9999 ∧ w (64 + 5 * h) = nI d) ∧ (w (64 + 5 * h + 1) = 0 ∨ w (64 + 5 * h + 1) = 1 ∨ w (64 + 5 * h + 1) = 2) ∧
    (w (64 + 5 * h + 2) = -1 ∨ ∃ g : Nat, g < G ∧ w (64 + 5 * h + 2) = nI g) ∧ (∃ d : Nat, d ≤ 7 ∧ w (64 + 5 * h + 3) = nI d) ∧ (∃ d : Nat, d ≤ 100 ∧ w (64 + 5 * h + 4) = nI d ∧ (d ≤ 9 ∨ w (64 + 5 * h + 1) = 2)) ∧
    (N ≤ h → w (64 + 5 * h + 2) = -1 ∧ ¬ w (64 + 5 * h + 1) = 2) ∧ (w (64 + 5 * h + 2) = -1 ∨ w (64 + 5 * h + 1) = 2 ∨ ∃ d : Nat, d ≤ 6 ∧ w (64 + 5 * h + 3) = nI d)) ∧
  (∀ h k, h < 7 → k < 7 → h ≠ k → ¬ w (64 + 5 * h + 2) = -1 → ¬ w (64 + 5 * h + 2) = w (64 + 5 * k + 2))
/-- of what lasts -/
abbrev WFw (G N : Nat) (w : Nat → Int32) : Prop := WFx 10000 G N w
theorem cE7_congr {w v : Nat → Int32} (hw : ∀ j, j < 99 → v j = w j) : cE7 v = cE7 w := by
  unfold cE7 eN
  simp only [hw _ (show 64 + 5 * 0 + 1 < 99 by omega), hw _ (show 64 + 5 * 1 + 1 < 99 by omega), hw _ (show 64 + 5 * 2 + 1 < 99 by omega), hw _ (show 64 + 5 * 3 + 1 < 99 by omega), hw _ (show 64 + 5 * 4 + 1 < 99 by omega), hw _ (show 64 + 5 * 5 + 1 < 99 by omega), hw _ (show 64 + 5 * 6 + 1 < 99 by omega)]
theorem cE7_le (w : Nat → Int32) : cE7 w ≤ 7 := by
  unfold cE7 eN
  repeat' split
  all_goals omega
theorem WFw_congr {B G N : Nat} {w v : Nat → Int32} (h : WFx B G N w) (hw : ∀ j, j < 99 → v j = w j) : WFx B G N v := by
  obtain ⟨h1, h2, h3, h4, h5⟩ := h
  unfold WFx
  refine ⟨by rw [hw 0 (by omega)]; exact h1, by rw [hw 1 (by omega)]; exact h2, by rw [hw 2 (by omega), cE7_congr hw]; exact h3, fun h hh => ?_, fun h k hh hk hne => ?_⟩
  · rw [hw _ (by omega), hw (64 + 5 * h + 1) (by omega), hw (64 + 5 * h + 2) (by omega), hw (64 + 5 * h + 3) (by omega), hw (64 + 5 * h + 4) (by omega)]
    exact h4 h hh
  · rw [hw _ (by omega), hw (64 + 5 * k + 2) (by omega)]
    exact h5 h k hh hk hne
/-- Row q is the reference's -/
def RowS (σ : Mem) (q C N G : Nat) : Prop := C ≤ 12 ∧ N ≤ 7 ∧ G ≤ N ∧ (C = 0 → N = 0) ∧ (σ 31 0 0 = nI C ∧ σ 31 0 1 = nI N ∧ σ 31 0 2 = nI G) ∧ (σ 3 q 0 = nI C ∧ σ 3 q 1 = nI N ∧ σ 3 q 2 = nI G) ∧
  (∀ j, j < C → σ 4 q j = σ 32 0 j ∧ ∃ d : Nat, d ≤ 99 ∧ σ 32 0 j = nI d) ∧
  (∀ h, h < N → σ 5 q h = σ 33 0 h ∧ ∃ d : Nat, 1 ≤ d ∧ d ≤ 9 ∧ σ 33 0 h = nI d) ∧
  (∀ g, g < G → σ 7 q g = σ 35 0 g ∧ σ 8 q g = σ 36 0 g ∧ (∃ d : Nat, d ≤ 3 ∧ σ 35 0 g = nI d) ∧ ∃ d : Nat, 1 ≤ d ∧ d ≤ 99 ∧ σ 36 0 g = nI d)
/-- what is heard -/
def EarR (σ : Mem) (G N : Nat) : Prop := ∃ c : Nat, c ≤ 6 ∧ σ 20 0 3 = nI c ∧ σ 29 0 24 = nI c ∧ ∀ j, j < c → ∃ g h : Nat, g < G ∧ h < N ∧ σ 21 0 j = nI g ∧ σ 22 0 j = nI h ∧ σ 49 0 (3 * j) = nI g ∧ σ 49 0 (3 * j + 1) = nI h ∧ σ 49 0 (3 * j + 2) = σ 23 0 j ∧ (σ 23 0 j = 0 ∨ σ 23 0 j = 1)
/-- the book -/
def BookR (σ : Mem) (N : Nat) : Prop := ∃ c : Nat, c ≤ 20 ∧ σ 26 0 2 = nI c ∧ σ 29 0 26 = nI c ∧ ∀ j, j < c → ∃ h : Nat, h < N ∧ σ 27 0 j = nI h ∧ σ 50 0 (2 * j) = nI h ∧ σ 50 0 (2 * j + 1) = σ 28 0 j
/-- what can be undone -/
def PastR (σ : Mem) (q G N : Nat) : Prop := ∃ c x : Nat, c ≤ 30 ∧ x < 30 ∧ σ 16 0 2 = nI c ∧ σ 16 0 1 = nI x ∧ σ 29 0 18 = nI c ∧ ∀ j, j < c → CS σ (2 + (x + 30 - c + j) % 30) (fun t => σ 45 0 (99 * j + t)) ∧ rr (σ 9 (2 + (x + 30 - c + j) % 30) 0) = q ∧ WFw G N (fun t => σ 45 0 (99 * j + t))
/-- images -/
def ImgR (σ : Mem) (q G N : Nat) : Prop := ∀ i, i < 2 → σ 19 i 2 = σ 48 0 i ∧ (σ 48 0 i = 0 ∨ (σ 48 0 i = 1 ∧ σ 19 i 1 = σ 47 0 i ∧ ¬ σ 47 0 i < 0 ∧ CS σ (32 + i) (fun t => σ 46 0 (99 * i + t)) ∧ rr (σ 9 (32 + i) 0) = q ∧ WFw G N (fun t => σ 46 0 (99 * i + t))))
/-- the text, its fault -/
def TxtR (σ : Mem) : Prop := (∃ c : Nat, c ≤ 240 ∧ σ 1 0 1 = nI c ∧ σ 29 0 1 = nI c ∧ ∀ j, j < c → σ 2 0 j = σ 30 0 j ∧ ∃ d : Nat, d ≤ 255 ∧ σ 30 0 j = nI d) ∧ σ 1 0 2 = σ 29 0 2
def SeedR (σ : Mem) : Prop := σ 0 0 8 = σ 29 0 22 ∧ ¬ σ 29 0 22 < 0
/-- the row, now; rows: numbers of catches, houses, gulls -/
def NowR (σ : Mem) (C N G : Nat) : Prop := RowS σ (rr (σ 9 0 0)) C N G ∧ ¬ rr (σ 0 0 1) = rr (σ 9 0 0) ∧ CS σ 0 (σ 43 0) ∧ WFw G N (σ 43 0)
def Rel (σ : Mem) : Prop := TxtR σ ∧ SeedR σ ∧ ∃ C N G : Nat, NowR σ C N G ∧ EarR σ G N ∧ BookR σ N ∧ PastR σ (rr (σ 9 0 0)) G N ∧ ImgR σ (rr (σ 9 0 0)) G N
theorem TxtR_congr {σ τ : Mem} (h : TxtR σ) (h1 : τ 1 0 = σ 1 0) (h2 : τ 2 0 = σ 2 0) (h3 : τ 30 0 = σ 30 0) (h4 : τ 29 0 1 = σ 29 0 1) (h5 : τ 29 0 2 = σ 29 0 2) : TxtR τ := by
  unfold TxtR; rw [h1, h2, h3, h4, h5]; exact h
theorem SeedR_congr {σ τ : Mem} (h : SeedR σ) (h1 : τ 0 0 8 = σ 0 0 8) (h2 : τ 29 0 22 = σ 29 0 22) : SeedR τ := by
  unfold SeedR; rw [h1, h2]; exact h
theorem EarR_congr {σ τ : Mem} {G N : Nat} (h : EarR σ G N) (h1 : τ 20 0 3 = σ 20 0 3) (h2 : τ 29 0 24 = σ 29 0 24) (h3 : τ 21 0 = σ 21 0) (h4 : τ 22 0 = σ 22 0) (h5 : τ 23 0 = σ 23 0) (h6 : τ 49 0 = σ 49 0) : EarR τ G N := by
  unfold EarR; rw [h1, h2, h3, h4, h5, h6]; exact h
theorem BookR_congr {σ τ : Mem} {N : Nat} (h : BookR σ N) (h1 : τ 26 0 2 = σ 26 0 2) (h2 : τ 29 0 26 = σ 29 0 26) (h3 : τ 27 0 = σ 27 0) (h4 : τ 28 0 = σ 28 0) (h5 : τ 50 0 = σ 50 0) : BookR τ N := by
  unfold BookR; rw [h1, h2, h3, h4, h5]; exact h
theorem RowS_congr {σ τ : Mem} {q C N G : Nat} (h : RowS σ q C N G) (hk : ∀ k, (3 ≤ k ∧ k ≤ 8) → τ k q = σ k q) (hm : ∀ k, 31 ≤ k ∧ k ≤ 36 → τ k 0 = σ k 0) : RowS τ q C N G := by
  unfold RowS
  rw [hk 3 (by omega), hk 4 (by omega), hk 5 (by omega), hk 7 (by omega), hk 8 (by omega), hm 31 (by omega), hm 32 (by omega), hm 33 (by omega), hm 35 (by omega), hm 36 (by omega)]
  exact h
theorem PastR_congr {σ τ : Mem} {q G N : Nat} (h : PastR σ q G N) (h1 : τ 16 0 = σ 16 0) (h2 : τ 29 0 18 = σ 29 0 18) (h3 : τ 45 0 = σ 45 0) (hk : ∀ k i, 9 ≤ k → k ≤ 15 → 2 ≤ i → i < 32 → τ k i = σ k i) : PastR τ q G N := by
  obtain ⟨c, x, f1, f2, f3, f4, f5, f6⟩ := h
  refine ⟨c, x, f1, f2, by rw [h1]; exact f3, by rw [h1]; exact f4, by rw [h2]; exact f5, fun j hj => ?_⟩
  obtain ⟨q1, q2, q3⟩ := f6 j hj
  rw [h3, hk 9 _ (by omega) (by omega) (by omega) (by omega)]
  exact ⟨CS_congr q1 (fun k a b => hk k _ a b (by omega) (by omega)) (fun _ _ => rfl), q2, q3⟩
theorem ImgR_congr {σ τ : Mem} {q G N : Nat} (h : ImgR σ q G N) (h1 : ∀ i, τ 19 i = σ 19 i) (h2 : τ 46 0 = σ 46 0) (h3 : τ 47 0 = σ 47 0) (h4 : τ 48 0 = σ 48 0) (hk : ∀ k i, 9 ≤ k → k ≤ 15 → 32 ≤ i → i < 34 → τ k i = σ k i) : ImgR τ q G N := by
  intro i hi
  rw [h1, h2, h3, h4, hk 9 _ (by omega) (by omega) (by omega) (by omega)]
  obtain ⟨q1, q2⟩ := h i hi
  exact ⟨q1, q2.imp id (fun ⟨r1, r2, r3, r4, r5, r6⟩ => ⟨r1, r2, r3, CS_congr r4 (fun k a b => hk k _ a b (by omega) (by omega)) (fun _ _ => rfl), r5, r6⟩)⟩
theorem NowR_congr {σ τ : Mem} {C N G : Nat} (h : NowR σ C N G) (h0 : τ 0 0 1 = σ 0 0 1) (hr : ∀ k q, (3 ≤ k ∧ k ≤ 8) → τ k q = σ k q) (hk : ∀ k, 9 ≤ k → k ≤ 15 → τ k 0 = σ k 0) (hm : ∀ k, 31 ≤ k ∧ k ≤ 36 → τ k 0 = σ k 0) (h43 : τ 43 0 = σ 43 0) : NowR τ C N G := by
  unfold NowR
  rw [h0, hk 9 (by omega) (by omega), h43]
  exact ⟨RowS_congr h.1 (fun k a => hr k _ a) hm, h.2.1, CS_congr h.2.2.1 hk (fun _ _ => rfl), h.2.2.2⟩
theorem rr_lt (x : Int32) : rr x < 2 := by unfold rr; split <;> omega
theorem Rn_ev {y : Nat} {L : List Value} {M M' : List va_E} {v : Option Value} (h : Rn y 0 L [] [] M (fun X r => X = M' ∧ r = v)) : ∃ n, ev n y 0 L [] M = some (M', v) := by
  obtain ⟨n, X, r, h1, h2, h3⟩ := h
  subst h2; subst h3
  exact ⟨n, h1⟩
/-- one call, out of a run of each -/
theorem Sim_of {R : Mem → Prop} {mc mm : Nat} {vs Lc Lm : List Value} (hLc : entL (.ref (ad 0 0) :: vs) (mL mc) = Lc) (hLm : entL (.ref (ad 29 0) :: vs) (mL mm) = Lm)
    (h : ∀ σ, R σ → ∃ (σ1 σ2 : Mem) (r : Int32), Rn mc 0 Lc [] [] (enc σ) (fun X v => X = enc σ1 ∧ v = some (.int r)) ∧ Rn mm 0 Lm [] [] (enc σ1) (fun X v => X = enc σ2 ∧ v = some (.int r)) ∧ R σ2) : Sim R mc mm vs := by
  intro σ hR
  obtain ⟨σ1, σ2, r, h1, h2, h3⟩ := h σ hR
  obtain ⟨n1, e1⟩ := Rn_ev h1
  obtain ⟨n2, e2⟩ := Rn_ev h2
  exact ⟨n1, n2, σ1, σ2, r, by rw [hLc]; exact e1, by rw [hLm]; exact e2, h3⟩
