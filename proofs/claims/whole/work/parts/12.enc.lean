-- THE MEMORY: kinds of cells, how many of each, their places (written by a program of mine)
-- 0: X7, 1, ('obj', 7)
-- 1: X6, 1, ('obj', 6)
-- 2: X6.letters, 1, ('arr', 2, 240)
-- 3: X4, 2, ('obj', 4)
-- 4: X4.catchOn, 2, ('arr', 0, 12)
-- 5: X4.dailyDue, 2, ('arr', 0, 7)
-- 6: X4.firstDebt, 2, ('arr', 0, 7)
-- 7: X4.kind, 2, ('arr', 0, 7)
-- 8: X4.patience, 2, ('arr', 0, 7)
-- 9: X5, 34, ('obj', 5)
-- 10: X5.debt, 34, ('arr', 0, 7)
-- 11: X5.gullAt, 34, ('arr', 0, 7)
-- 12: X5.goodDays, 34, ('arr', 0, 7)
-- 13: X5.weight, 34, ('arr', 0, 7)
-- 14: X5.(the empty houses, told one by one: in field 6 of the State), 0, ('arr', 0, 7)
-- 15: X5.log, 34, ('arr', 0, 60)
-- 16: X3, 1, ('obj', 3)
-- 17: X3.states, 1, ('rarr', 3, 30)
-- 18: X7.images, 1, ('rarr', 4, 2)
-- 19: X2, 2, ('obj', 2)
-- 20: X1, 1, ('obj', 1)
-- 21: X1.heardGull, 1, ('arr', 0, 6)
-- 22: X1.heardHouse, 1, ('arr', 0, 6)
-- 23: X1.wasThere, 1, ('arr', 1, 6)
-- 24: X1.gale, 1, ('arr', 0, 22)
-- 25: X1.partOfGull, 1, ('arr', 0, 8)
-- 26: X0, 1, ('obj', 0)
-- 27: X0.houseOfEntry, 1, ('arr', 0, 20)
-- 28: X0.debtOfEntry, 1, ('arr', 0, 20)
-- 29: X8, 1, ('obj', 8)
-- 30: X8.text, 1, ('arr', 0, 240)
-- 31: X8.law, 1, ('arr', 0, 3)
-- 32: X8.catches, 1, ('arr', 0, 12)
-- 33: X8.owed, 1, ('arr', 0, 7)
-- 34: X8.firsts, 1, ('arr', 0, 7)
-- 35: X8.kinds, 1, ('arr', 0, 7)
-- 36: X8.patiences, 1, ('arr', 0, 7)
-- 37: X8.draftLaw, 1, ('arr', 0, 3)
-- 38: X8.draftCatches, 1, ('arr', 0, 12)
-- 39: X8.draftOwed, 1, ('arr', 0, 7)
-- 40: X8.draftFirsts, 1, ('arr', 0, 7)
-- 41: X8.draftKinds, 1, ('arr', 0, 7)
-- 42: X8.draftPatiences, 1, ('arr', 0, 7)
-- 43: X8.now, 1, ('arr', 0, 99)
-- 44: X8.tried, 1, ('arr', 0, 99)
-- 45: X8.past, 1, ('arr', 0, 2970)
-- 46: X8.images, 1, ('arr', 0, 198)
-- 47: X8.imageSeeds, 1, ('arr', 0, 2)
-- 48: X8.kept, 1, ('arr', 1, 2)
-- 49: X8.heard, 1, ('arr', 0, 18)
-- 50: X8.book, 1, ('arr', 0, 40)
-- 51: X8.gales, 1, ('arr', 0, 22)
def cntL : List Nat := [1, 1, 1, 2, 2, 2, 2, 2, 2, 34, 34, 34, 34, 34, 0, 34, 1, 1, 1, 2, 1, 1, 1, 1, 1, 1, 1, 1, 1, 1, 1, 1, 1, 1, 1, 1, 1, 1, 1, 1, 1, 1, 1, 1, 1, 1, 1, 1, 1, 1, 1, 1]
def cnt (k : Nat) : Nat := cntL.getD k 0
/-- the place of State i -/
def stAd (i : Nat) : Nat := if i = 0 then 15 else if i = 1 then 21 else if i < 32 then 29 + 6 * (i - 2) else 211 + 7 * (i - 32)
def bsL : List Nat := [0, 13, 14, 1, 2, 3, 4, 5, 6, 15, 16, 17, 18, 19, 0, 20, 27, 28, 209, 210, 224, 225, 226, 227, 228, 229, 230, 231, 232, 233, 234, 235, 236, 237, 238, 239, 240, 241, 242, 243, 244, 245, 246, 247, 248, 249, 250, 251, 252, 253, 254, 255]
def ad (k i : Nat) : Nat := if 9 ≤ k ∧ k ≤ 15 then stAd i + (if k = 15 then 5 else k - 9) else if 3 ≤ k ∧ k ≤ 8 then bsL.getD k 0 + 6 * i else if k = 19 then bsL.getD k 0 + 7 * i else bsL.getD k 0
/-- which Row -/
def rr (x : Int32) : Nat := if x = 0 then 0 else 1
def aTL : List Nat := [9, 9, 2, 9, 0, 0, 0, 0, 0, 9, 0, 0, 0, 0, 0, 0, 9, 9, 9, 9, 9, 0, 0, 1, 0, 0, 9, 0, 0, 9, 0, 0, 0, 0, 0, 0, 0, 0, 0, 0, 0, 0, 0, 0, 0, 0, 0, 0, 1, 0, 0, 0]
def aNL : List Nat := [0, 0, 240, 0, 12, 7, 7, 7, 7, 0, 7, 7, 7, 7, 7, 60, 0, 0, 0, 0, 0, 6, 6, 6, 22, 8, 0, 20, 20, 0, 240, 3, 12, 7, 7, 7, 7, 3, 12, 7, 7, 7, 7, 99, 99, 2970, 198, 2, 2, 18, 40, 22]
def aT (k : Nat) : Nat := aTL.getD k 9
def aN (k : Nat) : Nat := aNL.getD k 0
def cellF (k i : Nat) (f : Nat → Int32) : va_E := match k with
  | 0 => .inr (7, [.ref (ad 1 0), .ref (ad 3 (rr (f 1))), .ref (ad 9 0), .ref (ad 9 1), .ref (ad 16 0), .ref (ad 18 0), .ref (ad 20 0), .ref (ad 26 0), .int (f 8)])
  | 1 => .inr (6, [.ref (ad 2 0), .int (f 1), .int (f 2), .int (f 3), .int (f 4), .ref (ad 3 (rr (f 5)))])
  | 3 => .inr (4, [.int (f 0), .int (f 1), .int (f 2), .ref (ad 4 i), .ref (ad 5 i), .ref (ad 6 i), .ref (ad 7 i), .ref (ad 8 i)])
  | 9 => .inr (5, [.ref (ad 3 (rr (f 0))), .int (f 1), .int (f 2), .int (f 3), .int (f 4), .int (f 5), .int (f 6), .ref (ad 10 i), .ref (ad 11 i), .ref (ad 12 i), .ref (ad 13 i), .ref (ad 15 i)])
  | 16 => .inr (3, [.ref (ad 17 0), .int (f 1), .int (f 2)])
  | 17 => .inl (3, 30, .inr (.inr (.inr (.inr (fun j => some (ad 9 (2 + j)))))))
  | 18 => .inl (4, 2, .inr (.inr (.inr (.inr (fun j => some (ad 19 j))))))
  | 19 => .inr (2, [.ref (ad 9 (32 + i)), .int (f 1), .int (f 2)])
  | 20 => .inr (1, [.ref (ad 21 0), .ref (ad 22 0), .ref (ad 23 0), .int (f 3), .ref (ad 24 0), .int (f 5), .ref (ad 25 0)])
  | 26 => .inr (0, [.ref (ad 27 0), .ref (ad 28 0), .int (f 2)])
  | 29 => .inr (8, [.ref (ad 30 0), .int (f 1), .int (f 2), .ref (ad 31 0), .ref (ad 32 0), .ref (ad 33 0), .ref (ad 34 0), .ref (ad 35 0), .ref (ad 36 0), .ref (ad 37 0), .ref (ad 38 0), .ref (ad 39 0), .ref (ad 40 0), .ref (ad 41 0), .ref (ad 42 0), .ref (ad 43 0), .ref (ad 44 0), .ref (ad 45 0), .int (f 18), .ref (ad 46 0), .ref (ad 47 0), .ref (ad 48 0), .int (f 22), .ref (ad 49 0), .int (f 24), .ref (ad 50 0), .int (f 26), .int (f 27), .int (f 28), .int (f 29), .int (f 30), .int (f 31), .int (f 32), .ref (ad 51 0), .int (f 34)])
  | k => .inl (aT k, aN k, .inl f)
def tbK : List (Nat × Nat) := [(0, 0), (3, 0), (4, 0), (5, 0), (6, 0), (7, 0), (8, 0), (3, 1), (4, 1), (5, 1), (6, 1), (7, 1), (8, 1), (1, 0), (2, 0), (9, 0), (10, 0), (11, 0), (12, 0), (13, 0), (15, 0), (9, 1), (10, 1), (11, 1), (12, 1), (13, 1), (15, 1), (16, 0), (17, 0), (9, 2), (10, 2), (11, 2), (12, 2), (13, 2), (15, 2), (9, 3), (10, 3), (11, 3), (12, 3), (13, 3), (15, 3), (9, 4), (10, 4), (11, 4), (12, 4), (13, 4), (15, 4), (9, 5), (10, 5), (11, 5), (12, 5), (13, 5), (15, 5), (9, 6), (10, 6), (11, 6), (12, 6), (13, 6), (15, 6), (9, 7), (10, 7), (11, 7), (12, 7), (13, 7), (15, 7), (9, 8), (10, 8), (11, 8), (12, 8), (13, 8), (15, 8), (9, 9), (10, 9), (11, 9), (12, 9), (13, 9), (15, 9), (9, 10), (10, 10), (11, 10), (12, 10), (13, 10), (15, 10), (9, 11), (10, 11), (11, 11), (12, 11), (13, 11), (15, 11), (9, 12), (10, 12), (11, 12), (12, 12), (13, 12), (15, 12), (9, 13), (10, 13), (11, 13), (12, 13), (13, 13), (15, 13), (9, 14), (10, 14), (11, 14), (12, 14), (13, 14), (15, 14), (9, 15), (10, 15), (11, 15), (12, 15), (13, 15), (15, 15), (9, 16), (10, 16), (11, 16), (12, 16), (13, 16), (15, 16), (9, 17), (10, 17), (11, 17), (12, 17), (13, 17), (15, 17), (9, 18), (10, 18), (11, 18), (12, 18), (13, 18), (15, 18), (9, 19), (10, 19), (11, 19), (12, 19), (13, 19), (15, 19), (9, 20), (10, 20), (11, 20), (12, 20), (13, 20), (15, 20), (9, 21), (10, 21), (11, 21), (12, 21), (13, 21), (15, 21), (9, 22), (10, 22), (11, 22), (12, 22), (13, 22), (15, 22), (9, 23), (10, 23), (11, 23), (12, 23), (13, 23), (15, 23), (9, 24), (10, 24), (11, 24), (12, 24), (13, 24), (15, 24), (9, 25), (10, 25), (11, 25), (12, 25), (13, 25), (15, 25), (9, 26), (10, 26), (11, 26), (12, 26), (13, 26), (15, 26), (9, 27), (10, 27), (11, 27), (12, 27), (13, 27), (15, 27), (9, 28), (10, 28), (11, 28), (12, 28), (13, 28), (15, 28), (9, 29), (10, 29), (11, 29), (12, 29), (13, 29), (15, 29), (9, 30), (10, 30), (11, 30), (12, 30), (13, 30), (15, 30), (9, 31), (10, 31), (11, 31), (12, 31), (13, 31), (15, 31), (18, 0), (19, 0), (9, 32), (10, 32), (11, 32), (12, 32), (13, 32), (15, 32), (19, 1), (9, 33), (10, 33), (11, 33), (12, 33), (13, 33), (15, 33), (20, 0), (21, 0), (22, 0), (23, 0), (24, 0), (25, 0), (26, 0), (27, 0), (28, 0), (29, 0), (30, 0), (31, 0), (32, 0), (33, 0), (34, 0), (35, 0), (36, 0), (37, 0), (38, 0), (39, 0), (40, 0), (41, 0), (42, 0), (43, 0), (44, 0), (45, 0), (46, 0), (47, 0), (48, 0), (49, 0), (50, 0), (51, 0)]
abbrev Mem : Type := Nat → Nat → Nat → Int32
/-- the empty houses as one number -/
def eb1 (f : Nat → Int32) (h : Nat) : Nat := if f h = 0 then 0 else 2 ^ h
def emN (f : Nat → Int32) : Nat := eb1 f 0 + eb1 f 1 + eb1 f 2 + eb1 f 3 + eb1 f 4 + eb1 f 5 + eb1 f 6
def emS (f : Nat → Int32) : Int32 := nI (emN f)
/-- what a cell shows: field 6 of a State is made of kind 14 -/
def vw (σ : Mem) (k i : Nat) : Nat → Int32 := if k = 9 then (fun j => if j = 6 then emS (σ 14 i) else σ 9 i j) else σ k i
def enc (σ : Mem) : List va_E := tbK.map (fun q => cellF q.1 q.2 (vw σ q.1 q.2))
def updK (σ : Mem) (k i : Nat) (f : Nat → Int32) : Mem := fun k' i' => if k' = k ∧ i' = i then f else σ k' i'
def upS (σ : Mem) (k i j : Nat) (x : Int32) : Mem := updK σ k i (upd (σ k i) j x)
set_option maxRecDepth 100000 in
theorem ad_ok : ∀ k, k < 52 → ∀ i, i < cnt k → tbK[ad k i]? = some (k, i) := by decide +kernel
set_option maxRecDepth 100000 in
theorem ad_inv : ∀ p, p < 256 → (tbK[p]?).map (fun q => ad q.1 q.2) = some p := by decide +kernel
set_option maxRecDepth 100000 in
theorem tb_len : tbK.length = 256 := by decide +kernel
set_option maxRecDepth 100000 in
theorem no14 : ∀ q ∈ tbK, ¬ q.1 = 14 := by decide +kernel
theorem cnt_lt {k i : Nat} (h : i < cnt k) : k < 52 := by
  rcases Nat.lt_or_ge k 52 with q | q
  · exact q
  · exfalso
    unfold cnt at h
    rw [List.getD_eq_getElem?_getD, List.getElem?_eq_none (by exact q)] at h
    simp at h
theorem enc_atV {k i : Nat} (h : i < cnt k) (σ : Mem) : (enc σ)[ad k i]? = some (cellF k i (vw σ k i)) := by
  unfold enc
  rw [List.getElem?_map, ad_ok k (cnt_lt h) i h]
  rfl
theorem enc_at {k i : Nat} (h : i < cnt k) (h9 : ¬ k = 9) (σ : Mem) : (enc σ)[ad k i]? = some (cellF k i (σ k i)) := by
  rw [enc_atV h]; unfold vw; rw [if_neg h9]
theorem enc_at9 {i : Nat} (h : i < cnt 9) (σ : Mem) : (enc σ)[ad 9 i]? = some (cellF 9 i (fun j => if j = 6 then emS (σ 14 i) else σ 9 i j)) := by
  rw [enc_atV h]; unfold vw; rw [if_pos rfl]
theorem enc_setV {k i : Nat} (h : i < cnt k) (σ τ : Mem) (f : Nat → Int32) (h1 : vw τ k i = f) (h2 : ∀ k' i', ¬ (k' = k ∧ i' = i) → vw τ k' i' = vw σ k' i') : (enc σ).set (ad k i) (cellF k i f) = enc τ := by
  have h0 := ad_ok k (cnt_lt h) i h
  apply List.ext_getElem?
  intro p
  unfold enc
  rw [List.getElem?_set, List.getElem?_map, List.getElem?_map, List.length_map]
  have hl : ad k i < tbK.length := (List.getElem?_eq_some_iff.mp h0).1
  by_cases hp : ad k i = p
  · subst hp
    rw [if_pos rfl, if_pos hl, h0]
    simp [h1]
  · rw [if_neg hp]
    cases hq : tbK[p]? with
    | none => rfl
    | some q =>
      have hne : ¬ (q.1 = k ∧ q.2 = i) := by
        rintro ⟨e1, e2⟩
        have hlp : p < tbK.length := (List.getElem?_eq_some_iff.mp hq).1
        have e3 : q = (k, i) := Prod.ext e1 e2
        subst e3
        have := ad_inv p (by rw [← tb_len]; exact hlp)
        rw [hq] at this
        exact hp (Option.some.inj this)
      simp [h2 _ _ hne]
theorem cnt_n14 {k i : Nat} (h : i < cnt k) : ¬ k = 14 := fun z => by subst z; exact absurd h (Nat.not_lt_zero _)
theorem enc_set {k i : Nat} (h : i < cnt k) (h9 : ¬ k = 9) (σ : Mem) (f : Nat → Int32) : (enc σ).set (ad k i) (cellF k i f) = enc (updK σ k i f) := by
  have h14 := cnt_n14 h
  refine enc_setV h σ _ f (by unfold vw updK; rw [if_neg h9, if_pos ⟨rfl, rfl⟩]) (fun k' i' hn => ?_)
  unfold vw
  by_cases z : k' = 9
  · subst z
    rw [if_pos rfl, if_pos rfl]
    unfold updK
    rw [if_neg (fun y => h14 y.1.symm), if_neg (fun y => h9 y.1.symm)]
  · rw [if_neg z, if_neg z]
    unfold updK
    rw [if_neg hn]
theorem enc_set9 {i : Nat} (h : i < cnt 9) (σ : Mem) (f : Nat → Int32) : (enc σ).set (ad 9 i) (cellF 9 i (fun j => if j = 6 then emS (σ 14 i) else f j)) = enc (updK σ 9 i f) := by
  refine enc_setV h σ _ _ (by unfold vw updK; rw [if_pos rfl, if_neg (by omega), if_pos ⟨rfl, rfl⟩]) (fun k' i' hn => ?_)
  unfold vw
  by_cases z : k' = 9
  · subst z
    rw [if_pos rfl, if_pos rfl]
    unfold updK
    rw [if_neg (by omega), if_neg hn]
  · rw [if_neg z, if_neg z]
    unfold updK
    rw [if_neg hn]
theorem enc_set14 {i : Nat} (h : i < cnt 9) (σ : Mem) (g : Nat → Int32) : (enc σ).set (ad 9 i) (cellF 9 i (fun j => if j = 6 then emS g else σ 9 i j)) = enc (updK σ 14 i g) := by
  have h0 := ad_ok 9 (cnt_lt h) i h
  apply List.ext_getElem?
  intro p
  unfold enc
  rw [List.getElem?_set, List.getElem?_map, List.getElem?_map, List.length_map]
  have hl : ad 9 i < tbK.length := (List.getElem?_eq_some_iff.mp h0).1
  by_cases hp : ad 9 i = p
  · subst hp
    rw [if_pos rfl, if_pos hl, h0]
    show some (cellF 9 i _) = some (cellF 9 i (vw (updK σ 14 i g) 9 i))
    unfold vw updK
    rw [if_pos rfl, if_pos ⟨rfl, rfl⟩, if_neg (by omega)]
  · rw [if_neg hp]
    cases hq : tbK[p]? with
    | none => rfl
    | some q =>
      have hne : ¬ (q.1 = 9 ∧ q.2 = i) := by
        rintro ⟨e1, e2⟩
        have hlp : p < tbK.length := (List.getElem?_eq_some_iff.mp hq).1
        have e3 : q = (9, i) := Prod.ext e1 e2
        subst e3
        have := ad_inv p (by rw [← tb_len]; exact hlp)
        rw [hq] at this
        exact hp (Option.some.inj this)
      have h14 := no14 q (List.mem_of_getElem? hq)
      show some (cellF q.1 q.2 (vw σ q.1 q.2)) = some (cellF q.1 q.2 (vw (updK σ 14 i g) q.1 q.2))
      have : vw (updK σ 14 i g) q.1 q.2 = vw σ q.1 q.2 := by
        unfold vw
        by_cases z : q.1 = 9
        · rw [if_pos z, if_pos z]
          unfold updK
          rw [if_neg (fun y => hne ⟨z, y.2⟩), if_neg (by omega)]
        · rw [if_neg z, if_neg z]
          unfold updK
          rw [if_neg (fun y => h14 y.1)]
      rw [this]
