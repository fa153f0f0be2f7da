-- the cells as a world
theorem ws_get (b0 : Nat) (cA : Nat → ClassId) (M : List va_E) (k : Nat) : (wsOf b0 cA M)[k]? = (M[k]?).map (fun e => (b0 + k, cE b0 cA e)) := by
  simp [wsOf, List.getElem?_mapIdx]
theorem ws_at {b0 : Nat} {cA : Nat → ClassId} {M : List va_E} {k : Nat} {e : va_E} (h : M[k]? = some e) : (wsOf b0 cA M)[k]? = some (b0 + k, cE b0 cA e) := by
  rw [ws_get, h]; rfl
theorem ws_len (b0 : Nat) (cA : Nat → ClassId) (M : List va_E) : (wsOf b0 cA M).length = M.length := by simp [wsOf]
theorem ws_set (b0 : Nat) (cA : Nat → ClassId) (M : List va_E) (k : Nat) (e : va_E) : (wsOf b0 cA M).set k (b0 + k, cE b0 cA e) = wsOf b0 cA (M.set k e) := by
  apply List.ext_getElem?
  intro j
  rw [ws_get, List.getElem?_set, List.getElem?_set, ws_len, ws_get]
  by_cases h : k = j
  · subst h
    by_cases h2 : k < M.length
    · simp [h2]
    · simp [h2]
  · simp [h]
theorem ws_app (b0 : Nat) (cA : Nat → ClassId) (M : List va_E) (e : va_E) : wsOf b0 cA (M ++ [e]) = wsOf b0 cA M ++ [(b0 + M.length, cE b0 cA e)] := by
  simp [wsOf, List.mapIdx_append]
def fr0 (b0 : Nat) : Nat → Prop := fun q => b0 ≤ q
theorem ws_D (b0 : Nat) (cA : Nat → ClassId) (M : List va_E) : va_D (fr0 b0) (wsOf b0 cA M) := by
  refine ⟨fun i j p q hi hj h => ?_, fun k q hk => ?_⟩
  · rw [ws_get] at hi hj
    obtain ⟨e1, -, rfl⟩ := Option.map_eq_some_iff.mp hi
    obtain ⟨e2, -, rfl⟩ := Option.map_eq_some_iff.mp hj
    simp at h
    exact h
  · rw [ws_get] at hk
    obtain ⟨e1, -, rfl⟩ := Option.map_eq_some_iff.mp hk
    exact Nat.le_add_right _ _
-- the locals
def lvL (b0 : Nat) (L : List Value) : List (Nat × Value) := (List.range L.length).filterMap (fun i => match (L[i]? : Option Value) with
  | some Value.null => none
  | some v => some (i, cv b0 v)
  | none => none)
theorem lvL_mem {b0 : Nat} {L : List Value} {q : Nat × Value} : q ∈ lvL b0 L ↔ ∃ v, L[q.1]? = some v ∧ v ≠ .null ∧ q.2 = cv b0 v := by
  unfold lvL
  rw [List.mem_filterMap]
  constructor
  · rintro ⟨i, -, h⟩
    split at h
    · cases h
    · rename_i v hn hv
      cases h
      exact ⟨v, hv, fun e => hn (e ▸ rfl), rfl⟩
    · cases h
  · rintro ⟨v, h1, h2, h3⟩
    refine ⟨q.1, List.mem_range.mpr (List.getElem?_eq_some_iff.mp h1).1, ?_⟩
    rw [h1]
    cases v <;> first | exact absurd rfl h2 | exact congrArg some (Prod.ext (x := (q.1, cv b0 _)) (y := q) rfl h3.symm)
def Lh (b0 mi : Nat) (ls : Array Slot) (L : List Value) : Prop := lv_has ls (mL mi) (lvL b0 L) ∧ ∀ (j : Nat) (v : Value), L[j]? = some v → v.category = 2 → j = ll mi
theorem Lh.at {b0 mi : Nat} {ls : Array Slot} {L : List Value} (h : Lh b0 mi ls L) {k : Nat} {v : Value} (hv : L[k]? = some v) (hn : v ≠ .null) : ls[k]? = some (.val (cv b0 v)) := h.1.2.2 (k, cv b0 v) (lvL_mem.mpr ⟨v, hv, hn, rfl⟩)
theorem cv_cat (b0 : Nat) (v : Value) : (cv b0 v).category = v.category := by cases v <;> rfl
theorem Lh.set1 {b0 mi : Nat} {ls ls' : Array Slot} {L : List Value} {k : Nat} {v : Value} (h : Lh b0 mi ls L) (hv : v.category = 1) (hk : k ≠ ll mi + 1)
    (h' : lv_has ls' (mL mi) ((k, cv b0 v) :: (lvL b0 L).filter (fun q => !(q.1 == k) && !(q.1 + 1 == k && q.2.category == 2)))) : Lh b0 mi ls' (L.set k v) := by
  refine ⟨⟨h'.1, h'.2.1, fun q hq => h'.2.2 q ?_⟩, fun j u hj hu => ?_⟩
  · obtain ⟨u, h1, h2, h3⟩ := lvL_mem.mp hq
    obtain ⟨i, w⟩ := q
    dsimp only at h1 h3
    rw [List.getElem?_set] at h1
    by_cases e : k = i
    · subst e
      rw [if_pos rfl] at h1
      split at h1
      · cases h1; rw [h3]; exact List.mem_cons_self
      · cases h1
    · rw [if_neg e] at h1
      refine List.mem_cons_of_mem _ (List.mem_filter.mpr ⟨lvL_mem.mpr ⟨u, h1, h2, h3⟩, ?_⟩)
      have e1 : (i == k) = false := by simp; omega
      by_cases e2 : i + 1 = k ∧ w.category = 2
      · exfalso
        have := h.2 i u h1 (by rw [← cv_cat b0, ← h3]; exact e2.2)
        omega
      · simp only [e1, Bool.not_false, Bool.true_and, Bool.not_eq_true', Bool.and_eq_false_iff, beq_eq_false_iff_ne]
        by_cases e3 : i + 1 = k
        · exact Or.inr fun z => e2 ⟨e3, z⟩
        · exact Or.inl e3
  · rw [List.getElem?_set] at hj
    by_cases e : k = j
    · subst e
      rw [if_pos rfl] at hj
      split at hj
      · cases hj; omega
      · cases hj
    · rw [if_neg e] at hj
      exact h.2 j u hj hu
theorem Lh.set2 {b0 mi : Nat} {ls ls' : Array Slot} {L : List Value} {k : Nat} {x : Int64} (h : Lh b0 mi ls L) (hk : k = ll mi)
    (h' : lv_has ls' (mL mi) ((k, .long x) :: (lvL b0 L).filter (fun q => !(q.1 == k) && (!(q.1 == k + 1) && !(q.1 + 1 == k && q.2.category == 2))))) : Lh b0 mi ls' ((L.set k (.long x)).set (k + 1) .null) := by
  refine ⟨⟨h'.1, h'.2.1, fun q hq => h'.2.2 q ?_⟩, fun j u hj hu => ?_⟩
  · obtain ⟨u, h1, h2, h3⟩ := lvL_mem.mp hq
    obtain ⟨i, w⟩ := q
    dsimp only at h1 h3
    rw [List.getElem?_set] at h1
    by_cases e0 : k + 1 = i
    · rw [if_pos e0] at h1
      split at h1
      · cases h1; exact absurd rfl h2
      · cases h1
    rw [if_neg e0, List.getElem?_set] at h1
    by_cases e : k = i
    · subst e
      rw [if_pos rfl] at h1
      split at h1
      · cases h1; rw [h3]; exact List.mem_cons_self
      · cases h1
    · rw [if_neg e] at h1
      refine List.mem_cons_of_mem _ (List.mem_filter.mpr ⟨lvL_mem.mpr ⟨u, h1, h2, h3⟩, ?_⟩)
      have e1 : (i == k) = false := by simp; omega
      have e4 : (i == k + 1) = false := by simp; omega
      by_cases e2 : i + 1 = k ∧ w.category = 2
      · exfalso
        have := h.2 i u h1 (by rw [← cv_cat b0, ← h3]; exact e2.2)
        omega
      · simp only [e1, e4, Bool.not_false, Bool.true_and, Bool.not_eq_true', Bool.and_eq_false_iff, beq_eq_false_iff_ne]
        by_cases e3 : i + 1 = k
        · exact Or.inr fun z => e2 ⟨e3, z⟩
        · exact Or.inl e3
  · rw [List.getElem?_set] at hj
    by_cases e0 : k + 1 = j
    · rw [if_pos e0] at hj
      split at hj
      · cases hj; cases hu
      · cases hj
    rw [if_neg e0, List.getElem?_set] at hj
    by_cases e : k = j
    · exact e.symm.trans hk
    · rw [if_neg e] at hj
      exact h.2 j u hj hu
-- a frame of method mi
def nestW : List Cond := ctab2.map cWord
def NWs (s : State) : Prop := (∀ q ∈ ctab2, va_Nw (.methodLinkNest (cn q.1.1) q.1.2 (my q.2.2) RX7) s) ∧ va_AO RX5 s ∧ va_AO RX2 s
def Fx (b0 : Nat) (D : va_G) (cA : Nat → ClassId) (mi : Nat) (p : Program) (R : Room) (s : State) (m : MethodId) (args : Array Value) (meth : Method) (c : Code) : Prop :=
  p.tables.exec = Jvm.exec ∧ c.code = mb mi ∧ c.maxLocals = mL mi ∧ meth.sig.returnType = mr mi ∧ s.vm.findClass (cn (mo mi)) = some m.cls ∧ (∀ w ∈ lwg, w.before args s = true) ∧ meth.locks = false ∧ meth.name = (my mi).name ∧ rf mi ≤ R.frames ∧ rl mi ≤ R.locals ∧ va_K D vwCl (tysC cA) s ∧ NWs s ∧ b0 ≤ s.heap.size
section PURE
variable {p : Program} {l : Launch} {e : Env} {R : Room} {s : State} {m : MethodId} {args : Array Value} {below : List Frame} {meth : Method} {c : Code} {H : Heap} {locs : List Loc} {cells slots : Nat} {Q : State → Prop}
variable {b0 : Nat} {D : va_G} {cA : Nat → ClassId} {mi : Nat} {pc : Nat} {ls : Array Slot} {L st : List Value}
theorem isI_some {o : Option Value} {v : Value} (h : isI o = some v) : ∃ x, o = some (.int x) ∧ v = .int x := by
  unfold isI at h
  split at h
  · cases h; exact ⟨_, rfl, rfl⟩
  · cases h
theorem isL_some {o : Option Value} {v : Value} (h : isL o = some v) : ∃ x, o = some (.long x) ∧ v = .long x := by
  unfold isL at h
  split at h
  · cases h; exact ⟨_, rfl, rfl⟩
  · cases h
theorem isA_some {o : Option Value} {v : Value} (h : isA o = some v) : ∃ x, o = some (.ref x) ∧ v = .ref x := by
  unfold isA at h
  split at h
  · cases h; exact ⟨_, rfl, rfl⟩
  · cases h
theorem so_push {rest : List Value} {i : Instr} {len : Nat} {v : Value} (F : Fx b0 D cA mi p R s m args meth c) (hl : Lh b0 mi ls L) (hd : decode (mb mi) pc = .ok (i, len)) (h : pushV mi L i = some (v, len))
    (k : W p l e R s m args below meth c H locs cells slots Q (F0 m (pc + len) ls (cv b0 v :: rest))) : W p l e R s m args below meth c H locs cells slots Q (F0 m pc ls rest) := by
  obtain ⟨hx, hb, hml, hr, hown, hts, hlk, hnm, hf, hlo, hK, hN, hb0⟩ := F
  unfold pushV at h
  split at h
  · cases h; exact lv_iconst hx hb hd rfl k
  · cases h; exact lv_bipush hx hb hd rfl k
  · cases h; exact lv_sipush hx hb hd rfl k
  · obtain ⟨v0, h1, h2⟩ := Option.map_eq_some_iff.mp h
    cases h2
    exact lv_ldc hx hb hown (hts _ (lwg_of c_kt c_kt_g _ (List.mem_map.mpr ⟨_, lk_mem h1, rfl⟩))) hd k
  · obtain ⟨v0, h1, h2⟩ := Option.map_eq_some_iff.mp h
    cases h2
    exact lv_ldcw hx hb hown (hts _ (lwg_of c_kt c_kt_g _ (List.mem_map.mpr ⟨_, lk_mem h1, rfl⟩))) hd k
  · obtain ⟨v0, h1, h2⟩ := Option.map_eq_some_iff.mp h
    cases h2
    exact lv_ldc2 hx hb hown (hts _ (lwg_of c_ktL c_ktL_g _ (List.mem_map.mpr ⟨_, lk_mem h1, rfl⟩))) hd k
  · obtain ⟨v0, h1, h2⟩ := Option.map_eq_some_iff.mp h
    obtain ⟨x, h3, rfl⟩ := isI_some h1
    cases h2
    exact lv_iload hx hb hd (hl.at h3 (by simp)) k
  · obtain ⟨v0, h1, h2⟩ := Option.map_eq_some_iff.mp h
    obtain ⟨x, h3, rfl⟩ := isI_some h1
    cases h2
    exact lv_iload_n hx hb hd rfl (hl.at h3 (by simp)) k
  · obtain ⟨v0, h1, h2⟩ := Option.map_eq_some_iff.mp h
    obtain ⟨x, h3, rfl⟩ := isL_some h1
    cases h2
    exact lv_lload_n hx hb hd rfl (hl.at h3 (by simp)) k
  · obtain ⟨v0, h1, h2⟩ := Option.map_eq_some_iff.mp h
    obtain ⟨x, h3, rfl⟩ := isA_some h1
    cases h2
    exact lv_aload hx hb hd (hl.at h3 (by simp)) k
  · obtain ⟨v0, h1, h2⟩ := Option.map_eq_some_iff.mp h
    obtain ⟨x, h3, rfl⟩ := isA_some h1
    cases h2
    exact lv_aload_n hx hb hd rfl (hl.at h3 (by simp)) k
  · cases h
theorem ii_some {st st' : List Value} {f : Int32 → Int32 → Option Int32} (h : ii st f = some st') : ∃ x y z r, st = .int y :: .int x :: r ∧ f x y = some z ∧ st' = .int z :: r := by
  unfold ii at h
  split at h
  · obtain ⟨z, h1, h2⟩ := Option.map_eq_some_iff.mp h
    exact ⟨_, _, z, _, rfl, h1, h2.symm⟩
  · cases h
theorem jj_some {st st' : List Value} {f : Int64 → Int64 → Option Int64} (h : jj st f = some st') : ∃ x y z r, st = .long y :: .long x :: r ∧ f x y = some z ∧ st' = .long z :: r := by
  unfold jj at h
  split at h
  · obtain ⟨z, h1, h2⟩ := Option.map_eq_some_iff.mp h
    exact ⟨_, _, z, _, rfl, h1, h2.symm⟩
  · cases h
theorem so_arith {i : Instr} {st' : List Value} (F : Fx b0 D cA mi p R s m args meth c) (hd : decode (mb mi) pc = .ok (i, 1)) (h : arith i st = some st')
    (k : W p l e R s m args below meth c H locs cells slots Q (F0 m (pc + 1) ls (st'.map (cv b0)))) : W p l e R s m args below meth c H locs cells slots Q (F0 m pc ls (st.map (cv b0))) := by
  obtain ⟨hx, hb, -⟩ := F
  unfold arith at h
  split at h
  · obtain ⟨x, y, z, r, rfl, hz, rfl⟩ := ii_some h; cases hz; exact lv_iadd hx hb hd k
  · obtain ⟨x, y, z, r, rfl, hz, rfl⟩ := ii_some h; cases hz; exact lv_isub hx hb hd k
  · obtain ⟨x, y, z, r, rfl, hz, rfl⟩ := ii_some h; cases hz; exact lv_imul hx hb hd k
  · obtain ⟨x, y, z, r, rfl, hz, rfl⟩ := ii_some h; cases hz; exact lv_iand hx hb hd k
  · obtain ⟨x, y, z, r, rfl, hz, rfl⟩ := ii_some h; cases hz; exact lv_ior hx hb hd k
  · obtain ⟨x, y, z, r, rfl, hz, rfl⟩ := ii_some h; cases hz; exact lv_ixor hx hb hd k
  · obtain ⟨x, y, z, r, rfl, hz, rfl⟩ := ii_some h; cases hz; exact lv_ishl hx hb hd k
  · obtain ⟨x, y, z, r, rfl, hz, rfl⟩ := ii_some h; cases hz; exact lv_ishr hx hb hd k
  · obtain ⟨x, y, z, r, rfl, hz, rfl⟩ := ii_some h; cases hz; exact lv_iushr hx hb hd rfl k
  · obtain ⟨x, y, z, r, rfl, hz, rfl⟩ := ii_some h
    split at hz
    · cases hz
    · cases hz; exact lv_idiv hx hb hd ‹_› k
  · obtain ⟨x, y, z, r, rfl, hz, rfl⟩ := ii_some h
    split at hz
    · cases hz
    · cases hz; exact lv_irem hx hb hd ‹_› k
  · obtain ⟨x, y, z, r, rfl, hz, rfl⟩ := jj_some h; cases hz; exact lv_ladd hx hb hd k
  · obtain ⟨x, y, z, r, rfl, hz, rfl⟩ := jj_some h; cases hz; exact lv_lmul hx hb hd k
  · obtain ⟨x, y, z, r, rfl, hz, rfl⟩ := jj_some h; cases hz; exact lv_land hx hb hd k
  · obtain ⟨x, y, z, r, rfl, hz, rfl⟩ := jj_some h
    split at hz
    · cases hz
    · cases hz; exact lv_ldiv hx hb hd ‹_› k
  · obtain ⟨x, y, z, r, rfl, hz, rfl⟩ := jj_some h
    split at hz
    · cases hz
    · cases hz; exact lv_lrem hx hb hd ‹_› k
  · split at h
    · cases h; exact lv_i2l hx hb hd rfl k
    · cases h
  · split at h
    · cases h; exact lv_l2i hx hb hd rfl k
    · cases h
  · split at h
    · cases h; exact lv_i2c hx hb hd rfl k
    · cases h
  · split at h
    · split at h
      · cases h; exact lv_dup hx hb hd (by rw [cv_cat]; assumption) k
      · cases h
    · cases h
  · split at h
    · split at h
      · rename_i hc
        cases h; exact lv_dup2_11 hx hb hd (by rw [cv_cat]; exact hc.1) (by rw [cv_cat]; exact hc.2) k
      · cases h
    · cases h
  · cases h
theorem st1_some {k : Nat} {L L' : List Value} {v : Value} (h : st1 mi k L v = some L') : k < mL mi ∧ k ≠ ll mi + 1 ∧ L' = L.set k v := by
  unfold st1 at h
  split at h
  · rename_i hc
    cases h; exact ⟨hc.1, hc.2, rfl⟩
  · cases h
theorem so_stor {i : Instr} {len : Nat} {L' st' : List Value} (F : Fx b0 D cA mi p R s m args meth c) (hl : Lh b0 mi ls L) (hd : decode (mb mi) pc = .ok (i, len)) (h : stor mi L i st = some (L', st', len))
    (k : ∀ ls' : Array Slot, Lh b0 mi ls' L' → W p l e R s m args below meth c H locs cells slots Q (F0 m (pc + len) ls' (st'.map (cv b0)))) : W p l e R s m args below meth c H locs cells slots Q (F0 m pc ls (st.map (cv b0))) := by
  obtain ⟨hx, hb, -⟩ := F
  unfold stor at h
  split at h
  · split at h
    · obtain ⟨L2, h1, h2⟩ := Option.map_eq_some_iff.mp h
      obtain ⟨a1, a2, rfl⟩ := st1_some h1
      cases h2
      exact lv_istore hx hb hd hl.1 a1 rfl (fun ls' h' => k ls' (hl.set1 rfl a2 h'))
    · cases h
  · split at h
    · obtain ⟨L2, h1, h2⟩ := Option.map_eq_some_iff.mp h
      obtain ⟨a1, a2, rfl⟩ := st1_some h1
      cases h2
      exact lv_istore_n hx hb hd rfl hl.1 a1 rfl (fun ls' h' => k ls' (hl.set1 rfl a2 h'))
    · cases h
  · split at h
    · obtain ⟨L2, h1, h2⟩ := Option.map_eq_some_iff.mp h
      obtain ⟨a1, a2, rfl⟩ := st1_some h1
      cases h2
      exact lv_astore_n hx hb hd rfl hl.1 a1 rfl (fun ls' h' => k ls' (hl.set1 rfl a2 h'))
    · cases h
  · split at h
    · split at h
      · rename_i hc
        cases h
        exact lv_lstore_n hx hb hd rfl hl.1 hc.1 rfl (fun ls' h' => k ls' (hl.set2 hc.2.1 h'))
      · cases h
    · cases h
  · split at h
    · rename_i x hx0
      obtain ⟨L2, h1, h2⟩ := Option.map_eq_some_iff.mp h
      obtain ⟨a1, a2, rfl⟩ := st1_some h1
      cases h2
      obtain ⟨j, hj⟩ := List.getElem?_of_mem (lvL_mem.mpr ⟨.int x, hx0, by simp, rfl⟩ : (_, cv b0 (.int x)) ∈ lvL b0 L)
      exact lv_iinc hx hb hd hl.1 hj rfl a1 rfl (fun ls' h' => k ls' (hl.set1 rfl a2 h'))
    · cases h
  · cases h
theorem jmp_some {off : Int} {t : Nat} (h : jmp pc off = some t) : (pc : Int) + off = (t : Int) := by
  unfold jmp at h
  split at h
  · cases h; omega
  · cases h
theorem bra_some {off : Int} {c : Prop} {d : Decidable c} {r r' : List Value} {t : Nat} (h : bra pc off c d r = some (t, r')) : ∃ t0 : Nat, (pc : Int) + off = (t0 : Int) ∧ (c → t = t0) ∧ (¬ c → t = pc + 3) ∧ r' = r := by
  unfold bra at h
  obtain ⟨t0, h1, h2⟩ := Option.map_eq_some_iff.mp h
  cases h2
  exact ⟨t0, jmp_some h1, fun hc => if_pos hc, fun hc => if_neg hc, rfl⟩
theorem so_bran {i : Instr} {len pc' : Nat} {st' : List Value} (F : Fx b0 D cA mi p R s m args meth c) (hd : decode (mb mi) pc = .ok (i, len)) (h : bran pc i len st = some (pc', st'))
    (k : W p l e R s m args below meth c H locs cells slots Q (F0 m pc' ls (st'.map (cv b0)))) : W p l e R s m args below meth c H locs cells slots Q (F0 m pc ls (st.map (cv b0))) := by
  obtain ⟨hx, hb, -⟩ := F
  unfold bran at h
  split at h
  · split at h
    · rename_i hlen
      subst hlen
      obtain ⟨t, h1, h2⟩ := Option.map_eq_some_iff.mp h
      cases h2
      exact lv_goto hx hb hd (jmp_some h1) k
    · cases h
  · split at h
    · rename_i hlen
      subst hlen
      split at h
      · split at h
        · obtain ⟨t0, e0, e1, e2, rfl⟩ := bra_some h
          exact lv_if_eq hx hb hd e0 (fun q => by rw [← e1 q]; exact k) (fun q => by rw [← e2 q]; exact k)
        · obtain ⟨t0, e0, e1, e2, rfl⟩ := bra_some h
          exact lv_if_ne hx hb hd e0 (fun q => by rw [← e1 q]; exact k) (fun q => by rw [← e2 (fun z => z q)]; exact k)
        · obtain ⟨t0, e0, e1, e2, rfl⟩ := bra_some h
          exact lv_if_lt hx hb hd e0 (fun q => by rw [← e1 q]; exact k) (fun q => by rw [← e2 q]; exact k)
        · obtain ⟨t0, e0, e1, e2, rfl⟩ := bra_some h
          exact lv_if_ge hx hb hd e0 (fun q => by rw [← e1 q]; exact k) (fun q => by rw [← e2 q]; exact k)
        · obtain ⟨t0, e0, e1, e2, rfl⟩ := bra_some h
          exact lv_if_gt hx hb hd e0 (fun q => by rw [← e1 q]; exact k) (fun q => by rw [← e2 q]; exact k)
        · obtain ⟨t0, e0, e1, e2, rfl⟩ := bra_some h
          exact lv_if_le hx hb hd e0 (fun q => by rw [← e1 q]; exact k) (fun q => by rw [← e2 q]; exact k)
      · cases h
    · cases h
  · split at h
    · rename_i hlen
      subst hlen
      split at h
      · split at h
        · obtain ⟨t0, e0, e1, e2, rfl⟩ := bra_some h
          exact lv_icmp_eq hx hb hd e0 (fun q => by rw [← e1 q]; exact k) (fun q => by rw [← e2 q]; exact k)
        · obtain ⟨t0, e0, e1, e2, rfl⟩ := bra_some h
          exact lv_icmp_ne hx hb hd e0 (fun q => by rw [← e1 q]; exact k) (fun q => by rw [← e2 (fun z => z q)]; exact k)
        · obtain ⟨t0, e0, e1, e2, rfl⟩ := bra_some h
          exact lv_icmp_lt hx hb hd e0 (fun q => by rw [← e1 q]; exact k) (fun q => by rw [← e2 q]; exact k)
        · obtain ⟨t0, e0, e1, e2, rfl⟩ := bra_some h
          exact lv_icmp_ge hx hb hd e0 (fun q => by rw [← e1 q]; exact k) (fun q => by rw [← e2 q]; exact k)
        · obtain ⟨t0, e0, e1, e2, rfl⟩ := bra_some h
          exact lv_icmp_gt hx hb hd e0 (fun q => by rw [← e1 q]; exact k) (fun q => by rw [← e2 q]; exact k)
        · obtain ⟨t0, e0, e1, e2, rfl⟩ := bra_some h
          exact lv_icmp_le hx hb hd e0 (fun q => by rw [← e1 q]; exact k) (fun q => by rw [← e2 q]; exact k)
      · cases h
    · cases h
  · split at h
    · split at h
      · rename_i hc
        obtain ⟨t, h1, h2⟩ := Option.map_eq_some_iff.mp h
        cases h2
        exact lv_tableOut hx hb hd hc (jmp_some h1) k
      · rename_i hc
        split at h
        · rename_i off ho
          obtain ⟨t, h1, h2⟩ := Option.map_eq_some_iff.mp h
          cases h2
          exact lv_tableIn hx hb hd (fun z => hc (Or.inl z)) (fun z => hc (Or.inr z)) ho (jmp_some h1) k
        · cases h
    · cases h
  · cases h
theorem so_pure {i : Instr} {len pc' : Nat} {L' st' : List Value} (F : Fx b0 D cA mi p R s m args meth c) (hl : Lh b0 mi ls L) (hd : decode (mb mi) pc = .ok (i, len)) (h : stepP mi pc L st i len = some (pc', L', st'))
    (k : ∀ ls' : Array Slot, Lh b0 mi ls' L' → W p l e R s m args below meth c H locs cells slots Q (F0 m pc' ls' (st'.map (cv b0)))) : W p l e R s m args below meth c H locs cells slots Q (F0 m pc ls (st.map (cv b0))) := by
  unfold stepP at h
  split at h
  · rename_i v n hp
    split at h
    · rename_i hn
      subst hn
      cases h
      exact so_push F hl hd hp (k ls hl)
    · cases h
  · split at h
    · rename_i s2 ha
      split at h
      · rename_i hn
        subst hn
        cases h
        exact so_arith F hd ha (k ls hl)
      · cases h
    · split at h
      · rename_i L2 s2 n hs
        split at h
        · rename_i hn
          subst hn
          cases h
          exact so_stor F hl hd hs k
        · cases h
      · split at h
        · rename_i p2 s2 hbr
          cases h
          exact so_bran F hd hbr (k ls hl)
        · cases h
end PURE
