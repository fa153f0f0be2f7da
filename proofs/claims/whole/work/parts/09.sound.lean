theorem dfl_cv (b0 ci : Nat) : (dfl ci).map (cv b0) = dfl ci := by
  unfold dfl
  rw [List.map_map]
  apply List.map_congr_left
  intro j _
  show cv b0 (defaultValue (fTy ci j)) = _
  cases fTy ci j <;> rfl
theorem dfl_len (ci : Nat) : (dfl ci).length = clN ci := by simp [dfl]
theorem dfl_V (ci : Nat) : ∀ j, j < clN ci → defaultValue (fTy ci j) = vp_V (dfl ci) j := by
  intro j hj
  simp [vp_V, dfl, hj]
section NEW
variable {p : Program} {l : Launch} {e : Env} {R : Room} {s : State} {m : MethodId} {args : Array Value} {below : List Frame} {meth : Method} {c : Code} {H : Heap} {locs : List Loc} {cells slots : Nat} {Q : State → Prop}
variable {b0 : Nat} {D : va_G} {cA : Nat → ClassId} {mi : Nat} {pc : Nat} {ls : Array Slot} {L st : List Value} {M M' : List va_E}
theorem W_size {g : JFrame} (k : H.size ≤ s.heap.size + cells → W p l e R s m args below meth c H locs cells slots Q g) : W p l e R s m args below meth c H locs cells slots Q g := fun T hT X => k (by rw [← hT]; exact X.same.2.2.1) T hT X
theorem P_low (hP : va_P D vwCl (wsOf b0 cA M) H) (hb : b0 ≤ H.size) : b0 + M.length ≤ H.size := by
  cases hn : M.length with
  | zero => exact hb
  | succ k =>
    have hk : k < M.length := by omega
    have := (hP k _ (ws_at (List.getElem?_eq_getElem hk))).lt
    dsimp only at this
    omega
/-- the new cell's address -/
theorem q_eq {ws : va_W} {q : Nat} {x : va_E} (hws : ws = wsOf b0 cA M) (hsz : s.heap.size + cells = b0 + M.length) (hP : va_P D vwCl (ws ++ [(q, x)]) H) (hD : va_D (fr0 b0) (ws ++ [(q, x)])) (hz : H.size ≤ s.heap.size + (cells + 1)) : q = b0 + M.length := by
  subst hws
  have hl : (wsOf b0 cA M ++ [(q, x)])[M.length]? = some (q, x) := by
    rw [List.getElem?_append_right (by rw [ws_len]; exact Nat.le_refl _), ws_len, Nat.sub_self]; rfl
  have h1 : b0 ≤ q := hD.2 _ _ hl
  have h2 : q < H.size := (hP _ _ hl).lt
  rcases Nat.lt_or_ge (q - b0) M.length with h | h
  · exfalso
    have h3 := ws_at (b0 := b0) (cA := cA) (List.getElem?_eq_getElem h)
    have h4 : (wsOf b0 cA M ++ [(q, x)])[q - b0]? = some (b0 + (q - b0), cE b0 cA M[q - b0]) := by
      rw [List.getElem?_append_left (by rw [ws_len]; exact h)]; exact h3
    have := hD.1 _ _ _ _ h4 hl (by dsimp only; omega)
    omega
  · omega
theorem so_new {i : Instr} {len : Nat} {st' : List Value} {ce : va_E} (F : Fx b0 D cA mi p R s m args meth c) (hsz : s.heap.size + cells = b0 + M.length) (hP : va_P D vwCl (wsOf b0 cA M) H) (hS : va_S (fr0 b0) s.heap H locs) (hd : decode (mb mi) pc = .ok (i, len)) (h : stepN mi i st = some (len, st', ce)) (hcl : cells + 1 ≤ R.cells) (hsl : slots + szE ce ≤ R.slots)
    (kk : ∀ H', va_P D vwCl (wsOf b0 cA (M ++ [ce])) H' → va_S (fr0 b0) s.heap H' locs → W p l e R s m args below meth c H' locs (cells + 1) (slots + szE ce) Q (F0 m (pc + len) ls (.ref (b0 + M.length) :: st'.map (cv b0)))) : W p l e R s m args below meth c H locs cells slots Q (F0 m pc ls (st.map (cv b0))) := by
  obtain ⟨hx, hb, hml, hr, hown, hts, hlk, hnm, hfr, hlo, hK, hN, hb0⟩ := id F
  have hA : ∀ q : Nat, s.heap.size ≤ q → fr0 b0 q := fun q h => Nat.le_trans hb0 h
  have arr : ∀ (at0 : ArrayType) (ty : FieldType) (t : Nat) (n : Int32) (r : List Value), newarray.typeOf at0 = ty → (tysC cA)[t]? = some (cA t, ty) → (∀ c0, va_RA s c0 ty → va_RA s (cA t) ty → c0 = cA t) → (∀ (c0 : ClassId) (N : Nat), vp_cell c0 (N, .inl (fun _ => 0)) = arrV c0 N (fun _ => defaultValue ty)) → componentBytes ty ≤ 8 → (Cond.arrayClass ty).before args s = true → ¬ n < 0 → n.toNatClampNeg ≤ 10000 → decode (mb mi) pc = .ok (.newarray at0, 2) → slots + n.toNatClampNeg ≤ R.slots →
      (∀ H', va_P D vwCl (wsOf b0 cA (M ++ [.inl (t, n.toNatClampNeg, .inl (fun _ => 0))])) H' → va_S (fr0 b0) s.heap H' locs → W p l e R s m args below meth c H' locs (cells + 1) (slots + n.toNatClampNeg) Q (F0 m (pc + 2) ls (.ref (b0 + M.length) :: r.map (cv b0)))) →
      W p l e R s m args below meth c H locs cells slots Q (F0 m pc ls (.int n :: r.map (cv b0))) := by
    intro at0 ty t n r e1 e2 e3 e4 e5 e6 e7 e8 e9 e10 k
    refine va_newa hx hb (by rw [e1]; exact e6) e1 hK hP (ws_D b0 cA M) hS hA (a0 := (n.toNatClampNeg, .inl (fun _ => 0))) (fun c0 => e4 c0 _) e7 rfl (by
      have := Nat.mul_le_mul e8 e5
      omega) hcl e10 e9 (fun q c0 H1 k1 k2 k3 k4 => ?_)
    refine W_size (fun hz => ?_)
    have hc0 : c0 = cA t := e3 c0 ((k1.2 5 (c0, ty) (by simp [tysC])).2) ((hK.2 t _ e2).2)
    have hq := q_eq rfl hsz k2 k3 hz
    subst hc0; subst hq
    refine k H1 ?_ k4
    rw [ws_app]
    exact k2
  unfold stepN at h
  split at h
  · rename_i x
    obtain ⟨ci, h1, h2⟩ := Option.map_eq_some_iff.mp h
    cases h2
    obtain ⟨g1, ⟨g2, g3⟩, g4, g5⟩ := nt_ok _ (lk_mem h1)
    dsimp only at g1 g2 g3 g4 g5
    have hl : szE (.inr (ci, dfl ci)) = clN ci := dfl_len ci
    rw [hl] at hsl kk
    have hini : Cond.initialized (clR ci) ∈ restW := by
      match ci, g1 with
      | 0, _ => decide
      | 1, _ => decide
      | 2, _ => decide
      | 3, _ => decide
      | 4, _ => decide
      | 5, _ => decide
      | 6, _ => decide
      | 7, _ => decide
      | 8, _ => decide
    refine va_new hx hb hts (cl_in g1) (fTy ci) (cl_ty g1) hown (hts _ (List.mem_filter.mpr ⟨List.mem_append_right _ g2, g4⟩)) (hts _ (List.mem_filter.mpr ⟨List.mem_append_right _ g3, g5⟩)) (hts _ (rest_w hini)) hK hP (ws_D b0 cA M) hS hA (cl_at g1) (dfl_V ci) hcl hsl hd (fun q H1 k1 k2 k3 => ?_)
    refine W_size (fun hz => ?_)
    have hq := q_eq rfl hsz k1 k2 hz
    subst hq
    refine kk H1 ?_ k3
    rw [ws_app]
    show va_P D vwCl (_ ++ [(_, .inr (ci, (dfl ci).map (cv b0)))]) H1
    rw [dfl_cv]
    exact k1
  · split at h
    · rename_i n r
      split at h
      · rename_i hc
        cases h
        exact arr .int .int 0 n _ rfl rfl (fun c0 a1 a2 => Option.some.inj (a1.symm.trans a2)) (fun _ _ => rfl) (by decide) (hts _ (one_w (by simp))) hc.1 hc.2 hd hsl kk
      · cases h
    · cases h
  · split at h
    · rename_i n r
      split at h
      · rename_i hc
        cases h
        exact arr .boolean .boolean 1 n _ rfl rfl (fun c0 a1 a2 => Option.some.inj (a1.symm.trans a2)) (fun _ _ => rfl) (by decide) (hts _ (one_w (by simp))) hc.1 hc.2 hd hsl kk
      · cases h
    · cases h
  · split at h
    · rename_i n r
      split at h
      · rename_i hc
        cases h
        exact arr .char .char 2 n _ rfl rfl (fun c0 a1 a2 => Option.some.inj (a1.symm.trans a2)) (fun _ _ => rfl) (by decide) (hts _ (one_w (by simp))) hc.1 hc.2 hd hsl kk
      · cases h
    · cases h
  · rename_i xi
    split at h
    · rename_i t n r hp
      split at h
      · rename_i hc
        cases h
        have go : ∀ C : String, (tysC cA)[t]? = some (cA t, .object C) → Cond.classLink (cn (mo mi)) xi C ∈ tables_1 → goodWord (Cond.classLink (cn (mo mi)) xi C) = true → va_AO C s → W p l e R s m args below meth c H locs cells slots Q (F0 m pc ls (.int n :: st'.map (cv b0))) := by
          intro C e1 e2 e3 e4
          refine va_newq hx hb hown (hts _ (List.mem_filter.mpr ⟨List.mem_append_right _ e2, e3⟩)) e4 hK hP (ws_D b0 cA M) hS hA hc.1 rfl (by have := hc.2; omega) hcl hsl hd (fun q c0 H1 k1 k2 k3 k4 => ?_)
          refine W_size (fun hz => ?_)
          have hq := q_eq rfl hsz k2 k3 hz
          obtain ⟨_, _, _, _, _, a1⟩ := (k1.2 5 (c0, .object C) (by simp [tysC])).2
          obtain ⟨_, _, _, _, _, a2⟩ := (hK.2 t _ e1).2
          have hc0 : c0 = cA t := Option.some.inj (a1.symm.trans a2)
          subst hc0; subst hq
          refine kk H1 ?_ k4
          rw [ws_app]
          exact k2
        rcases pt_ok _ (lk_mem hp) with ⟨ht, g1, g2⟩ | ⟨ht, g1, g2⟩
        · dsimp only at ht g1 g2
          subst ht
          exact go RX5 rfl g1 g2 hN.2.1
        · dsimp only at ht g1 g2
          subst ht
          exact go RX2 rfl g1 g2 hN.2.2
      · cases h
    · cases h
  · cases h
end NEW
-- sizes
theorem sz_set {M : List va_E} {a : Nat} {e e' : va_E} (h : M[a]? = some e) (hz : szE e' = szE e) : szM (M.set a e') = szM M := by
  induction M generalizing a with
  | nil => simp at h
  | cons x M ih =>
    cases a with
    | zero =>
      simp at h
      subst h
      simp [szM, hz]
    | succ a =>
      simp at h
      have := ih h
      simp [szM] at this ⊢
      omega
theorem sz_app (M : List va_E) (e : va_E) : szM (M ++ [e]) = szM M + szE e := by simp [szM]
theorem stepM_len {mi len : Nat} {i : Instr} {st st' : List Value} {M M' : List va_E} (h : stepM mi i st M = some (len, st', M')) : M'.length = M.length ∧ szM M' = szM M := by
  unfold stepM at h
  split at h
  · split at h
    · obtain ⟨v, h1, h2⟩ := Option.map_eq_some_iff.mp h
      cases h2; exact ⟨rfl, rfl⟩
    · cases h
  · split at h
    · obtain ⟨M2, h1, h2⟩ := Option.map_eq_some_iff.mp h
      cases h2
      unfold pF at h1
      split at h1
      · split at h1
        · cases h1
          exact ⟨by simp, sz_set ‹_› (by simp [szE])⟩
        · cases h1
      · cases h1
    · cases h
  · split at h
    · obtain ⟨v, h1, h2⟩ := Option.map_eq_some_iff.mp h
      cases h2; exact ⟨rfl, rfl⟩
    · cases h
  · split at h
    · obtain ⟨v, h1, h2⟩ := Option.map_eq_some_iff.mp h
      cases h2; exact ⟨rfl, rfl⟩
    · cases h
  · split at h
    · obtain ⟨v, h1, h2⟩ := Option.map_eq_some_iff.mp h
      cases h2; exact ⟨rfl, rfl⟩
    · cases h
  · split at h
    · obtain ⟨M2, h1, h2⟩ := Option.map_eq_some_iff.mp h
      obtain ⟨n, f, hM, hin, rfl⟩ := pA_some h1
      cases h2
      exact ⟨by simp, sz_set hM rfl⟩
    · cases h
  · split at h
    · obtain ⟨M2, h1, h2⟩ := Option.map_eq_some_iff.mp h
      obtain ⟨n, f, hM, hin, rfl⟩ := pA_some h1
      cases h2
      exact ⟨by simp, sz_set hM rfl⟩
    · cases h
  · split at h
    · obtain ⟨M2, h1, h2⟩ := Option.map_eq_some_iff.mp h
      obtain ⟨n, f, hM, hin, rfl⟩ := pA_some h1
      cases h2
      exact ⟨by simp, sz_set hM rfl⟩
    · cases h
  · split at h
    · obtain ⟨v, h1, h2⟩ := Option.map_eq_some_iff.mp h
      cases h2; exact ⟨rfl, rfl⟩
    · cases h
  · split at h
    · obtain ⟨M2, h1, h2⟩ := Option.map_eq_some_iff.mp h
      cases h2
      unfold pR at h1
      split at h1
      · rename_i hM1
        split at h1
        · split at h1
          · split at h1
            · cases h1
              exact ⟨by simp, sz_set hM1 rfl⟩
            · cases h1
          · cases h1
        · cases h1
      · cases h1
    · cases h
  · split at h
    · obtain ⟨v, h1, h2⟩ := Option.map_eq_some_iff.mp h
      cases h2; exact ⟨rfl, rfl⟩
    · cases h
  · split at h
    · split at h
      · cases h; exact ⟨rfl, rfl⟩
      · cases h
    · cases h
  · split at h
    · split at h
      · obtain ⟨M2, h1, h2⟩ := Option.map_eq_some_iff.mp h
        cases h2
        unfold cpA at h1
        split at h1
        · split at h1
          · rename_i hM1
            split at h1
            · cases h1
              exact ⟨by simp, sz_set hM1 rfl⟩
            · cases h1
          · cases h1
        · cases h1
      · cases h
    · split at h
      · cases h; exact ⟨rfl, rfl⟩
      · cases h
    · split at h
      · cases h; exact ⟨rfl, rfl⟩
      · cases h
    · cases h
  · cases h
theorem ev_len : ∀ (n mi pc : Nat) (L st : List Value) (M M' : List va_E) (r : Option Value), ev n mi pc L st M = some (M', r) → M.length ≤ M'.length ∧ szM M ≤ szM M' := by
  intro n
  induction n with
  | zero => intro mi pc L st M M' r h; cases h
  | succ n ih =>
    intro mi pc L st M M' r h
    unfold ev at h
    split at h
    · split at h
      · exact ih _ _ _ _ _ _ _ h
      · split at h
        · rename_i hm
          split at h
          · have h1 := stepM_len hm
            have h2 := ih _ _ _ _ _ _ _ h
            omega
          · cases h
        · split at h
          · split at h
            · have h2 := ih _ _ _ _ _ _ _ h
              rw [sz_app, List.length_append] at h2
              omega
            · cases h
          · split at h
            · split at h
              · split at h
                · rename_i hc
                  have h1 := ih _ _ _ _ _ _ _ hc
                  have h2 := ih _ _ _ _ _ _ _ h
                  omega
                · cases h
              · cases h
            · split at h
              · split at h
                · cases h; exact ⟨Nat.le_refl _, Nat.le_refl _⟩
                · cases h
              · cases h
    · cases h
