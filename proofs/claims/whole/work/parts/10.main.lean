-- contracts
def Pcn (b0 : Nat) (D : va_G) (cA : Nat → ClassId) (M : List va_E) (vs : List Value) : Array Value → State → Prop := fun a U => a = (vs.map (cv b0)).toArray ∧ U.heap.size = b0 + M.length ∧ va_P D vwCl (wsOf b0 cA M) U.heap ∧ va_K D vwCl (tysC cA) U ∧ NWs U
def Qcn (b0 : Nat) (D : va_G) (cA : Nat → ClassId) (M : List va_E) (r : Option Value) : Array Value → State → Outcome → State → Prop := fun _ st o t => o = .returned (r.map (cv b0)) ∧ va_P D vwCl (wsOf b0 cA M) t.heap ∧ va_F (fr0 b0) st t
def wsM (y : Nat) : List Cond := .code (my y) (mb y) (mL y) (mr y) :: lwg
def rmM (y mc ms : Nat) : Room := { frames := rf y, cells := mc, slots := ms, locals := rl y }
theorem m_ok (k : Nat) : okE (mt k) ∧ okB (mt k) := by
  unfold mt
  rw [List.getD_eq_getElem?_getD]
  cases h : mtab[k]? with
  | none =>
    have : mt0 ∈ mtab := List.mem_of_getElem? (i := 0) rfl
    exact ⟨mt_ok _ this, kc_all _ this⟩
  | some q => exact ⟨mt_ok q (List.mem_of_getElem? h), kc_all q (List.mem_of_getElem? h)⟩
theorem m_plain (y : Nat) : plainName (my y).cls = true := (m_ok y).1.1
theorem m_cls (y : Nat) : (my y).cls = cn (mo y) := (m_ok y).1.2.1
theorem m_desc (y : Nat) : (my y).cls ≠ "java/lang/invoke/MethodHandle" ∧ (my y).cls ≠ "java/lang/invoke/VarHandle" ∧ (parseMethodDescriptor (my y).desc).map (fun d => d.parameters.length) = some (mn y) := ⟨(m_ok y).1.2.2.1, (m_ok y).1.2.2.2.1, (m_ok y).1.2.2.2.2.1⟩
theorem m_init (y : Nat) : Cond.initialized (my y).cls ∈ lwg := rest_w (m_ok y).1.2.2.2.2.2
theorem code_w (y : Nat) : Cond.code (my y) (mb y) (mL y) (mr y) ∈ lwg := List.mem_filter.mpr ⟨List.mem_append_right _ (m_ok y).2.1, (m_ok y).2.2⟩
theorem wsM_good (y : Nat) : GoodIn lwg (wsM y) := fun w hw => by
  have : w ∈ lwg := by
    rcases List.mem_cons.mp hw with r | r
    · rw [r]; exact code_w y
    · exact r
  exact ⟨this, good_of_word (List.mem_filter.mp this).2⟩
theorem NWs.warm {s U : State} (h : NWs s) (hW : s.WarmedH U.vm) : NWs U := ⟨fun q hq => va_Nw.warmM hW (h.1 q hq), va_AO.moved hW.alike h.2.1, va_AO.moved hW.alike h.2.2⟩
theorem NWs.same {s U : State} (h : NWs s) (hv : s.vm = U.vm) : NWs U := ⟨fun q hq => va_Nw.same rfl hv (h.1 q hq), va_AO.moved (by rw [hv]; exact Vm.Alike.refl _) h.2.1, va_AO.moved (by rw [hv]; exact Vm.Alike.refl _) h.2.2⟩
theorem Pcn_blind {b0 : Nat} {D : va_G} {cA : Nat → ClassId} {M : List va_E} {vs : List Value} : FrameBlind (Pcn b0 D cA M vs) := fun a U g mk q => by
  obtain ⟨q0, q1, q2, q3, q4⟩ := q
  exact ⟨q0, q1, q2, va_K.moved (u := U) (U := U.calling g mk a) (Vm.Alike.refl U.vm) q3, q4.same rfl⟩
-- the locals at a method's entry
theorem la_mem : ∀ (vs : List Value) (k i : Nat) (v : Value), (∀ v ∈ vs, v.category = 1) → vs[i]? = some v → (k + i, v) ∈ lv_args k vs
  | [], _, _, _, _, h => by simp at h
  | w :: vs, k, i, v, hc, h => by
    unfold lv_args
    have hw : w.category = 1 := hc w List.mem_cons_self
    rw [if_neg (by rw [hw]; decide)]
    cases i with
    | zero => simp at h; subst h; exact List.mem_cons_self
    | succ i =>
      have := la_mem vs (k + 1) i v (fun u hu => hc u (List.mem_cons_of_mem _ hu)) (by simpa using h)
      rw [show k + (i + 1) = k + 1 + i by omega]
      exact List.mem_cons_of_mem _ this
theorem sl_len : ∀ (vs : List Value), (∀ v ∈ vs, v.category = 1) → (lg_sl vs).length = vs.length
  | [], _ => rfl
  | w :: vs, hc => by
    have hw : w.category = 1 := hc w List.mem_cons_self
    have := sl_len vs (fun u hu => hc u (List.mem_cons_of_mem _ hu))
    unfold lg_sl at this ⊢
    rw [List.flatMap_cons, if_neg (by rw [hw]; decide), List.length_append, this]
    simp; omega
theorem Lh_entry {b0 y : Nat} {vs : List Value} (hc : ∀ v ∈ vs, v.category = 1) (hn : vs.length ≤ mL y) : Lh b0 y ((lg_sl (vs.map (cv b0)) ++ List.replicate (mL y - (lg_sl (vs.map (cv b0))).length) Slot.unset).toArray) (entL vs (mL y)) := by
  have hc' : ∀ v ∈ vs.map (cv b0), v.category = 1 := fun v hv => by
    obtain ⟨u, hu, rfl⟩ := List.mem_map.mp hv
    rw [cv_cat]; exact hc u hu
  have hl := lv_entry (vs.map (cv b0)) (n := mL y) (by rw [sl_len _ hc', List.length_map]; exact hn)
  have key : ∀ (i : Nat) (v : Value), (entL vs (mL y))[i]? = some v → v ≠ .null → vs[i]? = some v := by
    intro i v h1 h2
    unfold entL at h1
    rcases Nat.lt_or_ge i vs.length with h | h
    · rw [List.getElem?_append_left h] at h1; exact h1
    · rw [List.getElem?_append_right h] at h1
      have := List.mem_of_getElem? h1
      exact absurd (List.eq_of_mem_replicate this) h2
  refine ⟨⟨hl.1, hl.2.1, fun q hq => hl.2.2 q ?_⟩, fun j v h1 h2 => ?_⟩
  · obtain ⟨v, h1, h2, h3⟩ := lvL_mem.mp hq
    obtain ⟨i, w⟩ := q
    dsimp only at h1 h3
    have := la_mem (vs.map (cv b0)) 0 i (cv b0 v) hc' (by rw [List.getElem?_map, key i v h1 h2]; rfl)
    rw [Nat.zero_add] at this
    rw [h3]; exact this
  · by_cases hn : v = .null
    · subst hn; cases h2
    · have := hc v (List.mem_of_getElem? (key j v h1 hn))
      omega
section MAIN
variable {l : Launch}
def Snd (l : Launch) (n : Nat) : Prop := ∀ (b0 : Nat) (D : va_G) (cA : Nat → ClassId) (mi pc : Nat) (L st : List Value) (M M' : List va_E) (r : Option Value), ev n mi pc L st M = some (M', r) →
  ∀ (p : Program) (e : Env) (R : Room) (s : State) (m : MethodId) (args : Array Value) (below : List Frame) (meth : Method) (c : Code), Fx b0 D cA mi p R s m args meth c →
  ∀ (H : Heap) (locs : List Loc) (cells slots : Nat) (ls : Array Slot), Lh b0 mi ls L → va_P D vwCl (wsOf b0 cA M) H → va_S (fr0 b0) s.heap H locs → s.heap.size + cells = b0 + M.length →
  cells + (M'.length - M.length) ≤ R.cells → slots + (szM M' - szM M) ≤ R.slots →
  W p l e R s m args below meth c H locs cells slots (MQ below (Qcn b0 D cA M' r) args s (cells + (M'.length - M.length)) (slots + (szM M' - szM M)) (fr0 b0)) (F0 m pc ls (st.map (cv b0)))
theorem met_of {n : Nat} (ih : Snd l n) {b0 : Nat} {D : va_G} {cA : Nat → ClassId} {y : Nat} {vs : List Value} {M M' : List va_E} {r : Option Value} (h : ev n y 0 (entL vs (mL y)) [] M = some (M', r)) (hc : ∀ v ∈ vs, v.category = 1) (hn : vs.length ≤ mL y) :
    Met l (my y) (wsM y) (rmM y (M'.length - M.length) (szM M' - szM M)) (Pcn b0 D cA M vs) (Qcn b0 D cA M' r) (M'.length - M.length) (szM M' - szM M) (fr0 b0) := by
  refine Met.ofW (cc := mb y) (maxL := mL y) (ret := mr y) (m_plain y) rfl ?_
  intro p e s m args below meth c s₁ B hml hv
  obtain ⟨rfl, hsz, hP, hK, hN⟩ := hv
  have hts : ∀ w ∈ wsM y, w.before (vs.map (cv b0)).toArray s = true := atoms_spec (ws := wsM y) B.pre
  have hown : s.vm.findClass (my y).cls = some m.cls := findClass_of_methodNamed B.named
  rw [lg_entry_eq]
  have F : Fx b0 D cA y p (headSpec (wsM y) (rmM y (M'.length - M.length) (szM M' - szM M))).room s m (vs.map (cv b0)).toArray meth c :=
    ⟨B.exec, B.bytes, hml, B.returns, by rw [← m_cls]; exact hown, fun w hw => hts w (List.mem_cons_of_mem _ hw), B.notSynchronized, (name_of_methodNamed B.named B.method).1, Nat.le_refl _, Nat.le_refl _, hK, hN, by omega⟩
  have hS : va_S (fr0 b0) s.heap s.heap [] := va_S.rf
  have := ih b0 D cA y 0 _ [] M M' r h p e _ s m _ below meth c F s.heap [] 0 0 _ (Lh_entry hc hn) hP hS (by omega) (by rw [Nat.zero_add]; exact Nat.le_refl _) (by rw [Nat.zero_add]; exact Nat.le_refl _)
  rw [Nat.zero_add, Nat.zero_add] at this
  exact this
variable {p : Program} {e : Env} {R : Room} {s : State} {m : MethodId} {args : Array Value} {below : List Frame} {meth : Method} {c : Code} {H : Heap} {locs : List Loc} {cells slots : Nat} {Q : State → Prop}
variable {b0 : Nat} {D : va_G} {cA : Nat → ClassId} {mi : Nat} {pc : Nat} {ls : Array Slot} {L st : List Value} {M M' : List va_E}
theorem so_run {mc ms : Nat} {st0 rest : List Value} {a : Array Value} {M1 : List va_E} {v : Option Value} (hr : va_Run p l e R s m args below meth c H locs cells slots mc ms (F0 m pc ls st0) rest (Qcn b0 D cA M1 v a) (fr0 b0)) (hS : va_S (fr0 b0) s.heap H locs)
    (kk : ∀ H1 locs1, va_P D vwCl (wsOf b0 cA M1) H1 → va_S (fr0 b0) s.heap H1 locs1 → W p l e R s m args below meth c H1 locs1 (cells + mc) (slots + ms) Q (F0 m (pc + 3) ls ((v.map (cv b0)).toList ++ rest))) : W p l e R s m args below meth c H locs cells slots Q (F0 m pc ls st0) := by
  intro T hT X
  obtain ⟨w, st₀, t, T', L', h0, X', hL, e1, e2, ⟨hv, hq, hz, hk⟩, st'⟩ := hr T hT X
  cases hv
  rw [h0] at hz hk
  obtain ⟨t2, a1, b1⟩ := kk T'.heap (locs ++ L') (by rw [e1]; exact hq) ⟨Nat.le_trans hS.1 (by rw [e1]; exact hz), fun q h1 h2 => by rw [e1, hk q (Nat.lt_of_lt_of_le h1 hS.1) h2]; exact hS.2.1 q h1 h2, fun q hq => by
      rcases List.mem_append.mp hq with h | h
      · exact hS.2.2 q h
      · exact hL q h⟩ T' rfl X'
  exact ⟨t2, st' t2 a1, b1⟩
theorem okC_some {y : Nat} {r as : List Value} (h : okC mi y r as = true) : rf y + 1 ≤ rf mi ∧ 19 + mL y + rl y ≤ rl mi ∧ cats r ≤ 8 ∧ (∀ v ∈ as, v.category = 1) ∧ as.length ≤ mL y := by
  unfold okC at h
  simp only [Bool.and_eq_true, decide_eq_true_eq, List.all_eq_true, beq_iff_eq] at h
  exact ⟨h.1.1.1.1, h.1.1.1.2, h.1.1.2, h.1.2, h.2⟩
/-- a call, whatever its way -/
theorem so_call {i : Instr} {y n : Nat} {as r : List Value} {M1 : List va_E} {v : Option Value} (F : Fx b0 D cA mi p R s m args meth c) (hls : ls.size = mL mi) (hsz : s.heap.size + cells = b0 + M.length) (hP : va_P D vwCl (wsOf b0 cA M) H) (hS : va_S (fr0 b0) s.heap H locs) (hd : decode (mb mi) pc = .ok (i, 3)) (h : stepC mi i st M = some (y, as, r)) (ih : Snd l n) (he : ev n y 0 (entL as (mL y)) [] M = some (M1, v))
    (hcl : cells + (M1.length - M.length) ≤ R.cells) (hsl : slots + (szM M1 - szM M) ≤ R.slots)
    (kk : ∀ H1 locs1, va_P D vwCl (wsOf b0 cA M1) H1 → va_S (fr0 b0) s.heap H1 locs1 → W p l e R s m args below meth c H1 locs1 (cells + (M1.length - M.length)) (slots + (szM M1 - szM M)) Q (F0 m (pc + 3) ls ((v.map (cv b0)).toList ++ r.map (cv b0)))) : W p l e R s m args below meth c H locs cells slots Q (F0 m pc ls (st.map (cv b0))) := by
  obtain ⟨hx, hb, hml, hr, hown, hts, hlk, hnm, hfr, hlo, hK, hN, hb0⟩ := id F
  refine W_size (fun hz => ?_)
  have hlow := P_low hP (Nat.le_trans hb0 hS.1)
  have hH : H.size = b0 + M.length := by omega
  have hpre : ∀ U : State, U.heap = H → s.WarmedH U.vm → Pcn b0 D cA M as (as.map (cv b0)).toArray U := fun U hU hW => ⟨rfl, by rw [hU]; exact hH, by rw [hU]; exact hP, va_K.moved hW.alike hK, hN.warm hW⟩
  have hcb : ∀ x k, ctab.lookup (mo mi, x) = some (k, y) → k < 3 → okC mi y r as = true → CallB R s args (cn (mo mi)) x (my y) (mb y) (mL y) (mr y) (wsM y) (rmM y (M1.length - M.length) (szM M1 - szM M)) (M1.length - M.length) (szM M1 - szM M) (mn y) := by
    intro x k hc hk3 hok
    obtain ⟨o1, o2, -⟩ := okC_some hok
    have hw := c_link hc (by omega)
    unfold cWord at hw
    dsimp only at hw
    rw [if_neg (by omega), if_pos hk3] at hw
    exact callB_of (mn y) hts (wsM_good y) rfl rfl rfl (hts _ (m_init y)) (hts _ hw) (m_desc y) ⟨Nat.le_trans o1 hfr, by show 8 + (mL y + 11) + rl y ≤ _; omega⟩
  have hcn : ∀ x k, ctab.lookup (mo mi, x) = some (k, y) → k = 3 ∨ k = 4 → okC mi y r as = true → va_CN R s args (cn (mo mi)) x (my y) RX7 (mb y) (mL y) (mr y) (wsM y) (rmM y (M1.length - M.length) (szM M1 - szM M)) (M1.length - M.length) (szM M1 - szM M) (mn y) := by
    intro x k hc hk3 hok
    obtain ⟨o1, o2, -⟩ := okC_some hok
    have hq : ((mo mi, x), k, y) ∈ ctab2 := List.mem_filter.mpr ⟨lk_mem hc, by rcases hk3 with rfl | rfl <;> rfl⟩
    have hw : va_Nw (.methodLinkNest (cn (mo mi)) x (my y) RX7) s := hN.1 ((mo mi, x), k, y) hq
    exact va_cnB (mn y) hts (wsM_good y) rfl rfl rfl hw (hts _ (m_init y)) (m_desc y) ⟨Nat.le_trans o1 hfr, by show 8 + (mL y + 11) + rl y ≤ _; omega⟩
  have hst : ∀ a : Nat, st.drop (mn y) = .ref a :: r → st.map (cv b0) = (((st.take (mn y)).reverse).map (cv b0)).reverse ++ .ref (b0 + a) :: r.map (cv b0) ∧ (((st.take (mn y)).reverse).map (cv b0)).length = mn y := by
    intro a hdr
    have h1 : mn y < st.length := by
      rcases Nat.lt_or_ge (mn y) st.length with q | q
      · exact q
      · rw [List.drop_eq_nil_of_le q] at hdr; cases hdr
    constructor
    · rw [List.map_reverse, List.reverse_reverse]
      conv => lhs; rw [← List.take_append_drop (mn y) st, hdr, List.map_append]
      rfl
    · simp; omega
  unfold stepC at h
  split at h
  · split at h
    · rename_i y' hc
      split at h
      · rename_i a r' hdr
        split at h
        · rename_i hok
          cases h
          obtain ⟨o1, o2, o3, o4, o5⟩ := okC_some hok.2
          obtain ⟨s1, s2⟩ := hst a hdr
          have hct := ct_ok _ (lk_mem hc)
          obtain ⟨c1, c2, c3⟩ := hct.2.1 rfl
          have hsel : Cond.selects (my y).cls (my y) (my y) ∈ lwg := by
            rcases c2 with q | q
            · exact lwg_of c_se c_se_g _ (List.mem_map.mpr ⟨_, q, rfl⟩)
            · exact List.mem_filter.mpr ⟨List.mem_append_left _ (subW_mem _ _ c_pr _ (List.mem_map.mpr ⟨_, q, rfl⟩)), List.all_eq_true.mp c_pr_g _ (List.mem_map.mpr ⟨_, q, rfl⟩)⟩
          have hrecv : ∃ cell : Cell, H[b0 + a]? = some cell ∧ cell.vm.isStatics = false ∧ s.vm.findClass (my y).cls = some cell.cls := by
            have ho := hok.1
            unfold isO at ho
            split at ho
            · rename_i c0 fs hM
              have e0 : c0 = mo y := by simpa using ho
              subst e0
              have := va_recv hK hP (cl_at c3) (ws_at hM)
              rw [m_cls]
              have e1 : cn (mo y) = clR (mo y) := by
                dsimp only at c3
                match mo y, c3 with
                | 0, _ => rfl
                | 1, _ => rfl
                | 2, _ => rfl
                | 3, _ => rfl
                | 4, _ => rfl
                | 5, _ => rfl
                | 6, _ => rfl
                | 7, _ => rfl
                | 8, _ => rfl
              rw [e1]
              exact this
            · cases ho
          refine so_run (va_runV (As := ((st.take (mn y)).reverse).map (cv b0)) (rest := r.map (cv b0)) ⟨hx, hb, hml, hown, hts⟩ (met_of ih he o4 o5) ⟨hcb _ 0 hc (by decide) hok.2, hts _ (lwg_of c_im c_im_g _ (List.mem_map.mpr ⟨_, c1, rfl⟩)), hts _ hsel⟩ ⟨Pcn_blind, hrecv, hpre⟩ rfl s2 hls s1 (lv_room (by rw [cats_cv]; exact o3)) hd ⟨hcl, hsl⟩) hS kk
        · cases h
      · cases h
    · cases h
  · split at h
    · rename_i k y' hc
      split at h
      · rename_i hk
        split at h
        · rename_i a r' hdr
          split at h
          · rename_i hok
            cases h
            obtain ⟨o1, o2, o3, o4, o5⟩ := okC_some hok
            obtain ⟨s1, s2⟩ := hst a hdr
            have hct := ct_ok _ (lk_mem hc)
            obtain ⟨c1, c2, c3⟩ := hct.2.2.1 hk
            dsimp only at c1 c2 c3
            have him := hts _ (lwg_of c_im c_im_g _ (List.mem_map.mpr ⟨_, c1, rfl⟩))
            rcases hk with rfl | rfl
            · have cb := hcb _ 1 hc (by decide) hok
              rw [c3] at cb
              exact so_run (va_runI (As := ((st.take (mn y)).reverse).map (cv b0)) (rest := r.map (cv b0)) ⟨hx, hb, hml, hown, hts⟩ (met_of ih he o4 o5) ⟨cb, c2, him⟩ ⟨Pcn_blind, hpre⟩ rfl s2 hls s1 (lv_room (by rw [cats_cv]; exact o3)) hd ⟨hcl, hsl⟩) hS kk
            · have cb := hcn _ 3 hc (Or.inl rfl) hok
              rw [c3] at cb
              exact so_run (va_runIN (As := ((st.take (mn y)).reverse).map (cv b0)) (rest := r.map (cv b0)) ⟨hx, hb, hml, hown, hts⟩ (met_of ih he o4 o5) ⟨cb, c2, him⟩ ⟨Pcn_blind, hpre⟩ rfl s2 hls s1 (lv_room (by rw [cats_cv]; exact o3)) hd ⟨hcl, hsl⟩) hS kk
          · cases h
        · cases h
      · cases h
    · cases h
  · split at h
    · rename_i k y' hc
      split at h
      · rename_i hk
        split at h
        · rename_i hok
          cases h
          obtain ⟨hk, hlen⟩ := hk
          obtain ⟨o1, o2, o3, o4, o5⟩ := okC_some hok
          have hct := ct_ok _ (lk_mem hc)
          have c1 := hct.2.2.2 hk
          dsimp only at c1
          have hstt := hts _ (lwg_of c_sm c_sm_g _ (List.mem_map.mpr ⟨_, c1, rfl⟩))
          have s1 : st.map (cv b0) = (((st.take (mn y)).reverse).map (cv b0)).reverse ++ (st.drop (mn y)).map (cv b0) := by
            rw [List.map_reverse, List.reverse_reverse, ← List.map_append, List.take_append_drop]
          have s2 : (((st.take (mn y)).reverse).map (cv b0)).length = mn y := by simp; omega
          rcases hk with rfl | rfl
          · exact so_run (va_runS (As := ((st.take (mn y)).reverse).map (cv b0)) (rest := (st.drop (mn y)).map (cv b0)) ⟨hx, hb, hml, hown, hts⟩ (met_of ih he o4 o5) ⟨hcb _ 2 hc (by decide) hok, hstt⟩ ⟨Pcn_blind, hpre⟩ rfl s2 hls s1 (lv_room (by rw [cats_cv]; exact o3)) hd ⟨hcl, hsl⟩) hS kk
          · exact so_run (va_runSN (As := ((st.take (mn y)).reverse).map (cv b0)) (rest := (st.drop (mn y)).map (cv b0)) ⟨hx, hb, hml, hown, hts⟩ (met_of ih he o4 o5) ⟨hcn _ 4 hc (Or.inr rfl) hok, hstt, trivial⟩ ⟨Pcn_blind, hpre⟩ rfl s2 hls s1 (lv_room (by rw [cats_cv]; exact o3)) hd ⟨hcl, hsl⟩) hS kk
        · cases h
      · cases h
    · cases h
  · cases h
theorem so_ret {i : Instr} {v : Option Value} (F : Fx b0 D cA mi p R s m args meth c) (hP : va_P D vwCl (wsOf b0 cA M) H) (hS : va_S (fr0 b0) s.heap H locs) (hd : decode (mb mi) pc = .ok (i, 1)) (h : stepR mi i st = some v) : W p l e R s m args below meth c H locs cells slots (MQ below (Qcn b0 D cA M v) args s cells slots (fr0 b0)) (F0 m pc ls (st.map (cv b0))) := by
  obtain ⟨hx, hb, hml, hr, hown, hts, hlk, hnm, hfr, hlo, hK, hN, hb0⟩ := id F
  unfold stepR at h
  split at h
  · split at h
    · rename_i hn
      split at h
      · rename_i hs
        cases h; subst hs
        exact W.vret hx hb (hr.trans hn) (fun t ht _ => ⟨rfl, by rw [ht]; exact hP, hS.F ht⟩) hS.2.2 hd hlk
      · cases h
    · cases h
  · split at h
    · rename_i v0 hn
      cases h
      exact W.iret hx hb (hr.trans hn) (fun t ht _ => ⟨rfl, by rw [ht]; exact hP, hS.F ht⟩) hS.2.2 hd hlk
    · rename_i v0 hn
      split at h
      · rename_i hv
        cases h
        exact W.zret hx hb (hr.trans hn) hv (fun t ht _ => ⟨rfl, by rw [ht]; exact hP, hS.F ht⟩) hS.2.2 hd hlk
      · cases h
    · cases h
  · cases h
theorem snd_all : ∀ n : Nat, Snd l n := by
  intro n
  induction n with
  | zero => intro b0 D cA mi pc L st M M' r h; cases h
  | succ n ih =>
    intro b0 D cA mi pc L st M M' r h p e R s m args below meth c F H locs cells slots ls hl hP hS hsz hcl hsl
    unfold ev at h
    split at h
    · rename_i i len hd
      split at h
      · rename_i pc' L' st' hs
        exact so_pure F hl hd hs (fun ls' hl' => ih _ _ _ _ _ _ _ _ _ _ h p e R s m args below meth c F _ _ _ _ _ hl' hP hS hsz hcl hsl)
      · split at h
        · rename_i k st' M1 hs
          split at h
          · rename_i hk
            subst hk
            obtain ⟨z1, z2⟩ := stepM_len hs
            refine so_mem F hl.1.1 hP hS hd hs (by omega) (by omega) (fun H' locs' q1 q2 => ?_)
            have := ih _ _ _ _ _ _ _ _ _ _ h p e R s m args below meth c F H' locs' cells slots ls hl q1 q2 (by rw [z1]; exact hsz) (by rw [z1]; exact hcl) (by rw [z2]; exact hsl)
            rw [z1, z2] at this
            exact this
          · cases h
        · split at h
          · rename_i k st' ce hs
            split at h
            · rename_i hk
              subst hk
              obtain ⟨z1, z2⟩ := ev_len _ _ _ _ _ _ _ _ h
              rw [sz_app] at z2
              rw [List.length_append, List.length_singleton] at z1
              refine so_new F hsz hP hS hd hs (by omega) (by omega) (fun H' q1 q2 => ?_)
              have := ih _ _ _ _ _ _ _ _ _ _ h p e R s m args below meth c F H' locs (cells + 1) (slots + szE ce) ls hl q1 q2 (by rw [List.length_append, List.length_singleton]; omega) (by rw [List.length_append, List.length_singleton]; omega) (by rw [sz_app]; omega)
              rw [List.length_append, List.length_singleton, sz_app, show cells + 1 + (M'.length - (M.length + 1)) = cells + (M'.length - M.length) by omega, show slots + szE ce + (szM M' - (szM M + szE ce)) = slots + (szM M' - szM M) by omega] at this
              exact this
            · cases h
          · split at h
            · rename_i y as r' hs
              split at h
              · rename_i hk
                subst hk
                split at h
                · rename_i M1 v he
                  obtain ⟨z1, z2⟩ := ev_len _ _ _ _ _ _ _ _ he
                  obtain ⟨y1, y2⟩ := ev_len _ _ _ _ _ _ _ _ h
                  refine so_call F hl.1.1 hsz hP hS hd hs ih he (by omega) (by omega) (fun H1 locs1 q1 q2 => ?_)
                  have := ih _ _ _ _ _ _ _ _ _ _ h p e R s m args below meth c F H1 locs1 (cells + (M1.length - M.length)) (slots + (szM M1 - szM M)) ls hl q1 q2 (by omega) (by omega) (by omega)
                  rw [show cells + (M1.length - M.length) + (M'.length - M1.length) = cells + (M'.length - M.length) by omega, show slots + (szM M1 - szM M) + (szM M' - szM M1) = slots + (szM M' - szM M) by omega, List.map_append] at this
                  cases v with
                  | none => exact this
                  | some v => exact this
                · cases h
              · cases h
            · split at h
              · rename_i v hs
                split at h
                · rename_i hk
                  subst hk
                  cases h
                  rw [Nat.sub_self, Nat.sub_self, Nat.add_zero, Nat.add_zero]
                  exact so_ret F hP hS hd hs
                · cases h
              · cases h
    · cases h
/-- THE CONTRACT out of a run of the interpreter -/
theorem met_ev {n : Nat} {y : Nat} {vs : List Value} {r : Option Value} (b0 : Nat) (D : va_G) (cA : Nat → ClassId) (h : ev n y 0 (entL vs (mL y)) [] M = some (M', r)) (hc : ∀ v ∈ vs, v.category = 1) (hn : vs.length ≤ mL y) :
    Met l (my y) (wsM y) (rmM y (M'.length - M.length) (szM M' - szM M)) (Pcn b0 D cA M vs) (Qcn b0 D cA M' r) (M'.length - M.length) (szM M' - szM M) (fr0 b0) := met_of (snd_all n) h hc hn
end MAIN
