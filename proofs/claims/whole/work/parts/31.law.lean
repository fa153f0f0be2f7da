-- THE LAW, over any relation that every call keeps
/-! THE CLAIM OUT OF ONE WALK OF THE LAW'S BODY. Your part is whole_start (and what it stands on); all else here is the same for every law, but numbers. -/
def R_law : String := "GullDeedsLaw"
def lw_P (b : Addr) (xs : List Int32) (args : Array Value) (s : State) : Prop := args = #[.ref b] ∧ s.IntsAt b xs ∧ xs.length ≤ 2048 ∧ (Jvm.Cond.and given_1 narrow_1).before args s = true
def lw_Q (_ : Array Value) (s : State) (o : Outcome) (t : State) : Prop := o = .returned (some (.int 1)) ∧ Framed s o t [] 600000 7302250
def lw_Z (below : List Frame) (a : Array Value) (s : State) : State → Prop := fun t => ∃ o, t.status = .running ∧ Ended t below o ∧ lw_Q a s o t
/-- the law's own end, with 1 on the stack, nothing written that was there before, its room as the claim has it -/
theorem lw_ret {p : Program} {l : Launch} {e : Env} {s : State} {m : MethodId} {below : List Frame} {meth : Method} {c : Code} {b : Nat} (hx : p.tables.exec = Jvm.exec) (hb : c.code = code) (hr : meth.sig.returnType = ret) (hlocks : meth.locks = false) {pc : Nat} {H : Heap} {ls : Array Slot} (hdg : decode code pc = .ok (.ireturn, 1)) : W p l e room_1 s m #[Value.ref b] below meth c H [] 600000 7302250 (lw_Z below #[Value.ref b] s) (F0 m pc ls [.int 1]) := by
  intro T hT X
  obtain ⟨fs, hret, hrun, hended, hW, hframe⟩ := X.leave (v := some (.int 1)) (hlocks := hlocks) (fun h => by rw [hr] at h; cases h)
  have hmeth' : T.vm.method? m = some meth := X.method'
  refine ⟨T.setFrames fs, ?_, .returned (some (.int 1)), hrun, hended, rfl, ⟨_, rfl⟩, hW, hframe⟩
  jvm_step X.here [X.here.top, hx, hb, hdg, hmeth', hr, ret, narrow_b1]
  (try refine ⟨rfl, ?_⟩); (try refine ⟨rfl, ?_⟩)
  first | (intro acts; rw [hret _ acts rfl rfl rfl]) | rw [hret _ _ rfl rfl rfl]
  exact Steps.refl _
/-- what holds at the law's entry: the machine, the code, the tables' words (any of lw_tbl by 'hts w (by decide +kernel)'), the script of L ints xs at the cell b, what the Statement gives of the start (any of its parts by flat_of_before) -/
def lw_At (p : Program) (s : State) (m : MethodId) (meth : Method) (c : Code) (b L : Nat) (xs : Nat → Int32) : Prop :=
  p.tables.exec = Jvm.exec ∧ c.code = code ∧ meth.sig.returnType = ret ∧ c.maxLocals = 4 ∧ s.vm.findClass R_law = some m.cls ∧ (∀ w ∈ lw_tbl, w.before #[Value.ref b] s = true) ∧ va_X b L xs s s.heap ∧ b < s.heap.size ∧ meth.locks = false ∧ (Jvm.Cond.and given_1 narrow_1).before #[Value.ref b] s = true
def lawT : List (Nat × Nat) := [(9, mX7_init), (13, mX7_feed), (18, mX7_row), (23, mX7_fault), (27, mX7_told), (31, mX7_house), (36, mX7_gull), (40, mX7_ahead), (44, mX7_logged), (48, mX7_day), (52, mX7_pay), (56, mX7_bread), (60, mX7_stone), (64, mX7_lend), (68, mX7_swap), (72, mX7_drift), (76, mX7_undo), (80, mX7_owes), (84, mX7_firstOut), (88, mX7_outBy), (92, mX7_redeemedBy), (96, mX7_loan), (100, mX7_clear), (104, mX7_bestSwap), (108, mX7_home), (112, mX7_mostBread), (116, mX7_sure), (120, mX7_hear), (125, mX7_gales), (129, mX7_listen), (133, mX7_write), (137, mX7_judge), (141, mX7_tear), (145, mX7_seed), (149, mX7_keep), (153, mX7_goBack), (12, mX8_init), (17, mX8_feed), (22, mX8_row), (26, mX8_fault), (30, mX8_told), (35, mX8_house), (39, mX8_gull), (43, mX8_ahead), (47, mX8_logged), (51, mX8_day), (55, mX8_pay), (59, mX8_bread), (63, mX8_stone), (67, mX8_lend), (71, mX8_swap), (75, mX8_drift), (79, mX8_undo), (83, mX8_owes), (87, mX8_firstOut), (91, mX8_outBy), (95, mX8_redeemedBy), (99, mX8_loan), (103, mX8_clear), (107, mX8_bestSwap), (111, mX8_home), (115, mX8_mostBread), (119, mX8_sure), (124, mX8_hear), (128, mX8_gales), (132, mX8_listen), (136, mX8_write), (140, mX8_judge), (144, mX8_tear), (148, mX8_seed), (152, mX8_keep), (156, mX8_goBack)]
set_option maxRecDepth 100000 in
theorem c_lw : subW (lawT.map fun q => Cond.methodLink RL q.1 (my q.2)) tables_1 = true := by decide +kernel
theorem lw_lnk {q : Nat × Nat} (h : q ∈ lawT) : Cond.methodLink RL q.1 (my q.2) ∈ lw_tbl := List.mem_append_right _ (subW_mem _ _ c_lw _ (List.mem_map.mpr ⟨q, h, rfl⟩))
set_option maxRecDepth 100000 in
theorem lw_room_ok : ∀ q ∈ lawT, rf q.2 + 1 ≤ 10 ∧ 19 + mL q.2 + rl q.2 ≤ 366 := by decide +kernel
theorem lwg_in {w : Cond} (h : w ∈ lwg) : w ∈ lw_tbl := (List.mem_filter.mp h).1
theorem enc_len (σ : Mem) : (enc σ).length = 256 := by unfold enc; rw [List.length_map]; exact tb_len
theorem szF (k i : Nat) (f g : Nat → Int32) : szE (cellF k i f) = szE (cellF k i g) := by
  unfold cellF
  split <;> rfl
theorem enc_sz (σ τ : Mem) : szM (enc σ) = szM (enc τ) := by
  have key : ∀ (l : List (Nat × Nat)), (l.map (fun q => cellF q.1 q.2 (vw σ q.1 q.2))).map szE = (l.map (fun q => cellF q.1 q.2 (vw τ q.1 q.2))).map szE := by
    intro l
    induction l with
    | nil => rfl
    | cons a l ih =>
      simp only [List.map_cons]
      rw [ih, szF _ _ (vw σ a.1 a.2) (vw τ a.1 a.2)]
  exact congrArg List.sum (key tbK)
def SZ : Nat := szM (enc (fun _ _ _ => 0))
set_option maxRecDepth 100000 in
theorem SZ_le : SZ ≤ 7302250 := by decide +kernel
/-- a call of both, with the same answer -/
def Sim (Rel : Mem → Prop) (mc mm : Nat) (vs : List Value) : Prop := ∀ σ, Rel σ → ∃ (n1 n2 : Nat) (σ1 σ2 : Mem) (r : Int32), ev n1 mc 0 (entL (.ref (ad 0 0) :: vs) (mL mc)) [] (enc σ) = some (enc σ1, some (.int r)) ∧ ev n2 mm 0 (entL (.ref (ad 29 0) :: vs) (mL mm)) [] (enc σ1) = some (enc σ2, some (.int r)) ∧ Rel σ2
section LAW
variable {p : Program} {l : Launch} {e : Env} {s : State} {m : MethodId} {below : List Frame} {meth : Method} {c : Code} {b Ln : Nat} {xs : Nat → Int32} {H : Heap} {locs : List Loc} {Q : State → Prop}
variable {D : va_G} {cA : Nat → ClassId} {pc : Nat} {ls : Array Slot} {rest : List Value} {σ σ' : Mem} {cells slots sl : Nat}
theorem lw_arg {i k : Nat} (C0 : lw_At p s m meth c b Ln xs) (hS : va_S (fr0 s.heap.size) s.heap H locs) (hl : lv_has ls 4 [(0, .ref b), (1, .ref (s.heap.size + ad 0 0)), (2, .ref (s.heap.size + ad 29 0)), (3, .int (nI i))]) (hk : Int32.ofInt k = nI k) (hi : i + k < Ln) (hL : Ln ≤ 2048)
    (d0 : decode code pc = .ok (.aload_n 0, 1)) (d1 : decode code (pc + 1) = .ok (.iload_n 3, 1)) (d2 : decode code (pc + 2) = .ok (.iconst k, 1)) (d3 : decode code (pc + 3) = .ok (.iadd, 1)) (d4 : decode code (pc + 4) = .ok (.iaload, 1))
    (kk : W p l e room_1 s m #[Value.ref b] below meth c H locs cells slots Q (F0 m (pc + 5) ls (.int (xs (i + k)) :: rest))) : W p l e room_1 s m #[Value.ref b] below meth c H locs cells slots Q (F0 m pc ls rest) := by
  obtain ⟨hx, hb, hr, hml, hown, hts, hX, hbl, hlocks, hgv⟩ := C0
  refine lv_aload_n hx hb d0 rfl (lv_at hl 0 rfl) ?_
  refine lv_iload_n hx hb d1 rfl (lv_at hl 3 rfl) ?_
  refine lv_iconst (v := nI k) hx hb d2 hk ?_
  refine lv_iadd hx hb d3 ?_
  have hin : vp_in (nI i + nI k) Ln := by rw [nI_add]; exact vp_in_nI hi (by omega)
  refine va_sld hx hb hX hbl (A := fr0 s.heap.size) (fun h => by unfold fr0 at h; omega) hS hin d4 ?_
  rw [nI_add, nI_clamp (by omega)]
  exact kk
theorem lw_call {y a n : Nat} {idx : Nat} {vs : List Value} {r : Int32} (C0 : lw_At p s m meth c b Ln xs) (hls : ls.size = 4) (hK : va_K D vwCl (tysC cA) s) (hN : NWs s) (hP : va_P D vwCl (wsOf s.heap.size cA (enc σ)) H) (hS : va_S (fr0 s.heap.size) s.heap H locs) (hq : (idx, y) ∈ lawT) (him : y ∈ imL) (hse : y ∈ seL) (h9 : mo y < 9) (hO : isO (enc σ) a (mo y) = true)
    (he : ev n y 0 (entL (.ref a :: vs) (mL y)) [] (enc σ) = some (enc σ', some (.int r))) (hc : ∀ v ∈ Value.ref a :: vs, v.category = 1) (hn : (Value.ref a :: vs).length ≤ mL y) (hmn : vs.length = mn y) (hr : cats rest ≤ 8) (hsl : sl ≤ 7302250) (hd : decode code pc = .ok (.invokevirtual idx, 3)) {st0 : List Value} (hst : st0 = (vs.map (cv s.heap.size)).reverse ++ .ref (s.heap.size + a) :: rest)
    (kk : ∀ H1 locs1, va_P D vwCl (wsOf s.heap.size cA (enc σ')) H1 → va_S (fr0 s.heap.size) s.heap H1 locs1 → W p l e room_1 s m #[Value.ref b] below meth c H1 locs1 256 sl Q (F0 m (pc + 3) ls (.int r :: rest))) : W p l e room_1 s m #[Value.ref b] below meth c H locs 256 sl Q (F0 m pc ls st0) := by
  obtain ⟨hx, hb, hrt, hml, hown, hts, hX, hbl, hlocks, hgv⟩ := C0
  subst hst
  refine W_size (fun hz => ?_)
  have hlow := P_low hP hS.1
  rw [enc_len] at hlow
  have hH : H.size = s.heap.size + (enc σ).length := by rw [enc_len]; omega
  have hg : ∀ w ∈ lwg, w.before #[Value.ref b] s = true := fun w h => hts w (lwg_in h)
  have hsel : Cond.selects (my y).cls (my y) (my y) ∈ lwg := lwg_of c_se c_se_g _ (List.mem_map.mpr ⟨_, hse, rfl⟩)
  have hrecv : ∃ cell : Cell, H[s.heap.size + a]? = some cell ∧ cell.vm.isStatics = false ∧ s.vm.findClass (my y).cls = some cell.cls := by
    unfold isO at hO
    split at hO
    · rename_i c0 fs hM
      have e0 : c0 = mo y := by simpa using hO
      subst e0
      have := va_recv hK hP (cl_at h9) (ws_at hM)
      rw [m_cls]
      have e1 : cn (mo y) = clR (mo y) := by
        match mo y, h9 with
        | 0, _ => rfl
        | 1, _ => rfl
        | 2, _ => rfl
        | 3, _ => rfl
        | 4, _ => rfl
        | 5, _ => rfl
        | 6, _ => rfl
        | 7, _ => rfl
        | 8, _ => rfl
      rw [e1]
      exact this
    · cases hO
  have hrm := lw_room_ok _ hq
  dsimp only at hrm
  have cb : CallB room_1 s #[Value.ref b] RL idx (my y) (mb y) (mL y) (mr y) (wsM y) (rmM y ((enc σ').length - (enc σ).length) (szM (enc σ') - szM (enc σ))) ((enc σ').length - (enc σ).length) (szM (enc σ') - szM (enc σ)) (mn y) :=
    callB_of (mn y) hg (wsM_good y) rfl rfl rfl (hg _ (m_init y)) (hts _ (lw_lnk hq)) (m_desc y) ⟨hrm.1, by show 8 + (mL y + 11) + rl y ≤ 366; omega⟩
  have hpre : ∀ U : State, U.heap = H → s.WarmedH U.vm → Pcn s.heap.size D cA (enc σ) (.ref a :: vs) (Value.ref (s.heap.size + a) :: vs.map (cv s.heap.size)).toArray U := fun U hU hW => ⟨rfl, by rw [hU]; exact hH, by rw [hU]; exact hP, va_K.moved hW.alike hK, hN.warm hW⟩
  have z1 : (enc σ').length - (enc σ).length = 0 := by rw [enc_len, enc_len]
  have z2 : szM (enc σ') - szM (enc σ) = 0 := by rw [enc_sz σ' σ]; omega
  refine so_run (Q := Q) (va_runV (As := vs.map (cv s.heap.size)) (rest := rest) ⟨hx, hb, hml, hown, hg⟩ (met_ev s.heap.size D cA he hc hn) ⟨cb, hg _ (lwg_of c_im c_im_g _ (List.mem_map.mpr ⟨_, him, rfl⟩)), hg _ hsel⟩ ⟨Pcn_blind, hrecv, hpre⟩ rfl (by rw [List.length_map]; exact hmn) hls rfl (lv_room hr) hd ⟨by rw [z1]; exact Nat.le_of_ble_eq_true rfl, by rw [z2, Nat.add_zero]; exact hsl⟩) hS (fun H1 locs1 q1 q2 => ?_)
  rw [z1, z2, Nat.add_zero, Nat.add_zero]
  exact kk H1 locs1 q1 q2
theorem lc_0 {Rel : Mem → Prop} {i : Nat} (sim : Sim Rel mX7_feed mX8_feed [.int (xs (i + 1))]) (hR : Rel σ) (C0 : lw_At p s m meth c b Ln xs) (hK : va_K D vwCl (tysC cA) s) (hN : NWs s) (hP : va_P D vwCl (wsOf s.heap.size cA (enc σ)) H) (hS : va_S (fr0 s.heap.size) s.heap H locs) (hl : lv_has ls 4 [(0, .ref b), (1, .ref (s.heap.size + ad 0 0)), (2, .ref (s.heap.size + ad 29 0)), (3, .int (nI i))]) (hi : i + 4 ≤ Ln) (hL : Ln ≤ 2048) (hsl : sl ≤ 7302250)
    (kk : ∀ σ2 H1 locs1, Rel σ2 → va_P D vwCl (wsOf s.heap.size cA (enc σ2)) H1 → va_S (fr0 s.heap.size) s.heap H1 locs1 → W p l e room_1 s m #[Value.ref b] below meth c H1 locs1 256 sl Q (F0 m 1079 ls [])) : W p l e room_1 s m #[Value.ref b] below meth c H locs 256 sl Q (F0 m 188 ls []) := by
  obtain ⟨n1, n2, σ1, σ2, r, e1, e2, hR2⟩ := sim σ hR
  obtain ⟨hx, hb, hr, hml, hown, hts, hX, hbl, hlocks, hgv⟩ := id C0
  refine lv_aload_n hx hb dL_188 rfl (lv_at hl 1 rfl) ?_
  refine lw_arg (k := 1) C0 hS hl (by decide) (by omega) hL dL_189 dL_190 dL_191 dL_192 dL_193 ?_
  refine lw_call (vs := [.int (xs (i + 1))]) (a := ad 0 0) C0 hl.1 hK hN hP hS (idx := 13) (y := mX7_feed) (by decide +kernel) (by decide +kernel) (by decide +kernel) (by decide +kernel) (isO_0 (by decide) _) e1 (by simp [Value.category]) (Nat.le_of_ble_eq_true rfl) hnX7_feed.symm (by simp [cats, Value.category]) hsl dL_194 rfl (fun H locs hP hS => ?_)
  refine lv_aload_n hx hb dL_197 rfl (lv_at hl 2 rfl) ?_
  refine lw_arg (k := 1) C0 hS hl (by decide) (by omega) hL dL_198 dL_199 dL_200 dL_201 dL_202 ?_
  refine lw_call (vs := [.int (xs (i + 1))]) (a := ad 29 0) C0 hl.1 hK hN hP hS (idx := 17) (y := mX8_feed) (by decide +kernel) (by decide +kernel) (by decide +kernel) (by decide +kernel) (isO_29 (by decide) _) e2 (by simp [Value.category]) (Nat.le_of_ble_eq_true rfl) hnX8_feed.symm (by simp [cats, Value.category]) hsl dL_203 rfl (fun H locs hP hS => ?_)
  refine lv_icmp_eq (tgt := 1079) hx hb dL_206 (by decide) (fun _ => kk σ2 H locs hR2 hP hS) (fun h => absurd rfl h)
theorem lc_1 {Rel : Mem → Prop} {i : Nat} (sim : Sim Rel mX7_row mX8_row []) (hR : Rel σ) (C0 : lw_At p s m meth c b Ln xs) (hK : va_K D vwCl (tysC cA) s) (hN : NWs s) (hP : va_P D vwCl (wsOf s.heap.size cA (enc σ)) H) (hS : va_S (fr0 s.heap.size) s.heap H locs) (hl : lv_has ls 4 [(0, .ref b), (1, .ref (s.heap.size + ad 0 0)), (2, .ref (s.heap.size + ad 29 0)), (3, .int (nI i))]) (hi : i + 4 ≤ Ln) (hL : Ln ≤ 2048) (hsl : sl ≤ 7302250)
    (kk : ∀ σ2 H1 locs1, Rel σ2 → va_P D vwCl (wsOf s.heap.size cA (enc σ2)) H1 → va_S (fr0 s.heap.size) s.heap H1 locs1 → W p l e room_1 s m #[Value.ref b] below meth c H1 locs1 256 sl Q (F0 m 1079 ls [])) : W p l e room_1 s m #[Value.ref b] below meth c H locs 256 sl Q (F0 m 211 ls []) := by
  obtain ⟨n1, n2, σ1, σ2, r, e1, e2, hR2⟩ := sim σ hR
  obtain ⟨hx, hb, hr, hml, hown, hts, hX, hbl, hlocks, hgv⟩ := id C0
  refine lv_aload_n hx hb dL_211 rfl (lv_at hl 1 rfl) ?_
  refine lw_call (vs := []) (a := ad 0 0) C0 hl.1 hK hN hP hS (idx := 18) (y := mX7_row) (by decide +kernel) (by decide +kernel) (by decide +kernel) (by decide +kernel) (isO_0 (by decide) _) e1 (by simp [Value.category]) (Nat.le_of_ble_eq_true rfl) hnX7_row.symm (by simp [cats, Value.category]) hsl dL_212 rfl (fun H locs hP hS => ?_)
  refine lv_aload_n hx hb dL_215 rfl (lv_at hl 2 rfl) ?_
  refine lw_call (vs := []) (a := ad 29 0) C0 hl.1 hK hN hP hS (idx := 22) (y := mX8_row) (by decide +kernel) (by decide +kernel) (by decide +kernel) (by decide +kernel) (isO_29 (by decide) _) e2 (by simp [Value.category]) (Nat.le_of_ble_eq_true rfl) hnX8_row.symm (by simp [cats, Value.category]) hsl dL_216 rfl (fun H locs hP hS => ?_)
  refine lv_icmp_eq (tgt := 1079) hx hb dL_219 (by decide) (fun _ => kk σ2 H locs hR2 hP hS) (fun h => absurd rfl h)
theorem lc_2 {Rel : Mem → Prop} {i : Nat} (sim : Sim Rel mX7_fault mX8_fault []) (hR : Rel σ) (C0 : lw_At p s m meth c b Ln xs) (hK : va_K D vwCl (tysC cA) s) (hN : NWs s) (hP : va_P D vwCl (wsOf s.heap.size cA (enc σ)) H) (hS : va_S (fr0 s.heap.size) s.heap H locs) (hl : lv_has ls 4 [(0, .ref b), (1, .ref (s.heap.size + ad 0 0)), (2, .ref (s.heap.size + ad 29 0)), (3, .int (nI i))]) (hi : i + 4 ≤ Ln) (hL : Ln ≤ 2048) (hsl : sl ≤ 7302250)
    (kk : ∀ σ2 H1 locs1, Rel σ2 → va_P D vwCl (wsOf s.heap.size cA (enc σ2)) H1 → va_S (fr0 s.heap.size) s.heap H1 locs1 → W p l e room_1 s m #[Value.ref b] below meth c H1 locs1 256 sl Q (F0 m 1079 ls [])) : W p l e room_1 s m #[Value.ref b] below meth c H locs 256 sl Q (F0 m 224 ls []) := by
  obtain ⟨n1, n2, σ1, σ2, r, e1, e2, hR2⟩ := sim σ hR
  obtain ⟨hx, hb, hr, hml, hown, hts, hX, hbl, hlocks, hgv⟩ := id C0
  refine lv_aload_n hx hb dL_224 rfl (lv_at hl 1 rfl) ?_
  refine lw_call (vs := []) (a := ad 0 0) C0 hl.1 hK hN hP hS (idx := 23) (y := mX7_fault) (by decide +kernel) (by decide +kernel) (by decide +kernel) (by decide +kernel) (isO_0 (by decide) _) e1 (by simp [Value.category]) (Nat.le_of_ble_eq_true rfl) hnX7_fault.symm (by simp [cats, Value.category]) hsl dL_225 rfl (fun H locs hP hS => ?_)
  refine lv_aload_n hx hb dL_228 rfl (lv_at hl 2 rfl) ?_
  refine lw_call (vs := []) (a := ad 29 0) C0 hl.1 hK hN hP hS (idx := 26) (y := mX8_fault) (by decide +kernel) (by decide +kernel) (by decide +kernel) (by decide +kernel) (isO_29 (by decide) _) e2 (by simp [Value.category]) (Nat.le_of_ble_eq_true rfl) hnX8_fault.symm (by simp [cats, Value.category]) hsl dL_229 rfl (fun H locs hP hS => ?_)
  refine lv_icmp_eq (tgt := 1079) hx hb dL_232 (by decide) (fun _ => kk σ2 H locs hR2 hP hS) (fun h => absurd rfl h)
theorem lc_3 {Rel : Mem → Prop} {i : Nat} (sim : Sim Rel mX7_told mX8_told [.int (xs (i + 1))]) (hR : Rel σ) (C0 : lw_At p s m meth c b Ln xs) (hK : va_K D vwCl (tysC cA) s) (hN : NWs s) (hP : va_P D vwCl (wsOf s.heap.size cA (enc σ)) H) (hS : va_S (fr0 s.heap.size) s.heap H locs) (hl : lv_has ls 4 [(0, .ref b), (1, .ref (s.heap.size + ad 0 0)), (2, .ref (s.heap.size + ad 29 0)), (3, .int (nI i))]) (hi : i + 4 ≤ Ln) (hL : Ln ≤ 2048) (hsl : sl ≤ 7302250)
    (kk : ∀ σ2 H1 locs1, Rel σ2 → va_P D vwCl (wsOf s.heap.size cA (enc σ2)) H1 → va_S (fr0 s.heap.size) s.heap H1 locs1 → W p l e room_1 s m #[Value.ref b] below meth c H1 locs1 256 sl Q (F0 m 1079 ls [])) : W p l e room_1 s m #[Value.ref b] below meth c H locs 256 sl Q (F0 m 237 ls []) := by
  obtain ⟨n1, n2, σ1, σ2, r, e1, e2, hR2⟩ := sim σ hR
  obtain ⟨hx, hb, hr, hml, hown, hts, hX, hbl, hlocks, hgv⟩ := id C0
  refine lv_aload_n hx hb dL_237 rfl (lv_at hl 1 rfl) ?_
  refine lw_arg (k := 1) C0 hS hl (by decide) (by omega) hL dL_238 dL_239 dL_240 dL_241 dL_242 ?_
  refine lw_call (vs := [.int (xs (i + 1))]) (a := ad 0 0) C0 hl.1 hK hN hP hS (idx := 27) (y := mX7_told) (by decide +kernel) (by decide +kernel) (by decide +kernel) (by decide +kernel) (isO_0 (by decide) _) e1 (by simp [Value.category]) (Nat.le_of_ble_eq_true rfl) hnX7_told.symm (by simp [cats, Value.category]) hsl dL_243 rfl (fun H locs hP hS => ?_)
  refine lv_aload_n hx hb dL_246 rfl (lv_at hl 2 rfl) ?_
  refine lw_arg (k := 1) C0 hS hl (by decide) (by omega) hL dL_247 dL_248 dL_249 dL_250 dL_251 ?_
  refine lw_call (vs := [.int (xs (i + 1))]) (a := ad 29 0) C0 hl.1 hK hN hP hS (idx := 30) (y := mX8_told) (by decide +kernel) (by decide +kernel) (by decide +kernel) (by decide +kernel) (isO_29 (by decide) _) e2 (by simp [Value.category]) (Nat.le_of_ble_eq_true rfl) hnX8_told.symm (by simp [cats, Value.category]) hsl dL_252 rfl (fun H locs hP hS => ?_)
  refine lv_icmp_eq (tgt := 1079) hx hb dL_255 (by decide) (fun _ => kk σ2 H locs hR2 hP hS) (fun h => absurd rfl h)
theorem lc_4 {Rel : Mem → Prop} {i : Nat} (sim : Sim Rel mX7_house mX8_house [.int (xs (i + 1)), .int (xs (i + 2))]) (hR : Rel σ) (C0 : lw_At p s m meth c b Ln xs) (hK : va_K D vwCl (tysC cA) s) (hN : NWs s) (hP : va_P D vwCl (wsOf s.heap.size cA (enc σ)) H) (hS : va_S (fr0 s.heap.size) s.heap H locs) (hl : lv_has ls 4 [(0, .ref b), (1, .ref (s.heap.size + ad 0 0)), (2, .ref (s.heap.size + ad 29 0)), (3, .int (nI i))]) (hi : i + 4 ≤ Ln) (hL : Ln ≤ 2048) (hsl : sl ≤ 7302250)
    (kk : ∀ σ2 H1 locs1, Rel σ2 → va_P D vwCl (wsOf s.heap.size cA (enc σ2)) H1 → va_S (fr0 s.heap.size) s.heap H1 locs1 → W p l e room_1 s m #[Value.ref b] below meth c H1 locs1 256 sl Q (F0 m 1079 ls [])) : W p l e room_1 s m #[Value.ref b] below meth c H locs 256 sl Q (F0 m 260 ls []) := by
  obtain ⟨n1, n2, σ1, σ2, r, e1, e2, hR2⟩ := sim σ hR
  obtain ⟨hx, hb, hr, hml, hown, hts, hX, hbl, hlocks, hgv⟩ := id C0
  refine lv_aload_n hx hb dL_260 rfl (lv_at hl 1 rfl) ?_
  refine lw_arg (k := 1) C0 hS hl (by decide) (by omega) hL dL_261 dL_262 dL_263 dL_264 dL_265 ?_
  refine lw_arg (k := 2) C0 hS hl (by decide) (by omega) hL dL_266 dL_267 dL_268 dL_269 dL_270 ?_
  refine lw_call (vs := [.int (xs (i + 1)), .int (xs (i + 2))]) (a := ad 0 0) C0 hl.1 hK hN hP hS (idx := 31) (y := mX7_house) (by decide +kernel) (by decide +kernel) (by decide +kernel) (by decide +kernel) (isO_0 (by decide) _) e1 (by simp [Value.category]) (Nat.le_of_ble_eq_true rfl) hnX7_house.symm (by simp [cats, Value.category]) hsl dL_271 rfl (fun H locs hP hS => ?_)
  refine lv_aload_n hx hb dL_274 rfl (lv_at hl 2 rfl) ?_
  refine lw_arg (k := 1) C0 hS hl (by decide) (by omega) hL dL_275 dL_276 dL_277 dL_278 dL_279 ?_
  refine lw_arg (k := 2) C0 hS hl (by decide) (by omega) hL dL_280 dL_281 dL_282 dL_283 dL_284 ?_
  refine lw_call (vs := [.int (xs (i + 1)), .int (xs (i + 2))]) (a := ad 29 0) C0 hl.1 hK hN hP hS (idx := 35) (y := mX8_house) (by decide +kernel) (by decide +kernel) (by decide +kernel) (by decide +kernel) (isO_29 (by decide) _) e2 (by simp [Value.category]) (Nat.le_of_ble_eq_true rfl) hnX8_house.symm (by simp [cats, Value.category]) hsl dL_285 rfl (fun H locs hP hS => ?_)
  refine lv_icmp_eq (tgt := 1079) hx hb dL_288 (by decide) (fun _ => kk σ2 H locs hR2 hP hS) (fun h => absurd rfl h)
theorem lc_5 {Rel : Mem → Prop} {i : Nat} (sim : Sim Rel mX7_gull mX8_gull [.int (xs (i + 1)), .int (xs (i + 2))]) (hR : Rel σ) (C0 : lw_At p s m meth c b Ln xs) (hK : va_K D vwCl (tysC cA) s) (hN : NWs s) (hP : va_P D vwCl (wsOf s.heap.size cA (enc σ)) H) (hS : va_S (fr0 s.heap.size) s.heap H locs) (hl : lv_has ls 4 [(0, .ref b), (1, .ref (s.heap.size + ad 0 0)), (2, .ref (s.heap.size + ad 29 0)), (3, .int (nI i))]) (hi : i + 4 ≤ Ln) (hL : Ln ≤ 2048) (hsl : sl ≤ 7302250)
    (kk : ∀ σ2 H1 locs1, Rel σ2 → va_P D vwCl (wsOf s.heap.size cA (enc σ2)) H1 → va_S (fr0 s.heap.size) s.heap H1 locs1 → W p l e room_1 s m #[Value.ref b] below meth c H1 locs1 256 sl Q (F0 m 1079 ls [])) : W p l e room_1 s m #[Value.ref b] below meth c H locs 256 sl Q (F0 m 293 ls []) := by
  obtain ⟨n1, n2, σ1, σ2, r, e1, e2, hR2⟩ := sim σ hR
  obtain ⟨hx, hb, hr, hml, hown, hts, hX, hbl, hlocks, hgv⟩ := id C0
  refine lv_aload_n hx hb dL_293 rfl (lv_at hl 1 rfl) ?_
  refine lw_arg (k := 1) C0 hS hl (by decide) (by omega) hL dL_294 dL_295 dL_296 dL_297 dL_298 ?_
  refine lw_arg (k := 2) C0 hS hl (by decide) (by omega) hL dL_299 dL_300 dL_301 dL_302 dL_303 ?_
  refine lw_call (vs := [.int (xs (i + 1)), .int (xs (i + 2))]) (a := ad 0 0) C0 hl.1 hK hN hP hS (idx := 36) (y := mX7_gull) (by decide +kernel) (by decide +kernel) (by decide +kernel) (by decide +kernel) (isO_0 (by decide) _) e1 (by simp [Value.category]) (Nat.le_of_ble_eq_true rfl) hnX7_gull.symm (by simp [cats, Value.category]) hsl dL_304 rfl (fun H locs hP hS => ?_)
  refine lv_aload_n hx hb dL_307 rfl (lv_at hl 2 rfl) ?_
  refine lw_arg (k := 1) C0 hS hl (by decide) (by omega) hL dL_308 dL_309 dL_310 dL_311 dL_312 ?_
  refine lw_arg (k := 2) C0 hS hl (by decide) (by omega) hL dL_313 dL_314 dL_315 dL_316 dL_317 ?_
  refine lw_call (vs := [.int (xs (i + 1)), .int (xs (i + 2))]) (a := ad 29 0) C0 hl.1 hK hN hP hS (idx := 39) (y := mX8_gull) (by decide +kernel) (by decide +kernel) (by decide +kernel) (by decide +kernel) (isO_29 (by decide) _) e2 (by simp [Value.category]) (Nat.le_of_ble_eq_true rfl) hnX8_gull.symm (by simp [cats, Value.category]) hsl dL_318 rfl (fun H locs hP hS => ?_)
  refine lv_icmp_eq (tgt := 1079) hx hb dL_321 (by decide) (fun _ => kk σ2 H locs hR2 hP hS) (fun h => absurd rfl h)
theorem lc_6 {Rel : Mem → Prop} {i : Nat} (sim : Sim Rel mX7_ahead mX8_ahead [.int (xs (i + 1))]) (hR : Rel σ) (C0 : lw_At p s m meth c b Ln xs) (hK : va_K D vwCl (tysC cA) s) (hN : NWs s) (hP : va_P D vwCl (wsOf s.heap.size cA (enc σ)) H) (hS : va_S (fr0 s.heap.size) s.heap H locs) (hl : lv_has ls 4 [(0, .ref b), (1, .ref (s.heap.size + ad 0 0)), (2, .ref (s.heap.size + ad 29 0)), (3, .int (nI i))]) (hi : i + 4 ≤ Ln) (hL : Ln ≤ 2048) (hsl : sl ≤ 7302250)
    (kk : ∀ σ2 H1 locs1, Rel σ2 → va_P D vwCl (wsOf s.heap.size cA (enc σ2)) H1 → va_S (fr0 s.heap.size) s.heap H1 locs1 → W p l e room_1 s m #[Value.ref b] below meth c H1 locs1 256 sl Q (F0 m 1079 ls [])) : W p l e room_1 s m #[Value.ref b] below meth c H locs 256 sl Q (F0 m 326 ls []) := by
  obtain ⟨n1, n2, σ1, σ2, r, e1, e2, hR2⟩ := sim σ hR
  obtain ⟨hx, hb, hr, hml, hown, hts, hX, hbl, hlocks, hgv⟩ := id C0
  refine lv_aload_n hx hb dL_326 rfl (lv_at hl 1 rfl) ?_
  refine lw_arg (k := 1) C0 hS hl (by decide) (by omega) hL dL_327 dL_328 dL_329 dL_330 dL_331 ?_
  refine lw_call (vs := [.int (xs (i + 1))]) (a := ad 0 0) C0 hl.1 hK hN hP hS (idx := 40) (y := mX7_ahead) (by decide +kernel) (by decide +kernel) (by decide +kernel) (by decide +kernel) (isO_0 (by decide) _) e1 (by simp [Value.category]) (Nat.le_of_ble_eq_true rfl) hnX7_ahead.symm (by simp [cats, Value.category]) hsl dL_332 rfl (fun H locs hP hS => ?_)
  refine lv_aload_n hx hb dL_335 rfl (lv_at hl 2 rfl) ?_
  refine lw_arg (k := 1) C0 hS hl (by decide) (by omega) hL dL_336 dL_337 dL_338 dL_339 dL_340 ?_
  refine lw_call (vs := [.int (xs (i + 1))]) (a := ad 29 0) C0 hl.1 hK hN hP hS (idx := 43) (y := mX8_ahead) (by decide +kernel) (by decide +kernel) (by decide +kernel) (by decide +kernel) (isO_29 (by decide) _) e2 (by simp [Value.category]) (Nat.le_of_ble_eq_true rfl) hnX8_ahead.symm (by simp [cats, Value.category]) hsl dL_341 rfl (fun H locs hP hS => ?_)
  refine lv_icmp_eq (tgt := 1079) hx hb dL_344 (by decide) (fun _ => kk σ2 H locs hR2 hP hS) (fun h => absurd rfl h)
theorem lc_7 {Rel : Mem → Prop} {i : Nat} (sim : Sim Rel mX7_logged mX8_logged [.int (xs (i + 1)), .int (xs (i + 2))]) (hR : Rel σ) (C0 : lw_At p s m meth c b Ln xs) (hK : va_K D vwCl (tysC cA) s) (hN : NWs s) (hP : va_P D vwCl (wsOf s.heap.size cA (enc σ)) H) (hS : va_S (fr0 s.heap.size) s.heap H locs) (hl : lv_has ls 4 [(0, .ref b), (1, .ref (s.heap.size + ad 0 0)), (2, .ref (s.heap.size + ad 29 0)), (3, .int (nI i))]) (hi : i + 4 ≤ Ln) (hL : Ln ≤ 2048) (hsl : sl ≤ 7302250)
    (kk : ∀ σ2 H1 locs1, Rel σ2 → va_P D vwCl (wsOf s.heap.size cA (enc σ2)) H1 → va_S (fr0 s.heap.size) s.heap H1 locs1 → W p l e room_1 s m #[Value.ref b] below meth c H1 locs1 256 sl Q (F0 m 1079 ls [])) : W p l e room_1 s m #[Value.ref b] below meth c H locs 256 sl Q (F0 m 349 ls []) := by
  obtain ⟨n1, n2, σ1, σ2, r, e1, e2, hR2⟩ := sim σ hR
  obtain ⟨hx, hb, hr, hml, hown, hts, hX, hbl, hlocks, hgv⟩ := id C0
  refine lv_aload_n hx hb dL_349 rfl (lv_at hl 1 rfl) ?_
  refine lw_arg (k := 1) C0 hS hl (by decide) (by omega) hL dL_350 dL_351 dL_352 dL_353 dL_354 ?_
  refine lw_arg (k := 2) C0 hS hl (by decide) (by omega) hL dL_355 dL_356 dL_357 dL_358 dL_359 ?_
  refine lw_call (vs := [.int (xs (i + 1)), .int (xs (i + 2))]) (a := ad 0 0) C0 hl.1 hK hN hP hS (idx := 44) (y := mX7_logged) (by decide +kernel) (by decide +kernel) (by decide +kernel) (by decide +kernel) (isO_0 (by decide) _) e1 (by simp [Value.category]) (Nat.le_of_ble_eq_true rfl) hnX7_logged.symm (by simp [cats, Value.category]) hsl dL_360 rfl (fun H locs hP hS => ?_)
  refine lv_aload_n hx hb dL_363 rfl (lv_at hl 2 rfl) ?_
  refine lw_arg (k := 1) C0 hS hl (by decide) (by omega) hL dL_364 dL_365 dL_366 dL_367 dL_368 ?_
  refine lw_arg (k := 2) C0 hS hl (by decide) (by omega) hL dL_369 dL_370 dL_371 dL_372 dL_373 ?_
  refine lw_call (vs := [.int (xs (i + 1)), .int (xs (i + 2))]) (a := ad 29 0) C0 hl.1 hK hN hP hS (idx := 47) (y := mX8_logged) (by decide +kernel) (by decide +kernel) (by decide +kernel) (by decide +kernel) (isO_29 (by decide) _) e2 (by simp [Value.category]) (Nat.le_of_ble_eq_true rfl) hnX8_logged.symm (by simp [cats, Value.category]) hsl dL_374 rfl (fun H locs hP hS => ?_)
  refine lv_icmp_eq (tgt := 1079) hx hb dL_377 (by decide) (fun _ => kk σ2 H locs hR2 hP hS) (fun h => absurd rfl h)
theorem lc_8 {Rel : Mem → Prop} {i : Nat} (sim : Sim Rel mX7_day mX8_day [.int (xs (i + 1))]) (hR : Rel σ) (C0 : lw_At p s m meth c b Ln xs) (hK : va_K D vwCl (tysC cA) s) (hN : NWs s) (hP : va_P D vwCl (wsOf s.heap.size cA (enc σ)) H) (hS : va_S (fr0 s.heap.size) s.heap H locs) (hl : lv_has ls 4 [(0, .ref b), (1, .ref (s.heap.size + ad 0 0)), (2, .ref (s.heap.size + ad 29 0)), (3, .int (nI i))]) (hi : i + 4 ≤ Ln) (hL : Ln ≤ 2048) (hsl : sl ≤ 7302250)
    (kk : ∀ σ2 H1 locs1, Rel σ2 → va_P D vwCl (wsOf s.heap.size cA (enc σ2)) H1 → va_S (fr0 s.heap.size) s.heap H1 locs1 → W p l e room_1 s m #[Value.ref b] below meth c H1 locs1 256 sl Q (F0 m 1079 ls [])) : W p l e room_1 s m #[Value.ref b] below meth c H locs 256 sl Q (F0 m 382 ls []) := by
  obtain ⟨n1, n2, σ1, σ2, r, e1, e2, hR2⟩ := sim σ hR
  obtain ⟨hx, hb, hr, hml, hown, hts, hX, hbl, hlocks, hgv⟩ := id C0
  refine lv_aload_n hx hb dL_382 rfl (lv_at hl 1 rfl) ?_
  refine lw_arg (k := 1) C0 hS hl (by decide) (by omega) hL dL_383 dL_384 dL_385 dL_386 dL_387 ?_
  refine lw_call (vs := [.int (xs (i + 1))]) (a := ad 0 0) C0 hl.1 hK hN hP hS (idx := 48) (y := mX7_day) (by decide +kernel) (by decide +kernel) (by decide +kernel) (by decide +kernel) (isO_0 (by decide) _) e1 (by simp [Value.category]) (Nat.le_of_ble_eq_true rfl) hnX7_day.symm (by simp [cats, Value.category]) hsl dL_388 rfl (fun H locs hP hS => ?_)
  refine lv_aload_n hx hb dL_391 rfl (lv_at hl 2 rfl) ?_
  refine lw_arg (k := 1) C0 hS hl (by decide) (by omega) hL dL_392 dL_393 dL_394 dL_395 dL_396 ?_
  refine lw_call (vs := [.int (xs (i + 1))]) (a := ad 29 0) C0 hl.1 hK hN hP hS (idx := 51) (y := mX8_day) (by decide +kernel) (by decide +kernel) (by decide +kernel) (by decide +kernel) (isO_29 (by decide) _) e2 (by simp [Value.category]) (Nat.le_of_ble_eq_true rfl) hnX8_day.symm (by simp [cats, Value.category]) hsl dL_397 rfl (fun H locs hP hS => ?_)
  refine lv_icmp_eq (tgt := 1079) hx hb dL_400 (by decide) (fun _ => kk σ2 H locs hR2 hP hS) (fun h => absurd rfl h)
theorem lc_9 {Rel : Mem → Prop} {i : Nat} (sim : Sim Rel mX7_pay mX8_pay [.int (xs (i + 1)), .int (xs (i + 2))]) (hR : Rel σ) (C0 : lw_At p s m meth c b Ln xs) (hK : va_K D vwCl (tysC cA) s) (hN : NWs s) (hP : va_P D vwCl (wsOf s.heap.size cA (enc σ)) H) (hS : va_S (fr0 s.heap.size) s.heap H locs) (hl : lv_has ls 4 [(0, .ref b), (1, .ref (s.heap.size + ad 0 0)), (2, .ref (s.heap.size + ad 29 0)), (3, .int (nI i))]) (hi : i + 4 ≤ Ln) (hL : Ln ≤ 2048) (hsl : sl ≤ 7302250)
    (kk : ∀ σ2 H1 locs1, Rel σ2 → va_P D vwCl (wsOf s.heap.size cA (enc σ2)) H1 → va_S (fr0 s.heap.size) s.heap H1 locs1 → W p l e room_1 s m #[Value.ref b] below meth c H1 locs1 256 sl Q (F0 m 1079 ls [])) : W p l e room_1 s m #[Value.ref b] below meth c H locs 256 sl Q (F0 m 405 ls []) := by
  obtain ⟨n1, n2, σ1, σ2, r, e1, e2, hR2⟩ := sim σ hR
  obtain ⟨hx, hb, hr, hml, hown, hts, hX, hbl, hlocks, hgv⟩ := id C0
  refine lv_aload_n hx hb dL_405 rfl (lv_at hl 1 rfl) ?_
  refine lw_arg (k := 1) C0 hS hl (by decide) (by omega) hL dL_406 dL_407 dL_408 dL_409 dL_410 ?_
  refine lw_arg (k := 2) C0 hS hl (by decide) (by omega) hL dL_411 dL_412 dL_413 dL_414 dL_415 ?_
  refine lw_call (vs := [.int (xs (i + 1)), .int (xs (i + 2))]) (a := ad 0 0) C0 hl.1 hK hN hP hS (idx := 52) (y := mX7_pay) (by decide +kernel) (by decide +kernel) (by decide +kernel) (by decide +kernel) (isO_0 (by decide) _) e1 (by simp [Value.category]) (Nat.le_of_ble_eq_true rfl) hnX7_pay.symm (by simp [cats, Value.category]) hsl dL_416 rfl (fun H locs hP hS => ?_)
  refine lv_aload_n hx hb dL_419 rfl (lv_at hl 2 rfl) ?_
  refine lw_arg (k := 1) C0 hS hl (by decide) (by omega) hL dL_420 dL_421 dL_422 dL_423 dL_424 ?_
  refine lw_arg (k := 2) C0 hS hl (by decide) (by omega) hL dL_425 dL_426 dL_427 dL_428 dL_429 ?_
  refine lw_call (vs := [.int (xs (i + 1)), .int (xs (i + 2))]) (a := ad 29 0) C0 hl.1 hK hN hP hS (idx := 55) (y := mX8_pay) (by decide +kernel) (by decide +kernel) (by decide +kernel) (by decide +kernel) (isO_29 (by decide) _) e2 (by simp [Value.category]) (Nat.le_of_ble_eq_true rfl) hnX8_pay.symm (by simp [cats, Value.category]) hsl dL_430 rfl (fun H locs hP hS => ?_)
  refine lv_icmp_eq (tgt := 1079) hx hb dL_433 (by decide) (fun _ => kk σ2 H locs hR2 hP hS) (fun h => absurd rfl h)
theorem lc_10 {Rel : Mem → Prop} {i : Nat} (sim : Sim Rel mX7_bread mX8_bread [.int (xs (i + 1)), .int (xs (i + 2))]) (hR : Rel σ) (C0 : lw_At p s m meth c b Ln xs) (hK : va_K D vwCl (tysC cA) s) (hN : NWs s) (hP : va_P D vwCl (wsOf s.heap.size cA (enc σ)) H) (hS : va_S (fr0 s.heap.size) s.heap H locs) (hl : lv_has ls 4 [(0, .ref b), (1, .ref (s.heap.size + ad 0 0)), (2, .ref (s.heap.size + ad 29 0)), (3, .int (nI i))]) (hi : i + 4 ≤ Ln) (hL : Ln ≤ 2048) (hsl : sl ≤ 7302250)
    (kk : ∀ σ2 H1 locs1, Rel σ2 → va_P D vwCl (wsOf s.heap.size cA (enc σ2)) H1 → va_S (fr0 s.heap.size) s.heap H1 locs1 → W p l e room_1 s m #[Value.ref b] below meth c H1 locs1 256 sl Q (F0 m 1079 ls [])) : W p l e room_1 s m #[Value.ref b] below meth c H locs 256 sl Q (F0 m 438 ls []) := by
  obtain ⟨n1, n2, σ1, σ2, r, e1, e2, hR2⟩ := sim σ hR
  obtain ⟨hx, hb, hr, hml, hown, hts, hX, hbl, hlocks, hgv⟩ := id C0
  refine lv_aload_n hx hb dL_438 rfl (lv_at hl 1 rfl) ?_
  refine lw_arg (k := 1) C0 hS hl (by decide) (by omega) hL dL_439 dL_440 dL_441 dL_442 dL_443 ?_
  refine lw_arg (k := 2) C0 hS hl (by decide) (by omega) hL dL_444 dL_445 dL_446 dL_447 dL_448 ?_
  refine lw_call (vs := [.int (xs (i + 1)), .int (xs (i + 2))]) (a := ad 0 0) C0 hl.1 hK hN hP hS (idx := 56) (y := mX7_bread) (by decide +kernel) (by decide +kernel) (by decide +kernel) (by decide +kernel) (isO_0 (by decide) _) e1 (by simp [Value.category]) (Nat.le_of_ble_eq_true rfl) hnX7_bread.symm (by simp [cats, Value.category]) hsl dL_449 rfl (fun H locs hP hS => ?_)
  refine lv_aload_n hx hb dL_452 rfl (lv_at hl 2 rfl) ?_
  refine lw_arg (k := 1) C0 hS hl (by decide) (by omega) hL dL_453 dL_454 dL_455 dL_456 dL_457 ?_
  refine lw_arg (k := 2) C0 hS hl (by decide) (by omega) hL dL_458 dL_459 dL_460 dL_461 dL_462 ?_
  refine lw_call (vs := [.int (xs (i + 1)), .int (xs (i + 2))]) (a := ad 29 0) C0 hl.1 hK hN hP hS (idx := 59) (y := mX8_bread) (by decide +kernel) (by decide +kernel) (by decide +kernel) (by decide +kernel) (isO_29 (by decide) _) e2 (by simp [Value.category]) (Nat.le_of_ble_eq_true rfl) hnX8_bread.symm (by simp [cats, Value.category]) hsl dL_463 rfl (fun H locs hP hS => ?_)
  refine lv_icmp_eq (tgt := 1079) hx hb dL_466 (by decide) (fun _ => kk σ2 H locs hR2 hP hS) (fun h => absurd rfl h)
theorem lc_11 {Rel : Mem → Prop} {i : Nat} (sim : Sim Rel mX7_stone mX8_stone [.int (xs (i + 1))]) (hR : Rel σ) (C0 : lw_At p s m meth c b Ln xs) (hK : va_K D vwCl (tysC cA) s) (hN : NWs s) (hP : va_P D vwCl (wsOf s.heap.size cA (enc σ)) H) (hS : va_S (fr0 s.heap.size) s.heap H locs) (hl : lv_has ls 4 [(0, .ref b), (1, .ref (s.heap.size + ad 0 0)), (2, .ref (s.heap.size + ad 29 0)), (3, .int (nI i))]) (hi : i + 4 ≤ Ln) (hL : Ln ≤ 2048) (hsl : sl ≤ 7302250)
    (kk : ∀ σ2 H1 locs1, Rel σ2 → va_P D vwCl (wsOf s.heap.size cA (enc σ2)) H1 → va_S (fr0 s.heap.size) s.heap H1 locs1 → W p l e room_1 s m #[Value.ref b] below meth c H1 locs1 256 sl Q (F0 m 1079 ls [])) : W p l e room_1 s m #[Value.ref b] below meth c H locs 256 sl Q (F0 m 471 ls []) := by
  obtain ⟨n1, n2, σ1, σ2, r, e1, e2, hR2⟩ := sim σ hR
  obtain ⟨hx, hb, hr, hml, hown, hts, hX, hbl, hlocks, hgv⟩ := id C0
  refine lv_aload_n hx hb dL_471 rfl (lv_at hl 1 rfl) ?_
  refine lw_arg (k := 1) C0 hS hl (by decide) (by omega) hL dL_472 dL_473 dL_474 dL_475 dL_476 ?_
  refine lw_call (vs := [.int (xs (i + 1))]) (a := ad 0 0) C0 hl.1 hK hN hP hS (idx := 60) (y := mX7_stone) (by decide +kernel) (by decide +kernel) (by decide +kernel) (by decide +kernel) (isO_0 (by decide) _) e1 (by simp [Value.category]) (Nat.le_of_ble_eq_true rfl) hnX7_stone.symm (by simp [cats, Value.category]) hsl dL_477 rfl (fun H locs hP hS => ?_)
  refine lv_aload_n hx hb dL_480 rfl (lv_at hl 2 rfl) ?_
  refine lw_arg (k := 1) C0 hS hl (by decide) (by omega) hL dL_481 dL_482 dL_483 dL_484 dL_485 ?_
  refine lw_call (vs := [.int (xs (i + 1))]) (a := ad 29 0) C0 hl.1 hK hN hP hS (idx := 63) (y := mX8_stone) (by decide +kernel) (by decide +kernel) (by decide +kernel) (by decide +kernel) (isO_29 (by decide) _) e2 (by simp [Value.category]) (Nat.le_of_ble_eq_true rfl) hnX8_stone.symm (by simp [cats, Value.category]) hsl dL_486 rfl (fun H locs hP hS => ?_)
  refine lv_icmp_eq (tgt := 1079) hx hb dL_489 (by decide) (fun _ => kk σ2 H locs hR2 hP hS) (fun h => absurd rfl h)
theorem lc_12 {Rel : Mem → Prop} {i : Nat} (sim : Sim Rel mX7_lend mX8_lend [.int (xs (i + 1))]) (hR : Rel σ) (C0 : lw_At p s m meth c b Ln xs) (hK : va_K D vwCl (tysC cA) s) (hN : NWs s) (hP : va_P D vwCl (wsOf s.heap.size cA (enc σ)) H) (hS : va_S (fr0 s.heap.size) s.heap H locs) (hl : lv_has ls 4 [(0, .ref b), (1, .ref (s.heap.size + ad 0 0)), (2, .ref (s.heap.size + ad 29 0)), (3, .int (nI i))]) (hi : i + 4 ≤ Ln) (hL : Ln ≤ 2048) (hsl : sl ≤ 7302250)
    (kk : ∀ σ2 H1 locs1, Rel σ2 → va_P D vwCl (wsOf s.heap.size cA (enc σ2)) H1 → va_S (fr0 s.heap.size) s.heap H1 locs1 → W p l e room_1 s m #[Value.ref b] below meth c H1 locs1 256 sl Q (F0 m 1079 ls [])) : W p l e room_1 s m #[Value.ref b] below meth c H locs 256 sl Q (F0 m 494 ls []) := by
  obtain ⟨n1, n2, σ1, σ2, r, e1, e2, hR2⟩ := sim σ hR
  obtain ⟨hx, hb, hr, hml, hown, hts, hX, hbl, hlocks, hgv⟩ := id C0
  refine lv_aload_n hx hb dL_494 rfl (lv_at hl 1 rfl) ?_
  refine lw_arg (k := 1) C0 hS hl (by decide) (by omega) hL dL_495 dL_496 dL_497 dL_498 dL_499 ?_
  refine lw_call (vs := [.int (xs (i + 1))]) (a := ad 0 0) C0 hl.1 hK hN hP hS (idx := 64) (y := mX7_lend) (by decide +kernel) (by decide +kernel) (by decide +kernel) (by decide +kernel) (isO_0 (by decide) _) e1 (by simp [Value.category]) (Nat.le_of_ble_eq_true rfl) hnX7_lend.symm (by simp [cats, Value.category]) hsl dL_500 rfl (fun H locs hP hS => ?_)
  refine lv_aload_n hx hb dL_503 rfl (lv_at hl 2 rfl) ?_
  refine lw_arg (k := 1) C0 hS hl (by decide) (by omega) hL dL_504 dL_505 dL_506 dL_507 dL_508 ?_
  refine lw_call (vs := [.int (xs (i + 1))]) (a := ad 29 0) C0 hl.1 hK hN hP hS (idx := 67) (y := mX8_lend) (by decide +kernel) (by decide +kernel) (by decide +kernel) (by decide +kernel) (isO_29 (by decide) _) e2 (by simp [Value.category]) (Nat.le_of_ble_eq_true rfl) hnX8_lend.symm (by simp [cats, Value.category]) hsl dL_509 rfl (fun H locs hP hS => ?_)
  refine lv_icmp_eq (tgt := 1079) hx hb dL_512 (by decide) (fun _ => kk σ2 H locs hR2 hP hS) (fun h => absurd rfl h)
theorem lc_13 {Rel : Mem → Prop} {i : Nat} (sim : Sim Rel mX7_swap mX8_swap [.int (xs (i + 1)), .int (xs (i + 2))]) (hR : Rel σ) (C0 : lw_At p s m meth c b Ln xs) (hK : va_K D vwCl (tysC cA) s) (hN : NWs s) (hP : va_P D vwCl (wsOf s.heap.size cA (enc σ)) H) (hS : va_S (fr0 s.heap.size) s.heap H locs) (hl : lv_has ls 4 [(0, .ref b), (1, .ref (s.heap.size + ad 0 0)), (2, .ref (s.heap.size + ad 29 0)), (3, .int (nI i))]) (hi : i + 4 ≤ Ln) (hL : Ln ≤ 2048) (hsl : sl ≤ 7302250)
    (kk : ∀ σ2 H1 locs1, Rel σ2 → va_P D vwCl (wsOf s.heap.size cA (enc σ2)) H1 → va_S (fr0 s.heap.size) s.heap H1 locs1 → W p l e room_1 s m #[Value.ref b] below meth c H1 locs1 256 sl Q (F0 m 1079 ls [])) : W p l e room_1 s m #[Value.ref b] below meth c H locs 256 sl Q (F0 m 517 ls []) := by
  obtain ⟨n1, n2, σ1, σ2, r, e1, e2, hR2⟩ := sim σ hR
  obtain ⟨hx, hb, hr, hml, hown, hts, hX, hbl, hlocks, hgv⟩ := id C0
  refine lv_aload_n hx hb dL_517 rfl (lv_at hl 1 rfl) ?_
  refine lw_arg (k := 1) C0 hS hl (by decide) (by omega) hL dL_518 dL_519 dL_520 dL_521 dL_522 ?_
  refine lw_arg (k := 2) C0 hS hl (by decide) (by omega) hL dL_523 dL_524 dL_525 dL_526 dL_527 ?_
  refine lw_call (vs := [.int (xs (i + 1)), .int (xs (i + 2))]) (a := ad 0 0) C0 hl.1 hK hN hP hS (idx := 68) (y := mX7_swap) (by decide +kernel) (by decide +kernel) (by decide +kernel) (by decide +kernel) (isO_0 (by decide) _) e1 (by simp [Value.category]) (Nat.le_of_ble_eq_true rfl) hnX7_swap.symm (by simp [cats, Value.category]) hsl dL_528 rfl (fun H locs hP hS => ?_)
  refine lv_aload_n hx hb dL_531 rfl (lv_at hl 2 rfl) ?_
  refine lw_arg (k := 1) C0 hS hl (by decide) (by omega) hL dL_532 dL_533 dL_534 dL_535 dL_536 ?_
  refine lw_arg (k := 2) C0 hS hl (by decide) (by omega) hL dL_537 dL_538 dL_539 dL_540 dL_541 ?_
  refine lw_call (vs := [.int (xs (i + 1)), .int (xs (i + 2))]) (a := ad 29 0) C0 hl.1 hK hN hP hS (idx := 71) (y := mX8_swap) (by decide +kernel) (by decide +kernel) (by decide +kernel) (by decide +kernel) (isO_29 (by decide) _) e2 (by simp [Value.category]) (Nat.le_of_ble_eq_true rfl) hnX8_swap.symm (by simp [cats, Value.category]) hsl dL_542 rfl (fun H locs hP hS => ?_)
  refine lv_icmp_eq (tgt := 1079) hx hb dL_545 (by decide) (fun _ => kk σ2 H locs hR2 hP hS) (fun h => absurd rfl h)
theorem lc_14 {Rel : Mem → Prop} {i : Nat} (sim : Sim Rel mX7_drift mX8_drift [.int (xs (i + 1))]) (hR : Rel σ) (C0 : lw_At p s m meth c b Ln xs) (hK : va_K D vwCl (tysC cA) s) (hN : NWs s) (hP : va_P D vwCl (wsOf s.heap.size cA (enc σ)) H) (hS : va_S (fr0 s.heap.size) s.heap H locs) (hl : lv_has ls 4 [(0, .ref b), (1, .ref (s.heap.size + ad 0 0)), (2, .ref (s.heap.size + ad 29 0)), (3, .int (nI i))]) (hi : i + 4 ≤ Ln) (hL : Ln ≤ 2048) (hsl : sl ≤ 7302250)
    (kk : ∀ σ2 H1 locs1, Rel σ2 → va_P D vwCl (wsOf s.heap.size cA (enc σ2)) H1 → va_S (fr0 s.heap.size) s.heap H1 locs1 → W p l e room_1 s m #[Value.ref b] below meth c H1 locs1 256 sl Q (F0 m 1079 ls [])) : W p l e room_1 s m #[Value.ref b] below meth c H locs 256 sl Q (F0 m 550 ls []) := by
  obtain ⟨n1, n2, σ1, σ2, r, e1, e2, hR2⟩ := sim σ hR
  obtain ⟨hx, hb, hr, hml, hown, hts, hX, hbl, hlocks, hgv⟩ := id C0
  refine lv_aload_n hx hb dL_550 rfl (lv_at hl 1 rfl) ?_
  refine lw_arg (k := 1) C0 hS hl (by decide) (by omega) hL dL_551 dL_552 dL_553 dL_554 dL_555 ?_
  refine lw_call (vs := [.int (xs (i + 1))]) (a := ad 0 0) C0 hl.1 hK hN hP hS (idx := 72) (y := mX7_drift) (by decide +kernel) (by decide +kernel) (by decide +kernel) (by decide +kernel) (isO_0 (by decide) _) e1 (by simp [Value.category]) (Nat.le_of_ble_eq_true rfl) hnX7_drift.symm (by simp [cats, Value.category]) hsl dL_556 rfl (fun H locs hP hS => ?_)
  refine lv_aload_n hx hb dL_559 rfl (lv_at hl 2 rfl) ?_
  refine lw_arg (k := 1) C0 hS hl (by decide) (by omega) hL dL_560 dL_561 dL_562 dL_563 dL_564 ?_
  refine lw_call (vs := [.int (xs (i + 1))]) (a := ad 29 0) C0 hl.1 hK hN hP hS (idx := 75) (y := mX8_drift) (by decide +kernel) (by decide +kernel) (by decide +kernel) (by decide +kernel) (isO_29 (by decide) _) e2 (by simp [Value.category]) (Nat.le_of_ble_eq_true rfl) hnX8_drift.symm (by simp [cats, Value.category]) hsl dL_565 rfl (fun H locs hP hS => ?_)
  refine lv_icmp_eq (tgt := 1079) hx hb dL_568 (by decide) (fun _ => kk σ2 H locs hR2 hP hS) (fun h => absurd rfl h)
theorem lc_15 {Rel : Mem → Prop} {i : Nat} (sim : Sim Rel mX7_undo mX8_undo [.int (xs (i + 1))]) (hR : Rel σ) (C0 : lw_At p s m meth c b Ln xs) (hK : va_K D vwCl (tysC cA) s) (hN : NWs s) (hP : va_P D vwCl (wsOf s.heap.size cA (enc σ)) H) (hS : va_S (fr0 s.heap.size) s.heap H locs) (hl : lv_has ls 4 [(0, .ref b), (1, .ref (s.heap.size + ad 0 0)), (2, .ref (s.heap.size + ad 29 0)), (3, .int (nI i))]) (hi : i + 4 ≤ Ln) (hL : Ln ≤ 2048) (hsl : sl ≤ 7302250)
    (kk : ∀ σ2 H1 locs1, Rel σ2 → va_P D vwCl (wsOf s.heap.size cA (enc σ2)) H1 → va_S (fr0 s.heap.size) s.heap H1 locs1 → W p l e room_1 s m #[Value.ref b] below meth c H1 locs1 256 sl Q (F0 m 1079 ls [])) : W p l e room_1 s m #[Value.ref b] below meth c H locs 256 sl Q (F0 m 573 ls []) := by
  obtain ⟨n1, n2, σ1, σ2, r, e1, e2, hR2⟩ := sim σ hR
  obtain ⟨hx, hb, hr, hml, hown, hts, hX, hbl, hlocks, hgv⟩ := id C0
  refine lv_aload_n hx hb dL_573 rfl (lv_at hl 1 rfl) ?_
  refine lw_arg (k := 1) C0 hS hl (by decide) (by omega) hL dL_574 dL_575 dL_576 dL_577 dL_578 ?_
  refine lw_call (vs := [.int (xs (i + 1))]) (a := ad 0 0) C0 hl.1 hK hN hP hS (idx := 76) (y := mX7_undo) (by decide +kernel) (by decide +kernel) (by decide +kernel) (by decide +kernel) (isO_0 (by decide) _) e1 (by simp [Value.category]) (Nat.le_of_ble_eq_true rfl) hnX7_undo.symm (by simp [cats, Value.category]) hsl dL_579 rfl (fun H locs hP hS => ?_)
  refine lv_aload_n hx hb dL_582 rfl (lv_at hl 2 rfl) ?_
  refine lw_arg (k := 1) C0 hS hl (by decide) (by omega) hL dL_583 dL_584 dL_585 dL_586 dL_587 ?_
  refine lw_call (vs := [.int (xs (i + 1))]) (a := ad 29 0) C0 hl.1 hK hN hP hS (idx := 79) (y := mX8_undo) (by decide +kernel) (by decide +kernel) (by decide +kernel) (by decide +kernel) (isO_29 (by decide) _) e2 (by simp [Value.category]) (Nat.le_of_ble_eq_true rfl) hnX8_undo.symm (by simp [cats, Value.category]) hsl dL_588 rfl (fun H locs hP hS => ?_)
  refine lv_icmp_eq (tgt := 1079) hx hb dL_591 (by decide) (fun _ => kk σ2 H locs hR2 hP hS) (fun h => absurd rfl h)
theorem lc_16 {Rel : Mem → Prop} {i : Nat} (sim : Sim Rel mX7_owes mX8_owes [.int (xs (i + 1)), .int (xs (i + 2))]) (hR : Rel σ) (C0 : lw_At p s m meth c b Ln xs) (hK : va_K D vwCl (tysC cA) s) (hN : NWs s) (hP : va_P D vwCl (wsOf s.heap.size cA (enc σ)) H) (hS : va_S (fr0 s.heap.size) s.heap H locs) (hl : lv_has ls 4 [(0, .ref b), (1, .ref (s.heap.size + ad 0 0)), (2, .ref (s.heap.size + ad 29 0)), (3, .int (nI i))]) (hi : i + 4 ≤ Ln) (hL : Ln ≤ 2048) (hsl : sl ≤ 7302250)
    (kk : ∀ σ2 H1 locs1, Rel σ2 → va_P D vwCl (wsOf s.heap.size cA (enc σ2)) H1 → va_S (fr0 s.heap.size) s.heap H1 locs1 → W p l e room_1 s m #[Value.ref b] below meth c H1 locs1 256 sl Q (F0 m 1079 ls [])) : W p l e room_1 s m #[Value.ref b] below meth c H locs 256 sl Q (F0 m 596 ls []) := by
  obtain ⟨n1, n2, σ1, σ2, r, e1, e2, hR2⟩ := sim σ hR
  obtain ⟨hx, hb, hr, hml, hown, hts, hX, hbl, hlocks, hgv⟩ := id C0
  refine lv_aload_n hx hb dL_596 rfl (lv_at hl 1 rfl) ?_
  refine lw_arg (k := 1) C0 hS hl (by decide) (by omega) hL dL_597 dL_598 dL_599 dL_600 dL_601 ?_
  refine lw_arg (k := 2) C0 hS hl (by decide) (by omega) hL dL_602 dL_603 dL_604 dL_605 dL_606 ?_
  refine lw_call (vs := [.int (xs (i + 1)), .int (xs (i + 2))]) (a := ad 0 0) C0 hl.1 hK hN hP hS (idx := 80) (y := mX7_owes) (by decide +kernel) (by decide +kernel) (by decide +kernel) (by decide +kernel) (isO_0 (by decide) _) e1 (by simp [Value.category]) (Nat.le_of_ble_eq_true rfl) hnX7_owes.symm (by simp [cats, Value.category]) hsl dL_607 rfl (fun H locs hP hS => ?_)
  refine lv_aload_n hx hb dL_610 rfl (lv_at hl 2 rfl) ?_
  refine lw_arg (k := 1) C0 hS hl (by decide) (by omega) hL dL_611 dL_612 dL_613 dL_614 dL_615 ?_
  refine lw_arg (k := 2) C0 hS hl (by decide) (by omega) hL dL_616 dL_617 dL_618 dL_619 dL_620 ?_
  refine lw_call (vs := [.int (xs (i + 1)), .int (xs (i + 2))]) (a := ad 29 0) C0 hl.1 hK hN hP hS (idx := 83) (y := mX8_owes) (by decide +kernel) (by decide +kernel) (by decide +kernel) (by decide +kernel) (isO_29 (by decide) _) e2 (by simp [Value.category]) (Nat.le_of_ble_eq_true rfl) hnX8_owes.symm (by simp [cats, Value.category]) hsl dL_621 rfl (fun H locs hP hS => ?_)
  refine lv_icmp_eq (tgt := 1079) hx hb dL_624 (by decide) (fun _ => kk σ2 H locs hR2 hP hS) (fun h => absurd rfl h)
theorem lc_17 {Rel : Mem → Prop} {i : Nat} (sim : Sim Rel mX7_firstOut mX8_firstOut [.int (xs (i + 1))]) (hR : Rel σ) (C0 : lw_At p s m meth c b Ln xs) (hK : va_K D vwCl (tysC cA) s) (hN : NWs s) (hP : va_P D vwCl (wsOf s.heap.size cA (enc σ)) H) (hS : va_S (fr0 s.heap.size) s.heap H locs) (hl : lv_has ls 4 [(0, .ref b), (1, .ref (s.heap.size + ad 0 0)), (2, .ref (s.heap.size + ad 29 0)), (3, .int (nI i))]) (hi : i + 4 ≤ Ln) (hL : Ln ≤ 2048) (hsl : sl ≤ 7302250)
    (kk : ∀ σ2 H1 locs1, Rel σ2 → va_P D vwCl (wsOf s.heap.size cA (enc σ2)) H1 → va_S (fr0 s.heap.size) s.heap H1 locs1 → W p l e room_1 s m #[Value.ref b] below meth c H1 locs1 256 sl Q (F0 m 1079 ls [])) : W p l e room_1 s m #[Value.ref b] below meth c H locs 256 sl Q (F0 m 629 ls []) := by
  obtain ⟨n1, n2, σ1, σ2, r, e1, e2, hR2⟩ := sim σ hR
  obtain ⟨hx, hb, hr, hml, hown, hts, hX, hbl, hlocks, hgv⟩ := id C0
  refine lv_aload_n hx hb dL_629 rfl (lv_at hl 1 rfl) ?_
  refine lw_arg (k := 1) C0 hS hl (by decide) (by omega) hL dL_630 dL_631 dL_632 dL_633 dL_634 ?_
  refine lw_call (vs := [.int (xs (i + 1))]) (a := ad 0 0) C0 hl.1 hK hN hP hS (idx := 84) (y := mX7_firstOut) (by decide +kernel) (by decide +kernel) (by decide +kernel) (by decide +kernel) (isO_0 (by decide) _) e1 (by simp [Value.category]) (Nat.le_of_ble_eq_true rfl) hnX7_firstOut.symm (by simp [cats, Value.category]) hsl dL_635 rfl (fun H locs hP hS => ?_)
  refine lv_aload_n hx hb dL_638 rfl (lv_at hl 2 rfl) ?_
  refine lw_arg (k := 1) C0 hS hl (by decide) (by omega) hL dL_639 dL_640 dL_641 dL_642 dL_643 ?_
  refine lw_call (vs := [.int (xs (i + 1))]) (a := ad 29 0) C0 hl.1 hK hN hP hS (idx := 87) (y := mX8_firstOut) (by decide +kernel) (by decide +kernel) (by decide +kernel) (by decide +kernel) (isO_29 (by decide) _) e2 (by simp [Value.category]) (Nat.le_of_ble_eq_true rfl) hnX8_firstOut.symm (by simp [cats, Value.category]) hsl dL_644 rfl (fun H locs hP hS => ?_)
  refine lv_icmp_eq (tgt := 1079) hx hb dL_647 (by decide) (fun _ => kk σ2 H locs hR2 hP hS) (fun h => absurd rfl h)
theorem lc_18 {Rel : Mem → Prop} {i : Nat} (sim : Sim Rel mX7_outBy mX8_outBy [.int (xs (i + 1))]) (hR : Rel σ) (C0 : lw_At p s m meth c b Ln xs) (hK : va_K D vwCl (tysC cA) s) (hN : NWs s) (hP : va_P D vwCl (wsOf s.heap.size cA (enc σ)) H) (hS : va_S (fr0 s.heap.size) s.heap H locs) (hl : lv_has ls 4 [(0, .ref b), (1, .ref (s.heap.size + ad 0 0)), (2, .ref (s.heap.size + ad 29 0)), (3, .int (nI i))]) (hi : i + 4 ≤ Ln) (hL : Ln ≤ 2048) (hsl : sl ≤ 7302250)
    (kk : ∀ σ2 H1 locs1, Rel σ2 → va_P D vwCl (wsOf s.heap.size cA (enc σ2)) H1 → va_S (fr0 s.heap.size) s.heap H1 locs1 → W p l e room_1 s m #[Value.ref b] below meth c H1 locs1 256 sl Q (F0 m 1079 ls [])) : W p l e room_1 s m #[Value.ref b] below meth c H locs 256 sl Q (F0 m 652 ls []) := by
  obtain ⟨n1, n2, σ1, σ2, r, e1, e2, hR2⟩ := sim σ hR
  obtain ⟨hx, hb, hr, hml, hown, hts, hX, hbl, hlocks, hgv⟩ := id C0
  refine lv_aload_n hx hb dL_652 rfl (lv_at hl 1 rfl) ?_
  refine lw_arg (k := 1) C0 hS hl (by decide) (by omega) hL dL_653 dL_654 dL_655 dL_656 dL_657 ?_
  refine lw_call (vs := [.int (xs (i + 1))]) (a := ad 0 0) C0 hl.1 hK hN hP hS (idx := 88) (y := mX7_outBy) (by decide +kernel) (by decide +kernel) (by decide +kernel) (by decide +kernel) (isO_0 (by decide) _) e1 (by simp [Value.category]) (Nat.le_of_ble_eq_true rfl) hnX7_outBy.symm (by simp [cats, Value.category]) hsl dL_658 rfl (fun H locs hP hS => ?_)
  refine lv_aload_n hx hb dL_661 rfl (lv_at hl 2 rfl) ?_
  refine lw_arg (k := 1) C0 hS hl (by decide) (by omega) hL dL_662 dL_663 dL_664 dL_665 dL_666 ?_
  refine lw_call (vs := [.int (xs (i + 1))]) (a := ad 29 0) C0 hl.1 hK hN hP hS (idx := 91) (y := mX8_outBy) (by decide +kernel) (by decide +kernel) (by decide +kernel) (by decide +kernel) (isO_29 (by decide) _) e2 (by simp [Value.category]) (Nat.le_of_ble_eq_true rfl) hnX8_outBy.symm (by simp [cats, Value.category]) hsl dL_667 rfl (fun H locs hP hS => ?_)
  refine lv_icmp_eq (tgt := 1079) hx hb dL_670 (by decide) (fun _ => kk σ2 H locs hR2 hP hS) (fun h => absurd rfl h)
theorem lc_19 {Rel : Mem → Prop} {i : Nat} (sim : Sim Rel mX7_redeemedBy mX8_redeemedBy [.int (xs (i + 1))]) (hR : Rel σ) (C0 : lw_At p s m meth c b Ln xs) (hK : va_K D vwCl (tysC cA) s) (hN : NWs s) (hP : va_P D vwCl (wsOf s.heap.size cA (enc σ)) H) (hS : va_S (fr0 s.heap.size) s.heap H locs) (hl : lv_has ls 4 [(0, .ref b), (1, .ref (s.heap.size + ad 0 0)), (2, .ref (s.heap.size + ad 29 0)), (3, .int (nI i))]) (hi : i + 4 ≤ Ln) (hL : Ln ≤ 2048) (hsl : sl ≤ 7302250)
    (kk : ∀ σ2 H1 locs1, Rel σ2 → va_P D vwCl (wsOf s.heap.size cA (enc σ2)) H1 → va_S (fr0 s.heap.size) s.heap H1 locs1 → W p l e room_1 s m #[Value.ref b] below meth c H1 locs1 256 sl Q (F0 m 1079 ls [])) : W p l e room_1 s m #[Value.ref b] below meth c H locs 256 sl Q (F0 m 675 ls []) := by
  obtain ⟨n1, n2, σ1, σ2, r, e1, e2, hR2⟩ := sim σ hR
  obtain ⟨hx, hb, hr, hml, hown, hts, hX, hbl, hlocks, hgv⟩ := id C0
  refine lv_aload_n hx hb dL_675 rfl (lv_at hl 1 rfl) ?_
  refine lw_arg (k := 1) C0 hS hl (by decide) (by omega) hL dL_676 dL_677 dL_678 dL_679 dL_680 ?_
  refine lw_call (vs := [.int (xs (i + 1))]) (a := ad 0 0) C0 hl.1 hK hN hP hS (idx := 92) (y := mX7_redeemedBy) (by decide +kernel) (by decide +kernel) (by decide +kernel) (by decide +kernel) (isO_0 (by decide) _) e1 (by simp [Value.category]) (Nat.le_of_ble_eq_true rfl) hnX7_redeemedBy.symm (by simp [cats, Value.category]) hsl dL_681 rfl (fun H locs hP hS => ?_)
  refine lv_aload_n hx hb dL_684 rfl (lv_at hl 2 rfl) ?_
  refine lw_arg (k := 1) C0 hS hl (by decide) (by omega) hL dL_685 dL_686 dL_687 dL_688 dL_689 ?_
  refine lw_call (vs := [.int (xs (i + 1))]) (a := ad 29 0) C0 hl.1 hK hN hP hS (idx := 95) (y := mX8_redeemedBy) (by decide +kernel) (by decide +kernel) (by decide +kernel) (by decide +kernel) (isO_29 (by decide) _) e2 (by simp [Value.category]) (Nat.le_of_ble_eq_true rfl) hnX8_redeemedBy.symm (by simp [cats, Value.category]) hsl dL_690 rfl (fun H locs hP hS => ?_)
  refine lv_icmp_eq (tgt := 1079) hx hb dL_693 (by decide) (fun _ => kk σ2 H locs hR2 hP hS) (fun h => absurd rfl h)
theorem lc_20 {Rel : Mem → Prop} {i : Nat} (sim : Sim Rel mX7_loan mX8_loan [.int (xs (i + 1))]) (hR : Rel σ) (C0 : lw_At p s m meth c b Ln xs) (hK : va_K D vwCl (tysC cA) s) (hN : NWs s) (hP : va_P D vwCl (wsOf s.heap.size cA (enc σ)) H) (hS : va_S (fr0 s.heap.size) s.heap H locs) (hl : lv_has ls 4 [(0, .ref b), (1, .ref (s.heap.size + ad 0 0)), (2, .ref (s.heap.size + ad 29 0)), (3, .int (nI i))]) (hi : i + 4 ≤ Ln) (hL : Ln ≤ 2048) (hsl : sl ≤ 7302250)
    (kk : ∀ σ2 H1 locs1, Rel σ2 → va_P D vwCl (wsOf s.heap.size cA (enc σ2)) H1 → va_S (fr0 s.heap.size) s.heap H1 locs1 → W p l e room_1 s m #[Value.ref b] below meth c H1 locs1 256 sl Q (F0 m 1079 ls [])) : W p l e room_1 s m #[Value.ref b] below meth c H locs 256 sl Q (F0 m 698 ls []) := by
  obtain ⟨n1, n2, σ1, σ2, r, e1, e2, hR2⟩ := sim σ hR
  obtain ⟨hx, hb, hr, hml, hown, hts, hX, hbl, hlocks, hgv⟩ := id C0
  refine lv_aload_n hx hb dL_698 rfl (lv_at hl 1 rfl) ?_
  refine lw_arg (k := 1) C0 hS hl (by decide) (by omega) hL dL_699 dL_700 dL_701 dL_702 dL_703 ?_
  refine lw_call (vs := [.int (xs (i + 1))]) (a := ad 0 0) C0 hl.1 hK hN hP hS (idx := 96) (y := mX7_loan) (by decide +kernel) (by decide +kernel) (by decide +kernel) (by decide +kernel) (isO_0 (by decide) _) e1 (by simp [Value.category]) (Nat.le_of_ble_eq_true rfl) hnX7_loan.symm (by simp [cats, Value.category]) hsl dL_704 rfl (fun H locs hP hS => ?_)
  refine lv_aload_n hx hb dL_707 rfl (lv_at hl 2 rfl) ?_
  refine lw_arg (k := 1) C0 hS hl (by decide) (by omega) hL dL_708 dL_709 dL_710 dL_711 dL_712 ?_
  refine lw_call (vs := [.int (xs (i + 1))]) (a := ad 29 0) C0 hl.1 hK hN hP hS (idx := 99) (y := mX8_loan) (by decide +kernel) (by decide +kernel) (by decide +kernel) (by decide +kernel) (isO_29 (by decide) _) e2 (by simp [Value.category]) (Nat.le_of_ble_eq_true rfl) hnX8_loan.symm (by simp [cats, Value.category]) hsl dL_713 rfl (fun H locs hP hS => ?_)
  refine lv_icmp_eq (tgt := 1079) hx hb dL_716 (by decide) (fun _ => kk σ2 H locs hR2 hP hS) (fun h => absurd rfl h)
theorem lc_21 {Rel : Mem → Prop} {i : Nat} (sim : Sim Rel mX7_clear mX8_clear [.int (xs (i + 1))]) (hR : Rel σ) (C0 : lw_At p s m meth c b Ln xs) (hK : va_K D vwCl (tysC cA) s) (hN : NWs s) (hP : va_P D vwCl (wsOf s.heap.size cA (enc σ)) H) (hS : va_S (fr0 s.heap.size) s.heap H locs) (hl : lv_has ls 4 [(0, .ref b), (1, .ref (s.heap.size + ad 0 0)), (2, .ref (s.heap.size + ad 29 0)), (3, .int (nI i))]) (hi : i + 4 ≤ Ln) (hL : Ln ≤ 2048) (hsl : sl ≤ 7302250)
    (kk : ∀ σ2 H1 locs1, Rel σ2 → va_P D vwCl (wsOf s.heap.size cA (enc σ2)) H1 → va_S (fr0 s.heap.size) s.heap H1 locs1 → W p l e room_1 s m #[Value.ref b] below meth c H1 locs1 256 sl Q (F0 m 1079 ls [])) : W p l e room_1 s m #[Value.ref b] below meth c H locs 256 sl Q (F0 m 721 ls []) := by
  obtain ⟨n1, n2, σ1, σ2, r, e1, e2, hR2⟩ := sim σ hR
  obtain ⟨hx, hb, hr, hml, hown, hts, hX, hbl, hlocks, hgv⟩ := id C0
  refine lv_aload_n hx hb dL_721 rfl (lv_at hl 1 rfl) ?_
  refine lw_arg (k := 1) C0 hS hl (by decide) (by omega) hL dL_722 dL_723 dL_724 dL_725 dL_726 ?_
  refine lw_call (vs := [.int (xs (i + 1))]) (a := ad 0 0) C0 hl.1 hK hN hP hS (idx := 100) (y := mX7_clear) (by decide +kernel) (by decide +kernel) (by decide +kernel) (by decide +kernel) (isO_0 (by decide) _) e1 (by simp [Value.category]) (Nat.le_of_ble_eq_true rfl) hnX7_clear.symm (by simp [cats, Value.category]) hsl dL_727 rfl (fun H locs hP hS => ?_)
  refine lv_aload_n hx hb dL_730 rfl (lv_at hl 2 rfl) ?_
  refine lw_arg (k := 1) C0 hS hl (by decide) (by omega) hL dL_731 dL_732 dL_733 dL_734 dL_735 ?_
  refine lw_call (vs := [.int (xs (i + 1))]) (a := ad 29 0) C0 hl.1 hK hN hP hS (idx := 103) (y := mX8_clear) (by decide +kernel) (by decide +kernel) (by decide +kernel) (by decide +kernel) (isO_29 (by decide) _) e2 (by simp [Value.category]) (Nat.le_of_ble_eq_true rfl) hnX8_clear.symm (by simp [cats, Value.category]) hsl dL_736 rfl (fun H locs hP hS => ?_)
  refine lv_icmp_eq (tgt := 1079) hx hb dL_739 (by decide) (fun _ => kk σ2 H locs hR2 hP hS) (fun h => absurd rfl h)
theorem lc_22 {Rel : Mem → Prop} {i : Nat} (sim : Sim Rel mX7_bestSwap mX8_bestSwap [.int (xs (i + 1)), .int (xs (i + 2))]) (hR : Rel σ) (C0 : lw_At p s m meth c b Ln xs) (hK : va_K D vwCl (tysC cA) s) (hN : NWs s) (hP : va_P D vwCl (wsOf s.heap.size cA (enc σ)) H) (hS : va_S (fr0 s.heap.size) s.heap H locs) (hl : lv_has ls 4 [(0, .ref b), (1, .ref (s.heap.size + ad 0 0)), (2, .ref (s.heap.size + ad 29 0)), (3, .int (nI i))]) (hi : i + 4 ≤ Ln) (hL : Ln ≤ 2048) (hsl : sl ≤ 7302250)
    (kk : ∀ σ2 H1 locs1, Rel σ2 → va_P D vwCl (wsOf s.heap.size cA (enc σ2)) H1 → va_S (fr0 s.heap.size) s.heap H1 locs1 → W p l e room_1 s m #[Value.ref b] below meth c H1 locs1 256 sl Q (F0 m 1079 ls [])) : W p l e room_1 s m #[Value.ref b] below meth c H locs 256 sl Q (F0 m 744 ls []) := by
  obtain ⟨n1, n2, σ1, σ2, r, e1, e2, hR2⟩ := sim σ hR
  obtain ⟨hx, hb, hr, hml, hown, hts, hX, hbl, hlocks, hgv⟩ := id C0
  refine lv_aload_n hx hb dL_744 rfl (lv_at hl 1 rfl) ?_
  refine lw_arg (k := 1) C0 hS hl (by decide) (by omega) hL dL_745 dL_746 dL_747 dL_748 dL_749 ?_
  refine lw_arg (k := 2) C0 hS hl (by decide) (by omega) hL dL_750 dL_751 dL_752 dL_753 dL_754 ?_
  refine lw_call (vs := [.int (xs (i + 1)), .int (xs (i + 2))]) (a := ad 0 0) C0 hl.1 hK hN hP hS (idx := 104) (y := mX7_bestSwap) (by decide +kernel) (by decide +kernel) (by decide +kernel) (by decide +kernel) (isO_0 (by decide) _) e1 (by simp [Value.category]) (Nat.le_of_ble_eq_true rfl) hnX7_bestSwap.symm (by simp [cats, Value.category]) hsl dL_755 rfl (fun H locs hP hS => ?_)
  refine lv_aload_n hx hb dL_758 rfl (lv_at hl 2 rfl) ?_
  refine lw_arg (k := 1) C0 hS hl (by decide) (by omega) hL dL_759 dL_760 dL_761 dL_762 dL_763 ?_
  refine lw_arg (k := 2) C0 hS hl (by decide) (by omega) hL dL_764 dL_765 dL_766 dL_767 dL_768 ?_
  refine lw_call (vs := [.int (xs (i + 1)), .int (xs (i + 2))]) (a := ad 29 0) C0 hl.1 hK hN hP hS (idx := 107) (y := mX8_bestSwap) (by decide +kernel) (by decide +kernel) (by decide +kernel) (by decide +kernel) (isO_29 (by decide) _) e2 (by simp [Value.category]) (Nat.le_of_ble_eq_true rfl) hnX8_bestSwap.symm (by simp [cats, Value.category]) hsl dL_769 rfl (fun H locs hP hS => ?_)
  refine lv_icmp_eq (tgt := 1079) hx hb dL_772 (by decide) (fun _ => kk σ2 H locs hR2 hP hS) (fun h => absurd rfl h)
theorem lc_23 {Rel : Mem → Prop} {i : Nat} (sim : Sim Rel mX7_home mX8_home [.int (xs (i + 1))]) (hR : Rel σ) (C0 : lw_At p s m meth c b Ln xs) (hK : va_K D vwCl (tysC cA) s) (hN : NWs s) (hP : va_P D vwCl (wsOf s.heap.size cA (enc σ)) H) (hS : va_S (fr0 s.heap.size) s.heap H locs) (hl : lv_has ls 4 [(0, .ref b), (1, .ref (s.heap.size + ad 0 0)), (2, .ref (s.heap.size + ad 29 0)), (3, .int (nI i))]) (hi : i + 4 ≤ Ln) (hL : Ln ≤ 2048) (hsl : sl ≤ 7302250)
    (kk : ∀ σ2 H1 locs1, Rel σ2 → va_P D vwCl (wsOf s.heap.size cA (enc σ2)) H1 → va_S (fr0 s.heap.size) s.heap H1 locs1 → W p l e room_1 s m #[Value.ref b] below meth c H1 locs1 256 sl Q (F0 m 1079 ls [])) : W p l e room_1 s m #[Value.ref b] below meth c H locs 256 sl Q (F0 m 777 ls []) := by
  obtain ⟨n1, n2, σ1, σ2, r, e1, e2, hR2⟩ := sim σ hR
  obtain ⟨hx, hb, hr, hml, hown, hts, hX, hbl, hlocks, hgv⟩ := id C0
  refine lv_aload_n hx hb dL_777 rfl (lv_at hl 1 rfl) ?_
  refine lw_arg (k := 1) C0 hS hl (by decide) (by omega) hL dL_778 dL_779 dL_780 dL_781 dL_782 ?_
  refine lw_call (vs := [.int (xs (i + 1))]) (a := ad 0 0) C0 hl.1 hK hN hP hS (idx := 108) (y := mX7_home) (by decide +kernel) (by decide +kernel) (by decide +kernel) (by decide +kernel) (isO_0 (by decide) _) e1 (by simp [Value.category]) (Nat.le_of_ble_eq_true rfl) hnX7_home.symm (by simp [cats, Value.category]) hsl dL_783 rfl (fun H locs hP hS => ?_)
  refine lv_aload_n hx hb dL_786 rfl (lv_at hl 2 rfl) ?_
  refine lw_arg (k := 1) C0 hS hl (by decide) (by omega) hL dL_787 dL_788 dL_789 dL_790 dL_791 ?_
  refine lw_call (vs := [.int (xs (i + 1))]) (a := ad 29 0) C0 hl.1 hK hN hP hS (idx := 111) (y := mX8_home) (by decide +kernel) (by decide +kernel) (by decide +kernel) (by decide +kernel) (isO_29 (by decide) _) e2 (by simp [Value.category]) (Nat.le_of_ble_eq_true rfl) hnX8_home.symm (by simp [cats, Value.category]) hsl dL_792 rfl (fun H locs hP hS => ?_)
  refine lv_icmp_eq (tgt := 1079) hx hb dL_795 (by decide) (fun _ => kk σ2 H locs hR2 hP hS) (fun h => absurd rfl h)
theorem lc_24 {Rel : Mem → Prop} {i : Nat} (sim : Sim Rel mX7_mostBread mX8_mostBread [.int (xs (i + 1))]) (hR : Rel σ) (C0 : lw_At p s m meth c b Ln xs) (hK : va_K D vwCl (tysC cA) s) (hN : NWs s) (hP : va_P D vwCl (wsOf s.heap.size cA (enc σ)) H) (hS : va_S (fr0 s.heap.size) s.heap H locs) (hl : lv_has ls 4 [(0, .ref b), (1, .ref (s.heap.size + ad 0 0)), (2, .ref (s.heap.size + ad 29 0)), (3, .int (nI i))]) (hi : i + 4 ≤ Ln) (hL : Ln ≤ 2048) (hsl : sl ≤ 7302250)
    (kk : ∀ σ2 H1 locs1, Rel σ2 → va_P D vwCl (wsOf s.heap.size cA (enc σ2)) H1 → va_S (fr0 s.heap.size) s.heap H1 locs1 → W p l e room_1 s m #[Value.ref b] below meth c H1 locs1 256 sl Q (F0 m 1079 ls [])) : W p l e room_1 s m #[Value.ref b] below meth c H locs 256 sl Q (F0 m 800 ls []) := by
  obtain ⟨n1, n2, σ1, σ2, r, e1, e2, hR2⟩ := sim σ hR
  obtain ⟨hx, hb, hr, hml, hown, hts, hX, hbl, hlocks, hgv⟩ := id C0
  refine lv_aload_n hx hb dL_800 rfl (lv_at hl 1 rfl) ?_
  refine lw_arg (k := 1) C0 hS hl (by decide) (by omega) hL dL_801 dL_802 dL_803 dL_804 dL_805 ?_
  refine lw_call (vs := [.int (xs (i + 1))]) (a := ad 0 0) C0 hl.1 hK hN hP hS (idx := 112) (y := mX7_mostBread) (by decide +kernel) (by decide +kernel) (by decide +kernel) (by decide +kernel) (isO_0 (by decide) _) e1 (by simp [Value.category]) (Nat.le_of_ble_eq_true rfl) hnX7_mostBread.symm (by simp [cats, Value.category]) hsl dL_806 rfl (fun H locs hP hS => ?_)
  refine lv_aload_n hx hb dL_809 rfl (lv_at hl 2 rfl) ?_
  refine lw_arg (k := 1) C0 hS hl (by decide) (by omega) hL dL_810 dL_811 dL_812 dL_813 dL_814 ?_
  refine lw_call (vs := [.int (xs (i + 1))]) (a := ad 29 0) C0 hl.1 hK hN hP hS (idx := 115) (y := mX8_mostBread) (by decide +kernel) (by decide +kernel) (by decide +kernel) (by decide +kernel) (isO_29 (by decide) _) e2 (by simp [Value.category]) (Nat.le_of_ble_eq_true rfl) hnX8_mostBread.symm (by simp [cats, Value.category]) hsl dL_815 rfl (fun H locs hP hS => ?_)
  refine lv_icmp_eq (tgt := 1079) hx hb dL_818 (by decide) (fun _ => kk σ2 H locs hR2 hP hS) (fun h => absurd rfl h)
theorem lc_25 {Rel : Mem → Prop} {i : Nat} (sim : Sim Rel mX7_sure mX8_sure [.int (xs (i + 1)), .int (xs (i + 2))]) (hR : Rel σ) (C0 : lw_At p s m meth c b Ln xs) (hK : va_K D vwCl (tysC cA) s) (hN : NWs s) (hP : va_P D vwCl (wsOf s.heap.size cA (enc σ)) H) (hS : va_S (fr0 s.heap.size) s.heap H locs) (hl : lv_has ls 4 [(0, .ref b), (1, .ref (s.heap.size + ad 0 0)), (2, .ref (s.heap.size + ad 29 0)), (3, .int (nI i))]) (hi : i + 4 ≤ Ln) (hL : Ln ≤ 2048) (hsl : sl ≤ 7302250)
    (kk : ∀ σ2 H1 locs1, Rel σ2 → va_P D vwCl (wsOf s.heap.size cA (enc σ2)) H1 → va_S (fr0 s.heap.size) s.heap H1 locs1 → W p l e room_1 s m #[Value.ref b] below meth c H1 locs1 256 sl Q (F0 m 1079 ls [])) : W p l e room_1 s m #[Value.ref b] below meth c H locs 256 sl Q (F0 m 823 ls []) := by
  obtain ⟨n1, n2, σ1, σ2, r, e1, e2, hR2⟩ := sim σ hR
  obtain ⟨hx, hb, hr, hml, hown, hts, hX, hbl, hlocks, hgv⟩ := id C0
  refine lv_aload_n hx hb dL_823 rfl (lv_at hl 1 rfl) ?_
  refine lw_arg (k := 1) C0 hS hl (by decide) (by omega) hL dL_824 dL_825 dL_826 dL_827 dL_828 ?_
  refine lw_arg (k := 2) C0 hS hl (by decide) (by omega) hL dL_829 dL_830 dL_831 dL_832 dL_833 ?_
  refine lw_call (vs := [.int (xs (i + 1)), .int (xs (i + 2))]) (a := ad 0 0) C0 hl.1 hK hN hP hS (idx := 116) (y := mX7_sure) (by decide +kernel) (by decide +kernel) (by decide +kernel) (by decide +kernel) (isO_0 (by decide) _) e1 (by simp [Value.category]) (Nat.le_of_ble_eq_true rfl) hnX7_sure.symm (by simp [cats, Value.category]) hsl dL_834 rfl (fun H locs hP hS => ?_)
  refine lv_aload_n hx hb dL_837 rfl (lv_at hl 2 rfl) ?_
  refine lw_arg (k := 1) C0 hS hl (by decide) (by omega) hL dL_838 dL_839 dL_840 dL_841 dL_842 ?_
  refine lw_arg (k := 2) C0 hS hl (by decide) (by omega) hL dL_843 dL_844 dL_845 dL_846 dL_847 ?_
  refine lw_call (vs := [.int (xs (i + 1)), .int (xs (i + 2))]) (a := ad 29 0) C0 hl.1 hK hN hP hS (idx := 119) (y := mX8_sure) (by decide +kernel) (by decide +kernel) (by decide +kernel) (by decide +kernel) (isO_29 (by decide) _) e2 (by simp [Value.category]) (Nat.le_of_ble_eq_true rfl) hnX8_sure.symm (by simp [cats, Value.category]) hsl dL_848 rfl (fun H locs hP hS => ?_)
  refine lv_icmp_eq (tgt := 1079) hx hb dL_851 (by decide) (fun _ => kk σ2 H locs hR2 hP hS) (fun h => absurd rfl h)
theorem lc_26 {Rel : Mem → Prop} {i : Nat} (sim : Sim Rel mX7_hear mX8_hear [.int (xs (i + 1)), .int (xs (i + 2)), .int (bI (¬ xs (i + 3) = 0))]) (hR : Rel σ) (C0 : lw_At p s m meth c b Ln xs) (hK : va_K D vwCl (tysC cA) s) (hN : NWs s) (hP : va_P D vwCl (wsOf s.heap.size cA (enc σ)) H) (hS : va_S (fr0 s.heap.size) s.heap H locs) (hl : lv_has ls 4 [(0, .ref b), (1, .ref (s.heap.size + ad 0 0)), (2, .ref (s.heap.size + ad 29 0)), (3, .int (nI i))]) (hi : i + 4 ≤ Ln) (hL : Ln ≤ 2048) (hsl : sl ≤ 7302250)
    (kk : ∀ σ2 H1 locs1, Rel σ2 → va_P D vwCl (wsOf s.heap.size cA (enc σ2)) H1 → va_S (fr0 s.heap.size) s.heap H1 locs1 → W p l e room_1 s m #[Value.ref b] below meth c H1 locs1 256 sl Q (F0 m 1079 ls [])) : W p l e room_1 s m #[Value.ref b] below meth c H locs 256 sl Q (F0 m 856 ls []) := by
  obtain ⟨n1, n2, σ1, σ2, r, e1, e2, hR2⟩ := sim σ hR
  obtain ⟨hx, hb, hr, hml, hown, hts, hX, hbl, hlocks, hgv⟩ := id C0
  refine lv_aload_n hx hb dL_856 rfl (lv_at hl 1 rfl) ?_
  refine lw_arg (k := 1) C0 hS hl (by decide) (by omega) hL dL_857 dL_858 dL_859 dL_860 dL_861 ?_
  refine lw_arg (k := 2) C0 hS hl (by decide) (by omega) hL dL_862 dL_863 dL_864 dL_865 dL_866 ?_
  refine lw_arg (k := 3) C0 hS hl (by decide) (by omega) hL dL_867 dL_868 dL_869 dL_870 dL_871 ?_
  have hcall0 : ∀ v : Int32, v = bI (¬ xs (i + 3) = 0) → W p l e room_1 s m #[Value.ref b] below meth c H locs 256 sl Q (F0 m 880 ls (.int v :: .int (xs (i + 2)) :: .int (xs (i + 1)) :: .ref (s.heap.size + ad 0 0) :: [])) := by
    intro v hv
    subst hv
    refine lw_call (vs := [.int (xs (i + 1)), .int (xs (i + 2)), .int (bI (¬ xs (i + 3) = 0))]) (a := ad 0 0) C0 hl.1 hK hN hP hS (idx := 120) (y := mX7_hear) (by decide +kernel) (by decide +kernel) (by decide +kernel) (by decide +kernel) (isO_0 (by decide) _) e1 (by simp [Value.category]) (Nat.le_of_ble_eq_true rfl) hnX7_hear.symm (by simp [cats, Value.category]) hsl dL_880 rfl (fun H locs hP hS => ?_)
    refine lv_aload_n hx hb dL_883 rfl (lv_at hl 2 rfl) ?_
    refine lw_arg (k := 1) C0 hS hl (by decide) (by omega) hL dL_884 dL_885 dL_886 dL_887 dL_888 ?_
    refine lw_arg (k := 2) C0 hS hl (by decide) (by omega) hL dL_889 dL_890 dL_891 dL_892 dL_893 ?_
    refine lw_arg (k := 3) C0 hS hl (by decide) (by omega) hL dL_894 dL_895 dL_896 dL_897 dL_898 ?_
    have hcall1 : ∀ v : Int32, v = bI (¬ xs (i + 3) = 0) → W p l e room_1 s m #[Value.ref b] below meth c H locs 256 sl Q (F0 m 907 ls (.int v :: .int (xs (i + 2)) :: .int (xs (i + 1)) :: .ref (s.heap.size + ad 29 0) :: [.int r])) := by
      intro v hv
      subst hv
      refine lw_call (vs := [.int (xs (i + 1)), .int (xs (i + 2)), .int (bI (¬ xs (i + 3) = 0))]) (a := ad 29 0) C0 hl.1 hK hN hP hS (idx := 124) (y := mX8_hear) (by decide +kernel) (by decide +kernel) (by decide +kernel) (by decide +kernel) (isO_29 (by decide) _) e2 (by simp [Value.category]) (Nat.le_of_ble_eq_true rfl) hnX8_hear.symm (by simp [cats, Value.category]) hsl dL_907 rfl (fun H locs hP hS => ?_)
      refine lv_icmp_eq (tgt := 1079) hx hb dL_910 (by decide) (fun _ => kk σ2 H locs hR2 hP hS) (fun h => absurd rfl h)
    refine lv_if_eq (tgt := 906) hx hb dL_899 (by decide) (fun hz => ?_) (fun hz => ?_)
    · refine lv_iconst (v := 0) hx hb dL_906 (by decide) ?_
      exact hcall1 _ (bI_f (fun z => z hz)).symm
    · refine lv_iconst (v := 1) hx hb dL_902 (by decide) ?_
      refine lv_goto (tgt := 907) hx hb dL_903 (by decide) ?_
      exact hcall1 _ (bI_t hz).symm
  refine lv_if_eq (tgt := 879) hx hb dL_872 (by decide) (fun hz => ?_) (fun hz => ?_)
  · refine lv_iconst (v := 0) hx hb dL_879 (by decide) ?_
    exact hcall0 _ (bI_f (fun z => z hz)).symm
  · refine lv_iconst (v := 1) hx hb dL_875 (by decide) ?_
    refine lv_goto (tgt := 880) hx hb dL_876 (by decide) ?_
    exact hcall0 _ (bI_t hz).symm
theorem lc_27 {Rel : Mem → Prop} {i : Nat} (sim : Sim Rel mX7_gales mX8_gales [.int (xs (i + 1))]) (hR : Rel σ) (C0 : lw_At p s m meth c b Ln xs) (hK : va_K D vwCl (tysC cA) s) (hN : NWs s) (hP : va_P D vwCl (wsOf s.heap.size cA (enc σ)) H) (hS : va_S (fr0 s.heap.size) s.heap H locs) (hl : lv_has ls 4 [(0, .ref b), (1, .ref (s.heap.size + ad 0 0)), (2, .ref (s.heap.size + ad 29 0)), (3, .int (nI i))]) (hi : i + 4 ≤ Ln) (hL : Ln ≤ 2048) (hsl : sl ≤ 7302250)
    (kk : ∀ σ2 H1 locs1, Rel σ2 → va_P D vwCl (wsOf s.heap.size cA (enc σ2)) H1 → va_S (fr0 s.heap.size) s.heap H1 locs1 → W p l e room_1 s m #[Value.ref b] below meth c H1 locs1 256 sl Q (F0 m 1079 ls [])) : W p l e room_1 s m #[Value.ref b] below meth c H locs 256 sl Q (F0 m 915 ls []) := by
  obtain ⟨n1, n2, σ1, σ2, r, e1, e2, hR2⟩ := sim σ hR
  obtain ⟨hx, hb, hr, hml, hown, hts, hX, hbl, hlocks, hgv⟩ := id C0
  refine lv_aload_n hx hb dL_915 rfl (lv_at hl 1 rfl) ?_
  refine lw_arg (k := 1) C0 hS hl (by decide) (by omega) hL dL_916 dL_917 dL_918 dL_919 dL_920 ?_
  refine lw_call (vs := [.int (xs (i + 1))]) (a := ad 0 0) C0 hl.1 hK hN hP hS (idx := 125) (y := mX7_gales) (by decide +kernel) (by decide +kernel) (by decide +kernel) (by decide +kernel) (isO_0 (by decide) _) e1 (by simp [Value.category]) (Nat.le_of_ble_eq_true rfl) hnX7_gales.symm (by simp [cats, Value.category]) hsl dL_921 rfl (fun H locs hP hS => ?_)
  refine lv_aload_n hx hb dL_924 rfl (lv_at hl 2 rfl) ?_
  refine lw_arg (k := 1) C0 hS hl (by decide) (by omega) hL dL_925 dL_926 dL_927 dL_928 dL_929 ?_
  refine lw_call (vs := [.int (xs (i + 1))]) (a := ad 29 0) C0 hl.1 hK hN hP hS (idx := 128) (y := mX8_gales) (by decide +kernel) (by decide +kernel) (by decide +kernel) (by decide +kernel) (isO_29 (by decide) _) e2 (by simp [Value.category]) (Nat.le_of_ble_eq_true rfl) hnX8_gales.symm (by simp [cats, Value.category]) hsl dL_930 rfl (fun H locs hP hS => ?_)
  refine lv_icmp_eq (tgt := 1079) hx hb dL_933 (by decide) (fun _ => kk σ2 H locs hR2 hP hS) (fun h => absurd rfl h)
theorem lc_28 {Rel : Mem → Prop} {i : Nat} (sim : Sim Rel mX7_listen mX8_listen []) (hR : Rel σ) (C0 : lw_At p s m meth c b Ln xs) (hK : va_K D vwCl (tysC cA) s) (hN : NWs s) (hP : va_P D vwCl (wsOf s.heap.size cA (enc σ)) H) (hS : va_S (fr0 s.heap.size) s.heap H locs) (hl : lv_has ls 4 [(0, .ref b), (1, .ref (s.heap.size + ad 0 0)), (2, .ref (s.heap.size + ad 29 0)), (3, .int (nI i))]) (hi : i + 4 ≤ Ln) (hL : Ln ≤ 2048) (hsl : sl ≤ 7302250)
    (kk : ∀ σ2 H1 locs1, Rel σ2 → va_P D vwCl (wsOf s.heap.size cA (enc σ2)) H1 → va_S (fr0 s.heap.size) s.heap H1 locs1 → W p l e room_1 s m #[Value.ref b] below meth c H1 locs1 256 sl Q (F0 m 1079 ls [])) : W p l e room_1 s m #[Value.ref b] below meth c H locs 256 sl Q (F0 m 938 ls []) := by
  obtain ⟨n1, n2, σ1, σ2, r, e1, e2, hR2⟩ := sim σ hR
  obtain ⟨hx, hb, hr, hml, hown, hts, hX, hbl, hlocks, hgv⟩ := id C0
  refine lv_aload_n hx hb dL_938 rfl (lv_at hl 1 rfl) ?_
  refine lw_call (vs := []) (a := ad 0 0) C0 hl.1 hK hN hP hS (idx := 129) (y := mX7_listen) (by decide +kernel) (by decide +kernel) (by decide +kernel) (by decide +kernel) (isO_0 (by decide) _) e1 (by simp [Value.category]) (Nat.le_of_ble_eq_true rfl) hnX7_listen.symm (by simp [cats, Value.category]) hsl dL_939 rfl (fun H locs hP hS => ?_)
  refine lv_aload_n hx hb dL_942 rfl (lv_at hl 2 rfl) ?_
  refine lw_call (vs := []) (a := ad 29 0) C0 hl.1 hK hN hP hS (idx := 132) (y := mX8_listen) (by decide +kernel) (by decide +kernel) (by decide +kernel) (by decide +kernel) (isO_29 (by decide) _) e2 (by simp [Value.category]) (Nat.le_of_ble_eq_true rfl) hnX8_listen.symm (by simp [cats, Value.category]) hsl dL_943 rfl (fun H locs hP hS => ?_)
  refine lv_icmp_eq (tgt := 1079) hx hb dL_946 (by decide) (fun _ => kk σ2 H locs hR2 hP hS) (fun h => absurd rfl h)
theorem lc_29 {Rel : Mem → Prop} {i : Nat} (sim : Sim Rel mX7_write mX8_write [.int (xs (i + 1)), .int (xs (i + 2))]) (hR : Rel σ) (C0 : lw_At p s m meth c b Ln xs) (hK : va_K D vwCl (tysC cA) s) (hN : NWs s) (hP : va_P D vwCl (wsOf s.heap.size cA (enc σ)) H) (hS : va_S (fr0 s.heap.size) s.heap H locs) (hl : lv_has ls 4 [(0, .ref b), (1, .ref (s.heap.size + ad 0 0)), (2, .ref (s.heap.size + ad 29 0)), (3, .int (nI i))]) (hi : i + 4 ≤ Ln) (hL : Ln ≤ 2048) (hsl : sl ≤ 7302250)
    (kk : ∀ σ2 H1 locs1, Rel σ2 → va_P D vwCl (wsOf s.heap.size cA (enc σ2)) H1 → va_S (fr0 s.heap.size) s.heap H1 locs1 → W p l e room_1 s m #[Value.ref b] below meth c H1 locs1 256 sl Q (F0 m 1079 ls [])) : W p l e room_1 s m #[Value.ref b] below meth c H locs 256 sl Q (F0 m 951 ls []) := by
  obtain ⟨n1, n2, σ1, σ2, r, e1, e2, hR2⟩ := sim σ hR
  obtain ⟨hx, hb, hr, hml, hown, hts, hX, hbl, hlocks, hgv⟩ := id C0
  refine lv_aload_n hx hb dL_951 rfl (lv_at hl 1 rfl) ?_
  refine lw_arg (k := 1) C0 hS hl (by decide) (by omega) hL dL_952 dL_953 dL_954 dL_955 dL_956 ?_
  refine lw_arg (k := 2) C0 hS hl (by decide) (by omega) hL dL_957 dL_958 dL_959 dL_960 dL_961 ?_
  refine lw_call (vs := [.int (xs (i + 1)), .int (xs (i + 2))]) (a := ad 0 0) C0 hl.1 hK hN hP hS (idx := 133) (y := mX7_write) (by decide +kernel) (by decide +kernel) (by decide +kernel) (by decide +kernel) (isO_0 (by decide) _) e1 (by simp [Value.category]) (Nat.le_of_ble_eq_true rfl) hnX7_write.symm (by simp [cats, Value.category]) hsl dL_962 rfl (fun H locs hP hS => ?_)
  refine lv_aload_n hx hb dL_965 rfl (lv_at hl 2 rfl) ?_
  refine lw_arg (k := 1) C0 hS hl (by decide) (by omega) hL dL_966 dL_967 dL_968 dL_969 dL_970 ?_
  refine lw_arg (k := 2) C0 hS hl (by decide) (by omega) hL dL_971 dL_972 dL_973 dL_974 dL_975 ?_
  refine lw_call (vs := [.int (xs (i + 1)), .int (xs (i + 2))]) (a := ad 29 0) C0 hl.1 hK hN hP hS (idx := 136) (y := mX8_write) (by decide +kernel) (by decide +kernel) (by decide +kernel) (by decide +kernel) (isO_29 (by decide) _) e2 (by simp [Value.category]) (Nat.le_of_ble_eq_true rfl) hnX8_write.symm (by simp [cats, Value.category]) hsl dL_976 rfl (fun H locs hP hS => ?_)
  refine lv_icmp_eq (tgt := 1079) hx hb dL_979 (by decide) (fun _ => kk σ2 H locs hR2 hP hS) (fun h => absurd rfl h)
theorem lc_30 {Rel : Mem → Prop} {i : Nat} (sim : Sim Rel mX7_judge mX8_judge []) (hR : Rel σ) (C0 : lw_At p s m meth c b Ln xs) (hK : va_K D vwCl (tysC cA) s) (hN : NWs s) (hP : va_P D vwCl (wsOf s.heap.size cA (enc σ)) H) (hS : va_S (fr0 s.heap.size) s.heap H locs) (hl : lv_has ls 4 [(0, .ref b), (1, .ref (s.heap.size + ad 0 0)), (2, .ref (s.heap.size + ad 29 0)), (3, .int (nI i))]) (hi : i + 4 ≤ Ln) (hL : Ln ≤ 2048) (hsl : sl ≤ 7302250)
    (kk : ∀ σ2 H1 locs1, Rel σ2 → va_P D vwCl (wsOf s.heap.size cA (enc σ2)) H1 → va_S (fr0 s.heap.size) s.heap H1 locs1 → W p l e room_1 s m #[Value.ref b] below meth c H1 locs1 256 sl Q (F0 m 1079 ls [])) : W p l e room_1 s m #[Value.ref b] below meth c H locs 256 sl Q (F0 m 984 ls []) := by
  obtain ⟨n1, n2, σ1, σ2, r, e1, e2, hR2⟩ := sim σ hR
  obtain ⟨hx, hb, hr, hml, hown, hts, hX, hbl, hlocks, hgv⟩ := id C0
  refine lv_aload_n hx hb dL_984 rfl (lv_at hl 1 rfl) ?_
  refine lw_call (vs := []) (a := ad 0 0) C0 hl.1 hK hN hP hS (idx := 137) (y := mX7_judge) (by decide +kernel) (by decide +kernel) (by decide +kernel) (by decide +kernel) (isO_0 (by decide) _) e1 (by simp [Value.category]) (Nat.le_of_ble_eq_true rfl) hnX7_judge.symm (by simp [cats, Value.category]) hsl dL_985 rfl (fun H locs hP hS => ?_)
  refine lv_aload_n hx hb dL_988 rfl (lv_at hl 2 rfl) ?_
  refine lw_call (vs := []) (a := ad 29 0) C0 hl.1 hK hN hP hS (idx := 140) (y := mX8_judge) (by decide +kernel) (by decide +kernel) (by decide +kernel) (by decide +kernel) (isO_29 (by decide) _) e2 (by simp [Value.category]) (Nat.le_of_ble_eq_true rfl) hnX8_judge.symm (by simp [cats, Value.category]) hsl dL_989 rfl (fun H locs hP hS => ?_)
  refine lv_icmp_eq (tgt := 1079) hx hb dL_992 (by decide) (fun _ => kk σ2 H locs hR2 hP hS) (fun h => absurd rfl h)
theorem lc_31 {Rel : Mem → Prop} {i : Nat} (sim : Sim Rel mX7_tear mX8_tear []) (hR : Rel σ) (C0 : lw_At p s m meth c b Ln xs) (hK : va_K D vwCl (tysC cA) s) (hN : NWs s) (hP : va_P D vwCl (wsOf s.heap.size cA (enc σ)) H) (hS : va_S (fr0 s.heap.size) s.heap H locs) (hl : lv_has ls 4 [(0, .ref b), (1, .ref (s.heap.size + ad 0 0)), (2, .ref (s.heap.size + ad 29 0)), (3, .int (nI i))]) (hi : i + 4 ≤ Ln) (hL : Ln ≤ 2048) (hsl : sl ≤ 7302250)
    (kk : ∀ σ2 H1 locs1, Rel σ2 → va_P D vwCl (wsOf s.heap.size cA (enc σ2)) H1 → va_S (fr0 s.heap.size) s.heap H1 locs1 → W p l e room_1 s m #[Value.ref b] below meth c H1 locs1 256 sl Q (F0 m 1079 ls [])) : W p l e room_1 s m #[Value.ref b] below meth c H locs 256 sl Q (F0 m 997 ls []) := by
  obtain ⟨n1, n2, σ1, σ2, r, e1, e2, hR2⟩ := sim σ hR
  obtain ⟨hx, hb, hr, hml, hown, hts, hX, hbl, hlocks, hgv⟩ := id C0
  refine lv_aload_n hx hb dL_997 rfl (lv_at hl 1 rfl) ?_
  refine lw_call (vs := []) (a := ad 0 0) C0 hl.1 hK hN hP hS (idx := 141) (y := mX7_tear) (by decide +kernel) (by decide +kernel) (by decide +kernel) (by decide +kernel) (isO_0 (by decide) _) e1 (by simp [Value.category]) (Nat.le_of_ble_eq_true rfl) hnX7_tear.symm (by simp [cats, Value.category]) hsl dL_998 rfl (fun H locs hP hS => ?_)
  refine lv_aload_n hx hb dL_1001 rfl (lv_at hl 2 rfl) ?_
  refine lw_call (vs := []) (a := ad 29 0) C0 hl.1 hK hN hP hS (idx := 144) (y := mX8_tear) (by decide +kernel) (by decide +kernel) (by decide +kernel) (by decide +kernel) (isO_29 (by decide) _) e2 (by simp [Value.category]) (Nat.le_of_ble_eq_true rfl) hnX8_tear.symm (by simp [cats, Value.category]) hsl dL_1002 rfl (fun H locs hP hS => ?_)
  refine lv_icmp_eq (tgt := 1079) hx hb dL_1005 (by decide) (fun _ => kk σ2 H locs hR2 hP hS) (fun h => absurd rfl h)
theorem lc_32 {Rel : Mem → Prop} {i : Nat} (sim : Sim Rel mX7_seed mX8_seed [.int (xs (i + 1))]) (hR : Rel σ) (C0 : lw_At p s m meth c b Ln xs) (hK : va_K D vwCl (tysC cA) s) (hN : NWs s) (hP : va_P D vwCl (wsOf s.heap.size cA (enc σ)) H) (hS : va_S (fr0 s.heap.size) s.heap H locs) (hl : lv_has ls 4 [(0, .ref b), (1, .ref (s.heap.size + ad 0 0)), (2, .ref (s.heap.size + ad 29 0)), (3, .int (nI i))]) (hi : i + 4 ≤ Ln) (hL : Ln ≤ 2048) (hsl : sl ≤ 7302250)
    (kk : ∀ σ2 H1 locs1, Rel σ2 → va_P D vwCl (wsOf s.heap.size cA (enc σ2)) H1 → va_S (fr0 s.heap.size) s.heap H1 locs1 → W p l e room_1 s m #[Value.ref b] below meth c H1 locs1 256 sl Q (F0 m 1079 ls [])) : W p l e room_1 s m #[Value.ref b] below meth c H locs 256 sl Q (F0 m 1010 ls []) := by
  obtain ⟨n1, n2, σ1, σ2, r, e1, e2, hR2⟩ := sim σ hR
  obtain ⟨hx, hb, hr, hml, hown, hts, hX, hbl, hlocks, hgv⟩ := id C0
  refine lv_aload_n hx hb dL_1010 rfl (lv_at hl 1 rfl) ?_
  refine lw_arg (k := 1) C0 hS hl (by decide) (by omega) hL dL_1011 dL_1012 dL_1013 dL_1014 dL_1015 ?_
  refine lw_call (vs := [.int (xs (i + 1))]) (a := ad 0 0) C0 hl.1 hK hN hP hS (idx := 145) (y := mX7_seed) (by decide +kernel) (by decide +kernel) (by decide +kernel) (by decide +kernel) (isO_0 (by decide) _) e1 (by simp [Value.category]) (Nat.le_of_ble_eq_true rfl) hnX7_seed.symm (by simp [cats, Value.category]) hsl dL_1016 rfl (fun H locs hP hS => ?_)
  refine lv_aload_n hx hb dL_1019 rfl (lv_at hl 2 rfl) ?_
  refine lw_arg (k := 1) C0 hS hl (by decide) (by omega) hL dL_1020 dL_1021 dL_1022 dL_1023 dL_1024 ?_
  refine lw_call (vs := [.int (xs (i + 1))]) (a := ad 29 0) C0 hl.1 hK hN hP hS (idx := 148) (y := mX8_seed) (by decide +kernel) (by decide +kernel) (by decide +kernel) (by decide +kernel) (isO_29 (by decide) _) e2 (by simp [Value.category]) (Nat.le_of_ble_eq_true rfl) hnX8_seed.symm (by simp [cats, Value.category]) hsl dL_1025 rfl (fun H locs hP hS => ?_)
  refine lv_icmp_eq (tgt := 1079) hx hb dL_1028 (by decide) (fun _ => kk σ2 H locs hR2 hP hS) (fun h => absurd rfl h)
theorem lc_33 {Rel : Mem → Prop} {i : Nat} (sim : Sim Rel mX7_keep mX8_keep [.int (xs (i + 1))]) (hR : Rel σ) (C0 : lw_At p s m meth c b Ln xs) (hK : va_K D vwCl (tysC cA) s) (hN : NWs s) (hP : va_P D vwCl (wsOf s.heap.size cA (enc σ)) H) (hS : va_S (fr0 s.heap.size) s.heap H locs) (hl : lv_has ls 4 [(0, .ref b), (1, .ref (s.heap.size + ad 0 0)), (2, .ref (s.heap.size + ad 29 0)), (3, .int (nI i))]) (hi : i + 4 ≤ Ln) (hL : Ln ≤ 2048) (hsl : sl ≤ 7302250)
    (kk : ∀ σ2 H1 locs1, Rel σ2 → va_P D vwCl (wsOf s.heap.size cA (enc σ2)) H1 → va_S (fr0 s.heap.size) s.heap H1 locs1 → W p l e room_1 s m #[Value.ref b] below meth c H1 locs1 256 sl Q (F0 m 1079 ls [])) : W p l e room_1 s m #[Value.ref b] below meth c H locs 256 sl Q (F0 m 1033 ls []) := by
  obtain ⟨n1, n2, σ1, σ2, r, e1, e2, hR2⟩ := sim σ hR
  obtain ⟨hx, hb, hr, hml, hown, hts, hX, hbl, hlocks, hgv⟩ := id C0
  refine lv_aload_n hx hb dL_1033 rfl (lv_at hl 1 rfl) ?_
  refine lw_arg (k := 1) C0 hS hl (by decide) (by omega) hL dL_1034 dL_1035 dL_1036 dL_1037 dL_1038 ?_
  refine lw_call (vs := [.int (xs (i + 1))]) (a := ad 0 0) C0 hl.1 hK hN hP hS (idx := 149) (y := mX7_keep) (by decide +kernel) (by decide +kernel) (by decide +kernel) (by decide +kernel) (isO_0 (by decide) _) e1 (by simp [Value.category]) (Nat.le_of_ble_eq_true rfl) hnX7_keep.symm (by simp [cats, Value.category]) hsl dL_1039 rfl (fun H locs hP hS => ?_)
  refine lv_aload_n hx hb dL_1042 rfl (lv_at hl 2 rfl) ?_
  refine lw_arg (k := 1) C0 hS hl (by decide) (by omega) hL dL_1043 dL_1044 dL_1045 dL_1046 dL_1047 ?_
  refine lw_call (vs := [.int (xs (i + 1))]) (a := ad 29 0) C0 hl.1 hK hN hP hS (idx := 152) (y := mX8_keep) (by decide +kernel) (by decide +kernel) (by decide +kernel) (by decide +kernel) (isO_29 (by decide) _) e2 (by simp [Value.category]) (Nat.le_of_ble_eq_true rfl) hnX8_keep.symm (by simp [cats, Value.category]) hsl dL_1048 rfl (fun H locs hP hS => ?_)
  refine lv_icmp_eq (tgt := 1079) hx hb dL_1051 (by decide) (fun _ => kk σ2 H locs hR2 hP hS) (fun h => absurd rfl h)
theorem lc_34 {Rel : Mem → Prop} {i : Nat} (sim : Sim Rel mX7_goBack mX8_goBack [.int (xs (i + 1))]) (hR : Rel σ) (C0 : lw_At p s m meth c b Ln xs) (hK : va_K D vwCl (tysC cA) s) (hN : NWs s) (hP : va_P D vwCl (wsOf s.heap.size cA (enc σ)) H) (hS : va_S (fr0 s.heap.size) s.heap H locs) (hl : lv_has ls 4 [(0, .ref b), (1, .ref (s.heap.size + ad 0 0)), (2, .ref (s.heap.size + ad 29 0)), (3, .int (nI i))]) (hi : i + 4 ≤ Ln) (hL : Ln ≤ 2048) (hsl : sl ≤ 7302250)
    (kk : ∀ σ2 H1 locs1, Rel σ2 → va_P D vwCl (wsOf s.heap.size cA (enc σ2)) H1 → va_S (fr0 s.heap.size) s.heap H1 locs1 → W p l e room_1 s m #[Value.ref b] below meth c H1 locs1 256 sl Q (F0 m 1079 ls [])) : W p l e room_1 s m #[Value.ref b] below meth c H locs 256 sl Q (F0 m 1056 ls []) := by
  obtain ⟨n1, n2, σ1, σ2, r, e1, e2, hR2⟩ := sim σ hR
  obtain ⟨hx, hb, hr, hml, hown, hts, hX, hbl, hlocks, hgv⟩ := id C0
  refine lv_aload_n hx hb dL_1056 rfl (lv_at hl 1 rfl) ?_
  refine lw_arg (k := 1) C0 hS hl (by decide) (by omega) hL dL_1057 dL_1058 dL_1059 dL_1060 dL_1061 ?_
  refine lw_call (vs := [.int (xs (i + 1))]) (a := ad 0 0) C0 hl.1 hK hN hP hS (idx := 153) (y := mX7_goBack) (by decide +kernel) (by decide +kernel) (by decide +kernel) (by decide +kernel) (isO_0 (by decide) _) e1 (by simp [Value.category]) (Nat.le_of_ble_eq_true rfl) hnX7_goBack.symm (by simp [cats, Value.category]) hsl dL_1062 rfl (fun H locs hP hS => ?_)
  refine lv_aload_n hx hb dL_1065 rfl (lv_at hl 2 rfl) ?_
  refine lw_arg (k := 1) C0 hS hl (by decide) (by omega) hL dL_1066 dL_1067 dL_1068 dL_1069 dL_1070 ?_
  refine lw_call (vs := [.int (xs (i + 1))]) (a := ad 29 0) C0 hl.1 hK hN hP hS (idx := 156) (y := mX8_goBack) (by decide +kernel) (by decide +kernel) (by decide +kernel) (by decide +kernel) (isO_29 (by decide) _) e2 (by simp [Value.category]) (Nat.le_of_ble_eq_true rfl) hnX8_goBack.symm (by simp [cats, Value.category]) hsl dL_1071 rfl (fun H locs hP hS => ?_)
  refine lv_icmp_eq (tgt := 1079) hx hb dL_1074 (by decide) (fun _ => kk σ2 H locs hR2 hP hS) (fun h => absurd rfl h)
end LAW
def Apis (Rel : Mem → Prop) : Prop := (∀ x0 : Int32, Sim Rel mX7_feed mX8_feed [.int x0]) ∧ (Sim Rel mX7_row mX8_row []) ∧ (Sim Rel mX7_fault mX8_fault []) ∧ (∀ x0 : Int32, Sim Rel mX7_told mX8_told [.int x0]) ∧ (∀ x0 x1 : Int32, Sim Rel mX7_house mX8_house [.int x0, .int x1]) ∧ (∀ x0 x1 : Int32, Sim Rel mX7_gull mX8_gull [.int x0, .int x1]) ∧ (∀ x0 : Int32, Sim Rel mX7_ahead mX8_ahead [.int x0]) ∧ (∀ x0 x1 : Int32, Sim Rel mX7_logged mX8_logged [.int x0, .int x1]) ∧ (∀ x0 : Int32, Sim Rel mX7_day mX8_day [.int x0]) ∧ (∀ x0 x1 : Int32, Sim Rel mX7_pay mX8_pay [.int x0, .int x1]) ∧ (∀ x0 x1 : Int32, Sim Rel mX7_bread mX8_bread [.int x0, .int x1]) ∧ (∀ x0 : Int32, Sim Rel mX7_stone mX8_stone [.int x0]) ∧ (∀ x0 : Int32, Sim Rel mX7_lend mX8_lend [.int x0]) ∧ (∀ x0 x1 : Int32, Sim Rel mX7_swap mX8_swap [.int x0, .int x1]) ∧ (∀ x0 : Int32, Sim Rel mX7_drift mX8_drift [.int x0]) ∧ (∀ x0 : Int32, Sim Rel mX7_undo mX8_undo [.int x0]) ∧ (∀ x0 x1 : Int32, Sim Rel mX7_owes mX8_owes [.int x0, .int x1]) ∧ (∀ x0 : Int32, Sim Rel mX7_firstOut mX8_firstOut [.int x0]) ∧ (∀ x0 : Int32, Sim Rel mX7_outBy mX8_outBy [.int x0]) ∧ (∀ x0 : Int32, Sim Rel mX7_redeemedBy mX8_redeemedBy [.int x0]) ∧ (∀ x0 : Int32, Sim Rel mX7_loan mX8_loan [.int x0]) ∧ (∀ x0 : Int32, Sim Rel mX7_clear mX8_clear [.int x0]) ∧ (∀ x0 x1 : Int32, Sim Rel mX7_bestSwap mX8_bestSwap [.int x0, .int x1]) ∧ (∀ x0 : Int32, Sim Rel mX7_home mX8_home [.int x0]) ∧ (∀ x0 : Int32, Sim Rel mX7_mostBread mX8_mostBread [.int x0]) ∧ (∀ x0 x1 : Int32, Sim Rel mX7_sure mX8_sure [.int x0, .int x1]) ∧ (∀ x0 x1 x2 : Int32, Sim Rel mX7_hear mX8_hear [.int x0, .int x1, .int (bI (¬ x2 = 0))]) ∧ (∀ x0 : Int32, Sim Rel mX7_gales mX8_gales [.int x0]) ∧ (Sim Rel mX7_listen mX8_listen []) ∧ (∀ x0 x1 : Int32, Sim Rel mX7_write mX8_write [.int x0, .int x1]) ∧ (Sim Rel mX7_judge mX8_judge []) ∧ (Sim Rel mX7_tear mX8_tear []) ∧ (∀ x0 : Int32, Sim Rel mX7_seed mX8_seed [.int x0]) ∧ (∀ x0 : Int32, Sim Rel mX7_keep mX8_keep [.int x0]) ∧ (∀ x0 : Int32, Sim Rel mX7_goBack mX8_goBack [.int x0])
set_option maxHeartbeats 4000000 in
theorem law_loop {p : Program} {l : Launch} {e : Env} {s : State} {m : MethodId} {below : List Frame} {meth : Method} {c : Code} {b Ln : Nat} {xs : Nat → Int32} {D : va_G} {cA : Nat → ClassId} {Rel : Mem → Prop} (hA : Apis Rel) (C0 : lw_At p s m meth c b Ln xs) (hK : va_K D vwCl (tysC cA) s) (hN : NWs s) (hL : Ln ≤ 2048) {sl : Nat} (hsl : sl ≤ 7302250) :
    ∀ (n i : Nat), i ≤ Ln → Ln < n + i → ∀ (σ : Mem) (H : Heap) (locs : List Loc) (ls : Array Slot), Rel σ → va_P D vwCl (wsOf s.heap.size cA (enc σ)) H → va_S (fr0 s.heap.size) s.heap H locs → lv_has ls 4 [(0, .ref b), (1, .ref (s.heap.size + ad 0 0)), (2, .ref (s.heap.size + ad 29 0)), (3, .int (nI i))] →
    W p l e room_1 s m #[Value.ref b] below meth c H locs 256 sl (lw_Z below #[Value.ref b] s) (F0 m 18 ls []) := by
  obtain ⟨hx, hb, hr, hml, hown, hts, hX, hbl, hlocks, hgv⟩ := id C0
  intro n
  induction n with
  | zero => intro i h1 h2; omega
  | succ n ih =>
    intro i hi hn σ H locs ls hR hP hS hl
    refine lv_iload_n hx hb dL_18 rfl (lv_at hl 3 rfl) ?_
    refine lv_aload_n hx hb dL_19 rfl (lv_at hl 0 rfl) ?_
    refine va_slen hx hb hX hbl (A := fr0 s.heap.size) (fun h => by unfold fr0 at h; omega) hS dL_20 ?_
    refine lv_iconst (v := 4) hx hb dL_21 (by decide) ?_
    refine lv_isub hx hb dL_22 ?_
    have e4 : (Int32.ofNat Ln - 4).toInt = (Ln : Int) - 4 := pk_sub_toInt (a := Ln) (b := 4) (by omega) (by decide)
    have e3 : (nI i).toInt = (i : Int) := nI_toInt (by omega)
    refine lv_icmp_gt (tgt := 1085) hx hb dL_23 (by decide) (fun hg => ?_) (fun hg => ?_)
    · refine lv_iconst (v := 1) hx hb dL_1085 (by decide) ?_
      refine va_forget (fun q hq => hS.2.2 q hq) ?_
      refine W.widen (k := 600000) (n := 7302250) (by decide) hsl ?_
      exact lw_ret hx hb hr hlocks dL_1086
    · have hi4 : i + 4 ≤ Ln := by
        rcases Nat.lt_or_ge Ln (i + 4) with q | q
        · exact absurd (Int32.lt_iff_toInt_lt.mpr (by rw [e4, e3]; omega)) hg
        · exact q
      have nxt : ∀ (σ2 : Mem) (H1 : Heap) (locs1 : List Loc), Rel σ2 → va_P D vwCl (wsOf s.heap.size cA (enc σ2)) H1 → va_S (fr0 s.heap.size) s.heap H1 locs1 → W p l e room_1 s m #[Value.ref b] below meth c H1 locs1 256 sl (lw_Z below #[Value.ref b] s) (F0 m 1079 ls []) := by
        intro σ2 H1 locs1 r2 p2 s2
        refine lv_iinc (v := nI (i + 4)) (lv' := [(3, .int (nI (i + 4))), (0, .ref b), (1, .ref (s.heap.size + ad 0 0)), (2, .ref (s.heap.size + ad 29 0))]) hx hb dL_1079 hl (k := 3) rfl (by rw [← nI_add]; rfl) (by decide) rfl (fun ls hl => ?_)
        refine lv_goto (tgt := 18) hx hb dL_1082 (by decide) ?_
        exact ih (i + 4) hi4 (by omega) σ2 H1 locs1 ls r2 p2 s2 (lv_sub hl [1, 2, 3, 0] rfl)
      refine lv_aload_n hx hb dL_26 rfl (lv_at hl 0 rfl) ?_
      refine lv_iload_n hx hb dL_27 rfl (lv_at hl 3 rfl) ?_
      refine va_sld hx hb hX hbl (A := fr0 s.heap.size) (fun h => by unfold fr0 at h; omega) hS (vp_in_nI (by omega) (by omega)) dL_28 ?_
      refine lv_bipush (v := 63) hx hb dL_29 (by decide) ?_
      refine lv_iand hx hb dL_31 ?_
      obtain ⟨j, hj, ej⟩ := pk_andE (xs (nI i).toNatClampNeg) (m := 63) 6 (by decide)
      rw [ej]
      have hj64 : j < 64 := hj
      rcases Nat.lt_or_ge j 35 with q | q
      · match j, q with
        | 0, _ => exact lv_tableIn (tgt := 188) hx hb dL_32 (by decide) (by decide) rfl (by decide) (lc_0 (hA.1 (xs (i + 1))) hR C0 hK hN hP hS hl hi4 hL hsl nxt)
        | 1, _ => exact lv_tableIn (tgt := 211) hx hb dL_32 (by decide) (by decide) rfl (by decide) (lc_1 (hA.2.1) hR C0 hK hN hP hS hl hi4 hL hsl nxt)
        | 2, _ => exact lv_tableIn (tgt := 224) hx hb dL_32 (by decide) (by decide) rfl (by decide) (lc_2 (hA.2.2.1) hR C0 hK hN hP hS hl hi4 hL hsl nxt)
        | 3, _ => exact lv_tableIn (tgt := 237) hx hb dL_32 (by decide) (by decide) rfl (by decide) (lc_3 (hA.2.2.2.1 (xs (i + 1))) hR C0 hK hN hP hS hl hi4 hL hsl nxt)
        | 4, _ => exact lv_tableIn (tgt := 260) hx hb dL_32 (by decide) (by decide) rfl (by decide) (lc_4 (hA.2.2.2.2.1 (xs (i + 1)) (xs (i + 2))) hR C0 hK hN hP hS hl hi4 hL hsl nxt)
        | 5, _ => exact lv_tableIn (tgt := 293) hx hb dL_32 (by decide) (by decide) rfl (by decide) (lc_5 (hA.2.2.2.2.2.1 (xs (i + 1)) (xs (i + 2))) hR C0 hK hN hP hS hl hi4 hL hsl nxt)
        | 6, _ => exact lv_tableIn (tgt := 326) hx hb dL_32 (by decide) (by decide) rfl (by decide) (lc_6 (hA.2.2.2.2.2.2.1 (xs (i + 1))) hR C0 hK hN hP hS hl hi4 hL hsl nxt)
        | 7, _ => exact lv_tableIn (tgt := 349) hx hb dL_32 (by decide) (by decide) rfl (by decide) (lc_7 (hA.2.2.2.2.2.2.2.1 (xs (i + 1)) (xs (i + 2))) hR C0 hK hN hP hS hl hi4 hL hsl nxt)
        | 8, _ => exact lv_tableIn (tgt := 382) hx hb dL_32 (by decide) (by decide) rfl (by decide) (lc_8 (hA.2.2.2.2.2.2.2.2.1 (xs (i + 1))) hR C0 hK hN hP hS hl hi4 hL hsl nxt)
        | 9, _ => exact lv_tableIn (tgt := 405) hx hb dL_32 (by decide) (by decide) rfl (by decide) (lc_9 (hA.2.2.2.2.2.2.2.2.2.1 (xs (i + 1)) (xs (i + 2))) hR C0 hK hN hP hS hl hi4 hL hsl nxt)
        | 10, _ => exact lv_tableIn (tgt := 438) hx hb dL_32 (by decide) (by decide) rfl (by decide) (lc_10 (hA.2.2.2.2.2.2.2.2.2.2.1 (xs (i + 1)) (xs (i + 2))) hR C0 hK hN hP hS hl hi4 hL hsl nxt)
        | 11, _ => exact lv_tableIn (tgt := 471) hx hb dL_32 (by decide) (by decide) rfl (by decide) (lc_11 (hA.2.2.2.2.2.2.2.2.2.2.2.1 (xs (i + 1))) hR C0 hK hN hP hS hl hi4 hL hsl nxt)
        | 12, _ => exact lv_tableIn (tgt := 494) hx hb dL_32 (by decide) (by decide) rfl (by decide) (lc_12 (hA.2.2.2.2.2.2.2.2.2.2.2.2.1 (xs (i + 1))) hR C0 hK hN hP hS hl hi4 hL hsl nxt)
        | 13, _ => exact lv_tableIn (tgt := 517) hx hb dL_32 (by decide) (by decide) rfl (by decide) (lc_13 (hA.2.2.2.2.2.2.2.2.2.2.2.2.2.1 (xs (i + 1)) (xs (i + 2))) hR C0 hK hN hP hS hl hi4 hL hsl nxt)
        | 14, _ => exact lv_tableIn (tgt := 550) hx hb dL_32 (by decide) (by decide) rfl (by decide) (lc_14 (hA.2.2.2.2.2.2.2.2.2.2.2.2.2.2.1 (xs (i + 1))) hR C0 hK hN hP hS hl hi4 hL hsl nxt)
        | 15, _ => exact lv_tableIn (tgt := 573) hx hb dL_32 (by decide) (by decide) rfl (by decide) (lc_15 (hA.2.2.2.2.2.2.2.2.2.2.2.2.2.2.2.1 (xs (i + 1))) hR C0 hK hN hP hS hl hi4 hL hsl nxt)
        | 16, _ => exact lv_tableIn (tgt := 596) hx hb dL_32 (by decide) (by decide) rfl (by decide) (lc_16 (hA.2.2.2.2.2.2.2.2.2.2.2.2.2.2.2.2.1 (xs (i + 1)) (xs (i + 2))) hR C0 hK hN hP hS hl hi4 hL hsl nxt)
        | 17, _ => exact lv_tableIn (tgt := 629) hx hb dL_32 (by decide) (by decide) rfl (by decide) (lc_17 (hA.2.2.2.2.2.2.2.2.2.2.2.2.2.2.2.2.2.1 (xs (i + 1))) hR C0 hK hN hP hS hl hi4 hL hsl nxt)
        | 18, _ => exact lv_tableIn (tgt := 652) hx hb dL_32 (by decide) (by decide) rfl (by decide) (lc_18 (hA.2.2.2.2.2.2.2.2.2.2.2.2.2.2.2.2.2.2.1 (xs (i + 1))) hR C0 hK hN hP hS hl hi4 hL hsl nxt)
        | 19, _ => exact lv_tableIn (tgt := 675) hx hb dL_32 (by decide) (by decide) rfl (by decide) (lc_19 (hA.2.2.2.2.2.2.2.2.2.2.2.2.2.2.2.2.2.2.2.1 (xs (i + 1))) hR C0 hK hN hP hS hl hi4 hL hsl nxt)
        | 20, _ => exact lv_tableIn (tgt := 698) hx hb dL_32 (by decide) (by decide) rfl (by decide) (lc_20 (hA.2.2.2.2.2.2.2.2.2.2.2.2.2.2.2.2.2.2.2.2.1 (xs (i + 1))) hR C0 hK hN hP hS hl hi4 hL hsl nxt)
        | 21, _ => exact lv_tableIn (tgt := 721) hx hb dL_32 (by decide) (by decide) rfl (by decide) (lc_21 (hA.2.2.2.2.2.2.2.2.2.2.2.2.2.2.2.2.2.2.2.2.2.1 (xs (i + 1))) hR C0 hK hN hP hS hl hi4 hL hsl nxt)
        | 22, _ => exact lv_tableIn (tgt := 744) hx hb dL_32 (by decide) (by decide) rfl (by decide) (lc_22 (hA.2.2.2.2.2.2.2.2.2.2.2.2.2.2.2.2.2.2.2.2.2.2.1 (xs (i + 1)) (xs (i + 2))) hR C0 hK hN hP hS hl hi4 hL hsl nxt)
        | 23, _ => exact lv_tableIn (tgt := 777) hx hb dL_32 (by decide) (by decide) rfl (by decide) (lc_23 (hA.2.2.2.2.2.2.2.2.2.2.2.2.2.2.2.2.2.2.2.2.2.2.2.1 (xs (i + 1))) hR C0 hK hN hP hS hl hi4 hL hsl nxt)
        | 24, _ => exact lv_tableIn (tgt := 800) hx hb dL_32 (by decide) (by decide) rfl (by decide) (lc_24 (hA.2.2.2.2.2.2.2.2.2.2.2.2.2.2.2.2.2.2.2.2.2.2.2.2.1 (xs (i + 1))) hR C0 hK hN hP hS hl hi4 hL hsl nxt)
        | 25, _ => exact lv_tableIn (tgt := 823) hx hb dL_32 (by decide) (by decide) rfl (by decide) (lc_25 (hA.2.2.2.2.2.2.2.2.2.2.2.2.2.2.2.2.2.2.2.2.2.2.2.2.2.1 (xs (i + 1)) (xs (i + 2))) hR C0 hK hN hP hS hl hi4 hL hsl nxt)
        | 26, _ => exact lv_tableIn (tgt := 856) hx hb dL_32 (by decide) (by decide) rfl (by decide) (lc_26 (hA.2.2.2.2.2.2.2.2.2.2.2.2.2.2.2.2.2.2.2.2.2.2.2.2.2.2.1 (xs (i + 1)) (xs (i + 2)) (xs (i + 3))) hR C0 hK hN hP hS hl hi4 hL hsl nxt)
        | 27, _ => exact lv_tableIn (tgt := 915) hx hb dL_32 (by decide) (by decide) rfl (by decide) (lc_27 (hA.2.2.2.2.2.2.2.2.2.2.2.2.2.2.2.2.2.2.2.2.2.2.2.2.2.2.2.1 (xs (i + 1))) hR C0 hK hN hP hS hl hi4 hL hsl nxt)
        | 28, _ => exact lv_tableIn (tgt := 938) hx hb dL_32 (by decide) (by decide) rfl (by decide) (lc_28 (hA.2.2.2.2.2.2.2.2.2.2.2.2.2.2.2.2.2.2.2.2.2.2.2.2.2.2.2.2.1) hR C0 hK hN hP hS hl hi4 hL hsl nxt)
        | 29, _ => exact lv_tableIn (tgt := 951) hx hb dL_32 (by decide) (by decide) rfl (by decide) (lc_29 (hA.2.2.2.2.2.2.2.2.2.2.2.2.2.2.2.2.2.2.2.2.2.2.2.2.2.2.2.2.2.1 (xs (i + 1)) (xs (i + 2))) hR C0 hK hN hP hS hl hi4 hL hsl nxt)
        | 30, _ => exact lv_tableIn (tgt := 984) hx hb dL_32 (by decide) (by decide) rfl (by decide) (lc_30 (hA.2.2.2.2.2.2.2.2.2.2.2.2.2.2.2.2.2.2.2.2.2.2.2.2.2.2.2.2.2.2.1) hR C0 hK hN hP hS hl hi4 hL hsl nxt)
        | 31, _ => exact lv_tableIn (tgt := 997) hx hb dL_32 (by decide) (by decide) rfl (by decide) (lc_31 (hA.2.2.2.2.2.2.2.2.2.2.2.2.2.2.2.2.2.2.2.2.2.2.2.2.2.2.2.2.2.2.2.1) hR C0 hK hN hP hS hl hi4 hL hsl nxt)
        | 32, _ => exact lv_tableIn (tgt := 1010) hx hb dL_32 (by decide) (by decide) rfl (by decide) (lc_32 (hA.2.2.2.2.2.2.2.2.2.2.2.2.2.2.2.2.2.2.2.2.2.2.2.2.2.2.2.2.2.2.2.2.1 (xs (i + 1))) hR C0 hK hN hP hS hl hi4 hL hsl nxt)
        | 33, _ => exact lv_tableIn (tgt := 1033) hx hb dL_32 (by decide) (by decide) rfl (by decide) (lc_33 (hA.2.2.2.2.2.2.2.2.2.2.2.2.2.2.2.2.2.2.2.2.2.2.2.2.2.2.2.2.2.2.2.2.2.1 (xs (i + 1))) hR C0 hK hN hP hS hl hi4 hL hsl nxt)
        | 34, _ => exact lv_tableIn (tgt := 1056) hx hb dL_32 (by decide) (by decide) rfl (by decide) (lc_34 (hA.2.2.2.2.2.2.2.2.2.2.2.2.2.2.2.2.2.2.2.2.2.2.2.2.2.2.2.2.2.2.2.2.2.2 (xs (i + 1))) hR C0 hK hN hP hS hl hi4 hL hsl nxt)
        | k + 35, q => exact absurd q (by omega)
      · refine lv_tableOut (tgt := 1079) hx hb dL_32 (Or.inr (by rw [nI_toInt (by omega)]; omega)) (by decide) (nxt σ H locs hR hP hS)
