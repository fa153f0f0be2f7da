-- THE LAW FROM ITS ENTRY
section FIN
variable {p : Program} {l : Launch} {e : Env} {s : State} {m : MethodId} {below : List Frame} {meth : Method} {c : Code} {b Ln : Nat} {xs : Nat → Int32} {H : Heap} {locs : List Loc} {Q : State → Prop}
variable {D : va_G} {cA : Nat → ClassId} {pc : Nat} {ls : Array Slot} {rest : List Value} {M M' : List va_E} {cells slots : Nat}
theorem lw_new {ci idx : Nat} (C0 : lw_At p s m meth c b Ln xs) (hK : va_K D vwCl (tysC cA) s) (hP : va_P D vwCl (wsOf s.heap.size cA M) H) (hS : va_S (fr0 s.heap.size) s.heap H locs) (hc : ci < 9) (hlk : Cond.classLink R_law idx (clR ci) ∈ tables_1) (hcells : cells = M.length) (hcl : cells + 1 ≤ 600000) (hsl : slots + clN ci ≤ 7302250) (hd : decode code pc = .ok (.new idx, 3))
    (kk : ∀ H', va_P D vwCl (wsOf s.heap.size cA (M ++ [.inr (ci, dfl ci)])) H' → va_S (fr0 s.heap.size) s.heap H' locs → W p l e room_1 s m #[Value.ref b] below meth c H' locs (cells + 1) (slots + clN ci) Q (F0 m (pc + 3) ls (.ref (s.heap.size + M.length) :: rest))) : W p l e room_1 s m #[Value.ref b] below meth c H locs cells slots Q (F0 m pc ls rest) := by
  obtain ⟨hx, hb, hrt, hml, hown, hts, hX, hbl, hlocks, hgv⟩ := C0
  refine va_new hx hb hts (fun w hw => lwg_in (cl_in hc w hw)) (fTy ci) (cl_ty hc) hown (hts _ (tb_in hlk)) (hts _ (tb_in (in_ci ci hc))) (hts _ (tb_in (ini_ci ci hc))) hK hP (ws_D s.heap.size cA M) hS (fun q h => h) (cl_at hc) (dfl_V ci) hcl hsl hd (fun q H1 k1 k2 k3 => ?_)
  refine W_size (fun hz => ?_)
  have hq := q_eq rfl (show s.heap.size + cells = s.heap.size + M.length by omega) k1 k2 hz
  subst hq
  refine kk H1 ?_ k3
  rw [ws_app]
  show va_P D vwCl (_ ++ [(_, .inr (ci, (dfl ci).map (cv s.heap.size)))]) H1
  rw [dfl_cv]
  exact k1
theorem lw_init {y a n idx : Nat} (C0 : lw_At p s m meth c b Ln xs) (hls : ls.size = 4) (hK : va_K D vwCl (tysC cA) s) (hN : NWs s) (hP : va_P D vwCl (wsOf s.heap.size cA M) H) (hS : va_S (fr0 s.heap.size) s.heap H locs) (hq : Cond.methodLink RL idx (my y) ∈ tables_1) (him : y ∈ imL) (hnm : (my y).name = "<init>") (hrn : mr y = none) (hrm : rf y + 1 ≤ 10 ∧ 19 + mL y + rl y ≤ 366)
    (he : ev n y 0 (entL [.ref a] (mL y)) [] M = some (M', none)) (hn : 1 ≤ mL y) (hmn : mn y = 0) (hr : cats rest ≤ 8) (hcells : cells = M.length) (hcl : cells + (M'.length - M.length) ≤ 600000) (hsl : slots + (szM M' - szM M) ≤ 7302250) (hd : decode code pc = .ok (.invokespecial idx, 3))
    (kk : ∀ H1 locs1, va_P D vwCl (wsOf s.heap.size cA M') H1 → va_S (fr0 s.heap.size) s.heap H1 locs1 → W p l e room_1 s m #[Value.ref b] below meth c H1 locs1 (cells + (M'.length - M.length)) (slots + (szM M' - szM M)) Q (F0 m (pc + 3) ls rest)) : W p l e room_1 s m #[Value.ref b] below meth c H locs cells slots Q (F0 m pc ls (.ref (s.heap.size + a) :: rest)) := by
  obtain ⟨hx, hb, hrt, hml, hown, hts, hX, hbl, hlocks, hgv⟩ := C0
  refine W_size (fun hz => ?_)
  have hlow := P_low hP hS.1
  have hH : H.size = s.heap.size + M.length := by omega
  have hg : ∀ w ∈ lwg, w.before #[Value.ref b] s = true := fun w h => hts w (lwg_in h)
  have cb : CallB room_1 s #[Value.ref b] RL idx (my y) (mb y) (mL y) (mr y) (wsM y) (rmM y (M'.length - M.length) (szM M' - szM M)) (M'.length - M.length) (szM M' - szM M) (mn y) :=
    callB_of (mn y) hg (wsM_good y) rfl rfl rfl (hg _ (m_init y)) (hts _ (tb_in hq)) (m_desc y) ⟨hrm.1, by show 8 + (mL y + 11) + rl y ≤ 366; omega⟩
  have hpre : ∀ U : State, U.heap = H → s.WarmedH U.vm → Pcn s.heap.size D cA M [.ref a] (Value.ref (s.heap.size + a) :: []).toArray U := fun U hU hW => ⟨rfl, by rw [hU]; exact hH, by rw [hU]; exact hP, va_K.moved hW.alike hK, hN.warm hW⟩
  rw [hrn] at cb
  exact so_run (Q := Q) (va_runI (As := []) (rest := rest) ⟨hx, hb, hml, hown, hg⟩ (met_ev s.heap.size D cA he (by simp [Value.category]) hn) ⟨cb, hnm, hg _ (lwg_of c_im c_im_g _ (List.mem_map.mpr ⟨_, him, rfl⟩))⟩ ⟨Pcn_blind, hpre⟩ rfl (by rw [hmn]; rfl) hls rfl (lv_room hr) hd ⟨hcl, hsl⟩) hS kk
end FIN
set_option maxRecDepth 100000 in
theorem lk_7 : Cond.classLink R_law 7 (clR 7) ∈ tables_1 := by decide +kernel
set_option maxRecDepth 100000 in
theorem lk_8 : Cond.classLink R_law 10 (clR 8) ∈ tables_1 := by decide +kernel
set_option maxRecDepth 100000 in
theorem ml_7 : Cond.methodLink RL 9 (my mX7_init) ∈ tables_1 := by decide +kernel
set_option maxRecDepth 100000 in
theorem ml_8 : Cond.methodLink RL 12 (my mX8_init) ∈ tables_1 := by decide +kernel
theorem szM_1 (ci : Nat) : szM [.inr (ci, dfl ci)] = clN ci := by
  unfold szM
  show (szE (.inr (ci, dfl ci))) + 0 = _
  rw [Nat.add_zero]
  exact dfl_len ci
theorem ad_29 : ad 29 0 = 233 := by decide
theorem ad_00 : ad 0 0 = 0 := by decide
theorem clN_s : clN 7 ≤ 100 ∧ clN 8 ≤ 100 := by decide +kernel
theorem whole_start {p : Program} {e : Env} {s : State} {m : MethodId} {below : List Frame} {meth : Method} {c : Code} (l : Launch) {b L : Nat} {xs : Nat → Int32} (hL : L ≤ 2048) (C0 : lw_At p s m meth c b L xs) : W p l e room_1 s m #[Value.ref b] below meth c s.heap [] 0 0 (lw_Z below #[Value.ref b] s) (entryFrame m ([Value.ref b] : List Value).toArray 4) := by
  obtain ⟨hx, hb, hr, hml, hown, hts, hX, hbl, hlocks, hgv⟩ := id C0
  obtain ⟨D, cA, hK, hN⟩ := K_start hts
  obtain ⟨M1, M2, n1, n2, e1, ⟨hl1, hz1⟩, e2, hchk⟩ := start_ev
  obtain ⟨⟨hl2, hz2⟩, -⟩ := chk_s hchk
  have hS : va_S (fr0 s.heap.size) s.heap s.heap [] := va_S.rf
  have hP : va_P D vwCl (wsOf s.heap.size cA []) s.heap := fun k q h => by simp [wsOf] at h
  have hl := lv_entry ([.ref b]) (n := 4) (Nat.le_of_ble_eq_true rfl)
  rw [lg_entry_eq]
  generalize (lg_sl ([.ref b]) ++ List.replicate (4 - (lg_sl ([.ref b])).length) Slot.unset).toArray = ls at hl ⊢
  have hl : lv_has ls 4 [(0, .ref b)] := hl
  obtain ⟨s7, s8⟩ := clN_s
  refine lw_new (ci := 7) (M := []) C0 hK hP hS (by decide) lk_7 rfl (by decide) (by omega) dL_0 (fun H hP hS => ?_)
  refine lv_dup hx hb dL_3 rfl ?_
  refine lw_init (y := mX7_init) (a := 0) (M := [.inr (7, dfl 7)]) (M' := M1) (rest := [.ref (s.heap.size + 0)]) C0 hl.1 hK hN hP hS ml_7 (by decide +kernel) (by decide +kernel) rfl (by decide +kernel) e1 (by decide +kernel) (by decide +kernel) (by simp [cats, Value.category]) rfl (by rw [hl1]; decide) (by omega) dL_4 (fun H locs hP hS => ?_)
  refine lv_astore_n (lv' := [(1, .ref (s.heap.size + 0)), (0, .ref b)]) hx hb dL_7 rfl hl (by decide) rfl (fun ls hl => ?_)
  refine lw_new (ci := 8) (M := M1) C0 hK hP hS (by decide) lk_8 (by rw [hl1]; rfl) (by rw [hl1]; decide) (by omega) dL_8 (fun H hP hS => ?_)
  refine lv_dup hx hb dL_11 rfl ?_
  rw [hl1]
  refine lw_init (y := mX8_init) (a := 233) (M := M1 ++ [.inr (8, dfl 8)]) (M' := M2) (rest := [.ref (s.heap.size + 233)]) C0 hl.1 hK hN hP hS ml_8 (by decide +kernel) (by decide +kernel) rfl (by decide +kernel) e2 (by decide +kernel) (by decide +kernel) (by simp [cats, Value.category]) (by rw [List.length_append, hl1]; rfl) (by rw [List.length_append, hl1, hl2]; decide) (by omega) dL_12 (fun H locs hP hS => ?_)
  refine lv_astore_n (lv' := [(2, .ref (s.heap.size + 233)), (1, .ref (s.heap.size + 0)), (0, .ref b)]) hx hb dL_15 rfl hl (by decide) rfl (fun ls hl => ?_)
  refine lv_iconst (v := 0) hx hb dL_16 (by decide) ?_
  refine lv_istore_n (lv' := [(3, .int 0), (2, .ref (s.heap.size + 233)), (1, .ref (s.heap.size + 0)), (0, .ref b)]) hx hb dL_17 rfl hl (by decide) rfl (fun ls hl => ?_)
  have hl' := lv_sub hl [3, 2, 1, 0] rfl
  have hl4 : lv_has ls 4 [(0, .ref b), (1, .ref (s.heap.size + ad 0 0)), (2, .ref (s.heap.size + ad 29 0)), (3, .int (nI 0))] := by
    rw [ad_29, ad_00, nI_0]; exact hl'
  have hc256 : 0 + 1 + (M1.length - [(.inr (7, dfl 7) : va_E)].length) + 1 + (M2.length - (M1 ++ [(.inr (8, dfl 8) : va_E)]).length) = 256 := by
    rw [List.length_append, hl1, hl2]; rfl
  rw [hl1] at hc256
  rw [hc256]
  exact law_loop apis_A C0 hK hN hL (by omega) (L + 1) 0 (Nat.zero_le L) (by omega) (vOf M2) H locs ls (Or.inr (Rel0_start hchk)) (P_conv hchk hP) hS hl4
set_option maxHeartbeats 4000000 in
theorem lw_walk (l : Launch) (b : Addr) (xs : List Int32) : MetFree l x (headSpec (Jvm.Cond.code x code maxLocals ret :: tables_1) room_1) (lw_P b xs) (fun _ _ _ _ _ => True) lw_Q := by
  refine MetFree.of_bodyS (code := code) (maxLocals := maxLocals) (ret := ret) (by decide) ?_ ?_
  · intro args s m h hn
    obtain ⟨meth, c, h1, h2, h3, h4, h5, h6, -, -⟩ := Cond.code_spec hn (atoms_spec (ws := Jvm.Cond.code x code maxLocals ret :: tables_1) h _ List.mem_cons_self)
    exact ⟨meth, c, h1, h2, h3, h4, h5, h6⟩
  · intro p e s m args below meth c s₁ B hml0 hP _
    obtain ⟨rfl, hx, hbd, hgv⟩ := hP
    obtain ⟨scr, harrAt, hlist, hof, hsmall⟩ := hx
    obtain ⟨hcb, hkn, -, -⟩ := State.arrayAt?_spec harrAt
    have hown : s.vm.findClass R_law = some m.cls := findClass_of_methodNamed B.named
    have hts0 : ∀ c ∈ (Jvm.Cond.code x code maxLocals ret :: tables_1), c.before #[Value.ref b] s = true := atoms_spec (ws := Jvm.Cond.code x code maxLocals ret :: tables_1) B.pre
    have hts : ∀ w ∈ lw_tbl, w.before #[Value.ref b] s = true := k2_hts_sels lw_privs (fun w hw => hts0 w (List.mem_cons_of_mem _ hw)) lw_privs_ok
    have hml : c.maxLocals = 4 := B.maxLocals_eq (hts0 _ List.mem_cons_self)
    have X₀ : Stand p l e room_1 s m #[Value.ref b] below meth c s₁ [] 0 0 := Stand.of_body B
    have hh0 : s₁.heap = s.heap := by rw [B.state]; rfl
    have hsz : scr.slots.size = xs.length := by rw [← Array.length_toList, hlist, List.length_map]
    have hval : ∀ j : Nat, j < xs.length → scr.slots[j]? = some (.int (xs.getD j 0)) := fun j hj => by
      rw [← Array.getElem?_toList, hlist]
      simp [hj]
    have hbl : b < s.heap.size := (Array.getElem?_eq_some_iff.mp hcb).1
    have hX : va_X b xs.length (fun j => xs.getD j 0) s s.heap := ⟨scr, hcb, hof, hkn, hsz, hval⟩
    have K : W p l e room_1 s m #[Value.ref b] below meth c s₁.heap [] 0 0 (lw_Z below #[Value.ref b] s) (entryFrame m ([Value.ref b] : List Value).toArray 4) := by
      rw [hh0]
      exact whole_start l hbd ⟨B.exec, B.bytes, B.returns, hml, hown, hts, hX, hbl, B.notSynchronized, hgv⟩
    obtain ⟨t, a1, o, b1, b2, b3⟩ := K s₁ rfl X₀
    exact ⟨t, o, a1, b1, b2, b3⟩
theorem lw_pre_spec {args : Array Value} {s : State} (h : (Jvm.Cond.and given_1 narrow_1).before args s = true) (hr : rest_1_c.before args s = true) : ∃ (b : Addr) (xs : List Int32), lw_P b xs args s := by
  have hs := flat_of_before _ h
  have hq := flat_of_before _ hr
  have hc : (Cond.count 1).before args s = true := hs _ (by decide +kernel)
  have harr : (Cond.arrayOf (.arg 0) .int).before args s = true := hs _ (by decide +kernel)
  have hle : (Cond.le (.length (.arg 0)) (.int 2048)).before args s = true := hs _ (by decide +kernel)
  have hlen : (Cond.isInt (.length (.arg 0))).before args s = true := hq _ (by decide +kernel)
  have hall : (Cond.all (.arg 0) (.isInt (.elem (.arg 0) (.index 0)))).before args s = true := hq _ (by decide +kernel)
  obtain ⟨b, xs, hb, hx⟩ := State.ints_of_pre rfl harr hlen hall
  have hsm : xs.length < 2 ^ 31 := hx.choose_spec.2.2.2
  have hev : (Term.length (.arg 0)).eval args s none [] s = some (.int xs.length.toInt32) := hx.length_eval hb
  have hv := Cond.le_ints hev (show (Term.int 2048).eval args s none [] s = some (.int 2048) from rfl)
  have hd : xs.length.toInt32 ≤ 2048 := by
    simpa [Cond.before, Cond.holds, hv] using hle
  have hN : xs.length ≤ 2048 := (Int32.ofNat_le_ofNat hsm (by decide)).mp (show Int32.ofNat xs.length ≤ Int32.ofNat 2048 from hd)
  exact ⟨b, xs, Cond.one_arg hc (show args[0]? = some (.ref b) from hb), hx, hN, h⟩
theorem lw_comes (l : Launch) : Comes l x (Jvm.Cond.code x code maxLocals ret :: tables_1) room_1 (fun tb e args s => Calls_1 tb e args s ∧ rest_1 tb e args s ∧ Pre_1 tb e args s)
    (fun _ _ args s o t => lw_Q args s o t) := by
  intro p e ha hc hk s m args below hf hfit hheap happ hpre
  obtain ⟨b, xs, hP⟩ := lw_pre_spec hpre.2.2 hpre.2.1
  obtain ⟨k, o, h1, h2, h3, hQ⟩ := lw_walk l b xs p e ha hc hk s m args below hf ((Spec.applies_iff_loose hf).mp happ).1 hP trivial
  exact ⟨k, o, h1, h2, h3, hQ⟩
theorem lw_frame {s t : State} {o : Outcome} {args : Array Value} (h : Framed s o t [] 600000 7302250) :
    Framed s o t (fieldLocs frame_1_writes args s ++ arrayLocs frame_1_arrays args s ++ staticLocs frame_1_statics s) 600000 7302250 := h
theorem lw_limb (L : Cond) (hL : ∀ (args : Array Value) (s t : State), L.after args s (.returned (some (.int 1))) t = true) :
    ArmFor flags0 classFile x code maxLocals ret World_1 tables_1 room_1 Calls_1 rest_1 Pre_1
      (fun tb e a s o t => postC L tb e a s o t ∧ Framed s o t (fieldLocs frame_1_writes a s ++ arrayLocs frame_1_arrays a s ++ staticLocs frame_1_statics s) 600000 7302250) := by
  intro l _ _ _ p e ha hc hk s m args below hf hfit hheap happ hpre
  obtain ⟨k, o, h1, h2, h3, rfl, hF⟩ := lw_comes l p e ha hc hk s m args below hf hfit hheap happ hpre
  exact ⟨k, _, h1, h2, h3, hL args s _, lw_frame hF⟩
theorem i_vc : Claimed_1_1 ∧ Claimed_1_2 := ⟨lw_limb limb_1_1 (fun args s t => by simp [limb_1_1, Cond.after, Cond.holds, Cond.value]), lw_limb limb_1_2 (fun args s t => Cond.after_iff.mpr (by
  first | (rw [show limb_1_2 = Cond.eq .result (.int 1) from rfl, Cond.eq_ints (x := 1) (y := 1) rfl rfl]; simp; done) | (simp [limb_1_2, Cond.value, Term.eval]; done)))⟩
