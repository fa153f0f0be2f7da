theorem cl_at {ci : Nat} (h : ci < 9) : vwCl[ci]? = some (clR ci, clT ci, clN ci) := by
  match ci, h with
  | 0, _ => rfl
  | 1, _ => rfl
  | 2, _ => rfl
  | 3, _ => rfl
  | 4, _ => rfl
  | 5, _ => rfl
  | 6, _ => rfl
  | 7, _ => rfl
  | 8, _ => rfl
theorem cl_in {ci : Nat} (h : ci < 9) : ∀ w ∈ u_ws (clR ci) (clT ci) (clN ci), w ∈ lwg := fun w hw => by
  have := in_ok _ (List.mem_of_getElem? (cl_at h)) w hw
  exact List.mem_filter.mpr ⟨List.mem_append_right _ this.1, this.2⟩
theorem cl_ty {ci : Nat} (h : ci < 9) : ∀ k, k < clN ci → parseFieldDescriptor (clT ci k).2.2.1 = some (fTy ci k) := fun k hk => by
  have := pd_ok _ (List.mem_of_getElem? (cl_at h)) k hk
  unfold fTy
  dsimp only at this
  cases hp : parseFieldDescriptor (clT ci k).2.2.1 with
  | none => rw [hp] at this; cases this
  | some t => rfl
theorem cl_nm {ci : Nat} (h : ci < 9) : ∀ a, a < clN ci → ∀ b, b < clN ci → a ≠ b → (clT ci a).2.1 ≠ (clT ci b).2.1 := nm_ok _ (List.mem_of_getElem? (cl_at h))
theorem f_link {mi x ci k : Nat} (h : ftab.lookup (mo mi, x) = some (ci, k)) : ci < 9 ∧ k < clN ci ∧ Cond.fieldLink (cn (mo mi)) x (clT ci k).1 (clT ci k).2.1 (clT ci k).2.2.1 ∈ lwg := by
  have hm := lk_mem h
  exact ⟨(ft_ok _ hm).1, (ft_ok _ hm).2, lwg_of c_fld c_fld_g _ (List.mem_map.mpr ⟨_, hm, rfl⟩)⟩
theorem fits_cv (b0 : Nat) (t : FieldType) (v : Value) (h : fits t v = true) : fits t (cv b0 v) = true := by
  cases v <;> first | exact h | (cases t <;> first | exact h | rfl)
theorem narrow_cv (b0 : Nat) (t : FieldType) (v : Value) (h : narrow t v = v) : narrow t (cv b0 v) = cv b0 v := by
  cases v <;> first | exact h | (cases t <;> rfl)
theorem cats_cv (b0 : Nat) (r : List Value) : ((r.map (cv b0)).map fun v => v.category).sum = cats r := by
  unfold cats
  rw [List.map_map]
  congr 1
  apply List.map_congr_left
  intro v _
  exact cv_cat b0 v
theorem one_w {w : Cond} (h : w ∈ [Cond.instanceMethod Lib.objectInit, Cond.code Lib.objectInit ⟨#[0xb1]⟩ 1 none, Cond.native arraycopyName, Cond.static arraycopyName, Cond.static Lib.Math.min.name, Cond.code Lib.Math.min.name Lib.Math.min.code 2 (some .int), Cond.static Lib.Math.max.name, Cond.code Lib.Math.max.name Lib.Math.max.code 2 (some .int), Cond.arrayClass .int, Cond.arrayClass .boolean, Cond.arrayClass .char]) : w ∈ lwg := List.mem_filter.mpr ⟨List.mem_append_right _ (c_one w h).1, (c_one w h).2⟩
theorem rest_w {w : Cond} (h : w ∈ restW) : w ∈ lwg := lwg_of c_rest c_rest_g w h
theorem c_link {mi x k y : Nat} (h : ctab.lookup (mo mi, x) = some (k, y)) (hk : k ≠ 3 ∧ k ≠ 4) : cWord ((mo mi, x), k, y) ∈ lwg := by
  refine lwg_of c_ct1 c_ct1_g _ (List.mem_map.mpr ⟨_, List.mem_filter.mpr ⟨lk_mem h, ?_⟩, rfl⟩)
  simp [hk.1, hk.2]
section MEM
variable {p : Program} {l : Launch} {e : Env} {R : Room} {s : State} {m : MethodId} {args : Array Value} {below : List Frame} {meth : Method} {c : Code} {H : Heap} {locs : List Loc} {cells slots : Nat} {Q : State → Prop}
variable {b0 : Nat} {D : va_G} {cA : Nat → ClassId} {mi : Nat} {pc : Nat} {ls : Array Slot} {L st : List Value} {M M' : List va_E}
theorem gF_some {a ci k : Nat} {v : Value} (h : gF M a ci k = some v) : ∃ fs, M[a]? = some (.inr (ci, fs)) ∧ fs[k]? = some v := by
  unfold gF at h
  split at h
  · rename_i c0 fs hM
    split at h
    · rename_i e; subst e; exact ⟨fs, hM, h⟩
    · cases h
  · cases h
theorem so_get {x ci k a : Nat} {v : Value} {r : List Value} (F : Fx b0 D cA mi p R s m args meth c) (hP : va_P D vwCl (wsOf b0 cA M) H) (hd : decode (mb mi) pc = .ok (.getfield x, 3)) (hf : ftab.lookup (mo mi, x) = some (ci, k)) (h : gF M a ci k = some v)
    (kk : W p l e R s m args below meth c H locs cells slots Q (F0 m (pc + 3) ls (cv b0 v :: r))) : W p l e R s m args below meth c H locs cells slots Q (F0 m pc ls (.ref (b0 + a) :: r)) := by
  obtain ⟨hx, hb, hml, hr, hown, hts, hlk, hnm, hfr, hlo, hK, hN, hb0⟩ := F
  obtain ⟨h1, h2, h3⟩ := f_link hf
  obtain ⟨fs, hM, hv⟩ := gF_some h
  exact va_get hx hb hts (cl_in h1) hown hK hP a (ws_at hM) (cl_at h1) k h2 (hts _ h3) (fun _ z => z) (by rw [List.getElem?_map, hv]; rfl) hd kk
theorem so_put {x ci k a : Nat} {v : Value} {r : List Value} (F : Fx b0 D cA mi p R s m args meth c) (hP : va_P D vwCl (wsOf b0 cA M) H) (hS : va_S (fr0 b0) s.heap H locs) (hd : decode (mb mi) pc = .ok (.putfield x, 3)) (hf : ftab.lookup (mo mi, x) = some (ci, k)) (h : pF mi M a ci k v = some M')
    (kk : ∀ H' locs', va_P D vwCl (wsOf b0 cA M') H' → va_S (fr0 b0) s.heap H' locs' → W p l e R s m args below meth c H' locs' cells slots Q (F0 m (pc + 3) ls r)) : W p l e R s m args below meth c H locs cells slots Q (F0 m pc ls (cv b0 v :: .ref (b0 + a) :: r)) := by
  obtain ⟨hx, hb, hml, hr, hown, hts, hlk, hnm, hfr, hlo, hK, hN, hb0⟩ := F
  obtain ⟨h1, h2, h3⟩ := f_link hf
  unfold pF at h
  split at h
  · rename_i c0 fs hM
    split at h
    · rename_i hc
      obtain ⟨rfl, hc1, ⟨hc2, hc3⟩, hc4⟩ := hc
      cases h
      have key : ∀ H' locs', va_P D vwCl ((wsOf b0 cA M).set a (b0 + a, .inr (c0, (fs.map (cv b0)).set k (cv b0 v)))) H' → va_D (fr0 b0) ((wsOf b0 cA M).set a (b0 + a, .inr (c0, (fs.map (cv b0)).set k (cv b0 v)))) → va_S (fr0 b0) s.heap H' locs' → W p l e R s m args below meth c H' locs' cells slots Q (F0 m (pc + 3) ls r) := by
        intro H' locs' q1 _ q3
        refine kk H' locs' ?_ q3
        rw [← ws_set]
        show va_P D vwCl ((wsOf b0 cA M).set a (b0 + a, .inr (c0, (fs.set k v).map (cv b0)))) H'
        rw [List.map_set]
        exact q1
      by_cases hfin : (clT c0 k).2.2.2 = false
      · exact va_put hx hb hts (cl_in h1) (fTy c0) (cl_ty h1) (cl_nm h1) hown hK hP (ws_D b0 cA M) hS a (ws_at hM) (cl_at h1) k h2 (hts _ h3) (fun _ z => z) hfin (cl_ty h1 k h2) (narrow_cv b0 _ _ hc3) (fits_cv b0 _ _ hc2) (by simpa using hc1) hd key
      · obtain ⟨hi, ho⟩ := hc4.resolve_left hfin
        exact va_putF hx hb hts (cl_in h1) (fTy c0) (cl_ty h1) (cl_nm h1) hown hK hP (ws_D b0 cA M) hS a (ws_at hM) (cl_at h1) k h2 (hts _ h3) (fun _ z => z) (by simpa using hfin) (hnm.trans hi) ho (cl_ty h1 k h2) (narrow_cv b0 _ _ hc3) (fits_cv b0 _ _ hc2) (by simpa using hc1) hd key
    · cases h
  · cases h
theorem gA_some {t a : Nat} {i x : Int32} (h : gA t M a i = some x) : ∃ n f, M[a]? = some (.inl (t, n, .inl f)) ∧ vp_in i n ∧ x = f i.toNatClampNeg := by
  unfold gA at h
  split at h
  · rename_i t0 n f hM
    split at h
    · rename_i hc
      obtain ⟨rfl, hc⟩ := hc
      cases h
      exact ⟨n, f, hM, hc, rfl⟩
    · cases h
  · cases h
theorem pA_some {t a : Nat} {i x : Int32} (h : pA t M a i x = some M') : ∃ n f, M[a]? = some (.inl (t, n, .inl f)) ∧ vp_in i n ∧ M' = M.set a (.inl (t, n, .inl (upd f i.toNatClampNeg x))) := by
  unfold pA at h
  split at h
  · rename_i t0 n f hM
    split at h
    · rename_i hc
      obtain ⟨rfl, hc⟩ := hc
      cases h
      exact ⟨n, f, hM, hc, rfl⟩
    · cases h
  · cases h
theorem so_cp {x a0 a : Nat} {sp dp n : Int32} {y : Nat} {r : List Value} (F : Fx b0 D cA mi p R s m args meth c) (hls : ls.size = mL mi) (hP : va_P D vwCl (wsOf b0 cA M) H) (hS : va_S (fr0 b0) s.heap H locs) (hd : decode (mb mi) pc = .ok (.invokestatic x, 3)) (hf : ctab.lookup (mo mi, x) = some (6, y)) (h : cpA M a0 a sp dp n = some M') (hrm : 1 ≤ rf mi ∧ cats r + 18 ≤ rl mi)
    (kk : ∀ H' locs', va_P D vwCl (wsOf b0 cA M') H' → va_S (fr0 b0) s.heap H' locs' → W p l e R s m args below meth c H' locs' cells slots Q (F0 m (pc + 3) ls (r.map (cv b0)))) : W p l e R s m args below meth c H locs cells slots Q (F0 m pc ls (.int n :: .int dp :: .ref (b0 + a) :: .int sp :: .ref (b0 + a0) :: r.map (cv b0))) := by
  obtain ⟨hx, hb, hml, hr, hown, hts, hlk, hnm, hfr, hlo, hK, hN, hb0⟩ := F
  have hl := c_link hf (by decide)
  unfold cpA at h
  split at h
  · rename_i t0 n0 f hM0
    split at h
    · rename_i t1 n1 g hM1
      split at h
      · rename_i hc
        obtain ⟨rfl, ht, ⟨c1, c2, c3⟩, c4, c5, c6⟩ := hc
        cases h
        have go : ∀ ty : FieldType, (tysC cA)[t0]? = some (cA t0, ty) → refKind ty = false → tyN.getD t0 .int = ty → W p l e R s m args below meth c H locs cells slots Q (F0 m pc ls (.int n :: .int dp :: .ref (b0 + a) :: .int sp :: .ref (b0 + a0) :: r.map (cv b0))) := by
          intro ty e1 e2 e3
          subst e3
          exact va_copyi hx hb (hml.trans hls.symm) hown (hts _ hl) (hts _ (one_w (by simp))) (hts _ (one_w (by simp))) (hts _ (rest_w (by simp [restW]))) hK hP (ws_D b0 cA M) hS a0 a t0 t0 (ws_at hM0) (ws_at hM1) e1 e1 e2 c1 c2 c3 c4 c5 c6 (Nat.le_trans hrm.1 hfr) (by
            rw [cats_cv]
            exact Nat.le_trans (show cats r + (nativeFrameWords "java/lang/System" "arraycopy" 5 + 11) ≤ rl mi from hrm.2) hlo) hd (fun H' locs' q1 _ q3 => kk H' locs' (by rw [← ws_set]; exact q1) q3)
        match t0, ht, go with
        | 0, _, go => exact go .int rfl rfl rfl
        | 1, _, go => exact go .boolean rfl rfl rfl
        | 2, _, go => exact go .char rfl rfl rfl
      · cases h
    · cases h
  · cases h
theorem va_up_map (b0 : Nat) (f : Nat → Option Nat) (k v : Nat) : (fun j => ((va_up f k (some v)) j).map (b0 + ·)) = va_up (fun j => (f j).map (b0 + ·)) k (some (b0 + v)) := by
  funext j
  unfold va_up
  split <;> rfl
theorem cE_up (b0 : Nat) (cA : Nat → ClassId) (t n : Nat) (f : Nat → Option Nat) (k v : Nat) : cE b0 cA (.inl (t, n, .inr (.inr (.inr (.inr (va_up f k (some v))))))) = .inl (cA t, n, .inr (.inr (.inr (.inr (va_up (fun j => (f j).map (b0 + ·)) k (some (b0 + v))))))) := congrArg (fun g => Sum.inl (cA t, n, Sum.inr (Sum.inr (Sum.inr (Sum.inr g))))) (va_up_map b0 f k v)
theorem so_mem {i : Instr} {len : Nat} {st' : List Value} (F : Fx b0 D cA mi p R s m args meth c) (hls : ls.size = mL mi) (hP : va_P D vwCl (wsOf b0 cA M) H) (hS : va_S (fr0 b0) s.heap H locs) (hd : decode (mb mi) pc = .ok (i, len)) (h : stepM mi i st M = some (len, st', M')) (hcl : cells ≤ R.cells) (hsl : slots ≤ R.slots)
    (kk : ∀ H' locs', va_P D vwCl (wsOf b0 cA M') H' → va_S (fr0 b0) s.heap H' locs' → W p l e R s m args below meth c H' locs' cells slots Q (F0 m (pc + len) ls (st'.map (cv b0)))) : W p l e R s m args below meth c H locs cells slots Q (F0 m pc ls (st.map (cv b0))) := by
  obtain ⟨hx, hb, hml, hr, hown, hts, hlk, hnm, hfr, hlo, hK, hN, hb0⟩ := id F
  unfold stepM at h
  split at h
  · split at h
    · rename_i ci k a r hf
      obtain ⟨v, h1, h2⟩ := Option.map_eq_some_iff.mp h
      cases h2
      exact so_get F hP hd hf h1 (kk H locs hP hS)
    · cases h
  · split at h
    · rename_i ci k v a r hf
      obtain ⟨M2, h1, h2⟩ := Option.map_eq_some_iff.mp h
      cases h2
      exact so_put F hP hS hd hf h1 kk
    · cases h
  · split at h
    · obtain ⟨v, h1, h2⟩ := Option.map_eq_some_iff.mp h
      obtain ⟨n, f, hM, hin, rfl⟩ := gA_some h1
      cases h2
      exact va_iald hx hb hK hP _ 0 (ws_at hM) rfl hin hd (kk H locs hP hS)
    · cases h
  · split at h
    · obtain ⟨v, h1, h2⟩ := Option.map_eq_some_iff.mp h
      obtain ⟨n, f, hM, hin, rfl⟩ := gA_some h1
      cases h2
      exact va_zald hx hb hK hP _ 1 (ws_at hM) rfl hin hd (kk H locs hP hS)
    · cases h
  · split at h
    · obtain ⟨v, h1, h2⟩ := Option.map_eq_some_iff.mp h
      obtain ⟨n, f, hM, hin, rfl⟩ := gA_some h1
      cases h2
      exact va_cald hx hb hK hP _ 2 (ws_at hM) rfl hin hd (kk H locs hP hS)
    · cases h
  · split at h
    · obtain ⟨M2, h1, h2⟩ := Option.map_eq_some_iff.mp h
      obtain ⟨n, f, hM, hin, rfl⟩ := pA_some h1
      cases h2
      exact va_iast hx hb hK hP (ws_D b0 cA M) hS _ 0 (ws_at hM) rfl hin hd (fun H' locs' q1 _ q3 => kk H' locs' (by rw [← ws_set]; exact q1) q3)
    · cases h
  · split at h
    · obtain ⟨M2, h1, h2⟩ := Option.map_eq_some_iff.mp h
      obtain ⟨n, f, hM, hin, rfl⟩ := pA_some h1
      cases h2
      exact va_zast hx hb hK hP (ws_D b0 cA M) hS _ 1 (ws_at hM) rfl hin hd (fun H' locs' q1 _ q3 => kk H' locs' (by rw [← ws_set]; exact q1) q3)
    · cases h
  · split at h
    · obtain ⟨M2, h1, h2⟩ := Option.map_eq_some_iff.mp h
      obtain ⟨n, f, hM, hin, rfl⟩ := pA_some h1
      cases h2
      exact va_cast hx hb hK hP (ws_D b0 cA M) hS _ 2 (ws_at hM) rfl hin hd (fun H' locs' q1 _ q3 => kk H' locs' (by rw [← ws_set]; exact q1) q3)
    · cases h
  · split at h
    · obtain ⟨v, h1, h2⟩ := Option.map_eq_some_iff.mp h
      cases h2
      unfold gR at h1
      split at h1
      · rename_i t n f hM
        split at h1
        · rename_i hc
          obtain ⟨ht, hin⟩ := hc
          have k1 := kk H locs hP hS
          rcases ht with rfl | rfl
          · refine va_aldq hx hb hK hP _ 3 (C := RX5) (ws_at hM) rfl hin hd ?_
            rw [h1]; exact k1
          · refine va_aldq hx hb hK hP _ 4 (C := RX2) (ws_at hM) rfl hin hd ?_
            rw [h1]; exact k1
        · cases h1
      · cases h1
    · cases h
  · split at h
    · obtain ⟨M2, h1, h2⟩ := Option.map_eq_some_iff.mp h
      cases h2
      unfold pR at h1
      split at h1
      · rename_i t n f hM
        split at h1
        · rename_i hin
          split at h1
          · rename_i c0 vs hMv
            split at h1
            · rename_i hc
              cases h1
              rcases hc with ⟨rfl, rfl⟩ | ⟨rfl, rfl⟩
              · refine va_astq hx hb hK hP (ws_D b0 cA M) hS _ 3 _ 5 (r := (RX5, TX5, 12)) (ws_at hM) rfl (ws_at hMv) rfl hin hd (fun H' locs' q1 _ q3 => kk H' locs' ?_ q3)
                rw [← ws_set]
                rw [cE_up]
                exact q1
              · refine va_astq hx hb hK hP (ws_D b0 cA M) hS _ 4 _ 2 (r := (RX2, TX2, 3)) (ws_at hM) rfl (ws_at hMv) rfl hin hd (fun H' locs' q1 _ q3 => kk H' locs' ?_ q3)
                rw [← ws_set]
                rw [cE_up]
                exact q1
            · cases h1
          · cases h1
        · cases h1
      · cases h1
    · cases h
  · split at h
    · obtain ⟨v, h1, h2⟩ := Option.map_eq_some_iff.mp h
      cases h2
      unfold lenA at h1
      split at h1
      · rename_i t n X hM
        split at h1
        · rename_i ht
          cases h1
          have hw := ws_at (b0 := b0) (cA := cA) hM
          have k1 := kk H locs hP hS
          have hty : ∃ ty, (tysC cA)[t]? = some (cA t, ty) := by
            match t, ht with
            | 0, _ => exact ⟨_, rfl⟩
            | 1, _ => exact ⟨_, rfl⟩
            | 2, _ => exact ⟨_, rfl⟩
            | 3, _ => exact ⟨_, rfl⟩
            | 4, _ => exact ⟨_, rfl⟩
          obtain ⟨ty, hty⟩ := hty
          obtain f | f | f | f | f := X
          · exact va_alen hx hb hK hP _ t hw hty rfl hd k1
          · exact va_alen hx hb hK hP _ t hw hty rfl hd k1
          · exact va_alen hx hb hK hP _ t hw hty rfl hd k1
          · exact va_alen hx hb hK hP _ t hw hty rfl hd k1
          · exact va_alen hx hb hK hP _ t hw hty rfl hd k1
        · cases h1
      · cases h1
    · cases h
  · split at h
    · rename_i y a r hf
      split at h
      · rename_i hrm
        cases h
        refine W.objInit hx hb hown (hts _ (c_link hf (by decide))) (hts _ (one_w (by simp))) (hts _ (one_w (by simp))) rfl (by show ls.size = _; rw [hls, hml]) rfl hd (Nat.le_trans hrm.1 hfr) ?_ (kk H locs hP hS)
        show 2 * 0 + ((st'.map (cv b0)).map fun v => v.category).sum + 12 ≤ _
        rw [cats_cv]
        have := hrm.2
        omega
      · cases h
    · cases h
  · split at h
    · rename_i y n dp a sp a0 r hf
      split at h
      · rename_i hrm
        obtain ⟨M2, h1, h2⟩ := Option.map_eq_some_iff.mp h
        cases h2
        exact so_cp F hls hP hS hd hf h1 hrm kk
      · cases h
    · rename_i y a z r hf
      split at h
      · rename_i hrm
        cases h
        exact va_mmin hx hb (hml.trans hls.symm) hown (hts _ (c_link hf (by decide))) (hts _ (one_w (by simp))) (hts _ (rest_w (by simp [restW]))) (hts _ (one_w (by simp))) (Nat.le_trans hrm.1 hfr) (by rw [cats_cv]; exact Nat.le_trans hrm.2 hlo) hcl hsl hd (kk H locs hP hS)
      · cases h
    · rename_i y a z r hf
      split at h
      · rename_i hrm
        cases h
        exact va_mmax hx hb (hml.trans hls.symm) hown (hts _ (c_link hf (by decide))) (hts _ (one_w (by simp))) (hts _ (rest_w (by simp [restW]))) (hts _ (one_w (by simp))) (Nat.le_trans hrm.1 hfr) (by rw [cats_cv]; exact Nat.le_trans hrm.2 hlo) hcl hsl hd (kk H locs hP hS)
      · cases h
    · cases h
  · cases h
end MEM
