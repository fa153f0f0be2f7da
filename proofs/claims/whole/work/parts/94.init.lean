-- State.<init> whole; constructors by running them (written by a program of mine)
section S94
variable {M : List va_E} {a r : Nat} {fs : List Fm} {Q : List va_E → Option Value → Prop}
def MS (M : List va_E) (a : Nat) (F : List Value) (A : List va_E) : List va_E := M.set a (.inr (5, F)) ++ A
theorem MS_a {F : List Value} {A : List va_E} (ha : a < M.length) : (MS M a F A)[a]? = some (.inr (5, F)) := by
  unfold MS
  rw [List.getElem?_append_left (by rw [List.length_set]; exact ha), List.getElem?_set_self ha]
theorem MS_s {F F' : List Value} {A : List va_E} (ha : a < M.length) : (MS M a F A).set a (.inr (5, F')) = MS M a F' A := by
  unfold MS
  rw [MB_sa, if_pos ha]
theorem MS_l {F : List Value} {A : List va_E} : (MS M a F A).length = M.length + A.length := by
  unfold MS
  rw [List.length_append, List.length_set]
theorem MS_n {F : List Value} {A : List va_E} {c : va_E} : MS M a F A ++ [c] = MS M a F (A ++ [c]) := by
  unfold MS
  rw [List.append_assoc]
theorem dfl5 : dfl 5 = [.null, .int 0, .int 0, .int 0, .int 0, .int 0, .int 0, .null, .null, .null, .null, .null] := by decide +kernel
theorem dX5_init_0 : decode cX5_init 0 = .ok (.aload_n 0, 1) := by decide +kernel
theorem dX5_init_1 : decode cX5_init 1 = .ok (.invokespecial 3, 3) := by decide +kernel
theorem dX5_init_4 : decode cX5_init 4 = .ok (.aload_n 0, 1) := by decide +kernel
theorem dX5_init_5 : decode cX5_init 5 = .ok (.bipush 7, 2) := by decide +kernel
theorem dX5_init_7 : decode cX5_init 7 = .ok (.newarray .int, 2) := by decide +kernel
theorem dX5_init_9 : decode cX5_init 9 = .ok (.putfield 9, 3) := by decide +kernel
theorem dX5_init_12 : decode cX5_init 12 = .ok (.aload_n 0, 1) := by decide +kernel
theorem dX5_init_13 : decode cX5_init 13 = .ok (.bipush 7, 2) := by decide +kernel
theorem dX5_init_15 : decode cX5_init 15 = .ok (.newarray .int, 2) := by decide +kernel
theorem dX5_init_17 : decode cX5_init 17 = .ok (.putfield 15, 3) := by decide +kernel
theorem dX5_init_20 : decode cX5_init 20 = .ok (.aload_n 0, 1) := by decide +kernel
theorem dX5_init_21 : decode cX5_init 21 = .ok (.bipush 7, 2) := by decide +kernel
theorem dX5_init_23 : decode cX5_init 23 = .ok (.newarray .int, 2) := by decide +kernel
theorem dX5_init_25 : decode cX5_init 25 = .ok (.putfield 18, 3) := by decide +kernel
theorem dX5_init_28 : decode cX5_init 28 = .ok (.aload_n 0, 1) := by decide +kernel
theorem dX5_init_29 : decode cX5_init 29 = .ok (.bipush 7, 2) := by decide +kernel
theorem dX5_init_31 : decode cX5_init 31 = .ok (.newarray .int, 2) := by decide +kernel
theorem dX5_init_33 : decode cX5_init 33 = .ok (.putfield 21, 3) := by decide +kernel
theorem dX5_init_36 : decode cX5_init 36 = .ok (.aload_n 0, 1) := by decide +kernel
theorem dX5_init_37 : decode cX5_init 37 = .ok (.bipush 60, 2) := by decide +kernel
theorem dX5_init_39 : decode cX5_init 39 = .ok (.newarray .int, 2) := by decide +kernel
theorem dX5_init_41 : decode cX5_init 41 = .ok (.putfield 24, 3) := by decide +kernel
theorem dX5_init_44 : decode cX5_init 44 = .ok (.aload_n 0, 1) := by decide +kernel
theorem dX5_init_45 : decode cX5_init 45 = .ok (.aload_n 1, 1) := by decide +kernel
theorem dX5_init_46 : decode cX5_init 46 = .ok (.invokevirtual 27, 3) := by decide +kernel
theorem dX5_init_49 : decode cX5_init 49 = .ok (.return_, 1) := by decide +kernel
theorem iX5_4 {l1 : Value} (ha : a < M.length) : Rn mX5_init 4 [.ref a, l1] [] fs (MS M a [.null, .int 0, .int 0, .int 0, .int 0, .int 0, .int 0, .null, .null, .null, .null, .null] []) Q ↔ Rn mX5_init 12 [.ref a, l1] [] fs (MS M a [.null, .int 0, .int 0, .int 0, .int 0, .int 0, .int 0, .ref M.length, .null, .null, .null, .null] [.inl (0, 7, .inl zr)]) Q := by
  rw [R_aload_n (k := 0) (x := a) hbX5_init rfl dX5_init_4, R_bipush (v := 7) hbX5_init (by decide) dX5_init_5]
  rw [R_N (st' := [.ref a]) (ce := .inl (0, 7, .inl zr)) (by rw [hbX5_init]; exact dX5_init_7) rfl rfl (by
    show (if ¬ (7 : Int32) < 0 ∧ (7 : Int32).toNatClampNeg ≤ 10000 then _ else none) = _
    rw [if_pos (by decide)]
    rfl), MS_l, MS_n]
  rw [R_put (M' := MS M a [.null, .int 0, .int 0, .int 0, .int 0, .int 0, .int 0, .ref M.length, .null, .null, .null, .null] [.inl (0, 7, .inl zr)]) hbX5_init hoX5_init fl_5_9 (by
    unfold pF
    rw [MS_a ha]
    show (if _ then _ else _) = _
    rw [if_pos ⟨rfl, by simp, ⟨rfl, rfl⟩, Or.inr ⟨by decide +kernel, by decide +kernel⟩⟩, MS_s ha]
    rfl) dX5_init_9]
theorem iX5_12 {l1 : Value} (ha : a < M.length) : Rn mX5_init 12 [.ref a, l1] [] fs (MS M a [.null, .int 0, .int 0, .int 0, .int 0, .int 0, .int 0, .ref M.length, .null, .null, .null, .null] [.inl (0, 7, .inl zr)]) Q ↔ Rn mX5_init 20 [.ref a, l1] [] fs (MS M a [.null, .int 0, .int 0, .int 0, .int 0, .int 0, .int 0, .ref M.length, .ref (M.length + 1), .null, .null, .null] [.inl (0, 7, .inl zr), .inl (0, 7, .inl zr)]) Q := by
  rw [R_aload_n (k := 0) (x := a) hbX5_init rfl dX5_init_12, R_bipush (v := 7) hbX5_init (by decide) dX5_init_13]
  rw [R_N (st' := [.ref a]) (ce := .inl (0, 7, .inl zr)) (by rw [hbX5_init]; exact dX5_init_15) rfl rfl (by
    show (if ¬ (7 : Int32) < 0 ∧ (7 : Int32).toNatClampNeg ≤ 10000 then _ else none) = _
    rw [if_pos (by decide)]
    rfl), MS_l, MS_n]
  rw [R_put (M' := MS M a [.null, .int 0, .int 0, .int 0, .int 0, .int 0, .int 0, .ref M.length, .ref (M.length + 1), .null, .null, .null] [.inl (0, 7, .inl zr), .inl (0, 7, .inl zr)]) hbX5_init hoX5_init fl_5_15 (by
    unfold pF
    rw [MS_a ha]
    show (if _ then _ else _) = _
    rw [if_pos ⟨rfl, by simp, ⟨rfl, rfl⟩, Or.inr ⟨by decide +kernel, by decide +kernel⟩⟩, MS_s ha]
    rfl) dX5_init_17]
theorem iX5_20 {l1 : Value} (ha : a < M.length) : Rn mX5_init 20 [.ref a, l1] [] fs (MS M a [.null, .int 0, .int 0, .int 0, .int 0, .int 0, .int 0, .ref M.length, .ref (M.length + 1), .null, .null, .null] [.inl (0, 7, .inl zr), .inl (0, 7, .inl zr)]) Q ↔ Rn mX5_init 28 [.ref a, l1] [] fs (MS M a [.null, .int 0, .int 0, .int 0, .int 0, .int 0, .int 0, .ref M.length, .ref (M.length + 1), .ref (M.length + 2), .null, .null] [.inl (0, 7, .inl zr), .inl (0, 7, .inl zr), .inl (0, 7, .inl zr)]) Q := by
  rw [R_aload_n (k := 0) (x := a) hbX5_init rfl dX5_init_20, R_bipush (v := 7) hbX5_init (by decide) dX5_init_21]
  rw [R_N (st' := [.ref a]) (ce := .inl (0, 7, .inl zr)) (by rw [hbX5_init]; exact dX5_init_23) rfl rfl (by
    show (if ¬ (7 : Int32) < 0 ∧ (7 : Int32).toNatClampNeg ≤ 10000 then _ else none) = _
    rw [if_pos (by decide)]
    rfl), MS_l, MS_n]
  rw [R_put (M' := MS M a [.null, .int 0, .int 0, .int 0, .int 0, .int 0, .int 0, .ref M.length, .ref (M.length + 1), .ref (M.length + 2), .null, .null] [.inl (0, 7, .inl zr), .inl (0, 7, .inl zr), .inl (0, 7, .inl zr)]) hbX5_init hoX5_init fl_5_18 (by
    unfold pF
    rw [MS_a ha]
    show (if _ then _ else _) = _
    rw [if_pos ⟨rfl, by simp, ⟨rfl, rfl⟩, Or.inr ⟨by decide +kernel, by decide +kernel⟩⟩, MS_s ha]
    rfl) dX5_init_25]
theorem iX5_28 {l1 : Value} (ha : a < M.length) : Rn mX5_init 28 [.ref a, l1] [] fs (MS M a [.null, .int 0, .int 0, .int 0, .int 0, .int 0, .int 0, .ref M.length, .ref (M.length + 1), .ref (M.length + 2), .null, .null] [.inl (0, 7, .inl zr), .inl (0, 7, .inl zr), .inl (0, 7, .inl zr)]) Q ↔ Rn mX5_init 36 [.ref a, l1] [] fs (MS M a [.null, .int 0, .int 0, .int 0, .int 0, .int 0, .int 0, .ref M.length, .ref (M.length + 1), .ref (M.length + 2), .ref (M.length + 3), .null] [.inl (0, 7, .inl zr), .inl (0, 7, .inl zr), .inl (0, 7, .inl zr), .inl (0, 7, .inl zr)]) Q := by
  rw [R_aload_n (k := 0) (x := a) hbX5_init rfl dX5_init_28, R_bipush (v := 7) hbX5_init (by decide) dX5_init_29]
  rw [R_N (st' := [.ref a]) (ce := .inl (0, 7, .inl zr)) (by rw [hbX5_init]; exact dX5_init_31) rfl rfl (by
    show (if ¬ (7 : Int32) < 0 ∧ (7 : Int32).toNatClampNeg ≤ 10000 then _ else none) = _
    rw [if_pos (by decide)]
    rfl), MS_l, MS_n]
  rw [R_put (M' := MS M a [.null, .int 0, .int 0, .int 0, .int 0, .int 0, .int 0, .ref M.length, .ref (M.length + 1), .ref (M.length + 2), .ref (M.length + 3), .null] [.inl (0, 7, .inl zr), .inl (0, 7, .inl zr), .inl (0, 7, .inl zr), .inl (0, 7, .inl zr)]) hbX5_init hoX5_init fl_5_21 (by
    unfold pF
    rw [MS_a ha]
    show (if _ then _ else _) = _
    rw [if_pos ⟨rfl, by simp, ⟨rfl, rfl⟩, Or.inr ⟨by decide +kernel, by decide +kernel⟩⟩, MS_s ha]
    rfl) dX5_init_33]
theorem iX5_36 {l1 : Value} (ha : a < M.length) : Rn mX5_init 36 [.ref a, l1] [] fs (MS M a [.null, .int 0, .int 0, .int 0, .int 0, .int 0, .int 0, .ref M.length, .ref (M.length + 1), .ref (M.length + 2), .ref (M.length + 3), .null] [.inl (0, 7, .inl zr), .inl (0, 7, .inl zr), .inl (0, 7, .inl zr), .inl (0, 7, .inl zr)]) Q ↔ Rn mX5_init 44 [.ref a, l1] [] fs (MS M a [.null, .int 0, .int 0, .int 0, .int 0, .int 0, .int 0, .ref M.length, .ref (M.length + 1), .ref (M.length + 2), .ref (M.length + 3), .ref (M.length + 4)] [.inl (0, 7, .inl zr), .inl (0, 7, .inl zr), .inl (0, 7, .inl zr), .inl (0, 7, .inl zr), .inl (0, 60, .inl zr)]) Q := by
  rw [R_aload_n (k := 0) (x := a) hbX5_init rfl dX5_init_36, R_bipush (v := 60) hbX5_init (by decide) dX5_init_37]
  rw [R_N (st' := [.ref a]) (ce := .inl (0, 60, .inl zr)) (by rw [hbX5_init]; exact dX5_init_39) rfl rfl (by
    show (if ¬ (60 : Int32) < 0 ∧ (60 : Int32).toNatClampNeg ≤ 10000 then _ else none) = _
    rw [if_pos (by decide)]
    rfl), MS_l, MS_n]
  rw [R_put (M' := MS M a [.null, .int 0, .int 0, .int 0, .int 0, .int 0, .int 0, .ref M.length, .ref (M.length + 1), .ref (M.length + 2), .ref (M.length + 3), .ref (M.length + 4)] [.inl (0, 7, .inl zr), .inl (0, 7, .inl zr), .inl (0, 7, .inl zr), .inl (0, 7, .inl zr), .inl (0, 60, .inl zr)]) hbX5_init hoX5_init fl_5_24 (by
    unfold pF
    rw [MS_a ha]
    show (if _ then _ else _) = _
    rw [if_pos ⟨rfl, by simp, ⟨rfl, rfl⟩, Or.inr ⟨by decide +kernel, by decide +kernel⟩⟩, MS_s ha]
    rfl) dX5_init_41]
theorem st_init {g : List Value} (ha : M[a]? = some (.inr (5, dfl 5))) (hn : ¬ a = r) (hR : M[r]? = some (.inr (4, .int 0 :: .int 0 :: .int 0 :: g))) : Rn mX5_init 0 [.ref a, .ref r] [] fs M Q ↔ Rt fs (MB M a (.ref r) (.int 0) (.int 0) (.int 0) (.int 0) (.int 0) (.int 0) zr (gN 7) zr zr zr) none Q := by
  have la : a < M.length := (List.getElem?_eq_some_iff.mp ha).1
  have lr : r < M.length := (List.getElem?_eq_some_iff.mp hR).1
  have e0 : M = MS M a [.null, .int 0, .int 0, .int 0, .int 0, .int 0, .int 0, .null, .null, .null, .null, .null] [] := by
    unfold MS
    rw [List.append_nil, ← dfl5]
    exact (List.ext_getElem? (fun i => by
      by_cases z : a = i
      · rw [← z, List.getElem?_set_self la, ha]
      · rw [List.getElem?_set_ne z])).symm
  have e6 : MS M a [.null, .int 0, .int 0, .int 0, .int 0, .int 0, .int 0, .ref M.length, .ref (M.length + 1), .ref (M.length + 2), .ref (M.length + 3), .ref (M.length + 4)] [.inl (0, 7, .inl zr), .inl (0, 7, .inl zr), .inl (0, 7, .inl zr), .inl (0, 7, .inl zr), .inl (0, 60, .inl zr)] = MB M a .null (.int 0) (.int 0) (.int 0) (.int 0) (.int 0) (.int 0) zr zr zr zr zr := rfl
  rw [R_aload_n (k := 0) (x := a) hbX5_init rfl dX5_init_0]
  rw [R_M (st' := []) (M1 := M) (by rw [hbX5_init]; exact dX5_init_1) rfl (by
    unfold stepM
    simp only [show ctab.lookup (mo mX5_init, 3) = some (5, 0) from cl_5_3]
    rw [if_pos (by decide +kernel)])]
  conv => lhs; rw [e0]
  show Rn mX5_init 4 _ _ _ _ _ ↔ _
  rw [iX5_4 la, iX5_12 la, iX5_20 la, iX5_28 la, iX5_36 la, e6]
  rw [R_aload_n (k := 0) (x := a) hbX5_init rfl dX5_init_44, R_aload_n (k := 1) (x := r) hbX5_init rfl dX5_init_45]
  rw [R_V (st0 := [.ref r, .ref a]) (As := [.ref r]) (a := a) (r := []) (LL := [.ref a, .ref r, .null]) hbX5_init hoX5_init cl_5_27 hnX5_begin rfl (by decide +kernel) rfl rfl rfl (by unfold isO; rw [MB_a la]; rfl) dX5_init_46]
  rw [sp_bgM la lr hn hR]
  simp only [cats_nil, Nat.zero_le, true_and, Rt_void]
  rw [R_ret hbX5_init hrX5_init dX5_init_49]
end S94
/-- State.<init> at once -/
def mac (M : List va_E) (as : List Value) : Option (List va_E) := match as with
  | [.ref a, .ref r] => (match M[a]?, M[r]? with
    | some (.inr (5, F)), some (.inr (4, G)) => if F = dfl 5 ∧ G.take 3 = [.int 0, .int 0, .int 0] ∧ ¬ a = r then some (MB M a (.ref r) (.int 0) (.int 0) (.int 0) (.int 0) (.int 0) (.int 0) zr (gN 7) zr zr zr) else none
    | _, _ => none)
  | _ => none
theorem mac_ev {M M' : List va_E} {as : List Value} (h : mac M as = some M') : ∃ n, ev n mX5_init 0 (entL as (mL mX5_init)) [] M = some (M', none) := by
  unfold mac at h
  split at h
  · rename_i a r
    split at h
    · rename_i F G h1 h2
      split at h
      · rename_i hc
        obtain ⟨c1, c2, c3⟩ := hc
        cases h
        rw [c1] at h1
        have eG : G = .int 0 :: .int 0 :: .int 0 :: G.drop 3 := by
          conv => lhs; rw [← List.take_append_drop 3 G, c2]
          rfl
        rw [eG] at h2
        exact Rn_ev ((st_init h1 c3 h2).mpr ⟨rfl, rfl⟩)
      · cases h
    · cases h
  · cases h
/-- the interpreter, with State.<init> at once -/
def em : Nat → Nat → Nat → List Value → List Value → List va_E → Option (List va_E × Option Value)
  | 0, _, _, _, _, _ => none
  | n + 1, mi, pc, L, st, M => match decode (mb mi) pc with
    | .ok (i, len) => match stepP mi pc L st i len with
      | some (pc', L', st') => em n mi pc' L' st' M
      | none => match stepM mi i st M with
        | some (k, st', M') => if k = len then em n mi (pc + k) L st' M' else none
        | none => match stepN mi i st with
          | some (k, st', c) => if k = len then em n mi (pc + k) L (.ref M.length :: st') (M ++ [c]) else none
          | none => match stepC mi i st M with
            | some (y, as, r) => if len = 3 then (if y = mX5_init then (match mac M as with
                | some M' => em n mi (pc + 3) L r M'
                | none => none) else (match em n y 0 (entL as (mL y)) [] M with
                | some (M', v) => em n mi (pc + 3) L (v.toList ++ r) M'
                | none => none)) else none
            | none => match stepR mi i st with
              | some v => if len = 1 then some (M, v) else none
              | none => none
    | .error _ => none
theorem em_ev : ∀ (n mi pc : Nat) (L st : List Value) (M : List va_E) (x : List va_E × Option Value), em n mi pc L st M = some x → ∃ k, ev k mi pc L st M = some x := by
  intro n
  induction n with
  | zero => intro mi pc L st M x h; cases h
  | succ n ih =>
    intro mi pc L st M x h
    unfold em at h
    cases hd : decode (mb mi) pc with
    | error e => simp only [hd] at h; cases h
    | ok q =>
      obtain ⟨i, len⟩ := q
      simp only [hd] at h
      cases hp : stepP mi pc L st i len with
      | some q =>
        obtain ⟨pc', L', st'⟩ := q
        simp only [hp] at h
        obtain ⟨k, hk⟩ := ih _ _ _ _ _ _ h
        refine ⟨k + 1, ?_⟩
        unfold ev
        simp only [hd, hp]
        exact hk
      | none =>
        simp only [hp] at h
        cases hm : stepM mi i st M with
        | some q =>
          obtain ⟨k0, st', M'⟩ := q
          simp only [hm] at h
          split at h
          · rename_i hl
            obtain ⟨k, hk⟩ := ih _ _ _ _ _ _ h
            refine ⟨k + 1, ?_⟩
            unfold ev
            simp only [hd, hp, hm]
            rw [if_pos hl]
            exact hk
          · cases h
        | none =>
          simp only [hm] at h
          cases hn : stepN mi i st with
          | some q =>
            obtain ⟨k0, st', ce⟩ := q
            simp only [hn] at h
            split at h
            · rename_i hl
              obtain ⟨k, hk⟩ := ih _ _ _ _ _ _ h
              refine ⟨k + 1, ?_⟩
              unfold ev
              simp only [hd, hp, hm, hn]
              rw [if_pos hl]
              exact hk
            · cases h
          | none =>
            simp only [hn] at h
            cases hc : stepC mi i st M with
            | some q =>
              obtain ⟨y, as, r⟩ := q
              simp only [hc] at h
              split at h
              · rename_i hl
                split at h
                · rename_i hy
                  split at h
                  · rename_i M' hq
                    obtain ⟨k1, hk1⟩ := mac_ev hq
                    obtain ⟨k2, hk2⟩ := ih _ _ _ _ _ _ h
                    refine ⟨k1 + k2 + 1, ?_⟩
                    unfold ev
                    simp only [hd, hp, hm, hn, hc]
                    rw [if_pos hl, hy, ev_mono (Nat.le_add_right k1 k2) hk1]
                    exact ev_mono (Nat.le_add_left k2 k1) hk2
                  · cases h
                · split at h
                  · rename_i M' v hq
                    obtain ⟨k1, hk1⟩ := ih _ _ _ _ _ _ hq
                    obtain ⟨k2, hk2⟩ := ih _ _ _ _ _ _ h
                    refine ⟨k1 + k2 + 1, ?_⟩
                    unfold ev
                    simp only [hd, hp, hm, hn, hc]
                    rw [if_pos hl, ev_mono (Nat.le_add_right k1 k2) hk1]
                    exact ev_mono (Nat.le_add_left k2 k1) hk2
                  · cases h
              · cases h
            | none =>
              simp only [hc] at h
              cases hr : stepR mi i st with
              | some v =>
                simp only [hr] at h
                split at h
                · rename_i hl
                  refine ⟨1, ?_⟩
                  unfold ev
                  simp only [hd, hp, hm, hn, hc, hr]
                  rw [if_pos hl]
                  exact h
                · cases h
              | none => simp only [hr] at h; cases h
