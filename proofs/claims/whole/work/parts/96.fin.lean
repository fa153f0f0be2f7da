-- from the start to the loop
theorem arrV_c {c : ClassId} {n : Nat} {g g' : Nat → Value} (h : ∀ j, j < n → g j = g' j) : arrV c n g = arrV c n g' := by
  unfold arrV
  have : (fun j : Fin n => g j.val) = fun j : Fin n => g' j.val := funext fun j => h j.1 j.2
  rw [this]
set_option maxRecDepth 100000 in
theorem tb_k : ∀ q ∈ tbK, q.1 < 52 := by decide +kernel
theorem chk_s {M : List va_E} (h : chkM M = true) : (M.length = 256 ∧ szM M ≤ 100000) ∧ (∀ q ∈ tbK, okCell M q = true) ∧ (∀ q ∈ wants, vOf M q.1 q.2.1 q.2.2.1 = q.2.2.2) ∧ ∀ h, h < 7 → vOf M 10 0 h = 0 ∧ vOf M 11 0 h = -1 ∧ vOf M 12 0 h = 0 ∧ vOf M 13 0 h = 0 ∧ vOf M 14 0 h = 0 := by
  unfold chkM at h
  rw [Bool.and_eq_true, Bool.and_eq_true, Bool.and_eq_true, decide_eq_true_eq, List.all_eq_true, List.all_eq_true, List.all_eq_true] at h
  obtain ⟨h1, h2, h3, h4⟩ := h
  exact ⟨h1, h2, fun q hq => of_decide_eq_true (h3 q hq), fun k hk => of_decide_eq_true (h4 k (List.mem_range.mpr hk))⟩
theorem P_conv {D : va_G} {cA : Nat → ClassId} {b0 : Nat} {M : List va_E} {H : Heap} (h : chkM M = true) (hP : va_P D vwCl (wsOf b0 cA M) H) : va_P D vwCl (wsOf b0 cA (enc (vOf M))) H := by
  obtain ⟨-, hc, -⟩ := chk_s h
  intro k q hq
  rw [ws_get] at hq
  obtain ⟨e', he', rfl⟩ := Option.map_eq_some_iff.mp hq
  have hk : k < 256 := by
    have := (List.getElem?_eq_some_iff.mp he').1
    rw [enc_len] at this
    exact this
  obtain ⟨⟨kk, ii⟩, ht⟩ : ∃ q, tbK[k]? = some q := ⟨_, List.getElem?_eq_getElem (by rw [tb_len]; exact hk)⟩
  have hak : ad kk ii = k := by
    have := ad_inv k hk
    rw [ht] at this
    simpa using this
  have hm := List.mem_of_getElem? ht
  have k52 : kk < 52 := tb_k _ hm
  have k14 : ¬ kk = 14 := no14 _ hm
  have ok := hc _ hm
  unfold enc at he'
  rw [List.getElem?_map, ht] at he'
  have he'' : cellF kk ii (vw (vOf M) kk ii) = e' := Option.some.inj he'
  unfold okCell at ok
  dsimp only at ok
  rw [hak] at ok
  cases hM : M[k]? with
  | none => rw [hM] at ok; cases ok
  | some ce =>
    rw [hM] at ok
    have hat := hP k _ (ws_at hM)
    rcases ce with ⟨t, n, f⟩ | ⟨ci, fl⟩
    · rcases f with f | f | f | f | f
      · have o := of_decide_eq_true ok
        have ev : vw (vOf M) kk ii = f := by unfold vw; rw [if_neg (aT_n9 o.1)]; funext j; unfold vOf; rw [if_neg k14, hak, hM]
        rw [ev, arr_cell kk k52 o.1, ← o.2.1, ← o.2.2] at he''
        rw [← he'']
        exact hat
      · cases ok
      · cases ok
      · cases ok
      · have ok' : (decide (kk = 17 ∧ t = 3 ∧ n = 30) && (List.range 30).all (fun j => decide (f j = some (ad 9 (2 + j)))) || decide (kk = 18 ∧ t = 4 ∧ n = 2) && (List.range 2).all (fun j => decide (f j = some (ad 19 j)))) = true := ok
        rw [Bool.or_eq_true, Bool.and_eq_true, Bool.and_eq_true, List.all_eq_true, List.all_eq_true] at ok'
        rcases ok' with ⟨o1, o2⟩ | ⟨o1, o2⟩
        · obtain ⟨rfl, rfl, rfl⟩ := of_decide_eq_true o1
          rw [← he'']
          have hat' : H[b0 + k]? = some (arrV (cA 3) 30 (fun j => va_rf ((f j).map (b0 + ·)))) := hat
          show H[b0 + k]? = some (arrV (cA 3) 30 (fun j => va_rf ((some (ad 9 (2 + j))).map (b0 + ·))))
          rw [hat', arrV_c (fun j hj => by rw [of_decide_eq_true (o2 j (List.mem_range.mpr hj))])]
        · obtain ⟨rfl, rfl, rfl⟩ := of_decide_eq_true o1
          rw [← he'']
          have hat' : H[b0 + k]? = some (arrV (cA 4) 2 (fun j => va_rf ((f j).map (b0 + ·)))) := hat
          show H[b0 + k]? = some (arrV (cA 4) 2 (fun j => va_rf ((some (ad 19 j)).map (b0 + ·))))
          rw [hat', arrV_c (fun j hj => by rw [of_decide_eq_true (o2 j (List.mem_range.mpr hj))])]
    · have o : objF kk ii (vwO kk (vO fl)) = some (ci, fl) := of_decide_eq_true ok
      have ev : vw (vOf M) kk ii = vwO kk (vO fl) := by
        have e14 : vOf M 14 ii = fun _ => 0 := funext fun j => by unfold vOf; rw [if_pos rfl]
        unfold vw vwO
        by_cases z : kk = 9
        · rw [if_pos z, if_pos z]
          funext j
          by_cases y : j = 6
          · rw [if_pos y, if_pos y, e14]; exact emS_z
          · rw [if_neg y, if_neg y, ← z]
            unfold vOf
            rw [if_neg k14, hak, hM]
        · rw [if_neg z, if_neg z]
          funext j
          unfold vOf
          rw [if_neg k14, hak, hM]
      unfold objF at o
      split at o
      · rename_i p hp
        cases o
        rw [ev, hp] at he''
        rw [← he'']
        exact hat
      · cases o
theorem Rel0_start {M : List va_E} (h : chkM M = true) : Rel0 (vOf M) := by
  obtain ⟨-, -, w, v⟩ := chk_s h
  have r0 : rr (vOf M 9 0 0) = 0 := by rw [w (9, 0, 0, 0) (by decide)]; rfl
  have r1 : rr (vOf M 0 0 1) = 1 := by rw [w (0, 0, 1, 1) (by decide)]; rfl
  refine ⟨⟨⟨0, by omega, w (1, 0, 1, 0) (by decide), w (29, 0, 1, 0) (by decide), fun j hj => absurd hj (Nat.not_lt_zero _)⟩, (w (1, 0, 2, -1) (by decide)).trans (w (29, 0, 2, -1) (by decide)).symm⟩, ⟨(w (0, 0, 8, 0) (by decide)).trans (w (29, 0, 22, 0) (by decide)).symm, ?_⟩, ⟨⟨w (31, 0, 0, 0) (by decide), w (31, 0, 1, 0) (by decide), w (31, 0, 2, 0) (by decide)⟩, ?_, ?_⟩, ⟨?_, w (43, 0, 0, 0) (by decide), w (43, 0, 1, 0) (by decide), w (43, 0, 2, 0) (by decide), w (43, 0, 3, 0) (by decide)⟩, ⟨⟨w (20, 0, 3, 0) (by decide), w (29, 0, 24, 0) (by decide)⟩, ⟨w (26, 0, 2, 0) (by decide), w (29, 0, 26, 0) (by decide)⟩⟩, ⟨w (16, 0, 2, 0) (by decide), ⟨0, by omega, w (16, 0, 1, 0) (by decide)⟩, w (29, 0, 18, 0) (by decide)⟩, fun i hi => ?_⟩
  · rw [w (29, 0, 22, 0) (by decide)]; decide
  · rw [r0]; exact ⟨w (3, 0, 0, 0) (by decide), w (3, 0, 1, 0) (by decide), w (3, 0, 2, 0) (by decide)⟩
  · rw [r0, r1]; decide
  · refine CS_new (fd := zf) (by decide) (by omega) (by omega) (fun h hh => ?_) (w (9, 0, 1, 0) (by decide)) (w (9, 0, 2, 0) (by decide)) (w (9, 0, 3, 0) (by decide)) (w (9, 0, 4, 0) (by decide)) (w (9, 0, 5, 0) (by decide)) NWp_F
    rw [if_neg (Nat.not_lt_zero _), if_neg (Nat.not_lt_zero _)]
    exact v h hh
  · rcases (show i = 0 ∨ i = 1 by omega) with z | z <;> rw [z]
    · exact ⟨(w (19, 0, 2, 0) (by decide)).trans (w (48, 0, 0, 0) (by decide)).symm, Or.inl (w (48, 0, 0, 0) (by decide))⟩
    · exact ⟨(w (19, 1, 2, 0) (by decide)).trans (w (48, 0, 1, 0) (by decide)).symm, Or.inl (w (48, 0, 1, 0) (by decide))⟩
set_option maxRecDepth 100000 in
theorem in_ci : ∀ ci, ci < 9 → Cond.instantiable (clR ci) (clN ci) ∈ tables_1 := by decide +kernel
set_option maxRecDepth 100000 in
theorem ini_ci : ∀ ci, ci < 9 → Cond.initialized (clR ci) ∈ tables_1 := by decide +kernel
set_option maxRecDepth 100000 in
theorem ov_5 : Cond.arrayOver (.object RX5) ∈ tables_1 := by decide +kernel
set_option maxRecDepth 100000 in
theorem ov_2 : Cond.arrayOver (.object RX2) ∈ tables_1 := by decide +kernel
set_option maxRecDepth 100000 in
theorem ac_i : Cond.arrayClass .int ∈ tables_1 ∧ Cond.arrayClass .boolean ∈ tables_1 ∧ Cond.arrayClass .char ∈ tables_1 := by decide +kernel
theorem tb_in {w : Cond} (h : w ∈ tables_1) : w ∈ lw_tbl := List.mem_append_right _ h
theorem arr_k {s : State} {A : Array Value} {ty : FieldType} (hty : ty = .int ∨ ty = .boolean ∨ ty = .char) (h : (Cond.arrayClass ty).before A s = true) : ∃ cA, ArrOfT s cA ty ∧ va_RA s cA ty := by
  obtain ⟨cA, kA, comp, h1, h2, h3⟩ := Cond.arrayClass_spec h
  refine ⟨cA, fun n z => ⟨fun k h => (by cases h), kA, h2, comp, h3⟩, ?_⟩
  rcases hty with rfl | rfl | rfl <;> exact h1
theorem arr_o {s : State} {A : Array Value} {C : String} (h : (Cond.arrayOver (.object C)).before A s = true) : ∃ cA, ArrOfT s cA (.object C) ∧ va_RA s cA (.object C) := by
  obtain ⟨comp, cA, kA, h1, h2, h3, h4, h5⟩ := Cond.arrayOver_spec h
  exact ⟨cA, fun N z => ⟨(fun k h => by cases h), kA, h3, comp, h4⟩, kA, comp, h3, h4, h1, h5⟩
theorem K_start {s : State} {b : Nat} (hts : ∀ w ∈ lw_tbl, w.before #[Value.ref b] s = true) : ∃ (D : va_G) (cA : Nat → ClassId), va_K D vwCl (tysC cA) s ∧ NWs s := by
  have h : ∀ ci, ∃ q : ClassId × (Nat → Nat), ci < 9 → u_Kn s (clR ci) (clT ci) (clN ci) q.1 q.2 := fun ci => by
    by_cases hc : ci < 9
    · obtain ⟨c, iS, hK⟩ := u_known (C := clR ci) (T := clT ci) (N := clN ci) (n := clN ci) hts (fun w hw => lwg_in (cl_in hc w hw)) (hts _ (tb_in (in_ci ci hc)))
      exact ⟨(c, iS), fun _ => hK⟩
    · exact ⟨(0, fun _ => 0), fun z => absurd z hc⟩
  obtain ⟨c0, a0, b0⟩ := arr_k (Or.inl rfl) (hts _ (tb_in ac_i.1))
  obtain ⟨c1, a1, b1⟩ := arr_k (Or.inr (Or.inl rfl)) (hts _ (tb_in ac_i.2.1))
  obtain ⟨c2, a2, b2⟩ := arr_k (Or.inr (Or.inr rfl)) (hts _ (tb_in ac_i.2.2))
  obtain ⟨c3, a3, b3⟩ := arr_o (hts _ (tb_in ov_5))
  obtain ⟨c4, a4, b4⟩ := arr_o (hts _ (tb_in ov_2))
  refine ⟨(fun ci => (Classical.choose (h ci)).1, fun ci => (Classical.choose (h ci)).2), fun k => if k = 0 then c0 else if k = 1 then c1 else if k = 2 then c2 else if k = 3 then c3 else c4, ⟨fun c q hq => ?_, fun k q hq => ?_⟩, fun q hq => ?_, hts _ (tb_in ov_5), hts _ (tb_in ov_2)⟩
  · have hc : c < 9 := (List.getElem?_eq_some_iff.mp hq).1
    rw [cl_at hc] at hq
    cases hq
    exact Classical.choose_spec (h c) hc
  · match k, hq with
    | 0, hq => cases hq; exact ⟨a0, b0⟩
    | 1, hq => cases hq; exact ⟨a1, b1⟩
    | 2, hq => cases hq; exact ⟨a2, b2⟩
    | 3, hq => cases hq; exact ⟨a3, b3⟩
    | 4, hq => cases hq; exact ⟨a4, b4⟩
    | k + 5, hq => simp [tysC] at hq
  · have hw : cWord q ∈ tables_1 := subW_mem _ _ c_ct2 _ (List.mem_map.mpr ⟨q, hq, rfl⟩)
    have hk : q.2.1 = 3 ∨ q.2.1 = 4 := by
      have := (List.mem_filter.mp hq).2
      by_cases z : q.2.1 = 3
      · exact Or.inl z
      · by_cases y : q.2.1 = 4
        · exact Or.inr y
        · simp [z, y] at this
    unfold cWord at hw
    rw [if_pos hk] at hw
    exact va_Nw.of rfl (hts _ (tb_in hw))
