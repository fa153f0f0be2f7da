-- row
/-- a row that begins -/
def NWp (N G : Nat) (fd w : F1) : Prop := (∀ a, a < 64 → w a = 0) ∧ ∀ h, h < 7 → w (64 + 5 * h) = (if h < N then fd h else 0) ∧ w (64 + 5 * h + 1) = (if h < G then 0 else 1) ∧ w (64 + 5 * h + 2) = (if h < G then nI h else -1) ∧ w (64 + 5 * h + 3) = 0 ∧ w (64 + 5 * h + 4) = 0
theorem WFw_new {N G : Nat} {fd w : F1} (h : NWp N G fd w) (hN : N ≤ 7) (hG : G ≤ N) (hf : ∀ h, h < N → ∃ d : Nat, d ≤ 99 ∧ fd h = nI d) : WFw G N w := by
  have n2 : ∀ h, h < 7 → ¬ w (64 + 5 * h + 1) = 2 := fun h' hh z => by
    rw [(h.2 h' hh).2.1] at z
    split at z <;> exact absurd z (by decide)
  have e0 : ∀ h, h < 7 → eN w h = 0 := fun h' hh => by unfold eN; rw [if_neg (n2 h' hh)]
  refine WFw_intro ⟨0, by omega, h.1 0 (by omega)⟩ ⟨0, by omega, h.1 1 (by omega)⟩ ?_ (fun k hk => ?_) (fun a b ha hb hab hne => ?_)
  · rw [h.1 2 (by omega)]
    unfold cE7
    rw [e0 0 (by omega), e0 1 (by omega), e0 2 (by omega), e0 3 (by omega), e0 4 (by omega), e0 5 (by omega), e0 6 (by omega)]
    rfl
  · obtain ⟨a1, a2, a3, a4, a5⟩ := h.2 k hk
    refine ⟨?_, ?_, ?_, ⟨0, by omega, a4⟩, ⟨0, by omega, a5, Or.inl (by omega)⟩, fun hk2 => ?_, Or.inr (Or.inr ⟨0, by omega, a4⟩)⟩
    · rw [a1]
      by_cases z : k < N
      · rw [if_pos z]; obtain ⟨d, d1, d2⟩ := hf k z; exact ⟨d, by omega, d2⟩
      · rw [if_neg z]; exact ⟨0, by omega, rfl⟩
    · rw [a2]
      split
      · exact Or.inl rfl
      · exact Or.inr (Or.inl rfl)
    · rw [a3]
      by_cases z : k < G
      · rw [if_pos z]; exact Or.inr ⟨k, z, rfl⟩
      · rw [if_neg z]; exact Or.inl rfl
    · exact ⟨by rw [a3, if_neg (by omega)], n2 k hk⟩
  · rw [(h.2 a ha).2.2.1] at hne ⊢
    rw [(h.2 b hb).2.2.1]
    by_cases za : a < G
    · rw [if_pos za]
      by_cases zb : b < G
      · rw [if_pos zb]; exact fun z => hab ((nI_eq (by omega) (by omega)).mp z)
      · rw [if_neg zb]; exact nI_ne1 (by omega)
    · rw [if_neg za] at hne; exact absurd rfl hne
section S87
variable {σ : Mem} {fs : List Fm} {M : List va_E} {Q : List va_E → Option Value → Prop}
/-- State i has begun, up to house k -/
def BgC (σ : Mem) (i N G k : Nat) (fd : F1) : Prop := ∀ h, h < k → σ 10 i h = (if h < N then fd h else 0) ∧ σ 11 i h = (if h < G then nI h else -1) ∧ σ 12 i h = 0 ∧ σ 13 i h = 0 ∧ σ 14 i h = 0
theorem lp_begin {i q N G : Nat} {fd : F1} (hi : i < 34) (hq : q < 2) (hN : N ≤ 7) (hG : G ≤ N) : ∀ (m k : Nat) (σ : Mem), k + m = 7 → σ 3 q 1 = nI N → σ 3 q 2 = nI G → (∀ h, h < N → σ 6 q h = fd h) → (∀ h, h < 7 → σ 14 i h = 0) → BgC σ i N G k fd →
    ∃ τ, (∀ fs Q, Rn mX5_begin 37 [.ref (ad 9 i), .ref (ad 3 q), .int (nI k)] [] fs (enc σ) Q ↔ Rt fs (enc τ) none Q) ∧ (∀ k j, ¬ (10 ≤ k ∧ k ≤ 13 ∧ j = i) → τ k j = σ k j) ∧ BgC τ i N G 7 fd := by
  intro m
  have c9 : i < cnt 9 := hi
  have c10 : i < cnt 10 := hi
  have c11 : i < cnt 11 := hi
  have c12 : i < cnt 12 := hi
  have c13 : i < cnt 13 := hi
  have c15 : i < cnt 15 := hi
  have k3 : q < cnt 3 := hq
  have k6 : q < cnt 6 := hq
  induction m with
  | zero =>
    intro k σ hk e1 e2 hf h14 hb
    obtain rfl : k = 7 := by omega
    refine ⟨σ, fun fs Q => ?_, fun _ _ _ => rfl, hb⟩
    have e7 : nI 7 = 7 := rfl
    simp only [aX5_begin_37, aX5_begin_38, aX5_begin_40, aX5_begin_106, Nat.zero_le, Nat.reduceLeDiff, Nat.reduceAdd, i1_0, rr_c3, zc9, oc9, zc10, oc10, zc11, oc11, zc12, oc12, zc13, oc13, zc15, oc15, Int32.lt_irrefl, Nat.zero_lt_one, Rt_cons, Rt_void, isB_0, isB_1, isB_b, true_and, and_true, cats_nil, cats_int, cats_ref, and_self, if_true, if_false, ite_self, le_nlt, ite_not, e7]
  | succ m ih =>
    intro k σ hk e1 e2 hf h14 hb
    have l7 : nI k < 7 := nI_lt (b := 7) (by omega) (by decide)
    have v7 := in7 (show k < 7 by omega)
    have cl := cl10 (show k < 10000 by omega)
    obtain ⟨x, hx⟩ : ∃ x, x = (if k < N then fd k else 0) := ⟨_, rfl⟩
    obtain ⟨y, hy⟩ : ∃ y, y = (if k < G then nI k else (-1 : Int32)) := ⟨_, rfl⟩
    have hb2 : BgC (upS (upS (upS (upS σ 10 i k x) 11 i k y) 12 i k 0) 13 i k 0) i N G (k + 1) fd := fun h hh => by
      simp only [upS_eq, upS_ne (show ¬ (10 = 14 ∧ i = i) by omega), upS_ne (show ¬ (10 = 13 ∧ i = i) by omega), upS_ne (show ¬ (10 = 12 ∧ i = i) by omega), upS_ne (show ¬ (10 = 11 ∧ i = i) by omega), upS_ne (show ¬ (11 = 14 ∧ i = i) by omega), upS_ne (show ¬ (11 = 13 ∧ i = i) by omega), upS_ne (show ¬ (11 = 12 ∧ i = i) by omega), upS_ne (show ¬ (11 = 10 ∧ i = i) by omega), upS_ne (show ¬ (12 = 14 ∧ i = i) by omega), upS_ne (show ¬ (12 = 13 ∧ i = i) by omega), upS_ne (show ¬ (12 = 11 ∧ i = i) by omega), upS_ne (show ¬ (12 = 10 ∧ i = i) by omega), upS_ne (show ¬ (13 = 14 ∧ i = i) by omega), upS_ne (show ¬ (13 = 12 ∧ i = i) by omega), upS_ne (show ¬ (13 = 11 ∧ i = i) by omega), upS_ne (show ¬ (13 = 10 ∧ i = i) by omega), upS_ne (show ¬ (14 = 13 ∧ i = i) by omega), upS_ne (show ¬ (14 = 12 ∧ i = i) by omega), upS_ne (show ¬ (14 = 11 ∧ i = i) by omega), upS_ne (show ¬ (14 = 10 ∧ i = i) by omega)]
      by_cases z : h = k
      · subst z
        rw [upd_eq, upd_eq, upd_eq, upd_eq]
        exact ⟨hx, hy, rfl, rfl, h14 h (by omega)⟩
      · rw [upd_ne z, upd_ne z, upd_ne z, upd_ne z]
        exact hb h (by omega)
    have fr : ∀ k' j, ¬ (10 ≤ k' ∧ k' ≤ 13 ∧ j = i) → upS (upS (upS (upS σ 10 i k x) 11 i k y) 12 i k 0) 13 i k 0 k' j = σ k' j := fun k' j h => by
      rw [upS_ne (by omega), upS_ne (by omega), upS_ne (by omega), upS_ne (by omega)]
    obtain ⟨τ, a1, a2, a3⟩ := ih (k + 1) _ (by omega) (by rw [fr _ _ (by omega)]; exact e1) (by rw [fr _ _ (by omega)]; exact e2) (fun h hh => by rw [fr _ _ (by omega)]; exact hf h hh) (fun h hh => by rw [fr _ _ (by omega)]; exact h14 h hh) hb2
    refine ⟨τ, fun fs Q => ?_, fun k' j h => by rw [a2 k' j h, fr k' j h], a3⟩
    have e2' : upS σ 10 i k x 3 q 2 = nI G := by rw [upS_ne (by omega)]; exact e2
    rw [← a1, aX5_begin_37]
    have st1 : ∀ fs Q, (Rn mX5_begin 38 [.ref (ad 9 i), .ref (ad 3 q), .int (nI k)] [.int (nI k)] fs (enc σ) Q ↔ Rn mX5_begin 67 [.ref (ad 9 i), .ref (ad 3 q), .int (nI k)] [] fs (enc (upS σ 10 i k x)) Q) := fun fs Q => by
      by_cases z : k < N
      · rw [if_pos z] at hx
        have lN : nI k < nI N := nI_lt z (by omega)
        simp only [aX5_begin_38, aX5_begin_40, aX5_begin_43, aX5_begin_44, aX5_begin_47, aX5_begin_48, aX5_begin_49, aX5_begin_50, aX5_begin_53, aX5_begin_56, aX5_begin_57, aX5_begin_60, aX5_begin_61, aX5_begin_62, aX5_begin_65, aX5_begin_66, Nat.zero_le, Nat.reduceLeDiff, Nat.reduceAdd, i1_0, rr_c3, zc9, oc9, zc10, oc10, zc11, oc11, zc12, oc12, zc13, oc13, zc15, oc15, Int32.lt_irrefl, Nat.zero_lt_one, Rt_cons, Rt_void, isB_0, isB_1, isB_b, true_and, and_true, cats_nil, cats_int, cats_ref, and_self, if_true, if_false, ite_self, le_nlt, ite_not, c9, c10, c11, c12, c13, c15, aT_10, aT_11, aT_12, aT_13, aT_15, aN_10, aN_11, aN_12, aN_13, aN_15, k3, k6, aT_6, aN_6, l7, v7, cl, e1, lN, hf k z, hx]
      · rw [if_neg z] at hx
        have lN : ¬ nI k < nI N := nI_nlt (by omega) (by omega)
        simp only [aX5_begin_38, aX5_begin_40, aX5_begin_43, aX5_begin_44, aX5_begin_47, aX5_begin_48, aX5_begin_49, aX5_begin_50, aX5_begin_53, aX5_begin_56, aX5_begin_57, aX5_begin_60, aX5_begin_61, aX5_begin_62, aX5_begin_65, aX5_begin_66, Nat.zero_le, Nat.reduceLeDiff, Nat.reduceAdd, i1_0, rr_c3, zc9, oc9, zc10, oc10, zc11, oc11, zc12, oc12, zc13, oc13, zc15, oc15, Int32.lt_irrefl, Nat.zero_lt_one, Rt_cons, Rt_void, isB_0, isB_1, isB_b, true_and, and_true, cats_nil, cats_int, cats_ref, and_self, if_true, if_false, ite_self, le_nlt, ite_not, c9, c10, c11, c12, c13, c15, aT_10, aT_11, aT_12, aT_13, aT_15, aN_10, aN_11, aN_12, aN_13, aN_15, k3, k6, aT_6, aN_6, l7, v7, cl, e1, lN, hx]
    rw [st1]
    by_cases z : k < G
    · rw [if_pos z] at hy
      have lG : nI k < nI G := nI_lt z (by omega)
      simp only [aX5_begin_67, aX5_begin_68, aX5_begin_71, aX5_begin_72, aX5_begin_73, aX5_begin_74, aX5_begin_77, aX5_begin_80, aX5_begin_81, aX5_begin_84, aX5_begin_85, aX5_begin_86, aX5_begin_87, aX5_begin_90, aX5_begin_91, aX5_begin_92, aX5_begin_93, aX5_begin_94, aX5_begin_97, aX5_begin_98, aX5_begin_99, aX5_begin_100, aX5_begin_103, Nat.zero_le, Nat.reduceLeDiff, Nat.reduceAdd, i1_0, rr_c3, zc9, oc9, zc10, oc10, zc11, oc11, zc12, oc12, zc13, oc13, zc15, oc15, Int32.lt_irrefl, Nat.zero_lt_one, Rt_cons, Rt_void, isB_0, isB_1, isB_b, true_and, and_true, cats_nil, cats_int, cats_ref, and_self, if_true, if_false, ite_self, le_nlt, ite_not, c9, c10, c11, c12, c13, c15, aT_10, aT_11, aT_12, aT_13, aT_15, aN_10, aN_11, aN_12, aN_13, aN_15, k3, v7, cl, e2', lG, hy, nI_1]
    · rw [if_neg z] at hy
      have lG : ¬ nI k < nI G := nI_nlt (by omega) (by omega)
      simp only [aX5_begin_67, aX5_begin_68, aX5_begin_71, aX5_begin_72, aX5_begin_73, aX5_begin_74, aX5_begin_77, aX5_begin_80, aX5_begin_81, aX5_begin_84, aX5_begin_85, aX5_begin_86, aX5_begin_87, aX5_begin_90, aX5_begin_91, aX5_begin_92, aX5_begin_93, aX5_begin_94, aX5_begin_97, aX5_begin_98, aX5_begin_99, aX5_begin_100, aX5_begin_103, Nat.zero_le, Nat.reduceLeDiff, Nat.reduceAdd, i1_0, rr_c3, zc9, oc9, zc10, oc10, zc11, oc11, zc12, oc12, zc13, oc13, zc15, oc15, Int32.lt_irrefl, Nat.zero_lt_one, Rt_cons, Rt_void, isB_0, isB_1, isB_b, true_and, and_true, cats_nil, cats_int, cats_ref, and_self, if_true, if_false, ite_self, le_nlt, ite_not, c9, c10, c11, c12, c13, c15, aT_10, aT_11, aT_12, aT_13, aT_15, aN_10, aN_11, aN_12, aN_13, aN_15, k3, v7, cl, e2', lG, hy, nI_1]
/-- now begins with Row q -/
theorem sp_begin {i q N G : Nat} {fd : F1} (hi : i < 34) (hq : q < 2) (hN : N ≤ 7) (hG : G ≤ N) (e1 : σ 3 q 1 = nI N) (e2 : σ 3 q 2 = nI G) (hf : ∀ h, h < N → σ 6 q h = fd h) :
    ∃ τ, (∀ fs Q, Rn mX5_begin 0 [.ref (ad 9 i), .ref (ad 3 q), .null] [] fs (enc σ) Q ↔ Rt fs (enc τ) none Q) ∧ (∀ k j, ¬ (9 ≤ k ∧ k ≤ 14 ∧ j = i) → τ k j = σ k j) ∧ BgC τ i N G 7 fd ∧ rr (τ 9 i 0) = q ∧ τ 9 i 1 = 0 ∧ τ 9 i 2 = 0 ∧ τ 9 i 3 = 0 ∧ τ 9 i 4 = 0 ∧ τ 9 i 5 = 0 := by
  have c9 : i < cnt 9 := hi
  have c10 : i < cnt 10 := hi
  have c11 : i < cnt 11 := hi
  have c12 : i < cnt 12 := hi
  have c13 : i < cnt 13 := hi
  have c15 : i < cnt 15 := hi
  obtain ⟨σ1, hσ1⟩ : ∃ σ1, σ1 = updK (upS (upS (upS (upS (upS (upS σ 9 i 0 (nI q)) 9 i 1 0) 9 i 2 0) 9 i 3 0) 9 i 4 0) 9 i 5 0) 14 i (fun _ => 0) := ⟨_, rfl⟩
  have fr : ∀ k j, ¬ (k = 9 ∧ j = i) → ¬ (k = 14 ∧ j = i) → σ1 k j = σ k j := fun k j h h' => by rw [hσ1, updK_ne h', upS_ne h, upS_ne h, upS_ne h, upS_ne h, upS_ne h, upS_ne h]
  have e9 : σ1 9 i = upd (upd (upd (upd (upd (upd (σ 9 i) 0 (nI q)) 1 0) 2 0) 3 0) 4 0) 5 0 := by rw [hσ1, updK_ne (by omega)]; simp only [upS_eq]
  obtain ⟨τ, a1, a2, a3⟩ := lp_begin (fd := fd) hi hq hN hG 7 0 σ1 (by omega) (by rw [fr _ _ (by omega) (by omega)]; exact e1) (by rw [fr _ _ (by omega) (by omega)]; exact e2) (fun h hh => by rw [fr _ _ (by omega) (by omega)]; exact hf h hh) (fun h hh => by rw [hσ1, updK_eq]) (fun h hh => absurd hh (Nat.not_lt_zero _))
  have t9 : τ 9 i = σ1 9 i := a2 9 i (by omega)
  refine ⟨τ, fun fs Q => ?_, fun k j h => by rw [a2 k j (by omega), fr k j (by omega) (by omega)], a3, ?_, ?_⟩
  · have a1' := a1 fs Q
    rw [nI_0, hσ1] at a1'
    rw [← a1']
    simp only [aX5_begin_0, aX5_begin_1, aX5_begin_2, aX5_begin_5, aX5_begin_6, aX5_begin_7, aX5_begin_10, aX5_begin_11, aX5_begin_12, aX5_begin_15, aX5_begin_16, aX5_begin_17, aX5_begin_20, aX5_begin_21, aX5_begin_22, aX5_begin_25, aX5_begin_26, aX5_begin_27, aX5_begin_30, aX5_begin_31, Nat.zero_le, Nat.reduceLeDiff, Nat.reduceAdd, i1_0, rr_c3, zc9, oc9, zc10, oc10, zc11, oc11, zc12, oc12, zc13, oc13, zc15, oc15, Int32.lt_irrefl, Nat.zero_lt_one, Rt_cons, Rt_void, isB_0, isB_1, isB_b, true_and, and_true, cats_nil, cats_int, cats_ref, and_self, if_true, if_false, ite_self, le_nlt, ite_not, c9, c10, c11, c12, c13, c15, aT_10, aT_11, aT_12, aT_13, aT_15, aN_10, aN_11, aN_12, aN_13, aN_15, hq]
    rw [aX5_begin_32 c9 emS_z.symm]
    simp only [aX5_begin_35, aX5_begin_36, Nat.zero_le, Nat.reduceLeDiff, Nat.reduceAdd, i1_0, rr_c3, zc9, oc9, zc10, oc10, zc11, oc11, zc12, oc12, zc13, oc13, zc15, oc15, Int32.lt_irrefl, Nat.zero_lt_one, Rt_cons, Rt_void, isB_0, isB_1, isB_b, true_and, and_true, cats_nil, cats_int, cats_ref, and_self, if_true, if_false, ite_self, le_nlt, ite_not]
  · rw [t9, e9]
    rcases (show q = 0 ∨ q = 1 by omega) with z | z <;> rw [z] <;> rfl
  · rw [t9, e9]
    exact ⟨rfl, rfl, rfl, rfl, rfl⟩
theorem CS_new {i N G : Nat} {fd w : F1} (hi : i < 34) (hN : N ≤ 7) (hG : G ≤ N) (b : BgC σ i N G 7 fd) (h1 : σ 9 i 1 = 0) (h2 : σ 9 i 2 = 0) (h3 : σ 9 i 3 = 0) (h4 : σ 9 i 4 = 0) (h5 : σ 9 i 5 = 0) (h : NWp N G fd w) : CS σ i w := by
  refine ⟨by rw [h1, h.1 0 (by omega)], by rw [h2, h.1 1 (by omega)], by rw [h3, h.1 2 (by omega)], by rw [h4, h.1 3 (by omega)], ⟨0, 0, by omega, by omega, h5, h.1 3 (by omega), fun j hj => absurd hj (Nat.not_lt_zero _)⟩, fun k hk => ?_⟩
  obtain ⟨a1, a2, a3, a4, a5⟩ := h.2 k hk
  obtain ⟨b1, b2, b3, b4, b5⟩ := b k hk
  refine ⟨by rw [a1, b1], by rw [a3, b2], by rw [a4, b3], by rw [a5, b4], Or.inl b5, ?_⟩
  rw [a2, b5, b2]
  unfold std
  rw [if_pos rfl]
  by_cases z : k < G
  · rw [if_pos z, if_pos z, if_neg (nI_ne1 (by omega))]
  · rw [if_neg z, if_neg z, if_pos rfl]
/-- the class reads the whole text into Row q -/
theorem sp_readInto {q c : Nat} {T : F1} (hl : LT c T) (hq : q < 2) (ht : ∀ j, j < c → σ 2 0 j = T j) (hc : σ 1 0 1 = nI c) :
    ∃ σ1, KC σ σ1 q c (0, -1, sk c T 0) ∧ DC σ1 q 0 0 0 T T T T T ∧ ∀ (τ : Mem) (l2 : Value), (∀ fs Q, Rn mX6_readInto 30 [.ref (ad 1 0), .ref (ad 3 q), .int (nI 0)] [] fs (enc σ1) Q ↔ Rn mX6_readInto 69 [.ref (ad 1 0), .ref (ad 3 q), l2] [] fs (enc τ) Q) → ∀ fs Q, Rn mX6_readInto 0 [.ref (ad 1 0), .ref (ad 3 q), .null] [] fs (enc σ) Q ↔ Rt fs (enc (upS τ 1 0 1 0)) (some (.int (τ 1 0 3))) Q := by
  have k3 : q < cnt 3 := hq
  obtain ⟨σ0, h0⟩ : ∃ σ0, σ0 = upS (upS (upS (upS (upS (upS (upS σ 3 q 0 0) 3 q 1 0) 3 q 2 0) 1 0 5 (nI q)) 1 0 4 0) 1 0 3 0) 1 0 2 (-1) := ⟨_, rfl⟩
  have fr : ∀ k i, ¬ k = 1 → ¬ (k = 3 ∧ i = q) → σ0 k i = σ k i := fun k i a b => by rw [h0, upS_ne (by omega), upS_ne (by omega), upS_ne (by omega), upS_ne (by omega), upS_ne b, upS_ne b, upS_ne b]
  have f3 : σ0 3 q = upd (upd (upd (σ 3 q) 0 0) 1 0) 2 0 := by rw [h0, upS_ne (by omega), upS_ne (by omega), upS_ne (by omega), upS_ne (by omega)]; simp only [upS_eq]
  have f1 : σ0 1 0 = upd (upd (upd (upd (σ 1 0) 5 (nI q)) 4 0) 3 0) 2 (-1) := by
    rw [h0]
    simp only [upS_eq, upS_ne (show ¬ (1 = 3 ∧ 0 = q) by omega)]
  have k0 : KC σ σ0 q c (0, -1, 0) := by
    refine ⟨fun k i a b => fr k i a (by omega), ?_⟩
    rw [f1]
    refine ⟨hc, rfl, rfl, rfl, ?_, Nat.zero_le _⟩
    show rr (nI q) = q
    rcases (show q = 0 ∨ q = 1 by omega) with z | z <;> rw [z] <;> rfl
  refine ⟨upS σ0 1 0 4 (nI (sk c T 0)), KC_at k0 (sk_le (Nat.zero_le _)), ?_, fun τ l2 h fs Q => ?_⟩
  · refine DC_at ⟨?_, fun j hj => absurd hj (Nat.not_lt_zero _), fun j hj => absurd hj (Nat.not_lt_zero _), fun j hj => absurd hj (Nat.not_lt_zero _)⟩
    rw [f3]
    exact ⟨rfl, rfl, rfl⟩
  · have S := fun fs Q => sp_cskip (fs := fs) (Q := Q) hl ht k0
    have S' : ∀ fs Q, Rn mX6_skipBlanks 0 [.ref (ad 1 0)] [] fs (enc σ0) Q ↔ Rt fs (enc (upS σ0 1 0 4 (nI (sk c T 0)))) none Q := S
    have h' := h fs Q
    rw [nI_0] at h'
    simp only [aX6_readInto_0, aX6_readInto_1, aX6_readInto_4, aX6_readInto_5, aX6_readInto_6, aX6_readInto_9, aX6_readInto_10, aX6_readInto_11, aX6_readInto_14, aX6_readInto_15, aX6_readInto_16, aX6_readInto_19, aX6_readInto_20, aX6_readInto_21, aX6_readInto_24, aX4_wipe_0, aX4_wipe_1, aX4_wipe_2, aX4_wipe_5, aX4_wipe_6, aX4_wipe_7, aX4_wipe_10, aX4_wipe_11, aX4_wipe_12, aX4_wipe_15, Nat.zero_le, Nat.reduceLeDiff, Nat.reduceAdd, i1_0, rr_c3, zc9, oc9, zc10, oc10, zc11, oc11, zc12, oc12, zc13, oc13, zc15, oc15, Int32.lt_irrefl, Nat.zero_lt_one, Rt_cons, Rt_void, isB_0, isB_1, isB_b, true_and, and_true, cats_nil, cats_int, cats_ref, and_self, if_true, if_false, ite_self, le_nlt, ite_not, k3, hq]
    rw [aX6_readInto_25, ← h0, S']
    simp only [aX6_readInto_28, aX6_readInto_29, Nat.zero_le, Nat.reduceLeDiff, Nat.reduceAdd, i1_0, rr_c3, zc9, oc9, zc10, oc10, zc11, oc11, zc12, oc12, zc13, oc13, zc15, oc15, Int32.lt_irrefl, Nat.zero_lt_one, Rt_cons, Rt_void, isB_0, isB_1, isB_b, true_and, and_true, cats_nil, cats_int, cats_ref, and_self, if_true, if_false, ite_self, le_nlt, ite_not]
    rw [h']
    simp only [aX6_readInto_69, aX6_readInto_70, aX6_readInto_71, aX6_readInto_74, aX6_readInto_75, aX6_readInto_78, Nat.zero_le, Nat.reduceLeDiff, Nat.reduceAdd, i1_0, rr_c3, zc9, oc9, zc10, oc10, zc11, oc11, zc12, oc12, zc13, oc13, zc15, oc15, Int32.lt_irrefl, Nat.zero_lt_one, Rt_cons, Rt_void, isB_0, isB_1, isB_b, true_and, and_true, cats_nil, cats_int, cats_ref, and_self, if_true, if_false, ite_self, le_nlt, ite_not, upS_eq, upd_ne (show ¬ 3 = 1 by decide)]
end S87
