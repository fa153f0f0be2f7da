-- more heads never put out more: pure
theorem turn_facts {B G N C : Nat} {ct ow kd pt w : Nat → Int32} (rn : RN ct ow kd pt C N G) (h : WH B G N w) {j : Nat} (hj : j < N) (hh : w (64 + 5 * j + 1) = 0) :
    ∃ o s d gd g pp : Nat, o ≤ 9 ∧ ow j = nI o ∧ s ≤ 9999 ∧ w 1 = nI s ∧ d ≤ 9999 ∧ w (64 + 5 * j) = nI d ∧ gd ≤ 6 ∧ w (64 + 5 * j + 3) = nI gd ∧ g < G ∧ w (64 + 5 * j + 2) = nI g ∧ pp ≤ 99 ∧ pt g = nI pp ∧
      turnW ow kd pt w j 1 = nI (tS o s d) ∧ turnW ow kd pt w j (64 + 5 * j) = nI (tD o (kd g) s d) ∧ turnW ow kd pt w j (64 + 5 * j + 3) = nI (if tD o (kd g) s d = 0 then gd + 1 else 0) ∧
      (turnW ow kd pt w j (64 + 5 * j + 1) = if (if tD o (kd g) s d = 0 then gd + 1 else 0) = 7 then 1 else if pp < tD o (kd g) s d ∧ ¬ kd g = 2 then 2 else 0) ∧
      (¬ (if tD o (kd g) s d = 0 then gd + 1 else 0) = 7 → turnW ow kd pt w j (64 + 5 * j + 2) = nI g) := by
  have hN := rn.2.1
  have hj7 : j < 7 := by omega
  obtain ⟨o, o1, o2, o3⟩ := rn.2.2.2.2.2.1 j hj
  obtain ⟨s, s1, s2⟩ := h.1.2.1
  obtain ⟨⟨d, d1, d2⟩, _, g0, _, _, _, gd0⟩ := h.1.2.2.2.1 j hj7
  have hg := h.2 j hj7 hh
  obtain ⟨g, g1, g2⟩ := g0.resolve_left hg
  have gd0' := (gd0.resolve_left hg).resolve_left (by rw [hh]; decide)
  obtain ⟨gd, gd1, gd2⟩ := gd0'
  obtain ⟨_, pp, p0, p1, p2⟩ := rn.2.2.2.2.2.2 g g1
  refine ⟨o, s, d, gd, g, pp, o2, o3, s1, s2, d1, d2, gd1, gd2, g1, g2, p1, p2, ?_⟩
  have hG : G ≤ N := rn.2.2.1
  have cg : (nI g).toNatClampNeg = g := nI_clamp (by omega)
  unfold turnW
  rw [if_pos hh, g2, cg]
  unfold pysF
  have x1 := pyB_s (kd := kd g) (j := j) o2 s1 d1 s2 d2
  have xd := pyB_d (kd := kd g) (j := j) o2 s1 d1 s2 d2
  rw [o3, p2]
  generalize hx : pyB (lck (nI o) w) (pyA (nI o) (kd g) w j) j = x at x1 xd ⊢
  have xs : x (64 + 5 * j + 1) = 0 := by rw [← hx, pyB_ne (by omega) (by omega) (by omega), pyA_ne (by omega) (by omega), hh]
  have xg : x (64 + 5 * j + 2) = nI g := by rw [← hx, pyB_ne (by omega) (by omega) (by omega), pyA_ne (by omega) (by omega), g2]
  have x3 : x (64 + 5 * j + 3) = nI gd := by rw [← hx, pyB_ne (by omega) (by omega) (by omega), pyA_ne (by omega) (by omega), gd2]
  have dl := tD_le (o := o) (s := s) (kd := kd g) d1
  generalize tD o (kd g) s d = e at xd dl ⊢
  have y1 : pyC x j 1 = nI (tS o s d) := by rw [pyC_ne (by omega), x1]
  have yd : pyC x j (64 + 5 * j) = nI e := by rw [pyC_ne (by omega), xd]
  have ys : pyC x j (64 + 5 * j + 1) = 0 := by rw [pyC_ne (by omega), xs]
  have yg : pyC x j (64 + 5 * j + 2) = nI g := by rw [pyC_ne (by omega), xg]
  have y3 : pyC x j (64 + 5 * j + 3) = nI (if e = 0 then gd + 1 else 0) := by
    unfold pyC
    rw [upd_eq, xd, x3]
    by_cases q : e = 0
    · rw [if_pos q, if_pos (by rw [q]; rfl), nI_1]
    · rw [if_neg q, if_neg (nI_ne0 (by omega) (by omega))]; rfl
  generalize hy : pyC x j = y at y1 yd ys yg y3 ⊢
  have gl : (if e = 0 then gd + 1 else 0) ≤ 7 := by split <;> omega
  generalize (if e = 0 then gd + 1 else 0) = g' at y3 gl ⊢
  have i7 : y (64 + 5 * j + 3) = 7 ↔ g' = 7 := by rw [y3]; exact nI_eq (b := 7) (by omega) (by decide)
  have ip : nI pp < y (64 + 5 * j) ↔ pp < e := by rw [yd]; exact nI_ltI (by omega) (by omega)
  unfold pyD
  by_cases q : g' = 7
  · rw [if_pos (i7.mpr q), if_pos q, upd_ne (by omega), upd_ne (by omega), upd_ne (by omega), upd_ne (by omega), upd_ne (by omega), upd_ne (by omega), upd_ne (by omega), upd_eq]
    exact ⟨y1, yd, y3, rfl, fun z => absurd q z⟩
  · rw [if_neg (fun z => q (i7.mp z)), if_neg q]
    by_cases q2 : pp < e ∧ ¬ kd g = 2
    · rw [if_pos ⟨ip.mpr q2.1, q2.2⟩, if_pos q2]
      unfold putW
      rw [upd_ne (by omega), upd_ne (by omega), upd_ne (by omega), upd_ne (by omega), upd_ne (by omega), upd_ne (by omega), upd_ne (by omega), upd_eq, upd_ne (by omega), upd_ne (by omega)]
      exact ⟨y1, yd, y3, rfl, fun _ => yg⟩
    · rw [if_neg (fun z => q2 ⟨ip.mp z.1, z.2⟩), if_neg q2]
      exact ⟨y1, yd, y3, ys, fun _ => yg⟩
/-- B is at least as well off as A, house h -/
def Dh (A B : Nat → Int32) (h : Nat) : Prop := (B (64 + 5 * h + 1) = A (64 + 5 * h + 1) ∧ (A (64 + 5 * h + 1) = 0 → B (64 + 5 * h + 2) = A (64 + 5 * h + 2) ∧ ¬ A (64 + 5 * h) < B (64 + 5 * h) ∧ ¬ B (64 + 5 * h + 3) < A (64 + 5 * h + 3))) ∨ (A (64 + 5 * h + 1) = 0 ∧ B (64 + 5 * h + 1) = 1)
def Dm (A B : Nat → Int32) : Prop := A 0 = B 0 ∧ ¬ B 1 < A 1 ∧ ∀ h, h < 7 → Dh A B h
theorem Dh_congr {A B A' B' : Nat → Int32} {h : Nat} (d : Dh A B h) (ea : ∀ t, t < 4 → A' (64 + 5 * h + t) = A (64 + 5 * h + t)) (eb : ∀ t, t < 4 → B' (64 + 5 * h + t) = B (64 + 5 * h + t)) : Dh A' B' h := by
  have a0 := ea 0 (by omega)
  have b0 := eb 0 (by omega)
  unfold Dh
  rw [ea 1 (by omega), ea 2 (by omega), ea 3 (by omega), eb 1 (by omega), eb 2 (by omega), eb 3 (by omega)]
  have a0' : A' (64 + 5 * h) = A (64 + 5 * h) := a0
  have b0' : B' (64 + 5 * h) = B (64 + 5 * h) := b0
  rw [a0', b0']
  exact d
theorem tS_mono {o s s' d d' : Nat} (hs : s ≤ s') (hd : d' ≤ d) : tS o s d ≤ tS o s' d' := by
  unfold tS
  repeat' split
  all_goals omega
theorem tS_less {o s d : Nat} : tS o s d ≤ s := by
  unfold tS
  repeat' split
  all_goals omega
theorem tD_mono {o s s' d d' : Nat} {kd : Int32} (hs : s ≤ s') (hd : d' ≤ d) (h9 : d ≤ 9999) : tD o kd s' d' ≤ tD o kd s d := by
  unfold tD
  by_cases k : kd = 1
  · rw [if_pos k, if_pos k]
    repeat' split
    all_goals omega
  · rw [if_neg k, if_neg k]
    repeat' split
    all_goals omega
theorem Dm_turn {B1 B2 G N C : Nat} {ct ow kd pt A B : Nat → Int32} (rn : RN ct ow kd pt C N G) (hA : WH B1 G N A) (hB : WH B2 G N B) (hD : Dm A B) {j : Nat} (hj : j < N) (hz : turnW ow kd pt A j (64 + 5 * j + 1) = 2 → A (64 + 5 * j + 1) = 2) : Dm (turnW ow kd pt A j) (turnW ow kd pt B j) := by
  have hN := rn.2.1
  have hj7 : j < 7 := by omega
  have n02 : ¬ (0 : Int32) = 2 := by decide
  have n10 : ¬ (1 : Int32) = 0 := by decide
  by_cases qa : A (64 + 5 * j + 1) = 0
  · have hz' : ¬ turnW ow kd pt A j (64 + 5 * j + 1) = 2 := fun z => n02 (qa.symm.trans (hz z))
    obtain ⟨o, s, d, gd, g, pp, a1, a2, a3, a4, a5, a6, a7, a8, a9, a10, a11, a12, t1, t2, t3, t4, t5⟩ := turn_facts rn hA hj qa
    have oth : ∀ h, h < 7 → ¬ h = j → Dh A B h → Dh (turnW ow kd pt A j) (turnW ow kd pt B j) h := fun h hh hne dd => Dh_congr dd (fun t ht => turnW_ne (by omega) (by omega) (by omega) (by omega)) (fun t ht => turnW_ne (by omega) (by omega) (by omega) (by omega))
    rcases hD.2.2 j hj7 with ⟨e1, e2⟩ | ⟨e1, e2⟩
    · obtain ⟨e3, e4, e5⟩ := e2 qa
      have qb : B (64 + 5 * j + 1) = 0 := e1.trans qa
      obtain ⟨o', s', d', gd', g', pp', b1, b2, b3, b4, b5, b6, b7, b8, b9, b10, b11, b12, u1, u2, u3, u4, u5⟩ := turn_facts rn hB hj qb
      have hG := rn.2.2.1
      obtain rfl : o' = o := (nI_eq (by omega) (by omega)).mp (b2.symm.trans a2)
      obtain rfl : g' = g := (nI_eq (by omega) (by omega)).mp (b10.symm.trans (e3.trans a10))
      obtain rfl : pp' = pp := (nI_eq (by omega) (by omega)).mp (b12.symm.trans a12)
      have hs : s ≤ s' := by
        have := hD.2.1
        rw [a4, b4, nI_ltI (by omega) (by omega)] at this
        omega
      have hd : d' ≤ d := by
        rw [a6, b6, nI_ltI (by omega) (by omega)] at e4
        omega
      have hg : gd ≤ gd' := by
        rw [a8, b8, nI_ltI (by omega) (by omega)] at e5
        omega
      have m1 := tS_mono (o := o') hs hd
      have m2 := tD_mono (o := o') (kd := kd g') hs hd a5
      have l1 := tS_le (o := o') (d := d) a3
      have l1' := tS_le (o := o') (d := d') b3
      have l2 := tD_le (o := o') (s := s) (kd := kd g') a5
      have l2' := tD_le (o := o') (s := s') (kd := kd g') b5
      generalize tS o' s d = S at *
      generalize tS o' s' d' = S' at *
      generalize tD o' (kd g') s d = E at *
      generalize tD o' (kd g') s' d' = E' at *
      refine ⟨by rw [turnW_0, turnW_0]; exact hD.1, ?_, fun h hh => ?_⟩
      · rw [t1, u1, nI_ltI (by omega) (by omega)]; omega
      · by_cases hne : h = j
        · subst hne
          rw [t4] at hz'
          by_cases k7 : (if E = 0 then gd + 1 else 0) = 7
          · have E0 : E = 0 := by
              by_cases z : E = 0
              · exact z
              · rw [if_neg z] at k7; omega
            rw [if_pos E0] at k7
            have E0' : E' = 0 := by omega
            have k7' : (if E' = 0 then gd' + 1 else 0) = 7 := by rw [if_pos E0']; omega
            refine Or.inl ⟨by rw [u4, if_pos k7', t4, if_pos (by rw [if_pos E0]; exact k7)], fun z => ?_⟩
            rw [t4, if_pos (by rw [if_pos E0]; exact k7)] at z
            exact absurd z n10
          · rw [if_neg k7] at hz'
            have np : ¬ (pp' < E ∧ ¬ kd g' = 2) := fun z => hz' (if_pos z)
            have ea : turnW ow kd pt A h (64 + 5 * h + 1) = 0 := by rw [t4, if_neg k7, if_neg np]
            by_cases k7' : (if E' = 0 then gd' + 1 else 0) = 7
            · exact Or.inr ⟨ea, by rw [u4, if_pos k7']⟩
            · have np' : ¬ (pp' < E' ∧ ¬ kd g' = 2) := fun z => np ⟨by omega, z.2⟩
              refine Or.inl ⟨by rw [ea, u4, if_neg k7', if_neg np'], fun _ => ⟨by rw [t5 k7, u5 k7'], ?_, ?_⟩⟩
              · rw [t2, u2, nI_ltI (by omega) (by omega)]; omega
              · rw [t3, u3, nI_ltI (by split <;> omega) (by split <;> omega)]
                by_cases z : E = 0
                · rw [if_pos z, if_pos (show E' = 0 by omega)]; omega
                · rw [if_neg z]; omega
        · exact oth h hh hne (hD.2.2 h hh)
    · have eb : turnW ow kd pt B j = B := by unfold turnW; rw [if_neg (fun z => n10 (e2.symm.trans z))]
      obtain ⟨s', s1', s2'⟩ := hB.1.2.1
      have hs : s ≤ s' := by
        have := hD.2.1
        rw [a4, s2', nI_ltI (by omega) (by omega)] at this
        omega
      have l1 := tS_less (o := o) (s := s) (d := d)
      refine ⟨by rw [turnW_0, turnW_0]; exact hD.1, ?_, fun h hh => ?_⟩
      · rw [t1, eb, s2', nI_ltI (by omega) (by omega)]; omega
      · by_cases hne : h = j
        · subst hne
          rw [eb]
          rw [t4] at hz'
          by_cases k7 : (if tD o (kd g) s d = 0 then gd + 1 else 0) = 7
          · refine Or.inl ⟨by rw [e2, t4, if_pos k7], fun z => ?_⟩
            rw [t4, if_pos k7] at z
            exact absurd z n10
          · rw [if_neg k7] at hz'
            have np : ¬ (pp < tD o (kd g) s d ∧ ¬ kd g = 2) := fun z => hz' (if_pos z)
            exact Or.inr ⟨by rw [t4, if_neg k7, if_neg np], e2⟩
        · exact oth h hh hne (hD.2.2 h hh)
  · have ea : turnW ow kd pt A j = A := by unfold turnW; rw [if_neg qa]
    have qb : ¬ B (64 + 5 * j + 1) = 0 := fun z => by
      rcases hD.2.2 j hj7 with ⟨e1, _⟩ | ⟨e1, _⟩
      · exact qa (e1.symm.trans z)
      · exact qa e1
    have eb : turnW ow kd pt B j = B := by unfold turnW; rw [if_neg qb]
    rw [ea, eb]
    exact hD
/-- nobody is put out -/
def NoO (A F : Nat → Int32) : Prop := ∀ h, h < 7 → F (64 + 5 * h + 1) = 2 → A (64 + 5 * h + 1) = 2
theorem Gr_2 {N h : Nat} {A F : Nat → Int32} (g : Gr N A F) (hh : h < 7) (e : A (64 + 5 * h + 1) = 2) : F (64 + 5 * h + 1) = 2 := by
  rcases g h hh with ⟨a, _⟩ | ⟨_, a, _⟩
  · rw [a]; exact e
  · rw [e] at a; exact absurd a (by decide)
theorem NoO_l {N : Nat} {A M F : Nat → Int32} (g : Gr N M F) (h : NoO A F) : NoO A M := fun k hk e => h k hk (Gr_2 g hk e)
theorem NoO_r {N : Nat} {A M F : Nat → Int32} (g : Gr N A M) (h : NoO A F) : NoO M F := fun k hk e => Gr_2 g hk (h k hk e)
theorem Dm_trs {B1 B2 G N C d : Nat} {ct ow kd pt : Nat → Int32} (rn : RN ct ow kd pt C N G) : ∀ {m k : Nat} {A B : Nat → Int32}, k + m ≤ N → WH B1 G N A → WH B2 G N B → Dm A B → NoO A (trs ow kd pt N d k m A) → Dm (trs ow kd pt N d k m A) (trs ow kd pt N d k m B) := by
  intro m
  induction m with
  | zero => intro k A B _ _ _ h _; exact h
  | succ m ih =>
    intro k A B hk hA hB hD hz
    have hm := Nat.mod_lt (d + k) (show 0 < N by omega)
    have g1 : Gr N A (turnW ow kd pt A ((d + k) % N)) := Gr_turn Gr_refl hm
    have g2 : Gr N (turnW ow kd pt A ((d + k) % N)) (trs ow kd pt N d (k + 1) m (turnW ow kd pt A ((d + k) % N))) := Gr_trs (by omega) Gr_refl
    have hz' : NoO A (trs ow kd pt N d (k + 1) m (turnW ow kd pt A ((d + k) % N))) := hz
    have hN := rn.2.1
    exact ih (by omega) (WH_turn rn hA hm) (WH_turn rn hB hm) (Dm_turn rn hA hB hD hm (fun e => NoO_l g2 hz' _ (by omega) e)) (NoO_r g1 hz')
theorem Dm_add {B1 B2 G N x y : Nat} {A B : Nat → Int32} (hA : WH B1 G N A) (hB : WH B2 G N B) (hD : Dm A B) (hx : x ≤ y) (hy : y ≤ 9999) : Dm (addF A (nI x)) (addF B (nI y)) := by
  obtain ⟨s, s1, s2⟩ := hA.1.2.1
  obtain ⟨t, t1, t2⟩ := hB.1.2.1
  have hst : s ≤ t := by
    have := hD.2.1
    rw [s2, t2, nI_ltI (by omega) (by omega)] at this
    omega
  refine ⟨?_, ?_, fun h hh => ?_⟩
  · unfold addF; rw [upd_ne (by omega), upd_ne (by omega)]; exact hD.1
  · rw [addF_val s1 (by omega) s2, addF_val t1 hy t2, nI_ltI (by omega) (by omega)]; omega
  · exact Dh_congr (hD.2.2 h hh) (fun t ht => by unfold addF; rw [upd_ne (by omega)]) (fun t ht => by unfold addF; rw [upd_ne (by omega)])
theorem Dm_inc {A B : Nat → Int32} (hD : Dm A B) : Dm (incF A) (incF B) := by
  refine ⟨?_, ?_, fun h hh => ?_⟩
  · unfold incF; rw [upd_eq, upd_eq, hD.1]
  · unfold incF; rw [upd_ne (by omega), upd_ne (by omega)]; exact hD.2.1
  · exact Dh_congr (hD.2.2 h hh) (fun t ht => by unfold incF; rw [upd_ne (by omega)]) (fun t ht => by unfold incF; rw [upd_ne (by omega)])
theorem Dm_pass {B1 B2 G N C : Nat} {ct ow kd pt A B : Nat → Int32} (rn : RN ct ow kd pt C N G) (hA : WH B1 G N A) (hB : WH B2 G N B) (hD : Dm A B) (hz : NoO A (passW ct ow kd pt C N A)) : Dm (passW ct ow kd pt C N A) (passW ct ow kd pt C N B) := by
  unfold passW passF at hz ⊢
  rw [← hD.1]
  generalize (A 0).toNatClampNeg = d at hz ⊢
  obtain ⟨x, x1, x2⟩ := ctF_val rn d
  rw [x2] at hz ⊢
  refine Dm_inc (Dm_trs rn (by omega) (WH_add hA (by omega)) (WH_add hB (by omega)) (Dm_add hA hB hD (Nat.le_refl _) (by omega)) ?_)
  intro h hh e
  have := hz h hh (by unfold incF; rw [upd_ne (by omega)]; exact e)
  unfold addF; rw [upd_ne (by omega)]; exact this
theorem Dm_it {G N C : Nat} {ct ow kd pt : Nat → Int32} (rn : RN ct ow kd pt C N G) : ∀ {n B1 B2 : Nat} {A B : Nat → Int32}, WH B1 G N A → WH B2 G N B → Dm A B → NoO A (itW (passW ct ow kd pt C N) n A) → Dm (itW (passW ct ow kd pt C N) n A) (itW (passW ct ow kd pt C N) n B) := by
  intro n
  induction n with
  | zero => intro B1 B2 A B _ _ h _; exact h
  | succ n ih =>
    intro B1 B2 A B hA hB hD hz
    have g1 : Gr N A (passW ct ow kd pt C N A) := Gr_pass Gr_refl
    have g2 : Gr N (passW ct ow kd pt C N A) (itW (passW ct ow kd pt C N) n (passW ct ow kd pt C N A)) := Gr_it Gr_refl
    have hz' : NoO A (itW (passW ct ow kd pt C N) n (passW ct ow kd pt C N A)) := hz
    exact ih (WH_W rn hA) (WH_W rn hB) (Dm_pass rn hA hB hD (NoO_l g2 hz')) (NoO_r g1 hz')
/-- a loan that does -/
def lok (F : (Nat → Int32) → (Nat → Int32)) (now : Nat → Int32) (n v : Nat) : Prop := cE7 now = cE7 (itW F n (addF now (nI v)))
theorem Gr_add {N v : Nat} {now : Nat → Int32} : Gr N now (addF now (nI v)) := fun h hh => Or.inl ⟨by unfold addF; rw [upd_ne (by omega)], by unfold addF; rw [upd_ne (by omega)]⟩
theorem lok_mono {B G N C n a b : Nat} {ct ow kd pt now : Nat → Int32} (rn : RN ct ow kd pt C N G) (hw : WH B G N now) (hab : a ≤ b) (hb : b ≤ 9999) (h : lok (passW ct ow kd pt C N) now n a) : lok (passW ct ow kd pt C N) now n b := by
  have hN := rn.2.1
  have gA : Gr N now (itW (passW ct ow kd pt C N) n (addF now (nI a))) := Gr_it Gr_add
  have gB : Gr N now (itW (passW ct ow kd pt C N) n (addF now (nI b))) := Gr_it Gr_add
  have iA := (cE_iff hN gA).2.mp h
  have nA : NoO now (itW (passW ct ow kd pt C N) n (addF now (nI a))) := fun k hk e => by
    rcases gA k hk with ⟨z, _⟩ | ⟨kN, z, _⟩
    · rw [← z]; exact e
    · have := iA k kN
      unfold Eo at this
      rw [decide_eq_true_iff] at this
      exact absurd ⟨e, by rw [z]; decide⟩ this
  have nA' : NoO (addF now (nI a)) (itW (passW ct ow kd pt C N) n (addF now (nI a))) := fun k hk e => by
    unfold addF; rw [upd_ne (by omega)]; exact nA k hk e
  have D0 : Dm now now := ⟨rfl, Int32.lt_irrefl, fun k hk => Or.inl ⟨rfl, fun _ => ⟨rfl, Int32.lt_irrefl, Int32.lt_irrefl⟩⟩⟩
  have D := Dm_it rn (WH_add hw (by omega)) (WH_add hw hb) (Dm_add hw hw D0 hab hb) nA'
  refine (cE_iff hN gB).2.mpr (fun t ht e => ?_)
  unfold Eo at e
  rw [decide_eq_true_iff] at e
  rcases D.2.2 t (by omega) with ⟨z, _⟩ | ⟨_, z⟩
  · exact e.2 (nA t (by omega) (z.symm.trans e.1))
  · exact absurd (z.symm.trans e.1) (by decide)
