-- one row an instruction, for runs
theorem cats_nil : cats [] = 0 := rfl
theorem cats_int (x : Int32) (r : List Value) : cats (.int x :: r) = 1 + cats r := by simp [cats, Value.category]
theorem cats_ref (x : Nat) (r : List Value) : cats (.ref x :: r) = 1 + cats r := by simp [cats, Value.category]
def isB (v : Int32) : Prop := narrow .boolean (.int v) = .int v
theorem isB_0 : isB 0 := rfl
theorem isB_1 : isB 1 := rfl
theorem nar_b0 : vp_nar .boolean 0 = 0 := rfl
theorem nar_b1 : vp_nar .boolean 1 = 1 := rfl
section RL
variable {mi pc : Nat} {cc : ByteArray} {L st : List Value} {fs : List Fm} {M : List va_E} {Q : List va_E → Option Value → Prop} {σ : Mem}
theorem R_iconst (hb : mb mi = cc) {n : Int} {v : Int32} (hv : Int32.ofInt n = v) (hd : decode cc pc = .ok (.iconst n, 1)) : Rn mi pc L (st) fs M Q ↔ Rn mi (pc + 1) L (.int v :: st) fs M Q := R_P (by rw [hb]; exact hd) (by subst hv; rfl)
theorem R_bipush (hb : mb mi = cc) {n : Int} {v : Int32} (hv : (Int8.ofInt n).toInt32 = v) (hd : decode cc pc = .ok (.bipush n, 2)) : Rn mi pc L (st) fs M Q ↔ Rn mi (pc + 2) L (.int v :: st) fs M Q := R_P (by rw [hb]; exact hd) (by subst hv; rfl)
theorem R_sipush (hb : mb mi = cc) {n : Int} {v : Int32} (hv : (Int16.ofInt n).toInt32 = v) (hd : decode cc pc = .ok (.sipush n, 3)) : Rn mi pc L (st) fs M Q ↔ Rn mi (pc + 3) L (.int v :: st) fs M Q := R_P (by rw [hb]; exact hd) (by subst hv; rfl)
theorem R_ldc (hb : mb mi = cc) {own x : Nat} {v : Int32} (ho : mo mi = own) (hk : ktab.lookup (own, x) = some v) (hd : decode cc pc = .ok (.ldc x, 2)) : Rn mi pc L (st) fs M Q ↔ Rn mi (pc + 2) L (.int v :: st) fs M Q := R_P (by rw [hb]; exact hd) (by subst ho; simp [stepP, pushV, hk])
theorem R_ldcw (hb : mb mi = cc) {own x : Nat} {v : Int32} (ho : mo mi = own) (hk : ktab.lookup (own, x) = some v) (hd : decode cc pc = .ok (.ldc_w x, 3)) : Rn mi pc L (st) fs M Q ↔ Rn mi (pc + 3) L (.int v :: st) fs M Q := R_P (by rw [hb]; exact hd) (by subst ho; simp [stepP, pushV, hk])
theorem R_ldc2 (hb : mb mi = cc) {own x : Nat} {v : Int64} (ho : mo mi = own) (hk : ktabL.lookup (own, x) = some v) (hd : decode cc pc = .ok (.ldc2_w x, 3)) : Rn mi pc L (st) fs M Q ↔ Rn mi (pc + 3) L (.long v :: st) fs M Q := R_P (by rw [hb]; exact hd) (by subst ho; simp [stepP, pushV, hk])
theorem R_iload (hb : mb mi = cc) {k : Nat} {x : Int32} (hL : L[k]? = some (.int x)) (hd : decode cc pc = .ok (.iload k, 2)) : Rn mi pc L (st) fs M Q ↔ Rn mi (pc + 2) L (.int x :: st) fs M Q := R_P (by rw [hb]; exact hd) (by simp [stepP, pushV, hL, isI])
theorem R_aload (hb : mb mi = cc) {k : Nat} {x : Nat} (hL : L[k]? = some (.ref x)) (hd : decode cc pc = .ok (.aload k, 2)) : Rn mi pc L (st) fs M Q ↔ Rn mi (pc + 2) L (.ref x :: st) fs M Q := R_P (by rw [hb]; exact hd) (by simp [stepP, pushV, hL, isA])
theorem R_iload_n (hb : mb mi = cc) {k : Fin 4} {x : Int32} (hL : L[k.val]? = some (.int x)) (hd : decode cc pc = .ok (.iload_n k, 1)) : Rn mi pc L (st) fs M Q ↔ Rn mi (pc + 1) L (.int x :: st) fs M Q := R_P (by rw [hb]; exact hd) (by simp only [stepP, pushV, hL, isI]; rfl)
theorem R_aload_n (hb : mb mi = cc) {k : Fin 4} {x : Nat} (hL : L[k.val]? = some (.ref x)) (hd : decode cc pc = .ok (.aload_n k, 1)) : Rn mi pc L (st) fs M Q ↔ Rn mi (pc + 1) L (.ref x :: st) fs M Q := R_P (by rw [hb]; exact hd) (by simp only [stepP, pushV, hL, isA]; rfl)
theorem R_lload_n (hb : mb mi = cc) {k : Fin 4} {x : Int64} (hL : L[k.val]? = some (.long x)) (hd : decode cc pc = .ok (.lload_n k, 1)) : Rn mi pc L (st) fs M Q ↔ Rn mi (pc + 1) L (.long x :: st) fs M Q := R_P (by rw [hb]; exact hd) (by simp only [stepP, pushV, hL, isL]; rfl)
theorem R_iadd (hb : mb mi = cc) {x y : Int32} (hd : decode cc pc = .ok (.iadd, 1)) : Rn mi pc L (.int y :: .int x :: st) fs M Q ↔ Rn mi (pc + 1) L (.int (x + y) :: st) fs M Q := R_P (by rw [hb]; exact hd) (rfl)
theorem R_isub (hb : mb mi = cc) {x y : Int32} (hd : decode cc pc = .ok (.isub, 1)) : Rn mi pc L (.int y :: .int x :: st) fs M Q ↔ Rn mi (pc + 1) L (.int (x - y) :: st) fs M Q := R_P (by rw [hb]; exact hd) (rfl)
theorem R_imul (hb : mb mi = cc) {x y : Int32} (hd : decode cc pc = .ok (.imul, 1)) : Rn mi pc L (.int y :: .int x :: st) fs M Q ↔ Rn mi (pc + 1) L (.int (x * y) :: st) fs M Q := R_P (by rw [hb]; exact hd) (rfl)
theorem R_iand (hb : mb mi = cc) {x y : Int32} (hd : decode cc pc = .ok (.iand, 1)) : Rn mi pc L (.int y :: .int x :: st) fs M Q ↔ Rn mi (pc + 1) L (.int (x &&& y) :: st) fs M Q := R_P (by rw [hb]; exact hd) (rfl)
theorem R_ior (hb : mb mi = cc) {x y : Int32} (hd : decode cc pc = .ok (.ior, 1)) : Rn mi pc L (.int y :: .int x :: st) fs M Q ↔ Rn mi (pc + 1) L (.int (x ||| y) :: st) fs M Q := R_P (by rw [hb]; exact hd) (rfl)
theorem R_ixor (hb : mb mi = cc) {x y : Int32} (hd : decode cc pc = .ok (.ixor, 1)) : Rn mi pc L (.int y :: .int x :: st) fs M Q ↔ Rn mi (pc + 1) L (.int (x ^^^ y) :: st) fs M Q := R_P (by rw [hb]; exact hd) (rfl)
theorem R_ishl (hb : mb mi = cc) {x y : Int32} (hd : decode cc pc = .ok (.ishl, 1)) : Rn mi pc L (.int y :: .int x :: st) fs M Q ↔ Rn mi (pc + 1) L (.int (x <<< (y &&& 31)) :: st) fs M Q := R_P (by rw [hb]; exact hd) (rfl)
theorem R_ishr (hb : mb mi = cc) {x y : Int32} (hd : decode cc pc = .ok (.ishr, 1)) : Rn mi pc L (.int y :: .int x :: st) fs M Q ↔ Rn mi (pc + 1) L (.int (x >>> (y &&& 31)) :: st) fs M Q := R_P (by rw [hb]; exact hd) (rfl)
theorem R_iushr (hb : mb mi = cc) {x y : Int32} (hd : decode cc pc = .ok (.iushr, 1)) : Rn mi pc L (.int y :: .int x :: st) fs M Q ↔ Rn mi (pc + 1) L (.int ((x.toUInt32 >>> (y.toUInt32 &&& Int32.toUInt32 31)).toInt32) :: st) fs M Q := R_P (by rw [hb]; exact hd) (rfl)
theorem R_ladd (hb : mb mi = cc) {x y : Int64} (hd : decode cc pc = .ok (.ladd, 1)) : Rn mi pc L (.long y :: .long x :: st) fs M Q ↔ Rn mi (pc + 1) L (.long (x + y) :: st) fs M Q := R_P (by rw [hb]; exact hd) (rfl)
theorem R_lmul (hb : mb mi = cc) {x y : Int64} (hd : decode cc pc = .ok (.lmul, 1)) : Rn mi pc L (.long y :: .long x :: st) fs M Q ↔ Rn mi (pc + 1) L (.long (x * y) :: st) fs M Q := R_P (by rw [hb]; exact hd) (rfl)
theorem R_land (hb : mb mi = cc) {x y : Int64} (hd : decode cc pc = .ok (.land, 1)) : Rn mi pc L (.long y :: .long x :: st) fs M Q ↔ Rn mi (pc + 1) L (.long (x &&& y) :: st) fs M Q := R_P (by rw [hb]; exact hd) (rfl)
theorem R_idiv (hb : mb mi = cc) {x y : Int32} (hd : decode cc pc = .ok (.idiv, 1)) : Rn mi pc L (.int y :: .int x :: st) fs M Q ↔ ¬ y = 0 ∧ Rn mi (pc + 1) L (.int (x / y) :: st) fs M Q := by
  by_cases hy : y = 0
  · rw [R_no (by rw [hb]; exact hd) (by simp [stepP, pushV, arith, ii, hy, stor, bran]) rfl rfl rfl rfl]
    simp [hy]
  · rw [R_P (pc' := pc + 1) (L' := L) (st' := .int (x / y) :: st) (by rw [hb]; exact hd) (by simp only [stepP, pushV, arith, ii, hy, if_false, Option.map_some, if_true])]
    simp [hy]
theorem R_irem (hb : mb mi = cc) {x y : Int32} (hd : decode cc pc = .ok (.irem, 1)) : Rn mi pc L (.int y :: .int x :: st) fs M Q ↔ ¬ y = 0 ∧ Rn mi (pc + 1) L (.int (x - x / y * y) :: st) fs M Q := by
  by_cases hy : y = 0
  · rw [R_no (by rw [hb]; exact hd) (by simp [stepP, pushV, arith, ii, hy, stor, bran]) rfl rfl rfl rfl]
    simp [hy]
  · rw [R_P (pc' := pc + 1) (L' := L) (st' := .int (x - x / y * y) :: st) (by rw [hb]; exact hd) (by simp only [stepP, pushV, arith, ii, hy, if_false, Option.map_some, if_true])]
    simp [hy]
theorem R_ldiv (hb : mb mi = cc) {x y : Int64} (hd : decode cc pc = .ok (.ldiv, 1)) : Rn mi pc L (.long y :: .long x :: st) fs M Q ↔ ¬ y = 0 ∧ Rn mi (pc + 1) L (.long (x / y) :: st) fs M Q := by
  by_cases hy : y = 0
  · rw [R_no (by rw [hb]; exact hd) (by simp [stepP, pushV, arith, jj, hy, stor, bran]) rfl rfl rfl rfl]
    simp [hy]
  · rw [R_P (pc' := pc + 1) (L' := L) (st' := .long (x / y) :: st) (by rw [hb]; exact hd) (by simp only [stepP, pushV, arith, jj, hy, if_false, Option.map_some, if_true])]
    simp [hy]
theorem R_lrem (hb : mb mi = cc) {x y : Int64} (hd : decode cc pc = .ok (.lrem, 1)) : Rn mi pc L (.long y :: .long x :: st) fs M Q ↔ ¬ y = 0 ∧ Rn mi (pc + 1) L (.long (x - x / y * y) :: st) fs M Q := by
  by_cases hy : y = 0
  · rw [R_no (by rw [hb]; exact hd) (by simp [stepP, pushV, arith, jj, hy, stor, bran]) rfl rfl rfl rfl]
    simp [hy]
  · rw [R_P (pc' := pc + 1) (L' := L) (st' := .long (x - x / y * y) :: st) (by rw [hb]; exact hd) (by simp only [stepP, pushV, arith, jj, hy, if_false, Option.map_some, if_true])]
    simp [hy]
theorem R_i2l (hb : mb mi = cc) {x : Int32} (hd : decode cc pc = .ok (.i2l, 1)) : Rn mi pc L (.int x :: st) fs M Q ↔ Rn mi (pc + 1) L (.long x.toInt64 :: st) fs M Q := R_P (by rw [hb]; exact hd) (rfl)
theorem R_l2i (hb : mb mi = cc) {x : Int64} (hd : decode cc pc = .ok (.l2i, 1)) : Rn mi pc L (.long x :: st) fs M Q ↔ Rn mi (pc + 1) L (.int x.toInt32 :: st) fs M Q := R_P (by rw [hb]; exact hd) (rfl)
theorem R_i2c (hb : mb mi = cc) {x : Int32} (hd : decode cc pc = .ok (.i2c, 1)) : Rn mi pc L (.int x :: st) fs M Q ↔ Rn mi (pc + 1) L (.int (x.toUInt32 % 65536).toInt32 :: st) fs M Q := R_P (by rw [hb]; exact hd) (rfl)
theorem R_dup_i (hb : mb mi = cc) {x : Int32} (hd : decode cc pc = .ok (.dup, 1)) : Rn mi pc L (.int x :: st) fs M Q ↔ Rn mi (pc + 1) L (.int x :: .int x :: st) fs M Q := R_P (by rw [hb]; exact hd) (rfl)
theorem R_dup_a (hb : mb mi = cc) {x : Nat} (hd : decode cc pc = .ok (.dup, 1)) : Rn mi pc L (.ref x :: st) fs M Q ↔ Rn mi (pc + 1) L (.ref x :: .ref x :: st) fs M Q := R_P (by rw [hb]; exact hd) (rfl)
theorem R_dup2_ia (hb : mb mi = cc) {x : Int32} {a : Nat} (hd : decode cc pc = .ok (.dup2, 1)) : Rn mi pc L (.int x :: .ref a :: st) fs M Q ↔ Rn mi (pc + 1) L (.int x :: .ref a :: .int x :: .ref a :: st) fs M Q := R_P (by rw [hb]; exact hd) (rfl)
theorem R_istore (hb : mb mi = cc) {n q : Nat} {k : Nat} {x : Int32} {L' : List Value} (hm : mL mi = n) (hl : ll mi = q) (hk : k < n) (hq : k ≠ q + 1) (hL : L.set k (.int x) = L') (hd : decode cc pc = .ok (.istore k, 2)) : Rn mi pc L (.int x :: st) fs M Q ↔ Rn mi (pc + 2) L' st fs M Q := R_P (by rw [hb]; exact hd) (by
  subst hm; subst hl; subst hL
  simp only [stepP, pushV, arith, stor, st1, hk, hq, ne_eq, not_false_eq_true, and_self, if_true, Option.map_some])
theorem R_istore_n (hb : mb mi = cc) {n q : Nat} {k : Fin 4} {x : Int32} {L' : List Value} (hm : mL mi = n) (hl : ll mi = q) (hk : k.val < n) (hq : k.val ≠ q + 1) (hL : L.set k.val (.int x) = L') (hd : decode cc pc = .ok (.istore_n k, 1)) : Rn mi pc L (.int x :: st) fs M Q ↔ Rn mi (pc + 1) L' st fs M Q := R_P (by rw [hb]; exact hd) (by
  subst hm; subst hl; subst hL
  simp only [stepP, pushV, arith, stor, st1, hk, hq, ne_eq, not_false_eq_true, and_self, if_true, Option.map_some])
theorem R_astore_n (hb : mb mi = cc) {n q : Nat} {k : Fin 4} {x : Nat} {L' : List Value} (hm : mL mi = n) (hl : ll mi = q) (hk : k.val < n) (hq : k.val ≠ q + 1) (hL : L.set k.val (.ref x) = L') (hd : decode cc pc = .ok (.astore_n k, 1)) : Rn mi pc L (.ref x :: st) fs M Q ↔ Rn mi (pc + 1) L' st fs M Q := R_P (by rw [hb]; exact hd) (by
  subst hm; subst hl; subst hL
  simp only [stepP, pushV, arith, stor, st1, hk, hq, ne_eq, not_false_eq_true, and_self, if_true, Option.map_some])
theorem R_iinc (hb : mb mi = cc) {n q k : Nat} {d : Int} {x v : Int32} {L' : List Value} (hm : mL mi = n) (hl : ll mi = q) (hk : k < n) (hq : k ≠ q + 1) (hx : L[k]? = some (.int x)) (hv : Int32.ofInt d = v) (hL : L.set k (.int (x + v)) = L') (hd : decode cc pc = .ok (.iinc k d, 3)) : Rn mi pc L st fs M Q ↔ Rn mi (pc + 3) L' st fs M Q := R_P (by rw [hb]; exact hd) (by
  subst hm; subst hl; subst hL; subst hv
  simp only [stepP, pushV, arith, stor, st1, hx, hk, hq, ne_eq, not_false_eq_true, and_self, if_true, Option.map_some])
theorem R_lstore_n (hb : mb mi = cc) {n q : Nat} {k : Fin 4} {x : Int64} {L' : List Value} (hm : mL mi = n) (hl : ll mi = q) (hk : k.val + 1 < n) (hq : k.val = q) (hL : (L.set k.val (.long x)).set (k.val + 1) .null = L') (hd : decode cc pc = .ok (.lstore_n k, 1)) : Rn mi pc L (.long x :: st) fs M Q ↔ Rn mi (pc + 1) L' st fs M Q := R_P (by rw [hb]; exact hd) (by
  subst hm; subst hl; subst hL
  have h2 : ¬ k.val = ll mi + 1 := by omega
  simp only [stepP, pushV, arith, stor]
  rw [if_pos ⟨hk, hq, h2⟩]
  rfl)
theorem R_goto (hb : mb mi = cc) {off : Int} {t : Nat} (ht : jmp pc off = some t) (hd : decode cc pc = .ok (.goto off, 3)) : Rn mi pc L st fs M Q ↔ Rn mi t L st fs M Q := R_P (by rw [hb]; exact hd) (by simp only [stepP, pushV, arith, stor, bran, ht, if_true, Option.map_some])
theorem R_ifeq (hb : mb mi = cc) {off : Int} {t : Nat} {x : Int32} (ht : jmp pc off = some t) (hd : decode cc pc = .ok (.ifCond .eq off, 3)) : Rn mi pc L (.int x :: st) fs M Q ↔ if x = 0 then Rn mi t L st fs M Q else Rn mi (pc + 3) L st fs M Q := R_bra (by rw [hb]; exact hd) (by simp only [stepP, pushV, arith, stor, bran, bra, ht, if_true, Option.map_some])
theorem R_ifne (hb : mb mi = cc) {off : Int} {t : Nat} {x : Int32} (ht : jmp pc off = some t) (hd : decode cc pc = .ok (.ifCond .ne off, 3)) : Rn mi pc L (.int x :: st) fs M Q ↔ if ¬ x = 0 then Rn mi t L st fs M Q else Rn mi (pc + 3) L st fs M Q := R_bra (by rw [hb]; exact hd) (by simp only [stepP, pushV, arith, stor, bran, bra, ht, if_true, Option.map_some])
theorem R_iflt (hb : mb mi = cc) {off : Int} {t : Nat} {x : Int32} (ht : jmp pc off = some t) (hd : decode cc pc = .ok (.ifCond .lt off, 3)) : Rn mi pc L (.int x :: st) fs M Q ↔ if x < 0 then Rn mi t L st fs M Q else Rn mi (pc + 3) L st fs M Q := R_bra (by rw [hb]; exact hd) (by simp only [stepP, pushV, arith, stor, bran, bra, ht, if_true, Option.map_some])
theorem R_ifge (hb : mb mi = cc) {off : Int} {t : Nat} {x : Int32} (ht : jmp pc off = some t) (hd : decode cc pc = .ok (.ifCond .ge off, 3)) : Rn mi pc L (.int x :: st) fs M Q ↔ if 0 ≤ x then Rn mi t L st fs M Q else Rn mi (pc + 3) L st fs M Q := R_bra (by rw [hb]; exact hd) (by simp only [stepP, pushV, arith, stor, bran, bra, ht, if_true, Option.map_some])
theorem R_ifgt (hb : mb mi = cc) {off : Int} {t : Nat} {x : Int32} (ht : jmp pc off = some t) (hd : decode cc pc = .ok (.ifCond .gt off, 3)) : Rn mi pc L (.int x :: st) fs M Q ↔ if 0 < x then Rn mi t L st fs M Q else Rn mi (pc + 3) L st fs M Q := R_bra (by rw [hb]; exact hd) (by simp only [stepP, pushV, arith, stor, bran, bra, ht, if_true, Option.map_some])
theorem R_ifle (hb : mb mi = cc) {off : Int} {t : Nat} {x : Int32} (ht : jmp pc off = some t) (hd : decode cc pc = .ok (.ifCond .le off, 3)) : Rn mi pc L (.int x :: st) fs M Q ↔ if x ≤ 0 then Rn mi t L st fs M Q else Rn mi (pc + 3) L st fs M Q := R_bra (by rw [hb]; exact hd) (by simp only [stepP, pushV, arith, stor, bran, bra, ht, if_true, Option.map_some])
theorem R_iceq (hb : mb mi = cc) {off : Int} {t : Nat} {x y : Int32} (ht : jmp pc off = some t) (hd : decode cc pc = .ok (.if_icmp .eq off, 3)) : Rn mi pc L (.int y :: .int x :: st) fs M Q ↔ if x = y then Rn mi t L st fs M Q else Rn mi (pc + 3) L st fs M Q := R_bra (by rw [hb]; exact hd) (by simp only [stepP, pushV, arith, stor, bran, bra, ht, if_true, Option.map_some])
theorem R_icne (hb : mb mi = cc) {off : Int} {t : Nat} {x y : Int32} (ht : jmp pc off = some t) (hd : decode cc pc = .ok (.if_icmp .ne off, 3)) : Rn mi pc L (.int y :: .int x :: st) fs M Q ↔ if ¬ x = y then Rn mi t L st fs M Q else Rn mi (pc + 3) L st fs M Q := R_bra (by rw [hb]; exact hd) (by simp only [stepP, pushV, arith, stor, bran, bra, ht, if_true, Option.map_some])
theorem R_iclt (hb : mb mi = cc) {off : Int} {t : Nat} {x y : Int32} (ht : jmp pc off = some t) (hd : decode cc pc = .ok (.if_icmp .lt off, 3)) : Rn mi pc L (.int y :: .int x :: st) fs M Q ↔ if x < y then Rn mi t L st fs M Q else Rn mi (pc + 3) L st fs M Q := R_bra (by rw [hb]; exact hd) (by simp only [stepP, pushV, arith, stor, bran, bra, ht, if_true, Option.map_some])
theorem R_icge (hb : mb mi = cc) {off : Int} {t : Nat} {x y : Int32} (ht : jmp pc off = some t) (hd : decode cc pc = .ok (.if_icmp .ge off, 3)) : Rn mi pc L (.int y :: .int x :: st) fs M Q ↔ if y ≤ x then Rn mi t L st fs M Q else Rn mi (pc + 3) L st fs M Q := R_bra (by rw [hb]; exact hd) (by simp only [stepP, pushV, arith, stor, bran, bra, ht, if_true, Option.map_some])
theorem R_icgt (hb : mb mi = cc) {off : Int} {t : Nat} {x y : Int32} (ht : jmp pc off = some t) (hd : decode cc pc = .ok (.if_icmp .gt off, 3)) : Rn mi pc L (.int y :: .int x :: st) fs M Q ↔ if y < x then Rn mi t L st fs M Q else Rn mi (pc + 3) L st fs M Q := R_bra (by rw [hb]; exact hd) (by simp only [stepP, pushV, arith, stor, bran, bra, ht, if_true, Option.map_some])
theorem R_icle (hb : mb mi = cc) {off : Int} {t : Nat} {x y : Int32} (ht : jmp pc off = some t) (hd : decode cc pc = .ok (.if_icmp .le off, 3)) : Rn mi pc L (.int y :: .int x :: st) fs M Q ↔ if x ≤ y then Rn mi t L st fs M Q else Rn mi (pc + 3) L st fs M Q := R_bra (by rw [hb]; exact hd) (by simp only [stepP, pushV, arith, stor, bran, bra, ht, if_true, Option.map_some])
theorem R_tabIn (hb : mb mi = cc) {dflt lo hi off : Int} {offs : Array Int} {len t : Nat} {x : Int32} (h1 : ¬ x.toInt < lo) (h2 : ¬ hi < x.toInt) (ho : offs[(x.toInt - lo).toNat]? = some off) (ht : jmp pc off = some t) (hd : decode cc pc = .ok (.tableswitch dflt lo hi offs, len)) : Rn mi pc L (.int x :: st) fs M Q ↔ Rn mi t L st fs M Q := R_P (by rw [hb]; exact hd) (by
  simp only [stepP, pushV, arith, stor, bran]
  rw [if_neg (fun z => z.elim h1 h2), ho]
  simp only [ht, Option.map_some])
theorem R_tabOut (hb : mb mi = cc) {dflt lo hi : Int} {offs : Array Int} {len t : Nat} {x : Int32} (h : x.toInt < lo ∨ hi < x.toInt) (ht : jmp pc dflt = some t) (hd : decode cc pc = .ok (.tableswitch dflt lo hi offs, len)) : Rn mi pc L (.int x :: st) fs M Q ↔ Rn mi t L st fs M Q := R_P (by rw [hb]; exact hd) (by
  simp only [stepP, pushV, arith, stor, bran]
  rw [if_pos h]
  simp only [ht, Option.map_some])
theorem R_get (hb : mb mi = cc) {own x ci k a : Nat} {v : Value} (ho : mo mi = own) (hf : ftab.lookup (own, x) = some (ci, k)) (hv : gF M a ci k = some v) (hd : decode cc pc = .ok (.getfield x, 3)) : Rn mi pc L (.ref a :: st) fs M Q ↔ Rn mi (pc + 3) L (v :: st) fs M Q := R_M (by rw [hb]; exact hd) rfl (by subst ho; simp only [stepM, hf, hv, Option.map_some])
theorem R_put (hb : mb mi = cc) {own x ci k a : Nat} {v : Value} {M' : List va_E} (ho : mo mi = own) (hf : ftab.lookup (own, x) = some (ci, k)) (hv : pF mi M a ci k v = some M') (hd : decode cc pc = .ok (.putfield x, 3)) : Rn mi pc L (v :: .ref a :: st) fs M Q ↔ Rn mi (pc + 3) L st fs M' Q := R_M (by rw [hb]; exact hd) (by cases v <;> rfl) (by subst ho; simp only [stepM, hf, hv, Option.map_some])
theorem arr_cell : ∀ k, k < 52 → aT k < 3 → ∀ (i : Nat) (f : Nat → Int32), cellF k i f = .inl (aT k, aN k, .inl f)
  | 0, _, h, _, _ => absurd h (by decide)
  | 1, _, h, _, _ => absurd h (by decide)
  | 2, _, _, _, _ => rfl
  | 3, _, h, _, _ => absurd h (by decide)
  | 4, _, _, _, _ => rfl
  | 5, _, _, _, _ => rfl
  | 6, _, _, _, _ => rfl
  | 7, _, _, _, _ => rfl
  | 8, _, _, _, _ => rfl
  | 9, _, h, _, _ => absurd h (by decide)
  | 10, _, _, _, _ => rfl
  | 11, _, _, _, _ => rfl
  | 12, _, _, _, _ => rfl
  | 13, _, _, _, _ => rfl
  | 14, _, _, _, _ => rfl
  | 15, _, _, _, _ => rfl
  | 16, _, h, _, _ => absurd h (by decide)
  | 17, _, h, _, _ => absurd h (by decide)
  | 18, _, h, _, _ => absurd h (by decide)
  | 19, _, h, _, _ => absurd h (by decide)
  | 20, _, h, _, _ => absurd h (by decide)
  | 21, _, _, _, _ => rfl
  | 22, _, _, _, _ => rfl
  | 23, _, _, _, _ => rfl
  | 24, _, _, _, _ => rfl
  | 25, _, _, _, _ => rfl
  | 26, _, h, _, _ => absurd h (by decide)
  | 27, _, _, _, _ => rfl
  | 28, _, _, _, _ => rfl
  | 29, _, h, _, _ => absurd h (by decide)
  | 30, _, _, _, _ => rfl
  | 31, _, _, _, _ => rfl
  | 32, _, _, _, _ => rfl
  | 33, _, _, _, _ => rfl
  | 34, _, _, _, _ => rfl
  | 35, _, _, _, _ => rfl
  | 36, _, _, _, _ => rfl
  | 37, _, _, _, _ => rfl
  | 38, _, _, _, _ => rfl
  | 39, _, _, _, _ => rfl
  | 40, _, _, _, _ => rfl
  | 41, _, _, _, _ => rfl
  | 42, _, _, _, _ => rfl
  | 43, _, _, _, _ => rfl
  | 44, _, _, _, _ => rfl
  | 45, _, _, _, _ => rfl
  | 46, _, _, _, _ => rfl
  | 47, _, _, _, _ => rfl
  | 48, _, _, _, _ => rfl
  | 49, _, _, _, _ => rfl
  | 50, _, _, _, _ => rfl
  | 51, _, _, _, _ => rfl
  | k + 52, h, _, _, _ => absurd h (by omega)
theorem aT_n9 {k : Nat} (h : aT k < 3) : ¬ k = 9 := fun z => by subst z; exact absurd h (by decide)
theorem enc_arr {k i : Nat} (ht : aT k < 3) (hi : i < cnt k) (σ : Mem) : (enc σ)[ad k i]? = some (.inl (aT k, aN k, .inl (σ k i))) := by rw [enc_at hi (aT_n9 ht), arr_cell k (cnt_lt hi) ht]
theorem enc_arrS {k i : Nat} (ht : aT k < 3) (hi : i < cnt k) (σ : Mem) (f : Nat → Int32) : (enc σ).set (ad k i) (.inl (aT k, aN k, .inl f)) = enc (updK σ k i f) := by rw [← arr_cell k (cnt_lt hi) ht i f, enc_set hi (aT_n9 ht)]
theorem R_iaload (hb : mb mi = cc) {k i : Nat} {j : Int32} (ht : aT k = 0) (hi : i < cnt k) (hd : decode cc pc = .ok (.iaload, 1)) : Rn mi pc L (.int j :: .ref (ad k i) :: st) fs (enc σ) Q ↔ vp_in j (aN k) ∧ Rn mi (pc + 1) L (.int (σ k i j.toNatClampNeg) :: st) fs (enc σ) Q := by
  have he := enc_arr (k := k) (by rw [ht]; decide) hi σ
  rw [ht] at he
  by_cases hj : vp_in j (aN k)
  · rw [R_M (by rw [hb]; exact hd) rfl (show stepM mi .iaload _ _ = some (1, _, _) by simp only [stepM, gA, he]; rw [if_pos ⟨trivial, hj⟩]; rfl)]
    simp [hj]
  · rw [R_no (by rw [hb]; exact hd) rfl (show stepM mi .iaload _ _ = none by simp only [stepM, gA, he]; rw [if_neg (fun z => hj z.2)]; rfl) rfl rfl rfl]
    simp [hj]
theorem R_baload (hb : mb mi = cc) {k i : Nat} {j : Int32} (ht : aT k = 1) (hi : i < cnt k) (hd : decode cc pc = .ok (.baload, 1)) : Rn mi pc L (.int j :: .ref (ad k i) :: st) fs (enc σ) Q ↔ vp_in j (aN k) ∧ Rn mi (pc + 1) L (.int (σ k i j.toNatClampNeg) :: st) fs (enc σ) Q := by
  have he := enc_arr (k := k) (by rw [ht]; decide) hi σ
  rw [ht] at he
  by_cases hj : vp_in j (aN k)
  · rw [R_M (by rw [hb]; exact hd) rfl (show stepM mi .baload _ _ = some (1, _, _) by simp only [stepM, gA, he]; rw [if_pos ⟨trivial, hj⟩]; rfl)]
    simp [hj]
  · rw [R_no (by rw [hb]; exact hd) rfl (show stepM mi .baload _ _ = none by simp only [stepM, gA, he]; rw [if_neg (fun z => hj z.2)]; rfl) rfl rfl rfl]
    simp [hj]
theorem R_caload (hb : mb mi = cc) {k i : Nat} {j : Int32} (ht : aT k = 2) (hi : i < cnt k) (hd : decode cc pc = .ok (.caload, 1)) : Rn mi pc L (.int j :: .ref (ad k i) :: st) fs (enc σ) Q ↔ vp_in j (aN k) ∧ Rn mi (pc + 1) L (.int (σ k i j.toNatClampNeg) :: st) fs (enc σ) Q := by
  have he := enc_arr (k := k) (by rw [ht]; decide) hi σ
  rw [ht] at he
  by_cases hj : vp_in j (aN k)
  · rw [R_M (by rw [hb]; exact hd) rfl (show stepM mi .caload _ _ = some (1, _, _) by simp only [stepM, gA, he]; rw [if_pos ⟨trivial, hj⟩]; rfl)]
    simp [hj]
  · rw [R_no (by rw [hb]; exact hd) rfl (show stepM mi .caload _ _ = none by simp only [stepM, gA, he]; rw [if_neg (fun z => hj z.2)]; rfl) rfl rfl rfl]
    simp [hj]
theorem R_iastore (hb : mb mi = cc) {k i : Nat} {j x : Int32} (ht : aT k = 0) (hi : i < cnt k) (hd : decode cc pc = .ok (.iastore, 1)) : Rn mi pc L (.int x :: .int j :: .ref (ad k i) :: st) fs (enc σ) Q ↔ vp_in j (aN k) ∧ Rn mi (pc + 1) L st fs (enc (upS σ k i j.toNatClampNeg x)) Q := by
  have he := enc_arr (k := k) (by rw [ht]; decide) hi σ
  have hs := enc_arrS (k := k) (by rw [ht]; decide) hi σ (upd (σ k i) j.toNatClampNeg x)
  rw [ht] at he hs
  by_cases hj : vp_in j (aN k)
  · rw [R_M (by rw [hb]; exact hd) rfl (show stepM mi .iastore _ _ = some (1, _, enc (upS σ k i j.toNatClampNeg x)) by simp only [stepM, pA, he]; rw [if_pos ⟨trivial, hj⟩, hs]; rfl)]
    simp [hj]
  · rw [R_no (by rw [hb]; exact hd) rfl (show stepM mi .iastore _ _ = none by simp only [stepM, pA, he]; rw [if_neg (fun z => hj z.2)]; rfl) rfl rfl rfl]
    simp [hj]
theorem R_bastore (hb : mb mi = cc) {k i : Nat} {j x : Int32} (ht : aT k = 1) (hi : i < cnt k) (hd : decode cc pc = .ok (.bastore, 1)) : Rn mi pc L (.int x :: .int j :: .ref (ad k i) :: st) fs (enc σ) Q ↔ vp_in j (aN k) ∧ Rn mi (pc + 1) L st fs (enc (upS σ k i j.toNatClampNeg (vp_nar .boolean x))) Q := by
  have he := enc_arr (k := k) (by rw [ht]; decide) hi σ
  have hs := enc_arrS (k := k) (by rw [ht]; decide) hi σ (upd (σ k i) j.toNatClampNeg (vp_nar .boolean x))
  rw [ht] at he hs
  by_cases hj : vp_in j (aN k)
  · rw [R_M (by rw [hb]; exact hd) rfl (show stepM mi .bastore _ _ = some (1, _, enc (upS σ k i j.toNatClampNeg (vp_nar .boolean x))) by simp only [stepM, pA, he]; rw [if_pos ⟨trivial, hj⟩, hs]; rfl)]
    simp [hj]
  · rw [R_no (by rw [hb]; exact hd) rfl (show stepM mi .bastore _ _ = none by simp only [stepM, pA, he]; rw [if_neg (fun z => hj z.2)]; rfl) rfl rfl rfl]
    simp [hj]
theorem R_castore (hb : mb mi = cc) {k i : Nat} {j x : Int32} (ht : aT k = 2) (hi : i < cnt k) (hd : decode cc pc = .ok (.castore, 1)) : Rn mi pc L (.int x :: .int j :: .ref (ad k i) :: st) fs (enc σ) Q ↔ vp_in j (aN k) ∧ Rn mi (pc + 1) L st fs (enc (upS σ k i j.toNatClampNeg (vp_nar .char x))) Q := by
  have he := enc_arr (k := k) (by rw [ht]; decide) hi σ
  have hs := enc_arrS (k := k) (by rw [ht]; decide) hi σ (upd (σ k i) j.toNatClampNeg (vp_nar .char x))
  rw [ht] at he hs
  by_cases hj : vp_in j (aN k)
  · rw [R_M (by rw [hb]; exact hd) rfl (show stepM mi .castore _ _ = some (1, _, enc (upS σ k i j.toNatClampNeg (vp_nar .char x))) by simp only [stepM, pA, he]; rw [if_pos ⟨trivial, hj⟩, hs]; rfl)]
    simp [hj]
  · rw [R_no (by rw [hb]; exact hd) rfl (show stepM mi .castore _ _ = none by simp only [stepM, pA, he]; rw [if_neg (fun z => hj z.2)]; rfl) rfl rfl rfl]
    simp [hj]
theorem R_aaSt (hb : mb mi = cc) {j : Int32} (hd : decode cc pc = .ok (.aaload, 1)) : Rn mi pc L (.int j :: .ref (ad 17 0) :: st) fs (enc σ) Q ↔ vp_in j 30 ∧ Rn mi (pc + 1) L (.ref (ad 9 (2 + j.toNatClampNeg)) :: st) fs (enc σ) Q := by
  have he := enc_at (k := 17) (i := 0) (by decide) (by decide) σ
  by_cases hj : vp_in j 30
  · rw [R_M (by rw [hb]; exact hd) rfl (show stepM mi .aaload _ _ = some (1, .ref (ad 9 (2 + j.toNatClampNeg)) :: st, enc σ) by simp only [stepM, gR, he, cellF]; rw [if_pos ⟨by decide, hj⟩]; rfl)]
    simp [hj]
  · rw [R_no (by rw [hb]; exact hd) rfl (show stepM mi .aaload _ _ = none by simp only [stepM, gR, he, cellF]; rw [if_neg (fun z => hj z.2)]; rfl) rfl rfl rfl]
    simp [hj]
theorem R_aaIm (hb : mb mi = cc) {j : Int32} (hd : decode cc pc = .ok (.aaload, 1)) : Rn mi pc L (.int j :: .ref (ad 18 0) :: st) fs (enc σ) Q ↔ vp_in j 2 ∧ Rn mi (pc + 1) L (.ref (ad 19 j.toNatClampNeg) :: st) fs (enc σ) Q := by
  have he := enc_at (k := 18) (i := 0) (by decide) (by decide) σ
  by_cases hj : vp_in j 2
  · rw [R_M (by rw [hb]; exact hd) rfl (show stepM mi .aaload _ _ = some (1, .ref (ad 19 j.toNatClampNeg) :: st, enc σ) by simp only [stepM, gR, he, cellF]; rw [if_pos ⟨by decide, hj⟩]; rfl)]
    simp [hj]
  · rw [R_no (by rw [hb]; exact hd) rfl (show stepM mi .aaload _ _ = none by simp only [stepM, gR, he, cellF]; rw [if_neg (fun z => hj z.2)]; rfl) rfl rfl rfl]
    simp [hj]
theorem R_alen (hb : mb mi = cc) {k i : Nat} (ht : aT k < 3) (hi : i < cnt k) (hd : decode cc pc = .ok (.arraylength, 1)) : Rn mi pc L (.ref (ad k i) :: st) fs (enc σ) Q ↔ Rn mi (pc + 1) L (.int (Int32.ofNat (aN k)) :: st) fs (enc σ) Q := R_M (by rw [hb]; exact hd) rfl (by
  simp only [stepM, lenA, enc_arr ht hi]
  rw [if_pos (show aT k < 5 by omega)]
  rfl)
theorem R_cpy (hb : mb mi = cc) {own x y k0 i0 k1 i1 : Nat} {sp dp n : Int32} (ho : mo mi = own) (hc : ctab.lookup (own, x) = some (6, y)) (hrm : 1 ≤ rf mi ∧ cats st + 18 ≤ rl mi) (ht : aT k0 = aT k1) (h3 : aT k1 < 3) (hi0 : i0 < cnt k0) (hi1 : i1 < cnt k1) (hn : (¬ sp < 0 ∧ ¬ dp < 0 ∧ ¬ n < 0) ∧ sp.toNatClampNeg + n.toNatClampNeg ≤ aN k0 ∧ dp.toNatClampNeg + n.toNatClampNeg ≤ aN k1) (hf : ∀ i, i < n.toNatClampNeg → fits (tyN.getD (aT k1) .int) (.int (σ k0 i0 (sp.toNatClampNeg + i))) = true) (hd : decode cc pc = .ok (.invokestatic x, 3)) :
    Rn mi pc L (.int n :: .int dp :: .ref (ad k1 i1) :: .int sp :: .ref (ad k0 i0) :: st) fs (enc σ) Q ↔ Rn mi (pc + 3) L st fs (enc (updK σ k1 i1 (va_cpy (σ k0 i0) (σ k1 i1) sp.toNatClampNeg dp.toNatClampNeg n.toNatClampNeg))) Q := R_M (by rw [hb]; exact hd) rfl (by
  subst ho
  simp only [stepM, hc, cpA, enc_arr (k := k0) (by rw [ht]; exact h3) hi0, enc_arr h3 hi1]
  rw [if_pos hrm, if_pos ⟨ht, h3, hn.1, hn.2.1, hn.2.2, hf⟩, enc_arrS h3 hi1]
  rfl)
theorem R_min (hb : mb mi = cc) {own w y q : Nat} {x z : Int32} (ho : mo mi = own) (hc : ctab.lookup (own, w) = some (7, y)) (hf : 1 ≤ rf mi) (hq : rl mi = q) (hd : decode cc pc = .ok (.invokestatic w, 3)) : Rn mi pc L (.int z :: .int x :: st) fs M Q ↔ cats st + 13 ≤ q ∧ Rn mi (pc + 3) L (.int (if z < x then z else x) :: st) fs M Q := by
  subst ho; subst hq
  by_cases h8 : cats st + 13 ≤ rl mi
  · rw [R_M (by rw [hb]; exact hd) rfl (show stepM mi (.invokestatic w) _ M = some (3, .int (if z < x then z else x) :: st, M) by
      simp only [stepM, hc]
      rw [if_pos ⟨hf, h8⟩])]
    simp [h8]
  · rw [R_no (by rw [hb]; exact hd) rfl (show stepM mi (.invokestatic w) _ M = none by
      simp only [stepM, hc]
      rw [if_neg (fun u => h8 u.2)]) rfl (by
      simp only [stepC, hc]
      rw [if_neg (by omega)]) rfl]
    simp [h8]
theorem R_max (hb : mb mi = cc) {own w y q : Nat} {x z : Int32} (ho : mo mi = own) (hc : ctab.lookup (own, w) = some (8, y)) (hf : 1 ≤ rf mi) (hq : rl mi = q) (hd : decode cc pc = .ok (.invokestatic w, 3)) : Rn mi pc L (.int z :: .int x :: st) fs M Q ↔ cats st + 13 ≤ q ∧ Rn mi (pc + 3) L (.int (if x < z then z else x) :: st) fs M Q := by
  subst ho; subst hq
  by_cases h8 : cats st + 13 ≤ rl mi
  · rw [R_M (by rw [hb]; exact hd) rfl (show stepM mi (.invokestatic w) _ M = some (3, .int (if x < z then z else x) :: st, M) by
      simp only [stepM, hc]
      rw [if_pos ⟨hf, h8⟩])]
    simp [h8]
  · rw [R_no (by rw [hb]; exact hd) rfl (show stepM mi (.invokestatic w) _ M = none by
      simp only [stepM, hc]
      rw [if_neg (fun u => h8 u.2)]) rfl (by
      simp only [stepC, hc]
      rw [if_neg (by omega)]) rfl]
    simp [h8]
theorem okC_of {y : Nat} {r as : List Value} (hrm : decide (rf y + 1 ≤ rf mi ∧ 19 + mL y + rl y ≤ rl mi) = true) (ha : as.all (fun v => v.category == 1) = true) (hl : decide (as.length ≤ mL y) = true) : okC mi y r as = decide (cats r ≤ 8) := by
  have h1 := of_decide_eq_true hrm
  have h2 := of_decide_eq_true hl
  unfold okC
  rw [ha, decide_eq_true h1.1, decide_eq_true h1.2, decide_eq_true h2]
  simp
theorem R_V (hb : mb mi = cc) {own x y a : Nat} {As r LL st0 : List Value} (ho : mo mi = own) (hc : ctab.lookup (own, x) = some (0, y)) (hn : mn y = As.length) (hst : st0 = As.reverse ++ .ref a :: r) (hrm : decide (rf y + 1 ≤ rf mi ∧ 19 + mL y + rl y ≤ rl mi) = true) (ha : (.ref a :: As).all (fun v => v.category == 1) = true) (hl : decide ((Value.ref a :: As).length ≤ mL y) = true) (hL : entL (.ref a :: As) (mL y) = LL) (hO : isO M a (mo y) = true) (hd : decode cc pc = .ok (.invokevirtual x, 3)) : Rn mi pc L st0 fs M Q ↔ cats r ≤ 8 ∧ Rn y 0 LL [] ((mi, pc + 3, L, r) :: fs) M Q := by
  subst ho; subst hL; subst hst
  have e1 : (As.reverse ++ .ref a :: r).drop (mn y) = .ref a :: r := by rw [hn, List.drop_append_of_le_length (by simp), List.drop_of_length_le (by simp)]; rfl
  have e2 : ((As.reverse ++ .ref a :: r).take (mn y)).reverse = As := by rw [hn, List.take_append_of_le_length (by simp), List.take_of_length_le (by simp), List.reverse_reverse]
  have hk := okC_of (r := r) hrm ha hl
  by_cases h8 : cats r ≤ 8
  · rw [R_C (by rw [hb]; exact hd) rfl rfl rfl (show stepC mi (.invokevirtual x) _ M = some (y, .ref a :: As, r) by
      simp only [stepC, hc, e1, e2]
      rw [if_pos ⟨hO, by rw [hk]; exact decide_eq_true h8⟩])]
    simp [h8]
  · rw [R_no (by rw [hb]; exact hd) rfl rfl rfl (show stepC mi (.invokevirtual x) _ M = none by
      simp only [stepC, hc, e1, e2]
      rw [if_neg (fun z => h8 (of_decide_eq_true (by rw [← hk]; exact z.2)))]) rfl]
    simp [h8]
theorem R_S (hb : mb mi = cc) {own x y kd : Nat} {As r LL st0 : List Value} (ho : mo mi = own) (hc : ctab.lookup (own, x) = some (kd, y)) (hkd : kd = 2 ∨ kd = 4) (hn : mn y = As.length) (hst : st0 = As.reverse ++ r) (hrm : decide (rf y + 1 ≤ rf mi ∧ 19 + mL y + rl y ≤ rl mi) = true) (ha : As.all (fun v => v.category == 1) = true) (hl : decide (As.length ≤ mL y) = true) (hL : entL As (mL y) = LL) (hd : decode cc pc = .ok (.invokestatic x, 3)) : Rn mi pc L st0 fs M Q ↔ cats r ≤ 8 ∧ Rn y 0 LL [] ((mi, pc + 3, L, r) :: fs) M Q := by
  subst ho; subst hL; subst hst
  have e1 : (As.reverse ++ r).drop (mn y) = r := by rw [hn, List.drop_append_of_le_length (by simp), List.drop_of_length_le (by simp)]; rfl
  have e2 : ((As.reverse ++ r).take (mn y)).reverse = As := by rw [hn, List.take_append_of_le_length (by simp), List.take_of_length_le (by simp), List.reverse_reverse]
  have e3 : mn y ≤ (As.reverse ++ r).length := by rw [hn]; simp
  have hk := okC_of (r := r) hrm ha hl
  have hM : stepM mi (.invokestatic x) (As.reverse ++ r) M = none := by
    unfold stepM
    rcases hkd with rfl | rfl <;> simp only [hc]
  by_cases h8 : cats r ≤ 8
  · rw [R_C (by rw [hb]; exact hd) rfl hM rfl (show stepC mi (.invokestatic x) _ M = some (y, As, r) by
      simp only [stepC, hc, e1, e2]
      rw [if_pos ⟨hkd, e3⟩, if_pos (by rw [hk]; exact decide_eq_true h8)])]
    simp [h8]
  · rw [R_no (by rw [hb]; exact hd) rfl hM rfl (show stepC mi (.invokestatic x) _ M = none by
      simp only [stepC, hc, e1, e2]
      rw [if_pos ⟨hkd, e3⟩, if_neg (fun z => h8 (of_decide_eq_true (by rw [← hk]; exact z)))]) rfl]
    simp [h8]
theorem R_reti (hb : mb mi = cc) {v : Int32} (hr : mr mi = some .int) (hd : decode cc pc = .ok (.ireturn, 1)) : Rn mi pc L [.int v] fs M Q ↔ Rt fs M (some (.int v)) Q := R_R (by rw [hb]; exact hd) rfl rfl rfl rfl (by simp only [stepR, hr])
theorem R_retz (hb : mb mi = cc) {v : Int32} (hr : mr mi = some .boolean) (hd : decode cc pc = .ok (.ireturn, 1)) : Rn mi pc L [.int v] fs M Q ↔ isB v ∧ Rt fs M (some (.int v)) Q := by
  by_cases hv : isB v
  · rw [R_R (by rw [hb]; exact hd) rfl rfl rfl rfl (show stepR mi .ireturn _ = some (some (.int v)) by simp only [stepR, hr]; rw [if_pos (show narrow .boolean (.int v) = .int v from hv)])]
    simp [hv]
  · rw [R_no (by rw [hb]; exact hd) rfl rfl rfl rfl (show stepR mi .ireturn _ = none by simp only [stepR, hr]; rw [if_neg (show ¬ narrow .boolean (.int v) = .int v from hv)])]
    simp [hv]
theorem R_ret (hb : mb mi = cc) (hr : mr mi = none) (hd : decode cc pc = .ok (.return_, 1)) : Rn mi pc L [] fs M Q ↔ Rt fs M none Q := R_R (by rw [hb]; exact hd) rfl rfl rfl rfl (by simp only [stepR, hr, if_true])
end RL
theorem isO_0 {i : Nat} (hi : i < cnt 0) (σ : Mem) : isO (enc σ) (ad 0 i) 7 = true := by unfold isO; rw [enc_at hi (by decide)]; rfl
theorem gf_7_0 {i : Nat} (hi : i < cnt 0) (σ : Mem) : gF (enc σ) (ad 0 i) 7 0 = some (.ref (ad 1 0)) := by unfold gF; rw [enc_at hi (by decide)]; rfl
theorem gf_7_1 {i : Nat} (hi : i < cnt 0) (σ : Mem) : gF (enc σ) (ad 0 i) 7 1 = some (.ref (ad 3 (rr (σ 0 i 1)))) := by unfold gF; rw [enc_at hi (by decide)]; rfl
theorem pf_7_1 {i mi q : Nat} (hi : i < cnt 0) (hq : q < 2) (σ : Mem) : pF mi (enc σ) (ad 0 i) 7 1 (.ref (ad 3 q)) = some (enc (upS σ 0 i 1 (nI q))) := by
  unfold pF; rw [enc_at hi (by decide)]
  show (if _ then _ else _) = _
  rw [if_pos ⟨rfl, by simp, ⟨rfl, rfl⟩, Or.inl rfl⟩]
  have := congrArg some (enc_set hi (by decide) σ (upd (σ 0 i) 1 (nI q)))
  rcases (show q = 0 ∨ q = 1 by omega) with rfl | rfl <;> exact this
theorem gf_7_2 {i : Nat} (hi : i < cnt 0) (σ : Mem) : gF (enc σ) (ad 0 i) 7 2 = some (.ref (ad 9 0)) := by unfold gF; rw [enc_at hi (by decide)]; rfl
theorem gf_7_3 {i : Nat} (hi : i < cnt 0) (σ : Mem) : gF (enc σ) (ad 0 i) 7 3 = some (.ref (ad 9 1)) := by unfold gF; rw [enc_at hi (by decide)]; rfl
theorem gf_7_4 {i : Nat} (hi : i < cnt 0) (σ : Mem) : gF (enc σ) (ad 0 i) 7 4 = some (.ref (ad 16 0)) := by unfold gF; rw [enc_at hi (by decide)]; rfl
theorem gf_7_5 {i : Nat} (hi : i < cnt 0) (σ : Mem) : gF (enc σ) (ad 0 i) 7 5 = some (.ref (ad 18 0)) := by unfold gF; rw [enc_at hi (by decide)]; rfl
theorem gf_7_6 {i : Nat} (hi : i < cnt 0) (σ : Mem) : gF (enc σ) (ad 0 i) 7 6 = some (.ref (ad 20 0)) := by unfold gF; rw [enc_at hi (by decide)]; rfl
theorem gf_7_7 {i : Nat} (hi : i < cnt 0) (σ : Mem) : gF (enc σ) (ad 0 i) 7 7 = some (.ref (ad 26 0)) := by unfold gF; rw [enc_at hi (by decide)]; rfl
theorem gf_7_8 {i : Nat} (hi : i < cnt 0) (σ : Mem) : gF (enc σ) (ad 0 i) 7 8 = some (.int (σ 0 i 8)) := by unfold gF; rw [enc_at hi (by decide)]; rfl
theorem pf_7_8 {i mi : Nat} (hi : i < cnt 0) (σ : Mem) (x : Int32) : pF mi (enc σ) (ad 0 i) 7 8 (.int x) = some (enc (upS σ 0 i 8 x)) := by
  unfold pF; rw [enc_at hi (by decide)]
  show (if _ then _ else _) = _
  rw [if_pos ⟨rfl, by simp, ⟨rfl, rfl⟩, Or.inl rfl⟩]
  exact congrArg some (enc_set hi (by decide) σ (upd (σ 0 i) 8 x))
theorem isO_1 {i : Nat} (hi : i < cnt 1) (σ : Mem) : isO (enc σ) (ad 1 i) 6 = true := by unfold isO; rw [enc_at hi (by decide)]; rfl
theorem gf_6_0 {i : Nat} (hi : i < cnt 1) (σ : Mem) : gF (enc σ) (ad 1 i) 6 0 = some (.ref (ad 2 0)) := by unfold gF; rw [enc_at hi (by decide)]; rfl
theorem gf_6_1 {i : Nat} (hi : i < cnt 1) (σ : Mem) : gF (enc σ) (ad 1 i) 6 1 = some (.int (σ 1 i 1)) := by unfold gF; rw [enc_at hi (by decide)]; rfl
theorem pf_6_1 {i mi : Nat} (hi : i < cnt 1) (σ : Mem) (x : Int32) : pF mi (enc σ) (ad 1 i) 6 1 (.int x) = some (enc (upS σ 1 i 1 x)) := by
  unfold pF; rw [enc_at hi (by decide)]
  show (if _ then _ else _) = _
  rw [if_pos ⟨rfl, by simp, ⟨rfl, rfl⟩, Or.inl rfl⟩]
  exact congrArg some (enc_set hi (by decide) σ (upd (σ 1 i) 1 x))
theorem gf_6_2 {i : Nat} (hi : i < cnt 1) (σ : Mem) : gF (enc σ) (ad 1 i) 6 2 = some (.int (σ 1 i 2)) := by unfold gF; rw [enc_at hi (by decide)]; rfl
theorem pf_6_2 {i mi : Nat} (hi : i < cnt 1) (σ : Mem) (x : Int32) : pF mi (enc σ) (ad 1 i) 6 2 (.int x) = some (enc (upS σ 1 i 2 x)) := by
  unfold pF; rw [enc_at hi (by decide)]
  show (if _ then _ else _) = _
  rw [if_pos ⟨rfl, by simp, ⟨rfl, rfl⟩, Or.inl rfl⟩]
  exact congrArg some (enc_set hi (by decide) σ (upd (σ 1 i) 2 x))
theorem gf_6_3 {i : Nat} (hi : i < cnt 1) (σ : Mem) : gF (enc σ) (ad 1 i) 6 3 = some (.int (σ 1 i 3)) := by unfold gF; rw [enc_at hi (by decide)]; rfl
theorem pf_6_3 {i mi : Nat} (hi : i < cnt 1) (σ : Mem) (x : Int32) : pF mi (enc σ) (ad 1 i) 6 3 (.int x) = some (enc (upS σ 1 i 3 x)) := by
  unfold pF; rw [enc_at hi (by decide)]
  show (if _ then _ else _) = _
  rw [if_pos ⟨rfl, by simp, ⟨rfl, rfl⟩, Or.inl rfl⟩]
  exact congrArg some (enc_set hi (by decide) σ (upd (σ 1 i) 3 x))
theorem gf_6_4 {i : Nat} (hi : i < cnt 1) (σ : Mem) : gF (enc σ) (ad 1 i) 6 4 = some (.int (σ 1 i 4)) := by unfold gF; rw [enc_at hi (by decide)]; rfl
theorem pf_6_4 {i mi : Nat} (hi : i < cnt 1) (σ : Mem) (x : Int32) : pF mi (enc σ) (ad 1 i) 6 4 (.int x) = some (enc (upS σ 1 i 4 x)) := by
  unfold pF; rw [enc_at hi (by decide)]
  show (if _ then _ else _) = _
  rw [if_pos ⟨rfl, by simp, ⟨rfl, rfl⟩, Or.inl rfl⟩]
  exact congrArg some (enc_set hi (by decide) σ (upd (σ 1 i) 4 x))
theorem gf_6_5 {i : Nat} (hi : i < cnt 1) (σ : Mem) : gF (enc σ) (ad 1 i) 6 5 = some (.ref (ad 3 (rr (σ 1 i 5)))) := by unfold gF; rw [enc_at hi (by decide)]; rfl
theorem pf_6_5 {i mi q : Nat} (hi : i < cnt 1) (hq : q < 2) (σ : Mem) : pF mi (enc σ) (ad 1 i) 6 5 (.ref (ad 3 q)) = some (enc (upS σ 1 i 5 (nI q))) := by
  unfold pF; rw [enc_at hi (by decide)]
  show (if _ then _ else _) = _
  rw [if_pos ⟨rfl, by simp, ⟨rfl, rfl⟩, Or.inl rfl⟩]
  have := congrArg some (enc_set hi (by decide) σ (upd (σ 1 i) 5 (nI q)))
  rcases (show q = 0 ∨ q = 1 by omega) with rfl | rfl <;> exact this
theorem isO_3 {i : Nat} (hi : i < cnt 3) (σ : Mem) : isO (enc σ) (ad 3 i) 4 = true := by unfold isO; rw [enc_at hi (by decide)]; rfl
theorem gf_4_0 {i : Nat} (hi : i < cnt 3) (σ : Mem) : gF (enc σ) (ad 3 i) 4 0 = some (.int (σ 3 i 0)) := by unfold gF; rw [enc_at hi (by decide)]; rfl
theorem pf_4_0 {i mi : Nat} (hi : i < cnt 3) (σ : Mem) (x : Int32) : pF mi (enc σ) (ad 3 i) 4 0 (.int x) = some (enc (upS σ 3 i 0 x)) := by
  unfold pF; rw [enc_at hi (by decide)]
  show (if _ then _ else _) = _
  rw [if_pos ⟨rfl, by simp, ⟨rfl, rfl⟩, Or.inl rfl⟩]
  exact congrArg some (enc_set hi (by decide) σ (upd (σ 3 i) 0 x))
theorem gf_4_1 {i : Nat} (hi : i < cnt 3) (σ : Mem) : gF (enc σ) (ad 3 i) 4 1 = some (.int (σ 3 i 1)) := by unfold gF; rw [enc_at hi (by decide)]; rfl
theorem pf_4_1 {i mi : Nat} (hi : i < cnt 3) (σ : Mem) (x : Int32) : pF mi (enc σ) (ad 3 i) 4 1 (.int x) = some (enc (upS σ 3 i 1 x)) := by
  unfold pF; rw [enc_at hi (by decide)]
  show (if _ then _ else _) = _
  rw [if_pos ⟨rfl, by simp, ⟨rfl, rfl⟩, Or.inl rfl⟩]
  exact congrArg some (enc_set hi (by decide) σ (upd (σ 3 i) 1 x))
theorem gf_4_2 {i : Nat} (hi : i < cnt 3) (σ : Mem) : gF (enc σ) (ad 3 i) 4 2 = some (.int (σ 3 i 2)) := by unfold gF; rw [enc_at hi (by decide)]; rfl
theorem pf_4_2 {i mi : Nat} (hi : i < cnt 3) (σ : Mem) (x : Int32) : pF mi (enc σ) (ad 3 i) 4 2 (.int x) = some (enc (upS σ 3 i 2 x)) := by
  unfold pF; rw [enc_at hi (by decide)]
  show (if _ then _ else _) = _
  rw [if_pos ⟨rfl, by simp, ⟨rfl, rfl⟩, Or.inl rfl⟩]
  exact congrArg some (enc_set hi (by decide) σ (upd (σ 3 i) 2 x))
theorem gf_4_3 {i : Nat} (hi : i < cnt 3) (σ : Mem) : gF (enc σ) (ad 3 i) 4 3 = some (.ref (ad 4 i)) := by unfold gF; rw [enc_at hi (by decide)]; rfl
theorem gf_4_4 {i : Nat} (hi : i < cnt 3) (σ : Mem) : gF (enc σ) (ad 3 i) 4 4 = some (.ref (ad 5 i)) := by unfold gF; rw [enc_at hi (by decide)]; rfl
theorem gf_4_5 {i : Nat} (hi : i < cnt 3) (σ : Mem) : gF (enc σ) (ad 3 i) 4 5 = some (.ref (ad 6 i)) := by unfold gF; rw [enc_at hi (by decide)]; rfl
theorem gf_4_6 {i : Nat} (hi : i < cnt 3) (σ : Mem) : gF (enc σ) (ad 3 i) 4 6 = some (.ref (ad 7 i)) := by unfold gF; rw [enc_at hi (by decide)]; rfl
theorem gf_4_7 {i : Nat} (hi : i < cnt 3) (σ : Mem) : gF (enc σ) (ad 3 i) 4 7 = some (.ref (ad 8 i)) := by unfold gF; rw [enc_at hi (by decide)]; rfl
theorem isO_9 {i : Nat} (hi : i < cnt 9) (σ : Mem) : isO (enc σ) (ad 9 i) 5 = true := by unfold isO; rw [enc_at9 hi]; rfl
theorem gf_5_0 {i : Nat} (hi : i < cnt 9) (σ : Mem) : gF (enc σ) (ad 9 i) 5 0 = some (.ref (ad 3 (rr (σ 9 i 0)))) := by unfold gF; rw [enc_at9 hi]; rfl
theorem pf_5_0 {i mi q : Nat} (hi : i < cnt 9) (hq : q < 2) (σ : Mem) : pF mi (enc σ) (ad 9 i) 5 0 (.ref (ad 3 q)) = some (enc (upS σ 9 i 0 (nI q))) := by
  unfold pF; rw [enc_at9 hi]
  show (if _ then _ else _) = _
  rw [if_pos ⟨rfl, by simp, ⟨rfl, rfl⟩, Or.inl rfl⟩]
  have := congrArg some (enc_set9 hi σ (upd (σ 9 i) 0 (nI q)))
  rcases (show q = 0 ∨ q = 1 by omega) with rfl | rfl <;> exact this
theorem gf_5_1 {i : Nat} (hi : i < cnt 9) (σ : Mem) : gF (enc σ) (ad 9 i) 5 1 = some (.int (σ 9 i 1)) := by unfold gF; rw [enc_at9 hi]; rfl
theorem pf_5_1 {i mi : Nat} (hi : i < cnt 9) (σ : Mem) (x : Int32) : pF mi (enc σ) (ad 9 i) 5 1 (.int x) = some (enc (upS σ 9 i 1 x)) := by
  unfold pF; rw [enc_at9 hi]
  show (if _ then _ else _) = _
  rw [if_pos ⟨rfl, by simp, ⟨rfl, rfl⟩, Or.inl rfl⟩]
  exact congrArg some (enc_set9 hi σ (upd (σ 9 i) 1 x))
theorem gf_5_2 {i : Nat} (hi : i < cnt 9) (σ : Mem) : gF (enc σ) (ad 9 i) 5 2 = some (.int (σ 9 i 2)) := by unfold gF; rw [enc_at9 hi]; rfl
theorem pf_5_2 {i mi : Nat} (hi : i < cnt 9) (σ : Mem) (x : Int32) : pF mi (enc σ) (ad 9 i) 5 2 (.int x) = some (enc (upS σ 9 i 2 x)) := by
  unfold pF; rw [enc_at9 hi]
  show (if _ then _ else _) = _
  rw [if_pos ⟨rfl, by simp, ⟨rfl, rfl⟩, Or.inl rfl⟩]
  exact congrArg some (enc_set9 hi σ (upd (σ 9 i) 2 x))
theorem gf_5_3 {i : Nat} (hi : i < cnt 9) (σ : Mem) : gF (enc σ) (ad 9 i) 5 3 = some (.int (σ 9 i 3)) := by unfold gF; rw [enc_at9 hi]; rfl
theorem pf_5_3 {i mi : Nat} (hi : i < cnt 9) (σ : Mem) (x : Int32) : pF mi (enc σ) (ad 9 i) 5 3 (.int x) = some (enc (upS σ 9 i 3 x)) := by
  unfold pF; rw [enc_at9 hi]
  show (if _ then _ else _) = _
  rw [if_pos ⟨rfl, by simp, ⟨rfl, rfl⟩, Or.inl rfl⟩]
  exact congrArg some (enc_set9 hi σ (upd (σ 9 i) 3 x))
theorem gf_5_4 {i : Nat} (hi : i < cnt 9) (σ : Mem) : gF (enc σ) (ad 9 i) 5 4 = some (.int (σ 9 i 4)) := by unfold gF; rw [enc_at9 hi]; rfl
theorem pf_5_4 {i mi : Nat} (hi : i < cnt 9) (σ : Mem) (x : Int32) : pF mi (enc σ) (ad 9 i) 5 4 (.int x) = some (enc (upS σ 9 i 4 x)) := by
  unfold pF; rw [enc_at9 hi]
  show (if _ then _ else _) = _
  rw [if_pos ⟨rfl, by simp, ⟨rfl, rfl⟩, Or.inl rfl⟩]
  exact congrArg some (enc_set9 hi σ (upd (σ 9 i) 4 x))
theorem gf_5_5 {i : Nat} (hi : i < cnt 9) (σ : Mem) : gF (enc σ) (ad 9 i) 5 5 = some (.int (σ 9 i 5)) := by unfold gF; rw [enc_at9 hi]; rfl
theorem pf_5_5 {i mi : Nat} (hi : i < cnt 9) (σ : Mem) (x : Int32) : pF mi (enc σ) (ad 9 i) 5 5 (.int x) = some (enc (upS σ 9 i 5 x)) := by
  unfold pF; rw [enc_at9 hi]
  show (if _ then _ else _) = _
  rw [if_pos ⟨rfl, by simp, ⟨rfl, rfl⟩, Or.inl rfl⟩]
  exact congrArg some (enc_set9 hi σ (upd (σ 9 i) 5 x))
theorem gf_5_6 {i : Nat} (hi : i < cnt 9) (σ : Mem) : gF (enc σ) (ad 9 i) 5 6 = some (.int (emS (σ 14 i))) := by unfold gF; rw [enc_at9 hi]; rfl
theorem pf_5_6 {i mi : Nat} (hi : i < cnt 9) (σ : Mem) (g : Nat → Int32) : pF mi (enc σ) (ad 9 i) 5 6 (.int (emS g)) = some (enc (updK σ 14 i g)) := by
  unfold pF; rw [enc_at9 hi]
  show (if _ then _ else _) = _
  rw [if_pos ⟨rfl, by simp, ⟨rfl, rfl⟩, Or.inl rfl⟩]
  exact congrArg some (enc_set14 hi σ g)
theorem gf_5_7 {i : Nat} (hi : i < cnt 9) (σ : Mem) : gF (enc σ) (ad 9 i) 5 7 = some (.ref (ad 10 i)) := by unfold gF; rw [enc_at9 hi]; rfl
theorem gf_5_8 {i : Nat} (hi : i < cnt 9) (σ : Mem) : gF (enc σ) (ad 9 i) 5 8 = some (.ref (ad 11 i)) := by unfold gF; rw [enc_at9 hi]; rfl
theorem gf_5_9 {i : Nat} (hi : i < cnt 9) (σ : Mem) : gF (enc σ) (ad 9 i) 5 9 = some (.ref (ad 12 i)) := by unfold gF; rw [enc_at9 hi]; rfl
theorem gf_5_10 {i : Nat} (hi : i < cnt 9) (σ : Mem) : gF (enc σ) (ad 9 i) 5 10 = some (.ref (ad 13 i)) := by unfold gF; rw [enc_at9 hi]; rfl
theorem gf_5_11 {i : Nat} (hi : i < cnt 9) (σ : Mem) : gF (enc σ) (ad 9 i) 5 11 = some (.ref (ad 15 i)) := by unfold gF; rw [enc_at9 hi]; rfl
theorem isO_16 {i : Nat} (hi : i < cnt 16) (σ : Mem) : isO (enc σ) (ad 16 i) 3 = true := by unfold isO; rw [enc_at hi (by decide)]; rfl
theorem gf_3_0 {i : Nat} (hi : i < cnt 16) (σ : Mem) : gF (enc σ) (ad 16 i) 3 0 = some (.ref (ad 17 0)) := by unfold gF; rw [enc_at hi (by decide)]; rfl
theorem gf_3_1 {i : Nat} (hi : i < cnt 16) (σ : Mem) : gF (enc σ) (ad 16 i) 3 1 = some (.int (σ 16 i 1)) := by unfold gF; rw [enc_at hi (by decide)]; rfl
theorem pf_3_1 {i mi : Nat} (hi : i < cnt 16) (σ : Mem) (x : Int32) : pF mi (enc σ) (ad 16 i) 3 1 (.int x) = some (enc (upS σ 16 i 1 x)) := by
  unfold pF; rw [enc_at hi (by decide)]
  show (if _ then _ else _) = _
  rw [if_pos ⟨rfl, by simp, ⟨rfl, rfl⟩, Or.inl rfl⟩]
  exact congrArg some (enc_set hi (by decide) σ (upd (σ 16 i) 1 x))
theorem gf_3_2 {i : Nat} (hi : i < cnt 16) (σ : Mem) : gF (enc σ) (ad 16 i) 3 2 = some (.int (σ 16 i 2)) := by unfold gF; rw [enc_at hi (by decide)]; rfl
theorem pf_3_2 {i mi : Nat} (hi : i < cnt 16) (σ : Mem) (x : Int32) : pF mi (enc σ) (ad 16 i) 3 2 (.int x) = some (enc (upS σ 16 i 2 x)) := by
  unfold pF; rw [enc_at hi (by decide)]
  show (if _ then _ else _) = _
  rw [if_pos ⟨rfl, by simp, ⟨rfl, rfl⟩, Or.inl rfl⟩]
  exact congrArg some (enc_set hi (by decide) σ (upd (σ 16 i) 2 x))
theorem isO_19 {i : Nat} (hi : i < cnt 19) (σ : Mem) : isO (enc σ) (ad 19 i) 2 = true := by unfold isO; rw [enc_at hi (by decide)]; rfl
theorem gf_2_0 {i : Nat} (hi : i < cnt 19) (σ : Mem) : gF (enc σ) (ad 19 i) 2 0 = some (.ref (ad 9 (32 + i))) := by unfold gF; rw [enc_at hi (by decide)]; rfl
theorem gf_2_1 {i : Nat} (hi : i < cnt 19) (σ : Mem) : gF (enc σ) (ad 19 i) 2 1 = some (.int (σ 19 i 1)) := by unfold gF; rw [enc_at hi (by decide)]; rfl
theorem pf_2_1 {i mi : Nat} (hi : i < cnt 19) (σ : Mem) (x : Int32) : pF mi (enc σ) (ad 19 i) 2 1 (.int x) = some (enc (upS σ 19 i 1 x)) := by
  unfold pF; rw [enc_at hi (by decide)]
  show (if _ then _ else _) = _
  rw [if_pos ⟨rfl, by simp, ⟨rfl, rfl⟩, Or.inl rfl⟩]
  exact congrArg some (enc_set hi (by decide) σ (upd (σ 19 i) 1 x))
theorem gf_2_2 {i : Nat} (hi : i < cnt 19) (σ : Mem) : gF (enc σ) (ad 19 i) 2 2 = some (.int (σ 19 i 2)) := by unfold gF; rw [enc_at hi (by decide)]; rfl
theorem pf_2_2_0 {i mi : Nat} (hi : i < cnt 19) (σ : Mem) : pF mi (enc σ) (ad 19 i) 2 2 (.int 0) = some (enc (upS σ 19 i 2 0)) := by
  unfold pF; rw [enc_at hi (by decide)]
  show (if _ then _ else _) = _
  rw [if_pos ⟨rfl, by simp, ⟨rfl, rfl⟩, Or.inl rfl⟩]
  exact congrArg some (enc_set hi (by decide) σ (upd (σ 19 i) 2 0))
theorem pf_2_2_1 {i mi : Nat} (hi : i < cnt 19) (σ : Mem) : pF mi (enc σ) (ad 19 i) 2 2 (.int 1) = some (enc (upS σ 19 i 2 1)) := by
  unfold pF; rw [enc_at hi (by decide)]
  show (if _ then _ else _) = _
  rw [if_pos ⟨rfl, by simp, ⟨rfl, rfl⟩, Or.inl rfl⟩]
  exact congrArg some (enc_set hi (by decide) σ (upd (σ 19 i) 2 1))
theorem isO_20 {i : Nat} (hi : i < cnt 20) (σ : Mem) : isO (enc σ) (ad 20 i) 1 = true := by unfold isO; rw [enc_at hi (by decide)]; rfl
theorem gf_1_0 {i : Nat} (hi : i < cnt 20) (σ : Mem) : gF (enc σ) (ad 20 i) 1 0 = some (.ref (ad 21 0)) := by unfold gF; rw [enc_at hi (by decide)]; rfl
theorem gf_1_1 {i : Nat} (hi : i < cnt 20) (σ : Mem) : gF (enc σ) (ad 20 i) 1 1 = some (.ref (ad 22 0)) := by unfold gF; rw [enc_at hi (by decide)]; rfl
theorem gf_1_2 {i : Nat} (hi : i < cnt 20) (σ : Mem) : gF (enc σ) (ad 20 i) 1 2 = some (.ref (ad 23 0)) := by unfold gF; rw [enc_at hi (by decide)]; rfl
theorem gf_1_3 {i : Nat} (hi : i < cnt 20) (σ : Mem) : gF (enc σ) (ad 20 i) 1 3 = some (.int (σ 20 i 3)) := by unfold gF; rw [enc_at hi (by decide)]; rfl
theorem pf_1_3 {i mi : Nat} (hi : i < cnt 20) (σ : Mem) (x : Int32) : pF mi (enc σ) (ad 20 i) 1 3 (.int x) = some (enc (upS σ 20 i 3 x)) := by
  unfold pF; rw [enc_at hi (by decide)]
  show (if _ then _ else _) = _
  rw [if_pos ⟨rfl, by simp, ⟨rfl, rfl⟩, Or.inl rfl⟩]
  exact congrArg some (enc_set hi (by decide) σ (upd (σ 20 i) 3 x))
theorem gf_1_4 {i : Nat} (hi : i < cnt 20) (σ : Mem) : gF (enc σ) (ad 20 i) 1 4 = some (.ref (ad 24 0)) := by unfold gF; rw [enc_at hi (by decide)]; rfl
theorem gf_1_5 {i : Nat} (hi : i < cnt 20) (σ : Mem) : gF (enc σ) (ad 20 i) 1 5 = some (.int (σ 20 i 5)) := by unfold gF; rw [enc_at hi (by decide)]; rfl
theorem pf_1_5 {i mi : Nat} (hi : i < cnt 20) (σ : Mem) (x : Int32) : pF mi (enc σ) (ad 20 i) 1 5 (.int x) = some (enc (upS σ 20 i 5 x)) := by
  unfold pF; rw [enc_at hi (by decide)]
  show (if _ then _ else _) = _
  rw [if_pos ⟨rfl, by simp, ⟨rfl, rfl⟩, Or.inl rfl⟩]
  exact congrArg some (enc_set hi (by decide) σ (upd (σ 20 i) 5 x))
theorem gf_1_6 {i : Nat} (hi : i < cnt 20) (σ : Mem) : gF (enc σ) (ad 20 i) 1 6 = some (.ref (ad 25 0)) := by unfold gF; rw [enc_at hi (by decide)]; rfl
theorem isO_26 {i : Nat} (hi : i < cnt 26) (σ : Mem) : isO (enc σ) (ad 26 i) 0 = true := by unfold isO; rw [enc_at hi (by decide)]; rfl
theorem gf_0_0 {i : Nat} (hi : i < cnt 26) (σ : Mem) : gF (enc σ) (ad 26 i) 0 0 = some (.ref (ad 27 0)) := by unfold gF; rw [enc_at hi (by decide)]; rfl
theorem gf_0_1 {i : Nat} (hi : i < cnt 26) (σ : Mem) : gF (enc σ) (ad 26 i) 0 1 = some (.ref (ad 28 0)) := by unfold gF; rw [enc_at hi (by decide)]; rfl
theorem gf_0_2 {i : Nat} (hi : i < cnt 26) (σ : Mem) : gF (enc σ) (ad 26 i) 0 2 = some (.int (σ 26 i 2)) := by unfold gF; rw [enc_at hi (by decide)]; rfl
theorem pf_0_2 {i mi : Nat} (hi : i < cnt 26) (σ : Mem) (x : Int32) : pF mi (enc σ) (ad 26 i) 0 2 (.int x) = some (enc (upS σ 26 i 2 x)) := by
  unfold pF; rw [enc_at hi (by decide)]
  show (if _ then _ else _) = _
  rw [if_pos ⟨rfl, by simp, ⟨rfl, rfl⟩, Or.inl rfl⟩]
  exact congrArg some (enc_set hi (by decide) σ (upd (σ 26 i) 2 x))
theorem isO_29 {i : Nat} (hi : i < cnt 29) (σ : Mem) : isO (enc σ) (ad 29 i) 8 = true := by unfold isO; rw [enc_at hi (by decide)]; rfl
theorem gf_8_0 {i : Nat} (hi : i < cnt 29) (σ : Mem) : gF (enc σ) (ad 29 i) 8 0 = some (.ref (ad 30 0)) := by unfold gF; rw [enc_at hi (by decide)]; rfl
theorem gf_8_1 {i : Nat} (hi : i < cnt 29) (σ : Mem) : gF (enc σ) (ad 29 i) 8 1 = some (.int (σ 29 i 1)) := by unfold gF; rw [enc_at hi (by decide)]; rfl
theorem pf_8_1 {i mi : Nat} (hi : i < cnt 29) (σ : Mem) (x : Int32) : pF mi (enc σ) (ad 29 i) 8 1 (.int x) = some (enc (upS σ 29 i 1 x)) := by
  unfold pF; rw [enc_at hi (by decide)]
  show (if _ then _ else _) = _
  rw [if_pos ⟨rfl, by simp, ⟨rfl, rfl⟩, Or.inl rfl⟩]
  exact congrArg some (enc_set hi (by decide) σ (upd (σ 29 i) 1 x))
theorem gf_8_2 {i : Nat} (hi : i < cnt 29) (σ : Mem) : gF (enc σ) (ad 29 i) 8 2 = some (.int (σ 29 i 2)) := by unfold gF; rw [enc_at hi (by decide)]; rfl
theorem pf_8_2 {i mi : Nat} (hi : i < cnt 29) (σ : Mem) (x : Int32) : pF mi (enc σ) (ad 29 i) 8 2 (.int x) = some (enc (upS σ 29 i 2 x)) := by
  unfold pF; rw [enc_at hi (by decide)]
  show (if _ then _ else _) = _
  rw [if_pos ⟨rfl, by simp, ⟨rfl, rfl⟩, Or.inl rfl⟩]
  exact congrArg some (enc_set hi (by decide) σ (upd (σ 29 i) 2 x))
theorem gf_8_3 {i : Nat} (hi : i < cnt 29) (σ : Mem) : gF (enc σ) (ad 29 i) 8 3 = some (.ref (ad 31 0)) := by unfold gF; rw [enc_at hi (by decide)]; rfl
theorem gf_8_4 {i : Nat} (hi : i < cnt 29) (σ : Mem) : gF (enc σ) (ad 29 i) 8 4 = some (.ref (ad 32 0)) := by unfold gF; rw [enc_at hi (by decide)]; rfl
theorem gf_8_5 {i : Nat} (hi : i < cnt 29) (σ : Mem) : gF (enc σ) (ad 29 i) 8 5 = some (.ref (ad 33 0)) := by unfold gF; rw [enc_at hi (by decide)]; rfl
theorem gf_8_6 {i : Nat} (hi : i < cnt 29) (σ : Mem) : gF (enc σ) (ad 29 i) 8 6 = some (.ref (ad 34 0)) := by unfold gF; rw [enc_at hi (by decide)]; rfl
theorem gf_8_7 {i : Nat} (hi : i < cnt 29) (σ : Mem) : gF (enc σ) (ad 29 i) 8 7 = some (.ref (ad 35 0)) := by unfold gF; rw [enc_at hi (by decide)]; rfl
theorem gf_8_8 {i : Nat} (hi : i < cnt 29) (σ : Mem) : gF (enc σ) (ad 29 i) 8 8 = some (.ref (ad 36 0)) := by unfold gF; rw [enc_at hi (by decide)]; rfl
theorem gf_8_9 {i : Nat} (hi : i < cnt 29) (σ : Mem) : gF (enc σ) (ad 29 i) 8 9 = some (.ref (ad 37 0)) := by unfold gF; rw [enc_at hi (by decide)]; rfl
theorem gf_8_10 {i : Nat} (hi : i < cnt 29) (σ : Mem) : gF (enc σ) (ad 29 i) 8 10 = some (.ref (ad 38 0)) := by unfold gF; rw [enc_at hi (by decide)]; rfl
theorem gf_8_11 {i : Nat} (hi : i < cnt 29) (σ : Mem) : gF (enc σ) (ad 29 i) 8 11 = some (.ref (ad 39 0)) := by unfold gF; rw [enc_at hi (by decide)]; rfl
theorem gf_8_12 {i : Nat} (hi : i < cnt 29) (σ : Mem) : gF (enc σ) (ad 29 i) 8 12 = some (.ref (ad 40 0)) := by unfold gF; rw [enc_at hi (by decide)]; rfl
theorem gf_8_13 {i : Nat} (hi : i < cnt 29) (σ : Mem) : gF (enc σ) (ad 29 i) 8 13 = some (.ref (ad 41 0)) := by unfold gF; rw [enc_at hi (by decide)]; rfl
theorem gf_8_14 {i : Nat} (hi : i < cnt 29) (σ : Mem) : gF (enc σ) (ad 29 i) 8 14 = some (.ref (ad 42 0)) := by unfold gF; rw [enc_at hi (by decide)]; rfl
theorem gf_8_15 {i : Nat} (hi : i < cnt 29) (σ : Mem) : gF (enc σ) (ad 29 i) 8 15 = some (.ref (ad 43 0)) := by unfold gF; rw [enc_at hi (by decide)]; rfl
theorem gf_8_16 {i : Nat} (hi : i < cnt 29) (σ : Mem) : gF (enc σ) (ad 29 i) 8 16 = some (.ref (ad 44 0)) := by unfold gF; rw [enc_at hi (by decide)]; rfl
theorem gf_8_17 {i : Nat} (hi : i < cnt 29) (σ : Mem) : gF (enc σ) (ad 29 i) 8 17 = some (.ref (ad 45 0)) := by unfold gF; rw [enc_at hi (by decide)]; rfl
theorem gf_8_18 {i : Nat} (hi : i < cnt 29) (σ : Mem) : gF (enc σ) (ad 29 i) 8 18 = some (.int (σ 29 i 18)) := by unfold gF; rw [enc_at hi (by decide)]; rfl
theorem pf_8_18 {i mi : Nat} (hi : i < cnt 29) (σ : Mem) (x : Int32) : pF mi (enc σ) (ad 29 i) 8 18 (.int x) = some (enc (upS σ 29 i 18 x)) := by
  unfold pF; rw [enc_at hi (by decide)]
  show (if _ then _ else _) = _
  rw [if_pos ⟨rfl, by simp, ⟨rfl, rfl⟩, Or.inl rfl⟩]
  exact congrArg some (enc_set hi (by decide) σ (upd (σ 29 i) 18 x))
theorem gf_8_19 {i : Nat} (hi : i < cnt 29) (σ : Mem) : gF (enc σ) (ad 29 i) 8 19 = some (.ref (ad 46 0)) := by unfold gF; rw [enc_at hi (by decide)]; rfl
theorem gf_8_20 {i : Nat} (hi : i < cnt 29) (σ : Mem) : gF (enc σ) (ad 29 i) 8 20 = some (.ref (ad 47 0)) := by unfold gF; rw [enc_at hi (by decide)]; rfl
theorem gf_8_21 {i : Nat} (hi : i < cnt 29) (σ : Mem) : gF (enc σ) (ad 29 i) 8 21 = some (.ref (ad 48 0)) := by unfold gF; rw [enc_at hi (by decide)]; rfl
theorem gf_8_22 {i : Nat} (hi : i < cnt 29) (σ : Mem) : gF (enc σ) (ad 29 i) 8 22 = some (.int (σ 29 i 22)) := by unfold gF; rw [enc_at hi (by decide)]; rfl
theorem pf_8_22 {i mi : Nat} (hi : i < cnt 29) (σ : Mem) (x : Int32) : pF mi (enc σ) (ad 29 i) 8 22 (.int x) = some (enc (upS σ 29 i 22 x)) := by
  unfold pF; rw [enc_at hi (by decide)]
  show (if _ then _ else _) = _
  rw [if_pos ⟨rfl, by simp, ⟨rfl, rfl⟩, Or.inl rfl⟩]
  exact congrArg some (enc_set hi (by decide) σ (upd (σ 29 i) 22 x))
theorem gf_8_23 {i : Nat} (hi : i < cnt 29) (σ : Mem) : gF (enc σ) (ad 29 i) 8 23 = some (.ref (ad 49 0)) := by unfold gF; rw [enc_at hi (by decide)]; rfl
theorem gf_8_24 {i : Nat} (hi : i < cnt 29) (σ : Mem) : gF (enc σ) (ad 29 i) 8 24 = some (.int (σ 29 i 24)) := by unfold gF; rw [enc_at hi (by decide)]; rfl
theorem pf_8_24 {i mi : Nat} (hi : i < cnt 29) (σ : Mem) (x : Int32) : pF mi (enc σ) (ad 29 i) 8 24 (.int x) = some (enc (upS σ 29 i 24 x)) := by
  unfold pF; rw [enc_at hi (by decide)]
  show (if _ then _ else _) = _
  rw [if_pos ⟨rfl, by simp, ⟨rfl, rfl⟩, Or.inl rfl⟩]
  exact congrArg some (enc_set hi (by decide) σ (upd (σ 29 i) 24 x))
theorem gf_8_25 {i : Nat} (hi : i < cnt 29) (σ : Mem) : gF (enc σ) (ad 29 i) 8 25 = some (.ref (ad 50 0)) := by unfold gF; rw [enc_at hi (by decide)]; rfl
theorem gf_8_26 {i : Nat} (hi : i < cnt 29) (σ : Mem) : gF (enc σ) (ad 29 i) 8 26 = some (.int (σ 29 i 26)) := by unfold gF; rw [enc_at hi (by decide)]; rfl
theorem pf_8_26 {i mi : Nat} (hi : i < cnt 29) (σ : Mem) (x : Int32) : pF mi (enc σ) (ad 29 i) 8 26 (.int x) = some (enc (upS σ 29 i 26 x)) := by
  unfold pF; rw [enc_at hi (by decide)]
  show (if _ then _ else _) = _
  rw [if_pos ⟨rfl, by simp, ⟨rfl, rfl⟩, Or.inl rfl⟩]
  exact congrArg some (enc_set hi (by decide) σ (upd (σ 29 i) 26 x))
theorem gf_8_27 {i : Nat} (hi : i < cnt 29) (σ : Mem) : gF (enc σ) (ad 29 i) 8 27 = some (.int (σ 29 i 27)) := by unfold gF; rw [enc_at hi (by decide)]; rfl
theorem pf_8_27 {i mi : Nat} (hi : i < cnt 29) (σ : Mem) (x : Int32) : pF mi (enc σ) (ad 29 i) 8 27 (.int x) = some (enc (upS σ 29 i 27 x)) := by
  unfold pF; rw [enc_at hi (by decide)]
  show (if _ then _ else _) = _
  rw [if_pos ⟨rfl, by simp, ⟨rfl, rfl⟩, Or.inl rfl⟩]
  exact congrArg some (enc_set hi (by decide) σ (upd (σ 29 i) 27 x))
theorem gf_8_28 {i : Nat} (hi : i < cnt 29) (σ : Mem) : gF (enc σ) (ad 29 i) 8 28 = some (.int (σ 29 i 28)) := by unfold gF; rw [enc_at hi (by decide)]; rfl
theorem pf_8_28 {i mi : Nat} (hi : i < cnt 29) (σ : Mem) (x : Int32) : pF mi (enc σ) (ad 29 i) 8 28 (.int x) = some (enc (upS σ 29 i 28 x)) := by
  unfold pF; rw [enc_at hi (by decide)]
  show (if _ then _ else _) = _
  rw [if_pos ⟨rfl, by simp, ⟨rfl, rfl⟩, Or.inl rfl⟩]
  exact congrArg some (enc_set hi (by decide) σ (upd (σ 29 i) 28 x))
theorem gf_8_29 {i : Nat} (hi : i < cnt 29) (σ : Mem) : gF (enc σ) (ad 29 i) 8 29 = some (.int (σ 29 i 29)) := by unfold gF; rw [enc_at hi (by decide)]; rfl
theorem pf_8_29 {i mi : Nat} (hi : i < cnt 29) (σ : Mem) (x : Int32) : pF mi (enc σ) (ad 29 i) 8 29 (.int x) = some (enc (upS σ 29 i 29 x)) := by
  unfold pF; rw [enc_at hi (by decide)]
  show (if _ then _ else _) = _
  rw [if_pos ⟨rfl, by simp, ⟨rfl, rfl⟩, Or.inl rfl⟩]
  exact congrArg some (enc_set hi (by decide) σ (upd (σ 29 i) 29 x))
theorem gf_8_30 {i : Nat} (hi : i < cnt 29) (σ : Mem) : gF (enc σ) (ad 29 i) 8 30 = some (.int (σ 29 i 30)) := by unfold gF; rw [enc_at hi (by decide)]; rfl
theorem pf_8_30 {i mi : Nat} (hi : i < cnt 29) (σ : Mem) (x : Int32) : pF mi (enc σ) (ad 29 i) 8 30 (.int x) = some (enc (upS σ 29 i 30 x)) := by
  unfold pF; rw [enc_at hi (by decide)]
  show (if _ then _ else _) = _
  rw [if_pos ⟨rfl, by simp, ⟨rfl, rfl⟩, Or.inl rfl⟩]
  exact congrArg some (enc_set hi (by decide) σ (upd (σ 29 i) 30 x))
theorem gf_8_31 {i : Nat} (hi : i < cnt 29) (σ : Mem) : gF (enc σ) (ad 29 i) 8 31 = some (.int (σ 29 i 31)) := by unfold gF; rw [enc_at hi (by decide)]; rfl
theorem pf_8_31 {i mi : Nat} (hi : i < cnt 29) (σ : Mem) (x : Int32) : pF mi (enc σ) (ad 29 i) 8 31 (.int x) = some (enc (upS σ 29 i 31 x)) := by
  unfold pF; rw [enc_at hi (by decide)]
  show (if _ then _ else _) = _
  rw [if_pos ⟨rfl, by simp, ⟨rfl, rfl⟩, Or.inl rfl⟩]
  exact congrArg some (enc_set hi (by decide) σ (upd (σ 29 i) 31 x))
theorem gf_8_32 {i : Nat} (hi : i < cnt 29) (σ : Mem) : gF (enc σ) (ad 29 i) 8 32 = some (.int (σ 29 i 32)) := by unfold gF; rw [enc_at hi (by decide)]; rfl
theorem pf_8_32 {i mi : Nat} (hi : i < cnt 29) (σ : Mem) (x : Int32) : pF mi (enc σ) (ad 29 i) 8 32 (.int x) = some (enc (upS σ 29 i 32 x)) := by
  unfold pF; rw [enc_at hi (by decide)]
  show (if _ then _ else _) = _
  rw [if_pos ⟨rfl, by simp, ⟨rfl, rfl⟩, Or.inl rfl⟩]
  exact congrArg some (enc_set hi (by decide) σ (upd (σ 29 i) 32 x))
theorem gf_8_33 {i : Nat} (hi : i < cnt 29) (σ : Mem) : gF (enc σ) (ad 29 i) 8 33 = some (.ref (ad 51 0)) := by unfold gF; rw [enc_at hi (by decide)]; rfl
theorem gf_8_34 {i : Nat} (hi : i < cnt 29) (σ : Mem) : gF (enc σ) (ad 29 i) 8 34 = some (.int (σ 29 i 34)) := by unfold gF; rw [enc_at hi (by decide)]; rfl
theorem pf_8_34 {i mi : Nat} (hi : i < cnt 29) (σ : Mem) (x : Int32) : pF mi (enc σ) (ad 29 i) 8 34 (.int x) = some (enc (upS σ 29 i 34 x)) := by
  unfold pF; rw [enc_at hi (by decide)]
  show (if _ then _ else _) = _
  rw [if_pos ⟨rfl, by simp, ⟨rfl, rfl⟩, Or.inl rfl⟩]
  exact congrArg some (enc_set hi (by decide) σ (upd (σ 29 i) 34 x))
