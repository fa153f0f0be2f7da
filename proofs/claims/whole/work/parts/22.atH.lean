theorem dX8_feed_0 : decode cX8_feed 0 = .ok (.iload_n 1, 1) := by decide +kernel
theorem aX8_feed_0 {x : Int32} {l0 : Value} {st : List Value} {fs : List Fm} {M : List va_E} {Q : List va_E → Option Value → Prop} : Rn mX8_feed 0 [l0, .int x] st fs M Q ↔ Rn mX8_feed 1 [l0, .int x] (.int x :: st) fs M Q := R_iload_n hbX8_feed rfl dX8_feed_0
theorem dX8_feed_1 : decode cX8_feed 1 = .ok (.iconst 0, 1) := by decide +kernel
theorem aX8_feed_1 {l0 l1 : Value} {st : List Value} {fs : List Fm} {M : List va_E} {Q : List va_E → Option Value → Prop} : Rn mX8_feed 1 [l0, l1] st fs M Q ↔ Rn mX8_feed 2 [l0, l1] (.int 0 :: st) fs M Q := R_iconst hbX8_feed (by decide) dX8_feed_1
theorem dX8_feed_2 : decode cX8_feed 2 = .ok (.sipush 255, 3) := by decide +kernel
theorem aX8_feed_2 {l0 l1 : Value} {st : List Value} {fs : List Fm} {M : List va_E} {Q : List va_E → Option Value → Prop} : Rn mX8_feed 2 [l0, l1] st fs M Q ↔ Rn mX8_feed 5 [l0, l1] (.int 255 :: st) fs M Q := R_sipush hbX8_feed (by decide) dX8_feed_2
theorem dX8_feed_5 : decode cX8_feed 5 = .ok (.invokestatic 81, 3) := by decide +kernel
theorem aX8_feed_5 {y0 : Int32} {y1 : Int32} {y2 : Int32} {l0 l1 : Value} {st : List Value} {fs : List Fm} {M : List va_E} {Q : List va_E → Option Value → Prop} : Rn mX8_feed 5 [l0, l1] (.int y2 :: .int y1 :: .int y0 :: st) fs M Q ↔ cats st ≤ 8 ∧ Rn mX8_in 0 [.int y0, .int y1, .int y2] [] ((mX8_feed, 8, [l0, l1], st) :: fs) M Q := R_S (As := [.int y0, .int y1, .int y2]) hbX8_feed hoX8_feed cl_8_81 (by decide) hnX8_in rfl (by decide +kernel) rfl rfl rfl dX8_feed_5
theorem dX8_feed_8 : decode cX8_feed 8 = .ok (.ifCond .ne 6, 3) := by decide +kernel
theorem aX8_feed_8 {x : Int32} {l0 l1 : Value} {st : List Value} {fs : List Fm} {M : List va_E} {Q : List va_E → Option Value → Prop} : Rn mX8_feed 8 [l0, l1] (.int x :: st) fs M Q ↔ if ¬ x = 0 then Rn mX8_feed 14 [l0, l1] st fs M Q else Rn mX8_feed 11 [l0, l1] st fs M Q := R_ifne hbX8_feed rfl dX8_feed_8
theorem dX8_feed_11 : decode cX8_feed 11 = .ok (.ldc 85, 2) := by decide +kernel
theorem aX8_feed_11 {l0 l1 : Value} {st : List Value} {fs : List Fm} {M : List va_E} {Q : List va_E → Option Value → Prop} : Rn mX8_feed 11 [l0, l1] st fs M Q ↔ Rn mX8_feed 13 [l0, l1] (.int (-1000000002) :: st) fs M Q := R_ldc hbX8_feed hoX8_feed kl_8_85 dX8_feed_11
theorem dX8_feed_13 : decode cX8_feed 13 = .ok (.ireturn, 1) := by decide +kernel
theorem aX8_feed_13 {x : Int32} {l0 l1 : Value} {fs : List Fm} {M : List va_E} {Q : List va_E → Option Value → Prop} : Rn mX8_feed 13 [l0, l1] [.int x] fs M Q ↔ Rt fs M (some (.int x)) Q := R_reti hbX8_feed hrX8_feed dX8_feed_13
theorem dX8_feed_14 : decode cX8_feed 14 = .ok (.aload_n 0, 1) := by decide +kernel
theorem aX8_feed_14 {x : Nat} {l1 : Value} {st : List Value} {fs : List Fm} {M : List va_E} {Q : List va_E → Option Value → Prop} : Rn mX8_feed 14 [.ref x, l1] st fs M Q ↔ Rn mX8_feed 15 [.ref x, l1] (.ref x :: st) fs M Q := R_aload_n hbX8_feed rfl dX8_feed_14
theorem dX8_feed_15 : decode cX8_feed 15 = .ok (.getfield 86, 3) := by decide +kernel
theorem aX8_feed_15 {l0 l1 : Value} {st : List Value} {fs : List Fm} {σ : Mem} {Q : List va_E → Option Value → Prop} : Rn mX8_feed 15 [l0, l1] (.ref (ad 29 0) :: st) fs (enc σ) Q ↔ Rn mX8_feed 18 [l0, l1] (.int (σ 29 0 1) :: st) fs (enc σ) Q := R_get hbX8_feed hoX8_feed fl_8_86 (gf_8_1 (by decide) σ) dX8_feed_15
theorem dX8_feed_18 : decode cX8_feed 18 = .ok (.sipush 240, 3) := by decide +kernel
theorem aX8_feed_18 {l0 l1 : Value} {st : List Value} {fs : List Fm} {M : List va_E} {Q : List va_E → Option Value → Prop} : Rn mX8_feed 18 [l0, l1] st fs M Q ↔ Rn mX8_feed 21 [l0, l1] (.int 240 :: st) fs M Q := R_sipush hbX8_feed (by decide) dX8_feed_18
theorem dX8_feed_21 : decode cX8_feed 21 = .ok (.if_icmp .ne 6, 3) := by decide +kernel
theorem aX8_feed_21 {x y : Int32} {l0 l1 : Value} {st : List Value} {fs : List Fm} {M : List va_E} {Q : List va_E → Option Value → Prop} : Rn mX8_feed 21 [l0, l1] (.int y :: .int x :: st) fs M Q ↔ if ¬ x = y then Rn mX8_feed 27 [l0, l1] st fs M Q else Rn mX8_feed 24 [l0, l1] st fs M Q := R_icne hbX8_feed rfl dX8_feed_21
theorem dX8_feed_24 : decode cX8_feed 24 = .ok (.ldc 89, 2) := by decide +kernel
theorem aX8_feed_24 {l0 l1 : Value} {st : List Value} {fs : List Fm} {M : List va_E} {Q : List va_E → Option Value → Prop} : Rn mX8_feed 24 [l0, l1] st fs M Q ↔ Rn mX8_feed 26 [l0, l1] (.int (-1000000004) :: st) fs M Q := R_ldc hbX8_feed hoX8_feed kl_8_89 dX8_feed_24
theorem dX8_feed_26 : decode cX8_feed 26 = .ok (.ireturn, 1) := by decide +kernel
theorem aX8_feed_26 {x : Int32} {l0 l1 : Value} {fs : List Fm} {M : List va_E} {Q : List va_E → Option Value → Prop} : Rn mX8_feed 26 [l0, l1] [.int x] fs M Q ↔ Rt fs M (some (.int x)) Q := R_reti hbX8_feed hrX8_feed dX8_feed_26
theorem dX8_feed_27 : decode cX8_feed 27 = .ok (.aload_n 0, 1) := by decide +kernel
theorem aX8_feed_27 {x : Nat} {l1 : Value} {st : List Value} {fs : List Fm} {M : List va_E} {Q : List va_E → Option Value → Prop} : Rn mX8_feed 27 [.ref x, l1] st fs M Q ↔ Rn mX8_feed 28 [.ref x, l1] (.ref x :: st) fs M Q := R_aload_n hbX8_feed rfl dX8_feed_27
theorem dX8_feed_28 : decode cX8_feed 28 = .ok (.getfield 7, 3) := by decide +kernel
theorem aX8_feed_28 {l0 l1 : Value} {st : List Value} {fs : List Fm} {σ : Mem} {Q : List va_E → Option Value → Prop} : Rn mX8_feed 28 [l0, l1] (.ref (ad 29 0) :: st) fs (enc σ) Q ↔ Rn mX8_feed 31 [l0, l1] (.ref (ad 30 0) :: st) fs (enc σ) Q := R_get hbX8_feed hoX8_feed fl_8_7 (gf_8_0 (by decide) σ) dX8_feed_28
theorem dX8_feed_31 : decode cX8_feed 31 = .ok (.aload_n 0, 1) := by decide +kernel
theorem aX8_feed_31 {x : Nat} {l1 : Value} {st : List Value} {fs : List Fm} {M : List va_E} {Q : List va_E → Option Value → Prop} : Rn mX8_feed 31 [.ref x, l1] st fs M Q ↔ Rn mX8_feed 32 [.ref x, l1] (.ref x :: st) fs M Q := R_aload_n hbX8_feed rfl dX8_feed_31
theorem dX8_feed_32 : decode cX8_feed 32 = .ok (.getfield 86, 3) := by decide +kernel
theorem aX8_feed_32 {l0 l1 : Value} {st : List Value} {fs : List Fm} {σ : Mem} {Q : List va_E → Option Value → Prop} : Rn mX8_feed 32 [l0, l1] (.ref (ad 29 0) :: st) fs (enc σ) Q ↔ Rn mX8_feed 35 [l0, l1] (.int (σ 29 0 1) :: st) fs (enc σ) Q := R_get hbX8_feed hoX8_feed fl_8_86 (gf_8_1 (by decide) σ) dX8_feed_32
theorem dX8_feed_35 : decode cX8_feed 35 = .ok (.iload_n 1, 1) := by decide +kernel
theorem aX8_feed_35 {x : Int32} {l0 : Value} {st : List Value} {fs : List Fm} {M : List va_E} {Q : List va_E → Option Value → Prop} : Rn mX8_feed 35 [l0, .int x] st fs M Q ↔ Rn mX8_feed 36 [l0, .int x] (.int x :: st) fs M Q := R_iload_n hbX8_feed rfl dX8_feed_35
theorem dX8_feed_36 : decode cX8_feed 36 = .ok (.iastore, 1) := by decide +kernel
theorem aX8_feed_36 {k i : Nat} {j x : Int32} (ht : aT k = 0) (hi : i < cnt k) {l0 l1 : Value} {st : List Value} {fs : List Fm} {σ : Mem} {Q : List va_E → Option Value → Prop} : Rn mX8_feed 36 [l0, l1] (.int x :: .int j :: .ref (ad k i) :: st) fs (enc σ) Q ↔ vp_in j (aN k) ∧ Rn mX8_feed 37 [l0, l1] st fs (enc (upS σ k i j.toNatClampNeg x)) Q := R_iastore hbX8_feed ht hi dX8_feed_36
theorem dX8_feed_37 : decode cX8_feed 37 = .ok (.aload_n 0, 1) := by decide +kernel
theorem aX8_feed_37 {x : Nat} {l1 : Value} {st : List Value} {fs : List Fm} {M : List va_E} {Q : List va_E → Option Value → Prop} : Rn mX8_feed 37 [.ref x, l1] st fs M Q ↔ Rn mX8_feed 38 [.ref x, l1] (.ref x :: st) fs M Q := R_aload_n hbX8_feed rfl dX8_feed_37
theorem dX8_feed_38 : decode cX8_feed 38 = .ok (.dup, 1) := by decide +kernel
theorem aX8_feed_38i {x : Int32} {l0 l1 : Value} {st : List Value} {fs : List Fm} {M : List va_E} {Q : List va_E → Option Value → Prop} : Rn mX8_feed 38 [l0, l1] (.int x :: st) fs M Q ↔ Rn mX8_feed 39 [l0, l1] (.int x :: .int x :: st) fs M Q := R_dup_i hbX8_feed dX8_feed_38
theorem aX8_feed_38a {x : Nat} {l0 l1 : Value} {st : List Value} {fs : List Fm} {M : List va_E} {Q : List va_E → Option Value → Prop} : Rn mX8_feed 38 [l0, l1] (.ref x :: st) fs M Q ↔ Rn mX8_feed 39 [l0, l1] (.ref x :: .ref x :: st) fs M Q := R_dup_a hbX8_feed dX8_feed_38
theorem dX8_feed_39 : decode cX8_feed 39 = .ok (.getfield 86, 3) := by decide +kernel
theorem aX8_feed_39 {l0 l1 : Value} {st : List Value} {fs : List Fm} {σ : Mem} {Q : List va_E → Option Value → Prop} : Rn mX8_feed 39 [l0, l1] (.ref (ad 29 0) :: st) fs (enc σ) Q ↔ Rn mX8_feed 42 [l0, l1] (.int (σ 29 0 1) :: st) fs (enc σ) Q := R_get hbX8_feed hoX8_feed fl_8_86 (gf_8_1 (by decide) σ) dX8_feed_39
theorem dX8_feed_42 : decode cX8_feed 42 = .ok (.iconst 1, 1) := by decide +kernel
theorem aX8_feed_42 {l0 l1 : Value} {st : List Value} {fs : List Fm} {M : List va_E} {Q : List va_E → Option Value → Prop} : Rn mX8_feed 42 [l0, l1] st fs M Q ↔ Rn mX8_feed 43 [l0, l1] (.int 1 :: st) fs M Q := R_iconst hbX8_feed (by decide) dX8_feed_42
theorem dX8_feed_43 : decode cX8_feed 43 = .ok (.iadd, 1) := by decide +kernel
theorem aX8_feed_43 {x y : Int32} {l0 l1 : Value} {st : List Value} {fs : List Fm} {M : List va_E} {Q : List va_E → Option Value → Prop} : Rn mX8_feed 43 [l0, l1] (.int y :: .int x :: st) fs M Q ↔ Rn mX8_feed 44 [l0, l1] (.int (x + y) :: st) fs M Q := R_iadd hbX8_feed dX8_feed_43
theorem dX8_feed_44 : decode cX8_feed 44 = .ok (.putfield 86, 3) := by decide +kernel
theorem aX8_feed_44 {x : Int32} {l0 l1 : Value} {st : List Value} {fs : List Fm} {σ : Mem} {Q : List va_E → Option Value → Prop} : Rn mX8_feed 44 [l0, l1] (.int x :: .ref (ad 29 0) :: st) fs (enc σ) Q ↔ Rn mX8_feed 47 [l0, l1] st fs (enc (upS σ 29 0 1 x)) Q := R_put hbX8_feed hoX8_feed fl_8_86 (pf_8_1 (by decide) σ x) dX8_feed_44
theorem dX8_feed_47 : decode cX8_feed 47 = .ok (.aload_n 0, 1) := by decide +kernel
theorem aX8_feed_47 {x : Nat} {l1 : Value} {st : List Value} {fs : List Fm} {M : List va_E} {Q : List va_E → Option Value → Prop} : Rn mX8_feed 47 [.ref x, l1] st fs M Q ↔ Rn mX8_feed 48 [.ref x, l1] (.ref x :: st) fs M Q := R_aload_n hbX8_feed rfl dX8_feed_47
theorem dX8_feed_48 : decode cX8_feed 48 = .ok (.getfield 86, 3) := by decide +kernel
theorem aX8_feed_48 {l0 l1 : Value} {st : List Value} {fs : List Fm} {σ : Mem} {Q : List va_E → Option Value → Prop} : Rn mX8_feed 48 [l0, l1] (.ref (ad 29 0) :: st) fs (enc σ) Q ↔ Rn mX8_feed 51 [l0, l1] (.int (σ 29 0 1) :: st) fs (enc σ) Q := R_get hbX8_feed hoX8_feed fl_8_86 (gf_8_1 (by decide) σ) dX8_feed_48
theorem dX8_feed_51 : decode cX8_feed 51 = .ok (.ireturn, 1) := by decide +kernel
theorem aX8_feed_51 {x : Int32} {l0 l1 : Value} {fs : List Fm} {M : List va_E} {Q : List va_E → Option Value → Prop} : Rn mX8_feed 51 [l0, l1] [.int x] fs M Q ↔ Rt fs M (some (.int x)) Q := R_reti hbX8_feed hrX8_feed dX8_feed_51
theorem dX8_in_0 : decode cX8_in 0 = .ok (.iload_n 0, 1) := by decide +kernel
theorem aX8_in_0 {x : Int32} {l1 l2 : Value} {st : List Value} {fs : List Fm} {M : List va_E} {Q : List va_E → Option Value → Prop} : Rn mX8_in 0 [.int x, l1, l2] st fs M Q ↔ Rn mX8_in 1 [.int x, l1, l2] (.int x :: st) fs M Q := R_iload_n hbX8_in rfl dX8_in_0
theorem dX8_in_1 : decode cX8_in 1 = .ok (.iload_n 1, 1) := by decide +kernel
theorem aX8_in_1 {x : Int32} {l0 l2 : Value} {st : List Value} {fs : List Fm} {M : List va_E} {Q : List va_E → Option Value → Prop} : Rn mX8_in 1 [l0, .int x, l2] st fs M Q ↔ Rn mX8_in 2 [l0, .int x, l2] (.int x :: st) fs M Q := R_iload_n hbX8_in rfl dX8_in_1
theorem dX8_in_2 : decode cX8_in 2 = .ok (.if_icmp .lt 12, 3) := by decide +kernel
theorem aX8_in_2 {x y : Int32} {l0 l1 l2 : Value} {st : List Value} {fs : List Fm} {M : List va_E} {Q : List va_E → Option Value → Prop} : Rn mX8_in 2 [l0, l1, l2] (.int y :: .int x :: st) fs M Q ↔ if x < y then Rn mX8_in 14 [l0, l1, l2] st fs M Q else Rn mX8_in 5 [l0, l1, l2] st fs M Q := R_iclt hbX8_in rfl dX8_in_2
theorem dX8_in_5 : decode cX8_in 5 = .ok (.iload_n 0, 1) := by decide +kernel
theorem aX8_in_5 {x : Int32} {l1 l2 : Value} {st : List Value} {fs : List Fm} {M : List va_E} {Q : List va_E → Option Value → Prop} : Rn mX8_in 5 [.int x, l1, l2] st fs M Q ↔ Rn mX8_in 6 [.int x, l1, l2] (.int x :: st) fs M Q := R_iload_n hbX8_in rfl dX8_in_5
theorem dX8_in_6 : decode cX8_in 6 = .ok (.iload_n 2, 1) := by decide +kernel
theorem aX8_in_6 {x : Int32} {l0 l1 : Value} {st : List Value} {fs : List Fm} {M : List va_E} {Q : List va_E → Option Value → Prop} : Rn mX8_in 6 [l0, l1, .int x] st fs M Q ↔ Rn mX8_in 7 [l0, l1, .int x] (.int x :: st) fs M Q := R_iload_n hbX8_in rfl dX8_in_6
theorem dX8_in_7 : decode cX8_in 7 = .ok (.if_icmp .gt 7, 3) := by decide +kernel
theorem aX8_in_7 {x y : Int32} {l0 l1 l2 : Value} {st : List Value} {fs : List Fm} {M : List va_E} {Q : List va_E → Option Value → Prop} : Rn mX8_in 7 [l0, l1, l2] (.int y :: .int x :: st) fs M Q ↔ if y < x then Rn mX8_in 14 [l0, l1, l2] st fs M Q else Rn mX8_in 10 [l0, l1, l2] st fs M Q := R_icgt hbX8_in rfl dX8_in_7
theorem dX8_in_10 : decode cX8_in 10 = .ok (.iconst 1, 1) := by decide +kernel
theorem aX8_in_10 {l0 l1 l2 : Value} {st : List Value} {fs : List Fm} {M : List va_E} {Q : List va_E → Option Value → Prop} : Rn mX8_in 10 [l0, l1, l2] st fs M Q ↔ Rn mX8_in 11 [l0, l1, l2] (.int 1 :: st) fs M Q := R_iconst hbX8_in (by decide) dX8_in_10
theorem dX8_in_11 : decode cX8_in 11 = .ok (.goto 4, 3) := by decide +kernel
theorem aX8_in_11 {l0 l1 l2 : Value} {st : List Value} {fs : List Fm} {M : List va_E} {Q : List va_E → Option Value → Prop} : Rn mX8_in 11 [l0, l1, l2] st fs M Q ↔ Rn mX8_in 15 [l0, l1, l2] st fs M Q := R_goto hbX8_in rfl dX8_in_11
theorem dX8_in_14 : decode cX8_in 14 = .ok (.iconst 0, 1) := by decide +kernel
theorem aX8_in_14 {l0 l1 l2 : Value} {st : List Value} {fs : List Fm} {M : List va_E} {Q : List va_E → Option Value → Prop} : Rn mX8_in 14 [l0, l1, l2] st fs M Q ↔ Rn mX8_in 15 [l0, l1, l2] (.int 0 :: st) fs M Q := R_iconst hbX8_in (by decide) dX8_in_14
theorem dX8_in_15 : decode cX8_in 15 = .ok (.ireturn, 1) := by decide +kernel
theorem aX8_in_15 {x : Int32} {l0 l1 l2 : Value} {fs : List Fm} {M : List va_E} {Q : List va_E → Option Value → Prop} : Rn mX8_in 15 [l0, l1, l2] [.int x] fs M Q ↔ isB x ∧ Rt fs M (some (.int x)) Q := R_retz hbX8_in hrX8_in dX8_in_15
theorem dX8_row_0 : decode cX8_row 0 = .ok (.aload_n 0, 1) := by decide +kernel
theorem aX8_row_0 {x : Nat} {l1 : Value} {st : List Value} {fs : List Fm} {M : List va_E} {Q : List va_E → Option Value → Prop} : Rn mX8_row 0 [.ref x, l1] st fs M Q ↔ Rn mX8_row 1 [.ref x, l1] (.ref x :: st) fs M Q := R_aload_n hbX8_row rfl dX8_row_0
theorem dX8_row_1 : decode cX8_row 1 = .ok (.iconst 0, 1) := by decide +kernel
theorem aX8_row_1 {l0 l1 : Value} {st : List Value} {fs : List Fm} {M : List va_E} {Q : List va_E → Option Value → Prop} : Rn mX8_row 1 [l0, l1] st fs M Q ↔ Rn mX8_row 2 [l0, l1] (.int 0 :: st) fs M Q := R_iconst hbX8_row (by decide) dX8_row_1
theorem dX8_row_2 : decode cX8_row 2 = .ok (.putfield 90, 3) := by decide +kernel
theorem aX8_row_2 {x : Int32} {l0 l1 : Value} {st : List Value} {fs : List Fm} {σ : Mem} {Q : List va_E → Option Value → Prop} : Rn mX8_row 2 [l0, l1] (.int x :: .ref (ad 29 0) :: st) fs (enc σ) Q ↔ Rn mX8_row 5 [l0, l1] st fs (enc (upS σ 29 0 27 x)) Q := R_put hbX8_row hoX8_row fl_8_90 (pf_8_27 (by decide) σ x) dX8_row_2
theorem dX8_row_5 : decode cX8_row 5 = .ok (.aload_n 0, 1) := by decide +kernel
theorem aX8_row_5 {x : Nat} {l1 : Value} {st : List Value} {fs : List Fm} {M : List va_E} {Q : List va_E → Option Value → Prop} : Rn mX8_row 5 [.ref x, l1] st fs M Q ↔ Rn mX8_row 6 [.ref x, l1] (.ref x :: st) fs M Q := R_aload_n hbX8_row rfl dX8_row_5
theorem dX8_row_6 : decode cX8_row 6 = .ok (.iconst 0, 1) := by decide +kernel
theorem aX8_row_6 {l0 l1 : Value} {st : List Value} {fs : List Fm} {M : List va_E} {Q : List va_E → Option Value → Prop} : Rn mX8_row 6 [l0, l1] st fs M Q ↔ Rn mX8_row 7 [l0, l1] (.int 0 :: st) fs M Q := R_iconst hbX8_row (by decide) dX8_row_6
theorem dX8_row_7 : decode cX8_row 7 = .ok (.putfield 93, 3) := by decide +kernel
theorem aX8_row_7 {x : Int32} {l0 l1 : Value} {st : List Value} {fs : List Fm} {σ : Mem} {Q : List va_E → Option Value → Prop} : Rn mX8_row 7 [l0, l1] (.int x :: .ref (ad 29 0) :: st) fs (enc σ) Q ↔ Rn mX8_row 10 [l0, l1] st fs (enc (upS σ 29 0 28 x)) Q := R_put hbX8_row hoX8_row fl_8_93 (pf_8_28 (by decide) σ x) dX8_row_7
theorem dX8_row_10 : decode cX8_row 10 = .ok (.iconst 0, 1) := by decide +kernel
theorem aX8_row_10 {l0 l1 : Value} {st : List Value} {fs : List Fm} {M : List va_E} {Q : List va_E → Option Value → Prop} : Rn mX8_row 10 [l0, l1] st fs M Q ↔ Rn mX8_row 11 [l0, l1] (.int 0 :: st) fs M Q := R_iconst hbX8_row (by decide) dX8_row_10
theorem dX8_row_11 : decode cX8_row 11 = .ok (.istore_n 1, 1) := by decide +kernel
theorem aX8_row_11 {x : Int32} {l0 l1 : Value} {st : List Value} {fs : List Fm} {M : List va_E} {Q : List va_E → Option Value → Prop} : Rn mX8_row 11 [l0, l1] (.int x :: st) fs M Q ↔ Rn mX8_row 12 [l0, .int x] st fs M Q := R_istore_n hbX8_row hmX8_row hlX8_row (by decide) (by decide) rfl dX8_row_11
theorem dX8_row_12 : decode cX8_row 12 = .ok (.iload_n 1, 1) := by decide +kernel
theorem aX8_row_12 {x : Int32} {l0 : Value} {st : List Value} {fs : List Fm} {M : List va_E} {Q : List va_E → Option Value → Prop} : Rn mX8_row 12 [l0, .int x] st fs M Q ↔ Rn mX8_row 13 [l0, .int x] (.int x :: st) fs M Q := R_iload_n hbX8_row rfl dX8_row_12
theorem dX8_row_13 : decode cX8_row 13 = .ok (.iconst 3, 1) := by decide +kernel
theorem aX8_row_13 {l0 l1 : Value} {st : List Value} {fs : List Fm} {M : List va_E} {Q : List va_E → Option Value → Prop} : Rn mX8_row 13 [l0, l1] st fs M Q ↔ Rn mX8_row 14 [l0, l1] (.int 3 :: st) fs M Q := R_iconst hbX8_row (by decide) dX8_row_13
theorem dX8_row_14 : decode cX8_row 14 = .ok (.if_icmp .ge 16, 3) := by decide +kernel
theorem aX8_row_14 {x y : Int32} {l0 l1 : Value} {st : List Value} {fs : List Fm} {M : List va_E} {Q : List va_E → Option Value → Prop} : Rn mX8_row 14 [l0, l1] (.int y :: .int x :: st) fs M Q ↔ if y ≤ x then Rn mX8_row 30 [l0, l1] st fs M Q else Rn mX8_row 17 [l0, l1] st fs M Q := R_icge hbX8_row rfl dX8_row_14
theorem dX8_row_17 : decode cX8_row 17 = .ok (.aload_n 0, 1) := by decide +kernel
theorem aX8_row_17 {x : Nat} {l1 : Value} {st : List Value} {fs : List Fm} {M : List va_E} {Q : List va_E → Option Value → Prop} : Rn mX8_row 17 [.ref x, l1] st fs M Q ↔ Rn mX8_row 18 [.ref x, l1] (.ref x :: st) fs M Q := R_aload_n hbX8_row rfl dX8_row_17
theorem dX8_row_18 : decode cX8_row 18 = .ok (.getfield 35, 3) := by decide +kernel
theorem aX8_row_18 {l0 l1 : Value} {st : List Value} {fs : List Fm} {σ : Mem} {Q : List va_E → Option Value → Prop} : Rn mX8_row 18 [l0, l1] (.ref (ad 29 0) :: st) fs (enc σ) Q ↔ Rn mX8_row 21 [l0, l1] (.ref (ad 37 0) :: st) fs (enc σ) Q := R_get hbX8_row hoX8_row fl_8_35 (gf_8_9 (by decide) σ) dX8_row_18
theorem dX8_row_21 : decode cX8_row 21 = .ok (.iload_n 1, 1) := by decide +kernel
theorem aX8_row_21 {x : Int32} {l0 : Value} {st : List Value} {fs : List Fm} {M : List va_E} {Q : List va_E → Option Value → Prop} : Rn mX8_row 21 [l0, .int x] st fs M Q ↔ Rn mX8_row 22 [l0, .int x] (.int x :: st) fs M Q := R_iload_n hbX8_row rfl dX8_row_21
theorem dX8_row_22 : decode cX8_row 22 = .ok (.iconst 0, 1) := by decide +kernel
theorem aX8_row_22 {l0 l1 : Value} {st : List Value} {fs : List Fm} {M : List va_E} {Q : List va_E → Option Value → Prop} : Rn mX8_row 22 [l0, l1] st fs M Q ↔ Rn mX8_row 23 [l0, l1] (.int 0 :: st) fs M Q := R_iconst hbX8_row (by decide) dX8_row_22
theorem dX8_row_23 : decode cX8_row 23 = .ok (.iastore, 1) := by decide +kernel
theorem aX8_row_23 {k i : Nat} {j x : Int32} (ht : aT k = 0) (hi : i < cnt k) {l0 l1 : Value} {st : List Value} {fs : List Fm} {σ : Mem} {Q : List va_E → Option Value → Prop} : Rn mX8_row 23 [l0, l1] (.int x :: .int j :: .ref (ad k i) :: st) fs (enc σ) Q ↔ vp_in j (aN k) ∧ Rn mX8_row 24 [l0, l1] st fs (enc (upS σ k i j.toNatClampNeg x)) Q := R_iastore hbX8_row ht hi dX8_row_23
theorem dX8_row_24 : decode cX8_row 24 = .ok (.iinc 1 1, 3) := by decide +kernel
theorem aX8_row_24 {x : Int32} {l0 : Value} {st : List Value} {fs : List Fm} {M : List va_E} {Q : List va_E → Option Value → Prop} : Rn mX8_row 24 [l0, .int x] st fs M Q ↔ Rn mX8_row 27 [l0, .int (x + 1)] st fs M Q := R_iinc hbX8_row hmX8_row hlX8_row (by decide) (by decide) rfl (by decide) rfl dX8_row_24
theorem dX8_row_27 : decode cX8_row 27 = .ok (.goto (-15), 3) := by decide +kernel
theorem aX8_row_27 {l0 l1 : Value} {st : List Value} {fs : List Fm} {M : List va_E} {Q : List va_E → Option Value → Prop} : Rn mX8_row 27 [l0, l1] st fs M Q ↔ Rn mX8_row 12 [l0, l1] st fs M Q := R_goto hbX8_row rfl dX8_row_27
theorem dX8_row_30 : decode cX8_row 30 = .ok (.iconst 0, 1) := by decide +kernel
theorem aX8_row_30 {l0 l1 : Value} {st : List Value} {fs : List Fm} {M : List va_E} {Q : List va_E → Option Value → Prop} : Rn mX8_row 30 [l0, l1] st fs M Q ↔ Rn mX8_row 31 [l0, l1] (.int 0 :: st) fs M Q := R_iconst hbX8_row (by decide) dX8_row_30
theorem dX8_row_31 : decode cX8_row 31 = .ok (.istore_n 1, 1) := by decide +kernel
theorem aX8_row_31 {x : Int32} {l0 l1 : Value} {st : List Value} {fs : List Fm} {M : List va_E} {Q : List va_E → Option Value → Prop} : Rn mX8_row 31 [l0, l1] (.int x :: st) fs M Q ↔ Rn mX8_row 32 [l0, .int x] st fs M Q := R_istore_n hbX8_row hmX8_row hlX8_row (by decide) (by decide) rfl dX8_row_31
theorem dX8_row_32 : decode cX8_row 32 = .ok (.iload_n 1, 1) := by decide +kernel
theorem aX8_row_32 {x : Int32} {l0 : Value} {st : List Value} {fs : List Fm} {M : List va_E} {Q : List va_E → Option Value → Prop} : Rn mX8_row 32 [l0, .int x] st fs M Q ↔ Rn mX8_row 33 [l0, .int x] (.int x :: st) fs M Q := R_iload_n hbX8_row rfl dX8_row_32
theorem dX8_row_33 : decode cX8_row 33 = .ok (.bipush 12, 2) := by decide +kernel
theorem aX8_row_33 {l0 l1 : Value} {st : List Value} {fs : List Fm} {M : List va_E} {Q : List va_E → Option Value → Prop} : Rn mX8_row 33 [l0, l1] st fs M Q ↔ Rn mX8_row 35 [l0, l1] (.int 12 :: st) fs M Q := R_bipush hbX8_row (by decide) dX8_row_33
theorem dX8_row_35 : decode cX8_row 35 = .ok (.if_icmp .ge 16, 3) := by decide +kernel
theorem aX8_row_35 {x y : Int32} {l0 l1 : Value} {st : List Value} {fs : List Fm} {M : List va_E} {Q : List va_E → Option Value → Prop} : Rn mX8_row 35 [l0, l1] (.int y :: .int x :: st) fs M Q ↔ if y ≤ x then Rn mX8_row 51 [l0, l1] st fs M Q else Rn mX8_row 38 [l0, l1] st fs M Q := R_icge hbX8_row rfl dX8_row_35
theorem dX8_row_38 : decode cX8_row 38 = .ok (.aload_n 0, 1) := by decide +kernel
theorem aX8_row_38 {x : Nat} {l1 : Value} {st : List Value} {fs : List Fm} {M : List va_E} {Q : List va_E → Option Value → Prop} : Rn mX8_row 38 [.ref x, l1] st fs M Q ↔ Rn mX8_row 39 [.ref x, l1] (.ref x :: st) fs M Q := R_aload_n hbX8_row rfl dX8_row_38
theorem dX8_row_39 : decode cX8_row 39 = .ok (.getfield 38, 3) := by decide +kernel
theorem aX8_row_39 {l0 l1 : Value} {st : List Value} {fs : List Fm} {σ : Mem} {Q : List va_E → Option Value → Prop} : Rn mX8_row 39 [l0, l1] (.ref (ad 29 0) :: st) fs (enc σ) Q ↔ Rn mX8_row 42 [l0, l1] (.ref (ad 38 0) :: st) fs (enc σ) Q := R_get hbX8_row hoX8_row fl_8_38 (gf_8_10 (by decide) σ) dX8_row_39
theorem dX8_row_42 : decode cX8_row 42 = .ok (.iload_n 1, 1) := by decide +kernel
theorem aX8_row_42 {x : Int32} {l0 : Value} {st : List Value} {fs : List Fm} {M : List va_E} {Q : List va_E → Option Value → Prop} : Rn mX8_row 42 [l0, .int x] st fs M Q ↔ Rn mX8_row 43 [l0, .int x] (.int x :: st) fs M Q := R_iload_n hbX8_row rfl dX8_row_42
theorem dX8_row_43 : decode cX8_row 43 = .ok (.iconst 0, 1) := by decide +kernel
theorem aX8_row_43 {l0 l1 : Value} {st : List Value} {fs : List Fm} {M : List va_E} {Q : List va_E → Option Value → Prop} : Rn mX8_row 43 [l0, l1] st fs M Q ↔ Rn mX8_row 44 [l0, l1] (.int 0 :: st) fs M Q := R_iconst hbX8_row (by decide) dX8_row_43
theorem dX8_row_44 : decode cX8_row 44 = .ok (.iastore, 1) := by decide +kernel
theorem aX8_row_44 {k i : Nat} {j x : Int32} (ht : aT k = 0) (hi : i < cnt k) {l0 l1 : Value} {st : List Value} {fs : List Fm} {σ : Mem} {Q : List va_E → Option Value → Prop} : Rn mX8_row 44 [l0, l1] (.int x :: .int j :: .ref (ad k i) :: st) fs (enc σ) Q ↔ vp_in j (aN k) ∧ Rn mX8_row 45 [l0, l1] st fs (enc (upS σ k i j.toNatClampNeg x)) Q := R_iastore hbX8_row ht hi dX8_row_44
theorem dX8_row_45 : decode cX8_row 45 = .ok (.iinc 1 1, 3) := by decide +kernel
theorem aX8_row_45 {x : Int32} {l0 : Value} {st : List Value} {fs : List Fm} {M : List va_E} {Q : List va_E → Option Value → Prop} : Rn mX8_row 45 [l0, .int x] st fs M Q ↔ Rn mX8_row 48 [l0, .int (x + 1)] st fs M Q := R_iinc hbX8_row hmX8_row hlX8_row (by decide) (by decide) rfl (by decide) rfl dX8_row_45
theorem dX8_row_48 : decode cX8_row 48 = .ok (.goto (-16), 3) := by decide +kernel
theorem aX8_row_48 {l0 l1 : Value} {st : List Value} {fs : List Fm} {M : List va_E} {Q : List va_E → Option Value → Prop} : Rn mX8_row 48 [l0, l1] st fs M Q ↔ Rn mX8_row 32 [l0, l1] st fs M Q := R_goto hbX8_row rfl dX8_row_48
theorem dX8_row_51 : decode cX8_row 51 = .ok (.iconst 0, 1) := by decide +kernel
theorem aX8_row_51 {l0 l1 : Value} {st : List Value} {fs : List Fm} {M : List va_E} {Q : List va_E → Option Value → Prop} : Rn mX8_row 51 [l0, l1] st fs M Q ↔ Rn mX8_row 52 [l0, l1] (.int 0 :: st) fs M Q := R_iconst hbX8_row (by decide) dX8_row_51
theorem dX8_row_52 : decode cX8_row 52 = .ok (.istore_n 1, 1) := by decide +kernel
theorem aX8_row_52 {x : Int32} {l0 l1 : Value} {st : List Value} {fs : List Fm} {M : List va_E} {Q : List va_E → Option Value → Prop} : Rn mX8_row 52 [l0, l1] (.int x :: st) fs M Q ↔ Rn mX8_row 53 [l0, .int x] st fs M Q := R_istore_n hbX8_row hmX8_row hlX8_row (by decide) (by decide) rfl dX8_row_52
theorem dX8_row_53 : decode cX8_row 53 = .ok (.iload_n 1, 1) := by decide +kernel
theorem aX8_row_53 {x : Int32} {l0 : Value} {st : List Value} {fs : List Fm} {M : List va_E} {Q : List va_E → Option Value → Prop} : Rn mX8_row 53 [l0, .int x] st fs M Q ↔ Rn mX8_row 54 [l0, .int x] (.int x :: st) fs M Q := R_iload_n hbX8_row rfl dX8_row_53
theorem dX8_row_54 : decode cX8_row 54 = .ok (.bipush 7, 2) := by decide +kernel
theorem aX8_row_54 {l0 l1 : Value} {st : List Value} {fs : List Fm} {M : List va_E} {Q : List va_E → Option Value → Prop} : Rn mX8_row 54 [l0, l1] st fs M Q ↔ Rn mX8_row 56 [l0, l1] (.int 7 :: st) fs M Q := R_bipush hbX8_row (by decide) dX8_row_54
theorem dX8_row_56 : decode cX8_row 56 = .ok (.if_icmp .ge 37, 3) := by decide +kernel
theorem aX8_row_56 {x y : Int32} {l0 l1 : Value} {st : List Value} {fs : List Fm} {M : List va_E} {Q : List va_E → Option Value → Prop} : Rn mX8_row 56 [l0, l1] (.int y :: .int x :: st) fs M Q ↔ if y ≤ x then Rn mX8_row 93 [l0, l1] st fs M Q else Rn mX8_row 59 [l0, l1] st fs M Q := R_icge hbX8_row rfl dX8_row_56
theorem dX8_row_59 : decode cX8_row 59 = .ok (.aload_n 0, 1) := by decide +kernel
theorem aX8_row_59 {x : Nat} {l1 : Value} {st : List Value} {fs : List Fm} {M : List va_E} {Q : List va_E → Option Value → Prop} : Rn mX8_row 59 [.ref x, l1] st fs M Q ↔ Rn mX8_row 60 [.ref x, l1] (.ref x :: st) fs M Q := R_aload_n hbX8_row rfl dX8_row_59
theorem dX8_row_60 : decode cX8_row 60 = .ok (.getfield 41, 3) := by decide +kernel
theorem aX8_row_60 {l0 l1 : Value} {st : List Value} {fs : List Fm} {σ : Mem} {Q : List va_E → Option Value → Prop} : Rn mX8_row 60 [l0, l1] (.ref (ad 29 0) :: st) fs (enc σ) Q ↔ Rn mX8_row 63 [l0, l1] (.ref (ad 39 0) :: st) fs (enc σ) Q := R_get hbX8_row hoX8_row fl_8_41 (gf_8_11 (by decide) σ) dX8_row_60
theorem dX8_row_63 : decode cX8_row 63 = .ok (.iload_n 1, 1) := by decide +kernel
theorem aX8_row_63 {x : Int32} {l0 : Value} {st : List Value} {fs : List Fm} {M : List va_E} {Q : List va_E → Option Value → Prop} : Rn mX8_row 63 [l0, .int x] st fs M Q ↔ Rn mX8_row 64 [l0, .int x] (.int x :: st) fs M Q := R_iload_n hbX8_row rfl dX8_row_63
theorem dX8_row_64 : decode cX8_row 64 = .ok (.iconst 0, 1) := by decide +kernel
theorem aX8_row_64 {l0 l1 : Value} {st : List Value} {fs : List Fm} {M : List va_E} {Q : List va_E → Option Value → Prop} : Rn mX8_row 64 [l0, l1] st fs M Q ↔ Rn mX8_row 65 [l0, l1] (.int 0 :: st) fs M Q := R_iconst hbX8_row (by decide) dX8_row_64
theorem dX8_row_65 : decode cX8_row 65 = .ok (.iastore, 1) := by decide +kernel
theorem aX8_row_65 {k i : Nat} {j x : Int32} (ht : aT k = 0) (hi : i < cnt k) {l0 l1 : Value} {st : List Value} {fs : List Fm} {σ : Mem} {Q : List va_E → Option Value → Prop} : Rn mX8_row 65 [l0, l1] (.int x :: .int j :: .ref (ad k i) :: st) fs (enc σ) Q ↔ vp_in j (aN k) ∧ Rn mX8_row 66 [l0, l1] st fs (enc (upS σ k i j.toNatClampNeg x)) Q := R_iastore hbX8_row ht hi dX8_row_65
theorem dX8_row_66 : decode cX8_row 66 = .ok (.aload_n 0, 1) := by decide +kernel
theorem aX8_row_66 {x : Nat} {l1 : Value} {st : List Value} {fs : List Fm} {M : List va_E} {Q : List va_E → Option Value → Prop} : Rn mX8_row 66 [.ref x, l1] st fs M Q ↔ Rn mX8_row 67 [.ref x, l1] (.ref x :: st) fs M Q := R_aload_n hbX8_row rfl dX8_row_66
theorem dX8_row_67 : decode cX8_row 67 = .ok (.getfield 44, 3) := by decide +kernel
theorem aX8_row_67 {l0 l1 : Value} {st : List Value} {fs : List Fm} {σ : Mem} {Q : List va_E → Option Value → Prop} : Rn mX8_row 67 [l0, l1] (.ref (ad 29 0) :: st) fs (enc σ) Q ↔ Rn mX8_row 70 [l0, l1] (.ref (ad 40 0) :: st) fs (enc σ) Q := R_get hbX8_row hoX8_row fl_8_44 (gf_8_12 (by decide) σ) dX8_row_67
theorem dX8_row_70 : decode cX8_row 70 = .ok (.iload_n 1, 1) := by decide +kernel
theorem aX8_row_70 {x : Int32} {l0 : Value} {st : List Value} {fs : List Fm} {M : List va_E} {Q : List va_E → Option Value → Prop} : Rn mX8_row 70 [l0, .int x] st fs M Q ↔ Rn mX8_row 71 [l0, .int x] (.int x :: st) fs M Q := R_iload_n hbX8_row rfl dX8_row_70
theorem dX8_row_71 : decode cX8_row 71 = .ok (.iconst 0, 1) := by decide +kernel
theorem aX8_row_71 {l0 l1 : Value} {st : List Value} {fs : List Fm} {M : List va_E} {Q : List va_E → Option Value → Prop} : Rn mX8_row 71 [l0, l1] st fs M Q ↔ Rn mX8_row 72 [l0, l1] (.int 0 :: st) fs M Q := R_iconst hbX8_row (by decide) dX8_row_71
theorem dX8_row_72 : decode cX8_row 72 = .ok (.iastore, 1) := by decide +kernel
theorem aX8_row_72 {k i : Nat} {j x : Int32} (ht : aT k = 0) (hi : i < cnt k) {l0 l1 : Value} {st : List Value} {fs : List Fm} {σ : Mem} {Q : List va_E → Option Value → Prop} : Rn mX8_row 72 [l0, l1] (.int x :: .int j :: .ref (ad k i) :: st) fs (enc σ) Q ↔ vp_in j (aN k) ∧ Rn mX8_row 73 [l0, l1] st fs (enc (upS σ k i j.toNatClampNeg x)) Q := R_iastore hbX8_row ht hi dX8_row_72
theorem dX8_row_73 : decode cX8_row 73 = .ok (.aload_n 0, 1) := by decide +kernel
theorem aX8_row_73 {x : Nat} {l1 : Value} {st : List Value} {fs : List Fm} {M : List va_E} {Q : List va_E → Option Value → Prop} : Rn mX8_row 73 [.ref x, l1] st fs M Q ↔ Rn mX8_row 74 [.ref x, l1] (.ref x :: st) fs M Q := R_aload_n hbX8_row rfl dX8_row_73
theorem dX8_row_74 : decode cX8_row 74 = .ok (.getfield 47, 3) := by decide +kernel
theorem aX8_row_74 {l0 l1 : Value} {st : List Value} {fs : List Fm} {σ : Mem} {Q : List va_E → Option Value → Prop} : Rn mX8_row 74 [l0, l1] (.ref (ad 29 0) :: st) fs (enc σ) Q ↔ Rn mX8_row 77 [l0, l1] (.ref (ad 41 0) :: st) fs (enc σ) Q := R_get hbX8_row hoX8_row fl_8_47 (gf_8_13 (by decide) σ) dX8_row_74
theorem dX8_row_77 : decode cX8_row 77 = .ok (.iload_n 1, 1) := by decide +kernel
theorem aX8_row_77 {x : Int32} {l0 : Value} {st : List Value} {fs : List Fm} {M : List va_E} {Q : List va_E → Option Value → Prop} : Rn mX8_row 77 [l0, .int x] st fs M Q ↔ Rn mX8_row 78 [l0, .int x] (.int x :: st) fs M Q := R_iload_n hbX8_row rfl dX8_row_77
theorem dX8_row_78 : decode cX8_row 78 = .ok (.iconst 0, 1) := by decide +kernel
theorem aX8_row_78 {l0 l1 : Value} {st : List Value} {fs : List Fm} {M : List va_E} {Q : List va_E → Option Value → Prop} : Rn mX8_row 78 [l0, l1] st fs M Q ↔ Rn mX8_row 79 [l0, l1] (.int 0 :: st) fs M Q := R_iconst hbX8_row (by decide) dX8_row_78
theorem dX8_row_79 : decode cX8_row 79 = .ok (.iastore, 1) := by decide +kernel
theorem aX8_row_79 {k i : Nat} {j x : Int32} (ht : aT k = 0) (hi : i < cnt k) {l0 l1 : Value} {st : List Value} {fs : List Fm} {σ : Mem} {Q : List va_E → Option Value → Prop} : Rn mX8_row 79 [l0, l1] (.int x :: .int j :: .ref (ad k i) :: st) fs (enc σ) Q ↔ vp_in j (aN k) ∧ Rn mX8_row 80 [l0, l1] st fs (enc (upS σ k i j.toNatClampNeg x)) Q := R_iastore hbX8_row ht hi dX8_row_79
theorem dX8_row_80 : decode cX8_row 80 = .ok (.aload_n 0, 1) := by decide +kernel
theorem aX8_row_80 {x : Nat} {l1 : Value} {st : List Value} {fs : List Fm} {M : List va_E} {Q : List va_E → Option Value → Prop} : Rn mX8_row 80 [.ref x, l1] st fs M Q ↔ Rn mX8_row 81 [.ref x, l1] (.ref x :: st) fs M Q := R_aload_n hbX8_row rfl dX8_row_80
theorem dX8_row_81 : decode cX8_row 81 = .ok (.getfield 50, 3) := by decide +kernel
theorem aX8_row_81 {l0 l1 : Value} {st : List Value} {fs : List Fm} {σ : Mem} {Q : List va_E → Option Value → Prop} : Rn mX8_row 81 [l0, l1] (.ref (ad 29 0) :: st) fs (enc σ) Q ↔ Rn mX8_row 84 [l0, l1] (.ref (ad 42 0) :: st) fs (enc σ) Q := R_get hbX8_row hoX8_row fl_8_50 (gf_8_14 (by decide) σ) dX8_row_81
theorem dX8_row_84 : decode cX8_row 84 = .ok (.iload_n 1, 1) := by decide +kernel
theorem aX8_row_84 {x : Int32} {l0 : Value} {st : List Value} {fs : List Fm} {M : List va_E} {Q : List va_E → Option Value → Prop} : Rn mX8_row 84 [l0, .int x] st fs M Q ↔ Rn mX8_row 85 [l0, .int x] (.int x :: st) fs M Q := R_iload_n hbX8_row rfl dX8_row_84
theorem dX8_row_85 : decode cX8_row 85 = .ok (.iconst 0, 1) := by decide +kernel
theorem aX8_row_85 {l0 l1 : Value} {st : List Value} {fs : List Fm} {M : List va_E} {Q : List va_E → Option Value → Prop} : Rn mX8_row 85 [l0, l1] st fs M Q ↔ Rn mX8_row 86 [l0, l1] (.int 0 :: st) fs M Q := R_iconst hbX8_row (by decide) dX8_row_85
theorem dX8_row_86 : decode cX8_row 86 = .ok (.iastore, 1) := by decide +kernel
theorem aX8_row_86 {k i : Nat} {j x : Int32} (ht : aT k = 0) (hi : i < cnt k) {l0 l1 : Value} {st : List Value} {fs : List Fm} {σ : Mem} {Q : List va_E → Option Value → Prop} : Rn mX8_row 86 [l0, l1] (.int x :: .int j :: .ref (ad k i) :: st) fs (enc σ) Q ↔ vp_in j (aN k) ∧ Rn mX8_row 87 [l0, l1] st fs (enc (upS σ k i j.toNatClampNeg x)) Q := R_iastore hbX8_row ht hi dX8_row_86
theorem dX8_row_87 : decode cX8_row 87 = .ok (.iinc 1 1, 3) := by decide +kernel
theorem aX8_row_87 {x : Int32} {l0 : Value} {st : List Value} {fs : List Fm} {M : List va_E} {Q : List va_E → Option Value → Prop} : Rn mX8_row 87 [l0, .int x] st fs M Q ↔ Rn mX8_row 90 [l0, .int (x + 1)] st fs M Q := R_iinc hbX8_row hmX8_row hlX8_row (by decide) (by decide) rfl (by decide) rfl dX8_row_87
theorem dX8_row_90 : decode cX8_row 90 = .ok (.goto (-37), 3) := by decide +kernel
theorem aX8_row_90 {l0 l1 : Value} {st : List Value} {fs : List Fm} {M : List va_E} {Q : List va_E → Option Value → Prop} : Rn mX8_row 90 [l0, l1] st fs M Q ↔ Rn mX8_row 53 [l0, l1] st fs M Q := R_goto hbX8_row rfl dX8_row_90
theorem dX8_row_93 : decode cX8_row 93 = .ok (.aload_n 0, 1) := by decide +kernel
theorem aX8_row_93 {x : Nat} {l1 : Value} {st : List Value} {fs : List Fm} {M : List va_E} {Q : List va_E → Option Value → Prop} : Rn mX8_row 93 [.ref x, l1] st fs M Q ↔ Rn mX8_row 94 [.ref x, l1] (.ref x :: st) fs M Q := R_aload_n hbX8_row rfl dX8_row_93
theorem dX8_row_94 : decode cX8_row 94 = .ok (.invokevirtual 100, 3) := by decide +kernel
theorem aX8_row_94 {l0 l1 : Value} {st : List Value} {fs : List Fm} {σ : Mem} {Q : List va_E → Option Value → Prop} : Rn mX8_row 94 [l0, l1] (.ref (ad 29 0) :: st) fs (enc σ) Q ↔ cats st ≤ 8 ∧ Rn mX8_skips 0 [.ref (ad 29 0)] [] ((mX8_row, 97, [l0, l1], st) :: fs) (enc σ) Q := R_V (As := []) hbX8_row hoX8_row cl_8_100 hnX8_skips rfl (by decide +kernel) rfl rfl rfl (isO_29 (by decide) σ) dX8_row_94
theorem dX8_row_97 : decode cX8_row 97 = .ok (.aload_n 0, 1) := by decide +kernel
theorem aX8_row_97 {x : Nat} {l1 : Value} {st : List Value} {fs : List Fm} {M : List va_E} {Q : List va_E → Option Value → Prop} : Rn mX8_row 97 [.ref x, l1] st fs M Q ↔ Rn mX8_row 98 [.ref x, l1] (.ref x :: st) fs M Q := R_aload_n hbX8_row rfl dX8_row_97
theorem dX8_row_98 : decode cX8_row 98 = .ok (.invokevirtual 123, 3) := by decide +kernel
theorem aX8_row_98 {l0 l1 : Value} {st : List Value} {fs : List Fm} {σ : Mem} {Q : List va_E → Option Value → Prop} : Rn mX8_row 98 [l0, l1] (.ref (ad 29 0) :: st) fs (enc σ) Q ↔ cats st ≤ 8 ∧ Rn mX8_reads 0 [.ref (ad 29 0)] [] ((mX8_row, 101, [l0, l1], st) :: fs) (enc σ) Q := R_V (As := []) hbX8_row hoX8_row cl_8_123 hnX8_reads rfl (by decide +kernel) rfl rfl rfl (isO_29 (by decide) σ) dX8_row_98
theorem dX8_row_101 : decode cX8_row 101 = .ok (.aload_n 0, 1) := by decide +kernel
theorem aX8_row_101 {x : Nat} {l1 : Value} {st : List Value} {fs : List Fm} {M : List va_E} {Q : List va_E → Option Value → Prop} : Rn mX8_row 101 [.ref x, l1] st fs M Q ↔ Rn mX8_row 102 [.ref x, l1] (.ref x :: st) fs M Q := R_aload_n hbX8_row rfl dX8_row_101
theorem dX8_row_102 : decode cX8_row 102 = .ok (.iconst 0, 1) := by decide +kernel
theorem aX8_row_102 {l0 l1 : Value} {st : List Value} {fs : List Fm} {M : List va_E} {Q : List va_E → Option Value → Prop} : Rn mX8_row 102 [l0, l1] st fs M Q ↔ Rn mX8_row 103 [l0, l1] (.int 0 :: st) fs M Q := R_iconst hbX8_row (by decide) dX8_row_102
theorem dX8_row_103 : decode cX8_row 103 = .ok (.putfield 86, 3) := by decide +kernel
theorem aX8_row_103 {x : Int32} {l0 l1 : Value} {st : List Value} {fs : List Fm} {σ : Mem} {Q : List va_E → Option Value → Prop} : Rn mX8_row 103 [l0, l1] (.int x :: .ref (ad 29 0) :: st) fs (enc σ) Q ↔ Rn mX8_row 106 [l0, l1] st fs (enc (upS σ 29 0 1 x)) Q := R_put hbX8_row hoX8_row fl_8_86 (pf_8_1 (by decide) σ x) dX8_row_103
theorem dX8_row_106 : decode cX8_row 106 = .ok (.aload_n 0, 1) := by decide +kernel
theorem aX8_row_106 {x : Nat} {l1 : Value} {st : List Value} {fs : List Fm} {M : List va_E} {Q : List va_E → Option Value → Prop} : Rn mX8_row 106 [.ref x, l1] st fs M Q ↔ Rn mX8_row 107 [.ref x, l1] (.ref x :: st) fs M Q := R_aload_n hbX8_row rfl dX8_row_106
theorem dX8_row_107 : decode cX8_row 107 = .ok (.aload_n 0, 1) := by decide +kernel
theorem aX8_row_107 {x : Nat} {l1 : Value} {st : List Value} {fs : List Fm} {M : List va_E} {Q : List va_E → Option Value → Prop} : Rn mX8_row 107 [.ref x, l1] st fs M Q ↔ Rn mX8_row 108 [.ref x, l1] (.ref x :: st) fs M Q := R_aload_n hbX8_row rfl dX8_row_107
theorem dX8_row_108 : decode cX8_row 108 = .ok (.getfield 93, 3) := by decide +kernel
theorem aX8_row_108 {l0 l1 : Value} {st : List Value} {fs : List Fm} {σ : Mem} {Q : List va_E → Option Value → Prop} : Rn mX8_row 108 [l0, l1] (.ref (ad 29 0) :: st) fs (enc σ) Q ↔ Rn mX8_row 111 [l0, l1] (.int (σ 29 0 28) :: st) fs (enc σ) Q := R_get hbX8_row hoX8_row fl_8_93 (gf_8_28 (by decide) σ) dX8_row_108
theorem dX8_row_111 : decode cX8_row 111 = .ok (.ifCond .ne 7, 3) := by decide +kernel
theorem aX8_row_111 {x : Int32} {l0 l1 : Value} {st : List Value} {fs : List Fm} {M : List va_E} {Q : List va_E → Option Value → Prop} : Rn mX8_row 111 [l0, l1] (.int x :: st) fs M Q ↔ if ¬ x = 0 then Rn mX8_row 118 [l0, l1] st fs M Q else Rn mX8_row 114 [l0, l1] st fs M Q := R_ifne hbX8_row rfl dX8_row_111
theorem dX8_row_114 : decode cX8_row 114 = .ok (.iconst (-1), 1) := by decide +kernel
theorem aX8_row_114 {l0 l1 : Value} {st : List Value} {fs : List Fm} {M : List va_E} {Q : List va_E → Option Value → Prop} : Rn mX8_row 114 [l0, l1] st fs M Q ↔ Rn mX8_row 115 [l0, l1] (.int (-1) :: st) fs M Q := R_iconst hbX8_row (by decide) dX8_row_114
theorem dX8_row_115 : decode cX8_row 115 = .ok (.goto 7, 3) := by decide +kernel
theorem aX8_row_115 {l0 l1 : Value} {st : List Value} {fs : List Fm} {M : List va_E} {Q : List va_E → Option Value → Prop} : Rn mX8_row 115 [l0, l1] st fs M Q ↔ Rn mX8_row 122 [l0, l1] st fs M Q := R_goto hbX8_row rfl dX8_row_115
theorem dX8_row_118 : decode cX8_row 118 = .ok (.aload_n 0, 1) := by decide +kernel
theorem aX8_row_118 {x : Nat} {l1 : Value} {st : List Value} {fs : List Fm} {M : List va_E} {Q : List va_E → Option Value → Prop} : Rn mX8_row 118 [.ref x, l1] st fs M Q ↔ Rn mX8_row 119 [.ref x, l1] (.ref x :: st) fs M Q := R_aload_n hbX8_row rfl dX8_row_118
theorem dX8_row_119 : decode cX8_row 119 = .ok (.getfield 90, 3) := by decide +kernel
theorem aX8_row_119 {l0 l1 : Value} {st : List Value} {fs : List Fm} {σ : Mem} {Q : List va_E → Option Value → Prop} : Rn mX8_row 119 [l0, l1] (.ref (ad 29 0) :: st) fs (enc σ) Q ↔ Rn mX8_row 122 [l0, l1] (.int (σ 29 0 27) :: st) fs (enc σ) Q := R_get hbX8_row hoX8_row fl_8_90 (gf_8_27 (by decide) σ) dX8_row_119
theorem dX8_row_122 : decode cX8_row 122 = .ok (.putfield 13, 3) := by decide +kernel
theorem aX8_row_122 {x : Int32} {l0 l1 : Value} {st : List Value} {fs : List Fm} {σ : Mem} {Q : List va_E → Option Value → Prop} : Rn mX8_row 122 [l0, l1] (.int x :: .ref (ad 29 0) :: st) fs (enc σ) Q ↔ Rn mX8_row 125 [l0, l1] st fs (enc (upS σ 29 0 2 x)) Q := R_put hbX8_row hoX8_row fl_8_13 (pf_8_2 (by decide) σ x) dX8_row_122
theorem dX8_row_125 : decode cX8_row 125 = .ok (.aload_n 0, 1) := by decide +kernel
theorem aX8_row_125 {x : Nat} {l1 : Value} {st : List Value} {fs : List Fm} {M : List va_E} {Q : List va_E → Option Value → Prop} : Rn mX8_row 125 [.ref x, l1] st fs M Q ↔ Rn mX8_row 126 [.ref x, l1] (.ref x :: st) fs M Q := R_aload_n hbX8_row rfl dX8_row_125
theorem dX8_row_126 : decode cX8_row 126 = .ok (.getfield 93, 3) := by decide +kernel
theorem aX8_row_126 {l0 l1 : Value} {st : List Value} {fs : List Fm} {σ : Mem} {Q : List va_E → Option Value → Prop} : Rn mX8_row 126 [l0, l1] (.ref (ad 29 0) :: st) fs (enc σ) Q ↔ Rn mX8_row 129 [l0, l1] (.int (σ 29 0 28) :: st) fs (enc σ) Q := R_get hbX8_row hoX8_row fl_8_93 (gf_8_28 (by decide) σ) dX8_row_126
theorem dX8_row_129 : decode cX8_row 129 = .ok (.ifCond .eq 11, 3) := by decide +kernel
theorem aX8_row_129 {x : Int32} {l0 l1 : Value} {st : List Value} {fs : List Fm} {M : List va_E} {Q : List va_E → Option Value → Prop} : Rn mX8_row 129 [l0, l1] (.int x :: st) fs M Q ↔ if x = 0 then Rn mX8_row 140 [l0, l1] st fs M Q else Rn mX8_row 132 [l0, l1] st fs M Q := R_ifeq hbX8_row rfl dX8_row_129
theorem dX8_row_132 : decode cX8_row 132 = .ok (.bipush (-10), 2) := by decide +kernel
theorem aX8_row_132 {l0 l1 : Value} {st : List Value} {fs : List Fm} {M : List va_E} {Q : List va_E → Option Value → Prop} : Rn mX8_row 132 [l0, l1] st fs M Q ↔ Rn mX8_row 134 [l0, l1] (.int (-10) :: st) fs M Q := R_bipush hbX8_row (by decide) dX8_row_132
theorem dX8_row_134 : decode cX8_row 134 = .ok (.aload_n 0, 1) := by decide +kernel
theorem aX8_row_134 {x : Nat} {l1 : Value} {st : List Value} {fs : List Fm} {M : List va_E} {Q : List va_E → Option Value → Prop} : Rn mX8_row 134 [.ref x, l1] st fs M Q ↔ Rn mX8_row 135 [.ref x, l1] (.ref x :: st) fs M Q := R_aload_n hbX8_row rfl dX8_row_134
theorem dX8_row_135 : decode cX8_row 135 = .ok (.getfield 93, 3) := by decide +kernel
theorem aX8_row_135 {l0 l1 : Value} {st : List Value} {fs : List Fm} {σ : Mem} {Q : List va_E → Option Value → Prop} : Rn mX8_row 135 [l0, l1] (.ref (ad 29 0) :: st) fs (enc σ) Q ↔ Rn mX8_row 138 [l0, l1] (.int (σ 29 0 28) :: st) fs (enc σ) Q := R_get hbX8_row hoX8_row fl_8_93 (gf_8_28 (by decide) σ) dX8_row_135
theorem dX8_row_138 : decode cX8_row 138 = .ok (.isub, 1) := by decide +kernel
theorem aX8_row_138 {x y : Int32} {l0 l1 : Value} {st : List Value} {fs : List Fm} {M : List va_E} {Q : List va_E → Option Value → Prop} : Rn mX8_row 138 [l0, l1] (.int y :: .int x :: st) fs M Q ↔ Rn mX8_row 139 [l0, l1] (.int (x - y) :: st) fs M Q := R_isub hbX8_row dX8_row_138
theorem dX8_row_139 : decode cX8_row 139 = .ok (.ireturn, 1) := by decide +kernel
theorem aX8_row_139 {x : Int32} {l0 l1 : Value} {fs : List Fm} {M : List va_E} {Q : List va_E → Option Value → Prop} : Rn mX8_row 139 [l0, l1] [.int x] fs M Q ↔ Rt fs M (some (.int x)) Q := R_reti hbX8_row hrX8_row dX8_row_139
theorem dX8_row_140 : decode cX8_row 140 = .ok (.aload_n 0, 1) := by decide +kernel
theorem aX8_row_140 {x : Nat} {l1 : Value} {st : List Value} {fs : List Fm} {M : List va_E} {Q : List va_E → Option Value → Prop} : Rn mX8_row 140 [.ref x, l1] st fs M Q ↔ Rn mX8_row 141 [.ref x, l1] (.ref x :: st) fs M Q := R_aload_n hbX8_row rfl dX8_row_140
theorem dX8_row_141 : decode cX8_row 141 = .ok (.invokevirtual 126, 3) := by decide +kernel
theorem aX8_row_141 {l0 l1 : Value} {st : List Value} {fs : List Fm} {σ : Mem} {Q : List va_E → Option Value → Prop} : Rn mX8_row 141 [l0, l1] (.ref (ad 29 0) :: st) fs (enc σ) Q ↔ cats st ≤ 8 ∧ Rn mX8_takesAll 0 [.ref (ad 29 0), .null] [] ((mX8_row, 144, [l0, l1], st) :: fs) (enc σ) Q := R_V (As := []) hbX8_row hoX8_row cl_8_126 hnX8_takesAll rfl (by decide +kernel) rfl rfl rfl (isO_29 (by decide) σ) dX8_row_141
theorem dX8_row_144 : decode cX8_row 144 = .ok (.aload_n 0, 1) := by decide +kernel
theorem aX8_row_144 {x : Nat} {l1 : Value} {st : List Value} {fs : List Fm} {M : List va_E} {Q : List va_E → Option Value → Prop} : Rn mX8_row 144 [.ref x, l1] st fs M Q ↔ Rn mX8_row 145 [.ref x, l1] (.ref x :: st) fs M Q := R_aload_n hbX8_row rfl dX8_row_144
theorem dX8_row_145 : decode cX8_row 145 = .ok (.iconst 0, 1) := by decide +kernel
theorem aX8_row_145 {l0 l1 : Value} {st : List Value} {fs : List Fm} {M : List va_E} {Q : List va_E → Option Value → Prop} : Rn mX8_row 145 [l0, l1] st fs M Q ↔ Rn mX8_row 146 [l0, l1] (.int 0 :: st) fs M Q := R_iconst hbX8_row (by decide) dX8_row_145
theorem dX8_row_146 : decode cX8_row 146 = .ok (.putfield 129, 3) := by decide +kernel
theorem aX8_row_146 {x : Int32} {l0 l1 : Value} {st : List Value} {fs : List Fm} {σ : Mem} {Q : List va_E → Option Value → Prop} : Rn mX8_row 146 [l0, l1] (.int x :: .ref (ad 29 0) :: st) fs (enc σ) Q ↔ Rn mX8_row 149 [l0, l1] st fs (enc (upS σ 29 0 18 x)) Q := R_put hbX8_row hoX8_row fl_8_129 (pf_8_18 (by decide) σ x) dX8_row_146
theorem dX8_row_149 : decode cX8_row 149 = .ok (.aload_n 0, 1) := by decide +kernel
theorem aX8_row_149 {x : Nat} {l1 : Value} {st : List Value} {fs : List Fm} {M : List va_E} {Q : List va_E → Option Value → Prop} : Rn mX8_row 149 [.ref x, l1] st fs M Q ↔ Rn mX8_row 150 [.ref x, l1] (.ref x :: st) fs M Q := R_aload_n hbX8_row rfl dX8_row_149
theorem dX8_row_150 : decode cX8_row 150 = .ok (.iconst 0, 1) := by decide +kernel
theorem aX8_row_150 {l0 l1 : Value} {st : List Value} {fs : List Fm} {M : List va_E} {Q : List va_E → Option Value → Prop} : Rn mX8_row 150 [l0, l1] st fs M Q ↔ Rn mX8_row 151 [l0, l1] (.int 0 :: st) fs M Q := R_iconst hbX8_row (by decide) dX8_row_150
theorem dX8_row_151 : decode cX8_row 151 = .ok (.putfield 132, 3) := by decide +kernel
theorem aX8_row_151 {x : Int32} {l0 l1 : Value} {st : List Value} {fs : List Fm} {σ : Mem} {Q : List va_E → Option Value → Prop} : Rn mX8_row 151 [l0, l1] (.int x :: .ref (ad 29 0) :: st) fs (enc σ) Q ↔ Rn mX8_row 154 [l0, l1] st fs (enc (upS σ 29 0 24 x)) Q := R_put hbX8_row hoX8_row fl_8_132 (pf_8_24 (by decide) σ x) dX8_row_151
theorem dX8_row_154 : decode cX8_row 154 = .ok (.aload_n 0, 1) := by decide +kernel
theorem aX8_row_154 {x : Nat} {l1 : Value} {st : List Value} {fs : List Fm} {M : List va_E} {Q : List va_E → Option Value → Prop} : Rn mX8_row 154 [.ref x, l1] st fs M Q ↔ Rn mX8_row 155 [.ref x, l1] (.ref x :: st) fs M Q := R_aload_n hbX8_row rfl dX8_row_154
theorem dX8_row_155 : decode cX8_row 155 = .ok (.iconst 0, 1) := by decide +kernel
theorem aX8_row_155 {l0 l1 : Value} {st : List Value} {fs : List Fm} {M : List va_E} {Q : List va_E → Option Value → Prop} : Rn mX8_row 155 [l0, l1] st fs M Q ↔ Rn mX8_row 156 [l0, l1] (.int 0 :: st) fs M Q := R_iconst hbX8_row (by decide) dX8_row_155
theorem dX8_row_156 : decode cX8_row 156 = .ok (.putfield 135, 3) := by decide +kernel
theorem aX8_row_156 {x : Int32} {l0 l1 : Value} {st : List Value} {fs : List Fm} {σ : Mem} {Q : List va_E → Option Value → Prop} : Rn mX8_row 156 [l0, l1] (.int x :: .ref (ad 29 0) :: st) fs (enc σ) Q ↔ Rn mX8_row 159 [l0, l1] st fs (enc (upS σ 29 0 26 x)) Q := R_put hbX8_row hoX8_row fl_8_135 (pf_8_26 (by decide) σ x) dX8_row_156
theorem dX8_row_159 : decode cX8_row 159 = .ok (.aload_n 0, 1) := by decide +kernel
theorem aX8_row_159 {x : Nat} {l1 : Value} {st : List Value} {fs : List Fm} {M : List va_E} {Q : List va_E → Option Value → Prop} : Rn mX8_row 159 [.ref x, l1] st fs M Q ↔ Rn mX8_row 160 [.ref x, l1] (.ref x :: st) fs M Q := R_aload_n hbX8_row rfl dX8_row_159
theorem dX8_row_160 : decode cX8_row 160 = .ok (.getfield 68, 3) := by decide +kernel
theorem aX8_row_160 {l0 l1 : Value} {st : List Value} {fs : List Fm} {σ : Mem} {Q : List va_E → Option Value → Prop} : Rn mX8_row 160 [l0, l1] (.ref (ad 29 0) :: st) fs (enc σ) Q ↔ Rn mX8_row 163 [l0, l1] (.ref (ad 48 0) :: st) fs (enc σ) Q := R_get hbX8_row hoX8_row fl_8_68 (gf_8_21 (by decide) σ) dX8_row_160
theorem dX8_row_163 : decode cX8_row 163 = .ok (.iconst 0, 1) := by decide +kernel
theorem aX8_row_163 {l0 l1 : Value} {st : List Value} {fs : List Fm} {M : List va_E} {Q : List va_E → Option Value → Prop} : Rn mX8_row 163 [l0, l1] st fs M Q ↔ Rn mX8_row 164 [l0, l1] (.int 0 :: st) fs M Q := R_iconst hbX8_row (by decide) dX8_row_163
theorem dX8_row_164 : decode cX8_row 164 = .ok (.iconst 0, 1) := by decide +kernel
theorem aX8_row_164 {l0 l1 : Value} {st : List Value} {fs : List Fm} {M : List va_E} {Q : List va_E → Option Value → Prop} : Rn mX8_row 164 [l0, l1] st fs M Q ↔ Rn mX8_row 165 [l0, l1] (.int 0 :: st) fs M Q := R_iconst hbX8_row (by decide) dX8_row_164
theorem dX8_row_165 : decode cX8_row 165 = .ok (.bastore, 1) := by decide +kernel
theorem aX8_row_165 {k i : Nat} {j x : Int32} (ht : aT k = 1) (hi : i < cnt k) {l0 l1 : Value} {st : List Value} {fs : List Fm} {σ : Mem} {Q : List va_E → Option Value → Prop} : Rn mX8_row 165 [l0, l1] (.int x :: .int j :: .ref (ad k i) :: st) fs (enc σ) Q ↔ vp_in j (aN k) ∧ Rn mX8_row 166 [l0, l1] st fs (enc (upS σ k i j.toNatClampNeg (vp_nar .boolean x))) Q := R_bastore hbX8_row ht hi dX8_row_165
theorem dX8_row_166 : decode cX8_row 166 = .ok (.aload_n 0, 1) := by decide +kernel
theorem aX8_row_166 {x : Nat} {l1 : Value} {st : List Value} {fs : List Fm} {M : List va_E} {Q : List va_E → Option Value → Prop} : Rn mX8_row 166 [.ref x, l1] st fs M Q ↔ Rn mX8_row 167 [.ref x, l1] (.ref x :: st) fs M Q := R_aload_n hbX8_row rfl dX8_row_166
theorem dX8_row_167 : decode cX8_row 167 = .ok (.getfield 68, 3) := by decide +kernel
theorem aX8_row_167 {l0 l1 : Value} {st : List Value} {fs : List Fm} {σ : Mem} {Q : List va_E → Option Value → Prop} : Rn mX8_row 167 [l0, l1] (.ref (ad 29 0) :: st) fs (enc σ) Q ↔ Rn mX8_row 170 [l0, l1] (.ref (ad 48 0) :: st) fs (enc σ) Q := R_get hbX8_row hoX8_row fl_8_68 (gf_8_21 (by decide) σ) dX8_row_167
theorem dX8_row_170 : decode cX8_row 170 = .ok (.iconst 1, 1) := by decide +kernel
theorem aX8_row_170 {l0 l1 : Value} {st : List Value} {fs : List Fm} {M : List va_E} {Q : List va_E → Option Value → Prop} : Rn mX8_row 170 [l0, l1] st fs M Q ↔ Rn mX8_row 171 [l0, l1] (.int 1 :: st) fs M Q := R_iconst hbX8_row (by decide) dX8_row_170
theorem dX8_row_171 : decode cX8_row 171 = .ok (.iconst 0, 1) := by decide +kernel
theorem aX8_row_171 {l0 l1 : Value} {st : List Value} {fs : List Fm} {M : List va_E} {Q : List va_E → Option Value → Prop} : Rn mX8_row 171 [l0, l1] st fs M Q ↔ Rn mX8_row 172 [l0, l1] (.int 0 :: st) fs M Q := R_iconst hbX8_row (by decide) dX8_row_171
theorem dX8_row_172 : decode cX8_row 172 = .ok (.bastore, 1) := by decide +kernel
theorem aX8_row_172 {k i : Nat} {j x : Int32} (ht : aT k = 1) (hi : i < cnt k) {l0 l1 : Value} {st : List Value} {fs : List Fm} {σ : Mem} {Q : List va_E → Option Value → Prop} : Rn mX8_row 172 [l0, l1] (.int x :: .int j :: .ref (ad k i) :: st) fs (enc σ) Q ↔ vp_in j (aN k) ∧ Rn mX8_row 173 [l0, l1] st fs (enc (upS σ k i j.toNatClampNeg (vp_nar .boolean x))) Q := R_bastore hbX8_row ht hi dX8_row_172
theorem dX8_row_173 : decode cX8_row 173 = .ok (.aload_n 0, 1) := by decide +kernel
theorem aX8_row_173 {x : Nat} {l1 : Value} {st : List Value} {fs : List Fm} {M : List va_E} {Q : List va_E → Option Value → Prop} : Rn mX8_row 173 [.ref x, l1] st fs M Q ↔ Rn mX8_row 174 [.ref x, l1] (.ref x :: st) fs M Q := R_aload_n hbX8_row rfl dX8_row_173
theorem dX8_row_174 : decode cX8_row 174 = .ok (.getfield 17, 3) := by decide +kernel
theorem aX8_row_174 {l0 l1 : Value} {st : List Value} {fs : List Fm} {σ : Mem} {Q : List va_E → Option Value → Prop} : Rn mX8_row 174 [l0, l1] (.ref (ad 29 0) :: st) fs (enc σ) Q ↔ Rn mX8_row 177 [l0, l1] (.ref (ad 31 0) :: st) fs (enc σ) Q := R_get hbX8_row hoX8_row fl_8_17 (gf_8_3 (by decide) σ) dX8_row_174
theorem dX8_row_177 : decode cX8_row 177 = .ok (.iconst 1, 1) := by decide +kernel
theorem aX8_row_177 {l0 l1 : Value} {st : List Value} {fs : List Fm} {M : List va_E} {Q : List va_E → Option Value → Prop} : Rn mX8_row 177 [l0, l1] st fs M Q ↔ Rn mX8_row 178 [l0, l1] (.int 1 :: st) fs M Q := R_iconst hbX8_row (by decide) dX8_row_177
theorem dX8_row_178 : decode cX8_row 178 = .ok (.iaload, 1) := by decide +kernel
theorem aX8_row_178 {k i : Nat} {j : Int32} (ht : aT k = 0) (hi : i < cnt k) {l0 l1 : Value} {st : List Value} {fs : List Fm} {σ : Mem} {Q : List va_E → Option Value → Prop} : Rn mX8_row 178 [l0, l1] (.int j :: .ref (ad k i) :: st) fs (enc σ) Q ↔ vp_in j (aN k) ∧ Rn mX8_row 179 [l0, l1] (.int (σ k i j.toNatClampNeg) :: st) fs (enc σ) Q := R_iaload hbX8_row ht hi dX8_row_178
theorem dX8_row_179 : decode cX8_row 179 = .ok (.ireturn, 1) := by decide +kernel
theorem aX8_row_179 {x : Int32} {l0 l1 : Value} {fs : List Fm} {M : List va_E} {Q : List va_E → Option Value → Prop} : Rn mX8_row 179 [l0, l1] [.int x] fs M Q ↔ Rt fs M (some (.int x)) Q := R_reti hbX8_row hrX8_row dX8_row_179
theorem dX8_skips_0 : decode cX8_skips 0 = .ok (.aload_n 0, 1) := by decide +kernel
theorem aX8_skips_0 {x : Nat} {st : List Value} {fs : List Fm} {M : List va_E} {Q : List va_E → Option Value → Prop} : Rn mX8_skips 0 [.ref x] st fs M Q ↔ Rn mX8_skips 1 [.ref x] (.ref x :: st) fs M Q := R_aload_n hbX8_skips rfl dX8_skips_0
theorem dX8_skips_1 : decode cX8_skips 1 = .ok (.getfield 93, 3) := by decide +kernel
theorem aX8_skips_1 {l0 : Value} {st : List Value} {fs : List Fm} {σ : Mem} {Q : List va_E → Option Value → Prop} : Rn mX8_skips 1 [l0] (.ref (ad 29 0) :: st) fs (enc σ) Q ↔ Rn mX8_skips 4 [l0] (.int (σ 29 0 28) :: st) fs (enc σ) Q := R_get hbX8_skips hoX8_skips fl_8_93 (gf_8_28 (by decide) σ) dX8_skips_1
theorem dX8_skips_4 : decode cX8_skips 4 = .ok (.ifCond .ne 25, 3) := by decide +kernel
theorem aX8_skips_4 {x : Int32} {l0 : Value} {st : List Value} {fs : List Fm} {M : List va_E} {Q : List va_E → Option Value → Prop} : Rn mX8_skips 4 [l0] (.int x :: st) fs M Q ↔ if ¬ x = 0 then Rn mX8_skips 29 [l0] st fs M Q else Rn mX8_skips 7 [l0] st fs M Q := R_ifne hbX8_skips rfl dX8_skips_4
theorem dX8_skips_7 : decode cX8_skips 7 = .ok (.aload_n 0, 1) := by decide +kernel
theorem aX8_skips_7 {x : Nat} {st : List Value} {fs : List Fm} {M : List va_E} {Q : List va_E → Option Value → Prop} : Rn mX8_skips 7 [.ref x] st fs M Q ↔ Rn mX8_skips 8 [.ref x] (.ref x :: st) fs M Q := R_aload_n hbX8_skips rfl dX8_skips_7
theorem dX8_skips_8 : decode cX8_skips 8 = .ok (.invokevirtual 96, 3) := by decide +kernel
theorem aX8_skips_8 {l0 : Value} {st : List Value} {fs : List Fm} {σ : Mem} {Q : List va_E → Option Value → Prop} : Rn mX8_skips 8 [l0] (.ref (ad 29 0) :: st) fs (enc σ) Q ↔ cats st ≤ 8 ∧ Rn mX8_look 0 [.ref (ad 29 0)] [] ((mX8_skips, 11, [l0], st) :: fs) (enc σ) Q := R_V (As := []) hbX8_skips hoX8_skips cl_8_96 hnX8_look rfl (by decide +kernel) rfl rfl rfl (isO_29 (by decide) σ) dX8_skips_8
theorem dX8_skips_11 : decode cX8_skips 11 = .ok (.bipush 32, 2) := by decide +kernel
theorem aX8_skips_11 {l0 : Value} {st : List Value} {fs : List Fm} {M : List va_E} {Q : List va_E → Option Value → Prop} : Rn mX8_skips 11 [l0] st fs M Q ↔ Rn mX8_skips 13 [l0] (.int 32 :: st) fs M Q := R_bipush hbX8_skips (by decide) dX8_skips_11
theorem dX8_skips_13 : decode cX8_skips 13 = .ok (.if_icmp .ne 16, 3) := by decide +kernel
theorem aX8_skips_13 {x y : Int32} {l0 : Value} {st : List Value} {fs : List Fm} {M : List va_E} {Q : List va_E → Option Value → Prop} : Rn mX8_skips 13 [l0] (.int y :: .int x :: st) fs M Q ↔ if ¬ x = y then Rn mX8_skips 29 [l0] st fs M Q else Rn mX8_skips 16 [l0] st fs M Q := R_icne hbX8_skips rfl dX8_skips_13
theorem dX8_skips_16 : decode cX8_skips 16 = .ok (.aload_n 0, 1) := by decide +kernel
theorem aX8_skips_16 {x : Nat} {st : List Value} {fs : List Fm} {M : List va_E} {Q : List va_E → Option Value → Prop} : Rn mX8_skips 16 [.ref x] st fs M Q ↔ Rn mX8_skips 17 [.ref x] (.ref x :: st) fs M Q := R_aload_n hbX8_skips rfl dX8_skips_16
theorem dX8_skips_17 : decode cX8_skips 17 = .ok (.dup, 1) := by decide +kernel
theorem aX8_skips_17i {x : Int32} {l0 : Value} {st : List Value} {fs : List Fm} {M : List va_E} {Q : List va_E → Option Value → Prop} : Rn mX8_skips 17 [l0] (.int x :: st) fs M Q ↔ Rn mX8_skips 18 [l0] (.int x :: .int x :: st) fs M Q := R_dup_i hbX8_skips dX8_skips_17
theorem aX8_skips_17a {x : Nat} {l0 : Value} {st : List Value} {fs : List Fm} {M : List va_E} {Q : List va_E → Option Value → Prop} : Rn mX8_skips 17 [l0] (.ref x :: st) fs M Q ↔ Rn mX8_skips 18 [l0] (.ref x :: .ref x :: st) fs M Q := R_dup_a hbX8_skips dX8_skips_17
theorem dX8_skips_18 : decode cX8_skips 18 = .ok (.getfield 90, 3) := by decide +kernel
theorem aX8_skips_18 {l0 : Value} {st : List Value} {fs : List Fm} {σ : Mem} {Q : List va_E → Option Value → Prop} : Rn mX8_skips 18 [l0] (.ref (ad 29 0) :: st) fs (enc σ) Q ↔ Rn mX8_skips 21 [l0] (.int (σ 29 0 27) :: st) fs (enc σ) Q := R_get hbX8_skips hoX8_skips fl_8_90 (gf_8_27 (by decide) σ) dX8_skips_18
theorem dX8_skips_21 : decode cX8_skips 21 = .ok (.iconst 1, 1) := by decide +kernel
theorem aX8_skips_21 {l0 : Value} {st : List Value} {fs : List Fm} {M : List va_E} {Q : List va_E → Option Value → Prop} : Rn mX8_skips 21 [l0] st fs M Q ↔ Rn mX8_skips 22 [l0] (.int 1 :: st) fs M Q := R_iconst hbX8_skips (by decide) dX8_skips_21
theorem dX8_skips_22 : decode cX8_skips 22 = .ok (.iadd, 1) := by decide +kernel
theorem aX8_skips_22 {x y : Int32} {l0 : Value} {st : List Value} {fs : List Fm} {M : List va_E} {Q : List va_E → Option Value → Prop} : Rn mX8_skips 22 [l0] (.int y :: .int x :: st) fs M Q ↔ Rn mX8_skips 23 [l0] (.int (x + y) :: st) fs M Q := R_iadd hbX8_skips dX8_skips_22
theorem dX8_skips_23 : decode cX8_skips 23 = .ok (.putfield 90, 3) := by decide +kernel
theorem aX8_skips_23 {x : Int32} {l0 : Value} {st : List Value} {fs : List Fm} {σ : Mem} {Q : List va_E → Option Value → Prop} : Rn mX8_skips 23 [l0] (.int x :: .ref (ad 29 0) :: st) fs (enc σ) Q ↔ Rn mX8_skips 26 [l0] st fs (enc (upS σ 29 0 27 x)) Q := R_put hbX8_skips hoX8_skips fl_8_90 (pf_8_27 (by decide) σ x) dX8_skips_23
theorem dX8_skips_26 : decode cX8_skips 26 = .ok (.goto (-26), 3) := by decide +kernel
theorem aX8_skips_26 {l0 : Value} {st : List Value} {fs : List Fm} {M : List va_E} {Q : List va_E → Option Value → Prop} : Rn mX8_skips 26 [l0] st fs M Q ↔ Rn mX8_skips 0 [l0] st fs M Q := R_goto hbX8_skips rfl dX8_skips_26
theorem dX8_skips_29 : decode cX8_skips 29 = .ok (.return_, 1) := by decide +kernel
theorem aX8_skips_29 {l0 : Value} {fs : List Fm} {M : List va_E} {Q : List va_E → Option Value → Prop} : Rn mX8_skips 29 [l0] [] fs M Q ↔ Rt fs M none Q := R_ret hbX8_skips hrX8_skips dX8_skips_29
theorem dX8_look_0 : decode cX8_look 0 = .ok (.aload_n 0, 1) := by decide +kernel
theorem aX8_look_0 {x : Nat} {st : List Value} {fs : List Fm} {M : List va_E} {Q : List va_E → Option Value → Prop} : Rn mX8_look 0 [.ref x] st fs M Q ↔ Rn mX8_look 1 [.ref x] (.ref x :: st) fs M Q := R_aload_n hbX8_look rfl dX8_look_0
theorem dX8_look_1 : decode cX8_look 1 = .ok (.getfield 90, 3) := by decide +kernel
theorem aX8_look_1 {l0 : Value} {st : List Value} {fs : List Fm} {σ : Mem} {Q : List va_E → Option Value → Prop} : Rn mX8_look 1 [l0] (.ref (ad 29 0) :: st) fs (enc σ) Q ↔ Rn mX8_look 4 [l0] (.int (σ 29 0 27) :: st) fs (enc σ) Q := R_get hbX8_look hoX8_look fl_8_90 (gf_8_27 (by decide) σ) dX8_look_1
theorem dX8_look_4 : decode cX8_look 4 = .ok (.aload_n 0, 1) := by decide +kernel
theorem aX8_look_4 {x : Nat} {st : List Value} {fs : List Fm} {M : List va_E} {Q : List va_E → Option Value → Prop} : Rn mX8_look 4 [.ref x] st fs M Q ↔ Rn mX8_look 5 [.ref x] (.ref x :: st) fs M Q := R_aload_n hbX8_look rfl dX8_look_4
theorem dX8_look_5 : decode cX8_look 5 = .ok (.getfield 86, 3) := by decide +kernel
theorem aX8_look_5 {l0 : Value} {st : List Value} {fs : List Fm} {σ : Mem} {Q : List va_E → Option Value → Prop} : Rn mX8_look 5 [l0] (.ref (ad 29 0) :: st) fs (enc σ) Q ↔ Rn mX8_look 8 [l0] (.int (σ 29 0 1) :: st) fs (enc σ) Q := R_get hbX8_look hoX8_look fl_8_86 (gf_8_1 (by decide) σ) dX8_look_5
theorem dX8_look_8 : decode cX8_look 8 = .ok (.if_icmp .ge 15, 3) := by decide +kernel
theorem aX8_look_8 {x y : Int32} {l0 : Value} {st : List Value} {fs : List Fm} {M : List va_E} {Q : List va_E → Option Value → Prop} : Rn mX8_look 8 [l0] (.int y :: .int x :: st) fs M Q ↔ if y ≤ x then Rn mX8_look 23 [l0] st fs M Q else Rn mX8_look 11 [l0] st fs M Q := R_icge hbX8_look rfl dX8_look_8
theorem dX8_look_11 : decode cX8_look 11 = .ok (.aload_n 0, 1) := by decide +kernel
theorem aX8_look_11 {x : Nat} {st : List Value} {fs : List Fm} {M : List va_E} {Q : List va_E → Option Value → Prop} : Rn mX8_look 11 [.ref x] st fs M Q ↔ Rn mX8_look 12 [.ref x] (.ref x :: st) fs M Q := R_aload_n hbX8_look rfl dX8_look_11
theorem dX8_look_12 : decode cX8_look 12 = .ok (.getfield 7, 3) := by decide +kernel
theorem aX8_look_12 {l0 : Value} {st : List Value} {fs : List Fm} {σ : Mem} {Q : List va_E → Option Value → Prop} : Rn mX8_look 12 [l0] (.ref (ad 29 0) :: st) fs (enc σ) Q ↔ Rn mX8_look 15 [l0] (.ref (ad 30 0) :: st) fs (enc σ) Q := R_get hbX8_look hoX8_look fl_8_7 (gf_8_0 (by decide) σ) dX8_look_12
theorem dX8_look_15 : decode cX8_look 15 = .ok (.aload_n 0, 1) := by decide +kernel
theorem aX8_look_15 {x : Nat} {st : List Value} {fs : List Fm} {M : List va_E} {Q : List va_E → Option Value → Prop} : Rn mX8_look 15 [.ref x] st fs M Q ↔ Rn mX8_look 16 [.ref x] (.ref x :: st) fs M Q := R_aload_n hbX8_look rfl dX8_look_15
theorem dX8_look_16 : decode cX8_look 16 = .ok (.getfield 90, 3) := by decide +kernel
theorem aX8_look_16 {l0 : Value} {st : List Value} {fs : List Fm} {σ : Mem} {Q : List va_E → Option Value → Prop} : Rn mX8_look 16 [l0] (.ref (ad 29 0) :: st) fs (enc σ) Q ↔ Rn mX8_look 19 [l0] (.int (σ 29 0 27) :: st) fs (enc σ) Q := R_get hbX8_look hoX8_look fl_8_90 (gf_8_27 (by decide) σ) dX8_look_16
theorem dX8_look_19 : decode cX8_look 19 = .ok (.iaload, 1) := by decide +kernel
theorem aX8_look_19 {k i : Nat} {j : Int32} (ht : aT k = 0) (hi : i < cnt k) {l0 : Value} {st : List Value} {fs : List Fm} {σ : Mem} {Q : List va_E → Option Value → Prop} : Rn mX8_look 19 [l0] (.int j :: .ref (ad k i) :: st) fs (enc σ) Q ↔ vp_in j (aN k) ∧ Rn mX8_look 20 [l0] (.int (σ k i j.toNatClampNeg) :: st) fs (enc σ) Q := R_iaload hbX8_look ht hi dX8_look_19
theorem dX8_look_20 : decode cX8_look 20 = .ok (.goto 4, 3) := by decide +kernel
theorem aX8_look_20 {l0 : Value} {st : List Value} {fs : List Fm} {M : List va_E} {Q : List va_E → Option Value → Prop} : Rn mX8_look 20 [l0] st fs M Q ↔ Rn mX8_look 24 [l0] st fs M Q := R_goto hbX8_look rfl dX8_look_20
theorem dX8_look_23 : decode cX8_look 23 = .ok (.iconst (-1), 1) := by decide +kernel
theorem aX8_look_23 {l0 : Value} {st : List Value} {fs : List Fm} {M : List va_E} {Q : List va_E → Option Value → Prop} : Rn mX8_look 23 [l0] st fs M Q ↔ Rn mX8_look 24 [l0] (.int (-1) :: st) fs M Q := R_iconst hbX8_look (by decide) dX8_look_23
theorem dX8_look_24 : decode cX8_look 24 = .ok (.ireturn, 1) := by decide +kernel
theorem aX8_look_24 {x : Int32} {l0 : Value} {fs : List Fm} {M : List va_E} {Q : List va_E → Option Value → Prop} : Rn mX8_look 24 [l0] [.int x] fs M Q ↔ Rt fs M (some (.int x)) Q := R_reti hbX8_look hrX8_look dX8_look_24
theorem dX8_reads_0 : decode cX8_reads 0 = .ok (.aload_n 0, 1) := by decide +kernel
theorem aX8_reads_0 {x : Nat} {st : List Value} {fs : List Fm} {M : List va_E} {Q : List va_E → Option Value → Prop} : Rn mX8_reads 0 [.ref x] st fs M Q ↔ Rn mX8_reads 1 [.ref x] (.ref x :: st) fs M Q := R_aload_n hbX8_reads rfl dX8_reads_0
theorem dX8_reads_1 : decode cX8_reads 1 = .ok (.getfield 93, 3) := by decide +kernel
theorem aX8_reads_1 {l0 : Value} {st : List Value} {fs : List Fm} {σ : Mem} {Q : List va_E → Option Value → Prop} : Rn mX8_reads 1 [l0] (.ref (ad 29 0) :: st) fs (enc σ) Q ↔ Rn mX8_reads 4 [l0] (.int (σ 29 0 28) :: st) fs (enc σ) Q := R_get hbX8_reads hoX8_reads fl_8_93 (gf_8_28 (by decide) σ) dX8_reads_1
theorem dX8_reads_4 : decode cX8_reads 4 = .ok (.ifCond .ne 88, 3) := by decide +kernel
theorem aX8_reads_4 {x : Int32} {l0 : Value} {st : List Value} {fs : List Fm} {M : List va_E} {Q : List va_E → Option Value → Prop} : Rn mX8_reads 4 [l0] (.int x :: st) fs M Q ↔ if ¬ x = 0 then Rn mX8_reads 92 [l0] st fs M Q else Rn mX8_reads 7 [l0] st fs M Q := R_ifne hbX8_reads rfl dX8_reads_4
theorem dX8_reads_7 : decode cX8_reads 7 = .ok (.aload_n 0, 1) := by decide +kernel
theorem aX8_reads_7 {x : Nat} {st : List Value} {fs : List Fm} {M : List va_E} {Q : List va_E → Option Value → Prop} : Rn mX8_reads 7 [.ref x] st fs M Q ↔ Rn mX8_reads 8 [.ref x] (.ref x :: st) fs M Q := R_aload_n hbX8_reads rfl dX8_reads_7
theorem dX8_reads_8 : decode cX8_reads 8 = .ok (.invokevirtual 96, 3) := by decide +kernel
theorem aX8_reads_8 {l0 : Value} {st : List Value} {fs : List Fm} {σ : Mem} {Q : List va_E → Option Value → Prop} : Rn mX8_reads 8 [l0] (.ref (ad 29 0) :: st) fs (enc σ) Q ↔ cats st ≤ 8 ∧ Rn mX8_look 0 [.ref (ad 29 0)] [] ((mX8_reads, 11, [l0], st) :: fs) (enc σ) Q := R_V (As := []) hbX8_reads hoX8_reads cl_8_96 hnX8_look rfl (by decide +kernel) rfl rfl rfl (isO_29 (by decide) σ) dX8_reads_8
theorem dX8_reads_11 : decode cX8_reads 11 = .ok (.iconst (-1), 1) := by decide +kernel
theorem aX8_reads_11 {l0 : Value} {st : List Value} {fs : List Fm} {M : List va_E} {Q : List va_E → Option Value → Prop} : Rn mX8_reads 11 [l0] st fs M Q ↔ Rn mX8_reads 12 [l0] (.int (-1) :: st) fs M Q := R_iconst hbX8_reads (by decide) dX8_reads_11
theorem dX8_reads_12 : decode cX8_reads 12 = .ok (.if_icmp .eq 80, 3) := by decide +kernel
theorem aX8_reads_12 {x y : Int32} {l0 : Value} {st : List Value} {fs : List Fm} {M : List va_E} {Q : List va_E → Option Value → Prop} : Rn mX8_reads 12 [l0] (.int y :: .int x :: st) fs M Q ↔ if x = y then Rn mX8_reads 92 [l0] st fs M Q else Rn mX8_reads 15 [l0] st fs M Q := R_iceq hbX8_reads rfl dX8_reads_12
theorem dX8_reads_15 : decode cX8_reads 15 = .ok (.aload_n 0, 1) := by decide +kernel
theorem aX8_reads_15 {x : Nat} {st : List Value} {fs : List Fm} {M : List va_E} {Q : List va_E → Option Value → Prop} : Rn mX8_reads 15 [.ref x] st fs M Q ↔ Rn mX8_reads 16 [.ref x] (.ref x :: st) fs M Q := R_aload_n hbX8_reads rfl dX8_reads_15
theorem dX8_reads_16 : decode cX8_reads 16 = .ok (.invokevirtual 96, 3) := by decide +kernel
theorem aX8_reads_16 {l0 : Value} {st : List Value} {fs : List Fm} {σ : Mem} {Q : List va_E → Option Value → Prop} : Rn mX8_reads 16 [l0] (.ref (ad 29 0) :: st) fs (enc σ) Q ↔ cats st ≤ 8 ∧ Rn mX8_look 0 [.ref (ad 29 0)] [] ((mX8_reads, 19, [l0], st) :: fs) (enc σ) Q := R_V (As := []) hbX8_reads hoX8_reads cl_8_96 hnX8_look rfl (by decide +kernel) rfl rfl rfl (isO_29 (by decide) σ) dX8_reads_16
theorem dX8_reads_19 : decode cX8_reads 19 = .ok (.bipush 113, 2) := by decide +kernel
theorem aX8_reads_19 {l0 : Value} {st : List Value} {fs : List Fm} {M : List va_E} {Q : List va_E → Option Value → Prop} : Rn mX8_reads 19 [l0] st fs M Q ↔ Rn mX8_reads 21 [l0] (.int 113 :: st) fs M Q := R_bipush hbX8_reads (by decide) dX8_reads_19
theorem dX8_reads_21 : decode cX8_reads 21 = .ok (.if_icmp .ne 10, 3) := by decide +kernel
theorem aX8_reads_21 {x y : Int32} {l0 : Value} {st : List Value} {fs : List Fm} {M : List va_E} {Q : List va_E → Option Value → Prop} : Rn mX8_reads 21 [l0] (.int y :: .int x :: st) fs M Q ↔ if ¬ x = y then Rn mX8_reads 31 [l0] st fs M Q else Rn mX8_reads 24 [l0] st fs M Q := R_icne hbX8_reads rfl dX8_reads_21
theorem dX8_reads_24 : decode cX8_reads 24 = .ok (.aload_n 0, 1) := by decide +kernel
theorem aX8_reads_24 {x : Nat} {st : List Value} {fs : List Fm} {M : List va_E} {Q : List va_E → Option Value → Prop} : Rn mX8_reads 24 [.ref x] st fs M Q ↔ Rn mX8_reads 25 [.ref x] (.ref x :: st) fs M Q := R_aload_n hbX8_reads rfl dX8_reads_24
theorem dX8_reads_25 : decode cX8_reads 25 = .ok (.invokevirtual 114, 3) := by decide +kernel
theorem aX8_reads_25 {l0 : Value} {st : List Value} {fs : List Fm} {σ : Mem} {Q : List va_E → Option Value → Prop} : Rn mX8_reads 25 [l0] (.ref (ad 29 0) :: st) fs (enc σ) Q ↔ cats st ≤ 8 ∧ Rn mX8_readsCatches 0 [.ref (ad 29 0)] [] ((mX8_reads, 28, [l0], st) :: fs) (enc σ) Q := R_V (As := []) hbX8_reads hoX8_reads cl_8_114 hnX8_readsCatches rfl (by decide +kernel) rfl rfl rfl (isO_29 (by decide) σ) dX8_reads_25
theorem dX8_reads_28 : decode cX8_reads 28 = .ok (.goto 57, 3) := by decide +kernel
theorem aX8_reads_28 {l0 : Value} {st : List Value} {fs : List Fm} {M : List va_E} {Q : List va_E → Option Value → Prop} : Rn mX8_reads 28 [l0] st fs M Q ↔ Rn mX8_reads 85 [l0] st fs M Q := R_goto hbX8_reads rfl dX8_reads_28
theorem dX8_reads_31 : decode cX8_reads 31 = .ok (.aload_n 0, 1) := by decide +kernel
theorem aX8_reads_31 {x : Nat} {st : List Value} {fs : List Fm} {M : List va_E} {Q : List va_E → Option Value → Prop} : Rn mX8_reads 31 [.ref x] st fs M Q ↔ Rn mX8_reads 32 [.ref x] (.ref x :: st) fs M Q := R_aload_n hbX8_reads rfl dX8_reads_31
theorem dX8_reads_32 : decode cX8_reads 32 = .ok (.getfield 35, 3) := by decide +kernel
theorem aX8_reads_32 {l0 : Value} {st : List Value} {fs : List Fm} {σ : Mem} {Q : List va_E → Option Value → Prop} : Rn mX8_reads 32 [l0] (.ref (ad 29 0) :: st) fs (enc σ) Q ↔ Rn mX8_reads 35 [l0] (.ref (ad 37 0) :: st) fs (enc σ) Q := R_get hbX8_reads hoX8_reads fl_8_35 (gf_8_9 (by decide) σ) dX8_reads_32
theorem dX8_reads_35 : decode cX8_reads 35 = .ok (.iconst 0, 1) := by decide +kernel
theorem aX8_reads_35 {l0 : Value} {st : List Value} {fs : List Fm} {M : List va_E} {Q : List va_E → Option Value → Prop} : Rn mX8_reads 35 [l0] st fs M Q ↔ Rn mX8_reads 36 [l0] (.int 0 :: st) fs M Q := R_iconst hbX8_reads (by decide) dX8_reads_35
theorem dX8_reads_36 : decode cX8_reads 36 = .ok (.iaload, 1) := by decide +kernel
theorem aX8_reads_36 {k i : Nat} {j : Int32} (ht : aT k = 0) (hi : i < cnt k) {l0 : Value} {st : List Value} {fs : List Fm} {σ : Mem} {Q : List va_E → Option Value → Prop} : Rn mX8_reads 36 [l0] (.int j :: .ref (ad k i) :: st) fs (enc σ) Q ↔ vp_in j (aN k) ∧ Rn mX8_reads 37 [l0] (.int (σ k i j.toNatClampNeg) :: st) fs (enc σ) Q := R_iaload hbX8_reads ht hi dX8_reads_36
theorem dX8_reads_37 : decode cX8_reads 37 = .ok (.ifCond .ne 11, 3) := by decide +kernel
theorem aX8_reads_37 {x : Int32} {l0 : Value} {st : List Value} {fs : List Fm} {M : List va_E} {Q : List va_E → Option Value → Prop} : Rn mX8_reads 37 [l0] (.int x :: st) fs M Q ↔ if ¬ x = 0 then Rn mX8_reads 48 [l0] st fs M Q else Rn mX8_reads 40 [l0] st fs M Q := R_ifne hbX8_reads rfl dX8_reads_37
theorem dX8_reads_40 : decode cX8_reads 40 = .ok (.aload_n 0, 1) := by decide +kernel
theorem aX8_reads_40 {x : Nat} {st : List Value} {fs : List Fm} {M : List va_E} {Q : List va_E → Option Value → Prop} : Rn mX8_reads 40 [.ref x] st fs M Q ↔ Rn mX8_reads 41 [.ref x] (.ref x :: st) fs M Q := R_aload_n hbX8_reads rfl dX8_reads_40
theorem dX8_reads_41 : decode cX8_reads 41 = .ok (.iconst 1, 1) := by decide +kernel
theorem aX8_reads_41 {l0 : Value} {st : List Value} {fs : List Fm} {M : List va_E} {Q : List va_E → Option Value → Prop} : Rn mX8_reads 41 [l0] st fs M Q ↔ Rn mX8_reads 42 [l0] (.int 1 :: st) fs M Q := R_iconst hbX8_reads (by decide) dX8_reads_41
theorem dX8_reads_42 : decode cX8_reads 42 = .ok (.invokevirtual 103, 3) := by decide +kernel
theorem aX8_reads_42 {y0 : Int32} {l0 : Value} {st : List Value} {fs : List Fm} {σ : Mem} {Q : List va_E → Option Value → Prop} : Rn mX8_reads 42 [l0] (.int y0 :: .ref (ad 29 0) :: st) fs (enc σ) Q ↔ cats st ≤ 8 ∧ Rn mX8_fails 0 [.ref (ad 29 0), .int y0] [] ((mX8_reads, 45, [l0], st) :: fs) (enc σ) Q := R_V (As := [.int y0]) hbX8_reads hoX8_reads cl_8_103 hnX8_fails rfl (by decide +kernel) rfl rfl rfl (isO_29 (by decide) σ) dX8_reads_42
theorem dX8_reads_45 : decode cX8_reads 45 = .ok (.goto 40, 3) := by decide +kernel
theorem aX8_reads_45 {l0 : Value} {st : List Value} {fs : List Fm} {M : List va_E} {Q : List va_E → Option Value → Prop} : Rn mX8_reads 45 [l0] st fs M Q ↔ Rn mX8_reads 85 [l0] st fs M Q := R_goto hbX8_reads rfl dX8_reads_45
theorem dX8_reads_48 : decode cX8_reads 48 = .ok (.aload_n 0, 1) := by decide +kernel
theorem aX8_reads_48 {x : Nat} {st : List Value} {fs : List Fm} {M : List va_E} {Q : List va_E → Option Value → Prop} : Rn mX8_reads 48 [.ref x] st fs M Q ↔ Rn mX8_reads 49 [.ref x] (.ref x :: st) fs M Q := R_aload_n hbX8_reads rfl dX8_reads_48
theorem dX8_reads_49 : decode cX8_reads 49 = .ok (.invokevirtual 96, 3) := by decide +kernel
theorem aX8_reads_49 {l0 : Value} {st : List Value} {fs : List Fm} {σ : Mem} {Q : List va_E → Option Value → Prop} : Rn mX8_reads 49 [l0] (.ref (ad 29 0) :: st) fs (enc σ) Q ↔ cats st ≤ 8 ∧ Rn mX8_look 0 [.ref (ad 29 0)] [] ((mX8_reads, 52, [l0], st) :: fs) (enc σ) Q := R_V (As := []) hbX8_reads hoX8_reads cl_8_96 hnX8_look rfl (by decide +kernel) rfl rfl rfl (isO_29 (by decide) σ) dX8_reads_49
theorem dX8_reads_52 : decode cX8_reads 52 = .ok (.bipush 104, 2) := by decide +kernel
theorem aX8_reads_52 {l0 : Value} {st : List Value} {fs : List Fm} {M : List va_E} {Q : List va_E → Option Value → Prop} : Rn mX8_reads 52 [l0] st fs M Q ↔ Rn mX8_reads 54 [l0] (.int 104 :: st) fs M Q := R_bipush hbX8_reads (by decide) dX8_reads_52
theorem dX8_reads_54 : decode cX8_reads 54 = .ok (.if_icmp .ne 10, 3) := by decide +kernel
theorem aX8_reads_54 {x y : Int32} {l0 : Value} {st : List Value} {fs : List Fm} {M : List va_E} {Q : List va_E → Option Value → Prop} : Rn mX8_reads 54 [l0] (.int y :: .int x :: st) fs M Q ↔ if ¬ x = y then Rn mX8_reads 64 [l0] st fs M Q else Rn mX8_reads 57 [l0] st fs M Q := R_icne hbX8_reads rfl dX8_reads_54
theorem dX8_reads_57 : decode cX8_reads 57 = .ok (.aload_n 0, 1) := by decide +kernel
theorem aX8_reads_57 {x : Nat} {st : List Value} {fs : List Fm} {M : List va_E} {Q : List va_E → Option Value → Prop} : Rn mX8_reads 57 [.ref x] st fs M Q ↔ Rn mX8_reads 58 [.ref x] (.ref x :: st) fs M Q := R_aload_n hbX8_reads rfl dX8_reads_57
theorem dX8_reads_58 : decode cX8_reads 58 = .ok (.invokevirtual 117, 3) := by decide +kernel
theorem aX8_reads_58 {l0 : Value} {st : List Value} {fs : List Fm} {σ : Mem} {Q : List va_E → Option Value → Prop} : Rn mX8_reads 58 [l0] (.ref (ad 29 0) :: st) fs (enc σ) Q ↔ cats st ≤ 8 ∧ Rn mX8_readsHouse 0 [.ref (ad 29 0), .null] [] ((mX8_reads, 61, [l0], st) :: fs) (enc σ) Q := R_V (As := []) hbX8_reads hoX8_reads cl_8_117 hnX8_readsHouse rfl (by decide +kernel) rfl rfl rfl (isO_29 (by decide) σ) dX8_reads_58
theorem dX8_reads_61 : decode cX8_reads 61 = .ok (.goto 24, 3) := by decide +kernel
theorem aX8_reads_61 {l0 : Value} {st : List Value} {fs : List Fm} {M : List va_E} {Q : List va_E → Option Value → Prop} : Rn mX8_reads 61 [l0] st fs M Q ↔ Rn mX8_reads 85 [l0] st fs M Q := R_goto hbX8_reads rfl dX8_reads_61
theorem dX8_reads_64 : decode cX8_reads 64 = .ok (.aload_n 0, 1) := by decide +kernel
theorem aX8_reads_64 {x : Nat} {st : List Value} {fs : List Fm} {M : List va_E} {Q : List va_E → Option Value → Prop} : Rn mX8_reads 64 [.ref x] st fs M Q ↔ Rn mX8_reads 65 [.ref x] (.ref x :: st) fs M Q := R_aload_n hbX8_reads rfl dX8_reads_64
theorem dX8_reads_65 : decode cX8_reads 65 = .ok (.invokevirtual 96, 3) := by decide +kernel
theorem aX8_reads_65 {l0 : Value} {st : List Value} {fs : List Fm} {σ : Mem} {Q : List va_E → Option Value → Prop} : Rn mX8_reads 65 [l0] (.ref (ad 29 0) :: st) fs (enc σ) Q ↔ cats st ≤ 8 ∧ Rn mX8_look 0 [.ref (ad 29 0)] [] ((mX8_reads, 68, [l0], st) :: fs) (enc σ) Q := R_V (As := []) hbX8_reads hoX8_reads cl_8_96 hnX8_look rfl (by decide +kernel) rfl rfl rfl (isO_29 (by decide) σ) dX8_reads_65
theorem dX8_reads_68 : decode cX8_reads 68 = .ok (.bipush 103, 2) := by decide +kernel
theorem aX8_reads_68 {l0 : Value} {st : List Value} {fs : List Fm} {M : List va_E} {Q : List va_E → Option Value → Prop} : Rn mX8_reads 68 [l0] st fs M Q ↔ Rn mX8_reads 70 [l0] (.int 103 :: st) fs M Q := R_bipush hbX8_reads (by decide) dX8_reads_68
theorem dX8_reads_70 : decode cX8_reads 70 = .ok (.if_icmp .ne 10, 3) := by decide +kernel
theorem aX8_reads_70 {x y : Int32} {l0 : Value} {st : List Value} {fs : List Fm} {M : List va_E} {Q : List va_E → Option Value → Prop} : Rn mX8_reads 70 [l0] (.int y :: .int x :: st) fs M Q ↔ if ¬ x = y then Rn mX8_reads 80 [l0] st fs M Q else Rn mX8_reads 73 [l0] st fs M Q := R_icne hbX8_reads rfl dX8_reads_70
theorem dX8_reads_73 : decode cX8_reads 73 = .ok (.aload_n 0, 1) := by decide +kernel
theorem aX8_reads_73 {x : Nat} {st : List Value} {fs : List Fm} {M : List va_E} {Q : List va_E → Option Value → Prop} : Rn mX8_reads 73 [.ref x] st fs M Q ↔ Rn mX8_reads 74 [.ref x] (.ref x :: st) fs M Q := R_aload_n hbX8_reads rfl dX8_reads_73
theorem dX8_reads_74 : decode cX8_reads 74 = .ok (.invokevirtual 120, 3) := by decide +kernel
theorem aX8_reads_74 {l0 : Value} {st : List Value} {fs : List Fm} {σ : Mem} {Q : List va_E → Option Value → Prop} : Rn mX8_reads 74 [l0] (.ref (ad 29 0) :: st) fs (enc σ) Q ↔ cats st ≤ 8 ∧ Rn mX8_readsGull 0 [.ref (ad 29 0), .null] [] ((mX8_reads, 77, [l0], st) :: fs) (enc σ) Q := R_V (As := []) hbX8_reads hoX8_reads cl_8_120 hnX8_readsGull rfl (by decide +kernel) rfl rfl rfl (isO_29 (by decide) σ) dX8_reads_74
theorem dX8_reads_77 : decode cX8_reads 77 = .ok (.goto 8, 3) := by decide +kernel
theorem aX8_reads_77 {l0 : Value} {st : List Value} {fs : List Fm} {M : List va_E} {Q : List va_E → Option Value → Prop} : Rn mX8_reads 77 [l0] st fs M Q ↔ Rn mX8_reads 85 [l0] st fs M Q := R_goto hbX8_reads rfl dX8_reads_77
theorem dX8_reads_80 : decode cX8_reads 80 = .ok (.aload_n 0, 1) := by decide +kernel
theorem aX8_reads_80 {x : Nat} {st : List Value} {fs : List Fm} {M : List va_E} {Q : List va_E → Option Value → Prop} : Rn mX8_reads 80 [.ref x] st fs M Q ↔ Rn mX8_reads 81 [.ref x] (.ref x :: st) fs M Q := R_aload_n hbX8_reads rfl dX8_reads_80
theorem dX8_reads_81 : decode cX8_reads 81 = .ok (.iconst 1, 1) := by decide +kernel
theorem aX8_reads_81 {l0 : Value} {st : List Value} {fs : List Fm} {M : List va_E} {Q : List va_E → Option Value → Prop} : Rn mX8_reads 81 [l0] st fs M Q ↔ Rn mX8_reads 82 [l0] (.int 1 :: st) fs M Q := R_iconst hbX8_reads (by decide) dX8_reads_81
theorem dX8_reads_82 : decode cX8_reads 82 = .ok (.invokevirtual 103, 3) := by decide +kernel
theorem aX8_reads_82 {y0 : Int32} {l0 : Value} {st : List Value} {fs : List Fm} {σ : Mem} {Q : List va_E → Option Value → Prop} : Rn mX8_reads 82 [l0] (.int y0 :: .ref (ad 29 0) :: st) fs (enc σ) Q ↔ cats st ≤ 8 ∧ Rn mX8_fails 0 [.ref (ad 29 0), .int y0] [] ((mX8_reads, 85, [l0], st) :: fs) (enc σ) Q := R_V (As := [.int y0]) hbX8_reads hoX8_reads cl_8_103 hnX8_fails rfl (by decide +kernel) rfl rfl rfl (isO_29 (by decide) σ) dX8_reads_82
theorem dX8_reads_85 : decode cX8_reads 85 = .ok (.aload_n 0, 1) := by decide +kernel
theorem aX8_reads_85 {x : Nat} {st : List Value} {fs : List Fm} {M : List va_E} {Q : List va_E → Option Value → Prop} : Rn mX8_reads 85 [.ref x] st fs M Q ↔ Rn mX8_reads 86 [.ref x] (.ref x :: st) fs M Q := R_aload_n hbX8_reads rfl dX8_reads_85
theorem dX8_reads_86 : decode cX8_reads 86 = .ok (.invokevirtual 100, 3) := by decide +kernel
theorem aX8_reads_86 {l0 : Value} {st : List Value} {fs : List Fm} {σ : Mem} {Q : List va_E → Option Value → Prop} : Rn mX8_reads 86 [l0] (.ref (ad 29 0) :: st) fs (enc σ) Q ↔ cats st ≤ 8 ∧ Rn mX8_skips 0 [.ref (ad 29 0)] [] ((mX8_reads, 89, [l0], st) :: fs) (enc σ) Q := R_V (As := []) hbX8_reads hoX8_reads cl_8_100 hnX8_skips rfl (by decide +kernel) rfl rfl rfl (isO_29 (by decide) σ) dX8_reads_86
theorem dX8_reads_89 : decode cX8_reads 89 = .ok (.goto (-89), 3) := by decide +kernel
theorem aX8_reads_89 {l0 : Value} {st : List Value} {fs : List Fm} {M : List va_E} {Q : List va_E → Option Value → Prop} : Rn mX8_reads 89 [l0] st fs M Q ↔ Rn mX8_reads 0 [l0] st fs M Q := R_goto hbX8_reads rfl dX8_reads_89
theorem dX8_reads_92 : decode cX8_reads 92 = .ok (.return_, 1) := by decide +kernel
theorem aX8_reads_92 {l0 : Value} {fs : List Fm} {M : List va_E} {Q : List va_E → Option Value → Prop} : Rn mX8_reads 92 [l0] [] fs M Q ↔ Rt fs M none Q := R_ret hbX8_reads hrX8_reads dX8_reads_92
theorem dX8_readsCatches_0 : decode cX8_readsCatches 0 = .ok (.aload_n 0, 1) := by decide +kernel
theorem aX8_readsCatches_0 {x : Nat} {st : List Value} {fs : List Fm} {M : List va_E} {Q : List va_E → Option Value → Prop} : Rn mX8_readsCatches 0 [.ref x] st fs M Q ↔ Rn mX8_readsCatches 1 [.ref x] (.ref x :: st) fs M Q := R_aload_n hbX8_readsCatches rfl dX8_readsCatches_0
theorem dX8_readsCatches_1 : decode cX8_readsCatches 1 = .ok (.getfield 35, 3) := by decide +kernel
theorem aX8_readsCatches_1 {l0 : Value} {st : List Value} {fs : List Fm} {σ : Mem} {Q : List va_E → Option Value → Prop} : Rn mX8_readsCatches 1 [l0] (.ref (ad 29 0) :: st) fs (enc σ) Q ↔ Rn mX8_readsCatches 4 [l0] (.ref (ad 37 0) :: st) fs (enc σ) Q := R_get hbX8_readsCatches hoX8_readsCatches fl_8_35 (gf_8_9 (by decide) σ) dX8_readsCatches_1
theorem dX8_readsCatches_4 : decode cX8_readsCatches 4 = .ok (.iconst 0, 1) := by decide +kernel
theorem aX8_readsCatches_4 {l0 : Value} {st : List Value} {fs : List Fm} {M : List va_E} {Q : List va_E → Option Value → Prop} : Rn mX8_readsCatches 4 [l0] st fs M Q ↔ Rn mX8_readsCatches 5 [l0] (.int 0 :: st) fs M Q := R_iconst hbX8_readsCatches (by decide) dX8_readsCatches_4
theorem dX8_readsCatches_5 : decode cX8_readsCatches 5 = .ok (.iaload, 1) := by decide +kernel
theorem aX8_readsCatches_5 {k i : Nat} {j : Int32} (ht : aT k = 0) (hi : i < cnt k) {l0 : Value} {st : List Value} {fs : List Fm} {σ : Mem} {Q : List va_E → Option Value → Prop} : Rn mX8_readsCatches 5 [l0] (.int j :: .ref (ad k i) :: st) fs (enc σ) Q ↔ vp_in j (aN k) ∧ Rn mX8_readsCatches 6 [l0] (.int (σ k i j.toNatClampNeg) :: st) fs (enc σ) Q := R_iaload hbX8_readsCatches ht hi dX8_readsCatches_5
theorem dX8_readsCatches_6 : decode cX8_readsCatches 6 = .ok (.ifCond .le 9, 3) := by decide +kernel
theorem aX8_readsCatches_6 {x : Int32} {l0 : Value} {st : List Value} {fs : List Fm} {M : List va_E} {Q : List va_E → Option Value → Prop} : Rn mX8_readsCatches 6 [l0] (.int x :: st) fs M Q ↔ if x ≤ 0 then Rn mX8_readsCatches 15 [l0] st fs M Q else Rn mX8_readsCatches 9 [l0] st fs M Q := R_ifle hbX8_readsCatches rfl dX8_readsCatches_6
theorem dX8_readsCatches_9 : decode cX8_readsCatches 9 = .ok (.aload_n 0, 1) := by decide +kernel
theorem aX8_readsCatches_9 {x : Nat} {st : List Value} {fs : List Fm} {M : List va_E} {Q : List va_E → Option Value → Prop} : Rn mX8_readsCatches 9 [.ref x] st fs M Q ↔ Rn mX8_readsCatches 10 [.ref x] (.ref x :: st) fs M Q := R_aload_n hbX8_readsCatches rfl dX8_readsCatches_9
theorem dX8_readsCatches_10 : decode cX8_readsCatches 10 = .ok (.iconst 3, 1) := by decide +kernel
theorem aX8_readsCatches_10 {l0 : Value} {st : List Value} {fs : List Fm} {M : List va_E} {Q : List va_E → Option Value → Prop} : Rn mX8_readsCatches 10 [l0] st fs M Q ↔ Rn mX8_readsCatches 11 [l0] (.int 3 :: st) fs M Q := R_iconst hbX8_readsCatches (by decide) dX8_readsCatches_10
theorem dX8_readsCatches_11 : decode cX8_readsCatches 11 = .ok (.invokevirtual 103, 3) := by decide +kernel
theorem aX8_readsCatches_11 {y0 : Int32} {l0 : Value} {st : List Value} {fs : List Fm} {σ : Mem} {Q : List va_E → Option Value → Prop} : Rn mX8_readsCatches 11 [l0] (.int y0 :: .ref (ad 29 0) :: st) fs (enc σ) Q ↔ cats st ≤ 8 ∧ Rn mX8_fails 0 [.ref (ad 29 0), .int y0] [] ((mX8_readsCatches, 14, [l0], st) :: fs) (enc σ) Q := R_V (As := [.int y0]) hbX8_readsCatches hoX8_readsCatches cl_8_103 hnX8_fails rfl (by decide +kernel) rfl rfl rfl (isO_29 (by decide) σ) dX8_readsCatches_11
theorem dX8_readsCatches_14 : decode cX8_readsCatches 14 = .ok (.return_, 1) := by decide +kernel
theorem aX8_readsCatches_14 {l0 : Value} {fs : List Fm} {M : List va_E} {Q : List va_E → Option Value → Prop} : Rn mX8_readsCatches 14 [l0] [] fs M Q ↔ Rt fs M none Q := R_ret hbX8_readsCatches hrX8_readsCatches dX8_readsCatches_14
theorem dX8_readsCatches_15 : decode cX8_readsCatches 15 = .ok (.aload_n 0, 1) := by decide +kernel
theorem aX8_readsCatches_15 {x : Nat} {st : List Value} {fs : List Fm} {M : List va_E} {Q : List va_E → Option Value → Prop} : Rn mX8_readsCatches 15 [.ref x] st fs M Q ↔ Rn mX8_readsCatches 16 [.ref x] (.ref x :: st) fs M Q := R_aload_n hbX8_readsCatches rfl dX8_readsCatches_15
theorem dX8_readsCatches_16 : decode cX8_readsCatches 16 = .ok (.dup, 1) := by decide +kernel
theorem aX8_readsCatches_16i {x : Int32} {l0 : Value} {st : List Value} {fs : List Fm} {M : List va_E} {Q : List va_E → Option Value → Prop} : Rn mX8_readsCatches 16 [l0] (.int x :: st) fs M Q ↔ Rn mX8_readsCatches 17 [l0] (.int x :: .int x :: st) fs M Q := R_dup_i hbX8_readsCatches dX8_readsCatches_16
theorem aX8_readsCatches_16a {x : Nat} {l0 : Value} {st : List Value} {fs : List Fm} {M : List va_E} {Q : List va_E → Option Value → Prop} : Rn mX8_readsCatches 16 [l0] (.ref x :: st) fs M Q ↔ Rn mX8_readsCatches 17 [l0] (.ref x :: .ref x :: st) fs M Q := R_dup_a hbX8_readsCatches dX8_readsCatches_16
theorem dX8_readsCatches_17 : decode cX8_readsCatches 17 = .ok (.getfield 90, 3) := by decide +kernel
theorem aX8_readsCatches_17 {l0 : Value} {st : List Value} {fs : List Fm} {σ : Mem} {Q : List va_E → Option Value → Prop} : Rn mX8_readsCatches 17 [l0] (.ref (ad 29 0) :: st) fs (enc σ) Q ↔ Rn mX8_readsCatches 20 [l0] (.int (σ 29 0 27) :: st) fs (enc σ) Q := R_get hbX8_readsCatches hoX8_readsCatches fl_8_90 (gf_8_27 (by decide) σ) dX8_readsCatches_17
theorem dX8_readsCatches_20 : decode cX8_readsCatches 20 = .ok (.iconst 1, 1) := by decide +kernel
theorem aX8_readsCatches_20 {l0 : Value} {st : List Value} {fs : List Fm} {M : List va_E} {Q : List va_E → Option Value → Prop} : Rn mX8_readsCatches 20 [l0] st fs M Q ↔ Rn mX8_readsCatches 21 [l0] (.int 1 :: st) fs M Q := R_iconst hbX8_readsCatches (by decide) dX8_readsCatches_20
theorem dX8_readsCatches_21 : decode cX8_readsCatches 21 = .ok (.iadd, 1) := by decide +kernel
theorem aX8_readsCatches_21 {x y : Int32} {l0 : Value} {st : List Value} {fs : List Fm} {M : List va_E} {Q : List va_E → Option Value → Prop} : Rn mX8_readsCatches 21 [l0] (.int y :: .int x :: st) fs M Q ↔ Rn mX8_readsCatches 22 [l0] (.int (x + y) :: st) fs M Q := R_iadd hbX8_readsCatches dX8_readsCatches_21
theorem dX8_readsCatches_22 : decode cX8_readsCatches 22 = .ok (.putfield 90, 3) := by decide +kernel
theorem aX8_readsCatches_22 {x : Int32} {l0 : Value} {st : List Value} {fs : List Fm} {σ : Mem} {Q : List va_E → Option Value → Prop} : Rn mX8_readsCatches 22 [l0] (.int x :: .ref (ad 29 0) :: st) fs (enc σ) Q ↔ Rn mX8_readsCatches 25 [l0] st fs (enc (upS σ 29 0 27 x)) Q := R_put hbX8_readsCatches hoX8_readsCatches fl_8_90 (pf_8_27 (by decide) σ x) dX8_readsCatches_22
theorem dX8_readsCatches_25 : decode cX8_readsCatches 25 = .ok (.aload_n 0, 1) := by decide +kernel
theorem aX8_readsCatches_25 {x : Nat} {st : List Value} {fs : List Fm} {M : List va_E} {Q : List va_E → Option Value → Prop} : Rn mX8_readsCatches 25 [.ref x] st fs M Q ↔ Rn mX8_readsCatches 26 [.ref x] (.ref x :: st) fs M Q := R_aload_n hbX8_readsCatches rfl dX8_readsCatches_25
theorem dX8_readsCatches_26 : decode cX8_readsCatches 26 = .ok (.getfield 38, 3) := by decide +kernel
theorem aX8_readsCatches_26 {l0 : Value} {st : List Value} {fs : List Fm} {σ : Mem} {Q : List va_E → Option Value → Prop} : Rn mX8_readsCatches 26 [l0] (.ref (ad 29 0) :: st) fs (enc σ) Q ↔ Rn mX8_readsCatches 29 [l0] (.ref (ad 38 0) :: st) fs (enc σ) Q := R_get hbX8_readsCatches hoX8_readsCatches fl_8_38 (gf_8_10 (by decide) σ) dX8_readsCatches_26
theorem dX8_readsCatches_29 : decode cX8_readsCatches 29 = .ok (.iconst 0, 1) := by decide +kernel
theorem aX8_readsCatches_29 {l0 : Value} {st : List Value} {fs : List Fm} {M : List va_E} {Q : List va_E → Option Value → Prop} : Rn mX8_readsCatches 29 [l0] st fs M Q ↔ Rn mX8_readsCatches 30 [l0] (.int 0 :: st) fs M Q := R_iconst hbX8_readsCatches (by decide) dX8_readsCatches_29
theorem dX8_readsCatches_30 : decode cX8_readsCatches 30 = .ok (.aload_n 0, 1) := by decide +kernel
theorem aX8_readsCatches_30 {x : Nat} {st : List Value} {fs : List Fm} {M : List va_E} {Q : List va_E → Option Value → Prop} : Rn mX8_readsCatches 30 [.ref x] st fs M Q ↔ Rn mX8_readsCatches 31 [.ref x] (.ref x :: st) fs M Q := R_aload_n hbX8_readsCatches rfl dX8_readsCatches_30
theorem dX8_readsCatches_31 : decode cX8_readsCatches 31 = .ok (.iconst 0, 1) := by decide +kernel
theorem aX8_readsCatches_31 {l0 : Value} {st : List Value} {fs : List Fm} {M : List va_E} {Q : List va_E → Option Value → Prop} : Rn mX8_readsCatches 31 [l0] st fs M Q ↔ Rn mX8_readsCatches 32 [l0] (.int 0 :: st) fs M Q := R_iconst hbX8_readsCatches (by decide) dX8_readsCatches_31
theorem dX8_readsCatches_32 : decode cX8_readsCatches 32 = .ok (.bipush 99, 2) := by decide +kernel
theorem aX8_readsCatches_32 {l0 : Value} {st : List Value} {fs : List Fm} {M : List va_E} {Q : List va_E → Option Value → Prop} : Rn mX8_readsCatches 32 [l0] st fs M Q ↔ Rn mX8_readsCatches 34 [l0] (.int 99 :: st) fs M Q := R_bipush hbX8_readsCatches (by decide) dX8_readsCatches_32
theorem dX8_readsCatches_34 : decode cX8_readsCatches 34 = .ok (.invokevirtual 107, 3) := by decide +kernel
theorem aX8_readsCatches_34 {y0 : Int32} {y1 : Int32} {l0 : Value} {st : List Value} {fs : List Fm} {σ : Mem} {Q : List va_E → Option Value → Prop} : Rn mX8_readsCatches 34 [l0] (.int y1 :: .int y0 :: .ref (ad 29 0) :: st) fs (enc σ) Q ↔ cats st ≤ 8 ∧ Rn mX8_number 0 [.ref (ad 29 0), .int y0, .int y1, .null, .null] [] ((mX8_readsCatches, 37, [l0], st) :: fs) (enc σ) Q := R_V (As := [.int y0, .int y1]) hbX8_readsCatches hoX8_readsCatches cl_8_107 hnX8_number rfl (by decide +kernel) rfl rfl rfl (isO_29 (by decide) σ) dX8_readsCatches_34
theorem dX8_readsCatches_37 : decode cX8_readsCatches 37 = .ok (.iastore, 1) := by decide +kernel
theorem aX8_readsCatches_37 {k i : Nat} {j x : Int32} (ht : aT k = 0) (hi : i < cnt k) {l0 : Value} {st : List Value} {fs : List Fm} {σ : Mem} {Q : List va_E → Option Value → Prop} : Rn mX8_readsCatches 37 [l0] (.int x :: .int j :: .ref (ad k i) :: st) fs (enc σ) Q ↔ vp_in j (aN k) ∧ Rn mX8_readsCatches 38 [l0] st fs (enc (upS σ k i j.toNatClampNeg x)) Q := R_iastore hbX8_readsCatches ht hi dX8_readsCatches_37
theorem dX8_readsCatches_38 : decode cX8_readsCatches 38 = .ok (.aload_n 0, 1) := by decide +kernel
theorem aX8_readsCatches_38 {x : Nat} {st : List Value} {fs : List Fm} {M : List va_E} {Q : List va_E → Option Value → Prop} : Rn mX8_readsCatches 38 [.ref x] st fs M Q ↔ Rn mX8_readsCatches 39 [.ref x] (.ref x :: st) fs M Q := R_aload_n hbX8_readsCatches rfl dX8_readsCatches_38
theorem dX8_readsCatches_39 : decode cX8_readsCatches 39 = .ok (.getfield 35, 3) := by decide +kernel
theorem aX8_readsCatches_39 {l0 : Value} {st : List Value} {fs : List Fm} {σ : Mem} {Q : List va_E → Option Value → Prop} : Rn mX8_readsCatches 39 [l0] (.ref (ad 29 0) :: st) fs (enc σ) Q ↔ Rn mX8_readsCatches 42 [l0] (.ref (ad 37 0) :: st) fs (enc σ) Q := R_get hbX8_readsCatches hoX8_readsCatches fl_8_35 (gf_8_9 (by decide) σ) dX8_readsCatches_39
theorem dX8_readsCatches_42 : decode cX8_readsCatches 42 = .ok (.iconst 0, 1) := by decide +kernel
theorem aX8_readsCatches_42 {l0 : Value} {st : List Value} {fs : List Fm} {M : List va_E} {Q : List va_E → Option Value → Prop} : Rn mX8_readsCatches 42 [l0] st fs M Q ↔ Rn mX8_readsCatches 43 [l0] (.int 0 :: st) fs M Q := R_iconst hbX8_readsCatches (by decide) dX8_readsCatches_42
theorem dX8_readsCatches_43 : decode cX8_readsCatches 43 = .ok (.iconst 1, 1) := by decide +kernel
theorem aX8_readsCatches_43 {l0 : Value} {st : List Value} {fs : List Fm} {M : List va_E} {Q : List va_E → Option Value → Prop} : Rn mX8_readsCatches 43 [l0] st fs M Q ↔ Rn mX8_readsCatches 44 [l0] (.int 1 :: st) fs M Q := R_iconst hbX8_readsCatches (by decide) dX8_readsCatches_43
theorem dX8_readsCatches_44 : decode cX8_readsCatches 44 = .ok (.iastore, 1) := by decide +kernel
theorem aX8_readsCatches_44 {k i : Nat} {j x : Int32} (ht : aT k = 0) (hi : i < cnt k) {l0 : Value} {st : List Value} {fs : List Fm} {σ : Mem} {Q : List va_E → Option Value → Prop} : Rn mX8_readsCatches 44 [l0] (.int x :: .int j :: .ref (ad k i) :: st) fs (enc σ) Q ↔ vp_in j (aN k) ∧ Rn mX8_readsCatches 45 [l0] st fs (enc (upS σ k i j.toNatClampNeg x)) Q := R_iastore hbX8_readsCatches ht hi dX8_readsCatches_44
theorem dX8_readsCatches_45 : decode cX8_readsCatches 45 = .ok (.aload_n 0, 1) := by decide +kernel
theorem aX8_readsCatches_45 {x : Nat} {st : List Value} {fs : List Fm} {M : List va_E} {Q : List va_E → Option Value → Prop} : Rn mX8_readsCatches 45 [.ref x] st fs M Q ↔ Rn mX8_readsCatches 46 [.ref x] (.ref x :: st) fs M Q := R_aload_n hbX8_readsCatches rfl dX8_readsCatches_45
theorem dX8_readsCatches_46 : decode cX8_readsCatches 46 = .ok (.invokevirtual 100, 3) := by decide +kernel
theorem aX8_readsCatches_46 {l0 : Value} {st : List Value} {fs : List Fm} {σ : Mem} {Q : List va_E → Option Value → Prop} : Rn mX8_readsCatches 46 [l0] (.ref (ad 29 0) :: st) fs (enc σ) Q ↔ cats st ≤ 8 ∧ Rn mX8_skips 0 [.ref (ad 29 0)] [] ((mX8_readsCatches, 49, [l0], st) :: fs) (enc σ) Q := R_V (As := []) hbX8_readsCatches hoX8_readsCatches cl_8_100 hnX8_skips rfl (by decide +kernel) rfl rfl rfl (isO_29 (by decide) σ) dX8_readsCatches_46
theorem dX8_readsCatches_49 : decode cX8_readsCatches 49 = .ok (.aload_n 0, 1) := by decide +kernel
theorem aX8_readsCatches_49 {x : Nat} {st : List Value} {fs : List Fm} {M : List va_E} {Q : List va_E → Option Value → Prop} : Rn mX8_readsCatches 49 [.ref x] st fs M Q ↔ Rn mX8_readsCatches 50 [.ref x] (.ref x :: st) fs M Q := R_aload_n hbX8_readsCatches rfl dX8_readsCatches_49
theorem dX8_readsCatches_50 : decode cX8_readsCatches 50 = .ok (.getfield 93, 3) := by decide +kernel
theorem aX8_readsCatches_50 {l0 : Value} {st : List Value} {fs : List Fm} {σ : Mem} {Q : List va_E → Option Value → Prop} : Rn mX8_readsCatches 50 [l0] (.ref (ad 29 0) :: st) fs (enc σ) Q ↔ Rn mX8_readsCatches 53 [l0] (.int (σ 29 0 28) :: st) fs (enc σ) Q := R_get hbX8_readsCatches hoX8_readsCatches fl_8_93 (gf_8_28 (by decide) σ) dX8_readsCatches_50
theorem dX8_readsCatches_53 : decode cX8_readsCatches 53 = .ok (.ifCond .ne 76, 3) := by decide +kernel
theorem aX8_readsCatches_53 {x : Int32} {l0 : Value} {st : List Value} {fs : List Fm} {M : List va_E} {Q : List va_E → Option Value → Prop} : Rn mX8_readsCatches 53 [l0] (.int x :: st) fs M Q ↔ if ¬ x = 0 then Rn mX8_readsCatches 129 [l0] st fs M Q else Rn mX8_readsCatches 56 [l0] st fs M Q := R_ifne hbX8_readsCatches rfl dX8_readsCatches_53
theorem dX8_readsCatches_56 : decode cX8_readsCatches 56 = .ok (.aload_n 0, 1) := by decide +kernel
theorem aX8_readsCatches_56 {x : Nat} {st : List Value} {fs : List Fm} {M : List va_E} {Q : List va_E → Option Value → Prop} : Rn mX8_readsCatches 56 [.ref x] st fs M Q ↔ Rn mX8_readsCatches 57 [.ref x] (.ref x :: st) fs M Q := R_aload_n hbX8_readsCatches rfl dX8_readsCatches_56
theorem dX8_readsCatches_57 : decode cX8_readsCatches 57 = .ok (.invokevirtual 96, 3) := by decide +kernel
theorem aX8_readsCatches_57 {l0 : Value} {st : List Value} {fs : List Fm} {σ : Mem} {Q : List va_E → Option Value → Prop} : Rn mX8_readsCatches 57 [l0] (.ref (ad 29 0) :: st) fs (enc σ) Q ↔ cats st ≤ 8 ∧ Rn mX8_look 0 [.ref (ad 29 0)] [] ((mX8_readsCatches, 60, [l0], st) :: fs) (enc σ) Q := R_V (As := []) hbX8_readsCatches hoX8_readsCatches cl_8_96 hnX8_look rfl (by decide +kernel) rfl rfl rfl (isO_29 (by decide) σ) dX8_readsCatches_57
theorem dX8_readsCatches_60 : decode cX8_readsCatches 60 = .ok (.bipush 44, 2) := by decide +kernel
theorem aX8_readsCatches_60 {l0 : Value} {st : List Value} {fs : List Fm} {M : List va_E} {Q : List va_E → Option Value → Prop} : Rn mX8_readsCatches 60 [l0] st fs M Q ↔ Rn mX8_readsCatches 62 [l0] (.int 44 :: st) fs M Q := R_bipush hbX8_readsCatches (by decide) dX8_readsCatches_60
theorem dX8_readsCatches_62 : decode cX8_readsCatches 62 = .ok (.if_icmp .ne 67, 3) := by decide +kernel
theorem aX8_readsCatches_62 {x y : Int32} {l0 : Value} {st : List Value} {fs : List Fm} {M : List va_E} {Q : List va_E → Option Value → Prop} : Rn mX8_readsCatches 62 [l0] (.int y :: .int x :: st) fs M Q ↔ if ¬ x = y then Rn mX8_readsCatches 129 [l0] st fs M Q else Rn mX8_readsCatches 65 [l0] st fs M Q := R_icne hbX8_readsCatches rfl dX8_readsCatches_62
theorem dX8_readsCatches_65 : decode cX8_readsCatches 65 = .ok (.aload_n 0, 1) := by decide +kernel
theorem aX8_readsCatches_65 {x : Nat} {st : List Value} {fs : List Fm} {M : List va_E} {Q : List va_E → Option Value → Prop} : Rn mX8_readsCatches 65 [.ref x] st fs M Q ↔ Rn mX8_readsCatches 66 [.ref x] (.ref x :: st) fs M Q := R_aload_n hbX8_readsCatches rfl dX8_readsCatches_65
theorem dX8_readsCatches_66 : decode cX8_readsCatches 66 = .ok (.getfield 35, 3) := by decide +kernel
theorem aX8_readsCatches_66 {l0 : Value} {st : List Value} {fs : List Fm} {σ : Mem} {Q : List va_E → Option Value → Prop} : Rn mX8_readsCatches 66 [l0] (.ref (ad 29 0) :: st) fs (enc σ) Q ↔ Rn mX8_readsCatches 69 [l0] (.ref (ad 37 0) :: st) fs (enc σ) Q := R_get hbX8_readsCatches hoX8_readsCatches fl_8_35 (gf_8_9 (by decide) σ) dX8_readsCatches_66
theorem dX8_readsCatches_69 : decode cX8_readsCatches 69 = .ok (.iconst 0, 1) := by decide +kernel
theorem aX8_readsCatches_69 {l0 : Value} {st : List Value} {fs : List Fm} {M : List va_E} {Q : List va_E → Option Value → Prop} : Rn mX8_readsCatches 69 [l0] st fs M Q ↔ Rn mX8_readsCatches 70 [l0] (.int 0 :: st) fs M Q := R_iconst hbX8_readsCatches (by decide) dX8_readsCatches_69
theorem dX8_readsCatches_70 : decode cX8_readsCatches 70 = .ok (.iaload, 1) := by decide +kernel
theorem aX8_readsCatches_70 {k i : Nat} {j : Int32} (ht : aT k = 0) (hi : i < cnt k) {l0 : Value} {st : List Value} {fs : List Fm} {σ : Mem} {Q : List va_E → Option Value → Prop} : Rn mX8_readsCatches 70 [l0] (.int j :: .ref (ad k i) :: st) fs (enc σ) Q ↔ vp_in j (aN k) ∧ Rn mX8_readsCatches 71 [l0] (.int (σ k i j.toNatClampNeg) :: st) fs (enc σ) Q := R_iaload hbX8_readsCatches ht hi dX8_readsCatches_70
theorem dX8_readsCatches_71 : decode cX8_readsCatches 71 = .ok (.bipush 12, 2) := by decide +kernel
theorem aX8_readsCatches_71 {l0 : Value} {st : List Value} {fs : List Fm} {M : List va_E} {Q : List va_E → Option Value → Prop} : Rn mX8_readsCatches 71 [l0] st fs M Q ↔ Rn mX8_readsCatches 73 [l0] (.int 12 :: st) fs M Q := R_bipush hbX8_readsCatches (by decide) dX8_readsCatches_71
theorem dX8_readsCatches_73 : decode cX8_readsCatches 73 = .ok (.if_icmp .ne 11, 3) := by decide +kernel
theorem aX8_readsCatches_73 {x y : Int32} {l0 : Value} {st : List Value} {fs : List Fm} {M : List va_E} {Q : List va_E → Option Value → Prop} : Rn mX8_readsCatches 73 [l0] (.int y :: .int x :: st) fs M Q ↔ if ¬ x = y then Rn mX8_readsCatches 84 [l0] st fs M Q else Rn mX8_readsCatches 76 [l0] st fs M Q := R_icne hbX8_readsCatches rfl dX8_readsCatches_73
theorem dX8_readsCatches_76 : decode cX8_readsCatches 76 = .ok (.aload_n 0, 1) := by decide +kernel
theorem aX8_readsCatches_76 {x : Nat} {st : List Value} {fs : List Fm} {M : List va_E} {Q : List va_E → Option Value → Prop} : Rn mX8_readsCatches 76 [.ref x] st fs M Q ↔ Rn mX8_readsCatches 77 [.ref x] (.ref x :: st) fs M Q := R_aload_n hbX8_readsCatches rfl dX8_readsCatches_76
theorem dX8_readsCatches_77 : decode cX8_readsCatches 77 = .ok (.iconst 1, 1) := by decide +kernel
theorem aX8_readsCatches_77 {l0 : Value} {st : List Value} {fs : List Fm} {M : List va_E} {Q : List va_E → Option Value → Prop} : Rn mX8_readsCatches 77 [l0] st fs M Q ↔ Rn mX8_readsCatches 78 [l0] (.int 1 :: st) fs M Q := R_iconst hbX8_readsCatches (by decide) dX8_readsCatches_77
theorem dX8_readsCatches_78 : decode cX8_readsCatches 78 = .ok (.invokevirtual 103, 3) := by decide +kernel
theorem aX8_readsCatches_78 {y0 : Int32} {l0 : Value} {st : List Value} {fs : List Fm} {σ : Mem} {Q : List va_E → Option Value → Prop} : Rn mX8_readsCatches 78 [l0] (.int y0 :: .ref (ad 29 0) :: st) fs (enc σ) Q ↔ cats st ≤ 8 ∧ Rn mX8_fails 0 [.ref (ad 29 0), .int y0] [] ((mX8_readsCatches, 81, [l0], st) :: fs) (enc σ) Q := R_V (As := [.int y0]) hbX8_readsCatches hoX8_readsCatches cl_8_103 hnX8_fails rfl (by decide +kernel) rfl rfl rfl (isO_29 (by decide) σ) dX8_readsCatches_78
theorem dX8_readsCatches_81 : decode cX8_readsCatches 81 = .ok (.goto 41, 3) := by decide +kernel
theorem aX8_readsCatches_81 {l0 : Value} {st : List Value} {fs : List Fm} {M : List va_E} {Q : List va_E → Option Value → Prop} : Rn mX8_readsCatches 81 [l0] st fs M Q ↔ Rn mX8_readsCatches 122 [l0] st fs M Q := R_goto hbX8_readsCatches rfl dX8_readsCatches_81
theorem dX8_readsCatches_84 : decode cX8_readsCatches 84 = .ok (.aload_n 0, 1) := by decide +kernel
theorem aX8_readsCatches_84 {x : Nat} {st : List Value} {fs : List Fm} {M : List va_E} {Q : List va_E → Option Value → Prop} : Rn mX8_readsCatches 84 [.ref x] st fs M Q ↔ Rn mX8_readsCatches 85 [.ref x] (.ref x :: st) fs M Q := R_aload_n hbX8_readsCatches rfl dX8_readsCatches_84
theorem dX8_readsCatches_85 : decode cX8_readsCatches 85 = .ok (.dup, 1) := by decide +kernel
theorem aX8_readsCatches_85i {x : Int32} {l0 : Value} {st : List Value} {fs : List Fm} {M : List va_E} {Q : List va_E → Option Value → Prop} : Rn mX8_readsCatches 85 [l0] (.int x :: st) fs M Q ↔ Rn mX8_readsCatches 86 [l0] (.int x :: .int x :: st) fs M Q := R_dup_i hbX8_readsCatches dX8_readsCatches_85
theorem aX8_readsCatches_85a {x : Nat} {l0 : Value} {st : List Value} {fs : List Fm} {M : List va_E} {Q : List va_E → Option Value → Prop} : Rn mX8_readsCatches 85 [l0] (.ref x :: st) fs M Q ↔ Rn mX8_readsCatches 86 [l0] (.ref x :: .ref x :: st) fs M Q := R_dup_a hbX8_readsCatches dX8_readsCatches_85
theorem dX8_readsCatches_86 : decode cX8_readsCatches 86 = .ok (.getfield 90, 3) := by decide +kernel
theorem aX8_readsCatches_86 {l0 : Value} {st : List Value} {fs : List Fm} {σ : Mem} {Q : List va_E → Option Value → Prop} : Rn mX8_readsCatches 86 [l0] (.ref (ad 29 0) :: st) fs (enc σ) Q ↔ Rn mX8_readsCatches 89 [l0] (.int (σ 29 0 27) :: st) fs (enc σ) Q := R_get hbX8_readsCatches hoX8_readsCatches fl_8_90 (gf_8_27 (by decide) σ) dX8_readsCatches_86
theorem dX8_readsCatches_89 : decode cX8_readsCatches 89 = .ok (.iconst 1, 1) := by decide +kernel
theorem aX8_readsCatches_89 {l0 : Value} {st : List Value} {fs : List Fm} {M : List va_E} {Q : List va_E → Option Value → Prop} : Rn mX8_readsCatches 89 [l0] st fs M Q ↔ Rn mX8_readsCatches 90 [l0] (.int 1 :: st) fs M Q := R_iconst hbX8_readsCatches (by decide) dX8_readsCatches_89
theorem dX8_readsCatches_90 : decode cX8_readsCatches 90 = .ok (.iadd, 1) := by decide +kernel
theorem aX8_readsCatches_90 {x y : Int32} {l0 : Value} {st : List Value} {fs : List Fm} {M : List va_E} {Q : List va_E → Option Value → Prop} : Rn mX8_readsCatches 90 [l0] (.int y :: .int x :: st) fs M Q ↔ Rn mX8_readsCatches 91 [l0] (.int (x + y) :: st) fs M Q := R_iadd hbX8_readsCatches dX8_readsCatches_90
theorem dX8_readsCatches_91 : decode cX8_readsCatches 91 = .ok (.putfield 90, 3) := by decide +kernel
theorem aX8_readsCatches_91 {x : Int32} {l0 : Value} {st : List Value} {fs : List Fm} {σ : Mem} {Q : List va_E → Option Value → Prop} : Rn mX8_readsCatches 91 [l0] (.int x :: .ref (ad 29 0) :: st) fs (enc σ) Q ↔ Rn mX8_readsCatches 94 [l0] st fs (enc (upS σ 29 0 27 x)) Q := R_put hbX8_readsCatches hoX8_readsCatches fl_8_90 (pf_8_27 (by decide) σ x) dX8_readsCatches_91
theorem dX8_readsCatches_94 : decode cX8_readsCatches 94 = .ok (.aload_n 0, 1) := by decide +kernel
theorem aX8_readsCatches_94 {x : Nat} {st : List Value} {fs : List Fm} {M : List va_E} {Q : List va_E → Option Value → Prop} : Rn mX8_readsCatches 94 [.ref x] st fs M Q ↔ Rn mX8_readsCatches 95 [.ref x] (.ref x :: st) fs M Q := R_aload_n hbX8_readsCatches rfl dX8_readsCatches_94
theorem dX8_readsCatches_95 : decode cX8_readsCatches 95 = .ok (.getfield 38, 3) := by decide +kernel
theorem aX8_readsCatches_95 {l0 : Value} {st : List Value} {fs : List Fm} {σ : Mem} {Q : List va_E → Option Value → Prop} : Rn mX8_readsCatches 95 [l0] (.ref (ad 29 0) :: st) fs (enc σ) Q ↔ Rn mX8_readsCatches 98 [l0] (.ref (ad 38 0) :: st) fs (enc σ) Q := R_get hbX8_readsCatches hoX8_readsCatches fl_8_38 (gf_8_10 (by decide) σ) dX8_readsCatches_95
theorem dX8_readsCatches_98 : decode cX8_readsCatches 98 = .ok (.aload_n 0, 1) := by decide +kernel
theorem aX8_readsCatches_98 {x : Nat} {st : List Value} {fs : List Fm} {M : List va_E} {Q : List va_E → Option Value → Prop} : Rn mX8_readsCatches 98 [.ref x] st fs M Q ↔ Rn mX8_readsCatches 99 [.ref x] (.ref x :: st) fs M Q := R_aload_n hbX8_readsCatches rfl dX8_readsCatches_98
theorem dX8_readsCatches_99 : decode cX8_readsCatches 99 = .ok (.getfield 35, 3) := by decide +kernel
theorem aX8_readsCatches_99 {l0 : Value} {st : List Value} {fs : List Fm} {σ : Mem} {Q : List va_E → Option Value → Prop} : Rn mX8_readsCatches 99 [l0] (.ref (ad 29 0) :: st) fs (enc σ) Q ↔ Rn mX8_readsCatches 102 [l0] (.ref (ad 37 0) :: st) fs (enc σ) Q := R_get hbX8_readsCatches hoX8_readsCatches fl_8_35 (gf_8_9 (by decide) σ) dX8_readsCatches_99
theorem dX8_readsCatches_102 : decode cX8_readsCatches 102 = .ok (.iconst 0, 1) := by decide +kernel
theorem aX8_readsCatches_102 {l0 : Value} {st : List Value} {fs : List Fm} {M : List va_E} {Q : List va_E → Option Value → Prop} : Rn mX8_readsCatches 102 [l0] st fs M Q ↔ Rn mX8_readsCatches 103 [l0] (.int 0 :: st) fs M Q := R_iconst hbX8_readsCatches (by decide) dX8_readsCatches_102
theorem dX8_readsCatches_103 : decode cX8_readsCatches 103 = .ok (.iaload, 1) := by decide +kernel
theorem aX8_readsCatches_103 {k i : Nat} {j : Int32} (ht : aT k = 0) (hi : i < cnt k) {l0 : Value} {st : List Value} {fs : List Fm} {σ : Mem} {Q : List va_E → Option Value → Prop} : Rn mX8_readsCatches 103 [l0] (.int j :: .ref (ad k i) :: st) fs (enc σ) Q ↔ vp_in j (aN k) ∧ Rn mX8_readsCatches 104 [l0] (.int (σ k i j.toNatClampNeg) :: st) fs (enc σ) Q := R_iaload hbX8_readsCatches ht hi dX8_readsCatches_103
theorem dX8_readsCatches_104 : decode cX8_readsCatches 104 = .ok (.aload_n 0, 1) := by decide +kernel
theorem aX8_readsCatches_104 {x : Nat} {st : List Value} {fs : List Fm} {M : List va_E} {Q : List va_E → Option Value → Prop} : Rn mX8_readsCatches 104 [.ref x] st fs M Q ↔ Rn mX8_readsCatches 105 [.ref x] (.ref x :: st) fs M Q := R_aload_n hbX8_readsCatches rfl dX8_readsCatches_104
theorem dX8_readsCatches_105 : decode cX8_readsCatches 105 = .ok (.iconst 0, 1) := by decide +kernel
theorem aX8_readsCatches_105 {l0 : Value} {st : List Value} {fs : List Fm} {M : List va_E} {Q : List va_E → Option Value → Prop} : Rn mX8_readsCatches 105 [l0] st fs M Q ↔ Rn mX8_readsCatches 106 [l0] (.int 0 :: st) fs M Q := R_iconst hbX8_readsCatches (by decide) dX8_readsCatches_105
theorem dX8_readsCatches_106 : decode cX8_readsCatches 106 = .ok (.bipush 99, 2) := by decide +kernel
theorem aX8_readsCatches_106 {l0 : Value} {st : List Value} {fs : List Fm} {M : List va_E} {Q : List va_E → Option Value → Prop} : Rn mX8_readsCatches 106 [l0] st fs M Q ↔ Rn mX8_readsCatches 108 [l0] (.int 99 :: st) fs M Q := R_bipush hbX8_readsCatches (by decide) dX8_readsCatches_106
theorem dX8_readsCatches_108 : decode cX8_readsCatches 108 = .ok (.invokevirtual 107, 3) := by decide +kernel
theorem aX8_readsCatches_108 {y0 : Int32} {y1 : Int32} {l0 : Value} {st : List Value} {fs : List Fm} {σ : Mem} {Q : List va_E → Option Value → Prop} : Rn mX8_readsCatches 108 [l0] (.int y1 :: .int y0 :: .ref (ad 29 0) :: st) fs (enc σ) Q ↔ cats st ≤ 8 ∧ Rn mX8_number 0 [.ref (ad 29 0), .int y0, .int y1, .null, .null] [] ((mX8_readsCatches, 111, [l0], st) :: fs) (enc σ) Q := R_V (As := [.int y0, .int y1]) hbX8_readsCatches hoX8_readsCatches cl_8_107 hnX8_number rfl (by decide +kernel) rfl rfl rfl (isO_29 (by decide) σ) dX8_readsCatches_108
theorem dX8_readsCatches_111 : decode cX8_readsCatches 111 = .ok (.iastore, 1) := by decide +kernel
theorem aX8_readsCatches_111 {k i : Nat} {j x : Int32} (ht : aT k = 0) (hi : i < cnt k) {l0 : Value} {st : List Value} {fs : List Fm} {σ : Mem} {Q : List va_E → Option Value → Prop} : Rn mX8_readsCatches 111 [l0] (.int x :: .int j :: .ref (ad k i) :: st) fs (enc σ) Q ↔ vp_in j (aN k) ∧ Rn mX8_readsCatches 112 [l0] st fs (enc (upS σ k i j.toNatClampNeg x)) Q := R_iastore hbX8_readsCatches ht hi dX8_readsCatches_111
theorem dX8_readsCatches_112 : decode cX8_readsCatches 112 = .ok (.aload_n 0, 1) := by decide +kernel
theorem aX8_readsCatches_112 {x : Nat} {st : List Value} {fs : List Fm} {M : List va_E} {Q : List va_E → Option Value → Prop} : Rn mX8_readsCatches 112 [.ref x] st fs M Q ↔ Rn mX8_readsCatches 113 [.ref x] (.ref x :: st) fs M Q := R_aload_n hbX8_readsCatches rfl dX8_readsCatches_112
theorem dX8_readsCatches_113 : decode cX8_readsCatches 113 = .ok (.getfield 35, 3) := by decide +kernel
theorem aX8_readsCatches_113 {l0 : Value} {st : List Value} {fs : List Fm} {σ : Mem} {Q : List va_E → Option Value → Prop} : Rn mX8_readsCatches 113 [l0] (.ref (ad 29 0) :: st) fs (enc σ) Q ↔ Rn mX8_readsCatches 116 [l0] (.ref (ad 37 0) :: st) fs (enc σ) Q := R_get hbX8_readsCatches hoX8_readsCatches fl_8_35 (gf_8_9 (by decide) σ) dX8_readsCatches_113
theorem dX8_readsCatches_116 : decode cX8_readsCatches 116 = .ok (.iconst 0, 1) := by decide +kernel
theorem aX8_readsCatches_116 {l0 : Value} {st : List Value} {fs : List Fm} {M : List va_E} {Q : List va_E → Option Value → Prop} : Rn mX8_readsCatches 116 [l0] st fs M Q ↔ Rn mX8_readsCatches 117 [l0] (.int 0 :: st) fs M Q := R_iconst hbX8_readsCatches (by decide) dX8_readsCatches_116
theorem dX8_readsCatches_117 : decode cX8_readsCatches 117 = .ok (.dup2, 1) := by decide +kernel
theorem aX8_readsCatches_117 {x : Int32} {a : Nat} {l0 : Value} {st : List Value} {fs : List Fm} {M : List va_E} {Q : List va_E → Option Value → Prop} : Rn mX8_readsCatches 117 [l0] (.int x :: .ref a :: st) fs M Q ↔ Rn mX8_readsCatches 118 [l0] (.int x :: .ref a :: .int x :: .ref a :: st) fs M Q := R_dup2_ia hbX8_readsCatches dX8_readsCatches_117
theorem dX8_readsCatches_118 : decode cX8_readsCatches 118 = .ok (.iaload, 1) := by decide +kernel
theorem aX8_readsCatches_118 {k i : Nat} {j : Int32} (ht : aT k = 0) (hi : i < cnt k) {l0 : Value} {st : List Value} {fs : List Fm} {σ : Mem} {Q : List va_E → Option Value → Prop} : Rn mX8_readsCatches 118 [l0] (.int j :: .ref (ad k i) :: st) fs (enc σ) Q ↔ vp_in j (aN k) ∧ Rn mX8_readsCatches 119 [l0] (.int (σ k i j.toNatClampNeg) :: st) fs (enc σ) Q := R_iaload hbX8_readsCatches ht hi dX8_readsCatches_118
theorem dX8_readsCatches_119 : decode cX8_readsCatches 119 = .ok (.iconst 1, 1) := by decide +kernel
theorem aX8_readsCatches_119 {l0 : Value} {st : List Value} {fs : List Fm} {M : List va_E} {Q : List va_E → Option Value → Prop} : Rn mX8_readsCatches 119 [l0] st fs M Q ↔ Rn mX8_readsCatches 120 [l0] (.int 1 :: st) fs M Q := R_iconst hbX8_readsCatches (by decide) dX8_readsCatches_119
theorem dX8_readsCatches_120 : decode cX8_readsCatches 120 = .ok (.iadd, 1) := by decide +kernel
theorem aX8_readsCatches_120 {x y : Int32} {l0 : Value} {st : List Value} {fs : List Fm} {M : List va_E} {Q : List va_E → Option Value → Prop} : Rn mX8_readsCatches 120 [l0] (.int y :: .int x :: st) fs M Q ↔ Rn mX8_readsCatches 121 [l0] (.int (x + y) :: st) fs M Q := R_iadd hbX8_readsCatches dX8_readsCatches_120
theorem dX8_readsCatches_121 : decode cX8_readsCatches 121 = .ok (.iastore, 1) := by decide +kernel
theorem aX8_readsCatches_121 {k i : Nat} {j x : Int32} (ht : aT k = 0) (hi : i < cnt k) {l0 : Value} {st : List Value} {fs : List Fm} {σ : Mem} {Q : List va_E → Option Value → Prop} : Rn mX8_readsCatches 121 [l0] (.int x :: .int j :: .ref (ad k i) :: st) fs (enc σ) Q ↔ vp_in j (aN k) ∧ Rn mX8_readsCatches 122 [l0] st fs (enc (upS σ k i j.toNatClampNeg x)) Q := R_iastore hbX8_readsCatches ht hi dX8_readsCatches_121
theorem dX8_readsCatches_122 : decode cX8_readsCatches 122 = .ok (.aload_n 0, 1) := by decide +kernel
theorem aX8_readsCatches_122 {x : Nat} {st : List Value} {fs : List Fm} {M : List va_E} {Q : List va_E → Option Value → Prop} : Rn mX8_readsCatches 122 [.ref x] st fs M Q ↔ Rn mX8_readsCatches 123 [.ref x] (.ref x :: st) fs M Q := R_aload_n hbX8_readsCatches rfl dX8_readsCatches_122
theorem dX8_readsCatches_123 : decode cX8_readsCatches 123 = .ok (.invokevirtual 100, 3) := by decide +kernel
theorem aX8_readsCatches_123 {l0 : Value} {st : List Value} {fs : List Fm} {σ : Mem} {Q : List va_E → Option Value → Prop} : Rn mX8_readsCatches 123 [l0] (.ref (ad 29 0) :: st) fs (enc σ) Q ↔ cats st ≤ 8 ∧ Rn mX8_skips 0 [.ref (ad 29 0)] [] ((mX8_readsCatches, 126, [l0], st) :: fs) (enc σ) Q := R_V (As := []) hbX8_readsCatches hoX8_readsCatches cl_8_100 hnX8_skips rfl (by decide +kernel) rfl rfl rfl (isO_29 (by decide) σ) dX8_readsCatches_123
theorem dX8_readsCatches_126 : decode cX8_readsCatches 126 = .ok (.goto (-77), 3) := by decide +kernel
theorem aX8_readsCatches_126 {l0 : Value} {st : List Value} {fs : List Fm} {M : List va_E} {Q : List va_E → Option Value → Prop} : Rn mX8_readsCatches 126 [l0] st fs M Q ↔ Rn mX8_readsCatches 49 [l0] st fs M Q := R_goto hbX8_readsCatches rfl dX8_readsCatches_126
theorem dX8_readsCatches_129 : decode cX8_readsCatches 129 = .ok (.aload_n 0, 1) := by decide +kernel
theorem aX8_readsCatches_129 {x : Nat} {st : List Value} {fs : List Fm} {M : List va_E} {Q : List va_E → Option Value → Prop} : Rn mX8_readsCatches 129 [.ref x] st fs M Q ↔ Rn mX8_readsCatches 130 [.ref x] (.ref x :: st) fs M Q := R_aload_n hbX8_readsCatches rfl dX8_readsCatches_129
theorem dX8_readsCatches_130 : decode cX8_readsCatches 130 = .ok (.bipush 59, 2) := by decide +kernel
theorem aX8_readsCatches_130 {l0 : Value} {st : List Value} {fs : List Fm} {M : List va_E} {Q : List va_E → Option Value → Prop} : Rn mX8_readsCatches 130 [l0] st fs M Q ↔ Rn mX8_readsCatches 132 [l0] (.int 59 :: st) fs M Q := R_bipush hbX8_readsCatches (by decide) dX8_readsCatches_130
theorem dX8_readsCatches_132 : decode cX8_readsCatches 132 = .ok (.invokevirtual 111, 3) := by decide +kernel
theorem aX8_readsCatches_132 {y0 : Int32} {l0 : Value} {st : List Value} {fs : List Fm} {σ : Mem} {Q : List va_E → Option Value → Prop} : Rn mX8_readsCatches 132 [l0] (.int y0 :: .ref (ad 29 0) :: st) fs (enc σ) Q ↔ cats st ≤ 8 ∧ Rn mX8_word 0 [.ref (ad 29 0), .int y0] [] ((mX8_readsCatches, 135, [l0], st) :: fs) (enc σ) Q := R_V (As := [.int y0]) hbX8_readsCatches hoX8_readsCatches cl_8_111 hnX8_word rfl (by decide +kernel) rfl rfl rfl (isO_29 (by decide) σ) dX8_readsCatches_132
theorem dX8_readsCatches_135 : decode cX8_readsCatches 135 = .ok (.return_, 1) := by decide +kernel
theorem aX8_readsCatches_135 {l0 : Value} {fs : List Fm} {M : List va_E} {Q : List va_E → Option Value → Prop} : Rn mX8_readsCatches 135 [l0] [] fs M Q ↔ Rt fs M none Q := R_ret hbX8_readsCatches hrX8_readsCatches dX8_readsCatches_135
theorem dX8_fails_0 : decode cX8_fails 0 = .ok (.aload_n 0, 1) := by decide +kernel
theorem aX8_fails_0 {x : Nat} {l1 : Value} {st : List Value} {fs : List Fm} {M : List va_E} {Q : List va_E → Option Value → Prop} : Rn mX8_fails 0 [.ref x, l1] st fs M Q ↔ Rn mX8_fails 1 [.ref x, l1] (.ref x :: st) fs M Q := R_aload_n hbX8_fails rfl dX8_fails_0
theorem dX8_fails_1 : decode cX8_fails 1 = .ok (.aload_n 0, 1) := by decide +kernel
theorem aX8_fails_1 {x : Nat} {l1 : Value} {st : List Value} {fs : List Fm} {M : List va_E} {Q : List va_E → Option Value → Prop} : Rn mX8_fails 1 [.ref x, l1] st fs M Q ↔ Rn mX8_fails 2 [.ref x, l1] (.ref x :: st) fs M Q := R_aload_n hbX8_fails rfl dX8_fails_1
theorem dX8_fails_2 : decode cX8_fails 2 = .ok (.getfield 93, 3) := by decide +kernel
theorem aX8_fails_2 {l0 l1 : Value} {st : List Value} {fs : List Fm} {σ : Mem} {Q : List va_E → Option Value → Prop} : Rn mX8_fails 2 [l0, l1] (.ref (ad 29 0) :: st) fs (enc σ) Q ↔ Rn mX8_fails 5 [l0, l1] (.int (σ 29 0 28) :: st) fs (enc σ) Q := R_get hbX8_fails hoX8_fails fl_8_93 (gf_8_28 (by decide) σ) dX8_fails_2
theorem dX8_fails_5 : decode cX8_fails 5 = .ok (.ifCond .ne 7, 3) := by decide +kernel
theorem aX8_fails_5 {x : Int32} {l0 l1 : Value} {st : List Value} {fs : List Fm} {M : List va_E} {Q : List va_E → Option Value → Prop} : Rn mX8_fails 5 [l0, l1] (.int x :: st) fs M Q ↔ if ¬ x = 0 then Rn mX8_fails 12 [l0, l1] st fs M Q else Rn mX8_fails 8 [l0, l1] st fs M Q := R_ifne hbX8_fails rfl dX8_fails_5
theorem dX8_fails_8 : decode cX8_fails 8 = .ok (.iload_n 1, 1) := by decide +kernel
theorem aX8_fails_8 {x : Int32} {l0 : Value} {st : List Value} {fs : List Fm} {M : List va_E} {Q : List va_E → Option Value → Prop} : Rn mX8_fails 8 [l0, .int x] st fs M Q ↔ Rn mX8_fails 9 [l0, .int x] (.int x :: st) fs M Q := R_iload_n hbX8_fails rfl dX8_fails_8
theorem dX8_fails_9 : decode cX8_fails 9 = .ok (.goto 7, 3) := by decide +kernel
theorem aX8_fails_9 {l0 l1 : Value} {st : List Value} {fs : List Fm} {M : List va_E} {Q : List va_E → Option Value → Prop} : Rn mX8_fails 9 [l0, l1] st fs M Q ↔ Rn mX8_fails 16 [l0, l1] st fs M Q := R_goto hbX8_fails rfl dX8_fails_9
theorem dX8_fails_12 : decode cX8_fails 12 = .ok (.aload_n 0, 1) := by decide +kernel
theorem aX8_fails_12 {x : Nat} {l1 : Value} {st : List Value} {fs : List Fm} {M : List va_E} {Q : List va_E → Option Value → Prop} : Rn mX8_fails 12 [.ref x, l1] st fs M Q ↔ Rn mX8_fails 13 [.ref x, l1] (.ref x :: st) fs M Q := R_aload_n hbX8_fails rfl dX8_fails_12
theorem dX8_fails_13 : decode cX8_fails 13 = .ok (.getfield 93, 3) := by decide +kernel
theorem aX8_fails_13 {l0 l1 : Value} {st : List Value} {fs : List Fm} {σ : Mem} {Q : List va_E → Option Value → Prop} : Rn mX8_fails 13 [l0, l1] (.ref (ad 29 0) :: st) fs (enc σ) Q ↔ Rn mX8_fails 16 [l0, l1] (.int (σ 29 0 28) :: st) fs (enc σ) Q := R_get hbX8_fails hoX8_fails fl_8_93 (gf_8_28 (by decide) σ) dX8_fails_13
theorem dX8_fails_16 : decode cX8_fails 16 = .ok (.putfield 93, 3) := by decide +kernel
theorem aX8_fails_16 {x : Int32} {l0 l1 : Value} {st : List Value} {fs : List Fm} {σ : Mem} {Q : List va_E → Option Value → Prop} : Rn mX8_fails 16 [l0, l1] (.int x :: .ref (ad 29 0) :: st) fs (enc σ) Q ↔ Rn mX8_fails 19 [l0, l1] st fs (enc (upS σ 29 0 28 x)) Q := R_put hbX8_fails hoX8_fails fl_8_93 (pf_8_28 (by decide) σ x) dX8_fails_16
theorem dX8_fails_19 : decode cX8_fails 19 = .ok (.return_, 1) := by decide +kernel
theorem aX8_fails_19 {l0 l1 : Value} {fs : List Fm} {M : List va_E} {Q : List va_E → Option Value → Prop} : Rn mX8_fails 19 [l0, l1] [] fs M Q ↔ Rt fs M none Q := R_ret hbX8_fails hrX8_fails dX8_fails_19
theorem dX8_number_0 : decode cX8_number 0 = .ok (.aload_n 0, 1) := by decide +kernel
theorem aX8_number_0 {x : Nat} {l1 l2 l3 l4 : Value} {st : List Value} {fs : List Fm} {M : List va_E} {Q : List va_E → Option Value → Prop} : Rn mX8_number 0 [.ref x, l1, l2, l3, l4] st fs M Q ↔ Rn mX8_number 1 [.ref x, l1, l2, l3, l4] (.ref x :: st) fs M Q := R_aload_n hbX8_number rfl dX8_number_0
theorem dX8_number_1 : decode cX8_number 1 = .ok (.invokevirtual 100, 3) := by decide +kernel
theorem aX8_number_1 {l0 l1 l2 l3 l4 : Value} {st : List Value} {fs : List Fm} {σ : Mem} {Q : List va_E → Option Value → Prop} : Rn mX8_number 1 [l0, l1, l2, l3, l4] (.ref (ad 29 0) :: st) fs (enc σ) Q ↔ cats st ≤ 8 ∧ Rn mX8_skips 0 [.ref (ad 29 0)] [] ((mX8_number, 4, [l0, l1, l2, l3, l4], st) :: fs) (enc σ) Q := R_V (As := []) hbX8_number hoX8_number cl_8_100 hnX8_skips rfl (by decide +kernel) rfl rfl rfl (isO_29 (by decide) σ) dX8_number_1
theorem dX8_number_4 : decode cX8_number 4 = .ok (.aload_n 0, 1) := by decide +kernel
theorem aX8_number_4 {x : Nat} {l1 l2 l3 l4 : Value} {st : List Value} {fs : List Fm} {M : List va_E} {Q : List va_E → Option Value → Prop} : Rn mX8_number 4 [.ref x, l1, l2, l3, l4] st fs M Q ↔ Rn mX8_number 5 [.ref x, l1, l2, l3, l4] (.ref x :: st) fs M Q := R_aload_n hbX8_number rfl dX8_number_4
theorem dX8_number_5 : decode cX8_number 5 = .ok (.getfield 93, 3) := by decide +kernel
theorem aX8_number_5 {l0 l1 l2 l3 l4 : Value} {st : List Value} {fs : List Fm} {σ : Mem} {Q : List va_E → Option Value → Prop} : Rn mX8_number 5 [l0, l1, l2, l3, l4] (.ref (ad 29 0) :: st) fs (enc σ) Q ↔ Rn mX8_number 8 [l0, l1, l2, l3, l4] (.int (σ 29 0 28) :: st) fs (enc σ) Q := R_get hbX8_number hoX8_number fl_8_93 (gf_8_28 (by decide) σ) dX8_number_5
theorem dX8_number_8 : decode cX8_number 8 = .ok (.ifCond .eq 5, 3) := by decide +kernel
theorem aX8_number_8 {x : Int32} {l0 l1 l2 l3 l4 : Value} {st : List Value} {fs : List Fm} {M : List va_E} {Q : List va_E → Option Value → Prop} : Rn mX8_number 8 [l0, l1, l2, l3, l4] (.int x :: st) fs M Q ↔ if x = 0 then Rn mX8_number 13 [l0, l1, l2, l3, l4] st fs M Q else Rn mX8_number 11 [l0, l1, l2, l3, l4] st fs M Q := R_ifeq hbX8_number rfl dX8_number_8
theorem dX8_number_11 : decode cX8_number 11 = .ok (.iconst 0, 1) := by decide +kernel
theorem aX8_number_11 {l0 l1 l2 l3 l4 : Value} {st : List Value} {fs : List Fm} {M : List va_E} {Q : List va_E → Option Value → Prop} : Rn mX8_number 11 [l0, l1, l2, l3, l4] st fs M Q ↔ Rn mX8_number 12 [l0, l1, l2, l3, l4] (.int 0 :: st) fs M Q := R_iconst hbX8_number (by decide) dX8_number_11
theorem dX8_number_12 : decode cX8_number 12 = .ok (.ireturn, 1) := by decide +kernel
theorem aX8_number_12 {x : Int32} {l0 l1 l2 l3 l4 : Value} {fs : List Fm} {M : List va_E} {Q : List va_E → Option Value → Prop} : Rn mX8_number 12 [l0, l1, l2, l3, l4] [.int x] fs M Q ↔ Rt fs M (some (.int x)) Q := R_reti hbX8_number hrX8_number dX8_number_12
theorem dX8_number_13 : decode cX8_number 13 = .ok (.aload_n 0, 1) := by decide +kernel
theorem aX8_number_13 {x : Nat} {l1 l2 l3 l4 : Value} {st : List Value} {fs : List Fm} {M : List va_E} {Q : List va_E → Option Value → Prop} : Rn mX8_number 13 [.ref x, l1, l2, l3, l4] st fs M Q ↔ Rn mX8_number 14 [.ref x, l1, l2, l3, l4] (.ref x :: st) fs M Q := R_aload_n hbX8_number rfl dX8_number_13
theorem dX8_number_14 : decode cX8_number 14 = .ok (.invokevirtual 96, 3) := by decide +kernel
theorem aX8_number_14 {l0 l1 l2 l3 l4 : Value} {st : List Value} {fs : List Fm} {σ : Mem} {Q : List va_E → Option Value → Prop} : Rn mX8_number 14 [l0, l1, l2, l3, l4] (.ref (ad 29 0) :: st) fs (enc σ) Q ↔ cats st ≤ 8 ∧ Rn mX8_look 0 [.ref (ad 29 0)] [] ((mX8_number, 17, [l0, l1, l2, l3, l4], st) :: fs) (enc σ) Q := R_V (As := []) hbX8_number hoX8_number cl_8_96 hnX8_look rfl (by decide +kernel) rfl rfl rfl (isO_29 (by decide) σ) dX8_number_14
theorem dX8_number_17 : decode cX8_number 17 = .ok (.bipush 48, 2) := by decide +kernel
theorem aX8_number_17 {l0 l1 l2 l3 l4 : Value} {st : List Value} {fs : List Fm} {M : List va_E} {Q : List va_E → Option Value → Prop} : Rn mX8_number 17 [l0, l1, l2, l3, l4] st fs M Q ↔ Rn mX8_number 19 [l0, l1, l2, l3, l4] (.int 48 :: st) fs M Q := R_bipush hbX8_number (by decide) dX8_number_17
theorem dX8_number_19 : decode cX8_number 19 = .ok (.bipush 57, 2) := by decide +kernel
theorem aX8_number_19 {l0 l1 l2 l3 l4 : Value} {st : List Value} {fs : List Fm} {M : List va_E} {Q : List va_E → Option Value → Prop} : Rn mX8_number 19 [l0, l1, l2, l3, l4] st fs M Q ↔ Rn mX8_number 21 [l0, l1, l2, l3, l4] (.int 57 :: st) fs M Q := R_bipush hbX8_number (by decide) dX8_number_19
theorem dX8_number_21 : decode cX8_number 21 = .ok (.invokestatic 81, 3) := by decide +kernel
theorem aX8_number_21 {y0 : Int32} {y1 : Int32} {y2 : Int32} {l0 l1 l2 l3 l4 : Value} {st : List Value} {fs : List Fm} {M : List va_E} {Q : List va_E → Option Value → Prop} : Rn mX8_number 21 [l0, l1, l2, l3, l4] (.int y2 :: .int y1 :: .int y0 :: st) fs M Q ↔ cats st ≤ 8 ∧ Rn mX8_in 0 [.int y0, .int y1, .int y2] [] ((mX8_number, 24, [l0, l1, l2, l3, l4], st) :: fs) M Q := R_S (As := [.int y0, .int y1, .int y2]) hbX8_number hoX8_number cl_8_81 (by decide) hnX8_in rfl (by decide +kernel) rfl rfl rfl dX8_number_21
theorem dX8_number_24 : decode cX8_number 24 = .ok (.ifCond .ne 10, 3) := by decide +kernel
theorem aX8_number_24 {x : Int32} {l0 l1 l2 l3 l4 : Value} {st : List Value} {fs : List Fm} {M : List va_E} {Q : List va_E → Option Value → Prop} : Rn mX8_number 24 [l0, l1, l2, l3, l4] (.int x :: st) fs M Q ↔ if ¬ x = 0 then Rn mX8_number 34 [l0, l1, l2, l3, l4] st fs M Q else Rn mX8_number 27 [l0, l1, l2, l3, l4] st fs M Q := R_ifne hbX8_number rfl dX8_number_24
theorem dX8_number_27 : decode cX8_number 27 = .ok (.aload_n 0, 1) := by decide +kernel
theorem aX8_number_27 {x : Nat} {l1 l2 l3 l4 : Value} {st : List Value} {fs : List Fm} {M : List va_E} {Q : List va_E → Option Value → Prop} : Rn mX8_number 27 [.ref x, l1, l2, l3, l4] st fs M Q ↔ Rn mX8_number 28 [.ref x, l1, l2, l3, l4] (.ref x :: st) fs M Q := R_aload_n hbX8_number rfl dX8_number_27
theorem dX8_number_28 : decode cX8_number 28 = .ok (.iconst 1, 1) := by decide +kernel
theorem aX8_number_28 {l0 l1 l2 l3 l4 : Value} {st : List Value} {fs : List Fm} {M : List va_E} {Q : List va_E → Option Value → Prop} : Rn mX8_number 28 [l0, l1, l2, l3, l4] st fs M Q ↔ Rn mX8_number 29 [l0, l1, l2, l3, l4] (.int 1 :: st) fs M Q := R_iconst hbX8_number (by decide) dX8_number_28
theorem dX8_number_29 : decode cX8_number 29 = .ok (.invokevirtual 103, 3) := by decide +kernel
theorem aX8_number_29 {y0 : Int32} {l0 l1 l2 l3 l4 : Value} {st : List Value} {fs : List Fm} {σ : Mem} {Q : List va_E → Option Value → Prop} : Rn mX8_number 29 [l0, l1, l2, l3, l4] (.int y0 :: .ref (ad 29 0) :: st) fs (enc σ) Q ↔ cats st ≤ 8 ∧ Rn mX8_fails 0 [.ref (ad 29 0), .int y0] [] ((mX8_number, 32, [l0, l1, l2, l3, l4], st) :: fs) (enc σ) Q := R_V (As := [.int y0]) hbX8_number hoX8_number cl_8_103 hnX8_fails rfl (by decide +kernel) rfl rfl rfl (isO_29 (by decide) σ) dX8_number_29
theorem dX8_number_32 : decode cX8_number 32 = .ok (.iconst 0, 1) := by decide +kernel
theorem aX8_number_32 {l0 l1 l2 l3 l4 : Value} {st : List Value} {fs : List Fm} {M : List va_E} {Q : List va_E → Option Value → Prop} : Rn mX8_number 32 [l0, l1, l2, l3, l4] st fs M Q ↔ Rn mX8_number 33 [l0, l1, l2, l3, l4] (.int 0 :: st) fs M Q := R_iconst hbX8_number (by decide) dX8_number_32
theorem dX8_number_33 : decode cX8_number 33 = .ok (.ireturn, 1) := by decide +kernel
theorem aX8_number_33 {x : Int32} {l0 l1 l2 l3 l4 : Value} {fs : List Fm} {M : List va_E} {Q : List va_E → Option Value → Prop} : Rn mX8_number 33 [l0, l1, l2, l3, l4] [.int x] fs M Q ↔ Rt fs M (some (.int x)) Q := R_reti hbX8_number hrX8_number dX8_number_33
theorem dX8_number_34 : decode cX8_number 34 = .ok (.aload_n 0, 1) := by decide +kernel
theorem aX8_number_34 {x : Nat} {l1 l2 l3 l4 : Value} {st : List Value} {fs : List Fm} {M : List va_E} {Q : List va_E → Option Value → Prop} : Rn mX8_number 34 [.ref x, l1, l2, l3, l4] st fs M Q ↔ Rn mX8_number 35 [.ref x, l1, l2, l3, l4] (.ref x :: st) fs M Q := R_aload_n hbX8_number rfl dX8_number_34
theorem dX8_number_35 : decode cX8_number 35 = .ok (.getfield 90, 3) := by decide +kernel
theorem aX8_number_35 {l0 l1 l2 l3 l4 : Value} {st : List Value} {fs : List Fm} {σ : Mem} {Q : List va_E → Option Value → Prop} : Rn mX8_number 35 [l0, l1, l2, l3, l4] (.ref (ad 29 0) :: st) fs (enc σ) Q ↔ Rn mX8_number 38 [l0, l1, l2, l3, l4] (.int (σ 29 0 27) :: st) fs (enc σ) Q := R_get hbX8_number hoX8_number fl_8_90 (gf_8_27 (by decide) σ) dX8_number_35
theorem dX8_number_38 : decode cX8_number 38 = .ok (.istore_n 3, 1) := by decide +kernel
theorem aX8_number_38 {x : Int32} {l0 l1 l2 l3 l4 : Value} {st : List Value} {fs : List Fm} {M : List va_E} {Q : List va_E → Option Value → Prop} : Rn mX8_number 38 [l0, l1, l2, l3, l4] (.int x :: st) fs M Q ↔ Rn mX8_number 39 [l0, l1, l2, .int x, l4] st fs M Q := R_istore_n hbX8_number hmX8_number hlX8_number (by decide) (by decide) rfl dX8_number_38
theorem dX8_number_39 : decode cX8_number 39 = .ok (.iconst 0, 1) := by decide +kernel
theorem aX8_number_39 {l0 l1 l2 l3 l4 : Value} {st : List Value} {fs : List Fm} {M : List va_E} {Q : List va_E → Option Value → Prop} : Rn mX8_number 39 [l0, l1, l2, l3, l4] st fs M Q ↔ Rn mX8_number 40 [l0, l1, l2, l3, l4] (.int 0 :: st) fs M Q := R_iconst hbX8_number (by decide) dX8_number_39
theorem dX8_number_40 : decode cX8_number 40 = .ok (.istore 4, 2) := by decide +kernel
theorem aX8_number_40 {x : Int32} {l0 l1 l2 l3 l4 : Value} {st : List Value} {fs : List Fm} {M : List va_E} {Q : List va_E → Option Value → Prop} : Rn mX8_number 40 [l0, l1, l2, l3, l4] (.int x :: st) fs M Q ↔ Rn mX8_number 42 [l0, l1, l2, l3, .int x] st fs M Q := R_istore hbX8_number hmX8_number hlX8_number (by decide) (by decide) rfl dX8_number_40
theorem dX8_number_42 : decode cX8_number 42 = .ok (.aload_n 0, 1) := by decide +kernel
theorem aX8_number_42 {x : Nat} {l1 l2 l3 l4 : Value} {st : List Value} {fs : List Fm} {M : List va_E} {Q : List va_E → Option Value → Prop} : Rn mX8_number 42 [.ref x, l1, l2, l3, l4] st fs M Q ↔ Rn mX8_number 43 [.ref x, l1, l2, l3, l4] (.ref x :: st) fs M Q := R_aload_n hbX8_number rfl dX8_number_42
theorem dX8_number_43 : decode cX8_number 43 = .ok (.invokevirtual 96, 3) := by decide +kernel
theorem aX8_number_43 {l0 l1 l2 l3 l4 : Value} {st : List Value} {fs : List Fm} {σ : Mem} {Q : List va_E → Option Value → Prop} : Rn mX8_number 43 [l0, l1, l2, l3, l4] (.ref (ad 29 0) :: st) fs (enc σ) Q ↔ cats st ≤ 8 ∧ Rn mX8_look 0 [.ref (ad 29 0)] [] ((mX8_number, 46, [l0, l1, l2, l3, l4], st) :: fs) (enc σ) Q := R_V (As := []) hbX8_number hoX8_number cl_8_96 hnX8_look rfl (by decide +kernel) rfl rfl rfl (isO_29 (by decide) σ) dX8_number_43
theorem dX8_number_46 : decode cX8_number 46 = .ok (.bipush 48, 2) := by decide +kernel
theorem aX8_number_46 {l0 l1 l2 l3 l4 : Value} {st : List Value} {fs : List Fm} {M : List va_E} {Q : List va_E → Option Value → Prop} : Rn mX8_number 46 [l0, l1, l2, l3, l4] st fs M Q ↔ Rn mX8_number 48 [l0, l1, l2, l3, l4] (.int 48 :: st) fs M Q := R_bipush hbX8_number (by decide) dX8_number_46
theorem dX8_number_48 : decode cX8_number 48 = .ok (.bipush 57, 2) := by decide +kernel
theorem aX8_number_48 {l0 l1 l2 l3 l4 : Value} {st : List Value} {fs : List Fm} {M : List va_E} {Q : List va_E → Option Value → Prop} : Rn mX8_number 48 [l0, l1, l2, l3, l4] st fs M Q ↔ Rn mX8_number 50 [l0, l1, l2, l3, l4] (.int 57 :: st) fs M Q := R_bipush hbX8_number (by decide) dX8_number_48
theorem dX8_number_50 : decode cX8_number 50 = .ok (.invokestatic 81, 3) := by decide +kernel
theorem aX8_number_50 {y0 : Int32} {y1 : Int32} {y2 : Int32} {l0 l1 l2 l3 l4 : Value} {st : List Value} {fs : List Fm} {M : List va_E} {Q : List va_E → Option Value → Prop} : Rn mX8_number 50 [l0, l1, l2, l3, l4] (.int y2 :: .int y1 :: .int y0 :: st) fs M Q ↔ cats st ≤ 8 ∧ Rn mX8_in 0 [.int y0, .int y1, .int y2] [] ((mX8_number, 53, [l0, l1, l2, l3, l4], st) :: fs) M Q := R_S (As := [.int y0, .int y1, .int y2]) hbX8_number hoX8_number cl_8_81 (by decide) hnX8_in rfl (by decide +kernel) rfl rfl rfl dX8_number_50
theorem dX8_number_53 : decode cX8_number 53 = .ok (.ifCond .eq 46, 3) := by decide +kernel
theorem aX8_number_53 {x : Int32} {l0 l1 l2 l3 l4 : Value} {st : List Value} {fs : List Fm} {M : List va_E} {Q : List va_E → Option Value → Prop} : Rn mX8_number 53 [l0, l1, l2, l3, l4] (.int x :: st) fs M Q ↔ if x = 0 then Rn mX8_number 99 [l0, l1, l2, l3, l4] st fs M Q else Rn mX8_number 56 [l0, l1, l2, l3, l4] st fs M Q := R_ifeq hbX8_number rfl dX8_number_53
theorem dX8_number_56 : decode cX8_number 56 = .ok (.aload_n 0, 1) := by decide +kernel
theorem aX8_number_56 {x : Nat} {l1 l2 l3 l4 : Value} {st : List Value} {fs : List Fm} {M : List va_E} {Q : List va_E → Option Value → Prop} : Rn mX8_number 56 [.ref x, l1, l2, l3, l4] st fs M Q ↔ Rn mX8_number 57 [.ref x, l1, l2, l3, l4] (.ref x :: st) fs M Q := R_aload_n hbX8_number rfl dX8_number_56
theorem dX8_number_57 : decode cX8_number 57 = .ok (.getfield 90, 3) := by decide +kernel
theorem aX8_number_57 {l0 l1 l2 l3 l4 : Value} {st : List Value} {fs : List Fm} {σ : Mem} {Q : List va_E → Option Value → Prop} : Rn mX8_number 57 [l0, l1, l2, l3, l4] (.ref (ad 29 0) :: st) fs (enc σ) Q ↔ Rn mX8_number 60 [l0, l1, l2, l3, l4] (.int (σ 29 0 27) :: st) fs (enc σ) Q := R_get hbX8_number hoX8_number fl_8_90 (gf_8_27 (by decide) σ) dX8_number_57
theorem dX8_number_60 : decode cX8_number 60 = .ok (.iload_n 3, 1) := by decide +kernel
theorem aX8_number_60 {x : Int32} {l0 l1 l2 l4 : Value} {st : List Value} {fs : List Fm} {M : List va_E} {Q : List va_E → Option Value → Prop} : Rn mX8_number 60 [l0, l1, l2, .int x, l4] st fs M Q ↔ Rn mX8_number 61 [l0, l1, l2, .int x, l4] (.int x :: st) fs M Q := R_iload_n hbX8_number rfl dX8_number_60
theorem dX8_number_61 : decode cX8_number 61 = .ok (.isub, 1) := by decide +kernel
theorem aX8_number_61 {x y : Int32} {l0 l1 l2 l3 l4 : Value} {st : List Value} {fs : List Fm} {M : List va_E} {Q : List va_E → Option Value → Prop} : Rn mX8_number 61 [l0, l1, l2, l3, l4] (.int y :: .int x :: st) fs M Q ↔ Rn mX8_number 62 [l0, l1, l2, l3, l4] (.int (x - y) :: st) fs M Q := R_isub hbX8_number dX8_number_61
theorem dX8_number_62 : decode cX8_number 62 = .ok (.iconst 3, 1) := by decide +kernel
theorem aX8_number_62 {l0 l1 l2 l3 l4 : Value} {st : List Value} {fs : List Fm} {M : List va_E} {Q : List va_E → Option Value → Prop} : Rn mX8_number 62 [l0, l1, l2, l3, l4] st fs M Q ↔ Rn mX8_number 63 [l0, l1, l2, l3, l4] (.int 3 :: st) fs M Q := R_iconst hbX8_number (by decide) dX8_number_62
theorem dX8_number_63 : decode cX8_number 63 = .ok (.if_icmp .ge 19, 3) := by decide +kernel
theorem aX8_number_63 {x y : Int32} {l0 l1 l2 l3 l4 : Value} {st : List Value} {fs : List Fm} {M : List va_E} {Q : List va_E → Option Value → Prop} : Rn mX8_number 63 [l0, l1, l2, l3, l4] (.int y :: .int x :: st) fs M Q ↔ if y ≤ x then Rn mX8_number 82 [l0, l1, l2, l3, l4] st fs M Q else Rn mX8_number 66 [l0, l1, l2, l3, l4] st fs M Q := R_icge hbX8_number rfl dX8_number_63
theorem dX8_number_66 : decode cX8_number 66 = .ok (.bipush 10, 2) := by decide +kernel
theorem aX8_number_66 {l0 l1 l2 l3 l4 : Value} {st : List Value} {fs : List Fm} {M : List va_E} {Q : List va_E → Option Value → Prop} : Rn mX8_number 66 [l0, l1, l2, l3, l4] st fs M Q ↔ Rn mX8_number 68 [l0, l1, l2, l3, l4] (.int 10 :: st) fs M Q := R_bipush hbX8_number (by decide) dX8_number_66
theorem dX8_number_68 : decode cX8_number 68 = .ok (.iload 4, 2) := by decide +kernel
theorem aX8_number_68 {x : Int32} {l0 l1 l2 l3 : Value} {st : List Value} {fs : List Fm} {M : List va_E} {Q : List va_E → Option Value → Prop} : Rn mX8_number 68 [l0, l1, l2, l3, .int x] st fs M Q ↔ Rn mX8_number 70 [l0, l1, l2, l3, .int x] (.int x :: st) fs M Q := R_iload hbX8_number rfl dX8_number_68
theorem dX8_number_70 : decode cX8_number 70 = .ok (.imul, 1) := by decide +kernel
theorem aX8_number_70 {x y : Int32} {l0 l1 l2 l3 l4 : Value} {st : List Value} {fs : List Fm} {M : List va_E} {Q : List va_E → Option Value → Prop} : Rn mX8_number 70 [l0, l1, l2, l3, l4] (.int y :: .int x :: st) fs M Q ↔ Rn mX8_number 71 [l0, l1, l2, l3, l4] (.int (x * y) :: st) fs M Q := R_imul hbX8_number dX8_number_70
theorem dX8_number_71 : decode cX8_number 71 = .ok (.aload_n 0, 1) := by decide +kernel
theorem aX8_number_71 {x : Nat} {l1 l2 l3 l4 : Value} {st : List Value} {fs : List Fm} {M : List va_E} {Q : List va_E → Option Value → Prop} : Rn mX8_number 71 [.ref x, l1, l2, l3, l4] st fs M Q ↔ Rn mX8_number 72 [.ref x, l1, l2, l3, l4] (.ref x :: st) fs M Q := R_aload_n hbX8_number rfl dX8_number_71
theorem dX8_number_72 : decode cX8_number 72 = .ok (.invokevirtual 96, 3) := by decide +kernel
theorem aX8_number_72 {l0 l1 l2 l3 l4 : Value} {st : List Value} {fs : List Fm} {σ : Mem} {Q : List va_E → Option Value → Prop} : Rn mX8_number 72 [l0, l1, l2, l3, l4] (.ref (ad 29 0) :: st) fs (enc σ) Q ↔ cats st ≤ 8 ∧ Rn mX8_look 0 [.ref (ad 29 0)] [] ((mX8_number, 75, [l0, l1, l2, l3, l4], st) :: fs) (enc σ) Q := R_V (As := []) hbX8_number hoX8_number cl_8_96 hnX8_look rfl (by decide +kernel) rfl rfl rfl (isO_29 (by decide) σ) dX8_number_72
theorem dX8_number_75 : decode cX8_number 75 = .ok (.iadd, 1) := by decide +kernel
theorem aX8_number_75 {x y : Int32} {l0 l1 l2 l3 l4 : Value} {st : List Value} {fs : List Fm} {M : List va_E} {Q : List va_E → Option Value → Prop} : Rn mX8_number 75 [l0, l1, l2, l3, l4] (.int y :: .int x :: st) fs M Q ↔ Rn mX8_number 76 [l0, l1, l2, l3, l4] (.int (x + y) :: st) fs M Q := R_iadd hbX8_number dX8_number_75
theorem dX8_number_76 : decode cX8_number 76 = .ok (.bipush 48, 2) := by decide +kernel
theorem aX8_number_76 {l0 l1 l2 l3 l4 : Value} {st : List Value} {fs : List Fm} {M : List va_E} {Q : List va_E → Option Value → Prop} : Rn mX8_number 76 [l0, l1, l2, l3, l4] st fs M Q ↔ Rn mX8_number 78 [l0, l1, l2, l3, l4] (.int 48 :: st) fs M Q := R_bipush hbX8_number (by decide) dX8_number_76
theorem dX8_number_78 : decode cX8_number 78 = .ok (.isub, 1) := by decide +kernel
theorem aX8_number_78 {x y : Int32} {l0 l1 l2 l3 l4 : Value} {st : List Value} {fs : List Fm} {M : List va_E} {Q : List va_E → Option Value → Prop} : Rn mX8_number 78 [l0, l1, l2, l3, l4] (.int y :: .int x :: st) fs M Q ↔ Rn mX8_number 79 [l0, l1, l2, l3, l4] (.int (x - y) :: st) fs M Q := R_isub hbX8_number dX8_number_78
theorem dX8_number_79 : decode cX8_number 79 = .ok (.goto 5, 3) := by decide +kernel
theorem aX8_number_79 {l0 l1 l2 l3 l4 : Value} {st : List Value} {fs : List Fm} {M : List va_E} {Q : List va_E → Option Value → Prop} : Rn mX8_number 79 [l0, l1, l2, l3, l4] st fs M Q ↔ Rn mX8_number 84 [l0, l1, l2, l3, l4] st fs M Q := R_goto hbX8_number rfl dX8_number_79
theorem dX8_number_82 : decode cX8_number 82 = .ok (.iload 4, 2) := by decide +kernel
theorem aX8_number_82 {x : Int32} {l0 l1 l2 l3 : Value} {st : List Value} {fs : List Fm} {M : List va_E} {Q : List va_E → Option Value → Prop} : Rn mX8_number 82 [l0, l1, l2, l3, .int x] st fs M Q ↔ Rn mX8_number 84 [l0, l1, l2, l3, .int x] (.int x :: st) fs M Q := R_iload hbX8_number rfl dX8_number_82
theorem dX8_number_84 : decode cX8_number 84 = .ok (.istore 4, 2) := by decide +kernel
theorem aX8_number_84 {x : Int32} {l0 l1 l2 l3 l4 : Value} {st : List Value} {fs : List Fm} {M : List va_E} {Q : List va_E → Option Value → Prop} : Rn mX8_number 84 [l0, l1, l2, l3, l4] (.int x :: st) fs M Q ↔ Rn mX8_number 86 [l0, l1, l2, l3, .int x] st fs M Q := R_istore hbX8_number hmX8_number hlX8_number (by decide) (by decide) rfl dX8_number_84
theorem dX8_number_86 : decode cX8_number 86 = .ok (.aload_n 0, 1) := by decide +kernel
theorem aX8_number_86 {x : Nat} {l1 l2 l3 l4 : Value} {st : List Value} {fs : List Fm} {M : List va_E} {Q : List va_E → Option Value → Prop} : Rn mX8_number 86 [.ref x, l1, l2, l3, l4] st fs M Q ↔ Rn mX8_number 87 [.ref x, l1, l2, l3, l4] (.ref x :: st) fs M Q := R_aload_n hbX8_number rfl dX8_number_86
theorem dX8_number_87 : decode cX8_number 87 = .ok (.dup, 1) := by decide +kernel
theorem aX8_number_87i {x : Int32} {l0 l1 l2 l3 l4 : Value} {st : List Value} {fs : List Fm} {M : List va_E} {Q : List va_E → Option Value → Prop} : Rn mX8_number 87 [l0, l1, l2, l3, l4] (.int x :: st) fs M Q ↔ Rn mX8_number 88 [l0, l1, l2, l3, l4] (.int x :: .int x :: st) fs M Q := R_dup_i hbX8_number dX8_number_87
theorem aX8_number_87a {x : Nat} {l0 l1 l2 l3 l4 : Value} {st : List Value} {fs : List Fm} {M : List va_E} {Q : List va_E → Option Value → Prop} : Rn mX8_number 87 [l0, l1, l2, l3, l4] (.ref x :: st) fs M Q ↔ Rn mX8_number 88 [l0, l1, l2, l3, l4] (.ref x :: .ref x :: st) fs M Q := R_dup_a hbX8_number dX8_number_87
theorem dX8_number_88 : decode cX8_number 88 = .ok (.getfield 90, 3) := by decide +kernel
theorem aX8_number_88 {l0 l1 l2 l3 l4 : Value} {st : List Value} {fs : List Fm} {σ : Mem} {Q : List va_E → Option Value → Prop} : Rn mX8_number 88 [l0, l1, l2, l3, l4] (.ref (ad 29 0) :: st) fs (enc σ) Q ↔ Rn mX8_number 91 [l0, l1, l2, l3, l4] (.int (σ 29 0 27) :: st) fs (enc σ) Q := R_get hbX8_number hoX8_number fl_8_90 (gf_8_27 (by decide) σ) dX8_number_88
theorem dX8_number_91 : decode cX8_number 91 = .ok (.iconst 1, 1) := by decide +kernel
theorem aX8_number_91 {l0 l1 l2 l3 l4 : Value} {st : List Value} {fs : List Fm} {M : List va_E} {Q : List va_E → Option Value → Prop} : Rn mX8_number 91 [l0, l1, l2, l3, l4] st fs M Q ↔ Rn mX8_number 92 [l0, l1, l2, l3, l4] (.int 1 :: st) fs M Q := R_iconst hbX8_number (by decide) dX8_number_91
theorem dX8_number_92 : decode cX8_number 92 = .ok (.iadd, 1) := by decide +kernel
theorem aX8_number_92 {x y : Int32} {l0 l1 l2 l3 l4 : Value} {st : List Value} {fs : List Fm} {M : List va_E} {Q : List va_E → Option Value → Prop} : Rn mX8_number 92 [l0, l1, l2, l3, l4] (.int y :: .int x :: st) fs M Q ↔ Rn mX8_number 93 [l0, l1, l2, l3, l4] (.int (x + y) :: st) fs M Q := R_iadd hbX8_number dX8_number_92
theorem dX8_number_93 : decode cX8_number 93 = .ok (.putfield 90, 3) := by decide +kernel
theorem aX8_number_93 {x : Int32} {l0 l1 l2 l3 l4 : Value} {st : List Value} {fs : List Fm} {σ : Mem} {Q : List va_E → Option Value → Prop} : Rn mX8_number 93 [l0, l1, l2, l3, l4] (.int x :: .ref (ad 29 0) :: st) fs (enc σ) Q ↔ Rn mX8_number 96 [l0, l1, l2, l3, l4] st fs (enc (upS σ 29 0 27 x)) Q := R_put hbX8_number hoX8_number fl_8_90 (pf_8_27 (by decide) σ x) dX8_number_93
theorem dX8_number_96 : decode cX8_number 96 = .ok (.goto (-54), 3) := by decide +kernel
theorem aX8_number_96 {l0 l1 l2 l3 l4 : Value} {st : List Value} {fs : List Fm} {M : List va_E} {Q : List va_E → Option Value → Prop} : Rn mX8_number 96 [l0, l1, l2, l3, l4] st fs M Q ↔ Rn mX8_number 42 [l0, l1, l2, l3, l4] st fs M Q := R_goto hbX8_number rfl dX8_number_96
theorem dX8_number_99 : decode cX8_number 99 = .ok (.aload_n 0, 1) := by decide +kernel
theorem aX8_number_99 {x : Nat} {l1 l2 l3 l4 : Value} {st : List Value} {fs : List Fm} {M : List va_E} {Q : List va_E → Option Value → Prop} : Rn mX8_number 99 [.ref x, l1, l2, l3, l4] st fs M Q ↔ Rn mX8_number 100 [.ref x, l1, l2, l3, l4] (.ref x :: st) fs M Q := R_aload_n hbX8_number rfl dX8_number_99
theorem dX8_number_100 : decode cX8_number 100 = .ok (.getfield 90, 3) := by decide +kernel
theorem aX8_number_100 {l0 l1 l2 l3 l4 : Value} {st : List Value} {fs : List Fm} {σ : Mem} {Q : List va_E → Option Value → Prop} : Rn mX8_number 100 [l0, l1, l2, l3, l4] (.ref (ad 29 0) :: st) fs (enc σ) Q ↔ Rn mX8_number 103 [l0, l1, l2, l3, l4] (.int (σ 29 0 27) :: st) fs (enc σ) Q := R_get hbX8_number hoX8_number fl_8_90 (gf_8_27 (by decide) σ) dX8_number_100
theorem dX8_number_103 : decode cX8_number 103 = .ok (.iload_n 3, 1) := by decide +kernel
theorem aX8_number_103 {x : Int32} {l0 l1 l2 l4 : Value} {st : List Value} {fs : List Fm} {M : List va_E} {Q : List va_E → Option Value → Prop} : Rn mX8_number 103 [l0, l1, l2, .int x, l4] st fs M Q ↔ Rn mX8_number 104 [l0, l1, l2, .int x, l4] (.int x :: st) fs M Q := R_iload_n hbX8_number rfl dX8_number_103
theorem dX8_number_104 : decode cX8_number 104 = .ok (.isub, 1) := by decide +kernel
theorem aX8_number_104 {x y : Int32} {l0 l1 l2 l3 l4 : Value} {st : List Value} {fs : List Fm} {M : List va_E} {Q : List va_E → Option Value → Prop} : Rn mX8_number 104 [l0, l1, l2, l3, l4] (.int y :: .int x :: st) fs M Q ↔ Rn mX8_number 105 [l0, l1, l2, l3, l4] (.int (x - y) :: st) fs M Q := R_isub hbX8_number dX8_number_104
theorem dX8_number_105 : decode cX8_number 105 = .ok (.iconst 3, 1) := by decide +kernel
theorem aX8_number_105 {l0 l1 l2 l3 l4 : Value} {st : List Value} {fs : List Fm} {M : List va_E} {Q : List va_E → Option Value → Prop} : Rn mX8_number 105 [l0, l1, l2, l3, l4] st fs M Q ↔ Rn mX8_number 106 [l0, l1, l2, l3, l4] (.int 3 :: st) fs M Q := R_iconst hbX8_number (by decide) dX8_number_105
theorem dX8_number_106 : decode cX8_number 106 = .ok (.if_icmp .gt 13, 3) := by decide +kernel
theorem aX8_number_106 {x y : Int32} {l0 l1 l2 l3 l4 : Value} {st : List Value} {fs : List Fm} {M : List va_E} {Q : List va_E → Option Value → Prop} : Rn mX8_number 106 [l0, l1, l2, l3, l4] (.int y :: .int x :: st) fs M Q ↔ if y < x then Rn mX8_number 119 [l0, l1, l2, l3, l4] st fs M Q else Rn mX8_number 109 [l0, l1, l2, l3, l4] st fs M Q := R_icgt hbX8_number rfl dX8_number_106
theorem dX8_number_109 : decode cX8_number 109 = .ok (.iload 4, 2) := by decide +kernel
theorem aX8_number_109 {x : Int32} {l0 l1 l2 l3 : Value} {st : List Value} {fs : List Fm} {M : List va_E} {Q : List va_E → Option Value → Prop} : Rn mX8_number 109 [l0, l1, l2, l3, .int x] st fs M Q ↔ Rn mX8_number 111 [l0, l1, l2, l3, .int x] (.int x :: st) fs M Q := R_iload hbX8_number rfl dX8_number_109
theorem dX8_number_111 : decode cX8_number 111 = .ok (.iload_n 1, 1) := by decide +kernel
theorem aX8_number_111 {x : Int32} {l0 l2 l3 l4 : Value} {st : List Value} {fs : List Fm} {M : List va_E} {Q : List va_E → Option Value → Prop} : Rn mX8_number 111 [l0, .int x, l2, l3, l4] st fs M Q ↔ Rn mX8_number 112 [l0, .int x, l2, l3, l4] (.int x :: st) fs M Q := R_iload_n hbX8_number rfl dX8_number_111
theorem dX8_number_112 : decode cX8_number 112 = .ok (.iload_n 2, 1) := by decide +kernel
theorem aX8_number_112 {x : Int32} {l0 l1 l3 l4 : Value} {st : List Value} {fs : List Fm} {M : List va_E} {Q : List va_E → Option Value → Prop} : Rn mX8_number 112 [l0, l1, .int x, l3, l4] st fs M Q ↔ Rn mX8_number 113 [l0, l1, .int x, l3, l4] (.int x :: st) fs M Q := R_iload_n hbX8_number rfl dX8_number_112
theorem dX8_number_113 : decode cX8_number 113 = .ok (.invokestatic 81, 3) := by decide +kernel
theorem aX8_number_113 {y0 : Int32} {y1 : Int32} {y2 : Int32} {l0 l1 l2 l3 l4 : Value} {st : List Value} {fs : List Fm} {M : List va_E} {Q : List va_E → Option Value → Prop} : Rn mX8_number 113 [l0, l1, l2, l3, l4] (.int y2 :: .int y1 :: .int y0 :: st) fs M Q ↔ cats st ≤ 8 ∧ Rn mX8_in 0 [.int y0, .int y1, .int y2] [] ((mX8_number, 116, [l0, l1, l2, l3, l4], st) :: fs) M Q := R_S (As := [.int y0, .int y1, .int y2]) hbX8_number hoX8_number cl_8_81 (by decide) hnX8_in rfl (by decide +kernel) rfl rfl rfl dX8_number_113
theorem dX8_number_116 : decode cX8_number 116 = .ok (.ifCond .ne 13, 3) := by decide +kernel
theorem aX8_number_116 {x : Int32} {l0 l1 l2 l3 l4 : Value} {st : List Value} {fs : List Fm} {M : List va_E} {Q : List va_E → Option Value → Prop} : Rn mX8_number 116 [l0, l1, l2, l3, l4] (.int x :: st) fs M Q ↔ if ¬ x = 0 then Rn mX8_number 129 [l0, l1, l2, l3, l4] st fs M Q else Rn mX8_number 119 [l0, l1, l2, l3, l4] st fs M Q := R_ifne hbX8_number rfl dX8_number_116
theorem dX8_number_119 : decode cX8_number 119 = .ok (.aload_n 0, 1) := by decide +kernel
theorem aX8_number_119 {x : Nat} {l1 l2 l3 l4 : Value} {st : List Value} {fs : List Fm} {M : List va_E} {Q : List va_E → Option Value → Prop} : Rn mX8_number 119 [.ref x, l1, l2, l3, l4] st fs M Q ↔ Rn mX8_number 120 [.ref x, l1, l2, l3, l4] (.ref x :: st) fs M Q := R_aload_n hbX8_number rfl dX8_number_119
theorem dX8_number_120 : decode cX8_number 120 = .ok (.iload_n 3, 1) := by decide +kernel
theorem aX8_number_120 {x : Int32} {l0 l1 l2 l4 : Value} {st : List Value} {fs : List Fm} {M : List va_E} {Q : List va_E → Option Value → Prop} : Rn mX8_number 120 [l0, l1, l2, .int x, l4] st fs M Q ↔ Rn mX8_number 121 [l0, l1, l2, .int x, l4] (.int x :: st) fs M Q := R_iload_n hbX8_number rfl dX8_number_120
theorem dX8_number_121 : decode cX8_number 121 = .ok (.putfield 90, 3) := by decide +kernel
theorem aX8_number_121 {x : Int32} {l0 l1 l2 l3 l4 : Value} {st : List Value} {fs : List Fm} {σ : Mem} {Q : List va_E → Option Value → Prop} : Rn mX8_number 121 [l0, l1, l2, l3, l4] (.int x :: .ref (ad 29 0) :: st) fs (enc σ) Q ↔ Rn mX8_number 124 [l0, l1, l2, l3, l4] st fs (enc (upS σ 29 0 27 x)) Q := R_put hbX8_number hoX8_number fl_8_90 (pf_8_27 (by decide) σ x) dX8_number_121
theorem dX8_number_124 : decode cX8_number 124 = .ok (.aload_n 0, 1) := by decide +kernel
theorem aX8_number_124 {x : Nat} {l1 l2 l3 l4 : Value} {st : List Value} {fs : List Fm} {M : List va_E} {Q : List va_E → Option Value → Prop} : Rn mX8_number 124 [.ref x, l1, l2, l3, l4] st fs M Q ↔ Rn mX8_number 125 [.ref x, l1, l2, l3, l4] (.ref x :: st) fs M Q := R_aload_n hbX8_number rfl dX8_number_124
theorem dX8_number_125 : decode cX8_number 125 = .ok (.iconst 2, 1) := by decide +kernel
theorem aX8_number_125 {l0 l1 l2 l3 l4 : Value} {st : List Value} {fs : List Fm} {M : List va_E} {Q : List va_E → Option Value → Prop} : Rn mX8_number 125 [l0, l1, l2, l3, l4] st fs M Q ↔ Rn mX8_number 126 [l0, l1, l2, l3, l4] (.int 2 :: st) fs M Q := R_iconst hbX8_number (by decide) dX8_number_125
theorem dX8_number_126 : decode cX8_number 126 = .ok (.invokevirtual 103, 3) := by decide +kernel
theorem aX8_number_126 {y0 : Int32} {l0 l1 l2 l3 l4 : Value} {st : List Value} {fs : List Fm} {σ : Mem} {Q : List va_E → Option Value → Prop} : Rn mX8_number 126 [l0, l1, l2, l3, l4] (.int y0 :: .ref (ad 29 0) :: st) fs (enc σ) Q ↔ cats st ≤ 8 ∧ Rn mX8_fails 0 [.ref (ad 29 0), .int y0] [] ((mX8_number, 129, [l0, l1, l2, l3, l4], st) :: fs) (enc σ) Q := R_V (As := [.int y0]) hbX8_number hoX8_number cl_8_103 hnX8_fails rfl (by decide +kernel) rfl rfl rfl (isO_29 (by decide) σ) dX8_number_126
theorem dX8_number_129 : decode cX8_number 129 = .ok (.iload 4, 2) := by decide +kernel
theorem aX8_number_129 {x : Int32} {l0 l1 l2 l3 : Value} {st : List Value} {fs : List Fm} {M : List va_E} {Q : List va_E → Option Value → Prop} : Rn mX8_number 129 [l0, l1, l2, l3, .int x] st fs M Q ↔ Rn mX8_number 131 [l0, l1, l2, l3, .int x] (.int x :: st) fs M Q := R_iload hbX8_number rfl dX8_number_129
theorem dX8_number_131 : decode cX8_number 131 = .ok (.ireturn, 1) := by decide +kernel
theorem aX8_number_131 {x : Int32} {l0 l1 l2 l3 l4 : Value} {fs : List Fm} {M : List va_E} {Q : List va_E → Option Value → Prop} : Rn mX8_number 131 [l0, l1, l2, l3, l4] [.int x] fs M Q ↔ Rt fs M (some (.int x)) Q := R_reti hbX8_number hrX8_number dX8_number_131
theorem dX8_word_0 : decode cX8_word 0 = .ok (.aload_n 0, 1) := by decide +kernel
theorem aX8_word_0 {x : Nat} {l1 : Value} {st : List Value} {fs : List Fm} {M : List va_E} {Q : List va_E → Option Value → Prop} : Rn mX8_word 0 [.ref x, l1] st fs M Q ↔ Rn mX8_word 1 [.ref x, l1] (.ref x :: st) fs M Q := R_aload_n hbX8_word rfl dX8_word_0
theorem dX8_word_1 : decode cX8_word 1 = .ok (.invokevirtual 100, 3) := by decide +kernel
theorem aX8_word_1 {l0 l1 : Value} {st : List Value} {fs : List Fm} {σ : Mem} {Q : List va_E → Option Value → Prop} : Rn mX8_word 1 [l0, l1] (.ref (ad 29 0) :: st) fs (enc σ) Q ↔ cats st ≤ 8 ∧ Rn mX8_skips 0 [.ref (ad 29 0)] [] ((mX8_word, 4, [l0, l1], st) :: fs) (enc σ) Q := R_V (As := []) hbX8_word hoX8_word cl_8_100 hnX8_skips rfl (by decide +kernel) rfl rfl rfl (isO_29 (by decide) σ) dX8_word_1
theorem dX8_word_4 : decode cX8_word 4 = .ok (.aload_n 0, 1) := by decide +kernel
theorem aX8_word_4 {x : Nat} {l1 : Value} {st : List Value} {fs : List Fm} {M : List va_E} {Q : List va_E → Option Value → Prop} : Rn mX8_word 4 [.ref x, l1] st fs M Q ↔ Rn mX8_word 5 [.ref x, l1] (.ref x :: st) fs M Q := R_aload_n hbX8_word rfl dX8_word_4
theorem dX8_word_5 : decode cX8_word 5 = .ok (.getfield 93, 3) := by decide +kernel
theorem aX8_word_5 {l0 l1 : Value} {st : List Value} {fs : List Fm} {σ : Mem} {Q : List va_E → Option Value → Prop} : Rn mX8_word 5 [l0, l1] (.ref (ad 29 0) :: st) fs (enc σ) Q ↔ Rn mX8_word 8 [l0, l1] (.int (σ 29 0 28) :: st) fs (enc σ) Q := R_get hbX8_word hoX8_word fl_8_93 (gf_8_28 (by decide) σ) dX8_word_5
theorem dX8_word_8 : decode cX8_word 8 = .ok (.ifCond .ne 29, 3) := by decide +kernel
theorem aX8_word_8 {x : Int32} {l0 l1 : Value} {st : List Value} {fs : List Fm} {M : List va_E} {Q : List va_E → Option Value → Prop} : Rn mX8_word 8 [l0, l1] (.int x :: st) fs M Q ↔ if ¬ x = 0 then Rn mX8_word 37 [l0, l1] st fs M Q else Rn mX8_word 11 [l0, l1] st fs M Q := R_ifne hbX8_word rfl dX8_word_8
theorem dX8_word_11 : decode cX8_word 11 = .ok (.aload_n 0, 1) := by decide +kernel
theorem aX8_word_11 {x : Nat} {l1 : Value} {st : List Value} {fs : List Fm} {M : List va_E} {Q : List va_E → Option Value → Prop} : Rn mX8_word 11 [.ref x, l1] st fs M Q ↔ Rn mX8_word 12 [.ref x, l1] (.ref x :: st) fs M Q := R_aload_n hbX8_word rfl dX8_word_11
theorem dX8_word_12 : decode cX8_word 12 = .ok (.invokevirtual 96, 3) := by decide +kernel
theorem aX8_word_12 {l0 l1 : Value} {st : List Value} {fs : List Fm} {σ : Mem} {Q : List va_E → Option Value → Prop} : Rn mX8_word 12 [l0, l1] (.ref (ad 29 0) :: st) fs (enc σ) Q ↔ cats st ≤ 8 ∧ Rn mX8_look 0 [.ref (ad 29 0)] [] ((mX8_word, 15, [l0, l1], st) :: fs) (enc σ) Q := R_V (As := []) hbX8_word hoX8_word cl_8_96 hnX8_look rfl (by decide +kernel) rfl rfl rfl (isO_29 (by decide) σ) dX8_word_12
theorem dX8_word_15 : decode cX8_word 15 = .ok (.iload_n 1, 1) := by decide +kernel
theorem aX8_word_15 {x : Int32} {l0 : Value} {st : List Value} {fs : List Fm} {M : List va_E} {Q : List va_E → Option Value → Prop} : Rn mX8_word 15 [l0, .int x] st fs M Q ↔ Rn mX8_word 16 [l0, .int x] (.int x :: st) fs M Q := R_iload_n hbX8_word rfl dX8_word_15
theorem dX8_word_16 : decode cX8_word 16 = .ok (.if_icmp .ne 16, 3) := by decide +kernel
theorem aX8_word_16 {x y : Int32} {l0 l1 : Value} {st : List Value} {fs : List Fm} {M : List va_E} {Q : List va_E → Option Value → Prop} : Rn mX8_word 16 [l0, l1] (.int y :: .int x :: st) fs M Q ↔ if ¬ x = y then Rn mX8_word 32 [l0, l1] st fs M Q else Rn mX8_word 19 [l0, l1] st fs M Q := R_icne hbX8_word rfl dX8_word_16
theorem dX8_word_19 : decode cX8_word 19 = .ok (.aload_n 0, 1) := by decide +kernel
theorem aX8_word_19 {x : Nat} {l1 : Value} {st : List Value} {fs : List Fm} {M : List va_E} {Q : List va_E → Option Value → Prop} : Rn mX8_word 19 [.ref x, l1] st fs M Q ↔ Rn mX8_word 20 [.ref x, l1] (.ref x :: st) fs M Q := R_aload_n hbX8_word rfl dX8_word_19
theorem dX8_word_20 : decode cX8_word 20 = .ok (.dup, 1) := by decide +kernel
theorem aX8_word_20i {x : Int32} {l0 l1 : Value} {st : List Value} {fs : List Fm} {M : List va_E} {Q : List va_E → Option Value → Prop} : Rn mX8_word 20 [l0, l1] (.int x :: st) fs M Q ↔ Rn mX8_word 21 [l0, l1] (.int x :: .int x :: st) fs M Q := R_dup_i hbX8_word dX8_word_20
theorem aX8_word_20a {x : Nat} {l0 l1 : Value} {st : List Value} {fs : List Fm} {M : List va_E} {Q : List va_E → Option Value → Prop} : Rn mX8_word 20 [l0, l1] (.ref x :: st) fs M Q ↔ Rn mX8_word 21 [l0, l1] (.ref x :: .ref x :: st) fs M Q := R_dup_a hbX8_word dX8_word_20
theorem dX8_word_21 : decode cX8_word 21 = .ok (.getfield 90, 3) := by decide +kernel
theorem aX8_word_21 {l0 l1 : Value} {st : List Value} {fs : List Fm} {σ : Mem} {Q : List va_E → Option Value → Prop} : Rn mX8_word 21 [l0, l1] (.ref (ad 29 0) :: st) fs (enc σ) Q ↔ Rn mX8_word 24 [l0, l1] (.int (σ 29 0 27) :: st) fs (enc σ) Q := R_get hbX8_word hoX8_word fl_8_90 (gf_8_27 (by decide) σ) dX8_word_21
theorem dX8_word_24 : decode cX8_word 24 = .ok (.iconst 1, 1) := by decide +kernel
theorem aX8_word_24 {l0 l1 : Value} {st : List Value} {fs : List Fm} {M : List va_E} {Q : List va_E → Option Value → Prop} : Rn mX8_word 24 [l0, l1] st fs M Q ↔ Rn mX8_word 25 [l0, l1] (.int 1 :: st) fs M Q := R_iconst hbX8_word (by decide) dX8_word_24
theorem dX8_word_25 : decode cX8_word 25 = .ok (.iadd, 1) := by decide +kernel
theorem aX8_word_25 {x y : Int32} {l0 l1 : Value} {st : List Value} {fs : List Fm} {M : List va_E} {Q : List va_E → Option Value → Prop} : Rn mX8_word 25 [l0, l1] (.int y :: .int x :: st) fs M Q ↔ Rn mX8_word 26 [l0, l1] (.int (x + y) :: st) fs M Q := R_iadd hbX8_word dX8_word_25
theorem dX8_word_26 : decode cX8_word 26 = .ok (.putfield 90, 3) := by decide +kernel
theorem aX8_word_26 {x : Int32} {l0 l1 : Value} {st : List Value} {fs : List Fm} {σ : Mem} {Q : List va_E → Option Value → Prop} : Rn mX8_word 26 [l0, l1] (.int x :: .ref (ad 29 0) :: st) fs (enc σ) Q ↔ Rn mX8_word 29 [l0, l1] st fs (enc (upS σ 29 0 27 x)) Q := R_put hbX8_word hoX8_word fl_8_90 (pf_8_27 (by decide) σ x) dX8_word_26
theorem dX8_word_29 : decode cX8_word 29 = .ok (.goto 8, 3) := by decide +kernel
theorem aX8_word_29 {l0 l1 : Value} {st : List Value} {fs : List Fm} {M : List va_E} {Q : List va_E → Option Value → Prop} : Rn mX8_word 29 [l0, l1] st fs M Q ↔ Rn mX8_word 37 [l0, l1] st fs M Q := R_goto hbX8_word rfl dX8_word_29
theorem dX8_word_32 : decode cX8_word 32 = .ok (.aload_n 0, 1) := by decide +kernel
theorem aX8_word_32 {x : Nat} {l1 : Value} {st : List Value} {fs : List Fm} {M : List va_E} {Q : List va_E → Option Value → Prop} : Rn mX8_word 32 [.ref x, l1] st fs M Q ↔ Rn mX8_word 33 [.ref x, l1] (.ref x :: st) fs M Q := R_aload_n hbX8_word rfl dX8_word_32
theorem dX8_word_33 : decode cX8_word 33 = .ok (.iconst 1, 1) := by decide +kernel
theorem aX8_word_33 {l0 l1 : Value} {st : List Value} {fs : List Fm} {M : List va_E} {Q : List va_E → Option Value → Prop} : Rn mX8_word 33 [l0, l1] st fs M Q ↔ Rn mX8_word 34 [l0, l1] (.int 1 :: st) fs M Q := R_iconst hbX8_word (by decide) dX8_word_33
theorem dX8_word_34 : decode cX8_word 34 = .ok (.invokevirtual 103, 3) := by decide +kernel
theorem aX8_word_34 {y0 : Int32} {l0 l1 : Value} {st : List Value} {fs : List Fm} {σ : Mem} {Q : List va_E → Option Value → Prop} : Rn mX8_word 34 [l0, l1] (.int y0 :: .ref (ad 29 0) :: st) fs (enc σ) Q ↔ cats st ≤ 8 ∧ Rn mX8_fails 0 [.ref (ad 29 0), .int y0] [] ((mX8_word, 37, [l0, l1], st) :: fs) (enc σ) Q := R_V (As := [.int y0]) hbX8_word hoX8_word cl_8_103 hnX8_fails rfl (by decide +kernel) rfl rfl rfl (isO_29 (by decide) σ) dX8_word_34
theorem dX8_word_37 : decode cX8_word 37 = .ok (.return_, 1) := by decide +kernel
theorem aX8_word_37 {l0 l1 : Value} {fs : List Fm} {M : List va_E} {Q : List va_E → Option Value → Prop} : Rn mX8_word 37 [l0, l1] [] fs M Q ↔ Rt fs M none Q := R_ret hbX8_word hrX8_word dX8_word_37
theorem dX8_readsHouse_0 : decode cX8_readsHouse 0 = .ok (.aload_n 0, 1) := by decide +kernel
theorem aX8_readsHouse_0 {x : Nat} {l1 : Value} {st : List Value} {fs : List Fm} {M : List va_E} {Q : List va_E → Option Value → Prop} : Rn mX8_readsHouse 0 [.ref x, l1] st fs M Q ↔ Rn mX8_readsHouse 1 [.ref x, l1] (.ref x :: st) fs M Q := R_aload_n hbX8_readsHouse rfl dX8_readsHouse_0
theorem dX8_readsHouse_1 : decode cX8_readsHouse 1 = .ok (.getfield 35, 3) := by decide +kernel
theorem aX8_readsHouse_1 {l0 l1 : Value} {st : List Value} {fs : List Fm} {σ : Mem} {Q : List va_E → Option Value → Prop} : Rn mX8_readsHouse 1 [l0, l1] (.ref (ad 29 0) :: st) fs (enc σ) Q ↔ Rn mX8_readsHouse 4 [l0, l1] (.ref (ad 37 0) :: st) fs (enc σ) Q := R_get hbX8_readsHouse hoX8_readsHouse fl_8_35 (gf_8_9 (by decide) σ) dX8_readsHouse_1
theorem dX8_readsHouse_4 : decode cX8_readsHouse 4 = .ok (.iconst 1, 1) := by decide +kernel
theorem aX8_readsHouse_4 {l0 l1 : Value} {st : List Value} {fs : List Fm} {M : List va_E} {Q : List va_E → Option Value → Prop} : Rn mX8_readsHouse 4 [l0, l1] st fs M Q ↔ Rn mX8_readsHouse 5 [l0, l1] (.int 1 :: st) fs M Q := R_iconst hbX8_readsHouse (by decide) dX8_readsHouse_4
theorem dX8_readsHouse_5 : decode cX8_readsHouse 5 = .ok (.iaload, 1) := by decide +kernel
theorem aX8_readsHouse_5 {k i : Nat} {j : Int32} (ht : aT k = 0) (hi : i < cnt k) {l0 l1 : Value} {st : List Value} {fs : List Fm} {σ : Mem} {Q : List va_E → Option Value → Prop} : Rn mX8_readsHouse 5 [l0, l1] (.int j :: .ref (ad k i) :: st) fs (enc σ) Q ↔ vp_in j (aN k) ∧ Rn mX8_readsHouse 6 [l0, l1] (.int (σ k i j.toNatClampNeg) :: st) fs (enc σ) Q := R_iaload hbX8_readsHouse ht hi dX8_readsHouse_5
theorem dX8_readsHouse_6 : decode cX8_readsHouse 6 = .ok (.istore_n 1, 1) := by decide +kernel
theorem aX8_readsHouse_6 {x : Int32} {l0 l1 : Value} {st : List Value} {fs : List Fm} {M : List va_E} {Q : List va_E → Option Value → Prop} : Rn mX8_readsHouse 6 [l0, l1] (.int x :: st) fs M Q ↔ Rn mX8_readsHouse 7 [l0, .int x] st fs M Q := R_istore_n hbX8_readsHouse hmX8_readsHouse hlX8_readsHouse (by decide) (by decide) rfl dX8_readsHouse_6
theorem dX8_readsHouse_7 : decode cX8_readsHouse 7 = .ok (.iload_n 1, 1) := by decide +kernel
theorem aX8_readsHouse_7 {x : Int32} {l0 : Value} {st : List Value} {fs : List Fm} {M : List va_E} {Q : List va_E → Option Value → Prop} : Rn mX8_readsHouse 7 [l0, .int x] st fs M Q ↔ Rn mX8_readsHouse 8 [l0, .int x] (.int x :: st) fs M Q := R_iload_n hbX8_readsHouse rfl dX8_readsHouse_7
theorem dX8_readsHouse_8 : decode cX8_readsHouse 8 = .ok (.bipush 7, 2) := by decide +kernel
theorem aX8_readsHouse_8 {l0 l1 : Value} {st : List Value} {fs : List Fm} {M : List va_E} {Q : List va_E → Option Value → Prop} : Rn mX8_readsHouse 8 [l0, l1] st fs M Q ↔ Rn mX8_readsHouse 10 [l0, l1] (.int 7 :: st) fs M Q := R_bipush hbX8_readsHouse (by decide) dX8_readsHouse_8
theorem dX8_readsHouse_10 : decode cX8_readsHouse 10 = .ok (.if_icmp .ne 9, 3) := by decide +kernel
theorem aX8_readsHouse_10 {x y : Int32} {l0 l1 : Value} {st : List Value} {fs : List Fm} {M : List va_E} {Q : List va_E → Option Value → Prop} : Rn mX8_readsHouse 10 [l0, l1] (.int y :: .int x :: st) fs M Q ↔ if ¬ x = y then Rn mX8_readsHouse 19 [l0, l1] st fs M Q else Rn mX8_readsHouse 13 [l0, l1] st fs M Q := R_icne hbX8_readsHouse rfl dX8_readsHouse_10
theorem dX8_readsHouse_13 : decode cX8_readsHouse 13 = .ok (.aload_n 0, 1) := by decide +kernel
theorem aX8_readsHouse_13 {x : Nat} {l1 : Value} {st : List Value} {fs : List Fm} {M : List va_E} {Q : List va_E → Option Value → Prop} : Rn mX8_readsHouse 13 [.ref x, l1] st fs M Q ↔ Rn mX8_readsHouse 14 [.ref x, l1] (.ref x :: st) fs M Q := R_aload_n hbX8_readsHouse rfl dX8_readsHouse_13
theorem dX8_readsHouse_14 : decode cX8_readsHouse 14 = .ok (.iconst 3, 1) := by decide +kernel
theorem aX8_readsHouse_14 {l0 l1 : Value} {st : List Value} {fs : List Fm} {M : List va_E} {Q : List va_E → Option Value → Prop} : Rn mX8_readsHouse 14 [l0, l1] st fs M Q ↔ Rn mX8_readsHouse 15 [l0, l1] (.int 3 :: st) fs M Q := R_iconst hbX8_readsHouse (by decide) dX8_readsHouse_14
theorem dX8_readsHouse_15 : decode cX8_readsHouse 15 = .ok (.invokevirtual 103, 3) := by decide +kernel
theorem aX8_readsHouse_15 {y0 : Int32} {l0 l1 : Value} {st : List Value} {fs : List Fm} {σ : Mem} {Q : List va_E → Option Value → Prop} : Rn mX8_readsHouse 15 [l0, l1] (.int y0 :: .ref (ad 29 0) :: st) fs (enc σ) Q ↔ cats st ≤ 8 ∧ Rn mX8_fails 0 [.ref (ad 29 0), .int y0] [] ((mX8_readsHouse, 18, [l0, l1], st) :: fs) (enc σ) Q := R_V (As := [.int y0]) hbX8_readsHouse hoX8_readsHouse cl_8_103 hnX8_fails rfl (by decide +kernel) rfl rfl rfl (isO_29 (by decide) σ) dX8_readsHouse_15
theorem dX8_readsHouse_18 : decode cX8_readsHouse 18 = .ok (.return_, 1) := by decide +kernel
theorem aX8_readsHouse_18 {l0 l1 : Value} {fs : List Fm} {M : List va_E} {Q : List va_E → Option Value → Prop} : Rn mX8_readsHouse 18 [l0, l1] [] fs M Q ↔ Rt fs M none Q := R_ret hbX8_readsHouse hrX8_readsHouse dX8_readsHouse_18
theorem dX8_readsHouse_19 : decode cX8_readsHouse 19 = .ok (.aload_n 0, 1) := by decide +kernel
theorem aX8_readsHouse_19 {x : Nat} {l1 : Value} {st : List Value} {fs : List Fm} {M : List va_E} {Q : List va_E → Option Value → Prop} : Rn mX8_readsHouse 19 [.ref x, l1] st fs M Q ↔ Rn mX8_readsHouse 20 [.ref x, l1] (.ref x :: st) fs M Q := R_aload_n hbX8_readsHouse rfl dX8_readsHouse_19
theorem dX8_readsHouse_20 : decode cX8_readsHouse 20 = .ok (.dup, 1) := by decide +kernel
theorem aX8_readsHouse_20i {x : Int32} {l0 l1 : Value} {st : List Value} {fs : List Fm} {M : List va_E} {Q : List va_E → Option Value → Prop} : Rn mX8_readsHouse 20 [l0, l1] (.int x :: st) fs M Q ↔ Rn mX8_readsHouse 21 [l0, l1] (.int x :: .int x :: st) fs M Q := R_dup_i hbX8_readsHouse dX8_readsHouse_20
theorem aX8_readsHouse_20a {x : Nat} {l0 l1 : Value} {st : List Value} {fs : List Fm} {M : List va_E} {Q : List va_E → Option Value → Prop} : Rn mX8_readsHouse 20 [l0, l1] (.ref x :: st) fs M Q ↔ Rn mX8_readsHouse 21 [l0, l1] (.ref x :: .ref x :: st) fs M Q := R_dup_a hbX8_readsHouse dX8_readsHouse_20
theorem dX8_readsHouse_21 : decode cX8_readsHouse 21 = .ok (.getfield 90, 3) := by decide +kernel
theorem aX8_readsHouse_21 {l0 l1 : Value} {st : List Value} {fs : List Fm} {σ : Mem} {Q : List va_E → Option Value → Prop} : Rn mX8_readsHouse 21 [l0, l1] (.ref (ad 29 0) :: st) fs (enc σ) Q ↔ Rn mX8_readsHouse 24 [l0, l1] (.int (σ 29 0 27) :: st) fs (enc σ) Q := R_get hbX8_readsHouse hoX8_readsHouse fl_8_90 (gf_8_27 (by decide) σ) dX8_readsHouse_21
theorem dX8_readsHouse_24 : decode cX8_readsHouse 24 = .ok (.iconst 1, 1) := by decide +kernel
theorem aX8_readsHouse_24 {l0 l1 : Value} {st : List Value} {fs : List Fm} {M : List va_E} {Q : List va_E → Option Value → Prop} : Rn mX8_readsHouse 24 [l0, l1] st fs M Q ↔ Rn mX8_readsHouse 25 [l0, l1] (.int 1 :: st) fs M Q := R_iconst hbX8_readsHouse (by decide) dX8_readsHouse_24
theorem dX8_readsHouse_25 : decode cX8_readsHouse 25 = .ok (.iadd, 1) := by decide +kernel
theorem aX8_readsHouse_25 {x y : Int32} {l0 l1 : Value} {st : List Value} {fs : List Fm} {M : List va_E} {Q : List va_E → Option Value → Prop} : Rn mX8_readsHouse 25 [l0, l1] (.int y :: .int x :: st) fs M Q ↔ Rn mX8_readsHouse 26 [l0, l1] (.int (x + y) :: st) fs M Q := R_iadd hbX8_readsHouse dX8_readsHouse_25
theorem dX8_readsHouse_26 : decode cX8_readsHouse 26 = .ok (.putfield 90, 3) := by decide +kernel
theorem aX8_readsHouse_26 {x : Int32} {l0 l1 : Value} {st : List Value} {fs : List Fm} {σ : Mem} {Q : List va_E → Option Value → Prop} : Rn mX8_readsHouse 26 [l0, l1] (.int x :: .ref (ad 29 0) :: st) fs (enc σ) Q ↔ Rn mX8_readsHouse 29 [l0, l1] st fs (enc (upS σ 29 0 27 x)) Q := R_put hbX8_readsHouse hoX8_readsHouse fl_8_90 (pf_8_27 (by decide) σ x) dX8_readsHouse_26
theorem dX8_readsHouse_29 : decode cX8_readsHouse 29 = .ok (.aload_n 0, 1) := by decide +kernel
theorem aX8_readsHouse_29 {x : Nat} {l1 : Value} {st : List Value} {fs : List Fm} {M : List va_E} {Q : List va_E → Option Value → Prop} : Rn mX8_readsHouse 29 [.ref x, l1] st fs M Q ↔ Rn mX8_readsHouse 30 [.ref x, l1] (.ref x :: st) fs M Q := R_aload_n hbX8_readsHouse rfl dX8_readsHouse_29
theorem dX8_readsHouse_30 : decode cX8_readsHouse 30 = .ok (.getfield 41, 3) := by decide +kernel
theorem aX8_readsHouse_30 {l0 l1 : Value} {st : List Value} {fs : List Fm} {σ : Mem} {Q : List va_E → Option Value → Prop} : Rn mX8_readsHouse 30 [l0, l1] (.ref (ad 29 0) :: st) fs (enc σ) Q ↔ Rn mX8_readsHouse 33 [l0, l1] (.ref (ad 39 0) :: st) fs (enc σ) Q := R_get hbX8_readsHouse hoX8_readsHouse fl_8_41 (gf_8_11 (by decide) σ) dX8_readsHouse_30
theorem dX8_readsHouse_33 : decode cX8_readsHouse 33 = .ok (.iload_n 1, 1) := by decide +kernel
theorem aX8_readsHouse_33 {x : Int32} {l0 : Value} {st : List Value} {fs : List Fm} {M : List va_E} {Q : List va_E → Option Value → Prop} : Rn mX8_readsHouse 33 [l0, .int x] st fs M Q ↔ Rn mX8_readsHouse 34 [l0, .int x] (.int x :: st) fs M Q := R_iload_n hbX8_readsHouse rfl dX8_readsHouse_33
theorem dX8_readsHouse_34 : decode cX8_readsHouse 34 = .ok (.aload_n 0, 1) := by decide +kernel
theorem aX8_readsHouse_34 {x : Nat} {l1 : Value} {st : List Value} {fs : List Fm} {M : List va_E} {Q : List va_E → Option Value → Prop} : Rn mX8_readsHouse 34 [.ref x, l1] st fs M Q ↔ Rn mX8_readsHouse 35 [.ref x, l1] (.ref x :: st) fs M Q := R_aload_n hbX8_readsHouse rfl dX8_readsHouse_34
theorem dX8_readsHouse_35 : decode cX8_readsHouse 35 = .ok (.iconst 1, 1) := by decide +kernel
theorem aX8_readsHouse_35 {l0 l1 : Value} {st : List Value} {fs : List Fm} {M : List va_E} {Q : List va_E → Option Value → Prop} : Rn mX8_readsHouse 35 [l0, l1] st fs M Q ↔ Rn mX8_readsHouse 36 [l0, l1] (.int 1 :: st) fs M Q := R_iconst hbX8_readsHouse (by decide) dX8_readsHouse_35
theorem dX8_readsHouse_36 : decode cX8_readsHouse 36 = .ok (.bipush 9, 2) := by decide +kernel
theorem aX8_readsHouse_36 {l0 l1 : Value} {st : List Value} {fs : List Fm} {M : List va_E} {Q : List va_E → Option Value → Prop} : Rn mX8_readsHouse 36 [l0, l1] st fs M Q ↔ Rn mX8_readsHouse 38 [l0, l1] (.int 9 :: st) fs M Q := R_bipush hbX8_readsHouse (by decide) dX8_readsHouse_36
theorem dX8_readsHouse_38 : decode cX8_readsHouse 38 = .ok (.invokevirtual 107, 3) := by decide +kernel
theorem aX8_readsHouse_38 {y0 : Int32} {y1 : Int32} {l0 l1 : Value} {st : List Value} {fs : List Fm} {σ : Mem} {Q : List va_E → Option Value → Prop} : Rn mX8_readsHouse 38 [l0, l1] (.int y1 :: .int y0 :: .ref (ad 29 0) :: st) fs (enc σ) Q ↔ cats st ≤ 8 ∧ Rn mX8_number 0 [.ref (ad 29 0), .int y0, .int y1, .null, .null] [] ((mX8_readsHouse, 41, [l0, l1], st) :: fs) (enc σ) Q := R_V (As := [.int y0, .int y1]) hbX8_readsHouse hoX8_readsHouse cl_8_107 hnX8_number rfl (by decide +kernel) rfl rfl rfl (isO_29 (by decide) σ) dX8_readsHouse_38
theorem dX8_readsHouse_41 : decode cX8_readsHouse 41 = .ok (.iastore, 1) := by decide +kernel
theorem aX8_readsHouse_41 {k i : Nat} {j x : Int32} (ht : aT k = 0) (hi : i < cnt k) {l0 l1 : Value} {st : List Value} {fs : List Fm} {σ : Mem} {Q : List va_E → Option Value → Prop} : Rn mX8_readsHouse 41 [l0, l1] (.int x :: .int j :: .ref (ad k i) :: st) fs (enc σ) Q ↔ vp_in j (aN k) ∧ Rn mX8_readsHouse 42 [l0, l1] st fs (enc (upS σ k i j.toNatClampNeg x)) Q := R_iastore hbX8_readsHouse ht hi dX8_readsHouse_41
theorem dX8_readsHouse_42 : decode cX8_readsHouse 42 = .ok (.aload_n 0, 1) := by decide +kernel
theorem aX8_readsHouse_42 {x : Nat} {l1 : Value} {st : List Value} {fs : List Fm} {M : List va_E} {Q : List va_E → Option Value → Prop} : Rn mX8_readsHouse 42 [.ref x, l1] st fs M Q ↔ Rn mX8_readsHouse 43 [.ref x, l1] (.ref x :: st) fs M Q := R_aload_n hbX8_readsHouse rfl dX8_readsHouse_42
theorem dX8_readsHouse_43 : decode cX8_readsHouse 43 = .ok (.getfield 44, 3) := by decide +kernel
theorem aX8_readsHouse_43 {l0 l1 : Value} {st : List Value} {fs : List Fm} {σ : Mem} {Q : List va_E → Option Value → Prop} : Rn mX8_readsHouse 43 [l0, l1] (.ref (ad 29 0) :: st) fs (enc σ) Q ↔ Rn mX8_readsHouse 46 [l0, l1] (.ref (ad 40 0) :: st) fs (enc σ) Q := R_get hbX8_readsHouse hoX8_readsHouse fl_8_44 (gf_8_12 (by decide) σ) dX8_readsHouse_43
theorem dX8_readsHouse_46 : decode cX8_readsHouse 46 = .ok (.iload_n 1, 1) := by decide +kernel
theorem aX8_readsHouse_46 {x : Int32} {l0 : Value} {st : List Value} {fs : List Fm} {M : List va_E} {Q : List va_E → Option Value → Prop} : Rn mX8_readsHouse 46 [l0, .int x] st fs M Q ↔ Rn mX8_readsHouse 47 [l0, .int x] (.int x :: st) fs M Q := R_iload_n hbX8_readsHouse rfl dX8_readsHouse_46
theorem dX8_readsHouse_47 : decode cX8_readsHouse 47 = .ok (.aload_n 0, 1) := by decide +kernel
theorem aX8_readsHouse_47 {x : Nat} {l1 : Value} {st : List Value} {fs : List Fm} {M : List va_E} {Q : List va_E → Option Value → Prop} : Rn mX8_readsHouse 47 [.ref x, l1] st fs M Q ↔ Rn mX8_readsHouse 48 [.ref x, l1] (.ref x :: st) fs M Q := R_aload_n hbX8_readsHouse rfl dX8_readsHouse_47
theorem dX8_readsHouse_48 : decode cX8_readsHouse 48 = .ok (.iconst 0, 1) := by decide +kernel
theorem aX8_readsHouse_48 {l0 l1 : Value} {st : List Value} {fs : List Fm} {M : List va_E} {Q : List va_E → Option Value → Prop} : Rn mX8_readsHouse 48 [l0, l1] st fs M Q ↔ Rn mX8_readsHouse 49 [l0, l1] (.int 0 :: st) fs M Q := R_iconst hbX8_readsHouse (by decide) dX8_readsHouse_48
theorem dX8_readsHouse_49 : decode cX8_readsHouse 49 = .ok (.bipush 99, 2) := by decide +kernel
theorem aX8_readsHouse_49 {l0 l1 : Value} {st : List Value} {fs : List Fm} {M : List va_E} {Q : List va_E → Option Value → Prop} : Rn mX8_readsHouse 49 [l0, l1] st fs M Q ↔ Rn mX8_readsHouse 51 [l0, l1] (.int 99 :: st) fs M Q := R_bipush hbX8_readsHouse (by decide) dX8_readsHouse_49
theorem dX8_readsHouse_51 : decode cX8_readsHouse 51 = .ok (.invokevirtual 107, 3) := by decide +kernel
theorem aX8_readsHouse_51 {y0 : Int32} {y1 : Int32} {l0 l1 : Value} {st : List Value} {fs : List Fm} {σ : Mem} {Q : List va_E → Option Value → Prop} : Rn mX8_readsHouse 51 [l0, l1] (.int y1 :: .int y0 :: .ref (ad 29 0) :: st) fs (enc σ) Q ↔ cats st ≤ 8 ∧ Rn mX8_number 0 [.ref (ad 29 0), .int y0, .int y1, .null, .null] [] ((mX8_readsHouse, 54, [l0, l1], st) :: fs) (enc σ) Q := R_V (As := [.int y0, .int y1]) hbX8_readsHouse hoX8_readsHouse cl_8_107 hnX8_number rfl (by decide +kernel) rfl rfl rfl (isO_29 (by decide) σ) dX8_readsHouse_51
theorem dX8_readsHouse_54 : decode cX8_readsHouse 54 = .ok (.iastore, 1) := by decide +kernel
theorem aX8_readsHouse_54 {k i : Nat} {j x : Int32} (ht : aT k = 0) (hi : i < cnt k) {l0 l1 : Value} {st : List Value} {fs : List Fm} {σ : Mem} {Q : List va_E → Option Value → Prop} : Rn mX8_readsHouse 54 [l0, l1] (.int x :: .int j :: .ref (ad k i) :: st) fs (enc σ) Q ↔ vp_in j (aN k) ∧ Rn mX8_readsHouse 55 [l0, l1] st fs (enc (upS σ k i j.toNatClampNeg x)) Q := R_iastore hbX8_readsHouse ht hi dX8_readsHouse_54
theorem dX8_readsHouse_55 : decode cX8_readsHouse 55 = .ok (.aload_n 0, 1) := by decide +kernel
theorem aX8_readsHouse_55 {x : Nat} {l1 : Value} {st : List Value} {fs : List Fm} {M : List va_E} {Q : List va_E → Option Value → Prop} : Rn mX8_readsHouse 55 [.ref x, l1] st fs M Q ↔ Rn mX8_readsHouse 56 [.ref x, l1] (.ref x :: st) fs M Q := R_aload_n hbX8_readsHouse rfl dX8_readsHouse_55
theorem dX8_readsHouse_56 : decode cX8_readsHouse 56 = .ok (.bipush 59, 2) := by decide +kernel
theorem aX8_readsHouse_56 {l0 l1 : Value} {st : List Value} {fs : List Fm} {M : List va_E} {Q : List va_E → Option Value → Prop} : Rn mX8_readsHouse 56 [l0, l1] st fs M Q ↔ Rn mX8_readsHouse 58 [l0, l1] (.int 59 :: st) fs M Q := R_bipush hbX8_readsHouse (by decide) dX8_readsHouse_56
theorem dX8_readsHouse_58 : decode cX8_readsHouse 58 = .ok (.invokevirtual 111, 3) := by decide +kernel
theorem aX8_readsHouse_58 {y0 : Int32} {l0 l1 : Value} {st : List Value} {fs : List Fm} {σ : Mem} {Q : List va_E → Option Value → Prop} : Rn mX8_readsHouse 58 [l0, l1] (.int y0 :: .ref (ad 29 0) :: st) fs (enc σ) Q ↔ cats st ≤ 8 ∧ Rn mX8_word 0 [.ref (ad 29 0), .int y0] [] ((mX8_readsHouse, 61, [l0, l1], st) :: fs) (enc σ) Q := R_V (As := [.int y0]) hbX8_readsHouse hoX8_readsHouse cl_8_111 hnX8_word rfl (by decide +kernel) rfl rfl rfl (isO_29 (by decide) σ) dX8_readsHouse_58
theorem dX8_readsHouse_61 : decode cX8_readsHouse 61 = .ok (.aload_n 0, 1) := by decide +kernel
theorem aX8_readsHouse_61 {x : Nat} {l1 : Value} {st : List Value} {fs : List Fm} {M : List va_E} {Q : List va_E → Option Value → Prop} : Rn mX8_readsHouse 61 [.ref x, l1] st fs M Q ↔ Rn mX8_readsHouse 62 [.ref x, l1] (.ref x :: st) fs M Q := R_aload_n hbX8_readsHouse rfl dX8_readsHouse_61
theorem dX8_readsHouse_62 : decode cX8_readsHouse 62 = .ok (.getfield 35, 3) := by decide +kernel
theorem aX8_readsHouse_62 {l0 l1 : Value} {st : List Value} {fs : List Fm} {σ : Mem} {Q : List va_E → Option Value → Prop} : Rn mX8_readsHouse 62 [l0, l1] (.ref (ad 29 0) :: st) fs (enc σ) Q ↔ Rn mX8_readsHouse 65 [l0, l1] (.ref (ad 37 0) :: st) fs (enc σ) Q := R_get hbX8_readsHouse hoX8_readsHouse fl_8_35 (gf_8_9 (by decide) σ) dX8_readsHouse_62
theorem dX8_readsHouse_65 : decode cX8_readsHouse 65 = .ok (.iconst 1, 1) := by decide +kernel
theorem aX8_readsHouse_65 {l0 l1 : Value} {st : List Value} {fs : List Fm} {M : List va_E} {Q : List va_E → Option Value → Prop} : Rn mX8_readsHouse 65 [l0, l1] st fs M Q ↔ Rn mX8_readsHouse 66 [l0, l1] (.int 1 :: st) fs M Q := R_iconst hbX8_readsHouse (by decide) dX8_readsHouse_65
theorem dX8_readsHouse_66 : decode cX8_readsHouse 66 = .ok (.dup2, 1) := by decide +kernel
theorem aX8_readsHouse_66 {x : Int32} {a : Nat} {l0 l1 : Value} {st : List Value} {fs : List Fm} {M : List va_E} {Q : List va_E → Option Value → Prop} : Rn mX8_readsHouse 66 [l0, l1] (.int x :: .ref a :: st) fs M Q ↔ Rn mX8_readsHouse 67 [l0, l1] (.int x :: .ref a :: .int x :: .ref a :: st) fs M Q := R_dup2_ia hbX8_readsHouse dX8_readsHouse_66
theorem dX8_readsHouse_67 : decode cX8_readsHouse 67 = .ok (.iaload, 1) := by decide +kernel
theorem aX8_readsHouse_67 {k i : Nat} {j : Int32} (ht : aT k = 0) (hi : i < cnt k) {l0 l1 : Value} {st : List Value} {fs : List Fm} {σ : Mem} {Q : List va_E → Option Value → Prop} : Rn mX8_readsHouse 67 [l0, l1] (.int j :: .ref (ad k i) :: st) fs (enc σ) Q ↔ vp_in j (aN k) ∧ Rn mX8_readsHouse 68 [l0, l1] (.int (σ k i j.toNatClampNeg) :: st) fs (enc σ) Q := R_iaload hbX8_readsHouse ht hi dX8_readsHouse_67
theorem dX8_readsHouse_68 : decode cX8_readsHouse 68 = .ok (.iconst 1, 1) := by decide +kernel
theorem aX8_readsHouse_68 {l0 l1 : Value} {st : List Value} {fs : List Fm} {M : List va_E} {Q : List va_E → Option Value → Prop} : Rn mX8_readsHouse 68 [l0, l1] st fs M Q ↔ Rn mX8_readsHouse 69 [l0, l1] (.int 1 :: st) fs M Q := R_iconst hbX8_readsHouse (by decide) dX8_readsHouse_68
theorem dX8_readsHouse_69 : decode cX8_readsHouse 69 = .ok (.iadd, 1) := by decide +kernel
theorem aX8_readsHouse_69 {x y : Int32} {l0 l1 : Value} {st : List Value} {fs : List Fm} {M : List va_E} {Q : List va_E → Option Value → Prop} : Rn mX8_readsHouse 69 [l0, l1] (.int y :: .int x :: st) fs M Q ↔ Rn mX8_readsHouse 70 [l0, l1] (.int (x + y) :: st) fs M Q := R_iadd hbX8_readsHouse dX8_readsHouse_69
theorem dX8_readsHouse_70 : decode cX8_readsHouse 70 = .ok (.iastore, 1) := by decide +kernel
theorem aX8_readsHouse_70 {k i : Nat} {j x : Int32} (ht : aT k = 0) (hi : i < cnt k) {l0 l1 : Value} {st : List Value} {fs : List Fm} {σ : Mem} {Q : List va_E → Option Value → Prop} : Rn mX8_readsHouse 70 [l0, l1] (.int x :: .int j :: .ref (ad k i) :: st) fs (enc σ) Q ↔ vp_in j (aN k) ∧ Rn mX8_readsHouse 71 [l0, l1] st fs (enc (upS σ k i j.toNatClampNeg x)) Q := R_iastore hbX8_readsHouse ht hi dX8_readsHouse_70
theorem dX8_readsHouse_71 : decode cX8_readsHouse 71 = .ok (.return_, 1) := by decide +kernel
theorem aX8_readsHouse_71 {l0 l1 : Value} {fs : List Fm} {M : List va_E} {Q : List va_E → Option Value → Prop} : Rn mX8_readsHouse 71 [l0, l1] [] fs M Q ↔ Rt fs M none Q := R_ret hbX8_readsHouse hrX8_readsHouse dX8_readsHouse_71
theorem dX8_readsGull_0 : decode cX8_readsGull 0 = .ok (.aload_n 0, 1) := by decide +kernel
theorem aX8_readsGull_0 {x : Nat} {l1 : Value} {st : List Value} {fs : List Fm} {M : List va_E} {Q : List va_E → Option Value → Prop} : Rn mX8_readsGull 0 [.ref x, l1] st fs M Q ↔ Rn mX8_readsGull 1 [.ref x, l1] (.ref x :: st) fs M Q := R_aload_n hbX8_readsGull rfl dX8_readsGull_0
theorem dX8_readsGull_1 : decode cX8_readsGull 1 = .ok (.getfield 35, 3) := by decide +kernel
theorem aX8_readsGull_1 {l0 l1 : Value} {st : List Value} {fs : List Fm} {σ : Mem} {Q : List va_E → Option Value → Prop} : Rn mX8_readsGull 1 [l0, l1] (.ref (ad 29 0) :: st) fs (enc σ) Q ↔ Rn mX8_readsGull 4 [l0, l1] (.ref (ad 37 0) :: st) fs (enc σ) Q := R_get hbX8_readsGull hoX8_readsGull fl_8_35 (gf_8_9 (by decide) σ) dX8_readsGull_1
theorem dX8_readsGull_4 : decode cX8_readsGull 4 = .ok (.iconst 2, 1) := by decide +kernel
theorem aX8_readsGull_4 {l0 l1 : Value} {st : List Value} {fs : List Fm} {M : List va_E} {Q : List va_E → Option Value → Prop} : Rn mX8_readsGull 4 [l0, l1] st fs M Q ↔ Rn mX8_readsGull 5 [l0, l1] (.int 2 :: st) fs M Q := R_iconst hbX8_readsGull (by decide) dX8_readsGull_4
theorem dX8_readsGull_5 : decode cX8_readsGull 5 = .ok (.iaload, 1) := by decide +kernel
theorem aX8_readsGull_5 {k i : Nat} {j : Int32} (ht : aT k = 0) (hi : i < cnt k) {l0 l1 : Value} {st : List Value} {fs : List Fm} {σ : Mem} {Q : List va_E → Option Value → Prop} : Rn mX8_readsGull 5 [l0, l1] (.int j :: .ref (ad k i) :: st) fs (enc σ) Q ↔ vp_in j (aN k) ∧ Rn mX8_readsGull 6 [l0, l1] (.int (σ k i j.toNatClampNeg) :: st) fs (enc σ) Q := R_iaload hbX8_readsGull ht hi dX8_readsGull_5
theorem dX8_readsGull_6 : decode cX8_readsGull 6 = .ok (.istore_n 1, 1) := by decide +kernel
theorem aX8_readsGull_6 {x : Int32} {l0 l1 : Value} {st : List Value} {fs : List Fm} {M : List va_E} {Q : List va_E → Option Value → Prop} : Rn mX8_readsGull 6 [l0, l1] (.int x :: st) fs M Q ↔ Rn mX8_readsGull 7 [l0, .int x] st fs M Q := R_istore_n hbX8_readsGull hmX8_readsGull hlX8_readsGull (by decide) (by decide) rfl dX8_readsGull_6
theorem dX8_readsGull_7 : decode cX8_readsGull 7 = .ok (.iload_n 1, 1) := by decide +kernel
theorem aX8_readsGull_7 {x : Int32} {l0 : Value} {st : List Value} {fs : List Fm} {M : List va_E} {Q : List va_E → Option Value → Prop} : Rn mX8_readsGull 7 [l0, .int x] st fs M Q ↔ Rn mX8_readsGull 8 [l0, .int x] (.int x :: st) fs M Q := R_iload_n hbX8_readsGull rfl dX8_readsGull_7
theorem dX8_readsGull_8 : decode cX8_readsGull 8 = .ok (.aload_n 0, 1) := by decide +kernel
theorem aX8_readsGull_8 {x : Nat} {l1 : Value} {st : List Value} {fs : List Fm} {M : List va_E} {Q : List va_E → Option Value → Prop} : Rn mX8_readsGull 8 [.ref x, l1] st fs M Q ↔ Rn mX8_readsGull 9 [.ref x, l1] (.ref x :: st) fs M Q := R_aload_n hbX8_readsGull rfl dX8_readsGull_8
theorem dX8_readsGull_9 : decode cX8_readsGull 9 = .ok (.getfield 35, 3) := by decide +kernel
theorem aX8_readsGull_9 {l0 l1 : Value} {st : List Value} {fs : List Fm} {σ : Mem} {Q : List va_E → Option Value → Prop} : Rn mX8_readsGull 9 [l0, l1] (.ref (ad 29 0) :: st) fs (enc σ) Q ↔ Rn mX8_readsGull 12 [l0, l1] (.ref (ad 37 0) :: st) fs (enc σ) Q := R_get hbX8_readsGull hoX8_readsGull fl_8_35 (gf_8_9 (by decide) σ) dX8_readsGull_9
theorem dX8_readsGull_12 : decode cX8_readsGull 12 = .ok (.iconst 1, 1) := by decide +kernel
theorem aX8_readsGull_12 {l0 l1 : Value} {st : List Value} {fs : List Fm} {M : List va_E} {Q : List va_E → Option Value → Prop} : Rn mX8_readsGull 12 [l0, l1] st fs M Q ↔ Rn mX8_readsGull 13 [l0, l1] (.int 1 :: st) fs M Q := R_iconst hbX8_readsGull (by decide) dX8_readsGull_12
theorem dX8_readsGull_13 : decode cX8_readsGull 13 = .ok (.iaload, 1) := by decide +kernel
theorem aX8_readsGull_13 {k i : Nat} {j : Int32} (ht : aT k = 0) (hi : i < cnt k) {l0 l1 : Value} {st : List Value} {fs : List Fm} {σ : Mem} {Q : List va_E → Option Value → Prop} : Rn mX8_readsGull 13 [l0, l1] (.int j :: .ref (ad k i) :: st) fs (enc σ) Q ↔ vp_in j (aN k) ∧ Rn mX8_readsGull 14 [l0, l1] (.int (σ k i j.toNatClampNeg) :: st) fs (enc σ) Q := R_iaload hbX8_readsGull ht hi dX8_readsGull_13
theorem dX8_readsGull_14 : decode cX8_readsGull 14 = .ok (.if_icmp .ne 9, 3) := by decide +kernel
theorem aX8_readsGull_14 {x y : Int32} {l0 l1 : Value} {st : List Value} {fs : List Fm} {M : List va_E} {Q : List va_E → Option Value → Prop} : Rn mX8_readsGull 14 [l0, l1] (.int y :: .int x :: st) fs M Q ↔ if ¬ x = y then Rn mX8_readsGull 23 [l0, l1] st fs M Q else Rn mX8_readsGull 17 [l0, l1] st fs M Q := R_icne hbX8_readsGull rfl dX8_readsGull_14
theorem dX8_readsGull_17 : decode cX8_readsGull 17 = .ok (.aload_n 0, 1) := by decide +kernel
theorem aX8_readsGull_17 {x : Nat} {l1 : Value} {st : List Value} {fs : List Fm} {M : List va_E} {Q : List va_E → Option Value → Prop} : Rn mX8_readsGull 17 [.ref x, l1] st fs M Q ↔ Rn mX8_readsGull 18 [.ref x, l1] (.ref x :: st) fs M Q := R_aload_n hbX8_readsGull rfl dX8_readsGull_17
theorem dX8_readsGull_18 : decode cX8_readsGull 18 = .ok (.iconst 3, 1) := by decide +kernel
theorem aX8_readsGull_18 {l0 l1 : Value} {st : List Value} {fs : List Fm} {M : List va_E} {Q : List va_E → Option Value → Prop} : Rn mX8_readsGull 18 [l0, l1] st fs M Q ↔ Rn mX8_readsGull 19 [l0, l1] (.int 3 :: st) fs M Q := R_iconst hbX8_readsGull (by decide) dX8_readsGull_18
theorem dX8_readsGull_19 : decode cX8_readsGull 19 = .ok (.invokevirtual 103, 3) := by decide +kernel
theorem aX8_readsGull_19 {y0 : Int32} {l0 l1 : Value} {st : List Value} {fs : List Fm} {σ : Mem} {Q : List va_E → Option Value → Prop} : Rn mX8_readsGull 19 [l0, l1] (.int y0 :: .ref (ad 29 0) :: st) fs (enc σ) Q ↔ cats st ≤ 8 ∧ Rn mX8_fails 0 [.ref (ad 29 0), .int y0] [] ((mX8_readsGull, 22, [l0, l1], st) :: fs) (enc σ) Q := R_V (As := [.int y0]) hbX8_readsGull hoX8_readsGull cl_8_103 hnX8_fails rfl (by decide +kernel) rfl rfl rfl (isO_29 (by decide) σ) dX8_readsGull_19
theorem dX8_readsGull_22 : decode cX8_readsGull 22 = .ok (.return_, 1) := by decide +kernel
theorem aX8_readsGull_22 {l0 l1 : Value} {fs : List Fm} {M : List va_E} {Q : List va_E → Option Value → Prop} : Rn mX8_readsGull 22 [l0, l1] [] fs M Q ↔ Rt fs M none Q := R_ret hbX8_readsGull hrX8_readsGull dX8_readsGull_22
theorem dX8_readsGull_23 : decode cX8_readsGull 23 = .ok (.aload_n 0, 1) := by decide +kernel
theorem aX8_readsGull_23 {x : Nat} {l1 : Value} {st : List Value} {fs : List Fm} {M : List va_E} {Q : List va_E → Option Value → Prop} : Rn mX8_readsGull 23 [.ref x, l1] st fs M Q ↔ Rn mX8_readsGull 24 [.ref x, l1] (.ref x :: st) fs M Q := R_aload_n hbX8_readsGull rfl dX8_readsGull_23
theorem dX8_readsGull_24 : decode cX8_readsGull 24 = .ok (.dup, 1) := by decide +kernel
theorem aX8_readsGull_24i {x : Int32} {l0 l1 : Value} {st : List Value} {fs : List Fm} {M : List va_E} {Q : List va_E → Option Value → Prop} : Rn mX8_readsGull 24 [l0, l1] (.int x :: st) fs M Q ↔ Rn mX8_readsGull 25 [l0, l1] (.int x :: .int x :: st) fs M Q := R_dup_i hbX8_readsGull dX8_readsGull_24
theorem aX8_readsGull_24a {x : Nat} {l0 l1 : Value} {st : List Value} {fs : List Fm} {M : List va_E} {Q : List va_E → Option Value → Prop} : Rn mX8_readsGull 24 [l0, l1] (.ref x :: st) fs M Q ↔ Rn mX8_readsGull 25 [l0, l1] (.ref x :: .ref x :: st) fs M Q := R_dup_a hbX8_readsGull dX8_readsGull_24
theorem dX8_readsGull_25 : decode cX8_readsGull 25 = .ok (.getfield 90, 3) := by decide +kernel
theorem aX8_readsGull_25 {l0 l1 : Value} {st : List Value} {fs : List Fm} {σ : Mem} {Q : List va_E → Option Value → Prop} : Rn mX8_readsGull 25 [l0, l1] (.ref (ad 29 0) :: st) fs (enc σ) Q ↔ Rn mX8_readsGull 28 [l0, l1] (.int (σ 29 0 27) :: st) fs (enc σ) Q := R_get hbX8_readsGull hoX8_readsGull fl_8_90 (gf_8_27 (by decide) σ) dX8_readsGull_25
theorem dX8_readsGull_28 : decode cX8_readsGull 28 = .ok (.iconst 1, 1) := by decide +kernel
theorem aX8_readsGull_28 {l0 l1 : Value} {st : List Value} {fs : List Fm} {M : List va_E} {Q : List va_E → Option Value → Prop} : Rn mX8_readsGull 28 [l0, l1] st fs M Q ↔ Rn mX8_readsGull 29 [l0, l1] (.int 1 :: st) fs M Q := R_iconst hbX8_readsGull (by decide) dX8_readsGull_28
theorem dX8_readsGull_29 : decode cX8_readsGull 29 = .ok (.iadd, 1) := by decide +kernel
theorem aX8_readsGull_29 {x y : Int32} {l0 l1 : Value} {st : List Value} {fs : List Fm} {M : List va_E} {Q : List va_E → Option Value → Prop} : Rn mX8_readsGull 29 [l0, l1] (.int y :: .int x :: st) fs M Q ↔ Rn mX8_readsGull 30 [l0, l1] (.int (x + y) :: st) fs M Q := R_iadd hbX8_readsGull dX8_readsGull_29
theorem dX8_readsGull_30 : decode cX8_readsGull 30 = .ok (.putfield 90, 3) := by decide +kernel
theorem aX8_readsGull_30 {x : Int32} {l0 l1 : Value} {st : List Value} {fs : List Fm} {σ : Mem} {Q : List va_E → Option Value → Prop} : Rn mX8_readsGull 30 [l0, l1] (.int x :: .ref (ad 29 0) :: st) fs (enc σ) Q ↔ Rn mX8_readsGull 33 [l0, l1] st fs (enc (upS σ 29 0 27 x)) Q := R_put hbX8_readsGull hoX8_readsGull fl_8_90 (pf_8_27 (by decide) σ x) dX8_readsGull_30
theorem dX8_readsGull_33 : decode cX8_readsGull 33 = .ok (.aload_n 0, 1) := by decide +kernel
theorem aX8_readsGull_33 {x : Nat} {l1 : Value} {st : List Value} {fs : List Fm} {M : List va_E} {Q : List va_E → Option Value → Prop} : Rn mX8_readsGull 33 [.ref x, l1] st fs M Q ↔ Rn mX8_readsGull 34 [.ref x, l1] (.ref x :: st) fs M Q := R_aload_n hbX8_readsGull rfl dX8_readsGull_33
theorem dX8_readsGull_34 : decode cX8_readsGull 34 = .ok (.getfield 47, 3) := by decide +kernel
theorem aX8_readsGull_34 {l0 l1 : Value} {st : List Value} {fs : List Fm} {σ : Mem} {Q : List va_E → Option Value → Prop} : Rn mX8_readsGull 34 [l0, l1] (.ref (ad 29 0) :: st) fs (enc σ) Q ↔ Rn mX8_readsGull 37 [l0, l1] (.ref (ad 41 0) :: st) fs (enc σ) Q := R_get hbX8_readsGull hoX8_readsGull fl_8_47 (gf_8_13 (by decide) σ) dX8_readsGull_34
theorem dX8_readsGull_37 : decode cX8_readsGull 37 = .ok (.iload_n 1, 1) := by decide +kernel
theorem aX8_readsGull_37 {x : Int32} {l0 : Value} {st : List Value} {fs : List Fm} {M : List va_E} {Q : List va_E → Option Value → Prop} : Rn mX8_readsGull 37 [l0, .int x] st fs M Q ↔ Rn mX8_readsGull 38 [l0, .int x] (.int x :: st) fs M Q := R_iload_n hbX8_readsGull rfl dX8_readsGull_37
theorem dX8_readsGull_38 : decode cX8_readsGull 38 = .ok (.aload_n 0, 1) := by decide +kernel
theorem aX8_readsGull_38 {x : Nat} {l1 : Value} {st : List Value} {fs : List Fm} {M : List va_E} {Q : List va_E → Option Value → Prop} : Rn mX8_readsGull 38 [.ref x, l1] st fs M Q ↔ Rn mX8_readsGull 39 [.ref x, l1] (.ref x :: st) fs M Q := R_aload_n hbX8_readsGull rfl dX8_readsGull_38
theorem dX8_readsGull_39 : decode cX8_readsGull 39 = .ok (.iconst 0, 1) := by decide +kernel
theorem aX8_readsGull_39 {l0 l1 : Value} {st : List Value} {fs : List Fm} {M : List va_E} {Q : List va_E → Option Value → Prop} : Rn mX8_readsGull 39 [l0, l1] st fs M Q ↔ Rn mX8_readsGull 40 [l0, l1] (.int 0 :: st) fs M Q := R_iconst hbX8_readsGull (by decide) dX8_readsGull_39
theorem dX8_readsGull_40 : decode cX8_readsGull 40 = .ok (.iconst 3, 1) := by decide +kernel
theorem aX8_readsGull_40 {l0 l1 : Value} {st : List Value} {fs : List Fm} {M : List va_E} {Q : List va_E → Option Value → Prop} : Rn mX8_readsGull 40 [l0, l1] st fs M Q ↔ Rn mX8_readsGull 41 [l0, l1] (.int 3 :: st) fs M Q := R_iconst hbX8_readsGull (by decide) dX8_readsGull_40
theorem dX8_readsGull_41 : decode cX8_readsGull 41 = .ok (.invokevirtual 107, 3) := by decide +kernel
theorem aX8_readsGull_41 {y0 : Int32} {y1 : Int32} {l0 l1 : Value} {st : List Value} {fs : List Fm} {σ : Mem} {Q : List va_E → Option Value → Prop} : Rn mX8_readsGull 41 [l0, l1] (.int y1 :: .int y0 :: .ref (ad 29 0) :: st) fs (enc σ) Q ↔ cats st ≤ 8 ∧ Rn mX8_number 0 [.ref (ad 29 0), .int y0, .int y1, .null, .null] [] ((mX8_readsGull, 44, [l0, l1], st) :: fs) (enc σ) Q := R_V (As := [.int y0, .int y1]) hbX8_readsGull hoX8_readsGull cl_8_107 hnX8_number rfl (by decide +kernel) rfl rfl rfl (isO_29 (by decide) σ) dX8_readsGull_41
theorem dX8_readsGull_44 : decode cX8_readsGull 44 = .ok (.iastore, 1) := by decide +kernel
theorem aX8_readsGull_44 {k i : Nat} {j x : Int32} (ht : aT k = 0) (hi : i < cnt k) {l0 l1 : Value} {st : List Value} {fs : List Fm} {σ : Mem} {Q : List va_E → Option Value → Prop} : Rn mX8_readsGull 44 [l0, l1] (.int x :: .int j :: .ref (ad k i) :: st) fs (enc σ) Q ↔ vp_in j (aN k) ∧ Rn mX8_readsGull 45 [l0, l1] st fs (enc (upS σ k i j.toNatClampNeg x)) Q := R_iastore hbX8_readsGull ht hi dX8_readsGull_44
theorem dX8_readsGull_45 : decode cX8_readsGull 45 = .ok (.aload_n 0, 1) := by decide +kernel
theorem aX8_readsGull_45 {x : Nat} {l1 : Value} {st : List Value} {fs : List Fm} {M : List va_E} {Q : List va_E → Option Value → Prop} : Rn mX8_readsGull 45 [.ref x, l1] st fs M Q ↔ Rn mX8_readsGull 46 [.ref x, l1] (.ref x :: st) fs M Q := R_aload_n hbX8_readsGull rfl dX8_readsGull_45
theorem dX8_readsGull_46 : decode cX8_readsGull 46 = .ok (.getfield 50, 3) := by decide +kernel
theorem aX8_readsGull_46 {l0 l1 : Value} {st : List Value} {fs : List Fm} {σ : Mem} {Q : List va_E → Option Value → Prop} : Rn mX8_readsGull 46 [l0, l1] (.ref (ad 29 0) :: st) fs (enc σ) Q ↔ Rn mX8_readsGull 49 [l0, l1] (.ref (ad 42 0) :: st) fs (enc σ) Q := R_get hbX8_readsGull hoX8_readsGull fl_8_50 (gf_8_14 (by decide) σ) dX8_readsGull_46
theorem dX8_readsGull_49 : decode cX8_readsGull 49 = .ok (.iload_n 1, 1) := by decide +kernel
theorem aX8_readsGull_49 {x : Int32} {l0 : Value} {st : List Value} {fs : List Fm} {M : List va_E} {Q : List va_E → Option Value → Prop} : Rn mX8_readsGull 49 [l0, .int x] st fs M Q ↔ Rn mX8_readsGull 50 [l0, .int x] (.int x :: st) fs M Q := R_iload_n hbX8_readsGull rfl dX8_readsGull_49
theorem dX8_readsGull_50 : decode cX8_readsGull 50 = .ok (.aload_n 0, 1) := by decide +kernel
theorem aX8_readsGull_50 {x : Nat} {l1 : Value} {st : List Value} {fs : List Fm} {M : List va_E} {Q : List va_E → Option Value → Prop} : Rn mX8_readsGull 50 [.ref x, l1] st fs M Q ↔ Rn mX8_readsGull 51 [.ref x, l1] (.ref x :: st) fs M Q := R_aload_n hbX8_readsGull rfl dX8_readsGull_50
theorem dX8_readsGull_51 : decode cX8_readsGull 51 = .ok (.iconst 1, 1) := by decide +kernel
theorem aX8_readsGull_51 {l0 l1 : Value} {st : List Value} {fs : List Fm} {M : List va_E} {Q : List va_E → Option Value → Prop} : Rn mX8_readsGull 51 [l0, l1] st fs M Q ↔ Rn mX8_readsGull 52 [l0, l1] (.int 1 :: st) fs M Q := R_iconst hbX8_readsGull (by decide) dX8_readsGull_51
theorem dX8_readsGull_52 : decode cX8_readsGull 52 = .ok (.bipush 99, 2) := by decide +kernel
theorem aX8_readsGull_52 {l0 l1 : Value} {st : List Value} {fs : List Fm} {M : List va_E} {Q : List va_E → Option Value → Prop} : Rn mX8_readsGull 52 [l0, l1] st fs M Q ↔ Rn mX8_readsGull 54 [l0, l1] (.int 99 :: st) fs M Q := R_bipush hbX8_readsGull (by decide) dX8_readsGull_52
theorem dX8_readsGull_54 : decode cX8_readsGull 54 = .ok (.invokevirtual 107, 3) := by decide +kernel
theorem aX8_readsGull_54 {y0 : Int32} {y1 : Int32} {l0 l1 : Value} {st : List Value} {fs : List Fm} {σ : Mem} {Q : List va_E → Option Value → Prop} : Rn mX8_readsGull 54 [l0, l1] (.int y1 :: .int y0 :: .ref (ad 29 0) :: st) fs (enc σ) Q ↔ cats st ≤ 8 ∧ Rn mX8_number 0 [.ref (ad 29 0), .int y0, .int y1, .null, .null] [] ((mX8_readsGull, 57, [l0, l1], st) :: fs) (enc σ) Q := R_V (As := [.int y0, .int y1]) hbX8_readsGull hoX8_readsGull cl_8_107 hnX8_number rfl (by decide +kernel) rfl rfl rfl (isO_29 (by decide) σ) dX8_readsGull_54
theorem dX8_readsGull_57 : decode cX8_readsGull 57 = .ok (.iastore, 1) := by decide +kernel
theorem aX8_readsGull_57 {k i : Nat} {j x : Int32} (ht : aT k = 0) (hi : i < cnt k) {l0 l1 : Value} {st : List Value} {fs : List Fm} {σ : Mem} {Q : List va_E → Option Value → Prop} : Rn mX8_readsGull 57 [l0, l1] (.int x :: .int j :: .ref (ad k i) :: st) fs (enc σ) Q ↔ vp_in j (aN k) ∧ Rn mX8_readsGull 58 [l0, l1] st fs (enc (upS σ k i j.toNatClampNeg x)) Q := R_iastore hbX8_readsGull ht hi dX8_readsGull_57
theorem dX8_readsGull_58 : decode cX8_readsGull 58 = .ok (.aload_n 0, 1) := by decide +kernel
theorem aX8_readsGull_58 {x : Nat} {l1 : Value} {st : List Value} {fs : List Fm} {M : List va_E} {Q : List va_E → Option Value → Prop} : Rn mX8_readsGull 58 [.ref x, l1] st fs M Q ↔ Rn mX8_readsGull 59 [.ref x, l1] (.ref x :: st) fs M Q := R_aload_n hbX8_readsGull rfl dX8_readsGull_58
theorem dX8_readsGull_59 : decode cX8_readsGull 59 = .ok (.bipush 59, 2) := by decide +kernel
theorem aX8_readsGull_59 {l0 l1 : Value} {st : List Value} {fs : List Fm} {M : List va_E} {Q : List va_E → Option Value → Prop} : Rn mX8_readsGull 59 [l0, l1] st fs M Q ↔ Rn mX8_readsGull 61 [l0, l1] (.int 59 :: st) fs M Q := R_bipush hbX8_readsGull (by decide) dX8_readsGull_59
theorem dX8_readsGull_61 : decode cX8_readsGull 61 = .ok (.invokevirtual 111, 3) := by decide +kernel
theorem aX8_readsGull_61 {y0 : Int32} {l0 l1 : Value} {st : List Value} {fs : List Fm} {σ : Mem} {Q : List va_E → Option Value → Prop} : Rn mX8_readsGull 61 [l0, l1] (.int y0 :: .ref (ad 29 0) :: st) fs (enc σ) Q ↔ cats st ≤ 8 ∧ Rn mX8_word 0 [.ref (ad 29 0), .int y0] [] ((mX8_readsGull, 64, [l0, l1], st) :: fs) (enc σ) Q := R_V (As := [.int y0]) hbX8_readsGull hoX8_readsGull cl_8_111 hnX8_word rfl (by decide +kernel) rfl rfl rfl (isO_29 (by decide) σ) dX8_readsGull_61
theorem dX8_readsGull_64 : decode cX8_readsGull 64 = .ok (.aload_n 0, 1) := by decide +kernel
theorem aX8_readsGull_64 {x : Nat} {l1 : Value} {st : List Value} {fs : List Fm} {M : List va_E} {Q : List va_E → Option Value → Prop} : Rn mX8_readsGull 64 [.ref x, l1] st fs M Q ↔ Rn mX8_readsGull 65 [.ref x, l1] (.ref x :: st) fs M Q := R_aload_n hbX8_readsGull rfl dX8_readsGull_64
theorem dX8_readsGull_65 : decode cX8_readsGull 65 = .ok (.getfield 35, 3) := by decide +kernel
theorem aX8_readsGull_65 {l0 l1 : Value} {st : List Value} {fs : List Fm} {σ : Mem} {Q : List va_E → Option Value → Prop} : Rn mX8_readsGull 65 [l0, l1] (.ref (ad 29 0) :: st) fs (enc σ) Q ↔ Rn mX8_readsGull 68 [l0, l1] (.ref (ad 37 0) :: st) fs (enc σ) Q := R_get hbX8_readsGull hoX8_readsGull fl_8_35 (gf_8_9 (by decide) σ) dX8_readsGull_65
theorem dX8_readsGull_68 : decode cX8_readsGull 68 = .ok (.iconst 2, 1) := by decide +kernel
theorem aX8_readsGull_68 {l0 l1 : Value} {st : List Value} {fs : List Fm} {M : List va_E} {Q : List va_E → Option Value → Prop} : Rn mX8_readsGull 68 [l0, l1] st fs M Q ↔ Rn mX8_readsGull 69 [l0, l1] (.int 2 :: st) fs M Q := R_iconst hbX8_readsGull (by decide) dX8_readsGull_68
theorem dX8_readsGull_69 : decode cX8_readsGull 69 = .ok (.dup2, 1) := by decide +kernel
theorem aX8_readsGull_69 {x : Int32} {a : Nat} {l0 l1 : Value} {st : List Value} {fs : List Fm} {M : List va_E} {Q : List va_E → Option Value → Prop} : Rn mX8_readsGull 69 [l0, l1] (.int x :: .ref a :: st) fs M Q ↔ Rn mX8_readsGull 70 [l0, l1] (.int x :: .ref a :: .int x :: .ref a :: st) fs M Q := R_dup2_ia hbX8_readsGull dX8_readsGull_69
theorem dX8_readsGull_70 : decode cX8_readsGull 70 = .ok (.iaload, 1) := by decide +kernel
theorem aX8_readsGull_70 {k i : Nat} {j : Int32} (ht : aT k = 0) (hi : i < cnt k) {l0 l1 : Value} {st : List Value} {fs : List Fm} {σ : Mem} {Q : List va_E → Option Value → Prop} : Rn mX8_readsGull 70 [l0, l1] (.int j :: .ref (ad k i) :: st) fs (enc σ) Q ↔ vp_in j (aN k) ∧ Rn mX8_readsGull 71 [l0, l1] (.int (σ k i j.toNatClampNeg) :: st) fs (enc σ) Q := R_iaload hbX8_readsGull ht hi dX8_readsGull_70
theorem dX8_readsGull_71 : decode cX8_readsGull 71 = .ok (.iconst 1, 1) := by decide +kernel
theorem aX8_readsGull_71 {l0 l1 : Value} {st : List Value} {fs : List Fm} {M : List va_E} {Q : List va_E → Option Value → Prop} : Rn mX8_readsGull 71 [l0, l1] st fs M Q ↔ Rn mX8_readsGull 72 [l0, l1] (.int 1 :: st) fs M Q := R_iconst hbX8_readsGull (by decide) dX8_readsGull_71
theorem dX8_readsGull_72 : decode cX8_readsGull 72 = .ok (.iadd, 1) := by decide +kernel
theorem aX8_readsGull_72 {x y : Int32} {l0 l1 : Value} {st : List Value} {fs : List Fm} {M : List va_E} {Q : List va_E → Option Value → Prop} : Rn mX8_readsGull 72 [l0, l1] (.int y :: .int x :: st) fs M Q ↔ Rn mX8_readsGull 73 [l0, l1] (.int (x + y) :: st) fs M Q := R_iadd hbX8_readsGull dX8_readsGull_72
theorem dX8_readsGull_73 : decode cX8_readsGull 73 = .ok (.iastore, 1) := by decide +kernel
theorem aX8_readsGull_73 {k i : Nat} {j x : Int32} (ht : aT k = 0) (hi : i < cnt k) {l0 l1 : Value} {st : List Value} {fs : List Fm} {σ : Mem} {Q : List va_E → Option Value → Prop} : Rn mX8_readsGull 73 [l0, l1] (.int x :: .int j :: .ref (ad k i) :: st) fs (enc σ) Q ↔ vp_in j (aN k) ∧ Rn mX8_readsGull 74 [l0, l1] st fs (enc (upS σ k i j.toNatClampNeg x)) Q := R_iastore hbX8_readsGull ht hi dX8_readsGull_73
theorem dX8_readsGull_74 : decode cX8_readsGull 74 = .ok (.return_, 1) := by decide +kernel
theorem aX8_readsGull_74 {l0 l1 : Value} {fs : List Fm} {M : List va_E} {Q : List va_E → Option Value → Prop} : Rn mX8_readsGull 74 [l0, l1] [] fs M Q ↔ Rt fs M none Q := R_ret hbX8_readsGull hrX8_readsGull dX8_readsGull_74
theorem dX8_takesAll_0 : decode cX8_takesAll 0 = .ok (.iconst 0, 1) := by decide +kernel
theorem aX8_takesAll_0 {l0 l1 : Value} {st : List Value} {fs : List Fm} {M : List va_E} {Q : List va_E → Option Value → Prop} : Rn mX8_takesAll 0 [l0, l1] st fs M Q ↔ Rn mX8_takesAll 1 [l0, l1] (.int 0 :: st) fs M Q := R_iconst hbX8_takesAll (by decide) dX8_takesAll_0
theorem dX8_takesAll_1 : decode cX8_takesAll 1 = .ok (.istore_n 1, 1) := by decide +kernel
theorem aX8_takesAll_1 {x : Int32} {l0 l1 : Value} {st : List Value} {fs : List Fm} {M : List va_E} {Q : List va_E → Option Value → Prop} : Rn mX8_takesAll 1 [l0, l1] (.int x :: st) fs M Q ↔ Rn mX8_takesAll 2 [l0, .int x] st fs M Q := R_istore_n hbX8_takesAll hmX8_takesAll hlX8_takesAll (by decide) (by decide) rfl dX8_takesAll_1
theorem dX8_takesAll_2 : decode cX8_takesAll 2 = .ok (.iload_n 1, 1) := by decide +kernel
theorem aX8_takesAll_2 {x : Int32} {l0 : Value} {st : List Value} {fs : List Fm} {M : List va_E} {Q : List va_E → Option Value → Prop} : Rn mX8_takesAll 2 [l0, .int x] st fs M Q ↔ Rn mX8_takesAll 3 [l0, .int x] (.int x :: st) fs M Q := R_iload_n hbX8_takesAll rfl dX8_takesAll_2
theorem dX8_takesAll_3 : decode cX8_takesAll 3 = .ok (.iconst 3, 1) := by decide +kernel
theorem aX8_takesAll_3 {l0 l1 : Value} {st : List Value} {fs : List Fm} {M : List va_E} {Q : List va_E → Option Value → Prop} : Rn mX8_takesAll 3 [l0, l1] st fs M Q ↔ Rn mX8_takesAll 4 [l0, l1] (.int 3 :: st) fs M Q := R_iconst hbX8_takesAll (by decide) dX8_takesAll_3
theorem dX8_takesAll_4 : decode cX8_takesAll 4 = .ok (.if_icmp .ge 21, 3) := by decide +kernel
theorem aX8_takesAll_4 {x y : Int32} {l0 l1 : Value} {st : List Value} {fs : List Fm} {M : List va_E} {Q : List va_E → Option Value → Prop} : Rn mX8_takesAll 4 [l0, l1] (.int y :: .int x :: st) fs M Q ↔ if y ≤ x then Rn mX8_takesAll 25 [l0, l1] st fs M Q else Rn mX8_takesAll 7 [l0, l1] st fs M Q := R_icge hbX8_takesAll rfl dX8_takesAll_4
theorem dX8_takesAll_7 : decode cX8_takesAll 7 = .ok (.aload_n 0, 1) := by decide +kernel
theorem aX8_takesAll_7 {x : Nat} {l1 : Value} {st : List Value} {fs : List Fm} {M : List va_E} {Q : List va_E → Option Value → Prop} : Rn mX8_takesAll 7 [.ref x, l1] st fs M Q ↔ Rn mX8_takesAll 8 [.ref x, l1] (.ref x :: st) fs M Q := R_aload_n hbX8_takesAll rfl dX8_takesAll_7
theorem dX8_takesAll_8 : decode cX8_takesAll 8 = .ok (.getfield 17, 3) := by decide +kernel
theorem aX8_takesAll_8 {l0 l1 : Value} {st : List Value} {fs : List Fm} {σ : Mem} {Q : List va_E → Option Value → Prop} : Rn mX8_takesAll 8 [l0, l1] (.ref (ad 29 0) :: st) fs (enc σ) Q ↔ Rn mX8_takesAll 11 [l0, l1] (.ref (ad 31 0) :: st) fs (enc σ) Q := R_get hbX8_takesAll hoX8_takesAll fl_8_17 (gf_8_3 (by decide) σ) dX8_takesAll_8
theorem dX8_takesAll_11 : decode cX8_takesAll 11 = .ok (.iload_n 1, 1) := by decide +kernel
theorem aX8_takesAll_11 {x : Int32} {l0 : Value} {st : List Value} {fs : List Fm} {M : List va_E} {Q : List va_E → Option Value → Prop} : Rn mX8_takesAll 11 [l0, .int x] st fs M Q ↔ Rn mX8_takesAll 12 [l0, .int x] (.int x :: st) fs M Q := R_iload_n hbX8_takesAll rfl dX8_takesAll_11
theorem dX8_takesAll_12 : decode cX8_takesAll 12 = .ok (.aload_n 0, 1) := by decide +kernel
theorem aX8_takesAll_12 {x : Nat} {l1 : Value} {st : List Value} {fs : List Fm} {M : List va_E} {Q : List va_E → Option Value → Prop} : Rn mX8_takesAll 12 [.ref x, l1] st fs M Q ↔ Rn mX8_takesAll 13 [.ref x, l1] (.ref x :: st) fs M Q := R_aload_n hbX8_takesAll rfl dX8_takesAll_12
theorem dX8_takesAll_13 : decode cX8_takesAll 13 = .ok (.getfield 35, 3) := by decide +kernel
theorem aX8_takesAll_13 {l0 l1 : Value} {st : List Value} {fs : List Fm} {σ : Mem} {Q : List va_E → Option Value → Prop} : Rn mX8_takesAll 13 [l0, l1] (.ref (ad 29 0) :: st) fs (enc σ) Q ↔ Rn mX8_takesAll 16 [l0, l1] (.ref (ad 37 0) :: st) fs (enc σ) Q := R_get hbX8_takesAll hoX8_takesAll fl_8_35 (gf_8_9 (by decide) σ) dX8_takesAll_13
theorem dX8_takesAll_16 : decode cX8_takesAll 16 = .ok (.iload_n 1, 1) := by decide +kernel
theorem aX8_takesAll_16 {x : Int32} {l0 : Value} {st : List Value} {fs : List Fm} {M : List va_E} {Q : List va_E → Option Value → Prop} : Rn mX8_takesAll 16 [l0, .int x] st fs M Q ↔ Rn mX8_takesAll 17 [l0, .int x] (.int x :: st) fs M Q := R_iload_n hbX8_takesAll rfl dX8_takesAll_16
theorem dX8_takesAll_17 : decode cX8_takesAll 17 = .ok (.iaload, 1) := by decide +kernel
theorem aX8_takesAll_17 {k i : Nat} {j : Int32} (ht : aT k = 0) (hi : i < cnt k) {l0 l1 : Value} {st : List Value} {fs : List Fm} {σ : Mem} {Q : List va_E → Option Value → Prop} : Rn mX8_takesAll 17 [l0, l1] (.int j :: .ref (ad k i) :: st) fs (enc σ) Q ↔ vp_in j (aN k) ∧ Rn mX8_takesAll 18 [l0, l1] (.int (σ k i j.toNatClampNeg) :: st) fs (enc σ) Q := R_iaload hbX8_takesAll ht hi dX8_takesAll_17
theorem dX8_takesAll_18 : decode cX8_takesAll 18 = .ok (.iastore, 1) := by decide +kernel
theorem aX8_takesAll_18 {k i : Nat} {j x : Int32} (ht : aT k = 0) (hi : i < cnt k) {l0 l1 : Value} {st : List Value} {fs : List Fm} {σ : Mem} {Q : List va_E → Option Value → Prop} : Rn mX8_takesAll 18 [l0, l1] (.int x :: .int j :: .ref (ad k i) :: st) fs (enc σ) Q ↔ vp_in j (aN k) ∧ Rn mX8_takesAll 19 [l0, l1] st fs (enc (upS σ k i j.toNatClampNeg x)) Q := R_iastore hbX8_takesAll ht hi dX8_takesAll_18
theorem dX8_takesAll_19 : decode cX8_takesAll 19 = .ok (.iinc 1 1, 3) := by decide +kernel
theorem aX8_takesAll_19 {x : Int32} {l0 : Value} {st : List Value} {fs : List Fm} {M : List va_E} {Q : List va_E → Option Value → Prop} : Rn mX8_takesAll 19 [l0, .int x] st fs M Q ↔ Rn mX8_takesAll 22 [l0, .int (x + 1)] st fs M Q := R_iinc hbX8_takesAll hmX8_takesAll hlX8_takesAll (by decide) (by decide) rfl (by decide) rfl dX8_takesAll_19
theorem dX8_takesAll_22 : decode cX8_takesAll 22 = .ok (.goto (-20), 3) := by decide +kernel
theorem aX8_takesAll_22 {l0 l1 : Value} {st : List Value} {fs : List Fm} {M : List va_E} {Q : List va_E → Option Value → Prop} : Rn mX8_takesAll 22 [l0, l1] st fs M Q ↔ Rn mX8_takesAll 2 [l0, l1] st fs M Q := R_goto hbX8_takesAll rfl dX8_takesAll_22
theorem dX8_takesAll_25 : decode cX8_takesAll 25 = .ok (.iconst 0, 1) := by decide +kernel
theorem aX8_takesAll_25 {l0 l1 : Value} {st : List Value} {fs : List Fm} {M : List va_E} {Q : List va_E → Option Value → Prop} : Rn mX8_takesAll 25 [l0, l1] st fs M Q ↔ Rn mX8_takesAll 26 [l0, l1] (.int 0 :: st) fs M Q := R_iconst hbX8_takesAll (by decide) dX8_takesAll_25
theorem dX8_takesAll_26 : decode cX8_takesAll 26 = .ok (.istore_n 1, 1) := by decide +kernel
theorem aX8_takesAll_26 {x : Int32} {l0 l1 : Value} {st : List Value} {fs : List Fm} {M : List va_E} {Q : List va_E → Option Value → Prop} : Rn mX8_takesAll 26 [l0, l1] (.int x :: st) fs M Q ↔ Rn mX8_takesAll 27 [l0, .int x] st fs M Q := R_istore_n hbX8_takesAll hmX8_takesAll hlX8_takesAll (by decide) (by decide) rfl dX8_takesAll_26
theorem dX8_takesAll_27 : decode cX8_takesAll 27 = .ok (.iload_n 1, 1) := by decide +kernel
theorem aX8_takesAll_27 {x : Int32} {l0 : Value} {st : List Value} {fs : List Fm} {M : List va_E} {Q : List va_E → Option Value → Prop} : Rn mX8_takesAll 27 [l0, .int x] st fs M Q ↔ Rn mX8_takesAll 28 [l0, .int x] (.int x :: st) fs M Q := R_iload_n hbX8_takesAll rfl dX8_takesAll_27
theorem dX8_takesAll_28 : decode cX8_takesAll 28 = .ok (.bipush 12, 2) := by decide +kernel
theorem aX8_takesAll_28 {l0 l1 : Value} {st : List Value} {fs : List Fm} {M : List va_E} {Q : List va_E → Option Value → Prop} : Rn mX8_takesAll 28 [l0, l1] st fs M Q ↔ Rn mX8_takesAll 30 [l0, l1] (.int 12 :: st) fs M Q := R_bipush hbX8_takesAll (by decide) dX8_takesAll_28
theorem dX8_takesAll_30 : decode cX8_takesAll 30 = .ok (.if_icmp .ge 21, 3) := by decide +kernel
theorem aX8_takesAll_30 {x y : Int32} {l0 l1 : Value} {st : List Value} {fs : List Fm} {M : List va_E} {Q : List va_E → Option Value → Prop} : Rn mX8_takesAll 30 [l0, l1] (.int y :: .int x :: st) fs M Q ↔ if y ≤ x then Rn mX8_takesAll 51 [l0, l1] st fs M Q else Rn mX8_takesAll 33 [l0, l1] st fs M Q := R_icge hbX8_takesAll rfl dX8_takesAll_30
theorem dX8_takesAll_33 : decode cX8_takesAll 33 = .ok (.aload_n 0, 1) := by decide +kernel
theorem aX8_takesAll_33 {x : Nat} {l1 : Value} {st : List Value} {fs : List Fm} {M : List va_E} {Q : List va_E → Option Value → Prop} : Rn mX8_takesAll 33 [.ref x, l1] st fs M Q ↔ Rn mX8_takesAll 34 [.ref x, l1] (.ref x :: st) fs M Q := R_aload_n hbX8_takesAll rfl dX8_takesAll_33
theorem dX8_takesAll_34 : decode cX8_takesAll 34 = .ok (.getfield 20, 3) := by decide +kernel
theorem aX8_takesAll_34 {l0 l1 : Value} {st : List Value} {fs : List Fm} {σ : Mem} {Q : List va_E → Option Value → Prop} : Rn mX8_takesAll 34 [l0, l1] (.ref (ad 29 0) :: st) fs (enc σ) Q ↔ Rn mX8_takesAll 37 [l0, l1] (.ref (ad 32 0) :: st) fs (enc σ) Q := R_get hbX8_takesAll hoX8_takesAll fl_8_20 (gf_8_4 (by decide) σ) dX8_takesAll_34
theorem dX8_takesAll_37 : decode cX8_takesAll 37 = .ok (.iload_n 1, 1) := by decide +kernel
theorem aX8_takesAll_37 {x : Int32} {l0 : Value} {st : List Value} {fs : List Fm} {M : List va_E} {Q : List va_E → Option Value → Prop} : Rn mX8_takesAll 37 [l0, .int x] st fs M Q ↔ Rn mX8_takesAll 38 [l0, .int x] (.int x :: st) fs M Q := R_iload_n hbX8_takesAll rfl dX8_takesAll_37
theorem dX8_takesAll_38 : decode cX8_takesAll 38 = .ok (.aload_n 0, 1) := by decide +kernel
theorem aX8_takesAll_38 {x : Nat} {l1 : Value} {st : List Value} {fs : List Fm} {M : List va_E} {Q : List va_E → Option Value → Prop} : Rn mX8_takesAll 38 [.ref x, l1] st fs M Q ↔ Rn mX8_takesAll 39 [.ref x, l1] (.ref x :: st) fs M Q := R_aload_n hbX8_takesAll rfl dX8_takesAll_38
theorem dX8_takesAll_39 : decode cX8_takesAll 39 = .ok (.getfield 38, 3) := by decide +kernel
theorem aX8_takesAll_39 {l0 l1 : Value} {st : List Value} {fs : List Fm} {σ : Mem} {Q : List va_E → Option Value → Prop} : Rn mX8_takesAll 39 [l0, l1] (.ref (ad 29 0) :: st) fs (enc σ) Q ↔ Rn mX8_takesAll 42 [l0, l1] (.ref (ad 38 0) :: st) fs (enc σ) Q := R_get hbX8_takesAll hoX8_takesAll fl_8_38 (gf_8_10 (by decide) σ) dX8_takesAll_39
theorem dX8_takesAll_42 : decode cX8_takesAll 42 = .ok (.iload_n 1, 1) := by decide +kernel
theorem aX8_takesAll_42 {x : Int32} {l0 : Value} {st : List Value} {fs : List Fm} {M : List va_E} {Q : List va_E → Option Value → Prop} : Rn mX8_takesAll 42 [l0, .int x] st fs M Q ↔ Rn mX8_takesAll 43 [l0, .int x] (.int x :: st) fs M Q := R_iload_n hbX8_takesAll rfl dX8_takesAll_42
theorem dX8_takesAll_43 : decode cX8_takesAll 43 = .ok (.iaload, 1) := by decide +kernel
theorem aX8_takesAll_43 {k i : Nat} {j : Int32} (ht : aT k = 0) (hi : i < cnt k) {l0 l1 : Value} {st : List Value} {fs : List Fm} {σ : Mem} {Q : List va_E → Option Value → Prop} : Rn mX8_takesAll 43 [l0, l1] (.int j :: .ref (ad k i) :: st) fs (enc σ) Q ↔ vp_in j (aN k) ∧ Rn mX8_takesAll 44 [l0, l1] (.int (σ k i j.toNatClampNeg) :: st) fs (enc σ) Q := R_iaload hbX8_takesAll ht hi dX8_takesAll_43
theorem dX8_takesAll_44 : decode cX8_takesAll 44 = .ok (.iastore, 1) := by decide +kernel
theorem aX8_takesAll_44 {k i : Nat} {j x : Int32} (ht : aT k = 0) (hi : i < cnt k) {l0 l1 : Value} {st : List Value} {fs : List Fm} {σ : Mem} {Q : List va_E → Option Value → Prop} : Rn mX8_takesAll 44 [l0, l1] (.int x :: .int j :: .ref (ad k i) :: st) fs (enc σ) Q ↔ vp_in j (aN k) ∧ Rn mX8_takesAll 45 [l0, l1] st fs (enc (upS σ k i j.toNatClampNeg x)) Q := R_iastore hbX8_takesAll ht hi dX8_takesAll_44
theorem dX8_takesAll_45 : decode cX8_takesAll 45 = .ok (.iinc 1 1, 3) := by decide +kernel
theorem aX8_takesAll_45 {x : Int32} {l0 : Value} {st : List Value} {fs : List Fm} {M : List va_E} {Q : List va_E → Option Value → Prop} : Rn mX8_takesAll 45 [l0, .int x] st fs M Q ↔ Rn mX8_takesAll 48 [l0, .int (x + 1)] st fs M Q := R_iinc hbX8_takesAll hmX8_takesAll hlX8_takesAll (by decide) (by decide) rfl (by decide) rfl dX8_takesAll_45
theorem dX8_takesAll_48 : decode cX8_takesAll 48 = .ok (.goto (-21), 3) := by decide +kernel
theorem aX8_takesAll_48 {l0 l1 : Value} {st : List Value} {fs : List Fm} {M : List va_E} {Q : List va_E → Option Value → Prop} : Rn mX8_takesAll 48 [l0, l1] st fs M Q ↔ Rn mX8_takesAll 27 [l0, l1] st fs M Q := R_goto hbX8_takesAll rfl dX8_takesAll_48
theorem dX8_takesAll_51 : decode cX8_takesAll 51 = .ok (.iconst 0, 1) := by decide +kernel
theorem aX8_takesAll_51 {l0 l1 : Value} {st : List Value} {fs : List Fm} {M : List va_E} {Q : List va_E → Option Value → Prop} : Rn mX8_takesAll 51 [l0, l1] st fs M Q ↔ Rn mX8_takesAll 52 [l0, l1] (.int 0 :: st) fs M Q := R_iconst hbX8_takesAll (by decide) dX8_takesAll_51
theorem dX8_takesAll_52 : decode cX8_takesAll 52 = .ok (.istore_n 1, 1) := by decide +kernel
theorem aX8_takesAll_52 {x : Int32} {l0 l1 : Value} {st : List Value} {fs : List Fm} {M : List va_E} {Q : List va_E → Option Value → Prop} : Rn mX8_takesAll 52 [l0, l1] (.int x :: st) fs M Q ↔ Rn mX8_takesAll 53 [l0, .int x] st fs M Q := R_istore_n hbX8_takesAll hmX8_takesAll hlX8_takesAll (by decide) (by decide) rfl dX8_takesAll_52
theorem dX8_takesAll_53 : decode cX8_takesAll 53 = .ok (.iload_n 1, 1) := by decide +kernel
theorem aX8_takesAll_53 {x : Int32} {l0 : Value} {st : List Value} {fs : List Fm} {M : List va_E} {Q : List va_E → Option Value → Prop} : Rn mX8_takesAll 53 [l0, .int x] st fs M Q ↔ Rn mX8_takesAll 54 [l0, .int x] (.int x :: st) fs M Q := R_iload_n hbX8_takesAll rfl dX8_takesAll_53
theorem dX8_takesAll_54 : decode cX8_takesAll 54 = .ok (.bipush 99, 2) := by decide +kernel
theorem aX8_takesAll_54 {l0 l1 : Value} {st : List Value} {fs : List Fm} {M : List va_E} {Q : List va_E → Option Value → Prop} : Rn mX8_takesAll 54 [l0, l1] st fs M Q ↔ Rn mX8_takesAll 56 [l0, l1] (.int 99 :: st) fs M Q := R_bipush hbX8_takesAll (by decide) dX8_takesAll_54
theorem dX8_takesAll_56 : decode cX8_takesAll 56 = .ok (.if_icmp .ge 16, 3) := by decide +kernel
theorem aX8_takesAll_56 {x y : Int32} {l0 l1 : Value} {st : List Value} {fs : List Fm} {M : List va_E} {Q : List va_E → Option Value → Prop} : Rn mX8_takesAll 56 [l0, l1] (.int y :: .int x :: st) fs M Q ↔ if y ≤ x then Rn mX8_takesAll 72 [l0, l1] st fs M Q else Rn mX8_takesAll 59 [l0, l1] st fs M Q := R_icge hbX8_takesAll rfl dX8_takesAll_56
theorem dX8_takesAll_59 : decode cX8_takesAll 59 = .ok (.aload_n 0, 1) := by decide +kernel
theorem aX8_takesAll_59 {x : Nat} {l1 : Value} {st : List Value} {fs : List Fm} {M : List va_E} {Q : List va_E → Option Value → Prop} : Rn mX8_takesAll 59 [.ref x, l1] st fs M Q ↔ Rn mX8_takesAll 60 [.ref x, l1] (.ref x :: st) fs M Q := R_aload_n hbX8_takesAll rfl dX8_takesAll_59
theorem dX8_takesAll_60 : decode cX8_takesAll 60 = .ok (.getfield 53, 3) := by decide +kernel
theorem aX8_takesAll_60 {l0 l1 : Value} {st : List Value} {fs : List Fm} {σ : Mem} {Q : List va_E → Option Value → Prop} : Rn mX8_takesAll 60 [l0, l1] (.ref (ad 29 0) :: st) fs (enc σ) Q ↔ Rn mX8_takesAll 63 [l0, l1] (.ref (ad 43 0) :: st) fs (enc σ) Q := R_get hbX8_takesAll hoX8_takesAll fl_8_53 (gf_8_15 (by decide) σ) dX8_takesAll_60
theorem dX8_takesAll_63 : decode cX8_takesAll 63 = .ok (.iload_n 1, 1) := by decide +kernel
theorem aX8_takesAll_63 {x : Int32} {l0 : Value} {st : List Value} {fs : List Fm} {M : List va_E} {Q : List va_E → Option Value → Prop} : Rn mX8_takesAll 63 [l0, .int x] st fs M Q ↔ Rn mX8_takesAll 64 [l0, .int x] (.int x :: st) fs M Q := R_iload_n hbX8_takesAll rfl dX8_takesAll_63
theorem dX8_takesAll_64 : decode cX8_takesAll 64 = .ok (.iconst 0, 1) := by decide +kernel
theorem aX8_takesAll_64 {l0 l1 : Value} {st : List Value} {fs : List Fm} {M : List va_E} {Q : List va_E → Option Value → Prop} : Rn mX8_takesAll 64 [l0, l1] st fs M Q ↔ Rn mX8_takesAll 65 [l0, l1] (.int 0 :: st) fs M Q := R_iconst hbX8_takesAll (by decide) dX8_takesAll_64
theorem dX8_takesAll_65 : decode cX8_takesAll 65 = .ok (.iastore, 1) := by decide +kernel
theorem aX8_takesAll_65 {k i : Nat} {j x : Int32} (ht : aT k = 0) (hi : i < cnt k) {l0 l1 : Value} {st : List Value} {fs : List Fm} {σ : Mem} {Q : List va_E → Option Value → Prop} : Rn mX8_takesAll 65 [l0, l1] (.int x :: .int j :: .ref (ad k i) :: st) fs (enc σ) Q ↔ vp_in j (aN k) ∧ Rn mX8_takesAll 66 [l0, l1] st fs (enc (upS σ k i j.toNatClampNeg x)) Q := R_iastore hbX8_takesAll ht hi dX8_takesAll_65
theorem dX8_takesAll_66 : decode cX8_takesAll 66 = .ok (.iinc 1 1, 3) := by decide +kernel
theorem aX8_takesAll_66 {x : Int32} {l0 : Value} {st : List Value} {fs : List Fm} {M : List va_E} {Q : List va_E → Option Value → Prop} : Rn mX8_takesAll 66 [l0, .int x] st fs M Q ↔ Rn mX8_takesAll 69 [l0, .int (x + 1)] st fs M Q := R_iinc hbX8_takesAll hmX8_takesAll hlX8_takesAll (by decide) (by decide) rfl (by decide) rfl dX8_takesAll_66
theorem dX8_takesAll_69 : decode cX8_takesAll 69 = .ok (.goto (-16), 3) := by decide +kernel
theorem aX8_takesAll_69 {l0 l1 : Value} {st : List Value} {fs : List Fm} {M : List va_E} {Q : List va_E → Option Value → Prop} : Rn mX8_takesAll 69 [l0, l1] st fs M Q ↔ Rn mX8_takesAll 53 [l0, l1] st fs M Q := R_goto hbX8_takesAll rfl dX8_takesAll_69
theorem dX8_takesAll_72 : decode cX8_takesAll 72 = .ok (.iconst 0, 1) := by decide +kernel
theorem aX8_takesAll_72 {l0 l1 : Value} {st : List Value} {fs : List Fm} {M : List va_E} {Q : List va_E → Option Value → Prop} : Rn mX8_takesAll 72 [l0, l1] st fs M Q ↔ Rn mX8_takesAll 73 [l0, l1] (.int 0 :: st) fs M Q := R_iconst hbX8_takesAll (by decide) dX8_takesAll_72
theorem dX8_takesAll_73 : decode cX8_takesAll 73 = .ok (.istore_n 1, 1) := by decide +kernel
theorem aX8_takesAll_73 {x : Int32} {l0 l1 : Value} {st : List Value} {fs : List Fm} {M : List va_E} {Q : List va_E → Option Value → Prop} : Rn mX8_takesAll 73 [l0, l1] (.int x :: st) fs M Q ↔ Rn mX8_takesAll 74 [l0, .int x] st fs M Q := R_istore_n hbX8_takesAll hmX8_takesAll hlX8_takesAll (by decide) (by decide) rfl dX8_takesAll_73
theorem dX8_takesAll_74 : decode cX8_takesAll 74 = .ok (.iload_n 1, 1) := by decide +kernel
theorem aX8_takesAll_74 {x : Int32} {l0 : Value} {st : List Value} {fs : List Fm} {M : List va_E} {Q : List va_E → Option Value → Prop} : Rn mX8_takesAll 74 [l0, .int x] st fs M Q ↔ Rn mX8_takesAll 75 [l0, .int x] (.int x :: st) fs M Q := R_iload_n hbX8_takesAll rfl dX8_takesAll_74
theorem dX8_takesAll_75 : decode cX8_takesAll 75 = .ok (.bipush 7, 2) := by decide +kernel
theorem aX8_takesAll_75 {l0 l1 : Value} {st : List Value} {fs : List Fm} {M : List va_E} {Q : List va_E → Option Value → Prop} : Rn mX8_takesAll 75 [l0, l1] st fs M Q ↔ Rn mX8_takesAll 77 [l0, l1] (.int 7 :: st) fs M Q := R_bipush hbX8_takesAll (by decide) dX8_takesAll_75
theorem dX8_takesAll_77 : decode cX8_takesAll 77 = .ok (.if_icmp .ge 130, 3) := by decide +kernel
theorem aX8_takesAll_77 {x y : Int32} {l0 l1 : Value} {st : List Value} {fs : List Fm} {M : List va_E} {Q : List va_E → Option Value → Prop} : Rn mX8_takesAll 77 [l0, l1] (.int y :: .int x :: st) fs M Q ↔ if y ≤ x then Rn mX8_takesAll 207 [l0, l1] st fs M Q else Rn mX8_takesAll 80 [l0, l1] st fs M Q := R_icge hbX8_takesAll rfl dX8_takesAll_77
theorem dX8_takesAll_80 : decode cX8_takesAll 80 = .ok (.aload_n 0, 1) := by decide +kernel
theorem aX8_takesAll_80 {x : Nat} {l1 : Value} {st : List Value} {fs : List Fm} {M : List va_E} {Q : List va_E → Option Value → Prop} : Rn mX8_takesAll 80 [.ref x, l1] st fs M Q ↔ Rn mX8_takesAll 81 [.ref x, l1] (.ref x :: st) fs M Q := R_aload_n hbX8_takesAll rfl dX8_takesAll_80
theorem dX8_takesAll_81 : decode cX8_takesAll 81 = .ok (.getfield 23, 3) := by decide +kernel
theorem aX8_takesAll_81 {l0 l1 : Value} {st : List Value} {fs : List Fm} {σ : Mem} {Q : List va_E → Option Value → Prop} : Rn mX8_takesAll 81 [l0, l1] (.ref (ad 29 0) :: st) fs (enc σ) Q ↔ Rn mX8_takesAll 84 [l0, l1] (.ref (ad 33 0) :: st) fs (enc σ) Q := R_get hbX8_takesAll hoX8_takesAll fl_8_23 (gf_8_5 (by decide) σ) dX8_takesAll_81
theorem dX8_takesAll_84 : decode cX8_takesAll 84 = .ok (.iload_n 1, 1) := by decide +kernel
theorem aX8_takesAll_84 {x : Int32} {l0 : Value} {st : List Value} {fs : List Fm} {M : List va_E} {Q : List va_E → Option Value → Prop} : Rn mX8_takesAll 84 [l0, .int x] st fs M Q ↔ Rn mX8_takesAll 85 [l0, .int x] (.int x :: st) fs M Q := R_iload_n hbX8_takesAll rfl dX8_takesAll_84
theorem dX8_takesAll_85 : decode cX8_takesAll 85 = .ok (.aload_n 0, 1) := by decide +kernel
theorem aX8_takesAll_85 {x : Nat} {l1 : Value} {st : List Value} {fs : List Fm} {M : List va_E} {Q : List va_E → Option Value → Prop} : Rn mX8_takesAll 85 [.ref x, l1] st fs M Q ↔ Rn mX8_takesAll 86 [.ref x, l1] (.ref x :: st) fs M Q := R_aload_n hbX8_takesAll rfl dX8_takesAll_85
theorem dX8_takesAll_86 : decode cX8_takesAll 86 = .ok (.getfield 41, 3) := by decide +kernel
theorem aX8_takesAll_86 {l0 l1 : Value} {st : List Value} {fs : List Fm} {σ : Mem} {Q : List va_E → Option Value → Prop} : Rn mX8_takesAll 86 [l0, l1] (.ref (ad 29 0) :: st) fs (enc σ) Q ↔ Rn mX8_takesAll 89 [l0, l1] (.ref (ad 39 0) :: st) fs (enc σ) Q := R_get hbX8_takesAll hoX8_takesAll fl_8_41 (gf_8_11 (by decide) σ) dX8_takesAll_86
theorem dX8_takesAll_89 : decode cX8_takesAll 89 = .ok (.iload_n 1, 1) := by decide +kernel
theorem aX8_takesAll_89 {x : Int32} {l0 : Value} {st : List Value} {fs : List Fm} {M : List va_E} {Q : List va_E → Option Value → Prop} : Rn mX8_takesAll 89 [l0, .int x] st fs M Q ↔ Rn mX8_takesAll 90 [l0, .int x] (.int x :: st) fs M Q := R_iload_n hbX8_takesAll rfl dX8_takesAll_89
theorem dX8_takesAll_90 : decode cX8_takesAll 90 = .ok (.iaload, 1) := by decide +kernel
theorem aX8_takesAll_90 {k i : Nat} {j : Int32} (ht : aT k = 0) (hi : i < cnt k) {l0 l1 : Value} {st : List Value} {fs : List Fm} {σ : Mem} {Q : List va_E → Option Value → Prop} : Rn mX8_takesAll 90 [l0, l1] (.int j :: .ref (ad k i) :: st) fs (enc σ) Q ↔ vp_in j (aN k) ∧ Rn mX8_takesAll 91 [l0, l1] (.int (σ k i j.toNatClampNeg) :: st) fs (enc σ) Q := R_iaload hbX8_takesAll ht hi dX8_takesAll_90
theorem dX8_takesAll_91 : decode cX8_takesAll 91 = .ok (.iastore, 1) := by decide +kernel
theorem aX8_takesAll_91 {k i : Nat} {j x : Int32} (ht : aT k = 0) (hi : i < cnt k) {l0 l1 : Value} {st : List Value} {fs : List Fm} {σ : Mem} {Q : List va_E → Option Value → Prop} : Rn mX8_takesAll 91 [l0, l1] (.int x :: .int j :: .ref (ad k i) :: st) fs (enc σ) Q ↔ vp_in j (aN k) ∧ Rn mX8_takesAll 92 [l0, l1] st fs (enc (upS σ k i j.toNatClampNeg x)) Q := R_iastore hbX8_takesAll ht hi dX8_takesAll_91
theorem dX8_takesAll_92 : decode cX8_takesAll 92 = .ok (.aload_n 0, 1) := by decide +kernel
theorem aX8_takesAll_92 {x : Nat} {l1 : Value} {st : List Value} {fs : List Fm} {M : List va_E} {Q : List va_E → Option Value → Prop} : Rn mX8_takesAll 92 [.ref x, l1] st fs M Q ↔ Rn mX8_takesAll 93 [.ref x, l1] (.ref x :: st) fs M Q := R_aload_n hbX8_takesAll rfl dX8_takesAll_92
theorem dX8_takesAll_93 : decode cX8_takesAll 93 = .ok (.getfield 26, 3) := by decide +kernel
theorem aX8_takesAll_93 {l0 l1 : Value} {st : List Value} {fs : List Fm} {σ : Mem} {Q : List va_E → Option Value → Prop} : Rn mX8_takesAll 93 [l0, l1] (.ref (ad 29 0) :: st) fs (enc σ) Q ↔ Rn mX8_takesAll 96 [l0, l1] (.ref (ad 34 0) :: st) fs (enc σ) Q := R_get hbX8_takesAll hoX8_takesAll fl_8_26 (gf_8_6 (by decide) σ) dX8_takesAll_93
theorem dX8_takesAll_96 : decode cX8_takesAll 96 = .ok (.iload_n 1, 1) := by decide +kernel
theorem aX8_takesAll_96 {x : Int32} {l0 : Value} {st : List Value} {fs : List Fm} {M : List va_E} {Q : List va_E → Option Value → Prop} : Rn mX8_takesAll 96 [l0, .int x] st fs M Q ↔ Rn mX8_takesAll 97 [l0, .int x] (.int x :: st) fs M Q := R_iload_n hbX8_takesAll rfl dX8_takesAll_96
theorem dX8_takesAll_97 : decode cX8_takesAll 97 = .ok (.aload_n 0, 1) := by decide +kernel
theorem aX8_takesAll_97 {x : Nat} {l1 : Value} {st : List Value} {fs : List Fm} {M : List va_E} {Q : List va_E → Option Value → Prop} : Rn mX8_takesAll 97 [.ref x, l1] st fs M Q ↔ Rn mX8_takesAll 98 [.ref x, l1] (.ref x :: st) fs M Q := R_aload_n hbX8_takesAll rfl dX8_takesAll_97
theorem dX8_takesAll_98 : decode cX8_takesAll 98 = .ok (.getfield 44, 3) := by decide +kernel
theorem aX8_takesAll_98 {l0 l1 : Value} {st : List Value} {fs : List Fm} {σ : Mem} {Q : List va_E → Option Value → Prop} : Rn mX8_takesAll 98 [l0, l1] (.ref (ad 29 0) :: st) fs (enc σ) Q ↔ Rn mX8_takesAll 101 [l0, l1] (.ref (ad 40 0) :: st) fs (enc σ) Q := R_get hbX8_takesAll hoX8_takesAll fl_8_44 (gf_8_12 (by decide) σ) dX8_takesAll_98
theorem dX8_takesAll_101 : decode cX8_takesAll 101 = .ok (.iload_n 1, 1) := by decide +kernel
theorem aX8_takesAll_101 {x : Int32} {l0 : Value} {st : List Value} {fs : List Fm} {M : List va_E} {Q : List va_E → Option Value → Prop} : Rn mX8_takesAll 101 [l0, .int x] st fs M Q ↔ Rn mX8_takesAll 102 [l0, .int x] (.int x :: st) fs M Q := R_iload_n hbX8_takesAll rfl dX8_takesAll_101
theorem dX8_takesAll_102 : decode cX8_takesAll 102 = .ok (.iaload, 1) := by decide +kernel
theorem aX8_takesAll_102 {k i : Nat} {j : Int32} (ht : aT k = 0) (hi : i < cnt k) {l0 l1 : Value} {st : List Value} {fs : List Fm} {σ : Mem} {Q : List va_E → Option Value → Prop} : Rn mX8_takesAll 102 [l0, l1] (.int j :: .ref (ad k i) :: st) fs (enc σ) Q ↔ vp_in j (aN k) ∧ Rn mX8_takesAll 103 [l0, l1] (.int (σ k i j.toNatClampNeg) :: st) fs (enc σ) Q := R_iaload hbX8_takesAll ht hi dX8_takesAll_102
theorem dX8_takesAll_103 : decode cX8_takesAll 103 = .ok (.iastore, 1) := by decide +kernel
theorem aX8_takesAll_103 {k i : Nat} {j x : Int32} (ht : aT k = 0) (hi : i < cnt k) {l0 l1 : Value} {st : List Value} {fs : List Fm} {σ : Mem} {Q : List va_E → Option Value → Prop} : Rn mX8_takesAll 103 [l0, l1] (.int x :: .int j :: .ref (ad k i) :: st) fs (enc σ) Q ↔ vp_in j (aN k) ∧ Rn mX8_takesAll 104 [l0, l1] st fs (enc (upS σ k i j.toNatClampNeg x)) Q := R_iastore hbX8_takesAll ht hi dX8_takesAll_103
theorem dX8_takesAll_104 : decode cX8_takesAll 104 = .ok (.aload_n 0, 1) := by decide +kernel
theorem aX8_takesAll_104 {x : Nat} {l1 : Value} {st : List Value} {fs : List Fm} {M : List va_E} {Q : List va_E → Option Value → Prop} : Rn mX8_takesAll 104 [.ref x, l1] st fs M Q ↔ Rn mX8_takesAll 105 [.ref x, l1] (.ref x :: st) fs M Q := R_aload_n hbX8_takesAll rfl dX8_takesAll_104
theorem dX8_takesAll_105 : decode cX8_takesAll 105 = .ok (.getfield 29, 3) := by decide +kernel
theorem aX8_takesAll_105 {l0 l1 : Value} {st : List Value} {fs : List Fm} {σ : Mem} {Q : List va_E → Option Value → Prop} : Rn mX8_takesAll 105 [l0, l1] (.ref (ad 29 0) :: st) fs (enc σ) Q ↔ Rn mX8_takesAll 108 [l0, l1] (.ref (ad 35 0) :: st) fs (enc σ) Q := R_get hbX8_takesAll hoX8_takesAll fl_8_29 (gf_8_7 (by decide) σ) dX8_takesAll_105
theorem dX8_takesAll_108 : decode cX8_takesAll 108 = .ok (.iload_n 1, 1) := by decide +kernel
theorem aX8_takesAll_108 {x : Int32} {l0 : Value} {st : List Value} {fs : List Fm} {M : List va_E} {Q : List va_E → Option Value → Prop} : Rn mX8_takesAll 108 [l0, .int x] st fs M Q ↔ Rn mX8_takesAll 109 [l0, .int x] (.int x :: st) fs M Q := R_iload_n hbX8_takesAll rfl dX8_takesAll_108
theorem dX8_takesAll_109 : decode cX8_takesAll 109 = .ok (.aload_n 0, 1) := by decide +kernel
theorem aX8_takesAll_109 {x : Nat} {l1 : Value} {st : List Value} {fs : List Fm} {M : List va_E} {Q : List va_E → Option Value → Prop} : Rn mX8_takesAll 109 [.ref x, l1] st fs M Q ↔ Rn mX8_takesAll 110 [.ref x, l1] (.ref x :: st) fs M Q := R_aload_n hbX8_takesAll rfl dX8_takesAll_109
theorem dX8_takesAll_110 : decode cX8_takesAll 110 = .ok (.getfield 47, 3) := by decide +kernel
theorem aX8_takesAll_110 {l0 l1 : Value} {st : List Value} {fs : List Fm} {σ : Mem} {Q : List va_E → Option Value → Prop} : Rn mX8_takesAll 110 [l0, l1] (.ref (ad 29 0) :: st) fs (enc σ) Q ↔ Rn mX8_takesAll 113 [l0, l1] (.ref (ad 41 0) :: st) fs (enc σ) Q := R_get hbX8_takesAll hoX8_takesAll fl_8_47 (gf_8_13 (by decide) σ) dX8_takesAll_110
theorem dX8_takesAll_113 : decode cX8_takesAll 113 = .ok (.iload_n 1, 1) := by decide +kernel
theorem aX8_takesAll_113 {x : Int32} {l0 : Value} {st : List Value} {fs : List Fm} {M : List va_E} {Q : List va_E → Option Value → Prop} : Rn mX8_takesAll 113 [l0, .int x] st fs M Q ↔ Rn mX8_takesAll 114 [l0, .int x] (.int x :: st) fs M Q := R_iload_n hbX8_takesAll rfl dX8_takesAll_113
theorem dX8_takesAll_114 : decode cX8_takesAll 114 = .ok (.iaload, 1) := by decide +kernel
theorem aX8_takesAll_114 {k i : Nat} {j : Int32} (ht : aT k = 0) (hi : i < cnt k) {l0 l1 : Value} {st : List Value} {fs : List Fm} {σ : Mem} {Q : List va_E → Option Value → Prop} : Rn mX8_takesAll 114 [l0, l1] (.int j :: .ref (ad k i) :: st) fs (enc σ) Q ↔ vp_in j (aN k) ∧ Rn mX8_takesAll 115 [l0, l1] (.int (σ k i j.toNatClampNeg) :: st) fs (enc σ) Q := R_iaload hbX8_takesAll ht hi dX8_takesAll_114
theorem dX8_takesAll_115 : decode cX8_takesAll 115 = .ok (.iastore, 1) := by decide +kernel
theorem aX8_takesAll_115 {k i : Nat} {j x : Int32} (ht : aT k = 0) (hi : i < cnt k) {l0 l1 : Value} {st : List Value} {fs : List Fm} {σ : Mem} {Q : List va_E → Option Value → Prop} : Rn mX8_takesAll 115 [l0, l1] (.int x :: .int j :: .ref (ad k i) :: st) fs (enc σ) Q ↔ vp_in j (aN k) ∧ Rn mX8_takesAll 116 [l0, l1] st fs (enc (upS σ k i j.toNatClampNeg x)) Q := R_iastore hbX8_takesAll ht hi dX8_takesAll_115
theorem dX8_takesAll_116 : decode cX8_takesAll 116 = .ok (.aload_n 0, 1) := by decide +kernel
theorem aX8_takesAll_116 {x : Nat} {l1 : Value} {st : List Value} {fs : List Fm} {M : List va_E} {Q : List va_E → Option Value → Prop} : Rn mX8_takesAll 116 [.ref x, l1] st fs M Q ↔ Rn mX8_takesAll 117 [.ref x, l1] (.ref x :: st) fs M Q := R_aload_n hbX8_takesAll rfl dX8_takesAll_116
theorem dX8_takesAll_117 : decode cX8_takesAll 117 = .ok (.getfield 32, 3) := by decide +kernel
theorem aX8_takesAll_117 {l0 l1 : Value} {st : List Value} {fs : List Fm} {σ : Mem} {Q : List va_E → Option Value → Prop} : Rn mX8_takesAll 117 [l0, l1] (.ref (ad 29 0) :: st) fs (enc σ) Q ↔ Rn mX8_takesAll 120 [l0, l1] (.ref (ad 36 0) :: st) fs (enc σ) Q := R_get hbX8_takesAll hoX8_takesAll fl_8_32 (gf_8_8 (by decide) σ) dX8_takesAll_117
theorem dX8_takesAll_120 : decode cX8_takesAll 120 = .ok (.iload_n 1, 1) := by decide +kernel
theorem aX8_takesAll_120 {x : Int32} {l0 : Value} {st : List Value} {fs : List Fm} {M : List va_E} {Q : List va_E → Option Value → Prop} : Rn mX8_takesAll 120 [l0, .int x] st fs M Q ↔ Rn mX8_takesAll 121 [l0, .int x] (.int x :: st) fs M Q := R_iload_n hbX8_takesAll rfl dX8_takesAll_120
theorem dX8_takesAll_121 : decode cX8_takesAll 121 = .ok (.aload_n 0, 1) := by decide +kernel
theorem aX8_takesAll_121 {x : Nat} {l1 : Value} {st : List Value} {fs : List Fm} {M : List va_E} {Q : List va_E → Option Value → Prop} : Rn mX8_takesAll 121 [.ref x, l1] st fs M Q ↔ Rn mX8_takesAll 122 [.ref x, l1] (.ref x :: st) fs M Q := R_aload_n hbX8_takesAll rfl dX8_takesAll_121
theorem dX8_takesAll_122 : decode cX8_takesAll 122 = .ok (.getfield 50, 3) := by decide +kernel
theorem aX8_takesAll_122 {l0 l1 : Value} {st : List Value} {fs : List Fm} {σ : Mem} {Q : List va_E → Option Value → Prop} : Rn mX8_takesAll 122 [l0, l1] (.ref (ad 29 0) :: st) fs (enc σ) Q ↔ Rn mX8_takesAll 125 [l0, l1] (.ref (ad 42 0) :: st) fs (enc σ) Q := R_get hbX8_takesAll hoX8_takesAll fl_8_50 (gf_8_14 (by decide) σ) dX8_takesAll_122
theorem dX8_takesAll_125 : decode cX8_takesAll 125 = .ok (.iload_n 1, 1) := by decide +kernel
theorem aX8_takesAll_125 {x : Int32} {l0 : Value} {st : List Value} {fs : List Fm} {M : List va_E} {Q : List va_E → Option Value → Prop} : Rn mX8_takesAll 125 [l0, .int x] st fs M Q ↔ Rn mX8_takesAll 126 [l0, .int x] (.int x :: st) fs M Q := R_iload_n hbX8_takesAll rfl dX8_takesAll_125
theorem dX8_takesAll_126 : decode cX8_takesAll 126 = .ok (.iaload, 1) := by decide +kernel
theorem aX8_takesAll_126 {k i : Nat} {j : Int32} (ht : aT k = 0) (hi : i < cnt k) {l0 l1 : Value} {st : List Value} {fs : List Fm} {σ : Mem} {Q : List va_E → Option Value → Prop} : Rn mX8_takesAll 126 [l0, l1] (.int j :: .ref (ad k i) :: st) fs (enc σ) Q ↔ vp_in j (aN k) ∧ Rn mX8_takesAll 127 [l0, l1] (.int (σ k i j.toNatClampNeg) :: st) fs (enc σ) Q := R_iaload hbX8_takesAll ht hi dX8_takesAll_126
theorem dX8_takesAll_127 : decode cX8_takesAll 127 = .ok (.iastore, 1) := by decide +kernel
theorem aX8_takesAll_127 {k i : Nat} {j x : Int32} (ht : aT k = 0) (hi : i < cnt k) {l0 l1 : Value} {st : List Value} {fs : List Fm} {σ : Mem} {Q : List va_E → Option Value → Prop} : Rn mX8_takesAll 127 [l0, l1] (.int x :: .int j :: .ref (ad k i) :: st) fs (enc σ) Q ↔ vp_in j (aN k) ∧ Rn mX8_takesAll 128 [l0, l1] st fs (enc (upS σ k i j.toNatClampNeg x)) Q := R_iastore hbX8_takesAll ht hi dX8_takesAll_127
theorem dX8_takesAll_128 : decode cX8_takesAll 128 = .ok (.aload_n 0, 1) := by decide +kernel
theorem aX8_takesAll_128 {x : Nat} {l1 : Value} {st : List Value} {fs : List Fm} {M : List va_E} {Q : List va_E → Option Value → Prop} : Rn mX8_takesAll 128 [.ref x, l1] st fs M Q ↔ Rn mX8_takesAll 129 [.ref x, l1] (.ref x :: st) fs M Q := R_aload_n hbX8_takesAll rfl dX8_takesAll_128
theorem dX8_takesAll_129 : decode cX8_takesAll 129 = .ok (.getfield 53, 3) := by decide +kernel
theorem aX8_takesAll_129 {l0 l1 : Value} {st : List Value} {fs : List Fm} {σ : Mem} {Q : List va_E → Option Value → Prop} : Rn mX8_takesAll 129 [l0, l1] (.ref (ad 29 0) :: st) fs (enc σ) Q ↔ Rn mX8_takesAll 132 [l0, l1] (.ref (ad 43 0) :: st) fs (enc σ) Q := R_get hbX8_takesAll hoX8_takesAll fl_8_53 (gf_8_15 (by decide) σ) dX8_takesAll_129
theorem dX8_takesAll_132 : decode cX8_takesAll 132 = .ok (.bipush 64, 2) := by decide +kernel
theorem aX8_takesAll_132 {l0 l1 : Value} {st : List Value} {fs : List Fm} {M : List va_E} {Q : List va_E → Option Value → Prop} : Rn mX8_takesAll 132 [l0, l1] st fs M Q ↔ Rn mX8_takesAll 134 [l0, l1] (.int 64 :: st) fs M Q := R_bipush hbX8_takesAll (by decide) dX8_takesAll_132
theorem dX8_takesAll_134 : decode cX8_takesAll 134 = .ok (.iconst 5, 1) := by decide +kernel
theorem aX8_takesAll_134 {l0 l1 : Value} {st : List Value} {fs : List Fm} {M : List va_E} {Q : List va_E → Option Value → Prop} : Rn mX8_takesAll 134 [l0, l1] st fs M Q ↔ Rn mX8_takesAll 135 [l0, l1] (.int 5 :: st) fs M Q := R_iconst hbX8_takesAll (by decide) dX8_takesAll_134
theorem dX8_takesAll_135 : decode cX8_takesAll 135 = .ok (.iload_n 1, 1) := by decide +kernel
theorem aX8_takesAll_135 {x : Int32} {l0 : Value} {st : List Value} {fs : List Fm} {M : List va_E} {Q : List va_E → Option Value → Prop} : Rn mX8_takesAll 135 [l0, .int x] st fs M Q ↔ Rn mX8_takesAll 136 [l0, .int x] (.int x :: st) fs M Q := R_iload_n hbX8_takesAll rfl dX8_takesAll_135
theorem dX8_takesAll_136 : decode cX8_takesAll 136 = .ok (.imul, 1) := by decide +kernel
theorem aX8_takesAll_136 {x y : Int32} {l0 l1 : Value} {st : List Value} {fs : List Fm} {M : List va_E} {Q : List va_E → Option Value → Prop} : Rn mX8_takesAll 136 [l0, l1] (.int y :: .int x :: st) fs M Q ↔ Rn mX8_takesAll 137 [l0, l1] (.int (x * y) :: st) fs M Q := R_imul hbX8_takesAll dX8_takesAll_136
theorem dX8_takesAll_137 : decode cX8_takesAll 137 = .ok (.iadd, 1) := by decide +kernel
theorem aX8_takesAll_137 {x y : Int32} {l0 l1 : Value} {st : List Value} {fs : List Fm} {M : List va_E} {Q : List va_E → Option Value → Prop} : Rn mX8_takesAll 137 [l0, l1] (.int y :: .int x :: st) fs M Q ↔ Rn mX8_takesAll 138 [l0, l1] (.int (x + y) :: st) fs M Q := R_iadd hbX8_takesAll dX8_takesAll_137
theorem dX8_takesAll_138 : decode cX8_takesAll 138 = .ok (.aload_n 0, 1) := by decide +kernel
theorem aX8_takesAll_138 {x : Nat} {l1 : Value} {st : List Value} {fs : List Fm} {M : List va_E} {Q : List va_E → Option Value → Prop} : Rn mX8_takesAll 138 [.ref x, l1] st fs M Q ↔ Rn mX8_takesAll 139 [.ref x, l1] (.ref x :: st) fs M Q := R_aload_n hbX8_takesAll rfl dX8_takesAll_138
theorem dX8_takesAll_139 : decode cX8_takesAll 139 = .ok (.getfield 26, 3) := by decide +kernel
theorem aX8_takesAll_139 {l0 l1 : Value} {st : List Value} {fs : List Fm} {σ : Mem} {Q : List va_E → Option Value → Prop} : Rn mX8_takesAll 139 [l0, l1] (.ref (ad 29 0) :: st) fs (enc σ) Q ↔ Rn mX8_takesAll 142 [l0, l1] (.ref (ad 34 0) :: st) fs (enc σ) Q := R_get hbX8_takesAll hoX8_takesAll fl_8_26 (gf_8_6 (by decide) σ) dX8_takesAll_139
theorem dX8_takesAll_142 : decode cX8_takesAll 142 = .ok (.iload_n 1, 1) := by decide +kernel
theorem aX8_takesAll_142 {x : Int32} {l0 : Value} {st : List Value} {fs : List Fm} {M : List va_E} {Q : List va_E → Option Value → Prop} : Rn mX8_takesAll 142 [l0, .int x] st fs M Q ↔ Rn mX8_takesAll 143 [l0, .int x] (.int x :: st) fs M Q := R_iload_n hbX8_takesAll rfl dX8_takesAll_142
theorem dX8_takesAll_143 : decode cX8_takesAll 143 = .ok (.iaload, 1) := by decide +kernel
theorem aX8_takesAll_143 {k i : Nat} {j : Int32} (ht : aT k = 0) (hi : i < cnt k) {l0 l1 : Value} {st : List Value} {fs : List Fm} {σ : Mem} {Q : List va_E → Option Value → Prop} : Rn mX8_takesAll 143 [l0, l1] (.int j :: .ref (ad k i) :: st) fs (enc σ) Q ↔ vp_in j (aN k) ∧ Rn mX8_takesAll 144 [l0, l1] (.int (σ k i j.toNatClampNeg) :: st) fs (enc σ) Q := R_iaload hbX8_takesAll ht hi dX8_takesAll_143
theorem dX8_takesAll_144 : decode cX8_takesAll 144 = .ok (.iastore, 1) := by decide +kernel
theorem aX8_takesAll_144 {k i : Nat} {j x : Int32} (ht : aT k = 0) (hi : i < cnt k) {l0 l1 : Value} {st : List Value} {fs : List Fm} {σ : Mem} {Q : List va_E → Option Value → Prop} : Rn mX8_takesAll 144 [l0, l1] (.int x :: .int j :: .ref (ad k i) :: st) fs (enc σ) Q ↔ vp_in j (aN k) ∧ Rn mX8_takesAll 145 [l0, l1] st fs (enc (upS σ k i j.toNatClampNeg x)) Q := R_iastore hbX8_takesAll ht hi dX8_takesAll_144
theorem dX8_takesAll_145 : decode cX8_takesAll 145 = .ok (.aload_n 0, 1) := by decide +kernel
theorem aX8_takesAll_145 {x : Nat} {l1 : Value} {st : List Value} {fs : List Fm} {M : List va_E} {Q : List va_E → Option Value → Prop} : Rn mX8_takesAll 145 [.ref x, l1] st fs M Q ↔ Rn mX8_takesAll 146 [.ref x, l1] (.ref x :: st) fs M Q := R_aload_n hbX8_takesAll rfl dX8_takesAll_145
theorem dX8_takesAll_146 : decode cX8_takesAll 146 = .ok (.getfield 53, 3) := by decide +kernel
theorem aX8_takesAll_146 {l0 l1 : Value} {st : List Value} {fs : List Fm} {σ : Mem} {Q : List va_E → Option Value → Prop} : Rn mX8_takesAll 146 [l0, l1] (.ref (ad 29 0) :: st) fs (enc σ) Q ↔ Rn mX8_takesAll 149 [l0, l1] (.ref (ad 43 0) :: st) fs (enc σ) Q := R_get hbX8_takesAll hoX8_takesAll fl_8_53 (gf_8_15 (by decide) σ) dX8_takesAll_146
theorem dX8_takesAll_149 : decode cX8_takesAll 149 = .ok (.bipush 64, 2) := by decide +kernel
theorem aX8_takesAll_149 {l0 l1 : Value} {st : List Value} {fs : List Fm} {M : List va_E} {Q : List va_E → Option Value → Prop} : Rn mX8_takesAll 149 [l0, l1] st fs M Q ↔ Rn mX8_takesAll 151 [l0, l1] (.int 64 :: st) fs M Q := R_bipush hbX8_takesAll (by decide) dX8_takesAll_149
theorem dX8_takesAll_151 : decode cX8_takesAll 151 = .ok (.iconst 5, 1) := by decide +kernel
theorem aX8_takesAll_151 {l0 l1 : Value} {st : List Value} {fs : List Fm} {M : List va_E} {Q : List va_E → Option Value → Prop} : Rn mX8_takesAll 151 [l0, l1] st fs M Q ↔ Rn mX8_takesAll 152 [l0, l1] (.int 5 :: st) fs M Q := R_iconst hbX8_takesAll (by decide) dX8_takesAll_151
theorem dX8_takesAll_152 : decode cX8_takesAll 152 = .ok (.iload_n 1, 1) := by decide +kernel
theorem aX8_takesAll_152 {x : Int32} {l0 : Value} {st : List Value} {fs : List Fm} {M : List va_E} {Q : List va_E → Option Value → Prop} : Rn mX8_takesAll 152 [l0, .int x] st fs M Q ↔ Rn mX8_takesAll 153 [l0, .int x] (.int x :: st) fs M Q := R_iload_n hbX8_takesAll rfl dX8_takesAll_152
theorem dX8_takesAll_153 : decode cX8_takesAll 153 = .ok (.imul, 1) := by decide +kernel
theorem aX8_takesAll_153 {x y : Int32} {l0 l1 : Value} {st : List Value} {fs : List Fm} {M : List va_E} {Q : List va_E → Option Value → Prop} : Rn mX8_takesAll 153 [l0, l1] (.int y :: .int x :: st) fs M Q ↔ Rn mX8_takesAll 154 [l0, l1] (.int (x * y) :: st) fs M Q := R_imul hbX8_takesAll dX8_takesAll_153
theorem dX8_takesAll_154 : decode cX8_takesAll 154 = .ok (.iadd, 1) := by decide +kernel
theorem aX8_takesAll_154 {x y : Int32} {l0 l1 : Value} {st : List Value} {fs : List Fm} {M : List va_E} {Q : List va_E → Option Value → Prop} : Rn mX8_takesAll 154 [l0, l1] (.int y :: .int x :: st) fs M Q ↔ Rn mX8_takesAll 155 [l0, l1] (.int (x + y) :: st) fs M Q := R_iadd hbX8_takesAll dX8_takesAll_154
theorem dX8_takesAll_155 : decode cX8_takesAll 155 = .ok (.iconst 1, 1) := by decide +kernel
theorem aX8_takesAll_155 {l0 l1 : Value} {st : List Value} {fs : List Fm} {M : List va_E} {Q : List va_E → Option Value → Prop} : Rn mX8_takesAll 155 [l0, l1] st fs M Q ↔ Rn mX8_takesAll 156 [l0, l1] (.int 1 :: st) fs M Q := R_iconst hbX8_takesAll (by decide) dX8_takesAll_155
theorem dX8_takesAll_156 : decode cX8_takesAll 156 = .ok (.iadd, 1) := by decide +kernel
theorem aX8_takesAll_156 {x y : Int32} {l0 l1 : Value} {st : List Value} {fs : List Fm} {M : List va_E} {Q : List va_E → Option Value → Prop} : Rn mX8_takesAll 156 [l0, l1] (.int y :: .int x :: st) fs M Q ↔ Rn mX8_takesAll 157 [l0, l1] (.int (x + y) :: st) fs M Q := R_iadd hbX8_takesAll dX8_takesAll_156
theorem dX8_takesAll_157 : decode cX8_takesAll 157 = .ok (.iload_n 1, 1) := by decide +kernel
theorem aX8_takesAll_157 {x : Int32} {l0 : Value} {st : List Value} {fs : List Fm} {M : List va_E} {Q : List va_E → Option Value → Prop} : Rn mX8_takesAll 157 [l0, .int x] st fs M Q ↔ Rn mX8_takesAll 158 [l0, .int x] (.int x :: st) fs M Q := R_iload_n hbX8_takesAll rfl dX8_takesAll_157
theorem dX8_takesAll_158 : decode cX8_takesAll 158 = .ok (.aload_n 0, 1) := by decide +kernel
theorem aX8_takesAll_158 {x : Nat} {l1 : Value} {st : List Value} {fs : List Fm} {M : List va_E} {Q : List va_E → Option Value → Prop} : Rn mX8_takesAll 158 [.ref x, l1] st fs M Q ↔ Rn mX8_takesAll 159 [.ref x, l1] (.ref x :: st) fs M Q := R_aload_n hbX8_takesAll rfl dX8_takesAll_158
theorem dX8_takesAll_159 : decode cX8_takesAll 159 = .ok (.getfield 17, 3) := by decide +kernel
theorem aX8_takesAll_159 {l0 l1 : Value} {st : List Value} {fs : List Fm} {σ : Mem} {Q : List va_E → Option Value → Prop} : Rn mX8_takesAll 159 [l0, l1] (.ref (ad 29 0) :: st) fs (enc σ) Q ↔ Rn mX8_takesAll 162 [l0, l1] (.ref (ad 31 0) :: st) fs (enc σ) Q := R_get hbX8_takesAll hoX8_takesAll fl_8_17 (gf_8_3 (by decide) σ) dX8_takesAll_159
theorem dX8_takesAll_162 : decode cX8_takesAll 162 = .ok (.iconst 2, 1) := by decide +kernel
theorem aX8_takesAll_162 {l0 l1 : Value} {st : List Value} {fs : List Fm} {M : List va_E} {Q : List va_E → Option Value → Prop} : Rn mX8_takesAll 162 [l0, l1] st fs M Q ↔ Rn mX8_takesAll 163 [l0, l1] (.int 2 :: st) fs M Q := R_iconst hbX8_takesAll (by decide) dX8_takesAll_162
theorem dX8_takesAll_163 : decode cX8_takesAll 163 = .ok (.iaload, 1) := by decide +kernel
theorem aX8_takesAll_163 {k i : Nat} {j : Int32} (ht : aT k = 0) (hi : i < cnt k) {l0 l1 : Value} {st : List Value} {fs : List Fm} {σ : Mem} {Q : List va_E → Option Value → Prop} : Rn mX8_takesAll 163 [l0, l1] (.int j :: .ref (ad k i) :: st) fs (enc σ) Q ↔ vp_in j (aN k) ∧ Rn mX8_takesAll 164 [l0, l1] (.int (σ k i j.toNatClampNeg) :: st) fs (enc σ) Q := R_iaload hbX8_takesAll ht hi dX8_takesAll_163
theorem dX8_takesAll_164 : decode cX8_takesAll 164 = .ok (.if_icmp .ge 7, 3) := by decide +kernel
theorem aX8_takesAll_164 {x y : Int32} {l0 l1 : Value} {st : List Value} {fs : List Fm} {M : List va_E} {Q : List va_E → Option Value → Prop} : Rn mX8_takesAll 164 [l0, l1] (.int y :: .int x :: st) fs M Q ↔ if y ≤ x then Rn mX8_takesAll 171 [l0, l1] st fs M Q else Rn mX8_takesAll 167 [l0, l1] st fs M Q := R_icge hbX8_takesAll rfl dX8_takesAll_164
theorem dX8_takesAll_167 : decode cX8_takesAll 167 = .ok (.iconst 0, 1) := by decide +kernel
theorem aX8_takesAll_167 {l0 l1 : Value} {st : List Value} {fs : List Fm} {M : List va_E} {Q : List va_E → Option Value → Prop} : Rn mX8_takesAll 167 [l0, l1] st fs M Q ↔ Rn mX8_takesAll 168 [l0, l1] (.int 0 :: st) fs M Q := R_iconst hbX8_takesAll (by decide) dX8_takesAll_167
theorem dX8_takesAll_168 : decode cX8_takesAll 168 = .ok (.goto 4, 3) := by decide +kernel
theorem aX8_takesAll_168 {l0 l1 : Value} {st : List Value} {fs : List Fm} {M : List va_E} {Q : List va_E → Option Value → Prop} : Rn mX8_takesAll 168 [l0, l1] st fs M Q ↔ Rn mX8_takesAll 172 [l0, l1] st fs M Q := R_goto hbX8_takesAll rfl dX8_takesAll_168
theorem dX8_takesAll_171 : decode cX8_takesAll 171 = .ok (.iconst 1, 1) := by decide +kernel
theorem aX8_takesAll_171 {l0 l1 : Value} {st : List Value} {fs : List Fm} {M : List va_E} {Q : List va_E → Option Value → Prop} : Rn mX8_takesAll 171 [l0, l1] st fs M Q ↔ Rn mX8_takesAll 172 [l0, l1] (.int 1 :: st) fs M Q := R_iconst hbX8_takesAll (by decide) dX8_takesAll_171
theorem dX8_takesAll_172 : decode cX8_takesAll 172 = .ok (.iastore, 1) := by decide +kernel
theorem aX8_takesAll_172 {k i : Nat} {j x : Int32} (ht : aT k = 0) (hi : i < cnt k) {l0 l1 : Value} {st : List Value} {fs : List Fm} {σ : Mem} {Q : List va_E → Option Value → Prop} : Rn mX8_takesAll 172 [l0, l1] (.int x :: .int j :: .ref (ad k i) :: st) fs (enc σ) Q ↔ vp_in j (aN k) ∧ Rn mX8_takesAll 173 [l0, l1] st fs (enc (upS σ k i j.toNatClampNeg x)) Q := R_iastore hbX8_takesAll ht hi dX8_takesAll_172
theorem dX8_takesAll_173 : decode cX8_takesAll 173 = .ok (.aload_n 0, 1) := by decide +kernel
theorem aX8_takesAll_173 {x : Nat} {l1 : Value} {st : List Value} {fs : List Fm} {M : List va_E} {Q : List va_E → Option Value → Prop} : Rn mX8_takesAll 173 [.ref x, l1] st fs M Q ↔ Rn mX8_takesAll 174 [.ref x, l1] (.ref x :: st) fs M Q := R_aload_n hbX8_takesAll rfl dX8_takesAll_173
theorem dX8_takesAll_174 : decode cX8_takesAll 174 = .ok (.getfield 53, 3) := by decide +kernel
theorem aX8_takesAll_174 {l0 l1 : Value} {st : List Value} {fs : List Fm} {σ : Mem} {Q : List va_E → Option Value → Prop} : Rn mX8_takesAll 174 [l0, l1] (.ref (ad 29 0) :: st) fs (enc σ) Q ↔ Rn mX8_takesAll 177 [l0, l1] (.ref (ad 43 0) :: st) fs (enc σ) Q := R_get hbX8_takesAll hoX8_takesAll fl_8_53 (gf_8_15 (by decide) σ) dX8_takesAll_174
theorem dX8_takesAll_177 : decode cX8_takesAll 177 = .ok (.bipush 64, 2) := by decide +kernel
theorem aX8_takesAll_177 {l0 l1 : Value} {st : List Value} {fs : List Fm} {M : List va_E} {Q : List va_E → Option Value → Prop} : Rn mX8_takesAll 177 [l0, l1] st fs M Q ↔ Rn mX8_takesAll 179 [l0, l1] (.int 64 :: st) fs M Q := R_bipush hbX8_takesAll (by decide) dX8_takesAll_177
theorem dX8_takesAll_179 : decode cX8_takesAll 179 = .ok (.iconst 5, 1) := by decide +kernel
theorem aX8_takesAll_179 {l0 l1 : Value} {st : List Value} {fs : List Fm} {M : List va_E} {Q : List va_E → Option Value → Prop} : Rn mX8_takesAll 179 [l0, l1] st fs M Q ↔ Rn mX8_takesAll 180 [l0, l1] (.int 5 :: st) fs M Q := R_iconst hbX8_takesAll (by decide) dX8_takesAll_179
theorem dX8_takesAll_180 : decode cX8_takesAll 180 = .ok (.iload_n 1, 1) := by decide +kernel
theorem aX8_takesAll_180 {x : Int32} {l0 : Value} {st : List Value} {fs : List Fm} {M : List va_E} {Q : List va_E → Option Value → Prop} : Rn mX8_takesAll 180 [l0, .int x] st fs M Q ↔ Rn mX8_takesAll 181 [l0, .int x] (.int x :: st) fs M Q := R_iload_n hbX8_takesAll rfl dX8_takesAll_180
theorem dX8_takesAll_181 : decode cX8_takesAll 181 = .ok (.imul, 1) := by decide +kernel
theorem aX8_takesAll_181 {x y : Int32} {l0 l1 : Value} {st : List Value} {fs : List Fm} {M : List va_E} {Q : List va_E → Option Value → Prop} : Rn mX8_takesAll 181 [l0, l1] (.int y :: .int x :: st) fs M Q ↔ Rn mX8_takesAll 182 [l0, l1] (.int (x * y) :: st) fs M Q := R_imul hbX8_takesAll dX8_takesAll_181
theorem dX8_takesAll_182 : decode cX8_takesAll 182 = .ok (.iadd, 1) := by decide +kernel
theorem aX8_takesAll_182 {x y : Int32} {l0 l1 : Value} {st : List Value} {fs : List Fm} {M : List va_E} {Q : List va_E → Option Value → Prop} : Rn mX8_takesAll 182 [l0, l1] (.int y :: .int x :: st) fs M Q ↔ Rn mX8_takesAll 183 [l0, l1] (.int (x + y) :: st) fs M Q := R_iadd hbX8_takesAll dX8_takesAll_182
theorem dX8_takesAll_183 : decode cX8_takesAll 183 = .ok (.iconst 2, 1) := by decide +kernel
theorem aX8_takesAll_183 {l0 l1 : Value} {st : List Value} {fs : List Fm} {M : List va_E} {Q : List va_E → Option Value → Prop} : Rn mX8_takesAll 183 [l0, l1] st fs M Q ↔ Rn mX8_takesAll 184 [l0, l1] (.int 2 :: st) fs M Q := R_iconst hbX8_takesAll (by decide) dX8_takesAll_183
theorem dX8_takesAll_184 : decode cX8_takesAll 184 = .ok (.iadd, 1) := by decide +kernel
theorem aX8_takesAll_184 {x y : Int32} {l0 l1 : Value} {st : List Value} {fs : List Fm} {M : List va_E} {Q : List va_E → Option Value → Prop} : Rn mX8_takesAll 184 [l0, l1] (.int y :: .int x :: st) fs M Q ↔ Rn mX8_takesAll 185 [l0, l1] (.int (x + y) :: st) fs M Q := R_iadd hbX8_takesAll dX8_takesAll_184
theorem dX8_takesAll_185 : decode cX8_takesAll 185 = .ok (.iload_n 1, 1) := by decide +kernel
theorem aX8_takesAll_185 {x : Int32} {l0 : Value} {st : List Value} {fs : List Fm} {M : List va_E} {Q : List va_E → Option Value → Prop} : Rn mX8_takesAll 185 [l0, .int x] st fs M Q ↔ Rn mX8_takesAll 186 [l0, .int x] (.int x :: st) fs M Q := R_iload_n hbX8_takesAll rfl dX8_takesAll_185
theorem dX8_takesAll_186 : decode cX8_takesAll 186 = .ok (.aload_n 0, 1) := by decide +kernel
theorem aX8_takesAll_186 {x : Nat} {l1 : Value} {st : List Value} {fs : List Fm} {M : List va_E} {Q : List va_E → Option Value → Prop} : Rn mX8_takesAll 186 [.ref x, l1] st fs M Q ↔ Rn mX8_takesAll 187 [.ref x, l1] (.ref x :: st) fs M Q := R_aload_n hbX8_takesAll rfl dX8_takesAll_186
theorem dX8_takesAll_187 : decode cX8_takesAll 187 = .ok (.getfield 17, 3) := by decide +kernel
theorem aX8_takesAll_187 {l0 l1 : Value} {st : List Value} {fs : List Fm} {σ : Mem} {Q : List va_E → Option Value → Prop} : Rn mX8_takesAll 187 [l0, l1] (.ref (ad 29 0) :: st) fs (enc σ) Q ↔ Rn mX8_takesAll 190 [l0, l1] (.ref (ad 31 0) :: st) fs (enc σ) Q := R_get hbX8_takesAll hoX8_takesAll fl_8_17 (gf_8_3 (by decide) σ) dX8_takesAll_187
theorem dX8_takesAll_190 : decode cX8_takesAll 190 = .ok (.iconst 2, 1) := by decide +kernel
theorem aX8_takesAll_190 {l0 l1 : Value} {st : List Value} {fs : List Fm} {M : List va_E} {Q : List va_E → Option Value → Prop} : Rn mX8_takesAll 190 [l0, l1] st fs M Q ↔ Rn mX8_takesAll 191 [l0, l1] (.int 2 :: st) fs M Q := R_iconst hbX8_takesAll (by decide) dX8_takesAll_190
theorem dX8_takesAll_191 : decode cX8_takesAll 191 = .ok (.iaload, 1) := by decide +kernel
theorem aX8_takesAll_191 {k i : Nat} {j : Int32} (ht : aT k = 0) (hi : i < cnt k) {l0 l1 : Value} {st : List Value} {fs : List Fm} {σ : Mem} {Q : List va_E → Option Value → Prop} : Rn mX8_takesAll 191 [l0, l1] (.int j :: .ref (ad k i) :: st) fs (enc σ) Q ↔ vp_in j (aN k) ∧ Rn mX8_takesAll 192 [l0, l1] (.int (σ k i j.toNatClampNeg) :: st) fs (enc σ) Q := R_iaload hbX8_takesAll ht hi dX8_takesAll_191
theorem dX8_takesAll_192 : decode cX8_takesAll 192 = .ok (.if_icmp .ge 7, 3) := by decide +kernel
theorem aX8_takesAll_192 {x y : Int32} {l0 l1 : Value} {st : List Value} {fs : List Fm} {M : List va_E} {Q : List va_E → Option Value → Prop} : Rn mX8_takesAll 192 [l0, l1] (.int y :: .int x :: st) fs M Q ↔ if y ≤ x then Rn mX8_takesAll 199 [l0, l1] st fs M Q else Rn mX8_takesAll 195 [l0, l1] st fs M Q := R_icge hbX8_takesAll rfl dX8_takesAll_192
theorem dX8_takesAll_195 : decode cX8_takesAll 195 = .ok (.iload_n 1, 1) := by decide +kernel
theorem aX8_takesAll_195 {x : Int32} {l0 : Value} {st : List Value} {fs : List Fm} {M : List va_E} {Q : List va_E → Option Value → Prop} : Rn mX8_takesAll 195 [l0, .int x] st fs M Q ↔ Rn mX8_takesAll 196 [l0, .int x] (.int x :: st) fs M Q := R_iload_n hbX8_takesAll rfl dX8_takesAll_195
theorem dX8_takesAll_196 : decode cX8_takesAll 196 = .ok (.goto 4, 3) := by decide +kernel
theorem aX8_takesAll_196 {l0 l1 : Value} {st : List Value} {fs : List Fm} {M : List va_E} {Q : List va_E → Option Value → Prop} : Rn mX8_takesAll 196 [l0, l1] st fs M Q ↔ Rn mX8_takesAll 200 [l0, l1] st fs M Q := R_goto hbX8_takesAll rfl dX8_takesAll_196
theorem dX8_takesAll_199 : decode cX8_takesAll 199 = .ok (.iconst (-1), 1) := by decide +kernel
theorem aX8_takesAll_199 {l0 l1 : Value} {st : List Value} {fs : List Fm} {M : List va_E} {Q : List va_E → Option Value → Prop} : Rn mX8_takesAll 199 [l0, l1] st fs M Q ↔ Rn mX8_takesAll 200 [l0, l1] (.int (-1) :: st) fs M Q := R_iconst hbX8_takesAll (by decide) dX8_takesAll_199
theorem dX8_takesAll_200 : decode cX8_takesAll 200 = .ok (.iastore, 1) := by decide +kernel
theorem aX8_takesAll_200 {k i : Nat} {j x : Int32} (ht : aT k = 0) (hi : i < cnt k) {l0 l1 : Value} {st : List Value} {fs : List Fm} {σ : Mem} {Q : List va_E → Option Value → Prop} : Rn mX8_takesAll 200 [l0, l1] (.int x :: .int j :: .ref (ad k i) :: st) fs (enc σ) Q ↔ vp_in j (aN k) ∧ Rn mX8_takesAll 201 [l0, l1] st fs (enc (upS σ k i j.toNatClampNeg x)) Q := R_iastore hbX8_takesAll ht hi dX8_takesAll_200
theorem dX8_takesAll_201 : decode cX8_takesAll 201 = .ok (.iinc 1 1, 3) := by decide +kernel
theorem aX8_takesAll_201 {x : Int32} {l0 : Value} {st : List Value} {fs : List Fm} {M : List va_E} {Q : List va_E → Option Value → Prop} : Rn mX8_takesAll 201 [l0, .int x] st fs M Q ↔ Rn mX8_takesAll 204 [l0, .int (x + 1)] st fs M Q := R_iinc hbX8_takesAll hmX8_takesAll hlX8_takesAll (by decide) (by decide) rfl (by decide) rfl dX8_takesAll_201
theorem dX8_takesAll_204 : decode cX8_takesAll 204 = .ok (.goto (-130), 3) := by decide +kernel
theorem aX8_takesAll_204 {l0 l1 : Value} {st : List Value} {fs : List Fm} {M : List va_E} {Q : List va_E → Option Value → Prop} : Rn mX8_takesAll 204 [l0, l1] st fs M Q ↔ Rn mX8_takesAll 74 [l0, l1] st fs M Q := R_goto hbX8_takesAll rfl dX8_takesAll_204
theorem dX8_takesAll_207 : decode cX8_takesAll 207 = .ok (.return_, 1) := by decide +kernel
theorem aX8_takesAll_207 {l0 l1 : Value} {fs : List Fm} {M : List va_E} {Q : List va_E → Option Value → Prop} : Rn mX8_takesAll 207 [l0, l1] [] fs M Q ↔ Rt fs M none Q := R_ret hbX8_takesAll hrX8_takesAll dX8_takesAll_207
theorem dX8_fault_0 : decode cX8_fault 0 = .ok (.aload_n 0, 1) := by decide +kernel
theorem aX8_fault_0 {x : Nat} {st : List Value} {fs : List Fm} {M : List va_E} {Q : List va_E → Option Value → Prop} : Rn mX8_fault 0 [.ref x] st fs M Q ↔ Rn mX8_fault 1 [.ref x] (.ref x :: st) fs M Q := R_aload_n hbX8_fault rfl dX8_fault_0
theorem dX8_fault_1 : decode cX8_fault 1 = .ok (.getfield 13, 3) := by decide +kernel
theorem aX8_fault_1 {l0 : Value} {st : List Value} {fs : List Fm} {σ : Mem} {Q : List va_E → Option Value → Prop} : Rn mX8_fault 1 [l0] (.ref (ad 29 0) :: st) fs (enc σ) Q ↔ Rn mX8_fault 4 [l0] (.int (σ 29 0 2) :: st) fs (enc σ) Q := R_get hbX8_fault hoX8_fault fl_8_13 (gf_8_2 (by decide) σ) dX8_fault_1
theorem dX8_fault_4 : decode cX8_fault 4 = .ok (.ireturn, 1) := by decide +kernel
theorem aX8_fault_4 {x : Int32} {l0 : Value} {fs : List Fm} {M : List va_E} {Q : List va_E → Option Value → Prop} : Rn mX8_fault 4 [l0] [.int x] fs M Q ↔ Rt fs M (some (.int x)) Q := R_reti hbX8_fault hrX8_fault dX8_fault_4
theorem dX8_told_0 : decode cX8_told 0 = .ok (.iload_n 1, 1) := by decide +kernel
theorem aX8_told_0 {x : Int32} {l0 : Value} {st : List Value} {fs : List Fm} {M : List va_E} {Q : List va_E → Option Value → Prop} : Rn mX8_told 0 [l0, .int x] st fs M Q ↔ Rn mX8_told 1 [l0, .int x] (.int x :: st) fs M Q := R_iload_n hbX8_told rfl dX8_told_0
theorem dX8_told_1 : decode cX8_told 1 = .ok (.tableswitch 180 0 17 #[87, 87, 87, 94, 99, 106, 113, 120, 126, 132, 138, 143, 148, 153, 158, 165, 170, 175], 87) := by decide +kernel
theorem aX8_told_1_0 {l0 l1 : Value} {st : List Value} {fs : List Fm} {M : List va_E} {Q : List va_E → Option Value → Prop} : Rn mX8_told 1 [l0, l1] (.int 0 :: st) fs M Q ↔ Rn mX8_told 88 [l0, l1] st fs M Q := R_tabIn hbX8_told (by decide) (by decide) rfl rfl dX8_told_1
theorem aX8_told_1_1 {l0 l1 : Value} {st : List Value} {fs : List Fm} {M : List va_E} {Q : List va_E → Option Value → Prop} : Rn mX8_told 1 [l0, l1] (.int 1 :: st) fs M Q ↔ Rn mX8_told 88 [l0, l1] st fs M Q := R_tabIn hbX8_told (by decide) (by decide) rfl rfl dX8_told_1
theorem aX8_told_1_2 {l0 l1 : Value} {st : List Value} {fs : List Fm} {M : List va_E} {Q : List va_E → Option Value → Prop} : Rn mX8_told 1 [l0, l1] (.int 2 :: st) fs M Q ↔ Rn mX8_told 88 [l0, l1] st fs M Q := R_tabIn hbX8_told (by decide) (by decide) rfl rfl dX8_told_1
theorem aX8_told_1_3 {l0 l1 : Value} {st : List Value} {fs : List Fm} {M : List va_E} {Q : List va_E → Option Value → Prop} : Rn mX8_told 1 [l0, l1] (.int 3 :: st) fs M Q ↔ Rn mX8_told 95 [l0, l1] st fs M Q := R_tabIn hbX8_told (by decide) (by decide) rfl rfl dX8_told_1
theorem aX8_told_1_4 {l0 l1 : Value} {st : List Value} {fs : List Fm} {M : List va_E} {Q : List va_E → Option Value → Prop} : Rn mX8_told 1 [l0, l1] (.int 4 :: st) fs M Q ↔ Rn mX8_told 100 [l0, l1] st fs M Q := R_tabIn hbX8_told (by decide) (by decide) rfl rfl dX8_told_1
theorem aX8_told_1_5 {l0 l1 : Value} {st : List Value} {fs : List Fm} {M : List va_E} {Q : List va_E → Option Value → Prop} : Rn mX8_told 1 [l0, l1] (.int 5 :: st) fs M Q ↔ Rn mX8_told 107 [l0, l1] st fs M Q := R_tabIn hbX8_told (by decide) (by decide) rfl rfl dX8_told_1
theorem aX8_told_1_6 {l0 l1 : Value} {st : List Value} {fs : List Fm} {M : List va_E} {Q : List va_E → Option Value → Prop} : Rn mX8_told 1 [l0, l1] (.int 6 :: st) fs M Q ↔ Rn mX8_told 114 [l0, l1] st fs M Q := R_tabIn hbX8_told (by decide) (by decide) rfl rfl dX8_told_1
theorem aX8_told_1_7 {l0 l1 : Value} {st : List Value} {fs : List Fm} {M : List va_E} {Q : List va_E → Option Value → Prop} : Rn mX8_told 1 [l0, l1] (.int 7 :: st) fs M Q ↔ Rn mX8_told 121 [l0, l1] st fs M Q := R_tabIn hbX8_told (by decide) (by decide) rfl rfl dX8_told_1
theorem aX8_told_1_8 {l0 l1 : Value} {st : List Value} {fs : List Fm} {M : List va_E} {Q : List va_E → Option Value → Prop} : Rn mX8_told 1 [l0, l1] (.int 8 :: st) fs M Q ↔ Rn mX8_told 127 [l0, l1] st fs M Q := R_tabIn hbX8_told (by decide) (by decide) rfl rfl dX8_told_1
theorem aX8_told_1_9 {l0 l1 : Value} {st : List Value} {fs : List Fm} {M : List va_E} {Q : List va_E → Option Value → Prop} : Rn mX8_told 1 [l0, l1] (.int 9 :: st) fs M Q ↔ Rn mX8_told 133 [l0, l1] st fs M Q := R_tabIn hbX8_told (by decide) (by decide) rfl rfl dX8_told_1
theorem aX8_told_1_10 {l0 l1 : Value} {st : List Value} {fs : List Fm} {M : List va_E} {Q : List va_E → Option Value → Prop} : Rn mX8_told 1 [l0, l1] (.int 10 :: st) fs M Q ↔ Rn mX8_told 139 [l0, l1] st fs M Q := R_tabIn hbX8_told (by decide) (by decide) rfl rfl dX8_told_1
theorem aX8_told_1_11 {l0 l1 : Value} {st : List Value} {fs : List Fm} {M : List va_E} {Q : List va_E → Option Value → Prop} : Rn mX8_told 1 [l0, l1] (.int 11 :: st) fs M Q ↔ Rn mX8_told 144 [l0, l1] st fs M Q := R_tabIn hbX8_told (by decide) (by decide) rfl rfl dX8_told_1
theorem aX8_told_1_12 {l0 l1 : Value} {st : List Value} {fs : List Fm} {M : List va_E} {Q : List va_E → Option Value → Prop} : Rn mX8_told 1 [l0, l1] (.int 12 :: st) fs M Q ↔ Rn mX8_told 149 [l0, l1] st fs M Q := R_tabIn hbX8_told (by decide) (by decide) rfl rfl dX8_told_1
theorem aX8_told_1_13 {l0 l1 : Value} {st : List Value} {fs : List Fm} {M : List va_E} {Q : List va_E → Option Value → Prop} : Rn mX8_told 1 [l0, l1] (.int 13 :: st) fs M Q ↔ Rn mX8_told 154 [l0, l1] st fs M Q := R_tabIn hbX8_told (by decide) (by decide) rfl rfl dX8_told_1
theorem aX8_told_1_14 {l0 l1 : Value} {st : List Value} {fs : List Fm} {M : List va_E} {Q : List va_E → Option Value → Prop} : Rn mX8_told 1 [l0, l1] (.int 14 :: st) fs M Q ↔ Rn mX8_told 159 [l0, l1] st fs M Q := R_tabIn hbX8_told (by decide) (by decide) rfl rfl dX8_told_1
theorem aX8_told_1_15 {l0 l1 : Value} {st : List Value} {fs : List Fm} {M : List va_E} {Q : List va_E → Option Value → Prop} : Rn mX8_told 1 [l0, l1] (.int 15 :: st) fs M Q ↔ Rn mX8_told 166 [l0, l1] st fs M Q := R_tabIn hbX8_told (by decide) (by decide) rfl rfl dX8_told_1
theorem aX8_told_1_16 {l0 l1 : Value} {st : List Value} {fs : List Fm} {M : List va_E} {Q : List va_E → Option Value → Prop} : Rn mX8_told 1 [l0, l1] (.int 16 :: st) fs M Q ↔ Rn mX8_told 171 [l0, l1] st fs M Q := R_tabIn hbX8_told (by decide) (by decide) rfl rfl dX8_told_1
theorem aX8_told_1_17 {l0 l1 : Value} {st : List Value} {fs : List Fm} {M : List va_E} {Q : List va_E → Option Value → Prop} : Rn mX8_told 1 [l0, l1] (.int 17 :: st) fs M Q ↔ Rn mX8_told 176 [l0, l1] st fs M Q := R_tabIn hbX8_told (by decide) (by decide) rfl rfl dX8_told_1
theorem aX8_told_1_d {x : Int32} (h : x.toInt < 0 ∨ 17 < x.toInt) {l0 l1 : Value} {st : List Value} {fs : List Fm} {M : List va_E} {Q : List va_E → Option Value → Prop} : Rn mX8_told 1 [l0, l1] (.int x :: st) fs M Q ↔ Rn mX8_told 181 [l0, l1] st fs M Q := R_tabOut hbX8_told h rfl dX8_told_1
theorem dX8_told_88 : decode cX8_told 88 = .ok (.aload_n 0, 1) := by decide +kernel
theorem aX8_told_88 {x : Nat} {l1 : Value} {st : List Value} {fs : List Fm} {M : List va_E} {Q : List va_E → Option Value → Prop} : Rn mX8_told 88 [.ref x, l1] st fs M Q ↔ Rn mX8_told 89 [.ref x, l1] (.ref x :: st) fs M Q := R_aload_n hbX8_told rfl dX8_told_88
theorem dX8_told_89 : decode cX8_told 89 = .ok (.getfield 17, 3) := by decide +kernel
theorem aX8_told_89 {l0 l1 : Value} {st : List Value} {fs : List Fm} {σ : Mem} {Q : List va_E → Option Value → Prop} : Rn mX8_told 89 [l0, l1] (.ref (ad 29 0) :: st) fs (enc σ) Q ↔ Rn mX8_told 92 [l0, l1] (.ref (ad 31 0) :: st) fs (enc σ) Q := R_get hbX8_told hoX8_told fl_8_17 (gf_8_3 (by decide) σ) dX8_told_89
theorem dX8_told_92 : decode cX8_told 92 = .ok (.iload_n 1, 1) := by decide +kernel
theorem aX8_told_92 {x : Int32} {l0 : Value} {st : List Value} {fs : List Fm} {M : List va_E} {Q : List va_E → Option Value → Prop} : Rn mX8_told 92 [l0, .int x] st fs M Q ↔ Rn mX8_told 93 [l0, .int x] (.int x :: st) fs M Q := R_iload_n hbX8_told rfl dX8_told_92
theorem dX8_told_93 : decode cX8_told 93 = .ok (.iaload, 1) := by decide +kernel
theorem aX8_told_93 {k i : Nat} {j : Int32} (ht : aT k = 0) (hi : i < cnt k) {l0 l1 : Value} {st : List Value} {fs : List Fm} {σ : Mem} {Q : List va_E → Option Value → Prop} : Rn mX8_told 93 [l0, l1] (.int j :: .ref (ad k i) :: st) fs (enc σ) Q ↔ vp_in j (aN k) ∧ Rn mX8_told 94 [l0, l1] (.int (σ k i j.toNatClampNeg) :: st) fs (enc σ) Q := R_iaload hbX8_told ht hi dX8_told_93
theorem dX8_told_94 : decode cX8_told 94 = .ok (.ireturn, 1) := by decide +kernel
theorem aX8_told_94 {x : Int32} {l0 l1 : Value} {fs : List Fm} {M : List va_E} {Q : List va_E → Option Value → Prop} : Rn mX8_told 94 [l0, l1] [.int x] fs M Q ↔ Rt fs M (some (.int x)) Q := R_reti hbX8_told hrX8_told dX8_told_94
theorem dX8_told_95 : decode cX8_told 95 = .ok (.aload_n 0, 1) := by decide +kernel
theorem aX8_told_95 {x : Nat} {l1 : Value} {st : List Value} {fs : List Fm} {M : List va_E} {Q : List va_E → Option Value → Prop} : Rn mX8_told 95 [.ref x, l1] st fs M Q ↔ Rn mX8_told 96 [.ref x, l1] (.ref x :: st) fs M Q := R_aload_n hbX8_told rfl dX8_told_95
theorem dX8_told_96 : decode cX8_told 96 = .ok (.getfield 86, 3) := by decide +kernel
theorem aX8_told_96 {l0 l1 : Value} {st : List Value} {fs : List Fm} {σ : Mem} {Q : List va_E → Option Value → Prop} : Rn mX8_told 96 [l0, l1] (.ref (ad 29 0) :: st) fs (enc σ) Q ↔ Rn mX8_told 99 [l0, l1] (.int (σ 29 0 1) :: st) fs (enc σ) Q := R_get hbX8_told hoX8_told fl_8_86 (gf_8_1 (by decide) σ) dX8_told_96
theorem dX8_told_99 : decode cX8_told 99 = .ok (.ireturn, 1) := by decide +kernel
theorem aX8_told_99 {x : Int32} {l0 l1 : Value} {fs : List Fm} {M : List va_E} {Q : List va_E → Option Value → Prop} : Rn mX8_told 99 [l0, l1] [.int x] fs M Q ↔ Rt fs M (some (.int x)) Q := R_reti hbX8_told hrX8_told dX8_told_99
theorem dX8_told_100 : decode cX8_told 100 = .ok (.aload_n 0, 1) := by decide +kernel
theorem aX8_told_100 {x : Nat} {l1 : Value} {st : List Value} {fs : List Fm} {M : List va_E} {Q : List va_E → Option Value → Prop} : Rn mX8_told 100 [.ref x, l1] st fs M Q ↔ Rn mX8_told 101 [.ref x, l1] (.ref x :: st) fs M Q := R_aload_n hbX8_told rfl dX8_told_100
theorem dX8_told_101 : decode cX8_told 101 = .ok (.getfield 53, 3) := by decide +kernel
theorem aX8_told_101 {l0 l1 : Value} {st : List Value} {fs : List Fm} {σ : Mem} {Q : List va_E → Option Value → Prop} : Rn mX8_told 101 [l0, l1] (.ref (ad 29 0) :: st) fs (enc σ) Q ↔ Rn mX8_told 104 [l0, l1] (.ref (ad 43 0) :: st) fs (enc σ) Q := R_get hbX8_told hoX8_told fl_8_53 (gf_8_15 (by decide) σ) dX8_told_101
theorem dX8_told_104 : decode cX8_told 104 = .ok (.iconst 0, 1) := by decide +kernel
theorem aX8_told_104 {l0 l1 : Value} {st : List Value} {fs : List Fm} {M : List va_E} {Q : List va_E → Option Value → Prop} : Rn mX8_told 104 [l0, l1] st fs M Q ↔ Rn mX8_told 105 [l0, l1] (.int 0 :: st) fs M Q := R_iconst hbX8_told (by decide) dX8_told_104
theorem dX8_told_105 : decode cX8_told 105 = .ok (.iaload, 1) := by decide +kernel
theorem aX8_told_105 {k i : Nat} {j : Int32} (ht : aT k = 0) (hi : i < cnt k) {l0 l1 : Value} {st : List Value} {fs : List Fm} {σ : Mem} {Q : List va_E → Option Value → Prop} : Rn mX8_told 105 [l0, l1] (.int j :: .ref (ad k i) :: st) fs (enc σ) Q ↔ vp_in j (aN k) ∧ Rn mX8_told 106 [l0, l1] (.int (σ k i j.toNatClampNeg) :: st) fs (enc σ) Q := R_iaload hbX8_told ht hi dX8_told_105
theorem dX8_told_106 : decode cX8_told 106 = .ok (.ireturn, 1) := by decide +kernel
theorem aX8_told_106 {x : Int32} {l0 l1 : Value} {fs : List Fm} {M : List va_E} {Q : List va_E → Option Value → Prop} : Rn mX8_told 106 [l0, l1] [.int x] fs M Q ↔ Rt fs M (some (.int x)) Q := R_reti hbX8_told hrX8_told dX8_told_106
theorem dX8_told_107 : decode cX8_told 107 = .ok (.aload_n 0, 1) := by decide +kernel
theorem aX8_told_107 {x : Nat} {l1 : Value} {st : List Value} {fs : List Fm} {M : List va_E} {Q : List va_E → Option Value → Prop} : Rn mX8_told 107 [.ref x, l1] st fs M Q ↔ Rn mX8_told 108 [.ref x, l1] (.ref x :: st) fs M Q := R_aload_n hbX8_told rfl dX8_told_107
theorem dX8_told_108 : decode cX8_told 108 = .ok (.getfield 53, 3) := by decide +kernel
theorem aX8_told_108 {l0 l1 : Value} {st : List Value} {fs : List Fm} {σ : Mem} {Q : List va_E → Option Value → Prop} : Rn mX8_told 108 [l0, l1] (.ref (ad 29 0) :: st) fs (enc σ) Q ↔ Rn mX8_told 111 [l0, l1] (.ref (ad 43 0) :: st) fs (enc σ) Q := R_get hbX8_told hoX8_told fl_8_53 (gf_8_15 (by decide) σ) dX8_told_108
theorem dX8_told_111 : decode cX8_told 111 = .ok (.iconst 1, 1) := by decide +kernel
theorem aX8_told_111 {l0 l1 : Value} {st : List Value} {fs : List Fm} {M : List va_E} {Q : List va_E → Option Value → Prop} : Rn mX8_told 111 [l0, l1] st fs M Q ↔ Rn mX8_told 112 [l0, l1] (.int 1 :: st) fs M Q := R_iconst hbX8_told (by decide) dX8_told_111
theorem dX8_told_112 : decode cX8_told 112 = .ok (.iaload, 1) := by decide +kernel
theorem aX8_told_112 {k i : Nat} {j : Int32} (ht : aT k = 0) (hi : i < cnt k) {l0 l1 : Value} {st : List Value} {fs : List Fm} {σ : Mem} {Q : List va_E → Option Value → Prop} : Rn mX8_told 112 [l0, l1] (.int j :: .ref (ad k i) :: st) fs (enc σ) Q ↔ vp_in j (aN k) ∧ Rn mX8_told 113 [l0, l1] (.int (σ k i j.toNatClampNeg) :: st) fs (enc σ) Q := R_iaload hbX8_told ht hi dX8_told_112
theorem dX8_told_113 : decode cX8_told 113 = .ok (.ireturn, 1) := by decide +kernel
theorem aX8_told_113 {x : Int32} {l0 l1 : Value} {fs : List Fm} {M : List va_E} {Q : List va_E → Option Value → Prop} : Rn mX8_told 113 [l0, l1] [.int x] fs M Q ↔ Rt fs M (some (.int x)) Q := R_reti hbX8_told hrX8_told dX8_told_113
theorem dX8_told_114 : decode cX8_told 114 = .ok (.aload_n 0, 1) := by decide +kernel
theorem aX8_told_114 {x : Nat} {l1 : Value} {st : List Value} {fs : List Fm} {M : List va_E} {Q : List va_E → Option Value → Prop} : Rn mX8_told 114 [.ref x, l1] st fs M Q ↔ Rn mX8_told 115 [.ref x, l1] (.ref x :: st) fs M Q := R_aload_n hbX8_told rfl dX8_told_114
theorem dX8_told_115 : decode cX8_told 115 = .ok (.getfield 53, 3) := by decide +kernel
theorem aX8_told_115 {l0 l1 : Value} {st : List Value} {fs : List Fm} {σ : Mem} {Q : List va_E → Option Value → Prop} : Rn mX8_told 115 [l0, l1] (.ref (ad 29 0) :: st) fs (enc σ) Q ↔ Rn mX8_told 118 [l0, l1] (.ref (ad 43 0) :: st) fs (enc σ) Q := R_get hbX8_told hoX8_told fl_8_53 (gf_8_15 (by decide) σ) dX8_told_115
theorem dX8_told_118 : decode cX8_told 118 = .ok (.iconst 2, 1) := by decide +kernel
theorem aX8_told_118 {l0 l1 : Value} {st : List Value} {fs : List Fm} {M : List va_E} {Q : List va_E → Option Value → Prop} : Rn mX8_told 118 [l0, l1] st fs M Q ↔ Rn mX8_told 119 [l0, l1] (.int 2 :: st) fs M Q := R_iconst hbX8_told (by decide) dX8_told_118
theorem dX8_told_119 : decode cX8_told 119 = .ok (.iaload, 1) := by decide +kernel
theorem aX8_told_119 {k i : Nat} {j : Int32} (ht : aT k = 0) (hi : i < cnt k) {l0 l1 : Value} {st : List Value} {fs : List Fm} {σ : Mem} {Q : List va_E → Option Value → Prop} : Rn mX8_told 119 [l0, l1] (.int j :: .ref (ad k i) :: st) fs (enc σ) Q ↔ vp_in j (aN k) ∧ Rn mX8_told 120 [l0, l1] (.int (σ k i j.toNatClampNeg) :: st) fs (enc σ) Q := R_iaload hbX8_told ht hi dX8_told_119
theorem dX8_told_120 : decode cX8_told 120 = .ok (.ireturn, 1) := by decide +kernel
theorem aX8_told_120 {x : Int32} {l0 l1 : Value} {fs : List Fm} {M : List va_E} {Q : List va_E → Option Value → Prop} : Rn mX8_told 120 [l0, l1] [.int x] fs M Q ↔ Rt fs M (some (.int x)) Q := R_reti hbX8_told hrX8_told dX8_told_120
theorem dX8_told_121 : decode cX8_told 121 = .ok (.aload_n 0, 1) := by decide +kernel
theorem aX8_told_121 {x : Nat} {l1 : Value} {st : List Value} {fs : List Fm} {M : List va_E} {Q : List va_E → Option Value → Prop} : Rn mX8_told 121 [.ref x, l1] st fs M Q ↔ Rn mX8_told 122 [.ref x, l1] (.ref x :: st) fs M Q := R_aload_n hbX8_told rfl dX8_told_121
theorem dX8_told_122 : decode cX8_told 122 = .ok (.iconst 0, 1) := by decide +kernel
theorem aX8_told_122 {l0 l1 : Value} {st : List Value} {fs : List Fm} {M : List va_E} {Q : List va_E → Option Value → Prop} : Rn mX8_told 122 [l0, l1] st fs M Q ↔ Rn mX8_told 123 [l0, l1] (.int 0 :: st) fs M Q := R_iconst hbX8_told (by decide) dX8_told_122
theorem dX8_told_123 : decode cX8_told 123 = .ok (.invokevirtual 152, 3) := by decide +kernel
theorem aX8_told_123 {y0 : Int32} {l0 l1 : Value} {st : List Value} {fs : List Fm} {σ : Mem} {Q : List va_E → Option Value → Prop} : Rn mX8_told 123 [l0, l1] (.int y0 :: .ref (ad 29 0) :: st) fs (enc σ) Q ↔ cats st ≤ 8 ∧ Rn mX8_housesSo 0 [.ref (ad 29 0), .int y0, .null, .null] [] ((mX8_told, 126, [l0, l1], st) :: fs) (enc σ) Q := R_V (As := [.int y0]) hbX8_told hoX8_told cl_8_152 hnX8_housesSo rfl (by decide +kernel) rfl rfl rfl (isO_29 (by decide) σ) dX8_told_123
theorem dX8_told_126 : decode cX8_told 126 = .ok (.ireturn, 1) := by decide +kernel
theorem aX8_told_126 {x : Int32} {l0 l1 : Value} {fs : List Fm} {M : List va_E} {Q : List va_E → Option Value → Prop} : Rn mX8_told 126 [l0, l1] [.int x] fs M Q ↔ Rt fs M (some (.int x)) Q := R_reti hbX8_told hrX8_told dX8_told_126
theorem dX8_told_127 : decode cX8_told 127 = .ok (.aload_n 0, 1) := by decide +kernel
theorem aX8_told_127 {x : Nat} {l1 : Value} {st : List Value} {fs : List Fm} {M : List va_E} {Q : List va_E → Option Value → Prop} : Rn mX8_told 127 [.ref x, l1] st fs M Q ↔ Rn mX8_told 128 [.ref x, l1] (.ref x :: st) fs M Q := R_aload_n hbX8_told rfl dX8_told_127
theorem dX8_told_128 : decode cX8_told 128 = .ok (.iconst 1, 1) := by decide +kernel
theorem aX8_told_128 {l0 l1 : Value} {st : List Value} {fs : List Fm} {M : List va_E} {Q : List va_E → Option Value → Prop} : Rn mX8_told 128 [l0, l1] st fs M Q ↔ Rn mX8_told 129 [l0, l1] (.int 1 :: st) fs M Q := R_iconst hbX8_told (by decide) dX8_told_128
theorem dX8_told_129 : decode cX8_told 129 = .ok (.invokevirtual 152, 3) := by decide +kernel
theorem aX8_told_129 {y0 : Int32} {l0 l1 : Value} {st : List Value} {fs : List Fm} {σ : Mem} {Q : List va_E → Option Value → Prop} : Rn mX8_told 129 [l0, l1] (.int y0 :: .ref (ad 29 0) :: st) fs (enc σ) Q ↔ cats st ≤ 8 ∧ Rn mX8_housesSo 0 [.ref (ad 29 0), .int y0, .null, .null] [] ((mX8_told, 132, [l0, l1], st) :: fs) (enc σ) Q := R_V (As := [.int y0]) hbX8_told hoX8_told cl_8_152 hnX8_housesSo rfl (by decide +kernel) rfl rfl rfl (isO_29 (by decide) σ) dX8_told_129
theorem dX8_told_132 : decode cX8_told 132 = .ok (.ireturn, 1) := by decide +kernel
theorem aX8_told_132 {x : Int32} {l0 l1 : Value} {fs : List Fm} {M : List va_E} {Q : List va_E → Option Value → Prop} : Rn mX8_told 132 [l0, l1] [.int x] fs M Q ↔ Rt fs M (some (.int x)) Q := R_reti hbX8_told hrX8_told dX8_told_132
theorem dX8_told_133 : decode cX8_told 133 = .ok (.aload_n 0, 1) := by decide +kernel
theorem aX8_told_133 {x : Nat} {l1 : Value} {st : List Value} {fs : List Fm} {M : List va_E} {Q : List va_E → Option Value → Prop} : Rn mX8_told 133 [.ref x, l1] st fs M Q ↔ Rn mX8_told 134 [.ref x, l1] (.ref x :: st) fs M Q := R_aload_n hbX8_told rfl dX8_told_133
theorem dX8_told_134 : decode cX8_told 134 = .ok (.iconst 2, 1) := by decide +kernel
theorem aX8_told_134 {l0 l1 : Value} {st : List Value} {fs : List Fm} {M : List va_E} {Q : List va_E → Option Value → Prop} : Rn mX8_told 134 [l0, l1] st fs M Q ↔ Rn mX8_told 135 [l0, l1] (.int 2 :: st) fs M Q := R_iconst hbX8_told (by decide) dX8_told_134
theorem dX8_told_135 : decode cX8_told 135 = .ok (.invokevirtual 152, 3) := by decide +kernel
theorem aX8_told_135 {y0 : Int32} {l0 l1 : Value} {st : List Value} {fs : List Fm} {σ : Mem} {Q : List va_E → Option Value → Prop} : Rn mX8_told 135 [l0, l1] (.int y0 :: .ref (ad 29 0) :: st) fs (enc σ) Q ↔ cats st ≤ 8 ∧ Rn mX8_housesSo 0 [.ref (ad 29 0), .int y0, .null, .null] [] ((mX8_told, 138, [l0, l1], st) :: fs) (enc σ) Q := R_V (As := [.int y0]) hbX8_told hoX8_told cl_8_152 hnX8_housesSo rfl (by decide +kernel) rfl rfl rfl (isO_29 (by decide) σ) dX8_told_135
theorem dX8_told_138 : decode cX8_told 138 = .ok (.ireturn, 1) := by decide +kernel
theorem aX8_told_138 {x : Int32} {l0 l1 : Value} {fs : List Fm} {M : List va_E} {Q : List va_E → Option Value → Prop} : Rn mX8_told 138 [l0, l1] [.int x] fs M Q ↔ Rt fs M (some (.int x)) Q := R_reti hbX8_told hrX8_told dX8_told_138
theorem dX8_told_139 : decode cX8_told 139 = .ok (.aload_n 0, 1) := by decide +kernel
theorem aX8_told_139 {x : Nat} {l1 : Value} {st : List Value} {fs : List Fm} {M : List va_E} {Q : List va_E → Option Value → Prop} : Rn mX8_told 139 [.ref x, l1] st fs M Q ↔ Rn mX8_told 140 [.ref x, l1] (.ref x :: st) fs M Q := R_aload_n hbX8_told rfl dX8_told_139
theorem dX8_told_140 : decode cX8_told 140 = .ok (.invokevirtual 155, 3) := by decide +kernel
theorem aX8_told_140 {l0 l1 : Value} {st : List Value} {fs : List Fm} {σ : Mem} {Q : List va_E → Option Value → Prop} : Rn mX8_told 140 [l0, l1] (.ref (ad 29 0) :: st) fs (enc σ) Q ↔ cats st ≤ 8 ∧ Rn mX8_debts 0 [.ref (ad 29 0), .null, .null] [] ((mX8_told, 143, [l0, l1], st) :: fs) (enc σ) Q := R_V (As := []) hbX8_told hoX8_told cl_8_155 hnX8_debts rfl (by decide +kernel) rfl rfl rfl (isO_29 (by decide) σ) dX8_told_140
theorem dX8_told_143 : decode cX8_told 143 = .ok (.ireturn, 1) := by decide +kernel
theorem aX8_told_143 {x : Int32} {l0 l1 : Value} {fs : List Fm} {M : List va_E} {Q : List va_E → Option Value → Prop} : Rn mX8_told 143 [l0, l1] [.int x] fs M Q ↔ Rt fs M (some (.int x)) Q := R_reti hbX8_told hrX8_told dX8_told_143
theorem dX8_told_144 : decode cX8_told 144 = .ok (.aload_n 0, 1) := by decide +kernel
theorem aX8_told_144 {x : Nat} {l1 : Value} {st : List Value} {fs : List Fm} {M : List va_E} {Q : List va_E → Option Value → Prop} : Rn mX8_told 144 [.ref x, l1] st fs M Q ↔ Rn mX8_told 145 [.ref x, l1] (.ref x :: st) fs M Q := R_aload_n hbX8_told rfl dX8_told_144
theorem dX8_told_145 : decode cX8_told 145 = .ok (.invokevirtual 158, 3) := by decide +kernel
theorem aX8_told_145 {l0 l1 : Value} {st : List Value} {fs : List Fm} {σ : Mem} {Q : List va_E → Option Value → Prop} : Rn mX8_told 145 [l0, l1] (.ref (ad 29 0) :: st) fs (enc σ) Q ↔ cats st ≤ 8 ∧ Rn mX8_astray 0 [.ref (ad 29 0), .null, .null] [] ((mX8_told, 148, [l0, l1], st) :: fs) (enc σ) Q := R_V (As := []) hbX8_told hoX8_told cl_8_158 hnX8_astray rfl (by decide +kernel) rfl rfl rfl (isO_29 (by decide) σ) dX8_told_145
theorem dX8_told_148 : decode cX8_told 148 = .ok (.ireturn, 1) := by decide +kernel
theorem aX8_told_148 {x : Int32} {l0 l1 : Value} {fs : List Fm} {M : List va_E} {Q : List va_E → Option Value → Prop} : Rn mX8_told 148 [l0, l1] [.int x] fs M Q ↔ Rt fs M (some (.int x)) Q := R_reti hbX8_told hrX8_told dX8_told_148
theorem dX8_told_149 : decode cX8_told 149 = .ok (.aload_n 0, 1) := by decide +kernel
theorem aX8_told_149 {x : Nat} {l1 : Value} {st : List Value} {fs : List Fm} {M : List va_E} {Q : List va_E → Option Value → Prop} : Rn mX8_told 149 [.ref x, l1] st fs M Q ↔ Rn mX8_told 150 [.ref x, l1] (.ref x :: st) fs M Q := R_aload_n hbX8_told rfl dX8_told_149
theorem dX8_told_150 : decode cX8_told 150 = .ok (.invokevirtual 161, 3) := by decide +kernel
theorem aX8_told_150 {l0 l1 : Value} {st : List Value} {fs : List Fm} {σ : Mem} {Q : List va_E → Option Value → Prop} : Rn mX8_told 150 [l0, l1] (.ref (ad 29 0) :: st) fs (enc σ) Q ↔ cats st ≤ 8 ∧ Rn mX8_gap 0 [.ref (ad 29 0), .null, .null] [] ((mX8_told, 153, [l0, l1], st) :: fs) (enc σ) Q := R_V (As := []) hbX8_told hoX8_told cl_8_161 hnX8_gap rfl (by decide +kernel) rfl rfl rfl (isO_29 (by decide) σ) dX8_told_150
theorem dX8_told_153 : decode cX8_told 153 = .ok (.ireturn, 1) := by decide +kernel
theorem aX8_told_153 {x : Int32} {l0 l1 : Value} {fs : List Fm} {M : List va_E} {Q : List va_E → Option Value → Prop} : Rn mX8_told 153 [l0, l1] [.int x] fs M Q ↔ Rt fs M (some (.int x)) Q := R_reti hbX8_told hrX8_told dX8_told_153
theorem dX8_told_154 : decode cX8_told 154 = .ok (.aload_n 0, 1) := by decide +kernel
theorem aX8_told_154 {x : Nat} {l1 : Value} {st : List Value} {fs : List Fm} {M : List va_E} {Q : List va_E → Option Value → Prop} : Rn mX8_told 154 [.ref x, l1] st fs M Q ↔ Rn mX8_told 155 [.ref x, l1] (.ref x :: st) fs M Q := R_aload_n hbX8_told rfl dX8_told_154
theorem dX8_told_155 : decode cX8_told 155 = .ok (.invokevirtual 149, 3) := by decide +kernel
theorem aX8_told_155 {l0 l1 : Value} {st : List Value} {fs : List Fm} {σ : Mem} {Q : List va_E → Option Value → Prop} : Rn mX8_told 155 [l0, l1] (.ref (ad 29 0) :: st) fs (enc σ) Q ↔ cats st ≤ 8 ∧ Rn mX8_worst 0 [.ref (ad 29 0), .null, .null] [] ((mX8_told, 158, [l0, l1], st) :: fs) (enc σ) Q := R_V (As := []) hbX8_told hoX8_told cl_8_149 hnX8_worst rfl (by decide +kernel) rfl rfl rfl (isO_29 (by decide) σ) dX8_told_155
theorem dX8_told_158 : decode cX8_told 158 = .ok (.ireturn, 1) := by decide +kernel
theorem aX8_told_158 {x : Int32} {l0 l1 : Value} {fs : List Fm} {M : List va_E} {Q : List va_E → Option Value → Prop} : Rn mX8_told 158 [l0, l1] [.int x] fs M Q ↔ Rt fs M (some (.int x)) Q := R_reti hbX8_told hrX8_told dX8_told_158
theorem dX8_told_159 : decode cX8_told 159 = .ok (.aload_n 0, 1) := by decide +kernel
theorem aX8_told_159 {x : Nat} {l1 : Value} {st : List Value} {fs : List Fm} {M : List va_E} {Q : List va_E → Option Value → Prop} : Rn mX8_told 159 [.ref x, l1] st fs M Q ↔ Rn mX8_told 160 [.ref x, l1] (.ref x :: st) fs M Q := R_aload_n hbX8_told rfl dX8_told_159
theorem dX8_told_160 : decode cX8_told 160 = .ok (.getfield 53, 3) := by decide +kernel
theorem aX8_told_160 {l0 l1 : Value} {st : List Value} {fs : List Fm} {σ : Mem} {Q : List va_E → Option Value → Prop} : Rn mX8_told 160 [l0, l1] (.ref (ad 29 0) :: st) fs (enc σ) Q ↔ Rn mX8_told 163 [l0, l1] (.ref (ad 43 0) :: st) fs (enc σ) Q := R_get hbX8_told hoX8_told fl_8_53 (gf_8_15 (by decide) σ) dX8_told_160
theorem dX8_told_163 : decode cX8_told 163 = .ok (.iconst 3, 1) := by decide +kernel
theorem aX8_told_163 {l0 l1 : Value} {st : List Value} {fs : List Fm} {M : List va_E} {Q : List va_E → Option Value → Prop} : Rn mX8_told 163 [l0, l1] st fs M Q ↔ Rn mX8_told 164 [l0, l1] (.int 3 :: st) fs M Q := R_iconst hbX8_told (by decide) dX8_told_163
theorem dX8_told_164 : decode cX8_told 164 = .ok (.iaload, 1) := by decide +kernel
theorem aX8_told_164 {k i : Nat} {j : Int32} (ht : aT k = 0) (hi : i < cnt k) {l0 l1 : Value} {st : List Value} {fs : List Fm} {σ : Mem} {Q : List va_E → Option Value → Prop} : Rn mX8_told 164 [l0, l1] (.int j :: .ref (ad k i) :: st) fs (enc σ) Q ↔ vp_in j (aN k) ∧ Rn mX8_told 165 [l0, l1] (.int (σ k i j.toNatClampNeg) :: st) fs (enc σ) Q := R_iaload hbX8_told ht hi dX8_told_164
theorem dX8_told_165 : decode cX8_told 165 = .ok (.ireturn, 1) := by decide +kernel
theorem aX8_told_165 {x : Int32} {l0 l1 : Value} {fs : List Fm} {M : List va_E} {Q : List va_E → Option Value → Prop} : Rn mX8_told 165 [l0, l1] [.int x] fs M Q ↔ Rt fs M (some (.int x)) Q := R_reti hbX8_told hrX8_told dX8_told_165
theorem dX8_told_166 : decode cX8_told 166 = .ok (.aload_n 0, 1) := by decide +kernel
theorem aX8_told_166 {x : Nat} {l1 : Value} {st : List Value} {fs : List Fm} {M : List va_E} {Q : List va_E → Option Value → Prop} : Rn mX8_told 166 [.ref x, l1] st fs M Q ↔ Rn mX8_told 167 [.ref x, l1] (.ref x :: st) fs M Q := R_aload_n hbX8_told rfl dX8_told_166
theorem dX8_told_167 : decode cX8_told 167 = .ok (.getfield 132, 3) := by decide +kernel
theorem aX8_told_167 {l0 l1 : Value} {st : List Value} {fs : List Fm} {σ : Mem} {Q : List va_E → Option Value → Prop} : Rn mX8_told 167 [l0, l1] (.ref (ad 29 0) :: st) fs (enc σ) Q ↔ Rn mX8_told 170 [l0, l1] (.int (σ 29 0 24) :: st) fs (enc σ) Q := R_get hbX8_told hoX8_told fl_8_132 (gf_8_24 (by decide) σ) dX8_told_167
theorem dX8_told_170 : decode cX8_told 170 = .ok (.ireturn, 1) := by decide +kernel
theorem aX8_told_170 {x : Int32} {l0 l1 : Value} {fs : List Fm} {M : List va_E} {Q : List va_E → Option Value → Prop} : Rn mX8_told 170 [l0, l1] [.int x] fs M Q ↔ Rt fs M (some (.int x)) Q := R_reti hbX8_told hrX8_told dX8_told_170
theorem dX8_told_171 : decode cX8_told 171 = .ok (.aload_n 0, 1) := by decide +kernel
theorem aX8_told_171 {x : Nat} {l1 : Value} {st : List Value} {fs : List Fm} {M : List va_E} {Q : List va_E → Option Value → Prop} : Rn mX8_told 171 [.ref x, l1] st fs M Q ↔ Rn mX8_told 172 [.ref x, l1] (.ref x :: st) fs M Q := R_aload_n hbX8_told rfl dX8_told_171
theorem dX8_told_172 : decode cX8_told 172 = .ok (.getfield 135, 3) := by decide +kernel
theorem aX8_told_172 {l0 l1 : Value} {st : List Value} {fs : List Fm} {σ : Mem} {Q : List va_E → Option Value → Prop} : Rn mX8_told 172 [l0, l1] (.ref (ad 29 0) :: st) fs (enc σ) Q ↔ Rn mX8_told 175 [l0, l1] (.int (σ 29 0 26) :: st) fs (enc σ) Q := R_get hbX8_told hoX8_told fl_8_135 (gf_8_26 (by decide) σ) dX8_told_172
theorem dX8_told_175 : decode cX8_told 175 = .ok (.ireturn, 1) := by decide +kernel
theorem aX8_told_175 {x : Int32} {l0 l1 : Value} {fs : List Fm} {M : List va_E} {Q : List va_E → Option Value → Prop} : Rn mX8_told 175 [l0, l1] [.int x] fs M Q ↔ Rt fs M (some (.int x)) Q := R_reti hbX8_told hrX8_told dX8_told_175
theorem dX8_told_176 : decode cX8_told 176 = .ok (.aload_n 0, 1) := by decide +kernel
theorem aX8_told_176 {x : Nat} {l1 : Value} {st : List Value} {fs : List Fm} {M : List va_E} {Q : List va_E → Option Value → Prop} : Rn mX8_told 176 [.ref x, l1] st fs M Q ↔ Rn mX8_told 177 [.ref x, l1] (.ref x :: st) fs M Q := R_aload_n hbX8_told rfl dX8_told_176
theorem dX8_told_177 : decode cX8_told 177 = .ok (.getfield 129, 3) := by decide +kernel
theorem aX8_told_177 {l0 l1 : Value} {st : List Value} {fs : List Fm} {σ : Mem} {Q : List va_E → Option Value → Prop} : Rn mX8_told 177 [l0, l1] (.ref (ad 29 0) :: st) fs (enc σ) Q ↔ Rn mX8_told 180 [l0, l1] (.int (σ 29 0 18) :: st) fs (enc σ) Q := R_get hbX8_told hoX8_told fl_8_129 (gf_8_18 (by decide) σ) dX8_told_177
theorem dX8_told_180 : decode cX8_told 180 = .ok (.ireturn, 1) := by decide +kernel
theorem aX8_told_180 {x : Int32} {l0 l1 : Value} {fs : List Fm} {M : List va_E} {Q : List va_E → Option Value → Prop} : Rn mX8_told 180 [l0, l1] [.int x] fs M Q ↔ Rt fs M (some (.int x)) Q := R_reti hbX8_told hrX8_told dX8_told_180
theorem dX8_told_181 : decode cX8_told 181 = .ok (.ldc 85, 2) := by decide +kernel
theorem aX8_told_181 {l0 l1 : Value} {st : List Value} {fs : List Fm} {M : List va_E} {Q : List va_E → Option Value → Prop} : Rn mX8_told 181 [l0, l1] st fs M Q ↔ Rn mX8_told 183 [l0, l1] (.int (-1000000002) :: st) fs M Q := R_ldc hbX8_told hoX8_told kl_8_85 dX8_told_181
theorem dX8_told_183 : decode cX8_told 183 = .ok (.ireturn, 1) := by decide +kernel
theorem aX8_told_183 {x : Int32} {l0 l1 : Value} {fs : List Fm} {M : List va_E} {Q : List va_E → Option Value → Prop} : Rn mX8_told 183 [l0, l1] [.int x] fs M Q ↔ Rt fs M (some (.int x)) Q := R_reti hbX8_told hrX8_told dX8_told_183
theorem dX8_housesSo_0 : decode cX8_housesSo 0 = .ok (.iconst 0, 1) := by decide +kernel
theorem aX8_housesSo_0 {l0 l1 l2 l3 : Value} {st : List Value} {fs : List Fm} {M : List va_E} {Q : List va_E → Option Value → Prop} : Rn mX8_housesSo 0 [l0, l1, l2, l3] st fs M Q ↔ Rn mX8_housesSo 1 [l0, l1, l2, l3] (.int 0 :: st) fs M Q := R_iconst hbX8_housesSo (by decide) dX8_housesSo_0
theorem dX8_housesSo_1 : decode cX8_housesSo 1 = .ok (.istore_n 2, 1) := by decide +kernel
theorem aX8_housesSo_1 {x : Int32} {l0 l1 l2 l3 : Value} {st : List Value} {fs : List Fm} {M : List va_E} {Q : List va_E → Option Value → Prop} : Rn mX8_housesSo 1 [l0, l1, l2, l3] (.int x :: st) fs M Q ↔ Rn mX8_housesSo 2 [l0, l1, .int x, l3] st fs M Q := R_istore_n hbX8_housesSo hmX8_housesSo hlX8_housesSo (by decide) (by decide) rfl dX8_housesSo_1
theorem dX8_housesSo_2 : decode cX8_housesSo 2 = .ok (.iconst 0, 1) := by decide +kernel
theorem aX8_housesSo_2 {l0 l1 l2 l3 : Value} {st : List Value} {fs : List Fm} {M : List va_E} {Q : List va_E → Option Value → Prop} : Rn mX8_housesSo 2 [l0, l1, l2, l3] st fs M Q ↔ Rn mX8_housesSo 3 [l0, l1, l2, l3] (.int 0 :: st) fs M Q := R_iconst hbX8_housesSo (by decide) dX8_housesSo_2
theorem dX8_housesSo_3 : decode cX8_housesSo 3 = .ok (.istore_n 3, 1) := by decide +kernel
theorem aX8_housesSo_3 {x : Int32} {l0 l1 l2 l3 : Value} {st : List Value} {fs : List Fm} {M : List va_E} {Q : List va_E → Option Value → Prop} : Rn mX8_housesSo 3 [l0, l1, l2, l3] (.int x :: st) fs M Q ↔ Rn mX8_housesSo 4 [l0, l1, l2, .int x] st fs M Q := R_istore_n hbX8_housesSo hmX8_housesSo hlX8_housesSo (by decide) (by decide) rfl dX8_housesSo_3
theorem dX8_housesSo_4 : decode cX8_housesSo 4 = .ok (.iload_n 3, 1) := by decide +kernel
theorem aX8_housesSo_4 {x : Int32} {l0 l1 l2 : Value} {st : List Value} {fs : List Fm} {M : List va_E} {Q : List va_E → Option Value → Prop} : Rn mX8_housesSo 4 [l0, l1, l2, .int x] st fs M Q ↔ Rn mX8_housesSo 5 [l0, l1, l2, .int x] (.int x :: st) fs M Q := R_iload_n hbX8_housesSo rfl dX8_housesSo_4
theorem dX8_housesSo_5 : decode cX8_housesSo 5 = .ok (.aload_n 0, 1) := by decide +kernel
theorem aX8_housesSo_5 {x : Nat} {l1 l2 l3 : Value} {st : List Value} {fs : List Fm} {M : List va_E} {Q : List va_E → Option Value → Prop} : Rn mX8_housesSo 5 [.ref x, l1, l2, l3] st fs M Q ↔ Rn mX8_housesSo 6 [.ref x, l1, l2, l3] (.ref x :: st) fs M Q := R_aload_n hbX8_housesSo rfl dX8_housesSo_5
theorem dX8_housesSo_6 : decode cX8_housesSo 6 = .ok (.getfield 17, 3) := by decide +kernel
theorem aX8_housesSo_6 {l0 l1 l2 l3 : Value} {st : List Value} {fs : List Fm} {σ : Mem} {Q : List va_E → Option Value → Prop} : Rn mX8_housesSo 6 [l0, l1, l2, l3] (.ref (ad 29 0) :: st) fs (enc σ) Q ↔ Rn mX8_housesSo 9 [l0, l1, l2, l3] (.ref (ad 31 0) :: st) fs (enc σ) Q := R_get hbX8_housesSo hoX8_housesSo fl_8_17 (gf_8_3 (by decide) σ) dX8_housesSo_6
theorem dX8_housesSo_9 : decode cX8_housesSo 9 = .ok (.iconst 1, 1) := by decide +kernel
theorem aX8_housesSo_9 {l0 l1 l2 l3 : Value} {st : List Value} {fs : List Fm} {M : List va_E} {Q : List va_E → Option Value → Prop} : Rn mX8_housesSo 9 [l0, l1, l2, l3] st fs M Q ↔ Rn mX8_housesSo 10 [l0, l1, l2, l3] (.int 1 :: st) fs M Q := R_iconst hbX8_housesSo (by decide) dX8_housesSo_9
theorem dX8_housesSo_10 : decode cX8_housesSo 10 = .ok (.iaload, 1) := by decide +kernel
theorem aX8_housesSo_10 {k i : Nat} {j : Int32} (ht : aT k = 0) (hi : i < cnt k) {l0 l1 l2 l3 : Value} {st : List Value} {fs : List Fm} {σ : Mem} {Q : List va_E → Option Value → Prop} : Rn mX8_housesSo 10 [l0, l1, l2, l3] (.int j :: .ref (ad k i) :: st) fs (enc σ) Q ↔ vp_in j (aN k) ∧ Rn mX8_housesSo 11 [l0, l1, l2, l3] (.int (σ k i j.toNatClampNeg) :: st) fs (enc σ) Q := R_iaload hbX8_housesSo ht hi dX8_housesSo_10
theorem dX8_housesSo_11 : decode cX8_housesSo 11 = .ok (.if_icmp .ge 36, 3) := by decide +kernel
theorem aX8_housesSo_11 {x y : Int32} {l0 l1 l2 l3 : Value} {st : List Value} {fs : List Fm} {M : List va_E} {Q : List va_E → Option Value → Prop} : Rn mX8_housesSo 11 [l0, l1, l2, l3] (.int y :: .int x :: st) fs M Q ↔ if y ≤ x then Rn mX8_housesSo 47 [l0, l1, l2, l3] st fs M Q else Rn mX8_housesSo 14 [l0, l1, l2, l3] st fs M Q := R_icge hbX8_housesSo rfl dX8_housesSo_11
theorem dX8_housesSo_14 : decode cX8_housesSo 14 = .ok (.iload_n 2, 1) := by decide +kernel
theorem aX8_housesSo_14 {x : Int32} {l0 l1 l3 : Value} {st : List Value} {fs : List Fm} {M : List va_E} {Q : List va_E → Option Value → Prop} : Rn mX8_housesSo 14 [l0, l1, .int x, l3] st fs M Q ↔ Rn mX8_housesSo 15 [l0, l1, .int x, l3] (.int x :: st) fs M Q := R_iload_n hbX8_housesSo rfl dX8_housesSo_14
theorem dX8_housesSo_15 : decode cX8_housesSo 15 = .ok (.aload_n 0, 1) := by decide +kernel
theorem aX8_housesSo_15 {x : Nat} {l1 l2 l3 : Value} {st : List Value} {fs : List Fm} {M : List va_E} {Q : List va_E → Option Value → Prop} : Rn mX8_housesSo 15 [.ref x, l1, l2, l3] st fs M Q ↔ Rn mX8_housesSo 16 [.ref x, l1, l2, l3] (.ref x :: st) fs M Q := R_aload_n hbX8_housesSo rfl dX8_housesSo_15
theorem dX8_housesSo_16 : decode cX8_housesSo 16 = .ok (.getfield 53, 3) := by decide +kernel
theorem aX8_housesSo_16 {l0 l1 l2 l3 : Value} {st : List Value} {fs : List Fm} {σ : Mem} {Q : List va_E → Option Value → Prop} : Rn mX8_housesSo 16 [l0, l1, l2, l3] (.ref (ad 29 0) :: st) fs (enc σ) Q ↔ Rn mX8_housesSo 19 [l0, l1, l2, l3] (.ref (ad 43 0) :: st) fs (enc σ) Q := R_get hbX8_housesSo hoX8_housesSo fl_8_53 (gf_8_15 (by decide) σ) dX8_housesSo_16
theorem dX8_housesSo_19 : decode cX8_housesSo 19 = .ok (.bipush 64, 2) := by decide +kernel
theorem aX8_housesSo_19 {l0 l1 l2 l3 : Value} {st : List Value} {fs : List Fm} {M : List va_E} {Q : List va_E → Option Value → Prop} : Rn mX8_housesSo 19 [l0, l1, l2, l3] st fs M Q ↔ Rn mX8_housesSo 21 [l0, l1, l2, l3] (.int 64 :: st) fs M Q := R_bipush hbX8_housesSo (by decide) dX8_housesSo_19
theorem dX8_housesSo_21 : decode cX8_housesSo 21 = .ok (.iconst 5, 1) := by decide +kernel
theorem aX8_housesSo_21 {l0 l1 l2 l3 : Value} {st : List Value} {fs : List Fm} {M : List va_E} {Q : List va_E → Option Value → Prop} : Rn mX8_housesSo 21 [l0, l1, l2, l3] st fs M Q ↔ Rn mX8_housesSo 22 [l0, l1, l2, l3] (.int 5 :: st) fs M Q := R_iconst hbX8_housesSo (by decide) dX8_housesSo_21
theorem dX8_housesSo_22 : decode cX8_housesSo 22 = .ok (.iload_n 3, 1) := by decide +kernel
theorem aX8_housesSo_22 {x : Int32} {l0 l1 l2 : Value} {st : List Value} {fs : List Fm} {M : List va_E} {Q : List va_E → Option Value → Prop} : Rn mX8_housesSo 22 [l0, l1, l2, .int x] st fs M Q ↔ Rn mX8_housesSo 23 [l0, l1, l2, .int x] (.int x :: st) fs M Q := R_iload_n hbX8_housesSo rfl dX8_housesSo_22
theorem dX8_housesSo_23 : decode cX8_housesSo 23 = .ok (.imul, 1) := by decide +kernel
theorem aX8_housesSo_23 {x y : Int32} {l0 l1 l2 l3 : Value} {st : List Value} {fs : List Fm} {M : List va_E} {Q : List va_E → Option Value → Prop} : Rn mX8_housesSo 23 [l0, l1, l2, l3] (.int y :: .int x :: st) fs M Q ↔ Rn mX8_housesSo 24 [l0, l1, l2, l3] (.int (x * y) :: st) fs M Q := R_imul hbX8_housesSo dX8_housesSo_23
theorem dX8_housesSo_24 : decode cX8_housesSo 24 = .ok (.iadd, 1) := by decide +kernel
theorem aX8_housesSo_24 {x y : Int32} {l0 l1 l2 l3 : Value} {st : List Value} {fs : List Fm} {M : List va_E} {Q : List va_E → Option Value → Prop} : Rn mX8_housesSo 24 [l0, l1, l2, l3] (.int y :: .int x :: st) fs M Q ↔ Rn mX8_housesSo 25 [l0, l1, l2, l3] (.int (x + y) :: st) fs M Q := R_iadd hbX8_housesSo dX8_housesSo_24
theorem dX8_housesSo_25 : decode cX8_housesSo 25 = .ok (.iconst 1, 1) := by decide +kernel
theorem aX8_housesSo_25 {l0 l1 l2 l3 : Value} {st : List Value} {fs : List Fm} {M : List va_E} {Q : List va_E → Option Value → Prop} : Rn mX8_housesSo 25 [l0, l1, l2, l3] st fs M Q ↔ Rn mX8_housesSo 26 [l0, l1, l2, l3] (.int 1 :: st) fs M Q := R_iconst hbX8_housesSo (by decide) dX8_housesSo_25
theorem dX8_housesSo_26 : decode cX8_housesSo 26 = .ok (.iadd, 1) := by decide +kernel
theorem aX8_housesSo_26 {x y : Int32} {l0 l1 l2 l3 : Value} {st : List Value} {fs : List Fm} {M : List va_E} {Q : List va_E → Option Value → Prop} : Rn mX8_housesSo 26 [l0, l1, l2, l3] (.int y :: .int x :: st) fs M Q ↔ Rn mX8_housesSo 27 [l0, l1, l2, l3] (.int (x + y) :: st) fs M Q := R_iadd hbX8_housesSo dX8_housesSo_26
theorem dX8_housesSo_27 : decode cX8_housesSo 27 = .ok (.iaload, 1) := by decide +kernel
theorem aX8_housesSo_27 {k i : Nat} {j : Int32} (ht : aT k = 0) (hi : i < cnt k) {l0 l1 l2 l3 : Value} {st : List Value} {fs : List Fm} {σ : Mem} {Q : List va_E → Option Value → Prop} : Rn mX8_housesSo 27 [l0, l1, l2, l3] (.int j :: .ref (ad k i) :: st) fs (enc σ) Q ↔ vp_in j (aN k) ∧ Rn mX8_housesSo 28 [l0, l1, l2, l3] (.int (σ k i j.toNatClampNeg) :: st) fs (enc σ) Q := R_iaload hbX8_housesSo ht hi dX8_housesSo_27
theorem dX8_housesSo_28 : decode cX8_housesSo 28 = .ok (.iload_n 1, 1) := by decide +kernel
theorem aX8_housesSo_28 {x : Int32} {l0 l2 l3 : Value} {st : List Value} {fs : List Fm} {M : List va_E} {Q : List va_E → Option Value → Prop} : Rn mX8_housesSo 28 [l0, .int x, l2, l3] st fs M Q ↔ Rn mX8_housesSo 29 [l0, .int x, l2, l3] (.int x :: st) fs M Q := R_iload_n hbX8_housesSo rfl dX8_housesSo_28
theorem dX8_housesSo_29 : decode cX8_housesSo 29 = .ok (.if_icmp .ne 9, 3) := by decide +kernel
theorem aX8_housesSo_29 {x y : Int32} {l0 l1 l2 l3 : Value} {st : List Value} {fs : List Fm} {M : List va_E} {Q : List va_E → Option Value → Prop} : Rn mX8_housesSo 29 [l0, l1, l2, l3] (.int y :: .int x :: st) fs M Q ↔ if ¬ x = y then Rn mX8_housesSo 38 [l0, l1, l2, l3] st fs M Q else Rn mX8_housesSo 32 [l0, l1, l2, l3] st fs M Q := R_icne hbX8_housesSo rfl dX8_housesSo_29
theorem dX8_housesSo_32 : decode cX8_housesSo 32 = .ok (.iconst 1, 1) := by decide +kernel
theorem aX8_housesSo_32 {l0 l1 l2 l3 : Value} {st : List Value} {fs : List Fm} {M : List va_E} {Q : List va_E → Option Value → Prop} : Rn mX8_housesSo 32 [l0, l1, l2, l3] st fs M Q ↔ Rn mX8_housesSo 33 [l0, l1, l2, l3] (.int 1 :: st) fs M Q := R_iconst hbX8_housesSo (by decide) dX8_housesSo_32
theorem dX8_housesSo_33 : decode cX8_housesSo 33 = .ok (.iload_n 3, 1) := by decide +kernel
theorem aX8_housesSo_33 {x : Int32} {l0 l1 l2 : Value} {st : List Value} {fs : List Fm} {M : List va_E} {Q : List va_E → Option Value → Prop} : Rn mX8_housesSo 33 [l0, l1, l2, .int x] st fs M Q ↔ Rn mX8_housesSo 34 [l0, l1, l2, .int x] (.int x :: st) fs M Q := R_iload_n hbX8_housesSo rfl dX8_housesSo_33
theorem dX8_housesSo_34 : decode cX8_housesSo 34 = .ok (.ishl, 1) := by decide +kernel
theorem aX8_housesSo_34 {x y : Int32} {l0 l1 l2 l3 : Value} {st : List Value} {fs : List Fm} {M : List va_E} {Q : List va_E → Option Value → Prop} : Rn mX8_housesSo 34 [l0, l1, l2, l3] (.int y :: .int x :: st) fs M Q ↔ Rn mX8_housesSo 35 [l0, l1, l2, l3] (.int (x <<< (y &&& 31)) :: st) fs M Q := R_ishl hbX8_housesSo dX8_housesSo_34
theorem dX8_housesSo_35 : decode cX8_housesSo 35 = .ok (.goto 4, 3) := by decide +kernel
theorem aX8_housesSo_35 {l0 l1 l2 l3 : Value} {st : List Value} {fs : List Fm} {M : List va_E} {Q : List va_E → Option Value → Prop} : Rn mX8_housesSo 35 [l0, l1, l2, l3] st fs M Q ↔ Rn mX8_housesSo 39 [l0, l1, l2, l3] st fs M Q := R_goto hbX8_housesSo rfl dX8_housesSo_35
theorem dX8_housesSo_38 : decode cX8_housesSo 38 = .ok (.iconst 0, 1) := by decide +kernel
theorem aX8_housesSo_38 {l0 l1 l2 l3 : Value} {st : List Value} {fs : List Fm} {M : List va_E} {Q : List va_E → Option Value → Prop} : Rn mX8_housesSo 38 [l0, l1, l2, l3] st fs M Q ↔ Rn mX8_housesSo 39 [l0, l1, l2, l3] (.int 0 :: st) fs M Q := R_iconst hbX8_housesSo (by decide) dX8_housesSo_38
theorem dX8_housesSo_39 : decode cX8_housesSo 39 = .ok (.ior, 1) := by decide +kernel
theorem aX8_housesSo_39 {x y : Int32} {l0 l1 l2 l3 : Value} {st : List Value} {fs : List Fm} {M : List va_E} {Q : List va_E → Option Value → Prop} : Rn mX8_housesSo 39 [l0, l1, l2, l3] (.int y :: .int x :: st) fs M Q ↔ Rn mX8_housesSo 40 [l0, l1, l2, l3] (.int (x ||| y) :: st) fs M Q := R_ior hbX8_housesSo dX8_housesSo_39
theorem dX8_housesSo_40 : decode cX8_housesSo 40 = .ok (.istore_n 2, 1) := by decide +kernel
theorem aX8_housesSo_40 {x : Int32} {l0 l1 l2 l3 : Value} {st : List Value} {fs : List Fm} {M : List va_E} {Q : List va_E → Option Value → Prop} : Rn mX8_housesSo 40 [l0, l1, l2, l3] (.int x :: st) fs M Q ↔ Rn mX8_housesSo 41 [l0, l1, .int x, l3] st fs M Q := R_istore_n hbX8_housesSo hmX8_housesSo hlX8_housesSo (by decide) (by decide) rfl dX8_housesSo_40
theorem dX8_housesSo_41 : decode cX8_housesSo 41 = .ok (.iinc 3 1, 3) := by decide +kernel
theorem aX8_housesSo_41 {x : Int32} {l0 l1 l2 : Value} {st : List Value} {fs : List Fm} {M : List va_E} {Q : List va_E → Option Value → Prop} : Rn mX8_housesSo 41 [l0, l1, l2, .int x] st fs M Q ↔ Rn mX8_housesSo 44 [l0, l1, l2, .int (x + 1)] st fs M Q := R_iinc hbX8_housesSo hmX8_housesSo hlX8_housesSo (by decide) (by decide) rfl (by decide) rfl dX8_housesSo_41
theorem dX8_housesSo_44 : decode cX8_housesSo 44 = .ok (.goto (-40), 3) := by decide +kernel
theorem aX8_housesSo_44 {l0 l1 l2 l3 : Value} {st : List Value} {fs : List Fm} {M : List va_E} {Q : List va_E → Option Value → Prop} : Rn mX8_housesSo 44 [l0, l1, l2, l3] st fs M Q ↔ Rn mX8_housesSo 4 [l0, l1, l2, l3] st fs M Q := R_goto hbX8_housesSo rfl dX8_housesSo_44
theorem dX8_housesSo_47 : decode cX8_housesSo 47 = .ok (.iload_n 2, 1) := by decide +kernel
theorem aX8_housesSo_47 {x : Int32} {l0 l1 l3 : Value} {st : List Value} {fs : List Fm} {M : List va_E} {Q : List va_E → Option Value → Prop} : Rn mX8_housesSo 47 [l0, l1, .int x, l3] st fs M Q ↔ Rn mX8_housesSo 48 [l0, l1, .int x, l3] (.int x :: st) fs M Q := R_iload_n hbX8_housesSo rfl dX8_housesSo_47
theorem dX8_housesSo_48 : decode cX8_housesSo 48 = .ok (.ireturn, 1) := by decide +kernel
theorem aX8_housesSo_48 {x : Int32} {l0 l1 l2 l3 : Value} {fs : List Fm} {M : List va_E} {Q : List va_E → Option Value → Prop} : Rn mX8_housesSo 48 [l0, l1, l2, l3] [.int x] fs M Q ↔ Rt fs M (some (.int x)) Q := R_reti hbX8_housesSo hrX8_housesSo dX8_housesSo_48
theorem dX8_debts_0 : decode cX8_debts 0 = .ok (.iconst 0, 1) := by decide +kernel
theorem aX8_debts_0 {l0 l1 l2 : Value} {st : List Value} {fs : List Fm} {M : List va_E} {Q : List va_E → Option Value → Prop} : Rn mX8_debts 0 [l0, l1, l2] st fs M Q ↔ Rn mX8_debts 1 [l0, l1, l2] (.int 0 :: st) fs M Q := R_iconst hbX8_debts (by decide) dX8_debts_0
theorem dX8_debts_1 : decode cX8_debts 1 = .ok (.istore_n 1, 1) := by decide +kernel
theorem aX8_debts_1 {x : Int32} {l0 l1 l2 : Value} {st : List Value} {fs : List Fm} {M : List va_E} {Q : List va_E → Option Value → Prop} : Rn mX8_debts 1 [l0, l1, l2] (.int x :: st) fs M Q ↔ Rn mX8_debts 2 [l0, .int x, l2] st fs M Q := R_istore_n hbX8_debts hmX8_debts hlX8_debts (by decide) (by decide) rfl dX8_debts_1
theorem dX8_debts_2 : decode cX8_debts 2 = .ok (.iconst 0, 1) := by decide +kernel
theorem aX8_debts_2 {l0 l1 l2 : Value} {st : List Value} {fs : List Fm} {M : List va_E} {Q : List va_E → Option Value → Prop} : Rn mX8_debts 2 [l0, l1, l2] st fs M Q ↔ Rn mX8_debts 3 [l0, l1, l2] (.int 0 :: st) fs M Q := R_iconst hbX8_debts (by decide) dX8_debts_2
theorem dX8_debts_3 : decode cX8_debts 3 = .ok (.istore_n 2, 1) := by decide +kernel
theorem aX8_debts_3 {x : Int32} {l0 l1 l2 : Value} {st : List Value} {fs : List Fm} {M : List va_E} {Q : List va_E → Option Value → Prop} : Rn mX8_debts 3 [l0, l1, l2] (.int x :: st) fs M Q ↔ Rn mX8_debts 4 [l0, l1, .int x] st fs M Q := R_istore_n hbX8_debts hmX8_debts hlX8_debts (by decide) (by decide) rfl dX8_debts_3
theorem dX8_debts_4 : decode cX8_debts 4 = .ok (.iload_n 2, 1) := by decide +kernel
theorem aX8_debts_4 {x : Int32} {l0 l1 : Value} {st : List Value} {fs : List Fm} {M : List va_E} {Q : List va_E → Option Value → Prop} : Rn mX8_debts 4 [l0, l1, .int x] st fs M Q ↔ Rn mX8_debts 5 [l0, l1, .int x] (.int x :: st) fs M Q := R_iload_n hbX8_debts rfl dX8_debts_4
theorem dX8_debts_5 : decode cX8_debts 5 = .ok (.aload_n 0, 1) := by decide +kernel
theorem aX8_debts_5 {x : Nat} {l1 l2 : Value} {st : List Value} {fs : List Fm} {M : List va_E} {Q : List va_E → Option Value → Prop} : Rn mX8_debts 5 [.ref x, l1, l2] st fs M Q ↔ Rn mX8_debts 6 [.ref x, l1, l2] (.ref x :: st) fs M Q := R_aload_n hbX8_debts rfl dX8_debts_5
theorem dX8_debts_6 : decode cX8_debts 6 = .ok (.getfield 17, 3) := by decide +kernel
theorem aX8_debts_6 {l0 l1 l2 : Value} {st : List Value} {fs : List Fm} {σ : Mem} {Q : List va_E → Option Value → Prop} : Rn mX8_debts 6 [l0, l1, l2] (.ref (ad 29 0) :: st) fs (enc σ) Q ↔ Rn mX8_debts 9 [l0, l1, l2] (.ref (ad 31 0) :: st) fs (enc σ) Q := R_get hbX8_debts hoX8_debts fl_8_17 (gf_8_3 (by decide) σ) dX8_debts_6
theorem dX8_debts_9 : decode cX8_debts 9 = .ok (.iconst 1, 1) := by decide +kernel
theorem aX8_debts_9 {l0 l1 l2 : Value} {st : List Value} {fs : List Fm} {M : List va_E} {Q : List va_E → Option Value → Prop} : Rn mX8_debts 9 [l0, l1, l2] st fs M Q ↔ Rn mX8_debts 10 [l0, l1, l2] (.int 1 :: st) fs M Q := R_iconst hbX8_debts (by decide) dX8_debts_9
theorem dX8_debts_10 : decode cX8_debts 10 = .ok (.iaload, 1) := by decide +kernel
theorem aX8_debts_10 {k i : Nat} {j : Int32} (ht : aT k = 0) (hi : i < cnt k) {l0 l1 l2 : Value} {st : List Value} {fs : List Fm} {σ : Mem} {Q : List va_E → Option Value → Prop} : Rn mX8_debts 10 [l0, l1, l2] (.int j :: .ref (ad k i) :: st) fs (enc σ) Q ↔ vp_in j (aN k) ∧ Rn mX8_debts 11 [l0, l1, l2] (.int (σ k i j.toNatClampNeg) :: st) fs (enc σ) Q := R_iaload hbX8_debts ht hi dX8_debts_10
theorem dX8_debts_11 : decode cX8_debts 11 = .ok (.if_icmp .ge 29, 3) := by decide +kernel
theorem aX8_debts_11 {x y : Int32} {l0 l1 l2 : Value} {st : List Value} {fs : List Fm} {M : List va_E} {Q : List va_E → Option Value → Prop} : Rn mX8_debts 11 [l0, l1, l2] (.int y :: .int x :: st) fs M Q ↔ if y ≤ x then Rn mX8_debts 40 [l0, l1, l2] st fs M Q else Rn mX8_debts 14 [l0, l1, l2] st fs M Q := R_icge hbX8_debts rfl dX8_debts_11
theorem dX8_debts_14 : decode cX8_debts 14 = .ok (.iload_n 1, 1) := by decide +kernel
theorem aX8_debts_14 {x : Int32} {l0 l2 : Value} {st : List Value} {fs : List Fm} {M : List va_E} {Q : List va_E → Option Value → Prop} : Rn mX8_debts 14 [l0, .int x, l2] st fs M Q ↔ Rn mX8_debts 15 [l0, .int x, l2] (.int x :: st) fs M Q := R_iload_n hbX8_debts rfl dX8_debts_14
theorem dX8_debts_15 : decode cX8_debts 15 = .ok (.aload_n 0, 1) := by decide +kernel
theorem aX8_debts_15 {x : Nat} {l1 l2 : Value} {st : List Value} {fs : List Fm} {M : List va_E} {Q : List va_E → Option Value → Prop} : Rn mX8_debts 15 [.ref x, l1, l2] st fs M Q ↔ Rn mX8_debts 16 [.ref x, l1, l2] (.ref x :: st) fs M Q := R_aload_n hbX8_debts rfl dX8_debts_15
theorem dX8_debts_16 : decode cX8_debts 16 = .ok (.iload_n 2, 1) := by decide +kernel
theorem aX8_debts_16 {x : Int32} {l0 l1 : Value} {st : List Value} {fs : List Fm} {M : List va_E} {Q : List va_E → Option Value → Prop} : Rn mX8_debts 16 [l0, l1, .int x] st fs M Q ↔ Rn mX8_debts 17 [l0, l1, .int x] (.int x :: st) fs M Q := R_iload_n hbX8_debts rfl dX8_debts_16
theorem dX8_debts_17 : decode cX8_debts 17 = .ok (.invokevirtual 138, 3) := by decide +kernel
theorem aX8_debts_17 {y0 : Int32} {l0 l1 l2 : Value} {st : List Value} {fs : List Fm} {σ : Mem} {Q : List va_E → Option Value → Prop} : Rn mX8_debts 17 [l0, l1, l2] (.int y0 :: .ref (ad 29 0) :: st) fs (enc σ) Q ↔ cats st ≤ 8 ∧ Rn mX8_isHeld 0 [.ref (ad 29 0), .int y0] [] ((mX8_debts, 20, [l0, l1, l2], st) :: fs) (enc σ) Q := R_V (As := [.int y0]) hbX8_debts hoX8_debts cl_8_138 hnX8_isHeld rfl (by decide +kernel) rfl rfl rfl (isO_29 (by decide) σ) dX8_debts_17
theorem dX8_debts_20 : decode cX8_debts 20 = .ok (.ifCond .eq 11, 3) := by decide +kernel
theorem aX8_debts_20 {x : Int32} {l0 l1 l2 : Value} {st : List Value} {fs : List Fm} {M : List va_E} {Q : List va_E → Option Value → Prop} : Rn mX8_debts 20 [l0, l1, l2] (.int x :: st) fs M Q ↔ if x = 0 then Rn mX8_debts 31 [l0, l1, l2] st fs M Q else Rn mX8_debts 23 [l0, l1, l2] st fs M Q := R_ifeq hbX8_debts rfl dX8_debts_20
theorem dX8_debts_23 : decode cX8_debts 23 = .ok (.aload_n 0, 1) := by decide +kernel
theorem aX8_debts_23 {x : Nat} {l1 l2 : Value} {st : List Value} {fs : List Fm} {M : List va_E} {Q : List va_E → Option Value → Prop} : Rn mX8_debts 23 [.ref x, l1, l2] st fs M Q ↔ Rn mX8_debts 24 [.ref x, l1, l2] (.ref x :: st) fs M Q := R_aload_n hbX8_debts rfl dX8_debts_23
theorem dX8_debts_24 : decode cX8_debts 24 = .ok (.iload_n 2, 1) := by decide +kernel
theorem aX8_debts_24 {x : Int32} {l0 l1 : Value} {st : List Value} {fs : List Fm} {M : List va_E} {Q : List va_E → Option Value → Prop} : Rn mX8_debts 24 [l0, l1, .int x] st fs M Q ↔ Rn mX8_debts 25 [l0, l1, .int x] (.int x :: st) fs M Q := R_iload_n hbX8_debts rfl dX8_debts_24
theorem dX8_debts_25 : decode cX8_debts 25 = .ok (.invokevirtual 142, 3) := by decide +kernel
theorem aX8_debts_25 {y0 : Int32} {l0 l1 l2 : Value} {st : List Value} {fs : List Fm} {σ : Mem} {Q : List va_E → Option Value → Prop} : Rn mX8_debts 25 [l0, l1, l2] (.int y0 :: .ref (ad 29 0) :: st) fs (enc σ) Q ↔ cats st ≤ 8 ∧ Rn mX8_debtOf 0 [.ref (ad 29 0), .int y0] [] ((mX8_debts, 28, [l0, l1, l2], st) :: fs) (enc σ) Q := R_V (As := [.int y0]) hbX8_debts hoX8_debts cl_8_142 hnX8_debtOf rfl (by decide +kernel) rfl rfl rfl (isO_29 (by decide) σ) dX8_debts_25
theorem dX8_debts_28 : decode cX8_debts 28 = .ok (.goto 4, 3) := by decide +kernel
theorem aX8_debts_28 {l0 l1 l2 : Value} {st : List Value} {fs : List Fm} {M : List va_E} {Q : List va_E → Option Value → Prop} : Rn mX8_debts 28 [l0, l1, l2] st fs M Q ↔ Rn mX8_debts 32 [l0, l1, l2] st fs M Q := R_goto hbX8_debts rfl dX8_debts_28
theorem dX8_debts_31 : decode cX8_debts 31 = .ok (.iconst 0, 1) := by decide +kernel
theorem aX8_debts_31 {l0 l1 l2 : Value} {st : List Value} {fs : List Fm} {M : List va_E} {Q : List va_E → Option Value → Prop} : Rn mX8_debts 31 [l0, l1, l2] st fs M Q ↔ Rn mX8_debts 32 [l0, l1, l2] (.int 0 :: st) fs M Q := R_iconst hbX8_debts (by decide) dX8_debts_31
theorem dX8_debts_32 : decode cX8_debts 32 = .ok (.iadd, 1) := by decide +kernel
theorem aX8_debts_32 {x y : Int32} {l0 l1 l2 : Value} {st : List Value} {fs : List Fm} {M : List va_E} {Q : List va_E → Option Value → Prop} : Rn mX8_debts 32 [l0, l1, l2] (.int y :: .int x :: st) fs M Q ↔ Rn mX8_debts 33 [l0, l1, l2] (.int (x + y) :: st) fs M Q := R_iadd hbX8_debts dX8_debts_32
theorem dX8_debts_33 : decode cX8_debts 33 = .ok (.istore_n 1, 1) := by decide +kernel
theorem aX8_debts_33 {x : Int32} {l0 l1 l2 : Value} {st : List Value} {fs : List Fm} {M : List va_E} {Q : List va_E → Option Value → Prop} : Rn mX8_debts 33 [l0, l1, l2] (.int x :: st) fs M Q ↔ Rn mX8_debts 34 [l0, .int x, l2] st fs M Q := R_istore_n hbX8_debts hmX8_debts hlX8_debts (by decide) (by decide) rfl dX8_debts_33
theorem dX8_debts_34 : decode cX8_debts 34 = .ok (.iinc 2 1, 3) := by decide +kernel
theorem aX8_debts_34 {x : Int32} {l0 l1 : Value} {st : List Value} {fs : List Fm} {M : List va_E} {Q : List va_E → Option Value → Prop} : Rn mX8_debts 34 [l0, l1, .int x] st fs M Q ↔ Rn mX8_debts 37 [l0, l1, .int (x + 1)] st fs M Q := R_iinc hbX8_debts hmX8_debts hlX8_debts (by decide) (by decide) rfl (by decide) rfl dX8_debts_34
theorem dX8_debts_37 : decode cX8_debts 37 = .ok (.goto (-33), 3) := by decide +kernel
theorem aX8_debts_37 {l0 l1 l2 : Value} {st : List Value} {fs : List Fm} {M : List va_E} {Q : List va_E → Option Value → Prop} : Rn mX8_debts 37 [l0, l1, l2] st fs M Q ↔ Rn mX8_debts 4 [l0, l1, l2] st fs M Q := R_goto hbX8_debts rfl dX8_debts_37
theorem dX8_debts_40 : decode cX8_debts 40 = .ok (.iload_n 1, 1) := by decide +kernel
theorem aX8_debts_40 {x : Int32} {l0 l2 : Value} {st : List Value} {fs : List Fm} {M : List va_E} {Q : List va_E → Option Value → Prop} : Rn mX8_debts 40 [l0, .int x, l2] st fs M Q ↔ Rn mX8_debts 41 [l0, .int x, l2] (.int x :: st) fs M Q := R_iload_n hbX8_debts rfl dX8_debts_40
theorem dX8_debts_41 : decode cX8_debts 41 = .ok (.ireturn, 1) := by decide +kernel
theorem aX8_debts_41 {x : Int32} {l0 l1 l2 : Value} {fs : List Fm} {M : List va_E} {Q : List va_E → Option Value → Prop} : Rn mX8_debts 41 [l0, l1, l2] [.int x] fs M Q ↔ Rt fs M (some (.int x)) Q := R_reti hbX8_debts hrX8_debts dX8_debts_41
theorem dX8_isHeld_0 : decode cX8_isHeld 0 = .ok (.aload_n 0, 1) := by decide +kernel
theorem aX8_isHeld_0 {x : Nat} {l1 : Value} {st : List Value} {fs : List Fm} {M : List va_E} {Q : List va_E → Option Value → Prop} : Rn mX8_isHeld 0 [.ref x, l1] st fs M Q ↔ Rn mX8_isHeld 1 [.ref x, l1] (.ref x :: st) fs M Q := R_aload_n hbX8_isHeld rfl dX8_isHeld_0
theorem dX8_isHeld_1 : decode cX8_isHeld 1 = .ok (.getfield 53, 3) := by decide +kernel
theorem aX8_isHeld_1 {l0 l1 : Value} {st : List Value} {fs : List Fm} {σ : Mem} {Q : List va_E → Option Value → Prop} : Rn mX8_isHeld 1 [l0, l1] (.ref (ad 29 0) :: st) fs (enc σ) Q ↔ Rn mX8_isHeld 4 [l0, l1] (.ref (ad 43 0) :: st) fs (enc σ) Q := R_get hbX8_isHeld hoX8_isHeld fl_8_53 (gf_8_15 (by decide) σ) dX8_isHeld_1
theorem dX8_isHeld_4 : decode cX8_isHeld 4 = .ok (.bipush 64, 2) := by decide +kernel
theorem aX8_isHeld_4 {l0 l1 : Value} {st : List Value} {fs : List Fm} {M : List va_E} {Q : List va_E → Option Value → Prop} : Rn mX8_isHeld 4 [l0, l1] st fs M Q ↔ Rn mX8_isHeld 6 [l0, l1] (.int 64 :: st) fs M Q := R_bipush hbX8_isHeld (by decide) dX8_isHeld_4
theorem dX8_isHeld_6 : decode cX8_isHeld 6 = .ok (.iconst 5, 1) := by decide +kernel
theorem aX8_isHeld_6 {l0 l1 : Value} {st : List Value} {fs : List Fm} {M : List va_E} {Q : List va_E → Option Value → Prop} : Rn mX8_isHeld 6 [l0, l1] st fs M Q ↔ Rn mX8_isHeld 7 [l0, l1] (.int 5 :: st) fs M Q := R_iconst hbX8_isHeld (by decide) dX8_isHeld_6
theorem dX8_isHeld_7 : decode cX8_isHeld 7 = .ok (.iload_n 1, 1) := by decide +kernel
theorem aX8_isHeld_7 {x : Int32} {l0 : Value} {st : List Value} {fs : List Fm} {M : List va_E} {Q : List va_E → Option Value → Prop} : Rn mX8_isHeld 7 [l0, .int x] st fs M Q ↔ Rn mX8_isHeld 8 [l0, .int x] (.int x :: st) fs M Q := R_iload_n hbX8_isHeld rfl dX8_isHeld_7
theorem dX8_isHeld_8 : decode cX8_isHeld 8 = .ok (.imul, 1) := by decide +kernel
theorem aX8_isHeld_8 {x y : Int32} {l0 l1 : Value} {st : List Value} {fs : List Fm} {M : List va_E} {Q : List va_E → Option Value → Prop} : Rn mX8_isHeld 8 [l0, l1] (.int y :: .int x :: st) fs M Q ↔ Rn mX8_isHeld 9 [l0, l1] (.int (x * y) :: st) fs M Q := R_imul hbX8_isHeld dX8_isHeld_8
theorem dX8_isHeld_9 : decode cX8_isHeld 9 = .ok (.iadd, 1) := by decide +kernel
theorem aX8_isHeld_9 {x y : Int32} {l0 l1 : Value} {st : List Value} {fs : List Fm} {M : List va_E} {Q : List va_E → Option Value → Prop} : Rn mX8_isHeld 9 [l0, l1] (.int y :: .int x :: st) fs M Q ↔ Rn mX8_isHeld 10 [l0, l1] (.int (x + y) :: st) fs M Q := R_iadd hbX8_isHeld dX8_isHeld_9
theorem dX8_isHeld_10 : decode cX8_isHeld 10 = .ok (.iconst 1, 1) := by decide +kernel
theorem aX8_isHeld_10 {l0 l1 : Value} {st : List Value} {fs : List Fm} {M : List va_E} {Q : List va_E → Option Value → Prop} : Rn mX8_isHeld 10 [l0, l1] st fs M Q ↔ Rn mX8_isHeld 11 [l0, l1] (.int 1 :: st) fs M Q := R_iconst hbX8_isHeld (by decide) dX8_isHeld_10
theorem dX8_isHeld_11 : decode cX8_isHeld 11 = .ok (.iadd, 1) := by decide +kernel
theorem aX8_isHeld_11 {x y : Int32} {l0 l1 : Value} {st : List Value} {fs : List Fm} {M : List va_E} {Q : List va_E → Option Value → Prop} : Rn mX8_isHeld 11 [l0, l1] (.int y :: .int x :: st) fs M Q ↔ Rn mX8_isHeld 12 [l0, l1] (.int (x + y) :: st) fs M Q := R_iadd hbX8_isHeld dX8_isHeld_11
theorem dX8_isHeld_12 : decode cX8_isHeld 12 = .ok (.iaload, 1) := by decide +kernel
theorem aX8_isHeld_12 {k i : Nat} {j : Int32} (ht : aT k = 0) (hi : i < cnt k) {l0 l1 : Value} {st : List Value} {fs : List Fm} {σ : Mem} {Q : List va_E → Option Value → Prop} : Rn mX8_isHeld 12 [l0, l1] (.int j :: .ref (ad k i) :: st) fs (enc σ) Q ↔ vp_in j (aN k) ∧ Rn mX8_isHeld 13 [l0, l1] (.int (σ k i j.toNatClampNeg) :: st) fs (enc σ) Q := R_iaload hbX8_isHeld ht hi dX8_isHeld_12
theorem dX8_isHeld_13 : decode cX8_isHeld 13 = .ok (.ifCond .ne 7, 3) := by decide +kernel
theorem aX8_isHeld_13 {x : Int32} {l0 l1 : Value} {st : List Value} {fs : List Fm} {M : List va_E} {Q : List va_E → Option Value → Prop} : Rn mX8_isHeld 13 [l0, l1] (.int x :: st) fs M Q ↔ if ¬ x = 0 then Rn mX8_isHeld 20 [l0, l1] st fs M Q else Rn mX8_isHeld 16 [l0, l1] st fs M Q := R_ifne hbX8_isHeld rfl dX8_isHeld_13
theorem dX8_isHeld_16 : decode cX8_isHeld 16 = .ok (.iconst 1, 1) := by decide +kernel
theorem aX8_isHeld_16 {l0 l1 : Value} {st : List Value} {fs : List Fm} {M : List va_E} {Q : List va_E → Option Value → Prop} : Rn mX8_isHeld 16 [l0, l1] st fs M Q ↔ Rn mX8_isHeld 17 [l0, l1] (.int 1 :: st) fs M Q := R_iconst hbX8_isHeld (by decide) dX8_isHeld_16
theorem dX8_isHeld_17 : decode cX8_isHeld 17 = .ok (.goto 4, 3) := by decide +kernel
theorem aX8_isHeld_17 {l0 l1 : Value} {st : List Value} {fs : List Fm} {M : List va_E} {Q : List va_E → Option Value → Prop} : Rn mX8_isHeld 17 [l0, l1] st fs M Q ↔ Rn mX8_isHeld 21 [l0, l1] st fs M Q := R_goto hbX8_isHeld rfl dX8_isHeld_17
theorem dX8_isHeld_20 : decode cX8_isHeld 20 = .ok (.iconst 0, 1) := by decide +kernel
theorem aX8_isHeld_20 {l0 l1 : Value} {st : List Value} {fs : List Fm} {M : List va_E} {Q : List va_E → Option Value → Prop} : Rn mX8_isHeld 20 [l0, l1] st fs M Q ↔ Rn mX8_isHeld 21 [l0, l1] (.int 0 :: st) fs M Q := R_iconst hbX8_isHeld (by decide) dX8_isHeld_20
theorem dX8_isHeld_21 : decode cX8_isHeld 21 = .ok (.ireturn, 1) := by decide +kernel
theorem aX8_isHeld_21 {x : Int32} {l0 l1 : Value} {fs : List Fm} {M : List va_E} {Q : List va_E → Option Value → Prop} : Rn mX8_isHeld 21 [l0, l1] [.int x] fs M Q ↔ isB x ∧ Rt fs M (some (.int x)) Q := R_retz hbX8_isHeld hrX8_isHeld dX8_isHeld_21
theorem dX8_debtOf_0 : decode cX8_debtOf 0 = .ok (.aload_n 0, 1) := by decide +kernel
theorem aX8_debtOf_0 {x : Nat} {l1 : Value} {st : List Value} {fs : List Fm} {M : List va_E} {Q : List va_E → Option Value → Prop} : Rn mX8_debtOf 0 [.ref x, l1] st fs M Q ↔ Rn mX8_debtOf 1 [.ref x, l1] (.ref x :: st) fs M Q := R_aload_n hbX8_debtOf rfl dX8_debtOf_0
theorem dX8_debtOf_1 : decode cX8_debtOf 1 = .ok (.getfield 53, 3) := by decide +kernel
theorem aX8_debtOf_1 {l0 l1 : Value} {st : List Value} {fs : List Fm} {σ : Mem} {Q : List va_E → Option Value → Prop} : Rn mX8_debtOf 1 [l0, l1] (.ref (ad 29 0) :: st) fs (enc σ) Q ↔ Rn mX8_debtOf 4 [l0, l1] (.ref (ad 43 0) :: st) fs (enc σ) Q := R_get hbX8_debtOf hoX8_debtOf fl_8_53 (gf_8_15 (by decide) σ) dX8_debtOf_1
theorem dX8_debtOf_4 : decode cX8_debtOf 4 = .ok (.bipush 64, 2) := by decide +kernel
theorem aX8_debtOf_4 {l0 l1 : Value} {st : List Value} {fs : List Fm} {M : List va_E} {Q : List va_E → Option Value → Prop} : Rn mX8_debtOf 4 [l0, l1] st fs M Q ↔ Rn mX8_debtOf 6 [l0, l1] (.int 64 :: st) fs M Q := R_bipush hbX8_debtOf (by decide) dX8_debtOf_4
theorem dX8_debtOf_6 : decode cX8_debtOf 6 = .ok (.iconst 5, 1) := by decide +kernel
theorem aX8_debtOf_6 {l0 l1 : Value} {st : List Value} {fs : List Fm} {M : List va_E} {Q : List va_E → Option Value → Prop} : Rn mX8_debtOf 6 [l0, l1] st fs M Q ↔ Rn mX8_debtOf 7 [l0, l1] (.int 5 :: st) fs M Q := R_iconst hbX8_debtOf (by decide) dX8_debtOf_6
theorem dX8_debtOf_7 : decode cX8_debtOf 7 = .ok (.iload_n 1, 1) := by decide +kernel
theorem aX8_debtOf_7 {x : Int32} {l0 : Value} {st : List Value} {fs : List Fm} {M : List va_E} {Q : List va_E → Option Value → Prop} : Rn mX8_debtOf 7 [l0, .int x] st fs M Q ↔ Rn mX8_debtOf 8 [l0, .int x] (.int x :: st) fs M Q := R_iload_n hbX8_debtOf rfl dX8_debtOf_7
theorem dX8_debtOf_8 : decode cX8_debtOf 8 = .ok (.imul, 1) := by decide +kernel
theorem aX8_debtOf_8 {x y : Int32} {l0 l1 : Value} {st : List Value} {fs : List Fm} {M : List va_E} {Q : List va_E → Option Value → Prop} : Rn mX8_debtOf 8 [l0, l1] (.int y :: .int x :: st) fs M Q ↔ Rn mX8_debtOf 9 [l0, l1] (.int (x * y) :: st) fs M Q := R_imul hbX8_debtOf dX8_debtOf_8
theorem dX8_debtOf_9 : decode cX8_debtOf 9 = .ok (.iadd, 1) := by decide +kernel
theorem aX8_debtOf_9 {x y : Int32} {l0 l1 : Value} {st : List Value} {fs : List Fm} {M : List va_E} {Q : List va_E → Option Value → Prop} : Rn mX8_debtOf 9 [l0, l1] (.int y :: .int x :: st) fs M Q ↔ Rn mX8_debtOf 10 [l0, l1] (.int (x + y) :: st) fs M Q := R_iadd hbX8_debtOf dX8_debtOf_9
theorem dX8_debtOf_10 : decode cX8_debtOf 10 = .ok (.iaload, 1) := by decide +kernel
theorem aX8_debtOf_10 {k i : Nat} {j : Int32} (ht : aT k = 0) (hi : i < cnt k) {l0 l1 : Value} {st : List Value} {fs : List Fm} {σ : Mem} {Q : List va_E → Option Value → Prop} : Rn mX8_debtOf 10 [l0, l1] (.int j :: .ref (ad k i) :: st) fs (enc σ) Q ↔ vp_in j (aN k) ∧ Rn mX8_debtOf 11 [l0, l1] (.int (σ k i j.toNatClampNeg) :: st) fs (enc σ) Q := R_iaload hbX8_debtOf ht hi dX8_debtOf_10
theorem dX8_debtOf_11 : decode cX8_debtOf 11 = .ok (.ireturn, 1) := by decide +kernel
theorem aX8_debtOf_11 {x : Int32} {l0 l1 : Value} {fs : List Fm} {M : List va_E} {Q : List va_E → Option Value → Prop} : Rn mX8_debtOf 11 [l0, l1] [.int x] fs M Q ↔ Rt fs M (some (.int x)) Q := R_reti hbX8_debtOf hrX8_debtOf dX8_debtOf_11
theorem dX8_astray_0 : decode cX8_astray 0 = .ok (.iconst 0, 1) := by decide +kernel
theorem aX8_astray_0 {l0 l1 l2 : Value} {st : List Value} {fs : List Fm} {M : List va_E} {Q : List va_E → Option Value → Prop} : Rn mX8_astray 0 [l0, l1, l2] st fs M Q ↔ Rn mX8_astray 1 [l0, l1, l2] (.int 0 :: st) fs M Q := R_iconst hbX8_astray (by decide) dX8_astray_0
theorem dX8_astray_1 : decode cX8_astray 1 = .ok (.istore_n 1, 1) := by decide +kernel
theorem aX8_astray_1 {x : Int32} {l0 l1 l2 : Value} {st : List Value} {fs : List Fm} {M : List va_E} {Q : List va_E → Option Value → Prop} : Rn mX8_astray 1 [l0, l1, l2] (.int x :: st) fs M Q ↔ Rn mX8_astray 2 [l0, .int x, l2] st fs M Q := R_istore_n hbX8_astray hmX8_astray hlX8_astray (by decide) (by decide) rfl dX8_astray_1
theorem dX8_astray_2 : decode cX8_astray 2 = .ok (.iconst 0, 1) := by decide +kernel
theorem aX8_astray_2 {l0 l1 l2 : Value} {st : List Value} {fs : List Fm} {M : List va_E} {Q : List va_E → Option Value → Prop} : Rn mX8_astray 2 [l0, l1, l2] st fs M Q ↔ Rn mX8_astray 3 [l0, l1, l2] (.int 0 :: st) fs M Q := R_iconst hbX8_astray (by decide) dX8_astray_2
theorem dX8_astray_3 : decode cX8_astray 3 = .ok (.istore_n 2, 1) := by decide +kernel
theorem aX8_astray_3 {x : Int32} {l0 l1 l2 : Value} {st : List Value} {fs : List Fm} {M : List va_E} {Q : List va_E → Option Value → Prop} : Rn mX8_astray 3 [l0, l1, l2] (.int x :: st) fs M Q ↔ Rn mX8_astray 4 [l0, l1, .int x] st fs M Q := R_istore_n hbX8_astray hmX8_astray hlX8_astray (by decide) (by decide) rfl dX8_astray_3
theorem dX8_astray_4 : decode cX8_astray 4 = .ok (.iload_n 2, 1) := by decide +kernel
theorem aX8_astray_4 {x : Int32} {l0 l1 : Value} {st : List Value} {fs : List Fm} {M : List va_E} {Q : List va_E → Option Value → Prop} : Rn mX8_astray 4 [l0, l1, .int x] st fs M Q ↔ Rn mX8_astray 5 [l0, l1, .int x] (.int x :: st) fs M Q := R_iload_n hbX8_astray rfl dX8_astray_4
theorem dX8_astray_5 : decode cX8_astray 5 = .ok (.aload_n 0, 1) := by decide +kernel
theorem aX8_astray_5 {x : Nat} {l1 l2 : Value} {st : List Value} {fs : List Fm} {M : List va_E} {Q : List va_E → Option Value → Prop} : Rn mX8_astray 5 [.ref x, l1, l2] st fs M Q ↔ Rn mX8_astray 6 [.ref x, l1, l2] (.ref x :: st) fs M Q := R_aload_n hbX8_astray rfl dX8_astray_5
theorem dX8_astray_6 : decode cX8_astray 6 = .ok (.getfield 17, 3) := by decide +kernel
theorem aX8_astray_6 {l0 l1 l2 : Value} {st : List Value} {fs : List Fm} {σ : Mem} {Q : List va_E → Option Value → Prop} : Rn mX8_astray 6 [l0, l1, l2] (.ref (ad 29 0) :: st) fs (enc σ) Q ↔ Rn mX8_astray 9 [l0, l1, l2] (.ref (ad 31 0) :: st) fs (enc σ) Q := R_get hbX8_astray hoX8_astray fl_8_17 (gf_8_3 (by decide) σ) dX8_astray_6
theorem dX8_astray_9 : decode cX8_astray 9 = .ok (.iconst 2, 1) := by decide +kernel
theorem aX8_astray_9 {l0 l1 l2 : Value} {st : List Value} {fs : List Fm} {M : List va_E} {Q : List va_E → Option Value → Prop} : Rn mX8_astray 9 [l0, l1, l2] st fs M Q ↔ Rn mX8_astray 10 [l0, l1, l2] (.int 2 :: st) fs M Q := R_iconst hbX8_astray (by decide) dX8_astray_9
theorem dX8_astray_10 : decode cX8_astray 10 = .ok (.iaload, 1) := by decide +kernel
theorem aX8_astray_10 {k i : Nat} {j : Int32} (ht : aT k = 0) (hi : i < cnt k) {l0 l1 l2 : Value} {st : List Value} {fs : List Fm} {σ : Mem} {Q : List va_E → Option Value → Prop} : Rn mX8_astray 10 [l0, l1, l2] (.int j :: .ref (ad k i) :: st) fs (enc σ) Q ↔ vp_in j (aN k) ∧ Rn mX8_astray 11 [l0, l1, l2] (.int (σ k i j.toNatClampNeg) :: st) fs (enc σ) Q := R_iaload hbX8_astray ht hi dX8_astray_10
theorem dX8_astray_11 : decode cX8_astray 11 = .ok (.if_icmp .ge 35, 3) := by decide +kernel
theorem aX8_astray_11 {x y : Int32} {l0 l1 l2 : Value} {st : List Value} {fs : List Fm} {M : List va_E} {Q : List va_E → Option Value → Prop} : Rn mX8_astray 11 [l0, l1, l2] (.int y :: .int x :: st) fs M Q ↔ if y ≤ x then Rn mX8_astray 46 [l0, l1, l2] st fs M Q else Rn mX8_astray 14 [l0, l1, l2] st fs M Q := R_icge hbX8_astray rfl dX8_astray_11
theorem dX8_astray_14 : decode cX8_astray 14 = .ok (.iload_n 1, 1) := by decide +kernel
theorem aX8_astray_14 {x : Int32} {l0 l2 : Value} {st : List Value} {fs : List Fm} {M : List va_E} {Q : List va_E → Option Value → Prop} : Rn mX8_astray 14 [l0, .int x, l2] st fs M Q ↔ Rn mX8_astray 15 [l0, .int x, l2] (.int x :: st) fs M Q := R_iload_n hbX8_astray rfl dX8_astray_14
theorem dX8_astray_15 : decode cX8_astray 15 = .ok (.aload_n 0, 1) := by decide +kernel
theorem aX8_astray_15 {x : Nat} {l1 l2 : Value} {st : List Value} {fs : List Fm} {M : List va_E} {Q : List va_E → Option Value → Prop} : Rn mX8_astray 15 [.ref x, l1, l2] st fs M Q ↔ Rn mX8_astray 16 [.ref x, l1, l2] (.ref x :: st) fs M Q := R_aload_n hbX8_astray rfl dX8_astray_15
theorem dX8_astray_16 : decode cX8_astray 16 = .ok (.iload_n 2, 1) := by decide +kernel
theorem aX8_astray_16 {x : Int32} {l0 l1 : Value} {st : List Value} {fs : List Fm} {M : List va_E} {Q : List va_E → Option Value → Prop} : Rn mX8_astray 16 [l0, l1, .int x] st fs M Q ↔ Rn mX8_astray 17 [l0, l1, .int x] (.int x :: st) fs M Q := R_iload_n hbX8_astray rfl dX8_astray_16
theorem dX8_astray_17 : decode cX8_astray 17 = .ok (.invokevirtual 146, 3) := by decide +kernel
theorem aX8_astray_17 {y0 : Int32} {l0 l1 l2 : Value} {st : List Value} {fs : List Fm} {σ : Mem} {Q : List va_E → Option Value → Prop} : Rn mX8_astray 17 [l0, l1, l2] (.int y0 :: .ref (ad 29 0) :: st) fs (enc σ) Q ↔ cats st ≤ 8 ∧ Rn mX8_holds 0 [.ref (ad 29 0), .int y0, .null] [] ((mX8_astray, 20, [l0, l1, l2], st) :: fs) (enc σ) Q := R_V (As := [.int y0]) hbX8_astray hoX8_astray cl_8_146 hnX8_holds rfl (by decide +kernel) rfl rfl rfl (isO_29 (by decide) σ) dX8_astray_17
theorem dX8_astray_20 : decode cX8_astray 20 = .ok (.iconst (-1), 1) := by decide +kernel
theorem aX8_astray_20 {l0 l1 l2 : Value} {st : List Value} {fs : List Fm} {M : List va_E} {Q : List va_E → Option Value → Prop} : Rn mX8_astray 20 [l0, l1, l2] st fs M Q ↔ Rn mX8_astray 21 [l0, l1, l2] (.int (-1) :: st) fs M Q := R_iconst hbX8_astray (by decide) dX8_astray_20
theorem dX8_astray_21 : decode cX8_astray 21 = .ok (.if_icmp .eq 12, 3) := by decide +kernel
theorem aX8_astray_21 {x y : Int32} {l0 l1 l2 : Value} {st : List Value} {fs : List Fm} {M : List va_E} {Q : List va_E → Option Value → Prop} : Rn mX8_astray 21 [l0, l1, l2] (.int y :: .int x :: st) fs M Q ↔ if x = y then Rn mX8_astray 33 [l0, l1, l2] st fs M Q else Rn mX8_astray 24 [l0, l1, l2] st fs M Q := R_iceq hbX8_astray rfl dX8_astray_21
theorem dX8_astray_24 : decode cX8_astray 24 = .ok (.aload_n 0, 1) := by decide +kernel
theorem aX8_astray_24 {x : Nat} {l1 l2 : Value} {st : List Value} {fs : List Fm} {M : List va_E} {Q : List va_E → Option Value → Prop} : Rn mX8_astray 24 [.ref x, l1, l2] st fs M Q ↔ Rn mX8_astray 25 [.ref x, l1, l2] (.ref x :: st) fs M Q := R_aload_n hbX8_astray rfl dX8_astray_24
theorem dX8_astray_25 : decode cX8_astray 25 = .ok (.iload_n 2, 1) := by decide +kernel
theorem aX8_astray_25 {x : Int32} {l0 l1 : Value} {st : List Value} {fs : List Fm} {M : List va_E} {Q : List va_E → Option Value → Prop} : Rn mX8_astray 25 [l0, l1, .int x] st fs M Q ↔ Rn mX8_astray 26 [l0, l1, .int x] (.int x :: st) fs M Q := R_iload_n hbX8_astray rfl dX8_astray_25
theorem dX8_astray_26 : decode cX8_astray 26 = .ok (.invokevirtual 146, 3) := by decide +kernel
theorem aX8_astray_26 {y0 : Int32} {l0 l1 l2 : Value} {st : List Value} {fs : List Fm} {σ : Mem} {Q : List va_E → Option Value → Prop} : Rn mX8_astray 26 [l0, l1, l2] (.int y0 :: .ref (ad 29 0) :: st) fs (enc σ) Q ↔ cats st ≤ 8 ∧ Rn mX8_holds 0 [.ref (ad 29 0), .int y0, .null] [] ((mX8_astray, 29, [l0, l1, l2], st) :: fs) (enc σ) Q := R_V (As := [.int y0]) hbX8_astray hoX8_astray cl_8_146 hnX8_holds rfl (by decide +kernel) rfl rfl rfl (isO_29 (by decide) σ) dX8_astray_26
theorem dX8_astray_29 : decode cX8_astray 29 = .ok (.iload_n 2, 1) := by decide +kernel
theorem aX8_astray_29 {x : Int32} {l0 l1 : Value} {st : List Value} {fs : List Fm} {M : List va_E} {Q : List va_E → Option Value → Prop} : Rn mX8_astray 29 [l0, l1, .int x] st fs M Q ↔ Rn mX8_astray 30 [l0, l1, .int x] (.int x :: st) fs M Q := R_iload_n hbX8_astray rfl dX8_astray_29
theorem dX8_astray_30 : decode cX8_astray 30 = .ok (.if_icmp .ne 7, 3) := by decide +kernel
theorem aX8_astray_30 {x y : Int32} {l0 l1 l2 : Value} {st : List Value} {fs : List Fm} {M : List va_E} {Q : List va_E → Option Value → Prop} : Rn mX8_astray 30 [l0, l1, l2] (.int y :: .int x :: st) fs M Q ↔ if ¬ x = y then Rn mX8_astray 37 [l0, l1, l2] st fs M Q else Rn mX8_astray 33 [l0, l1, l2] st fs M Q := R_icne hbX8_astray rfl dX8_astray_30
theorem dX8_astray_33 : decode cX8_astray 33 = .ok (.iconst 0, 1) := by decide +kernel
theorem aX8_astray_33 {l0 l1 l2 : Value} {st : List Value} {fs : List Fm} {M : List va_E} {Q : List va_E → Option Value → Prop} : Rn mX8_astray 33 [l0, l1, l2] st fs M Q ↔ Rn mX8_astray 34 [l0, l1, l2] (.int 0 :: st) fs M Q := R_iconst hbX8_astray (by decide) dX8_astray_33
theorem dX8_astray_34 : decode cX8_astray 34 = .ok (.goto 4, 3) := by decide +kernel
theorem aX8_astray_34 {l0 l1 l2 : Value} {st : List Value} {fs : List Fm} {M : List va_E} {Q : List va_E → Option Value → Prop} : Rn mX8_astray 34 [l0, l1, l2] st fs M Q ↔ Rn mX8_astray 38 [l0, l1, l2] st fs M Q := R_goto hbX8_astray rfl dX8_astray_34
theorem dX8_astray_37 : decode cX8_astray 37 = .ok (.iconst 1, 1) := by decide +kernel
theorem aX8_astray_37 {l0 l1 l2 : Value} {st : List Value} {fs : List Fm} {M : List va_E} {Q : List va_E → Option Value → Prop} : Rn mX8_astray 37 [l0, l1, l2] st fs M Q ↔ Rn mX8_astray 38 [l0, l1, l2] (.int 1 :: st) fs M Q := R_iconst hbX8_astray (by decide) dX8_astray_37
theorem dX8_astray_38 : decode cX8_astray 38 = .ok (.iadd, 1) := by decide +kernel
theorem aX8_astray_38 {x y : Int32} {l0 l1 l2 : Value} {st : List Value} {fs : List Fm} {M : List va_E} {Q : List va_E → Option Value → Prop} : Rn mX8_astray 38 [l0, l1, l2] (.int y :: .int x :: st) fs M Q ↔ Rn mX8_astray 39 [l0, l1, l2] (.int (x + y) :: st) fs M Q := R_iadd hbX8_astray dX8_astray_38
theorem dX8_astray_39 : decode cX8_astray 39 = .ok (.istore_n 1, 1) := by decide +kernel
theorem aX8_astray_39 {x : Int32} {l0 l1 l2 : Value} {st : List Value} {fs : List Fm} {M : List va_E} {Q : List va_E → Option Value → Prop} : Rn mX8_astray 39 [l0, l1, l2] (.int x :: st) fs M Q ↔ Rn mX8_astray 40 [l0, .int x, l2] st fs M Q := R_istore_n hbX8_astray hmX8_astray hlX8_astray (by decide) (by decide) rfl dX8_astray_39
theorem dX8_astray_40 : decode cX8_astray 40 = .ok (.iinc 2 1, 3) := by decide +kernel
theorem aX8_astray_40 {x : Int32} {l0 l1 : Value} {st : List Value} {fs : List Fm} {M : List va_E} {Q : List va_E → Option Value → Prop} : Rn mX8_astray 40 [l0, l1, .int x] st fs M Q ↔ Rn mX8_astray 43 [l0, l1, .int (x + 1)] st fs M Q := R_iinc hbX8_astray hmX8_astray hlX8_astray (by decide) (by decide) rfl (by decide) rfl dX8_astray_40
theorem dX8_astray_43 : decode cX8_astray 43 = .ok (.goto (-39), 3) := by decide +kernel
theorem aX8_astray_43 {l0 l1 l2 : Value} {st : List Value} {fs : List Fm} {M : List va_E} {Q : List va_E → Option Value → Prop} : Rn mX8_astray 43 [l0, l1, l2] st fs M Q ↔ Rn mX8_astray 4 [l0, l1, l2] st fs M Q := R_goto hbX8_astray rfl dX8_astray_43
theorem dX8_astray_46 : decode cX8_astray 46 = .ok (.iload_n 1, 1) := by decide +kernel
theorem aX8_astray_46 {x : Int32} {l0 l2 : Value} {st : List Value} {fs : List Fm} {M : List va_E} {Q : List va_E → Option Value → Prop} : Rn mX8_astray 46 [l0, .int x, l2] st fs M Q ↔ Rn mX8_astray 47 [l0, .int x, l2] (.int x :: st) fs M Q := R_iload_n hbX8_astray rfl dX8_astray_46
theorem dX8_astray_47 : decode cX8_astray 47 = .ok (.ireturn, 1) := by decide +kernel
theorem aX8_astray_47 {x : Int32} {l0 l1 l2 : Value} {fs : List Fm} {M : List va_E} {Q : List va_E → Option Value → Prop} : Rn mX8_astray 47 [l0, l1, l2] [.int x] fs M Q ↔ Rt fs M (some (.int x)) Q := R_reti hbX8_astray hrX8_astray dX8_astray_47
