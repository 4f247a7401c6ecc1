/-! ===== the reference: an evening, behind the placing ===== -/
def wnF (f : Nat → Nat → Int32) (T : Int32) (r : Nat) : Nat := (if 8 < pct T then 1 else 0) + fb_sm (fun r => if f 88 r = 0 then 0 else 1) r
def hlM (f : Nat → Nat → Int32) (C : Int32) (d k : Nat) : Nat → Nat → Int32 := fun a i => if a = 67 ∧ i < k then f 67 i + b2i (bt C i = true) else if a = 68 ∧ i < k then (if d = 6 then 0 else f 68 i + b2i (bt C i = true)) else f a i
def bk0 (f : Nat → Nat → Int32) (R E : Nat) (T those C : Int32) (w : Nat) (K : Int32) : Nat → Nat → Int32 := u2 (u2 (u2 (u2 (u2 (u2 f 77 (10 * E + 9) (nI R)) 77 (10 * E) those) 77 (10 * E + 1) T) 77 (10 * E + 2) C) 77 (10 * E + 3) (nI w - nI (pct C))) 77 (10 * E + 4) K
def bkL (f : Nat → Nat → Int32) (R E j : Nat) : Nat → Nat → Int32 := fun a i => if a = 77 ∧ 10 * E + 5 ≤ i ∧ i < 10 * E + 5 + j then (if i - (10 * E + 5) < R then f 88 (i - (10 * E + 5)) else 0) else f a i
def ppM (f : Nat → Nat → Int32) (T those : Int32) (F : Nat → Nat) (k : Nat) : Nat → Nat → Int32 := fun a i => if a = 58 ∧ i < k ∧ bt T i = true then f 58 i + 1 else if a = 59 ∧ i < k ∧ bt T i = true then 0 else if a = 59 ∧ i < k ∧ bt those i = true then f 59 i + 1 else if a = 60 ∧ i < k ∧ bt T i = true then nI (F i) else f a i
def L_X12_evening : List UInt8 := [42, 3, 181, 0, 151, 27, 4, 42, 180, 0, 32, 3, 46, 120, 4, 100, 126, 62, 29, 184, 1, 8, 16, 10, 163, 0, 15, 42, 180, 0, 104, 3, 46, 17, 1, 144, 160, 0, 5, 2, 172, 42, 28, 153, 0, 7, 4, 167, 0, 4, 3, 181, 1, 36, 42, 29, 42, 180, 1, 36, 182, 1, 69, 42, 182, 1, 73, 54, 4, 42, 21, 4, 182, 1, 76, 42, 180, 0, 104, 3, 46, 16, 7, 112, 54, 5, 21, 4, 184, 1, 8, 16, 8, 164, 0, 7, 4, 167, 0, 4, 3, 54, 6, 3, 54, 7, 21, 7, 42, 180, 0, 13, 3, 46, 162, 0, 29, 21, 6, 42, 180, 0, 144, 21, 7, 46, 153, 0, 7, 4, 167, 0, 4, 3, 96, 54, 6, 132, 7, 1, 167, 255, 222, 42, 21, 6, 21, 5, 182, 1, 79, 54, 7, 3, 54, 8, 21, 8, 42, 180, 0, 68, 3, 46, 162, 0, 59, 42, 180, 0, 77, 21, 8, 92, 46, 21, 7, 21, 8, 122, 4, 126, 96, 79, 42, 180, 0, 80, 21, 8, 21, 5, 16, 6, 160, 0, 7, 3, 167, 0, 18, 42, 180, 0, 80, 21, 8, 46, 21, 7, 21, 8, 122, 4, 126, 96, 79, 132, 8, 1, 167, 255, 192, 16, 10, 42, 180, 0, 104, 3, 46, 104, 54, 8, 42, 180, 0, 107, 21, 8, 16, 9, 96, 42, 180, 0, 13, 3, 46, 79, 42, 180, 0, 107, 21, 8, 29, 79, 42, 180, 0, 107, 21, 8, 4, 96, 21, 4, 79, 42, 180, 0, 107, 21, 8, 5, 96, 21, 7, 79, 42, 180, 0, 107, 21, 8, 6, 96, 21, 6, 21, 7, 184, 1, 8, 100, 79, 42, 180, 0, 107, 21, 8, 7, 96, 42, 180, 1, 36, 79, 3, 54, 9, 21, 9, 7, 162, 0, 43, 42, 180, 0, 107, 21, 8, 8, 96, 21, 9, 96, 21, 9, 42, 180, 0, 13, 3, 46, 162, 0, 13, 42, 180, 0, 144, 21, 9, 46, 167, 0, 4, 3, 79, 132, 9, 1, 167, 255, 213, 3, 54, 9, 21, 9, 42, 180, 0, 32, 3, 46, 162, 0, 115, 21, 4, 21, 9, 122, 4, 126, 153, 0, 79, 42, 180, 0, 50, 21, 9, 92, 46, 4, 96, 79, 42, 180, 0, 53, 21, 9, 3, 79, 3, 54, 10, 21, 10, 42, 180, 0, 13, 3, 46, 162, 0, 43, 42, 180, 0, 56, 21, 9, 42, 180, 0, 144, 21, 10, 46, 21, 9, 122, 4, 126, 153, 0, 8, 21, 10, 167, 0, 10, 42, 180, 0, 56, 21, 9, 46, 79, 132, 10, 1, 167, 255, 208, 167, 0, 23, 29, 21, 9, 122, 4, 126, 153, 0, 14, 42, 180, 0, 53, 21, 9, 92, 46, 4, 96, 79, 132, 9, 1, 167, 255, 136, 42, 180, 0, 104, 3, 92, 46, 4, 96, 79, 21, 4, 184, 1, 8, 172]
theorem Lc_X12_evening : MX12_evening.2.1 = ⟨L_X12_evening.toArray⟩ := rfl
theorem D_X12_evening_0 : dseq MX12_evening.2.1 0 [(.aload_n 0, 1), (.iconst 0, 1), (.putfield 151, 3), (.iload_n 1, 1), (.iconst 1, 1), (.aload_n 0, 1), (.getfield 32, 3), (.iconst 0, 1), (.iaload, 1), (.ishl, 1), (.iconst 1, 1), (.isub, 1), (.iand, 1), (.istore_n 3, 1), (.iload_n 3, 1), (.invokestatic 264, 3), (.bipush 10, 2), (.if_icmp .gt 15, 3), (.aload_n 0, 1), (.getfield 104, 3), (.iconst 0, 1), (.iaload, 1), (.sipush 400, 3), (.if_icmp .ne 5, 3), (.iconst (-1), 1), (.ireturn, 1)] := dq Lc_X12_evening 0 _ (by decide +kernel)
theorem D_X12_evening_39 : dseq MX12_evening.2.1 39 [(.iconst (-1), 1), (.ireturn, 1)] := dq Lc_X12_evening 39 _ (by decide +kernel)
theorem D_X12_evening_41 : dseq MX12_evening.2.1 41 [(.aload_n 0, 1), (.iload_n 2, 1), (.ifCond .eq 7, 3), (.iconst 1, 1), (.goto 4, 3)] := dq Lc_X12_evening 41 _ (by decide +kernel)
theorem D_X12_evening_50 : dseq MX12_evening.2.1 50 [(.iconst 0, 1)] := dq Lc_X12_evening 50 _ (by decide +kernel)
theorem D_X12_evening_51 : dseq MX12_evening.2.1 51 [(.putfield 292, 3), (.aload_n 0, 1), (.iload_n 3, 1), (.aload_n 0, 1), (.getfield 292, 3), (.invokevirtual 325, 3), (.aload_n 0, 1), (.invokevirtual 329, 3), (.istore 4, 2), (.aload_n 0, 1), (.iload 4, 2), (.invokevirtual 332, 3), (.aload_n 0, 1), (.getfield 104, 3), (.iconst 0, 1), (.iaload, 1), (.bipush 7, 2), (.irem, 1), (.istore 5, 2), (.iload 4, 2), (.invokestatic 264, 3), (.bipush 8, 2), (.if_icmp .le 7, 3), (.iconst 1, 1), (.goto 4, 3)] := dq Lc_X12_evening 51 _ (by decide +kernel)
theorem D_X12_evening_100 : dseq MX12_evening.2.1 100 [(.iconst 0, 1)] := dq Lc_X12_evening 100 _ (by decide +kernel)
theorem D_X12_evening_101 : dseq MX12_evening.2.1 101 [(.istore 6, 2), (.iconst 0, 1), (.istore 7, 2)] := dq Lc_X12_evening 101 _ (by decide +kernel)
theorem D_X12_evening_106 : dseq MX12_evening.2.1 106 [(.iload 7, 2), (.aload_n 0, 1), (.getfield 13, 3), (.iconst 0, 1), (.iaload, 1), (.if_icmp .ge 29, 3), (.iload 6, 2), (.aload_n 0, 1), (.getfield 144, 3), (.iload 7, 2), (.iaload, 1), (.ifCond .eq 7, 3), (.iconst 1, 1), (.goto 4, 3)] := dq Lc_X12_evening 106 _ (by decide +kernel)
theorem D_X12_evening_143 : dseq MX12_evening.2.1 143 [(.aload_n 0, 1), (.iload 6, 2), (.iload 5, 2), (.invokevirtual 335, 3), (.istore 7, 2), (.iconst 0, 1), (.istore 8, 2)] := dq Lc_X12_evening 143 _ (by decide +kernel)
theorem D_X12_evening_133 : dseq MX12_evening.2.1 133 [(.iconst 0, 1)] := dq Lc_X12_evening 133 _ (by decide +kernel)
theorem D_X12_evening_134 : dseq MX12_evening.2.1 134 [(.iadd, 1), (.istore 6, 2), (.iinc 7 1, 3), (.goto (-34), 3)] := dq Lc_X12_evening 134 _ (by decide +kernel)
theorem D_X12_evening_156 : dseq MX12_evening.2.1 156 [(.iload 8, 2), (.aload_n 0, 1), (.getfield 68, 3), (.iconst 0, 1), (.iaload, 1), (.if_icmp .ge 59, 3), (.aload_n 0, 1), (.getfield 77, 3), (.iload 8, 2), (.dup2, 1), (.iaload, 1), (.iload 7, 2), (.iload 8, 2), (.ishr, 1), (.iconst 1, 1), (.iand, 1), (.iadd, 1), (.iastore, 1), (.aload_n 0, 1), (.getfield 80, 3), (.iload 8, 2), (.iload 5, 2), (.bipush 6, 2), (.if_icmp .ne 7, 3), (.iconst 0, 1), (.goto 18, 3)] := dq Lc_X12_evening 156 _ (by decide +kernel)
theorem D_X12_evening_223 : dseq MX12_evening.2.1 223 [(.bipush 10, 2), (.aload_n 0, 1), (.getfield 104, 3), (.iconst 0, 1), (.iaload, 1), (.imul, 1), (.istore 8, 2), (.aload_n 0, 1), (.getfield 107, 3), (.iload 8, 2), (.bipush 9, 2), (.iadd, 1), (.aload_n 0, 1), (.getfield 13, 3), (.iconst 0, 1), (.iaload, 1), (.iastore, 1), (.aload_n 0, 1), (.getfield 107, 3), (.iload 8, 2), (.iload_n 3, 1), (.iastore, 1), (.aload_n 0, 1), (.getfield 107, 3), (.iload 8, 2), (.iconst 1, 1), (.iadd, 1), (.iload 4, 2), (.iastore, 1), (.aload_n 0, 1), (.getfield 107, 3), (.iload 8, 2), (.iconst 2, 1), (.iadd, 1), (.iload 7, 2), (.iastore, 1), (.aload_n 0, 1), (.getfield 107, 3), (.iload 8, 2), (.iconst 3, 1), (.iadd, 1), (.iload 6, 2), (.iload 7, 2), (.invokestatic 264, 3), (.isub, 1), (.iastore, 1), (.aload_n 0, 1), (.getfield 107, 3), (.iload 8, 2), (.iconst 4, 1), (.iadd, 1), (.aload_n 0, 1), (.getfield 292, 3), (.iastore, 1), (.iconst 0, 1), (.istore 9, 2)] := dq Lc_X12_evening 223 _ (by decide +kernel)
theorem D_X12_evening_201 : dseq MX12_evening.2.1 201 [(.aload_n 0, 1), (.getfield 80, 3), (.iload 8, 2), (.iaload, 1), (.iload 7, 2), (.iload 8, 2), (.ishr, 1), (.iconst 1, 1), (.iand, 1), (.iadd, 1)] := dq Lc_X12_evening 201 _ (by decide +kernel)
theorem D_X12_evening_216 : dseq MX12_evening.2.1 216 [(.iastore, 1), (.iinc 8 1, 3), (.goto (-64), 3)] := dq Lc_X12_evening 216 _ (by decide +kernel)
theorem D_X12_evening_313 : dseq MX12_evening.2.1 313 [(.iload 9, 2), (.iconst 4, 1), (.if_icmp .ge 43, 3), (.aload_n 0, 1), (.getfield 107, 3), (.iload 8, 2), (.iconst 5, 1), (.iadd, 1), (.iload 9, 2), (.iadd, 1), (.iload 9, 2), (.aload_n 0, 1), (.getfield 13, 3), (.iconst 0, 1), (.iaload, 1), (.if_icmp .ge 13, 3), (.aload_n 0, 1), (.getfield 144, 3), (.iload 9, 2), (.iaload, 1), (.goto 4, 3)] := dq Lc_X12_evening 313 _ (by decide +kernel)
theorem D_X12_evening_359 : dseq MX12_evening.2.1 359 [(.iconst 0, 1), (.istore 9, 2)] := dq Lc_X12_evening 359 _ (by decide +kernel)
theorem D_X12_evening_351 : dseq MX12_evening.2.1 351 [(.iconst 0, 1)] := dq Lc_X12_evening 351 _ (by decide +kernel)
theorem D_X12_evening_352 : dseq MX12_evening.2.1 352 [(.iastore, 1), (.iinc 9 1, 3), (.goto (-43), 3)] := dq Lc_X12_evening 352 _ (by decide +kernel)
theorem D_X12_evening_362 : dseq MX12_evening.2.1 362 [(.iload 9, 2), (.aload_n 0, 1), (.getfield 32, 3), (.iconst 0, 1), (.iaload, 1), (.if_icmp .ge 115, 3), (.iload 4, 2), (.iload 9, 2), (.ishr, 1), (.iconst 1, 1), (.iand, 1), (.ifCond .eq 79, 3), (.aload_n 0, 1), (.getfield 50, 3), (.iload 9, 2), (.dup2, 1), (.iaload, 1), (.iconst 1, 1), (.iadd, 1), (.iastore, 1), (.aload_n 0, 1), (.getfield 53, 3), (.iload 9, 2), (.iconst 0, 1), (.iastore, 1), (.iconst 0, 1), (.istore 10, 2)] := dq Lc_X12_evening 362 _ (by decide +kernel)
theorem D_X12_evening_485 : dseq MX12_evening.2.1 485 [(.aload_n 0, 1), (.getfield 104, 3), (.iconst 0, 1), (.dup2, 1), (.iaload, 1), (.iconst 1, 1), (.iadd, 1), (.iastore, 1), (.iload 4, 2), (.invokestatic 264, 3), (.ireturn, 1)] := dq Lc_X12_evening 485 _ (by decide +kernel)
theorem D_X12_evening_459 : dseq MX12_evening.2.1 459 [(.iload_n 3, 1), (.iload 9, 2), (.ishr, 1), (.iconst 1, 1), (.iand, 1), (.ifCond .eq 14, 3), (.aload_n 0, 1), (.getfield 53, 3), (.iload 9, 2), (.dup2, 1), (.iaload, 1), (.iconst 1, 1), (.iadd, 1), (.iastore, 1)] := dq Lc_X12_evening 459 _ (by decide +kernel)
theorem D_X12_evening_405 : dseq MX12_evening.2.1 405 [(.iload 10, 2), (.aload_n 0, 1), (.getfield 13, 3), (.iconst 0, 1), (.iaload, 1), (.if_icmp .ge 43, 3), (.aload_n 0, 1), (.getfield 56, 3), (.iload 9, 2), (.aload_n 0, 1), (.getfield 144, 3), (.iload 10, 2), (.iaload, 1), (.iload 9, 2), (.ishr, 1), (.iconst 1, 1), (.iand, 1), (.ifCond .eq 8, 3), (.iload 10, 2), (.goto 10, 3)] := dq Lc_X12_evening 405 _ (by decide +kernel)
theorem D_X12_evening_456 : dseq MX12_evening.2.1 456 [(.goto 23, 3)] := dq Lc_X12_evening 456 _ (by decide +kernel)
theorem D_X12_evening_442 : dseq MX12_evening.2.1 442 [(.aload_n 0, 1), (.getfield 56, 3), (.iload 9, 2), (.iaload, 1)] := dq Lc_X12_evening 442 _ (by decide +kernel)
theorem D_X12_evening_449 : dseq MX12_evening.2.1 449 [(.iastore, 1), (.iinc 10 1, 3), (.goto (-48), 3)] := dq Lc_X12_evening 449 _ (by decide +kernel)
theorem D_X12_evening_479 : dseq MX12_evening.2.1 479 [(.iinc 9 1, 3), (.goto (-120), 3)] := dq Lc_X12_evening 479 _ (by decide +kernel)
def c_X12_evening_75 (Q : Option Value → Hp → Prop) : Kt := i_ald 0 (i_getR 12 33 (i_push (.int 0) (i_iald (i_push (.int 7) (i_divs (fun x y => x - x / y * y) (i_ist 5 (i_ild 4 (i_callS 1 T_X12_ones (i_push (.int 8) (i_cmp (fun x y => x ≤ y) (i_push (.int 0) (i_keep [true, false, false, true, true, true, false, false, false, false, false] (wp 23 MX12_evening Q 101))) (i_push (.int 1) (i_keep [true, false, false, true, true, true, false, false, false, false, false] (wp 23 MX12_evening Q 101)))))))))))))
def c_X12_evening_67 (Q : Option Value → Hp → Prop) : Kt := i_ist 4 (i_ald 0 (i_ild 4 (i_callV 12 1 T_X12_placeAll (c_X12_evening_75 Q))))
def c_X12_evening_63 (Q : Option Value → Hp → Prop) : Kt := i_ald 0 (i_callV 12 0 T_X12_take (c_X12_evening_67 Q))
def c_X12_evening_151 (Q : Option Value → Hp → Prop) : Kt := i_ist 7 (i_push (.int 0) (i_ist 8 (i_keep [true, false, false, true, true, true, true, true, true, false, false] (wp 23 MX12_evening Q 156))))
def b_X12_evening_0 (Q : Option Value → Hp → Prop) : Kt := i_ald 0 (i_push (.int 0) (i_putI 12 0 (i_ild 1 (i_push (.int 1) (i_ald 0 (i_getR 12 9 (i_push (.int 0) (i_iald (i_bin (fun x y => x <<< (y &&& 31)) (i_push (.int 1) (i_bin (fun x y => x - y) (i_bin (fun x y => x &&& y) (i_ist 3 (i_ild 3 (i_callS 1 T_X12_ones (i_push (.int 10) (i_cmp (fun x y => y < x) (i_push (.int (-1)) (i_iret Q)) (i_ald 0 (i_getR 12 33 (i_push (.int 0) (i_iald (i_push (.int 400) (i_cmp (fun x y => x = y) (i_push (.int (-1)) (i_iret Q)) (i_ald 0 (i_ild 2 (i_if (fun x => x = 0) (i_push (.int 0) (i_keep [true, false, false, true, false, false, false, false, false, false, false] (wp 23 MX12_evening Q 51))) (i_push (.int 1) (i_keep [true, false, false, true, false, false, false, false, false, false, false] (wp 23 MX12_evening Q 51)))))))))))))))))))))))))))))
set_option maxRecDepth 100000 in
theorem s_X12_evening_0 (Q : Option Value → Hp → Prop) : ∀ A st h, b_X12_evening_0 Q A st h → wp 23 MX12_evening Q 0 A st h := (q1 (s_aldn (n := 0) (i := 0) rfl) D_X12_evening_0 fun D => (q1 (s_iconst (n := 0) (v := 0) (by decide)) D fun D => (qP pl_X12_151 rfl (Or.inl rfl) D fun D => (q1 (s_ildn (n := 1) (i := 1) rfl) D fun D => (q1 (s_iconst (n := 1) (v := 1) (by decide)) D fun D => (q1 (s_aldn (n := 0) (i := 0) rfl) D fun D => (qC fl_X12_32 rfl D fun D => (q1 (s_iconst (n := 0) (v := 0) (by decide)) D fun D => (q1 s_iald D fun D => (q1 s_shl D fun D => (q1 (s_iconst (n := 1) (v := 1) (by decide)) D fun D => (q1 s_sub D fun D => (q1 s_and D fun D => (qL (s_istn (n := 3) (i := 3) rfl) (by decide) D fun D => (q1 (s_ildn (n := 3) (i := 3) rfl) D fun D => (qX (s_callS ok_X12_ones mo_X12_ones (ch_6_4_ok.2.2.2.1.1 rfl) (ch_6_4_ok.2.2.2.2.1.1 rfl)) rfl (by decide) D fun D => (q1 (s_bipush (n := 10) (v := 10) (by decide)) D fun D => (qB s_cmpgt 39 (by decide) D (q1 (s_iconst (n := (-1)) (v := (-1)) (by decide)) D_X12_evening_39 fun D => (qI rfl D)) fun D => (q1 (s_aldn (n := 0) (i := 0) rfl) D fun D => (qC fl_X12_104 rfl D fun D => (q1 (s_iconst (n := 0) (v := 0) (by decide)) D fun D => (q1 s_iald D fun D => (q1 (s_sipush (n := 400) (v := 400) (by decide)) D fun D => (qBn s_cmpne2 41 (by decide) D (q1 (s_aldn (n := 0) (i := 0) rfl) D_X12_evening_41 fun D => (q1 (s_ildn (n := 2) (i := 2) rfl) D fun D => (qB s_ifeq 50 (by decide) D (q1 (s_iconst (n := 0) (v := 0) (by decide)) D_X12_evening_50 fun D => (s_keep [true, false, false, true, false, false, false, false, false, false, false] fun _ _ _ h => h)) fun D => (q1 (s_iconst (n := 1) (v := 1) (by decide)) D fun D => (qG 51 (by decide) D (s_keep [true, false, false, true, false, false, false, false, false, false, false] fun _ _ _ h => h)))))) fun D => (q1 (s_iconst (n := (-1)) (v := (-1)) (by decide)) D fun D => (qI rfl D))))))))))))))))))))))))))
def b_X12_evening_51 (Q : Option Value → Hp → Prop) : Kt := i_putI 12 56 (i_ald 0 (i_ild 3 (i_ald 0 (i_getI 12 56 (i_callV 12 2 T_X12_makeOrder (c_X12_evening_63 Q))))))
set_option maxRecDepth 100000 in
theorem s_X12_evening_51 (Q : Option Value → Hp → Prop) : ∀ A st h, b_X12_evening_51 Q A st h → wp 23 MX12_evening Q 51 A st h := (qP pl_X12_292 rfl (Or.inl rfl) D_X12_evening_51 fun D => (q1 (s_aldn (n := 0) (i := 0) rfl) D fun D => (q1 (s_ildn (n := 3) (i := 3) rfl) D fun D => (q1 (s_aldn (n := 0) (i := 0) rfl) D fun D => (qC fl_X12_292 rfl D fun D => (qX (s_callV kX12 rfl ok_X12_makeOrder mo_X12_makeOrder (ch_6_4_ok.2.2.2.2.2.2.2.2.2.2.2.2.2.2.1.1 rfl) (ch_6_5_ok.1.1 rfl) (pv_3.1)) rfl (by decide) D fun D => (q1 (s_aldn (n := 0) (i := 0) rfl) D fun D => (qX (s_callV kX12 rfl ok_X12_take mo_X12_take (ch_6_6_ok.2.2.2.2.2.2.2.1.1 rfl) (ch_6_6_ok.2.2.2.2.2.2.2.2.2.1.1 rfl) (pv_3.2.2.2.2.2.2.1)) rfl (by decide) D fun D => (qL s_ist (by decide) D fun D => (q1 (s_aldn (n := 0) (i := 0) rfl) D fun D => (q1 s_ild D fun D => (qX (s_callV kX12 rfl ok_X12_placeAll mo_X12_placeAll (ch_6_8_ok.2.2.2.2.2.2.2.2.2.2.2.2.2.2.2.1.1 rfl) (ch_6_9_ok.2.1.1 rfl) (pv_4.1)) rfl (by decide) D fun D => (q1 (s_aldn (n := 0) (i := 0) rfl) D fun D => (qC fl_X12_104 rfl D fun D => (q1 (s_iconst (n := 0) (v := 0) (by decide)) D fun D => (q1 s_iald D fun D => (q1 (s_bipush (n := 7) (v := 7) (by decide)) D fun D => (q1 s_rem D fun D => (qL s_ist (by decide) D fun D => (q1 s_ild D fun D => (qX (s_callS ok_X12_ones mo_X12_ones (ch_6_4_ok.2.2.2.1.1 rfl) (ch_6_4_ok.2.2.2.2.1.1 rfl)) rfl (by decide) D fun D => (q1 (s_bipush (n := 8) (v := 8) (by decide)) D fun D => (qB s_cmple 100 (by decide) D (q1 (s_iconst (n := 0) (v := 0) (by decide)) D_X12_evening_100 fun D => (s_keep [true, false, false, true, true, true, false, false, false, false, false] fun _ _ _ h => h)) fun D => (q1 (s_iconst (n := 1) (v := 1) (by decide)) D fun D => (qG 101 (by decide) D (s_keep [true, false, false, true, true, true, false, false, false, false, false] fun _ _ _ h => h))))))))))))))))))))))))))
def b_X12_evening_101 (Q : Option Value → Hp → Prop) : Kt := i_ist 6 (i_push (.int 0) (i_ist 7 (i_keep [true, false, false, true, true, true, true, true, false, false, false] (wp 23 MX12_evening Q 106))))
set_option maxRecDepth 100000 in
theorem s_X12_evening_101 (Q : Option Value → Hp → Prop) : ∀ A st h, b_X12_evening_101 Q A st h → wp 23 MX12_evening Q 101 A st h := (qL s_ist (by decide) D_X12_evening_101 fun D => (q1 (s_iconst (n := 0) (v := 0) (by decide)) D fun D => (qL s_ist (by decide) D fun D => (s_keep [true, false, false, true, true, true, true, true, false, false, false] fun _ _ _ h => h))))
def b_X12_evening_106 (Q : Option Value → Hp → Prop) : Kt := i_ild 7 (i_ald 0 (i_getR 12 3 (i_push (.int 0) (i_iald (i_cmp (fun x y => y ≤ x) (i_ald 0 (i_ild 6 (i_ild 5 (i_callV 12 2 T_X12_call (c_X12_evening_151 Q))))) (i_ild 6 (i_ald 0 (i_getR 12 57 (i_ild 7 (i_iald (i_if (fun x => x = 0) (i_push (.int 0) (i_keep [true, false, false, true, true, true, false, true, false, false, false] (wp 23 MX12_evening Q 134))) (i_push (.int 1) (i_keep [true, false, false, true, true, true, false, true, false, false, false] (wp 23 MX12_evening Q 134))))))))))))))
set_option maxRecDepth 100000 in
theorem s_X12_evening_106 (Q : Option Value → Hp → Prop) : ∀ A st h, b_X12_evening_106 Q A st h → wp 23 MX12_evening Q 106 A st h := (q1 s_ild D_X12_evening_106 fun D => (q1 (s_aldn (n := 0) (i := 0) rfl) D fun D => (qC fl_X12_13 rfl D fun D => (q1 (s_iconst (n := 0) (v := 0) (by decide)) D fun D => (q1 s_iald D fun D => (qB s_cmpge 143 (by decide) D (q1 (s_aldn (n := 0) (i := 0) rfl) D_X12_evening_143 fun D => (q1 s_ild D fun D => (q1 s_ild D fun D => (qX (s_callV kX12 rfl ok_X12_call mo_X12_call (ch_6_9_ok.2.2.2.2.2.2.2.1.1 rfl) (ch_6_9_ok.2.2.2.2.2.2.2.2.2.1.1 rfl) (pv_4.2.2.1)) rfl (by decide) D fun D => (qL s_ist (by decide) D fun D => (q1 (s_iconst (n := 0) (v := 0) (by decide)) D fun D => (qL s_ist (by decide) D fun D => (s_keep [true, false, false, true, true, true, true, true, true, false, false] fun _ _ _ h => h)))))))) fun D => (q1 s_ild D fun D => (q1 (s_aldn (n := 0) (i := 0) rfl) D fun D => (qC fl_X12_144 rfl D fun D => (q1 s_ild D fun D => (q1 s_iald D fun D => (qB s_ifeq 133 (by decide) D (q1 (s_iconst (n := 0) (v := 0) (by decide)) D_X12_evening_133 fun D => (s_keep [true, false, false, true, true, true, false, true, false, false, false] fun _ _ _ h => h)) fun D => (q1 (s_iconst (n := 1) (v := 1) (by decide)) D fun D => (qG 134 (by decide) D (s_keep [true, false, false, true, true, true, false, true, false, false, false] fun _ _ _ h => h)))))))))))))))
def b_X12_evening_134 (Q : Option Value → Hp → Prop) : Kt := i_bin (fun x y => x + y) (i_ist 6 (i_inc 7 1 (i_keep [true, false, false, true, true, true, true, true, false, false, false] (wp 23 MX12_evening Q 106))))
set_option maxRecDepth 100000 in
theorem s_X12_evening_134 (Q : Option Value → Hp → Prop) : ∀ A st h, b_X12_evening_134 Q A st h → wp 23 MX12_evening Q 134 A st h := (q1 s_add D_X12_evening_134 fun D => (qL s_ist (by decide) D fun D => (qL (s_inc (i := 7) (n := 1) (v := 1) (by decide)) (by decide) D fun D => (qG 106 (by decide) D (s_keep [true, false, false, true, true, true, true, true, false, false, false] fun _ _ _ h => h)))))
def b_X12_evening_156 (Q : Option Value → Hp → Prop) : Kt := i_ild 8 (i_ald 0 (i_getR 12 21 (i_push (.int 0) (i_iald (i_cmp (fun x y => y ≤ x) (i_push (.int 10) (i_ald 0 (i_getR 12 33 (i_push (.int 0) (i_iald (i_bin (fun x y => x * y) (i_ist 8 (i_ald 0 (i_getR 12 34 (i_ild 8 (i_push (.int 9) (i_bin (fun x y => x + y) (i_ald 0 (i_getR 12 3 (i_push (.int 0) (i_iald (i_iast (i_ald 0 (i_getR 12 34 (i_ild 8 (i_ild 3 (i_iast (i_ald 0 (i_getR 12 34 (i_ild 8 (i_push (.int 1) (i_bin (fun x y => x + y) (i_ild 4 (i_iast (i_ald 0 (i_getR 12 34 (i_ild 8 (i_push (.int 2) (i_bin (fun x y => x + y) (i_ild 7 (i_iast (i_ald 0 (i_getR 12 34 (i_ild 8 (i_push (.int 3) (i_bin (fun x y => x + y) (i_ild 6 (i_ild 7 (i_callS 1 T_X12_ones (i_bin (fun x y => x - y) (i_iast (i_ald 0 (i_getR 12 34 (i_ild 8 (i_push (.int 4) (i_bin (fun x y => x + y) (i_ald 0 (i_getI 12 56 (i_iast (i_push (.int 0) (i_ist 9 (i_keep [true, false, false, true, true, false, false, false, true, true, false] (wp 23 MX12_evening Q 313)))))))))))))))))))))))))))))))))))))))))))))))))))))))))) (i_ald 0 (i_getR 12 24 (i_ild 8 (i_dup2 (i_iald (i_ild 7 (i_ild 8 (i_bin (fun x y => x >>> (y &&& 31)) (i_push (.int 1) (i_bin (fun x y => x &&& y) (i_bin (fun x y => x + y) (i_iast (i_ald 0 (i_getR 12 25 (i_ild 8 (i_ild 5 (i_push (.int 6) (i_cmp (fun x y => x = y) (i_push (.int 0) (i_keep [true, false, false, true, true, true, true, true, true, false, false] (wp 23 MX12_evening Q 216))) (i_ald 0 (i_getR 12 25 (i_ild 8 (i_iald (i_ild 7 (i_ild 8 (i_bin (fun x y => x >>> (y &&& 31)) (i_push (.int 1) (i_bin (fun x y => x &&& y) (i_bin (fun x y => x + y) (i_keep [true, false, false, true, true, true, true, true, true, false, false] (wp 23 MX12_evening Q 216)))))))))))))))))))))))))))))))))))
set_option maxRecDepth 100000 in
theorem s_X12_evening_156 (Q : Option Value → Hp → Prop) : ∀ A st h, b_X12_evening_156 Q A st h → wp 23 MX12_evening Q 156 A st h := (q1 s_ild D_X12_evening_156 fun D => (q1 (s_aldn (n := 0) (i := 0) rfl) D fun D => (qC fl_X12_68 rfl D fun D => (q1 (s_iconst (n := 0) (v := 0) (by decide)) D fun D => (q1 s_iald D fun D => (qB s_cmpge 223 (by decide) D (q1 (s_bipush (n := 10) (v := 10) (by decide)) D_X12_evening_223 fun D => (q1 (s_aldn (n := 0) (i := 0) rfl) D fun D => (qC fl_X12_104 rfl D fun D => (q1 (s_iconst (n := 0) (v := 0) (by decide)) D fun D => (q1 s_iald D fun D => (q1 s_mul D fun D => (qL s_ist (by decide) D fun D => (q1 (s_aldn (n := 0) (i := 0) rfl) D fun D => (qC fl_X12_107 rfl D fun D => (q1 s_ild D fun D => (q1 (s_bipush (n := 9) (v := 9) (by decide)) D fun D => (q1 s_add D fun D => (q1 (s_aldn (n := 0) (i := 0) rfl) D fun D => (qC fl_X12_13 rfl D fun D => (q1 (s_iconst (n := 0) (v := 0) (by decide)) D fun D => (q1 s_iald D fun D => (q1 s_iast D fun D => (q1 (s_aldn (n := 0) (i := 0) rfl) D fun D => (qC fl_X12_107 rfl D fun D => (q1 s_ild D fun D => (q1 (s_ildn (n := 3) (i := 3) rfl) D fun D => (q1 s_iast D fun D => (q1 (s_aldn (n := 0) (i := 0) rfl) D fun D => (qC fl_X12_107 rfl D fun D => (q1 s_ild D fun D => (q1 (s_iconst (n := 1) (v := 1) (by decide)) D fun D => (q1 s_add D fun D => (q1 s_ild D fun D => (q1 s_iast D fun D => (q1 (s_aldn (n := 0) (i := 0) rfl) D fun D => (qC fl_X12_107 rfl D fun D => (q1 s_ild D fun D => (q1 (s_iconst (n := 2) (v := 2) (by decide)) D fun D => (q1 s_add D fun D => (q1 s_ild D fun D => (q1 s_iast D fun D => (q1 (s_aldn (n := 0) (i := 0) rfl) D fun D => (qC fl_X12_107 rfl D fun D => (q1 s_ild D fun D => (q1 (s_iconst (n := 3) (v := 3) (by decide)) D fun D => (q1 s_add D fun D => (q1 s_ild D fun D => (q1 s_ild D fun D => (qX (s_callS ok_X12_ones mo_X12_ones (ch_6_4_ok.2.2.2.1.1 rfl) (ch_6_4_ok.2.2.2.2.1.1 rfl)) rfl (by decide) D fun D => (q1 s_sub D fun D => (q1 s_iast D fun D => (q1 (s_aldn (n := 0) (i := 0) rfl) D fun D => (qC fl_X12_107 rfl D fun D => (q1 s_ild D fun D => (q1 (s_iconst (n := 4) (v := 4) (by decide)) D fun D => (q1 s_add D fun D => (q1 (s_aldn (n := 0) (i := 0) rfl) D fun D => (qC fl_X12_292 rfl D fun D => (q1 s_iast D fun D => (q1 (s_iconst (n := 0) (v := 0) (by decide)) D fun D => (qL s_ist (by decide) D fun D => (s_keep [true, false, false, true, true, false, false, false, true, true, false] fun _ _ _ h => h))))))))))))))))))))))))))))))))))))))))))))))))))))))))) fun D => (q1 (s_aldn (n := 0) (i := 0) rfl) D fun D => (qC fl_X12_77 rfl D fun D => (q1 s_ild D fun D => (q1 s_dup2 D fun D => (q1 s_iald D fun D => (q1 s_ild D fun D => (q1 s_ild D fun D => (q1 s_shr D fun D => (q1 (s_iconst (n := 1) (v := 1) (by decide)) D fun D => (q1 s_and D fun D => (q1 s_add D fun D => (q1 s_iast D fun D => (q1 (s_aldn (n := 0) (i := 0) rfl) D fun D => (qC fl_X12_80 rfl D fun D => (q1 s_ild D fun D => (q1 s_ild D fun D => (q1 (s_bipush (n := 6) (v := 6) (by decide)) D fun D => (qBn s_cmpne2 201 (by decide) D (q1 (s_aldn (n := 0) (i := 0) rfl) D_X12_evening_201 fun D => (qC fl_X12_80 rfl D fun D => (q1 s_ild D fun D => (q1 s_iald D fun D => (q1 s_ild D fun D => (q1 s_ild D fun D => (q1 s_shr D fun D => (q1 (s_iconst (n := 1) (v := 1) (by decide)) D fun D => (q1 s_and D fun D => (q1 s_add D fun D => (s_keep [true, false, false, true, true, true, true, true, true, false, false] fun _ _ _ h => h))))))))))) fun D => (q1 (s_iconst (n := 0) (v := 0) (by decide)) D fun D => (qG 216 (by decide) D (s_keep [true, false, false, true, true, true, true, true, true, false, false] fun _ _ _ h => h)))))))))))))))))))))))))))
def b_X12_evening_216 (Q : Option Value → Hp → Prop) : Kt := i_iast (i_inc 8 1 (i_keep [true, false, false, true, true, true, true, true, true, false, false] (wp 23 MX12_evening Q 156)))
set_option maxRecDepth 100000 in
theorem s_X12_evening_216 (Q : Option Value → Hp → Prop) : ∀ A st h, b_X12_evening_216 Q A st h → wp 23 MX12_evening Q 216 A st h := (q1 s_iast D_X12_evening_216 fun D => (qL (s_inc (i := 8) (n := 1) (v := 1) (by decide)) (by decide) D fun D => (qG 156 (by decide) D (s_keep [true, false, false, true, true, true, true, true, true, false, false] fun _ _ _ h => h))))
def b_X12_evening_313 (Q : Option Value → Hp → Prop) : Kt := i_ild 9 (i_push (.int 4) (i_cmp (fun x y => y ≤ x) (i_push (.int 0) (i_ist 9 (i_keep [true, false, false, true, true, false, false, false, false, true, false] (wp 23 MX12_evening Q 362)))) (i_ald 0 (i_getR 12 34 (i_ild 8 (i_push (.int 5) (i_bin (fun x y => x + y) (i_ild 9 (i_bin (fun x y => x + y) (i_ild 9 (i_ald 0 (i_getR 12 3 (i_push (.int 0) (i_iald (i_cmp (fun x y => y ≤ x) (i_push (.int 0) (i_keep [true, false, false, true, true, false, false, false, true, true, false] (wp 23 MX12_evening Q 352))) (i_ald 0 (i_getR 12 57 (i_ild 9 (i_iald (i_keep [true, false, false, true, true, false, false, false, true, true, false] (wp 23 MX12_evening Q 352)))))))))))))))))))))
set_option maxRecDepth 100000 in
theorem s_X12_evening_313 (Q : Option Value → Hp → Prop) : ∀ A st h, b_X12_evening_313 Q A st h → wp 23 MX12_evening Q 313 A st h := (q1 s_ild D_X12_evening_313 fun D => (q1 (s_iconst (n := 4) (v := 4) (by decide)) D fun D => (qB s_cmpge 359 (by decide) D (q1 (s_iconst (n := 0) (v := 0) (by decide)) D_X12_evening_359 fun D => (qL s_ist (by decide) D fun D => (s_keep [true, false, false, true, true, false, false, false, false, true, false] fun _ _ _ h => h))) fun D => (q1 (s_aldn (n := 0) (i := 0) rfl) D fun D => (qC fl_X12_107 rfl D fun D => (q1 s_ild D fun D => (q1 (s_iconst (n := 5) (v := 5) (by decide)) D fun D => (q1 s_add D fun D => (q1 s_ild D fun D => (q1 s_add D fun D => (q1 s_ild D fun D => (q1 (s_aldn (n := 0) (i := 0) rfl) D fun D => (qC fl_X12_13 rfl D fun D => (q1 (s_iconst (n := 0) (v := 0) (by decide)) D fun D => (q1 s_iald D fun D => (qB s_cmpge 351 (by decide) D (q1 (s_iconst (n := 0) (v := 0) (by decide)) D_X12_evening_351 fun D => (s_keep [true, false, false, true, true, false, false, false, true, true, false] fun _ _ _ h => h)) fun D => (q1 (s_aldn (n := 0) (i := 0) rfl) D fun D => (qC fl_X12_144 rfl D fun D => (q1 s_ild D fun D => (q1 s_iald D fun D => (qG 352 (by decide) D (s_keep [true, false, false, true, true, false, false, false, true, true, false] fun _ _ _ h => h))))))))))))))))))))))
def b_X12_evening_352 (Q : Option Value → Hp → Prop) : Kt := i_iast (i_inc 9 1 (i_keep [true, false, false, true, true, false, false, false, true, true, false] (wp 23 MX12_evening Q 313)))
set_option maxRecDepth 100000 in
theorem s_X12_evening_352 (Q : Option Value → Hp → Prop) : ∀ A st h, b_X12_evening_352 Q A st h → wp 23 MX12_evening Q 352 A st h := (q1 s_iast D_X12_evening_352 fun D => (qL (s_inc (i := 9) (n := 1) (v := 1) (by decide)) (by decide) D fun D => (qG 313 (by decide) D (s_keep [true, false, false, true, true, false, false, false, true, true, false] fun _ _ _ h => h))))
def b_X12_evening_362 (Q : Option Value → Hp → Prop) : Kt := i_ild 9 (i_ald 0 (i_getR 12 9 (i_push (.int 0) (i_iald (i_cmp (fun x y => y ≤ x) (i_ald 0 (i_getR 12 33 (i_push (.int 0) (i_dup2 (i_iald (i_push (.int 1) (i_bin (fun x y => x + y) (i_iast (i_ild 4 (i_callS 1 T_X12_ones (i_iret Q))))))))))) (i_ild 4 (i_ild 9 (i_bin (fun x y => x >>> (y &&& 31)) (i_push (.int 1) (i_bin (fun x y => x &&& y) (i_if (fun x => x = 0) (i_ild 3 (i_ild 9 (i_bin (fun x y => x >>> (y &&& 31)) (i_push (.int 1) (i_bin (fun x y => x &&& y) (i_if (fun x => x = 0) (i_keep [true, false, false, true, true, false, false, false, false, true, false] (wp 23 MX12_evening Q 479)) (i_ald 0 (i_getR 12 16 (i_ild 9 (i_dup2 (i_iald (i_push (.int 1) (i_bin (fun x y => x + y) (i_iast (i_keep [true, false, false, true, true, false, false, false, false, true, false] (wp 23 MX12_evening Q 479)))))))))))))))) (i_ald 0 (i_getR 12 15 (i_ild 9 (i_dup2 (i_iald (i_push (.int 1) (i_bin (fun x y => x + y) (i_iast (i_ald 0 (i_getR 12 16 (i_ild 9 (i_push (.int 0) (i_iast (i_push (.int 0) (i_ist 10 (i_keep [true, false, false, true, true, false, false, false, false, true, true] (wp 23 MX12_evening Q 405))))))))))))))))))))))))))))
set_option maxRecDepth 100000 in
theorem s_X12_evening_362 (Q : Option Value → Hp → Prop) : ∀ A st h, b_X12_evening_362 Q A st h → wp 23 MX12_evening Q 362 A st h := (q1 s_ild D_X12_evening_362 fun D => (q1 (s_aldn (n := 0) (i := 0) rfl) D fun D => (qC fl_X12_32 rfl D fun D => (q1 (s_iconst (n := 0) (v := 0) (by decide)) D fun D => (q1 s_iald D fun D => (qB s_cmpge 485 (by decide) D (q1 (s_aldn (n := 0) (i := 0) rfl) D_X12_evening_485 fun D => (qC fl_X12_104 rfl D fun D => (q1 (s_iconst (n := 0) (v := 0) (by decide)) D fun D => (q1 s_dup2 D fun D => (q1 s_iald D fun D => (q1 (s_iconst (n := 1) (v := 1) (by decide)) D fun D => (q1 s_add D fun D => (q1 s_iast D fun D => (q1 s_ild D fun D => (qX (s_callS ok_X12_ones mo_X12_ones (ch_6_4_ok.2.2.2.1.1 rfl) (ch_6_4_ok.2.2.2.2.1.1 rfl)) rfl (by decide) D fun D => (qI rfl D))))))))))) fun D => (q1 s_ild D fun D => (q1 s_ild D fun D => (q1 s_shr D fun D => (q1 (s_iconst (n := 1) (v := 1) (by decide)) D fun D => (q1 s_and D fun D => (qB s_ifeq 459 (by decide) D (q1 (s_ildn (n := 3) (i := 3) rfl) D_X12_evening_459 fun D => (q1 s_ild D fun D => (q1 s_shr D fun D => (q1 (s_iconst (n := 1) (v := 1) (by decide)) D fun D => (q1 s_and D fun D => (qB s_ifeq 479 (by decide) D (s_keep [true, false, false, true, true, false, false, false, false, true, false] fun _ _ _ h => h) fun D => (q1 (s_aldn (n := 0) (i := 0) rfl) D fun D => (qC fl_X12_53 rfl D fun D => (q1 s_ild D fun D => (q1 s_dup2 D fun D => (q1 s_iald D fun D => (q1 (s_iconst (n := 1) (v := 1) (by decide)) D fun D => (q1 s_add D fun D => (q1 s_iast D fun D => (s_keep [true, false, false, true, true, false, false, false, false, true, false] fun _ _ _ h => h))))))))))))))) fun D => (q1 (s_aldn (n := 0) (i := 0) rfl) D fun D => (qC fl_X12_50 rfl D fun D => (q1 s_ild D fun D => (q1 s_dup2 D fun D => (q1 s_iald D fun D => (q1 (s_iconst (n := 1) (v := 1) (by decide)) D fun D => (q1 s_add D fun D => (q1 s_iast D fun D => (q1 (s_aldn (n := 0) (i := 0) rfl) D fun D => (qC fl_X12_53 rfl D fun D => (q1 s_ild D fun D => (q1 (s_iconst (n := 0) (v := 0) (by decide)) D fun D => (q1 s_iast D fun D => (q1 (s_iconst (n := 0) (v := 0) (by decide)) D fun D => (qL s_ist (by decide) D fun D => (s_keep [true, false, false, true, true, false, false, false, false, true, true] fun _ _ _ h => h))))))))))))))))))))))))))))
def b_X12_evening_405 (Q : Option Value → Hp → Prop) : Kt := i_ild 10 (i_ald 0 (i_getR 12 3 (i_push (.int 0) (i_iald (i_cmp (fun x y => y ≤ x) (i_keep [true, false, false, true, true, false, false, false, false, true, false] (wp 23 MX12_evening Q 479)) (i_ald 0 (i_getR 12 17 (i_ild 9 (i_ald 0 (i_getR 12 57 (i_ild 10 (i_iald (i_ild 9 (i_bin (fun x y => x >>> (y &&& 31)) (i_push (.int 1) (i_bin (fun x y => x &&& y) (i_if (fun x => x = 0) (i_ald 0 (i_getR 12 17 (i_ild 9 (i_iald (i_keep [true, false, false, true, true, false, false, false, false, true, true] (wp 23 MX12_evening Q 449)))))) (i_ild 10 (i_keep [true, false, false, true, true, false, false, false, false, true, true] (wp 23 MX12_evening Q 449))))))))))))))))))))
set_option maxRecDepth 100000 in
theorem s_X12_evening_405 (Q : Option Value → Hp → Prop) : ∀ A st h, b_X12_evening_405 Q A st h → wp 23 MX12_evening Q 405 A st h := (q1 s_ild D_X12_evening_405 fun D => (q1 (s_aldn (n := 0) (i := 0) rfl) D fun D => (qC fl_X12_13 rfl D fun D => (q1 (s_iconst (n := 0) (v := 0) (by decide)) D fun D => (q1 s_iald D fun D => (qB s_cmpge 456 (by decide) D (qG 479 (by decide) D_X12_evening_456 (s_keep [true, false, false, true, true, false, false, false, false, true, false] fun _ _ _ h => h)) fun D => (q1 (s_aldn (n := 0) (i := 0) rfl) D fun D => (qC fl_X12_56 rfl D fun D => (q1 s_ild D fun D => (q1 (s_aldn (n := 0) (i := 0) rfl) D fun D => (qC fl_X12_144 rfl D fun D => (q1 s_ild D fun D => (q1 s_iald D fun D => (q1 s_ild D fun D => (q1 s_shr D fun D => (q1 (s_iconst (n := 1) (v := 1) (by decide)) D fun D => (q1 s_and D fun D => (qB s_ifeq 442 (by decide) D (q1 (s_aldn (n := 0) (i := 0) rfl) D_X12_evening_442 fun D => (qC fl_X12_56 rfl D fun D => (q1 s_ild D fun D => (q1 s_iald D fun D => (s_keep [true, false, false, true, true, false, false, false, false, true, true] fun _ _ _ h => h))))) fun D => (q1 s_ild D fun D => (qG 449 (by decide) D (s_keep [true, false, false, true, true, false, false, false, false, true, true] fun _ _ _ h => h)))))))))))))))))))))
def b_X12_evening_449 (Q : Option Value → Hp → Prop) : Kt := i_iast (i_inc 10 1 (i_keep [true, false, false, true, true, false, false, false, false, true, true] (wp 23 MX12_evening Q 405)))
set_option maxRecDepth 100000 in
theorem s_X12_evening_449 (Q : Option Value → Hp → Prop) : ∀ A st h, b_X12_evening_449 Q A st h → wp 23 MX12_evening Q 449 A st h := (q1 s_iast D_X12_evening_449 fun D => (qL (s_inc (i := 10) (n := 1) (v := 1) (by decide)) (by decide) D fun D => (qG 405 (by decide) D (s_keep [true, false, false, true, true, false, false, false, false, true, true] fun _ _ _ h => h))))
def b_X12_evening_479 (Q : Option Value → Hp → Prop) : Kt := i_inc 9 1 (i_keep [true, false, false, true, true, false, false, false, false, true, false] (wp 23 MX12_evening Q 362))
set_option maxRecDepth 100000 in
theorem s_X12_evening_479 (Q : Option Value → Hp → Prop) : ∀ A st h, b_X12_evening_479 Q A st h → wp 23 MX12_evening Q 479 A st h := (qL (s_inc (i := 9) (n := 1) (v := 1) (by decide)) (by decide) D_X12_evening_479 fun D => (qG 362 (by decide) D (s_keep [true, false, false, true, true, false, false, false, false, true, false] fun _ _ _ h => h)))

theorem hlM_o (f : Nat → Nat → Int32) (C : Int32) (d k : Nat) {a : Nat} (h1 : a ≠ 67) (h2 : a ≠ 68) (i : Nat) : hlM f C d k a i = f a i := by
  unfold hlM; rw [if_neg (fun z => h1 z.1), if_neg (fun z => h2 z.1)]
theorem hlM_67 (f : Nat → Nat → Int32) (C : Int32) (d k i : Nat) (h : k ≤ i) : hlM f C d k 67 i = f 67 i := by
  unfold hlM; rw [if_neg (fun z => by omega), if_neg (fun z => by omega)]
theorem hlM_68 (f : Nat → Nat → Int32) (C : Int32) (d k i : Nat) (h : k ≤ i) : hlM f C d k 68 i = f 68 i := by
  unfold hlM; rw [if_neg (fun z => by omega), if_neg (fun z => by omega)]
theorem hlM_s (f : Nat → Nat → Int32) (C : Int32) (d k : Nat) : u2 (u2 (hlM f C d k) 67 k (f 67 k + b2i (bt C k = true))) 68 k (if d = 6 then 0 else f 68 k + b2i (bt C k = true)) = hlM f C d (k + 1) := by
  funext a i
  unfold u2 hlM
  by_cases h8 : a = 68
  · subst h8
    have e67 : ∀ x, ¬ (68 = 67 ∧ x) := fun x z => by cases z.1
    rw [if_neg (e67 _), if_neg (e67 _), if_neg (e67 _)]
    by_cases hi : i = k
    · subst hi
      have hc : 68 = 68 ∧ i < i + 1 := ⟨rfl, by omega⟩
      have hc2 : 68 = 68 ∧ i = i := ⟨rfl, rfl⟩
      rw [if_pos hc2, if_pos hc]
    · rw [if_neg (fun z => hi z.2)]
      by_cases c : i < k
      · have hc : 68 = 68 ∧ i < k + 1 := ⟨rfl, by omega⟩
        have hc2 : 68 = 68 ∧ i < k := ⟨rfl, c⟩
        rw [if_pos hc2, if_pos hc]
      · rw [if_neg (fun z => c z.2), if_neg (fun z => by omega)]
  · rw [if_neg (fun z => h8 z.1)]
    have e68 : ∀ x, ¬ (a = 68 ∧ x) := fun x z => h8 z.1
    rw [if_neg (e68 _), if_neg (e68 _)]
    by_cases h7 : a = 67
    · subst h7
      by_cases hi : i = k
      · subst hi
        rw [if_pos ⟨rfl, rfl⟩, if_pos ⟨rfl, by omega⟩]
      · rw [if_neg (fun z => hi z.2)]
        by_cases c : i < k
        · rw [if_pos ⟨rfl, c⟩, if_pos ⟨rfl, by omega⟩]
        · rw [if_neg (fun z => c z.2), if_neg (fun z => by omega)]
    · rw [if_neg (fun z => h7 z.1), if_neg (fun z => h7 z.1), if_neg (fun z => h7 z.1)]
theorem hlM_0 (f : Nat → Nat → Int32) (C : Int32) (d : Nat) : hlM f C d 0 = f := by
  funext a i
  unfold hlM; rw [if_neg (fun z => by omega), if_neg (fun z => by omega)]
theorem bkL_0 (f : Nat → Nat → Int32) (R E : Nat) : bkL f R E 0 = f := by
  funext a i
  unfold bkL; rw [if_neg (fun z => by omega)]
theorem bkL_o (f : Nat → Nat → Int32) (R E j : Nat) {a : Nat} (h : a ≠ 77) (i : Nat) : bkL f R E j a i = f a i := if_neg (fun z => h z.1)
theorem bkL_s (f : Nat → Nat → Int32) (R E j : Nat) (v : Int32) (hv : v = if j < R then f 88 j else 0) : u2 (bkL f R E j) 77 (10 * E + 5 + j) v = bkL f R E (j + 1) := by
  funext a i
  unfold u2 bkL
  by_cases ha : a = 77
  · subst ha
    by_cases hi : i = 10 * E + 5 + j
    · subst hi
      rw [if_pos ⟨rfl, rfl⟩, if_pos ⟨rfl, by omega, by omega⟩, hv, show 10 * E + 5 + j - (10 * E + 5) = j by omega]
    · rw [if_neg (fun z => hi z.2)]
      by_cases c : 10 * E + 5 ≤ i ∧ i < 10 * E + 5 + j
      · have hc : 77 = 77 ∧ 10 * E + 5 ≤ i ∧ i < 10 * E + 5 + (j + 1) := ⟨rfl, c.1, by omega⟩
        have hc2 : 77 = 77 ∧ 10 * E + 5 ≤ i ∧ i < 10 * E + 5 + j := ⟨rfl, c⟩
        rw [if_pos hc2, if_pos hc]
      · rw [if_neg (fun z => c z.2), if_neg (fun z => c ⟨z.2.1, by omega⟩)]
  · rw [if_neg (fun z => ha z.1), if_neg (fun z => ha z.1), if_neg (fun z => ha z.1)]
theorem bk0_o (f : Nat → Nat → Int32) (R E : Nat) (T those C : Int32) (w : Nat) (K : Int32) {a : Nat} (h : a ≠ 77) (i : Nat) : bk0 f R E T those C w K a i = f a i := by
  unfold bk0
  rw [u2_ne (fun z => h z.1), u2_ne (fun z => h z.1), u2_ne (fun z => h z.1), u2_ne (fun z => h z.1), u2_ne (fun z => h z.1), u2_ne (fun z => h z.1)]
theorem ppM_0 (f : Nat → Nat → Int32) (T those : Int32) (F : Nat → Nat) : ppM f T those F 0 = f := by
  funext a i
  unfold ppM
  rw [if_neg (fun z => by omega), if_neg (fun z => by omega), if_neg (fun z => by omega), if_neg (fun z => by omega)]
theorem ppM_o (f : Nat → Nat → Int32) (T those : Int32) (F : Nat → Nat) (k : Nat) {a : Nat} (h1 : a ≠ 58) (h2 : a ≠ 59) (h3 : a ≠ 60) (i : Nat) : ppM f T those F k a i = f a i := by
  unfold ppM
  rw [if_neg (fun z => h1 z.1), if_neg (fun z => h2 z.1), if_neg (fun z => h2 z.1), if_neg (fun z => h3 z.1)]
theorem ppM_hi (f : Nat → Nat → Int32) (T those : Int32) (F : Nat → Nat) (k a i : Nat) (h : k ≤ i) : ppM f T those F k a i = f a i := by
  unfold ppM
  rw [if_neg (fun z => by omega), if_neg (fun z => by omega), if_neg (fun z => by omega), if_neg (fun z => by omega)]
theorem ppM_lo (f : Nat → Nat → Int32) (T those : Int32) (F : Nat → Nat) (k a i : Nat) (h : i ≠ k) : ppM f T those F (k + 1) a i = ppM f T those F k a i := by
  have e : ∀ x : Prop, (i < k + 1 ∧ x) ↔ (i < k ∧ x) := fun x => ⟨fun z => ⟨by omega, z.2⟩, fun z => ⟨by omega, z.2⟩⟩
  unfold ppM
  simp only [e]
theorem ppM_t (f : Nat → Nat → Int32) (T those : Int32) (F : Nat → Nat) (k : Nat) (hb : bt T k = true) : u2 (u2 (u2 (ppM f T those F k) 58 k (f 58 k + 1)) 59 k 0) 60 k (nI (F k)) = ppM f T those F (k + 1) := by
  funext a i
  by_cases hi : i = k
  · subst hi
    unfold u2
    by_cases h60 : a = 60
    · subst h60
      rw [if_pos ⟨rfl, rfl⟩]
      unfold ppM
      rw [if_neg (fun z => by cases z.1), if_neg (fun z => by cases z.1), if_neg (fun z => by cases z.1), if_pos ⟨rfl, by omega, hb⟩]
    · rw [if_neg (fun z => h60 z.1)]
      by_cases h59 : a = 59
      · subst h59
        rw [if_pos ⟨rfl, rfl⟩]
        unfold ppM
        rw [if_neg (fun z => by cases z.1), if_pos ⟨rfl, by omega, hb⟩]
      · rw [if_neg (fun z => h59 z.1)]
        by_cases h58 : a = 58
        · subst h58
          rw [if_pos ⟨rfl, rfl⟩]
          unfold ppM
          rw [if_pos ⟨rfl, by omega, hb⟩]
        · rw [if_neg (fun z => h58 z.1), ppM_o _ _ _ _ _ h58 h59 h60, ppM_o _ _ _ _ _ h58 h59 h60]
  · rw [ppM_lo _ _ _ _ _ _ _ hi, u2_ne (fun z => hi z.2), u2_ne (fun z => hi z.2), u2_ne (fun z => hi z.2)]
theorem ppM_d (f : Nat → Nat → Int32) (T those : Int32) (F : Nat → Nat) (k : Nat) (hb : bt T k = false) (hd : bt those k = true) : u2 (ppM f T those F k) 59 k (f 59 k + 1) = ppM f T those F (k + 1) := by
  have hb' : ¬ bt T k = true := by rw [hb]; decide
  funext a i
  by_cases hi : i = k
  · subst hi
    by_cases h59 : a = 59
    · subst h59
      rw [u2_eq]
      unfold ppM
      rw [if_neg (fun z => by cases z.1), if_neg (fun z => hb' z.2.2), if_pos ⟨rfl, by omega, hd⟩]
    · rw [u2_ne (fun z => h59 z.1), ppM_hi _ _ _ _ _ _ _ (Nat.le_refl _)]
      unfold ppM
      rw [if_neg (fun z => hb' z.2.2), if_neg (fun z => h59 z.1), if_neg (fun z => h59 z.1), if_neg (fun z => hb' z.2.2)]
  · rw [ppM_lo _ _ _ _ _ _ _ hi, u2_ne (fun z => hi z.2)]
theorem ppM_n (f : Nat → Nat → Int32) (T those : Int32) (F : Nat → Nat) (k : Nat) (hb : bt T k = false) (hd : bt those k = false) : ppM f T those F k = ppM f T those F (k + 1) := by
  have hb' : ¬ bt T k = true := by rw [hb]; decide
  have hd' : ¬ bt those k = true := by rw [hd]; decide
  funext a i
  by_cases hi : i = k
  · subst hi
    rw [ppM_hi _ _ _ _ _ _ _ (Nat.le_refl _)]
    unfold ppM
    rw [if_neg (fun z => hb' z.2.2), if_neg (fun z => hb' z.2.2), if_neg (fun z => hd' z.2.2), if_neg (fun z => hb' z.2.2)]
  · rw [ppM_lo _ _ _ _ _ _ _ hi]
-- the people rows, to the end
set_option maxRecDepth 100000 in
set_option maxHeartbeats 4000000 in
theorem ev_362 (Q : Option Value → Hp → Prop) (h : Hp) (hl0 : LayM h) (f : Nat → Nat → Int32) (T those : Int32) (F : Nat → Nat) (R P E : Nat) (hR : R ≤ 4) (hP : P ≤ 24) (hE : E ≤ 400) (h46 : f 46 0 = nI R) (h52 : f 52 0 = nI P) (h76 : f 76 0 = nI E) (h88 : ∀ r p, r < R → p < P → bt T p = true → (bt (f 88 r) p = true ↔ F p = r)) (hF : ∀ p, p < P → bt T p = true → F p < R)
    (hq : Q (some (.int (nI (pct T)))) (wI h (u2 (ppM f T those F P) 76 0 (nI (E + 1))))) :
    ∀ (m p : Nat), m = P - p → p ≤ P → wp 23 MX12_evening Q 362 [some (.ref 44), none, none, some (.int those), some (.int T), none, none, none, none, some (.int (nI p)), none] [] (wI h (ppM f T those F p)) := by
  intro m
  induction m with
  | zero =>
    intro p hm hp
    have e : p = P := by omega
    subst e
    have hl : LayM (wI h (ppM f T those F p)) := hl0.wI _
    have e52 : hI (wI h (ppM f T those F p)) 52 0 = nI p := (ppM_o f T those F p (by decide) (by decide) (by decide) 0).trans h52
    have e76 : hI (wI h (ppM f T those F p)) 76 0 = nI E := (ppM_o f T those F p (by decide) (by decide) (by decide) 0).trans h76
    have hH : pI (wI h (ppM f T those F p)) 76 0 (nI (E + 1)) = wI h (u2 (ppM f T those F p) 76 0 (nI (E + 1))) := rfl
    refine s_X12_evening_362 Q _ _ _ ?_
    generalize wI h (ppM f T those F p) = H at hl e52 e76 hH ⊢
    simp only [b_X12_evening_362, hl, lay_pI, lay_wI, lay_pJ, lm_t hl, lm_k hl, lm_r hl, lm_l hl, i_push, i_ild, i_ald, i_ist, i_ast, i_inc, i_bin, i_un, i_divs, i_i2l, i_lshl, i_lor, i_dup, i_dup2, i_pop, i_if, i_cmp, i_nul, i_vret, i_iret, i_zret, i_aret, i_keep, keep, lget, lset, ent, i_getI, i_getJ, i_getR, i_getN, i_putI, i_putZ, i_putJ, i_putR, i_iald, i_bald, i_alen, i_aald, i_iast, i_bast, i_aast, i_new, i_newa, i_anew, i_oini, i_callS, i_callV, i_callI, popn, sh4, i_sw, swP, i_copy, i_binS, List.map, Option.toList_none, Option.toList_some, List.append, List.nil_append, List.cons_append, List.length_cons, List.length_nil, List.replicate, Nat.sub_self, Nat.reduceSub, Nat.reduceAdd, hK_pI, hL_pI, hI_pI, hR_pI, hJ_pI, hT_pI, hS_pI, hK_pR, hL_pR, hI_pR, hR_pR, hJ_pR, hT_pR, hS_pR, hK_pJ, hL_pJ, hI_pJ, hR_pJ, hJ_pJ, hT_pJ, hS_pJ, hK_wI, hL_wI, hI_wI, hR_wI, hJ_wI, hT_wI, hS_wI, eq_self, and_true, true_and, and_false, false_and, or_true, true_or, or_false, false_or, if_true, if_false, not_true_eq_false, not_false_eq_true, forall_const, implies_true, false_implies, true_implies, Option.some.injEq, forall_eq', exists_eq_left', reduceCtorEq, Nat.reduceEqDiff, c1, T_X12_in, T_X12_ones, T_X11_within, T_X11_bit, T_X11_isIn, T_X11_oneIfIn, T_J6_bitCount_0f7a4, in0 4 (by decide) (by decide), cl0, e52, e76, nI_1, hH]
    exact ⟨fun _ => hq, fun c => absurd (nI_le (Nat.le_refl _) (by omega)) c⟩
  | succ m ih =>
    intro p hm hp
    have hl : LayM (wI h (ppM f T those F p)) := hl0.wI _
    have e52 : hI (wI h (ppM f T those F p)) 52 0 = nI P := (ppM_o f T those F p (by decide) (by decide) (by decide) 0).trans h52
    have e58 : hI (wI h (ppM f T those F p)) 58 p = f 58 p := ppM_hi f T those F p 58 p (Nat.le_refl _)
    have e59 : hI (wI h (ppM f T those F p)) 59 p = f 59 p := ppM_hi f T those F p 59 p (Nat.le_refl _)
    have h479 : ∀ g, g = ppM f T those F (p + 1) → wp 23 MX12_evening Q 479 [some (.ref 44), none, none, some (.int those), some (.int T), none, none, none, none, some (.int (nI p)), none] [] (wI h g) := by
      intro g hg
      subst hg
      refine s_X12_evening_479 Q _ _ _ ?_
      simp only [b_X12_evening_479, i_push, i_ild, i_ald, i_ist, i_ast, i_inc, i_bin, i_un, i_divs, i_i2l, i_lshl, i_lor, i_dup, i_dup2, i_pop, i_if, i_cmp, i_nul, i_vret, i_iret, i_zret, i_aret, i_keep, keep, lget, lset, ent, i_getI, i_getJ, i_getR, i_getN, i_putI, i_putZ, i_putJ, i_putR, i_iald, i_bald, i_alen, i_aald, i_iast, i_bast, i_aast, i_new, i_newa, i_anew, i_oini, i_callS, i_callV, i_callI, popn, sh4, i_sw, swP, i_copy, i_binS, List.map, Option.toList_none, Option.toList_some, List.append, List.nil_append, List.cons_append, List.length_cons, List.length_nil, List.replicate, Nat.sub_self, Nat.reduceSub, Nat.reduceAdd, hK_pI, hL_pI, hI_pI, hR_pI, hJ_pI, hT_pI, hS_pI, hK_pR, hL_pR, hI_pR, hR_pR, hJ_pR, hT_pR, hS_pR, hK_pJ, hL_pJ, hI_pJ, hR_pJ, hJ_pJ, hT_pJ, hS_pJ, hK_wI, hL_wI, hI_wI, hR_wI, hJ_wI, hT_wI, hS_wI, eq_self, and_true, true_and, and_false, false_and, or_true, true_or, or_false, false_or, if_true, if_false, not_true_eq_false, not_false_eq_true, forall_const, implies_true, false_implies, true_implies, Option.some.injEq, forall_eq', exists_eq_left', reduceCtorEq, Nat.reduceEqDiff, c1, T_X12_in, T_X12_ones, T_X11_within, T_X11_bit, T_X11_isIn, T_X11_oneIfIn, T_J6_bitCount_0f7a4, nI_1]
      exact ih (p + 1) (by omega) (by omega)
    by_cases hb : bt T p = true
    · have hFp := hF p (by omega) hb
      -- the room that one slept in
      obtain ⟨f2, hf2⟩ : ∃ f2, f2 = u2 (u2 (ppM f T those F p) 58 p (f 58 p + 1)) 59 p 0 := ⟨_, rfl⟩
      have hfin := h479 (u2 f2 60 p (nI (F p))) (by rw [hf2]; exact ppM_t f T those F p hb)
      have f2o : ∀ a i, a ≠ 58 → a ≠ 59 → a ≠ 60 → f2 a i = f a i := fun a i a1 a2 a3 => by rw [hf2, u2_ne (fun z => a2 z.1), u2_ne (fun z => a1 z.1), ppM_o f T those F p a1 a2 a3]
      have h405 : ∀ (m2 r : Nat) (v : Int32), m2 = R - r → r ≤ R → (v = if F p < r then nI (F p) else f2 60 p) → wp 23 MX12_evening Q 405 [some (.ref 44), none, none, some (.int those), some (.int T), none, none, none, none, some (.int (nI p)), some (.int (nI r))] [] (wI h (u2 f2 60 p v)) := by
        intro m2
        induction m2 with
        | zero =>
          intro r v hm2 hr hv
          have e : r = R := by omega
          subst e
          rw [if_pos hFp] at hv
          subst hv
          have hl : LayM (wI h (u2 f2 60 p (nI (F p)))) := hl0.wI _
          have e46 : hI (wI h (u2 f2 60 p (nI (F p)))) 46 0 = nI r := by rw [hI_wI, u2_ne (fun z => by cases z.1), f2o 46 0 (by decide) (by decide) (by decide)]; exact h46
          refine s_X12_evening_405 Q _ _ _ ?_
          generalize wI h (u2 f2 60 p (nI (F p))) = H at hl e46 hfin ⊢
          simp only [b_X12_evening_405, hl, lay_pI, lay_wI, lay_pJ, lm_t hl, lm_k hl, lm_r hl, lm_l hl, i_push, i_ild, i_ald, i_ist, i_ast, i_inc, i_bin, i_un, i_divs, i_i2l, i_lshl, i_lor, i_dup, i_dup2, i_pop, i_if, i_cmp, i_nul, i_vret, i_iret, i_zret, i_aret, i_keep, keep, lget, lset, ent, i_getI, i_getJ, i_getR, i_getN, i_putI, i_putZ, i_putJ, i_putR, i_iald, i_bald, i_alen, i_aald, i_iast, i_bast, i_aast, i_new, i_newa, i_anew, i_oini, i_callS, i_callV, i_callI, popn, sh4, i_sw, swP, i_copy, i_binS, List.map, Option.toList_none, Option.toList_some, List.append, List.nil_append, List.cons_append, List.length_cons, List.length_nil, List.replicate, Nat.sub_self, Nat.reduceSub, Nat.reduceAdd, hK_pI, hL_pI, hI_pI, hR_pI, hJ_pI, hT_pI, hS_pI, hK_pR, hL_pR, hI_pR, hR_pR, hJ_pR, hT_pR, hS_pR, hK_pJ, hL_pJ, hI_pJ, hR_pJ, hJ_pJ, hT_pJ, hS_pJ, hK_wI, hL_wI, hI_wI, hR_wI, hJ_wI, hT_wI, hS_wI, eq_self, and_true, true_and, and_false, false_and, or_true, true_or, or_false, false_or, if_true, if_false, not_true_eq_false, not_false_eq_true, forall_const, implies_true, false_implies, true_implies, Option.some.injEq, forall_eq', exists_eq_left', reduceCtorEq, Nat.reduceEqDiff, c1, T_X12_in, T_X12_ones, T_X11_within, T_X11_bit, T_X11_isIn, T_X11_oneIfIn, T_J6_bitCount_0f7a4, in0 4 (by decide) (by decide), cl0, e46]
          exact ⟨fun _ => hfin, fun c => absurd (nI_le (Nat.le_refl _) (by omega)) c⟩
        | succ m2 ih2 =>
          intro r v hm2 hr hv
          have hl : LayM (wI h (u2 f2 60 p v)) := hl0.wI _
          have e46 : hI (wI h (u2 f2 60 p v)) 46 0 = nI R := by rw [hI_wI, u2_ne (fun z => by cases z.1), f2o 46 0 (by decide) (by decide) (by decide)]; exact h46
          have e88 : hI (wI h (u2 f2 60 p v)) 88 r = f 88 r := by rw [hI_wI, u2_ne (fun z => by cases z.1), f2o 88 r (by decide) (by decide) (by decide)]
          have e60 : hI (wI h (u2 f2 60 p v)) 60 p = v := by rw [hI_wI, u2_eq]
          have hH : ∀ x, pI (wI h (u2 f2 60 p v)) 60 p x = wI h (u2 f2 60 p x) := fun x => by
            show wI h (u2 (u2 f2 60 p v) 60 p x) = _
            congr 1
            funext a i
            unfold u2
            split <;> rfl
          have h449 : ∀ x, (x = if F p < r + 1 then nI (F p) else f2 60 p) → wp 23 MX12_evening Q 449 [some (.ref 44), none, none, some (.int those), some (.int T), none, none, none, none, some (.int (nI p)), some (.int (nI r))] [.int x, .int (nI p), .ref 60] (wI h (u2 f2 60 p v)) := by
            intro x hx
            have hgo := ih2 (r + 1) x (by omega) (by omega) hx
            rw [← hH x] at hgo
            refine s_X12_evening_449 Q _ _ _ ?_
            generalize wI h (u2 f2 60 p v) = H at hl hgo ⊢
            simp only [b_X12_evening_449, hl, lay_pI, lay_wI, lay_pJ, lm_t hl, lm_k hl, lm_r hl, lm_l hl, i_push, i_ild, i_ald, i_ist, i_ast, i_inc, i_bin, i_un, i_divs, i_i2l, i_lshl, i_lor, i_dup, i_dup2, i_pop, i_if, i_cmp, i_nul, i_vret, i_iret, i_zret, i_aret, i_keep, keep, lget, lset, ent, i_getI, i_getJ, i_getR, i_getN, i_putI, i_putZ, i_putJ, i_putR, i_iald, i_bald, i_alen, i_aald, i_iast, i_bast, i_aast, i_new, i_newa, i_anew, i_oini, i_callS, i_callV, i_callI, popn, sh4, i_sw, swP, i_copy, i_binS, List.map, Option.toList_none, Option.toList_some, List.append, List.nil_append, List.cons_append, List.length_cons, List.length_nil, List.replicate, Nat.sub_self, Nat.reduceSub, Nat.reduceAdd, hK_pI, hL_pI, hI_pI, hR_pI, hJ_pI, hT_pI, hS_pI, hK_pR, hL_pR, hI_pR, hR_pR, hJ_pR, hT_pR, hS_pR, hK_pJ, hL_pJ, hI_pJ, hR_pJ, hJ_pJ, hT_pJ, hS_pJ, hK_wI, hL_wI, hI_wI, hR_wI, hJ_wI, hT_wI, hS_wI, eq_self, and_true, true_and, and_false, false_and, or_true, true_or, or_false, false_or, if_true, if_false, not_true_eq_false, not_false_eq_true, forall_const, implies_true, false_implies, true_implies, Option.some.injEq, forall_eq', exists_eq_left', reduceCtorEq, Nat.reduceEqDiff, c1, T_X12_in, T_X12_ones, T_X11_within, T_X11_bit, T_X11_isIn, T_X11_oneIfIn, T_J6_bitCount_0f7a4, cl_nI (show p < 2147483648 by omega), in_nI (show p < 96 by omega) (by decide), nI_1]
            exact hgo
          have hbr := h88 r p (by omega) (by omega) hb
          refine s_X12_evening_405 Q _ _ _ ?_
          generalize wI h (u2 f2 60 p v) = H at hl e46 e88 e60 h449 ⊢
          simp only [b_X12_evening_405, hl, lay_pI, lay_wI, lay_pJ, lm_t hl, lm_k hl, lm_r hl, lm_l hl, i_push, i_ild, i_ald, i_ist, i_ast, i_inc, i_bin, i_un, i_divs, i_i2l, i_lshl, i_lor, i_dup, i_dup2, i_pop, i_if, i_cmp, i_nul, i_vret, i_iret, i_zret, i_aret, i_keep, keep, lget, lset, ent, i_getI, i_getJ, i_getR, i_getN, i_putI, i_putZ, i_putJ, i_putR, i_iald, i_bald, i_alen, i_aald, i_iast, i_bast, i_aast, i_new, i_newa, i_anew, i_oini, i_callS, i_callV, i_callI, popn, sh4, i_sw, swP, i_copy, i_binS, List.map, Option.toList_none, Option.toList_some, List.append, List.nil_append, List.cons_append, List.length_cons, List.length_nil, List.replicate, Nat.sub_self, Nat.reduceSub, Nat.reduceAdd, hK_pI, hL_pI, hI_pI, hR_pI, hJ_pI, hT_pI, hS_pI, hK_pR, hL_pR, hI_pR, hR_pR, hJ_pR, hT_pR, hS_pR, hK_pJ, hL_pJ, hI_pJ, hR_pJ, hJ_pJ, hT_pJ, hS_pJ, hK_wI, hL_wI, hI_wI, hR_wI, hJ_wI, hT_wI, hS_wI, eq_self, and_true, true_and, and_false, false_and, or_true, true_or, or_false, false_or, if_true, if_false, not_true_eq_false, not_false_eq_true, forall_const, implies_true, false_implies, true_implies, Option.some.injEq, forall_eq', exists_eq_left', reduceCtorEq, Nat.reduceEqDiff, c1, T_X12_in, T_X12_ones, T_X11_within, T_X11_bit, T_X11_isIn, T_X11_oneIfIn, T_J6_bitCount_0f7a4, in0 4 (by decide) (by decide), cl0, e46, cl_nI (show r < 2147483648 by omega), in_nI (show r < 4 by omega) (by decide), e88, sh_bt (f 88 r) (show p < 32 by omega), cl_nI (show p < 2147483648 by omega), in_nI (show p < 96 by omega) (by decide), e60]
          refine ⟨fun c => absurd c (nI_ge (by omega) (by omega)), fun _ => ⟨fun c => h449 _ ?_, fun c => h449 _ ?_⟩⟩
          · have hne : ¬ F p = r := fun z => by rw [hbr.mpr z] at c; cases c
            rw [hv]
            by_cases c2 : F p < r
            · rw [if_pos c2, if_pos (by omega)]
            · rw [if_neg c2, if_neg (by omega)]
          · have he : F p = r := hbr.mp (by simpa using c)
            rw [if_pos (by omega), he]
      have hgo := h405 R 0 (f2 60 p) (by omega) (by omega) (by rw [if_neg (by omega)])
      have e0 : u2 f2 60 p (f2 60 p) = f2 := by
        funext a i
        unfold u2
        by_cases z : a = 60 ∧ i = p
        · rw [if_pos z, z.1, z.2]
        · rw [if_neg z]
      rw [e0, hf2] at hgo
      have hH : pI (pI (wI h (ppM f T those F p)) 58 p (f 58 p + 1)) 59 p 0 = wI h (u2 (u2 (ppM f T those F p) 58 p (f 58 p + 1)) 59 p 0) := rfl
      rw [← hH] at hgo
      refine s_X12_evening_362 Q _ _ _ ?_
      generalize wI h (ppM f T those F p) = H at hl e52 e58 hgo ⊢
      simp only [b_X12_evening_362, hl, lay_pI, lay_wI, lay_pJ, lm_t hl, lm_k hl, lm_r hl, lm_l hl, i_push, i_ild, i_ald, i_ist, i_ast, i_inc, i_bin, i_un, i_divs, i_i2l, i_lshl, i_lor, i_dup, i_dup2, i_pop, i_if, i_cmp, i_nul, i_vret, i_iret, i_zret, i_aret, i_keep, keep, lget, lset, ent, i_getI, i_getJ, i_getR, i_getN, i_putI, i_putZ, i_putJ, i_putR, i_iald, i_bald, i_alen, i_aald, i_iast, i_bast, i_aast, i_new, i_newa, i_anew, i_oini, i_callS, i_callV, i_callI, popn, sh4, i_sw, swP, i_copy, i_binS, List.map, Option.toList_none, Option.toList_some, List.append, List.nil_append, List.cons_append, List.length_cons, List.length_nil, List.replicate, Nat.sub_self, Nat.reduceSub, Nat.reduceAdd, hK_pI, hL_pI, hI_pI, hR_pI, hJ_pI, hT_pI, hS_pI, hK_pR, hL_pR, hI_pR, hR_pR, hJ_pR, hT_pR, hS_pR, hK_pJ, hL_pJ, hI_pJ, hR_pJ, hJ_pJ, hT_pJ, hS_pJ, hK_wI, hL_wI, hI_wI, hR_wI, hJ_wI, hT_wI, hS_wI, eq_self, and_true, true_and, and_false, false_and, or_true, true_or, or_false, false_or, if_true, if_false, not_true_eq_false, not_false_eq_true, forall_const, implies_true, false_implies, true_implies, Option.some.injEq, forall_eq', exists_eq_left', reduceCtorEq, Nat.reduceEqDiff, c1, T_X12_in, T_X12_ones, T_X11_within, T_X11_bit, T_X11_isIn, T_X11_oneIfIn, T_J6_bitCount_0f7a4, in0 4 (by decide) (by decide), cl0, e52, sh_bt T (show p < 32 by omega), hb, Bool.true_eq_false, cl_nI (show p < 2147483648 by omega), in_nI (show p < 96 by omega) (by decide), e58]
      exact ⟨fun c => absurd c (nI_ge (by omega) (by omega)), fun _ => hgo⟩
    · have hb' : bt T p = false := by simpa using hb
      by_cases hd : bt those p = true
      · have hgo := h479 _ (ppM_d f T those F p hb' hd)
        have hH : pI (wI h (ppM f T those F p)) 59 p (f 59 p + 1) = wI h (u2 (ppM f T those F p) 59 p (f 59 p + 1)) := rfl
        rw [← hH] at hgo
        refine s_X12_evening_362 Q _ _ _ ?_
        generalize wI h (ppM f T those F p) = H at hl e52 e59 hgo ⊢
        simp only [b_X12_evening_362, hl, lay_pI, lay_wI, lay_pJ, lm_t hl, lm_k hl, lm_r hl, lm_l hl, i_push, i_ild, i_ald, i_ist, i_ast, i_inc, i_bin, i_un, i_divs, i_i2l, i_lshl, i_lor, i_dup, i_dup2, i_pop, i_if, i_cmp, i_nul, i_vret, i_iret, i_zret, i_aret, i_keep, keep, lget, lset, ent, i_getI, i_getJ, i_getR, i_getN, i_putI, i_putZ, i_putJ, i_putR, i_iald, i_bald, i_alen, i_aald, i_iast, i_bast, i_aast, i_new, i_newa, i_anew, i_oini, i_callS, i_callV, i_callI, popn, sh4, i_sw, swP, i_copy, i_binS, List.map, Option.toList_none, Option.toList_some, List.append, List.nil_append, List.cons_append, List.length_cons, List.length_nil, List.replicate, Nat.sub_self, Nat.reduceSub, Nat.reduceAdd, hK_pI, hL_pI, hI_pI, hR_pI, hJ_pI, hT_pI, hS_pI, hK_pR, hL_pR, hI_pR, hR_pR, hJ_pR, hT_pR, hS_pR, hK_pJ, hL_pJ, hI_pJ, hR_pJ, hJ_pJ, hT_pJ, hS_pJ, hK_wI, hL_wI, hI_wI, hR_wI, hJ_wI, hT_wI, hS_wI, eq_self, and_true, true_and, and_false, false_and, or_true, true_or, or_false, false_or, if_true, if_false, not_true_eq_false, not_false_eq_true, forall_const, implies_true, false_implies, true_implies, Option.some.injEq, forall_eq', exists_eq_left', reduceCtorEq, Nat.reduceEqDiff, c1, T_X12_in, T_X12_ones, T_X11_within, T_X11_bit, T_X11_isIn, T_X11_oneIfIn, T_J6_bitCount_0f7a4, in0 4 (by decide) (by decide), cl0, e52, sh_bt T (show p < 32 by omega), sh_bt those (show p < 32 by omega), hb', hd, Bool.true_eq_false, cl_nI (show p < 2147483648 by omega), in_nI (show p < 96 by omega) (by decide), e59]
        exact ⟨fun c => absurd c (nI_ge (by omega) (by omega)), fun _ => hgo⟩
      · have hd' : bt those p = false := by simpa using hd
        have hgo := h479 _ (ppM_n f T those F p hb' hd')
        refine s_X12_evening_362 Q _ _ _ ?_
        generalize wI h (ppM f T those F p) = H at hl e52 hgo ⊢
        simp only [b_X12_evening_362, hl, lay_pI, lay_wI, lay_pJ, lm_t hl, lm_k hl, lm_r hl, lm_l hl, i_push, i_ild, i_ald, i_ist, i_ast, i_inc, i_bin, i_un, i_divs, i_i2l, i_lshl, i_lor, i_dup, i_dup2, i_pop, i_if, i_cmp, i_nul, i_vret, i_iret, i_zret, i_aret, i_keep, keep, lget, lset, ent, i_getI, i_getJ, i_getR, i_getN, i_putI, i_putZ, i_putJ, i_putR, i_iald, i_bald, i_alen, i_aald, i_iast, i_bast, i_aast, i_new, i_newa, i_anew, i_oini, i_callS, i_callV, i_callI, popn, sh4, i_sw, swP, i_copy, i_binS, List.map, Option.toList_none, Option.toList_some, List.append, List.nil_append, List.cons_append, List.length_cons, List.length_nil, List.replicate, Nat.sub_self, Nat.reduceSub, Nat.reduceAdd, hK_pI, hL_pI, hI_pI, hR_pI, hJ_pI, hT_pI, hS_pI, hK_pR, hL_pR, hI_pR, hR_pR, hJ_pR, hT_pR, hS_pR, hK_pJ, hL_pJ, hI_pJ, hR_pJ, hJ_pJ, hT_pJ, hS_pJ, hK_wI, hL_wI, hI_wI, hR_wI, hJ_wI, hT_wI, hS_wI, eq_self, and_true, true_and, and_false, false_and, or_true, true_or, or_false, false_or, if_true, if_false, not_true_eq_false, not_false_eq_true, forall_const, implies_true, false_implies, true_implies, Option.some.injEq, forall_eq', exists_eq_left', reduceCtorEq, Nat.reduceEqDiff, c1, T_X12_in, T_X12_ones, T_X11_within, T_X11_bit, T_X11_isIn, T_X11_oneIfIn, T_J6_bitCount_0f7a4, in0 4 (by decide) (by decide), cl0, e52, sh_bt T (show p < 32 by omega), sh_bt those (show p < 32 by omega), hb', hd']
        exact ⟨fun c => absurd c (nI_ge (by omega) (by omega)), fun _ => hgo⟩
