/-! ===== the reference: oneLine ===== -/
def T_X12_oneLine : Tr := fun av h Q => match av with
  | [.ref o] => o = 44 ∧ LayM h ∧ ∃ B L J M t k, SIM B L J (hI h) (hJ h) M t ∧ M 44 46 = nI k ∧ k ≤ 501 ∧ ∀ f g, SIM B L J f g (pL B L k M t).2.1 (pL B L k M t).2.2 → Q (some (.int (if (pL B L k M t).1 = true then 1 else 0))) (wIJ h f g)
  | _ => False
def L_X12_oneLine : List UInt8 := [42, 180, 0, 209, 16, 16, 162, 0, 10, 42, 180, 0, 209, 167, 0, 5, 16, 16, 60, 42, 180, 0, 209, 16, 16, 160, 0, 11, 42, 42, 180, 0, 179, 182, 0, 212, 42, 180, 0, 120, 27, 3, 79, 42, 20, 0, 215, 182, 0, 217, 153, 0, 51, 4, 61, 3, 62, 28, 153, 0, 32, 42, 182, 0, 206, 42, 27, 29, 182, 0, 221, 154, 0, 5, 3, 172, 42, 20, 0, 225, 182, 0, 217, 61, 132, 3, 1, 167, 255, 226, 42, 16, 58, 182, 0, 227, 154, 0, 5, 3, 172, 42, 180, 0, 132, 27, 42, 20, 0, 230, 182, 0, 217, 153, 0, 7, 3, 167, 0, 32, 42, 20, 0, 232, 182, 0, 217, 153, 0, 7, 4, 167, 0, 18, 42, 20, 0, 234, 182, 0, 217, 153, 0, 7, 5, 167, 0, 4, 2, 79, 42, 180, 0, 132, 27, 46, 2, 160, 0, 8, 42, 182, 0, 202, 172, 42, 182, 0, 206, 42, 180, 0, 132, 27, 46, 154, 0, 57, 42, 16, 45, 182, 0, 198, 61, 28, 153, 0, 7, 42, 182, 0, 206, 42, 180, 0, 189, 6, 159, 0, 8, 42, 182, 0, 202, 172, 42, 180, 0, 135, 27, 28, 153, 0, 11, 42, 180, 0, 182, 116, 167, 0, 7, 42, 180, 0, 182, 79, 42, 182, 0, 206, 42, 89, 180, 0, 209, 4, 96, 181, 0, 209, 42, 16, 59, 182, 0, 227, 172]
theorem Lc_X12_oneLine : MX12_oneLine.2.1 = ⟨L_X12_oneLine.toArray⟩ := rfl
theorem D_X12_oneLine_0 : dseq MX12_oneLine.2.1 0 [(.aload_n 0, 1), (.getfield 209, 3), (.bipush 16, 2), (.if_icmp .ge 10, 3), (.aload_n 0, 1), (.getfield 209, 3), (.goto 5, 3)] := dq Lc_X12_oneLine 0 _ (by decide +kernel)
theorem D_X12_oneLine_16 : dseq MX12_oneLine.2.1 16 [(.bipush 16, 2)] := dq Lc_X12_oneLine 16 _ (by decide +kernel)
theorem D_X12_oneLine_18 : dseq MX12_oneLine.2.1 18 [(.istore_n 1, 1), (.aload_n 0, 1), (.getfield 209, 3), (.bipush 16, 2), (.if_icmp .ne 11, 3), (.aload_n 0, 1), (.aload_n 0, 1), (.getfield 179, 3), (.invokevirtual 212, 3)] := dq Lc_X12_oneLine 18 _ (by decide +kernel)
theorem D_X12_oneLine_36 : dseq MX12_oneLine.2.1 36 [(.aload_n 0, 1), (.getfield 120, 3), (.iload_n 1, 1), (.iconst 0, 1), (.iastore, 1), (.aload_n 0, 1), (.ldc2_w 215, 3), (.invokevirtual 217, 3), (.ifCond .eq 51, 3), (.iconst 1, 1), (.istore_n 2, 1), (.iconst 0, 1), (.istore_n 3, 1)] := dq Lc_X12_oneLine 36 _ (by decide +kernel)
theorem D_X12_oneLine_57 : dseq MX12_oneLine.2.1 57 [(.iload_n 2, 1), (.ifCond .eq 32, 3), (.aload_n 0, 1), (.invokevirtual 206, 3), (.aload_n 0, 1), (.iload_n 1, 1), (.iload_n 3, 1), (.invokevirtual 221, 3), (.ifCond .ne 5, 3), (.iconst 0, 1), (.ireturn, 1)] := dq Lc_X12_oneLine 57 _ (by decide +kernel)
theorem D_X12_oneLine_90 : dseq MX12_oneLine.2.1 90 [(.aload_n 0, 1), (.bipush 58, 2), (.invokevirtual 227, 3), (.ifCond .ne 5, 3), (.iconst 0, 1), (.ireturn, 1)] := dq Lc_X12_oneLine 90 _ (by decide +kernel)
theorem D_X12_oneLine_76 : dseq MX12_oneLine.2.1 76 [(.aload_n 0, 1), (.ldc2_w 225, 3), (.invokevirtual 217, 3), (.istore_n 2, 1), (.iinc 3 1, 3), (.goto (-30), 3)] := dq Lc_X12_oneLine 76 _ (by decide +kernel)
theorem D_X12_oneLine_101 : dseq MX12_oneLine.2.1 101 [(.aload_n 0, 1), (.getfield 132, 3), (.iload_n 1, 1), (.aload_n 0, 1), (.ldc2_w 230, 3), (.invokevirtual 217, 3), (.ifCond .eq 7, 3), (.iconst 0, 1), (.goto 32, 3)] := dq Lc_X12_oneLine 101 _ (by decide +kernel)
theorem D_X12_oneLine_120 : dseq MX12_oneLine.2.1 120 [(.aload_n 0, 1), (.ldc2_w 232, 3), (.invokevirtual 217, 3), (.ifCond .eq 7, 3), (.iconst 1, 1), (.goto 18, 3)] := dq Lc_X12_oneLine 120 _ (by decide +kernel)
theorem D_X12_oneLine_134 : dseq MX12_oneLine.2.1 134 [(.aload_n 0, 1), (.ldc2_w 234, 3), (.invokevirtual 217, 3), (.ifCond .eq 7, 3), (.iconst 2, 1), (.goto 4, 3)] := dq Lc_X12_oneLine 134 _ (by decide +kernel)
theorem D_X12_oneLine_148 : dseq MX12_oneLine.2.1 148 [(.iconst (-1), 1)] := dq Lc_X12_oneLine 148 _ (by decide +kernel)
theorem D_X12_oneLine_149 : dseq MX12_oneLine.2.1 149 [(.iastore, 1), (.aload_n 0, 1), (.getfield 132, 3), (.iload_n 1, 1), (.iaload, 1), (.iconst (-1), 1), (.if_icmp .ne 8, 3), (.aload_n 0, 1), (.invokevirtual 202, 3), (.ireturn, 1)] := dq Lc_X12_oneLine 149 _ (by decide +kernel)
theorem D_X12_oneLine_165 : dseq MX12_oneLine.2.1 165 [(.aload_n 0, 1), (.invokevirtual 206, 3), (.aload_n 0, 1), (.getfield 132, 3), (.iload_n 1, 1), (.iaload, 1), (.ifCond .ne 57, 3), (.aload_n 0, 1), (.bipush 45, 2), (.invokevirtual 198, 3), (.istore_n 2, 1), (.iload_n 2, 1), (.ifCond .eq 7, 3), (.aload_n 0, 1), (.invokevirtual 206, 3)] := dq Lc_X12_oneLine 165 _ (by decide +kernel)
theorem D_X12_oneLine_193 : dseq MX12_oneLine.2.1 193 [(.aload_n 0, 1), (.getfield 189, 3), (.iconst 3, 1), (.if_icmp .eq 8, 3), (.aload_n 0, 1), (.invokevirtual 202, 3), (.ireturn, 1)] := dq Lc_X12_oneLine 193 _ (by decide +kernel)
theorem D_X12_oneLine_206 : dseq MX12_oneLine.2.1 206 [(.aload_n 0, 1), (.getfield 135, 3), (.iload_n 1, 1), (.iload_n 2, 1), (.ifCond .eq 11, 3), (.aload_n 0, 1), (.getfield 182, 3), (.ineg, 1), (.goto 7, 3)] := dq Lc_X12_oneLine 206 _ (by decide +kernel)
theorem D_X12_oneLine_223 : dseq MX12_oneLine.2.1 223 [(.aload_n 0, 1), (.getfield 182, 3)] := dq Lc_X12_oneLine 223 _ (by decide +kernel)
theorem D_X12_oneLine_227 : dseq MX12_oneLine.2.1 227 [(.iastore, 1), (.aload_n 0, 1), (.invokevirtual 206, 3)] := dq Lc_X12_oneLine 227 _ (by decide +kernel)
theorem D_X12_oneLine_232 : dseq MX12_oneLine.2.1 232 [(.aload_n 0, 1), (.dup, 1), (.getfield 209, 3), (.iconst 1, 1), (.iadd, 1), (.putfield 209, 3), (.aload_n 0, 1), (.bipush 59, 2), (.invokevirtual 227, 3), (.ireturn, 1)] := dq Lc_X12_oneLine 232 _ (by decide +kernel)
def c_X12_oneLine_36 (Q : Option Value → Hp → Prop) : Kt := i_keep [true, true, false, false] (wp 3 MX12_oneLine Q 36)
def c_X12_oneLine_50 (Q : Option Value → Hp → Prop) : Kt := i_if (fun x => x = 0) (i_keep [true, true, false, false] (wp 3 MX12_oneLine Q 101)) (i_push (.int 1) (i_ist 2 (i_push (.int 0) (i_ist 3 (i_keep [true, true, true, true] (wp 3 MX12_oneLine Q 57))))))
def c_X12_oneLine_96 (Q : Option Value → Hp → Prop) : Kt := i_if (fun x => x = 0) (i_push (.int 0) (i_zret Q)) (i_keep [true, true, false, false] (wp 3 MX12_oneLine Q 101))
def c_X12_oneLine_83 (Q : Option Value → Hp → Prop) : Kt := i_ist 2 (i_inc 3 1 (i_keep [true, true, true, true] (wp 3 MX12_oneLine Q 57)))
def c_X12_oneLine_71 (Q : Option Value → Hp → Prop) : Kt := i_if (fun x => x = 0) (i_push (.int 0) (i_zret Q)) (i_ald 0 (i_push (.long 6385252) (i_callV 12 1 T_X12_isWord (c_X12_oneLine_83 Q))))
def c_X12_oneLine_65 (Q : Option Value → Hp → Prop) : Kt := i_ald 0 (i_ild 1 (i_ild 3 (i_callV 12 2 T_X12_test (c_X12_oneLine_71 Q))))
def c_X12_oneLine_141 (Q : Option Value → Hp → Prop) : Kt := i_if (fun x => x = 0) (i_push (.int (-1)) (i_keep [true, true, false, false] (wp 3 MX12_oneLine Q 149))) (i_push (.int 2) (i_keep [true, true, false, false] (wp 3 MX12_oneLine Q 149)))
def c_X12_oneLine_127 (Q : Option Value → Hp → Prop) : Kt := i_if (fun x => x = 0) (i_ald 0 (i_push (.long 1818325876) (i_callV 12 1 T_X12_isWord (c_X12_oneLine_141 Q)))) (i_push (.int 1) (i_keep [true, true, false, false] (wp 3 MX12_oneLine Q 149)))
def c_X12_oneLine_113 (Q : Option Value → Hp → Prop) : Kt := i_if (fun x => x = 0) (i_ald 0 (i_push (.long 6447474) (i_callV 12 1 T_X12_isWord (c_X12_oneLine_127 Q)))) (i_push (.int 0) (i_keep [true, true, false, false] (wp 3 MX12_oneLine Q 149)))
def c_X12_oneLine_193 (Q : Option Value → Hp → Prop) : Kt := i_keep [true, true, true, false] (wp 3 MX12_oneLine Q 193)
def c_X12_oneLine_184 (Q : Option Value → Hp → Prop) : Kt := i_ist 2 (i_ild 2 (i_if (fun x => x = 0) (i_keep [true, true, true, false] (wp 3 MX12_oneLine Q 193)) (i_ald 0 (i_callV 12 0 T_X12_next (c_X12_oneLine_193 Q)))))
def c_X12_oneLine_169 (Q : Option Value → Hp → Prop) : Kt := i_ald 0 (i_getR 12 51 (i_ild 1 (i_iald (i_if (fun x => x = 0) (i_ald 0 (i_push (.int 45) (i_callV 12 1 T_X12_isSign (c_X12_oneLine_184 Q)))) (i_keep [true, false, false, false] (wp 3 MX12_oneLine Q 232))))))
def c_X12_oneLine_232 (Q : Option Value → Hp → Prop) : Kt := i_keep [true, false, false, false] (wp 3 MX12_oneLine Q 232)
def b_X12_oneLine_0 (Q : Option Value → Hp → Prop) : Kt := i_ald 0 (i_getI 12 46 (i_push (.int 16) (i_cmp (fun x y => y ≤ x) (i_push (.int 16) (i_keep [true, false, false, false] (wp 3 MX12_oneLine Q 18))) (i_ald 0 (i_getI 12 46 (i_keep [true, false, false, false] (wp 3 MX12_oneLine Q 18)))))))
set_option maxRecDepth 100000 in
theorem s_X12_oneLine_0 (Q : Option Value → Hp → Prop) : ∀ A st h, b_X12_oneLine_0 Q A st h → wp 3 MX12_oneLine Q 0 A st h := (q1 (s_aldn (n := 0) (i := 0) rfl) D_X12_oneLine_0 fun D => (qC fl_X12_209 rfl D fun D => (q1 (s_bipush (n := 16) (v := 16) (by decide)) D fun D => (qB s_cmpge 16 (by decide) D (q1 (s_bipush (n := 16) (v := 16) (by decide)) D_X12_oneLine_16 fun D => (s_keep [true, false, false, false] fun _ _ _ h => h)) fun D => (q1 (s_aldn (n := 0) (i := 0) rfl) D fun D => (qC fl_X12_209 rfl D fun D => (qG 18 (by decide) D (s_keep [true, false, false, false] fun _ _ _ h => h))))))))
def b_X12_oneLine_18 (Q : Option Value → Hp → Prop) : Kt := i_ist 1 (i_ald 0 (i_getI 12 46 (i_push (.int 16) (i_cmp (fun x y => x = y) (i_ald 0 (i_ald 0 (i_getI 12 39 (i_callV 12 1 T_X12_tooMany (c_X12_oneLine_36 Q))))) (i_keep [true, true, false, false] (wp 3 MX12_oneLine Q 36))))))
set_option maxRecDepth 100000 in
theorem s_X12_oneLine_18 (Q : Option Value → Hp → Prop) : ∀ A st h, b_X12_oneLine_18 Q A st h → wp 3 MX12_oneLine Q 18 A st h := (qL (s_istn (n := 1) (i := 1) rfl) (by decide) D_X12_oneLine_18 fun D => (q1 (s_aldn (n := 0) (i := 0) rfl) D fun D => (qC fl_X12_209 rfl D fun D => (q1 (s_bipush (n := 16) (v := 16) (by decide)) D fun D => (qBn s_cmpne2 36 (by decide) D (s_keep [true, true, false, false] fun _ _ _ h => h) fun D => (q1 (s_aldn (n := 0) (i := 0) rfl) D fun D => (q1 (s_aldn (n := 0) (i := 0) rfl) D fun D => (qC fl_X12_179 rfl D fun D => (qX (s_callV kX12 rfl ok_X12_tooMany mo_X12_tooMany (ch_5_14_ok.2.2.2.2.2.2.2.2.2.2.2.1.1 rfl) (ch_5_14_ok.2.2.2.2.2.2.2.2.2.2.2.2.2.1.1 rfl) (pv_2.2.2.2.2.2.2.2.2.1)) rfl (by decide) D fun D => (s_keep [true, true, false, false] fun _ _ _ h => h))))))))))
def b_X12_oneLine_36 (Q : Option Value → Hp → Prop) : Kt := i_ald 0 (i_getR 12 47 (i_ild 1 (i_push (.int 0) (i_iast (i_ald 0 (i_push (.long 2003330414) (i_callV 12 1 T_X12_isWord (c_X12_oneLine_50 Q))))))))
set_option maxRecDepth 100000 in
theorem s_X12_oneLine_36 (Q : Option Value → Hp → Prop) : ∀ A st h, b_X12_oneLine_36 Q A st h → wp 3 MX12_oneLine Q 36 A st h := (q1 (s_aldn (n := 0) (i := 0) rfl) D_X12_oneLine_36 fun D => (qC fl_X12_120 rfl D fun D => (q1 (s_ildn (n := 1) (i := 1) rfl) D fun D => (q1 (s_iconst (n := 0) (v := 0) (by decide)) D fun D => (q1 s_iast D fun D => (q1 (s_aldn (n := 0) (i := 0) rfl) D fun D => (qC (s_ldc2 (v := 2003330414) (ch_5_14_ok.2.2.2.2.2.2.2.2.2.2.2.2.2.2.2.1.1 rfl)) rfl D fun D => (qX (s_callV kX12 rfl ok_X12_isWord mo_X12_isWord (ch_6_0_ok.1.1 rfl) (ch_6_0_ok.2.2.1.1 rfl) (pv_2.2.2.2.2.2.2.2.2.2.1)) rfl (by decide) D fun D => (qB s_ifeq 101 (by decide) D (s_keep [true, true, false, false] fun _ _ _ h => h) fun D => (q1 (s_iconst (n := 1) (v := 1) (by decide)) D fun D => (qL (s_istn (n := 2) (i := 2) rfl) (by decide) D fun D => (q1 (s_iconst (n := 0) (v := 0) (by decide)) D fun D => (qL (s_istn (n := 3) (i := 3) rfl) (by decide) D fun D => (s_keep [true, true, true, true] fun _ _ _ h => h))))))))))))))
def b_X12_oneLine_57 (Q : Option Value → Hp → Prop) : Kt := i_ild 2 (i_if (fun x => x = 0) (i_ald 0 (i_push (.int 58) (i_callV 12 1 T_X12_need (c_X12_oneLine_96 Q)))) (i_ald 0 (i_callV 12 0 T_X12_next (c_X12_oneLine_65 Q))))
set_option maxRecDepth 100000 in
theorem s_X12_oneLine_57 (Q : Option Value → Hp → Prop) : ∀ A st h, b_X12_oneLine_57 Q A st h → wp 3 MX12_oneLine Q 57 A st h := (q1 (s_ildn (n := 2) (i := 2) rfl) D_X12_oneLine_57 fun D => (qB s_ifeq 90 (by decide) D (q1 (s_aldn (n := 0) (i := 0) rfl) D_X12_oneLine_90 fun D => (q1 (s_bipush (n := 58) (v := 58) (by decide)) D fun D => (qX (s_callV kX12 rfl ok_X12_need mo_X12_need (ch_6_1_ok.2.2.2.2.2.2.2.2.1.1 rfl) (ch_6_1_ok.2.2.2.2.2.2.2.2.2.2.1.1 rfl) (pv_2.2.2.2.2.2.2.2.2.2.2.2.2.1)) rfl (by decide) D fun D => (qBn s_ifne2 101 (by decide) D (s_keep [true, true, false, false] fun _ _ _ h => h) fun D => (q1 (s_iconst (n := 0) (v := 0) (by decide)) D fun D => (qZ rfl D)))))) fun D => (q1 (s_aldn (n := 0) (i := 0) rfl) D fun D => (qX (s_callV kX12 rfl ok_X12_next mo_X12_next (ch_5_13_ok.2.2.2.2.2.2.2.2.2.2.2.2.2.2.2.1.1 rfl) (ch_5_14_ok.2.1.1 rfl) (pv_2.2.2.2.2.2.1)) rfl (by decide) D fun D => (q1 (s_aldn (n := 0) (i := 0) rfl) D fun D => (q1 (s_ildn (n := 1) (i := 1) rfl) D fun D => (q1 (s_ildn (n := 3) (i := 3) rfl) D fun D => (qX (s_callV kX12 rfl ok_X12_test mo_X12_test (ch_6_0_ok.2.2.2.2.1.1 rfl) (ch_6_0_ok.2.2.2.2.2.2.1.1 rfl) (pv_2.2.2.2.2.2.2.2.2.2.2.1)) rfl (by decide) D fun D => (qBn s_ifne2 76 (by decide) D (q1 (s_aldn (n := 0) (i := 0) rfl) D_X12_oneLine_76 fun D => (qC (s_ldc2 (v := 6385252) (ch_6_1_ok.2.2.2.2.2.2.2.1.1 rfl)) rfl D fun D => (qX (s_callV kX12 rfl ok_X12_isWord mo_X12_isWord (ch_6_0_ok.1.1 rfl) (ch_6_0_ok.2.2.1.1 rfl) (pv_2.2.2.2.2.2.2.2.2.2.1)) rfl (by decide) D fun D => (qL (s_istn (n := 2) (i := 2) rfl) (by decide) D fun D => (qL (s_inc (i := 3) (n := 1) (v := 1) (by decide)) (by decide) D fun D => (qG 57 (by decide) D (s_keep [true, true, true, true] fun _ _ _ h => h))))))) fun D => (q1 (s_iconst (n := 0) (v := 0) (by decide)) D fun D => (qZ rfl D)))))))))))
def b_X12_oneLine_101 (Q : Option Value → Hp → Prop) : Kt := i_ald 0 (i_getR 12 51 (i_ild 1 (i_ald 0 (i_push (.long 6382692) (i_callV 12 1 T_X12_isWord (c_X12_oneLine_113 Q))))))
set_option maxRecDepth 100000 in
theorem s_X12_oneLine_101 (Q : Option Value → Hp → Prop) : ∀ A st h, b_X12_oneLine_101 Q A st h → wp 3 MX12_oneLine Q 101 A st h := (q1 (s_aldn (n := 0) (i := 0) rfl) D_X12_oneLine_101 fun D => (qC fl_X12_132 rfl D fun D => (q1 (s_ildn (n := 1) (i := 1) rfl) D fun D => (q1 (s_aldn (n := 0) (i := 0) rfl) D fun D => (qC (s_ldc2 (v := 6382692) (ch_6_2_ok.1.1 rfl)) rfl D fun D => (qX (s_callV kX12 rfl ok_X12_isWord mo_X12_isWord (ch_6_0_ok.1.1 rfl) (ch_6_0_ok.2.2.1.1 rfl) (pv_2.2.2.2.2.2.2.2.2.2.1)) rfl (by decide) D fun D => (qB s_ifeq 120 (by decide) D (q1 (s_aldn (n := 0) (i := 0) rfl) D_X12_oneLine_120 fun D => (qC (s_ldc2 (v := 6447474) (ch_6_2_ok.2.1.1 rfl)) rfl D fun D => (qX (s_callV kX12 rfl ok_X12_isWord mo_X12_isWord (ch_6_0_ok.1.1 rfl) (ch_6_0_ok.2.2.1.1 rfl) (pv_2.2.2.2.2.2.2.2.2.2.1)) rfl (by decide) D fun D => (qB s_ifeq 134 (by decide) D (q1 (s_aldn (n := 0) (i := 0) rfl) D_X12_oneLine_134 fun D => (qC (s_ldc2 (v := 1818325876) (ch_6_2_ok.2.2.1.1 rfl)) rfl D fun D => (qX (s_callV kX12 rfl ok_X12_isWord mo_X12_isWord (ch_6_0_ok.1.1 rfl) (ch_6_0_ok.2.2.1.1 rfl) (pv_2.2.2.2.2.2.2.2.2.2.1)) rfl (by decide) D fun D => (qB s_ifeq 148 (by decide) D (q1 (s_iconst (n := (-1)) (v := (-1)) (by decide)) D_X12_oneLine_148 fun D => (s_keep [true, true, false, false] fun _ _ _ h => h)) fun D => (q1 (s_iconst (n := 2) (v := 2) (by decide)) D fun D => (qG 149 (by decide) D (s_keep [true, true, false, false] fun _ _ _ h => h))))))) fun D => (q1 (s_iconst (n := 1) (v := 1) (by decide)) D fun D => (qG 149 (by decide) D (s_keep [true, true, false, false] fun _ _ _ h => h))))))) fun D => (q1 (s_iconst (n := 0) (v := 0) (by decide)) D fun D => (qG 149 (by decide) D (s_keep [true, true, false, false] fun _ _ _ h => h))))))))))
def b_X12_oneLine_149 (Q : Option Value → Hp → Prop) : Kt := i_iast (i_ald 0 (i_getR 12 51 (i_ild 1 (i_iald (i_push (.int (-1)) (i_cmp (fun x y => x = y) (i_ald 0 (i_callV 12 0 T_X12_wrong (i_zret Q))) (i_ald 0 (i_callV 12 0 T_X12_next (c_X12_oneLine_169 Q)))))))))
set_option maxRecDepth 100000 in
theorem s_X12_oneLine_149 (Q : Option Value → Hp → Prop) : ∀ A st h, b_X12_oneLine_149 Q A st h → wp 3 MX12_oneLine Q 149 A st h := (q1 s_iast D_X12_oneLine_149 fun D => (q1 (s_aldn (n := 0) (i := 0) rfl) D fun D => (qC fl_X12_132 rfl D fun D => (q1 (s_ildn (n := 1) (i := 1) rfl) D fun D => (q1 s_iald D fun D => (q1 (s_iconst (n := (-1)) (v := (-1)) (by decide)) D fun D => (qBn s_cmpne2 165 (by decide) D (q1 (s_aldn (n := 0) (i := 0) rfl) D_X12_oneLine_165 fun D => (qX (s_callV kX12 rfl ok_X12_next mo_X12_next (ch_5_13_ok.2.2.2.2.2.2.2.2.2.2.2.2.2.2.2.1.1 rfl) (ch_5_14_ok.2.1.1 rfl) (pv_2.2.2.2.2.2.1)) rfl (by decide) D fun D => (q1 (s_aldn (n := 0) (i := 0) rfl) D fun D => (qC fl_X12_132 rfl D fun D => (q1 (s_ildn (n := 1) (i := 1) rfl) D fun D => (q1 s_iald D fun D => (qBn s_ifne2 232 (by decide) D (s_keep [true, false, false, false] fun _ _ _ h => h) fun D => (q1 (s_aldn (n := 0) (i := 0) rfl) D fun D => (q1 (s_bipush (n := 45) (v := 45) (by decide)) D fun D => (qX (s_callV kX12 rfl ok_X12_isSign mo_X12_isSign (ch_6_1_ok.2.2.2.2.2.2.2.2.2.2.2.2.1.1 rfl) (ch_6_1_ok.2.2.2.2.2.2.2.2.2.2.2.2.2.2.1.1 rfl) (pv_2.2.2.2.2.2.2.2.2.2.2.2.2.2.1)) rfl (by decide) D fun D => (qL (s_istn (n := 2) (i := 2) rfl) (by decide) D fun D => (q1 (s_ildn (n := 2) (i := 2) rfl) D fun D => (qB s_ifeq 193 (by decide) D (s_keep [true, true, true, false] fun _ _ _ h => h) fun D => (q1 (s_aldn (n := 0) (i := 0) rfl) D fun D => (qX (s_callV kX12 rfl ok_X12_next mo_X12_next (ch_5_13_ok.2.2.2.2.2.2.2.2.2.2.2.2.2.2.2.1.1 rfl) (ch_5_14_ok.2.1.1 rfl) (pv_2.2.2.2.2.2.1)) rfl (by decide) D fun D => (s_keep [true, true, true, false] fun _ _ _ h => h)))))))))))))))) fun D => (q1 (s_aldn (n := 0) (i := 0) rfl) D fun D => (qX (s_callV kX12 rfl ok_X12_wrong mo_X12_wrong (ch_6_1_ok.2.2.2.1.1 rfl) (ch_6_1_ok.2.2.2.2.2.1.1 rfl) (pv_2.2.2.2.2.2.2.2.2.2.2.2.1)) rfl (by decide) D fun D => (qZ rfl D))))))))))
def b_X12_oneLine_193 (Q : Option Value → Hp → Prop) : Kt := i_ald 0 (i_getI 12 40 (i_push (.int 3) (i_cmp (fun x y => x = y) (i_ald 0 (i_getR 12 52 (i_ild 1 (i_ild 2 (i_if (fun x => x = 0) (i_ald 0 (i_getI 12 41 (i_keep [true, false, false, false] (wp 3 MX12_oneLine Q 227)))) (i_ald 0 (i_getI 12 41 (i_un (fun x => -x) (i_keep [true, false, false, false] (wp 3 MX12_oneLine Q 227)))))))))) (i_ald 0 (i_callV 12 0 T_X12_wrong (i_zret Q))))))
set_option maxRecDepth 100000 in
theorem s_X12_oneLine_193 (Q : Option Value → Hp → Prop) : ∀ A st h, b_X12_oneLine_193 Q A st h → wp 3 MX12_oneLine Q 193 A st h := (q1 (s_aldn (n := 0) (i := 0) rfl) D_X12_oneLine_193 fun D => (qC fl_X12_189 rfl D fun D => (q1 (s_iconst (n := 3) (v := 3) (by decide)) D fun D => (qB s_cmpeq 206 (by decide) D (q1 (s_aldn (n := 0) (i := 0) rfl) D_X12_oneLine_206 fun D => (qC fl_X12_135 rfl D fun D => (q1 (s_ildn (n := 1) (i := 1) rfl) D fun D => (q1 (s_ildn (n := 2) (i := 2) rfl) D fun D => (qB s_ifeq 223 (by decide) D (q1 (s_aldn (n := 0) (i := 0) rfl) D_X12_oneLine_223 fun D => (qC fl_X12_182 rfl D fun D => (s_keep [true, false, false, false] fun _ _ _ h => h))) fun D => (q1 (s_aldn (n := 0) (i := 0) rfl) D fun D => (qC fl_X12_182 rfl D fun D => (q1 s_neg D fun D => (qG 227 (by decide) D (s_keep [true, false, false, false] fun _ _ _ h => h)))))))))) fun D => (q1 (s_aldn (n := 0) (i := 0) rfl) D fun D => (qX (s_callV kX12 rfl ok_X12_wrong mo_X12_wrong (ch_6_1_ok.2.2.2.1.1 rfl) (ch_6_1_ok.2.2.2.2.2.1.1 rfl) (pv_2.2.2.2.2.2.2.2.2.2.2.2.1)) rfl (by decide) D fun D => (qZ rfl D)))))))
def b_X12_oneLine_227 (Q : Option Value → Hp → Prop) : Kt := i_iast (i_ald 0 (i_callV 12 0 T_X12_next (c_X12_oneLine_232 Q)))
set_option maxRecDepth 100000 in
theorem s_X12_oneLine_227 (Q : Option Value → Hp → Prop) : ∀ A st h, b_X12_oneLine_227 Q A st h → wp 3 MX12_oneLine Q 227 A st h := (q1 s_iast D_X12_oneLine_227 fun D => (q1 (s_aldn (n := 0) (i := 0) rfl) D fun D => (qX (s_callV kX12 rfl ok_X12_next mo_X12_next (ch_5_13_ok.2.2.2.2.2.2.2.2.2.2.2.2.2.2.2.1.1 rfl) (ch_5_14_ok.2.1.1 rfl) (pv_2.2.2.2.2.2.1)) rfl (by decide) D fun D => (s_keep [true, false, false, false] fun _ _ _ h => h))))
def b_X12_oneLine_232 (Q : Option Value → Hp → Prop) : Kt := i_ald 0 (i_dup (i_getI 12 46 (i_push (.int 1) (i_bin (fun x y => x + y) (i_putI 12 46 (i_ald 0 (i_push (.int 59) (i_callV 12 1 T_X12_need (i_zret Q)))))))))
set_option maxRecDepth 100000 in
theorem s_X12_oneLine_232 (Q : Option Value → Hp → Prop) : ∀ A st h, b_X12_oneLine_232 Q A st h → wp 3 MX12_oneLine Q 232 A st h := (q1 (s_aldn (n := 0) (i := 0) rfl) D_X12_oneLine_232 fun D => (q1 s_dup D fun D => (qC fl_X12_209 rfl D fun D => (q1 (s_iconst (n := 1) (v := 1) (by decide)) D fun D => (q1 s_add D fun D => (qP pl_X12_209 rfl (Or.inl rfl) D fun D => (q1 (s_aldn (n := 0) (i := 0) rfl) D fun D => (q1 (s_bipush (n := 59) (v := 59) (by decide)) D fun D => (qX (s_callV kX12 rfl ok_X12_need mo_X12_need (ch_6_1_ok.2.2.2.2.2.2.2.2.1.1 rfl) (ch_6_1_ok.2.2.2.2.2.2.2.2.2.2.1.1 rfl) (pv_2.2.2.2.2.2.2.2.2.2.2.2.2.1)) rfl (by decide) D fun D => (qZ rfl D))))))))))

theorem pT_gt {B : Nat → Int32} {L l n : Nat} {M : Mem} {t : Nat} (h : (pT B L l n M t).1 = true) : t < (pT B L l n M t).2.2 := by
  have h1 : t ≤ t1T B L t := by unfold t1T; split <;> omega
  unfold pT at h ⊢
  split at h
  · rename_i c1
    rw [if_pos c1]
    split at h
    · rename_i c2
      rw [if_pos c2]
      split at h
      · rename_i c3
        rw [if_pos c3]; simp only; omega
      · cases h
    · cases h
  · rename_i c1
    rw [if_neg c1]
    split at h
    · rename_i c2
      rw [if_pos c2]; simp only; omega
    · cases h
set_option maxRecDepth 100000 in
set_option maxHeartbeats 400000 in
theorem ol_232 (Q : Option Value → Hp → Prop) (h : Hp) (hl0 : LayM h) (B : Nat → Int32) (L : Nat) (J : Nat → Nat → Int64) (M : Mem) (t k : Nat) (f : Mem) (g : Nat → Nat → Int64) (hs : SIM B L J f g M t) (hk : M 44 46 = nI k)
    (hq : ∀ f g, SIM B L J f g (pA.pE B L k M t).2.1 (pA.pE B L k M t).2.2 → Q (some (.int (if (pA.pE B L k M t).1 = true then 1 else 0))) (wIJ h f g)) :
    wp 3 MX12_oneLine Q 232 [some (.ref 44), none, none, none] [] (wIJ h f g) := by
  have hl : LayM (wIJ h f g) := hl0
  have e46 : hI (wIJ h f g) 44 46 = nI k := (hs.M (a := 44) (i := 46) (Or.inr (by decide))).trans hk
  have hn : T_X12_need [.ref 44, .int 59] (pI (wIJ h f g) 44 46 (nI (k + 1))) (fun r h' => match r.toList ++ [] with | [.int x] => (x = 0 ∨ x = 1) ∧ Q (some (.int x)) h' | _ => False) := by
    refine ⟨rfl, hl0, by unfold isSg; decide, B, L, J, u2 M 44 46 (nI (k + 1)), t, sim_u2 hs (Or.inr ⟨rfl, by decide⟩) _, fun e f' g' hs' => ⟨Or.inr rfl, ?_⟩, fun e f' g' hs' => ⟨Or.inl rfl, ?_⟩⟩
    · unfold pA.pE at hq
      rw [if_pos e] at hq
      exact hq f' g' hs'
    · unfold pA.pE at hq
      rw [if_neg e] at hq
      exact hq f' g' hs'
  refine s_X12_oneLine_232 Q _ _ _ ?_
  generalize wIJ h f g = H at hl e46 hn ⊢
  have hkk := (lm_k hl).1
  have htt := (lm_t hl).1
  simp only [b_X12_oneLine_232, i_push, i_ild, i_ald, i_ist, i_ast, i_inc, i_bin, i_un, i_divs, i_i2l, i_lshl, i_lor, i_dup, i_dup2, i_pop, i_if, i_cmp, i_nul, i_vret, i_iret, i_zret, i_aret, i_keep, keep, lget, lset, ent, i_getI, i_getJ, i_getR, i_getN, i_putI, i_putZ, i_putJ, i_putR, i_iald, i_bald, i_alen, i_aald, i_iast, i_bast, i_aast, i_new, i_newa, i_anew, i_oini, i_callS, i_callV, i_callI, popn, sh4, i_sw, swP, i_copy, i_binS, List.map, Option.toList_none, Option.toList_some, List.append, List.nil_append, List.cons_append, List.length_cons, List.length_nil, List.replicate, Nat.sub_self, Nat.reduceSub, Nat.reduceAdd, hK_pI, hL_pI, hI_pI, hR_pI, hJ_pI, hT_pI, hS_pI, hK_pR, hL_pR, hI_pR, hR_pR, hJ_pR, hT_pR, hS_pR, hK_pJ, hL_pJ, hI_pJ, hR_pJ, hJ_pJ, hT_pJ, hS_pJ, hK_wI, hL_wI, hI_wI, hR_wI, hJ_wI, hT_wI, hS_wI, eq_self, and_true, true_and, and_false, false_and, or_true, true_or, or_false, false_or, if_true, if_false, not_true_eq_false, not_false_eq_true, forall_const, implies_true, false_implies, true_implies, Option.some.injEq, forall_eq', exists_eq_left', reduceCtorEq, Nat.reduceEqDiff, c1, T_X12_in, T_X12_ones, T_X11_within, T_X11_bit, T_X11_isIn, T_X11_oneIfIn, T_J6_bitCount_0f7a4, hkk, htt, e46, nI_1]
  exact hn
set_option maxRecDepth 100000 in
set_option maxHeartbeats 400000 in
theorem ol_193 (Q : Option Value → Hp → Prop) (h : Hp) (hl0 : LayM h) (B : Nat → Int32) (L : Nat) (J : Nat → Nat → Int64) (M : Mem) (t k l : Nat) (hl16 : l ≤ 16) (ls : Int32) (f : Mem) (g : Nat → Nat → Int64) (hs : SIM B L J f g M t) (hk : M 44 46 = nI k)
    (hq0 : ¬ K B L t = 2 → ∀ f g, SIM B L J f g (pFail M (nI (bgT B L t))) t → Q (some (.int 0)) (wIJ h f g))
    (hq : K B L t = 2 → ∀ f g, SIM B L J f g (pA.pE B L k (u2 M 85 l (if ls = 0 then V B L t else -(V B L t))) (t + 1)).2.1 (pA.pE B L k (u2 M 85 l (if ls = 0 then V B L t else -(V B L t))) (t + 1)).2.2 → Q (some (.int (if (pA.pE B L k (u2 M 85 l (if ls = 0 then V B L t else -(V B L t))) (t + 1)).1 = true then 1 else 0))) (wIJ h f g)) :
    wp 3 MX12_oneLine Q 193 [some (.ref 44), some (.int (nI l)), some (.int ls), none] [] (wIJ h f g) := by
  have hl : LayM (wIJ h f g) := hl0
  have h40 : hI (wIJ h f g) 44 40 = tkO B L (bgT B L t) := hs.2.2.2.1
  have h41 : hI (wIJ h f g) 44 41 = V B L t := hs.2.2.2.2.1
  have hnum : tkO B L (bgT B L t) = 3 ↔ K B L t = 2 := Kd_num B L _
  have hw : ¬ K B L t = 2 → _ := fun c3 => sim_wrong (h := h) hl0 hs (Q := fun r h' => match r.toList ++ [] with | [.int x] => (x = 0 ∨ x = 1) ∧ Q (some (.int x)) h' | _ => False) (fun f3 hs3 => ⟨Or.inl rfl, hq0 c3 f3 g hs3⟩)
  have h227 : K B L t = 2 → ∀ v, (v = if ls = 0 then V B L t else -(V B L t)) → wp 3 MX12_oneLine Q 227 [some (.ref 44), none, none, none] [.int v, .int (nI l), .ref 85] (wIJ h f g) := by
    intro c v hv
    rw [← hv] at hq
    have hnx : T_X12_next [.ref 44] (pI (wIJ h f g) 85 l v) (fun r h' => wp 3 MX12_oneLine Q 232 [some (.ref 44), none, none, none] (r.toList ++ []) h') :=
      sim_next (h := h) (f := u2 f 85 l v) hl0 (sim_u2 hs (Or.inl (by decide)) v) (fun f' g' hs' => ol_232 Q h hl0 B L J _ (t + 1) k f' g' hs' (by rw [u2_ne (by omega)]; exact hk) (hq c))
    refine s_X12_oneLine_227 Q _ _ _ ?_
    generalize wIJ h f g = H at hl hnx ⊢
    simp only [b_X12_oneLine_227, hl, lay_pI, lay_wI, lay_pJ, lm_t hl, lm_k hl, lm_r hl, lm_l hl, i_push, i_ild, i_ald, i_ist, i_ast, i_inc, i_bin, i_un, i_divs, i_i2l, i_lshl, i_lor, i_dup, i_dup2, i_pop, i_if, i_cmp, i_nul, i_vret, i_iret, i_zret, i_aret, i_keep, keep, lget, lset, ent, i_getI, i_getJ, i_getR, i_getN, i_putI, i_putZ, i_putJ, i_putR, i_iald, i_bald, i_alen, i_aald, i_iast, i_bast, i_aast, i_new, i_newa, i_anew, i_oini, i_callS, i_callV, i_callI, popn, sh4, i_sw, swP, i_copy, i_binS, List.map, Option.toList_none, Option.toList_some, List.append, List.nil_append, List.cons_append, List.length_cons, List.length_nil, List.replicate, Nat.sub_self, Nat.reduceSub, Nat.reduceAdd, hK_pI, hL_pI, hI_pI, hR_pI, hJ_pI, hT_pI, hS_pI, hK_pR, hL_pR, hI_pR, hR_pR, hJ_pR, hT_pR, hS_pR, hK_pJ, hL_pJ, hI_pJ, hR_pJ, hJ_pJ, hT_pJ, hS_pJ, hK_wI, hL_wI, hI_wI, hR_wI, hJ_wI, hT_wI, hS_wI, eq_self, and_true, true_and, and_false, false_and, or_true, true_or, or_false, false_or, if_true, if_false, not_true_eq_false, not_false_eq_true, forall_const, implies_true, false_implies, true_implies, Option.some.injEq, forall_eq', exists_eq_left', reduceCtorEq, Nat.reduceEqDiff, c1, T_X12_in, T_X12_ones, T_X11_within, T_X11_bit, T_X11_isIn, T_X11_oneIfIn, T_J6_bitCount_0f7a4, cl_nI (show l < 2147483648 by omega), in_nI (show l < 17 by omega) (by decide)]
    exact hnx
  refine s_X12_oneLine_193 Q _ _ _ ?_
  generalize wIJ h f g = H at hl h40 h41 hw h227 ⊢
  simp only [b_X12_oneLine_193, hl, lay_pI, lay_wI, lay_pJ, lm_t hl, lm_k hl, lm_r hl, lm_l hl, i_push, i_ild, i_ald, i_ist, i_ast, i_inc, i_bin, i_un, i_divs, i_i2l, i_lshl, i_lor, i_dup, i_dup2, i_pop, i_if, i_cmp, i_nul, i_vret, i_iret, i_zret, i_aret, i_keep, keep, lget, lset, ent, i_getI, i_getJ, i_getR, i_getN, i_putI, i_putZ, i_putJ, i_putR, i_iald, i_bald, i_alen, i_aald, i_iast, i_bast, i_aast, i_new, i_newa, i_anew, i_oini, i_callS, i_callV, i_callI, popn, sh4, i_sw, swP, i_copy, i_binS, List.map, Option.toList_none, Option.toList_some, List.append, List.nil_append, List.cons_append, List.length_cons, List.length_nil, List.replicate, Nat.sub_self, Nat.reduceSub, Nat.reduceAdd, hK_pI, hL_pI, hI_pI, hR_pI, hJ_pI, hT_pI, hS_pI, hK_pR, hL_pR, hI_pR, hR_pR, hJ_pR, hT_pR, hS_pR, hK_pJ, hL_pJ, hI_pJ, hR_pJ, hJ_pJ, hT_pJ, hS_pJ, hK_wI, hL_wI, hI_wI, hR_wI, hJ_wI, hT_wI, hS_wI, eq_self, and_true, true_and, and_false, false_and, or_true, true_or, or_false, false_or, if_true, if_false, not_true_eq_false, not_false_eq_true, forall_const, implies_true, false_implies, true_implies, Option.some.injEq, forall_eq', exists_eq_left', reduceCtorEq, Nat.reduceEqDiff, c1, T_X12_in, T_X12_ones, T_X11_within, T_X11_bit, T_X11_isIn, T_X11_oneIfIn, T_J6_bitCount_0f7a4, h40, h41]
  refine ⟨fun c => ⟨fun c2 => h227 (hnum.mp c) _ (by rw [if_pos c2]), fun c2 => h227 (hnum.mp c) _ (by rw [if_neg c2])⟩, fun c => hw (fun z => c (hnum.mpr z))⟩
set_option maxRecDepth 100000 in
set_option maxHeartbeats 400000 in
theorem ol_149 (Q : Option Value → Hp → Prop) (h : Hp) (hl0 : LayM h) (B : Nat → Int32) (L : Nat) (J : Nat → Nat → Int64) (M : Mem) (t k l : Nat) (hl16 : l ≤ 16) (a : Int32) (f : Mem) (g : Nat → Nat → Int64) (hs : SIM B L J f g M t) (hk : M 44 46 = nI k)
    (ha : a = if K B L t = 259 then 0 else if K B L t = 260 then 1 else if K B L t = 261 then 2 else -1)
    (hq : ∀ f g, SIM B L J f g (pA B L l k M t).2.1 (pA B L l k M t).2.2 → Q (some (.int (if (pA B L l k M t).1 = true then 1 else 0))) (wIJ h f g)) :
    wp 3 MX12_oneLine Q 149 [some (.ref 44), some (.int (nI l)), none, none] [.int a, .int (nI l), .ref 84] (wIJ h f g) := by
  have hl : LayM (wIJ h f g) := hl0
  have hs1 : SIM B L J (u2 f 84 l a) g (u2 M 84 l a) t := sim_u2 hs (Or.inl (by decide)) a
  have hk1 : u2 M 84 l a 44 46 = nI k := by rw [u2_ne (by omega)]; exact hk
  have e84 : hI (pI (wIJ h f g) 84 l a) 84 l = a := by rw [hI_pI, if_pos ⟨rfl, rfl⟩]
  have hl1 : LayM (pI (wIJ h f g) 84 l a) := hl0
  have hw : a = -1 → T_X12_wrong [.ref 44] (pI (wIJ h f g) 84 l a) (fun r h' => match r.toList ++ [] with | [.int x] => (x = 0 ∨ x = 1) ∧ Q (some (.int x)) h' | _ => False) := by
    intro am
    have c1 : ¬ K B L t = 259 := fun z => by rw [if_pos z] at ha; rw [ha] at am; exact absurd am (by decide)
    have c2 : ¬ K B L t = 260 := fun z => by rw [if_neg c1, if_pos z] at ha; rw [ha] at am; exact absurd am (by decide)
    have c3 : ¬ K B L t = 261 := fun z => by rw [if_neg c1, if_neg c2, if_pos z] at ha; rw [ha] at am; exact absurd am (by decide)
    refine sim_wrong (h := h) (f := u2 f 84 l a) hl0 hs1 (fun f3 hs3 => ⟨Or.inl rfl, ?_⟩)
    unfold pA at hq
    rw [if_neg c1, if_neg c2, if_neg c3] at hq
    rw [am] at hs3
    exact hq f3 g hs3
  have hnx : ¬ a = -1 → T_X12_next [.ref 44] (pI (wIJ h f g) 84 l a) (fun r h' => c_X12_oneLine_169 Q [some (.ref 44), some (.int (nI l)), none, none] (r.toList ++ []) h') := by
    intro am
    refine sim_next (h := h) (f := u2 f 84 l a) hl0 hs1 (fun f' g' hs' => ?_)
    show c_X12_oneLine_169 Q _ [] _
    have hl' : LayM (wIJ h f' g') := hl0
    have e84' : hI (wIJ h f' g') 84 l = a := (hs'.M (a := 84) (i := l) (Or.inl (by decide))).trans u2_eq
    have h232 : ¬ a = 0 → wp 3 MX12_oneLine Q 232 [some (.ref 44), none, none, none] [] (wIJ h f' g') := by
      intro a0
      refine ol_232 Q h hl0 B L J _ (t + 1) k f' g' hs' hk1 ?_
      have c1 : ¬ K B L t = 259 := fun z => by rw [if_pos z] at ha; exact a0 ha
      unfold pA at hq
      rw [if_neg c1] at hq
      rw [if_neg c1] at ha
      by_cases c2 : K B L t = 260
      · rw [if_pos c2] at hq ha; rw [ha]; exact hq
      · rw [if_neg c2] at hq ha
        by_cases c3 : K B L t = 261
        · rw [if_pos c3] at hq ha; rw [ha]; exact hq
        · rw [if_neg c3] at ha; exact absurd ha am
    have hsg : a = 0 → T_X12_isSign [.ref 44, .int 45] (wIJ h f' g') (fun r h' => c_X12_oneLine_184 Q [some (.ref 44), some (.int (nI l)), none, none] (r.toList ++ []) h') := by
      intro a0
      have c1 : K B L t = 259 := Classical.not_not.mp (fun c => by
        rw [if_neg c] at ha
        by_cases c2 : K B L t = 260
        · rw [if_pos c2, a0] at ha; exact absurd ha (by decide)
        · rw [if_neg c2] at ha
          by_cases c3 : K B L t = 261
          · rw [if_pos c3, a0] at ha; exact absurd ha (by decide)
          · rw [if_neg c3, a0] at ha; exact absurd ha (by decide))
      unfold pA at hq
      rw [if_pos c1] at hq
      rw [a0] at hs' hk1
      have hkk := (lm_k hl').1
      have htt := (lm_t hl').1
      refine sim_sign hl0 hs' (by unfold isSg; decide) (fun e => ?_) (fun e => ?_)
      · rw [if_pos e] at hq
        have hnx2 : T_X12_next [.ref 44] (wIJ h f' g') (fun r h' => wp 3 MX12_oneLine Q 193 [some (.ref 44), some (.int (nI l)), some (.int 1), none] (r.toList ++ []) h') := by
          refine sim_next hl0 hs' (fun f2 g2 hs2 => ol_193 Q h hl0 B L J _ (t + 1 + 1) k l hl16 1 f2 g2 hs2 hk1 (fun c => ?_) (fun c => ?_))
          · rw [if_neg (show ¬ K B L (t + 2) = 2 from c)] at hq; exact hq
          · rw [if_pos (show K B L (t + 2) = 2 from c)] at hq
            rw [if_neg (by decide)]
            exact hq
        show c_X12_oneLine_184 Q _ [.int 1] _
        generalize wIJ h f' g' = H at hkk htt hnx2 ⊢
        simp only [c_X12_oneLine_184, i_push, i_ild, i_ald, i_ist, i_ast, i_inc, i_bin, i_un, i_divs, i_i2l, i_lshl, i_lor, i_dup, i_dup2, i_pop, i_if, i_cmp, i_nul, i_vret, i_iret, i_zret, i_aret, i_keep, keep, lget, lset, ent, i_getI, i_getJ, i_getR, i_getN, i_putI, i_putZ, i_putJ, i_putR, i_iald, i_bald, i_alen, i_aald, i_iast, i_bast, i_aast, i_new, i_newa, i_anew, i_oini, i_callS, i_callV, i_callI, popn, sh4, i_sw, swP, i_copy, i_binS, List.map, Option.toList_none, Option.toList_some, List.append, List.nil_append, List.cons_append, List.length_cons, List.length_nil, List.replicate, Nat.sub_self, Nat.reduceSub, Nat.reduceAdd, hK_pI, hL_pI, hI_pI, hR_pI, hJ_pI, hT_pI, hS_pI, hK_pR, hL_pR, hI_pR, hR_pR, hJ_pR, hT_pR, hS_pR, hK_pJ, hL_pJ, hI_pJ, hR_pJ, hJ_pJ, hT_pJ, hS_pJ, hK_wI, hL_wI, hI_wI, hR_wI, hJ_wI, hT_wI, hS_wI, eq_self, and_true, true_and, and_false, false_and, or_true, true_or, or_false, false_or, if_true, if_false, not_true_eq_false, not_false_eq_true, forall_const, implies_true, false_implies, true_implies, Option.some.injEq, forall_eq', exists_eq_left', reduceCtorEq, Nat.reduceEqDiff, c1, T_X12_in, T_X12_ones, T_X11_within, T_X11_bit, T_X11_isIn, T_X11_oneIfIn, T_J6_bitCount_0f7a4, hkk, htt, show ¬ (1 : Int32) = 0 by decide]
        exact hnx2
      · rw [if_neg e] at hq
        have h193 := ol_193 Q h hl0 B L J _ (t + 1) k l hl16 0 f' g' hs' hk1 (fun c => by rw [if_neg c] at hq; exact hq) (fun c => by
          rw [if_pos c] at hq
          rw [if_pos rfl]
          exact hq)
        show c_X12_oneLine_184 Q _ [.int 0] _
        generalize wIJ h f' g' = H at hkk htt h193 ⊢
        simp only [c_X12_oneLine_184, i_push, i_ild, i_ald, i_ist, i_ast, i_inc, i_bin, i_un, i_divs, i_i2l, i_lshl, i_lor, i_dup, i_dup2, i_pop, i_if, i_cmp, i_nul, i_vret, i_iret, i_zret, i_aret, i_keep, keep, lget, lset, ent, i_getI, i_getJ, i_getR, i_getN, i_putI, i_putZ, i_putJ, i_putR, i_iald, i_bald, i_alen, i_aald, i_iast, i_bast, i_aast, i_new, i_newa, i_anew, i_oini, i_callS, i_callV, i_callI, popn, sh4, i_sw, swP, i_copy, i_binS, List.map, Option.toList_none, Option.toList_some, List.append, List.nil_append, List.cons_append, List.length_cons, List.length_nil, List.replicate, Nat.sub_self, Nat.reduceSub, Nat.reduceAdd, hK_pI, hL_pI, hI_pI, hR_pI, hJ_pI, hT_pI, hS_pI, hK_pR, hL_pR, hI_pR, hR_pR, hJ_pR, hT_pR, hS_pR, hK_pJ, hL_pJ, hI_pJ, hR_pJ, hJ_pJ, hT_pJ, hS_pJ, hK_wI, hL_wI, hI_wI, hR_wI, hJ_wI, hT_wI, hS_wI, eq_self, and_true, true_and, and_false, false_and, or_true, true_or, or_false, false_or, if_true, if_false, not_true_eq_false, not_false_eq_true, forall_const, implies_true, false_implies, true_implies, Option.some.injEq, forall_eq', exists_eq_left', reduceCtorEq, Nat.reduceEqDiff, c1, T_X12_in, T_X12_ones, T_X11_within, T_X11_bit, T_X11_isIn, T_X11_oneIfIn, T_J6_bitCount_0f7a4, hkk, htt]
        exact h193
    generalize wIJ h f' g' = H at hl' e84' h232 hsg ⊢
    simp only [c_X12_oneLine_169, lm_t hl', lm_k hl', lm_r hl', lm_l hl', i_push, i_ild, i_ald, i_ist, i_ast, i_inc, i_bin, i_un, i_divs, i_i2l, i_lshl, i_lor, i_dup, i_dup2, i_pop, i_if, i_cmp, i_nul, i_vret, i_iret, i_zret, i_aret, i_keep, keep, lget, lset, ent, i_getI, i_getJ, i_getR, i_getN, i_putI, i_putZ, i_putJ, i_putR, i_iald, i_bald, i_alen, i_aald, i_iast, i_bast, i_aast, i_new, i_newa, i_anew, i_oini, i_callS, i_callV, i_callI, popn, sh4, i_sw, swP, i_copy, i_binS, List.map, Option.toList_none, Option.toList_some, List.append, List.nil_append, List.cons_append, List.length_cons, List.length_nil, List.replicate, Nat.sub_self, Nat.reduceSub, Nat.reduceAdd, hK_pI, hL_pI, hI_pI, hR_pI, hJ_pI, hT_pI, hS_pI, hK_pR, hL_pR, hI_pR, hR_pR, hJ_pR, hT_pR, hS_pR, hK_pJ, hL_pJ, hI_pJ, hR_pJ, hJ_pJ, hT_pJ, hS_pJ, hK_wI, hL_wI, hI_wI, hR_wI, hJ_wI, hT_wI, hS_wI, eq_self, and_true, true_and, and_false, false_and, or_true, true_or, or_false, false_or, if_true, if_false, not_true_eq_false, not_false_eq_true, forall_const, implies_true, false_implies, true_implies, Option.some.injEq, forall_eq', exists_eq_left', reduceCtorEq, Nat.reduceEqDiff, c1, T_X12_in, T_X12_ones, T_X11_within, T_X11_bit, T_X11_isIn, T_X11_oneIfIn, T_J6_bitCount_0f7a4, cl_nI (show l < 2147483648 by omega), in_nI (show l < 17 by omega) (by decide), e84']
    exact ⟨fun c => hsg c, fun c => h232 c⟩
  refine s_X12_oneLine_149 Q _ _ _ ?_
  generalize wIJ h f g = H at hl hl1 e84 hw hnx ⊢
  simp only [b_X12_oneLine_149, lm_t hl, lm_k hl, lm_r hl, lm_l hl, i_iast, cl_nI (show l < 2147483648 by omega), in_nI (show l < 17 by omega) (by decide), true_and, eq_self]
  generalize pI H 84 l a = H1 at hl1 e84 hw hnx ⊢
  simp only [lm_t hl1, lm_k hl1, lm_r hl1, lm_l hl1, i_push, i_ild, i_ald, i_ist, i_ast, i_inc, i_bin, i_un, i_divs, i_i2l, i_lshl, i_lor, i_dup, i_dup2, i_pop, i_if, i_cmp, i_nul, i_vret, i_iret, i_zret, i_aret, i_keep, keep, lget, lset, ent, i_getI, i_getJ, i_getR, i_getN, i_putI, i_putZ, i_putJ, i_putR, i_iald, i_bald, i_alen, i_aald, i_iast, i_bast, i_aast, i_new, i_newa, i_anew, i_oini, i_callS, i_callV, i_callI, popn, sh4, i_sw, swP, i_copy, i_binS, List.map, Option.toList_none, Option.toList_some, List.append, List.nil_append, List.cons_append, List.length_cons, List.length_nil, List.replicate, Nat.sub_self, Nat.reduceSub, Nat.reduceAdd, hK_pI, hL_pI, hI_pI, hR_pI, hJ_pI, hT_pI, hS_pI, hK_pR, hL_pR, hI_pR, hR_pR, hJ_pR, hT_pR, hS_pR, hK_pJ, hL_pJ, hI_pJ, hR_pJ, hJ_pJ, hT_pJ, hS_pJ, hK_wI, hL_wI, hI_wI, hR_wI, hJ_wI, hT_wI, hS_wI, eq_self, and_true, true_and, and_false, false_and, or_true, true_or, or_false, false_or, if_true, if_false, not_true_eq_false, not_false_eq_true, forall_const, implies_true, false_implies, true_implies, Option.some.injEq, forall_eq', exists_eq_left', reduceCtorEq, Nat.reduceEqDiff, c1, T_X12_in, T_X12_ones, T_X11_within, T_X11_bit, T_X11_isIn, T_X11_oneIfIn, T_J6_bitCount_0f7a4, cl_nI (show l < 2147483648 by omega), in_nI (show l < 17 by omega) (by decide), e84]
  exact ⟨hw, hnx⟩
set_option maxRecDepth 100000 in
set_option maxHeartbeats 400000 in
theorem ol_101 (Q : Option Value → Hp → Prop) (h : Hp) (hl0 : LayM h) (B : Nat → Int32) (L : Nat) (J : Nat → Nat → Int64) (M : Mem) (t k l : Nat) (hl16 : l ≤ 16) (f : Mem) (g : Nat → Nat → Int64) (hs : SIM B L J f g M t) (hk : M 44 46 = nI k)
    (hq : ∀ f g, SIM B L J f g (pA B L l k M t).2.1 (pA B L l k M t).2.2 → Q (some (.int (if (pA B L l k M t).1 = true then 1 else 0))) (wIJ h f g)) :
    wp 3 MX12_oneLine Q 101 [some (.ref 44), some (.int (nI l)), none, none] [] (wIJ h f g) := by
  have hl : LayM (wIJ h f g) := hl0
  have hkk := (lm_k hl).1
  have htt := (lm_t hl).1
  have one : ¬ (1 : Int32) = 0 := by decide
  have h149 := fun a ha => ol_149 Q h hl0 B L J M t k l hl16 a f g hs hk ha hq
  have hc141 : ¬ K B L t = 259 → ¬ K B L t = 260 → T_X12_isWord [.ref 44, .long 1818325876] (wIJ h f g) (fun r h' => c_X12_oneLine_141 Q [some (.ref 44), some (.int (nI l)), none, none] (r.toList ++ [.int (nI l), .ref 84]) h') := by
    intro c1 c2
    refine sim_word hl0 hs 5 (by decide) (by decide +kernel) (fun e => ?_) (fun e => ?_)
    · have hgo := h149 2 (by rw [if_neg c1, if_neg c2, if_pos (show K B L t = 261 from e)])
      show c_X12_oneLine_141 Q _ [.int 1, .int (nI l), .ref 84] _
      generalize wIJ h f g = H at hkk htt hgo ⊢
      simp only [c_X12_oneLine_141, i_push, i_ild, i_ald, i_ist, i_ast, i_inc, i_bin, i_un, i_divs, i_i2l, i_lshl, i_lor, i_dup, i_dup2, i_pop, i_if, i_cmp, i_nul, i_vret, i_iret, i_zret, i_aret, i_keep, keep, lget, lset, ent, i_getI, i_getJ, i_getR, i_getN, i_putI, i_putZ, i_putJ, i_putR, i_iald, i_bald, i_alen, i_aald, i_iast, i_bast, i_aast, i_new, i_newa, i_anew, i_oini, i_callS, i_callV, i_callI, popn, sh4, i_sw, swP, i_copy, i_binS, List.map, Option.toList_none, Option.toList_some, List.append, List.nil_append, List.cons_append, List.length_cons, List.length_nil, List.replicate, Nat.sub_self, Nat.reduceSub, Nat.reduceAdd, hK_pI, hL_pI, hI_pI, hR_pI, hJ_pI, hT_pI, hS_pI, hK_pR, hL_pR, hI_pR, hR_pR, hJ_pR, hT_pR, hS_pR, hK_pJ, hL_pJ, hI_pJ, hR_pJ, hJ_pJ, hT_pJ, hS_pJ, hK_wI, hL_wI, hI_wI, hR_wI, hJ_wI, hT_wI, hS_wI, eq_self, and_true, true_and, and_false, false_and, or_true, true_or, or_false, false_or, if_true, if_false, not_true_eq_false, not_false_eq_true, forall_const, implies_true, false_implies, true_implies, Option.some.injEq, forall_eq', exists_eq_left', reduceCtorEq, Nat.reduceEqDiff, c1, T_X12_in, T_X12_ones, T_X11_within, T_X11_bit, T_X11_isIn, T_X11_oneIfIn, T_J6_bitCount_0f7a4, hkk, htt, one]
      exact hgo
    · have hgo := h149 (-1) (by rw [if_neg c1, if_neg c2, if_neg (show ¬ K B L t = 261 from e)])
      show c_X12_oneLine_141 Q _ [.int 0, .int (nI l), .ref 84] _
      generalize wIJ h f g = H at hkk htt hgo ⊢
      simp only [c_X12_oneLine_141, i_push, i_ild, i_ald, i_ist, i_ast, i_inc, i_bin, i_un, i_divs, i_i2l, i_lshl, i_lor, i_dup, i_dup2, i_pop, i_if, i_cmp, i_nul, i_vret, i_iret, i_zret, i_aret, i_keep, keep, lget, lset, ent, i_getI, i_getJ, i_getR, i_getN, i_putI, i_putZ, i_putJ, i_putR, i_iald, i_bald, i_alen, i_aald, i_iast, i_bast, i_aast, i_new, i_newa, i_anew, i_oini, i_callS, i_callV, i_callI, popn, sh4, i_sw, swP, i_copy, i_binS, List.map, Option.toList_none, Option.toList_some, List.append, List.nil_append, List.cons_append, List.length_cons, List.length_nil, List.replicate, Nat.sub_self, Nat.reduceSub, Nat.reduceAdd, hK_pI, hL_pI, hI_pI, hR_pI, hJ_pI, hT_pI, hS_pI, hK_pR, hL_pR, hI_pR, hR_pR, hJ_pR, hT_pR, hS_pR, hK_pJ, hL_pJ, hI_pJ, hR_pJ, hJ_pJ, hT_pJ, hS_pJ, hK_wI, hL_wI, hI_wI, hR_wI, hJ_wI, hT_wI, hS_wI, eq_self, and_true, true_and, and_false, false_and, or_true, true_or, or_false, false_or, if_true, if_false, not_true_eq_false, not_false_eq_true, forall_const, implies_true, false_implies, true_implies, Option.some.injEq, forall_eq', exists_eq_left', reduceCtorEq, Nat.reduceEqDiff, c1, T_X12_in, T_X12_ones, T_X11_within, T_X11_bit, T_X11_isIn, T_X11_oneIfIn, T_J6_bitCount_0f7a4, hkk, htt]
      exact hgo
  have hc127 : ¬ K B L t = 259 → T_X12_isWord [.ref 44, .long 6447474] (wIJ h f g) (fun r h' => c_X12_oneLine_127 Q [some (.ref 44), some (.int (nI l)), none, none] (r.toList ++ [.int (nI l), .ref 84]) h') := by
    intro c1
    refine sim_word hl0 hs 4 (by decide) (by decide +kernel) (fun e => ?_) (fun e => ?_)
    · have hgo := h149 1 (by rw [if_neg c1, if_pos (show K B L t = 260 from e)])
      show c_X12_oneLine_127 Q _ [.int 1, .int (nI l), .ref 84] _
      generalize wIJ h f g = H at hkk htt hgo ⊢
      simp only [c_X12_oneLine_127, i_push, i_ild, i_ald, i_ist, i_ast, i_inc, i_bin, i_un, i_divs, i_i2l, i_lshl, i_lor, i_dup, i_dup2, i_pop, i_if, i_cmp, i_nul, i_vret, i_iret, i_zret, i_aret, i_keep, keep, lget, lset, ent, i_getI, i_getJ, i_getR, i_getN, i_putI, i_putZ, i_putJ, i_putR, i_iald, i_bald, i_alen, i_aald, i_iast, i_bast, i_aast, i_new, i_newa, i_anew, i_oini, i_callS, i_callV, i_callI, popn, sh4, i_sw, swP, i_copy, i_binS, List.map, Option.toList_none, Option.toList_some, List.append, List.nil_append, List.cons_append, List.length_cons, List.length_nil, List.replicate, Nat.sub_self, Nat.reduceSub, Nat.reduceAdd, hK_pI, hL_pI, hI_pI, hR_pI, hJ_pI, hT_pI, hS_pI, hK_pR, hL_pR, hI_pR, hR_pR, hJ_pR, hT_pR, hS_pR, hK_pJ, hL_pJ, hI_pJ, hR_pJ, hJ_pJ, hT_pJ, hS_pJ, hK_wI, hL_wI, hI_wI, hR_wI, hJ_wI, hT_wI, hS_wI, eq_self, and_true, true_and, and_false, false_and, or_true, true_or, or_false, false_or, if_true, if_false, not_true_eq_false, not_false_eq_true, forall_const, implies_true, false_implies, true_implies, Option.some.injEq, forall_eq', exists_eq_left', reduceCtorEq, Nat.reduceEqDiff, c1, T_X12_in, T_X12_ones, T_X11_within, T_X11_bit, T_X11_isIn, T_X11_oneIfIn, T_J6_bitCount_0f7a4, hkk, htt, one]
      exact hgo
    · have hgo := hc141 c1 e
      show c_X12_oneLine_127 Q _ [.int 0, .int (nI l), .ref 84] _
      generalize wIJ h f g = H at hkk htt hgo ⊢
      simp only [c_X12_oneLine_127, i_push, i_ild, i_ald, i_ist, i_ast, i_inc, i_bin, i_un, i_divs, i_i2l, i_lshl, i_lor, i_dup, i_dup2, i_pop, i_if, i_cmp, i_nul, i_vret, i_iret, i_zret, i_aret, i_keep, keep, lget, lset, ent, i_getI, i_getJ, i_getR, i_getN, i_putI, i_putZ, i_putJ, i_putR, i_iald, i_bald, i_alen, i_aald, i_iast, i_bast, i_aast, i_new, i_newa, i_anew, i_oini, i_callS, i_callV, i_callI, popn, sh4, i_sw, swP, i_copy, i_binS, List.map, Option.toList_none, Option.toList_some, List.append, List.nil_append, List.cons_append, List.length_cons, List.length_nil, List.replicate, Nat.sub_self, Nat.reduceSub, Nat.reduceAdd, hK_pI, hL_pI, hI_pI, hR_pI, hJ_pI, hT_pI, hS_pI, hK_pR, hL_pR, hI_pR, hR_pR, hJ_pR, hT_pR, hS_pR, hK_pJ, hL_pJ, hI_pJ, hR_pJ, hJ_pJ, hT_pJ, hS_pJ, hK_wI, hL_wI, hI_wI, hR_wI, hJ_wI, hT_wI, hS_wI, eq_self, and_true, true_and, and_false, false_and, or_true, true_or, or_false, false_or, if_true, if_false, not_true_eq_false, not_false_eq_true, forall_const, implies_true, false_implies, true_implies, Option.some.injEq, forall_eq', exists_eq_left', reduceCtorEq, Nat.reduceEqDiff, c1, T_X12_in, T_X12_ones, T_X11_within, T_X11_bit, T_X11_isIn, T_X11_oneIfIn, T_J6_bitCount_0f7a4, hkk, htt]
      exact hgo
  have hc113 : T_X12_isWord [.ref 44, .long 6382692] (wIJ h f g) (fun r h' => c_X12_oneLine_113 Q [some (.ref 44), some (.int (nI l)), none, none] (r.toList ++ [.int (nI l), .ref 84]) h') := by
    refine sim_word hl0 hs 3 (by decide) (by decide +kernel) (fun e => ?_) (fun e => ?_)
    · have hgo := h149 0 (by rw [if_pos (show K B L t = 259 from e)])
      show c_X12_oneLine_113 Q _ [.int 1, .int (nI l), .ref 84] _
      generalize wIJ h f g = H at hkk htt hgo ⊢
      simp only [c_X12_oneLine_113, i_push, i_ild, i_ald, i_ist, i_ast, i_inc, i_bin, i_un, i_divs, i_i2l, i_lshl, i_lor, i_dup, i_dup2, i_pop, i_if, i_cmp, i_nul, i_vret, i_iret, i_zret, i_aret, i_keep, keep, lget, lset, ent, i_getI, i_getJ, i_getR, i_getN, i_putI, i_putZ, i_putJ, i_putR, i_iald, i_bald, i_alen, i_aald, i_iast, i_bast, i_aast, i_new, i_newa, i_anew, i_oini, i_callS, i_callV, i_callI, popn, sh4, i_sw, swP, i_copy, i_binS, List.map, Option.toList_none, Option.toList_some, List.append, List.nil_append, List.cons_append, List.length_cons, List.length_nil, List.replicate, Nat.sub_self, Nat.reduceSub, Nat.reduceAdd, hK_pI, hL_pI, hI_pI, hR_pI, hJ_pI, hT_pI, hS_pI, hK_pR, hL_pR, hI_pR, hR_pR, hJ_pR, hT_pR, hS_pR, hK_pJ, hL_pJ, hI_pJ, hR_pJ, hJ_pJ, hT_pJ, hS_pJ, hK_wI, hL_wI, hI_wI, hR_wI, hJ_wI, hT_wI, hS_wI, eq_self, and_true, true_and, and_false, false_and, or_true, true_or, or_false, false_or, if_true, if_false, not_true_eq_false, not_false_eq_true, forall_const, implies_true, false_implies, true_implies, Option.some.injEq, forall_eq', exists_eq_left', reduceCtorEq, Nat.reduceEqDiff, c1, T_X12_in, T_X12_ones, T_X11_within, T_X11_bit, T_X11_isIn, T_X11_oneIfIn, T_J6_bitCount_0f7a4, hkk, htt, one]
      exact hgo
    · have hgo := hc127 e
      show c_X12_oneLine_113 Q _ [.int 0, .int (nI l), .ref 84] _
      generalize wIJ h f g = H at hkk htt hgo ⊢
      simp only [c_X12_oneLine_113, i_push, i_ild, i_ald, i_ist, i_ast, i_inc, i_bin, i_un, i_divs, i_i2l, i_lshl, i_lor, i_dup, i_dup2, i_pop, i_if, i_cmp, i_nul, i_vret, i_iret, i_zret, i_aret, i_keep, keep, lget, lset, ent, i_getI, i_getJ, i_getR, i_getN, i_putI, i_putZ, i_putJ, i_putR, i_iald, i_bald, i_alen, i_aald, i_iast, i_bast, i_aast, i_new, i_newa, i_anew, i_oini, i_callS, i_callV, i_callI, popn, sh4, i_sw, swP, i_copy, i_binS, List.map, Option.toList_none, Option.toList_some, List.append, List.nil_append, List.cons_append, List.length_cons, List.length_nil, List.replicate, Nat.sub_self, Nat.reduceSub, Nat.reduceAdd, hK_pI, hL_pI, hI_pI, hR_pI, hJ_pI, hT_pI, hS_pI, hK_pR, hL_pR, hI_pR, hR_pR, hJ_pR, hT_pR, hS_pR, hK_pJ, hL_pJ, hI_pJ, hR_pJ, hJ_pJ, hT_pJ, hS_pJ, hK_wI, hL_wI, hI_wI, hR_wI, hJ_wI, hT_wI, hS_wI, eq_self, and_true, true_and, and_false, false_and, or_true, true_or, or_false, false_or, if_true, if_false, not_true_eq_false, not_false_eq_true, forall_const, implies_true, false_implies, true_implies, Option.some.injEq, forall_eq', exists_eq_left', reduceCtorEq, Nat.reduceEqDiff, c1, T_X12_in, T_X12_ones, T_X11_within, T_X11_bit, T_X11_isIn, T_X11_oneIfIn, T_J6_bitCount_0f7a4, hkk, htt]
      exact hgo
  refine s_X12_oneLine_101 Q _ _ _ ?_
  generalize wIJ h f g = H at hl hc113 ⊢
  simp only [b_X12_oneLine_101, hl, lay_pI, lay_wI, lay_pJ, lm_t hl, lm_k hl, lm_r hl, lm_l hl, i_push, i_ild, i_ald, i_ist, i_ast, i_inc, i_bin, i_un, i_divs, i_i2l, i_lshl, i_lor, i_dup, i_dup2, i_pop, i_if, i_cmp, i_nul, i_vret, i_iret, i_zret, i_aret, i_keep, keep, lget, lset, ent, i_getI, i_getJ, i_getR, i_getN, i_putI, i_putZ, i_putJ, i_putR, i_iald, i_bald, i_alen, i_aald, i_iast, i_bast, i_aast, i_new, i_newa, i_anew, i_oini, i_callS, i_callV, i_callI, popn, sh4, i_sw, swP, i_copy, i_binS, List.map, Option.toList_none, Option.toList_some, List.append, List.nil_append, List.cons_append, List.length_cons, List.length_nil, List.replicate, Nat.sub_self, Nat.reduceSub, Nat.reduceAdd, hK_pI, hL_pI, hI_pI, hR_pI, hJ_pI, hT_pI, hS_pI, hK_pR, hL_pR, hI_pR, hR_pR, hJ_pR, hT_pR, hS_pR, hK_pJ, hL_pJ, hI_pJ, hR_pJ, hJ_pJ, hT_pJ, hS_pJ, hK_wI, hL_wI, hI_wI, hR_wI, hJ_wI, hT_wI, hS_wI, eq_self, and_true, true_and, and_false, false_and, or_true, true_or, or_false, false_or, if_true, if_false, not_true_eq_false, not_false_eq_true, forall_const, implies_true, false_implies, true_implies, Option.some.injEq, forall_eq', exists_eq_left', reduceCtorEq, Nat.reduceEqDiff, c1, T_X12_in, T_X12_ones, T_X11_within, T_X11_bit, T_X11_isIn, T_X11_oneIfIn, T_J6_bitCount_0f7a4]
  exact hc113
