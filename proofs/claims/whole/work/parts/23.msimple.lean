/-! ===== the reference: small methods ===== -/
def T_X12_end : Tr := fun av h Q => match av with
  | [.ref o, .int n] => o = 44 ∧ LayM h ∧ (¬ (0 ≤ n ∧ n ≤ hI h 44 2) → Q (some (.int (-1))) (pI h 44 0 0)) ∧ (¬ ¬ (0 ≤ n ∧ n ≤ hI h 44 2) → Q (some (.int n)) (pI (pI h 44 0 0) 44 2 n))
  | _ => False
def L_X12_end : List UInt8 := [42, 3, 181, 0, 151, 27, 3, 42, 180, 0, 158, 184, 0, 165, 154, 0, 5, 2, 172, 42, 27, 181, 0, 158, 27, 172]
theorem Lc_X12_end : MX12_end.2.1 = ⟨L_X12_end.toArray⟩ := rfl
theorem D_X12_end_0 : dseq MX12_end.2.1 0 [(.aload_n 0, 1), (.iconst 0, 1), (.putfield 151, 3), (.iload_n 1, 1), (.iconst 0, 1), (.aload_n 0, 1), (.getfield 158, 3), (.invokestatic 165, 3), (.ifCond .ne 5, 3), (.iconst (-1), 1), (.ireturn, 1)] := dq Lc_X12_end 0 _ (by decide +kernel)
theorem D_X12_end_19 : dseq MX12_end.2.1 19 [(.aload_n 0, 1), (.iload_n 1, 1), (.putfield 158, 3), (.iload_n 1, 1), (.ireturn, 1)] := dq Lc_X12_end 19 _ (by decide +kernel)
def b_X12_end_0 (Q : Option Value → Hp → Prop) : Kt := i_ald 0 (i_push (.int 0) (i_putI 12 0 (i_ild 1 (i_push (.int 0) (i_ald 0 (i_getI 12 2 (i_callS 3 T_X12_in (i_if (fun x => x = 0) (i_push (.int (-1)) (i_iret Q)) (i_ald 0 (i_ild 1 (i_putI 12 2 (i_ild 1 (i_iret Q)))))))))))))
set_option maxRecDepth 100000 in
theorem s_X12_end_0 (Q : Option Value → Hp → Prop) : ∀ A st h, b_X12_end_0 Q A st h → wp 1 MX12_end Q 0 A st h := (q1 (s_aldn (n := 0) (i := 0) rfl) D_X12_end_0 fun D => (q1 (s_iconst (n := 0) (v := 0) (by decide)) D fun D => (qP pl_X12_151 rfl (Or.inl rfl) D fun D => (q1 (s_ildn (n := 1) (i := 1) rfl) D fun D => (q1 (s_iconst (n := 0) (v := 0) (by decide)) D fun D => (q1 (s_aldn (n := 0) (i := 0) rfl) D fun D => (qC fl_X12_158 rfl D fun D => (qX (s_callS ok_X12_in mo_X12_in (ch_5_13_ok.2.2.2.2.2.2.2.2.1.1 rfl) (ch_5_13_ok.2.2.2.2.2.2.2.2.2.1.1 rfl)) rfl (by decide) D fun D => (qBn s_ifne2 19 (by decide) D (q1 (s_aldn (n := 0) (i := 0) rfl) D_X12_end_19 fun D => (q1 (s_ildn (n := 1) (i := 1) rfl) D fun D => (qP pl_X12_158 rfl (Or.inl rfl) D fun D => (q1 (s_ildn (n := 1) (i := 1) rfl) D fun D => (qI rfl D))))) fun D => (q1 (s_iconst (n := (-1)) (v := (-1)) (by decide)) D fun D => (qI rfl D)))))))))))

set_option maxRecDepth 100000 in
set_option maxHeartbeats 4000000 in
theorem ok_X12_end : ctr 1 MX12_end T_X12_end := by
  refine ctr_of pn_X12 wc_X12_end (fun av h Q hT => ?_)
  unfold T_X12_end at hT
  split at hT
  · rename_i o n
    refine ⟨⟨by simp [Value.category], Nat.le_of_ble_eq_true rfl⟩, s_X12_end_0 Q _ _ _ ?_⟩
    obtain ⟨rfl, hl, hq⟩ := hT
    simp only [MX12_end, b_X12_end_0, hl, lay_pI, lay_wI, lay_pJ, lm_t hl, lm_k hl, lm_r hl, lm_l hl, i_push, i_ild, i_ald, i_ist, i_ast, i_inc, i_bin, i_un, i_divs, i_i2l, i_lshl, i_lor, i_dup, i_dup2, i_pop, i_if, i_cmp, i_nul, i_vret, i_iret, i_zret, i_aret, i_keep, keep, lget, lset, ent, i_getI, i_getJ, i_getR, i_getN, i_putI, i_putZ, i_putJ, i_putR, i_iald, i_bald, i_alen, i_aald, i_iast, i_bast, i_aast, i_new, i_newa, i_anew, i_oini, i_callS, i_callV, i_callI, popn, sh4, i_sw, swP, i_copy, i_binS, List.map, Option.toList_none, Option.toList_some, List.append, List.nil_append, List.cons_append, List.length_cons, List.length_nil, List.replicate, Nat.sub_self, Nat.reduceSub, Nat.reduceAdd, hK_pI, hL_pI, hI_pI, hR_pI, hJ_pI, hT_pI, hS_pI, hK_pR, hL_pR, hI_pR, hR_pR, hJ_pR, hT_pR, hS_pR, hK_pJ, hL_pJ, hI_pJ, hR_pJ, hJ_pJ, hT_pJ, hS_pJ, hK_wI, hL_wI, hI_wI, hR_wI, hJ_wI, hT_wI, hS_wI, eq_self, and_true, true_and, and_false, false_and, or_true, true_or, or_false, false_or, if_true, if_false, not_true_eq_false, not_false_eq_true, forall_const, implies_true, false_implies, true_implies, Option.some.injEq, forall_eq', exists_eq_left', reduceCtorEq, Nat.reduceEqDiff, c1, T_X12_in, T_X12_ones, T_X11_within, T_X11_bit, T_X11_isIn, T_X11_oneIfIn, T_J6_bitCount_0f7a4, b2i_0]
    exact hq
  · exact hT.elim
def T_X12_fault : Tr := fun av h Q => match av with
  | [.ref o, .int n] => o = 44 ∧ LayM h ∧ (n = 0 → Q (some (.int (hI h 44 43))) (pI h 44 0 0)) ∧ (¬ n = 0 → (n = 1 → Q (some (.int (hI h 44 44))) (pI h 44 0 0)) ∧ (¬ n = 1 → Q (some (.int (-1))) (pI h 44 0 0)))
  | _ => False
def L_X12_fault : List UInt8 := [42, 3, 181, 0, 151, 27, 154, 0, 10, 42, 180, 0, 192, 167, 0, 16, 27, 4, 160, 0, 10, 42, 180, 0, 116, 167, 0, 4, 2, 172]
theorem Lc_X12_fault : MX12_fault.2.1 = ⟨L_X12_fault.toArray⟩ := rfl
theorem D_X12_fault_0 : dseq MX12_fault.2.1 0 [(.aload_n 0, 1), (.iconst 0, 1), (.putfield 151, 3), (.iload_n 1, 1), (.ifCond .ne 10, 3), (.aload_n 0, 1), (.getfield 192, 3), (.goto 16, 3)] := dq Lc_X12_fault 0 _ (by decide +kernel)
theorem D_X12_fault_16 : dseq MX12_fault.2.1 16 [(.iload_n 1, 1), (.iconst 1, 1), (.if_icmp .ne 10, 3), (.aload_n 0, 1), (.getfield 116, 3), (.goto 4, 3)] := dq Lc_X12_fault 16 _ (by decide +kernel)
theorem D_X12_fault_28 : dseq MX12_fault.2.1 28 [(.iconst (-1), 1), (.ireturn, 1)] := dq Lc_X12_fault 28 _ (by decide +kernel)
theorem D_X12_fault_29 : dseq MX12_fault.2.1 29 [(.ireturn, 1)] := dq Lc_X12_fault 29 _ (by decide +kernel)
def b_X12_fault_0 (Q : Option Value → Hp → Prop) : Kt := i_ald 0 (i_push (.int 0) (i_putI 12 0 (i_ild 1 (i_if (fun x => x = 0) (i_ald 0 (i_getI 12 43 (i_iret Q))) (i_ild 1 (i_push (.int 1) (i_cmp (fun x y => x = y) (i_ald 0 (i_getI 12 44 (i_iret Q))) (i_push (.int (-1)) (i_iret Q)))))))))
set_option maxRecDepth 100000 in
theorem s_X12_fault_0 (Q : Option Value → Hp → Prop) : ∀ A st h, b_X12_fault_0 Q A st h → wp 0 MX12_fault Q 0 A st h := (q1 (s_aldn (n := 0) (i := 0) rfl) D_X12_fault_0 fun D => (q1 (s_iconst (n := 0) (v := 0) (by decide)) D fun D => (qP pl_X12_151 rfl (Or.inl rfl) D fun D => (q1 (s_ildn (n := 1) (i := 1) rfl) D fun D => (qBn s_ifne2 16 (by decide) D (q1 (s_ildn (n := 1) (i := 1) rfl) D_X12_fault_16 fun D => (q1 (s_iconst (n := 1) (v := 1) (by decide)) D fun D => (qBn s_cmpne2 28 (by decide) D (q1 (s_iconst (n := (-1)) (v := (-1)) (by decide)) D_X12_fault_28 fun D => (qI rfl D)) fun D => (q1 (s_aldn (n := 0) (i := 0) rfl) D fun D => (qC fl_X12_116 rfl D fun D => (qG 29 (by decide) D (qI rfl D_X12_fault_29))))))) fun D => (q1 (s_aldn (n := 0) (i := 0) rfl) D fun D => (qC fl_X12_192 rfl D fun D => (qG 29 (by decide) D (qI rfl D_X12_fault_29)))))))))

set_option maxRecDepth 100000 in
set_option maxHeartbeats 4000000 in
theorem ok_X12_fault : ctr 0 MX12_fault T_X12_fault := by
  refine ctr_of pn_X12 wc_X12_fault (fun av h Q hT => ?_)
  unfold T_X12_fault at hT
  split at hT
  · rename_i o n
    refine ⟨⟨by simp [Value.category], Nat.le_of_ble_eq_true rfl⟩, s_X12_fault_0 Q _ _ _ ?_⟩
    obtain ⟨rfl, hl, hq⟩ := hT
    simp only [MX12_fault, b_X12_fault_0, hl, lay_pI, lay_wI, lay_pJ, lm_t hl, lm_k hl, lm_r hl, lm_l hl, i_push, i_ild, i_ald, i_ist, i_ast, i_inc, i_bin, i_un, i_divs, i_i2l, i_lshl, i_lor, i_dup, i_dup2, i_pop, i_if, i_cmp, i_nul, i_vret, i_iret, i_zret, i_aret, i_keep, keep, lget, lset, ent, i_getI, i_getJ, i_getR, i_getN, i_putI, i_putZ, i_putJ, i_putR, i_iald, i_bald, i_alen, i_aald, i_iast, i_bast, i_aast, i_new, i_newa, i_anew, i_oini, i_callS, i_callV, i_callI, popn, sh4, i_sw, swP, i_copy, i_binS, List.map, Option.toList_none, Option.toList_some, List.append, List.nil_append, List.cons_append, List.length_cons, List.length_nil, List.replicate, Nat.sub_self, Nat.reduceSub, Nat.reduceAdd, hK_pI, hL_pI, hI_pI, hR_pI, hJ_pI, hT_pI, hS_pI, hK_pR, hL_pR, hI_pR, hR_pR, hJ_pR, hT_pR, hS_pR, hK_pJ, hL_pJ, hI_pJ, hR_pJ, hJ_pJ, hT_pJ, hS_pJ, hK_wI, hL_wI, hI_wI, hR_wI, hJ_wI, hT_wI, hS_wI, eq_self, and_true, true_and, and_false, false_and, or_true, true_or, or_false, false_or, if_true, if_false, not_true_eq_false, not_false_eq_true, forall_const, implies_true, false_implies, true_implies, Option.some.injEq, forall_eq', exists_eq_left', reduceCtorEq, Nat.reduceEqDiff, c1, T_X12_in, T_X12_ones, T_X11_within, T_X11_bit, T_X11_isIn, T_X11_oneIfIn, T_J6_bitCount_0f7a4]
    exact hq
  · exact hT.elim
theorem in0 (N : Nat) (h : 0 < N) (hN : N < 2147483648) : vp_in 0 N := in_nI h hN
theorem cl0 : (0 : Int32).toNatClampNeg = 0 := by decide
def T_X12_isPerson : Tr := fun av h Q => match av with
  | [.ref o, .int p] => o = 44 ∧ LayM h ∧ Q (some (.int (b2i (0 ≤ p ∧ p ≤ hI h 52 0 - 1)))) h
  | _ => False
def L_X12_isPerson : List UInt8 := [27, 3, 42, 180, 0, 32, 3, 46, 4, 100, 184, 0, 165, 172]
theorem Lc_X12_isPerson : MX12_isPerson.2.1 = ⟨L_X12_isPerson.toArray⟩ := rfl
theorem D_X12_isPerson_0 : dseq MX12_isPerson.2.1 0 [(.iload_n 1, 1), (.iconst 0, 1), (.aload_n 0, 1), (.getfield 32, 3), (.iconst 0, 1), (.iaload, 1), (.iconst 1, 1), (.isub, 1), (.invokestatic 165, 3), (.ireturn, 1)] := dq Lc_X12_isPerson 0 _ (by decide +kernel)
def b_X12_isPerson_0 (Q : Option Value → Hp → Prop) : Kt := i_ild 1 (i_push (.int 0) (i_ald 0 (i_getR 12 9 (i_push (.int 0) (i_iald (i_push (.int 1) (i_bin (fun x y => x - y) (i_callS 3 T_X12_in (i_zret Q)))))))))
set_option maxRecDepth 100000 in
theorem s_X12_isPerson_0 (Q : Option Value → Hp → Prop) : ∀ A st h, b_X12_isPerson_0 Q A st h → wp 1 MX12_isPerson Q 0 A st h := (q1 (s_ildn (n := 1) (i := 1) rfl) D_X12_isPerson_0 fun D => (q1 (s_iconst (n := 0) (v := 0) (by decide)) D fun D => (q1 (s_aldn (n := 0) (i := 0) rfl) D fun D => (qC fl_X12_32 rfl D fun D => (q1 (s_iconst (n := 0) (v := 0) (by decide)) D fun D => (q1 s_iald D fun D => (q1 (s_iconst (n := 1) (v := 1) (by decide)) D fun D => (q1 s_sub D fun D => (qX (s_callS ok_X12_in mo_X12_in (ch_5_13_ok.2.2.2.2.2.2.2.2.1.1 rfl) (ch_5_13_ok.2.2.2.2.2.2.2.2.2.1.1 rfl)) rfl (by decide) D fun D => (qZ rfl D))))))))))

set_option maxRecDepth 100000 in
set_option maxHeartbeats 4000000 in
theorem ok_X12_isPerson : ctr 1 MX12_isPerson T_X12_isPerson := by
  refine ctr_of pn_X12 wc_X12_isPerson (fun av h Q hT => ?_)
  unfold T_X12_isPerson at hT
  split at hT
  · rename_i o p
    refine ⟨⟨by simp [Value.category], Nat.le_of_ble_eq_true rfl⟩, s_X12_isPerson_0 Q _ _ _ ?_⟩
    obtain ⟨rfl, hl, hq⟩ := hT
    simp only [MX12_isPerson, b_X12_isPerson_0, hl, lay_pI, lay_wI, lay_pJ, lm_t hl, lm_k hl, lm_r hl, lm_l hl, i_push, i_ild, i_ald, i_ist, i_ast, i_inc, i_bin, i_un, i_divs, i_i2l, i_lshl, i_lor, i_dup, i_dup2, i_pop, i_if, i_cmp, i_nul, i_vret, i_iret, i_zret, i_aret, i_keep, keep, lget, lset, ent, i_getI, i_getJ, i_getR, i_getN, i_putI, i_putZ, i_putJ, i_putR, i_iald, i_bald, i_alen, i_aald, i_iast, i_bast, i_aast, i_new, i_newa, i_anew, i_oini, i_callS, i_callV, i_callI, popn, sh4, i_sw, swP, i_copy, i_binS, List.map, Option.toList_none, Option.toList_some, List.append, List.nil_append, List.cons_append, List.length_cons, List.length_nil, List.replicate, Nat.sub_self, Nat.reduceSub, Nat.reduceAdd, hK_pI, hL_pI, hI_pI, hR_pI, hJ_pI, hT_pI, hS_pI, hK_pR, hL_pR, hI_pR, hR_pR, hJ_pR, hT_pR, hS_pR, hK_pJ, hL_pJ, hI_pJ, hR_pJ, hJ_pJ, hT_pJ, hS_pJ, hK_wI, hL_wI, hI_wI, hR_wI, hJ_wI, hT_wI, hS_wI, eq_self, and_true, true_and, and_false, false_and, or_true, true_or, or_false, false_or, if_true, if_false, not_true_eq_false, not_false_eq_true, forall_const, implies_true, false_implies, true_implies, Option.some.injEq, forall_eq', exists_eq_left', reduceCtorEq, Nat.reduceEqDiff, c1, T_X12_in, T_X12_ones, T_X11_within, T_X11_bit, T_X11_isIn, T_X11_oneIfIn, T_J6_bitCount_0f7a4, in0 4 (by decide) (by decide), cl0]
    exact ⟨b2i_01 _, hq⟩
  · exact hT.elim
def T_X12_isHelper : Tr := fun av h Q => match av with
  | [.ref o, .int p] => o = 44 ∧ LayM h ∧ Q (some (.int (b2i (0 ≤ p ∧ p ≤ hI h 64 0 - 1)))) h
  | _ => False
def L_X12_isHelper : List UInt8 := [27, 3, 42, 180, 0, 68, 3, 46, 4, 100, 184, 0, 165, 172]
theorem Lc_X12_isHelper : MX12_isHelper.2.1 = ⟨L_X12_isHelper.toArray⟩ := rfl
theorem D_X12_isHelper_0 : dseq MX12_isHelper.2.1 0 [(.iload_n 1, 1), (.iconst 0, 1), (.aload_n 0, 1), (.getfield 68, 3), (.iconst 0, 1), (.iaload, 1), (.iconst 1, 1), (.isub, 1), (.invokestatic 165, 3), (.ireturn, 1)] := dq Lc_X12_isHelper 0 _ (by decide +kernel)
def b_X12_isHelper_0 (Q : Option Value → Hp → Prop) : Kt := i_ild 1 (i_push (.int 0) (i_ald 0 (i_getR 12 21 (i_push (.int 0) (i_iald (i_push (.int 1) (i_bin (fun x y => x - y) (i_callS 3 T_X12_in (i_zret Q)))))))))
set_option maxRecDepth 100000 in
theorem s_X12_isHelper_0 (Q : Option Value → Hp → Prop) : ∀ A st h, b_X12_isHelper_0 Q A st h → wp 1 MX12_isHelper Q 0 A st h := (q1 (s_ildn (n := 1) (i := 1) rfl) D_X12_isHelper_0 fun D => (q1 (s_iconst (n := 0) (v := 0) (by decide)) D fun D => (q1 (s_aldn (n := 0) (i := 0) rfl) D fun D => (qC fl_X12_68 rfl D fun D => (q1 (s_iconst (n := 0) (v := 0) (by decide)) D fun D => (q1 s_iald D fun D => (q1 (s_iconst (n := 1) (v := 1) (by decide)) D fun D => (q1 s_sub D fun D => (qX (s_callS ok_X12_in mo_X12_in (ch_5_13_ok.2.2.2.2.2.2.2.2.1.1 rfl) (ch_5_13_ok.2.2.2.2.2.2.2.2.2.1.1 rfl)) rfl (by decide) D fun D => (qZ rfl D))))))))))

set_option maxRecDepth 100000 in
set_option maxHeartbeats 4000000 in
theorem ok_X12_isHelper : ctr 1 MX12_isHelper T_X12_isHelper := by
  refine ctr_of pn_X12 wc_X12_isHelper (fun av h Q hT => ?_)
  unfold T_X12_isHelper at hT
  split at hT
  · rename_i o p
    refine ⟨⟨by simp [Value.category], Nat.le_of_ble_eq_true rfl⟩, s_X12_isHelper_0 Q _ _ _ ?_⟩
    obtain ⟨rfl, hl, hq⟩ := hT
    simp only [MX12_isHelper, b_X12_isHelper_0, hl, lay_pI, lay_wI, lay_pJ, lm_t hl, lm_k hl, lm_r hl, lm_l hl, i_push, i_ild, i_ald, i_ist, i_ast, i_inc, i_bin, i_un, i_divs, i_i2l, i_lshl, i_lor, i_dup, i_dup2, i_pop, i_if, i_cmp, i_nul, i_vret, i_iret, i_zret, i_aret, i_keep, keep, lget, lset, ent, i_getI, i_getJ, i_getR, i_getN, i_putI, i_putZ, i_putJ, i_putR, i_iald, i_bald, i_alen, i_aald, i_iast, i_bast, i_aast, i_new, i_newa, i_anew, i_oini, i_callS, i_callV, i_callI, popn, sh4, i_sw, swP, i_copy, i_binS, List.map, Option.toList_none, Option.toList_some, List.append, List.nil_append, List.cons_append, List.length_cons, List.length_nil, List.replicate, Nat.sub_self, Nat.reduceSub, Nat.reduceAdd, hK_pI, hL_pI, hI_pI, hR_pI, hJ_pI, hT_pI, hS_pI, hK_pR, hL_pR, hI_pR, hR_pR, hJ_pR, hT_pR, hS_pR, hK_pJ, hL_pJ, hI_pJ, hR_pJ, hJ_pJ, hT_pJ, hS_pJ, hK_wI, hL_wI, hI_wI, hR_wI, hJ_wI, hT_wI, hS_wI, eq_self, and_true, true_and, and_false, false_and, or_true, true_or, or_false, false_or, if_true, if_false, not_true_eq_false, not_false_eq_true, forall_const, implies_true, false_implies, true_implies, Option.some.injEq, forall_eq', exists_eq_left', reduceCtorEq, Nat.reduceEqDiff, c1, T_X12_in, T_X12_ones, T_X11_within, T_X11_bit, T_X11_isIn, T_X11_oneIfIn, T_J6_bitCount_0f7a4, in0 4 (by decide) (by decide), cl0]
    exact ⟨b2i_01 _, hq⟩
  · exact hT.elim
