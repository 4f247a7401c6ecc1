/-! ===== length and charAt of a String constant ===== -/
def T_J0_coder_7d493 : Tr := fun av h Q => match av with
  | [.retAddr i] => i < 16 ∧ Q (some (.int 0)) h
  | _ => False
def L_J0_coder_7d493 : List UInt8 := [178, 0, 38, 153, 0, 10, 42, 180, 0, 15, 167, 0, 4, 4, 172]
theorem Lc_J0_coder_7d493 : MJ0_coder_7d493.2.1 = ⟨L_J0_coder_7d493.toArray⟩ := rfl
theorem D_J0_coder_7d493_0 : dseq MJ0_coder_7d493.2.1 0 [(.getstatic 38, 3), (.ifCond .eq 10, 3), (.aload_n 0, 1), (.getfield 15, 3), (.goto 4, 3)] := dq Lc_J0_coder_7d493 0 _ (by decide +kernel)
theorem D_J0_coder_7d493_13 : dseq MJ0_coder_7d493.2.1 13 [(.iconst 1, 1), (.ireturn, 1)] := dq Lc_J0_coder_7d493 13 _ (by decide +kernel)
theorem D_J0_coder_7d493_14 : dseq MJ0_coder_7d493.2.1 14 [(.ireturn, 1)] := dq Lc_J0_coder_7d493 14 _ (by decide +kernel)
def b_J0_coder_7d493_0 (Q : Option Value → Hp → Prop) : Kt := i_push (.int 1) (i_if (fun x => x = 0) (i_push (.int 1) (i_tret .byte Q)) (i_ald 0 (i_scod (i_tret .byte Q))))
set_option maxRecDepth 100000 in
theorem s_J0_coder_7d493_0 (Q : Option Value → Hp → Prop) : ∀ A st h, b_J0_coder_7d493_0 Q A st h → wp 0 MJ0_coder_7d493 Q 0 A st h := (qC (s_gcs (ch_2_11_ok.2.1.1 rfl)) rfl D_J0_coder_7d493_0 fun D => (qB s_ifeq 13 (by decide) D (q1 (s_iconst (n := 1) (v := 1) (by decide)) D_J0_coder_7d493_13 fun D => (qT rfl D)) fun D => (q1 (s_aldn (n := 0) (i := 0) rfl) D fun D => (qC (s_scod (ch_6_12_ok.2.2.2.2.2.2.2.2.2.2.2.1.1 rfl)) rfl D fun D => (qG 14 (by decide) D (qT rfl D_J0_coder_7d493_14))))))

set_option maxRecDepth 100000 in
set_option maxHeartbeats 4000000 in
theorem ok_J0_coder_7d493 : ctr 0 MJ0_coder_7d493 T_J0_coder_7d493 := by
  refine ctr_of pn_J0 wc_J0_coder_7d493 (fun av h Q hT => ?_)
  unfold T_J0_coder_7d493 at hT
  split at hT
  · rename_i i
    refine ⟨⟨by simp [Value.category], Nat.le_of_ble_eq_true rfl⟩, s_J0_coder_7d493_0 Q _ _ _ ?_⟩
    simp only [MJ0_coder_7d493, b_J0_coder_7d493_0, i_push, i_ild, i_ald, i_ist, i_ast, i_inc, i_bin, i_un, i_divs, i_i2l, i_lshl, i_lor, i_dup, i_dup2, i_pop, i_if, i_cmp, i_nul, i_vret, i_iret, i_zret, i_aret, i_keep, keep, lget, lset, ent, i_getI, i_getJ, i_getR, i_getN, i_putI, i_putZ, i_putJ, i_putR, i_iald, i_bald, i_alen, i_aald, i_iast, i_bast, i_aast, i_new, i_newa, i_anew, i_oini, i_callS, i_callV, i_callI, popn, sh4, i_sw, swP, i_copy, i_binS, List.map, Option.toList_none, Option.toList_some, List.append, List.nil_append, List.cons_append, List.length_cons, List.length_nil, List.replicate, Nat.sub_self, Nat.reduceSub, Nat.reduceAdd, hK_pI, hL_pI, hI_pI, hR_pI, hJ_pI, hT_pI, hS_pI, hK_pR, hL_pR, hI_pR, hR_pR, hJ_pR, hT_pR, hS_pR, hK_pJ, hL_pJ, hI_pJ, hR_pJ, hJ_pJ, hT_pJ, hS_pJ, hK_wI, hL_wI, hI_wI, hR_wI, hJ_wI, hT_wI, hS_wI, eq_self, and_true, true_and, and_false, false_and, or_true, true_or, or_false, false_or, if_true, if_false, not_true_eq_false, not_false_eq_true, forall_const, implies_true, false_implies, true_implies, Option.some.injEq, forall_eq', exists_eq_left', reduceCtorEq, Nat.reduceEqDiff, c1, T_X12_in, T_X12_ones, T_X11_within, T_X11_bit, T_X11_isIn, T_X11_oneIfIn, T_J6_bitCount_0f7a4, i_sval, i_scod, i_slen, i_sbald, i_tret, i_callW, i_no, show ¬ (1 : Int32) = 0 by decide]
    exact ⟨hT.1, rfl, hT.2⟩
  · exact hT.elim
def T_J0_isLatin1_aae02 : Tr := fun av h Q => match av with
  | [.retAddr i] => i < 16 ∧ Q (some (.int 1)) h
  | _ => False
def L_J0_isLatin1_aae02 : List UInt8 := [178, 0, 38, 153, 0, 14, 42, 180, 0, 15, 154, 0, 7, 4, 167, 0, 4, 3, 172]
theorem Lc_J0_isLatin1_aae02 : MJ0_isLatin1_aae02.2.1 = ⟨L_J0_isLatin1_aae02.toArray⟩ := rfl
theorem D_J0_isLatin1_aae02_0 : dseq MJ0_isLatin1_aae02.2.1 0 [(.getstatic 38, 3), (.ifCond .eq 14, 3), (.aload_n 0, 1), (.getfield 15, 3), (.ifCond .ne 7, 3), (.iconst 1, 1), (.goto 4, 3)] := dq Lc_J0_isLatin1_aae02 0 _ (by decide +kernel)
theorem D_J0_isLatin1_aae02_17 : dseq MJ0_isLatin1_aae02.2.1 17 [(.iconst 0, 1), (.ireturn, 1)] := dq Lc_J0_isLatin1_aae02 17 _ (by decide +kernel)
theorem D_J0_isLatin1_aae02_18 : dseq MJ0_isLatin1_aae02.2.1 18 [(.ireturn, 1)] := dq Lc_J0_isLatin1_aae02 18 _ (by decide +kernel)
def b_J0_isLatin1_aae02_0 (Q : Option Value → Hp → Prop) : Kt := i_push (.int 1) (i_if (fun x => x = 0) (i_push (.int 0) (i_zret Q)) (i_ald 0 (i_scod (i_if (fun x => x = 0) (i_push (.int 1) (i_zret Q)) (i_push (.int 0) (i_zret Q))))))
set_option maxRecDepth 100000 in
theorem s_J0_isLatin1_aae02_0 (Q : Option Value → Hp → Prop) : ∀ A st h, b_J0_isLatin1_aae02_0 Q A st h → wp 0 MJ0_isLatin1_aae02 Q 0 A st h := (qC (s_gcs (ch_2_11_ok.2.1.1 rfl)) rfl D_J0_isLatin1_aae02_0 fun D => (qB s_ifeq 17 (by decide) D (q1 (s_iconst (n := 0) (v := 0) (by decide)) D_J0_isLatin1_aae02_17 fun D => (qZ rfl D)) fun D => (q1 (s_aldn (n := 0) (i := 0) rfl) D fun D => (qC (s_scod (ch_6_12_ok.2.2.2.2.2.2.2.2.2.2.2.1.1 rfl)) rfl D fun D => (qBn s_ifne2 17 (by decide) D (q1 (s_iconst (n := 0) (v := 0) (by decide)) D_J0_isLatin1_aae02_17 fun D => (qZ rfl D)) fun D => (q1 (s_iconst (n := 1) (v := 1) (by decide)) D fun D => (qG 18 (by decide) D (qZ rfl D_J0_isLatin1_aae02_18))))))))

set_option maxRecDepth 100000 in
set_option maxHeartbeats 4000000 in
theorem ok_J0_isLatin1_aae02 : ctr 0 MJ0_isLatin1_aae02 T_J0_isLatin1_aae02 := by
  refine ctr_of pn_J0 wc_J0_isLatin1_aae02 (fun av h Q hT => ?_)
  unfold T_J0_isLatin1_aae02 at hT
  split at hT
  · rename_i i
    refine ⟨⟨by simp [Value.category], Nat.le_of_ble_eq_true rfl⟩, s_J0_isLatin1_aae02_0 Q _ _ _ ?_⟩
    simp only [MJ0_isLatin1_aae02, b_J0_isLatin1_aae02_0, i_push, i_ild, i_ald, i_ist, i_ast, i_inc, i_bin, i_un, i_divs, i_i2l, i_lshl, i_lor, i_dup, i_dup2, i_pop, i_if, i_cmp, i_nul, i_vret, i_iret, i_zret, i_aret, i_keep, keep, lget, lset, ent, i_getI, i_getJ, i_getR, i_getN, i_putI, i_putZ, i_putJ, i_putR, i_iald, i_bald, i_alen, i_aald, i_iast, i_bast, i_aast, i_new, i_newa, i_anew, i_oini, i_callS, i_callV, i_callI, popn, sh4, i_sw, swP, i_copy, i_binS, List.map, Option.toList_none, Option.toList_some, List.append, List.nil_append, List.cons_append, List.length_cons, List.length_nil, List.replicate, Nat.sub_self, Nat.reduceSub, Nat.reduceAdd, hK_pI, hL_pI, hI_pI, hR_pI, hJ_pI, hT_pI, hS_pI, hK_pR, hL_pR, hI_pR, hR_pR, hJ_pR, hT_pR, hS_pR, hK_pJ, hL_pJ, hI_pJ, hR_pJ, hJ_pJ, hT_pJ, hS_pJ, hK_wI, hL_wI, hI_wI, hR_wI, hJ_wI, hT_wI, hS_wI, eq_self, and_true, true_and, and_false, false_and, or_true, true_or, or_false, false_or, if_true, if_false, not_true_eq_false, not_false_eq_true, forall_const, implies_true, false_implies, true_implies, Option.some.injEq, forall_eq', exists_eq_left', reduceCtorEq, Nat.reduceEqDiff, c1, T_X12_in, T_X12_ones, T_X11_within, T_X11_bit, T_X11_isIn, T_X11_oneIfIn, T_J6_bitCount_0f7a4, i_sval, i_scod, i_slen, i_sbald, i_tret, i_callW, i_no, show ¬ (1 : Int32) = 0 by decide]
    exact ⟨hT.1, hT.2⟩
  · exact hT.elim
def T_J0_length_8abf5 : Tr := fun av h Q => match av with
  | [.retAddr i] => i < 16 ∧ Q (some (.int (nI (sLen.getD i 0)))) h
  | _ => False
theorem sLen_6 : ∀ i, i < 16 → sLen.getD i 0 ≤ 6 := by decide +kernel
theorem nI_sh0 : ∀ k, k ≤ 6 → nI k >>> ((0 : Int32) &&& 31) = nI k := by decide +kernel
def L_J0_length_8abf5 : List UInt8 := [42, 180, 0, 9, 190, 42, 182, 1, 79, 122, 172]
theorem Lc_J0_length_8abf5 : MJ0_length_8abf5.2.1 = ⟨L_J0_length_8abf5.toArray⟩ := rfl
theorem D_J0_length_8abf5_0 : dseq MJ0_length_8abf5.2.1 0 [(.aload_n 0, 1), (.getfield 9, 3), (.arraylength, 1), (.aload_n 0, 1), (.invokevirtual 335, 3), (.ishr, 1), (.ireturn, 1)] := dq Lc_J0_length_8abf5 0 _ (by decide +kernel)
def b_J0_length_8abf5_0 (Q : Option Value → Hp → Prop) : Kt := i_ald 0 (i_sval (i_slen (i_ald 0 (i_callW 0 T_J0_coder_7d493 (i_bin (fun x y => x >>> (y &&& 31)) (i_iret Q))))))
set_option maxRecDepth 100000 in
theorem s_J0_length_8abf5_0 (Q : Option Value → Hp → Prop) : ∀ A st h, b_J0_length_8abf5_0 Q A st h → wp 1 MJ0_length_8abf5 Q 0 A st h := (q1 (s_aldn (n := 0) (i := 0) rfl) D_J0_length_8abf5_0 fun D => (qC (s_sval (ch_6_12_ok.2.2.2.2.2.2.2.2.2.2.1.1 rfl)) rfl D fun D => (q1 s_slen D fun D => (q1 (s_aldn (n := 0) (i := 0) rfl) D fun D => (qX (s_callW ok_J0_coder_7d493 mo_J0_coder_7d493 rfl (ch_2_10_ok.2.2.2.2.2.2.2.2.2.2.2.2.2.1.1 rfl) (ch_2_10_ok.2.2.2.2.2.2.2.2.2.2.2.2.2.2.1.1 rfl) (ch_2_10_ok.2.2.2.2.2.2.2.2.2.2.2.2.2.2.2.1.1 rfl)) rfl (by decide) D fun D => (q1 s_shr D fun D => (qI rfl D)))))))

set_option maxRecDepth 100000 in
set_option maxHeartbeats 4000000 in
theorem ok_J0_length_8abf5 : ctr 1 MJ0_length_8abf5 T_J0_length_8abf5 := by
  refine ctr_of pn_J0 wc_J0_length_8abf5 (fun av h Q hT => ?_)
  unfold T_J0_length_8abf5 at hT
  split at hT
  · rename_i i
    refine ⟨⟨by simp [Value.category], Nat.le_of_ble_eq_true rfl⟩, s_J0_length_8abf5_0 Q _ _ _ ?_⟩
    obtain ⟨hi, hq⟩ := hT
    have e : nI (sLen.getD (16 + i - 16) 0) >>> ((0 : Int32) &&& 31) = nI (sLen.getD i 0) := by
      rw [show 16 + i - 16 = i by omega]
      exact nI_sh0 _ (sLen_6 i hi)
    have e1 : 16 ≤ 16 + i := by omega
    have e2 : 16 + i < 32 := by omega
    simp only [MJ0_length_8abf5, b_J0_length_8abf5_0, T_J0_coder_7d493, i_push, i_ild, i_ald, i_ist, i_ast, i_inc, i_bin, i_un, i_divs, i_i2l, i_lshl, i_lor, i_dup, i_dup2, i_pop, i_if, i_cmp, i_nul, i_vret, i_iret, i_zret, i_aret, i_keep, keep, lget, lset, ent, i_getI, i_getJ, i_getR, i_getN, i_putI, i_putZ, i_putJ, i_putR, i_iald, i_bald, i_alen, i_aald, i_iast, i_bast, i_aast, i_new, i_newa, i_anew, i_oini, i_callS, i_callV, i_callI, popn, sh4, i_sw, swP, i_copy, i_binS, List.map, Option.toList_none, Option.toList_some, List.append, List.nil_append, List.cons_append, List.length_cons, List.length_nil, List.replicate, Nat.sub_self, Nat.reduceSub, Nat.reduceAdd, hK_pI, hL_pI, hI_pI, hR_pI, hJ_pI, hT_pI, hS_pI, hK_pR, hL_pR, hI_pR, hR_pR, hJ_pR, hT_pR, hS_pR, hK_pJ, hL_pJ, hI_pJ, hR_pJ, hJ_pJ, hT_pJ, hS_pJ, hK_wI, hL_wI, hI_wI, hR_wI, hJ_wI, hT_wI, hS_wI, eq_self, and_true, true_and, and_false, false_and, or_true, true_or, or_false, false_or, if_true, if_false, not_true_eq_false, not_false_eq_true, forall_const, implies_true, false_implies, true_implies, Option.some.injEq, forall_eq', exists_eq_left', reduceCtorEq, Nat.reduceEqDiff, c1, T_X12_in, T_X12_ones, T_X11_within, T_X11_bit, T_X11_isIn, T_X11_oneIfIn, T_J6_bitCount_0f7a4, i_sval, i_scod, i_slen, i_sbald, i_tret, i_callW, i_no, hi, e, e1, e2]
    exact hq
  · exact hT.elim
def T_J3_checkIndex_8e157 : Tr := fun av h Q => match av with
  | [.int i, .int n, .null] => 0 ≤ i ∧ i < n ∧ Q (some (.int i)) h
  | [.int i, .int n, .retAddr k] => k = 32 ∧ 0 ≤ i ∧ i < n ∧ Q (some (.int i)) h
  | _ => False
def L_J3_checkIndex_8e157 : List UInt8 := [26, 155, 0, 8, 26, 27, 161, 0, 10, 44, 26, 27, 184, 0, 95, 191, 26, 172]
theorem Lc_J3_checkIndex_8e157 : MJ3_checkIndex_8e157.2.1 = ⟨L_J3_checkIndex_8e157.toArray⟩ := rfl
theorem D_J3_checkIndex_8e157_0 : dseq MJ3_checkIndex_8e157.2.1 0 [(.iload_n 0, 1), (.ifCond .lt 8, 3), (.iload_n 0, 1), (.iload_n 1, 1), (.if_icmp .lt 10, 3)] := dq Lc_J3_checkIndex_8e157 0 _ (by decide +kernel)
theorem D_J3_checkIndex_8e157_16 : dseq MJ3_checkIndex_8e157.2.1 16 [(.iload_n 0, 1), (.ireturn, 1)] := dq Lc_J3_checkIndex_8e157 16 _ (by decide +kernel)
def b_J3_checkIndex_8e157_0 (Q : Option Value → Hp → Prop) : Kt := i_ild 0 (i_if (fun x => x < 0) (i_no) (i_ild 0 (i_ild 1 (i_cmp (fun x y => x < y) (i_ild 0 (i_iret Q)) (i_no)))))
set_option maxRecDepth 100000 in
theorem s_J3_checkIndex_8e157_0 (Q : Option Value → Hp → Prop) : ∀ A st h, b_J3_checkIndex_8e157_0 Q A st h → wp 0 MJ3_checkIndex_8e157 Q 0 A st h := (q1 (s_ildn (n := 0) (i := 0) rfl) D_J3_checkIndex_8e157_0 fun D => (qB s_iflt 9 (by decide) D (fun _ _ _ h => h.elim) fun D => (q1 (s_ildn (n := 0) (i := 0) rfl) D fun D => (q1 (s_ildn (n := 1) (i := 1) rfl) D fun D => (qB s_cmplt 16 (by decide) D (q1 (s_ildn (n := 0) (i := 0) rfl) D_J3_checkIndex_8e157_16 fun D => (qI rfl D)) fun D => (fun _ _ _ h => h.elim))))))

set_option maxRecDepth 100000 in
theorem ok_J3_checkIndex_8e157 : ctr 0 MJ3_checkIndex_8e157 T_J3_checkIndex_8e157 := by
  refine ctr_of pn_J3 wc_J3_checkIndex_8e157 (fun av h Q hT => ?_)
  unfold T_J3_checkIndex_8e157 at hT
  split at hT
  · rename_i i n
    obtain ⟨h1, h2, h3⟩ := hT
    refine ⟨⟨by simp [Value.category], Nat.le_of_ble_eq_true rfl⟩, s_J3_checkIndex_8e157_0 Q _ _ _ ?_⟩
    simp only [MJ3_checkIndex_8e157, b_J3_checkIndex_8e157_0, i_push, i_ild, i_ald, i_ist, i_ast, i_inc, i_bin, i_un, i_divs, i_i2l, i_lshl, i_lor, i_dup, i_dup2, i_pop, i_if, i_cmp, i_nul, i_vret, i_iret, i_zret, i_aret, i_keep, keep, lget, lset, ent, i_getI, i_getJ, i_getR, i_getN, i_putI, i_putZ, i_putJ, i_putR, i_iald, i_bald, i_alen, i_aald, i_iast, i_bast, i_aast, i_new, i_newa, i_anew, i_oini, i_callS, i_callV, i_callI, popn, sh4, i_sw, swP, i_copy, i_binS, List.map, Option.toList_none, Option.toList_some, List.append, List.nil_append, List.cons_append, List.length_cons, List.length_nil, List.replicate, Nat.sub_self, Nat.reduceSub, Nat.reduceAdd, hK_pI, hL_pI, hI_pI, hR_pI, hJ_pI, hT_pI, hS_pI, hK_pR, hL_pR, hI_pR, hR_pR, hJ_pR, hT_pR, hS_pR, hK_pJ, hL_pJ, hI_pJ, hR_pJ, hJ_pJ, hT_pJ, hS_pJ, hK_wI, hL_wI, hI_wI, hR_wI, hJ_wI, hT_wI, hS_wI, eq_self, and_true, true_and, and_false, false_and, or_true, true_or, or_false, false_or, if_true, if_false, not_true_eq_false, not_false_eq_true, forall_const, implies_true, false_implies, true_implies, Option.some.injEq, forall_eq', exists_eq_left', reduceCtorEq, Nat.reduceEqDiff, c1, T_X12_in, T_X12_ones, T_X11_within, T_X11_bit, T_X11_isIn, T_X11_oneIfIn, T_J6_bitCount_0f7a4, i_sval, i_scod, i_slen, i_sbald, i_tret, i_callW, i_no]
    exact ⟨fun z => absurd z (Int32.not_lt.mpr h1), fun _ => ⟨fun _ => h3, fun z => absurd h2 z⟩⟩
  · rename_i i n k
    obtain ⟨h0, h1, h2, h3⟩ := hT
    refine ⟨⟨by simp [Value.category], Nat.le_of_ble_eq_true rfl⟩, s_J3_checkIndex_8e157_0 Q _ _ _ ?_⟩
    simp only [MJ3_checkIndex_8e157, b_J3_checkIndex_8e157_0, i_push, i_ild, i_ald, i_ist, i_ast, i_inc, i_bin, i_un, i_divs, i_i2l, i_lshl, i_lor, i_dup, i_dup2, i_pop, i_if, i_cmp, i_nul, i_vret, i_iret, i_zret, i_aret, i_keep, keep, lget, lset, ent, i_getI, i_getJ, i_getR, i_getN, i_putI, i_putZ, i_putJ, i_putR, i_iald, i_bald, i_alen, i_aald, i_iast, i_bast, i_aast, i_new, i_newa, i_anew, i_oini, i_callS, i_callV, i_callI, popn, sh4, i_sw, swP, i_copy, i_binS, List.map, Option.toList_none, Option.toList_some, List.append, List.nil_append, List.cons_append, List.length_cons, List.length_nil, List.replicate, Nat.sub_self, Nat.reduceSub, Nat.reduceAdd, hK_pI, hL_pI, hI_pI, hR_pI, hJ_pI, hT_pI, hS_pI, hK_pR, hL_pR, hI_pR, hR_pR, hJ_pR, hT_pR, hS_pR, hK_pJ, hL_pJ, hI_pJ, hR_pJ, hJ_pJ, hT_pJ, hS_pJ, hK_wI, hL_wI, hI_wI, hR_wI, hJ_wI, hT_wI, hS_wI, eq_self, and_true, true_and, and_false, false_and, or_true, true_or, or_false, false_or, if_true, if_false, not_true_eq_false, not_false_eq_true, forall_const, implies_true, false_implies, true_implies, Option.some.injEq, forall_eq', exists_eq_left', reduceCtorEq, Nat.reduceEqDiff, c1, T_X12_in, T_X12_ones, T_X11_within, T_X11_bit, T_X11_isIn, T_X11_oneIfIn, T_J6_bitCount_0f7a4, i_sval, i_scod, i_slen, i_sbald, i_tret, i_callW, i_no]
    exact ⟨fun z => absurd z (Int32.not_lt.mpr h1), fun _ => ⟨fun _ => h3, fun z => absurd h2 z⟩⟩
  · exact hT.elim
def T_J0_checkIndex_df160 : Tr := fun av h Q => match av with
  | [.int i, .int n] => 0 ≤ i ∧ i < n ∧ Q none h
  | _ => False
def L_J0_checkIndex_df160 : List UInt8 := [26, 27, 178, 4, 29, 184, 4, 35, 87, 177]
theorem Lc_J0_checkIndex_df160 : MJ0_checkIndex_df160.2.1 = ⟨L_J0_checkIndex_df160.toArray⟩ := rfl
theorem D_J0_checkIndex_df160_0 : dseq MJ0_checkIndex_df160.2.1 0 [(.iload_n 0, 1), (.iload_n 1, 1), (.getstatic 1053, 3), (.invokestatic 1059, 3), (.pop, 1), (.return_, 1)] := dq Lc_J0_checkIndex_df160 0 _ (by decide +kernel)
theorem s_J0_checkIndex_df160_5 (Q : Option Value → Hp → Prop) : ∀ A st h, i_callS 3 T_J3_checkIndex_8e157 (i_pop (i_vret Q)) A st h → wp 1 MJ0_checkIndex_df160 Q 5 A st h := (qX (s_callS ok_J3_checkIndex_8e157 mo_J3_checkIndex_8e157 (ch_2_12_ok.2.2.2.1.1 rfl) (ch_2_12_ok.2.2.2.2.1.1 rfl)) rfl (by decide) D_J0_checkIndex_df160_0.2.2.2 fun D => (q1 s_pop D fun D => (qV rfl D)))
set_option maxRecDepth 100000 in
theorem s_J0_checkIndex_df160_2 (Q : Option Value → Hp → Prop) (A : Lc) (h : Hp) (i n : Int32) (h1 : 0 ≤ i) (h2 : i < n) (hq : Q none h) : wp 1 MJ0_checkIndex_df160 Q 2 A [.int n, .int i] h := by
  refine ⟨none, h, hq, Runs.gsq (own := RJ0) (ch_2_12_ok.2.1.1 rfl) rfl D_J0_checkIndex_df160_0.2.2.1 ?_ ?_⟩
  · obtain ⟨r, h', ⟨rfl, rfl⟩, hR⟩ := s_J0_checkIndex_df160_5 (fun r h' => r = none ∧ h' = h) A [.null, .int n, .int i] h (by
      simp only [T_J3_checkIndex_8e157, i_push, i_ild, i_ald, i_ist, i_ast, i_inc, i_bin, i_un, i_divs, i_i2l, i_lshl, i_lor, i_dup, i_dup2, i_pop, i_if, i_cmp, i_nul, i_vret, i_iret, i_zret, i_aret, i_keep, keep, lget, lset, ent, i_getI, i_getJ, i_getR, i_getN, i_putI, i_putZ, i_putJ, i_putR, i_iald, i_bald, i_alen, i_aald, i_iast, i_bast, i_aast, i_new, i_newa, i_anew, i_oini, i_callS, i_callV, i_callI, popn, sh4, i_sw, swP, i_copy, i_binS, List.map, Option.toList_none, Option.toList_some, List.append, List.nil_append, List.cons_append, List.length_cons, List.length_nil, List.replicate, Nat.sub_self, Nat.reduceSub, Nat.reduceAdd, hK_pI, hL_pI, hI_pI, hR_pI, hJ_pI, hT_pI, hS_pI, hK_pR, hL_pR, hI_pR, hR_pR, hJ_pR, hT_pR, hS_pR, hK_pJ, hL_pJ, hI_pJ, hR_pJ, hJ_pJ, hT_pJ, hS_pJ, hK_wI, hL_wI, hI_wI, hR_wI, hJ_wI, hT_wI, hS_wI, eq_self, and_true, true_and, and_false, false_and, or_true, true_or, or_false, false_or, if_true, if_false, not_true_eq_false, not_false_eq_true, forall_const, implies_true, false_implies, true_implies, Option.some.injEq, forall_eq', exists_eq_left', reduceCtorEq, Nat.reduceEqDiff, c1, T_X12_in, T_X12_ones, T_X11_within, T_X11_bit, T_X11_isIn, T_X11_oneIfIn, T_J6_bitCount_0f7a4, i_sval, i_scod, i_slen, i_sbald, i_tret, i_callW, i_no, h1, h2])
    exact hR
  · obtain ⟨r, h', ⟨rfl, rfl⟩, hR⟩ := s_J0_checkIndex_df160_5 (fun r h' => r = none ∧ h' = h) A [.retAddr 32, .int n, .int i] h (by
      simp only [T_J3_checkIndex_8e157, i_push, i_ild, i_ald, i_ist, i_ast, i_inc, i_bin, i_un, i_divs, i_i2l, i_lshl, i_lor, i_dup, i_dup2, i_pop, i_if, i_cmp, i_nul, i_vret, i_iret, i_zret, i_aret, i_keep, keep, lget, lset, ent, i_getI, i_getJ, i_getR, i_getN, i_putI, i_putZ, i_putJ, i_putR, i_iald, i_bald, i_alen, i_aald, i_iast, i_bast, i_aast, i_new, i_newa, i_anew, i_oini, i_callS, i_callV, i_callI, popn, sh4, i_sw, swP, i_copy, i_binS, List.map, Option.toList_none, Option.toList_some, List.append, List.nil_append, List.cons_append, List.length_cons, List.length_nil, List.replicate, Nat.sub_self, Nat.reduceSub, Nat.reduceAdd, hK_pI, hL_pI, hI_pI, hR_pI, hJ_pI, hT_pI, hS_pI, hK_pR, hL_pR, hI_pR, hR_pR, hJ_pR, hT_pR, hS_pR, hK_pJ, hL_pJ, hI_pJ, hR_pJ, hJ_pJ, hT_pJ, hS_pJ, hK_wI, hL_wI, hI_wI, hR_wI, hJ_wI, hT_wI, hS_wI, eq_self, and_true, true_and, and_false, false_and, or_true, true_or, or_false, false_or, if_true, if_false, not_true_eq_false, not_false_eq_true, forall_const, implies_true, false_implies, true_implies, Option.some.injEq, forall_eq', exists_eq_left', reduceCtorEq, Nat.reduceEqDiff, c1, T_X12_in, T_X12_ones, T_X11_within, T_X11_bit, T_X11_isIn, T_X11_oneIfIn, T_J6_bitCount_0f7a4, i_sval, i_scod, i_slen, i_sbald, i_tret, i_callW, i_no, h1, h2])
    exact hR
set_option maxRecDepth 100000 in
theorem ok_J0_checkIndex_df160 : ctr 1 MJ0_checkIndex_df160 T_J0_checkIndex_df160 := by
  refine ctr_of pn_J0 wc_J0_checkIndex_df160 (fun av h Q hT => ?_)
  unfold T_J0_checkIndex_df160 at hT
  split at hT
  · rename_i i n
    obtain ⟨h1, h2, h3⟩ := hT
    refine ⟨⟨by simp [Value.category], Nat.le_of_ble_eq_true rfl⟩, ?_⟩
    refine (q1 (s_ildn (n := 0) (i := 0) rfl) D_J0_checkIndex_df160_0 fun D => (q1 (s_ildn (n := 1) (i := 1) rfl) D fun D A st h2 (hk : (∃ i n, st = [.int n, .int i] ∧ 0 ≤ i ∧ i < n) ∧ Q none h2) => ?_)) _ _ _ ?_
    · obtain ⟨⟨i, n, rfl, a, b⟩, c⟩ := hk
      exact s_J0_checkIndex_df160_2 Q A h2 i n a b c
    · simp only [MJ0_checkIndex_df160, i_push, i_ild, i_ald, i_ist, i_ast, i_inc, i_bin, i_un, i_divs, i_i2l, i_lshl, i_lor, i_dup, i_dup2, i_pop, i_if, i_cmp, i_nul, i_vret, i_iret, i_zret, i_aret, i_keep, keep, lget, lset, ent, i_getI, i_getJ, i_getR, i_getN, i_putI, i_putZ, i_putJ, i_putR, i_iald, i_bald, i_alen, i_aald, i_iast, i_bast, i_aast, i_new, i_newa, i_anew, i_oini, i_callS, i_callV, i_callI, popn, sh4, i_sw, swP, i_copy, i_binS, List.map, Option.toList_none, Option.toList_some, List.append, List.nil_append, List.cons_append, List.length_cons, List.length_nil, List.replicate, Nat.sub_self, Nat.reduceSub, Nat.reduceAdd, hK_pI, hL_pI, hI_pI, hR_pI, hJ_pI, hT_pI, hS_pI, hK_pR, hL_pR, hI_pR, hR_pR, hJ_pR, hT_pR, hS_pR, hK_pJ, hL_pJ, hI_pJ, hR_pJ, hJ_pJ, hT_pJ, hS_pJ, hK_wI, hL_wI, hI_wI, hR_wI, hJ_wI, hT_wI, hS_wI, eq_self, and_true, true_and, and_false, false_and, or_true, true_or, or_false, false_or, if_true, if_false, not_true_eq_false, not_false_eq_true, forall_const, implies_true, false_implies, true_implies, Option.some.injEq, forall_eq', exists_eq_left', reduceCtorEq, Nat.reduceEqDiff, c1, T_X12_in, T_X12_ones, T_X11_within, T_X11_bit, T_X11_isIn, T_X11_oneIfIn, T_J6_bitCount_0f7a4, i_sval, i_scod, i_slen, i_sbald, i_tret, i_callW, i_no]
      exact ⟨⟨i, n, rfl, h1, h2⟩, h3⟩
  · exact hT.elim
def T_J1_charAt_3b067 : Tr := fun av h Q => match av with
  | [.retAddr k, .int j] => ∃ i x, k = 16 + i ∧ i < 16 ∧ j = nI x ∧ x < sLen.getD i 0 ∧ Q (some (.int ((sByt.getD i []).getD x 0))) h
  | _ => False
theorem sByt_c : ∀ i, i < 16 → ∀ x, x < 6 → ((((sByt.getD i []).getD x 0) &&& 255).toUInt32 % 65536).toInt32 = (sByt.getD i []).getD x 0 ∧ narrow .char (.int ((sByt.getD i []).getD x 0)) = .int ((sByt.getD i []).getD x 0) := by decide +kernel
def L_J1_charAt_3b067 : List UInt8 := [27, 42, 190, 184, 0, 9, 42, 27, 51, 17, 0, 255, 126, 146, 172]
theorem Lc_J1_charAt_3b067 : MJ1_charAt_3b067.2.1 = ⟨L_J1_charAt_3b067.toArray⟩ := rfl
theorem D_J1_charAt_3b067_0 : dseq MJ1_charAt_3b067.2.1 0 [(.iload_n 1, 1), (.aload_n 0, 1), (.arraylength, 1), (.invokestatic 9, 3), (.aload_n 0, 1), (.iload_n 1, 1), (.baload, 1), (.sipush 255, 3), (.iand, 1), (.i2c, 1), (.ireturn, 1)] := dq Lc_J1_charAt_3b067 0 _ (by decide +kernel)
def c_J1_charAt_3b067_6 (Q : Option Value → Hp → Prop) : Kt := i_ald 0 (i_ild 1 (i_sbald (i_push (.int 255) (i_bin (fun x y => x &&& y) (i_un (fun x => (x.toUInt32 % 65536).toInt32) (i_tret .char Q))))))
def b_J1_charAt_3b067_0 (Q : Option Value → Hp → Prop) : Kt := i_ild 1 (i_ald 0 (i_slen (i_callS 2 T_J0_checkIndex_df160 (c_J1_charAt_3b067_6 Q))))
set_option maxRecDepth 100000 in
theorem s_J1_charAt_3b067_0 (Q : Option Value → Hp → Prop) : ∀ A st h, b_J1_charAt_3b067_0 Q A st h → wp 2 MJ1_charAt_3b067 Q 0 A st h := (q1 (s_ildn (n := 1) (i := 1) rfl) D_J1_charAt_3b067_0 fun D => (q1 (s_aldn (n := 0) (i := 0) rfl) D fun D => (q1 s_slen D fun D => (qX (s_callS ok_J0_checkIndex_df160 mo_J0_checkIndex_df160 (ch_2_11_ok.2.2.2.2.2.2.2.2.2.2.2.2.2.2.1.1 rfl) (ch_2_11_ok.2.2.2.2.2.2.2.2.2.2.2.2.2.2.2.1.1 rfl)) rfl (by decide) D fun D => (q1 (s_aldn (n := 0) (i := 0) rfl) D fun D => (q1 (s_ildn (n := 1) (i := 1) rfl) D fun D => (q1 s_sbald D fun D => (q1 (s_sipush (n := 255) (v := 255) (by decide)) D fun D => (q1 s_and D fun D => (q1 s_i2c D fun D => (qT rfl D)))))))))))

set_option maxRecDepth 100000 in
set_option maxHeartbeats 4000000 in
theorem ok_J1_charAt_3b067 : ctr 2 MJ1_charAt_3b067 T_J1_charAt_3b067 := by
  refine ctr_of pn_J1 wc_J1_charAt_3b067 (fun av h Q hT => ?_)
  unfold T_J1_charAt_3b067 at hT
  split at hT
  · rename_i k j
    refine ⟨⟨by simp [Value.category], Nat.le_of_ble_eq_true rfl⟩, s_J1_charAt_3b067_0 Q _ _ _ ?_⟩
    obtain ⟨i, x, rfl, hi, rfl, hx, hq⟩ := hT
    have h6 := sLen_6 i hi
    obtain ⟨e, en⟩ := sByt_c i hi x (by omega)
    have e0 : (16 : Nat) + i - 16 = i := by omega
    have e1 : 16 ≤ 16 + i := by omega
    have e2 : 16 + i < 32 := by omega
    have l1 : 0 ≤ nI x := nI_pos' (by omega)
    have l2 : nI x < nI (sLen.getD i 0) := (nI_ltI (by omega) (by omega)).mpr hx
    simp only [MJ1_charAt_3b067, b_J1_charAt_3b067_0, T_J0_checkIndex_df160, c_J1_charAt_3b067_6, i_push, i_ild, i_ald, i_ist, i_ast, i_inc, i_bin, i_un, i_divs, i_i2l, i_lshl, i_lor, i_dup, i_dup2, i_pop, i_if, i_cmp, i_nul, i_vret, i_iret, i_zret, i_aret, i_keep, keep, lget, lset, ent, i_getI, i_getJ, i_getR, i_getN, i_putI, i_putZ, i_putJ, i_putR, i_iald, i_bald, i_alen, i_aald, i_iast, i_bast, i_aast, i_new, i_newa, i_anew, i_oini, i_callS, i_callV, i_callI, popn, sh4, i_sw, swP, i_copy, i_binS, List.map, Option.toList_none, Option.toList_some, List.append, List.nil_append, List.cons_append, List.length_cons, List.length_nil, List.replicate, Nat.sub_self, Nat.reduceSub, Nat.reduceAdd, hK_pI, hL_pI, hI_pI, hR_pI, hJ_pI, hT_pI, hS_pI, hK_pR, hL_pR, hI_pR, hR_pR, hJ_pR, hT_pR, hS_pR, hK_pJ, hL_pJ, hI_pJ, hR_pJ, hJ_pJ, hT_pJ, hS_pJ, hK_wI, hL_wI, hI_wI, hR_wI, hJ_wI, hT_wI, hS_wI, eq_self, and_true, true_and, and_false, false_and, or_true, true_or, or_false, false_or, if_true, if_false, not_true_eq_false, not_false_eq_true, forall_const, implies_true, false_implies, true_implies, Option.some.injEq, forall_eq', exists_eq_left', reduceCtorEq, Nat.reduceEqDiff, c1, T_X12_in, T_X12_ones, T_X11_within, T_X11_bit, T_X11_isIn, T_X11_oneIfIn, T_J6_bitCount_0f7a4, i_sval, i_scod, i_slen, i_sbald, i_tret, i_callW, i_no, e0, e1, e2, l1, l2, in_nI hx (by omega), cl_nI (show x < 2147483648 by omega), e, en]
    exact hq
  · exact hT.elim
def T_J0_charAt_5068e : Tr := fun av h Q => match av with
  | [.retAddr i, .int j] => ∃ x, i < 16 ∧ j = nI x ∧ x < sLen.getD i 0 ∧ Q (some (.int ((sByt.getD i []).getD x 0))) h
  | _ => False
def L_J0_charAt_5068e : List UInt8 := [42, 182, 1, 236, 153, 0, 12, 42, 180, 0, 9, 27, 184, 1, 239, 172, 42, 180, 0, 9, 27, 184, 1, 242, 172]
theorem Lc_J0_charAt_5068e : MJ0_charAt_5068e.2.1 = ⟨L_J0_charAt_5068e.toArray⟩ := rfl
theorem D_J0_charAt_5068e_0 : dseq MJ0_charAt_5068e.2.1 0 [(.aload_n 0, 1), (.invokevirtual 492, 3), (.ifCond .eq 12, 3), (.aload_n 0, 1), (.getfield 9, 3), (.iload_n 1, 1), (.invokestatic 495, 3), (.ireturn, 1)] := dq Lc_J0_charAt_5068e 0 _ (by decide +kernel)
def c_J0_charAt_5068e_15 (Q : Option Value → Hp → Prop) : Kt := i_tret .char Q
def b_J0_charAt_5068e_0 (Q : Option Value → Hp → Prop) : Kt := i_ald 0 (i_callW 0 T_J0_isLatin1_aae02 (i_if (fun x => x = 0) (i_no) (i_ald 0 (i_sval (i_ild 1 (i_callS 2 T_J1_charAt_3b067 (c_J0_charAt_5068e_15 Q)))))))
set_option maxRecDepth 100000 in
theorem s_J0_charAt_5068e_0 (Q : Option Value → Hp → Prop) : ∀ A st h, b_J0_charAt_5068e_0 Q A st h → wp 3 MJ0_charAt_5068e Q 0 A st h := (q1 (s_aldn (n := 0) (i := 0) rfl) D_J0_charAt_5068e_0 fun D => (qX (s_callW ok_J0_isLatin1_aae02 mo_J0_isLatin1_aae02 rfl (ch_2_11_ok.2.2.2.2.2.2.2.1.1 rfl) (ch_2_11_ok.2.2.2.2.2.2.2.2.1.1 rfl) (ch_2_11_ok.2.2.2.2.2.2.2.2.2.1.1 rfl)) rfl (by decide) D fun D => (qB s_ifeq 16 (by decide) D (fun _ _ _ h => h.elim) fun D => (q1 (s_aldn (n := 0) (i := 0) rfl) D fun D => (qC (s_sval (ch_6_12_ok.2.2.2.2.2.2.2.2.2.2.1.1 rfl)) rfl D fun D => (q1 (s_ildn (n := 1) (i := 1) rfl) D fun D => (qX (s_callS ok_J1_charAt_3b067 mo_J1_charAt_3b067 (ch_2_11_ok.2.2.2.2.2.2.2.2.2.2.2.1.1 rfl) (ch_2_11_ok.2.2.2.2.2.2.2.2.2.2.2.2.1.1 rfl)) rfl (by decide) D fun D => (qT rfl D))))))))

set_option maxRecDepth 100000 in
set_option maxHeartbeats 4000000 in
theorem ok_J0_charAt_5068e : ctr 3 MJ0_charAt_5068e T_J0_charAt_5068e := by
  refine ctr_of pn_J0 wc_J0_charAt_5068e (fun av h Q hT => ?_)
  unfold T_J0_charAt_5068e at hT
  split at hT
  · rename_i i j
    refine ⟨⟨by simp [Value.category], Nat.le_of_ble_eq_true rfl⟩, s_J0_charAt_5068e_0 Q _ _ _ ?_⟩
    obtain ⟨x, hi, rfl, hx, hq⟩ := hT
    have h6 := sLen_6 i hi
    have en := (sByt_c i hi x (by omega)).2
    simp only [MJ0_charAt_5068e, b_J0_charAt_5068e_0, T_J0_isLatin1_aae02, i_push, i_ild, i_ald, i_ist, i_ast, i_inc, i_bin, i_un, i_divs, i_i2l, i_lshl, i_lor, i_dup, i_dup2, i_pop, i_if, i_cmp, i_nul, i_vret, i_iret, i_zret, i_aret, i_keep, keep, lget, lset, ent, i_getI, i_getJ, i_getR, i_getN, i_putI, i_putZ, i_putJ, i_putR, i_iald, i_bald, i_alen, i_aald, i_iast, i_bast, i_aast, i_new, i_newa, i_anew, i_oini, i_callS, i_callV, i_callI, popn, sh4, i_sw, swP, i_copy, i_binS, List.map, Option.toList_none, Option.toList_some, List.append, List.nil_append, List.cons_append, List.length_cons, List.length_nil, List.replicate, Nat.sub_self, Nat.reduceSub, Nat.reduceAdd, hK_pI, hL_pI, hI_pI, hR_pI, hJ_pI, hT_pI, hS_pI, hK_pR, hL_pR, hI_pR, hR_pR, hJ_pR, hT_pR, hS_pR, hK_pJ, hL_pJ, hI_pJ, hR_pJ, hJ_pJ, hT_pJ, hS_pJ, hK_wI, hL_wI, hI_wI, hR_wI, hJ_wI, hT_wI, hS_wI, eq_self, and_true, true_and, and_false, false_and, or_true, true_or, or_false, false_or, if_true, if_false, not_true_eq_false, not_false_eq_true, forall_const, implies_true, false_implies, true_implies, Option.some.injEq, forall_eq', exists_eq_left', reduceCtorEq, Nat.reduceEqDiff, c1, T_X12_in, T_X12_ones, T_X11_within, T_X11_bit, T_X11_isIn, T_X11_oneIfIn, T_J6_bitCount_0f7a4, i_sval, i_scod, i_slen, i_sbald, i_tret, i_callW, i_no, hi, show ¬ (1 : Int32) = 0 by decide]
    refine ⟨i, x, rfl, hi, rfl, hx, ?_⟩
    simp only [c_J0_charAt_5068e_15, i_push, i_ild, i_ald, i_ist, i_ast, i_inc, i_bin, i_un, i_divs, i_i2l, i_lshl, i_lor, i_dup, i_dup2, i_pop, i_if, i_cmp, i_nul, i_vret, i_iret, i_zret, i_aret, i_keep, keep, lget, lset, ent, i_getI, i_getJ, i_getR, i_getN, i_putI, i_putZ, i_putJ, i_putR, i_iald, i_bald, i_alen, i_aald, i_iast, i_bast, i_aast, i_new, i_newa, i_anew, i_oini, i_callS, i_callV, i_callI, popn, sh4, i_sw, swP, i_copy, i_binS, List.map, Option.toList_none, Option.toList_some, List.append, List.nil_append, List.cons_append, List.length_cons, List.length_nil, List.replicate, Nat.sub_self, Nat.reduceSub, Nat.reduceAdd, hK_pI, hL_pI, hI_pI, hR_pI, hJ_pI, hT_pI, hS_pI, hK_pR, hL_pR, hI_pR, hR_pR, hJ_pR, hT_pR, hS_pR, hK_pJ, hL_pJ, hI_pJ, hR_pJ, hJ_pJ, hT_pJ, hS_pJ, hK_wI, hL_wI, hI_wI, hR_wI, hJ_wI, hT_wI, hS_wI, eq_self, and_true, true_and, and_false, false_and, or_true, true_or, or_false, false_or, if_true, if_false, not_true_eq_false, not_false_eq_true, forall_const, implies_true, false_implies, true_implies, Option.some.injEq, forall_eq', exists_eq_left', reduceCtorEq, Nat.reduceEqDiff, c1, T_X12_in, T_X12_ones, T_X11_within, T_X11_bit, T_X11_isIn, T_X11_oneIfIn, T_J6_bitCount_0f7a4, i_sval, i_scod, i_slen, i_sbald, i_tret, i_callW, i_no]
    exact ⟨en, hq⟩
  · exact hT.elim
