/-! ===== the class: readWord, readNumber, readToken ===== -/
def T_X10_readWord : Tr := fun av h Q => match av with
  | [.ref k] => LayX h ∧ ∃ B L b, LayT h k L ∧ TpC (hI h) B L ∧ b < L ∧ isLe (B b) ∧ hI h k 1 = nI b ∧ Q (some (.int (wKd (tkW B L b)))) (pI h k 1 (nI (eL B L b)))
  | _ => False
theorem let_go {h : Hp} {x : Int32} {Q : Option Value → Hp → Prop} (h1 : isLe x → Q (some (.int 1)) h) (h0 : ¬ isLe x → Q (some (.int 0)) h) : T_X10_isLetter [.int x] h Q := by
  unfold T_X10_isLetter isLe at *
  simp only [b_X10_isLetter_0, i_push, i_ild, i_ald, i_ist, i_ast, i_inc, i_bin, i_un, i_divs, i_i2l, i_lshl, i_lor, i_dup, i_dup2, i_pop, i_if, i_cmp, i_nul, i_vret, i_iret, i_zret, i_aret, i_keep, keep, lget, lset, ent, i_getI, i_getJ, i_getR, i_getN, i_putI, i_putZ, i_putJ, i_putR, i_iald, i_bald, i_alen, i_aald, i_iast, i_bast, i_aast, i_new, i_newa, i_anew, i_oini, i_callS, i_callV, i_callI, popn, sh4, i_sw, swP, i_copy, i_binS, List.map, Option.toList_none, Option.toList_some, List.append, List.nil_append, List.cons_append, List.length_cons, List.length_nil, List.replicate, Nat.sub_self, Nat.reduceSub, Nat.reduceAdd, hK_pI, hL_pI, hI_pI, hR_pI, hJ_pI, hT_pI, hS_pI, hK_pR, hL_pR, hI_pR, hR_pR, hJ_pR, hT_pR, hS_pR, hK_pJ, hL_pJ, hI_pJ, hR_pJ, hJ_pJ, hT_pJ, hS_pJ, hK_wI, hL_wI, hI_wI, hR_wI, hJ_wI, hT_wI, hS_wI, eq_self, and_true, true_and, and_false, false_and, or_true, true_or, or_false, false_or, if_true, if_false, not_true_eq_false, not_false_eq_true, forall_const, implies_true, false_implies, true_implies, Option.some.injEq, forall_eq', exists_eq_left', reduceCtorEq, Nat.reduceEqDiff, c1, T_X12_in, T_X12_ones, T_X11_within, T_X11_bit, T_X11_isIn, T_X11_oneIfIn, T_J6_bitCount_0f7a4]
  refine ⟨fun z => h0 (fun y => absurd y.1 (Int32.not_le.mpr z)), fun z => ⟨fun y => h0 (fun w => absurd w.2 (Int32.not_le.mpr y)), fun y => h1 ⟨Int32.not_lt.mp z, Int32.not_lt.mp y⟩⟩⟩
theorem dig_go {h : Hp} {x : Int32} {Q : Option Value → Hp → Prop} (h1 : isDi x → Q (some (.int 1)) h) (h0 : ¬ isDi x → Q (some (.int 0)) h) : T_X10_isDigit [.int x] h Q := by
  unfold T_X10_isDigit isDi at *
  simp only [b_X10_isDigit_0, i_push, i_ild, i_ald, i_ist, i_ast, i_inc, i_bin, i_un, i_divs, i_i2l, i_lshl, i_lor, i_dup, i_dup2, i_pop, i_if, i_cmp, i_nul, i_vret, i_iret, i_zret, i_aret, i_keep, keep, lget, lset, ent, i_getI, i_getJ, i_getR, i_getN, i_putI, i_putZ, i_putJ, i_putR, i_iald, i_bald, i_alen, i_aald, i_iast, i_bast, i_aast, i_new, i_newa, i_anew, i_oini, i_callS, i_callV, i_callI, popn, sh4, i_sw, swP, i_copy, i_binS, List.map, Option.toList_none, Option.toList_some, List.append, List.nil_append, List.cons_append, List.length_cons, List.length_nil, List.replicate, Nat.sub_self, Nat.reduceSub, Nat.reduceAdd, hK_pI, hL_pI, hI_pI, hR_pI, hJ_pI, hT_pI, hS_pI, hK_pR, hL_pR, hI_pR, hR_pR, hJ_pR, hT_pR, hS_pR, hK_pJ, hL_pJ, hI_pJ, hR_pJ, hJ_pJ, hT_pJ, hS_pJ, hK_wI, hL_wI, hI_wI, hR_wI, hJ_wI, hT_wI, hS_wI, eq_self, and_true, true_and, and_false, false_and, or_true, true_or, or_false, false_or, if_true, if_false, not_true_eq_false, not_false_eq_true, forall_const, implies_true, false_implies, true_implies, Option.some.injEq, forall_eq', exists_eq_left', reduceCtorEq, Nat.reduceEqDiff, c1, T_X12_in, T_X12_ones, T_X11_within, T_X11_bit, T_X11_isIn, T_X11_oneIfIn, T_J6_bitCount_0f7a4]
  refine ⟨fun z => h0 (fun y => absurd y.1 (Int32.not_le.mpr z)), fun z => ⟨fun y => h0 (fun w => absurd w.2 (Int32.not_le.mpr y)), fun y => h1 ⟨Int32.not_lt.mp z, Int32.not_lt.mp y⟩⟩⟩
theorem sgn_go {h : Hp} {x : Int32} {Q : Option Value → Hp → Prop} (h1 : isSg x → Q (some (.int 1)) h) (h0 : ¬ isSg x → Q (some (.int 0)) h) : T_X10_isSign [.int x] h Q := by
  unfold T_X10_isSign isSg at *
  simp only [b_X10_isSign_0, i_push, i_ild, i_ald, i_ist, i_ast, i_inc, i_bin, i_un, i_divs, i_i2l, i_lshl, i_lor, i_dup, i_dup2, i_pop, i_if, i_cmp, i_nul, i_vret, i_iret, i_zret, i_aret, i_keep, keep, lget, lset, ent, i_getI, i_getJ, i_getR, i_getN, i_putI, i_putZ, i_putJ, i_putR, i_iald, i_bald, i_alen, i_aald, i_iast, i_bast, i_aast, i_new, i_newa, i_anew, i_oini, i_callS, i_callV, i_callI, popn, sh4, i_sw, swP, i_copy, i_binS, List.map, Option.toList_none, Option.toList_some, List.append, List.nil_append, List.cons_append, List.length_cons, List.length_nil, List.replicate, Nat.sub_self, Nat.reduceSub, Nat.reduceAdd, hK_pI, hL_pI, hI_pI, hR_pI, hJ_pI, hT_pI, hS_pI, hK_pR, hL_pR, hI_pR, hR_pR, hJ_pR, hT_pR, hS_pR, hK_pJ, hL_pJ, hI_pJ, hR_pJ, hJ_pJ, hT_pJ, hS_pJ, hK_wI, hL_wI, hI_wI, hR_wI, hJ_wI, hT_wI, hS_wI, eq_self, and_true, true_and, and_false, false_and, or_true, true_or, or_false, false_or, if_true, if_false, not_true_eq_false, not_false_eq_true, forall_const, implies_true, false_implies, true_implies, Option.some.injEq, forall_eq', exists_eq_left', reduceCtorEq, Nat.reduceEqDiff, c1, T_X12_in, T_X12_ones, T_X11_within, T_X11_bit, T_X11_isIn, T_X11_oneIfIn, T_J6_bitCount_0f7a4]
  refine ⟨fun z => h1 (by simp [z]), fun z1 => ⟨fun z => h1 (by simp [z]), fun z2 => ⟨fun z => h1 (by simp [z]), fun z3 => ⟨fun z => h1 (by simp [z]), fun z4 => ⟨fun z => h1 (by simp [z]), fun z5 => ⟨fun z => h1 (by simp [z]), fun z6 => h0 (by simp [z1, z2, z3, z4, z5, z6])⟩⟩⟩⟩⟩⟩
def L_X10_readWord : List UInt8 := [42, 180, 0, 34, 60, 42, 180, 0, 34, 42, 180, 0, 9, 180, 0, 15, 162, 0, 30, 42, 42, 180, 0, 34, 182, 0, 48, 184, 0, 51, 153, 0, 16, 42, 89, 180, 0, 34, 4, 96, 181, 0, 34, 167, 255, 218, 42, 27, 182, 0, 68, 61, 28, 153, 0, 7, 28, 167, 0, 8, 42, 27, 182, 0, 71, 172]
theorem Lc_X10_readWord : MX10_readWord.2.1 = ⟨L_X10_readWord.toArray⟩ := rfl
theorem D_X10_readWord_0 : dseq MX10_readWord.2.1 0 [(.aload_n 0, 1), (.getfield 34, 3), (.istore_n 1, 1)] := dq Lc_X10_readWord 0 _ (by decide +kernel)
theorem D_X10_readWord_5 : dseq MX10_readWord.2.1 5 [(.aload_n 0, 1), (.getfield 34, 3), (.aload_n 0, 1), (.getfield 9, 3), (.getfield 15, 3), (.if_icmp .ge 30, 3), (.aload_n 0, 1), (.aload_n 0, 1), (.getfield 34, 3), (.invokevirtual 48, 3), (.invokestatic 51, 3), (.ifCond .eq 16, 3), (.aload_n 0, 1), (.dup, 1), (.getfield 34, 3), (.iconst 1, 1), (.iadd, 1), (.putfield 34, 3), (.goto (-38), 3)] := dq Lc_X10_readWord 5 _ (by decide +kernel)
theorem D_X10_readWord_46 : dseq MX10_readWord.2.1 46 [(.aload_n 0, 1), (.iload_n 1, 1), (.invokevirtual 68, 3), (.istore_n 2, 1), (.iload_n 2, 1), (.ifCond .eq 7, 3), (.iload_n 2, 1), (.goto 8, 3)] := dq Lc_X10_readWord 46 _ (by decide +kernel)
theorem D_X10_readWord_60 : dseq MX10_readWord.2.1 60 [(.aload_n 0, 1), (.iload_n 1, 1), (.invokevirtual 71, 3), (.ireturn, 1)] := dq Lc_X10_readWord 60 _ (by decide +kernel)
theorem D_X10_readWord_65 : dseq MX10_readWord.2.1 65 [(.ireturn, 1)] := dq Lc_X10_readWord 65 _ (by decide +kernel)
def c_X10_readWord_30 (Q : Option Value → Hp → Prop) : Kt := i_if (fun x => x = 0) (i_keep [true, true, false] (wp 6 MX10_readWord Q 46)) (i_ald 0 (i_dup (i_getI 10 1 (i_push (.int 1) (i_bin (fun x y => x + y) (i_putI 10 1 (i_keep [true, true, false] (wp 6 MX10_readWord Q 5))))))))
def c_X10_readWord_27 (Q : Option Value → Hp → Prop) : Kt := i_callS 1 T_X10_isLetter (c_X10_readWord_30 Q)
def c_X10_readWord_51 (Q : Option Value → Hp → Prop) : Kt := i_ist 2 (i_ild 2 (i_if (fun x => x = 0) (i_ald 0 (i_ild 1 (i_callV 10 1 T_X10_testWord (i_iret Q)))) (i_ild 2 (i_iret Q))))
def b_X10_readWord_0 (Q : Option Value → Hp → Prop) : Kt := i_ald 0 (i_getI 10 1 (i_ist 1 (i_keep [true, true, false] (wp 6 MX10_readWord Q 5))))
set_option maxRecDepth 100000 in
theorem s_X10_readWord_0 (Q : Option Value → Hp → Prop) : ∀ A st h, b_X10_readWord_0 Q A st h → wp 6 MX10_readWord Q 0 A st h := (q1 (s_aldn (n := 0) (i := 0) rfl) D_X10_readWord_0 fun D => (qC fl_X10_34 rfl D fun D => (qL (s_istn (n := 1) (i := 1) rfl) (by decide) D fun D => (s_keep [true, true, false] fun _ _ _ h => h))))
def b_X10_readWord_5 (Q : Option Value → Hp → Prop) : Kt := i_ald 0 (i_getI 10 1 (i_ald 0 (i_getR 10 0 (i_getI 9 1 (i_cmp (fun x y => y ≤ x) (i_keep [true, true, false] (wp 6 MX10_readWord Q 46)) (i_ald 0 (i_ald 0 (i_getI 10 1 (i_callV 10 1 T_X10_byteAt (c_X10_readWord_27 Q))))))))))
set_option maxRecDepth 100000 in
theorem s_X10_readWord_5 (Q : Option Value → Hp → Prop) : ∀ A st h, b_X10_readWord_5 Q A st h → wp 6 MX10_readWord Q 5 A st h := (q1 (s_aldn (n := 0) (i := 0) rfl) D_X10_readWord_5 fun D => (qC fl_X10_34 rfl D fun D => (q1 (s_aldn (n := 0) (i := 0) rfl) D fun D => (qC fl_X10_9 rfl D fun D => (qC fl_X10_15 rfl D fun D => (qB s_cmpge 46 (by decide) D (s_keep [true, true, false] fun _ _ _ h => h) fun D => (q1 (s_aldn (n := 0) (i := 0) rfl) D fun D => (q1 (s_aldn (n := 0) (i := 0) rfl) D fun D => (qC fl_X10_34 rfl D fun D => (qX (s_callV kX10 rfl ok_X10_byteAt mo_X10_byteAt (ch_2_9_ok.2.1.1 rfl) (ch_2_9_ok.2.2.2.1.1 rfl) (pv_0.2.1)) rfl (by decide) D fun D => (qX (s_callS ok_X10_isLetter mo_X10_isLetter (ch_2_9_ok.2.2.2.2.2.2.2.2.2.1.1 rfl) (ch_2_9_ok.2.2.2.2.2.2.2.2.2.2.1.1 rfl)) rfl (by decide) D fun D => (qB s_ifeq 46 (by decide) D (s_keep [true, true, false] fun _ _ _ h => h) fun D => (q1 (s_aldn (n := 0) (i := 0) rfl) D fun D => (q1 s_dup D fun D => (qC fl_X10_34 rfl D fun D => (q1 (s_iconst (n := 1) (v := 1) (by decide)) D fun D => (q1 s_add D fun D => (qP pl_X10_34 rfl (Or.inl rfl) D fun D => (qG 5 (by decide) D (s_keep [true, true, false] fun _ _ _ h => h))))))))))))))))))))
def b_X10_readWord_46 (Q : Option Value → Hp → Prop) : Kt := i_ald 0 (i_ild 1 (i_callV 10 1 T_X10_ruleWord (c_X10_readWord_51 Q)))
set_option maxRecDepth 100000 in
theorem s_X10_readWord_46 (Q : Option Value → Hp → Prop) : ∀ A st h, b_X10_readWord_46 Q A st h → wp 6 MX10_readWord Q 46 A st h := (q1 (s_aldn (n := 0) (i := 0) rfl) D_X10_readWord_46 fun D => (q1 (s_ildn (n := 1) (i := 1) rfl) D fun D => (qX (s_callV kX10 rfl ok_X10_ruleWord mo_X10_ruleWord (ch_2_10_ok.1.1 rfl) (ch_2_10_ok.2.2.1.1 rfl) (pv_0.2.2.2.2.1)) rfl (by decide) D fun D => (qL (s_istn (n := 2) (i := 2) rfl) (by decide) D fun D => (q1 (s_ildn (n := 2) (i := 2) rfl) D fun D => (qB s_ifeq 60 (by decide) D (q1 (s_aldn (n := 0) (i := 0) rfl) D_X10_readWord_60 fun D => (q1 (s_ildn (n := 1) (i := 1) rfl) D fun D => (qX (s_callV kX10 rfl ok_X10_testWord mo_X10_testWord (ch_2_13_ok.2.2.2.2.2.2.2.2.2.2.2.2.2.2.1.1 rfl) (ch_2_14_ok.1.1 rfl) (pv_0.2.2.2.2.2.2.1)) rfl (by decide) D fun D => (qI rfl D)))) fun D => (q1 (s_ildn (n := 2) (i := 2) rfl) D fun D => (qG 65 (by decide) D (qI rfl D_X10_readWord_65)))))))))

set_option maxRecDepth 100000 in
set_option maxHeartbeats 400000 in
theorem rw_46 (Q : Option Value → Hp → Prop) (h : Hp) (hl : LayX h) (k L : Nat) (hk : LayT h k L) (B : Nat → Int32) (ht : TpC (hI h) B L) (b : Nat) (hb : b < L) (hle : isLe (B b)) (hk1 : hI h k 1 = nI (eL B L b)) (hq : Q (some (.int (wKd (tkW B L b)))) h) : wp 6 MX10_readWord Q 46 [some (.ref k), some (.int (nI b)), none] [] h := by
  have hf := hk.f
  have hbe : b ≤ eL B L b := (nxN_ok (S := sLe B L) sLe_lt b).1
  have heL : eL B L b ≤ L := nxN_le sLe_lt (by omega)
  rw [wKd_val hb hle rfl] at hq
  have h51 : c_X10_readWord_51 Q [some (.ref k), some (.int (nI b)), none] [.int (rwF B b (eL B L b))] h := by
    have hz : rwF B b (eL B L b) = 0 → T_X10_testWord [.ref k, .int (nI b)] h (fun r h' => i_iret Q [some (.ref k), some (.int (nI b)), some (.int (rwF B b (eL B L b)))] (r.toList ++ []) h') := fun z => by
      rw [cif_t z] at hq
      exact ⟨hl, B, L, b, eL B L b, hk, ht, hbe, heL, hk1, rfl, hq⟩
    have hn : ¬ rwF B b (eL B L b) = 0 → Q (some (.int (rwF B b (eL B L b)))) h := fun z => by rw [cif_f z] at hq; exact hq
    generalize rwF B b (eL B L b) = X at hz hn ⊢
    simp only [c_X10_readWord_51, lx_pI, lx_wI, lx_t hl, lx_k hl, lx_r hl, lx_l hl, i_push, i_ild, i_ald, i_ist, i_ast, i_inc, i_bin, i_un, i_divs, i_i2l, i_lshl, i_lor, i_dup, i_dup2, i_pop, i_if, i_cmp, i_nul, i_vret, i_iret, i_zret, i_aret, i_keep, keep, lget, lset, ent, i_getI, i_getJ, i_getR, i_getN, i_putI, i_putZ, i_putJ, i_putR, i_iald, i_bald, i_alen, i_aald, i_iast, i_bast, i_aast, i_new, i_newa, i_anew, i_oini, i_callS, i_callV, i_callI, popn, sh4, i_sw, swP, i_copy, i_binS, List.map, Option.toList_none, Option.toList_some, List.append, List.nil_append, List.cons_append, List.length_cons, List.length_nil, List.replicate, Nat.sub_self, Nat.reduceSub, Nat.reduceAdd, hK_pI, hL_pI, hI_pI, hR_pI, hJ_pI, hT_pI, hS_pI, hK_pR, hL_pR, hI_pR, hR_pR, hJ_pR, hT_pR, hS_pR, hK_pJ, hL_pJ, hI_pJ, hR_pJ, hJ_pJ, hT_pJ, hS_pJ, hK_wI, hL_wI, hI_wI, hR_wI, hJ_wI, hT_wI, hS_wI, eq_self, and_true, true_and, and_false, false_and, or_true, true_or, or_false, false_or, if_true, if_false, not_true_eq_false, not_false_eq_true, forall_const, implies_true, false_implies, true_implies, Option.some.injEq, forall_eq', exists_eq_left', reduceCtorEq, Nat.reduceEqDiff, c1, T_X12_in, T_X12_ones, T_X11_within, T_X11_bit, T_X11_isIn, T_X11_oneIfIn, T_J6_bitCount_0f7a4, hf]
    exact ⟨hz, hn⟩
  have hru : T_X10_ruleWord [.ref k, .int (nI b)] h (fun r h' => c_X10_readWord_51 Q [some (.ref k), some (.int (nI b)), none] (r.toList ++ []) h') := ⟨hl, B, L, b, eL B L b, hk, ht, hbe, heL, hk1, rfl, h51⟩
  refine s_X10_readWord_46 Q _ _ _ ?_
  simp only [b_X10_readWord_46, lx_pI, lx_wI, lx_t hl, lx_k hl, lx_r hl, lx_l hl, i_push, i_ild, i_ald, i_ist, i_ast, i_inc, i_bin, i_un, i_divs, i_i2l, i_lshl, i_lor, i_dup, i_dup2, i_pop, i_if, i_cmp, i_nul, i_vret, i_iret, i_zret, i_aret, i_keep, keep, lget, lset, ent, i_getI, i_getJ, i_getR, i_getN, i_putI, i_putZ, i_putJ, i_putR, i_iald, i_bald, i_alen, i_aald, i_iast, i_bast, i_aast, i_new, i_newa, i_anew, i_oini, i_callS, i_callV, i_callI, popn, sh4, i_sw, swP, i_copy, i_binS, List.map, Option.toList_none, Option.toList_some, List.append, List.nil_append, List.cons_append, List.length_cons, List.length_nil, List.replicate, Nat.sub_self, Nat.reduceSub, Nat.reduceAdd, hK_pI, hL_pI, hI_pI, hR_pI, hJ_pI, hT_pI, hS_pI, hK_pR, hL_pR, hI_pR, hR_pR, hJ_pR, hT_pR, hS_pR, hK_pJ, hL_pJ, hI_pJ, hR_pJ, hJ_pJ, hT_pJ, hS_pJ, hK_wI, hL_wI, hI_wI, hR_wI, hJ_wI, hT_wI, hS_wI, eq_self, and_true, true_and, and_false, false_and, or_true, true_or, or_false, false_or, if_true, if_false, not_true_eq_false, not_false_eq_true, forall_const, implies_true, false_implies, true_implies, Option.some.injEq, forall_eq', exists_eq_left', reduceCtorEq, Nat.reduceEqDiff, c1, T_X12_in, T_X12_ones, T_X11_within, T_X11_bit, T_X11_isIn, T_X11_oneIfIn, T_J6_bitCount_0f7a4, hf]
  exact hru
set_option maxRecDepth 100000 in
set_option maxHeartbeats 400000 in
theorem rw_5 (Q : Option Value → Hp → Prop) (h : Hp) (hl : LayX h) (k L : Nat) (hk : LayT h k L) (B : Nat → Int32) (ht : TpC (hI h) B L) (b : Nat) (hb : b < L) (hle : isLe (B b)) (hq : Q (some (.int (wKd (tkW B L b)))) (pI h k 1 (nI (eL B L b)))) :
    ∀ (m a : Nat), m = L - a → a ≤ L → eL B L b = eL B L a → wp 6 MX10_readWord Q 5 [some (.ref k), some (.int (nI b)), none] [] (pI h k 1 (nI a)) := by
  have hk90 := hk.1
  have hL := ht.1
  intro m
  induction m with
  | zero =>
    intro a hm ha he
    have e : a = L := by omega
    subst e
    have hkB : eL B a a = a := nxN_stop (fun z => by have := z.1; omega)
    have hl2 : LayX (pI h k 1 (nI a)) := hl
    have hk2 : LayT (pI h k 1 (nI a)) k a := hk
    have e1 : hI (pI h k 1 (nI a)) k 1 = nI a := by rw [hI_pI, if_pos ⟨rfl, rfl⟩]
    have ht2 := TpC_pI ht (show 3 ≤ k by omega) 1 (nI a)
    have e2 := ht2.2.1
    have h46 := rw_46 Q (pI h k 1 (nI a)) hl2 k a hk2 B ht2 b hb hle (by rw [he, hkB]; exact e1) (by rw [he, hkB] at hq; exact hq)
    refine s_X10_readWord_5 Q _ _ _ ?_
    generalize pI h k 1 (nI a) = H at hl2 hk2 e1 e2 h46 ⊢
    have hl := hl2
    have hf := hk2.f
    simp only [b_X10_readWord_5, lx_pI, lx_wI, lx_t hl, lx_k hl, lx_r hl, lx_l hl, i_push, i_ild, i_ald, i_ist, i_ast, i_inc, i_bin, i_un, i_divs, i_i2l, i_lshl, i_lor, i_dup, i_dup2, i_pop, i_if, i_cmp, i_nul, i_vret, i_iret, i_zret, i_aret, i_keep, keep, lget, lset, ent, i_getI, i_getJ, i_getR, i_getN, i_putI, i_putZ, i_putJ, i_putR, i_iald, i_bald, i_alen, i_aald, i_iast, i_bast, i_aast, i_new, i_newa, i_anew, i_oini, i_callS, i_callV, i_callI, popn, sh4, i_sw, swP, i_copy, i_binS, List.map, Option.toList_none, Option.toList_some, List.append, List.nil_append, List.cons_append, List.length_cons, List.length_nil, List.replicate, Nat.sub_self, Nat.reduceSub, Nat.reduceAdd, hK_pI, hL_pI, hI_pI, hR_pI, hJ_pI, hT_pI, hS_pI, hK_pR, hL_pR, hI_pR, hR_pR, hJ_pR, hT_pR, hS_pR, hK_pJ, hL_pJ, hI_pJ, hR_pJ, hJ_pJ, hT_pJ, hS_pJ, hK_wI, hL_wI, hI_wI, hR_wI, hJ_wI, hT_wI, hS_wI, eq_self, and_true, true_and, and_false, false_and, or_true, true_or, or_false, false_or, if_true, if_false, not_true_eq_false, not_false_eq_true, forall_const, implies_true, false_implies, true_implies, Option.some.injEq, forall_eq', exists_eq_left', reduceCtorEq, Nat.reduceEqDiff, c1, T_X12_in, T_X12_ones, T_X11_within, T_X11_bit, T_X11_isIn, T_X11_oneIfIn, T_J6_bitCount_0f7a4, hf, e1, e2]
    exact ⟨fun _ => h46, fun z => absurd (nI_le (Nat.le_refl _) (by omega)) z⟩
  | succ m ih =>
    intro a hm ha he
    have hl2 : LayX (pI h k 1 (nI a)) := hl
    have hk2 : LayT (pI h k 1 (nI a)) k L := hk
    have e1 : hI (pI h k 1 (nI a)) k 1 = nI a := by rw [hI_pI, if_pos ⟨rfl, rfl⟩]
    have ht2 := TpC_pI ht (show 3 ≤ k by omega) 1 (nI a)
    have e2 := ht2.2.1
    have hsb : sB B L a = B a := if_pos (by omega)
    have hyes : isLe (B a) → wp 6 MX10_readWord Q 5 [some (.ref k), some (.int (nI b)), none] [] (pI (pI h k 1 (nI a)) k 1 (nI (a + 1))) := fun z => by
      have := ih (a + 1) (by omega) (by omega) (by rw [he]; exact nxN_go sLe_lt ⟨by omega, z⟩)
      rw [← pI_pI2 h k 1 (nI a)] at this
      exact this
    have hno : ¬ isLe (B a) → wp 6 MX10_readWord Q 46 [some (.ref k), some (.int (nI b)), none] [] (pI h k 1 (nI a)) := fun z => by
      have hkB : eL B L a = a := nxN_stop (fun y => z y.2)
      exact rw_46 Q (pI h k 1 (nI a)) hl2 k L hk2 B ht2 b hb hle (by rw [he, hkB]; exact e1) (by rw [he, hkB] at hq; exact hq)
    have h30 : ∀ v : Int32, (v = 1 ∧ isLe (B a) ∨ v = 0 ∧ ¬ isLe (B a)) → c_X10_readWord_30 Q [some (.ref k), some (.int (nI b)), none] [.int v] (pI h k 1 (nI a)) := by
      intro v hv
      rcases hv with ⟨rfl, z⟩ | ⟨rfl, z⟩
      · have hgo := hyes z
        generalize pI h k 1 (nI a) = H at hl2 hk2 e1 hgo ⊢
        have hl := hl2
        have hf := hk2.f
        simp only [c_X10_readWord_30, lx_pI, lx_wI, lx_t hl, lx_k hl, lx_r hl, lx_l hl, i_push, i_ild, i_ald, i_ist, i_ast, i_inc, i_bin, i_un, i_divs, i_i2l, i_lshl, i_lor, i_dup, i_dup2, i_pop, i_if, i_cmp, i_nul, i_vret, i_iret, i_zret, i_aret, i_keep, keep, lget, lset, ent, i_getI, i_getJ, i_getR, i_getN, i_putI, i_putZ, i_putJ, i_putR, i_iald, i_bald, i_alen, i_aald, i_iast, i_bast, i_aast, i_new, i_newa, i_anew, i_oini, i_callS, i_callV, i_callI, popn, sh4, i_sw, swP, i_copy, i_binS, List.map, Option.toList_none, Option.toList_some, List.append, List.nil_append, List.cons_append, List.length_cons, List.length_nil, List.replicate, Nat.sub_self, Nat.reduceSub, Nat.reduceAdd, hK_pI, hL_pI, hI_pI, hR_pI, hJ_pI, hT_pI, hS_pI, hK_pR, hL_pR, hI_pR, hR_pR, hJ_pR, hT_pR, hS_pR, hK_pJ, hL_pJ, hI_pJ, hR_pJ, hJ_pJ, hT_pJ, hS_pJ, hK_wI, hL_wI, hI_wI, hR_wI, hJ_wI, hT_wI, hS_wI, eq_self, and_true, true_and, and_false, false_and, or_true, true_or, or_false, false_or, if_true, if_false, not_true_eq_false, not_false_eq_true, forall_const, implies_true, false_implies, true_implies, Option.some.injEq, forall_eq', exists_eq_left', reduceCtorEq, Nat.reduceEqDiff, c1, T_X12_in, T_X12_ones, T_X11_within, T_X11_bit, T_X11_isIn, T_X11_oneIfIn, T_J6_bitCount_0f7a4, hf, e1, nI_1, show ¬ (1 : Int32) = 0 by decide]
        exact hgo
      · have hgo := hno z
        generalize pI h k 1 (nI a) = H at hgo ⊢
        simp only [c_X10_readWord_30, i_push, i_ild, i_ald, i_ist, i_ast, i_inc, i_bin, i_un, i_divs, i_i2l, i_lshl, i_lor, i_dup, i_dup2, i_pop, i_if, i_cmp, i_nul, i_vret, i_iret, i_zret, i_aret, i_keep, keep, lget, lset, ent, i_getI, i_getJ, i_getR, i_getN, i_putI, i_putZ, i_putJ, i_putR, i_iald, i_bald, i_alen, i_aald, i_iast, i_bast, i_aast, i_new, i_newa, i_anew, i_oini, i_callS, i_callV, i_callI, popn, sh4, i_sw, swP, i_copy, i_binS, List.map, Option.toList_none, Option.toList_some, List.append, List.nil_append, List.cons_append, List.length_cons, List.length_nil, List.replicate, Nat.sub_self, Nat.reduceSub, Nat.reduceAdd, hK_pI, hL_pI, hI_pI, hR_pI, hJ_pI, hT_pI, hS_pI, hK_pR, hL_pR, hI_pR, hR_pR, hJ_pR, hT_pR, hS_pR, hK_pJ, hL_pJ, hI_pJ, hR_pJ, hJ_pJ, hT_pJ, hS_pJ, hK_wI, hL_wI, hI_wI, hR_wI, hJ_wI, hT_wI, hS_wI, eq_self, and_true, true_and, and_false, false_and, or_true, true_or, or_false, false_or, if_true, if_false, not_true_eq_false, not_false_eq_true, forall_const, implies_true, false_implies, true_implies, Option.some.injEq, forall_eq', exists_eq_left', reduceCtorEq, Nat.reduceEqDiff, c1, T_X12_in, T_X12_ones, T_X11_within, T_X11_bit, T_X11_isIn, T_X11_oneIfIn, T_J6_bitCount_0f7a4]
        exact hgo
    have h27 : c_X10_readWord_27 Q [some (.ref k), some (.int (nI b)), none] [.int (B a)] (pI h k 1 (nI a)) := by
      have := let_go (h := pI h k 1 (nI a)) (x := B a) (Q := fun r h' => c_X10_readWord_30 Q [some (.ref k), some (.int (nI b)), none] (r.toList ++ []) h') (fun z => h30 1 (Or.inl ⟨rfl, z⟩)) (fun z => h30 0 (Or.inr ⟨rfl, z⟩))
      generalize pI h k 1 (nI a) = H at this ⊢
      simp only [c_X10_readWord_27, i_push, i_ild, i_ald, i_ist, i_ast, i_inc, i_bin, i_un, i_divs, i_i2l, i_lshl, i_lor, i_dup, i_dup2, i_pop, i_if, i_cmp, i_nul, i_vret, i_iret, i_zret, i_aret, i_keep, keep, lget, lset, ent, i_getI, i_getJ, i_getR, i_getN, i_putI, i_putZ, i_putJ, i_putR, i_iald, i_bald, i_alen, i_aald, i_iast, i_bast, i_aast, i_new, i_newa, i_anew, i_oini, i_callS, i_callV, i_callI, popn, sh4, i_sw, swP, i_copy, i_binS, List.map, Option.toList_none, Option.toList_some, List.append, List.nil_append, List.cons_append, List.length_cons, List.length_nil, List.replicate, Nat.sub_self, Nat.reduceSub, Nat.reduceAdd, hK_pI, hL_pI, hI_pI, hR_pI, hJ_pI, hT_pI, hS_pI, hK_pR, hL_pR, hI_pR, hR_pR, hJ_pR, hT_pR, hS_pR, hK_pJ, hL_pJ, hI_pJ, hR_pJ, hJ_pJ, hT_pJ, hS_pJ, hK_wI, hL_wI, hI_wI, hR_wI, hJ_wI, hT_wI, hS_wI, eq_self, and_true, true_and, and_false, false_and, or_true, true_or, or_false, false_or, if_true, if_false, not_true_eq_false, not_false_eq_true, forall_const, implies_true, false_implies, true_implies, Option.some.injEq, forall_eq', exists_eq_left', reduceCtorEq, Nat.reduceEqDiff, c1, T_X12_in, T_X12_ones, T_X11_within, T_X11_bit, T_X11_isIn, T_X11_oneIfIn, T_J6_bitCount_0f7a4]
      exact this
    have hb1 : T_X10_byteAt [.ref k, .int (nI a)] (pI h k 1 (nI a)) (fun r h' => c_X10_readWord_27 Q [some (.ref k), some (.int (nI b)), none] (r.toList ++ []) h') := bat_go hl2 hk2 ht2 (by omega) (by rw [hsb]; exact h27)
    refine s_X10_readWord_5 Q _ _ _ ?_
    generalize pI h k 1 (nI a) = H at hl2 hk2 e1 e2 hb1 ⊢
    have hl := hl2
    have hf := hk2.f
    simp only [b_X10_readWord_5, lx_pI, lx_wI, lx_t hl, lx_k hl, lx_r hl, lx_l hl, i_push, i_ild, i_ald, i_ist, i_ast, i_inc, i_bin, i_un, i_divs, i_i2l, i_lshl, i_lor, i_dup, i_dup2, i_pop, i_if, i_cmp, i_nul, i_vret, i_iret, i_zret, i_aret, i_keep, keep, lget, lset, ent, i_getI, i_getJ, i_getR, i_getN, i_putI, i_putZ, i_putJ, i_putR, i_iald, i_bald, i_alen, i_aald, i_iast, i_bast, i_aast, i_new, i_newa, i_anew, i_oini, i_callS, i_callV, i_callI, popn, sh4, i_sw, swP, i_copy, i_binS, List.map, Option.toList_none, Option.toList_some, List.append, List.nil_append, List.cons_append, List.length_cons, List.length_nil, List.replicate, Nat.sub_self, Nat.reduceSub, Nat.reduceAdd, hK_pI, hL_pI, hI_pI, hR_pI, hJ_pI, hT_pI, hS_pI, hK_pR, hL_pR, hI_pR, hR_pR, hJ_pR, hT_pR, hS_pR, hK_pJ, hL_pJ, hI_pJ, hR_pJ, hJ_pJ, hT_pJ, hS_pJ, hK_wI, hL_wI, hI_wI, hR_wI, hJ_wI, hT_wI, hS_wI, eq_self, and_true, true_and, and_false, false_and, or_true, true_or, or_false, false_or, if_true, if_false, not_true_eq_false, not_false_eq_true, forall_const, implies_true, false_implies, true_implies, Option.some.injEq, forall_eq', exists_eq_left', reduceCtorEq, Nat.reduceEqDiff, c1, T_X12_in, T_X12_ones, T_X11_within, T_X11_bit, T_X11_isIn, T_X11_oneIfIn, T_J6_bitCount_0f7a4, hf, e1, e2]
    exact ⟨fun z => absurd z (nI_ge (by omega) (by omega)), fun _ => hb1⟩
set_option maxRecDepth 100000 in
set_option maxHeartbeats 4000000 in
theorem ok_X10_readWord : ctr 6 MX10_readWord T_X10_readWord := by
  refine ctr_of pn_X10 wc_X10_readWord (fun av h Q hT => ?_)
  unfold T_X10_readWord at hT
  split at hT
  · rename_i k
    refine ⟨⟨by simp [Value.category], Nat.le_of_ble_eq_true rfl⟩, s_X10_readWord_0 Q _ _ _ ?_⟩
    obtain ⟨hl, B, L, b, hk, ht, hb, hle, hk1, hq⟩ := hT
    have hf := hk.f
    have := rw_5 Q h hl k L hk B ht b hb hle hq (L - b) b rfl (by omega) rfl
    rw [pI_same hk1] at this
    simp only [MX10_readWord, b_X10_readWord_0, lx_pI, lx_wI, lx_t hl, lx_k hl, lx_r hl, lx_l hl, i_push, i_ild, i_ald, i_ist, i_ast, i_inc, i_bin, i_un, i_divs, i_i2l, i_lshl, i_lor, i_dup, i_dup2, i_pop, i_if, i_cmp, i_nul, i_vret, i_iret, i_zret, i_aret, i_keep, keep, lget, lset, ent, i_getI, i_getJ, i_getR, i_getN, i_putI, i_putZ, i_putJ, i_putR, i_iald, i_bald, i_alen, i_aald, i_iast, i_bast, i_aast, i_new, i_newa, i_anew, i_oini, i_callS, i_callV, i_callI, popn, sh4, i_sw, swP, i_copy, i_binS, List.map, Option.toList_none, Option.toList_some, List.append, List.nil_append, List.cons_append, List.length_cons, List.length_nil, List.replicate, Nat.sub_self, Nat.reduceSub, Nat.reduceAdd, hK_pI, hL_pI, hI_pI, hR_pI, hJ_pI, hT_pI, hS_pI, hK_pR, hL_pR, hI_pR, hR_pR, hJ_pR, hT_pR, hS_pR, hK_pJ, hL_pJ, hI_pJ, hR_pJ, hJ_pJ, hT_pJ, hS_pJ, hK_wI, hL_wI, hI_wI, hR_wI, hJ_wI, hT_wI, hS_wI, eq_self, and_true, true_and, and_false, false_and, or_true, true_or, or_false, false_or, if_true, if_false, not_true_eq_false, not_false_eq_true, forall_const, implies_true, false_implies, true_implies, Option.some.injEq, forall_eq', exists_eq_left', reduceCtorEq, Nat.reduceEqDiff, c1, T_X12_in, T_X12_ones, T_X11_within, T_X11_bit, T_X11_isIn, T_X11_oneIfIn, T_J6_bitCount_0f7a4, hf, hk1]
    exact this
  · exact hT.elim
/-! numbers -/
def nmH (h : Hp) (k i b a : Nat) (B : Nat → Int32) : Hp := pI (pI h k 1 (nI a)) (k + 3) i (nv B b (a - b))
def T_X10_readNumber : Tr := fun av h Q => match av with
  | [.ref k, .int x] => LayX h ∧ ∃ B L b i, LayT h k L ∧ TpC (hI h) B L ∧ b < L ∧ isDi (B b) ∧ x = nI i ∧ i ≤ L ∧ hI h k 1 = nI b ∧ hI h (k + 3) i = 0 ∧ Q (some (.int (if 4 < eD B L b - b then 0 else 2))) (nmH h k i b (eD B L b) B)
  | _ => False
def L_X10_readNumber : List UInt8 := [42, 180, 0, 34, 61, 42, 180, 0, 34, 42, 180, 0, 9, 180, 0, 15, 162, 0, 67, 42, 42, 180, 0, 34, 182, 0, 48, 184, 0, 59, 153, 0, 53, 42, 180, 0, 34, 28, 100, 7, 162, 0, 30, 42, 180, 0, 28, 27, 42, 180, 0, 28, 27, 46, 16, 10, 104, 42, 42, 180, 0, 34, 182, 0, 48, 96, 16, 48, 100, 79, 42, 89, 180, 0, 34, 4, 96, 181, 0, 34, 167, 255, 181, 42, 180, 0, 34, 28, 100, 7, 163, 0, 7, 5, 167, 0, 4, 3, 172]
theorem Lc_X10_readNumber : MX10_readNumber.2.1 = ⟨L_X10_readNumber.toArray⟩ := rfl
theorem D_X10_readNumber_0 : dseq MX10_readNumber.2.1 0 [(.aload_n 0, 1), (.getfield 34, 3), (.istore_n 2, 1)] := dq Lc_X10_readNumber 0 _ (by decide +kernel)
theorem D_X10_readNumber_5 : dseq MX10_readNumber.2.1 5 [(.aload_n 0, 1), (.getfield 34, 3), (.aload_n 0, 1), (.getfield 9, 3), (.getfield 15, 3), (.if_icmp .ge 67, 3), (.aload_n 0, 1), (.aload_n 0, 1), (.getfield 34, 3), (.invokevirtual 48, 3), (.invokestatic 59, 3), (.ifCond .eq 53, 3), (.aload_n 0, 1), (.getfield 34, 3), (.iload_n 2, 1), (.isub, 1), (.iconst 4, 1), (.if_icmp .ge 30, 3), (.aload_n 0, 1), (.getfield 28, 3), (.iload_n 1, 1), (.aload_n 0, 1), (.getfield 28, 3), (.iload_n 1, 1), (.iaload, 1), (.bipush 10, 2), (.imul, 1), (.aload_n 0, 1), (.aload_n 0, 1), (.getfield 34, 3), (.invokevirtual 48, 3), (.iadd, 1), (.bipush 48, 2), (.isub, 1), (.iastore, 1)] := dq Lc_X10_readNumber 5 _ (by decide +kernel)
theorem D_X10_readNumber_70 : dseq MX10_readNumber.2.1 70 [(.aload_n 0, 1), (.dup, 1), (.getfield 34, 3), (.iconst 1, 1), (.iadd, 1), (.putfield 34, 3), (.goto (-75), 3)] := dq Lc_X10_readNumber 70 _ (by decide +kernel)
theorem D_X10_readNumber_83 : dseq MX10_readNumber.2.1 83 [(.aload_n 0, 1), (.getfield 34, 3), (.iload_n 2, 1), (.isub, 1), (.iconst 4, 1), (.if_icmp .gt 7, 3), (.iconst 2, 1), (.goto 4, 3)] := dq Lc_X10_readNumber 83 _ (by decide +kernel)
theorem D_X10_readNumber_97 : dseq MX10_readNumber.2.1 97 [(.iconst 0, 1), (.ireturn, 1)] := dq Lc_X10_readNumber 97 _ (by decide +kernel)
theorem D_X10_readNumber_98 : dseq MX10_readNumber.2.1 98 [(.ireturn, 1)] := dq Lc_X10_readNumber 98 _ (by decide +kernel)
def c_X10_readNumber_65 (Q : Option Value → Hp → Prop) : Kt := i_bin (fun x y => x + y) (i_push (.int 48) (i_bin (fun x y => x - y) (i_iast (i_keep [true, true, true] (wp 1 MX10_readNumber Q 70)))))
def c_X10_readNumber_30 (Q : Option Value → Hp → Prop) : Kt := i_if (fun x => x = 0) (i_keep [true, false, true] (wp 1 MX10_readNumber Q 83)) (i_ald 0 (i_getI 10 1 (i_ild 2 (i_bin (fun x y => x - y) (i_push (.int 4) (i_cmp (fun x y => y ≤ x) (i_keep [true, true, true] (wp 1 MX10_readNumber Q 70)) (i_ald 0 (i_getR 10 4 (i_ild 1 (i_ald 0 (i_getR 10 4 (i_ild 1 (i_iald (i_push (.int 10) (i_bin (fun x y => x * y) (i_ald 0 (i_ald 0 (i_getI 10 1 (i_callV 10 1 T_X10_byteAt (c_X10_readNumber_65 Q))))))))))))))))))))
def c_X10_readNumber_27 (Q : Option Value → Hp → Prop) : Kt := i_callS 1 T_X10_isDigit (c_X10_readNumber_30 Q)
def b_X10_readNumber_0 (Q : Option Value → Hp → Prop) : Kt := i_ald 0 (i_getI 10 1 (i_ist 2 (i_keep [true, true, true] (wp 1 MX10_readNumber Q 5))))
set_option maxRecDepth 100000 in
theorem s_X10_readNumber_0 (Q : Option Value → Hp → Prop) : ∀ A st h, b_X10_readNumber_0 Q A st h → wp 1 MX10_readNumber Q 0 A st h := (q1 (s_aldn (n := 0) (i := 0) rfl) D_X10_readNumber_0 fun D => (qC fl_X10_34 rfl D fun D => (qL (s_istn (n := 2) (i := 2) rfl) (by decide) D fun D => (s_keep [true, true, true] fun _ _ _ h => h))))
def b_X10_readNumber_5 (Q : Option Value → Hp → Prop) : Kt := i_ald 0 (i_getI 10 1 (i_ald 0 (i_getR 10 0 (i_getI 9 1 (i_cmp (fun x y => y ≤ x) (i_keep [true, false, true] (wp 1 MX10_readNumber Q 83)) (i_ald 0 (i_ald 0 (i_getI 10 1 (i_callV 10 1 T_X10_byteAt (c_X10_readNumber_27 Q))))))))))
set_option maxRecDepth 100000 in
theorem s_X10_readNumber_5 (Q : Option Value → Hp → Prop) : ∀ A st h, b_X10_readNumber_5 Q A st h → wp 1 MX10_readNumber Q 5 A st h := (q1 (s_aldn (n := 0) (i := 0) rfl) D_X10_readNumber_5 fun D => (qC fl_X10_34 rfl D fun D => (q1 (s_aldn (n := 0) (i := 0) rfl) D fun D => (qC fl_X10_9 rfl D fun D => (qC fl_X10_15 rfl D fun D => (qB s_cmpge 83 (by decide) D (s_keep [true, false, true] fun _ _ _ h => h) fun D => (q1 (s_aldn (n := 0) (i := 0) rfl) D fun D => (q1 (s_aldn (n := 0) (i := 0) rfl) D fun D => (qC fl_X10_34 rfl D fun D => (qX (s_callV kX10 rfl ok_X10_byteAt mo_X10_byteAt (ch_2_9_ok.2.1.1 rfl) (ch_2_9_ok.2.2.2.1.1 rfl) (pv_0.2.1)) rfl (by decide) D fun D => (qX (s_callS ok_X10_isDigit mo_X10_isDigit (ch_2_14_ok.2.2.2.2.2.2.2.2.2.2.2.2.1.1 rfl) (ch_2_14_ok.2.2.2.2.2.2.2.2.2.2.2.2.2.1.1 rfl)) rfl (by decide) D fun D => (qB s_ifeq 83 (by decide) D (s_keep [true, false, true] fun _ _ _ h => h) fun D => (q1 (s_aldn (n := 0) (i := 0) rfl) D fun D => (qC fl_X10_34 rfl D fun D => (q1 (s_ildn (n := 2) (i := 2) rfl) D fun D => (q1 s_sub D fun D => (q1 (s_iconst (n := 4) (v := 4) (by decide)) D fun D => (qB s_cmpge 70 (by decide) D (s_keep [true, true, true] fun _ _ _ h => h) fun D => (q1 (s_aldn (n := 0) (i := 0) rfl) D fun D => (qC fl_X10_28 rfl D fun D => (q1 (s_ildn (n := 1) (i := 1) rfl) D fun D => (q1 (s_aldn (n := 0) (i := 0) rfl) D fun D => (qC fl_X10_28 rfl D fun D => (q1 (s_ildn (n := 1) (i := 1) rfl) D fun D => (q1 s_iald D fun D => (q1 (s_bipush (n := 10) (v := 10) (by decide)) D fun D => (q1 s_mul D fun D => (q1 (s_aldn (n := 0) (i := 0) rfl) D fun D => (q1 (s_aldn (n := 0) (i := 0) rfl) D fun D => (qC fl_X10_34 rfl D fun D => (qX (s_callV kX10 rfl ok_X10_byteAt mo_X10_byteAt (ch_2_9_ok.2.1.1 rfl) (ch_2_9_ok.2.2.2.1.1 rfl) (pv_0.2.1)) rfl (by decide) D fun D => (q1 s_add D fun D => (q1 (s_bipush (n := 48) (v := 48) (by decide)) D fun D => (q1 s_sub D fun D => (q1 s_iast D fun D => (s_keep [true, true, true] fun _ _ _ h => h))))))))))))))))))))))))))))))))))))
def b_X10_readNumber_70 (Q : Option Value → Hp → Prop) : Kt := i_ald 0 (i_dup (i_getI 10 1 (i_push (.int 1) (i_bin (fun x y => x + y) (i_putI 10 1 (i_keep [true, true, true] (wp 1 MX10_readNumber Q 5)))))))
set_option maxRecDepth 100000 in
theorem s_X10_readNumber_70 (Q : Option Value → Hp → Prop) : ∀ A st h, b_X10_readNumber_70 Q A st h → wp 1 MX10_readNumber Q 70 A st h := (q1 (s_aldn (n := 0) (i := 0) rfl) D_X10_readNumber_70 fun D => (q1 s_dup D fun D => (qC fl_X10_34 rfl D fun D => (q1 (s_iconst (n := 1) (v := 1) (by decide)) D fun D => (q1 s_add D fun D => (qP pl_X10_34 rfl (Or.inl rfl) D fun D => (qG 5 (by decide) D (s_keep [true, true, true] fun _ _ _ h => h))))))))
def b_X10_readNumber_83 (Q : Option Value → Hp → Prop) : Kt := i_ald 0 (i_getI 10 1 (i_ild 2 (i_bin (fun x y => x - y) (i_push (.int 4) (i_cmp (fun x y => y < x) (i_push (.int 0) (i_iret Q)) (i_push (.int 2) (i_iret Q)))))))
set_option maxRecDepth 100000 in
theorem s_X10_readNumber_83 (Q : Option Value → Hp → Prop) : ∀ A st h, b_X10_readNumber_83 Q A st h → wp 1 MX10_readNumber Q 83 A st h := (q1 (s_aldn (n := 0) (i := 0) rfl) D_X10_readNumber_83 fun D => (qC fl_X10_34 rfl D fun D => (q1 (s_ildn (n := 2) (i := 2) rfl) D fun D => (q1 s_sub D fun D => (q1 (s_iconst (n := 4) (v := 4) (by decide)) D fun D => (qB s_cmpgt 97 (by decide) D (q1 (s_iconst (n := 0) (v := 0) (by decide)) D_X10_readNumber_97 fun D => (qI rfl D)) fun D => (q1 (s_iconst (n := 2) (v := 2) (by decide)) D fun D => (qG 98 (by decide) D (qI rfl D_X10_readNumber_98)))))))))

set_option maxRecDepth 100000 in
set_option maxHeartbeats 400000 in
theorem rn_83 (Q : Option Value → Hp → Prop) (h : Hp) (hl : LayX h) (k L : Nat) (hk : LayT h k L) (b e : Nat) (hbe : b ≤ e) (he : e ≤ 500) (hk1 : hI h k 1 = nI e) (hq : Q (some (.int (if 4 < e - b then 0 else 2))) h) : wp 1 MX10_readNumber Q 83 [some (.ref k), none, some (.int (nI b))] [] h := by
  have hf := hk.f
  have hs : nI e - nI b = nI (e - b) := nI_sub hbe
  have h4 : (4 : Int32) < nI (e - b) ↔ 4 < e - b := nI_ltI (a := 4) (by decide) (by omega)
  refine s_X10_readNumber_83 Q _ _ _ ?_
  simp only [b_X10_readNumber_83, lx_pI, lx_wI, lx_t hl, lx_k hl, lx_r hl, lx_l hl, i_push, i_ild, i_ald, i_ist, i_ast, i_inc, i_bin, i_un, i_divs, i_i2l, i_lshl, i_lor, i_dup, i_dup2, i_pop, i_if, i_cmp, i_nul, i_vret, i_iret, i_zret, i_aret, i_keep, keep, lget, lset, ent, i_getI, i_getJ, i_getR, i_getN, i_putI, i_putZ, i_putJ, i_putR, i_iald, i_bald, i_alen, i_aald, i_iast, i_bast, i_aast, i_new, i_newa, i_anew, i_oini, i_callS, i_callV, i_callI, popn, sh4, i_sw, swP, i_copy, i_binS, List.map, Option.toList_none, Option.toList_some, List.append, List.nil_append, List.cons_append, List.length_cons, List.length_nil, List.replicate, Nat.sub_self, Nat.reduceSub, Nat.reduceAdd, hK_pI, hL_pI, hI_pI, hR_pI, hJ_pI, hT_pI, hS_pI, hK_pR, hL_pR, hI_pR, hR_pR, hJ_pR, hT_pR, hS_pR, hK_pJ, hL_pJ, hI_pJ, hR_pJ, hJ_pJ, hT_pJ, hS_pJ, hK_wI, hL_wI, hI_wI, hR_wI, hJ_wI, hT_wI, hS_wI, eq_self, and_true, true_and, and_false, false_and, or_true, true_or, or_false, false_or, if_true, if_false, not_true_eq_false, not_false_eq_true, forall_const, implies_true, false_implies, true_implies, Option.some.injEq, forall_eq', exists_eq_left', reduceCtorEq, Nat.reduceEqDiff, c1, T_X12_in, T_X12_ones, T_X11_within, T_X11_bit, T_X11_isIn, T_X11_oneIfIn, T_J6_bitCount_0f7a4, hf, hk1, hs, h4]
  exact ⟨fun z => by rw [if_pos z] at hq; exact hq, fun z => by rw [if_neg z] at hq; exact hq⟩
theorem nv_s (B : Nat → Int32) (b a : Nat) (hab : b ≤ a) : nv B b (a + 1 - b) = if a - b < 4 then nv B b (a - b) * 10 + B a - 48 else nv B b (a - b) := by
  rw [show a + 1 - b = (a - b) + 1 by omega, nv, show b + (a - b) = a by omega, Int32.mul_comm]
set_option maxRecDepth 100000 in
set_option maxHeartbeats 400000 in
theorem rn_5 (Q : Option Value → Hp → Prop) (h : Hp) (hl : LayX h) (k L : Nat) (hk : LayT h k L) (B : Nat → Int32) (ht : TpC (hI h) B L) (b i : Nat) (hi : i ≤ L) (hq : Q (some (.int (if 4 < eD B L b - b then 0 else 2))) (nmH h k i b (eD B L b) B)) :
    ∀ (m a : Nat), m = L - a → b ≤ a → a ≤ L → eD B L b = eD B L a → wp 1 MX10_readNumber Q 5 [some (.ref k), some (.int (nI i)), some (.int (nI b))] [] (nmH h k i b a B) := by
  have hk90 := hk.1
  have hL := ht.1
  intro m
  induction m with
  | zero =>
    intro a hm hba ha he
    have e : a = L := by omega
    subst e
    have hkB : eD B a a = a := nxN_stop (fun z => by have := z.1; omega)
    have hl2 : LayX (nmH h k i b a B) := hl
    have hk2 : LayT (nmH h k i b a B) k a := hk
    have e1 : hI (nmH h k i b a B) k 1 = nI a := by
      unfold nmH
      rw [hI_pI, if_neg (by omega), hI_pI, if_pos ⟨rfl, rfl⟩]
    have ht2 : TpC (hI (nmH h k i b a B)) B a := TpC_pI (TpC_pI ht (show 3 ≤ k by omega) 1 (nI a)) (show 3 ≤ k + 3 by omega) _ _
    have e2 := ht2.2.1
    have h83 := rn_83 Q (nmH h k i b a B) hl2 k a hk2 b a hba (by omega) e1 (by rw [he, hkB] at hq; exact hq)
    refine s_X10_readNumber_5 Q _ _ _ ?_
    generalize nmH h k i b a B = H at hl2 hk2 e1 e2 h83 ⊢
    have hl := hl2
    have hf := hk2.f
    simp only [b_X10_readNumber_5, lx_pI, lx_wI, lx_t hl, lx_k hl, lx_r hl, lx_l hl, i_push, i_ild, i_ald, i_ist, i_ast, i_inc, i_bin, i_un, i_divs, i_i2l, i_lshl, i_lor, i_dup, i_dup2, i_pop, i_if, i_cmp, i_nul, i_vret, i_iret, i_zret, i_aret, i_keep, keep, lget, lset, ent, i_getI, i_getJ, i_getR, i_getN, i_putI, i_putZ, i_putJ, i_putR, i_iald, i_bald, i_alen, i_aald, i_iast, i_bast, i_aast, i_new, i_newa, i_anew, i_oini, i_callS, i_callV, i_callI, popn, sh4, i_sw, swP, i_copy, i_binS, List.map, Option.toList_none, Option.toList_some, List.append, List.nil_append, List.cons_append, List.length_cons, List.length_nil, List.replicate, Nat.sub_self, Nat.reduceSub, Nat.reduceAdd, hK_pI, hL_pI, hI_pI, hR_pI, hJ_pI, hT_pI, hS_pI, hK_pR, hL_pR, hI_pR, hR_pR, hJ_pR, hT_pR, hS_pR, hK_pJ, hL_pJ, hI_pJ, hR_pJ, hJ_pJ, hT_pJ, hS_pJ, hK_wI, hL_wI, hI_wI, hR_wI, hJ_wI, hT_wI, hS_wI, eq_self, and_true, true_and, and_false, false_and, or_true, true_or, or_false, false_or, if_true, if_false, not_true_eq_false, not_false_eq_true, forall_const, implies_true, false_implies, true_implies, Option.some.injEq, forall_eq', exists_eq_left', reduceCtorEq, Nat.reduceEqDiff, c1, T_X12_in, T_X12_ones, T_X11_within, T_X11_bit, T_X11_isIn, T_X11_oneIfIn, T_J6_bitCount_0f7a4, hf, e1, e2]
    exact ⟨fun _ => h83, fun z => absurd (nI_le (Nat.le_refl _) (by omega)) z⟩
  | succ m ih =>
    intro a hm hba ha he
    have hl2 : LayX (nmH h k i b a B) := hl
    have hk2 : LayT (nmH h k i b a B) k L := hk
    have e1 : hI (nmH h k i b a B) k 1 = nI a := by
      unfold nmH
      rw [hI_pI, if_neg (by omega), hI_pI, if_pos ⟨rfl, rfl⟩]
    have e3 : hI (nmH h k i b a B) (k + 3) i = nv B b (a - b) := by
      unfold nmH
      rw [hI_pI, if_pos ⟨rfl, rfl⟩]
    have ht2 : TpC (hI (nmH h k i b a B)) B L := TpC_pI (TpC_pI ht (show 3 ≤ k by omega) 1 (nI a)) (show 3 ≤ k + 3 by omega) _ _
    have e2 := ht2.2.1
    have hsb : sB B L a = B a := if_pos (by omega)
    have hs : nI a - nI b = nI (a - b) := nI_sub hba
    have h4 : (4 : Int32) ≤ nI (a - b) ↔ 4 ≤ a - b := nI_leI (a := 4) (by decide) (by omega)
    -- 70: one digit on; v is the value as it stands in the row
    have h70 : ∀ v, v = nv B b (a + 1 - b) → isDi (B a) → wp 1 MX10_readNumber Q 70 [some (.ref k), some (.int (nI i)), some (.int (nI b))] [] (pI (nmH h k i b a B) (k + 3) i v) := by
      intro v hv z
      have hgo := ih (a + 1) (by omega) (by omega) (by omega) (by rw [he]; exact nxN_go sDi_lt ⟨by omega, z⟩)
      have eH : nmH h k i b (a + 1) B = pI (pI (nmH h k i b a B) (k + 3) i v) k 1 (nI (a + 1)) := by
        rw [hv]
        unfold nmH pI
        show wI h _ = wI h _
        congr 1
        funext x j
        show u2 (u2 (hI h) k 1 (nI (a + 1))) (k + 3) i (nv B b (a + 1 - b)) x j = u2 (u2 (u2 (u2 (hI h) k 1 (nI a)) (k + 3) i (nv B b (a - b))) (k + 3) i (nv B b (a + 1 - b))) k 1 (nI (a + 1)) x j
        by_cases c1 : x = k ∧ j = 1
        · rw [u2_ne (by omega), c1.1, c1.2, u2_eq, u2_eq]
        · rw [u2_ne (f := u2 (u2 (u2 (hI h) k 1 (nI a)) (k + 3) i (nv B b (a - b))) (k + 3) i (nv B b (a + 1 - b))) c1]
          by_cases c3 : x = k + 3 ∧ j = i
          · rw [c3.1, c3.2, u2_eq, u2_eq]
          · rw [u2_ne c3, u2_ne c1, u2_ne c3, u2_ne c3, u2_ne c1]
      rw [eH] at hgo
      have hl3 : LayX (pI (nmH h k i b a B) (k + 3) i v) := hl
      have hk3 : LayT (pI (nmH h k i b a B) (k + 3) i v) k L := hk
      have e13 : hI (pI (nmH h k i b a B) (k + 3) i v) k 1 = nI a := by rw [hI_pI, if_neg (by omega)]; exact e1
      refine s_X10_readNumber_70 Q _ _ _ ?_
      generalize pI (nmH h k i b a B) (k + 3) i v = H at hl3 hk3 e13 hgo ⊢
      have hl := hl3
      have hf := hk3.f
      simp only [b_X10_readNumber_70, lx_pI, lx_wI, lx_t hl, lx_k hl, lx_r hl, lx_l hl, i_push, i_ild, i_ald, i_ist, i_ast, i_inc, i_bin, i_un, i_divs, i_i2l, i_lshl, i_lor, i_dup, i_dup2, i_pop, i_if, i_cmp, i_nul, i_vret, i_iret, i_zret, i_aret, i_keep, keep, lget, lset, ent, i_getI, i_getJ, i_getR, i_getN, i_putI, i_putZ, i_putJ, i_putR, i_iald, i_bald, i_alen, i_aald, i_iast, i_bast, i_aast, i_new, i_newa, i_anew, i_oini, i_callS, i_callV, i_callI, popn, sh4, i_sw, swP, i_copy, i_binS, List.map, Option.toList_none, Option.toList_some, List.append, List.nil_append, List.cons_append, List.length_cons, List.length_nil, List.replicate, Nat.sub_self, Nat.reduceSub, Nat.reduceAdd, hK_pI, hL_pI, hI_pI, hR_pI, hJ_pI, hT_pI, hS_pI, hK_pR, hL_pR, hI_pR, hR_pR, hJ_pR, hT_pR, hS_pR, hK_pJ, hL_pJ, hI_pJ, hR_pJ, hJ_pJ, hT_pJ, hS_pJ, hK_wI, hL_wI, hI_wI, hR_wI, hJ_wI, hT_wI, hS_wI, eq_self, and_true, true_and, and_false, false_and, or_true, true_or, or_false, false_or, if_true, if_false, not_true_eq_false, not_false_eq_true, forall_const, implies_true, false_implies, true_implies, Option.some.injEq, forall_eq', exists_eq_left', reduceCtorEq, Nat.reduceEqDiff, c1, T_X12_in, T_X12_ones, T_X11_within, T_X11_bit, T_X11_isIn, T_X11_oneIfIn, T_J6_bitCount_0f7a4, hf, e13, nI_1]
      exact hgo
    have h65 : isDi (B a) → a - b < 4 → c_X10_readNumber_65 Q [some (.ref k), some (.int (nI i)), some (.int (nI b))] [.int (B a), .int (nv B b (a - b) * 10), .int (nI i), .ref (k + 3)] (nmH h k i b a B) := fun z y => by
      have hgo := h70 (nv B b (a - b) * 10 + B a - 48) (by rw [nv_s B b a hba, if_pos y]) z
      generalize nmH h k i b a B = H at hl2 hk2 hgo ⊢
      generalize nv B b (a - b) = X at hgo ⊢
      have hl := hl2
      have hf := hk2.f
      simp only [c_X10_readNumber_65, lx_pI, lx_wI, lx_t hl, lx_k hl, lx_r hl, lx_l hl, i_push, i_ild, i_ald, i_ist, i_ast, i_inc, i_bin, i_un, i_divs, i_i2l, i_lshl, i_lor, i_dup, i_dup2, i_pop, i_if, i_cmp, i_nul, i_vret, i_iret, i_zret, i_aret, i_keep, keep, lget, lset, ent, i_getI, i_getJ, i_getR, i_getN, i_putI, i_putZ, i_putJ, i_putR, i_iald, i_bald, i_alen, i_aald, i_iast, i_bast, i_aast, i_new, i_newa, i_anew, i_oini, i_callS, i_callV, i_callI, popn, sh4, i_sw, swP, i_copy, i_binS, List.map, Option.toList_none, Option.toList_some, List.append, List.nil_append, List.cons_append, List.length_cons, List.length_nil, List.replicate, Nat.sub_self, Nat.reduceSub, Nat.reduceAdd, hK_pI, hL_pI, hI_pI, hR_pI, hJ_pI, hT_pI, hS_pI, hK_pR, hL_pR, hI_pR, hR_pR, hJ_pR, hT_pR, hS_pR, hK_pJ, hL_pJ, hI_pJ, hR_pJ, hJ_pJ, hT_pJ, hS_pJ, hK_wI, hL_wI, hI_wI, hR_wI, hJ_wI, hT_wI, hS_wI, eq_self, and_true, true_and, and_false, false_and, or_true, true_or, or_false, false_or, if_true, if_false, not_true_eq_false, not_false_eq_true, forall_const, implies_true, false_implies, true_implies, Option.some.injEq, forall_eq', exists_eq_left', reduceCtorEq, Nat.reduceEqDiff, c1, T_X12_in, T_X12_ones, T_X11_within, T_X11_bit, T_X11_isIn, T_X11_oneIfIn, T_J6_bitCount_0f7a4, hf, cl_nI (show i < 2147483648 by omega), in_nI (show i < L + 1 by omega) (by omega)]
      exact hgo
    have hb2 : isDi (B a) → a - b < 4 → T_X10_byteAt [.ref k, .int (nI a)] (nmH h k i b a B) (fun r h' => c_X10_readNumber_65 Q [some (.ref k), some (.int (nI i)), some (.int (nI b))] (r.toList ++ [.int (nv B b (a - b) * 10), .int (nI i), .ref (k + 3)]) h') := fun z y => bat_go hl2 hk2 ht2 (by omega) (by rw [hsb]; exact h65 z y)
    have h70' : isDi (B a) → 4 ≤ a - b → wp 1 MX10_readNumber Q 70 [some (.ref k), some (.int (nI i)), some (.int (nI b))] [] (nmH h k i b a B) := fun z y => by
      have := h70 (nv B b (a - b)) (by rw [nv_s B b a hba, if_neg (by omega)]) z
      rw [pI_same e3] at this
      exact this
    have hno : ¬ isDi (B a) → wp 1 MX10_readNumber Q 83 [some (.ref k), none, some (.int (nI b))] [] (nmH h k i b a B) := fun z => by
      have hkB : eD B L a = a := nxN_stop (fun y => z y.2)
      exact rn_83 Q (nmH h k i b a B) hl2 k L hk2 b a hba (by omega) e1 (by rw [he, hkB] at hq; exact hq)
    have h30 : ∀ v : Int32, (v = 1 ∧ isDi (B a) ∨ v = 0 ∧ ¬ isDi (B a)) → c_X10_readNumber_30 Q [some (.ref k), some (.int (nI i)), some (.int (nI b))] [.int v] (nmH h k i b a B) := by
      intro v hv
      rcases hv with ⟨rfl, z⟩ | ⟨rfl, z⟩
      · have g1 := h70' z
        have g2 := hb2 z
        generalize nmH h k i b a B = H at hl2 hk2 e1 e3 g1 g2 ⊢
        generalize nv B b (a - b) = X at e3 g2 ⊢
        have hl := hl2
        have hf := hk2.f
        simp only [c_X10_readNumber_30, lx_pI, lx_wI, lx_t hl, lx_k hl, lx_r hl, lx_l hl, i_push, i_ild, i_ald, i_ist, i_ast, i_inc, i_bin, i_un, i_divs, i_i2l, i_lshl, i_lor, i_dup, i_dup2, i_pop, i_if, i_cmp, i_nul, i_vret, i_iret, i_zret, i_aret, i_keep, keep, lget, lset, ent, i_getI, i_getJ, i_getR, i_getN, i_putI, i_putZ, i_putJ, i_putR, i_iald, i_bald, i_alen, i_aald, i_iast, i_bast, i_aast, i_new, i_newa, i_anew, i_oini, i_callS, i_callV, i_callI, popn, sh4, i_sw, swP, i_copy, i_binS, List.map, Option.toList_none, Option.toList_some, List.append, List.nil_append, List.cons_append, List.length_cons, List.length_nil, List.replicate, Nat.sub_self, Nat.reduceSub, Nat.reduceAdd, hK_pI, hL_pI, hI_pI, hR_pI, hJ_pI, hT_pI, hS_pI, hK_pR, hL_pR, hI_pR, hR_pR, hJ_pR, hT_pR, hS_pR, hK_pJ, hL_pJ, hI_pJ, hR_pJ, hJ_pJ, hT_pJ, hS_pJ, hK_wI, hL_wI, hI_wI, hR_wI, hJ_wI, hT_wI, hS_wI, eq_self, and_true, true_and, and_false, false_and, or_true, true_or, or_false, false_or, if_true, if_false, not_true_eq_false, not_false_eq_true, forall_const, implies_true, false_implies, true_implies, Option.some.injEq, forall_eq', exists_eq_left', reduceCtorEq, Nat.reduceEqDiff, c1, T_X12_in, T_X12_ones, T_X11_within, T_X11_bit, T_X11_isIn, T_X11_oneIfIn, T_J6_bitCount_0f7a4, hf, e1, e3, hs, h4, cl_nI (show i < 2147483648 by omega), in_nI (show i < L + 1 by omega) (by omega), show ¬ (1 : Int32) = 0 by decide]
        exact ⟨fun y => g1 y, fun y => g2 (by omega)⟩
      · have hgo := hno z
        generalize nmH h k i b a B = H at hgo ⊢
        simp only [c_X10_readNumber_30, i_push, i_ild, i_ald, i_ist, i_ast, i_inc, i_bin, i_un, i_divs, i_i2l, i_lshl, i_lor, i_dup, i_dup2, i_pop, i_if, i_cmp, i_nul, i_vret, i_iret, i_zret, i_aret, i_keep, keep, lget, lset, ent, i_getI, i_getJ, i_getR, i_getN, i_putI, i_putZ, i_putJ, i_putR, i_iald, i_bald, i_alen, i_aald, i_iast, i_bast, i_aast, i_new, i_newa, i_anew, i_oini, i_callS, i_callV, i_callI, popn, sh4, i_sw, swP, i_copy, i_binS, List.map, Option.toList_none, Option.toList_some, List.append, List.nil_append, List.cons_append, List.length_cons, List.length_nil, List.replicate, Nat.sub_self, Nat.reduceSub, Nat.reduceAdd, hK_pI, hL_pI, hI_pI, hR_pI, hJ_pI, hT_pI, hS_pI, hK_pR, hL_pR, hI_pR, hR_pR, hJ_pR, hT_pR, hS_pR, hK_pJ, hL_pJ, hI_pJ, hR_pJ, hJ_pJ, hT_pJ, hS_pJ, hK_wI, hL_wI, hI_wI, hR_wI, hJ_wI, hT_wI, hS_wI, eq_self, and_true, true_and, and_false, false_and, or_true, true_or, or_false, false_or, if_true, if_false, not_true_eq_false, not_false_eq_true, forall_const, implies_true, false_implies, true_implies, Option.some.injEq, forall_eq', exists_eq_left', reduceCtorEq, Nat.reduceEqDiff, c1, T_X12_in, T_X12_ones, T_X11_within, T_X11_bit, T_X11_isIn, T_X11_oneIfIn, T_J6_bitCount_0f7a4]
        exact hgo
    have h27 : c_X10_readNumber_27 Q [some (.ref k), some (.int (nI i)), some (.int (nI b))] [.int (B a)] (nmH h k i b a B) := by
      have := dig_go (h := nmH h k i b a B) (x := B a) (Q := fun r h' => c_X10_readNumber_30 Q [some (.ref k), some (.int (nI i)), some (.int (nI b))] (r.toList ++ []) h') (fun z => h30 1 (Or.inl ⟨rfl, z⟩)) (fun z => h30 0 (Or.inr ⟨rfl, z⟩))
      generalize nmH h k i b a B = H at this ⊢
      simp only [c_X10_readNumber_27, i_push, i_ild, i_ald, i_ist, i_ast, i_inc, i_bin, i_un, i_divs, i_i2l, i_lshl, i_lor, i_dup, i_dup2, i_pop, i_if, i_cmp, i_nul, i_vret, i_iret, i_zret, i_aret, i_keep, keep, lget, lset, ent, i_getI, i_getJ, i_getR, i_getN, i_putI, i_putZ, i_putJ, i_putR, i_iald, i_bald, i_alen, i_aald, i_iast, i_bast, i_aast, i_new, i_newa, i_anew, i_oini, i_callS, i_callV, i_callI, popn, sh4, i_sw, swP, i_copy, i_binS, List.map, Option.toList_none, Option.toList_some, List.append, List.nil_append, List.cons_append, List.length_cons, List.length_nil, List.replicate, Nat.sub_self, Nat.reduceSub, Nat.reduceAdd, hK_pI, hL_pI, hI_pI, hR_pI, hJ_pI, hT_pI, hS_pI, hK_pR, hL_pR, hI_pR, hR_pR, hJ_pR, hT_pR, hS_pR, hK_pJ, hL_pJ, hI_pJ, hR_pJ, hJ_pJ, hT_pJ, hS_pJ, hK_wI, hL_wI, hI_wI, hR_wI, hJ_wI, hT_wI, hS_wI, eq_self, and_true, true_and, and_false, false_and, or_true, true_or, or_false, false_or, if_true, if_false, not_true_eq_false, not_false_eq_true, forall_const, implies_true, false_implies, true_implies, Option.some.injEq, forall_eq', exists_eq_left', reduceCtorEq, Nat.reduceEqDiff, c1, T_X12_in, T_X12_ones, T_X11_within, T_X11_bit, T_X11_isIn, T_X11_oneIfIn, T_J6_bitCount_0f7a4]
      exact this
    have hb1 : T_X10_byteAt [.ref k, .int (nI a)] (nmH h k i b a B) (fun r h' => c_X10_readNumber_27 Q [some (.ref k), some (.int (nI i)), some (.int (nI b))] (r.toList ++ []) h') := bat_go hl2 hk2 ht2 (by omega) (by rw [hsb]; exact h27)
    refine s_X10_readNumber_5 Q _ _ _ ?_
    generalize nmH h k i b a B = H at hl2 hk2 e1 e2 hb1 ⊢
    have hl := hl2
    have hf := hk2.f
    simp only [b_X10_readNumber_5, lx_pI, lx_wI, lx_t hl, lx_k hl, lx_r hl, lx_l hl, i_push, i_ild, i_ald, i_ist, i_ast, i_inc, i_bin, i_un, i_divs, i_i2l, i_lshl, i_lor, i_dup, i_dup2, i_pop, i_if, i_cmp, i_nul, i_vret, i_iret, i_zret, i_aret, i_keep, keep, lget, lset, ent, i_getI, i_getJ, i_getR, i_getN, i_putI, i_putZ, i_putJ, i_putR, i_iald, i_bald, i_alen, i_aald, i_iast, i_bast, i_aast, i_new, i_newa, i_anew, i_oini, i_callS, i_callV, i_callI, popn, sh4, i_sw, swP, i_copy, i_binS, List.map, Option.toList_none, Option.toList_some, List.append, List.nil_append, List.cons_append, List.length_cons, List.length_nil, List.replicate, Nat.sub_self, Nat.reduceSub, Nat.reduceAdd, hK_pI, hL_pI, hI_pI, hR_pI, hJ_pI, hT_pI, hS_pI, hK_pR, hL_pR, hI_pR, hR_pR, hJ_pR, hT_pR, hS_pR, hK_pJ, hL_pJ, hI_pJ, hR_pJ, hJ_pJ, hT_pJ, hS_pJ, hK_wI, hL_wI, hI_wI, hR_wI, hJ_wI, hT_wI, hS_wI, eq_self, and_true, true_and, and_false, false_and, or_true, true_or, or_false, false_or, if_true, if_false, not_true_eq_false, not_false_eq_true, forall_const, implies_true, false_implies, true_implies, Option.some.injEq, forall_eq', exists_eq_left', reduceCtorEq, Nat.reduceEqDiff, c1, T_X12_in, T_X12_ones, T_X11_within, T_X11_bit, T_X11_isIn, T_X11_oneIfIn, T_J6_bitCount_0f7a4, hf, e1, e2]
    exact ⟨fun z => absurd z (nI_ge (by omega) (by omega)), fun _ => hb1⟩
set_option maxRecDepth 100000 in
set_option maxHeartbeats 4000000 in
theorem ok_X10_readNumber : ctr 1 MX10_readNumber T_X10_readNumber := by
  refine ctr_of pn_X10 wc_X10_readNumber (fun av h Q hT => ?_)
  unfold T_X10_readNumber at hT
  split at hT
  · rename_i k x
    refine ⟨⟨by simp [Value.category], Nat.le_of_ble_eq_true rfl⟩, s_X10_readNumber_0 Q _ _ _ ?_⟩
    obtain ⟨hl, B, L, b, i, hk, ht, hb, hdi, rfl, hi, hk1, hk3, hq⟩ := hT
    have hf := hk.f
    have := rn_5 Q h hl k L hk B ht b i hi hq (L - b) b rfl (Nat.le_refl _) (by omega) rfl
    have e : nmH h k i b b B = h := by
      unfold nmH
      rw [pI_same hk1, Nat.sub_self]
      exact pI_same hk3
    rw [e] at this
    simp only [MX10_readNumber, b_X10_readNumber_0, lx_pI, lx_wI, lx_t hl, lx_k hl, lx_r hl, lx_l hl, i_push, i_ild, i_ald, i_ist, i_ast, i_inc, i_bin, i_un, i_divs, i_i2l, i_lshl, i_lor, i_dup, i_dup2, i_pop, i_if, i_cmp, i_nul, i_vret, i_iret, i_zret, i_aret, i_keep, keep, lget, lset, ent, i_getI, i_getJ, i_getR, i_getN, i_putI, i_putZ, i_putJ, i_putR, i_iald, i_bald, i_alen, i_aald, i_iast, i_bast, i_aast, i_new, i_newa, i_anew, i_oini, i_callS, i_callV, i_callI, popn, sh4, i_sw, swP, i_copy, i_binS, List.map, Option.toList_none, Option.toList_some, List.append, List.nil_append, List.cons_append, List.length_cons, List.length_nil, List.replicate, Nat.sub_self, Nat.reduceSub, Nat.reduceAdd, hK_pI, hL_pI, hI_pI, hR_pI, hJ_pI, hT_pI, hS_pI, hK_pR, hL_pR, hI_pR, hR_pR, hJ_pR, hT_pR, hS_pR, hK_pJ, hL_pJ, hI_pJ, hR_pJ, hJ_pJ, hT_pJ, hS_pJ, hK_wI, hL_wI, hI_wI, hR_wI, hJ_wI, hT_wI, hS_wI, eq_self, and_true, true_and, and_false, false_and, or_true, true_or, or_false, false_or, if_true, if_false, not_true_eq_false, not_false_eq_true, forall_const, implies_true, false_implies, true_implies, Option.some.injEq, forall_eq', exists_eq_left', reduceCtorEq, Nat.reduceEqDiff, c1, T_X12_in, T_X12_ones, T_X11_within, T_X11_bit, T_X11_isIn, T_X11_oneIfIn, T_J6_bitCount_0f7a4, hf, hk1]
    exact this
  · exact hT.elim
/-! a token -/
def T_X10_readToken : Tr := fun av h Q => match av with
  | [.ref k, .int x] => LayX h ∧ ∃ B L b i, LayT h k L ∧ TpC (hI h) B L ∧ b ≤ L ∧ x = nI i ∧ i ≤ L ∧ hI h k 1 = nI b ∧ hI h (k + 3) i = 0 ∧ ∀ f, (f k 1 = nI (tkE B L b) ∧ (Kd B L b = 2 → f (k + 3) i = tkV B L b) ∧ ∀ a j, ¬ (a = k ∧ j = 1) → ¬ (a = k + 3 ∧ j = i) → f a j = hI h a j) → Q (some (.int (Kd B L b))) (wI h f)
  | _ => False
def L_X10_readToken : List UInt8 := [42, 180, 0, 34, 42, 180, 0, 9, 180, 0, 15, 161, 0, 5, 4, 172, 42, 42, 180, 0, 34, 182, 0, 48, 61, 28, 184, 0, 51, 153, 0, 8, 42, 182, 0, 55, 172, 28, 184, 0, 59, 153, 0, 9, 42, 27, 182, 0, 62, 172, 42, 89, 180, 0, 34, 4, 96, 181, 0, 34, 28, 184, 0, 65, 153, 0, 7, 28, 167, 0, 4, 3, 172]
theorem Lc_X10_readToken : MX10_readToken.2.1 = ⟨L_X10_readToken.toArray⟩ := rfl
theorem D_X10_readToken_0 : dseq MX10_readToken.2.1 0 [(.aload_n 0, 1), (.getfield 34, 3), (.aload_n 0, 1), (.getfield 9, 3), (.getfield 15, 3), (.if_icmp .lt 5, 3), (.iconst 1, 1), (.ireturn, 1)] := dq Lc_X10_readToken 0 _ (by decide +kernel)
theorem D_X10_readToken_16 : dseq MX10_readToken.2.1 16 [(.aload_n 0, 1), (.aload_n 0, 1), (.getfield 34, 3), (.invokevirtual 48, 3), (.istore_n 2, 1), (.iload_n 2, 1), (.invokestatic 51, 3), (.ifCond .eq 8, 3), (.aload_n 0, 1), (.invokevirtual 55, 3), (.ireturn, 1)] := dq Lc_X10_readToken 16 _ (by decide +kernel)
theorem D_X10_readToken_37 : dseq MX10_readToken.2.1 37 [(.iload_n 2, 1), (.invokestatic 59, 3), (.ifCond .eq 9, 3), (.aload_n 0, 1), (.iload_n 1, 1), (.invokevirtual 62, 3), (.ireturn, 1)] := dq Lc_X10_readToken 37 _ (by decide +kernel)
theorem D_X10_readToken_50 : dseq MX10_readToken.2.1 50 [(.aload_n 0, 1), (.dup, 1), (.getfield 34, 3), (.iconst 1, 1), (.iadd, 1), (.putfield 34, 3), (.iload_n 2, 1), (.invokestatic 65, 3), (.ifCond .eq 7, 3), (.iload_n 2, 1), (.goto 4, 3)] := dq Lc_X10_readToken 50 _ (by decide +kernel)
theorem D_X10_readToken_71 : dseq MX10_readToken.2.1 71 [(.iconst 0, 1), (.ireturn, 1)] := dq Lc_X10_readToken 71 _ (by decide +kernel)
theorem D_X10_readToken_72 : dseq MX10_readToken.2.1 72 [(.ireturn, 1)] := dq Lc_X10_readToken 72 _ (by decide +kernel)
def c_X10_readToken_64 (Q : Option Value → Hp → Prop) : Kt := i_if (fun x => x = 0) (i_push (.int 0) (i_iret Q)) (i_ild 2 (i_iret Q))
def c_X10_readToken_41 (Q : Option Value → Hp → Prop) : Kt := i_if (fun x => x = 0) (i_ald 0 (i_dup (i_getI 10 1 (i_push (.int 1) (i_bin (fun x y => x + y) (i_putI 10 1 (i_ild 2 (i_callS 1 T_X10_isSign (c_X10_readToken_64 Q))))))))) (i_ald 0 (i_ild 1 (i_callV 10 1 T_X10_readNumber (i_iret Q))))
def c_X10_readToken_29 (Q : Option Value → Hp → Prop) : Kt := i_if (fun x => x = 0) (i_ild 2 (i_callS 1 T_X10_isDigit (c_X10_readToken_41 Q))) (i_ald 0 (i_callV 10 0 T_X10_readWord (i_iret Q)))
def c_X10_readToken_24 (Q : Option Value → Hp → Prop) : Kt := i_ist 2 (i_ild 2 (i_callS 1 T_X10_isLetter (c_X10_readToken_29 Q)))
def b_X10_readToken_0 (Q : Option Value → Hp → Prop) : Kt := i_ald 0 (i_getI 10 1 (i_ald 0 (i_getR 10 0 (i_getI 9 1 (i_cmp (fun x y => x < y) (i_ald 0 (i_ald 0 (i_getI 10 1 (i_callV 10 1 T_X10_byteAt (c_X10_readToken_24 Q))))) (i_push (.int 1) (i_iret Q)))))))
set_option maxRecDepth 100000 in
theorem s_X10_readToken_0 (Q : Option Value → Hp → Prop) : ∀ A st h, b_X10_readToken_0 Q A st h → wp 7 MX10_readToken Q 0 A st h := (q1 (s_aldn (n := 0) (i := 0) rfl) D_X10_readToken_0 fun D => (qC fl_X10_34 rfl D fun D => (q1 (s_aldn (n := 0) (i := 0) rfl) D fun D => (qC fl_X10_9 rfl D fun D => (qC fl_X10_15 rfl D fun D => (qB s_cmplt 16 (by decide) D (q1 (s_aldn (n := 0) (i := 0) rfl) D_X10_readToken_16 fun D => (q1 (s_aldn (n := 0) (i := 0) rfl) D fun D => (qC fl_X10_34 rfl D fun D => (qX (s_callV kX10 rfl ok_X10_byteAt mo_X10_byteAt (ch_2_9_ok.2.1.1 rfl) (ch_2_9_ok.2.2.2.1.1 rfl) (pv_0.2.1)) rfl (by decide) D fun D => (qL (s_istn (n := 2) (i := 2) rfl) (by decide) D fun D => (q1 (s_ildn (n := 2) (i := 2) rfl) D fun D => (qX (s_callS ok_X10_isLetter mo_X10_isLetter (ch_2_9_ok.2.2.2.2.2.2.2.2.2.1.1 rfl) (ch_2_9_ok.2.2.2.2.2.2.2.2.2.2.1.1 rfl)) rfl (by decide) D fun D => (qB s_ifeq 37 (by decide) D (q1 (s_ildn (n := 2) (i := 2) rfl) D_X10_readToken_37 fun D => (qX (s_callS ok_X10_isDigit mo_X10_isDigit (ch_2_14_ok.2.2.2.2.2.2.2.2.2.2.2.2.1.1 rfl) (ch_2_14_ok.2.2.2.2.2.2.2.2.2.2.2.2.2.1.1 rfl)) rfl (by decide) D fun D => (qB s_ifeq 50 (by decide) D (q1 (s_aldn (n := 0) (i := 0) rfl) D_X10_readToken_50 fun D => (q1 s_dup D fun D => (qC fl_X10_34 rfl D fun D => (q1 (s_iconst (n := 1) (v := 1) (by decide)) D fun D => (q1 s_add D fun D => (qP pl_X10_34 rfl (Or.inl rfl) D fun D => (q1 (s_ildn (n := 2) (i := 2) rfl) D fun D => (qX (s_callS ok_X10_isSign mo_X10_isSign (ch_3_0_ok.2.2.2.1.1 rfl) (ch_3_0_ok.2.2.2.2.1.1 rfl)) rfl (by decide) D fun D => (qB s_ifeq 71 (by decide) D (q1 (s_iconst (n := 0) (v := 0) (by decide)) D_X10_readToken_71 fun D => (qI rfl D)) fun D => (q1 (s_ildn (n := 2) (i := 2) rfl) D fun D => (qG 72 (by decide) D (qI rfl D_X10_readToken_72)))))))))))) fun D => (q1 (s_aldn (n := 0) (i := 0) rfl) D fun D => (q1 (s_ildn (n := 1) (i := 1) rfl) D fun D => (qX (s_callV kX10 rfl ok_X10_readNumber mo_X10_readNumber (ch_2_14_ok.2.2.2.2.2.2.2.2.2.2.2.2.2.2.2.1.1 rfl) (ch_3_0_ok.2.1.1 rfl) (pv_0.2.2.2.2.2.2.2.1)) rfl (by decide) D fun D => (qI rfl D))))))) fun D => (q1 (s_aldn (n := 0) (i := 0) rfl) D fun D => (qX (s_callV kX10 rfl ok_X10_readWord mo_X10_readWord (ch_2_9_ok.2.2.2.2.2.2.2.2.2.2.2.2.1.1 rfl) (ch_2_9_ok.2.2.2.2.2.2.2.2.2.2.2.2.2.2.1.1 rfl) (pv_0.2.2.2.1)) rfl (by decide) D fun D => (qI rfl D))))))))))) fun D => (q1 (s_iconst (n := 1) (v := 1) (by decide)) D fun D => (qI rfl D))))))))

set_option maxRecDepth 100000 in
set_option maxHeartbeats 400000 in
theorem rt_0 (Q : Option Value → Hp → Prop) (h : Hp) (hl : LayX h) (k L : Nat) (hk : LayT h k L) (B : Nat → Int32) (ht : TpC (hI h) B L) (b i : Nat) (hb : b ≤ L) (hi : i ≤ L) (hk1 : hI h k 1 = nI b) (hk3 : hI h (k + 3) i = 0) (hq : ∀ f, (f k 1 = nI (tkE B L b) ∧ (Kd B L b = 2 → f (k + 3) i = tkV B L b) ∧ ∀ a j, ¬ (a = k ∧ j = 1) → ¬ (a = k + 3 ∧ j = i) → f a j = hI h a j) → Q (some (.int (Kd B L b))) (wI h f)) : b_X10_readToken_0 Q [some (.ref k), some (.int (nI i)), none] [] h := by
  have hf := hk.f
  have hk90 := hk.1
  have hL := ht.1
  have e2 := ht.2.1
  have hlt : nI b < nI L ↔ b < L := nI_ltI (by omega) (by omega)
  by_cases c : b < L
  · have hsb : sB B L b = B b := if_pos c
    have hend : ∀ v, Kd B L b = v → Q (some (.int v)) (pI h k 1 (nI (tkE B L b))) ∨ Kd B L b = 2 → True := fun _ _ _ => trivial
    -- a word
    have hw : isLe (B b) → T_X10_readWord [.ref k] h (fun r h' => i_iret Q [some (.ref k), some (.int (nI i)), some (.int (B b))] (r.toList ++ []) h') := fun z => by
      have eK : Kd B L b = wKd (tkW B L b) := by unfold Kd; rw [cif_t c, cif_t z]
      have eE : tkE B L b = eL B L b := by unfold tkE; rw [cif_t c, cif_t z]
      refine ⟨hl, B, L, b, hk, ht, c, z, hk1, ?_⟩
      have hgo := hq (u2 (hI h) k 1 (nI (tkE B L b))) ⟨u2_eq, fun y => ?_, fun a j n1 _ => u2_ne n1⟩
      · rw [eK, eE] at hgo; exact hgo
      · exfalso
        rw [eK] at y
        rcases wKd_rng (tkW B L b) with w | ⟨n, n1, n2, w⟩
        · rw [w] at y; exact absurd y (by decide)
        · rw [w] at y
          have := (nI_inj (a := n) (b := 2) (by omega) (by decide)).mp y
          omega
    -- a number
    have hn : ¬ isLe (B b) → isDi (B b) → T_X10_readNumber [.ref k, .int (nI i)] h (fun r h' => i_iret Q [some (.ref k), some (.int (nI i)), some (.int (B b))] (r.toList ++ []) h') := fun z y => by
      have eK : Kd B L b = if 4 < eD B L b - b then 0 else 2 := by unfold Kd; rw [cif_t c, cif_f z, cif_t y]
      have eE : tkE B L b = eD B L b := by unfold tkE; rw [cif_t c, cif_f z, cif_t y]
      have eV : tkV B L b = nv B b (eD B L b - b) := by unfold tkV; rw [cif_t c, cif_f z, cif_t y]
      refine ⟨hl, B, L, b, i, hk, ht, c, y, rfl, hi, hk1, hk3, ?_⟩
      have hgo := hq (u2 (u2 (hI h) k 1 (nI (tkE B L b))) (k + 3) i (tkV B L b)) ⟨by rw [u2_ne (by omega), u2_eq], fun _ => u2_eq, fun a j n1 n2 => by rw [u2_ne n2, u2_ne n1]⟩
      rw [eK, eE, eV] at hgo
      exact hgo
    -- a sign, or none
    have hs : ¬ isLe (B b) → ¬ isDi (B b) → Q (some (.int (cif (isSg (B b)) (B b) 0))) (pI h k 1 (nI (b + 1))) := fun z y => by
      have eK : Kd B L b = cif (isSg (B b)) (B b) 0 := by unfold Kd; rw [cif_t c, cif_f z, cif_f y]
      have eE : tkE B L b = b + 1 := by unfold tkE; rw [cif_t c, cif_f z, cif_f y]
      have hgo := hq (u2 (hI h) k 1 (nI (tkE B L b))) ⟨u2_eq, fun w => ?_, fun a j n1 _ => u2_ne n1⟩
      · rw [eK, eE] at hgo; exact hgo
      · exfalso
        rw [eK] at w
        by_cases s : isSg (B b)
        · rw [cif_t s] at w
          obtain ⟨n, n1, n2, e⟩ := isSg_of s
          rw [e] at w
          have := (nI_inj (a := n) (b := 2) (by omega) (by decide)).mp w
          omega
        · rw [cif_f s] at w; exact absurd w (by decide)
    have h64 : ∀ v : Int32, (v = 1 ∧ isSg (B b) ∨ v = 0 ∧ ¬ isSg (B b)) → ¬ isLe (B b) → ¬ isDi (B b) → c_X10_readToken_64 Q [some (.ref k), some (.int (nI i)), some (.int (B b))] [.int v] (pI h k 1 (nI (b + 1))) := by
      intro v hv z y
      have hgo := hs z y
      rcases hv with ⟨rfl, s⟩ | ⟨rfl, s⟩
      · rw [cif_t s] at hgo
        generalize pI h k 1 (nI (b + 1)) = H at hgo ⊢
        simp only [c_X10_readToken_64, i_push, i_ild, i_ald, i_ist, i_ast, i_inc, i_bin, i_un, i_divs, i_i2l, i_lshl, i_lor, i_dup, i_dup2, i_pop, i_if, i_cmp, i_nul, i_vret, i_iret, i_zret, i_aret, i_keep, keep, lget, lset, ent, i_getI, i_getJ, i_getR, i_getN, i_putI, i_putZ, i_putJ, i_putR, i_iald, i_bald, i_alen, i_aald, i_iast, i_bast, i_aast, i_new, i_newa, i_anew, i_oini, i_callS, i_callV, i_callI, popn, sh4, i_sw, swP, i_copy, i_binS, List.map, Option.toList_none, Option.toList_some, List.append, List.nil_append, List.cons_append, List.length_cons, List.length_nil, List.replicate, Nat.sub_self, Nat.reduceSub, Nat.reduceAdd, hK_pI, hL_pI, hI_pI, hR_pI, hJ_pI, hT_pI, hS_pI, hK_pR, hL_pR, hI_pR, hR_pR, hJ_pR, hT_pR, hS_pR, hK_pJ, hL_pJ, hI_pJ, hR_pJ, hJ_pJ, hT_pJ, hS_pJ, hK_wI, hL_wI, hI_wI, hR_wI, hJ_wI, hT_wI, hS_wI, eq_self, and_true, true_and, and_false, false_and, or_true, true_or, or_false, false_or, if_true, if_false, not_true_eq_false, not_false_eq_true, forall_const, implies_true, false_implies, true_implies, Option.some.injEq, forall_eq', exists_eq_left', reduceCtorEq, Nat.reduceEqDiff, c1, T_X12_in, T_X12_ones, T_X11_within, T_X11_bit, T_X11_isIn, T_X11_oneIfIn, T_J6_bitCount_0f7a4, show ¬ (1 : Int32) = 0 by decide]
        exact hgo
      · rw [cif_f s] at hgo
        generalize pI h k 1 (nI (b + 1)) = H at hgo ⊢
        simp only [c_X10_readToken_64, i_push, i_ild, i_ald, i_ist, i_ast, i_inc, i_bin, i_un, i_divs, i_i2l, i_lshl, i_lor, i_dup, i_dup2, i_pop, i_if, i_cmp, i_nul, i_vret, i_iret, i_zret, i_aret, i_keep, keep, lget, lset, ent, i_getI, i_getJ, i_getR, i_getN, i_putI, i_putZ, i_putJ, i_putR, i_iald, i_bald, i_alen, i_aald, i_iast, i_bast, i_aast, i_new, i_newa, i_anew, i_oini, i_callS, i_callV, i_callI, popn, sh4, i_sw, swP, i_copy, i_binS, List.map, Option.toList_none, Option.toList_some, List.append, List.nil_append, List.cons_append, List.length_cons, List.length_nil, List.replicate, Nat.sub_self, Nat.reduceSub, Nat.reduceAdd, hK_pI, hL_pI, hI_pI, hR_pI, hJ_pI, hT_pI, hS_pI, hK_pR, hL_pR, hI_pR, hR_pR, hJ_pR, hT_pR, hS_pR, hK_pJ, hL_pJ, hI_pJ, hR_pJ, hJ_pJ, hT_pJ, hS_pJ, hK_wI, hL_wI, hI_wI, hR_wI, hJ_wI, hT_wI, hS_wI, eq_self, and_true, true_and, and_false, false_and, or_true, true_or, or_false, false_or, if_true, if_false, not_true_eq_false, not_false_eq_true, forall_const, implies_true, false_implies, true_implies, Option.some.injEq, forall_eq', exists_eq_left', reduceCtorEq, Nat.reduceEqDiff, c1, T_X12_in, T_X12_ones, T_X11_within, T_X11_bit, T_X11_isIn, T_X11_oneIfIn, T_J6_bitCount_0f7a4]
        exact hgo
    have h41 : ∀ v : Int32, (v = 1 ∧ isDi (B b) ∨ v = 0 ∧ ¬ isDi (B b)) → ¬ isLe (B b) → c_X10_readToken_41 Q [some (.ref k), some (.int (nI i)), some (.int (B b))] [.int v] h := by
      intro v hv z
      rcases hv with ⟨rfl, y⟩ | ⟨rfl, y⟩
      · have hgo := hn z y
        simp only [c_X10_readToken_41, lx_pI, lx_wI, lx_t hl, lx_k hl, lx_r hl, lx_l hl, i_push, i_ild, i_ald, i_ist, i_ast, i_inc, i_bin, i_un, i_divs, i_i2l, i_lshl, i_lor, i_dup, i_dup2, i_pop, i_if, i_cmp, i_nul, i_vret, i_iret, i_zret, i_aret, i_keep, keep, lget, lset, ent, i_getI, i_getJ, i_getR, i_getN, i_putI, i_putZ, i_putJ, i_putR, i_iald, i_bald, i_alen, i_aald, i_iast, i_bast, i_aast, i_new, i_newa, i_anew, i_oini, i_callS, i_callV, i_callI, popn, sh4, i_sw, swP, i_copy, i_binS, List.map, Option.toList_none, Option.toList_some, List.append, List.nil_append, List.cons_append, List.length_cons, List.length_nil, List.replicate, Nat.sub_self, Nat.reduceSub, Nat.reduceAdd, hK_pI, hL_pI, hI_pI, hR_pI, hJ_pI, hT_pI, hS_pI, hK_pR, hL_pR, hI_pR, hR_pR, hJ_pR, hT_pR, hS_pR, hK_pJ, hL_pJ, hI_pJ, hR_pJ, hJ_pJ, hT_pJ, hS_pJ, hK_wI, hL_wI, hI_wI, hR_wI, hJ_wI, hT_wI, hS_wI, eq_self, and_true, true_and, and_false, false_and, or_true, true_or, or_false, false_or, if_true, if_false, not_true_eq_false, not_false_eq_true, forall_const, implies_true, false_implies, true_implies, Option.some.injEq, forall_eq', exists_eq_left', reduceCtorEq, Nat.reduceEqDiff, c1, T_X12_in, T_X12_ones, T_X11_within, T_X11_bit, T_X11_isIn, T_X11_oneIfIn, T_J6_bitCount_0f7a4, hf, show ¬ (1 : Int32) = 0 by decide]
        exact hgo
      · have hgo := sgn_go (h := pI h k 1 (nI (b + 1))) (x := B b) (Q := fun r h' => c_X10_readToken_64 Q [some (.ref k), some (.int (nI i)), some (.int (B b))] (r.toList ++ []) h') (fun w => h64 1 (Or.inl ⟨rfl, w⟩) z y) (fun w => h64 0 (Or.inr ⟨rfl, w⟩) z y)
        simp only [c_X10_readToken_41, lx_pI, lx_wI, lx_t hl, lx_k hl, lx_r hl, lx_l hl, i_push, i_ild, i_ald, i_ist, i_ast, i_inc, i_bin, i_un, i_divs, i_i2l, i_lshl, i_lor, i_dup, i_dup2, i_pop, i_if, i_cmp, i_nul, i_vret, i_iret, i_zret, i_aret, i_keep, keep, lget, lset, ent, i_getI, i_getJ, i_getR, i_getN, i_putI, i_putZ, i_putJ, i_putR, i_iald, i_bald, i_alen, i_aald, i_iast, i_bast, i_aast, i_new, i_newa, i_anew, i_oini, i_callS, i_callV, i_callI, popn, sh4, i_sw, swP, i_copy, i_binS, List.map, Option.toList_none, Option.toList_some, List.append, List.nil_append, List.cons_append, List.length_cons, List.length_nil, List.replicate, Nat.sub_self, Nat.reduceSub, Nat.reduceAdd, hK_pI, hL_pI, hI_pI, hR_pI, hJ_pI, hT_pI, hS_pI, hK_pR, hL_pR, hI_pR, hR_pR, hJ_pR, hT_pR, hS_pR, hK_pJ, hL_pJ, hI_pJ, hR_pJ, hJ_pJ, hT_pJ, hS_pJ, hK_wI, hL_wI, hI_wI, hR_wI, hJ_wI, hT_wI, hS_wI, eq_self, and_true, true_and, and_false, false_and, or_true, true_or, or_false, false_or, if_true, if_false, not_true_eq_false, not_false_eq_true, forall_const, implies_true, false_implies, true_implies, Option.some.injEq, forall_eq', exists_eq_left', reduceCtorEq, Nat.reduceEqDiff, c1, T_X12_in, T_X12_ones, T_X11_within, T_X11_bit, T_X11_isIn, T_X11_oneIfIn, T_J6_bitCount_0f7a4, hf, hk1, nI_1]
        exact hgo
    have h29 : ∀ v : Int32, (v = 1 ∧ isLe (B b) ∨ v = 0 ∧ ¬ isLe (B b)) → c_X10_readToken_29 Q [some (.ref k), some (.int (nI i)), some (.int (B b))] [.int v] h := by
      intro v hv
      rcases hv with ⟨rfl, y⟩ | ⟨rfl, y⟩
      · have hgo := hw y
        simp only [c_X10_readToken_29, lx_pI, lx_wI, lx_t hl, lx_k hl, lx_r hl, lx_l hl, i_push, i_ild, i_ald, i_ist, i_ast, i_inc, i_bin, i_un, i_divs, i_i2l, i_lshl, i_lor, i_dup, i_dup2, i_pop, i_if, i_cmp, i_nul, i_vret, i_iret, i_zret, i_aret, i_keep, keep, lget, lset, ent, i_getI, i_getJ, i_getR, i_getN, i_putI, i_putZ, i_putJ, i_putR, i_iald, i_bald, i_alen, i_aald, i_iast, i_bast, i_aast, i_new, i_newa, i_anew, i_oini, i_callS, i_callV, i_callI, popn, sh4, i_sw, swP, i_copy, i_binS, List.map, Option.toList_none, Option.toList_some, List.append, List.nil_append, List.cons_append, List.length_cons, List.length_nil, List.replicate, Nat.sub_self, Nat.reduceSub, Nat.reduceAdd, hK_pI, hL_pI, hI_pI, hR_pI, hJ_pI, hT_pI, hS_pI, hK_pR, hL_pR, hI_pR, hR_pR, hJ_pR, hT_pR, hS_pR, hK_pJ, hL_pJ, hI_pJ, hR_pJ, hJ_pJ, hT_pJ, hS_pJ, hK_wI, hL_wI, hI_wI, hR_wI, hJ_wI, hT_wI, hS_wI, eq_self, and_true, true_and, and_false, false_and, or_true, true_or, or_false, false_or, if_true, if_false, not_true_eq_false, not_false_eq_true, forall_const, implies_true, false_implies, true_implies, Option.some.injEq, forall_eq', exists_eq_left', reduceCtorEq, Nat.reduceEqDiff, c1, T_X12_in, T_X12_ones, T_X11_within, T_X11_bit, T_X11_isIn, T_X11_oneIfIn, T_J6_bitCount_0f7a4, hf, show ¬ (1 : Int32) = 0 by decide]
        exact hgo
      · have hgo := dig_go (h := h) (x := B b) (Q := fun r h' => c_X10_readToken_41 Q [some (.ref k), some (.int (nI i)), some (.int (B b))] (r.toList ++ []) h') (fun w => h41 1 (Or.inl ⟨rfl, w⟩) y) (fun w => h41 0 (Or.inr ⟨rfl, w⟩) y)
        simp only [c_X10_readToken_29, lx_pI, lx_wI, lx_t hl, lx_k hl, lx_r hl, lx_l hl, i_push, i_ild, i_ald, i_ist, i_ast, i_inc, i_bin, i_un, i_divs, i_i2l, i_lshl, i_lor, i_dup, i_dup2, i_pop, i_if, i_cmp, i_nul, i_vret, i_iret, i_zret, i_aret, i_keep, keep, lget, lset, ent, i_getI, i_getJ, i_getR, i_getN, i_putI, i_putZ, i_putJ, i_putR, i_iald, i_bald, i_alen, i_aald, i_iast, i_bast, i_aast, i_new, i_newa, i_anew, i_oini, i_callS, i_callV, i_callI, popn, sh4, i_sw, swP, i_copy, i_binS, List.map, Option.toList_none, Option.toList_some, List.append, List.nil_append, List.cons_append, List.length_cons, List.length_nil, List.replicate, Nat.sub_self, Nat.reduceSub, Nat.reduceAdd, hK_pI, hL_pI, hI_pI, hR_pI, hJ_pI, hT_pI, hS_pI, hK_pR, hL_pR, hI_pR, hR_pR, hJ_pR, hT_pR, hS_pR, hK_pJ, hL_pJ, hI_pJ, hR_pJ, hJ_pJ, hT_pJ, hS_pJ, hK_wI, hL_wI, hI_wI, hR_wI, hJ_wI, hT_wI, hS_wI, eq_self, and_true, true_and, and_false, false_and, or_true, true_or, or_false, false_or, if_true, if_false, not_true_eq_false, not_false_eq_true, forall_const, implies_true, false_implies, true_implies, Option.some.injEq, forall_eq', exists_eq_left', reduceCtorEq, Nat.reduceEqDiff, c1, T_X12_in, T_X12_ones, T_X11_within, T_X11_bit, T_X11_isIn, T_X11_oneIfIn, T_J6_bitCount_0f7a4, hf]
        exact hgo
    have h24 : c_X10_readToken_24 Q [some (.ref k), some (.int (nI i)), none] [.int (B b)] h := by
      have hgo := let_go (h := h) (x := B b) (Q := fun r h' => c_X10_readToken_29 Q [some (.ref k), some (.int (nI i)), some (.int (B b))] (r.toList ++ []) h') (fun w => h29 1 (Or.inl ⟨rfl, w⟩)) (fun w => h29 0 (Or.inr ⟨rfl, w⟩))
      simp only [c_X10_readToken_24, i_push, i_ild, i_ald, i_ist, i_ast, i_inc, i_bin, i_un, i_divs, i_i2l, i_lshl, i_lor, i_dup, i_dup2, i_pop, i_if, i_cmp, i_nul, i_vret, i_iret, i_zret, i_aret, i_keep, keep, lget, lset, ent, i_getI, i_getJ, i_getR, i_getN, i_putI, i_putZ, i_putJ, i_putR, i_iald, i_bald, i_alen, i_aald, i_iast, i_bast, i_aast, i_new, i_newa, i_anew, i_oini, i_callS, i_callV, i_callI, popn, sh4, i_sw, swP, i_copy, i_binS, List.map, Option.toList_none, Option.toList_some, List.append, List.nil_append, List.cons_append, List.length_cons, List.length_nil, List.replicate, Nat.sub_self, Nat.reduceSub, Nat.reduceAdd, hK_pI, hL_pI, hI_pI, hR_pI, hJ_pI, hT_pI, hS_pI, hK_pR, hL_pR, hI_pR, hR_pR, hJ_pR, hT_pR, hS_pR, hK_pJ, hL_pJ, hI_pJ, hR_pJ, hJ_pJ, hT_pJ, hS_pJ, hK_wI, hL_wI, hI_wI, hR_wI, hJ_wI, hT_wI, hS_wI, eq_self, and_true, true_and, and_false, false_and, or_true, true_or, or_false, false_or, if_true, if_false, not_true_eq_false, not_false_eq_true, forall_const, implies_true, false_implies, true_implies, Option.some.injEq, forall_eq', exists_eq_left', reduceCtorEq, Nat.reduceEqDiff, c1, T_X12_in, T_X12_ones, T_X11_within, T_X11_bit, T_X11_isIn, T_X11_oneIfIn, T_J6_bitCount_0f7a4]
      exact hgo
    have hb1 : T_X10_byteAt [.ref k, .int (nI b)] h (fun r h' => c_X10_readToken_24 Q [some (.ref k), some (.int (nI i)), none] (r.toList ++ []) h') := bat_go hl hk ht (by omega) (by rw [hsb]; exact h24)
    simp only [b_X10_readToken_0, lx_pI, lx_wI, lx_t hl, lx_k hl, lx_r hl, lx_l hl, i_push, i_ild, i_ald, i_ist, i_ast, i_inc, i_bin, i_un, i_divs, i_i2l, i_lshl, i_lor, i_dup, i_dup2, i_pop, i_if, i_cmp, i_nul, i_vret, i_iret, i_zret, i_aret, i_keep, keep, lget, lset, ent, i_getI, i_getJ, i_getR, i_getN, i_putI, i_putZ, i_putJ, i_putR, i_iald, i_bald, i_alen, i_aald, i_iast, i_bast, i_aast, i_new, i_newa, i_anew, i_oini, i_callS, i_callV, i_callI, popn, sh4, i_sw, swP, i_copy, i_binS, List.map, Option.toList_none, Option.toList_some, List.append, List.nil_append, List.cons_append, List.length_cons, List.length_nil, List.replicate, Nat.sub_self, Nat.reduceSub, Nat.reduceAdd, hK_pI, hL_pI, hI_pI, hR_pI, hJ_pI, hT_pI, hS_pI, hK_pR, hL_pR, hI_pR, hR_pR, hJ_pR, hT_pR, hS_pR, hK_pJ, hL_pJ, hI_pJ, hR_pJ, hJ_pJ, hT_pJ, hS_pJ, hK_wI, hL_wI, hI_wI, hR_wI, hJ_wI, hT_wI, hS_wI, eq_self, and_true, true_and, and_false, false_and, or_true, true_or, or_false, false_or, if_true, if_false, not_true_eq_false, not_false_eq_true, forall_const, implies_true, false_implies, true_implies, Option.some.injEq, forall_eq', exists_eq_left', reduceCtorEq, Nat.reduceEqDiff, c1, T_X12_in, T_X12_ones, T_X11_within, T_X11_bit, T_X11_isIn, T_X11_oneIfIn, T_J6_bitCount_0f7a4, hf, hk1, e2, hlt]
    exact ⟨fun _ => hb1, fun z => absurd c z⟩
  · have eK : Kd B L b = 1 := by unfold Kd; rw [cif_f c]
    have eE : tkE B L b = b := by unfold tkE; rw [cif_f c]
    have hgo := hq (hI h) ⟨by rw [eE]; exact hk1, fun y => by rw [eK] at y; exact absurd y (by decide), fun _ _ _ _ => rfl⟩
    rw [eK] at hgo
    have e : wI h (hI h) = h := rfl
    rw [e] at hgo
    simp only [b_X10_readToken_0, lx_pI, lx_wI, lx_t hl, lx_k hl, lx_r hl, lx_l hl, i_push, i_ild, i_ald, i_ist, i_ast, i_inc, i_bin, i_un, i_divs, i_i2l, i_lshl, i_lor, i_dup, i_dup2, i_pop, i_if, i_cmp, i_nul, i_vret, i_iret, i_zret, i_aret, i_keep, keep, lget, lset, ent, i_getI, i_getJ, i_getR, i_getN, i_putI, i_putZ, i_putJ, i_putR, i_iald, i_bald, i_alen, i_aald, i_iast, i_bast, i_aast, i_new, i_newa, i_anew, i_oini, i_callS, i_callV, i_callI, popn, sh4, i_sw, swP, i_copy, i_binS, List.map, Option.toList_none, Option.toList_some, List.append, List.nil_append, List.cons_append, List.length_cons, List.length_nil, List.replicate, Nat.sub_self, Nat.reduceSub, Nat.reduceAdd, hK_pI, hL_pI, hI_pI, hR_pI, hJ_pI, hT_pI, hS_pI, hK_pR, hL_pR, hI_pR, hR_pR, hJ_pR, hT_pR, hS_pR, hK_pJ, hL_pJ, hI_pJ, hR_pJ, hJ_pJ, hT_pJ, hS_pJ, hK_wI, hL_wI, hI_wI, hR_wI, hJ_wI, hT_wI, hS_wI, eq_self, and_true, true_and, and_false, false_and, or_true, true_or, or_false, false_or, if_true, if_false, not_true_eq_false, not_false_eq_true, forall_const, implies_true, false_implies, true_implies, Option.some.injEq, forall_eq', exists_eq_left', reduceCtorEq, Nat.reduceEqDiff, c1, T_X12_in, T_X12_ones, T_X11_within, T_X11_bit, T_X11_isIn, T_X11_oneIfIn, T_J6_bitCount_0f7a4, hf, hk1, e2, hlt]
    exact ⟨fun z => absurd z c, fun _ => hgo⟩
set_option maxRecDepth 100000 in
set_option maxHeartbeats 4000000 in
theorem ok_X10_readToken : ctr 7 MX10_readToken T_X10_readToken := by
  refine ctr_of pn_X10 wc_X10_readToken (fun av h Q hT => ?_)
  unfold T_X10_readToken at hT
  split at hT
  · rename_i k x
    refine ⟨⟨by simp [Value.category], Nat.le_of_ble_eq_true rfl⟩, s_X10_readToken_0 Q _ _ _ ?_⟩
    obtain ⟨hl, B, L, b, i, hk, ht, hb, rfl, hi, hk1, hk3, hq⟩ := hT
    exact rt_0 Q h hl k L hk B ht b i hb hi hk1 hk3 hq
  · exact hT.elim
