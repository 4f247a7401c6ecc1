/-! ===== the reference: the tape ===== -/
/-- a byte of a number, as the tape has it -/
def byt (v k : Int32) : Int32 := (v >>> (k &&& 31)).toInt8.toInt32
def f1 (h : Hp) (n : Nat) (b : Int32) : Hp := pI (pI h 45 n b) 44 2 (nI (n + 1))
def f4 (h : Hp) (n : Nat) (v : Int32) : Hp := f1 (f1 (f1 (f1 h n (byt v 24)) (n + 1) (byt v 16)) (n + 2) (byt v 8)) (n + 3) (byt v 0)
def T_X12_four : Tr := fun av h Q => match av with
  | [.ref a, .int v] => a = 44 ∧ LayM h ∧ ∃ n : Nat, hI h 44 2 = nI n ∧ n + 4 ≤ 500 ∧ Q none (f4 h n v)
  | _ => False
def L_X12_four : List UInt8 := [16, 24, 61, 28, 155, 0, 32, 42, 180, 0, 7, 42, 180, 0, 158, 27, 28, 122, 145, 84, 42, 89, 180, 0, 158, 4, 96, 181, 0, 158, 132, 2, 248, 167, 255, 226, 177]
theorem Lc_X12_four : MX12_four.2.1 = ⟨L_X12_four.toArray⟩ := rfl
theorem D_X12_four_0 : dseq MX12_four.2.1 0 [(.bipush 24, 2), (.istore_n 2, 1)] := dq Lc_X12_four 0 _ (by decide +kernel)
theorem D_X12_four_3 : dseq MX12_four.2.1 3 [(.iload_n 2, 1), (.ifCond .lt 32, 3), (.aload_n 0, 1), (.getfield 7, 3), (.aload_n 0, 1), (.getfield 158, 3), (.iload_n 1, 1), (.iload_n 2, 1), (.ishr, 1), (.i2b, 1), (.bastore, 1), (.aload_n 0, 1), (.dup, 1), (.getfield 158, 3), (.iconst 1, 1), (.iadd, 1), (.putfield 158, 3), (.iinc 2 (-8), 3), (.goto (-30), 3)] := dq Lc_X12_four 3 _ (by decide +kernel)
theorem D_X12_four_36 : dseq MX12_four.2.1 36 [(.return_, 1)] := dq Lc_X12_four 36 _ (by decide +kernel)
def b_X12_four_0 (Q : Option Value → Hp → Prop) : Kt := i_push (.int 24) (i_ist 2 (i_keep [true, true, true] (wp 0 MX12_four Q 3)))
set_option maxRecDepth 100000 in
theorem s_X12_four_0 (Q : Option Value → Hp → Prop) : ∀ A st h, b_X12_four_0 Q A st h → wp 0 MX12_four Q 0 A st h := (q1 (s_bipush (n := 24) (v := 24) (by decide)) D_X12_four_0 fun D => (qL (s_istn (n := 2) (i := 2) rfl) (by decide) D fun D => (s_keep [true, true, true] fun _ _ _ h => h)))
def b_X12_four_3 (Q : Option Value → Hp → Prop) : Kt := i_ild 2 (i_if (fun x => x < 0) (i_vret Q) (i_ald 0 (i_getR 12 1 (i_ald 0 (i_getI 12 2 (i_ild 1 (i_ild 2 (i_bin (fun x y => x >>> (y &&& 31)) (i_un (fun x => x.toInt8.toInt32) (i_bast (i_ald 0 (i_dup (i_getI 12 2 (i_push (.int 1) (i_bin (fun x y => x + y) (i_putI 12 2 (i_inc 2 (-8) (i_keep [true, true, true] (wp 0 MX12_four Q 3)))))))))))))))))))
set_option maxRecDepth 100000 in
theorem s_X12_four_3 (Q : Option Value → Hp → Prop) : ∀ A st h, b_X12_four_3 Q A st h → wp 0 MX12_four Q 3 A st h := (q1 (s_ildn (n := 2) (i := 2) rfl) D_X12_four_3 fun D => (qB s_iflt 36 (by decide) D (qV rfl D_X12_four_36) fun D => (q1 (s_aldn (n := 0) (i := 0) rfl) D fun D => (qC fl_X12_7 rfl D fun D => (q1 (s_aldn (n := 0) (i := 0) rfl) D fun D => (qC fl_X12_158 rfl D fun D => (q1 (s_ildn (n := 1) (i := 1) rfl) D fun D => (q1 (s_ildn (n := 2) (i := 2) rfl) D fun D => (q1 s_shr D fun D => (q1 s_i2b D fun D => (q1 s_bast D fun D => (q1 (s_aldn (n := 0) (i := 0) rfl) D fun D => (q1 s_dup D fun D => (qC fl_X12_158 rfl D fun D => (q1 (s_iconst (n := 1) (v := 1) (by decide)) D fun D => (q1 s_add D fun D => (qP pl_X12_158 rfl (Or.inl rfl) D fun D => (qL (s_inc (i := 2) (n := (-8)) (v := (-8)) (by decide)) (by decide) D fun D => (qG 3 (by decide) D (s_keep [true, true, true] fun _ _ _ h => h))))))))))))))))))))

theorem f1_size (h : Hp) (n : Nat) (b : Int32) : hI (f1 h n b) 44 2 = nI (n + 1) := by
  unfold f1; rw [hI_pI, if_pos ⟨rfl, rfl⟩]
theorem f1_lay {h : Hp} (hl : LayM h) (n : Nat) (b : Int32) : LayM (f1 h n b) := (hl.pI 45 n b).pI 44 2 (nI (n + 1))
theorem nar8 (x : Int32) : x.toInt8.toInt32.toInt8.toInt32 = x.toInt8.toInt32 := by simp
set_option maxRecDepth 100000 in
theorem four_1 (Q : Option Value → Hp → Prop) (h : Hp) (v k k2 : Int32) (n : Nat) (hl : LayM h) (hn : hI h 44 2 = nI n) (h5 : n < 500) (hk : ¬ k < 0) (hk2 : k + -8 = k2) (hw : wp 0 MX12_four Q 3 [some (.ref 44), some (.int v), some (.int k2)] [] (f1 h n (byt v k))) : wp 0 MX12_four Q 3 [some (.ref 44), some (.int v), some (.int k)] [] h := by
  subst hk2
  refine s_X12_four_3 Q _ _ _ ?_
  simp only [b_X12_four_3, hl, lay_pI, lay_wI, lay_pJ, lm_t hl, lm_k hl, lm_r hl, lm_l hl, i_push, i_ild, i_ald, i_ist, i_ast, i_inc, i_bin, i_un, i_divs, i_i2l, i_lshl, i_lor, i_dup, i_dup2, i_pop, i_if, i_cmp, i_nul, i_vret, i_iret, i_zret, i_aret, i_keep, keep, lget, lset, ent, i_getI, i_getJ, i_getR, i_getN, i_putI, i_putZ, i_putJ, i_putR, i_iald, i_bald, i_alen, i_aald, i_iast, i_bast, i_aast, i_new, i_newa, i_anew, i_oini, i_callS, i_callV, i_callI, popn, sh4, i_sw, swP, i_copy, i_binS, List.map, Option.toList_none, Option.toList_some, List.append, List.nil_append, List.cons_append, List.length_cons, List.length_nil, List.replicate, Nat.sub_self, Nat.reduceSub, Nat.reduceAdd, hK_pI, hL_pI, hI_pI, hR_pI, hJ_pI, hT_pI, hS_pI, hK_pR, hL_pR, hI_pR, hR_pR, hJ_pR, hT_pR, hS_pR, hK_pJ, hL_pJ, hI_pJ, hR_pJ, hJ_pJ, hT_pJ, hS_pJ, hK_wI, hL_wI, hI_wI, hR_wI, hJ_wI, hT_wI, hS_wI, eq_self, and_true, true_and, and_false, false_and, or_true, true_or, or_false, false_or, if_true, if_false, not_true_eq_false, not_false_eq_true, forall_const, implies_true, false_implies, true_implies, Option.some.injEq, forall_eq', exists_eq_left', reduceCtorEq, Nat.reduceEqDiff, c1, T_X12_in, T_X12_ones, T_X11_within, T_X11_bit, T_X11_isIn, T_X11_oneIfIn, T_J6_bitCount_0f7a4, hn, cl_nI (show n < 2147483648 by omega), in_nI h5 (by decide), nar8, nI_1]
  exact ⟨fun c => absurd c hk, fun _ => hw⟩
theorem four_0 (Q : Option Value → Hp → Prop) (h : Hp) (v : Int32) (hq : Q none h) : wp 0 MX12_four Q 3 [some (.ref 44), some (.int v), some (.int (-8))] [] h := by
  refine s_X12_four_3 Q _ _ _ ?_
  have h8 : (-8 : Int32) < 0 := by decide
  generalize (-8 : Int32) = z at h8 ⊢
  simp only [b_X12_four_3, i_push, i_ild, i_ald, i_ist, i_ast, i_inc, i_bin, i_un, i_divs, i_i2l, i_lshl, i_lor, i_dup, i_dup2, i_pop, i_if, i_cmp, i_nul, i_vret, i_iret, i_zret, i_aret, i_keep, keep, lget, lset, ent, i_getI, i_getJ, i_getR, i_getN, i_putI, i_putZ, i_putJ, i_putR, i_iald, i_bald, i_alen, i_aald, i_iast, i_bast, i_aast, i_new, i_newa, i_anew, i_oini, i_callS, i_callV, i_callI, popn, sh4, i_sw, swP, i_copy, i_binS, List.map, Option.toList_none, Option.toList_some, List.append, List.nil_append, List.cons_append, List.length_cons, List.length_nil, List.replicate, Nat.sub_self, Nat.reduceSub, Nat.reduceAdd, hK_pI, hL_pI, hI_pI, hR_pI, hJ_pI, hT_pI, hS_pI, hK_pR, hL_pR, hI_pR, hR_pR, hJ_pR, hT_pR, hS_pR, hK_pJ, hL_pJ, hI_pJ, hR_pJ, hJ_pJ, hT_pJ, hS_pJ, hK_wI, hL_wI, hI_wI, hR_wI, hJ_wI, hT_wI, hS_wI, eq_self, and_true, true_and, and_false, false_and, or_true, true_or, or_false, false_or, if_true, if_false, not_true_eq_false, not_false_eq_true, forall_const, implies_true, false_implies, true_implies, Option.some.injEq, forall_eq', exists_eq_left', reduceCtorEq, Nat.reduceEqDiff, c1, T_X12_in, T_X12_ones, T_X11_within, T_X11_bit, T_X11_isIn, T_X11_oneIfIn, T_J6_bitCount_0f7a4]
  exact ⟨fun _ => hq, fun c => absurd h8 c⟩
set_option maxRecDepth 100000 in
set_option maxHeartbeats 4000000 in
theorem ok_X12_four : ctr 0 MX12_four T_X12_four := by
  refine ctr_of pn_X12 wc_X12_four (fun av h Q hT => ?_)
  unfold T_X12_four at hT
  split at hT
  · rename_i a v
    refine ⟨⟨by simp [Value.category], Nat.le_of_ble_eq_true rfl⟩, s_X12_four_0 Q _ _ _ ?_⟩
    obtain ⟨rfl, hl, n, hn, h5, hq⟩ := hT
    simp only [MX12_four, b_X12_four_0, i_push, i_ild, i_ald, i_ist, i_ast, i_inc, i_bin, i_un, i_divs, i_i2l, i_lshl, i_lor, i_dup, i_dup2, i_pop, i_if, i_cmp, i_nul, i_vret, i_iret, i_zret, i_aret, i_keep, keep, lget, lset, ent, i_getI, i_getJ, i_getR, i_getN, i_putI, i_putZ, i_putJ, i_putR, i_iald, i_bald, i_alen, i_aald, i_iast, i_bast, i_aast, i_new, i_newa, i_anew, i_oini, i_callS, i_callV, i_callI, popn, sh4, i_sw, swP, i_copy, i_binS, List.map, Option.toList_none, Option.toList_some, List.append, List.nil_append, List.cons_append, List.length_cons, List.length_nil, List.replicate, Nat.sub_self, Nat.reduceSub, Nat.reduceAdd, hK_pI, hL_pI, hI_pI, hR_pI, hJ_pI, hT_pI, hS_pI, hK_pR, hL_pR, hI_pR, hR_pR, hJ_pR, hT_pR, hS_pR, hK_pJ, hL_pJ, hI_pJ, hR_pJ, hJ_pJ, hT_pJ, hS_pJ, hK_wI, hL_wI, hI_wI, hR_wI, hJ_wI, hT_wI, hS_wI, eq_self, and_true, true_and, and_false, false_and, or_true, true_or, or_false, false_or, if_true, if_false, not_true_eq_false, not_false_eq_true, forall_const, implies_true, false_implies, true_implies, Option.some.injEq, forall_eq', exists_eq_left', reduceCtorEq, Nat.reduceEqDiff, c1, T_X12_in, T_X12_ones, T_X11_within, T_X11_bit, T_X11_isIn, T_X11_oneIfIn, T_J6_bitCount_0f7a4]
    refine four_1 Q h v 24 16 n hl hn (by omega) (by decide) (by decide) ?_
    refine four_1 Q _ v 16 8 (n + 1) (f1_lay hl _ _) (f1_size _ _ _) (by omega) (by decide) (by decide) ?_
    refine four_1 Q _ v 8 0 (n + 2) (f1_lay (f1_lay hl _ _) _ _) (f1_size _ _ _) (by omega) (by decide) (by decide) ?_
    refine four_1 Q _ v 0 (-8) (n + 3) (f1_lay (f1_lay (f1_lay hl _ _) _ _) _ _) (f1_size _ _ _) (by omega) (by decide) (by decide) ?_
    refine four_0 Q _ v ?_
    exact hq
  · exact hT.elim
/-- twenty bytes -/
def f20 (h : Hp) (n : Nat) (a b c d e : Int32) : Hp := f4 (f4 (f4 (f4 (f4 h n a) (n + 4) b) (n + 8) c) (n + 12) d) (n + 16) e
theorem f4_size (h : Hp) (n : Nat) (v : Int32) : hI (f4 h n v) 44 2 = nI (n + 4) := f1_size _ _ _
theorem f4_lay {h : Hp} (hl : LayM h) (n : Nat) (v : Int32) : LayM (f4 h n v) := f1_lay (f1_lay (f1_lay (f1_lay hl _ _) _ _) _ _) _ _
theorem f20_size (h : Hp) (n : Nat) (a b c d e : Int32) : hI (f20 h n a b c d e) 44 2 = nI (n + 20) := f4_size _ _ _
theorem f20_lay {h : Hp} (hl : LayM h) (n : Nat) (a b c d e : Int32) : LayM (f20 h n a b c d e) := f4_lay (f4_lay (f4_lay (f4_lay (f4_lay hl _ _) _ _) _ _) _ _) _ _
def T_X12_feed : Tr := fun av h Q => match av with
  | [.ref o, .int a, .int b, .int c, .int d, .int e] => o = 44 ∧ LayM h ∧ ∃ n : Nat, hI h 44 2 = nI n ∧ n ≤ 500 ∧ (480 < n → Q (some (.int (-1))) (pI h 44 0 0)) ∧ (n ≤ 480 → Q (some (.int (nI (n + 20)))) (f20 (pI h 44 0 0) n a b c d e))
  | _ => False
def L_X12_feed : List UInt8 := [42, 3, 181, 0, 151, 42, 180, 0, 158, 16, 20, 96, 17, 1, 244, 164, 0, 5, 2, 172, 42, 27, 182, 0, 161, 42, 28, 182, 0, 161, 42, 29, 182, 0, 161, 42, 21, 4, 182, 0, 161, 42, 21, 5, 182, 0, 161, 42, 180, 0, 158, 172]
theorem Lc_X12_feed : MX12_feed.2.1 = ⟨L_X12_feed.toArray⟩ := rfl
theorem D_X12_feed_0 : dseq MX12_feed.2.1 0 [(.aload_n 0, 1), (.iconst 0, 1), (.putfield 151, 3), (.aload_n 0, 1), (.getfield 158, 3), (.bipush 20, 2), (.iadd, 1), (.sipush 500, 3), (.if_icmp .le 5, 3), (.iconst (-1), 1), (.ireturn, 1)] := dq Lc_X12_feed 0 _ (by decide +kernel)
theorem D_X12_feed_20 : dseq MX12_feed.2.1 20 [(.aload_n 0, 1), (.iload_n 1, 1), (.invokevirtual 161, 3), (.aload_n 0, 1), (.iload_n 2, 1), (.invokevirtual 161, 3), (.aload_n 0, 1), (.iload_n 3, 1), (.invokevirtual 161, 3), (.aload_n 0, 1), (.iload 4, 2), (.invokevirtual 161, 3), (.aload_n 0, 1), (.iload 5, 2), (.invokevirtual 161, 3), (.aload_n 0, 1), (.getfield 158, 3), (.ireturn, 1)] := dq Lc_X12_feed 20 _ (by decide +kernel)
def c_X12_feed_47 (Q : Option Value → Hp → Prop) : Kt := i_ald 0 (i_getI 12 2 (i_iret Q))
def c_X12_feed_41 (Q : Option Value → Hp → Prop) : Kt := i_ald 0 (i_ild 5 (i_callV 12 1 T_X12_four (c_X12_feed_47 Q)))
def c_X12_feed_35 (Q : Option Value → Hp → Prop) : Kt := i_ald 0 (i_ild 4 (i_callV 12 1 T_X12_four (c_X12_feed_41 Q)))
def c_X12_feed_30 (Q : Option Value → Hp → Prop) : Kt := i_ald 0 (i_ild 3 (i_callV 12 1 T_X12_four (c_X12_feed_35 Q)))
def c_X12_feed_25 (Q : Option Value → Hp → Prop) : Kt := i_ald 0 (i_ild 2 (i_callV 12 1 T_X12_four (c_X12_feed_30 Q)))
def b_X12_feed_0 (Q : Option Value → Hp → Prop) : Kt := i_ald 0 (i_push (.int 0) (i_putI 12 0 (i_ald 0 (i_getI 12 2 (i_push (.int 20) (i_bin (fun x y => x + y) (i_push (.int 500) (i_cmp (fun x y => x ≤ y) (i_ald 0 (i_ild 1 (i_callV 12 1 T_X12_four (c_X12_feed_25 Q)))) (i_push (.int (-1)) (i_iret Q))))))))))
set_option maxRecDepth 100000 in
theorem s_X12_feed_0 (Q : Option Value → Hp → Prop) : ∀ A st h, b_X12_feed_0 Q A st h → wp 1 MX12_feed Q 0 A st h := (q1 (s_aldn (n := 0) (i := 0) rfl) D_X12_feed_0 fun D => (q1 (s_iconst (n := 0) (v := 0) (by decide)) D fun D => (qP pl_X12_151 rfl (Or.inl rfl) D fun D => (q1 (s_aldn (n := 0) (i := 0) rfl) D fun D => (qC fl_X12_158 rfl D fun D => (q1 (s_bipush (n := 20) (v := 20) (by decide)) D fun D => (q1 s_add D fun D => (q1 (s_sipush (n := 500) (v := 500) (by decide)) D fun D => (qB s_cmple 20 (by decide) D (q1 (s_aldn (n := 0) (i := 0) rfl) D_X12_feed_20 fun D => (q1 (s_ildn (n := 1) (i := 1) rfl) D fun D => (qX (s_callV kX12 rfl ok_X12_four mo_X12_four (ch_5_13_ok.1.1 rfl) (ch_5_13_ok.2.2.1.1 rfl) (pv_2.2.2.2.2.1)) rfl (by decide) D fun D => (q1 (s_aldn (n := 0) (i := 0) rfl) D fun D => (q1 (s_ildn (n := 2) (i := 2) rfl) D fun D => (qX (s_callV kX12 rfl ok_X12_four mo_X12_four (ch_5_13_ok.1.1 rfl) (ch_5_13_ok.2.2.1.1 rfl) (pv_2.2.2.2.2.1)) rfl (by decide) D fun D => (q1 (s_aldn (n := 0) (i := 0) rfl) D fun D => (q1 (s_ildn (n := 3) (i := 3) rfl) D fun D => (qX (s_callV kX12 rfl ok_X12_four mo_X12_four (ch_5_13_ok.1.1 rfl) (ch_5_13_ok.2.2.1.1 rfl) (pv_2.2.2.2.2.1)) rfl (by decide) D fun D => (q1 (s_aldn (n := 0) (i := 0) rfl) D fun D => (q1 s_ild D fun D => (qX (s_callV kX12 rfl ok_X12_four mo_X12_four (ch_5_13_ok.1.1 rfl) (ch_5_13_ok.2.2.1.1 rfl) (pv_2.2.2.2.2.1)) rfl (by decide) D fun D => (q1 (s_aldn (n := 0) (i := 0) rfl) D fun D => (q1 s_ild D fun D => (qX (s_callV kX12 rfl ok_X12_four mo_X12_four (ch_5_13_ok.1.1 rfl) (ch_5_13_ok.2.2.1.1 rfl) (pv_2.2.2.2.2.1)) rfl (by decide) D fun D => (q1 (s_aldn (n := 0) (i := 0) rfl) D fun D => (qC fl_X12_158 rfl D fun D => (qI rfl D)))))))))))))))))) fun D => (q1 (s_iconst (n := (-1)) (v := (-1)) (by decide)) D fun D => (qI rfl D)))))))))))

set_option maxRecDepth 100000 in
set_option maxHeartbeats 4000000 in
theorem ok_X12_feed : ctr 1 MX12_feed T_X12_feed := by
  refine ctr_of pn_X12 wc_X12_feed (fun av h Q hT => ?_)
  unfold T_X12_feed at hT
  split at hT
  · rename_i o a b c d e
    refine ⟨⟨by simp [Value.category], Nat.le_of_ble_eq_true rfl⟩, s_X12_feed_0 Q _ _ _ ?_⟩
    obtain ⟨rfl, hl, n, hn, h5, hq1, hq2⟩ := hT
    have e20 : nI n + 20 = nI (n + 20) := nI_add n 20
    have e500 : (500 : Int32) = nI 500 := rfl
    have hn0 : hI (pI h 44 0 0) 44 2 = nI n := by rw [hI_pI, if_neg (by omega)]; exact hn
    simp only [MX12_feed, b_X12_feed_0, hl, lay_pI, lay_wI, lay_pJ, lm_t hl, lm_k hl, lm_r hl, lm_l hl, i_push, i_ild, i_ald, i_ist, i_ast, i_inc, i_bin, i_un, i_divs, i_i2l, i_lshl, i_lor, i_dup, i_dup2, i_pop, i_if, i_cmp, i_nul, i_vret, i_iret, i_zret, i_aret, i_keep, keep, lget, lset, ent, i_getI, i_getJ, i_getR, i_getN, i_putI, i_putZ, i_putJ, i_putR, i_iald, i_bald, i_alen, i_aald, i_iast, i_bast, i_aast, i_new, i_newa, i_anew, i_oini, i_callS, i_callV, i_callI, popn, sh4, i_sw, swP, i_copy, i_binS, List.map, Option.toList_none, Option.toList_some, List.append, List.nil_append, List.cons_append, List.length_cons, List.length_nil, List.replicate, Nat.sub_self, Nat.reduceSub, Nat.reduceAdd, hK_pI, hL_pI, hI_pI, hR_pI, hJ_pI, hT_pI, hS_pI, hK_pR, hL_pR, hI_pR, hR_pR, hJ_pR, hT_pR, hS_pR, hK_pJ, hL_pJ, hI_pJ, hR_pJ, hJ_pJ, hT_pJ, hS_pJ, hK_wI, hL_wI, hI_wI, hR_wI, hJ_wI, hT_wI, hS_wI, eq_self, and_true, true_and, and_false, false_and, or_true, true_or, or_false, false_or, if_true, if_false, not_true_eq_false, not_false_eq_true, forall_const, implies_true, false_implies, true_implies, Option.some.injEq, forall_eq', exists_eq_left', reduceCtorEq, Nat.reduceEqDiff, c1, T_X12_in, T_X12_ones, T_X11_within, T_X11_bit, T_X11_isIn, T_X11_oneIfIn, T_J6_bitCount_0f7a4, hn, e20]
    generalize hg : pI h 44 0 0 = g at *
    have hlg : LayM g := by rw [← hg]; exact hl
    refine ⟨fun c1 => ?_, fun c1 => ?_⟩
    · have h480 : n ≤ 480 := by
        rw [e500] at c1
        have := (nI_leI (by omega) (by omega)).mp c1
        omega
      refine ⟨rfl, hlg, n, hn0, by omega, ?_⟩
      have hl4 := f4_lay hlg n a
      simp only [c_X12_feed_25, i_push, i_ild, i_ald, i_ist, i_ast, i_inc, i_bin, i_un, i_divs, i_i2l, i_lshl, i_lor, i_dup, i_dup2, i_pop, i_if, i_cmp, i_nul, i_vret, i_iret, i_zret, i_aret, i_keep, keep, lget, lset, ent, i_getI, i_getJ, i_getR, i_getN, i_putI, i_putZ, i_putJ, i_putR, i_iald, i_bald, i_alen, i_aald, i_iast, i_bast, i_aast, i_new, i_newa, i_anew, i_oini, i_callS, i_callV, i_callI, popn, sh4, i_sw, swP, i_copy, i_binS, List.map, Option.toList_none, Option.toList_some, List.append, List.nil_append, List.cons_append, List.length_cons, List.length_nil, List.replicate, Nat.sub_self, Nat.reduceSub, Nat.reduceAdd, hK_pI, hL_pI, hI_pI, hR_pI, hJ_pI, hT_pI, hS_pI, hK_pR, hL_pR, hI_pR, hR_pR, hJ_pR, hT_pR, hS_pR, hK_pJ, hL_pJ, hI_pJ, hR_pJ, hJ_pJ, hT_pJ, hS_pJ, hK_wI, hL_wI, hI_wI, hR_wI, hJ_wI, hT_wI, hS_wI, eq_self, and_true, true_and, and_false, false_and, or_true, true_or, or_false, false_or, if_true, if_false, not_true_eq_false, not_false_eq_true, forall_const, implies_true, false_implies, true_implies, Option.some.injEq, forall_eq', exists_eq_left', reduceCtorEq, Nat.reduceEqDiff, c1, T_X12_in, T_X12_ones, T_X11_within, T_X11_bit, T_X11_isIn, T_X11_oneIfIn, T_J6_bitCount_0f7a4, lm_t hl4, lm_k hl4]
      refine ⟨rfl, hl4, n + 4, f4_size _ _ _, by omega, ?_⟩
      have hl8 := f4_lay (f4_lay hlg n a) (n + 4) b
      simp only [c_X12_feed_30, i_push, i_ild, i_ald, i_ist, i_ast, i_inc, i_bin, i_un, i_divs, i_i2l, i_lshl, i_lor, i_dup, i_dup2, i_pop, i_if, i_cmp, i_nul, i_vret, i_iret, i_zret, i_aret, i_keep, keep, lget, lset, ent, i_getI, i_getJ, i_getR, i_getN, i_putI, i_putZ, i_putJ, i_putR, i_iald, i_bald, i_alen, i_aald, i_iast, i_bast, i_aast, i_new, i_newa, i_anew, i_oini, i_callS, i_callV, i_callI, popn, sh4, i_sw, swP, i_copy, i_binS, List.map, Option.toList_none, Option.toList_some, List.append, List.nil_append, List.cons_append, List.length_cons, List.length_nil, List.replicate, Nat.sub_self, Nat.reduceSub, Nat.reduceAdd, hK_pI, hL_pI, hI_pI, hR_pI, hJ_pI, hT_pI, hS_pI, hK_pR, hL_pR, hI_pR, hR_pR, hJ_pR, hT_pR, hS_pR, hK_pJ, hL_pJ, hI_pJ, hR_pJ, hJ_pJ, hT_pJ, hS_pJ, hK_wI, hL_wI, hI_wI, hR_wI, hJ_wI, hT_wI, hS_wI, eq_self, and_true, true_and, and_false, false_and, or_true, true_or, or_false, false_or, if_true, if_false, not_true_eq_false, not_false_eq_true, forall_const, implies_true, false_implies, true_implies, Option.some.injEq, forall_eq', exists_eq_left', reduceCtorEq, Nat.reduceEqDiff, c1, T_X12_in, T_X12_ones, T_X11_within, T_X11_bit, T_X11_isIn, T_X11_oneIfIn, T_J6_bitCount_0f7a4, lm_t hl8, lm_k hl8]
      refine ⟨rfl, hl8, n + 8, f4_size _ _ _, by omega, ?_⟩
      have hl12 := f4_lay (f4_lay (f4_lay hlg n a) (n + 4) b) (n + 8) c
      simp only [c_X12_feed_35, i_push, i_ild, i_ald, i_ist, i_ast, i_inc, i_bin, i_un, i_divs, i_i2l, i_lshl, i_lor, i_dup, i_dup2, i_pop, i_if, i_cmp, i_nul, i_vret, i_iret, i_zret, i_aret, i_keep, keep, lget, lset, ent, i_getI, i_getJ, i_getR, i_getN, i_putI, i_putZ, i_putJ, i_putR, i_iald, i_bald, i_alen, i_aald, i_iast, i_bast, i_aast, i_new, i_newa, i_anew, i_oini, i_callS, i_callV, i_callI, popn, sh4, i_sw, swP, i_copy, i_binS, List.map, Option.toList_none, Option.toList_some, List.append, List.nil_append, List.cons_append, List.length_cons, List.length_nil, List.replicate, Nat.sub_self, Nat.reduceSub, Nat.reduceAdd, hK_pI, hL_pI, hI_pI, hR_pI, hJ_pI, hT_pI, hS_pI, hK_pR, hL_pR, hI_pR, hR_pR, hJ_pR, hT_pR, hS_pR, hK_pJ, hL_pJ, hI_pJ, hR_pJ, hJ_pJ, hT_pJ, hS_pJ, hK_wI, hL_wI, hI_wI, hR_wI, hJ_wI, hT_wI, hS_wI, eq_self, and_true, true_and, and_false, false_and, or_true, true_or, or_false, false_or, if_true, if_false, not_true_eq_false, not_false_eq_true, forall_const, implies_true, false_implies, true_implies, Option.some.injEq, forall_eq', exists_eq_left', reduceCtorEq, Nat.reduceEqDiff, c1, T_X12_in, T_X12_ones, T_X11_within, T_X11_bit, T_X11_isIn, T_X11_oneIfIn, T_J6_bitCount_0f7a4, lm_t hl12, lm_k hl12]
      refine ⟨rfl, hl12, n + 12, f4_size _ _ _, by omega, ?_⟩
      have hl16 := f4_lay (f4_lay (f4_lay (f4_lay hlg n a) (n + 4) b) (n + 8) c) (n + 12) d
      simp only [c_X12_feed_41, i_push, i_ild, i_ald, i_ist, i_ast, i_inc, i_bin, i_un, i_divs, i_i2l, i_lshl, i_lor, i_dup, i_dup2, i_pop, i_if, i_cmp, i_nul, i_vret, i_iret, i_zret, i_aret, i_keep, keep, lget, lset, ent, i_getI, i_getJ, i_getR, i_getN, i_putI, i_putZ, i_putJ, i_putR, i_iald, i_bald, i_alen, i_aald, i_iast, i_bast, i_aast, i_new, i_newa, i_anew, i_oini, i_callS, i_callV, i_callI, popn, sh4, i_sw, swP, i_copy, i_binS, List.map, Option.toList_none, Option.toList_some, List.append, List.nil_append, List.cons_append, List.length_cons, List.length_nil, List.replicate, Nat.sub_self, Nat.reduceSub, Nat.reduceAdd, hK_pI, hL_pI, hI_pI, hR_pI, hJ_pI, hT_pI, hS_pI, hK_pR, hL_pR, hI_pR, hR_pR, hJ_pR, hT_pR, hS_pR, hK_pJ, hL_pJ, hI_pJ, hR_pJ, hJ_pJ, hT_pJ, hS_pJ, hK_wI, hL_wI, hI_wI, hR_wI, hJ_wI, hT_wI, hS_wI, eq_self, and_true, true_and, and_false, false_and, or_true, true_or, or_false, false_or, if_true, if_false, not_true_eq_false, not_false_eq_true, forall_const, implies_true, false_implies, true_implies, Option.some.injEq, forall_eq', exists_eq_left', reduceCtorEq, Nat.reduceEqDiff, c1, T_X12_in, T_X12_ones, T_X11_within, T_X11_bit, T_X11_isIn, T_X11_oneIfIn, T_J6_bitCount_0f7a4, lm_t hl16, lm_k hl16]
      refine ⟨rfl, hl16, n + 16, f4_size _ _ _, by omega, ?_⟩
      have hl20 := f20_lay hlg n a b c d e
      have hq3 := hq2 h480
      rw [show f4 (f4 (f4 (f4 (f4 g n a) (n + 4) b) (n + 8) c) (n + 12) d) (n + 16) e = f20 g n a b c d e from rfl]
      simp only [c_X12_feed_47, i_push, i_ild, i_ald, i_ist, i_ast, i_inc, i_bin, i_un, i_divs, i_i2l, i_lshl, i_lor, i_dup, i_dup2, i_pop, i_if, i_cmp, i_nul, i_vret, i_iret, i_zret, i_aret, i_keep, keep, lget, lset, ent, i_getI, i_getJ, i_getR, i_getN, i_putI, i_putZ, i_putJ, i_putR, i_iald, i_bald, i_alen, i_aald, i_iast, i_bast, i_aast, i_new, i_newa, i_anew, i_oini, i_callS, i_callV, i_callI, popn, sh4, i_sw, swP, i_copy, i_binS, List.map, Option.toList_none, Option.toList_some, List.append, List.nil_append, List.cons_append, List.length_cons, List.length_nil, List.replicate, Nat.sub_self, Nat.reduceSub, Nat.reduceAdd, hK_pI, hL_pI, hI_pI, hR_pI, hJ_pI, hT_pI, hS_pI, hK_pR, hL_pR, hI_pR, hR_pR, hJ_pR, hT_pR, hS_pR, hK_pJ, hL_pJ, hI_pJ, hR_pJ, hJ_pJ, hT_pJ, hS_pJ, hK_wI, hL_wI, hI_wI, hR_wI, hJ_wI, hT_wI, hS_wI, eq_self, and_true, true_and, and_false, false_and, or_true, true_or, or_false, false_or, if_true, if_false, not_true_eq_false, not_false_eq_true, forall_const, implies_true, false_implies, true_implies, Option.some.injEq, forall_eq', exists_eq_left', reduceCtorEq, Nat.reduceEqDiff, c1, T_X12_in, T_X12_ones, T_X11_within, T_X11_bit, T_X11_isIn, T_X11_oneIfIn, T_J6_bitCount_0f7a4, lm_t hl20, lm_k hl20, f20_size]
      exact hq3
    · refine hq1 (Nat.lt_of_not_le fun q => c1 ?_)
      rw [e500]
      exact nI_le (by omega) (by omega)
  · exact hT.elim
