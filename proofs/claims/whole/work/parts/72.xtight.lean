/-! ===== the class: put, takeOut, tightest, isCrowded ===== -/
theorem put_ok {H : Hp} (hl : LayX H) {i r : Nat} (hi : i < 10) (hr : r < 4) {Q : Option Value → Hp → Prop} (hq : Q none (wI H (putM (hI H) i r))) : T_X4_put [.ref 32, .int (nI i), .int (nI r)] H Q := by
  have hH : wI H (putM (hI H) i r) = pI (pI (pI (pI H 38 i (nI r)) 40 r (hI H 40 r ||| hI H 33 i)) 41 r (hI H 35 i)) 42 r (hI H 42 r - hI H 34 i) := rfl
  rw [hH] at hq
  unfold T_X4_put
  simp only [b_X4_put_0, lx_pI, lx_wI, lx_t hl, lx_k hl, lx_r hl, lx_l hl, i_push, i_ild, i_ald, i_ist, i_ast, i_inc, i_bin, i_un, i_divs, i_i2l, i_lshl, i_lor, i_dup, i_dup2, i_pop, i_if, i_cmp, i_nul, i_vret, i_iret, i_zret, i_aret, i_keep, keep, lget, lset, ent, i_getI, i_getJ, i_getR, i_getN, i_putI, i_putZ, i_putJ, i_putR, i_iald, i_bald, i_alen, i_aald, i_iast, i_bast, i_aast, i_new, i_newa, i_anew, i_oini, i_callS, i_callV, i_callI, popn, sh4, i_sw, swP, i_copy, i_binS, List.map, Option.toList_none, Option.toList_some, List.append, List.nil_append, List.cons_append, List.length_cons, List.length_nil, List.replicate, Nat.sub_self, Nat.reduceSub, Nat.reduceAdd, hK_pI, hL_pI, hI_pI, hR_pI, hJ_pI, hT_pI, hS_pI, hK_pR, hL_pR, hI_pR, hR_pR, hJ_pR, hT_pR, hS_pR, hK_pJ, hL_pJ, hI_pJ, hR_pJ, hJ_pJ, hT_pJ, hS_pJ, hK_wI, hL_wI, hI_wI, hR_wI, hJ_wI, hT_wI, hS_wI, eq_self, and_true, true_and, and_false, false_and, or_true, true_or, or_false, false_or, if_true, if_false, not_true_eq_false, not_false_eq_true, forall_const, implies_true, false_implies, true_implies, Option.some.injEq, forall_eq', exists_eq_left', reduceCtorEq, Nat.reduceEqDiff, c1, T_X12_in, T_X12_ones, T_X11_within, T_X11_bit, T_X11_isIn, T_X11_oneIfIn, T_J6_bitCount_0f7a4, cl_nI (show i < 2147483648 by omega), in_nI (show i < 10 by omega) (by decide), cl_nI (show r < 2147483648 by omega), in_nI (show r < 4 by omega) (by decide)]
  exact hq
theorem out_ok {H : Hp} (hl : LayX H) {i r : Nat} (hi : i < 10) (hr : r < 4) (hw : hI H 38 i = nI r) {Q : Option Value → Hp → Prop} (hq : Q none (wI H (outM (hI H) i r))) : T_X4_takeOut [.ref 32, .int (nI i)] H Q := by
  have hH : wI H (outM (hI H) i r) = pI (pI (pI H 38 i (-1)) 40 r (hI H 40 r &&& (hI H 33 i ^^^ (-1)))) 42 r (hI H 42 r + hI H 34 i) := rfl
  rw [hH] at hq
  unfold T_X4_takeOut
  simp only [b_X4_takeOut_0, lx_pI, lx_wI, lx_t hl, lx_k hl, lx_r hl, lx_l hl, i_push, i_ild, i_ald, i_ist, i_ast, i_inc, i_bin, i_un, i_divs, i_i2l, i_lshl, i_lor, i_dup, i_dup2, i_pop, i_if, i_cmp, i_nul, i_vret, i_iret, i_zret, i_aret, i_keep, keep, lget, lset, ent, i_getI, i_getJ, i_getR, i_getN, i_putI, i_putZ, i_putJ, i_putR, i_iald, i_bald, i_alen, i_aald, i_iast, i_bast, i_aast, i_new, i_newa, i_anew, i_oini, i_callS, i_callV, i_callI, popn, sh4, i_sw, swP, i_copy, i_binS, List.map, Option.toList_none, Option.toList_some, List.append, List.nil_append, List.cons_append, List.length_cons, List.length_nil, List.replicate, Nat.sub_self, Nat.reduceSub, Nat.reduceAdd, hK_pI, hL_pI, hI_pI, hR_pI, hJ_pI, hT_pI, hS_pI, hK_pR, hL_pR, hI_pR, hR_pR, hJ_pR, hT_pR, hS_pR, hK_pJ, hL_pJ, hI_pJ, hR_pJ, hJ_pJ, hT_pJ, hS_pJ, hK_wI, hL_wI, hI_wI, hR_wI, hJ_wI, hT_wI, hS_wI, eq_self, and_true, true_and, and_false, false_and, or_true, true_or, or_false, false_or, if_true, if_false, not_true_eq_false, not_false_eq_true, forall_const, implies_true, false_implies, true_implies, Option.some.injEq, forall_eq', exists_eq_left', reduceCtorEq, Nat.reduceEqDiff, c1, T_X12_in, T_X12_ones, T_X11_within, T_X11_bit, T_X11_isIn, T_X11_oneIfIn, T_J6_bitCount_0f7a4, cl_nI (show i < 2147483648 by omega), in_nI (show i < 10 by omega) (by decide), hw, cl_nI (show r < 2147483648 by omega), in_nI (show r < 4 by omega) (by decide)]
  exact ⟨fun z => absurd z (nI_m1 r (by omega)), fun _ => hq⟩
theorem out_no {H : Hp} (hl : LayX H) {i : Nat} (hi : i < 10) (hw : hI H 38 i = -1) {Q : Option Value → Hp → Prop} (hq : Q none H) : T_X4_takeOut [.ref 32, .int (nI i)] H Q := by
  unfold T_X4_takeOut
  simp only [b_X4_takeOut_0, lx_pI, lx_wI, lx_t hl, lx_k hl, lx_r hl, lx_l hl, i_push, i_ild, i_ald, i_ist, i_ast, i_inc, i_bin, i_un, i_divs, i_i2l, i_lshl, i_lor, i_dup, i_dup2, i_pop, i_if, i_cmp, i_nul, i_vret, i_iret, i_zret, i_aret, i_keep, keep, lget, lset, ent, i_getI, i_getJ, i_getR, i_getN, i_putI, i_putZ, i_putJ, i_putR, i_iald, i_bald, i_alen, i_aald, i_iast, i_bast, i_aast, i_new, i_newa, i_anew, i_oini, i_callS, i_callV, i_callI, popn, sh4, i_sw, swP, i_copy, i_binS, List.map, Option.toList_none, Option.toList_some, List.append, List.nil_append, List.cons_append, List.length_cons, List.length_nil, List.replicate, Nat.sub_self, Nat.reduceSub, Nat.reduceAdd, hK_pI, hL_pI, hI_pI, hR_pI, hJ_pI, hT_pI, hS_pI, hK_pR, hL_pR, hI_pR, hR_pR, hJ_pR, hT_pR, hS_pR, hK_pJ, hL_pJ, hI_pJ, hR_pJ, hJ_pJ, hT_pJ, hS_pJ, hK_wI, hL_wI, hI_wI, hR_wI, hJ_wI, hT_wI, hS_wI, eq_self, and_true, true_and, and_false, false_and, or_true, true_or, or_false, false_or, if_true, if_false, not_true_eq_false, not_false_eq_true, forall_const, implies_true, false_implies, true_implies, Option.some.injEq, forall_eq', exists_eq_left', reduceCtorEq, Nat.reduceEqDiff, c1, T_X12_in, T_X12_ones, T_X11_within, T_X11_bit, T_X11_isIn, T_X11_oneIfIn, T_J6_bitCount_0f7a4, cl_nI (show i < 2147483648 by omega), in_nI (show i < 10 by omega) (by decide), hw]
  exact hq
def T_X4_tightest : Tr := fun av h Q => match av with
  | [.ref o] => o = 32 ∧ LayX h ∧ hR h 32 0 = some 3 ∧ ∃ R n, R ≤ 4 ∧ n ≤ 10 ∧ hI h 12 0 = nI R ∧ hI h 32 2 = nI n ∧ whOk (hI h) R n ∧ ((∀ i, i < n → ¬ hI h 38 i = -1) → Q (some (.int (-1))) h) ∧ (∀ i, i < n → hI h 38 i = -1 → Q (some (.int (nI i))) h)
  | _ => False
def L_X4_tightest : List UInt8 := [2, 60, 3, 61, 3, 62, 29, 42, 180, 0, 51, 162, 0, 58, 42, 180, 0, 27, 29, 46, 2, 160, 0, 42, 42, 29, 182, 0, 134, 184, 0, 97, 16, 32, 104, 42, 180, 0, 21, 29, 46, 184, 0, 97, 100, 54, 4, 27, 2, 159, 0, 9, 21, 4, 28, 162, 0, 8, 29, 60, 21, 4, 61, 132, 3, 1, 167, 255, 196, 27, 172]
theorem Lc_X4_tightest : MX4_tightest.2.1 = ⟨L_X4_tightest.toArray⟩ := rfl
theorem D_X4_tightest_0 : dseq MX4_tightest.2.1 0 [(.iconst (-1), 1), (.istore_n 1, 1), (.iconst 0, 1), (.istore_n 2, 1), (.iconst 0, 1), (.istore_n 3, 1)] := dq Lc_X4_tightest 0 _ (by decide +kernel)
theorem D_X4_tightest_6 : dseq MX4_tightest.2.1 6 [(.iload_n 3, 1), (.aload_n 0, 1), (.getfield 51, 3), (.if_icmp .ge 58, 3), (.aload_n 0, 1), (.getfield 27, 3), (.iload_n 3, 1), (.iaload, 1), (.iconst (-1), 1), (.if_icmp .ne 42, 3), (.aload_n 0, 1), (.iload_n 3, 1), (.invokevirtual 134, 3), (.invokestatic 97, 3), (.bipush 32, 2), (.imul, 1), (.aload_n 0, 1), (.getfield 21, 3), (.iload_n 3, 1), (.iaload, 1), (.invokestatic 97, 3), (.isub, 1), (.istore 4, 2), (.iload_n 1, 1), (.iconst (-1), 1), (.if_icmp .eq 9, 3), (.iload 4, 2), (.iload_n 2, 1), (.if_icmp .ge 8, 3)] := dq Lc_X4_tightest 6 _ (by decide +kernel)
theorem D_X4_tightest_69 : dseq MX4_tightest.2.1 69 [(.iload_n 1, 1), (.ireturn, 1)] := dq Lc_X4_tightest 69 _ (by decide +kernel)
theorem D_X4_tightest_58 : dseq MX4_tightest.2.1 58 [(.iload_n 3, 1), (.istore_n 1, 1), (.iload 4, 2), (.istore_n 2, 1)] := dq Lc_X4_tightest 58 _ (by decide +kernel)
theorem D_X4_tightest_63 : dseq MX4_tightest.2.1 63 [(.iinc 3 1, 3), (.goto (-60), 3)] := dq Lc_X4_tightest 63 _ (by decide +kernel)
def c_X4_tightest_29 (Q : Option Value → Hp → Prop) : Kt := i_callS 1 T_J6_bitCount_0f7a4 (i_push (.int 32) (i_bin (fun x y => x * y) (i_ald 0 (i_getR 4 6 (i_ild 3 (i_iald (i_callS 1 T_J6_bitCount_0f7a4 (i_bin (fun x y => x - y) (i_ist 4 (i_ild 1 (i_push (.int (-1)) (i_cmp (fun x y => x = y) (i_keep [true, false, false, true, true] (wp 2 MX4_tightest Q 58)) (i_ild 4 (i_ild 2 (i_cmp (fun x y => y ≤ x) (i_keep [true, true, true, true, false] (wp 2 MX4_tightest Q 63)) (i_keep [true, false, false, true, true] (wp 2 MX4_tightest Q 58)))))))))))))))))
def b_X4_tightest_0 (Q : Option Value → Hp → Prop) : Kt := i_push (.int (-1)) (i_ist 1 (i_push (.int 0) (i_ist 2 (i_push (.int 0) (i_ist 3 (i_keep [true, true, true, true, false] (wp 2 MX4_tightest Q 6)))))))
set_option maxRecDepth 100000 in
theorem s_X4_tightest_0 (Q : Option Value → Hp → Prop) : ∀ A st h, b_X4_tightest_0 Q A st h → wp 2 MX4_tightest Q 0 A st h := (q1 (s_iconst (n := (-1)) (v := (-1)) (by decide)) D_X4_tightest_0 fun D => (qL (s_istn (n := 1) (i := 1) rfl) (by decide) D fun D => (q1 (s_iconst (n := 0) (v := 0) (by decide)) D fun D => (qL (s_istn (n := 2) (i := 2) rfl) (by decide) D fun D => (q1 (s_iconst (n := 0) (v := 0) (by decide)) D fun D => (qL (s_istn (n := 3) (i := 3) rfl) (by decide) D fun D => (s_keep [true, true, true, true, false] fun _ _ _ h => h)))))))
def b_X4_tightest_6 (Q : Option Value → Hp → Prop) : Kt := i_ild 3 (i_ald 0 (i_getI 4 2 (i_cmp (fun x y => y ≤ x) (i_ild 1 (i_iret Q)) (i_ald 0 (i_getR 4 8 (i_ild 3 (i_iald (i_push (.int (-1)) (i_cmp (fun x y => x = y) (i_ald 0 (i_ild 3 (i_callV 4 1 T_X4_openRooms (c_X4_tightest_29 Q)))) (i_keep [true, true, true, true, false] (wp 2 MX4_tightest Q 63)))))))))))
set_option maxRecDepth 100000 in
theorem s_X4_tightest_6 (Q : Option Value → Hp → Prop) : ∀ A st h, b_X4_tightest_6 Q A st h → wp 2 MX4_tightest Q 6 A st h := (q1 (s_ildn (n := 3) (i := 3) rfl) D_X4_tightest_6 fun D => (q1 (s_aldn (n := 0) (i := 0) rfl) D fun D => (qC fl_X4_51 rfl D fun D => (qB s_cmpge 69 (by decide) D (q1 (s_ildn (n := 1) (i := 1) rfl) D_X4_tightest_69 fun D => (qI rfl D)) fun D => (q1 (s_aldn (n := 0) (i := 0) rfl) D fun D => (qC fl_X4_27 rfl D fun D => (q1 (s_ildn (n := 3) (i := 3) rfl) D fun D => (q1 s_iald D fun D => (q1 (s_iconst (n := (-1)) (v := (-1)) (by decide)) D fun D => (qBn s_cmpne2 63 (by decide) D (s_keep [true, true, true, true, false] fun _ _ _ h => h) fun D => (q1 (s_aldn (n := 0) (i := 0) rfl) D fun D => (q1 (s_ildn (n := 3) (i := 3) rfl) D fun D => (qX (s_callV kX4 rfl ok_X4_openRooms mo_X4_openRooms (ch_4_5_ok.2.2.2.2.2.1.1 rfl) (ch_4_5_ok.2.2.2.2.2.2.2.1.1 rfl) (pv_1.2.2.2.2.2.2.2.2.2.2.1)) rfl (by decide) D fun D => (qX (s_callS ok_J6_bitCount_0f7a4 mo_J6_bitCount_0f7a4 (ch_4_4_ok.2.2.1.1 rfl) (ch_3_9_ok.2.2.2.2.2.2.2.1.1 rfl)) rfl (by decide) D fun D => (q1 (s_bipush (n := 32) (v := 32) (by decide)) D fun D => (q1 s_mul D fun D => (q1 (s_aldn (n := 0) (i := 0) rfl) D fun D => (qC fl_X4_21 rfl D fun D => (q1 (s_ildn (n := 3) (i := 3) rfl) D fun D => (q1 s_iald D fun D => (qX (s_callS ok_J6_bitCount_0f7a4 mo_J6_bitCount_0f7a4 (ch_4_4_ok.2.2.1.1 rfl) (ch_3_9_ok.2.2.2.2.2.2.2.1.1 rfl)) rfl (by decide) D fun D => (q1 s_sub D fun D => (qL s_ist (by decide) D fun D => (q1 (s_ildn (n := 1) (i := 1) rfl) D fun D => (q1 (s_iconst (n := (-1)) (v := (-1)) (by decide)) D fun D => (qB s_cmpeq 58 (by decide) D (s_keep [true, false, false, true, true] fun _ _ _ h => h) fun D => (q1 s_ild D fun D => (q1 (s_ildn (n := 2) (i := 2) rfl) D fun D => (qB s_cmpge 63 (by decide) D (s_keep [true, true, true, true, false] fun _ _ _ h => h) fun D => (s_keep [true, false, false, true, true] fun _ _ _ h => h))))))))))))))))))))))))))))))
def b_X4_tightest_58 (Q : Option Value → Hp → Prop) : Kt := i_ild 3 (i_ist 1 (i_ild 4 (i_ist 2 (i_keep [true, true, true, true, false] (wp 2 MX4_tightest Q 63)))))
set_option maxRecDepth 100000 in
theorem s_X4_tightest_58 (Q : Option Value → Hp → Prop) : ∀ A st h, b_X4_tightest_58 Q A st h → wp 2 MX4_tightest Q 58 A st h := (q1 (s_ildn (n := 3) (i := 3) rfl) D_X4_tightest_58 fun D => (qL (s_istn (n := 1) (i := 1) rfl) (by decide) D fun D => (q1 s_ild D fun D => (qL (s_istn (n := 2) (i := 2) rfl) (by decide) D fun D => (s_keep [true, true, true, true, false] fun _ _ _ h => h)))))
def b_X4_tightest_63 (Q : Option Value → Hp → Prop) : Kt := i_inc 3 1 (i_keep [true, true, true, true, false] (wp 2 MX4_tightest Q 6))
set_option maxRecDepth 100000 in
theorem s_X4_tightest_63 (Q : Option Value → Hp → Prop) : ∀ A st h, b_X4_tightest_63 Q A st h → wp 2 MX4_tightest Q 63 A st h := (qL (s_inc (i := 3) (n := 1) (v := 1) (by decide)) (by decide) D_X4_tightest_63 fun D => (qG 6 (by decide) D (s_keep [true, true, true, true, false] fun _ _ _ h => h)))

set_option maxRecDepth 100000 in
set_option maxHeartbeats 400000 in
theorem ti_6 (Q : Option Value → Hp → Prop) (h : Hp) (hl : LayX h) (hst : hR h 32 0 = some 3) (R n : Nat) (hR : R ≤ 4) (hn : n ≤ 10) (h12 : hI h 12 0 = nI R) (h32 : hI h 32 2 = nI n) (hw : whOk (hI h) R n) (hq0 : (∀ i, i < n → ¬ hI h 38 i = -1) → Q (some (.int (-1))) h) (hq1 : ∀ i, i < n → hI h 38 i = -1 → Q (some (.int (nI i))) h) :
    ∀ (m k : Nat) (b v : Int32), m = n - k → k ≤ n → ((b = -1 ∧ ∀ i, i < k → ¬ hI h 38 i = -1) ∨ ∃ i, i < k ∧ b = nI i ∧ hI h 38 i = -1) → wp 2 MX4_tightest Q 6 [some (.ref 32), some (.int b), some (.int v), some (.int (nI k)), none] [] h := by
  intro m
  induction m with
  | zero =>
    intro k b v hm hk hb
    have e : k = n := by omega
    subst e
    have hfin : Q (some (.int b)) h := by
      rcases hb with ⟨e, z⟩ | ⟨i, hi, e, z⟩
      · rw [e]; exact hq0 z
      · rw [e]; exact hq1 i hi z
    refine s_X4_tightest_6 Q _ _ _ ?_
    simp only [b_X4_tightest_6, lx_pI, lx_wI, lx_t hl, lx_k hl, lx_r hl, lx_l hl, i_push, i_ild, i_ald, i_ist, i_ast, i_inc, i_bin, i_un, i_divs, i_i2l, i_lshl, i_lor, i_dup, i_dup2, i_pop, i_if, i_cmp, i_nul, i_vret, i_iret, i_zret, i_aret, i_keep, keep, lget, lset, ent, i_getI, i_getJ, i_getR, i_getN, i_putI, i_putZ, i_putJ, i_putR, i_iald, i_bald, i_alen, i_aald, i_iast, i_bast, i_aast, i_new, i_newa, i_anew, i_oini, i_callS, i_callV, i_callI, popn, sh4, i_sw, swP, i_copy, i_binS, List.map, Option.toList_none, Option.toList_some, List.append, List.nil_append, List.cons_append, List.length_cons, List.length_nil, List.replicate, Nat.sub_self, Nat.reduceSub, Nat.reduceAdd, hK_pI, hL_pI, hI_pI, hR_pI, hJ_pI, hT_pI, hS_pI, hK_pR, hL_pR, hI_pR, hR_pR, hJ_pR, hT_pR, hS_pR, hK_pJ, hL_pJ, hI_pJ, hR_pJ, hJ_pJ, hT_pJ, hS_pJ, hK_wI, hL_wI, hI_wI, hR_wI, hJ_wI, hT_wI, hS_wI, eq_self, and_true, true_and, and_false, false_and, or_true, true_or, or_false, false_or, if_true, if_false, not_true_eq_false, not_false_eq_true, forall_const, implies_true, false_implies, true_implies, Option.some.injEq, forall_eq', exists_eq_left', reduceCtorEq, Nat.reduceEqDiff, c1, T_X12_in, T_X12_ones, T_X11_within, T_X11_bit, T_X11_isIn, T_X11_oneIfIn, T_J6_bitCount_0f7a4, h32]
    exact ⟨fun _ => hfin, fun z => absurd (nI_le (Nat.le_refl _) (by omega)) z⟩
  | succ m ih =>
    intro k b v hm hk hb
    have h63 : ∀ (b' v' : Int32), ((b' = -1 ∧ ∀ i, i < k + 1 → ¬ hI h 38 i = -1) ∨ ∃ i, i < k + 1 ∧ b' = nI i ∧ hI h 38 i = -1) → wp 2 MX4_tightest Q 63 [some (.ref 32), some (.int b'), some (.int v'), some (.int (nI k)), none] [] h := by
      intro b' v' hb'
      refine s_X4_tightest_63 Q _ _ _ ?_
      simp only [b_X4_tightest_63, i_push, i_ild, i_ald, i_ist, i_ast, i_inc, i_bin, i_un, i_divs, i_i2l, i_lshl, i_lor, i_dup, i_dup2, i_pop, i_if, i_cmp, i_nul, i_vret, i_iret, i_zret, i_aret, i_keep, keep, lget, lset, ent, i_getI, i_getJ, i_getR, i_getN, i_putI, i_putZ, i_putJ, i_putR, i_iald, i_bald, i_alen, i_aald, i_iast, i_bast, i_aast, i_new, i_newa, i_anew, i_oini, i_callS, i_callV, i_callI, popn, sh4, i_sw, swP, i_copy, i_binS, List.map, Option.toList_none, Option.toList_some, List.append, List.nil_append, List.cons_append, List.length_cons, List.length_nil, List.replicate, Nat.sub_self, Nat.reduceSub, Nat.reduceAdd, hK_pI, hL_pI, hI_pI, hR_pI, hJ_pI, hT_pI, hS_pI, hK_pR, hL_pR, hI_pR, hR_pR, hJ_pR, hT_pR, hS_pR, hK_pJ, hL_pJ, hI_pJ, hR_pJ, hJ_pJ, hT_pJ, hS_pJ, hK_wI, hL_wI, hI_wI, hR_wI, hJ_wI, hT_wI, hS_wI, eq_self, and_true, true_and, and_false, false_and, or_true, true_or, or_false, false_or, if_true, if_false, not_true_eq_false, not_false_eq_true, forall_const, implies_true, false_implies, true_implies, Option.some.injEq, forall_eq', exists_eq_left', reduceCtorEq, Nat.reduceEqDiff, c1, T_X12_in, T_X12_ones, T_X11_within, T_X11_bit, T_X11_isIn, T_X11_oneIfIn, T_J6_bitCount_0f7a4, nI_1]
      exact ih (k + 1) b' v' (by omega) (by omega) hb'
    have h58 : hI h 38 k = -1 → ∀ v', wp 2 MX4_tightest Q 58 [some (.ref 32), none, none, some (.int (nI k)), some (.int v')] [] h := by
      intro c v'
      have := h63 (nI k) v' (Or.inr ⟨k, by omega, rfl, c⟩)
      refine s_X4_tightest_58 Q _ _ _ ?_
      simp only [b_X4_tightest_58, i_push, i_ild, i_ald, i_ist, i_ast, i_inc, i_bin, i_un, i_divs, i_i2l, i_lshl, i_lor, i_dup, i_dup2, i_pop, i_if, i_cmp, i_nul, i_vret, i_iret, i_zret, i_aret, i_keep, keep, lget, lset, ent, i_getI, i_getJ, i_getR, i_getN, i_putI, i_putZ, i_putJ, i_putR, i_iald, i_bald, i_alen, i_aald, i_iast, i_bast, i_aast, i_new, i_newa, i_anew, i_oini, i_callS, i_callV, i_callI, popn, sh4, i_sw, swP, i_copy, i_binS, List.map, Option.toList_none, Option.toList_some, List.append, List.nil_append, List.cons_append, List.length_cons, List.length_nil, List.replicate, Nat.sub_self, Nat.reduceSub, Nat.reduceAdd, hK_pI, hL_pI, hI_pI, hR_pI, hJ_pI, hT_pI, hS_pI, hK_pR, hL_pR, hI_pR, hR_pR, hJ_pR, hT_pR, hS_pR, hK_pJ, hL_pJ, hI_pJ, hR_pJ, hJ_pJ, hT_pJ, hS_pJ, hK_wI, hL_wI, hI_wI, hR_wI, hJ_wI, hT_wI, hS_wI, eq_self, and_true, true_and, and_false, false_and, or_true, true_or, or_false, false_or, if_true, if_false, not_true_eq_false, not_false_eq_true, forall_const, implies_true, false_implies, true_implies, Option.some.injEq, forall_eq', exists_eq_left', reduceCtorEq, Nat.reduceEqDiff, c1, T_X12_in, T_X12_ones, T_X11_within, T_X11_bit, T_X11_isIn, T_X11_oneIfIn, T_J6_bitCount_0f7a4]
      exact this
    have hc : hI h 38 k = -1 → T_X4_openRooms [.ref 32, .int (nI k)] h (fun r h' => c_X4_tightest_29 Q [some (.ref 32), some (.int b), some (.int v), some (.int (nI k)), none] (r.toList ++ []) h') := by
      intro c
      refine ⟨rfl, hl, hst, R, n, k, hR, hn, h12, h32, rfl, by omega, hw, fun X _ => ?_⟩
      show c_X4_tightest_29 Q _ [.int X] h
      have h58' := h58 c
      have h63' : ∀ b' v', b' = b → ¬ b = -1 → wp 2 MX4_tightest Q 63 [some (.ref 32), some (.int b'), some (.int v'), some (.int (nI k)), none] [] h := fun b' v' e nb => h63 b' v' (by
        rcases hb with ⟨e2, _⟩ | ⟨i, hi, e2, z⟩
        · exact absurd e2 nb
        · exact Or.inr ⟨i, by omega, by rw [e, e2], z⟩)
      simp only [c_X4_tightest_29, lx_pI, lx_wI, lx_t hl, lx_k hl, lx_r hl, lx_l hl, i_push, i_ild, i_ald, i_ist, i_ast, i_inc, i_bin, i_un, i_divs, i_i2l, i_lshl, i_lor, i_dup, i_dup2, i_pop, i_if, i_cmp, i_nul, i_vret, i_iret, i_zret, i_aret, i_keep, keep, lget, lset, ent, i_getI, i_getJ, i_getR, i_getN, i_putI, i_putZ, i_putJ, i_putR, i_iald, i_bald, i_alen, i_aald, i_iast, i_bast, i_aast, i_new, i_newa, i_anew, i_oini, i_callS, i_callV, i_callI, popn, sh4, i_sw, swP, i_copy, i_binS, List.map, Option.toList_none, Option.toList_some, List.append, List.nil_append, List.cons_append, List.length_cons, List.length_nil, List.replicate, Nat.sub_self, Nat.reduceSub, Nat.reduceAdd, hK_pI, hL_pI, hI_pI, hR_pI, hJ_pI, hT_pI, hS_pI, hK_pR, hL_pR, hI_pR, hR_pR, hJ_pR, hT_pR, hS_pR, hK_pJ, hL_pJ, hI_pJ, hR_pJ, hJ_pJ, hT_pJ, hS_pJ, hK_wI, hL_wI, hI_wI, hR_wI, hJ_wI, hT_wI, hS_wI, eq_self, and_true, true_and, and_false, false_and, or_true, true_or, or_false, false_or, if_true, if_false, not_true_eq_false, not_false_eq_true, forall_const, implies_true, false_implies, true_implies, Option.some.injEq, forall_eq', exists_eq_left', reduceCtorEq, Nat.reduceEqDiff, c1, T_X12_in, T_X12_ones, T_X11_within, T_X11_bit, T_X11_isIn, T_X11_oneIfIn, T_J6_bitCount_0f7a4, cl_nI (show k < 2147483648 by omega), in_nI (show k < 10 by omega) (by decide)]
      exact ⟨fun _ => h58' _, fun nb => ⟨fun _ => h63' b _ rfl nb, fun _ => h58' _⟩⟩
    have hno : ¬ hI h 38 k = -1 → wp 2 MX4_tightest Q 63 [some (.ref 32), some (.int b), some (.int v), some (.int (nI k)), none] [] h := fun c => h63 b v (by
      rcases hb with ⟨e, z⟩ | ⟨i, hi, e, z⟩
      · exact Or.inl ⟨e, fun i hi => by
          by_cases e2 : i = k
          · rw [e2]; exact c
          · exact z i (by omega)⟩
      · exact Or.inr ⟨i, by omega, e, z⟩)
    refine s_X4_tightest_6 Q _ _ _ ?_
    simp only [b_X4_tightest_6, lx_pI, lx_wI, lx_t hl, lx_k hl, lx_r hl, lx_l hl, i_push, i_ild, i_ald, i_ist, i_ast, i_inc, i_bin, i_un, i_divs, i_i2l, i_lshl, i_lor, i_dup, i_dup2, i_pop, i_if, i_cmp, i_nul, i_vret, i_iret, i_zret, i_aret, i_keep, keep, lget, lset, ent, i_getI, i_getJ, i_getR, i_getN, i_putI, i_putZ, i_putJ, i_putR, i_iald, i_bald, i_alen, i_aald, i_iast, i_bast, i_aast, i_new, i_newa, i_anew, i_oini, i_callS, i_callV, i_callI, popn, sh4, i_sw, swP, i_copy, i_binS, List.map, Option.toList_none, Option.toList_some, List.append, List.nil_append, List.cons_append, List.length_cons, List.length_nil, List.replicate, Nat.sub_self, Nat.reduceSub, Nat.reduceAdd, hK_pI, hL_pI, hI_pI, hR_pI, hJ_pI, hT_pI, hS_pI, hK_pR, hL_pR, hI_pR, hR_pR, hJ_pR, hT_pR, hS_pR, hK_pJ, hL_pJ, hI_pJ, hR_pJ, hJ_pJ, hT_pJ, hS_pJ, hK_wI, hL_wI, hI_wI, hR_wI, hJ_wI, hT_wI, hS_wI, eq_self, and_true, true_and, and_false, false_and, or_true, true_or, or_false, false_or, if_true, if_false, not_true_eq_false, not_false_eq_true, forall_const, implies_true, false_implies, true_implies, Option.some.injEq, forall_eq', exists_eq_left', reduceCtorEq, Nat.reduceEqDiff, c1, T_X12_in, T_X12_ones, T_X11_within, T_X11_bit, T_X11_isIn, T_X11_oneIfIn, T_J6_bitCount_0f7a4, h32, cl_nI (show k < 2147483648 by omega), in_nI (show k < 10 by omega) (by decide)]
    exact ⟨fun z => absurd z (nI_ge (by omega) (by omega)), fun _ => ⟨hc, hno⟩⟩
set_option maxRecDepth 100000 in
set_option maxHeartbeats 4000000 in
theorem ok_X4_tightest : ctr 2 MX4_tightest T_X4_tightest := by
  refine ctr_of pn_X4 wc_X4_tightest (fun av h Q hT => ?_)
  unfold T_X4_tightest at hT
  split at hT
  · rename_i o
    refine ⟨⟨by simp [Value.category], Nat.le_of_ble_eq_true rfl⟩, s_X4_tightest_0 Q _ _ _ ?_⟩
    obtain ⟨rfl, hl, hst, R, n, hR, hn, h12, h32, hw, hq0, hq1⟩ := hT
    have := ti_6 Q h hl hst R n hR hn h12 h32 hw hq0 hq1 n 0 (-1) 0 (by omega) (by omega) (Or.inl ⟨rfl, fun i hi => absurd hi (Nat.not_lt_zero _)⟩)
    simp only [MX4_tightest, b_X4_tightest_0, i_push, i_ild, i_ald, i_ist, i_ast, i_inc, i_bin, i_un, i_divs, i_i2l, i_lshl, i_lor, i_dup, i_dup2, i_pop, i_if, i_cmp, i_nul, i_vret, i_iret, i_zret, i_aret, i_keep, keep, lget, lset, ent, i_getI, i_getJ, i_getR, i_getN, i_putI, i_putZ, i_putJ, i_putR, i_iald, i_bald, i_alen, i_aald, i_iast, i_bast, i_aast, i_new, i_newa, i_anew, i_oini, i_callS, i_callV, i_callI, popn, sh4, i_sw, swP, i_copy, i_binS, List.map, Option.toList_none, Option.toList_some, List.append, List.nil_append, List.cons_append, List.length_cons, List.length_nil, List.replicate, Nat.sub_self, Nat.reduceSub, Nat.reduceAdd, hK_pI, hL_pI, hI_pI, hR_pI, hJ_pI, hT_pI, hS_pI, hK_pR, hL_pR, hI_pR, hR_pR, hJ_pR, hT_pR, hS_pR, hK_pJ, hL_pJ, hI_pJ, hR_pJ, hJ_pJ, hT_pJ, hS_pJ, hK_wI, hL_wI, hI_wI, hR_wI, hJ_wI, hT_wI, hS_wI, eq_self, and_true, true_and, and_false, false_and, or_true, true_or, or_false, false_or, if_true, if_false, not_true_eq_false, not_false_eq_true, forall_const, implies_true, false_implies, true_implies, Option.some.injEq, forall_eq', exists_eq_left', reduceCtorEq, Nat.reduceEqDiff, c1, T_X12_in, T_X12_ones, T_X11_within, T_X11_bit, T_X11_isIn, T_X11_oneIfIn, T_J6_bitCount_0f7a4]
    exact this
  · exact hT.elim
def T_X4_isCrowded : Tr := fun av h Q => match av with
  | [.ref o] => o = 32 ∧ LayX h ∧ hR h 32 0 = some 3 ∧ ∃ R n sz cp wh, PS (hI h) R n sz cp ∧ PD (hI h) R n sz cp wh ∧ (lfS wh sz cp n R < unS wh sz n → Q (some (.int 1)) h) ∧ (¬ lfS wh sz cp n R < unS wh sz n → Q (some (.int 0)) h)
  | _ => False
def L_X4_isCrowded : List UInt8 := [3, 60, 3, 61, 28, 42, 180, 0, 43, 180, 0, 55, 180, 0, 61, 162, 0, 18, 27, 42, 180, 0, 40, 28, 46, 96, 60, 132, 2, 1, 167, 255, 230, 3, 61, 28, 42, 180, 0, 51, 162, 0, 32, 27, 42, 180, 0, 27, 28, 46, 2, 160, 0, 12, 42, 180, 0, 15, 28, 46, 167, 0, 4, 3, 100, 60, 132, 2, 1, 167, 255, 222, 27, 156, 0, 7, 4, 167, 0, 4, 3, 172]
theorem Lc_X4_isCrowded : MX4_isCrowded.2.1 = ⟨L_X4_isCrowded.toArray⟩ := rfl
theorem D_X4_isCrowded_0 : dseq MX4_isCrowded.2.1 0 [(.iconst 0, 1), (.istore_n 1, 1), (.iconst 0, 1), (.istore_n 2, 1)] := dq Lc_X4_isCrowded 0 _ (by decide +kernel)
theorem D_X4_isCrowded_4 : dseq MX4_isCrowded.2.1 4 [(.iload_n 2, 1), (.aload_n 0, 1), (.getfield 43, 3), (.getfield 55, 3), (.getfield 61, 3), (.if_icmp .ge 18, 3), (.iload_n 1, 1), (.aload_n 0, 1), (.getfield 40, 3), (.iload_n 2, 1), (.iaload, 1), (.iadd, 1), (.istore_n 1, 1), (.iinc 2 1, 3), (.goto (-26), 3)] := dq Lc_X4_isCrowded 4 _ (by decide +kernel)
theorem D_X4_isCrowded_33 : dseq MX4_isCrowded.2.1 33 [(.iconst 0, 1), (.istore_n 2, 1)] := dq Lc_X4_isCrowded 33 _ (by decide +kernel)
theorem D_X4_isCrowded_35 : dseq MX4_isCrowded.2.1 35 [(.iload_n 2, 1), (.aload_n 0, 1), (.getfield 51, 3), (.if_icmp .ge 32, 3), (.iload_n 1, 1), (.aload_n 0, 1), (.getfield 27, 3), (.iload_n 2, 1), (.iaload, 1), (.iconst (-1), 1), (.if_icmp .ne 12, 3), (.aload_n 0, 1), (.getfield 15, 3), (.iload_n 2, 1), (.iaload, 1), (.goto 4, 3)] := dq Lc_X4_isCrowded 35 _ (by decide +kernel)
theorem D_X4_isCrowded_72 : dseq MX4_isCrowded.2.1 72 [(.iload_n 1, 1), (.ifCond .ge 7, 3), (.iconst 1, 1), (.goto 4, 3)] := dq Lc_X4_isCrowded 72 _ (by decide +kernel)
theorem D_X4_isCrowded_80 : dseq MX4_isCrowded.2.1 80 [(.iconst 0, 1), (.ireturn, 1)] := dq Lc_X4_isCrowded 80 _ (by decide +kernel)
theorem D_X4_isCrowded_81 : dseq MX4_isCrowded.2.1 81 [(.ireturn, 1)] := dq Lc_X4_isCrowded 81 _ (by decide +kernel)
theorem D_X4_isCrowded_63 : dseq MX4_isCrowded.2.1 63 [(.iconst 0, 1)] := dq Lc_X4_isCrowded 63 _ (by decide +kernel)
theorem D_X4_isCrowded_64 : dseq MX4_isCrowded.2.1 64 [(.isub, 1), (.istore_n 1, 1), (.iinc 2 1, 3), (.goto (-34), 3)] := dq Lc_X4_isCrowded 64 _ (by decide +kernel)
def b_X4_isCrowded_0 (Q : Option Value → Hp → Prop) : Kt := i_push (.int 0) (i_ist 1 (i_push (.int 0) (i_ist 2 (i_keep [true, true, true] (wp 0 MX4_isCrowded Q 4)))))
set_option maxRecDepth 100000 in
theorem s_X4_isCrowded_0 (Q : Option Value → Hp → Prop) : ∀ A st h, b_X4_isCrowded_0 Q A st h → wp 0 MX4_isCrowded Q 0 A st h := (q1 (s_iconst (n := 0) (v := 0) (by decide)) D_X4_isCrowded_0 fun D => (qL (s_istn (n := 1) (i := 1) rfl) (by decide) D fun D => (q1 (s_iconst (n := 0) (v := 0) (by decide)) D fun D => (qL (s_istn (n := 2) (i := 2) rfl) (by decide) D fun D => (s_keep [true, true, true] fun _ _ _ h => h)))))
def b_X4_isCrowded_4 (Q : Option Value → Hp → Prop) : Kt := i_ild 2 (i_ald 0 (i_getR 4 0 (i_getR 8 0 (i_getI 6 0 (i_cmp (fun x y => y ≤ x) (i_push (.int 0) (i_ist 2 (i_keep [true, true, true] (wp 0 MX4_isCrowded Q 35)))) (i_ild 1 (i_ald 0 (i_getR 4 12 (i_ild 2 (i_iald (i_bin (fun x y => x + y) (i_ist 1 (i_inc 2 1 (i_keep [true, true, true] (wp 0 MX4_isCrowded Q 4)))))))))))))))
set_option maxRecDepth 100000 in
theorem s_X4_isCrowded_4 (Q : Option Value → Hp → Prop) : ∀ A st h, b_X4_isCrowded_4 Q A st h → wp 0 MX4_isCrowded Q 4 A st h := (q1 (s_ildn (n := 2) (i := 2) rfl) D_X4_isCrowded_4 fun D => (q1 (s_aldn (n := 0) (i := 0) rfl) D fun D => (qC fl_X4_43 rfl D fun D => (qC fl_X4_55 rfl D fun D => (qC fl_X4_61 rfl D fun D => (qB s_cmpge 33 (by decide) D (q1 (s_iconst (n := 0) (v := 0) (by decide)) D_X4_isCrowded_33 fun D => (qL (s_istn (n := 2) (i := 2) rfl) (by decide) D fun D => (s_keep [true, true, true] fun _ _ _ h => h))) fun D => (q1 (s_ildn (n := 1) (i := 1) rfl) D fun D => (q1 (s_aldn (n := 0) (i := 0) rfl) D fun D => (qC fl_X4_40 rfl D fun D => (q1 (s_ildn (n := 2) (i := 2) rfl) D fun D => (q1 s_iald D fun D => (q1 s_add D fun D => (qL (s_istn (n := 1) (i := 1) rfl) (by decide) D fun D => (qL (s_inc (i := 2) (n := 1) (v := 1) (by decide)) (by decide) D fun D => (qG 4 (by decide) D (s_keep [true, true, true] fun _ _ _ h => h))))))))))))))))
def b_X4_isCrowded_35 (Q : Option Value → Hp → Prop) : Kt := i_ild 2 (i_ald 0 (i_getI 4 2 (i_cmp (fun x y => y ≤ x) (i_ild 1 (i_if (fun x => 0 ≤ x) (i_push (.int 0) (i_zret Q)) (i_push (.int 1) (i_zret Q)))) (i_ild 1 (i_ald 0 (i_getR 4 8 (i_ild 2 (i_iald (i_push (.int (-1)) (i_cmp (fun x y => x = y) (i_ald 0 (i_getR 4 4 (i_ild 2 (i_iald (i_keep [true, false, true] (wp 0 MX4_isCrowded Q 64)))))) (i_push (.int 0) (i_keep [true, false, true] (wp 0 MX4_isCrowded Q 64)))))))))))))
set_option maxRecDepth 100000 in
theorem s_X4_isCrowded_35 (Q : Option Value → Hp → Prop) : ∀ A st h, b_X4_isCrowded_35 Q A st h → wp 0 MX4_isCrowded Q 35 A st h := (q1 (s_ildn (n := 2) (i := 2) rfl) D_X4_isCrowded_35 fun D => (q1 (s_aldn (n := 0) (i := 0) rfl) D fun D => (qC fl_X4_51 rfl D fun D => (qB s_cmpge 72 (by decide) D (q1 (s_ildn (n := 1) (i := 1) rfl) D_X4_isCrowded_72 fun D => (qB s_ifge 80 (by decide) D (q1 (s_iconst (n := 0) (v := 0) (by decide)) D_X4_isCrowded_80 fun D => (qZ rfl D)) fun D => (q1 (s_iconst (n := 1) (v := 1) (by decide)) D fun D => (qG 81 (by decide) D (qZ rfl D_X4_isCrowded_81))))) fun D => (q1 (s_ildn (n := 1) (i := 1) rfl) D fun D => (q1 (s_aldn (n := 0) (i := 0) rfl) D fun D => (qC fl_X4_27 rfl D fun D => (q1 (s_ildn (n := 2) (i := 2) rfl) D fun D => (q1 s_iald D fun D => (q1 (s_iconst (n := (-1)) (v := (-1)) (by decide)) D fun D => (qBn s_cmpne2 63 (by decide) D (q1 (s_iconst (n := 0) (v := 0) (by decide)) D_X4_isCrowded_63 fun D => (s_keep [true, false, true] fun _ _ _ h => h)) fun D => (q1 (s_aldn (n := 0) (i := 0) rfl) D fun D => (qC fl_X4_15 rfl D fun D => (q1 (s_ildn (n := 2) (i := 2) rfl) D fun D => (q1 s_iald D fun D => (qG 64 (by decide) D (s_keep [true, false, true] fun _ _ _ h => h)))))))))))))))))
def b_X4_isCrowded_64 (Q : Option Value → Hp → Prop) : Kt := i_bin (fun x y => x - y) (i_ist 1 (i_inc 2 1 (i_keep [true, true, true] (wp 0 MX4_isCrowded Q 35))))
set_option maxRecDepth 100000 in
theorem s_X4_isCrowded_64 (Q : Option Value → Hp → Prop) : ∀ A st h, b_X4_isCrowded_64 Q A st h → wp 0 MX4_isCrowded Q 64 A st h := (q1 s_sub D_X4_isCrowded_64 fun D => (qL (s_istn (n := 1) (i := 1) rfl) (by decide) D fun D => (qL (s_inc (i := 2) (n := 1) (v := 1) (by decide)) (by decide) D fun D => (qG 35 (by decide) D (s_keep [true, true, true] fun _ _ _ h => h)))))

theorem oB_none {x : Option Nat} (hx : ∀ b, x = some b → b < 1000) : oB x = -1 ↔ x = none := by
  cases x with
  | none => exact ⟨fun _ => rfl, fun _ => rfl⟩
  | some b => exact ⟨fun z => absurd z (nI_m1 b (by have := hx b rfl; omega)), fun z => by cases z⟩
set_option maxRecDepth 100000 in
set_option maxHeartbeats 400000 in
theorem cr_35 (Q : Option Value → Hp → Prop) (h : Hp) (hl : LayX h) (R n : Nat) (sz cp : Nat → Nat) (wh : Nat → Option Nat) (hs : PS (hI h) R n sz cp) (hd : PD (hI h) R n sz cp wh) (A : Nat) (hA : A ≤ 100) (hq1 : A < unS wh sz n → Q (some (.int 1)) h) (hq0 : ¬ A < unS wh sz n → Q (some (.int 0)) h) :
    ∀ (m k : Nat), m = n - k → k ≤ n → wp 0 MX4_isCrowded Q 35 [some (.ref 32), some (.int (nI A - nI (unS wh sz k))), some (.int (nI k))] [] h := by
  obtain ⟨s1, s2, s3, s4, s5, s6, s7, s8⟩ := hs
  have hb : ∀ k, k ≤ n → unS wh sz k ≤ 240 := fun k hk => by
    have : unS wh sz k ≤ k * 24 := fb_sm_bound (fun i hi => by
      have := (s5 i (by omega)).2.1
      split <;> omega)
    omega
  have hoN : ∀ i, i < n → (hI h 38 i = -1 ↔ wh i = none) := fun i hi => by
    rw [(hd.1 i hi).1]
    exact oB_none (fun b hb => by have := ((hd.1 i hi).2 b hb).1; omega)
  intro m
  induction m with
  | zero =>
    intro k hm hk
    have e : k = n := by omega
    subst e
    have hbk := hb k (Nat.le_refl _)
    have hge : 0 ≤ nI A - nI (unS wh sz k) ↔ ¬ A < unS wh sz k := by
      rw [Int32.le_iff_toInt_le, pk_sub_toInt (by omega) (by omega)]
      have : (0 : Int32).toInt = 0 := by decide
      rw [this]; omega
    refine s_X4_isCrowded_35 Q _ _ _ ?_
    generalize unS wh sz k = U at hq1 hq0 hge hbk ⊢
    simp only [b_X4_isCrowded_35, lx_pI, lx_wI, lx_t hl, lx_k hl, lx_r hl, lx_l hl, i_push, i_ild, i_ald, i_ist, i_ast, i_inc, i_bin, i_un, i_divs, i_i2l, i_lshl, i_lor, i_dup, i_dup2, i_pop, i_if, i_cmp, i_nul, i_vret, i_iret, i_zret, i_aret, i_keep, keep, lget, lset, ent, i_getI, i_getJ, i_getR, i_getN, i_putI, i_putZ, i_putJ, i_putR, i_iald, i_bald, i_alen, i_aald, i_iast, i_bast, i_aast, i_new, i_newa, i_anew, i_oini, i_callS, i_callV, i_callI, popn, sh4, i_sw, swP, i_copy, i_binS, List.map, Option.toList_none, Option.toList_some, List.append, List.nil_append, List.cons_append, List.length_cons, List.length_nil, List.replicate, Nat.sub_self, Nat.reduceSub, Nat.reduceAdd, hK_pI, hL_pI, hI_pI, hR_pI, hJ_pI, hT_pI, hS_pI, hK_pR, hL_pR, hI_pR, hR_pR, hJ_pR, hT_pR, hS_pR, hK_pJ, hL_pJ, hI_pJ, hR_pJ, hJ_pJ, hT_pJ, hS_pJ, hK_wI, hL_wI, hI_wI, hR_wI, hJ_wI, hT_wI, hS_wI, eq_self, and_true, true_and, and_false, false_and, or_true, true_or, or_false, false_or, if_true, if_false, not_true_eq_false, not_false_eq_true, forall_const, implies_true, false_implies, true_implies, Option.some.injEq, forall_eq', exists_eq_left', reduceCtorEq, Nat.reduceEqDiff, c1, T_X12_in, T_X12_ones, T_X11_within, T_X11_bit, T_X11_isIn, T_X11_oneIfIn, T_J6_bitCount_0f7a4, s4, hge]
    exact ⟨fun _ => ⟨fun c => hq0 c, fun c => hq1 (Classical.not_not.mp c)⟩, fun z => absurd (nI_le (Nat.le_refl _) (by omega)) z⟩
  | succ m ih =>
    intro k hm hk
    have hgo := ih (k + 1) (by omega) (by omega)
    have e1 : unS wh sz (k + 1) = unS wh sz k + (if wh k = none then sz k else 0) := rfl
    have h64 : ∀ v, v = nI (if wh k = none then sz k else 0) → wp 0 MX4_isCrowded Q 64 [some (.ref 32), none, some (.int (nI k))] [.int v, .int (nI A - nI (unS wh sz k))] h := by
      intro v hv
      have e2 : nI A - nI (unS wh sz (k + 1)) = nI A - nI (unS wh sz k) - v := by
        rw [e1, hv, ← nI_add, Int32.sub_eq_add_neg, Int32.neg_add, Int32.sub_eq_add_neg, Int32.sub_eq_add_neg, Int32.sub_eq_add_neg, Int32.add_assoc]
      rw [e2] at hgo
      refine s_X4_isCrowded_64 Q _ _ _ ?_
      generalize nI A - nI (unS wh sz k) = U at hgo ⊢
      simp only [b_X4_isCrowded_64, i_push, i_ild, i_ald, i_ist, i_ast, i_inc, i_bin, i_un, i_divs, i_i2l, i_lshl, i_lor, i_dup, i_dup2, i_pop, i_if, i_cmp, i_nul, i_vret, i_iret, i_zret, i_aret, i_keep, keep, lget, lset, ent, i_getI, i_getJ, i_getR, i_getN, i_putI, i_putZ, i_putJ, i_putR, i_iald, i_bald, i_alen, i_aald, i_iast, i_bast, i_aast, i_new, i_newa, i_anew, i_oini, i_callS, i_callV, i_callI, popn, sh4, i_sw, swP, i_copy, i_binS, List.map, Option.toList_none, Option.toList_some, List.append, List.nil_append, List.cons_append, List.length_cons, List.length_nil, List.replicate, Nat.sub_self, Nat.reduceSub, Nat.reduceAdd, hK_pI, hL_pI, hI_pI, hR_pI, hJ_pI, hT_pI, hS_pI, hK_pR, hL_pR, hI_pR, hR_pR, hJ_pR, hT_pR, hS_pR, hK_pJ, hL_pJ, hI_pJ, hR_pJ, hJ_pJ, hT_pJ, hS_pJ, hK_wI, hL_wI, hI_wI, hR_wI, hJ_wI, hT_wI, hS_wI, eq_self, and_true, true_and, and_false, false_and, or_true, true_or, or_false, false_or, if_true, if_false, not_true_eq_false, not_false_eq_true, forall_const, implies_true, false_implies, true_implies, Option.some.injEq, forall_eq', exists_eq_left', reduceCtorEq, Nat.reduceEqDiff, c1, T_X12_in, T_X12_ones, T_X11_within, T_X11_bit, T_X11_isIn, T_X11_oneIfIn, T_J6_bitCount_0f7a4, nI_1]
      exact hgo
    refine s_X4_isCrowded_35 Q _ _ _ ?_
    generalize nI A - nI (unS wh sz k) = U at h64 ⊢
    simp only [b_X4_isCrowded_35, lx_pI, lx_wI, lx_t hl, lx_k hl, lx_r hl, lx_l hl, i_push, i_ild, i_ald, i_ist, i_ast, i_inc, i_bin, i_un, i_divs, i_i2l, i_lshl, i_lor, i_dup, i_dup2, i_pop, i_if, i_cmp, i_nul, i_vret, i_iret, i_zret, i_aret, i_keep, keep, lget, lset, ent, i_getI, i_getJ, i_getR, i_getN, i_putI, i_putZ, i_putJ, i_putR, i_iald, i_bald, i_alen, i_aald, i_iast, i_bast, i_aast, i_new, i_newa, i_anew, i_oini, i_callS, i_callV, i_callI, popn, sh4, i_sw, swP, i_copy, i_binS, List.map, Option.toList_none, Option.toList_some, List.append, List.nil_append, List.cons_append, List.length_cons, List.length_nil, List.replicate, Nat.sub_self, Nat.reduceSub, Nat.reduceAdd, hK_pI, hL_pI, hI_pI, hR_pI, hJ_pI, hT_pI, hS_pI, hK_pR, hL_pR, hI_pR, hR_pR, hJ_pR, hT_pR, hS_pR, hK_pJ, hL_pJ, hI_pJ, hR_pJ, hJ_pJ, hT_pJ, hS_pJ, hK_wI, hL_wI, hI_wI, hR_wI, hJ_wI, hT_wI, hS_wI, eq_self, and_true, true_and, and_false, false_and, or_true, true_or, or_false, false_or, if_true, if_false, not_true_eq_false, not_false_eq_true, forall_const, implies_true, false_implies, true_implies, Option.some.injEq, forall_eq', exists_eq_left', reduceCtorEq, Nat.reduceEqDiff, c1, T_X12_in, T_X12_ones, T_X11_within, T_X11_bit, T_X11_isIn, T_X11_oneIfIn, T_J6_bitCount_0f7a4, s4, cl_nI (show k < 2147483648 by omega), in_nI (show k < 10 by omega) (by decide), hoN k (by omega)]
    refine ⟨fun z => absurd z (nI_ge (by omega) (by omega)), fun _ => ⟨fun c => h64 _ ?_, fun c => h64 _ ?_⟩⟩
    · rw [if_pos c]; exact (s5 k (by omega)).1
    · rw [if_neg c]; rfl
set_option maxRecDepth 100000 in
set_option maxHeartbeats 400000 in
theorem cr_4 (Q : Option Value → Hp → Prop) (h : Hp) (hl : LayX h) (hst : hR h 32 0 = some 3) (R n : Nat) (sz cp : Nat → Nat) (wh : Nat → Option Nat) (hs : PS (hI h) R n sz cp) (hd : PD (hI h) R n sz cp wh) (hq1 : lfS wh sz cp n R < unS wh sz n → Q (some (.int 1)) h) (hq0 : ¬ lfS wh sz cp n R < unS wh sz n → Q (some (.int 0)) h) :
    ∀ (m r : Nat), m = R - r → r ≤ R → wp 0 MX4_isCrowded Q 4 [some (.ref 32), some (.int (nI (lfS wh sz cp n r))), some (.int (nI r))] [] h := by
  have hs' := hs
  obtain ⟨s1, s2, s3, s4, s5, s6, s7, s8⟩ := hs'
  intro m
  induction m with
  | zero =>
    intro r hm hr
    have e : r = R := by omega
    subst e
    have hA : lfS wh sz cp n r ≤ 100 := by
      have : lfS wh sz cp n r ≤ r * 9 := fb_sm_bound (fun k hk => by have := s8 k hk; omega)
      omega
    have h35 := cr_35 Q h hl r n sz cp wh hs hd _ hA hq1 hq0 n 0 (by omega) (by omega)
    have e0 : nI (lfS wh sz cp n r) - nI (unS wh sz 0) = nI (lfS wh sz cp n r) := by
      show _ - (0 : Int32) = _
      exact Int32.sub_zero _
    rw [e0] at h35
    refine s_X4_isCrowded_4 Q _ _ _ ?_
    generalize nI (lfS wh sz cp n r) = U at h35 ⊢
    simp only [b_X4_isCrowded_4, lx_pI, lx_wI, lx_t hl, lx_k hl, lx_r hl, lx_l hl, i_push, i_ild, i_ald, i_ist, i_ast, i_inc, i_bin, i_un, i_divs, i_i2l, i_lshl, i_lor, i_dup, i_dup2, i_pop, i_if, i_cmp, i_nul, i_vret, i_iret, i_zret, i_aret, i_keep, keep, lget, lset, ent, i_getI, i_getJ, i_getR, i_getN, i_putI, i_putZ, i_putJ, i_putR, i_iald, i_bald, i_alen, i_aald, i_iast, i_bast, i_aast, i_new, i_newa, i_anew, i_oini, i_callS, i_callV, i_callI, popn, sh4, i_sw, swP, i_copy, i_binS, List.map, Option.toList_none, Option.toList_some, List.append, List.nil_append, List.cons_append, List.length_cons, List.length_nil, List.replicate, Nat.sub_self, Nat.reduceSub, Nat.reduceAdd, hK_pI, hL_pI, hI_pI, hR_pI, hJ_pI, hT_pI, hS_pI, hK_pR, hL_pR, hI_pR, hR_pR, hJ_pR, hT_pR, hS_pR, hK_pJ, hL_pJ, hI_pJ, hR_pJ, hJ_pJ, hT_pJ, hS_pJ, hK_wI, hL_wI, hI_wI, hR_wI, hJ_wI, hT_wI, hS_wI, eq_self, and_true, true_and, and_false, false_and, or_true, true_or, or_false, false_or, if_true, if_false, not_true_eq_false, not_false_eq_true, forall_const, implies_true, false_implies, true_implies, Option.some.injEq, forall_eq', exists_eq_left', reduceCtorEq, Nat.reduceEqDiff, c1, T_X12_in, T_X12_ones, T_X11_within, T_X11_bit, T_X11_isIn, T_X11_oneIfIn, T_J6_bitCount_0f7a4, hst, s3]
    exact ⟨fun _ => h35, fun z => absurd (nI_le (Nat.le_refl _) (by omega)) z⟩
  | succ m ih =>
    intro r hm hr
    have hgo := ih (r + 1) (by omega) (by omega)
    have e1 : nI (lfS wh sz cp n (r + 1)) = nI (lfS wh sz cp n r) + hI h 42 r := by
      rw [(hd.2.1 r (by omega)).2, nI_add]; rfl
    rw [e1] at hgo
    refine s_X4_isCrowded_4 Q _ _ _ ?_
    generalize nI (lfS wh sz cp n r) = U at hgo ⊢
    simp only [b_X4_isCrowded_4, lx_pI, lx_wI, lx_t hl, lx_k hl, lx_r hl, lx_l hl, i_push, i_ild, i_ald, i_ist, i_ast, i_inc, i_bin, i_un, i_divs, i_i2l, i_lshl, i_lor, i_dup, i_dup2, i_pop, i_if, i_cmp, i_nul, i_vret, i_iret, i_zret, i_aret, i_keep, keep, lget, lset, ent, i_getI, i_getJ, i_getR, i_getN, i_putI, i_putZ, i_putJ, i_putR, i_iald, i_bald, i_alen, i_aald, i_iast, i_bast, i_aast, i_new, i_newa, i_anew, i_oini, i_callS, i_callV, i_callI, popn, sh4, i_sw, swP, i_copy, i_binS, List.map, Option.toList_none, Option.toList_some, List.append, List.nil_append, List.cons_append, List.length_cons, List.length_nil, List.replicate, Nat.sub_self, Nat.reduceSub, Nat.reduceAdd, hK_pI, hL_pI, hI_pI, hR_pI, hJ_pI, hT_pI, hS_pI, hK_pR, hL_pR, hI_pR, hR_pR, hJ_pR, hT_pR, hS_pR, hK_pJ, hL_pJ, hI_pJ, hR_pJ, hJ_pJ, hT_pJ, hS_pJ, hK_wI, hL_wI, hI_wI, hR_wI, hJ_wI, hT_wI, hS_wI, eq_self, and_true, true_and, and_false, false_and, or_true, true_or, or_false, false_or, if_true, if_false, not_true_eq_false, not_false_eq_true, forall_const, implies_true, false_implies, true_implies, Option.some.injEq, forall_eq', exists_eq_left', reduceCtorEq, Nat.reduceEqDiff, c1, T_X12_in, T_X12_ones, T_X11_within, T_X11_bit, T_X11_isIn, T_X11_oneIfIn, T_J6_bitCount_0f7a4, hst, s3, cl_nI (show r < 2147483648 by omega), in_nI (show r < 4 by omega) (by decide), nI_1]
    exact ⟨fun z => absurd z (nI_ge (by omega) (by omega)), fun _ => hgo⟩
set_option maxRecDepth 100000 in
set_option maxHeartbeats 4000000 in
theorem ok_X4_isCrowded : ctr 0 MX4_isCrowded T_X4_isCrowded := by
  refine ctr_of pn_X4 wc_X4_isCrowded (fun av h Q hT => ?_)
  unfold T_X4_isCrowded at hT
  split at hT
  · rename_i o
    refine ⟨⟨by simp [Value.category], Nat.le_of_ble_eq_true rfl⟩, s_X4_isCrowded_0 Q _ _ _ ?_⟩
    obtain ⟨rfl, hl, hst, R, n, sz, cp, wh, hs, hd, hq1, hq0⟩ := hT
    have := cr_4 Q h hl hst R n sz cp wh hs hd hq1 hq0 R 0 (by omega) (by omega)
    simp only [MX4_isCrowded, b_X4_isCrowded_0, i_push, i_ild, i_ald, i_ist, i_ast, i_inc, i_bin, i_un, i_divs, i_i2l, i_lshl, i_lor, i_dup, i_dup2, i_pop, i_if, i_cmp, i_nul, i_vret, i_iret, i_zret, i_aret, i_keep, keep, lget, lset, ent, i_getI, i_getJ, i_getR, i_getN, i_putI, i_putZ, i_putJ, i_putR, i_iald, i_bald, i_alen, i_aald, i_iast, i_bast, i_aast, i_new, i_newa, i_anew, i_oini, i_callS, i_callV, i_callI, popn, sh4, i_sw, swP, i_copy, i_binS, List.map, Option.toList_none, Option.toList_some, List.append, List.nil_append, List.cons_append, List.length_cons, List.length_nil, List.replicate, Nat.sub_self, Nat.reduceSub, Nat.reduceAdd, hK_pI, hL_pI, hI_pI, hR_pI, hJ_pI, hT_pI, hS_pI, hK_pR, hL_pR, hI_pR, hR_pR, hJ_pR, hT_pR, hS_pR, hK_pJ, hL_pJ, hI_pJ, hR_pJ, hJ_pJ, hT_pJ, hS_pJ, hK_wI, hL_wI, hI_wI, hR_wI, hJ_wI, hT_wI, hS_wI, eq_self, and_true, true_and, and_false, false_and, or_true, true_or, or_false, false_or, if_true, if_false, not_true_eq_false, not_false_eq_true, forall_const, implies_true, false_implies, true_implies, Option.some.injEq, forall_eq', exists_eq_left', reduceCtorEq, Nat.reduceEqDiff, c1, T_X12_in, T_X12_ones, T_X11_within, T_X11_bit, T_X11_isIn, T_X11_oneIfIn, T_J6_bitCount_0f7a4]
    exact this
  · exact hT.elim
