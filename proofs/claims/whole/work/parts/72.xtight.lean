/-! ===== the class: put, takeOut, tightest, isCrowded ===== -/
theorem put_ok {H : Hp} (hl : LayX H) {i r : Nat} (hi : i < 10) (hr : r < 4) {Q : Option Value → Hp → Prop} (hq : Q none (wI H (putM (hI H) i r))) : T_X4_put [.ref 33, .int (nI i), .int (nI r)] H Q := by
  have hH : wI H (putM (hI H) i r) = pI (pI (pI (pI H 39 i (nI r)) 41 r (hI H 41 r ||| hI H 34 i)) 42 r (hI H 36 i)) 43 r (hI H 43 r - hI H 35 i) := rfl
  rw [hH] at hq
  unfold T_X4_put
  simp only [b_X4_put_0, lx_pI, lx_wI, lx_t hl, lx_k hl, lx_r hl, lx_l hl, i_push, i_ild, i_ald, i_ist, i_ast, i_inc, i_bin, i_un, i_divs, i_i2l, i_lshl, i_lor, i_dup, i_dup2, i_pop, i_if, i_cmp, i_nul, i_vret, i_iret, i_zret, i_aret, i_keep, keep, lget, lset, ent, i_getI, i_getJ, i_getR, i_getN, i_putI, i_putZ, i_putJ, i_putR, i_iald, i_bald, i_alen, i_aald, i_iast, i_bast, i_aast, i_new, i_newa, i_anew, i_oini, i_callS, i_callV, i_callI, popn, sh4, i_sw, swP, i_copy, i_binS, List.map, Option.toList_none, Option.toList_some, List.append, List.nil_append, List.cons_append, List.length_cons, List.length_nil, List.replicate, Nat.sub_self, Nat.reduceSub, Nat.reduceAdd, hK_pI, hL_pI, hI_pI, hR_pI, hJ_pI, hT_pI, hS_pI, hK_pR, hL_pR, hI_pR, hR_pR, hJ_pR, hT_pR, hS_pR, hK_pJ, hL_pJ, hI_pJ, hR_pJ, hJ_pJ, hT_pJ, hS_pJ, hK_wI, hL_wI, hI_wI, hR_wI, hJ_wI, hT_wI, hS_wI, eq_self, and_true, true_and, and_false, false_and, or_true, true_or, or_false, false_or, if_true, if_false, not_true_eq_false, not_false_eq_true, forall_const, implies_true, false_implies, true_implies, Option.some.injEq, forall_eq', exists_eq_left', reduceCtorEq, Nat.reduceEqDiff, c1, T_X12_in, T_X12_ones, T_X11_within, T_X11_bit, T_X11_isIn, T_X11_oneIfIn, T_J6_bitCount_0f7a4, cl_nI (show i < 2147483648 by omega), in_nI (show i < 10 by omega) (by decide), cl_nI (show r < 2147483648 by omega), in_nI (show r < 4 by omega) (by decide)]
  exact hq
theorem out_ok {H : Hp} (hl : LayX H) {i r : Nat} (hi : i < 10) (hr : r < 4) (hw : hI H 39 i = nI r) {Q : Option Value → Hp → Prop} (hq : Q none (wI H (outM (hI H) i r))) : T_X4_takeOut [.ref 33, .int (nI i)] H Q := by
  have hH : wI H (outM (hI H) i r) = pI (pI (pI H 39 i (-1)) 41 r (hI H 41 r &&& (hI H 34 i ^^^ (-1)))) 43 r (hI H 43 r + hI H 35 i) := rfl
  rw [hH] at hq
  unfold T_X4_takeOut
  simp only [b_X4_takeOut_0, lx_pI, lx_wI, lx_t hl, lx_k hl, lx_r hl, lx_l hl, i_push, i_ild, i_ald, i_ist, i_ast, i_inc, i_bin, i_un, i_divs, i_i2l, i_lshl, i_lor, i_dup, i_dup2, i_pop, i_if, i_cmp, i_nul, i_vret, i_iret, i_zret, i_aret, i_keep, keep, lget, lset, ent, i_getI, i_getJ, i_getR, i_getN, i_putI, i_putZ, i_putJ, i_putR, i_iald, i_bald, i_alen, i_aald, i_iast, i_bast, i_aast, i_new, i_newa, i_anew, i_oini, i_callS, i_callV, i_callI, popn, sh4, i_sw, swP, i_copy, i_binS, List.map, Option.toList_none, Option.toList_some, List.append, List.nil_append, List.cons_append, List.length_cons, List.length_nil, List.replicate, Nat.sub_self, Nat.reduceSub, Nat.reduceAdd, hK_pI, hL_pI, hI_pI, hR_pI, hJ_pI, hT_pI, hS_pI, hK_pR, hL_pR, hI_pR, hR_pR, hJ_pR, hT_pR, hS_pR, hK_pJ, hL_pJ, hI_pJ, hR_pJ, hJ_pJ, hT_pJ, hS_pJ, hK_wI, hL_wI, hI_wI, hR_wI, hJ_wI, hT_wI, hS_wI, eq_self, and_true, true_and, and_false, false_and, or_true, true_or, or_false, false_or, if_true, if_false, not_true_eq_false, not_false_eq_true, forall_const, implies_true, false_implies, true_implies, Option.some.injEq, forall_eq', exists_eq_left', reduceCtorEq, Nat.reduceEqDiff, c1, T_X12_in, T_X12_ones, T_X11_within, T_X11_bit, T_X11_isIn, T_X11_oneIfIn, T_J6_bitCount_0f7a4, cl_nI (show i < 2147483648 by omega), in_nI (show i < 10 by omega) (by decide), hw, cl_nI (show r < 2147483648 by omega), in_nI (show r < 4 by omega) (by decide)]
  exact ⟨fun z => absurd z (nI_m1 r (by omega)), fun _ => hq⟩
theorem out_no {H : Hp} (hl : LayX H) {i : Nat} (hi : i < 10) (hw : hI H 39 i = -1) {Q : Option Value → Hp → Prop} (hq : Q none H) : T_X4_takeOut [.ref 33, .int (nI i)] H Q := by
  unfold T_X4_takeOut
  simp only [b_X4_takeOut_0, lx_pI, lx_wI, lx_t hl, lx_k hl, lx_r hl, lx_l hl, i_push, i_ild, i_ald, i_ist, i_ast, i_inc, i_bin, i_un, i_divs, i_i2l, i_lshl, i_lor, i_dup, i_dup2, i_pop, i_if, i_cmp, i_nul, i_vret, i_iret, i_zret, i_aret, i_keep, keep, lget, lset, ent, i_getI, i_getJ, i_getR, i_getN, i_putI, i_putZ, i_putJ, i_putR, i_iald, i_bald, i_alen, i_aald, i_iast, i_bast, i_aast, i_new, i_newa, i_anew, i_oini, i_callS, i_callV, i_callI, popn, sh4, i_sw, swP, i_copy, i_binS, List.map, Option.toList_none, Option.toList_some, List.append, List.nil_append, List.cons_append, List.length_cons, List.length_nil, List.replicate, Nat.sub_self, Nat.reduceSub, Nat.reduceAdd, hK_pI, hL_pI, hI_pI, hR_pI, hJ_pI, hT_pI, hS_pI, hK_pR, hL_pR, hI_pR, hR_pR, hJ_pR, hT_pR, hS_pR, hK_pJ, hL_pJ, hI_pJ, hR_pJ, hJ_pJ, hT_pJ, hS_pJ, hK_wI, hL_wI, hI_wI, hR_wI, hJ_wI, hT_wI, hS_wI, eq_self, and_true, true_and, and_false, false_and, or_true, true_or, or_false, false_or, if_true, if_false, not_true_eq_false, not_false_eq_true, forall_const, implies_true, false_implies, true_implies, Option.some.injEq, forall_eq', exists_eq_left', reduceCtorEq, Nat.reduceEqDiff, c1, T_X12_in, T_X12_ones, T_X11_within, T_X11_bit, T_X11_isIn, T_X11_oneIfIn, T_J6_bitCount_0f7a4, cl_nI (show i < 2147483648 by omega), in_nI (show i < 10 by omega) (by decide), hw]
  exact hq
def T_X4_clashesOf : Tr := fun av h Q => match av with
  | [.ref o, .int p] => o = 33 ∧ LayX h ∧ ∃ n i, n ≤ 10 ∧ hI h 33 2 = nI n ∧ p = nI i ∧ i < 10 ∧ ∀ v, Q (some (.int v)) h
  | _ => False
def L_X4_clashesOf : List UInt8 := [3, 61, 3, 62, 29, 42, 180, 0, 51, 162, 0, 70, 42, 180, 0, 18, 29, 46, 42, 180, 0, 18, 27, 46, 160, 0, 19, 42, 180, 0, 21, 27, 46, 42, 180, 0, 9, 29, 46, 126, 153, 0, 7, 4, 167, 0, 4, 3, 54, 4, 28, 42, 180, 0, 27, 29, 46, 2, 160, 0, 12, 21, 4, 153, 0, 7, 4, 167, 0, 4, 3, 96, 61, 132, 3, 1, 167, 255, 184, 28, 172]
theorem Lc_X4_clashesOf : MX4_clashesOf.2.1 = ⟨L_X4_clashesOf.toArray⟩ := rfl
theorem D_X4_clashesOf_0 : dseq MX4_clashesOf.2.1 0 [(.iconst 0, 1), (.istore_n 2, 1), (.iconst 0, 1), (.istore_n 3, 1)] := dq Lc_X4_clashesOf 0 _ (by decide +kernel)
theorem D_X4_clashesOf_4 : dseq MX4_clashesOf.2.1 4 [(.iload_n 3, 1), (.aload_n 0, 1), (.getfield 51, 3), (.if_icmp .ge 70, 3), (.aload_n 0, 1), (.getfield 18, 3), (.iload_n 3, 1), (.iaload, 1), (.aload_n 0, 1), (.getfield 18, 3), (.iload_n 1, 1), (.iaload, 1), (.if_icmp .ne 19, 3), (.aload_n 0, 1), (.getfield 21, 3), (.iload_n 1, 1), (.iaload, 1), (.aload_n 0, 1), (.getfield 9, 3), (.iload_n 3, 1), (.iaload, 1), (.iand, 1), (.ifCond .eq 7, 3)] := dq Lc_X4_clashesOf 4 _ (by decide +kernel)
theorem D_X4_clashesOf_79 : dseq MX4_clashesOf.2.1 79 [(.iload_n 2, 1), (.ireturn, 1)] := dq Lc_X4_clashesOf 79 _ (by decide +kernel)
theorem D_X4_clashesOf_47 : dseq MX4_clashesOf.2.1 47 [(.iconst 0, 1)] := dq Lc_X4_clashesOf 47 _ (by decide +kernel)
theorem D_X4_clashesOf_43 : dseq MX4_clashesOf.2.1 43 [(.iconst 1, 1), (.goto 4, 3)] := dq Lc_X4_clashesOf 43 _ (by decide +kernel)
theorem D_X4_clashesOf_48 : dseq MX4_clashesOf.2.1 48 [(.istore 4, 2), (.iload_n 2, 1), (.aload_n 0, 1), (.getfield 27, 3), (.iload_n 3, 1), (.iaload, 1), (.iconst (-1), 1), (.if_icmp .ne 12, 3), (.iload 4, 2), (.ifCond .eq 7, 3), (.iconst 1, 1), (.goto 4, 3)] := dq Lc_X4_clashesOf 48 _ (by decide +kernel)
theorem D_X4_clashesOf_70 : dseq MX4_clashesOf.2.1 70 [(.iconst 0, 1)] := dq Lc_X4_clashesOf 70 _ (by decide +kernel)
theorem D_X4_clashesOf_71 : dseq MX4_clashesOf.2.1 71 [(.iadd, 1), (.istore_n 2, 1), (.iinc 3 1, 3), (.goto (-72), 3)] := dq Lc_X4_clashesOf 71 _ (by decide +kernel)
def b_X4_clashesOf_0 (Q : Option Value → Hp → Prop) : Kt := i_push (.int 0) (i_ist 2 (i_push (.int 0) (i_ist 3 (i_keep [true, true, true, true, false] (wp 0 MX4_clashesOf Q 4)))))
set_option maxRecDepth 100000 in
theorem s_X4_clashesOf_0 (Q : Option Value → Hp → Prop) : ∀ A st h, b_X4_clashesOf_0 Q A st h → wp 0 MX4_clashesOf Q 0 A st h := (q1 (s_iconst (n := 0) (v := 0) (by decide)) D_X4_clashesOf_0 fun D => (qL (s_istn (n := 2) (i := 2) rfl) (by decide) D fun D => (q1 (s_iconst (n := 0) (v := 0) (by decide)) D fun D => (qL (s_istn (n := 3) (i := 3) rfl) (by decide) D fun D => (s_keep [true, true, true, true, false] fun _ _ _ h => h)))))
def b_X4_clashesOf_4 (Q : Option Value → Hp → Prop) : Kt := i_ild 3 (i_ald 0 (i_getI 4 2 (i_cmp (fun x y => y ≤ x) (i_ild 2 (i_iret Q)) (i_ald 0 (i_getR 4 5 (i_ild 3 (i_iald (i_ald 0 (i_getR 4 5 (i_ild 1 (i_iald (i_cmp (fun x y => x = y) (i_ald 0 (i_getR 4 6 (i_ild 1 (i_iald (i_ald 0 (i_getR 4 3 (i_ild 3 (i_iald (i_bin (fun x y => x &&& y) (i_if (fun x => x = 0) (i_push (.int 0) (i_keep [true, true, true, true, false] (wp 0 MX4_clashesOf Q 48))) (i_keep [true, true, true, true, false] (wp 0 MX4_clashesOf Q 43)))))))))))) (i_keep [true, true, true, true, false] (wp 0 MX4_clashesOf Q 43))))))))))))))
set_option maxRecDepth 100000 in
theorem s_X4_clashesOf_4 (Q : Option Value → Hp → Prop) : ∀ A st h, b_X4_clashesOf_4 Q A st h → wp 0 MX4_clashesOf Q 4 A st h := (q1 (s_ildn (n := 3) (i := 3) rfl) D_X4_clashesOf_4 fun D => (q1 (s_aldn (n := 0) (i := 0) rfl) D fun D => (qC fl_X4_51 rfl D fun D => (qB s_cmpge 79 (by decide) D (q1 (s_ildn (n := 2) (i := 2) rfl) D_X4_clashesOf_79 fun D => (qI rfl D)) fun D => (q1 (s_aldn (n := 0) (i := 0) rfl) D fun D => (qC fl_X4_18 rfl D fun D => (q1 (s_ildn (n := 3) (i := 3) rfl) D fun D => (q1 s_iald D fun D => (q1 (s_aldn (n := 0) (i := 0) rfl) D fun D => (qC fl_X4_18 rfl D fun D => (q1 (s_ildn (n := 1) (i := 1) rfl) D fun D => (q1 s_iald D fun D => (qBn s_cmpne2 43 (by decide) D (s_keep [true, true, true, true, false] fun _ _ _ h => h) fun D => (q1 (s_aldn (n := 0) (i := 0) rfl) D fun D => (qC fl_X4_21 rfl D fun D => (q1 (s_ildn (n := 1) (i := 1) rfl) D fun D => (q1 s_iald D fun D => (q1 (s_aldn (n := 0) (i := 0) rfl) D fun D => (qC fl_X4_9 rfl D fun D => (q1 (s_ildn (n := 3) (i := 3) rfl) D fun D => (q1 s_iald D fun D => (q1 s_and D fun D => (qB s_ifeq 47 (by decide) D (q1 (s_iconst (n := 0) (v := 0) (by decide)) D_X4_clashesOf_47 fun D => (s_keep [true, true, true, true, false] fun _ _ _ h => h)) fun D => (s_keep [true, true, true, true, false] fun _ _ _ h => h))))))))))))))))))))))))
def b_X4_clashesOf_43 (Q : Option Value → Hp → Prop) : Kt := i_push (.int 1) (i_keep [true, true, true, true, false] (wp 0 MX4_clashesOf Q 48))
set_option maxRecDepth 100000 in
theorem s_X4_clashesOf_43 (Q : Option Value → Hp → Prop) : ∀ A st h, b_X4_clashesOf_43 Q A st h → wp 0 MX4_clashesOf Q 43 A st h := (q1 (s_iconst (n := 1) (v := 1) (by decide)) D_X4_clashesOf_43 fun D => (qG 48 (by decide) D (s_keep [true, true, true, true, false] fun _ _ _ h => h)))
def b_X4_clashesOf_48 (Q : Option Value → Hp → Prop) : Kt := i_ist 4 (i_ild 2 (i_ald 0 (i_getR 4 8 (i_ild 3 (i_iald (i_push (.int (-1)) (i_cmp (fun x y => x = y) (i_ild 4 (i_if (fun x => x = 0) (i_keep [true, true, false, true, false] (wp 0 MX4_clashesOf Q 70)) (i_push (.int 1) (i_keep [true, true, false, true, false] (wp 0 MX4_clashesOf Q 71))))) (i_keep [true, true, false, true, false] (wp 0 MX4_clashesOf Q 70)))))))))
set_option maxRecDepth 100000 in
theorem s_X4_clashesOf_48 (Q : Option Value → Hp → Prop) : ∀ A st h, b_X4_clashesOf_48 Q A st h → wp 0 MX4_clashesOf Q 48 A st h := (qL s_ist (by decide) D_X4_clashesOf_48 fun D => (q1 (s_ildn (n := 2) (i := 2) rfl) D fun D => (q1 (s_aldn (n := 0) (i := 0) rfl) D fun D => (qC fl_X4_27 rfl D fun D => (q1 (s_ildn (n := 3) (i := 3) rfl) D fun D => (q1 s_iald D fun D => (q1 (s_iconst (n := (-1)) (v := (-1)) (by decide)) D fun D => (qBn s_cmpne2 70 (by decide) D (s_keep [true, true, false, true, false] fun _ _ _ h => h) fun D => (q1 s_ild D fun D => (qB s_ifeq 70 (by decide) D (s_keep [true, true, false, true, false] fun _ _ _ h => h) fun D => (q1 (s_iconst (n := 1) (v := 1) (by decide)) D fun D => (qG 71 (by decide) D (s_keep [true, true, false, true, false] fun _ _ _ h => h)))))))))))))
def b_X4_clashesOf_70 (Q : Option Value → Hp → Prop) : Kt := i_push (.int 0) (i_keep [true, true, false, true, false] (wp 0 MX4_clashesOf Q 71))
set_option maxRecDepth 100000 in
theorem s_X4_clashesOf_70 (Q : Option Value → Hp → Prop) : ∀ A st h, b_X4_clashesOf_70 Q A st h → wp 0 MX4_clashesOf Q 70 A st h := (q1 (s_iconst (n := 0) (v := 0) (by decide)) D_X4_clashesOf_70 fun D => (s_keep [true, true, false, true, false] fun _ _ _ h => h))
def b_X4_clashesOf_71 (Q : Option Value → Hp → Prop) : Kt := i_bin (fun x y => x + y) (i_ist 2 (i_inc 3 1 (i_keep [true, true, true, true, false] (wp 0 MX4_clashesOf Q 4))))
set_option maxRecDepth 100000 in
theorem s_X4_clashesOf_71 (Q : Option Value → Hp → Prop) : ∀ A st h, b_X4_clashesOf_71 Q A st h → wp 0 MX4_clashesOf Q 71 A st h := (q1 s_add D_X4_clashesOf_71 fun D => (qL (s_istn (n := 2) (i := 2) rfl) (by decide) D fun D => (qL (s_inc (i := 3) (n := 1) (v := 1) (by decide)) (by decide) D fun D => (qG 4 (by decide) D (s_keep [true, true, true, true, false] fun _ _ _ h => h)))))

set_option maxRecDepth 100000 in
set_option maxHeartbeats 400000 in
theorem cs_4 (Q : Option Value → Hp → Prop) (h : Hp) (hl : LayX h) (n i : Nat) (hn : n ≤ 10) (h32 : hI h 33 2 = nI n) (hi : i < 10) (hq : ∀ v, Q (some (.int v)) h) :
    ∀ (m k : Nat) (v : Int32), m = n - k → k ≤ n → wp 0 MX4_clashesOf Q 4 [some (.ref 33), some (.int (nI i)), some (.int v), some (.int (nI k)), none] [] h := by
  intro m
  induction m with
  | zero =>
    intro k v hm hk
    have e : k = n := by omega
    subst e
    have hfin := hq v
    refine s_X4_clashesOf_4 Q _ _ _ ?_
    simp only [b_X4_clashesOf_4, lx_pI, lx_wI, lx_t hl, lx_k hl, lx_r hl, lx_l hl, i_push, i_ild, i_ald, i_ist, i_ast, i_inc, i_bin, i_un, i_divs, i_i2l, i_lshl, i_lor, i_dup, i_dup2, i_pop, i_if, i_cmp, i_nul, i_vret, i_iret, i_zret, i_aret, i_keep, keep, lget, lset, ent, i_getI, i_getJ, i_getR, i_getN, i_putI, i_putZ, i_putJ, i_putR, i_iald, i_bald, i_alen, i_aald, i_iast, i_bast, i_aast, i_new, i_newa, i_anew, i_oini, i_callS, i_callV, i_callI, popn, sh4, i_sw, swP, i_copy, i_binS, List.map, Option.toList_none, Option.toList_some, List.append, List.nil_append, List.cons_append, List.length_cons, List.length_nil, List.replicate, Nat.sub_self, Nat.reduceSub, Nat.reduceAdd, hK_pI, hL_pI, hI_pI, hR_pI, hJ_pI, hT_pI, hS_pI, hK_pR, hL_pR, hI_pR, hR_pR, hJ_pR, hT_pR, hS_pR, hK_pJ, hL_pJ, hI_pJ, hR_pJ, hJ_pJ, hT_pJ, hS_pJ, hK_wI, hL_wI, hI_wI, hR_wI, hJ_wI, hT_wI, hS_wI, eq_self, and_true, true_and, and_false, false_and, or_true, true_or, or_false, false_or, if_true, if_false, not_true_eq_false, not_false_eq_true, forall_const, implies_true, false_implies, true_implies, Option.some.injEq, forall_eq', exists_eq_left', reduceCtorEq, Nat.reduceEqDiff, c1, T_X12_in, T_X12_ones, T_X11_within, T_X11_bit, T_X11_isIn, T_X11_oneIfIn, T_J6_bitCount_0f7a4, h32]
    exact ⟨fun _ => hfin, fun z => absurd (nI_le (Nat.le_refl _) (by omega)) z⟩
  | succ m ih =>
    intro k v hm hk
    have h71 : ∀ x y, wp 0 MX4_clashesOf Q 71 [some (.ref 33), some (.int (nI i)), none, some (.int (nI k)), none] [.int y, .int x] h := by
      intro x y
      have hgo := ih (k + 1) (x + y) (by omega) (by omega)
      refine s_X4_clashesOf_71 Q _ _ _ ?_
      simp only [b_X4_clashesOf_71, i_push, i_ild, i_ald, i_ist, i_ast, i_inc, i_bin, i_un, i_divs, i_i2l, i_lshl, i_lor, i_dup, i_dup2, i_pop, i_if, i_cmp, i_nul, i_vret, i_iret, i_zret, i_aret, i_keep, keep, lget, lset, ent, i_getI, i_getJ, i_getR, i_getN, i_putI, i_putZ, i_putJ, i_putR, i_iald, i_bald, i_alen, i_aald, i_iast, i_bast, i_aast, i_new, i_newa, i_anew, i_oini, i_callS, i_callV, i_callI, popn, sh4, i_sw, swP, i_copy, i_binS, List.map, Option.toList_none, Option.toList_some, List.append, List.nil_append, List.cons_append, List.length_cons, List.length_nil, List.replicate, Nat.sub_self, Nat.reduceSub, Nat.reduceAdd, hK_pI, hL_pI, hI_pI, hR_pI, hJ_pI, hT_pI, hS_pI, hK_pR, hL_pR, hI_pR, hR_pR, hJ_pR, hT_pR, hS_pR, hK_pJ, hL_pJ, hI_pJ, hR_pJ, hJ_pJ, hT_pJ, hS_pJ, hK_wI, hL_wI, hI_wI, hR_wI, hJ_wI, hT_wI, hS_wI, eq_self, and_true, true_and, and_false, false_and, or_true, true_or, or_false, false_or, if_true, if_false, not_true_eq_false, not_false_eq_true, forall_const, implies_true, false_implies, true_implies, Option.some.injEq, forall_eq', exists_eq_left', reduceCtorEq, Nat.reduceEqDiff, c1, T_X12_in, T_X12_ones, T_X11_within, T_X11_bit, T_X11_isIn, T_X11_oneIfIn, T_J6_bitCount_0f7a4, nI_1]
      exact hgo
    have h70 : ∀ x, wp 0 MX4_clashesOf Q 70 [some (.ref 33), some (.int (nI i)), none, some (.int (nI k)), none] [.int x] h := by
      intro x
      have hgo := h71 x 0
      refine s_X4_clashesOf_70 Q _ _ _ ?_
      simp only [b_X4_clashesOf_70, i_push, i_ild, i_ald, i_ist, i_ast, i_inc, i_bin, i_un, i_divs, i_i2l, i_lshl, i_lor, i_dup, i_dup2, i_pop, i_if, i_cmp, i_nul, i_vret, i_iret, i_zret, i_aret, i_keep, keep, lget, lset, ent, i_getI, i_getJ, i_getR, i_getN, i_putI, i_putZ, i_putJ, i_putR, i_iald, i_bald, i_alen, i_aald, i_iast, i_bast, i_aast, i_new, i_newa, i_anew, i_oini, i_callS, i_callV, i_callI, popn, sh4, i_sw, swP, i_copy, i_binS, List.map, Option.toList_none, Option.toList_some, List.append, List.nil_append, List.cons_append, List.length_cons, List.length_nil, List.replicate, Nat.sub_self, Nat.reduceSub, Nat.reduceAdd, hK_pI, hL_pI, hI_pI, hR_pI, hJ_pI, hT_pI, hS_pI, hK_pR, hL_pR, hI_pR, hR_pR, hJ_pR, hT_pR, hS_pR, hK_pJ, hL_pJ, hI_pJ, hR_pJ, hJ_pJ, hT_pJ, hS_pJ, hK_wI, hL_wI, hI_wI, hR_wI, hJ_wI, hT_wI, hS_wI, eq_self, and_true, true_and, and_false, false_and, or_true, true_or, or_false, false_or, if_true, if_false, not_true_eq_false, not_false_eq_true, forall_const, implies_true, false_implies, true_implies, Option.some.injEq, forall_eq', exists_eq_left', reduceCtorEq, Nat.reduceEqDiff, c1, T_X12_in, T_X12_ones, T_X11_within, T_X11_bit, T_X11_isIn, T_X11_oneIfIn, T_J6_bitCount_0f7a4]
      exact hgo
    have h48 : ∀ z, wp 0 MX4_clashesOf Q 48 [some (.ref 33), some (.int (nI i)), some (.int v), some (.int (nI k)), none] [.int z] h := by
      intro z
      have hgo := h70 v
      have hgo2 := h71 v 1
      refine s_X4_clashesOf_48 Q _ _ _ ?_
      simp only [b_X4_clashesOf_48, lx_pI, lx_wI, lx_t hl, lx_k hl, lx_r hl, lx_l hl, i_push, i_ild, i_ald, i_ist, i_ast, i_inc, i_bin, i_un, i_divs, i_i2l, i_lshl, i_lor, i_dup, i_dup2, i_pop, i_if, i_cmp, i_nul, i_vret, i_iret, i_zret, i_aret, i_keep, keep, lget, lset, ent, i_getI, i_getJ, i_getR, i_getN, i_putI, i_putZ, i_putJ, i_putR, i_iald, i_bald, i_alen, i_aald, i_iast, i_bast, i_aast, i_new, i_newa, i_anew, i_oini, i_callS, i_callV, i_callI, popn, sh4, i_sw, swP, i_copy, i_binS, List.map, Option.toList_none, Option.toList_some, List.append, List.nil_append, List.cons_append, List.length_cons, List.length_nil, List.replicate, Nat.sub_self, Nat.reduceSub, Nat.reduceAdd, hK_pI, hL_pI, hI_pI, hR_pI, hJ_pI, hT_pI, hS_pI, hK_pR, hL_pR, hI_pR, hR_pR, hJ_pR, hT_pR, hS_pR, hK_pJ, hL_pJ, hI_pJ, hR_pJ, hJ_pJ, hT_pJ, hS_pJ, hK_wI, hL_wI, hI_wI, hR_wI, hJ_wI, hT_wI, hS_wI, eq_self, and_true, true_and, and_false, false_and, or_true, true_or, or_false, false_or, if_true, if_false, not_true_eq_false, not_false_eq_true, forall_const, implies_true, false_implies, true_implies, Option.some.injEq, forall_eq', exists_eq_left', reduceCtorEq, Nat.reduceEqDiff, c1, T_X12_in, T_X12_ones, T_X11_within, T_X11_bit, T_X11_isIn, T_X11_oneIfIn, T_J6_bitCount_0f7a4, cl_nI (show k < 2147483648 by omega), in_nI (show k < 10 by omega) (by decide)]
      exact ⟨fun _ => ⟨fun _ => hgo, fun _ => hgo2⟩, fun _ => hgo⟩
    have h43 : wp 0 MX4_clashesOf Q 43 [some (.ref 33), some (.int (nI i)), some (.int v), some (.int (nI k)), none] [] h := by
      have hgo := h48 1
      refine s_X4_clashesOf_43 Q _ _ _ ?_
      simp only [b_X4_clashesOf_43, i_push, i_ild, i_ald, i_ist, i_ast, i_inc, i_bin, i_un, i_divs, i_i2l, i_lshl, i_lor, i_dup, i_dup2, i_pop, i_if, i_cmp, i_nul, i_vret, i_iret, i_zret, i_aret, i_keep, keep, lget, lset, ent, i_getI, i_getJ, i_getR, i_getN, i_putI, i_putZ, i_putJ, i_putR, i_iald, i_bald, i_alen, i_aald, i_iast, i_bast, i_aast, i_new, i_newa, i_anew, i_oini, i_callS, i_callV, i_callI, popn, sh4, i_sw, swP, i_copy, i_binS, List.map, Option.toList_none, Option.toList_some, List.append, List.nil_append, List.cons_append, List.length_cons, List.length_nil, List.replicate, Nat.sub_self, Nat.reduceSub, Nat.reduceAdd, hK_pI, hL_pI, hI_pI, hR_pI, hJ_pI, hT_pI, hS_pI, hK_pR, hL_pR, hI_pR, hR_pR, hJ_pR, hT_pR, hS_pR, hK_pJ, hL_pJ, hI_pJ, hR_pJ, hJ_pJ, hT_pJ, hS_pJ, hK_wI, hL_wI, hI_wI, hR_wI, hJ_wI, hT_wI, hS_wI, eq_self, and_true, true_and, and_false, false_and, or_true, true_or, or_false, false_or, if_true, if_false, not_true_eq_false, not_false_eq_true, forall_const, implies_true, false_implies, true_implies, Option.some.injEq, forall_eq', exists_eq_left', reduceCtorEq, Nat.reduceEqDiff, c1, T_X12_in, T_X12_ones, T_X11_within, T_X11_bit, T_X11_isIn, T_X11_oneIfIn, T_J6_bitCount_0f7a4]
      exact hgo
    have hgo0 := h48 0
    refine s_X4_clashesOf_4 Q _ _ _ ?_
    simp only [b_X4_clashesOf_4, lx_pI, lx_wI, lx_t hl, lx_k hl, lx_r hl, lx_l hl, i_push, i_ild, i_ald, i_ist, i_ast, i_inc, i_bin, i_un, i_divs, i_i2l, i_lshl, i_lor, i_dup, i_dup2, i_pop, i_if, i_cmp, i_nul, i_vret, i_iret, i_zret, i_aret, i_keep, keep, lget, lset, ent, i_getI, i_getJ, i_getR, i_getN, i_putI, i_putZ, i_putJ, i_putR, i_iald, i_bald, i_alen, i_aald, i_iast, i_bast, i_aast, i_new, i_newa, i_anew, i_oini, i_callS, i_callV, i_callI, popn, sh4, i_sw, swP, i_copy, i_binS, List.map, Option.toList_none, Option.toList_some, List.append, List.nil_append, List.cons_append, List.length_cons, List.length_nil, List.replicate, Nat.sub_self, Nat.reduceSub, Nat.reduceAdd, hK_pI, hL_pI, hI_pI, hR_pI, hJ_pI, hT_pI, hS_pI, hK_pR, hL_pR, hI_pR, hR_pR, hJ_pR, hT_pR, hS_pR, hK_pJ, hL_pJ, hI_pJ, hR_pJ, hJ_pJ, hT_pJ, hS_pJ, hK_wI, hL_wI, hI_wI, hR_wI, hJ_wI, hT_wI, hS_wI, eq_self, and_true, true_and, and_false, false_and, or_true, true_or, or_false, false_or, if_true, if_false, not_true_eq_false, not_false_eq_true, forall_const, implies_true, false_implies, true_implies, Option.some.injEq, forall_eq', exists_eq_left', reduceCtorEq, Nat.reduceEqDiff, c1, T_X12_in, T_X12_ones, T_X11_within, T_X11_bit, T_X11_isIn, T_X11_oneIfIn, T_J6_bitCount_0f7a4, h32, cl_nI (show k < 2147483648 by omega), in_nI (show k < 10 by omega) (by decide), cl_nI (show i < 2147483648 by omega), in_nI (show i < 10 by omega) (by decide)]
    exact ⟨fun z => absurd z (nI_ge (by omega) (by omega)), fun _ => ⟨fun _ => ⟨fun _ => hgo0, fun _ => h43⟩, fun _ => h43⟩⟩
set_option maxRecDepth 100000 in
set_option maxHeartbeats 4000000 in
theorem ok_X4_clashesOf : ctr 0 MX4_clashesOf T_X4_clashesOf := by
  refine ctr_of pn_X4 wc_X4_clashesOf (fun av h Q hT => ?_)
  unfold T_X4_clashesOf at hT
  split at hT
  · rename_i o p
    refine ⟨⟨by simp [Value.category], Nat.le_of_ble_eq_true rfl⟩, s_X4_clashesOf_0 Q _ _ _ ?_⟩
    obtain ⟨rfl, hl, n, i, hn, h32, rfl, hi, hq⟩ := hT
    have := cs_4 Q h hl n i hn h32 hi hq n 0 0 (by omega) (by omega)
    simp only [MX4_clashesOf, b_X4_clashesOf_0, i_push, i_ild, i_ald, i_ist, i_ast, i_inc, i_bin, i_un, i_divs, i_i2l, i_lshl, i_lor, i_dup, i_dup2, i_pop, i_if, i_cmp, i_nul, i_vret, i_iret, i_zret, i_aret, i_keep, keep, lget, lset, ent, i_getI, i_getJ, i_getR, i_getN, i_putI, i_putZ, i_putJ, i_putR, i_iald, i_bald, i_alen, i_aald, i_iast, i_bast, i_aast, i_new, i_newa, i_anew, i_oini, i_callS, i_callV, i_callI, popn, sh4, i_sw, swP, i_copy, i_binS, List.map, Option.toList_none, Option.toList_some, List.append, List.nil_append, List.cons_append, List.length_cons, List.length_nil, List.replicate, Nat.sub_self, Nat.reduceSub, Nat.reduceAdd, hK_pI, hL_pI, hI_pI, hR_pI, hJ_pI, hT_pI, hS_pI, hK_pR, hL_pR, hI_pR, hR_pR, hJ_pR, hT_pR, hS_pR, hK_pJ, hL_pJ, hI_pJ, hR_pJ, hJ_pJ, hT_pJ, hS_pJ, hK_wI, hL_wI, hI_wI, hR_wI, hJ_wI, hT_wI, hS_wI, eq_self, and_true, true_and, and_false, false_and, or_true, true_or, or_false, false_or, if_true, if_false, not_true_eq_false, not_false_eq_true, forall_const, implies_true, false_implies, true_implies, Option.some.injEq, forall_eq', exists_eq_left', reduceCtorEq, Nat.reduceEqDiff, c1, T_X12_in, T_X12_ones, T_X11_within, T_X11_bit, T_X11_isIn, T_X11_oneIfIn, T_J6_bitCount_0f7a4]
    exact this
  · exact hT.elim
def T_X4_tightest : Tr := fun av h Q => match av with
  | [.ref o] => o = 33 ∧ LayX h ∧ hR h 33 0 = some 3 ∧ ∃ R n, R ≤ 4 ∧ n ≤ 10 ∧ hI h 12 0 = nI R ∧ hI h 33 2 = nI n ∧ whOk (hI h) R n ∧ ((∀ i, i < n → ¬ hI h 39 i = -1) → Q (some (.int (-1))) h) ∧ (∀ i, i < n → hI h 39 i = -1 → Q (some (.int (nI i))) h)
  | _ => False
def L_X4_tightest : List UInt8 := [2, 60, 3, 61, 3, 62, 3, 54, 4, 21, 4, 42, 180, 0, 51, 162, 0, 66, 42, 180, 0, 27, 21, 4, 46, 2, 160, 0, 49, 42, 21, 4, 182, 0, 134, 184, 0, 97, 54, 5, 4, 42, 21, 4, 182, 0, 153, 96, 54, 6, 27, 2, 159, 0, 14, 21, 5, 29, 104, 28, 21, 6, 104, 162, 0, 12, 21, 4, 60, 21, 5, 61, 21, 6, 62, 132, 4, 1, 167, 255, 187, 27, 172]
theorem Lc_X4_tightest : MX4_tightest.2.1 = ⟨L_X4_tightest.toArray⟩ := rfl
theorem D_X4_tightest_0 : dseq MX4_tightest.2.1 0 [(.iconst (-1), 1), (.istore_n 1, 1), (.iconst 0, 1), (.istore_n 2, 1), (.iconst 0, 1), (.istore_n 3, 1), (.iconst 0, 1), (.istore 4, 2)] := dq Lc_X4_tightest 0 _ (by decide +kernel)
theorem D_X4_tightest_9 : dseq MX4_tightest.2.1 9 [(.iload 4, 2), (.aload_n 0, 1), (.getfield 51, 3), (.if_icmp .ge 66, 3), (.aload_n 0, 1), (.getfield 27, 3), (.iload 4, 2), (.iaload, 1), (.iconst (-1), 1), (.if_icmp .ne 49, 3), (.aload_n 0, 1), (.iload 4, 2), (.invokevirtual 134, 3), (.invokestatic 97, 3), (.istore 5, 2), (.iconst 1, 1), (.aload_n 0, 1), (.iload 4, 2), (.invokevirtual 153, 3), (.iadd, 1), (.istore 6, 2), (.iload_n 1, 1), (.iconst (-1), 1), (.if_icmp .eq 14, 3), (.iload 5, 2), (.iload_n 3, 1), (.imul, 1), (.iload_n 2, 1), (.iload 6, 2), (.imul, 1), (.if_icmp .ge 12, 3)] := dq Lc_X4_tightest 9 _ (by decide +kernel)
theorem D_X4_tightest_81 : dseq MX4_tightest.2.1 81 [(.iload_n 1, 1), (.ireturn, 1)] := dq Lc_X4_tightest 81 _ (by decide +kernel)
theorem D_X4_tightest_66 : dseq MX4_tightest.2.1 66 [(.iload 4, 2), (.istore_n 1, 1), (.iload 5, 2), (.istore_n 2, 1), (.iload 6, 2), (.istore_n 3, 1)] := dq Lc_X4_tightest 66 _ (by decide +kernel)
theorem D_X4_tightest_75 : dseq MX4_tightest.2.1 75 [(.iinc 4 1, 3), (.goto (-69), 3)] := dq Lc_X4_tightest 75 _ (by decide +kernel)
def c_X4_tightest_47 (Q : Option Value → Hp → Prop) : Kt := i_bin (fun x y => x + y) (i_ist 6 (i_ild 1 (i_push (.int (-1)) (i_cmp (fun x y => x = y) (i_keep [true, false, false, false, true, true, true] (wp 2 MX4_tightest Q 66)) (i_ild 5 (i_ild 3 (i_bin (fun x y => x * y) (i_ild 2 (i_ild 6 (i_bin (fun x y => x * y) (i_cmp (fun x y => y ≤ x) (i_keep [true, true, true, true, true, false, false] (wp 2 MX4_tightest Q 75)) (i_keep [true, false, false, false, true, true, true] (wp 2 MX4_tightest Q 66)))))))))))))
def c_X4_tightest_35 (Q : Option Value → Hp → Prop) : Kt := i_callS 1 T_J6_bitCount_0f7a4 (i_ist 5 (i_push (.int 1) (i_ald 0 (i_ild 4 (i_callV 4 1 T_X4_clashesOf (c_X4_tightest_47 Q))))))
def b_X4_tightest_0 (Q : Option Value → Hp → Prop) : Kt := i_push (.int (-1)) (i_ist 1 (i_push (.int 0) (i_ist 2 (i_push (.int 0) (i_ist 3 (i_push (.int 0) (i_ist 4 (i_keep [true, true, true, true, true, false, false] (wp 2 MX4_tightest Q 9)))))))))
set_option maxRecDepth 100000 in
theorem s_X4_tightest_0 (Q : Option Value → Hp → Prop) : ∀ A st h, b_X4_tightest_0 Q A st h → wp 2 MX4_tightest Q 0 A st h := (q1 (s_iconst (n := (-1)) (v := (-1)) (by decide)) D_X4_tightest_0 fun D => (qL (s_istn (n := 1) (i := 1) rfl) (by decide) D fun D => (q1 (s_iconst (n := 0) (v := 0) (by decide)) D fun D => (qL (s_istn (n := 2) (i := 2) rfl) (by decide) D fun D => (q1 (s_iconst (n := 0) (v := 0) (by decide)) D fun D => (qL (s_istn (n := 3) (i := 3) rfl) (by decide) D fun D => (q1 (s_iconst (n := 0) (v := 0) (by decide)) D fun D => (qL s_ist (by decide) D fun D => (s_keep [true, true, true, true, true, false, false] fun _ _ _ h => h)))))))))
def b_X4_tightest_9 (Q : Option Value → Hp → Prop) : Kt := i_ild 4 (i_ald 0 (i_getI 4 2 (i_cmp (fun x y => y ≤ x) (i_ild 1 (i_iret Q)) (i_ald 0 (i_getR 4 8 (i_ild 4 (i_iald (i_push (.int (-1)) (i_cmp (fun x y => x = y) (i_ald 0 (i_ild 4 (i_callV 4 1 T_X4_openRooms (c_X4_tightest_35 Q)))) (i_keep [true, true, true, true, true, false, false] (wp 2 MX4_tightest Q 75)))))))))))
set_option maxRecDepth 100000 in
theorem s_X4_tightest_9 (Q : Option Value → Hp → Prop) : ∀ A st h, b_X4_tightest_9 Q A st h → wp 2 MX4_tightest Q 9 A st h := (q1 s_ild D_X4_tightest_9 fun D => (q1 (s_aldn (n := 0) (i := 0) rfl) D fun D => (qC fl_X4_51 rfl D fun D => (qB s_cmpge 81 (by decide) D (q1 (s_ildn (n := 1) (i := 1) rfl) D_X4_tightest_81 fun D => (qI rfl D)) fun D => (q1 (s_aldn (n := 0) (i := 0) rfl) D fun D => (qC fl_X4_27 rfl D fun D => (q1 s_ild D fun D => (q1 s_iald D fun D => (q1 (s_iconst (n := (-1)) (v := (-1)) (by decide)) D fun D => (qBn s_cmpne2 75 (by decide) D (s_keep [true, true, true, true, true, false, false] fun _ _ _ h => h) fun D => (q1 (s_aldn (n := 0) (i := 0) rfl) D fun D => (q1 s_ild D fun D => (qX (s_callV kX4 rfl ok_X4_openRooms mo_X4_openRooms (ch_4_4_ok.2.2.2.2.2.2.2.2.2.2.2.2.2.2.1.1 rfl) (ch_4_5_ok.1.1 rfl) (pv_1.2.2.2.2.2.2.2.2.2.2.1)) rfl (by decide) D fun D => (qX (s_callS ok_J6_bitCount_0f7a4 mo_J6_bitCount_0f7a4 (ch_4_3_ok.2.2.2.2.2.2.2.2.2.2.2.1.1 rfl) (ch_3_9_ok.2.2.2.2.1.1 rfl)) rfl (by decide) D fun D => (qL s_ist (by decide) D fun D => (q1 (s_iconst (n := 1) (v := 1) (by decide)) D fun D => (q1 (s_aldn (n := 0) (i := 0) rfl) D fun D => (q1 s_ild D fun D => (qX (s_callV kX4 rfl ok_X4_clashesOf mo_X4_clashesOf (ch_4_6_ok.1.1 rfl) (ch_4_6_ok.2.2.1.1 rfl) (pv_1.2.2.2.2.2.2.2.2.2.2.2.2.2.1)) rfl (by decide) D fun D => (q1 s_add D fun D => (qL s_ist (by decide) D fun D => (q1 (s_ildn (n := 1) (i := 1) rfl) D fun D => (q1 (s_iconst (n := (-1)) (v := (-1)) (by decide)) D fun D => (qB s_cmpeq 66 (by decide) D (s_keep [true, false, false, false, true, true, true] fun _ _ _ h => h) fun D => (q1 s_ild D fun D => (q1 (s_ildn (n := 3) (i := 3) rfl) D fun D => (q1 s_mul D fun D => (q1 (s_ildn (n := 2) (i := 2) rfl) D fun D => (q1 s_ild D fun D => (q1 s_mul D fun D => (qB s_cmpge 75 (by decide) D (s_keep [true, true, true, true, true, false, false] fun _ _ _ h => h) fun D => (s_keep [true, false, false, false, true, true, true] fun _ _ _ h => h))))))))))))))))))))))))))))))))
def b_X4_tightest_66 (Q : Option Value → Hp → Prop) : Kt := i_ild 4 (i_ist 1 (i_ild 5 (i_ist 2 (i_ild 6 (i_ist 3 (i_keep [true, true, true, true, true, false, false] (wp 2 MX4_tightest Q 75)))))))
set_option maxRecDepth 100000 in
theorem s_X4_tightest_66 (Q : Option Value → Hp → Prop) : ∀ A st h, b_X4_tightest_66 Q A st h → wp 2 MX4_tightest Q 66 A st h := (q1 s_ild D_X4_tightest_66 fun D => (qL (s_istn (n := 1) (i := 1) rfl) (by decide) D fun D => (q1 s_ild D fun D => (qL (s_istn (n := 2) (i := 2) rfl) (by decide) D fun D => (q1 s_ild D fun D => (qL (s_istn (n := 3) (i := 3) rfl) (by decide) D fun D => (s_keep [true, true, true, true, true, false, false] fun _ _ _ h => h)))))))
def b_X4_tightest_75 (Q : Option Value → Hp → Prop) : Kt := i_inc 4 1 (i_keep [true, true, true, true, true, false, false] (wp 2 MX4_tightest Q 9))
set_option maxRecDepth 100000 in
theorem s_X4_tightest_75 (Q : Option Value → Hp → Prop) : ∀ A st h, b_X4_tightest_75 Q A st h → wp 2 MX4_tightest Q 75 A st h := (qL (s_inc (i := 4) (n := 1) (v := 1) (by decide)) (by decide) D_X4_tightest_75 fun D => (qG 9 (by decide) D (s_keep [true, true, true, true, true, false, false] fun _ _ _ h => h)))

set_option maxRecDepth 100000 in
set_option maxHeartbeats 400000 in
theorem ti_9 (Q : Option Value → Hp → Prop) (h : Hp) (hl : LayX h) (hst : hR h 33 0 = some 3) (R n : Nat) (hR : R ≤ 4) (hn : n ≤ 10) (h12 : hI h 12 0 = nI R) (h32 : hI h 33 2 = nI n) (hw : whOk (hI h) R n) (hq0 : (∀ i, i < n → ¬ hI h 39 i = -1) → Q (some (.int (-1))) h) (hq1 : ∀ i, i < n → hI h 39 i = -1 → Q (some (.int (nI i))) h) :
    ∀ (m k : Nat) (b v w : Int32), m = n - k → k ≤ n → ((b = -1 ∧ ∀ i, i < k → ¬ hI h 39 i = -1) ∨ ∃ i, i < k ∧ b = nI i ∧ hI h 39 i = -1) → wp 2 MX4_tightest Q 9 [some (.ref 33), some (.int b), some (.int v), some (.int w), some (.int (nI k)), none, none] [] h := by
  intro m
  induction m with
  | zero =>
    intro k b v w hm hk hb
    have e : k = n := by omega
    subst e
    have hfin : Q (some (.int b)) h := by
      rcases hb with ⟨e, z⟩ | ⟨i, hi, e, z⟩
      · rw [e]; exact hq0 z
      · rw [e]; exact hq1 i hi z
    refine s_X4_tightest_9 Q _ _ _ ?_
    simp only [b_X4_tightest_9, lx_pI, lx_wI, lx_t hl, lx_k hl, lx_r hl, lx_l hl, i_push, i_ild, i_ald, i_ist, i_ast, i_inc, i_bin, i_un, i_divs, i_i2l, i_lshl, i_lor, i_dup, i_dup2, i_pop, i_if, i_cmp, i_nul, i_vret, i_iret, i_zret, i_aret, i_keep, keep, lget, lset, ent, i_getI, i_getJ, i_getR, i_getN, i_putI, i_putZ, i_putJ, i_putR, i_iald, i_bald, i_alen, i_aald, i_iast, i_bast, i_aast, i_new, i_newa, i_anew, i_oini, i_callS, i_callV, i_callI, popn, sh4, i_sw, swP, i_copy, i_binS, List.map, Option.toList_none, Option.toList_some, List.append, List.nil_append, List.cons_append, List.length_cons, List.length_nil, List.replicate, Nat.sub_self, Nat.reduceSub, Nat.reduceAdd, hK_pI, hL_pI, hI_pI, hR_pI, hJ_pI, hT_pI, hS_pI, hK_pR, hL_pR, hI_pR, hR_pR, hJ_pR, hT_pR, hS_pR, hK_pJ, hL_pJ, hI_pJ, hR_pJ, hJ_pJ, hT_pJ, hS_pJ, hK_wI, hL_wI, hI_wI, hR_wI, hJ_wI, hT_wI, hS_wI, eq_self, and_true, true_and, and_false, false_and, or_true, true_or, or_false, false_or, if_true, if_false, not_true_eq_false, not_false_eq_true, forall_const, implies_true, false_implies, true_implies, Option.some.injEq, forall_eq', exists_eq_left', reduceCtorEq, Nat.reduceEqDiff, c1, T_X12_in, T_X12_ones, T_X11_within, T_X11_bit, T_X11_isIn, T_X11_oneIfIn, T_J6_bitCount_0f7a4, h32]
    exact ⟨fun _ => hfin, fun z => absurd (nI_le (Nat.le_refl _) (by omega)) z⟩
  | succ m ih =>
    intro k b v w hm hk hb
    have h75 : ∀ (b' v' w' : Int32), ((b' = -1 ∧ ∀ i, i < k + 1 → ¬ hI h 39 i = -1) ∨ ∃ i, i < k + 1 ∧ b' = nI i ∧ hI h 39 i = -1) → wp 2 MX4_tightest Q 75 [some (.ref 33), some (.int b'), some (.int v'), some (.int w'), some (.int (nI k)), none, none] [] h := by
      intro b' v' w' hb'
      refine s_X4_tightest_75 Q _ _ _ ?_
      simp only [b_X4_tightest_75, i_push, i_ild, i_ald, i_ist, i_ast, i_inc, i_bin, i_un, i_divs, i_i2l, i_lshl, i_lor, i_dup, i_dup2, i_pop, i_if, i_cmp, i_nul, i_vret, i_iret, i_zret, i_aret, i_keep, keep, lget, lset, ent, i_getI, i_getJ, i_getR, i_getN, i_putI, i_putZ, i_putJ, i_putR, i_iald, i_bald, i_alen, i_aald, i_iast, i_bast, i_aast, i_new, i_newa, i_anew, i_oini, i_callS, i_callV, i_callI, popn, sh4, i_sw, swP, i_copy, i_binS, List.map, Option.toList_none, Option.toList_some, List.append, List.nil_append, List.cons_append, List.length_cons, List.length_nil, List.replicate, Nat.sub_self, Nat.reduceSub, Nat.reduceAdd, hK_pI, hL_pI, hI_pI, hR_pI, hJ_pI, hT_pI, hS_pI, hK_pR, hL_pR, hI_pR, hR_pR, hJ_pR, hT_pR, hS_pR, hK_pJ, hL_pJ, hI_pJ, hR_pJ, hJ_pJ, hT_pJ, hS_pJ, hK_wI, hL_wI, hI_wI, hR_wI, hJ_wI, hT_wI, hS_wI, eq_self, and_true, true_and, and_false, false_and, or_true, true_or, or_false, false_or, if_true, if_false, not_true_eq_false, not_false_eq_true, forall_const, implies_true, false_implies, true_implies, Option.some.injEq, forall_eq', exists_eq_left', reduceCtorEq, Nat.reduceEqDiff, c1, T_X12_in, T_X12_ones, T_X11_within, T_X11_bit, T_X11_isIn, T_X11_oneIfIn, T_J6_bitCount_0f7a4, nI_1]
      exact ih (k + 1) b' v' w' (by omega) (by omega) hb'
    have h66 : hI h 39 k = -1 → ∀ v' w', wp 2 MX4_tightest Q 66 [some (.ref 33), none, none, none, some (.int (nI k)), some (.int v'), some (.int w')] [] h := by
      intro c v' w'
      have := h75 (nI k) v' w' (Or.inr ⟨k, by omega, rfl, c⟩)
      refine s_X4_tightest_66 Q _ _ _ ?_
      simp only [b_X4_tightest_66, i_push, i_ild, i_ald, i_ist, i_ast, i_inc, i_bin, i_un, i_divs, i_i2l, i_lshl, i_lor, i_dup, i_dup2, i_pop, i_if, i_cmp, i_nul, i_vret, i_iret, i_zret, i_aret, i_keep, keep, lget, lset, ent, i_getI, i_getJ, i_getR, i_getN, i_putI, i_putZ, i_putJ, i_putR, i_iald, i_bald, i_alen, i_aald, i_iast, i_bast, i_aast, i_new, i_newa, i_anew, i_oini, i_callS, i_callV, i_callI, popn, sh4, i_sw, swP, i_copy, i_binS, List.map, Option.toList_none, Option.toList_some, List.append, List.nil_append, List.cons_append, List.length_cons, List.length_nil, List.replicate, Nat.sub_self, Nat.reduceSub, Nat.reduceAdd, hK_pI, hL_pI, hI_pI, hR_pI, hJ_pI, hT_pI, hS_pI, hK_pR, hL_pR, hI_pR, hR_pR, hJ_pR, hT_pR, hS_pR, hK_pJ, hL_pJ, hI_pJ, hR_pJ, hJ_pJ, hT_pJ, hS_pJ, hK_wI, hL_wI, hI_wI, hR_wI, hJ_wI, hT_wI, hS_wI, eq_self, and_true, true_and, and_false, false_and, or_true, true_or, or_false, false_or, if_true, if_false, not_true_eq_false, not_false_eq_true, forall_const, implies_true, false_implies, true_implies, Option.some.injEq, forall_eq', exists_eq_left', reduceCtorEq, Nat.reduceEqDiff, c1, T_X12_in, T_X12_ones, T_X11_within, T_X11_bit, T_X11_isIn, T_X11_oneIfIn, T_J6_bitCount_0f7a4]
      exact this
    have hc : hI h 39 k = -1 → T_X4_openRooms [.ref 33, .int (nI k)] h (fun r h' => c_X4_tightest_35 Q [some (.ref 33), some (.int b), some (.int v), some (.int w), some (.int (nI k)), none, none] (r.toList ++ []) h') := by
      intro c
      refine ⟨rfl, hl, hst, R, n, k, hR, hn, h12, h32, rfl, by omega, hw, fun X _ => ?_⟩
      show c_X4_tightest_35 Q _ [.int X] h
      have h66' := h66 c
      have h75' : ∀ v' w', ¬ b = -1 → wp 2 MX4_tightest Q 75 [some (.ref 33), some (.int b), some (.int v'), some (.int w'), some (.int (nI k)), none, none] [] h := fun v' w' nb => h75 b v' w' (by
        rcases hb with ⟨e2, _⟩ | ⟨i, hi, e2, z⟩
        · exact absurd e2 nb
        · exact Or.inr ⟨i, by omega, e2, z⟩)
      have hcl : ∀ u, T_X4_clashesOf [.ref 33, .int (nI k)] h (fun r h' => c_X4_tightest_47 Q [some (.ref 33), some (.int b), some (.int v), some (.int w), some (.int (nI k)), some (.int u), none] (r.toList ++ [.int 1]) h') := by
        intro u
        refine ⟨rfl, hl, n, k, hn, h32, rfl, by omega, fun y => ?_⟩
        show c_X4_tightest_47 Q _ [.int y, .int 1] h
        have hA := h66' u (1 + y)
        have hB := h75' v w
        simp only [c_X4_tightest_47, i_push, i_ild, i_ald, i_ist, i_ast, i_inc, i_bin, i_un, i_divs, i_i2l, i_lshl, i_lor, i_dup, i_dup2, i_pop, i_if, i_cmp, i_nul, i_vret, i_iret, i_zret, i_aret, i_keep, keep, lget, lset, ent, i_getI, i_getJ, i_getR, i_getN, i_putI, i_putZ, i_putJ, i_putR, i_iald, i_bald, i_alen, i_aald, i_iast, i_bast, i_aast, i_new, i_newa, i_anew, i_oini, i_callS, i_callV, i_callI, popn, sh4, i_sw, swP, i_copy, i_binS, List.map, Option.toList_none, Option.toList_some, List.append, List.nil_append, List.cons_append, List.length_cons, List.length_nil, List.replicate, Nat.sub_self, Nat.reduceSub, Nat.reduceAdd, hK_pI, hL_pI, hI_pI, hR_pI, hJ_pI, hT_pI, hS_pI, hK_pR, hL_pR, hI_pR, hR_pR, hJ_pR, hT_pR, hS_pR, hK_pJ, hL_pJ, hI_pJ, hR_pJ, hJ_pJ, hT_pJ, hS_pJ, hK_wI, hL_wI, hI_wI, hR_wI, hJ_wI, hT_wI, hS_wI, eq_self, and_true, true_and, and_false, false_and, or_true, true_or, or_false, false_or, if_true, if_false, not_true_eq_false, not_false_eq_true, forall_const, implies_true, false_implies, true_implies, Option.some.injEq, forall_eq', exists_eq_left', reduceCtorEq, Nat.reduceEqDiff, c1, T_X12_in, T_X12_ones, T_X11_within, T_X11_bit, T_X11_isIn, T_X11_oneIfIn, T_J6_bitCount_0f7a4]
        exact ⟨fun _ => hA, fun nb => ⟨fun _ => hB nb, fun _ => hA⟩⟩
      simp only [c_X4_tightest_35, lx_pI, lx_wI, lx_t hl, lx_k hl, lx_r hl, lx_l hl, i_push, i_ild, i_ald, i_ist, i_ast, i_inc, i_bin, i_un, i_divs, i_i2l, i_lshl, i_lor, i_dup, i_dup2, i_pop, i_if, i_cmp, i_nul, i_vret, i_iret, i_zret, i_aret, i_keep, keep, lget, lset, ent, i_getI, i_getJ, i_getR, i_getN, i_putI, i_putZ, i_putJ, i_putR, i_iald, i_bald, i_alen, i_aald, i_iast, i_bast, i_aast, i_new, i_newa, i_anew, i_oini, i_callS, i_callV, i_callI, popn, sh4, i_sw, swP, i_copy, i_binS, List.map, Option.toList_none, Option.toList_some, List.append, List.nil_append, List.cons_append, List.length_cons, List.length_nil, List.replicate, Nat.sub_self, Nat.reduceSub, Nat.reduceAdd, hK_pI, hL_pI, hI_pI, hR_pI, hJ_pI, hT_pI, hS_pI, hK_pR, hL_pR, hI_pR, hR_pR, hJ_pR, hT_pR, hS_pR, hK_pJ, hL_pJ, hI_pJ, hR_pJ, hJ_pJ, hT_pJ, hS_pJ, hK_wI, hL_wI, hI_wI, hR_wI, hJ_wI, hT_wI, hS_wI, eq_self, and_true, true_and, and_false, false_and, or_true, true_or, or_false, false_or, if_true, if_false, not_true_eq_false, not_false_eq_true, forall_const, implies_true, false_implies, true_implies, Option.some.injEq, forall_eq', exists_eq_left', reduceCtorEq, Nat.reduceEqDiff, c1, T_X12_in, T_X12_ones, T_X11_within, T_X11_bit, T_X11_isIn, T_X11_oneIfIn, T_J6_bitCount_0f7a4]
      exact hcl _
    have hno : ¬ hI h 39 k = -1 → wp 2 MX4_tightest Q 75 [some (.ref 33), some (.int b), some (.int v), some (.int w), some (.int (nI k)), none, none] [] h := fun c => h75 b v w (by
      rcases hb with ⟨e, z⟩ | ⟨i, hi, e, z⟩
      · exact Or.inl ⟨e, fun i hi => by
          by_cases e2 : i = k
          · rw [e2]; exact c
          · exact z i (by omega)⟩
      · exact Or.inr ⟨i, by omega, e, z⟩)
    refine s_X4_tightest_9 Q _ _ _ ?_
    simp only [b_X4_tightest_9, lx_pI, lx_wI, lx_t hl, lx_k hl, lx_r hl, lx_l hl, i_push, i_ild, i_ald, i_ist, i_ast, i_inc, i_bin, i_un, i_divs, i_i2l, i_lshl, i_lor, i_dup, i_dup2, i_pop, i_if, i_cmp, i_nul, i_vret, i_iret, i_zret, i_aret, i_keep, keep, lget, lset, ent, i_getI, i_getJ, i_getR, i_getN, i_putI, i_putZ, i_putJ, i_putR, i_iald, i_bald, i_alen, i_aald, i_iast, i_bast, i_aast, i_new, i_newa, i_anew, i_oini, i_callS, i_callV, i_callI, popn, sh4, i_sw, swP, i_copy, i_binS, List.map, Option.toList_none, Option.toList_some, List.append, List.nil_append, List.cons_append, List.length_cons, List.length_nil, List.replicate, Nat.sub_self, Nat.reduceSub, Nat.reduceAdd, hK_pI, hL_pI, hI_pI, hR_pI, hJ_pI, hT_pI, hS_pI, hK_pR, hL_pR, hI_pR, hR_pR, hJ_pR, hT_pR, hS_pR, hK_pJ, hL_pJ, hI_pJ, hR_pJ, hJ_pJ, hT_pJ, hS_pJ, hK_wI, hL_wI, hI_wI, hR_wI, hJ_wI, hT_wI, hS_wI, eq_self, and_true, true_and, and_false, false_and, or_true, true_or, or_false, false_or, if_true, if_false, not_true_eq_false, not_false_eq_true, forall_const, implies_true, false_implies, true_implies, Option.some.injEq, forall_eq', exists_eq_left', reduceCtorEq, Nat.reduceEqDiff, c1, T_X12_in, T_X12_ones, T_X11_within, T_X11_bit, T_X11_isIn, T_X11_oneIfIn, T_J6_bitCount_0f7a4, h32, cl_nI (show k < 2147483648 by omega), in_nI (show k < 10 by omega) (by decide)]
    exact ⟨fun z => absurd z (nI_ge (by omega) (by omega)), fun _ => ⟨hc, hno⟩⟩
set_option maxRecDepth 100000 in
set_option maxHeartbeats 4000000 in
theorem ok_X4_tightest : ctr 2 MX4_tightest T_X4_tightest := by
  refine ctr_of pn_X4 wc_X4_tightest (fun av h Q hT => ?_)
  unfold T_X4_tightest at hT
  split at hT
  · rename_i o
    refine ⟨⟨by simp [Value.category], Nat.le_of_ble_eq_true rfl⟩, s_X4_tightest_0 Q _ _ _ ?_⟩
    obtain ⟨rfl, hl, hst, R, n, hR, hn, h12, h32, hw, hq0, hq1⟩ := hT
    have := ti_9 Q h hl hst R n hR hn h12 h32 hw hq0 hq1 n 0 (-1) 0 0 (by omega) (by omega) (Or.inl ⟨rfl, fun i hi => absurd hi (Nat.not_lt_zero _)⟩)
    simp only [MX4_tightest, b_X4_tightest_0, i_push, i_ild, i_ald, i_ist, i_ast, i_inc, i_bin, i_un, i_divs, i_i2l, i_lshl, i_lor, i_dup, i_dup2, i_pop, i_if, i_cmp, i_nul, i_vret, i_iret, i_zret, i_aret, i_keep, keep, lget, lset, ent, i_getI, i_getJ, i_getR, i_getN, i_putI, i_putZ, i_putJ, i_putR, i_iald, i_bald, i_alen, i_aald, i_iast, i_bast, i_aast, i_new, i_newa, i_anew, i_oini, i_callS, i_callV, i_callI, popn, sh4, i_sw, swP, i_copy, i_binS, List.map, Option.toList_none, Option.toList_some, List.append, List.nil_append, List.cons_append, List.length_cons, List.length_nil, List.replicate, Nat.sub_self, Nat.reduceSub, Nat.reduceAdd, hK_pI, hL_pI, hI_pI, hR_pI, hJ_pI, hT_pI, hS_pI, hK_pR, hL_pR, hI_pR, hR_pR, hJ_pR, hT_pR, hS_pR, hK_pJ, hL_pJ, hI_pJ, hR_pJ, hJ_pJ, hT_pJ, hS_pJ, hK_wI, hL_wI, hI_wI, hR_wI, hJ_wI, hT_wI, hS_wI, eq_self, and_true, true_and, and_false, false_and, or_true, true_or, or_false, false_or, if_true, if_false, not_true_eq_false, not_false_eq_true, forall_const, implies_true, false_implies, true_implies, Option.some.injEq, forall_eq', exists_eq_left', reduceCtorEq, Nat.reduceEqDiff, c1, T_X12_in, T_X12_ones, T_X11_within, T_X11_bit, T_X11_isIn, T_X11_oneIfIn, T_J6_bitCount_0f7a4]
    exact this
  · exact hT.elim
def T_X4_waitingFor : Tr := fun av h Q => match av with
  | [.ref o, .int p] => o = 33 ∧ LayX h ∧ ∃ R n sz cp wh r, PS (hI h) R n sz cp ∧ PD (hI h) R n sz cp wh ∧ p = nI r ∧ r < 4 ∧ Q (some (.int (nI (wfS (hI h) wh sz r n)))) h
  | _ => False
def L_X4_waitingFor : List UInt8 := [3, 61, 3, 62, 29, 42, 180, 0, 51, 162, 0, 41, 28, 42, 180, 0, 27, 29, 46, 2, 160, 0, 21, 42, 27, 29, 182, 0, 165, 153, 0, 12, 42, 180, 0, 15, 29, 46, 167, 0, 4, 3, 96, 61, 132, 3, 1, 167, 255, 213, 28, 172]
theorem Lc_X4_waitingFor : MX4_waitingFor.2.1 = ⟨L_X4_waitingFor.toArray⟩ := rfl
theorem D_X4_waitingFor_0 : dseq MX4_waitingFor.2.1 0 [(.iconst 0, 1), (.istore_n 2, 1), (.iconst 0, 1), (.istore_n 3, 1)] := dq Lc_X4_waitingFor 0 _ (by decide +kernel)
theorem D_X4_waitingFor_4 : dseq MX4_waitingFor.2.1 4 [(.iload_n 3, 1), (.aload_n 0, 1), (.getfield 51, 3), (.if_icmp .ge 41, 3), (.iload_n 2, 1), (.aload_n 0, 1), (.getfield 27, 3), (.iload_n 3, 1), (.iaload, 1), (.iconst (-1), 1), (.if_icmp .ne 21, 3), (.aload_n 0, 1), (.iload_n 1, 1), (.iload_n 3, 1), (.invokevirtual 165, 3), (.ifCond .eq 12, 3), (.aload_n 0, 1), (.getfield 15, 3), (.iload_n 3, 1), (.iaload, 1), (.goto 4, 3)] := dq Lc_X4_waitingFor 4 _ (by decide +kernel)
theorem D_X4_waitingFor_50 : dseq MX4_waitingFor.2.1 50 [(.iload_n 2, 1), (.ireturn, 1)] := dq Lc_X4_waitingFor 50 _ (by decide +kernel)
theorem D_X4_waitingFor_41 : dseq MX4_waitingFor.2.1 41 [(.iconst 0, 1)] := dq Lc_X4_waitingFor 41 _ (by decide +kernel)
theorem D_X4_waitingFor_42 : dseq MX4_waitingFor.2.1 42 [(.iadd, 1), (.istore_n 2, 1), (.iinc 3 1, 3), (.goto (-43), 3)] := dq Lc_X4_waitingFor 42 _ (by decide +kernel)
def c_X4_waitingFor_29 (Q : Option Value → Hp → Prop) : Kt := i_if (fun x => x = 0) (i_keep [true, true, false, true] (wp 1 MX4_waitingFor Q 41)) (i_ald 0 (i_getR 4 4 (i_ild 3 (i_iald (i_keep [true, true, false, true] (wp 1 MX4_waitingFor Q 42))))))
def b_X4_waitingFor_0 (Q : Option Value → Hp → Prop) : Kt := i_push (.int 0) (i_ist 2 (i_push (.int 0) (i_ist 3 (i_keep [true, true, true, true] (wp 1 MX4_waitingFor Q 4)))))
set_option maxRecDepth 100000 in
theorem s_X4_waitingFor_0 (Q : Option Value → Hp → Prop) : ∀ A st h, b_X4_waitingFor_0 Q A st h → wp 1 MX4_waitingFor Q 0 A st h := (q1 (s_iconst (n := 0) (v := 0) (by decide)) D_X4_waitingFor_0 fun D => (qL (s_istn (n := 2) (i := 2) rfl) (by decide) D fun D => (q1 (s_iconst (n := 0) (v := 0) (by decide)) D fun D => (qL (s_istn (n := 3) (i := 3) rfl) (by decide) D fun D => (s_keep [true, true, true, true] fun _ _ _ h => h)))))
def b_X4_waitingFor_4 (Q : Option Value → Hp → Prop) : Kt := i_ild 3 (i_ald 0 (i_getI 4 2 (i_cmp (fun x y => y ≤ x) (i_ild 2 (i_iret Q)) (i_ild 2 (i_ald 0 (i_getR 4 8 (i_ild 3 (i_iald (i_push (.int (-1)) (i_cmp (fun x y => x = y) (i_ald 0 (i_ild 1 (i_ild 3 (i_callV 4 2 T_X4_isOpen (c_X4_waitingFor_29 Q))))) (i_keep [true, true, false, true] (wp 1 MX4_waitingFor Q 41))))))))))))
set_option maxRecDepth 100000 in
theorem s_X4_waitingFor_4 (Q : Option Value → Hp → Prop) : ∀ A st h, b_X4_waitingFor_4 Q A st h → wp 1 MX4_waitingFor Q 4 A st h := (q1 (s_ildn (n := 3) (i := 3) rfl) D_X4_waitingFor_4 fun D => (q1 (s_aldn (n := 0) (i := 0) rfl) D fun D => (qC fl_X4_51 rfl D fun D => (qB s_cmpge 50 (by decide) D (q1 (s_ildn (n := 2) (i := 2) rfl) D_X4_waitingFor_50 fun D => (qI rfl D)) fun D => (q1 (s_ildn (n := 2) (i := 2) rfl) D fun D => (q1 (s_aldn (n := 0) (i := 0) rfl) D fun D => (qC fl_X4_27 rfl D fun D => (q1 (s_ildn (n := 3) (i := 3) rfl) D fun D => (q1 s_iald D fun D => (q1 (s_iconst (n := (-1)) (v := (-1)) (by decide)) D fun D => (qBn s_cmpne2 41 (by decide) D (s_keep [true, true, false, true] fun _ _ _ h => h) fun D => (q1 (s_aldn (n := 0) (i := 0) rfl) D fun D => (q1 (s_ildn (n := 1) (i := 1) rfl) D fun D => (q1 (s_ildn (n := 3) (i := 3) rfl) D fun D => (qX (s_callV kX4 rfl ok_X4_isOpen mo_X4_isOpen (ch_4_5_ok.2.2.2.2.2.2.2.2.2.2.2.2.1.1 rfl) (ch_4_5_ok.2.2.2.2.2.2.2.2.2.2.2.2.2.2.1.1 rfl) (pv_1.2.2.2.2.2.2.2.2.2.2.2.2.1)) rfl (by decide) D fun D => (qB s_ifeq 41 (by decide) D (s_keep [true, true, false, true] fun _ _ _ h => h) fun D => (q1 (s_aldn (n := 0) (i := 0) rfl) D fun D => (qC fl_X4_15 rfl D fun D => (q1 (s_ildn (n := 3) (i := 3) rfl) D fun D => (q1 s_iald D fun D => (qG 42 (by decide) D (s_keep [true, true, false, true] fun _ _ _ h => h))))))))))))))))))))))
def b_X4_waitingFor_41 (Q : Option Value → Hp → Prop) : Kt := i_push (.int 0) (i_keep [true, true, false, true] (wp 1 MX4_waitingFor Q 42))
set_option maxRecDepth 100000 in
theorem s_X4_waitingFor_41 (Q : Option Value → Hp → Prop) : ∀ A st h, b_X4_waitingFor_41 Q A st h → wp 1 MX4_waitingFor Q 41 A st h := (q1 (s_iconst (n := 0) (v := 0) (by decide)) D_X4_waitingFor_41 fun D => (s_keep [true, true, false, true] fun _ _ _ h => h))
def b_X4_waitingFor_42 (Q : Option Value → Hp → Prop) : Kt := i_bin (fun x y => x + y) (i_ist 2 (i_inc 3 1 (i_keep [true, true, true, true] (wp 1 MX4_waitingFor Q 4))))
set_option maxRecDepth 100000 in
theorem s_X4_waitingFor_42 (Q : Option Value → Hp → Prop) : ∀ A st h, b_X4_waitingFor_42 Q A st h → wp 1 MX4_waitingFor Q 42 A st h := (q1 s_add D_X4_waitingFor_42 fun D => (qL (s_istn (n := 2) (i := 2) rfl) (by decide) D fun D => (qL (s_inc (i := 3) (n := 1) (v := 1) (by decide)) (by decide) D fun D => (qG 4 (by decide) D (s_keep [true, true, true, true] fun _ _ _ h => h)))))

theorem oB_none {x : Option Nat} (hx : ∀ b, x = some b → b < 1000) : oB x = -1 ↔ x = none := by
  cases x with
  | none => exact ⟨fun _ => rfl, fun _ => rfl⟩
  | some b => exact ⟨fun z => absurd z (nI_m1 b (by have := hx b rfl; omega)), fun z => by cases z⟩
set_option maxRecDepth 100000 in
set_option maxHeartbeats 400000 in
theorem wt_4 (Q : Option Value → Hp → Prop) (h : Hp) (hl : LayX h) (R n : Nat) (sz cp : Nat → Nat) (wh : Nat → Option Nat) (r : Nat) (hr : r < 4) (hs : PS (hI h) R n sz cp) (hd : PD (hI h) R n sz cp wh) (hq : Q (some (.int (nI (wfS (hI h) wh sz r n)))) h) :
    ∀ (m k : Nat), m = n - k → k ≤ n → wp 1 MX4_waitingFor Q 4 [some (.ref 33), some (.int (nI r)), some (.int (nI (wfS (hI h) wh sz r k))), some (.int (nI k))] [] h := by
  obtain ⟨s1, s2, s3, s4, s5, s6, s7, s8⟩ := hs
  have hoN : ∀ i, i < n → (hI h 39 i = -1 ↔ wh i = none) := fun i hi => by
    rw [(hd.1 i hi).1]
    exact oB_none (fun b hb => by have := ((hd.1 i hi).2 b hb).1; omega)
  intro m
  induction m with
  | zero =>
    intro k hm hk
    have e : k = n := by omega
    subst e
    refine s_X4_waitingFor_4 Q _ _ _ ?_
    generalize nI (wfS (hI h) wh sz r k) = U at hq ⊢
    simp only [b_X4_waitingFor_4, lx_pI, lx_wI, lx_t hl, lx_k hl, lx_r hl, lx_l hl, i_push, i_ild, i_ald, i_ist, i_ast, i_inc, i_bin, i_un, i_divs, i_i2l, i_lshl, i_lor, i_dup, i_dup2, i_pop, i_if, i_cmp, i_nul, i_vret, i_iret, i_zret, i_aret, i_keep, keep, lget, lset, ent, i_getI, i_getJ, i_getR, i_getN, i_putI, i_putZ, i_putJ, i_putR, i_iald, i_bald, i_alen, i_aald, i_iast, i_bast, i_aast, i_new, i_newa, i_anew, i_oini, i_callS, i_callV, i_callI, popn, sh4, i_sw, swP, i_copy, i_binS, List.map, Option.toList_none, Option.toList_some, List.append, List.nil_append, List.cons_append, List.length_cons, List.length_nil, List.replicate, Nat.sub_self, Nat.reduceSub, Nat.reduceAdd, hK_pI, hL_pI, hI_pI, hR_pI, hJ_pI, hT_pI, hS_pI, hK_pR, hL_pR, hI_pR, hR_pR, hJ_pR, hT_pR, hS_pR, hK_pJ, hL_pJ, hI_pJ, hR_pJ, hJ_pJ, hT_pJ, hS_pJ, hK_wI, hL_wI, hI_wI, hR_wI, hJ_wI, hT_wI, hS_wI, eq_self, and_true, true_and, and_false, false_and, or_true, true_or, or_false, false_or, if_true, if_false, not_true_eq_false, not_false_eq_true, forall_const, implies_true, false_implies, true_implies, Option.some.injEq, forall_eq', exists_eq_left', reduceCtorEq, Nat.reduceEqDiff, c1, T_X12_in, T_X12_ones, T_X11_within, T_X11_bit, T_X11_isIn, T_X11_oneIfIn, T_J6_bitCount_0f7a4, s4]
    exact ⟨fun _ => hq, fun z => absurd (nI_le (Nat.le_refl _) (by omega)) z⟩
  | succ m ih =>
    intro k hm hk
    have hgo := ih (k + 1) (by omega) (by omega)
    have e1 : wfS (hI h) wh sz r (k + 1) = wfS (hI h) wh sz r k + cif (wh k = none ∧ opS (hI h) k r) (sz k) 0 := rfl
    rw [e1, ← nI_add] at hgo
    generalize nI (wfS (hI h) wh sz r k) = U at hgo ⊢
    have h42 : ∀ v, v = nI (cif (wh k = none ∧ opS (hI h) k r) (sz k) 0) → wp 1 MX4_waitingFor Q 42 [some (.ref 33), some (.int (nI r)), none, some (.int (nI k))] [.int v, .int U] h := by
      intro v hv
      rw [← hv] at hgo
      refine s_X4_waitingFor_42 Q _ _ _ ?_
      simp only [b_X4_waitingFor_42, i_push, i_ild, i_ald, i_ist, i_ast, i_inc, i_bin, i_un, i_divs, i_i2l, i_lshl, i_lor, i_dup, i_dup2, i_pop, i_if, i_cmp, i_nul, i_vret, i_iret, i_zret, i_aret, i_keep, keep, lget, lset, ent, i_getI, i_getJ, i_getR, i_getN, i_putI, i_putZ, i_putJ, i_putR, i_iald, i_bald, i_alen, i_aald, i_iast, i_bast, i_aast, i_new, i_newa, i_anew, i_oini, i_callS, i_callV, i_callI, popn, sh4, i_sw, swP, i_copy, i_binS, List.map, Option.toList_none, Option.toList_some, List.append, List.nil_append, List.cons_append, List.length_cons, List.length_nil, List.replicate, Nat.sub_self, Nat.reduceSub, Nat.reduceAdd, hK_pI, hL_pI, hI_pI, hR_pI, hJ_pI, hT_pI, hS_pI, hK_pR, hL_pR, hI_pR, hR_pR, hJ_pR, hT_pR, hS_pR, hK_pJ, hL_pJ, hI_pJ, hR_pJ, hJ_pJ, hT_pJ, hS_pJ, hK_wI, hL_wI, hI_wI, hR_wI, hJ_wI, hT_wI, hS_wI, eq_self, and_true, true_and, and_false, false_and, or_true, true_or, or_false, false_or, if_true, if_false, not_true_eq_false, not_false_eq_true, forall_const, implies_true, false_implies, true_implies, Option.some.injEq, forall_eq', exists_eq_left', reduceCtorEq, Nat.reduceEqDiff, c1, T_X12_in, T_X12_ones, T_X11_within, T_X11_bit, T_X11_isIn, T_X11_oneIfIn, T_J6_bitCount_0f7a4, nI_1]
      exact hgo
    have h41 : ¬ (wh k = none ∧ opS (hI h) k r) → wp 1 MX4_waitingFor Q 41 [some (.ref 33), some (.int (nI r)), none, some (.int (nI k))] [.int U] h := by
      intro c
      have := h42 0 (by rw [cif_f c]; rfl)
      refine s_X4_waitingFor_41 Q _ _ _ ?_
      simp only [b_X4_waitingFor_41, i_push, i_ild, i_ald, i_ist, i_ast, i_inc, i_bin, i_un, i_divs, i_i2l, i_lshl, i_lor, i_dup, i_dup2, i_pop, i_if, i_cmp, i_nul, i_vret, i_iret, i_zret, i_aret, i_keep, keep, lget, lset, ent, i_getI, i_getJ, i_getR, i_getN, i_putI, i_putZ, i_putJ, i_putR, i_iald, i_bald, i_alen, i_aald, i_iast, i_bast, i_aast, i_new, i_newa, i_anew, i_oini, i_callS, i_callV, i_callI, popn, sh4, i_sw, swP, i_copy, i_binS, List.map, Option.toList_none, Option.toList_some, List.append, List.nil_append, List.cons_append, List.length_cons, List.length_nil, List.replicate, Nat.sub_self, Nat.reduceSub, Nat.reduceAdd, hK_pI, hL_pI, hI_pI, hR_pI, hJ_pI, hT_pI, hS_pI, hK_pR, hL_pR, hI_pR, hR_pR, hJ_pR, hT_pR, hS_pR, hK_pJ, hL_pJ, hI_pJ, hR_pJ, hJ_pJ, hT_pJ, hS_pJ, hK_wI, hL_wI, hI_wI, hR_wI, hJ_wI, hT_wI, hS_wI, eq_self, and_true, true_and, and_false, false_and, or_true, true_or, or_false, false_or, if_true, if_false, not_true_eq_false, not_false_eq_true, forall_const, implies_true, false_implies, true_implies, Option.some.injEq, forall_eq', exists_eq_left', reduceCtorEq, Nat.reduceEqDiff, c1, T_X12_in, T_X12_ones, T_X11_within, T_X11_bit, T_X11_isIn, T_X11_oneIfIn, T_J6_bitCount_0f7a4]
      exact this
    have hop : wh k = none → T_X4_isOpen [.ref 33, .int (nI r), .int (nI k)] h (fun x h' => c_X4_waitingFor_29 Q [some (.ref 33), some (.int (nI r)), some (.int U), some (.int (nI k))] (x.toList ++ [.int U]) h') := by
      intro c
      refine opS_ok hl (by omega) hr (fun z => ?_) (fun z => ?_)
      · have := h42 (hI h 35 k) (by rw [cif_t ⟨c, z⟩]; exact (s5 k (by omega)).1)
        show c_X4_waitingFor_29 Q _ [.int 1, .int U] h
        simp only [c_X4_waitingFor_29, lx_pI, lx_wI, lx_t hl, lx_k hl, lx_r hl, lx_l hl, i_push, i_ild, i_ald, i_ist, i_ast, i_inc, i_bin, i_un, i_divs, i_i2l, i_lshl, i_lor, i_dup, i_dup2, i_pop, i_if, i_cmp, i_nul, i_vret, i_iret, i_zret, i_aret, i_keep, keep, lget, lset, ent, i_getI, i_getJ, i_getR, i_getN, i_putI, i_putZ, i_putJ, i_putR, i_iald, i_bald, i_alen, i_aald, i_iast, i_bast, i_aast, i_new, i_newa, i_anew, i_oini, i_callS, i_callV, i_callI, popn, sh4, i_sw, swP, i_copy, i_binS, List.map, Option.toList_none, Option.toList_some, List.append, List.nil_append, List.cons_append, List.length_cons, List.length_nil, List.replicate, Nat.sub_self, Nat.reduceSub, Nat.reduceAdd, hK_pI, hL_pI, hI_pI, hR_pI, hJ_pI, hT_pI, hS_pI, hK_pR, hL_pR, hI_pR, hR_pR, hJ_pR, hT_pR, hS_pR, hK_pJ, hL_pJ, hI_pJ, hR_pJ, hJ_pJ, hT_pJ, hS_pJ, hK_wI, hL_wI, hI_wI, hR_wI, hJ_wI, hT_wI, hS_wI, eq_self, and_true, true_and, and_false, false_and, or_true, true_or, or_false, false_or, if_true, if_false, not_true_eq_false, not_false_eq_true, forall_const, implies_true, false_implies, true_implies, Option.some.injEq, forall_eq', exists_eq_left', reduceCtorEq, Nat.reduceEqDiff, c1, T_X12_in, T_X12_ones, T_X11_within, T_X11_bit, T_X11_isIn, T_X11_oneIfIn, T_J6_bitCount_0f7a4, show ¬ (1 : Int32) = 0 by decide, cl_nI (show k < 2147483648 by omega), in_nI (show k < 10 by omega) (by decide)]
        exact this
      · have := h41 (fun y => z y.2)
        show c_X4_waitingFor_29 Q _ [.int 0, .int U] h
        simp only [c_X4_waitingFor_29, i_push, i_ild, i_ald, i_ist, i_ast, i_inc, i_bin, i_un, i_divs, i_i2l, i_lshl, i_lor, i_dup, i_dup2, i_pop, i_if, i_cmp, i_nul, i_vret, i_iret, i_zret, i_aret, i_keep, keep, lget, lset, ent, i_getI, i_getJ, i_getR, i_getN, i_putI, i_putZ, i_putJ, i_putR, i_iald, i_bald, i_alen, i_aald, i_iast, i_bast, i_aast, i_new, i_newa, i_anew, i_oini, i_callS, i_callV, i_callI, popn, sh4, i_sw, swP, i_copy, i_binS, List.map, Option.toList_none, Option.toList_some, List.append, List.nil_append, List.cons_append, List.length_cons, List.length_nil, List.replicate, Nat.sub_self, Nat.reduceSub, Nat.reduceAdd, hK_pI, hL_pI, hI_pI, hR_pI, hJ_pI, hT_pI, hS_pI, hK_pR, hL_pR, hI_pR, hR_pR, hJ_pR, hT_pR, hS_pR, hK_pJ, hL_pJ, hI_pJ, hR_pJ, hJ_pJ, hT_pJ, hS_pJ, hK_wI, hL_wI, hI_wI, hR_wI, hJ_wI, hT_wI, hS_wI, eq_self, and_true, true_and, and_false, false_and, or_true, true_or, or_false, false_or, if_true, if_false, not_true_eq_false, not_false_eq_true, forall_const, implies_true, false_implies, true_implies, Option.some.injEq, forall_eq', exists_eq_left', reduceCtorEq, Nat.reduceEqDiff, c1, T_X12_in, T_X12_ones, T_X11_within, T_X11_bit, T_X11_isIn, T_X11_oneIfIn, T_J6_bitCount_0f7a4]
        exact this
    refine s_X4_waitingFor_4 Q _ _ _ ?_
    simp only [b_X4_waitingFor_4, lx_pI, lx_wI, lx_t hl, lx_k hl, lx_r hl, lx_l hl, i_push, i_ild, i_ald, i_ist, i_ast, i_inc, i_bin, i_un, i_divs, i_i2l, i_lshl, i_lor, i_dup, i_dup2, i_pop, i_if, i_cmp, i_nul, i_vret, i_iret, i_zret, i_aret, i_keep, keep, lget, lset, ent, i_getI, i_getJ, i_getR, i_getN, i_putI, i_putZ, i_putJ, i_putR, i_iald, i_bald, i_alen, i_aald, i_iast, i_bast, i_aast, i_new, i_newa, i_anew, i_oini, i_callS, i_callV, i_callI, popn, sh4, i_sw, swP, i_copy, i_binS, List.map, Option.toList_none, Option.toList_some, List.append, List.nil_append, List.cons_append, List.length_cons, List.length_nil, List.replicate, Nat.sub_self, Nat.reduceSub, Nat.reduceAdd, hK_pI, hL_pI, hI_pI, hR_pI, hJ_pI, hT_pI, hS_pI, hK_pR, hL_pR, hI_pR, hR_pR, hJ_pR, hT_pR, hS_pR, hK_pJ, hL_pJ, hI_pJ, hR_pJ, hJ_pJ, hT_pJ, hS_pJ, hK_wI, hL_wI, hI_wI, hR_wI, hJ_wI, hT_wI, hS_wI, eq_self, and_true, true_and, and_false, false_and, or_true, true_or, or_false, false_or, if_true, if_false, not_true_eq_false, not_false_eq_true, forall_const, implies_true, false_implies, true_implies, Option.some.injEq, forall_eq', exists_eq_left', reduceCtorEq, Nat.reduceEqDiff, c1, T_X12_in, T_X12_ones, T_X11_within, T_X11_bit, T_X11_isIn, T_X11_oneIfIn, T_J6_bitCount_0f7a4, s4, cl_nI (show k < 2147483648 by omega), in_nI (show k < 10 by omega) (by decide), hoN k (by omega)]
    exact ⟨fun z => absurd z (nI_ge (by omega) (by omega)), fun _ => ⟨hop, fun c => h41 (fun y => c y.1)⟩⟩
set_option maxRecDepth 100000 in
set_option maxHeartbeats 4000000 in
theorem ok_X4_waitingFor : ctr 1 MX4_waitingFor T_X4_waitingFor := by
  refine ctr_of pn_X4 wc_X4_waitingFor (fun av h Q hT => ?_)
  unfold T_X4_waitingFor at hT
  split at hT
  · rename_i o p
    refine ⟨⟨by simp [Value.category], Nat.le_of_ble_eq_true rfl⟩, s_X4_waitingFor_0 Q _ _ _ ?_⟩
    obtain ⟨rfl, hl, R, n, sz, cp, wh, r, hs, hd, rfl, hr, hq⟩ := hT
    have := wt_4 Q h hl R n sz cp wh r hr hs hd hq n 0 (by omega) (by omega)
    have e0 : nI (wfS (hI h) wh sz r 0) = 0 := rfl
    rw [e0] at this
    simp only [MX4_waitingFor, b_X4_waitingFor_0, i_push, i_ild, i_ald, i_ist, i_ast, i_inc, i_bin, i_un, i_divs, i_i2l, i_lshl, i_lor, i_dup, i_dup2, i_pop, i_if, i_cmp, i_nul, i_vret, i_iret, i_zret, i_aret, i_keep, keep, lget, lset, ent, i_getI, i_getJ, i_getR, i_getN, i_putI, i_putZ, i_putJ, i_putR, i_iald, i_bald, i_alen, i_aald, i_iast, i_bast, i_aast, i_new, i_newa, i_anew, i_oini, i_callS, i_callV, i_callI, popn, sh4, i_sw, swP, i_copy, i_binS, List.map, Option.toList_none, Option.toList_some, List.append, List.nil_append, List.cons_append, List.length_cons, List.length_nil, List.replicate, Nat.sub_self, Nat.reduceSub, Nat.reduceAdd, hK_pI, hL_pI, hI_pI, hR_pI, hJ_pI, hT_pI, hS_pI, hK_pR, hL_pR, hI_pR, hR_pR, hJ_pR, hT_pR, hS_pR, hK_pJ, hL_pJ, hI_pJ, hR_pJ, hJ_pJ, hT_pJ, hS_pJ, hK_wI, hL_wI, hI_wI, hR_wI, hJ_wI, hT_wI, hS_wI, eq_self, and_true, true_and, and_false, false_and, or_true, true_or, or_false, false_or, if_true, if_false, not_true_eq_false, not_false_eq_true, forall_const, implies_true, false_implies, true_implies, Option.some.injEq, forall_eq', exists_eq_left', reduceCtorEq, Nat.reduceEqDiff, c1, T_X12_in, T_X12_ones, T_X11_within, T_X11_bit, T_X11_isIn, T_X11_oneIfIn, T_J6_bitCount_0f7a4]
    exact this
  · exact hT.elim
def T_X4_isCrowded : Tr := fun av h Q => match av with
  | [.ref o] => o = 33 ∧ LayX h ∧ hR h 33 0 = some 3 ∧ ∃ R n sz cp wh, PS (hI h) R n sz cp ∧ PD (hI h) R n sz cp wh ∧ (mnS (hI h) wh sz cp n R < unS wh sz n → Q (some (.int 1)) h) ∧ (¬ mnS (hI h) wh sz cp n R < unS wh sz n → Q (some (.int 0)) h)
  | _ => False
def L_X4_isCrowded : List UInt8 := [3, 60, 3, 61, 28, 42, 180, 0, 43, 180, 0, 55, 180, 0, 61, 162, 0, 26, 27, 42, 180, 0, 40, 28, 46, 42, 28, 182, 0, 156, 184, 0, 159, 96, 60, 132, 2, 1, 167, 255, 222, 3, 61, 28, 42, 180, 0, 51, 162, 0, 32, 27, 42, 180, 0, 27, 28, 46, 2, 160, 0, 12, 42, 180, 0, 15, 28, 46, 167, 0, 4, 3, 100, 60, 132, 2, 1, 167, 255, 222, 27, 156, 0, 7, 4, 167, 0, 4, 3, 172]
theorem Lc_X4_isCrowded : MX4_isCrowded.2.1 = ⟨L_X4_isCrowded.toArray⟩ := rfl
theorem D_X4_isCrowded_0 : dseq MX4_isCrowded.2.1 0 [(.iconst 0, 1), (.istore_n 1, 1), (.iconst 0, 1), (.istore_n 2, 1)] := dq Lc_X4_isCrowded 0 _ (by decide +kernel)
theorem D_X4_isCrowded_4 : dseq MX4_isCrowded.2.1 4 [(.iload_n 2, 1), (.aload_n 0, 1), (.getfield 43, 3), (.getfield 55, 3), (.getfield 61, 3), (.if_icmp .ge 26, 3), (.iload_n 1, 1), (.aload_n 0, 1), (.getfield 40, 3), (.iload_n 2, 1), (.iaload, 1), (.aload_n 0, 1), (.iload_n 2, 1), (.invokevirtual 156, 3), (.invokestatic 159, 3), (.iadd, 1), (.istore_n 1, 1), (.iinc 2 1, 3), (.goto (-34), 3)] := dq Lc_X4_isCrowded 4 _ (by decide +kernel)
theorem D_X4_isCrowded_41 : dseq MX4_isCrowded.2.1 41 [(.iconst 0, 1), (.istore_n 2, 1)] := dq Lc_X4_isCrowded 41 _ (by decide +kernel)
theorem D_X4_isCrowded_43 : dseq MX4_isCrowded.2.1 43 [(.iload_n 2, 1), (.aload_n 0, 1), (.getfield 51, 3), (.if_icmp .ge 32, 3), (.iload_n 1, 1), (.aload_n 0, 1), (.getfield 27, 3), (.iload_n 2, 1), (.iaload, 1), (.iconst (-1), 1), (.if_icmp .ne 12, 3), (.aload_n 0, 1), (.getfield 15, 3), (.iload_n 2, 1), (.iaload, 1), (.goto 4, 3)] := dq Lc_X4_isCrowded 43 _ (by decide +kernel)
theorem D_X4_isCrowded_80 : dseq MX4_isCrowded.2.1 80 [(.iload_n 1, 1), (.ifCond .ge 7, 3), (.iconst 1, 1), (.goto 4, 3)] := dq Lc_X4_isCrowded 80 _ (by decide +kernel)
theorem D_X4_isCrowded_88 : dseq MX4_isCrowded.2.1 88 [(.iconst 0, 1), (.ireturn, 1)] := dq Lc_X4_isCrowded 88 _ (by decide +kernel)
theorem D_X4_isCrowded_89 : dseq MX4_isCrowded.2.1 89 [(.ireturn, 1)] := dq Lc_X4_isCrowded 89 _ (by decide +kernel)
theorem D_X4_isCrowded_71 : dseq MX4_isCrowded.2.1 71 [(.iconst 0, 1)] := dq Lc_X4_isCrowded 71 _ (by decide +kernel)
theorem D_X4_isCrowded_72 : dseq MX4_isCrowded.2.1 72 [(.isub, 1), (.istore_n 1, 1), (.iinc 2 1, 3), (.goto (-34), 3)] := dq Lc_X4_isCrowded 72 _ (by decide +kernel)
def c_X4_isCrowded_30 (Q : Option Value → Hp → Prop) : Kt := i_binS (fun x y => if y < x then y else x) (i_bin (fun x y => x + y) (i_ist 1 (i_inc 2 1 (i_keep [true, true, true] (wp 2 MX4_isCrowded Q 4)))))
def b_X4_isCrowded_0 (Q : Option Value → Hp → Prop) : Kt := i_push (.int 0) (i_ist 1 (i_push (.int 0) (i_ist 2 (i_keep [true, true, true] (wp 2 MX4_isCrowded Q 4)))))
set_option maxRecDepth 100000 in
theorem s_X4_isCrowded_0 (Q : Option Value → Hp → Prop) : ∀ A st h, b_X4_isCrowded_0 Q A st h → wp 2 MX4_isCrowded Q 0 A st h := (q1 (s_iconst (n := 0) (v := 0) (by decide)) D_X4_isCrowded_0 fun D => (qL (s_istn (n := 1) (i := 1) rfl) (by decide) D fun D => (q1 (s_iconst (n := 0) (v := 0) (by decide)) D fun D => (qL (s_istn (n := 2) (i := 2) rfl) (by decide) D fun D => (s_keep [true, true, true] fun _ _ _ h => h)))))
def b_X4_isCrowded_4 (Q : Option Value → Hp → Prop) : Kt := i_ild 2 (i_ald 0 (i_getR 4 0 (i_getR 8 0 (i_getI 6 0 (i_cmp (fun x y => y ≤ x) (i_push (.int 0) (i_ist 2 (i_keep [true, true, true] (wp 2 MX4_isCrowded Q 43)))) (i_ild 1 (i_ald 0 (i_getR 4 12 (i_ild 2 (i_iald (i_ald 0 (i_ild 2 (i_callV 4 1 T_X4_waitingFor (c_X4_isCrowded_30 Q))))))))))))))
set_option maxRecDepth 100000 in
theorem s_X4_isCrowded_4 (Q : Option Value → Hp → Prop) : ∀ A st h, b_X4_isCrowded_4 Q A st h → wp 2 MX4_isCrowded Q 4 A st h := (q1 (s_ildn (n := 2) (i := 2) rfl) D_X4_isCrowded_4 fun D => (q1 (s_aldn (n := 0) (i := 0) rfl) D fun D => (qC fl_X4_43 rfl D fun D => (qC fl_X4_55 rfl D fun D => (qC fl_X4_61 rfl D fun D => (qB s_cmpge 41 (by decide) D (q1 (s_iconst (n := 0) (v := 0) (by decide)) D_X4_isCrowded_41 fun D => (qL (s_istn (n := 2) (i := 2) rfl) (by decide) D fun D => (s_keep [true, true, true] fun _ _ _ h => h))) fun D => (q1 (s_ildn (n := 1) (i := 1) rfl) D fun D => (q1 (s_aldn (n := 0) (i := 0) rfl) D fun D => (qC fl_X4_40 rfl D fun D => (q1 (s_ildn (n := 2) (i := 2) rfl) D fun D => (q1 s_iald D fun D => (q1 (s_aldn (n := 0) (i := 0) rfl) D fun D => (q1 (s_ildn (n := 2) (i := 2) rfl) D fun D => (qX (s_callV kX4 rfl ok_X4_waitingFor mo_X4_waitingFor (ch_4_6_ok.2.2.2.2.2.2.2.2.1.1 rfl) (ch_4_6_ok.2.2.2.2.2.2.2.2.2.2.1.1 rfl) (pv_1.2.2.2.2.2.2.2.2.2.2.2.2.2.2.2.1)) rfl (by decide) D fun D => (qX (s_min (ch_4_5_ok.2.2.2.2.2.2.2.2.2.1.1 rfl) w_min2 w_math w_min4) rfl (by decide) D fun D => (q1 s_add D fun D => (qL (s_istn (n := 1) (i := 1) rfl) (by decide) D fun D => (qL (s_inc (i := 2) (n := 1) (v := 1) (by decide)) (by decide) D fun D => (qG 4 (by decide) D (s_keep [true, true, true] fun _ _ _ h => h))))))))))))))))))))
def b_X4_isCrowded_43 (Q : Option Value → Hp → Prop) : Kt := i_ild 2 (i_ald 0 (i_getI 4 2 (i_cmp (fun x y => y ≤ x) (i_ild 1 (i_if (fun x => 0 ≤ x) (i_push (.int 0) (i_zret Q)) (i_push (.int 1) (i_zret Q)))) (i_ild 1 (i_ald 0 (i_getR 4 8 (i_ild 2 (i_iald (i_push (.int (-1)) (i_cmp (fun x y => x = y) (i_ald 0 (i_getR 4 4 (i_ild 2 (i_iald (i_keep [true, false, true] (wp 2 MX4_isCrowded Q 72)))))) (i_push (.int 0) (i_keep [true, false, true] (wp 2 MX4_isCrowded Q 72)))))))))))))
set_option maxRecDepth 100000 in
theorem s_X4_isCrowded_43 (Q : Option Value → Hp → Prop) : ∀ A st h, b_X4_isCrowded_43 Q A st h → wp 2 MX4_isCrowded Q 43 A st h := (q1 (s_ildn (n := 2) (i := 2) rfl) D_X4_isCrowded_43 fun D => (q1 (s_aldn (n := 0) (i := 0) rfl) D fun D => (qC fl_X4_51 rfl D fun D => (qB s_cmpge 80 (by decide) D (q1 (s_ildn (n := 1) (i := 1) rfl) D_X4_isCrowded_80 fun D => (qB s_ifge 88 (by decide) D (q1 (s_iconst (n := 0) (v := 0) (by decide)) D_X4_isCrowded_88 fun D => (qZ rfl D)) fun D => (q1 (s_iconst (n := 1) (v := 1) (by decide)) D fun D => (qG 89 (by decide) D (qZ rfl D_X4_isCrowded_89))))) fun D => (q1 (s_ildn (n := 1) (i := 1) rfl) D fun D => (q1 (s_aldn (n := 0) (i := 0) rfl) D fun D => (qC fl_X4_27 rfl D fun D => (q1 (s_ildn (n := 2) (i := 2) rfl) D fun D => (q1 s_iald D fun D => (q1 (s_iconst (n := (-1)) (v := (-1)) (by decide)) D fun D => (qBn s_cmpne2 71 (by decide) D (q1 (s_iconst (n := 0) (v := 0) (by decide)) D_X4_isCrowded_71 fun D => (s_keep [true, false, true] fun _ _ _ h => h)) fun D => (q1 (s_aldn (n := 0) (i := 0) rfl) D fun D => (qC fl_X4_15 rfl D fun D => (q1 (s_ildn (n := 2) (i := 2) rfl) D fun D => (q1 s_iald D fun D => (qG 72 (by decide) D (s_keep [true, false, true] fun _ _ _ h => h)))))))))))))))))
def b_X4_isCrowded_72 (Q : Option Value → Hp → Prop) : Kt := i_bin (fun x y => x - y) (i_ist 1 (i_inc 2 1 (i_keep [true, true, true] (wp 2 MX4_isCrowded Q 43))))
set_option maxRecDepth 100000 in
theorem s_X4_isCrowded_72 (Q : Option Value → Hp → Prop) : ∀ A st h, b_X4_isCrowded_72 Q A st h → wp 2 MX4_isCrowded Q 72 A st h := (q1 s_sub D_X4_isCrowded_72 fun D => (qL (s_istn (n := 1) (i := 1) rfl) (by decide) D fun D => (qL (s_inc (i := 2) (n := 1) (v := 1) (by decide)) (by decide) D fun D => (qG 43 (by decide) D (s_keep [true, true, true] fun _ _ _ h => h)))))

set_option maxRecDepth 100000 in
set_option maxHeartbeats 400000 in
theorem cr_43 (Q : Option Value → Hp → Prop) (h : Hp) (hl : LayX h) (R n : Nat) (sz cp : Nat → Nat) (wh : Nat → Option Nat) (hs : PS (hI h) R n sz cp) (hd : PD (hI h) R n sz cp wh) (A : Nat) (hA : A ≤ 100) (hq1 : A < unS wh sz n → Q (some (.int 1)) h) (hq0 : ¬ A < unS wh sz n → Q (some (.int 0)) h) :
    ∀ (m k : Nat), m = n - k → k ≤ n → wp 2 MX4_isCrowded Q 43 [some (.ref 33), some (.int (nI A - nI (unS wh sz k))), some (.int (nI k))] [] h := by
  obtain ⟨s1, s2, s3, s4, s5, s6, s7, s8⟩ := hs
  have hb : ∀ k, k ≤ n → unS wh sz k ≤ 240 := fun k hk => by
    have : unS wh sz k ≤ k * 24 := fb_sm_bound (fun i hi => by
      have := (s5 i (by omega)).2.1
      split <;> omega)
    omega
  have hoN : ∀ i, i < n → (hI h 39 i = -1 ↔ wh i = none) := fun i hi => by
    rw [(hd.1 i hi).1]
    exact oB_none (fun b hb => by have := ((hd.1 i hi).2 b hb).1; omega)
  intro m
  induction m with
  | zero =>
    intro k hm hk
    have e : k = n := by omega
    subst e
    have hbk := hb k (Nat.le_refl _)
    have hge : 0 ≤ nI A - nI (unS wh sz k) ↔ ¬ A < unS wh sz k := by
      rw [Int32.le_iff_toInt_le, pk_sub_toInt (by omega) (by omega)]
      have : (0 : Int32).toInt = 0 := by decide
      rw [this]; omega
    refine s_X4_isCrowded_43 Q _ _ _ ?_
    generalize unS wh sz k = U at hq1 hq0 hge hbk ⊢
    simp only [b_X4_isCrowded_43, lx_pI, lx_wI, lx_t hl, lx_k hl, lx_r hl, lx_l hl, i_push, i_ild, i_ald, i_ist, i_ast, i_inc, i_bin, i_un, i_divs, i_i2l, i_lshl, i_lor, i_dup, i_dup2, i_pop, i_if, i_cmp, i_nul, i_vret, i_iret, i_zret, i_aret, i_keep, keep, lget, lset, ent, i_getI, i_getJ, i_getR, i_getN, i_putI, i_putZ, i_putJ, i_putR, i_iald, i_bald, i_alen, i_aald, i_iast, i_bast, i_aast, i_new, i_newa, i_anew, i_oini, i_callS, i_callV, i_callI, popn, sh4, i_sw, swP, i_copy, i_binS, List.map, Option.toList_none, Option.toList_some, List.append, List.nil_append, List.cons_append, List.length_cons, List.length_nil, List.replicate, Nat.sub_self, Nat.reduceSub, Nat.reduceAdd, hK_pI, hL_pI, hI_pI, hR_pI, hJ_pI, hT_pI, hS_pI, hK_pR, hL_pR, hI_pR, hR_pR, hJ_pR, hT_pR, hS_pR, hK_pJ, hL_pJ, hI_pJ, hR_pJ, hJ_pJ, hT_pJ, hS_pJ, hK_wI, hL_wI, hI_wI, hR_wI, hJ_wI, hT_wI, hS_wI, eq_self, and_true, true_and, and_false, false_and, or_true, true_or, or_false, false_or, if_true, if_false, not_true_eq_false, not_false_eq_true, forall_const, implies_true, false_implies, true_implies, Option.some.injEq, forall_eq', exists_eq_left', reduceCtorEq, Nat.reduceEqDiff, c1, T_X12_in, T_X12_ones, T_X11_within, T_X11_bit, T_X11_isIn, T_X11_oneIfIn, T_J6_bitCount_0f7a4, s4, hge]
    exact ⟨fun _ => ⟨fun c => hq0 c, fun c => hq1 (Classical.not_not.mp c)⟩, fun z => absurd (nI_le (Nat.le_refl _) (by omega)) z⟩
  | succ m ih =>
    intro k hm hk
    have hgo := ih (k + 1) (by omega) (by omega)
    have e1 : unS wh sz (k + 1) = unS wh sz k + (if wh k = none then sz k else 0) := rfl
    have h72 : ∀ v, v = nI (if wh k = none then sz k else 0) → wp 2 MX4_isCrowded Q 72 [some (.ref 33), none, some (.int (nI k))] [.int v, .int (nI A - nI (unS wh sz k))] h := by
      intro v hv
      have e2 : nI A - nI (unS wh sz (k + 1)) = nI A - nI (unS wh sz k) - v := by
        rw [e1, hv, ← nI_add, Int32.sub_eq_add_neg, Int32.neg_add, Int32.sub_eq_add_neg, Int32.sub_eq_add_neg, Int32.sub_eq_add_neg, Int32.add_assoc]
      rw [e2] at hgo
      refine s_X4_isCrowded_72 Q _ _ _ ?_
      generalize nI A - nI (unS wh sz k) = U at hgo ⊢
      simp only [b_X4_isCrowded_72, i_push, i_ild, i_ald, i_ist, i_ast, i_inc, i_bin, i_un, i_divs, i_i2l, i_lshl, i_lor, i_dup, i_dup2, i_pop, i_if, i_cmp, i_nul, i_vret, i_iret, i_zret, i_aret, i_keep, keep, lget, lset, ent, i_getI, i_getJ, i_getR, i_getN, i_putI, i_putZ, i_putJ, i_putR, i_iald, i_bald, i_alen, i_aald, i_iast, i_bast, i_aast, i_new, i_newa, i_anew, i_oini, i_callS, i_callV, i_callI, popn, sh4, i_sw, swP, i_copy, i_binS, List.map, Option.toList_none, Option.toList_some, List.append, List.nil_append, List.cons_append, List.length_cons, List.length_nil, List.replicate, Nat.sub_self, Nat.reduceSub, Nat.reduceAdd, hK_pI, hL_pI, hI_pI, hR_pI, hJ_pI, hT_pI, hS_pI, hK_pR, hL_pR, hI_pR, hR_pR, hJ_pR, hT_pR, hS_pR, hK_pJ, hL_pJ, hI_pJ, hR_pJ, hJ_pJ, hT_pJ, hS_pJ, hK_wI, hL_wI, hI_wI, hR_wI, hJ_wI, hT_wI, hS_wI, eq_self, and_true, true_and, and_false, false_and, or_true, true_or, or_false, false_or, if_true, if_false, not_true_eq_false, not_false_eq_true, forall_const, implies_true, false_implies, true_implies, Option.some.injEq, forall_eq', exists_eq_left', reduceCtorEq, Nat.reduceEqDiff, c1, T_X12_in, T_X12_ones, T_X11_within, T_X11_bit, T_X11_isIn, T_X11_oneIfIn, T_J6_bitCount_0f7a4, nI_1]
      exact hgo
    refine s_X4_isCrowded_43 Q _ _ _ ?_
    generalize nI A - nI (unS wh sz k) = U at h72 ⊢
    simp only [b_X4_isCrowded_43, lx_pI, lx_wI, lx_t hl, lx_k hl, lx_r hl, lx_l hl, i_push, i_ild, i_ald, i_ist, i_ast, i_inc, i_bin, i_un, i_divs, i_i2l, i_lshl, i_lor, i_dup, i_dup2, i_pop, i_if, i_cmp, i_nul, i_vret, i_iret, i_zret, i_aret, i_keep, keep, lget, lset, ent, i_getI, i_getJ, i_getR, i_getN, i_putI, i_putZ, i_putJ, i_putR, i_iald, i_bald, i_alen, i_aald, i_iast, i_bast, i_aast, i_new, i_newa, i_anew, i_oini, i_callS, i_callV, i_callI, popn, sh4, i_sw, swP, i_copy, i_binS, List.map, Option.toList_none, Option.toList_some, List.append, List.nil_append, List.cons_append, List.length_cons, List.length_nil, List.replicate, Nat.sub_self, Nat.reduceSub, Nat.reduceAdd, hK_pI, hL_pI, hI_pI, hR_pI, hJ_pI, hT_pI, hS_pI, hK_pR, hL_pR, hI_pR, hR_pR, hJ_pR, hT_pR, hS_pR, hK_pJ, hL_pJ, hI_pJ, hR_pJ, hJ_pJ, hT_pJ, hS_pJ, hK_wI, hL_wI, hI_wI, hR_wI, hJ_wI, hT_wI, hS_wI, eq_self, and_true, true_and, and_false, false_and, or_true, true_or, or_false, false_or, if_true, if_false, not_true_eq_false, not_false_eq_true, forall_const, implies_true, false_implies, true_implies, Option.some.injEq, forall_eq', exists_eq_left', reduceCtorEq, Nat.reduceEqDiff, c1, T_X12_in, T_X12_ones, T_X11_within, T_X11_bit, T_X11_isIn, T_X11_oneIfIn, T_J6_bitCount_0f7a4, s4, cl_nI (show k < 2147483648 by omega), in_nI (show k < 10 by omega) (by decide), hoN k (by omega)]
    refine ⟨fun z => absurd z (nI_ge (by omega) (by omega)), fun _ => ⟨fun c => h72 _ ?_, fun c => h72 _ ?_⟩⟩
    · rw [if_pos c]; exact (s5 k (by omega)).1
    · rw [if_neg c]; rfl
set_option maxRecDepth 100000 in
set_option maxHeartbeats 400000 in
theorem cr_4 (Q : Option Value → Hp → Prop) (h : Hp) (hl : LayX h) (hst : hR h 33 0 = some 3) (R n : Nat) (sz cp : Nat → Nat) (wh : Nat → Option Nat) (hs : PS (hI h) R n sz cp) (hd : PD (hI h) R n sz cp wh) (hq1 : mnS (hI h) wh sz cp n R < unS wh sz n → Q (some (.int 1)) h) (hq0 : ¬ mnS (hI h) wh sz cp n R < unS wh sz n → Q (some (.int 0)) h) :
    ∀ (m r : Nat), m = R - r → r ≤ R → wp 2 MX4_isCrowded Q 4 [some (.ref 33), some (.int (nI (mnS (hI h) wh sz cp n r))), some (.int (nI r))] [] h := by
  have hs' := hs
  obtain ⟨s1, s2, s3, s4, s5, s6, s7, s8⟩ := hs'
  intro m
  induction m with
  | zero =>
    intro r hm hr
    have e : r = R := by omega
    subst e
    have hA : mnS (hI h) wh sz cp n r ≤ 100 := by
      have : mnS (hI h) wh sz cp n r ≤ r * 9 := fb_sm_bound (fun k hk => by
        have h1 := s8 k hk
        have h2 := Nat.min_le_left (cp k - usd wh sz n k) (wfS (hI h) wh sz k n)
        omega)
      omega
    have h43 := cr_43 Q h hl r n sz cp wh hs hd _ hA hq1 hq0 n 0 (by omega) (by omega)
    have e0 : nI (mnS (hI h) wh sz cp n r) - nI (unS wh sz 0) = nI (mnS (hI h) wh sz cp n r) := by
      show _ - (0 : Int32) = _
      exact Int32.sub_zero _
    rw [e0] at h43
    refine s_X4_isCrowded_4 Q _ _ _ ?_
    generalize nI (mnS (hI h) wh sz cp n r) = U at h43 ⊢
    simp only [b_X4_isCrowded_4, lx_pI, lx_wI, lx_t hl, lx_k hl, lx_r hl, lx_l hl, i_push, i_ild, i_ald, i_ist, i_ast, i_inc, i_bin, i_un, i_divs, i_i2l, i_lshl, i_lor, i_dup, i_dup2, i_pop, i_if, i_cmp, i_nul, i_vret, i_iret, i_zret, i_aret, i_keep, keep, lget, lset, ent, i_getI, i_getJ, i_getR, i_getN, i_putI, i_putZ, i_putJ, i_putR, i_iald, i_bald, i_alen, i_aald, i_iast, i_bast, i_aast, i_new, i_newa, i_anew, i_oini, i_callS, i_callV, i_callI, popn, sh4, i_sw, swP, i_copy, i_binS, List.map, Option.toList_none, Option.toList_some, List.append, List.nil_append, List.cons_append, List.length_cons, List.length_nil, List.replicate, Nat.sub_self, Nat.reduceSub, Nat.reduceAdd, hK_pI, hL_pI, hI_pI, hR_pI, hJ_pI, hT_pI, hS_pI, hK_pR, hL_pR, hI_pR, hR_pR, hJ_pR, hT_pR, hS_pR, hK_pJ, hL_pJ, hI_pJ, hR_pJ, hJ_pJ, hT_pJ, hS_pJ, hK_wI, hL_wI, hI_wI, hR_wI, hJ_wI, hT_wI, hS_wI, eq_self, and_true, true_and, and_false, false_and, or_true, true_or, or_false, false_or, if_true, if_false, not_true_eq_false, not_false_eq_true, forall_const, implies_true, false_implies, true_implies, Option.some.injEq, forall_eq', exists_eq_left', reduceCtorEq, Nat.reduceEqDiff, c1, T_X12_in, T_X12_ones, T_X11_within, T_X11_bit, T_X11_isIn, T_X11_oneIfIn, T_J6_bitCount_0f7a4, hst, s3]
    exact ⟨fun _ => h43, fun z => absurd (nI_le (Nat.le_refl _) (by omega)) z⟩
  | succ m ih =>
    intro r hm hr
    have hgo := ih (r + 1) (by omega) (by omega)
    have hW : wfS (hI h) wh sz r n ≤ 240 := by
      have : wfS (hI h) wh sz r n ≤ n * 24 := fb_sm_bound (fun i hi => by
        have h1 := (s5 i hi).2.1
        rcases Classical.em (wh i = none ∧ opS (hI h) i r) with c | c
        · rw [cif_t c]; omega
        · rw [cif_f c]; omega)
      omega
    have e42 := (hd.2.1 r (by omega)).2
    have hcp := s8 r (by omega)
    have e1 : nI (mnS (hI h) wh sz cp n (r + 1)) = nI (mnS (hI h) wh sz cp n r) + nI (min (cp r - usd wh sz n r) (wfS (hI h) wh sz r n)) := by
      rw [nI_add]; rfl
    have e2 : nI (min (cp r - usd wh sz n r) (wfS (hI h) wh sz r n)) = (if nI (wfS (hI h) wh sz r n) < hI h 43 r then nI (wfS (hI h) wh sz r n) else hI h 43 r) := by
      rw [e42]
      by_cases c : wfS (hI h) wh sz r n < cp r - usd wh sz n r
      · rw [if_pos (nI_lt c (by omega)), Nat.min_eq_right (Nat.le_of_lt c)]
      · rw [if_neg (nI_nlt (Nat.le_of_not_lt c) (by omega)), Nat.min_eq_left (Nat.le_of_not_lt c)]
    rw [e1, e2] at hgo
    generalize nI (mnS (hI h) wh sz cp n r) = U at hgo ⊢
    have hwt : T_X4_waitingFor [.ref 33, .int (nI r)] h (fun x h' => c_X4_isCrowded_30 Q [some (.ref 33), some (.int U), some (.int (nI r))] (x.toList ++ [.int (hI h 43 r), .int U]) h') := by
      refine ⟨rfl, hl, R, n, sz, cp, wh, r, hs, hd, rfl, by omega, ?_⟩
      show c_X4_isCrowded_30 Q _ [.int (nI (wfS (hI h) wh sz r n)), .int (hI h 43 r), .int U] h
      generalize nI (wfS (hI h) wh sz r n) = V at hgo ⊢
      simp only [c_X4_isCrowded_30, i_push, i_ild, i_ald, i_ist, i_ast, i_inc, i_bin, i_un, i_divs, i_i2l, i_lshl, i_lor, i_dup, i_dup2, i_pop, i_if, i_cmp, i_nul, i_vret, i_iret, i_zret, i_aret, i_keep, keep, lget, lset, ent, i_getI, i_getJ, i_getR, i_getN, i_putI, i_putZ, i_putJ, i_putR, i_iald, i_bald, i_alen, i_aald, i_iast, i_bast, i_aast, i_new, i_newa, i_anew, i_oini, i_callS, i_callV, i_callI, popn, sh4, i_sw, swP, i_copy, i_binS, List.map, Option.toList_none, Option.toList_some, List.append, List.nil_append, List.cons_append, List.length_cons, List.length_nil, List.replicate, Nat.sub_self, Nat.reduceSub, Nat.reduceAdd, hK_pI, hL_pI, hI_pI, hR_pI, hJ_pI, hT_pI, hS_pI, hK_pR, hL_pR, hI_pR, hR_pR, hJ_pR, hT_pR, hS_pR, hK_pJ, hL_pJ, hI_pJ, hR_pJ, hJ_pJ, hT_pJ, hS_pJ, hK_wI, hL_wI, hI_wI, hR_wI, hJ_wI, hT_wI, hS_wI, eq_self, and_true, true_and, and_false, false_and, or_true, true_or, or_false, false_or, if_true, if_false, not_true_eq_false, not_false_eq_true, forall_const, implies_true, false_implies, true_implies, Option.some.injEq, forall_eq', exists_eq_left', reduceCtorEq, Nat.reduceEqDiff, c1, T_X12_in, T_X12_ones, T_X11_within, T_X11_bit, T_X11_isIn, T_X11_oneIfIn, T_J6_bitCount_0f7a4, nI_1]
      exact hgo
    refine s_X4_isCrowded_4 Q _ _ _ ?_
    simp only [b_X4_isCrowded_4, lx_pI, lx_wI, lx_t hl, lx_k hl, lx_r hl, lx_l hl, i_push, i_ild, i_ald, i_ist, i_ast, i_inc, i_bin, i_un, i_divs, i_i2l, i_lshl, i_lor, i_dup, i_dup2, i_pop, i_if, i_cmp, i_nul, i_vret, i_iret, i_zret, i_aret, i_keep, keep, lget, lset, ent, i_getI, i_getJ, i_getR, i_getN, i_putI, i_putZ, i_putJ, i_putR, i_iald, i_bald, i_alen, i_aald, i_iast, i_bast, i_aast, i_new, i_newa, i_anew, i_oini, i_callS, i_callV, i_callI, popn, sh4, i_sw, swP, i_copy, i_binS, List.map, Option.toList_none, Option.toList_some, List.append, List.nil_append, List.cons_append, List.length_cons, List.length_nil, List.replicate, Nat.sub_self, Nat.reduceSub, Nat.reduceAdd, hK_pI, hL_pI, hI_pI, hR_pI, hJ_pI, hT_pI, hS_pI, hK_pR, hL_pR, hI_pR, hR_pR, hJ_pR, hT_pR, hS_pR, hK_pJ, hL_pJ, hI_pJ, hR_pJ, hJ_pJ, hT_pJ, hS_pJ, hK_wI, hL_wI, hI_wI, hR_wI, hJ_wI, hT_wI, hS_wI, eq_self, and_true, true_and, and_false, false_and, or_true, true_or, or_false, false_or, if_true, if_false, not_true_eq_false, not_false_eq_true, forall_const, implies_true, false_implies, true_implies, Option.some.injEq, forall_eq', exists_eq_left', reduceCtorEq, Nat.reduceEqDiff, c1, T_X12_in, T_X12_ones, T_X11_within, T_X11_bit, T_X11_isIn, T_X11_oneIfIn, T_J6_bitCount_0f7a4, hst, s3, cl_nI (show r < 2147483648 by omega), in_nI (show r < 4 by omega) (by decide)]
    exact ⟨fun z => absurd z (nI_ge (by omega) (by omega)), fun _ => hwt⟩
set_option maxRecDepth 100000 in
set_option maxHeartbeats 4000000 in
theorem ok_X4_isCrowded : ctr 2 MX4_isCrowded T_X4_isCrowded := by
  refine ctr_of pn_X4 wc_X4_isCrowded (fun av h Q hT => ?_)
  unfold T_X4_isCrowded at hT
  split at hT
  · rename_i o
    refine ⟨⟨by simp [Value.category], Nat.le_of_ble_eq_true rfl⟩, s_X4_isCrowded_0 Q _ _ _ ?_⟩
    obtain ⟨rfl, hl, hst, R, n, sz, cp, wh, hs, hd, hq1, hq0⟩ := hT
    have := cr_4 Q h hl hst R n sz cp wh hs hd hq1 hq0 R 0 (by omega) (by omega)
    simp only [MX4_isCrowded, b_X4_isCrowded_0, i_push, i_ild, i_ald, i_ist, i_ast, i_inc, i_bin, i_un, i_divs, i_i2l, i_lshl, i_lor, i_dup, i_dup2, i_pop, i_if, i_cmp, i_nul, i_vret, i_iret, i_zret, i_aret, i_keep, keep, lget, lset, ent, i_getI, i_getJ, i_getR, i_getN, i_putI, i_putZ, i_putJ, i_putR, i_iald, i_bald, i_alen, i_aald, i_iast, i_bast, i_aast, i_new, i_newa, i_anew, i_oini, i_callS, i_callV, i_callI, popn, sh4, i_sw, swP, i_copy, i_binS, List.map, Option.toList_none, Option.toList_some, List.append, List.nil_append, List.cons_append, List.length_cons, List.length_nil, List.replicate, Nat.sub_self, Nat.reduceSub, Nat.reduceAdd, hK_pI, hL_pI, hI_pI, hR_pI, hJ_pI, hT_pI, hS_pI, hK_pR, hL_pR, hI_pR, hR_pR, hJ_pR, hT_pR, hS_pR, hK_pJ, hL_pJ, hI_pJ, hR_pJ, hJ_pJ, hT_pJ, hS_pJ, hK_wI, hL_wI, hI_wI, hR_wI, hJ_wI, hT_wI, hS_wI, eq_self, and_true, true_and, and_false, false_and, or_true, true_or, or_false, false_or, if_true, if_false, not_true_eq_false, not_false_eq_true, forall_const, implies_true, false_implies, true_implies, Option.some.injEq, forall_eq', exists_eq_left', reduceCtorEq, Nat.reduceEqDiff, c1, T_X12_in, T_X12_ones, T_X11_within, T_X11_bit, T_X11_isIn, T_X11_oneIfIn, T_J6_bitCount_0f7a4]
    exact this
  · exact hT.elim
