/-! ===== the class: roomOf, placeOf, fill ===== -/
def T_X1_roomOf : Tr := fun av h Q => match av with
  | [.ref n, .int p] => ∃ R k, R ≤ 4 ∧ LayN h n R ∧ p = nI k ∧ k < 32 ∧ (∀ r, r < R → bt (hI h (n + 3) r) k = true → (∀ j, j < r → bt (hI h (n + 3) j) k = false) → Q (some (.int (nI r))) h) ∧ ((∀ r, r < R → bt (hI h (n + 3) r) k = false) → Q (some (.int (-1))) h)
  | _ => False
def L_X1_roomOf : List UInt8 := [3, 61, 28, 42, 180, 0, 51, 190, 162, 0, 24, 42, 180, 0, 51, 28, 46, 27, 184, 0, 60, 153, 0, 5, 28, 172, 132, 2, 1, 167, 255, 229, 2, 172]
theorem Lc_X1_roomOf : MX1_roomOf.2.1 = ⟨L_X1_roomOf.toArray⟩ := rfl
theorem D_X1_roomOf_0 : dseq MX1_roomOf.2.1 0 [(.iconst 0, 1), (.istore_n 2, 1)] := dq Lc_X1_roomOf 0 _ (by decide +kernel)
theorem D_X1_roomOf_2 : dseq MX1_roomOf.2.1 2 [(.iload_n 2, 1), (.aload_n 0, 1), (.getfield 51, 3), (.arraylength, 1), (.if_icmp .ge 24, 3), (.aload_n 0, 1), (.getfield 51, 3), (.iload_n 2, 1), (.iaload, 1), (.iload_n 1, 1), (.invokestatic 60, 3), (.ifCond .eq 5, 3), (.iload_n 2, 1), (.ireturn, 1)] := dq Lc_X1_roomOf 2 _ (by decide +kernel)
theorem D_X1_roomOf_32 : dseq MX1_roomOf.2.1 32 [(.iconst (-1), 1), (.ireturn, 1)] := dq Lc_X1_roomOf 32 _ (by decide +kernel)
theorem D_X1_roomOf_26 : dseq MX1_roomOf.2.1 26 [(.iinc 2 1, 3), (.goto (-27), 3)] := dq Lc_X1_roomOf 26 _ (by decide +kernel)
def b_X1_roomOf_0 (Q : Option Value → Hp → Prop) : Kt := i_push (.int 0) (i_ist 2 (i_keep [true, true, true] (wp 1 MX1_roomOf Q 2)))
set_option maxRecDepth 100000 in
theorem s_X1_roomOf_0 (Q : Option Value → Hp → Prop) : ∀ A st h, b_X1_roomOf_0 Q A st h → wp 1 MX1_roomOf Q 0 A st h := (q1 (s_iconst (n := 0) (v := 0) (by decide)) D_X1_roomOf_0 fun D => (qL (s_istn (n := 2) (i := 2) rfl) (by decide) D fun D => (s_keep [true, true, true] fun _ _ _ h => h)))
def b_X1_roomOf_2 (Q : Option Value → Hp → Prop) : Kt := i_ild 2 (i_ald 0 (i_getR 1 11 (i_alen (i_cmp (fun x y => y ≤ x) (i_push (.int (-1)) (i_iret Q)) (i_ald 0 (i_getR 1 11 (i_ild 2 (i_iald (i_ild 1 (i_callS 2 T_X11_isIn (i_if (fun x => x = 0) (i_inc 2 1 (i_keep [true, true, true] (wp 1 MX1_roomOf Q 2))) (i_ild 2 (i_iret Q)))))))))))))
set_option maxRecDepth 100000 in
theorem s_X1_roomOf_2 (Q : Option Value → Hp → Prop) : ∀ A st h, b_X1_roomOf_2 Q A st h → wp 1 MX1_roomOf Q 2 A st h := (q1 (s_ildn (n := 2) (i := 2) rfl) D_X1_roomOf_2 fun D => (q1 (s_aldn (n := 0) (i := 0) rfl) D fun D => (qC fl_X1_51 rfl D fun D => (q1 s_alen D fun D => (qB s_cmpge 32 (by decide) D (q1 (s_iconst (n := (-1)) (v := (-1)) (by decide)) D_X1_roomOf_32 fun D => (qI rfl D)) fun D => (q1 (s_aldn (n := 0) (i := 0) rfl) D fun D => (qC fl_X1_51 rfl D fun D => (q1 (s_ildn (n := 2) (i := 2) rfl) D fun D => (q1 s_iald D fun D => (q1 (s_ildn (n := 1) (i := 1) rfl) D fun D => (qX (s_callSN ok_X11_isIn mo_X11_isIn (ch_4_7_ok.2.2.2.2.2.2.2.2.2.2.2.2.1.2 rfl) (ch_3_7_ok.2.2.2.2.1.1 rfl)) rfl (by decide) D fun D => (qB s_ifeq 26 (by decide) D (qL (s_inc (i := 2) (n := 1) (v := 1) (by decide)) (by decide) D_X1_roomOf_26 fun D => (qG 2 (by decide) D (s_keep [true, true, true] fun _ _ _ h => h))) fun D => (q1 (s_ildn (n := 2) (i := 2) rfl) D fun D => (qI rfl D))))))))))))))

set_option maxRecDepth 100000 in
set_option maxHeartbeats 400000 in
theorem ro_2 (Q : Option Value → Hp → Prop) (h : Hp) (n R k : Nat) (hR4 : R ≤ 4) (hn : LayN h n R) (hk : k < 32) (hq1 : ∀ r, r < R → bt (hI h (n + 3) r) k = true → (∀ j, j < r → bt (hI h (n + 3) j) k = false) → Q (some (.int (nI r))) h) (hq0 : (∀ r, r < R → bt (hI h (n + 3) r) k = false) → Q (some (.int (-1))) h) :
    ∀ (m r : Nat), m = R - r → r ≤ R → (∀ j, j < r → bt (hI h (n + 3) j) k = false) → wp 1 MX1_roomOf Q 2 [some (.ref n), some (.int (nI k)), some (.int (nI r))] [] h := by
  have hf := hn.f
  intro m
  induction m with
  | zero =>
    intro r hm hr hb
    have e : r = R := by omega
    subst e
    refine s_X1_roomOf_2 Q _ _ _ ?_
    simp only [b_X1_roomOf_2, i_push, i_ild, i_ald, i_ist, i_ast, i_inc, i_bin, i_un, i_divs, i_i2l, i_lshl, i_lor, i_dup, i_dup2, i_pop, i_if, i_cmp, i_nul, i_vret, i_iret, i_zret, i_aret, i_keep, keep, lget, lset, ent, i_getI, i_getJ, i_getR, i_getN, i_putI, i_putZ, i_putJ, i_putR, i_iald, i_bald, i_alen, i_aald, i_iast, i_bast, i_aast, i_new, i_newa, i_anew, i_oini, i_callS, i_callV, i_callI, popn, sh4, i_sw, swP, i_copy, i_binS, List.map, Option.toList_none, Option.toList_some, List.append, List.nil_append, List.cons_append, List.length_cons, List.length_nil, List.replicate, Nat.sub_self, Nat.reduceSub, Nat.reduceAdd, hK_pI, hL_pI, hI_pI, hR_pI, hJ_pI, hT_pI, hS_pI, hK_pR, hL_pR, hI_pR, hR_pR, hJ_pR, hT_pR, hS_pR, hK_pJ, hL_pJ, hI_pJ, hR_pJ, hJ_pJ, hT_pJ, hS_pJ, hK_wI, hL_wI, hI_wI, hR_wI, hJ_wI, hT_wI, hS_wI, eq_self, and_true, true_and, and_false, false_and, or_true, true_or, or_false, false_or, if_true, if_false, not_true_eq_false, not_false_eq_true, forall_const, implies_true, false_implies, true_implies, Option.some.injEq, forall_eq', exists_eq_left', reduceCtorEq, Nat.reduceEqDiff, c1, T_X12_in, T_X12_ones, T_X11_within, T_X11_bit, T_X11_isIn, T_X11_oneIfIn, T_J6_bitCount_0f7a4, hf]
    exact ⟨by decide, by decide, fun _ => hq0 hb, fun z => absurd (nI_le (Nat.le_refl _) (by omega)) z⟩
  | succ m ih =>
    intro r hm hr hb
    refine s_X1_roomOf_2 Q _ _ _ ?_
    simp only [b_X1_roomOf_2, i_push, i_ild, i_ald, i_ist, i_ast, i_inc, i_bin, i_un, i_divs, i_i2l, i_lshl, i_lor, i_dup, i_dup2, i_pop, i_if, i_cmp, i_nul, i_vret, i_iret, i_zret, i_aret, i_keep, keep, lget, lset, ent, i_getI, i_getJ, i_getR, i_getN, i_putI, i_putZ, i_putJ, i_putR, i_iald, i_bald, i_alen, i_aald, i_iast, i_bast, i_aast, i_new, i_newa, i_anew, i_oini, i_callS, i_callV, i_callI, popn, sh4, i_sw, swP, i_copy, i_binS, List.map, Option.toList_none, Option.toList_some, List.append, List.nil_append, List.cons_append, List.length_cons, List.length_nil, List.replicate, Nat.sub_self, Nat.reduceSub, Nat.reduceAdd, hK_pI, hL_pI, hI_pI, hR_pI, hJ_pI, hT_pI, hS_pI, hK_pR, hL_pR, hI_pR, hR_pR, hJ_pR, hT_pR, hS_pR, hK_pJ, hL_pJ, hI_pJ, hR_pJ, hJ_pJ, hT_pJ, hS_pJ, hK_wI, hL_wI, hI_wI, hR_wI, hJ_wI, hT_wI, hS_wI, eq_self, and_true, true_and, and_false, false_and, or_true, true_or, or_false, false_or, if_true, if_false, not_true_eq_false, not_false_eq_true, forall_const, implies_true, false_implies, true_implies, Option.some.injEq, forall_eq', exists_eq_left', reduceCtorEq, Nat.reduceEqDiff, c1, T_X12_in, T_X12_ones, T_X11_within, T_X11_bit, T_X11_isIn, T_X11_oneIfIn, T_J6_bitCount_0f7a4, hf, cl_nI (show r < 2147483648 by omega), in_nI (show r < R by omega) (by omega), sh_bt (hI h (n + 3) r) hk, b2i_0, Classical.not_not, nI_1]
    refine ⟨by decide, by decide, fun z => absurd z (nI_ge (by omega) (by omega)), fun _ => ⟨fun c => ih (r + 1) (by omega) (by omega) (fun j hj => ?_), fun c => hq1 r (by omega) (by simpa using c) hb⟩⟩
    by_cases e : j = r
    · rw [e]; exact c
    · exact hb j (by omega)
set_option maxRecDepth 100000 in
set_option maxHeartbeats 4000000 in
theorem ok_X1_roomOf : ctr 1 MX1_roomOf T_X1_roomOf := by
  refine ctr_of pn_X1 wc_X1_roomOf (fun av h Q hT => ?_)
  unfold T_X1_roomOf at hT
  split at hT
  · rename_i n p
    refine ⟨⟨by simp [Value.category], Nat.le_of_ble_eq_true rfl⟩, s_X1_roomOf_0 Q _ _ _ ?_⟩
    obtain ⟨R, k, hR4, hn, rfl, hk, hq1, hq0⟩ := hT
    simp only [MX1_roomOf, b_X1_roomOf_0, i_push, i_ild, i_ald, i_ist, i_ast, i_inc, i_bin, i_un, i_divs, i_i2l, i_lshl, i_lor, i_dup, i_dup2, i_pop, i_if, i_cmp, i_nul, i_vret, i_iret, i_zret, i_aret, i_keep, keep, lget, lset, ent, i_getI, i_getJ, i_getR, i_getN, i_putI, i_putZ, i_putJ, i_putR, i_iald, i_bald, i_alen, i_aald, i_iast, i_bast, i_aast, i_new, i_newa, i_anew, i_oini, i_callS, i_callV, i_callI, popn, sh4, i_sw, swP, i_copy, i_binS, List.map, Option.toList_none, Option.toList_some, List.append, List.nil_append, List.cons_append, List.length_cons, List.length_nil, List.replicate, Nat.sub_self, Nat.reduceSub, Nat.reduceAdd, hK_pI, hL_pI, hI_pI, hR_pI, hJ_pI, hT_pI, hS_pI, hK_pR, hL_pR, hI_pR, hR_pR, hJ_pR, hT_pR, hS_pR, hK_pJ, hL_pJ, hI_pJ, hR_pJ, hJ_pJ, hT_pJ, hS_pJ, hK_wI, hL_wI, hI_wI, hR_wI, hJ_wI, hT_wI, hS_wI, eq_self, and_true, true_and, and_false, false_and, or_true, true_or, or_false, false_or, if_true, if_false, not_true_eq_false, not_false_eq_true, forall_const, implies_true, false_implies, true_implies, Option.some.injEq, forall_eq', exists_eq_left', reduceCtorEq, Nat.reduceEqDiff, c1, T_X12_in, T_X12_ones, T_X11_within, T_X11_bit, T_X11_isIn, T_X11_oneIfIn, T_J6_bitCount_0f7a4]
    exact ro_2 Q h n R k hR4 hn hk hq1 hq0 R 0 (by omega) (by omega) (fun j hj => absurd hj (Nat.not_lt_zero _))
  · exact hT.elim
def T_X1_placeOf : Tr := fun av h Q => match av with
  | [.ref n, .int p] => ∃ R N, LayN h n R ∧ N ≤ 10 ∧ hI h n 8 = nI N ∧ (∀ j, j < N → hI h (n + 1) j = p → (∀ i, i < j → ¬ hI h (n + 1) i = p) → Q (some (.int (nI j))) h) ∧ ((∀ j, j < N → ¬ hI h (n + 1) j = p) → Q (some (.int (-1))) h)
  | _ => False
def L_X1_placeOf : List UInt8 := [3, 61, 28, 42, 180, 0, 64, 162, 0, 21, 42, 180, 0, 9, 28, 46, 27, 160, 0, 5, 28, 172, 132, 2, 1, 167, 255, 233, 2, 172]
theorem Lc_X1_placeOf : MX1_placeOf.2.1 = ⟨L_X1_placeOf.toArray⟩ := rfl
theorem D_X1_placeOf_0 : dseq MX1_placeOf.2.1 0 [(.iconst 0, 1), (.istore_n 2, 1)] := dq Lc_X1_placeOf 0 _ (by decide +kernel)
theorem D_X1_placeOf_2 : dseq MX1_placeOf.2.1 2 [(.iload_n 2, 1), (.aload_n 0, 1), (.getfield 64, 3), (.if_icmp .ge 21, 3), (.aload_n 0, 1), (.getfield 9, 3), (.iload_n 2, 1), (.iaload, 1), (.iload_n 1, 1), (.if_icmp .ne 5, 3), (.iload_n 2, 1), (.ireturn, 1)] := dq Lc_X1_placeOf 2 _ (by decide +kernel)
theorem D_X1_placeOf_28 : dseq MX1_placeOf.2.1 28 [(.iconst (-1), 1), (.ireturn, 1)] := dq Lc_X1_placeOf 28 _ (by decide +kernel)
theorem D_X1_placeOf_22 : dseq MX1_placeOf.2.1 22 [(.iinc 2 1, 3), (.goto (-23), 3)] := dq Lc_X1_placeOf 22 _ (by decide +kernel)
def b_X1_placeOf_0 (Q : Option Value → Hp → Prop) : Kt := i_push (.int 0) (i_ist 2 (i_keep [true, true, true] (wp 0 MX1_placeOf Q 2)))
set_option maxRecDepth 100000 in
theorem s_X1_placeOf_0 (Q : Option Value → Hp → Prop) : ∀ A st h, b_X1_placeOf_0 Q A st h → wp 0 MX1_placeOf Q 0 A st h := (q1 (s_iconst (n := 0) (v := 0) (by decide)) D_X1_placeOf_0 fun D => (qL (s_istn (n := 2) (i := 2) rfl) (by decide) D fun D => (s_keep [true, true, true] fun _ _ _ h => h)))
def b_X1_placeOf_2 (Q : Option Value → Hp → Prop) : Kt := i_ild 2 (i_ald 0 (i_getI 1 8 (i_cmp (fun x y => y ≤ x) (i_push (.int (-1)) (i_iret Q)) (i_ald 0 (i_getR 1 9 (i_ild 2 (i_iald (i_ild 1 (i_cmp (fun x y => x = y) (i_ild 2 (i_iret Q)) (i_inc 2 1 (i_keep [true, true, true] (wp 0 MX1_placeOf Q 2))))))))))))
set_option maxRecDepth 100000 in
theorem s_X1_placeOf_2 (Q : Option Value → Hp → Prop) : ∀ A st h, b_X1_placeOf_2 Q A st h → wp 0 MX1_placeOf Q 2 A st h := (q1 (s_ildn (n := 2) (i := 2) rfl) D_X1_placeOf_2 fun D => (q1 (s_aldn (n := 0) (i := 0) rfl) D fun D => (qC fl_X1_64 rfl D fun D => (qB s_cmpge 28 (by decide) D (q1 (s_iconst (n := (-1)) (v := (-1)) (by decide)) D_X1_placeOf_28 fun D => (qI rfl D)) fun D => (q1 (s_aldn (n := 0) (i := 0) rfl) D fun D => (qC fl_X1_9 rfl D fun D => (q1 (s_ildn (n := 2) (i := 2) rfl) D fun D => (q1 s_iald D fun D => (q1 (s_ildn (n := 1) (i := 1) rfl) D fun D => (qBn s_cmpne2 22 (by decide) D (qL (s_inc (i := 2) (n := 1) (v := 1) (by decide)) (by decide) D_X1_placeOf_22 fun D => (qG 2 (by decide) D (s_keep [true, true, true] fun _ _ _ h => h))) fun D => (q1 (s_ildn (n := 2) (i := 2) rfl) D fun D => (qI rfl D))))))))))))

set_option maxRecDepth 100000 in
set_option maxHeartbeats 400000 in
theorem pl_2 (Q : Option Value → Hp → Prop) (h : Hp) (n R N : Nat) (p : Int32) (hn : LayN h n R) (hN : N ≤ 10) (h8 : hI h n 8 = nI N) (hq1 : ∀ j, j < N → hI h (n + 1) j = p → (∀ i, i < j → ¬ hI h (n + 1) i = p) → Q (some (.int (nI j))) h) (hq0 : (∀ j, j < N → ¬ hI h (n + 1) j = p) → Q (some (.int (-1))) h) :
    ∀ (m j : Nat), m = N - j → j ≤ N → (∀ i, i < j → ¬ hI h (n + 1) i = p) → wp 0 MX1_placeOf Q 2 [some (.ref n), some (.int p), some (.int (nI j))] [] h := by
  have hf := hn.f
  intro m
  induction m with
  | zero =>
    intro j hm hj hb
    have e : j = N := by omega
    subst e
    refine s_X1_placeOf_2 Q _ _ _ ?_
    simp only [b_X1_placeOf_2, i_push, i_ild, i_ald, i_ist, i_ast, i_inc, i_bin, i_un, i_divs, i_i2l, i_lshl, i_lor, i_dup, i_dup2, i_pop, i_if, i_cmp, i_nul, i_vret, i_iret, i_zret, i_aret, i_keep, keep, lget, lset, ent, i_getI, i_getJ, i_getR, i_getN, i_putI, i_putZ, i_putJ, i_putR, i_iald, i_bald, i_alen, i_aald, i_iast, i_bast, i_aast, i_new, i_newa, i_anew, i_oini, i_callS, i_callV, i_callI, popn, sh4, i_sw, swP, i_copy, i_binS, List.map, Option.toList_none, Option.toList_some, List.append, List.nil_append, List.cons_append, List.length_cons, List.length_nil, List.replicate, Nat.sub_self, Nat.reduceSub, Nat.reduceAdd, hK_pI, hL_pI, hI_pI, hR_pI, hJ_pI, hT_pI, hS_pI, hK_pR, hL_pR, hI_pR, hR_pR, hJ_pR, hT_pR, hS_pR, hK_pJ, hL_pJ, hI_pJ, hR_pJ, hJ_pJ, hT_pJ, hS_pJ, hK_wI, hL_wI, hI_wI, hR_wI, hJ_wI, hT_wI, hS_wI, eq_self, and_true, true_and, and_false, false_and, or_true, true_or, or_false, false_or, if_true, if_false, not_true_eq_false, not_false_eq_true, forall_const, implies_true, false_implies, true_implies, Option.some.injEq, forall_eq', exists_eq_left', reduceCtorEq, Nat.reduceEqDiff, c1, T_X12_in, T_X12_ones, T_X11_within, T_X11_bit, T_X11_isIn, T_X11_oneIfIn, T_J6_bitCount_0f7a4, hf, h8]
    exact ⟨fun _ => hq0 hb, fun z => absurd (nI_le (Nat.le_refl _) (by omega)) z⟩
  | succ m ih =>
    intro j hm hj hb
    refine s_X1_placeOf_2 Q _ _ _ ?_
    simp only [b_X1_placeOf_2, i_push, i_ild, i_ald, i_ist, i_ast, i_inc, i_bin, i_un, i_divs, i_i2l, i_lshl, i_lor, i_dup, i_dup2, i_pop, i_if, i_cmp, i_nul, i_vret, i_iret, i_zret, i_aret, i_keep, keep, lget, lset, ent, i_getI, i_getJ, i_getR, i_getN, i_putI, i_putZ, i_putJ, i_putR, i_iald, i_bald, i_alen, i_aald, i_iast, i_bast, i_aast, i_new, i_newa, i_anew, i_oini, i_callS, i_callV, i_callI, popn, sh4, i_sw, swP, i_copy, i_binS, List.map, Option.toList_none, Option.toList_some, List.append, List.nil_append, List.cons_append, List.length_cons, List.length_nil, List.replicate, Nat.sub_self, Nat.reduceSub, Nat.reduceAdd, hK_pI, hL_pI, hI_pI, hR_pI, hJ_pI, hT_pI, hS_pI, hK_pR, hL_pR, hI_pR, hR_pR, hJ_pR, hT_pR, hS_pR, hK_pJ, hL_pJ, hI_pJ, hR_pJ, hJ_pJ, hT_pJ, hS_pJ, hK_wI, hL_wI, hI_wI, hR_wI, hJ_wI, hT_wI, hS_wI, eq_self, and_true, true_and, and_false, false_and, or_true, true_or, or_false, false_or, if_true, if_false, not_true_eq_false, not_false_eq_true, forall_const, implies_true, false_implies, true_implies, Option.some.injEq, forall_eq', exists_eq_left', reduceCtorEq, Nat.reduceEqDiff, c1, T_X12_in, T_X12_ones, T_X11_within, T_X11_bit, T_X11_isIn, T_X11_oneIfIn, T_J6_bitCount_0f7a4, hf, h8, cl_nI (show j < 2147483648 by omega), in_nI (show j < 10 by omega) (by decide), nI_1]
    refine ⟨fun z => absurd z (nI_ge (by omega) (by omega)), fun _ => ⟨fun c => hq1 j (by omega) c hb, fun c => ih (j + 1) (by omega) (by omega) (fun i hi => ?_)⟩⟩
    by_cases e : i = j
    · rw [e]; exact c
    · exact hb i (by omega)
set_option maxRecDepth 100000 in
set_option maxHeartbeats 4000000 in
theorem ok_X1_placeOf : ctr 0 MX1_placeOf T_X1_placeOf := by
  refine ctr_of pn_X1 wc_X1_placeOf (fun av h Q hT => ?_)
  unfold T_X1_placeOf at hT
  split at hT
  · rename_i n p
    refine ⟨⟨by simp [Value.category], Nat.le_of_ble_eq_true rfl⟩, s_X1_placeOf_0 Q _ _ _ ?_⟩
    obtain ⟨R, N, hn, hN, h8, hq1, hq0⟩ := hT
    simp only [MX1_placeOf, b_X1_placeOf_0, i_push, i_ild, i_ald, i_ist, i_ast, i_inc, i_bin, i_un, i_divs, i_i2l, i_lshl, i_lor, i_dup, i_dup2, i_pop, i_if, i_cmp, i_nul, i_vret, i_iret, i_zret, i_aret, i_keep, keep, lget, lset, ent, i_getI, i_getJ, i_getR, i_getN, i_putI, i_putZ, i_putJ, i_putR, i_iald, i_bald, i_alen, i_aald, i_iast, i_bast, i_aast, i_new, i_newa, i_anew, i_oini, i_callS, i_callV, i_callI, popn, sh4, i_sw, swP, i_copy, i_binS, List.map, Option.toList_none, Option.toList_some, List.append, List.nil_append, List.cons_append, List.length_cons, List.length_nil, List.replicate, Nat.sub_self, Nat.reduceSub, Nat.reduceAdd, hK_pI, hL_pI, hI_pI, hR_pI, hJ_pI, hT_pI, hS_pI, hK_pR, hL_pR, hI_pR, hR_pR, hJ_pR, hT_pR, hS_pR, hK_pJ, hL_pJ, hI_pJ, hR_pJ, hJ_pJ, hT_pJ, hS_pJ, hK_wI, hL_wI, hI_wI, hR_wI, hJ_wI, hT_wI, hS_wI, eq_self, and_true, true_and, and_false, false_and, or_true, true_or, or_false, false_or, if_true, if_false, not_true_eq_false, not_false_eq_true, forall_const, implies_true, false_implies, true_implies, Option.some.injEq, forall_eq', exists_eq_left', reduceCtorEq, Nat.reduceEqDiff, c1, T_X12_in, T_X12_ones, T_X11_within, T_X11_bit, T_X11_isIn, T_X11_oneIfIn, T_J6_bitCount_0f7a4]
    exact pl_2 Q h n R N p hn hN h8 hq1 hq0 N 0 (by omega) (by omega) (fun j hj => absurd hj (Nat.not_lt_zero _))
  · exact hT.elim
def flM (f : Mem) (a : Nat) (v : Int32) (k : Nat) : Mem := fun x i => if x = a ∧ i < k then v else f x i
theorem flM_0 (f : Mem) (a : Nat) (v : Int32) : flM f a v 0 = f := by
  funext x i
  exact if_neg (fun z => by omega)
theorem flM_s (f : Mem) (a : Nat) (v : Int32) (k : Nat) : u2 (flM f a v k) a k v = flM f a v (k + 1) := by
  funext x i
  unfold u2 flM
  by_cases c : x = a ∧ i = k
  · rw [if_pos c, if_pos ⟨c.1, by omega⟩]
  · rw [if_neg c]
    by_cases c2 : x = a ∧ i < k
    · rw [if_pos c2, if_pos ⟨c2.1, by omega⟩]
    · rw [if_neg c2, if_neg (fun z => c2 ⟨z.1, by
        have : i ≠ k := fun y => c ⟨z.1, y⟩
        omega⟩)]
def T_J7_fill_53178 : Tr := fun av h Q => match av with
  | [.ref a, .int v] => a < hT h ∧ hK h a = 14 ∧ hL h a ≤ 1000000 ∧ Q none (wI h (flM (hI h) a v (hL h a)))
  | _ => False
def L_J7_fill_53178 : List UInt8 := [3, 61, 42, 190, 62, 28, 29, 162, 0, 13, 42, 28, 27, 79, 132, 2, 1, 167, 255, 244, 177]
theorem Lc_J7_fill_53178 : MJ7_fill_53178.2.1 = ⟨L_J7_fill_53178.toArray⟩ := rfl
theorem D_J7_fill_53178_0 : dseq MJ7_fill_53178.2.1 0 [(.iconst 0, 1), (.istore_n 2, 1), (.aload_n 0, 1), (.arraylength, 1), (.istore_n 3, 1)] := dq Lc_J7_fill_53178 0 _ (by decide +kernel)
theorem D_J7_fill_53178_5 : dseq MJ7_fill_53178.2.1 5 [(.iload_n 2, 1), (.iload_n 3, 1), (.if_icmp .ge 13, 3), (.aload_n 0, 1), (.iload_n 2, 1), (.iload_n 1, 1), (.iastore, 1), (.iinc 2 1, 3), (.goto (-12), 3)] := dq Lc_J7_fill_53178 5 _ (by decide +kernel)
theorem D_J7_fill_53178_20 : dseq MJ7_fill_53178.2.1 20 [(.return_, 1)] := dq Lc_J7_fill_53178 20 _ (by decide +kernel)
def b_J7_fill_53178_0 (Q : Option Value → Hp → Prop) : Kt := i_push (.int 0) (i_ist 2 (i_ald 0 (i_alen (i_ist 3 (i_keep [true, true, true, true] (wp 0 MJ7_fill_53178 Q 5))))))
set_option maxRecDepth 100000 in
theorem s_J7_fill_53178_0 (Q : Option Value → Hp → Prop) : ∀ A st h, b_J7_fill_53178_0 Q A st h → wp 0 MJ7_fill_53178 Q 0 A st h := (q1 (s_iconst (n := 0) (v := 0) (by decide)) D_J7_fill_53178_0 fun D => (qL (s_istn (n := 2) (i := 2) rfl) (by decide) D fun D => (q1 (s_aldn (n := 0) (i := 0) rfl) D fun D => (q1 s_alen D fun D => (qL (s_istn (n := 3) (i := 3) rfl) (by decide) D fun D => (s_keep [true, true, true, true] fun _ _ _ h => h))))))
def b_J7_fill_53178_5 (Q : Option Value → Hp → Prop) : Kt := i_ild 2 (i_ild 3 (i_cmp (fun x y => y ≤ x) (i_vret Q) (i_ald 0 (i_ild 2 (i_ild 1 (i_iast (i_inc 2 1 (i_keep [true, true, true, true] (wp 0 MJ7_fill_53178 Q 5)))))))))
set_option maxRecDepth 100000 in
theorem s_J7_fill_53178_5 (Q : Option Value → Hp → Prop) : ∀ A st h, b_J7_fill_53178_5 Q A st h → wp 0 MJ7_fill_53178 Q 5 A st h := (q1 (s_ildn (n := 2) (i := 2) rfl) D_J7_fill_53178_5 fun D => (q1 (s_ildn (n := 3) (i := 3) rfl) D fun D => (qB s_cmpge 20 (by decide) D (qV rfl D_J7_fill_53178_20) fun D => (q1 (s_aldn (n := 0) (i := 0) rfl) D fun D => (q1 (s_ildn (n := 2) (i := 2) rfl) D fun D => (q1 (s_ildn (n := 1) (i := 1) rfl) D fun D => (q1 s_iast D fun D => (qL (s_inc (i := 2) (n := 1) (v := 1) (by decide)) (by decide) D fun D => (qG 5 (by decide) D (s_keep [true, true, true, true] fun _ _ _ h => h))))))))))

set_option maxRecDepth 100000 in
set_option maxHeartbeats 400000 in
theorem fl_5 (Q : Option Value → Hp → Prop) (h : Hp) (a L : Nat) (v : Int32) (ht : a < hT h) (hk : hK h a = 14) (hL2 : hL h a = L) (hL1 : L ≤ 1000000) (hq : Q none (wI h (flM (hI h) a v L))) :
    ∀ (m k : Nat), m = L - k → k ≤ L → wp 0 MJ7_fill_53178 Q 5 [some (.ref a), some (.int v), some (.int (nI k)), some (.int (nI L))] [] (wI h (flM (hI h) a v k)) := by
  intro m
  induction m with
  | zero =>
    intro k hm hkL
    have e : k = L := by omega
    subst e
    refine s_J7_fill_53178_5 Q _ _ _ ?_
    generalize wI h (flM (hI h) a v k) = H at hq ⊢
    simp only [b_J7_fill_53178_5, i_push, i_ild, i_ald, i_ist, i_ast, i_inc, i_bin, i_un, i_divs, i_i2l, i_lshl, i_lor, i_dup, i_dup2, i_pop, i_if, i_cmp, i_nul, i_vret, i_iret, i_zret, i_aret, i_keep, keep, lget, lset, ent, i_getI, i_getJ, i_getR, i_getN, i_putI, i_putZ, i_putJ, i_putR, i_iald, i_bald, i_alen, i_aald, i_iast, i_bast, i_aast, i_new, i_newa, i_anew, i_oini, i_callS, i_callV, i_callI, popn, sh4, i_sw, swP, i_copy, i_binS, List.map, Option.toList_none, Option.toList_some, List.append, List.nil_append, List.cons_append, List.length_cons, List.length_nil, List.replicate, Nat.sub_self, Nat.reduceSub, Nat.reduceAdd, hK_pI, hL_pI, hI_pI, hR_pI, hJ_pI, hT_pI, hS_pI, hK_pR, hL_pR, hI_pR, hR_pR, hJ_pR, hT_pR, hS_pR, hK_pJ, hL_pJ, hI_pJ, hR_pJ, hJ_pJ, hT_pJ, hS_pJ, hK_wI, hL_wI, hI_wI, hR_wI, hJ_wI, hT_wI, hS_wI, eq_self, and_true, true_and, and_false, false_and, or_true, true_or, or_false, false_or, if_true, if_false, not_true_eq_false, not_false_eq_true, forall_const, implies_true, false_implies, true_implies, Option.some.injEq, forall_eq', exists_eq_left', reduceCtorEq, Nat.reduceEqDiff, c1, T_X12_in, T_X12_ones, T_X11_within, T_X11_bit, T_X11_isIn, T_X11_oneIfIn, T_J6_bitCount_0f7a4]
    exact ⟨fun _ => hq, fun z => absurd (nI_le (Nat.le_refl _) (by omega)) z⟩
  | succ m ih =>
    intro k hm hkL
    have hgo := ih (k + 1) (by omega) (by omega)
    rw [← flM_s] at hgo
    have hH : wI h (u2 (flM (hI h) a v k) a k v) = pI (wI h (flM (hI h) a v k)) a k v := rfl
    rw [hH] at hgo
    have t2 : a < hT (wI h (flM (hI h) a v k)) := ht
    have k2 : hK (wI h (flM (hI h) a v k)) a = 14 := hk
    have l2 : hL (wI h (flM (hI h) a v k)) a = L := hL2
    refine s_J7_fill_53178_5 Q _ _ _ ?_
    generalize wI h (flM (hI h) a v k) = H at hgo t2 k2 l2 ⊢
    simp only [b_J7_fill_53178_5, i_push, i_ild, i_ald, i_ist, i_ast, i_inc, i_bin, i_un, i_divs, i_i2l, i_lshl, i_lor, i_dup, i_dup2, i_pop, i_if, i_cmp, i_nul, i_vret, i_iret, i_zret, i_aret, i_keep, keep, lget, lset, ent, i_getI, i_getJ, i_getR, i_getN, i_putI, i_putZ, i_putJ, i_putR, i_iald, i_bald, i_alen, i_aald, i_iast, i_bast, i_aast, i_new, i_newa, i_anew, i_oini, i_callS, i_callV, i_callI, popn, sh4, i_sw, swP, i_copy, i_binS, List.map, Option.toList_none, Option.toList_some, List.append, List.nil_append, List.cons_append, List.length_cons, List.length_nil, List.replicate, Nat.sub_self, Nat.reduceSub, Nat.reduceAdd, hK_pI, hL_pI, hI_pI, hR_pI, hJ_pI, hT_pI, hS_pI, hK_pR, hL_pR, hI_pR, hR_pR, hJ_pR, hT_pR, hS_pR, hK_pJ, hL_pJ, hI_pJ, hR_pJ, hJ_pJ, hT_pJ, hS_pJ, hK_wI, hL_wI, hI_wI, hR_wI, hJ_wI, hT_wI, hS_wI, eq_self, and_true, true_and, and_false, false_and, or_true, true_or, or_false, false_or, if_true, if_false, not_true_eq_false, not_false_eq_true, forall_const, implies_true, false_implies, true_implies, Option.some.injEq, forall_eq', exists_eq_left', reduceCtorEq, Nat.reduceEqDiff, c1, T_X12_in, T_X12_ones, T_X11_within, T_X11_bit, T_X11_isIn, T_X11_oneIfIn, T_J6_bitCount_0f7a4, t2, k2, l2, cl_nI (show k < 2147483648 by omega), in_nI (show k < L by omega) (by omega), nI_1]
    exact ⟨fun z => absurd z (nI_ge (by omega) (by omega)), fun _ => hgo⟩
set_option maxRecDepth 100000 in
set_option maxHeartbeats 4000000 in
theorem ok_J7_fill_53178 : ctr 0 MJ7_fill_53178 T_J7_fill_53178 := by
  refine ctr_of pn_J7 wc_J7_fill_53178 (fun av h Q hT => ?_)
  unfold T_J7_fill_53178 at hT
  split at hT
  · rename_i a v
    refine ⟨⟨by simp [Value.category], Nat.le_of_ble_eq_true rfl⟩, s_J7_fill_53178_0 Q _ _ _ ?_⟩
    obtain ⟨ht, hk, hL1, hq⟩ := hT
    have := fl_5 Q h a (hL h a) v ht hk rfl hL1 hq (hL h a) 0 (by omega) (by omega)
    rw [flM_0] at this
    have e : wI h (hI h) = h := rfl
    rw [e] at this
    simp only [MJ7_fill_53178, b_J7_fill_53178_0, i_push, i_ild, i_ald, i_ist, i_ast, i_inc, i_bin, i_un, i_divs, i_i2l, i_lshl, i_lor, i_dup, i_dup2, i_pop, i_if, i_cmp, i_nul, i_vret, i_iret, i_zret, i_aret, i_keep, keep, lget, lset, ent, i_getI, i_getJ, i_getR, i_getN, i_putI, i_putZ, i_putJ, i_putR, i_iald, i_bald, i_alen, i_aald, i_iast, i_bast, i_aast, i_new, i_newa, i_anew, i_oini, i_callS, i_callV, i_callI, popn, sh4, i_sw, swP, i_copy, i_binS, List.map, Option.toList_none, Option.toList_some, List.append, List.nil_append, List.cons_append, List.length_cons, List.length_nil, List.replicate, Nat.sub_self, Nat.reduceSub, Nat.reduceAdd, hK_pI, hL_pI, hI_pI, hR_pI, hJ_pI, hT_pI, hS_pI, hK_pR, hL_pR, hI_pR, hR_pR, hJ_pR, hT_pR, hS_pR, hK_pJ, hL_pJ, hI_pJ, hR_pJ, hJ_pJ, hT_pJ, hS_pJ, hK_wI, hL_wI, hI_wI, hR_wI, hJ_wI, hT_wI, hS_wI, eq_self, and_true, true_and, and_false, false_and, or_true, true_or, or_false, false_or, if_true, if_false, not_true_eq_false, not_false_eq_true, forall_const, implies_true, false_implies, true_implies, Option.some.injEq, forall_eq', exists_eq_left', reduceCtorEq, Nat.reduceEqDiff, c1, T_X12_in, T_X12_ones, T_X11_within, T_X11_bit, T_X11_isIn, T_X11_oneIfIn, T_J6_bitCount_0f7a4, ht, hk]
    first
      | exact this
      | exact ⟨by decide, by decide, this⟩
  · exact hT.elim
def L_X0_beginWeek : List UInt8 := [42, 180, 0, 21, 3, 184, 0, 36, 177]
theorem Lc_X0_beginWeek : MX0_beginWeek.2.1 = ⟨L_X0_beginWeek.toArray⟩ := rfl
theorem D_X0_beginWeek_0 : dseq MX0_beginWeek.2.1 0 [(.aload_n 0, 1), (.getfield 21, 3), (.iconst 0, 1), (.invokestatic 36, 3), (.return_, 1)] := dq Lc_X0_beginWeek 0 _ (by decide +kernel)
def b_X0_beginWeek_0 (Q : Option Value → Hp → Prop) : Kt := i_ald 0 (i_getR 0 4 (i_push (.int 0) (i_callS 2 T_J7_fill_53178 (i_vret Q))))
set_option maxRecDepth 100000 in
theorem s_X0_beginWeek_0 (Q : Option Value → Hp → Prop) : ∀ A st h, b_X0_beginWeek_0 Q A st h → wp 1 MX0_beginWeek Q 0 A st h := (q1 (s_aldn (n := 0) (i := 0) rfl) D_X0_beginWeek_0 fun D => (qC fl_X0_21 rfl D fun D => (q1 (s_iconst (n := 0) (v := 0) (by decide)) D fun D => (qX (s_callS ok_J7_fill_53178 mo_J7_fill_53178 (ch_4_11_ok.1.1 rfl) (ch_3_10_ok.2.2.2.2.2.1.1 rfl)) rfl (by decide) D fun D => (qV rfl D)))))
def T_X0_beginWeek : Tr := fun av h Q => c1 1 av ∧ b_X0_beginWeek_0 Q (ent 1 av) [] h
theorem ok_X0_beginWeek : ctr 1 MX0_beginWeek T_X0_beginWeek := ctr_of pn_X0 wc_X0_beginWeek (fun av h Q hT => ⟨c1_ok hT.1, s_X0_beginWeek_0 Q _ _ _ hT.2⟩)

