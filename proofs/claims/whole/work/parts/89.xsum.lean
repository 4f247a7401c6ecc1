/-! ===== the class: placesInAll ===== -/
def piF (f : Mem) (cold : Int32) : Nat → Int32
  | 0 => 0
  | r + 1 => piF f cold r + (if cold = 0 then f 13 r else f 13 r + f 14 r)
def T_X6_placesInAll : Tr := fun av h Q => match av with
  | [.ref o, .int cold] => o = 12 ∧ LayX h ∧ ∃ R, R ≤ 4 ∧ hI h 12 0 = nI R ∧ Q (some (.int (piF (hI h) cold R))) h
  | _ => False
def L_X6_placesInAll : List UInt8 := [3, 61, 3, 62, 29, 42, 180, 0, 21, 162, 0, 18, 28, 42, 29, 27, 182, 0, 35, 96, 61, 132, 3, 1, 167, 255, 236, 28, 172]
theorem Lc_X6_placesInAll : MX6_placesInAll.2.1 = ⟨L_X6_placesInAll.toArray⟩ := rfl
theorem D_X6_placesInAll_0 : dseq MX6_placesInAll.2.1 0 [(.iconst 0, 1), (.istore_n 2, 1), (.iconst 0, 1), (.istore_n 3, 1)] := dq Lc_X6_placesInAll 0 _ (by decide +kernel)
theorem D_X6_placesInAll_4 : dseq MX6_placesInAll.2.1 4 [(.iload_n 3, 1), (.aload_n 0, 1), (.getfield 21, 3), (.if_icmp .ge 18, 3), (.iload_n 2, 1), (.aload_n 0, 1), (.iload_n 3, 1), (.iload_n 1, 1), (.invokevirtual 35, 3), (.iadd, 1), (.istore_n 2, 1), (.iinc 3 1, 3), (.goto (-20), 3)] := dq Lc_X6_placesInAll 4 _ (by decide +kernel)
theorem D_X6_placesInAll_27 : dseq MX6_placesInAll.2.1 27 [(.iload_n 2, 1), (.ireturn, 1)] := dq Lc_X6_placesInAll 27 _ (by decide +kernel)
def c_X6_placesInAll_19 (Q : Option Value → Hp → Prop) : Kt := i_bin (fun x y => x + y) (i_ist 2 (i_inc 3 1 (i_keep [true, true, true, true] (wp 1 MX6_placesInAll Q 4))))
def b_X6_placesInAll_0 (Q : Option Value → Hp → Prop) : Kt := i_push (.int 0) (i_ist 2 (i_push (.int 0) (i_ist 3 (i_keep [true, true, true, true] (wp 1 MX6_placesInAll Q 4)))))
set_option maxRecDepth 100000 in
theorem s_X6_placesInAll_0 (Q : Option Value → Hp → Prop) : ∀ A st h, b_X6_placesInAll_0 Q A st h → wp 1 MX6_placesInAll Q 0 A st h := (q1 (s_iconst (n := 0) (v := 0) (by decide)) D_X6_placesInAll_0 fun D => (qL (s_istn (n := 2) (i := 2) rfl) (by decide) D fun D => (q1 (s_iconst (n := 0) (v := 0) (by decide)) D fun D => (qL (s_istn (n := 3) (i := 3) rfl) (by decide) D fun D => (s_keep [true, true, true, true] fun _ _ _ h => h)))))
def b_X6_placesInAll_4 (Q : Option Value → Hp → Prop) : Kt := i_ild 3 (i_ald 0 (i_getI 6 0 (i_cmp (fun x y => y ≤ x) (i_ild 2 (i_iret Q)) (i_ild 2 (i_ald 0 (i_ild 3 (i_ild 1 (i_callV 6 2 T_X6_places (c_X6_placesInAll_19 Q)))))))))
set_option maxRecDepth 100000 in
theorem s_X6_placesInAll_4 (Q : Option Value → Hp → Prop) : ∀ A st h, b_X6_placesInAll_4 Q A st h → wp 1 MX6_placesInAll Q 4 A st h := (q1 (s_ildn (n := 3) (i := 3) rfl) D_X6_placesInAll_4 fun D => (q1 (s_aldn (n := 0) (i := 0) rfl) D fun D => (qC fl_X6_21 rfl D fun D => (qB s_cmpge 27 (by decide) D (q1 (s_ildn (n := 2) (i := 2) rfl) D_X6_placesInAll_27 fun D => (qI rfl D)) fun D => (q1 (s_ildn (n := 2) (i := 2) rfl) D fun D => (q1 (s_aldn (n := 0) (i := 0) rfl) D fun D => (q1 (s_ildn (n := 3) (i := 3) rfl) D fun D => (q1 (s_ildn (n := 1) (i := 1) rfl) D fun D => (qX (s_callV kX6 rfl ok_X6_places mo_X6_places (ch_4_14_ok.2.2.1.1 rfl) (ch_4_1_ok.2.2.2.2.2.2.2.2.2.2.2.2.2.2.2.1.1 rfl) (ch_4_2_ok.1.1 rfl)) rfl (by decide) D fun D => (q1 s_add D fun D => (qL (s_istn (n := 2) (i := 2) rfl) (by decide) D fun D => (qL (s_inc (i := 3) (n := 1) (v := 1) (by decide)) (by decide) D fun D => (qG 4 (by decide) D (s_keep [true, true, true, true] fun _ _ _ h => h))))))))))))))

set_option maxRecDepth 100000 in
set_option maxHeartbeats 400000 in
theorem pi_4 (Q : Option Value → Hp → Prop) (h : Hp) (hl : LayX h) (R : Nat) (cold : Int32) (hR : R ≤ 4) (h12 : hI h 12 0 = nI R) (hq : Q (some (.int (piF (hI h) cold R))) h) :
    ∀ (m r : Nat), m = R - r → r ≤ R → wp 1 MX6_placesInAll Q 4 [some (.ref 12), some (.int cold), some (.int (piF (hI h) cold r)), some (.int (nI r))] [] h := by
  intro m
  induction m with
  | zero =>
    intro r hm hr
    have e : r = R := by omega
    subst e
    refine s_X6_placesInAll_4 Q _ _ _ ?_
    generalize piF (hI h) cold r = X at hq ⊢
    simp only [b_X6_placesInAll_4, lx_pI, lx_wI, lx_t hl, lx_k hl, lx_r hl, lx_l hl, i_push, i_ild, i_ald, i_ist, i_ast, i_inc, i_bin, i_un, i_divs, i_i2l, i_lshl, i_lor, i_dup, i_dup2, i_pop, i_if, i_cmp, i_nul, i_vret, i_iret, i_zret, i_aret, i_keep, keep, lget, lset, ent, i_getI, i_getJ, i_getR, i_getN, i_putI, i_putZ, i_putJ, i_putR, i_iald, i_bald, i_alen, i_aald, i_iast, i_bast, i_aast, i_new, i_newa, i_anew, i_oini, i_callS, i_callV, i_callI, popn, sh4, i_sw, swP, i_copy, i_binS, List.map, Option.toList_none, Option.toList_some, List.append, List.nil_append, List.cons_append, List.length_cons, List.length_nil, List.replicate, Nat.sub_self, Nat.reduceSub, Nat.reduceAdd, hK_pI, hL_pI, hI_pI, hR_pI, hJ_pI, hT_pI, hS_pI, hK_pR, hL_pR, hI_pR, hR_pR, hJ_pR, hT_pR, hS_pR, hK_pJ, hL_pJ, hI_pJ, hR_pJ, hJ_pJ, hT_pJ, hS_pJ, hK_wI, hL_wI, hI_wI, hR_wI, hJ_wI, hT_wI, hS_wI, eq_self, and_true, true_and, and_false, false_and, or_true, true_or, or_false, false_or, if_true, if_false, not_true_eq_false, not_false_eq_true, forall_const, implies_true, false_implies, true_implies, Option.some.injEq, forall_eq', exists_eq_left', reduceCtorEq, Nat.reduceEqDiff, c1, T_X12_in, T_X12_ones, T_X11_within, T_X11_bit, T_X11_isIn, T_X11_oneIfIn, T_J6_bitCount_0f7a4, h12]
    exact ⟨fun _ => hq, fun z => absurd (nI_le (Nat.le_refl _) (by omega)) z⟩
  | succ m ih =>
    intro r hm hr
    have hgo := ih (r + 1) (by omega) (by omega)
    rw [piF] at hgo
    refine s_X6_placesInAll_4 Q _ _ _ ?_
    generalize piF (hI h) cold r = X at hgo ⊢
    simp only [b_X6_placesInAll_4, T_X6_places, b_X6_places_0, lx_pI, lx_wI, lx_t hl, lx_k hl, lx_r hl, lx_l hl, i_push, i_ild, i_ald, i_ist, i_ast, i_inc, i_bin, i_un, i_divs, i_i2l, i_lshl, i_lor, i_dup, i_dup2, i_pop, i_if, i_cmp, i_nul, i_vret, i_iret, i_zret, i_aret, i_keep, keep, lget, lset, ent, i_getI, i_getJ, i_getR, i_getN, i_putI, i_putZ, i_putJ, i_putR, i_iald, i_bald, i_alen, i_aald, i_iast, i_bast, i_aast, i_new, i_newa, i_anew, i_oini, i_callS, i_callV, i_callI, popn, sh4, i_sw, swP, i_copy, i_binS, List.map, Option.toList_none, Option.toList_some, List.append, List.nil_append, List.cons_append, List.length_cons, List.length_nil, List.replicate, Nat.sub_self, Nat.reduceSub, Nat.reduceAdd, hK_pI, hL_pI, hI_pI, hR_pI, hJ_pI, hT_pI, hS_pI, hK_pR, hL_pR, hI_pR, hR_pR, hJ_pR, hT_pR, hS_pR, hK_pJ, hL_pJ, hI_pJ, hR_pJ, hJ_pJ, hT_pJ, hS_pJ, hK_wI, hL_wI, hI_wI, hR_wI, hJ_wI, hT_wI, hS_wI, eq_self, and_true, true_and, and_false, false_and, or_true, true_or, or_false, false_or, if_true, if_false, not_true_eq_false, not_false_eq_true, forall_const, implies_true, false_implies, true_implies, Option.some.injEq, forall_eq', exists_eq_left', reduceCtorEq, Nat.reduceEqDiff, c1, T_X12_in, T_X12_ones, T_X11_within, T_X11_bit, T_X11_isIn, T_X11_oneIfIn, T_J6_bitCount_0f7a4, h12, cl_nI (show r < 2147483648 by omega), in_nI (show r < 4 by omega) (by decide), nI_1]
    refine ⟨fun z => absurd z (nI_ge (by omega) (by omega)), fun _ => ⟨fun z => ?_, fun z => ?_⟩⟩
    · rw [if_pos z] at hgo
      simp only [c_X6_placesInAll_19, i_push, i_ild, i_ald, i_ist, i_ast, i_inc, i_bin, i_un, i_divs, i_i2l, i_lshl, i_lor, i_dup, i_dup2, i_pop, i_if, i_cmp, i_nul, i_vret, i_iret, i_zret, i_aret, i_keep, keep, lget, lset, ent, i_getI, i_getJ, i_getR, i_getN, i_putI, i_putZ, i_putJ, i_putR, i_iald, i_bald, i_alen, i_aald, i_iast, i_bast, i_aast, i_new, i_newa, i_anew, i_oini, i_callS, i_callV, i_callI, popn, sh4, i_sw, swP, i_copy, i_binS, List.map, Option.toList_none, Option.toList_some, List.append, List.nil_append, List.cons_append, List.length_cons, List.length_nil, List.replicate, Nat.sub_self, Nat.reduceSub, Nat.reduceAdd, hK_pI, hL_pI, hI_pI, hR_pI, hJ_pI, hT_pI, hS_pI, hK_pR, hL_pR, hI_pR, hR_pR, hJ_pR, hT_pR, hS_pR, hK_pJ, hL_pJ, hI_pJ, hR_pJ, hJ_pJ, hT_pJ, hS_pJ, hK_wI, hL_wI, hI_wI, hR_wI, hJ_wI, hT_wI, hS_wI, eq_self, and_true, true_and, and_false, false_and, or_true, true_or, or_false, false_or, if_true, if_false, not_true_eq_false, not_false_eq_true, forall_const, implies_true, false_implies, true_implies, Option.some.injEq, forall_eq', exists_eq_left', reduceCtorEq, Nat.reduceEqDiff, c1, T_X12_in, T_X12_ones, T_X11_within, T_X11_bit, T_X11_isIn, T_X11_oneIfIn, T_J6_bitCount_0f7a4, nI_1]
      exact hgo
    · rw [if_neg z] at hgo
      simp only [c_X6_placesInAll_19, i_push, i_ild, i_ald, i_ist, i_ast, i_inc, i_bin, i_un, i_divs, i_i2l, i_lshl, i_lor, i_dup, i_dup2, i_pop, i_if, i_cmp, i_nul, i_vret, i_iret, i_zret, i_aret, i_keep, keep, lget, lset, ent, i_getI, i_getJ, i_getR, i_getN, i_putI, i_putZ, i_putJ, i_putR, i_iald, i_bald, i_alen, i_aald, i_iast, i_bast, i_aast, i_new, i_newa, i_anew, i_oini, i_callS, i_callV, i_callI, popn, sh4, i_sw, swP, i_copy, i_binS, List.map, Option.toList_none, Option.toList_some, List.append, List.nil_append, List.cons_append, List.length_cons, List.length_nil, List.replicate, Nat.sub_self, Nat.reduceSub, Nat.reduceAdd, hK_pI, hL_pI, hI_pI, hR_pI, hJ_pI, hT_pI, hS_pI, hK_pR, hL_pR, hI_pR, hR_pR, hJ_pR, hT_pR, hS_pR, hK_pJ, hL_pJ, hI_pJ, hR_pJ, hJ_pJ, hT_pJ, hS_pJ, hK_wI, hL_wI, hI_wI, hR_wI, hJ_wI, hT_wI, hS_wI, eq_self, and_true, true_and, and_false, false_and, or_true, true_or, or_false, false_or, if_true, if_false, not_true_eq_false, not_false_eq_true, forall_const, implies_true, false_implies, true_implies, Option.some.injEq, forall_eq', exists_eq_left', reduceCtorEq, Nat.reduceEqDiff, c1, T_X12_in, T_X12_ones, T_X11_within, T_X11_bit, T_X11_isIn, T_X11_oneIfIn, T_J6_bitCount_0f7a4, nI_1]
      exact hgo
set_option maxRecDepth 100000 in
set_option maxHeartbeats 4000000 in
theorem ok_X6_placesInAll : ctr 1 MX6_placesInAll T_X6_placesInAll := by
  refine ctr_of pn_X6 wc_X6_placesInAll (fun av h Q hT => ?_)
  unfold T_X6_placesInAll at hT
  split at hT
  · rename_i o cold
    refine ⟨⟨by simp [Value.category], Nat.le_of_ble_eq_true rfl⟩, s_X6_placesInAll_0 Q _ _ _ ?_⟩
    obtain ⟨rfl, hl, R, hR, h12, hq⟩ := hT
    have := pi_4 Q h hl R cold hR h12 hq R 0 (by omega) (by omega)
    simp only [MX6_placesInAll, b_X6_placesInAll_0, i_push, i_ild, i_ald, i_ist, i_ast, i_inc, i_bin, i_un, i_divs, i_i2l, i_lshl, i_lor, i_dup, i_dup2, i_pop, i_if, i_cmp, i_nul, i_vret, i_iret, i_zret, i_aret, i_keep, keep, lget, lset, ent, i_getI, i_getJ, i_getR, i_getN, i_putI, i_putZ, i_putJ, i_putR, i_iald, i_bald, i_alen, i_aald, i_iast, i_bast, i_aast, i_new, i_newa, i_anew, i_oini, i_callS, i_callV, i_callI, popn, sh4, i_sw, swP, i_copy, i_binS, List.map, Option.toList_none, Option.toList_some, List.append, List.nil_append, List.cons_append, List.length_cons, List.length_nil, List.replicate, Nat.sub_self, Nat.reduceSub, Nat.reduceAdd, hK_pI, hL_pI, hI_pI, hR_pI, hJ_pI, hT_pI, hS_pI, hK_pR, hL_pR, hI_pR, hR_pR, hJ_pR, hT_pR, hS_pR, hK_pJ, hL_pJ, hI_pJ, hR_pJ, hJ_pJ, hT_pJ, hS_pJ, hK_wI, hL_wI, hI_wI, hR_wI, hJ_wI, hT_wI, hS_wI, eq_self, and_true, true_and, and_false, false_and, or_true, true_or, or_false, false_or, if_true, if_false, not_true_eq_false, not_false_eq_true, forall_const, implies_true, false_implies, true_implies, Option.some.injEq, forall_eq', exists_eq_left', reduceCtorEq, Nat.reduceEqDiff, c1, T_X12_in, T_X12_ones, T_X11_within, T_X11_bit, T_X11_isIn, T_X11_oneIfIn, T_J6_bitCount_0f7a4]
    exact this
  · exact hT.elim
