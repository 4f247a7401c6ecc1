/-! ===== the class: Porter.<init>, NightShelter.<init> ===== -/
def x5Y (h : Hp) (o s : Nat) : Hp := pR (pR (nC h 14 10) o 2 (some (hT h))) o 0 (some s)
def x5H (h : Hp) (o s : Nat) : Hp := pR (pR (mkA (nC (x5Y h o s) 4 (fN 4)) (hT h + 1) li_X4) (hT h + 1) 0 (some s)) o 1 (some (hT h + 1))
def T_X5_init : Tr := fun av h Q => match av with
  | [.ref o, .ref s] => o < hT h ∧ hK h o = 5 ∧ Q none (x5H h o s)
  | _ => False
def L_X5_init : List UInt8 := [42, 183, 0, 3, 42, 16, 10, 188, 10, 181, 0, 9, 42, 43, 181, 0, 15, 42, 187, 0, 19, 89, 43, 183, 0, 21, 181, 0, 24, 177]
theorem Lc_X5_init : MX5_init.2.1 = ⟨L_X5_init.toArray⟩ := rfl
theorem D_X5_init_0 : dseq MX5_init.2.1 0 [(.aload_n 0, 1), (.invokespecial 3, 3), (.aload_n 0, 1), (.bipush 10, 2), (.newarray .int, 2), (.putfield 9, 3), (.aload_n 0, 1), (.aload_n 1, 1), (.putfield 15, 3), (.aload_n 0, 1), (.new 19, 3), (.dup, 1), (.aload_n 1, 1), (.invokespecial 21, 3), (.putfield 24, 3), (.return_, 1)] := dq Lc_X5_init 0 _ (by decide +kernel)
def c_X5_init_26 (Q : Option Value → Hp → Prop) : Kt := i_putR 5 1 (i_vret Q)
def b_X5_init_0 (Q : Option Value → Hp → Prop) : Kt := i_ald 0 (i_oini (i_ald 0 (i_push (.int 10) (i_newa 14 (i_putR 5 2 (i_ald 0 (i_ald 1 (i_putR 5 0 (i_ald 0 (i_new 4 (i_dup (i_ald 1 (i_callI 1 T_X4_init (c_X5_init_26 Q))))))))))))))
set_option maxRecDepth 100000 in
theorem s_X5_init_0 (Q : Option Value → Hp → Prop) : ∀ A st h, b_X5_init_0 Q A st h → wp 2 MX5_init Q 0 A st h := (q1 (s_aldn (n := 0) (i := 0) rfl) D_X5_init_0 fun D => (qO (s_oini (ch_2_1_ok.1.1 rfl) w_oi2 w_oi3) rfl (by decide) D fun D => (q1 (s_aldn (n := 0) (i := 0) rfl) D fun D => (q1 (s_bipush (n := 10) (v := 10) (by decide)) D fun D => (q1 na_int D fun D => (qP pl_X5_9 rfl (Or.inr rfl) D fun D => (q1 (s_aldn (n := 0) (i := 0) rfl) D fun D => (q1 (s_aldn (n := 1) (i := 1) rfl) D fun D => (qP pl_X5_15 rfl (Or.inr rfl) D fun D => (q1 (s_aldn (n := 0) (i := 0) rfl) D fun D => (qC (s_new kX4 ot_X4 (ch_2_1_ok.2.1.1 rfl) (ch_2_1_ok.2.2.1.1 rfl) (ch_1_0_ok.2.2.2.2.2.2.2.2.2.1.1 rfl)) rfl D fun D => (q1 s_dup D fun D => (q1 (s_aldn (n := 1) (i := 1) rfl) D fun D => (qX (s_callI ok_X4_init mo_X4_init rfl rfl (ch_2_1_ok.2.2.2.1.1 rfl) (ch_2_1_ok.2.2.2.2.1.1 rfl)) rfl (by decide) D fun D => (qP pl_X5_24 rfl (Or.inr rfl) D fun D => (qV rfl D))))))))))))))))

theorem x5_go {X : Hp} {o k t K : Nat} (l : List (Nat × Nat × Nat)) (ht : t = hT X) (w1 : o < hT X) (w2 : hK X o = K) : o < hT (mkA (nC X k (fN k)) t l) ∧ hK (mkA (nC X k (fN k)) t l) o = K := by
  subst ht
  obtain ⟨h1, _⟩ := mkA_old l (nC X k (fN k)) (hT X) o (by rw [hT_nC]; omega)
  refine ⟨by rw [mkA_T, hT_nC]; omega, ?_⟩
  rw [h1, hK_nC, if_neg (by omega)]; exact w2
theorem x5_26 (Q : Option Value → Hp → Prop) (X : Hp) (o r s : Nat) (g1 : o < hT X) (g2 : hK X o = 5) (hq : Q none (pR X o 1 (some r))) : c_X5_init_26 Q [some (.ref o), some (.ref s)] [.ref r, .ref o] X := by
  simp only [c_X5_init_26, i_push, i_ild, i_ald, i_ist, i_ast, i_inc, i_bin, i_un, i_divs, i_i2l, i_lshl, i_lor, i_dup, i_dup2, i_pop, i_if, i_cmp, i_nul, i_vret, i_iret, i_zret, i_aret, i_keep, keep, lget, lset, ent, i_getI, i_getJ, i_getR, i_getN, i_putI, i_putZ, i_putJ, i_putR, i_iald, i_bald, i_alen, i_aald, i_iast, i_bast, i_aast, i_new, i_newa, i_anew, i_oini, i_callS, i_callV, i_callI, popn, sh4, i_sw, swP, i_copy, i_binS, List.map, Option.toList_none, Option.toList_some, List.append, List.nil_append, List.cons_append, List.length_cons, List.length_nil, List.replicate, Nat.sub_self, Nat.reduceSub, Nat.reduceAdd, hK_pX, hL_pX, hI_pX, hR_pX, hJ_pX, hT_pX, hS_pX, hK_pR, hL_pR, hI_pR, hR_pR, hJ_pR, hT_pR, hS_pR, hK_pJ, hL_pJ, hI_pJ, hR_pJ, hJ_pJ, hT_pJ, hS_pJ, hK_wI, hL_wI, hI_wI, hR_wI, hJ_wI, hT_wI, hS_wI, eq_self, and_true, true_and, and_false, false_and, or_true, true_or, or_false, false_or, if_true, if_false, not_true_eq_false, not_false_eq_true, forall_const, implies_true, false_implies, true_implies, Option.some.injEq, forall_eq', exists_eq_left', reduceCtorEq, Nat.reduceEqDiff, c1, T_X12_in, T_X12_ones, T_X11_within, T_X11_bit, T_X11_isIn, T_X11_oneIfIn, T_J6_bitCount_0f7a4, g1, g2]
  exact hq
theorem x5_n4 (Q : Option Value → Hp → Prop) (Y : Hp) (o s t : Nat) (ht : t = hT Y) (g1 : o < hT Y) (g2 : hK Y o = 5) (hq : Q none (pR (pR (mkA (nC Y 4 (fN 4)) t li_X4) t 0 (some s)) o 1 (some t))) : T_X4_init [.ref t, .ref s] (nC Y 4 (fN 4)) (fun r' h' => c_X5_init_26 Q [some (.ref o), some (.ref s)] (r'.toList ++ [.ref t, .ref o]) h') := by
  obtain ⟨y1, y2⟩ := x5_go (k := 4) li_X4 ht g1 g2
  exact ⟨by rw [hT_nC, ht]; exact Nat.lt_succ_self _, by rw [hK_nC, if_pos ht], x5_26 Q _ o t s (by rw [hT_pR]; exact y1) (by rw [hK_pR]; exact y2) hq⟩
theorem xin_X5 (Q : Option Value → Hp → Prop) (h : Hp) (o s : Nat) (ho : o < hT h) (hk : hK h o = 5) (hq : Q none (x5H h o s)) : b_X5_init_0 Q [some (.ref o), some (.ref s)] [] h := by
  have p : o < hT h + 1 := by omega
  have ne : ¬ o = hT h := by omega
  have n := x5_n4 Q (x5Y h o s) o s (hT h + 1) rfl p (by unfold x5Y; rw [hK_pR, hK_pR, hK_nC, if_neg ne]; exact hk) hq
  clear hq
  unfold x5Y at n
  rw [show fN 4 = 13 from rfl] at n
  generalize hW : T_X4_init = W at n
  simp only [b_X5_init_0, i_push, i_ild, i_ald, i_ist, i_ast, i_inc, i_bin, i_un, i_divs, i_i2l, i_lshl, i_lor, i_dup, i_dup2, i_pop, i_if, i_cmp, i_nul, i_vret, i_iret, i_zret, i_aret, i_keep, keep, lget, lset, ent, i_getI, i_getJ, i_getR, i_getN, i_putI, i_putZ, i_putJ, i_putR, i_iald, i_bald, i_alen, i_aald, i_iast, i_bast, i_aast, i_new, i_newa, i_anew, i_oini, i_callS, i_callV, i_callI, popn, sh4, i_sw, swP, i_copy, i_binS, List.map, Option.toList_none, Option.toList_some, List.append, List.nil_append, List.cons_append, List.length_cons, List.length_nil, List.replicate, Nat.sub_self, Nat.reduceSub, Nat.reduceAdd, hK_pX, hL_pX, hI_pX, hR_pX, hJ_pX, hT_pX, hS_pX, hK_pR, hL_pR, hI_pR, hR_pR, hJ_pR, hT_pR, hS_pR, hK_pJ, hL_pJ, hI_pJ, hR_pJ, hJ_pJ, hT_pJ, hS_pJ, hK_wI, hL_wI, hI_wI, hR_wI, hJ_wI, hT_wI, hS_wI, eq_self, and_true, true_and, and_false, false_and, or_true, true_or, or_false, false_or, if_true, if_false, not_true_eq_false, not_false_eq_true, forall_const, implies_true, false_implies, true_implies, Option.some.injEq, forall_eq', exists_eq_left', reduceCtorEq, Nat.reduceEqDiff, c1, T_X12_in, T_X12_ones, T_X11_within, T_X11_bit, T_X11_isIn, T_X11_oneIfIn, T_J6_bitCount_0f7a4, hT_nC, hK_nC, ho, hk, p, ne, show fN 4 = 13 from rfl, hW, show (10 : Int32).toNatClampNeg = 10 by decide, show ¬ (10 : Int32) < 0 by decide, show (10 : Nat) ≤ 100000 by decide]
  first | exact n | exact ⟨by decide, n⟩
set_option maxRecDepth 100000 in
set_option maxHeartbeats 4000000 in
theorem ok_X5_init : ctr 2 MX5_init T_X5_init := by
  refine ctr_of pn_X5 wc_X5_init (fun av h Q hT => ?_)
  unfold T_X5_init at hT
  split at hT
  · rename_i o s
    refine ⟨⟨by simp [Value.category], Nat.le_of_ble_eq_true rfl⟩, s_X5_init_0 Q _ _ _ ?_⟩
    exact xin_X5 Q h o s hT.1 hT.2.1 hT.2.2
  · exact hT.elim
def x11A (h : Hp) : Hp := mkO h 0 0 9 li_X9
def x11B (X : Hp) : Hp := pR (pR (s8C (mkA (nC (nC X 8 (fN 8)) 7 (fN 7)) (hT X + 1) li_X7) (hT X)) (hT X) 3 (some (hT X + 1))) 0 1 (some (hT X))
def x11C (Y : Hp) : Hp := pR (nC Y 16 3) 0 2 (some (hT Y))
def x11D (Z : Hp) (s : Nat) : Hp := pR (x5H (nC Z 5 (fN 5)) (hT Z) s) 0 3 (some (hT Z))
def x11E (V : Hp) : Hp := pI (pI V 0 4 0) 0 5 (-1)
def T_X11_init : Tr := fun av h Q => match av with
  | [.ref o] => o = 0 ∧ 0 < hT h ∧ hK h 0 = 11 ∧ Q none (x11E (x11D (x11C (x11B (x11A h))) (hT (x11A h))))
  | _ => False
def L_X11_init : List UInt8 := [42, 183, 0, 1, 42, 187, 0, 7, 89, 183, 0, 9, 181, 0, 10, 42, 187, 0, 16, 89, 187, 0, 18, 89, 183, 0, 20, 183, 0, 21, 181, 0, 24, 42, 6, 189, 0, 16, 181, 0, 28, 42, 187, 0, 32, 89, 42, 180, 0, 24, 183, 0, 34, 181, 0, 37, 42, 3, 181, 0, 41, 42, 2, 181, 0, 45, 177]
theorem Lc_X11_init : MX11_init.2.1 = ⟨L_X11_init.toArray⟩ := rfl
theorem D_X11_init_0 : dseq MX11_init.2.1 0 [(.aload_n 0, 1), (.invokespecial 1, 3), (.aload_n 0, 1), (.new 7, 3), (.dup, 1), (.invokespecial 9, 3), (.putfield 10, 3), (.aload_n 0, 1), (.new 16, 3), (.dup, 1), (.new 18, 3), (.dup, 1), (.invokespecial 20, 3), (.invokespecial 21, 3), (.putfield 24, 3), (.aload_n 0, 1), (.iconst 3, 1), (.anewarray 16, 3), (.putfield 28, 3), (.aload_n 0, 1), (.new 32, 3), (.dup, 1), (.aload_n 0, 1), (.getfield 24, 3), (.invokespecial 34, 3), (.putfield 37, 3), (.aload_n 0, 1), (.iconst 0, 1), (.putfield 41, 3), (.aload_n 0, 1), (.iconst (-1), 1), (.putfield 45, 3), (.return_, 1)] := dq Lc_X11_init 0 _ (by decide +kernel)
def c_X11_init_53 (Q : Option Value → Hp → Prop) : Kt := i_putR 11 3 (i_ald 0 (i_push (.int 0) (i_putI 11 4 (i_ald 0 (i_push (.int (-1)) (i_putI 11 5 (i_vret Q)))))))
def c_X11_init_30 (Q : Option Value → Hp → Prop) : Kt := i_putR 11 1 (i_ald 0 (i_push (.int 3) (i_anew (i_putR 11 2 (i_ald 0 (i_new 5 (i_dup (i_ald 0 (i_getR 11 1 (i_callI 1 T_X5_init (c_X11_init_53 Q)))))))))))
def c_X11_init_27 (Q : Option Value → Hp → Prop) : Kt := i_callI 1 T_X8_init (c_X11_init_30 Q)
def c_X11_init_12 (Q : Option Value → Hp → Prop) : Kt := i_putR 11 0 (i_ald 0 (i_new 8 (i_dup (i_new 7 (i_dup (i_callI 0 T_X7_init (c_X11_init_27 Q)))))))
def b_X11_init_0 (Q : Option Value → Hp → Prop) : Kt := i_ald 0 (i_oini (i_ald 0 (i_new 9 (i_dup (i_callI 0 T_X9_init (c_X11_init_12 Q))))))
set_option maxRecDepth 100000 in
theorem s_X11_init_0 (Q : Option Value → Hp → Prop) : ∀ A st h, b_X11_init_0 Q A st h → wp 3 MX11_init Q 0 A st h := (q1 (s_aldn (n := 0) (i := 0) rfl) D_X11_init_0 fun D => (qO (s_oini (ch_1_1_ok.2.2.2.2.2.2.2.2.2.2.2.1.1 rfl) w_oi2 w_oi3) rfl (by decide) D fun D => (q1 (s_aldn (n := 0) (i := 0) rfl) D fun D => (qC (s_new kX9 ot_X9 (ch_1_1_ok.2.2.2.2.2.2.2.2.2.2.2.2.2.2.1.1 rfl) (ch_1_1_ok.2.2.2.2.2.2.2.2.2.2.2.2.2.2.2.1.1 rfl) (ch_1_0_ok.2.2.1.1 rfl)) rfl D fun D => (q1 s_dup D fun D => (qX (s_callIN ok_X9_init mo_X9_init rfl rfl (ch_1_2_ok.1.2 rfl) (ch_1_2_ok.2.1.1 rfl)) rfl (by decide) D fun D => (qP pl_X11_10 rfl (Or.inr rfl) D fun D => (q1 (s_aldn (n := 0) (i := 0) rfl) D fun D => (qC (s_new kX8 ot_X8 (ch_1_2_ok.2.2.2.2.2.2.2.2.2.2.2.2.2.2.2.1.1 rfl) (ch_1_3_ok.1.1 rfl) (ch_1_0_ok.2.2.2.1.1 rfl)) rfl D fun D => (q1 s_dup D fun D => (qC (s_new kX7 ot_X7 (ch_1_3_ok.2.1.1 rfl) (ch_1_3_ok.2.2.1.1 rfl) (ch_1_0_ok.2.2.2.2.1.1 rfl)) rfl D fun D => (q1 s_dup D fun D => (qX (s_callIN ok_X7_init mo_X7_init rfl rfl (ch_1_3_ok.2.2.2.1.2 rfl) (ch_1_3_ok.2.2.2.2.1.1 rfl)) rfl (by decide) D fun D => (qX (s_callI ok_X8_init mo_X8_init rfl rfl (ch_1_5_ok.2.2.2.2.2.2.1.1 rfl) (ch_1_5_ok.2.2.2.2.2.2.2.1.1 rfl)) rfl (by decide) D fun D => (qP pl_X11_24 rfl (Or.inr rfl) D fun D => (q1 (s_aldn (n := 0) (i := 0) rfl) D fun D => (q1 (s_iconst (n := 3) (v := 3) (by decide)) D fun D => (qC (s_anew (ch_1_2_ok.2.2.2.2.2.2.2.2.2.2.2.2.2.2.2.1.1 rfl)) rfl D fun D => (qP pl_X11_28 rfl (Or.inr rfl) D fun D => (q1 (s_aldn (n := 0) (i := 0) rfl) D fun D => (qC (s_new kX5 ot_X5 (ch_2_0_ok.2.2.2.2.2.2.2.2.2.2.2.1.1 rfl) (ch_2_0_ok.2.2.2.2.2.2.2.2.2.2.2.2.1.1 rfl) (ch_1_0_ok.2.2.2.2.2.2.2.2.1.1 rfl)) rfl D fun D => (q1 s_dup D fun D => (q1 (s_aldn (n := 0) (i := 0) rfl) D fun D => (qC fl_X11_24 rfl D fun D => (qX (s_callI ok_X5_init mo_X5_init rfl rfl (ch_2_0_ok.2.2.2.2.2.2.2.2.2.2.2.2.2.1.1 rfl) (ch_2_0_ok.2.2.2.2.2.2.2.2.2.2.2.2.2.2.1.1 rfl)) rfl (by decide) D fun D => (qP pl_X11_37 rfl (Or.inr rfl) D fun D => (q1 (s_aldn (n := 0) (i := 0) rfl) D fun D => (q1 (s_iconst (n := 0) (v := 0) (by decide)) D fun D => (qP pl_X11_41 rfl (Or.inl rfl) D fun D => (q1 (s_aldn (n := 0) (i := 0) rfl) D fun D => (q1 (s_iconst (n := (-1)) (v := (-1)) (by decide)) D fun D => (qP pl_X11_45 rfl (Or.inl rfl) D fun D => (qV rfl D)))))))))))))))))))))))))))))))))

theorem mkO_go {X : Hp} {o j k K a : Nat} (l : List (Nat × Nat × Nat)) (w1 : a < hT X) (w2 : hK X a = K) : a < hT (mkO X o j k l) ∧ hK (mkO X o j k l) a = K := ⟨by rw [mkO_T]; omega, by rw [(mkO_old X o j k l w1).1]; exact w2⟩
theorem x5H_go {X : Hp} {o s K a : Nat} (w1 : a < hT X) (w2 : hK X a = K) : a < hT (x5H X o s) ∧ hK (x5H X o s) a = K := by
  obtain ⟨g1, g2⟩ := x5_go (X := x5Y X o s) (o := a) (k := 4) (t := hT X + 1) (K := K) li_X4 rfl (show a < hT X + 1 by omega) (by unfold x5Y; rw [hK_pR, hK_pR, hK_nC, if_neg (by omega)]; exact w2)
  unfold x5H
  exact ⟨by rw [hT_pR, hT_pR]; exact g1, by rw [hK_pR, hK_pR]; exact g2⟩
theorem xi_53 (Q : Option Value → Hp → Prop) (V : Hp) (r : Nat) (g1 : 0 < hT V) (g2 : hK V 0 = 11) (hq : Q none (x11E (pR V 0 3 (some r)))) : c_X11_init_53 Q [some (.ref 0)] [.ref r, .ref 0] V := by
  unfold x11E at hq
  simp only [c_X11_init_53, i_push, i_ild, i_ald, i_ist, i_ast, i_inc, i_bin, i_un, i_divs, i_i2l, i_lshl, i_lor, i_dup, i_dup2, i_pop, i_if, i_cmp, i_nul, i_vret, i_iret, i_zret, i_aret, i_keep, keep, lget, lset, ent, i_getI, i_getJ, i_getR, i_getN, i_putI, i_putZ, i_putJ, i_putR, i_iald, i_bald, i_alen, i_aald, i_iast, i_bast, i_aast, i_new, i_newa, i_anew, i_oini, i_callS, i_callV, i_callI, popn, sh4, i_sw, swP, i_copy, i_binS, List.map, Option.toList_none, Option.toList_some, List.append, List.nil_append, List.cons_append, List.length_cons, List.length_nil, List.replicate, Nat.sub_self, Nat.reduceSub, Nat.reduceAdd, hK_pX, hL_pX, hI_pX, hR_pX, hJ_pX, hT_pX, hS_pX, hK_pR, hL_pR, hI_pR, hR_pR, hJ_pR, hT_pR, hS_pR, hK_pJ, hL_pJ, hI_pJ, hR_pJ, hJ_pJ, hT_pJ, hS_pJ, hK_wI, hL_wI, hI_wI, hR_wI, hJ_wI, hT_wI, hS_wI, eq_self, and_true, true_and, and_false, false_and, or_true, true_or, or_false, false_or, if_true, if_false, not_true_eq_false, not_false_eq_true, forall_const, implies_true, false_implies, true_implies, Option.some.injEq, forall_eq', exists_eq_left', reduceCtorEq, Nat.reduceEqDiff, c1, T_X12_in, T_X12_ones, T_X11_within, T_X11_bit, T_X11_isIn, T_X11_oneIfIn, T_J6_bitCount_0f7a4, g1, g2]
  exact hq
theorem xi_n5 (Q : Option Value → Hp → Prop) (Z : Hp) (s t : Nat) (ht : t = hT Z) (g1 : 0 < hT Z) (g2 : hK Z 0 = 11) (hq : Q none (x11E (x11D Z s))) : T_X5_init [.ref t, .ref s] (nC Z 5 (fN 5)) (fun r' h' => c_X11_init_53 Q [some (.ref 0)] (r'.toList ++ [.ref t, .ref 0]) h') := by
  have w1 : 0 < hT (nC Z 5 (fN 5)) := by rw [hT_nC]; omega
  have w2 : hK (nC Z 5 (fN 5)) 0 = 11 := by rw [hK_nC, if_neg (by omega)]; exact g2
  obtain ⟨y1, y2⟩ := x5H_go (o := t) (s := s) w1 w2
  unfold x11D at hq
  rw [← ht] at hq
  exact ⟨by rw [hT_nC, ht]; exact Nat.lt_succ_self _, by rw [hK_nC, if_pos ht], xi_53 Q _ t y1 y2 hq⟩
theorem xi_30 (Q : Option Value → Hp → Prop) (Y : Hp) (r : Nat) (g1 : 0 < hT Y) (g2 : hK Y 0 = 11) (hq : Q none (x11E (x11D (x11C (pR Y 0 1 (some r))) r))) : c_X11_init_30 Q [some (.ref 0)] [.ref r, .ref 0] Y := by
  have p : 0 < hT Y + 1 := by omega
  have p2 : 0 < hT Y + 1 + 1 := by omega
  have ne : ¬ 0 = hT Y := by omega
  have ne2 : ¬ 0 = hT Y + 1 := by omega
  have n := xi_n5 Q (x11C (pR Y 0 1 (some r))) r (hT Y + 1) rfl p (by unfold x11C; rw [hK_pR, hK_nC, hT_pR, if_neg ne, hK_pR]; exact g2) hq
  clear hq
  unfold x11C at n
  rw [show fN 5 = 3 from rfl] at n
  generalize hW : T_X5_init = W at n
  simp only [c_X11_init_30, i_push, i_ild, i_ald, i_ist, i_ast, i_inc, i_bin, i_un, i_divs, i_i2l, i_lshl, i_lor, i_dup, i_dup2, i_pop, i_if, i_cmp, i_nul, i_vret, i_iret, i_zret, i_aret, i_keep, keep, lget, lset, ent, i_getI, i_getJ, i_getR, i_getN, i_putI, i_putZ, i_putJ, i_putR, i_iald, i_bald, i_alen, i_aald, i_iast, i_bast, i_aast, i_new, i_newa, i_anew, i_oini, i_callS, i_callV, i_callI, popn, sh4, i_sw, swP, i_copy, i_binS, List.map, Option.toList_none, Option.toList_some, List.append, List.nil_append, List.cons_append, List.length_cons, List.length_nil, List.replicate, Nat.sub_self, Nat.reduceSub, Nat.reduceAdd, hK_pX, hL_pX, hI_pX, hR_pX, hJ_pX, hT_pX, hS_pX, hK_pR, hL_pR, hI_pR, hR_pR, hJ_pR, hT_pR, hS_pR, hK_pJ, hL_pJ, hI_pJ, hR_pJ, hJ_pJ, hT_pJ, hS_pJ, hK_wI, hL_wI, hI_wI, hR_wI, hJ_wI, hT_wI, hS_wI, eq_self, and_true, true_and, and_false, false_and, or_true, true_or, or_false, false_or, if_true, if_false, not_true_eq_false, not_false_eq_true, forall_const, implies_true, false_implies, true_implies, Option.some.injEq, forall_eq', exists_eq_left', reduceCtorEq, Nat.reduceEqDiff, c1, T_X12_in, T_X12_ones, T_X11_within, T_X11_bit, T_X11_isIn, T_X11_oneIfIn, T_J6_bitCount_0f7a4, g1, g2, hT_nC, hK_nC, hR_nC, p, p2, ne, ne2, show fN 5 = 3 from rfl, hW, show (3 : Int32).toNatClampNeg = 3 by decide, show ¬ (3 : Int32) < 0 by decide, show (3 : Nat) ≤ 100000 by decide]
  first | exact n | exact ⟨by decide, n⟩
theorem s8C_go {X : Hp} {o K a : Nat} (w1 : a < hT X) (w2 : hK X a = K) : a < hT (s8C X o) ∧ hK (s8C X o) a = K := by
  unfold s8C s8B s8A
  obtain ⟨a1, a2⟩ := mkO_go (o := o) (j := 0) (k := 6) li_X6 w1 w2
  obtain ⟨b1, b2⟩ := mkO_go (o := o) (j := 1) (k := 3) li_X3 a1 a2
  exact mkO_go (o := o) (j := 2) (k := 0) li_X0 b1 b2
theorem xi_27 (Q : Option Value → Hp → Prop) (Y : Hp) (t q : Nat) (h0 : t < hT Y) (h1 : hK Y t = 8) (g1 : 0 < hT Y) (g2 : hK Y 0 = 11) (hq : Q none (x11E (x11D (x11C (pR (pR (s8C Y t) t 3 (some q)) 0 1 (some t))) t))) : c_X11_init_27 Q [some (.ref 0)] [.ref q, .ref t, .ref t, .ref 0] Y := by
  have n : T_X8_init [.ref t, .ref q] Y (fun r' h' => c_X11_init_30 Q [some (.ref 0)] (r'.toList ++ [.ref t, .ref 0]) h') := by
    obtain ⟨y1, y2⟩ := s8C_go (o := t) g1 g2
    exact ⟨h0, h1, xi_30 Q _ t (by rw [hT_pR]; exact y1) (by rw [hK_pR]; exact y2) hq⟩
  generalize hW : T_X8_init = W at n
  simp only [c_X11_init_27, i_push, i_ild, i_ald, i_ist, i_ast, i_inc, i_bin, i_un, i_divs, i_i2l, i_lshl, i_lor, i_dup, i_dup2, i_pop, i_if, i_cmp, i_nul, i_vret, i_iret, i_zret, i_aret, i_keep, keep, lget, lset, ent, i_getI, i_getJ, i_getR, i_getN, i_putI, i_putZ, i_putJ, i_putR, i_iald, i_bald, i_alen, i_aald, i_iast, i_bast, i_aast, i_new, i_newa, i_anew, i_oini, i_callS, i_callV, i_callI, popn, sh4, i_sw, swP, i_copy, i_binS, List.map, Option.toList_none, Option.toList_some, List.append, List.nil_append, List.cons_append, List.length_cons, List.length_nil, List.replicate, Nat.sub_self, Nat.reduceSub, Nat.reduceAdd, hK_pX, hL_pX, hI_pX, hR_pX, hJ_pX, hT_pX, hS_pX, hK_pR, hL_pR, hI_pR, hR_pR, hJ_pR, hT_pR, hS_pR, hK_pJ, hL_pJ, hI_pJ, hR_pJ, hJ_pJ, hT_pJ, hS_pJ, hK_wI, hL_wI, hI_wI, hR_wI, hJ_wI, hT_wI, hS_wI, eq_self, and_true, true_and, and_false, false_and, or_true, true_or, or_false, false_or, if_true, if_false, not_true_eq_false, not_false_eq_true, forall_const, implies_true, false_implies, true_implies, Option.some.injEq, forall_eq', exists_eq_left', reduceCtorEq, Nat.reduceEqDiff, c1, T_X12_in, T_X12_ones, T_X11_within, T_X11_bit, T_X11_isIn, T_X11_oneIfIn, T_J6_bitCount_0f7a4, hW]
  exact n
theorem xi_n7 (Q : Option Value → Hp → Prop) (X : Hp) (t : Nat) (ht : t = hT X) (g1 : 0 < hT X) (g2 : hK X 0 = 11) (hq : Q none (x11E (x11D (x11C (x11B X)) (hT X)))) : T_X7_init [.ref (t + 1)] (nC (nC X 8 (fN 8)) 7 (fN 7)) (fun r' h' => c_X11_init_27 Q [some (.ref 0)] (r'.toList ++ [.ref (t + 1), .ref t, .ref t, .ref 0]) h') := by
  have u1' : 0 < hT (nC X 8 (fN 8)) := by rw [hT_nC]; omega
  have u2' : hK (nC X 8 (fN 8)) 0 = 11 := by rw [hK_nC, if_neg (by omega)]; exact g2
  have v1 : t < hT (nC X 8 (fN 8)) := by rw [hT_nC]; omega
  have v2 : hK (nC X 8 (fN 8)) t = 8 := by rw [hK_nC, if_pos ht]
  obtain ⟨y1, y2⟩ := x5_go (k := 7) (t := t + 1) li_X7 (by rw [hT_nC, ht]) u1' u2'
  obtain ⟨z1, z2⟩ := x5_go (k := 7) (t := t + 1) li_X7 (by rw [hT_nC, ht]) v1 v2
  unfold x11B at hq
  rw [← ht] at hq
  exact ⟨by rw [hT_nC, hT_nC, ht]; exact Nat.lt_succ_self _, by rw [hK_nC, hT_nC, if_pos (by rw [ht])], xi_27 Q _ t (t + 1) z1 z2 y1 y2 hq⟩
theorem xi_12 (Q : Option Value → Hp → Prop) (X : Hp) (r : Nat) (g1 : 0 < hT X) (g2 : hK X 0 = 11) (hq : Q none (x11E (x11D (x11C (x11B (pR X 0 0 (some r)))) (hT (pR X 0 0 (some r)))))) : c_X11_init_12 Q [some (.ref 0)] [.ref r, .ref 0] X := by
  have n := xi_n7 Q (pR X 0 0 (some r)) (hT X) (by rw [hT_pR]) (by rw [hT_pR]; exact g1) (by rw [hK_pR]; exact g2) hq
  clear hq
  rw [show fN 8 = 5 from rfl, show fN 7 = 8 from rfl] at n
  generalize hW : T_X7_init = W at n
  simp only [c_X11_init_12, i_push, i_ild, i_ald, i_ist, i_ast, i_inc, i_bin, i_un, i_divs, i_i2l, i_lshl, i_lor, i_dup, i_dup2, i_pop, i_if, i_cmp, i_nul, i_vret, i_iret, i_zret, i_aret, i_keep, keep, lget, lset, ent, i_getI, i_getJ, i_getR, i_getN, i_putI, i_putZ, i_putJ, i_putR, i_iald, i_bald, i_alen, i_aald, i_iast, i_bast, i_aast, i_new, i_newa, i_anew, i_oini, i_callS, i_callV, i_callI, popn, sh4, i_sw, swP, i_copy, i_binS, List.map, Option.toList_none, Option.toList_some, List.append, List.nil_append, List.cons_append, List.length_cons, List.length_nil, List.replicate, Nat.sub_self, Nat.reduceSub, Nat.reduceAdd, hK_pX, hL_pX, hI_pX, hR_pX, hJ_pX, hT_pX, hS_pX, hK_pR, hL_pR, hI_pR, hR_pR, hJ_pR, hT_pR, hS_pR, hK_pJ, hL_pJ, hI_pJ, hR_pJ, hJ_pJ, hT_pJ, hS_pJ, hK_wI, hL_wI, hI_wI, hR_wI, hJ_wI, hT_wI, hS_wI, eq_self, and_true, true_and, and_false, false_and, or_true, true_or, or_false, false_or, if_true, if_false, not_true_eq_false, not_false_eq_true, forall_const, implies_true, false_implies, true_implies, Option.some.injEq, forall_eq', exists_eq_left', reduceCtorEq, Nat.reduceEqDiff, c1, T_X12_in, T_X12_ones, T_X11_within, T_X11_bit, T_X11_isIn, T_X11_oneIfIn, T_J6_bitCount_0f7a4, g1, g2, hT_nC, show fN 8 = 5 from rfl, show fN 7 = 8 from rfl, hW]
  first | exact n | exact ⟨by decide, n⟩
theorem xin_X11 (Q : Option Value → Hp → Prop) (h : Hp) (ho : 0 < hT h) (hk : hK h 0 = 11) (hq : Q none (x11E (x11D (x11C (x11B (x11A h))) (hT (x11A h))))) : b_X11_init_0 Q [some (.ref 0)] [] h := by
  have n : T_X9_init [.ref (hT h)] (nC h 9 (fN 9)) (fun r' h' => c_X11_init_12 Q [some (.ref 0)] (r'.toList ++ [.ref (hT h), .ref 0]) h') := by
    obtain ⟨y1, y2⟩ := x5_go (k := 9) li_X9 rfl ho hk
    unfold x11A mkO at hq
    exact ⟨by rw [hT_nC]; exact Nat.lt_succ_self _, by rw [hK_nC, if_pos rfl], xi_12 Q _ (hT h) y1 y2 hq⟩
  clear hq
  rw [show fN 9 = 2 from rfl] at n
  generalize hW : T_X9_init = W at n
  simp only [b_X11_init_0, i_push, i_ild, i_ald, i_ist, i_ast, i_inc, i_bin, i_un, i_divs, i_i2l, i_lshl, i_lor, i_dup, i_dup2, i_pop, i_if, i_cmp, i_nul, i_vret, i_iret, i_zret, i_aret, i_keep, keep, lget, lset, ent, i_getI, i_getJ, i_getR, i_getN, i_putI, i_putZ, i_putJ, i_putR, i_iald, i_bald, i_alen, i_aald, i_iast, i_bast, i_aast, i_new, i_newa, i_anew, i_oini, i_callS, i_callV, i_callI, popn, sh4, i_sw, swP, i_copy, i_binS, List.map, Option.toList_none, Option.toList_some, List.append, List.nil_append, List.cons_append, List.length_cons, List.length_nil, List.replicate, Nat.sub_self, Nat.reduceSub, Nat.reduceAdd, hK_pX, hL_pX, hI_pX, hR_pX, hJ_pX, hT_pX, hS_pX, hK_pR, hL_pR, hI_pR, hR_pR, hJ_pR, hT_pR, hS_pR, hK_pJ, hL_pJ, hI_pJ, hR_pJ, hJ_pJ, hT_pJ, hS_pJ, hK_wI, hL_wI, hI_wI, hR_wI, hJ_wI, hT_wI, hS_wI, eq_self, and_true, true_and, and_false, false_and, or_true, true_or, or_false, false_or, if_true, if_false, not_true_eq_false, not_false_eq_true, forall_const, implies_true, false_implies, true_implies, Option.some.injEq, forall_eq', exists_eq_left', reduceCtorEq, Nat.reduceEqDiff, c1, T_X12_in, T_X12_ones, T_X11_within, T_X11_bit, T_X11_isIn, T_X11_oneIfIn, T_J6_bitCount_0f7a4, ho, hk, show fN 9 = 2 from rfl, hW]
  first | exact n | exact ⟨by decide, n⟩
set_option maxRecDepth 100000 in
set_option maxHeartbeats 4000000 in
theorem ok_X11_init : ctr 3 MX11_init T_X11_init := by
  refine ctr_of pn_X11 wc_X11_init (fun av h Q hT => ?_)
  unfold T_X11_init at hT
  split at hT
  · rename_i o
    refine ⟨⟨by simp [Value.category], Nat.le_of_ble_eq_true rfl⟩, s_X11_init_0 Q _ _ _ ?_⟩
    obtain ⟨rfl, h1, h2, h3⟩ := hT
    exact xin_X11 Q h h1 h2 h3
  · exact hT.elim
