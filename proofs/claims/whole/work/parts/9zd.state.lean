/-! ===== the class: a new State ===== -/
def mkO (h : Hp) (o j k : Nat) (l : List (Nat × Nat × Nat)) : Hp := pR (mkA (nC h k (fN k)) (hT h) l) o j (some (hT h))
theorem mkO_T (h : Hp) (o j k : Nat) (l : List (Nat × Nat × Nat)) : hT (mkO h o j k l) = hT h + 1 + l.length := by
  unfold mkO; rw [hT_pR, mkA_T, hT_nC]
theorem mkO_S (h : Hp) (o j k : Nat) (l : List (Nat × Nat × Nat)) : hS (mkO h o j k l) = hS h + fN k + (l.map (fun q => q.2.2)).sum := by
  unfold mkO; rw [hS_pR, mkA_S, hS_nC]
theorem mkO_old (h : Hp) (o j k : Nat) (l : List (Nat × Nat × Nat)) {a : Nat} (ha : a < hT h) : hK (mkO h o j k l) a = hK h a ∧ hL (mkO h o j k l) a = hL h a ∧ (∀ i, hI (mkO h o j k l) a i = hI h a i) ∧ ∀ i, ¬ (a = o ∧ i = j) → hR (mkO h o j k l) a i = hR h a i := by
  obtain ⟨h1, h2, h3, _, h5⟩ := mkA_old l (nC h k (fN k)) (hT h) a (by rw [hT_nC]; omega)
  have ne : ¬ a = hT h := by omega
  unfold mkO
  refine ⟨?_, ?_, fun i => ?_, fun i hi => ?_⟩
  · rw [hK_pR, h1, hK_nC, if_neg ne]
  · rw [hL_pR, h2, hL_nC, if_neg ne]
  · rw [hI_pR, h3, hI_nC, if_neg ne]
  · rw [hR_pR, if_neg hi, h5 i (Or.inl ne), hR_nC, if_neg ne]
theorem mkO_new (h : Hp) {o j k : Nat} {l : List (Nat × Nat × Nat)} (ho : o < hT h) (hn : (l.map (fun q => q.1)).Nodup) : hK (mkO h o j k l) (hT h) = k ∧ (∀ i, hI (mkO h o j k l) (hT h) i = 0) ∧ hR (mkO h o j k l) o j = some (hT h) ∧ ∀ t j' k' n', l[t]? = some (j', k', n') → hK (mkO h o j k l) (hT h + 1 + t) = k' ∧ hL (mkO h o j k l) (hT h + 1 + t) = n' ∧ (∀ i, hI (mkO h o j k l) (hT h + 1 + t) i = 0) ∧ hR (mkO h o j k l) (hT h) j' = some (hT h + 1 + t) := by
  obtain ⟨h1, h2, h3, _, h5⟩ := mkA_old l (nC h k (fN k)) (hT h) (hT h) (by rw [hT_nC]; omega)
  unfold mkO
  refine ⟨?_, fun i => ?_, ?_, fun t j' k' n' hl => ?_⟩
  · rw [hK_pR, h1, hK_nC, if_pos rfl]
  · rw [hI_pR, h3, hI_nC, if_pos rfl]
  · rw [hR_pR, if_pos ⟨rfl, rfl⟩]
  · obtain ⟨g1, g2, g3, g4⟩ := mkA_new l (nC h k (fN k)) (hT h) t j' k' n' (by rw [hT_nC]; omega) hn hl
    rw [hT_nC] at g1 g2 g3 g4
    refine ⟨by rw [hK_pR]; exact g1, by rw [hL_pR]; exact g2, fun i => by rw [hI_pR]; exact g3 i, ?_⟩
    rw [hR_pR, if_neg (by omega)]; exact g4
def s8A (h : Hp) (o : Nat) : Hp := mkO h o 0 6 li_X6
def s8B (h : Hp) (o : Nat) : Hp := mkO (s8A h o) o 1 3 li_X3
def s8C (h : Hp) (o : Nat) : Hp := mkO (s8B h o) o 2 0 li_X0
def T_X8_init : Tr := fun av h Q => match av with
  | [.ref o, .ref q] => o < hT h ∧ hK h o = 8 ∧ Q none (pR (s8C h o) o 3 (some q))
  | _ => False
def L_X8_init : List UInt8 := [42, 183, 0, 3, 42, 187, 0, 9, 89, 183, 0, 11, 181, 0, 12, 42, 187, 0, 18, 89, 183, 0, 20, 181, 0, 21, 42, 187, 0, 25, 89, 183, 0, 27, 181, 0, 28, 42, 43, 181, 0, 32, 177]
theorem Lc_X8_init : MX8_init.2.1 = ⟨L_X8_init.toArray⟩ := rfl
theorem D_X8_init_0 : dseq MX8_init.2.1 0 [(.aload_n 0, 1), (.invokespecial 3, 3), (.aload_n 0, 1), (.new 9, 3), (.dup, 1), (.invokespecial 11, 3), (.putfield 12, 3), (.aload_n 0, 1), (.new 18, 3), (.dup, 1), (.invokespecial 20, 3), (.putfield 21, 3), (.aload_n 0, 1), (.new 25, 3), (.dup, 1), (.invokespecial 27, 3), (.putfield 28, 3), (.aload_n 0, 1), (.aload_n 1, 1), (.putfield 32, 3), (.return_, 1)] := dq Lc_X8_init 0 _ (by decide +kernel)
def c_X8_init_34 (Q : Option Value → Hp → Prop) : Kt := i_putR 8 2 (i_ald 0 (i_ald 1 (i_putR 8 3 (i_vret Q))))
def c_X8_init_23 (Q : Option Value → Hp → Prop) : Kt := i_putR 8 1 (i_ald 0 (i_new 0 (i_dup (i_callI 0 T_X0_init (c_X8_init_34 Q)))))
def c_X8_init_12 (Q : Option Value → Hp → Prop) : Kt := i_putR 8 0 (i_ald 0 (i_new 3 (i_dup (i_callI 0 T_X3_init (c_X8_init_23 Q)))))
def b_X8_init_0 (Q : Option Value → Hp → Prop) : Kt := i_ald 0 (i_oini (i_ald 0 (i_new 6 (i_dup (i_callI 0 T_X6_init (c_X8_init_12 Q))))))
set_option maxRecDepth 100000 in
theorem s_X8_init_0 (Q : Option Value → Hp → Prop) : ∀ A st h, b_X8_init_0 Q A st h → wp 2 MX8_init Q 0 A st h := (q1 (s_aldn (n := 0) (i := 0) rfl) D_X8_init_0 fun D => (qO (s_oini (ch_1_5_ok.2.2.2.2.2.2.2.2.2.1.1 rfl) w_oi2 w_oi3) rfl (by decide) D fun D => (q1 (s_aldn (n := 0) (i := 0) rfl) D fun D => (qC (s_new kX6 ot_X6 (ch_1_5_ok.2.2.2.2.2.2.2.2.2.2.1.1 rfl) (ch_1_5_ok.2.2.2.2.2.2.2.2.2.2.2.1.1 rfl) (ch_1_0_ok.2.2.2.2.2.1.1 rfl)) rfl D fun D => (q1 s_dup D fun D => (qX (s_callIN ok_X6_init mo_X6_init rfl rfl (ch_1_5_ok.2.2.2.2.2.2.2.2.2.2.2.2.1.2 rfl) (ch_1_5_ok.2.2.2.2.2.2.2.2.2.2.2.2.2.1.1 rfl)) rfl (by decide) D fun D => (qP pl_X8_12 rfl (Or.inr rfl) D fun D => (q1 (s_aldn (n := 0) (i := 0) rfl) D fun D => (qC (s_new kX3 ot_X3 (ch_1_7_ok.2.2.2.2.2.2.2.2.2.1.1 rfl) (ch_1_7_ok.2.2.2.2.2.2.2.2.2.2.1.1 rfl) (ch_1_0_ok.2.2.2.2.2.2.1.1 rfl)) rfl D fun D => (q1 s_dup D fun D => (qX (s_callIN ok_X3_init mo_X3_init rfl rfl (ch_1_7_ok.2.2.2.2.2.2.2.2.2.2.2.1.2 rfl) (ch_1_7_ok.2.2.2.2.2.2.2.2.2.2.2.2.1.1 rfl)) rfl (by decide) D fun D => (qP pl_X8_21 rfl (Or.inr rfl) D fun D => (q1 (s_aldn (n := 0) (i := 0) rfl) D fun D => (qC (s_new kX0 ot_X0 (ch_1_12_ok.2.2.2.2.2.2.1.1 rfl) (ch_1_12_ok.2.2.2.2.2.2.2.1.1 rfl) (ch_1_0_ok.2.2.2.2.2.2.2.1.1 rfl)) rfl D fun D => (q1 s_dup D fun D => (qX (s_callIN ok_X0_init mo_X0_init rfl rfl (ch_1_12_ok.2.2.2.2.2.2.2.2.1.2 rfl) (ch_1_12_ok.2.2.2.2.2.2.2.2.2.1.1 rfl)) rfl (by decide) D fun D => (qP pl_X8_28 rfl (Or.inr rfl) D fun D => (q1 (s_aldn (n := 0) (i := 0) rfl) D fun D => (q1 (s_aldn (n := 1) (i := 1) rfl) D fun D => (qP pl_X8_32 rfl (Or.inl rfl) D fun D => (qV rfl D)))))))))))))))))))))

theorem x8_go {X : Hp} {o k t : Nat} (l : List (Nat × Nat × Nat)) (ht : t = hT X) (w1 : o < hT X) (w2 : hK X o = 8) : o < hT (mkA (nC X k (fN k)) t l) ∧ hK (mkA (nC X k (fN k)) t l) o = 8 := by
  subst ht
  obtain ⟨h1, _⟩ := mkA_old l (nC X k (fN k)) (hT X) o (by rw [hT_nC]; omega)
  refine ⟨by rw [mkA_T, hT_nC]; omega, ?_⟩
  rw [h1, hK_nC, if_neg (by omega)]; exact w2
theorem x8_34 (Q : Option Value → Hp → Prop) (X : Hp) (o q r : Nat) (g1 : o < hT X) (g2 : hK X o = 8) (hq : Q none (pR (pR X o 2 (some r)) o 3 (some q))) : c_X8_init_34 Q [some (.ref o), some (.ref q)] [.ref r, .ref o] X := by
  simp only [c_X8_init_34, i_push, i_ild, i_ald, i_ist, i_ast, i_inc, i_bin, i_un, i_divs, i_i2l, i_lshl, i_lor, i_dup, i_dup2, i_pop, i_if, i_cmp, i_nul, i_vret, i_iret, i_zret, i_aret, i_keep, keep, lget, lset, ent, i_getI, i_getJ, i_getR, i_getN, i_putI, i_putZ, i_putJ, i_putR, i_iald, i_bald, i_alen, i_aald, i_iast, i_bast, i_aast, i_new, i_newa, i_anew, i_oini, i_callS, i_callV, i_callI, popn, sh4, i_sw, swP, i_copy, i_binS, List.map, Option.toList_none, Option.toList_some, List.append, List.nil_append, List.cons_append, List.length_cons, List.length_nil, List.replicate, Nat.sub_self, Nat.reduceSub, Nat.reduceAdd, hK_pX, hL_pX, hI_pX, hR_pX, hJ_pX, hT_pX, hS_pX, hK_pR, hL_pR, hI_pR, hR_pR, hJ_pR, hT_pR, hS_pR, hK_pJ, hL_pJ, hI_pJ, hR_pJ, hJ_pJ, hT_pJ, hS_pJ, hK_wI, hL_wI, hI_wI, hR_wI, hJ_wI, hT_wI, hS_wI, eq_self, and_true, true_and, and_false, false_and, or_true, true_or, or_false, false_or, if_true, if_false, not_true_eq_false, not_false_eq_true, forall_const, implies_true, false_implies, true_implies, Option.some.injEq, forall_eq', exists_eq_left', reduceCtorEq, Nat.reduceEqDiff, c1, T_X12_in, T_X12_ones, T_X11_within, T_X11_bit, T_X11_isIn, T_X11_oneIfIn, T_J6_bitCount_0f7a4, g1, g2]
  exact hq
theorem x8_n0 (Q : Option Value → Hp → Prop) (Y : Hp) (o q t : Nat) (ht : t = hT Y) (g1 : o < hT Y) (g2 : hK Y o = 8) (hq : Q none (pR (mkO Y o 2 0 li_X0) o 3 (some q))) : T_X0_init [.ref t] (nC Y 0 (fN 0)) (fun r' h' => c_X8_init_34 Q [some (.ref o), some (.ref q)] (r'.toList ++ [.ref t, .ref o]) h') := by
  obtain ⟨y1, y2⟩ := x8_go (k := 0) li_X0 ht g1 g2
  unfold mkO at hq
  rw [← ht] at hq
  exact ⟨by rw [hT_nC, ht]; exact Nat.lt_succ_self _, by rw [hK_nC, if_pos ht], x8_34 Q _ o q t y1 y2 hq⟩
theorem x8_23 (Q : Option Value → Hp → Prop) (X : Hp) (o q r : Nat) (g1 : o < hT X) (g2 : hK X o = 8) (hq : Q none (pR (mkO (pR X o 1 (some r)) o 2 0 li_X0) o 3 (some q))) : c_X8_init_23 Q [some (.ref o), some (.ref q)] [.ref r, .ref o] X := by
  have n := x8_n0 Q (pR X o 1 (some r)) o q (hT X) (by rw [hT_pR]) (by rw [hT_pR]; exact g1) (by rw [hK_pR]; exact g2) hq
  rw [show fN 0 = 5 from rfl] at n
  generalize hW : T_X0_init = W at n
  simp only [c_X8_init_23, i_push, i_ild, i_ald, i_ist, i_ast, i_inc, i_bin, i_un, i_divs, i_i2l, i_lshl, i_lor, i_dup, i_dup2, i_pop, i_if, i_cmp, i_nul, i_vret, i_iret, i_zret, i_aret, i_keep, keep, lget, lset, ent, i_getI, i_getJ, i_getR, i_getN, i_putI, i_putZ, i_putJ, i_putR, i_iald, i_bald, i_alen, i_aald, i_iast, i_bast, i_aast, i_new, i_newa, i_anew, i_oini, i_callS, i_callV, i_callI, popn, sh4, i_sw, swP, i_copy, i_binS, List.map, Option.toList_none, Option.toList_some, List.append, List.nil_append, List.cons_append, List.length_cons, List.length_nil, List.replicate, Nat.sub_self, Nat.reduceSub, Nat.reduceAdd, hK_pX, hL_pX, hI_pX, hR_pX, hJ_pX, hT_pX, hS_pX, hK_pR, hL_pR, hI_pR, hR_pR, hJ_pR, hT_pR, hS_pR, hK_pJ, hL_pJ, hI_pJ, hR_pJ, hJ_pJ, hT_pJ, hS_pJ, hK_wI, hL_wI, hI_wI, hR_wI, hJ_wI, hT_wI, hS_wI, eq_self, and_true, true_and, and_false, false_and, or_true, true_or, or_false, false_or, if_true, if_false, not_true_eq_false, not_false_eq_true, forall_const, implies_true, false_implies, true_implies, Option.some.injEq, forall_eq', exists_eq_left', reduceCtorEq, Nat.reduceEqDiff, c1, T_X12_in, T_X12_ones, T_X11_within, T_X11_bit, T_X11_isIn, T_X11_oneIfIn, T_J6_bitCount_0f7a4, g1, g2, show fN 0 = 5 from rfl, hW]
  first | exact n | exact ⟨by decide, n⟩
theorem x8_n3 (Q : Option Value → Hp → Prop) (Y : Hp) (o q t : Nat) (ht : t = hT Y) (g1 : o < hT Y) (g2 : hK Y o = 8) (hq : Q none (pR (mkO (mkO Y o 1 3 li_X3) o 2 0 li_X0) o 3 (some q))) : T_X3_init [.ref t] (nC Y 3 (fN 3)) (fun r' h' => c_X8_init_23 Q [some (.ref o), some (.ref q)] (r'.toList ++ [.ref t, .ref o]) h') := by
  obtain ⟨y1, y2⟩ := x8_go (k := 3) li_X3 ht g1 g2
  have e : mkO Y o 1 3 li_X3 = pR (mkA (nC Y 3 (fN 3)) t li_X3) o 1 (some t) := by unfold mkO; rw [ht]
  rw [e] at hq
  exact ⟨by rw [hT_nC, ht]; exact Nat.lt_succ_self _, by rw [hK_nC, if_pos ht], x8_23 Q _ o q t y1 y2 hq⟩
theorem x8_12 (Q : Option Value → Hp → Prop) (X : Hp) (o q r : Nat) (g1 : o < hT X) (g2 : hK X o = 8) (hq : Q none (pR (mkO (mkO (pR X o 0 (some r)) o 1 3 li_X3) o 2 0 li_X0) o 3 (some q))) : c_X8_init_12 Q [some (.ref o), some (.ref q)] [.ref r, .ref o] X := by
  have n := x8_n3 Q (pR X o 0 (some r)) o q (hT X) (by rw [hT_pR]) (by rw [hT_pR]; exact g1) (by rw [hK_pR]; exact g2) hq
  rw [show fN 3 = 13 from rfl] at n
  generalize hW : T_X3_init = W at n
  simp only [c_X8_init_12, i_push, i_ild, i_ald, i_ist, i_ast, i_inc, i_bin, i_un, i_divs, i_i2l, i_lshl, i_lor, i_dup, i_dup2, i_pop, i_if, i_cmp, i_nul, i_vret, i_iret, i_zret, i_aret, i_keep, keep, lget, lset, ent, i_getI, i_getJ, i_getR, i_getN, i_putI, i_putZ, i_putJ, i_putR, i_iald, i_bald, i_alen, i_aald, i_iast, i_bast, i_aast, i_new, i_newa, i_anew, i_oini, i_callS, i_callV, i_callI, popn, sh4, i_sw, swP, i_copy, i_binS, List.map, Option.toList_none, Option.toList_some, List.append, List.nil_append, List.cons_append, List.length_cons, List.length_nil, List.replicate, Nat.sub_self, Nat.reduceSub, Nat.reduceAdd, hK_pX, hL_pX, hI_pX, hR_pX, hJ_pX, hT_pX, hS_pX, hK_pR, hL_pR, hI_pR, hR_pR, hJ_pR, hT_pR, hS_pR, hK_pJ, hL_pJ, hI_pJ, hR_pJ, hJ_pJ, hT_pJ, hS_pJ, hK_wI, hL_wI, hI_wI, hR_wI, hJ_wI, hT_wI, hS_wI, eq_self, and_true, true_and, and_false, false_and, or_true, true_or, or_false, false_or, if_true, if_false, not_true_eq_false, not_false_eq_true, forall_const, implies_true, false_implies, true_implies, Option.some.injEq, forall_eq', exists_eq_left', reduceCtorEq, Nat.reduceEqDiff, c1, T_X12_in, T_X12_ones, T_X11_within, T_X11_bit, T_X11_isIn, T_X11_oneIfIn, T_J6_bitCount_0f7a4, g1, g2, show fN 3 = 13 from rfl, hW]
  first | exact n | exact ⟨by decide, n⟩
theorem x8_n6 (Q : Option Value → Hp → Prop) (Y : Hp) (o q t : Nat) (ht : t = hT Y) (g1 : o < hT Y) (g2 : hK Y o = 8) (hq : Q none (pR (mkO (mkO (mkO Y o 0 6 li_X6) o 1 3 li_X3) o 2 0 li_X0) o 3 (some q))) : T_X6_init [.ref t] (nC Y 6 (fN 6)) (fun r' h' => c_X8_init_12 Q [some (.ref o), some (.ref q)] (r'.toList ++ [.ref t, .ref o]) h') := by
  obtain ⟨y1, y2⟩ := x8_go (k := 6) li_X6 ht g1 g2
  have e : mkO Y o 0 6 li_X6 = pR (mkA (nC Y 6 (fN 6)) t li_X6) o 0 (some t) := by unfold mkO; rw [ht]
  rw [e] at hq
  exact ⟨by rw [hT_nC, ht]; exact Nat.lt_succ_self _, by rw [hK_nC, if_pos ht], x8_12 Q _ o q t y1 y2 hq⟩
theorem xin_X8 (Q : Option Value → Hp → Prop) (h : Hp) (o q : Nat) (ho : o < hT h) (hk : hK h o = 8) (hq : Q none (pR (s8C h o) o 3 (some q))) : b_X8_init_0 Q [some (.ref o), some (.ref q)] [] h := by
  unfold s8C s8B s8A at hq
  have n := x8_n6 Q h o q (hT h) rfl ho hk hq
  clear hq
  rw [show fN 6 = 6 from rfl] at n
  generalize hW : T_X6_init = W at n
  simp only [b_X8_init_0, i_push, i_ild, i_ald, i_ist, i_ast, i_inc, i_bin, i_un, i_divs, i_i2l, i_lshl, i_lor, i_dup, i_dup2, i_pop, i_if, i_cmp, i_nul, i_vret, i_iret, i_zret, i_aret, i_keep, keep, lget, lset, ent, i_getI, i_getJ, i_getR, i_getN, i_putI, i_putZ, i_putJ, i_putR, i_iald, i_bald, i_alen, i_aald, i_iast, i_bast, i_aast, i_new, i_newa, i_anew, i_oini, i_callS, i_callV, i_callI, popn, sh4, i_sw, swP, i_copy, i_binS, List.map, Option.toList_none, Option.toList_some, List.append, List.nil_append, List.cons_append, List.length_cons, List.length_nil, List.replicate, Nat.sub_self, Nat.reduceSub, Nat.reduceAdd, hK_pX, hL_pX, hI_pX, hR_pX, hJ_pX, hT_pX, hS_pX, hK_pR, hL_pR, hI_pR, hR_pR, hJ_pR, hT_pR, hS_pR, hK_pJ, hL_pJ, hI_pJ, hR_pJ, hJ_pJ, hT_pJ, hS_pJ, hK_wI, hL_wI, hI_wI, hR_wI, hJ_wI, hT_wI, hS_wI, eq_self, and_true, true_and, and_false, false_and, or_true, true_or, or_false, false_or, if_true, if_false, not_true_eq_false, not_false_eq_true, forall_const, implies_true, false_implies, true_implies, Option.some.injEq, forall_eq', exists_eq_left', reduceCtorEq, Nat.reduceEqDiff, c1, T_X12_in, T_X12_ones, T_X11_within, T_X11_bit, T_X11_isIn, T_X11_oneIfIn, T_J6_bitCount_0f7a4, ho, hk, show fN 6 = 6 from rfl, hW]
  first | exact n | exact ⟨by decide, n⟩
set_option maxRecDepth 100000 in
set_option maxHeartbeats 4000000 in
theorem ok_X8_init : ctr 2 MX8_init T_X8_init := by
  refine ctr_of pn_X8 wc_X8_init (fun av h Q hT => ?_)
  unfold T_X8_init at hT
  split at hT
  · rename_i o q
    refine ⟨⟨by simp [Value.category], Nat.le_of_ble_eq_true rfl⟩, s_X8_init_0 Q _ _ _ ?_⟩
    exact xin_X8 Q h o q hT.1 hT.2.1 hT.2.2
  · exact hT.elim
