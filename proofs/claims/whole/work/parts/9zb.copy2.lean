/-! ===== the class: a State copied ===== -/
def lc_S : List (Nat × Nat × Nat) := (lc_X6 ++ lc_X3) ++ lc_X0
def cpS8 (h : Hp) (s r s' r' : Nat) : Hp := pR (pR (wI h (cpL r r' lc_S (hI h))) s' 3 (hR h s 3)) s' 4 (hR h s 4)
theorem LayS.w {h : Hp} {s r : Nat} (hl : LayS h s r) (f : Mem) : LayS (wI h f) s r := hl
def T_X8_copyFrom : Tr := fun av h Q => match av with
  | [.ref s', .ref s] => ∃ r r' q, LayS h s r ∧ LayS h s' r' ∧ s ≠ s' ∧ hR h s 3 = some q ∧ Q none (cpS8 h s r s' r')
  | _ => False
def L_X8_copyFrom : List UInt8 := [42, 180, 0, 12, 43, 180, 0, 12, 182, 0, 36, 42, 180, 0, 21, 43, 180, 0, 21, 182, 0, 40, 42, 180, 0, 28, 43, 180, 0, 28, 182, 0, 43, 42, 43, 180, 0, 32, 181, 0, 32, 42, 43, 180, 0, 46, 181, 0, 46, 177]
theorem Lc_X8_copyFrom : MX8_copyFrom.2.1 = ⟨L_X8_copyFrom.toArray⟩ := rfl
theorem D_X8_copyFrom_0 : dseq MX8_copyFrom.2.1 0 [(.aload_n 0, 1), (.getfield 12, 3), (.aload_n 1, 1), (.getfield 12, 3), (.invokevirtual 36, 3), (.aload_n 0, 1), (.getfield 21, 3), (.aload_n 1, 1), (.getfield 21, 3), (.invokevirtual 40, 3), (.aload_n 0, 1), (.getfield 28, 3), (.aload_n 1, 1), (.getfield 28, 3), (.invokevirtual 43, 3), (.aload_n 0, 1), (.aload_n 1, 1), (.getfield 32, 3), (.putfield 32, 3), (.aload_n 0, 1), (.aload_n 1, 1), (.getfield 46, 3), (.putfield 46, 3), (.return_, 1)] := dq Lc_X8_copyFrom 0 _ (by decide +kernel)
def c_X8_copyFrom_33 (Q : Option Value → Hp → Prop) : Kt := i_ald 0 (i_ald 1 (i_getR 8 3 (i_putR 8 3 (i_ald 0 (i_ald 1 (i_getN 8 4 (i_putR 8 4 (i_vret Q))))))))
def c_X8_copyFrom_22 (Q : Option Value → Hp → Prop) : Kt := i_ald 0 (i_getR 8 2 (i_ald 1 (i_getR 8 2 (i_callV 0 1 T_X0_copyFrom (c_X8_copyFrom_33 Q)))))
def c_X8_copyFrom_11 (Q : Option Value → Hp → Prop) : Kt := i_ald 0 (i_getR 8 1 (i_ald 1 (i_getR 8 1 (i_callV 3 1 T_X3_copyFrom (c_X8_copyFrom_22 Q)))))
def b_X8_copyFrom_0 (Q : Option Value → Hp → Prop) : Kt := i_ald 0 (i_getR 8 0 (i_ald 1 (i_getR 8 0 (i_callV 6 1 T_X6_copyFrom (c_X8_copyFrom_11 Q)))))
set_option maxRecDepth 100000 in
theorem s_X8_copyFrom_0 (Q : Option Value → Hp → Prop) : ∀ A st h, b_X8_copyFrom_0 Q A st h → wp 3 MX8_copyFrom Q 0 A st h := (q1 (s_aldn (n := 0) (i := 0) rfl) D_X8_copyFrom_0 fun D => (qC fl_X8_12 rfl D fun D => (q1 (s_aldn (n := 1) (i := 1) rfl) D fun D => (qC fl_X8_12 rfl D fun D => (qX (s_callV kX6 rfl ok_X6_copyFrom mo_X6_copyFrom (ch_4_14_ok.2.2.2.2.2.2.2.2.2.2.2.1.1 rfl) (ch_4_14_ok.2.2.2.2.2.2.2.2.2.2.2.2.1.1 rfl) (ch_4_14_ok.2.2.2.2.2.2.2.2.2.2.2.2.2.1.1 rfl)) rfl (by decide) D fun D => (q1 (s_aldn (n := 0) (i := 0) rfl) D fun D => (qC fl_X8_21 rfl D fun D => (q1 (s_aldn (n := 1) (i := 1) rfl) D fun D => (qC fl_X8_21 rfl D fun D => (qX (s_callV kX3 rfl ok_X3_copyFrom mo_X3_copyFrom (ch_5_0_ok.2.2.2.2.2.2.1.1 rfl) (ch_5_0_ok.2.2.2.2.2.2.2.1.1 rfl) (ch_5_0_ok.2.2.2.2.2.2.2.2.1.1 rfl)) rfl (by decide) D fun D => (q1 (s_aldn (n := 0) (i := 0) rfl) D fun D => (qC fl_X8_28 rfl D fun D => (q1 (s_aldn (n := 1) (i := 1) rfl) D fun D => (qC fl_X8_28 rfl D fun D => (qX (s_callV kX0 rfl ok_X0_copyFrom mo_X0_copyFrom (ch_5_0_ok.2.2.2.2.2.2.2.2.2.2.2.1.1 rfl) (ch_5_0_ok.2.2.2.2.2.2.2.2.2.2.2.2.1.1 rfl) (ch_5_0_ok.2.2.2.2.2.2.2.2.2.2.2.2.2.1.1 rfl)) rfl (by decide) D fun D => (q1 (s_aldn (n := 0) (i := 0) rfl) D fun D => (q1 (s_aldn (n := 1) (i := 1) rfl) D fun D => (qC fl_X8_32 rfl D fun D => (qP pl_X8_32 rfl (Or.inl rfl) D fun D => (q1 (s_aldn (n := 0) (i := 0) rfl) D fun D => (q1 (s_aldn (n := 1) (i := 1) rfl) D fun D => (qC fl_X8_46 rfl D fun D => (qP pl_X8_46 rfl (Or.inl rfl) D fun D => (qV rfl D))))))))))))))))))))))))

theorem LayS.sf {h : Hp} {s r : Nat} (hl : LayS h s r) : s < hT h ∧ hK h s = 8 ∧ hR h s 0 = some r ∧ hR h s 1 = some (r + 4) ∧ hR h s 2 = some (r + 13) := ⟨hl.1, hl.2.2.1, hl.2.2.2.2.1.1, hl.2.2.2.2.1.2.1, hl.2.2.2.2.1.2.2.1⟩
theorem cf33 (Q : Option Value → Hp → Prop) (X : Hp) (s s' r r' q : Nat) (hl1 : LayS X s r) (hl2 : LayS X s' r') (hss : s ≠ s') (h3 : hR X s 3 = some q) (hq : Q none (pR (pR X s' 3 (hR X s 3)) s' 4 (hR X s 4))) : c_X8_copyFrom_33 Q [some (.ref s'), some (.ref s)] [] X := by
  have f1 := hl1.sf
  have f2 := hl2.sf
  rw [h3] at hq
  cases h4 : hR X s 4 with
  | none =>
    rw [h4] at hq
    simp only [c_X8_copyFrom_33, i_push, i_ild, i_ald, i_ist, i_ast, i_inc, i_bin, i_un, i_divs, i_i2l, i_lshl, i_lor, i_dup, i_dup2, i_pop, i_if, i_cmp, i_nul, i_vret, i_iret, i_zret, i_aret, i_keep, keep, lget, lset, ent, i_getI, i_getJ, i_getR, i_getN, i_putI, i_putZ, i_putJ, i_putR, i_iald, i_bald, i_alen, i_aald, i_iast, i_bast, i_aast, i_new, i_newa, i_anew, i_oini, i_callS, i_callV, i_callI, popn, sh4, i_sw, swP, i_copy, i_binS, List.map, Option.toList_none, Option.toList_some, List.append, List.nil_append, List.cons_append, List.length_cons, List.length_nil, List.replicate, Nat.sub_self, Nat.reduceSub, Nat.reduceAdd, hK_pX, hL_pX, hI_pX, hR_pX, hJ_pX, hT_pX, hS_pX, hK_pR, hL_pR, hI_pR, hR_pR, hJ_pR, hT_pR, hS_pR, hK_pJ, hL_pJ, hI_pJ, hR_pJ, hJ_pJ, hT_pJ, hS_pJ, hK_wI, hL_wI, hI_wI, hR_wI, hJ_wI, hT_wI, hS_wI, eq_self, and_true, true_and, and_false, false_and, or_true, true_or, or_false, false_or, if_true, if_false, not_true_eq_false, not_false_eq_true, forall_const, implies_true, false_implies, true_implies, Option.some.injEq, forall_eq', exists_eq_left', reduceCtorEq, Nat.reduceEqDiff, c1, T_X12_in, T_X12_ones, T_X11_within, T_X11_bit, T_X11_isIn, T_X11_oneIfIn, T_J6_bitCount_0f7a4, f1, f2, h3, h4, hss]
    simpa using hq
  | some n =>
    rw [h4] at hq
    simp only [c_X8_copyFrom_33, i_push, i_ild, i_ald, i_ist, i_ast, i_inc, i_bin, i_un, i_divs, i_i2l, i_lshl, i_lor, i_dup, i_dup2, i_pop, i_if, i_cmp, i_nul, i_vret, i_iret, i_zret, i_aret, i_keep, keep, lget, lset, ent, i_getI, i_getJ, i_getR, i_getN, i_putI, i_putZ, i_putJ, i_putR, i_iald, i_bald, i_alen, i_aald, i_iast, i_bast, i_aast, i_new, i_newa, i_anew, i_oini, i_callS, i_callV, i_callI, popn, sh4, i_sw, swP, i_copy, i_binS, List.map, Option.toList_none, Option.toList_some, List.append, List.nil_append, List.cons_append, List.length_cons, List.length_nil, List.replicate, Nat.sub_self, Nat.reduceSub, Nat.reduceAdd, hK_pX, hL_pX, hI_pX, hR_pX, hJ_pX, hT_pX, hS_pX, hK_pR, hL_pR, hI_pR, hR_pR, hJ_pR, hT_pR, hS_pR, hK_pJ, hL_pJ, hI_pJ, hR_pJ, hJ_pJ, hT_pJ, hS_pJ, hK_wI, hL_wI, hI_wI, hR_wI, hJ_wI, hT_wI, hS_wI, eq_self, and_true, true_and, and_false, false_and, or_true, true_or, or_false, false_or, if_true, if_false, not_true_eq_false, not_false_eq_true, forall_const, implies_true, false_implies, true_implies, Option.some.injEq, forall_eq', exists_eq_left', reduceCtorEq, Nat.reduceEqDiff, c1, T_X12_in, T_X12_ones, T_X11_within, T_X11_bit, T_X11_isIn, T_X11_oneIfIn, T_J6_bitCount_0f7a4, f1, f2, h3, h4, hss]
    simpa using hq
set_option maxRecDepth 100000 in
set_option maxHeartbeats 4000000 in
theorem ok_X8_copyFrom : ctr 3 MX8_copyFrom T_X8_copyFrom := by
  refine ctr_of pn_X8 wc_X8_copyFrom (fun av h Q hT => ?_)
  unfold T_X8_copyFrom at hT
  split at hT
  · rename_i s' s
    refine ⟨⟨by simp [Value.category], Nat.le_of_ble_eq_true rfl⟩, s_X8_copyFrom_0 Q _ _ _ ?_⟩
    obtain ⟨r, r', q, hl1, hl2, hss, h3, hq⟩ := hT
    have g1 := hl1.bf
    have g2 := hl2.bf
    have f1 := hl1.sf
    have f2 := hl2.sf
    have h33 : c_X8_copyFrom_33 Q [some (.ref s'), some (.ref s)] [] (wI (wI (wI h (cpL r r' lc_X6 (hI h))) (cpL r r' lc_X3 (cpL r r' lc_X6 (hI h)))) (cpL r r' lc_X0 (cpL r r' lc_X3 (cpL r r' lc_X6 (hI h))))) := by
      refine cf33 Q _ s s' r r' q hl1 hl2 hss h3 ?_
      have e : cpL r r' lc_S (hI h) = cpL r r' lc_X0 (cpL r r' lc_X3 (cpL r r' lc_X6 (hI h))) := by
        unfold lc_S; rw [cpL_app, cpL_app]
      unfold cpS8 at hq
      rw [e] at hq
      exact hq
    have h22 : c_X8_copyFrom_22 Q [some (.ref s'), some (.ref s)] [] (wI (wI h (cpL r r' lc_X6 (hI h))) (cpL r r' lc_X3 (cpL r r' lc_X6 (hI h)))) := by
      simp only [c_X8_copyFrom_22, i_push, i_ild, i_ald, i_ist, i_ast, i_inc, i_bin, i_un, i_divs, i_i2l, i_lshl, i_lor, i_dup, i_dup2, i_pop, i_if, i_cmp, i_nul, i_vret, i_iret, i_zret, i_aret, i_keep, keep, lget, lset, ent, i_getI, i_getJ, i_getR, i_getN, i_putI, i_putZ, i_putJ, i_putR, i_iald, i_bald, i_alen, i_aald, i_iast, i_bast, i_aast, i_new, i_newa, i_anew, i_oini, i_callS, i_callV, i_callI, popn, sh4, i_sw, swP, i_copy, i_binS, List.map, Option.toList_none, Option.toList_some, List.append, List.nil_append, List.cons_append, List.length_cons, List.length_nil, List.replicate, Nat.sub_self, Nat.reduceSub, Nat.reduceAdd, hK_pX, hL_pX, hI_pX, hR_pX, hJ_pX, hT_pX, hS_pX, hK_pR, hL_pR, hI_pR, hR_pR, hJ_pR, hT_pR, hS_pR, hK_pJ, hL_pJ, hI_pJ, hR_pJ, hJ_pJ, hT_pJ, hS_pJ, hK_wI, hL_wI, hI_wI, hR_wI, hJ_wI, hT_wI, hS_wI, eq_self, and_true, true_and, and_false, false_and, or_true, true_or, or_false, false_or, if_true, if_false, not_true_eq_false, not_false_eq_true, forall_const, implies_true, false_implies, true_implies, Option.some.injEq, forall_eq', exists_eq_left', reduceCtorEq, Nat.reduceEqDiff, c1, T_X12_in, T_X12_ones, T_X11_within, T_X11_bit, T_X11_isIn, T_X11_oneIfIn, T_J6_bitCount_0f7a4, f1, f2, g1, g2]
      exact ⟨s, s', r, r', rfl, rfl, hl1, hl2, h33⟩
    have h11 : c_X8_copyFrom_11 Q [some (.ref s'), some (.ref s)] [] (wI h (cpL r r' lc_X6 (hI h))) := by
      simp only [c_X8_copyFrom_11, i_push, i_ild, i_ald, i_ist, i_ast, i_inc, i_bin, i_un, i_divs, i_i2l, i_lshl, i_lor, i_dup, i_dup2, i_pop, i_if, i_cmp, i_nul, i_vret, i_iret, i_zret, i_aret, i_keep, keep, lget, lset, ent, i_getI, i_getJ, i_getR, i_getN, i_putI, i_putZ, i_putJ, i_putR, i_iald, i_bald, i_alen, i_aald, i_iast, i_bast, i_aast, i_new, i_newa, i_anew, i_oini, i_callS, i_callV, i_callI, popn, sh4, i_sw, swP, i_copy, i_binS, List.map, Option.toList_none, Option.toList_some, List.append, List.nil_append, List.cons_append, List.length_cons, List.length_nil, List.replicate, Nat.sub_self, Nat.reduceSub, Nat.reduceAdd, hK_pX, hL_pX, hI_pX, hR_pX, hJ_pX, hT_pX, hS_pX, hK_pR, hL_pR, hI_pR, hR_pR, hJ_pR, hT_pR, hS_pR, hK_pJ, hL_pJ, hI_pJ, hR_pJ, hJ_pJ, hT_pJ, hS_pJ, hK_wI, hL_wI, hI_wI, hR_wI, hJ_wI, hT_wI, hS_wI, eq_self, and_true, true_and, and_false, false_and, or_true, true_or, or_false, false_or, if_true, if_false, not_true_eq_false, not_false_eq_true, forall_const, implies_true, false_implies, true_implies, Option.some.injEq, forall_eq', exists_eq_left', reduceCtorEq, Nat.reduceEqDiff, c1, T_X12_in, T_X12_ones, T_X11_within, T_X11_bit, T_X11_isIn, T_X11_oneIfIn, T_J6_bitCount_0f7a4, f1, f2, g1, g2]
      exact ⟨s, s', r, r', rfl, rfl, hl1, hl2, h22⟩
    simp only [MX8_copyFrom, b_X8_copyFrom_0, i_push, i_ild, i_ald, i_ist, i_ast, i_inc, i_bin, i_un, i_divs, i_i2l, i_lshl, i_lor, i_dup, i_dup2, i_pop, i_if, i_cmp, i_nul, i_vret, i_iret, i_zret, i_aret, i_keep, keep, lget, lset, ent, i_getI, i_getJ, i_getR, i_getN, i_putI, i_putZ, i_putJ, i_putR, i_iald, i_bald, i_alen, i_aald, i_iast, i_bast, i_aast, i_new, i_newa, i_anew, i_oini, i_callS, i_callV, i_callI, popn, sh4, i_sw, swP, i_copy, i_binS, List.map, Option.toList_none, Option.toList_some, List.append, List.nil_append, List.cons_append, List.length_cons, List.length_nil, List.replicate, Nat.sub_self, Nat.reduceSub, Nat.reduceAdd, hK_pX, hL_pX, hI_pX, hR_pX, hJ_pX, hT_pX, hS_pX, hK_pR, hL_pR, hI_pR, hR_pR, hJ_pR, hT_pR, hS_pR, hK_pJ, hL_pJ, hI_pJ, hR_pJ, hJ_pJ, hT_pJ, hS_pJ, hK_wI, hL_wI, hI_wI, hR_wI, hJ_wI, hT_wI, hS_wI, eq_self, and_true, true_and, and_false, false_and, or_true, true_or, or_false, false_or, if_true, if_false, not_true_eq_false, not_false_eq_true, forall_const, implies_true, false_implies, true_implies, Option.some.injEq, forall_eq', exists_eq_left', reduceCtorEq, Nat.reduceEqDiff, c1, T_X12_in, T_X12_ones, T_X11_within, T_X11_bit, T_X11_isIn, T_X11_oneIfIn, T_J6_bitCount_0f7a4, f1, f2, g1, g2]
    exact ⟨s, s', r, r', rfl, rfl, hl1, hl2, h11⟩
  · exact hT.elim
theorem lc_S17 : ∀ q ∈ lc_S, q.1 ≤ 17 := by unfold lc_S lc_X6 lc_X3 lc_X0; decide
theorem lc_Sm : (∀ i, i = 0 ∨ i = 4 ∨ i = 5 → (0, i, 1) ∈ lc_S) ∧ (∀ o, o = 1 ∨ o = 2 ∨ o = 3 → (o, 0, 4) ∈ lc_S) ∧ (∀ i, i = 0 ∨ i = 1 ∨ i = 10 ∨ i = 11 ∨ i = 12 → (4, i, 1) ∈ lc_S) ∧ (∀ o, o = 5 ∨ o = 6 ∨ o = 7 ∨ o = 8 ∨ o = 9 ∨ o = 10 ∨ o = 11 ∨ o = 12 → (o, 0, 24) ∈ lc_S) ∧ (13, 0, 1) ∈ lc_S ∧ ∀ o, o = 14 ∨ o = 15 ∨ o = 16 ∨ o = 17 → (o, 0, 8) ∈ lc_S := by
  unfold lc_S lc_X6 lc_X3 lc_X0
  refine ⟨fun i hi => ?_, fun i hi => ?_, fun i hi => ?_, fun i hi => ?_, by decide, fun i hi => ?_⟩
  · rcases hi with z | z | z <;> subst z <;> decide
  · rcases hi with z | z | z <;> subst z <;> decide
  · rcases hi with z | z | z | z | z <;> subst z <;> decide
  · rcases hi with z | z | z | z | z | z | z | z <;> subst z <;> decide
  · rcases hi with z | z | z | z <;> subst z <;> decide
theorem lc_Sc {o i : Nat} (hc : cpS o i) : ∃ q ∈ lc_S, o = q.1 ∧ q.2.1 ≤ i ∧ i < q.2.1 + q.2.2 := by
  obtain ⟨m1, m2, m3, m4', m5, m6⟩ := lc_Sm
  rcases hc with ⟨z, y⟩ | ⟨z1, z2, y⟩ | ⟨z, y⟩ | ⟨z1, z2, y⟩ | ⟨z, y⟩ | ⟨z1, z2, y⟩
  · exact ⟨_, m1 i y, z, Nat.le_refl _, Nat.lt_succ_self _⟩
  · exact ⟨_, m2 o (by omega), rfl, Nat.zero_le _, by show i < 0 + 4; omega⟩
  · exact ⟨_, m3 i y, z, Nat.le_refl _, Nat.lt_succ_self _⟩
  · exact ⟨_, m4' o (by omega), rfl, Nat.zero_le _, by show i < 0 + 24; omega⟩
  · exact ⟨_, m5, z, by show 0 ≤ i; omega, by show i < 0 + 1; omega⟩
  · exact ⟨_, m6 o (by omega), rfl, Nat.zero_le _, by show i < 0 + 8; omega⟩
theorem lc_St {o i : Nat} (hc : ∃ q ∈ lc_S, o = q.1 ∧ q.2.1 ≤ i ∧ i < q.2.1 + q.2.2) : o ≤ 17 := by
  obtain ⟨q, hq, e, _⟩ := hc
  have := lc_S17 q hq
  omega
/-- what a copied State's heap is -/
theorem cpS8_f (h : Hp) {s r s' r' : Nat} (hd : r + 17 < r' ∨ r' + 17 < r) : CpB (hI h) (hI (cpS8 h s r s' r')) r r' ∧ (∀ a i, ¬ (r' ≤ a ∧ a ≤ r' + 17) → hI (cpS8 h s r s' r') a i = hI h a i) ∧ (hR (cpS8 h s r s' r') s' 3 = hR h s 3 ∧ hR (cpS8 h s r s' r') s' 4 = hR h s 4) ∧ (∀ a i, ¬ (a = s' ∧ (i = 3 ∨ i = 4)) → hR (cpS8 h s r s' r') a i = hR h a i) ∧ hK (cpS8 h s r s' r') = hK h ∧ hL (cpS8 h s r s' r') = hL h ∧ hT (cpS8 h s r s' r') = hT h ∧ hS (cpS8 h s r s' r') = hS h := by
  have eI : ∀ a i, hI (cpS8 h s r s' r') a i = cpL r r' lc_S (hI h) a i := fun a i => rfl
  refine ⟨fun o i hc => ?_, fun a i ha => ?_, ⟨?_, ?_⟩, fun a i ha => ?_, rfl, rfl, rfl, rfl⟩
  · obtain ⟨q, hq, e⟩ := lc_Sc hc
    rw [eI, cpL_at hd lc_S _ lc_S17, if_pos ⟨q, hq, by omega⟩, show r' + o - r' + r = r + o by omega]
  · rw [eI, cpL_at hd lc_S _ lc_S17, if_neg (fun ⟨q, hq, e⟩ => by have := lc_S17 q hq; omega)]
  · unfold cpS8
    rw [hR_pR, if_neg (by omega), hR_pR, if_pos ⟨rfl, rfl⟩]
  · unfold cpS8
    rw [hR_pR, if_pos ⟨rfl, rfl⟩]
  · unfold cpS8
    rw [hR_pR, if_neg (by omega), hR_pR, if_neg (by omega)]
    rfl
