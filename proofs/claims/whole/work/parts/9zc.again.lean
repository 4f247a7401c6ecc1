/-! ===== steps: again ===== -/
def L_X11_again : List UInt8 := [27, 155, 0, 17, 27, 6, 162, 0, 12, 42, 180, 0, 28, 27, 50, 199, 0, 5, 3, 172, 42, 180, 0, 24, 42, 180, 0, 28, 27, 50, 182, 1, 1, 4, 172]
theorem Lc_X11_again : MX11_again.2.1 = ⟨L_X11_again.toArray⟩ := rfl
theorem D_X11_again_0 : dseq MX11_again.2.1 0 [(.iload_n 1, 1), (.ifCond .lt 17, 3), (.iload_n 1, 1), (.iconst 3, 1), (.if_icmp .ge 12, 3), (.aload_n 0, 1), (.getfield 28, 3), (.iload_n 1, 1), (.aaload, 1), (.ifnonnull 5, 3), (.iconst 0, 1), (.ireturn, 1)] := dq Lc_X11_again 0 _ (by decide +kernel)
theorem D_X11_again_18 : dseq MX11_again.2.1 18 [(.iconst 0, 1), (.ireturn, 1)] := dq Lc_X11_again 18 _ (by decide +kernel)
theorem D_X11_again_20 : dseq MX11_again.2.1 20 [(.aload_n 0, 1), (.getfield 24, 3), (.aload_n 0, 1), (.getfield 28, 3), (.iload_n 1, 1), (.aaload, 1), (.invokevirtual 257, 3), (.iconst 1, 1), (.ireturn, 1)] := dq Lc_X11_again 20 _ (by decide +kernel)
def c_X11_again_33 (Q : Option Value → Hp → Prop) : Kt := i_push (.int 1) (i_zret Q)
def b_X11_again_0 (Q : Option Value → Hp → Prop) : Kt := i_ild 1 (i_if (fun x => x < 0) (i_push (.int 0) (i_zret Q)) (i_ild 1 (i_push (.int 3) (i_cmp (fun x y => y ≤ x) (i_push (.int 0) (i_zret Q)) (i_ald 0 (i_getR 11 2 (i_ild 1 (i_aald (i_nul (i_push (.int 0) (i_zret Q)) (i_ald 0 (i_getR 11 1 (i_ald 0 (i_getR 11 2 (i_ild 1 (i_aald (i_callV 8 1 T_X8_copyFrom (c_X11_again_33 Q)))))))))))))))))
set_option maxRecDepth 100000 in
theorem s_X11_again_0 (Q : Option Value → Hp → Prop) : ∀ A st h, b_X11_again_0 Q A st h → wp 4 MX11_again Q 0 A st h := (q1 (s_ildn (n := 1) (i := 1) rfl) D_X11_again_0 fun D => (qB s_iflt 18 (by decide) D (q1 (s_iconst (n := 0) (v := 0) (by decide)) D_X11_again_18 fun D => (qZ rfl D)) fun D => (q1 (s_ildn (n := 1) (i := 1) rfl) D fun D => (q1 (s_iconst (n := 3) (v := 3) (by decide)) D fun D => (qB s_cmpge 18 (by decide) D (q1 (s_iconst (n := 0) (v := 0) (by decide)) D_X11_again_18 fun D => (qZ rfl D)) fun D => (q1 (s_aldn (n := 0) (i := 0) rfl) D fun D => (qC fl_X11_28 rfl D fun D => (q1 (s_ildn (n := 1) (i := 1) rfl) D fun D => (q1 s_aald D fun D => (qBn s_ifnonnull2 20 (by decide) D (q1 (s_aldn (n := 0) (i := 0) rfl) D_X11_again_20 fun D => (qC fl_X11_24 rfl D fun D => (q1 (s_aldn (n := 0) (i := 0) rfl) D fun D => (qC fl_X11_28 rfl D fun D => (q1 (s_ildn (n := 1) (i := 1) rfl) D fun D => (q1 s_aald D fun D => (qX (s_callV kX8 rfl ok_X8_copyFrom mo_X8_copyFrom (ch_4_14_ok.2.2.2.2.2.2.2.1.1 rfl) (ch_4_14_ok.2.2.2.2.2.2.2.2.1.1 rfl) (ch_4_14_ok.2.2.2.2.2.2.2.2.2.1.1 rfl)) rfl (by decide) D fun D => (q1 (s_iconst (n := 1) (v := 1) (by decide)) D fun D => (qZ rfl D))))))))) fun D => (q1 (s_iconst (n := 0) (v := 0) (by decide)) D fun D => (qZ rfl D))))))))))))
def T_X11_again : Tr := fun av h Q => c1 2 av ∧ b_X11_again_0 Q (ent 2 av) [] h
theorem ok_X11_again : ctr 4 MX11_again T_X11_again := ctr_of pn_X11 wc_X11_again (fun av h Q hT => ⟨c1_ok hT.1, s_X11_again_0 Q _ _ _ hT.2⟩)

theorem again_go {h : Hp} (hl : LayX h) {k : Int32} {Q : Option Value → Hp → Prop} (h0 : (¬ ∃ j, j < 3 ∧ k = nI j) → Q (some (.int 0)) h) (h1 : ∀ j, j < 3 → k = nI j → (hR h 30 j = none → Q (some (.int 0)) h) ∧ ∀ b, hR h 30 j = some b → T_X8_copyFrom [.ref 3, .ref b] h (fun _ h' => Q (some (.int 1)) h')) : T_X11_again [.ref 0, .int k] h Q := by
  have e33 : ∀ A h', Q (some (.int 1)) h' → c_X11_again_33 Q A [] h' := fun A h' w => by
    simp only [c_X11_again_33, i_push, i_ild, i_ald, i_ist, i_ast, i_inc, i_bin, i_un, i_divs, i_i2l, i_lshl, i_lor, i_dup, i_dup2, i_pop, i_if, i_cmp, i_nul, i_vret, i_iret, i_zret, i_aret, i_keep, keep, lget, lset, ent, i_getI, i_getJ, i_getR, i_getN, i_putI, i_putZ, i_putJ, i_putR, i_iald, i_bald, i_alen, i_aald, i_iast, i_bast, i_aast, i_new, i_newa, i_anew, i_oini, i_callS, i_callV, i_callI, popn, sh4, i_sw, swP, i_copy, i_binS, List.map, Option.toList_none, Option.toList_some, List.append, List.nil_append, List.cons_append, List.length_cons, List.length_nil, List.replicate, Nat.sub_self, Nat.reduceSub, Nat.reduceAdd, hK_pX, hL_pX, hI_pX, hR_pX, hJ_pX, hT_pX, hS_pX, hK_pR, hL_pR, hI_pR, hR_pR, hJ_pR, hT_pR, hS_pR, hK_pJ, hL_pJ, hI_pJ, hR_pJ, hJ_pJ, hT_pJ, hS_pJ, hK_wI, hL_wI, hI_wI, hR_wI, hJ_wI, hT_wI, hS_wI, eq_self, and_true, true_and, and_false, false_and, or_true, true_or, or_false, false_or, if_true, if_false, not_true_eq_false, not_false_eq_true, forall_const, implies_true, false_implies, true_implies, Option.some.injEq, forall_eq', exists_eq_left', reduceCtorEq, Nat.reduceEqDiff, c1, T_X12_in, T_X12_ones, T_X11_within, T_X11_bit, T_X11_isIn, T_X11_oneIfIn, T_J6_bitCount_0f7a4]
    exact w
  have h3 : (3 : Int32) = nI 3 := rfl
  unfold T_X11_again
  by_cases c : ∃ j, j < 3 ∧ k = nI j
  · obtain ⟨j, hj, rfl⟩ := c
    obtain ⟨g1, g2⟩ := ix_no (P := 3) (by decide) hj
    obtain ⟨y0, y1⟩ := h1 j hj rfl
    cases hb : hR h 30 j with
    | none =>
      simp only [b_X11_again_0, lx_pI, lx_wI, lx_t hl, lx_k hl, lx_r hl, lx_l hl, i_push, i_ild, i_ald, i_ist, i_ast, i_inc, i_bin, i_un, i_divs, i_i2l, i_lshl, i_lor, i_dup, i_dup2, i_pop, i_if, i_cmp, i_nul, i_vret, i_iret, i_zret, i_aret, i_keep, keep, lget, lset, ent, i_getI, i_getJ, i_getR, i_getN, i_putI, i_putZ, i_putJ, i_putR, i_iald, i_bald, i_alen, i_aald, i_iast, i_bast, i_aast, i_new, i_newa, i_anew, i_oini, i_callS, i_callV, i_callI, popn, sh4, i_sw, swP, i_copy, i_binS, List.map, Option.toList_none, Option.toList_some, List.append, List.nil_append, List.cons_append, List.length_cons, List.length_nil, List.replicate, Nat.sub_self, Nat.reduceSub, Nat.reduceAdd, hK_pX, hL_pX, hI_pX, hR_pX, hJ_pX, hT_pX, hS_pX, hK_pR, hL_pR, hI_pR, hR_pR, hJ_pR, hT_pR, hS_pR, hK_pJ, hL_pJ, hI_pJ, hR_pJ, hJ_pJ, hT_pJ, hS_pJ, hK_wI, hL_wI, hI_wI, hR_wI, hJ_wI, hT_wI, hS_wI, eq_self, and_true, true_and, and_false, false_and, or_true, true_or, or_false, false_or, if_true, if_false, not_true_eq_false, not_false_eq_true, forall_const, implies_true, false_implies, true_implies, Option.some.injEq, forall_eq', exists_eq_left', reduceCtorEq, Nat.reduceEqDiff, c1, T_X12_in, T_X12_ones, T_X11_within, T_X11_bit, T_X11_isIn, T_X11_oneIfIn, T_J6_bitCount_0f7a4, g1, h3, g2, cl_nI (show j < 2147483648 by omega), in_nI (show j < 3 by omega) (by decide), hb]
      exact y0 hb
    | some b =>
      have y2 : T_X8_copyFrom [.ref 3, .ref b] h (fun r h' => c_X11_again_33 Q [some (.ref 0), some (.int (nI j))] (r.toList ++ []) h') := by
        obtain ⟨r, r', q, w1, w2, w3, w4, w5⟩ := y1 b hb
        exact ⟨r, r', q, w1, w2, w3, w4, e33 _ _ w5⟩
      have kb : b < hT h ∧ hK h b = 8 := by
        obtain ⟨r, r', q, w1, w2, w3, w4, w5⟩ := y1 b hb
        exact ⟨w1.1, w1.2.2.1⟩
      simp only [b_X11_again_0, lx_pI, lx_wI, lx_t hl, lx_k hl, lx_r hl, lx_l hl, i_push, i_ild, i_ald, i_ist, i_ast, i_inc, i_bin, i_un, i_divs, i_i2l, i_lshl, i_lor, i_dup, i_dup2, i_pop, i_if, i_cmp, i_nul, i_vret, i_iret, i_zret, i_aret, i_keep, keep, lget, lset, ent, i_getI, i_getJ, i_getR, i_getN, i_putI, i_putZ, i_putJ, i_putR, i_iald, i_bald, i_alen, i_aald, i_iast, i_bast, i_aast, i_new, i_newa, i_anew, i_oini, i_callS, i_callV, i_callI, popn, sh4, i_sw, swP, i_copy, i_binS, List.map, Option.toList_none, Option.toList_some, List.append, List.nil_append, List.cons_append, List.length_cons, List.length_nil, List.replicate, Nat.sub_self, Nat.reduceSub, Nat.reduceAdd, hK_pX, hL_pX, hI_pX, hR_pX, hJ_pX, hT_pX, hS_pX, hK_pR, hL_pR, hI_pR, hR_pR, hJ_pR, hT_pR, hS_pR, hK_pJ, hL_pJ, hI_pJ, hR_pJ, hJ_pJ, hT_pJ, hS_pJ, hK_wI, hL_wI, hI_wI, hR_wI, hJ_wI, hT_wI, hS_wI, eq_self, and_true, true_and, and_false, false_and, or_true, true_or, or_false, false_or, if_true, if_false, not_true_eq_false, not_false_eq_true, forall_const, implies_true, false_implies, true_implies, Option.some.injEq, forall_eq', exists_eq_left', reduceCtorEq, Nat.reduceEqDiff, c1, T_X12_in, T_X12_ones, T_X11_within, T_X11_bit, T_X11_isIn, T_X11_oneIfIn, T_J6_bitCount_0f7a4, g1, h3, g2, cl_nI (show j < 2147483648 by omega), in_nI (show j < 3 by omega) (by decide), hb, kb]
      exact y2
  · simp only [b_X11_again_0, lx_pI, lx_wI, lx_t hl, lx_k hl, lx_r hl, lx_l hl, i_push, i_ild, i_ald, i_ist, i_ast, i_inc, i_bin, i_un, i_divs, i_i2l, i_lshl, i_lor, i_dup, i_dup2, i_pop, i_if, i_cmp, i_nul, i_vret, i_iret, i_zret, i_aret, i_keep, keep, lget, lset, ent, i_getI, i_getJ, i_getR, i_getN, i_putI, i_putZ, i_putJ, i_putR, i_iald, i_bald, i_alen, i_aald, i_iast, i_bast, i_aast, i_new, i_newa, i_anew, i_oini, i_callS, i_callV, i_callI, popn, sh4, i_sw, swP, i_copy, i_binS, List.map, Option.toList_none, Option.toList_some, List.append, List.nil_append, List.cons_append, List.length_cons, List.length_nil, List.replicate, Nat.sub_self, Nat.reduceSub, Nat.reduceAdd, hK_pX, hL_pX, hI_pX, hR_pX, hJ_pX, hT_pX, hS_pX, hK_pR, hL_pR, hI_pR, hR_pR, hJ_pR, hT_pR, hS_pR, hK_pJ, hL_pJ, hI_pJ, hR_pJ, hJ_pJ, hT_pJ, hS_pJ, hK_wI, hL_wI, hI_wI, hR_wI, hJ_wI, hT_wI, hS_wI, eq_self, and_true, true_and, and_false, false_and, or_true, true_or, or_false, false_or, if_true, if_false, not_true_eq_false, not_false_eq_true, forall_const, implies_true, false_implies, true_implies, Option.some.injEq, forall_eq', exists_eq_left', reduceCtorEq, Nat.reduceEqDiff, c1, T_X12_in, T_X12_ones, T_X11_within, T_X11_bit, T_X11_isIn, T_X11_oneIfIn, T_J6_bitCount_0f7a4, h3]
    refine ⟨fun _ => h0 c, fun z1 => ⟨fun _ => h0 c, fun z2 => absurd (ix_of (P := 3) (by decide) z1 z2) c⟩⟩
theorem st_again {h : Hp} (hc : CP h) (k : Int32) : SOK 4 MX11_again 2 MX12_again [.int k] h := by
  have hl := hc.1
  have hm := hc.2.1
  have him := hc.2.2.2.2
  have e3 : (2 : Int32) = nI 3 - 1 := by decide
  have e33 : ∀ (Q : Option Value → Hp → Prop) A h', Q (some (.int 1)) h' → c_X12_again_33 Q A [] h' := fun Q A h' w => by
    simp only [c_X12_again_33, i_push, i_ild, i_ald, i_ist, i_ast, i_inc, i_bin, i_un, i_divs, i_i2l, i_lshl, i_lor, i_dup, i_dup2, i_pop, i_if, i_cmp, i_nul, i_vret, i_iret, i_zret, i_aret, i_keep, keep, lget, lset, ent, i_getI, i_getJ, i_getR, i_getN, i_putI, i_putZ, i_putJ, i_putR, i_iald, i_bald, i_alen, i_aald, i_iast, i_bast, i_aast, i_new, i_newa, i_anew, i_oini, i_callS, i_callV, i_callI, popn, sh4, i_sw, swP, i_copy, i_binS, List.map, Option.toList_none, Option.toList_some, List.append, List.nil_append, List.cons_append, List.length_cons, List.length_nil, List.replicate, Nat.sub_self, Nat.reduceSub, Nat.reduceAdd, hK_pX, hL_pX, hI_pX, hR_pX, hJ_pX, hT_pX, hS_pX, hK_pR, hL_pR, hI_pR, hR_pR, hJ_pR, hT_pR, hS_pR, hK_pJ, hL_pJ, hI_pJ, hR_pJ, hJ_pJ, hT_pJ, hS_pJ, hK_wI, hL_wI, hI_wI, hR_wI, hJ_wI, hT_wI, hS_wI, eq_self, and_true, true_and, and_false, false_and, or_true, true_or, or_false, false_or, if_true, if_false, not_true_eq_false, not_false_eq_true, forall_const, implies_true, false_implies, true_implies, Option.some.injEq, forall_eq', exists_eq_left', reduceCtorEq, Nat.reduceEqDiff, c1, T_X12_in, T_X12_ones, T_X11_within, T_X11_bit, T_X11_isIn, T_X11_oneIfIn, T_J6_bitCount_0f7a4]
    exact w
  by_cases c : ∃ j, j < 3 ∧ k = nI j
  · obtain ⟨j, hj, rfl⟩ := c
    rcases him.1 j hj with ⟨z, hb⟩ | ⟨z, b, hb, b9, R, P, H, E, Ln, q, np, hs⟩
    · refine rd 0 hc (fun Q hq => ok_X11_again _ _ _ (again_go hl (fun w => absurd ⟨j, hj, rfl⟩ w) (fun j' hj' ej => ?_))) (fun Q hq => ok_X12_again _ _ _ ?_)
      · have : j' = j := (nI_eq (by omega) (by omega)).mp ej.symm
        subst this
        exact ⟨fun _ => hq, fun b hb' => by rw [hb] at hb'; cases hb'⟩
      · have hl := hm
        unfold T_X12_again
        simp only [b_X12_again_0, hl, lay_pI, lay_wI, lay_pJ, lm_t hl, lm_k hl, lm_r hl, lm_l hl, i_push, i_ild, i_ald, i_ist, i_ast, i_inc, i_bin, i_un, i_divs, i_i2l, i_lshl, i_lor, i_dup, i_dup2, i_pop, i_if, i_cmp, i_nul, i_vret, i_iret, i_zret, i_aret, i_keep, keep, lget, lset, ent, i_getI, i_getJ, i_getR, i_getN, i_putI, i_putZ, i_putJ, i_putR, i_iald, i_bald, i_alen, i_aald, i_iast, i_bast, i_aast, i_new, i_newa, i_anew, i_oini, i_callS, i_callV, i_callI, popn, sh4, i_sw, swP, i_copy, i_binS, List.map, Option.toList_none, Option.toList_some, List.append, List.nil_append, List.cons_append, List.length_cons, List.length_nil, List.replicate, Nat.sub_self, Nat.reduceSub, Nat.reduceAdd, hK_pX, hL_pX, hI_pX, hR_pX, hJ_pX, hT_pX, hS_pX, hK_pR, hL_pR, hI_pR, hR_pR, hJ_pR, hT_pR, hS_pR, hK_pJ, hL_pJ, hI_pJ, hR_pJ, hJ_pJ, hT_pJ, hS_pJ, hK_wI, hL_wI, hI_wI, hR_wI, hJ_wI, hT_wI, hS_wI, eq_self, and_true, true_and, and_false, false_and, or_true, true_or, or_false, false_or, if_true, if_false, not_true_eq_false, not_false_eq_true, forall_const, implies_true, false_implies, true_implies, Option.some.injEq, forall_eq', exists_eq_left', reduceCtorEq, Nat.reduceEqDiff, c1, T_X12_in, T_X12_ones, T_X11_within, T_X11_bit, T_X11_isIn, T_X11_oneIfIn, T_J6_bitCount_0f7a4, b2i_0, e3, per_ix (show 3 ≤ 100000 by decide), cl_nI (show j < 2147483648 by omega), in_nI (show j < 3 by omega) (by decide), z]
        exact ⟨fun w => absurd ⟨j, hj, rfl⟩ w, fun _ => hq⟩
    · have hd : b + 1 + 17 < 12 ∨ 12 + 17 < b + 1 := Or.inr (by omega)
      obtain ⟨f1, f2, f3, f4, f5, f6, f7, f8⟩ := cpS8_f h (s := b) (s' := 3) hd
      have l1 : LayS h b (b + 1) := hs.1
      have hb3 : b ≠ 3 := by omega
      have l3 : LayS h 3 12 := hl.s
      have cls : ∀ Q : Option Value → Hp → Prop, Q (some (.int 1)) (cpS8 h b (b + 1) 3 12) → cal 4 MX11_again [.ref 0, .int (nI j)] h Q := fun Q hq => ok_X11_again _ _ _ (again_go hl (fun w => absurd ⟨j, hj, rfl⟩ w) (fun j' hj' ej => by
        have : j' = j := (nI_eq (by omega) (by omega)).mp ej.symm
        subst this
        refine ⟨fun w => ?_, fun b' hb' => ?_⟩
        · rw [hb] at w; cases w
        · rw [hb] at hb'; cases hb'
          exact ⟨b + 1, 12, q, l1, l3, hb3, hs.2.1, hq⟩))
      generalize cpS8 h b (b + 1) 3 12 = hA at f1 f2 f3 f4 f5 f6 f7 f8 cls
      have mA : LayM hA := LayM_of hm (by rw [f7]; exact hm.1) (fun a _ _ => by rw [f5]) (fun a _ _ => by rw [f6]) (fun i => f4 44 i (by omega))
      have z89 : hI hA 89 j = 1 := (f2 89 j (by omega)).trans z
      have mB : LayM (pI hA 44 0 0) := mA.pI _ _ _
      have iB : ∀ a i, hI (cpU (pI hA 44 0 0) (j + 1) 0 80) a i = if (46 ≤ a ∧ a < 80) ∧ szA a * 0 ≤ i ∧ i < szA a * 0 + szA a then hI (pI hA 44 0 0) a (szA a * (j + 1) + (i - szA a * 0)) else hI (pI hA 44 0 0) a i := fun a i => rfl
      have kB : hK (cpU (pI hA 44 0 0) (j + 1) 0 80) = hK hA ∧ hL (cpU (pI hA 44 0 0) (j + 1) 0 80) = hL hA ∧ hR (cpU (pI hA 44 0 0) (j + 1) 0 80) = hR hA ∧ hT (cpU (pI hA 44 0 0) (j + 1) 0 80) = hT hA ∧ hS (cpU (pI hA 44 0 0) (j + 1) 0 80) = hS hA := ⟨rfl, rfl, rfl, rfl, rfl⟩
      refine wr 1 hA (cpU (pI hA 44 0 0) (j + 1) 0 80) cls (fun Q hq => ok_X12_again _ _ _ ?_) ?_ (by rw [kB.2.2.2.1, f7]; exact Nat.le_add_right _ _) (by rw [kB.2.2.2.2, f8]; exact Nat.le_add_right _ _) (lm_k mA).1
      · have hl := mA
        have hcp : T_X12_copy [.ref 44, .int (nI j + 1), .int 0] (pI hA 44 0 0) (fun r h' => c_X12_again_33 Q [some (.ref 44), some (.int (nI j))] (r.toList ++ []) h') := ⟨j + 1, 0, nI_1 j, rfl, rfl, mB, by omega, by omega, by decide, e33 Q _ _ hq⟩
        unfold T_X12_again
        simp only [b_X12_again_0, hl, lay_pI, lay_wI, lay_pJ, lm_t hl, lm_k hl, lm_r hl, lm_l hl, i_push, i_ild, i_ald, i_ist, i_ast, i_inc, i_bin, i_un, i_divs, i_i2l, i_lshl, i_lor, i_dup, i_dup2, i_pop, i_if, i_cmp, i_nul, i_vret, i_iret, i_zret, i_aret, i_keep, keep, lget, lset, ent, i_getI, i_getJ, i_getR, i_getN, i_putI, i_putZ, i_putJ, i_putR, i_iald, i_bald, i_alen, i_aald, i_iast, i_bast, i_aast, i_new, i_newa, i_anew, i_oini, i_callS, i_callV, i_callI, popn, sh4, i_sw, swP, i_copy, i_binS, List.map, Option.toList_none, Option.toList_some, List.append, List.nil_append, List.cons_append, List.length_cons, List.length_nil, List.replicate, Nat.sub_self, Nat.reduceSub, Nat.reduceAdd, hK_pX, hL_pX, hI_pX, hR_pX, hJ_pX, hT_pX, hS_pX, hK_pR, hL_pR, hI_pR, hR_pR, hJ_pR, hT_pR, hS_pR, hK_pJ, hL_pJ, hI_pJ, hR_pJ, hJ_pJ, hT_pJ, hS_pJ, hK_wI, hL_wI, hI_wI, hR_wI, hJ_wI, hT_wI, hS_wI, eq_self, and_true, true_and, and_false, false_and, or_true, true_or, or_false, false_or, if_true, if_false, not_true_eq_false, not_false_eq_true, forall_const, implies_true, false_implies, true_implies, Option.some.injEq, forall_eq', exists_eq_left', reduceCtorEq, Nat.reduceEqDiff, c1, T_X12_in, T_X12_ones, T_X11_within, T_X11_bit, T_X11_isIn, T_X11_oneIfIn, T_J6_bitCount_0f7a4, b2i_0, e3, per_ix (show 3 ≤ 100000 by decide), cl_nI (show j < 2147483648 by omega), in_nI (show j < 3 by omega) (by decide), z89, show ¬ (1 : Int32) = 0 by decide]
        exact ⟨fun w => absurd ⟨j, hj, rfl⟩ w, fun _ => hcp⟩
      · generalize cpU (pI hA 44 0 0) (j + 1) 0 80 = h2 at iB kB ⊢
        obtain ⟨k1, k2, k3, k4, k5⟩ := kB
        have iP : ∀ a i, ¬ (a = 44 ∧ i = 0) → hI (pI hA 44 0 0) a i = hI hA a i := fun a i n1 => by rw [hI_pX, if_neg n1]
        have o : ∀ a i, ¬ (46 ≤ a ∧ a < 80 ∧ i < szA a) → ¬ (a = 44 ∧ i = 0) → ¬ (12 ≤ a ∧ a ≤ 29) → hI h2 a i = hI h a i := fun a i n1 n2 n3 => by
          rw [iB, if_neg (fun w => n1 ⟨w.1.1, w.1.2, by have := w.2.2; rw [Nat.mul_zero, Nat.zero_add] at this; exact this⟩), iP a i n2, f2 a i n3]
        have kp : Kp h h2 := ⟨by rw [k4, f7]; exact Nat.le_refl _, fun a _ => ⟨by rw [k1, f5], by rw [k2, f6]⟩, fun a i _ ha => ⟨o a i (by omega) (by omega) (by omega), by rw [k3]; exact f4 a i (by omega)⟩⟩
        have lX : LayX h2 := LayX_of hl (by rw [k4, f7]; exact hl.1) (fun a _ => by rw [k1, f5]) (fun a _ => by rw [k2, f6]) (fun a i _ n3 _ => by rw [k3]; exact f4 a i (by omega))
        have lM : LayM h2 := LayM_of hm (by rw [k4, f7]; exact hm.1) (fun a _ _ => by rw [k1, f5]) (fun a _ _ => by rw [k2, f6]) (fun i => by rw [k3]; exact f4 44 i (by omega))
        refine ⟨lX, lM, TF.c (funext fun i => o 0 i (by omega) (by omega) (by omega)) (funext fun i => o 1 i (by omega) (by omega) (by omega)) (funext fun i => o 2 i (by omega) (by omega) (by omega)) (funext fun i => o 45 i (by omega) (by omega) (by omega)) (fun i hi => o 44 i (by omega) (by omega) (by omega)) hc.2.2.1, ⟨R, P, H, E, Ln, q, np, ?_⟩, him.kp kp (fun a i a1 a2 a3 => o a i (by omega) (by omega) (by omega)) (fun i _ => o 89 i (by omega) (by omega) (by omega)) (fun i _ => by rw [k3]; exact f4 30 i (by omega))⟩
        refine ST.mv kp.q lX.s (by rw [k3]; exact f3.1) (by rw [k3]; exact f3.2) (fun a i hcs => ?_) (fun a i a1 a2 a3 => ?_) hs
        · have ha : a ≤ 17 := lc_St (lc_Sc hcs)
          rw [iB, if_neg (by omega), iP _ _ (by omega)]
          exact f1 a i hcs
        · rw [iB, if_pos ⟨⟨a1, by omega⟩, by rw [Nat.mul_zero]; exact Nat.zero_le _, by rw [Nat.mul_zero, Nat.zero_add]; exact a3⟩, Nat.mul_zero, Nat.sub_zero, iP _ _ (by omega), f2 _ _ (by omega)]
          rfl
  · refine rd 0 hc (fun Q hq => ok_X11_again _ _ _ (again_go hl (fun _ => hq) (fun j' hj' ej => absurd ⟨j', hj', ej⟩ c))) (fun Q hq => ok_X12_again _ _ _ ?_)
    have hl := hm
    unfold T_X12_again
    simp only [b_X12_again_0, hl, lay_pI, lay_wI, lay_pJ, lm_t hl, lm_k hl, lm_r hl, lm_l hl, i_push, i_ild, i_ald, i_ist, i_ast, i_inc, i_bin, i_un, i_divs, i_i2l, i_lshl, i_lor, i_dup, i_dup2, i_pop, i_if, i_cmp, i_nul, i_vret, i_iret, i_zret, i_aret, i_keep, keep, lget, lset, ent, i_getI, i_getJ, i_getR, i_getN, i_putI, i_putZ, i_putJ, i_putR, i_iald, i_bald, i_alen, i_aald, i_iast, i_bast, i_aast, i_new, i_newa, i_anew, i_oini, i_callS, i_callV, i_callI, popn, sh4, i_sw, swP, i_copy, i_binS, List.map, Option.toList_none, Option.toList_some, List.append, List.nil_append, List.cons_append, List.length_cons, List.length_nil, List.replicate, Nat.sub_self, Nat.reduceSub, Nat.reduceAdd, hK_pX, hL_pX, hI_pX, hR_pX, hJ_pX, hT_pX, hS_pX, hK_pR, hL_pR, hI_pR, hR_pR, hJ_pR, hT_pR, hS_pR, hK_pJ, hL_pJ, hI_pJ, hR_pJ, hJ_pJ, hT_pJ, hS_pJ, hK_wI, hL_wI, hI_wI, hR_wI, hJ_wI, hT_wI, hS_wI, eq_self, and_true, true_and, and_false, false_and, or_true, true_or, or_false, false_or, if_true, if_false, not_true_eq_false, not_false_eq_true, forall_const, implies_true, false_implies, true_implies, Option.some.injEq, forall_eq', exists_eq_left', reduceCtorEq, Nat.reduceEqDiff, c1, T_X12_in, T_X12_ones, T_X11_within, T_X11_bit, T_X11_isIn, T_X11_oneIfIn, T_J6_bitCount_0f7a4, b2i_0, e3, per_ix (show 3 ≤ 100000 by decide), c]
    exact hq
