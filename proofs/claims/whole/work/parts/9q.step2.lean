/-! ===== steps: called, told, count, book ===== -/
def L_X11_called : List UInt8 := [42, 180, 0, 24, 180, 0, 180, 198, 0, 38, 42, 180, 0, 24, 180, 0, 130, 27, 182, 0, 193, 153, 0, 24, 42, 180, 0, 24, 180, 0, 180, 180, 0, 194, 27, 184, 0, 119, 153, 0, 7, 4, 167, 0, 4, 3, 172]
theorem Lc_X11_called : MX11_called.2.1 = ⟨L_X11_called.toArray⟩ := rfl
theorem D_X11_called_0 : dseq MX11_called.2.1 0 [(.aload_n 0, 1), (.getfield 24, 3), (.getfield 180, 3), (.ifnull 38, 3), (.aload_n 0, 1), (.getfield 24, 3), (.getfield 130, 3), (.iload_n 1, 1), (.invokevirtual 193, 3), (.ifCond .eq 24, 3), (.aload_n 0, 1), (.getfield 24, 3), (.getfield 180, 3), (.getfield 194, 3), (.iload_n 1, 1), (.invokestatic 119, 3), (.ifCond .eq 7, 3), (.iconst 1, 1), (.goto 4, 3)] := dq Lc_X11_called 0 _ (by decide +kernel)
theorem D_X11_called_45 : dseq MX11_called.2.1 45 [(.iconst 0, 1), (.ireturn, 1)] := dq Lc_X11_called 45 _ (by decide +kernel)
theorem D_X11_called_46 : dseq MX11_called.2.1 46 [(.ireturn, 1)] := dq Lc_X11_called 46 _ (by decide +kernel)
def c_X11_called_21 (Q : Option Value → Hp → Prop) : Kt := i_if (fun x => x = 0) (i_push (.int 0) (i_zret Q)) (i_ald 0 (i_getR 11 1 (i_getN 8 4 (i_getI 1 5 (i_ild 1 (i_callS 2 T_X11_isIn (i_if (fun x => x = 0) (i_push (.int 0) (i_zret Q)) (i_push (.int 1) (i_zret Q)))))))))
def b_X11_called_0 (Q : Option Value → Hp → Prop) : Kt := i_ald 0 (i_getR 11 1 (i_getN 8 4 (i_nul (i_push (.int 0) (i_zret Q)) (i_ald 0 (i_getR 11 1 (i_getR 8 2 (i_ild 1 (i_callV 0 1 T_X0_has (c_X11_called_21 Q)))))))))
set_option maxRecDepth 100000 in
theorem s_X11_called_0 (Q : Option Value → Hp → Prop) : ∀ A st h, b_X11_called_0 Q A st h → wp 1 MX11_called Q 0 A st h := (q1 (s_aldn (n := 0) (i := 0) rfl) D_X11_called_0 fun D => (qC fl_X11_24 rfl D fun D => (qC fl_X11_180 rfl D fun D => (qB s_ifnull 45 (by decide) D (q1 (s_iconst (n := 0) (v := 0) (by decide)) D_X11_called_45 fun D => (qZ rfl D)) fun D => (q1 (s_aldn (n := 0) (i := 0) rfl) D fun D => (qC fl_X11_24 rfl D fun D => (qC fl_X11_130 rfl D fun D => (q1 (s_ildn (n := 1) (i := 1) rfl) D fun D => (qX (s_callV kX0 rfl ok_X0_has mo_X0_has (ch_4_12_ok.2.2.2.2.1.1 rfl) (ch_4_12_ok.2.2.2.2.2.1.1 rfl) (ch_4_12_ok.2.2.2.2.2.2.1.1 rfl)) rfl (by decide) D fun D => (qB s_ifeq 45 (by decide) D (q1 (s_iconst (n := 0) (v := 0) (by decide)) D_X11_called_45 fun D => (qZ rfl D)) fun D => (q1 (s_aldn (n := 0) (i := 0) rfl) D fun D => (qC fl_X11_24 rfl D fun D => (qC fl_X11_180 rfl D fun D => (qC fl_X11_194 rfl D fun D => (q1 (s_ildn (n := 1) (i := 1) rfl) D fun D => (qX (s_callS ok_X11_isIn mo_X11_isIn (ch_3_7_ok.2.2.2.1.1 rfl) (ch_3_7_ok.2.2.2.2.1.1 rfl)) rfl (by decide) D fun D => (qB s_ifeq 45 (by decide) D (q1 (s_iconst (n := 0) (v := 0) (by decide)) D_X11_called_45 fun D => (qZ rfl D)) fun D => (q1 (s_iconst (n := 1) (v := 1) (by decide)) D fun D => (qG 46 (by decide) D (qZ rfl D_X11_called_46))))))))))))))))))))
def T_X11_called : Tr := fun av h Q => c1 2 av ∧ b_X11_called_0 Q (ent 2 av) [] h
theorem ok_X11_called : ctr 1 MX11_called T_X11_called := ctr_of pn_X11 wc_X11_called (fun av h Q hT => ⟨c1_ok hT.1, s_X11_called_0 Q _ _ _ hT.2⟩)

theorem st_called {h : Hp} (hc : CP h) (p : Int32) : SOK 1 MX11_called 2 MX12_called [.int p] h := by
  have hl := hc.1
  have hm := hc.2.1
  obtain ⟨R, P, H, E, Ln, q, np, hs⟩ := hc.2.2.2.1
  obtain ⟨a1, a2, a3, a4, a5, a6, a7, a8, a9, a10, a11, a12, a13⟩ := id hs
  have h25 : hI h 25 0 = nI H := a7.2.1
  have h64 : hI h 64 0 = nI H := a7.2.2.1
  have hH := a7.1
  cases E with
  | zero =>
    have hn : hR h 3 4 = none := a12
    refine rd 0 hc (fun Q hq => ok_X11_called _ _ _ ?_) (fun Q hq => ok_X12_called _ _ _ ?_)
    · unfold T_X11_called
      simp only [b_X11_called_0, lx_pI, lx_wI, lx_t hl, lx_k hl, lx_r hl, lx_l hl, i_push, i_ild, i_ald, i_ist, i_ast, i_inc, i_bin, i_un, i_divs, i_i2l, i_lshl, i_lor, i_dup, i_dup2, i_pop, i_if, i_cmp, i_nul, i_vret, i_iret, i_zret, i_aret, i_keep, keep, lget, lset, ent, i_getI, i_getJ, i_getR, i_getN, i_putI, i_putZ, i_putJ, i_putR, i_iald, i_bald, i_alen, i_aald, i_iast, i_bast, i_aast, i_new, i_newa, i_anew, i_oini, i_callS, i_callV, i_callI, popn, sh4, i_sw, swP, i_copy, i_binS, List.map, Option.toList_none, Option.toList_some, List.append, List.nil_append, List.cons_append, List.length_cons, List.length_nil, List.replicate, Nat.sub_self, Nat.reduceSub, Nat.reduceAdd, hK_pI, hL_pI, hI_pI, hR_pI, hJ_pI, hT_pI, hS_pI, hK_pR, hL_pR, hI_pR, hR_pR, hJ_pR, hT_pR, hS_pR, hK_pJ, hL_pJ, hI_pJ, hR_pJ, hJ_pJ, hT_pJ, hS_pJ, hK_wI, hL_wI, hI_wI, hR_wI, hJ_wI, hT_wI, hS_wI, eq_self, and_true, true_and, and_false, false_and, or_true, true_or, or_false, false_or, if_true, if_false, not_true_eq_false, not_false_eq_true, forall_const, implies_true, false_implies, true_implies, Option.some.injEq, forall_eq', exists_eq_left', reduceCtorEq, Nat.reduceEqDiff, c1, T_X12_in, T_X12_ones, T_X11_within, T_X11_bit, T_X11_isIn, T_X11_oneIfIn, T_J6_bitCount_0f7a4, hn]
      exact hq
    · have hl := hm
      have e0 : nI 0 ≤ 0 := by decide
      unfold T_X12_called
      simp only [b_X12_called_0, T_X12_isHelper, hl, lay_pI, lay_wI, lay_pJ, lm_t hl, lm_k hl, lm_r hl, lm_l hl, i_push, i_ild, i_ald, i_ist, i_ast, i_inc, i_bin, i_un, i_divs, i_i2l, i_lshl, i_lor, i_dup, i_dup2, i_pop, i_if, i_cmp, i_nul, i_vret, i_iret, i_zret, i_aret, i_keep, keep, lget, lset, ent, i_getI, i_getJ, i_getR, i_getN, i_putI, i_putZ, i_putJ, i_putR, i_iald, i_bald, i_alen, i_aald, i_iast, i_bast, i_aast, i_new, i_newa, i_anew, i_oini, i_callS, i_callV, i_callI, popn, sh4, i_sw, swP, i_copy, i_binS, List.map, Option.toList_none, Option.toList_some, List.append, List.nil_append, List.cons_append, List.length_cons, List.length_nil, List.replicate, Nat.sub_self, Nat.reduceSub, Nat.reduceAdd, hK_pI, hL_pI, hI_pI, hR_pI, hJ_pI, hT_pI, hS_pI, hK_pR, hL_pR, hI_pR, hR_pR, hJ_pR, hT_pR, hS_pR, hK_pJ, hL_pJ, hI_pJ, hR_pJ, hJ_pJ, hT_pJ, hS_pJ, hK_wI, hL_wI, hI_wI, hR_wI, hJ_wI, hT_wI, hS_wI, eq_self, and_true, true_and, and_false, false_and, or_true, true_or, or_false, false_or, if_true, if_false, not_true_eq_false, not_false_eq_true, forall_const, implies_true, false_implies, true_implies, Option.some.injEq, forall_eq', exists_eq_left', reduceCtorEq, Nat.reduceEqDiff, c1, T_X12_in, T_X12_ones, T_X11_within, T_X11_bit, T_X11_isIn, T_X11_oneIfIn, T_J6_bitCount_0f7a4, h64, a11, in0 4 (by decide) (by decide), cl0, e0]
      exact ⟨fun _ => hq, fun _ => hq⟩
  | succ e =>
    obtain ⟨n, Rn, d1, c2, c3, c4, c5, c6, c7, _⟩ := a12
    have hf := c2.f
    have e0 : ¬ nI (e + 1) ≤ 0 := nI_nle (by omega) (by omega)
    have ei : 10 * (nI (e + 1) - 1) + 2 = nI (10 * e + 2) := (ev_ix (E := e + 1) 2 (by omega) (by omega)).trans (by rw [Nat.add_sub_cancel])
    by_cases c : ∃ k, k < H ∧ p = nI k
    · obtain ⟨k, hk, rfl⟩ := c
      refine rd (b2i (bt (hI h 77 (10 * e + 2)) k = true)) hc (fun Q hq => ok_X11_called _ _ _ ?_) (fun Q hq => ok_X12_called _ _ _ ?_)
      · have h21 : c_X11_called_21 Q [some (.ref 0), some (.int (nI k))] [.int 1] h := by
          simp only [c_X11_called_21, lx_pI, lx_wI, lx_t hl, lx_k hl, lx_r hl, lx_l hl, i_push, i_ild, i_ald, i_ist, i_ast, i_inc, i_bin, i_un, i_divs, i_i2l, i_lshl, i_lor, i_dup, i_dup2, i_pop, i_if, i_cmp, i_nul, i_vret, i_iret, i_zret, i_aret, i_keep, keep, lget, lset, ent, i_getI, i_getJ, i_getR, i_getN, i_putI, i_putZ, i_putJ, i_putR, i_iald, i_bald, i_alen, i_aald, i_iast, i_bast, i_aast, i_new, i_newa, i_anew, i_oini, i_callS, i_callV, i_callI, popn, sh4, i_sw, swP, i_copy, i_binS, List.map, Option.toList_none, Option.toList_some, List.append, List.nil_append, List.cons_append, List.length_cons, List.length_nil, List.replicate, Nat.sub_self, Nat.reduceSub, Nat.reduceAdd, hK_pI, hL_pI, hI_pI, hR_pI, hJ_pI, hT_pI, hS_pI, hK_pR, hL_pR, hI_pR, hR_pR, hJ_pR, hT_pR, hS_pR, hK_pJ, hL_pJ, hI_pJ, hR_pJ, hJ_pJ, hT_pJ, hS_pJ, hK_wI, hL_wI, hI_wI, hR_wI, hJ_wI, hT_wI, hS_wI, eq_self, and_true, true_and, and_false, false_and, or_true, true_or, or_false, false_or, if_true, if_false, not_true_eq_false, not_false_eq_true, forall_const, implies_true, false_implies, true_implies, Option.some.injEq, forall_eq', exists_eq_left', reduceCtorEq, Nat.reduceEqDiff, c1, T_X12_in, T_X12_ones, T_X11_within, T_X11_bit, T_X11_isIn, T_X11_oneIfIn, T_J6_bitCount_0f7a4, d1, hf, c7, show ¬ (1 : Int32) = 0 by decide, sh_bt (hI h 77 (10 * e + 2)) (show k < 32 by omega), b2i_0, Classical.not_not]
          refine ⟨fun z => ?_, fun z => ?_⟩
          · rw [b2i_f (by rw [z]; decide)] at hq; exact hq
          · rw [b2i_t (by simpa using z)] at hq; exact hq
        have hgo := hhas_go hl hH h25 (p := nI k) (Q := fun r h' => c_X11_called_21 Q [some (.ref 0), some (.int (nI k))] (r.toList ++ []) h') (fun _ _ _ => h21) (fun e => absurd ⟨k, hk, rfl⟩ e)
        unfold T_X11_called
        simp only [b_X11_called_0, lx_pI, lx_wI, lx_t hl, lx_k hl, lx_r hl, lx_l hl, i_push, i_ild, i_ald, i_ist, i_ast, i_inc, i_bin, i_un, i_divs, i_i2l, i_lshl, i_lor, i_dup, i_dup2, i_pop, i_if, i_cmp, i_nul, i_vret, i_iret, i_zret, i_aret, i_keep, keep, lget, lset, ent, i_getI, i_getJ, i_getR, i_getN, i_putI, i_putZ, i_putJ, i_putR, i_iald, i_bald, i_alen, i_aald, i_iast, i_bast, i_aast, i_new, i_newa, i_anew, i_oini, i_callS, i_callV, i_callI, popn, sh4, i_sw, swP, i_copy, i_binS, List.map, Option.toList_none, Option.toList_some, List.append, List.nil_append, List.cons_append, List.length_cons, List.length_nil, List.replicate, Nat.sub_self, Nat.reduceSub, Nat.reduceAdd, hK_pI, hL_pI, hI_pI, hR_pI, hJ_pI, hT_pI, hS_pI, hK_pR, hL_pR, hI_pR, hR_pR, hJ_pR, hT_pR, hS_pR, hK_pJ, hL_pJ, hI_pJ, hR_pJ, hJ_pJ, hT_pJ, hS_pJ, hK_wI, hL_wI, hI_wI, hR_wI, hJ_wI, hT_wI, hS_wI, eq_self, and_true, true_and, and_false, false_and, or_true, true_or, or_false, false_or, if_true, if_false, not_true_eq_false, not_false_eq_true, forall_const, implies_true, false_implies, true_implies, Option.some.injEq, forall_eq', exists_eq_left', reduceCtorEq, Nat.reduceEqDiff, c1, T_X12_in, T_X12_ones, T_X11_within, T_X11_bit, T_X11_isIn, T_X11_oneIfIn, T_J6_bitCount_0f7a4, d1]
        exact hgo
      · have hl := hm
        unfold T_X12_called
        simp only [b_X12_called_0, T_X12_isHelper, hl, lay_pI, lay_wI, lay_pJ, lm_t hl, lm_k hl, lm_r hl, lm_l hl, i_push, i_ild, i_ald, i_ist, i_ast, i_inc, i_bin, i_un, i_divs, i_i2l, i_lshl, i_lor, i_dup, i_dup2, i_pop, i_if, i_cmp, i_nul, i_vret, i_iret, i_zret, i_aret, i_keep, keep, lget, lset, ent, i_getI, i_getJ, i_getR, i_getN, i_putI, i_putZ, i_putJ, i_putR, i_iald, i_bald, i_alen, i_aald, i_iast, i_bast, i_aast, i_new, i_newa, i_anew, i_oini, i_callS, i_callV, i_callI, popn, sh4, i_sw, swP, i_copy, i_binS, List.map, Option.toList_none, Option.toList_some, List.append, List.nil_append, List.cons_append, List.length_cons, List.length_nil, List.replicate, Nat.sub_self, Nat.reduceSub, Nat.reduceAdd, hK_pI, hL_pI, hI_pI, hR_pI, hJ_pI, hT_pI, hS_pI, hK_pR, hL_pR, hI_pR, hR_pR, hJ_pR, hT_pR, hS_pR, hK_pJ, hL_pJ, hI_pJ, hR_pJ, hJ_pJ, hT_pJ, hS_pJ, hK_wI, hL_wI, hI_wI, hR_wI, hJ_wI, hT_wI, hS_wI, eq_self, and_true, true_and, and_false, false_and, or_true, true_or, or_false, false_or, if_true, if_false, not_true_eq_false, not_false_eq_true, forall_const, implies_true, false_implies, true_implies, Option.some.injEq, forall_eq', exists_eq_left', reduceCtorEq, Nat.reduceEqDiff, c1, T_X12_in, T_X12_ones, T_X11_within, T_X11_bit, T_X11_isIn, T_X11_oneIfIn, T_J6_bitCount_0f7a4, h64, a11, in0 4 (by decide) (by decide), cl0, per_ix (show H ≤ 100000 by omega), b2i_0, e0, ei, cl_nI (show 10 * e + 2 < 2147483648 by omega), in_nI (show 10 * e + 2 < 16000 by omega) (by decide), sh_bt (hI h 77 (10 * e + 2)) (show k < 32 by omega), Classical.not_not]
        refine ⟨fun z => absurd ⟨k, hk, rfl⟩ z, fun _ => ⟨fun z => ?_, fun z => ?_⟩⟩
        · rw [b2i_f (by rw [z]; decide)] at hq; exact hq
        · rw [b2i_t (by simpa using z)] at hq; exact hq
    · refine rd 0 hc (fun Q hq => ok_X11_called _ _ _ ?_) (fun Q hq => ok_X12_called _ _ _ ?_)
      · have hgo := hhas_go hl hH h25 (p := p) (Q := fun r h' => c_X11_called_21 Q [some (.ref 0), some (.int p)] (r.toList ++ []) h') (fun k hk e => absurd ⟨k, hk, e⟩ c) (fun _ => by
          show c_X11_called_21 Q _ [.int 0] h
          simp only [c_X11_called_21, i_push, i_ild, i_ald, i_ist, i_ast, i_inc, i_bin, i_un, i_divs, i_i2l, i_lshl, i_lor, i_dup, i_dup2, i_pop, i_if, i_cmp, i_nul, i_vret, i_iret, i_zret, i_aret, i_keep, keep, lget, lset, ent, i_getI, i_getJ, i_getR, i_getN, i_putI, i_putZ, i_putJ, i_putR, i_iald, i_bald, i_alen, i_aald, i_iast, i_bast, i_aast, i_new, i_newa, i_anew, i_oini, i_callS, i_callV, i_callI, popn, sh4, i_sw, swP, i_copy, i_binS, List.map, Option.toList_none, Option.toList_some, List.append, List.nil_append, List.cons_append, List.length_cons, List.length_nil, List.replicate, Nat.sub_self, Nat.reduceSub, Nat.reduceAdd, hK_pI, hL_pI, hI_pI, hR_pI, hJ_pI, hT_pI, hS_pI, hK_pR, hL_pR, hI_pR, hR_pR, hJ_pR, hT_pR, hS_pR, hK_pJ, hL_pJ, hI_pJ, hR_pJ, hJ_pJ, hT_pJ, hS_pJ, hK_wI, hL_wI, hI_wI, hR_wI, hJ_wI, hT_wI, hS_wI, eq_self, and_true, true_and, and_false, false_and, or_true, true_or, or_false, false_or, if_true, if_false, not_true_eq_false, not_false_eq_true, forall_const, implies_true, false_implies, true_implies, Option.some.injEq, forall_eq', exists_eq_left', reduceCtorEq, Nat.reduceEqDiff, c1, T_X12_in, T_X12_ones, T_X11_within, T_X11_bit, T_X11_isIn, T_X11_oneIfIn, T_J6_bitCount_0f7a4]
          exact hq)
        unfold T_X11_called
        simp only [b_X11_called_0, lx_pI, lx_wI, lx_t hl, lx_k hl, lx_r hl, lx_l hl, i_push, i_ild, i_ald, i_ist, i_ast, i_inc, i_bin, i_un, i_divs, i_i2l, i_lshl, i_lor, i_dup, i_dup2, i_pop, i_if, i_cmp, i_nul, i_vret, i_iret, i_zret, i_aret, i_keep, keep, lget, lset, ent, i_getI, i_getJ, i_getR, i_getN, i_putI, i_putZ, i_putJ, i_putR, i_iald, i_bald, i_alen, i_aald, i_iast, i_bast, i_aast, i_new, i_newa, i_anew, i_oini, i_callS, i_callV, i_callI, popn, sh4, i_sw, swP, i_copy, i_binS, List.map, Option.toList_none, Option.toList_some, List.append, List.nil_append, List.cons_append, List.length_cons, List.length_nil, List.replicate, Nat.sub_self, Nat.reduceSub, Nat.reduceAdd, hK_pI, hL_pI, hI_pI, hR_pI, hJ_pI, hT_pI, hS_pI, hK_pR, hL_pR, hI_pR, hR_pR, hJ_pR, hT_pR, hS_pR, hK_pJ, hL_pJ, hI_pJ, hR_pJ, hJ_pJ, hT_pJ, hS_pJ, hK_wI, hL_wI, hI_wI, hR_wI, hJ_wI, hT_wI, hS_wI, eq_self, and_true, true_and, and_false, false_and, or_true, true_or, or_false, false_or, if_true, if_false, not_true_eq_false, not_false_eq_true, forall_const, implies_true, false_implies, true_implies, Option.some.injEq, forall_eq', exists_eq_left', reduceCtorEq, Nat.reduceEqDiff, c1, T_X12_in, T_X12_ones, T_X11_within, T_X11_bit, T_X11_isIn, T_X11_oneIfIn, T_J6_bitCount_0f7a4, d1]
        exact hgo
      · have hl := hm
        unfold T_X12_called
        simp only [b_X12_called_0, T_X12_isHelper, hl, lay_pI, lay_wI, lay_pJ, lm_t hl, lm_k hl, lm_r hl, lm_l hl, i_push, i_ild, i_ald, i_ist, i_ast, i_inc, i_bin, i_un, i_divs, i_i2l, i_lshl, i_lor, i_dup, i_dup2, i_pop, i_if, i_cmp, i_nul, i_vret, i_iret, i_zret, i_aret, i_keep, keep, lget, lset, ent, i_getI, i_getJ, i_getR, i_getN, i_putI, i_putZ, i_putJ, i_putR, i_iald, i_bald, i_alen, i_aald, i_iast, i_bast, i_aast, i_new, i_newa, i_anew, i_oini, i_callS, i_callV, i_callI, popn, sh4, i_sw, swP, i_copy, i_binS, List.map, Option.toList_none, Option.toList_some, List.append, List.nil_append, List.cons_append, List.length_cons, List.length_nil, List.replicate, Nat.sub_self, Nat.reduceSub, Nat.reduceAdd, hK_pI, hL_pI, hI_pI, hR_pI, hJ_pI, hT_pI, hS_pI, hK_pR, hL_pR, hI_pR, hR_pR, hJ_pR, hT_pR, hS_pR, hK_pJ, hL_pJ, hI_pJ, hR_pJ, hJ_pJ, hT_pJ, hS_pJ, hK_wI, hL_wI, hI_wI, hR_wI, hJ_wI, hT_wI, hS_wI, eq_self, and_true, true_and, and_false, false_and, or_true, true_or, or_false, false_or, if_true, if_false, not_true_eq_false, not_false_eq_true, forall_const, implies_true, false_implies, true_implies, Option.some.injEq, forall_eq', exists_eq_left', reduceCtorEq, Nat.reduceEqDiff, c1, T_X12_in, T_X12_ones, T_X11_within, T_X11_bit, T_X11_isIn, T_X11_oneIfIn, T_J6_bitCount_0f7a4, h64, per_ix (show H ≤ 100000 by omega), b2i_0]
        exact ⟨fun _ => hq, fun z => absurd (Classical.not_not.mp z) c⟩
def L_X11_told : List UInt8 := [42, 180, 0, 24, 180, 0, 180, 78, 45, 198, 0, 17, 42, 180, 0, 24, 180, 0, 99, 27, 182, 0, 108, 154, 0, 5, 2, 172, 28, 170, 0, 0, 0, 0, 0, 46, 0, 0, 0, 0, 0, 0, 0, 2, 0, 0, 0, 27, 0, 0, 0, 33, 0, 0, 0, 40, 45, 27, 182, 0, 184, 172, 45, 180, 0, 187, 27, 46, 172, 45, 27, 182, 0, 190, 172, 2, 172]
theorem Lc_X11_told : MX11_told.2.1 = ⟨L_X11_told.toArray⟩ := rfl
theorem D_X11_told_0 : dseq MX11_told.2.1 0 [(.aload_n 0, 1), (.getfield 24, 3), (.getfield 180, 3), (.astore_n 3, 1), (.aload_n 3, 1), (.ifnull 17, 3), (.aload_n 0, 1), (.getfield 24, 3), (.getfield 99, 3), (.iload_n 1, 1), (.invokevirtual 108, 3), (.ifCond .ne 5, 3), (.iconst (-1), 1), (.ireturn, 1)] := dq Lc_X11_told 0 _ (by decide +kernel)
theorem D_X11_told_26 : dseq MX11_told.2.1 26 [(.iconst (-1), 1), (.ireturn, 1)] := dq Lc_X11_told 26 _ (by decide +kernel)
theorem D_X11_told_28 : dseq MX11_told.2.1 28 [(.iload_n 2, 1)] := dq Lc_X11_told 28 _ (by decide +kernel)
theorem D_X11_told_75 : dseq MX11_told.2.1 75 [(.iconst (-1), 1), (.ireturn, 1)] := dq Lc_X11_told 75 _ (by decide +kernel)
theorem D_X11_told_56 : dseq MX11_told.2.1 56 [(.aload_n 3, 1), (.iload_n 1, 1), (.invokevirtual 184, 3), (.ireturn, 1)] := dq Lc_X11_told 56 _ (by decide +kernel)
theorem D_X11_told_62 : dseq MX11_told.2.1 62 [(.aload_n 3, 1), (.getfield 187, 3), (.iload_n 1, 1), (.iaload, 1), (.ireturn, 1)] := dq Lc_X11_told 62 _ (by decide +kernel)
theorem D_X11_told_69 : dseq MX11_told.2.1 69 [(.aload_n 3, 1), (.iload_n 1, 1), (.invokevirtual 190, 3), (.ireturn, 1)] := dq Lc_X11_told 69 _ (by decide +kernel)
theorem W_X11_told_29 : decode MX11_told.2.1 29 = .ok (.tableswitch 46 0 2 #[27, 33, 40], 27) := by decide +kernel
def c_X11_told_23 (Q : Option Value → Hp → Prop) : Kt := i_if (fun x => x = 0) (i_push (.int (-1)) (i_iret Q)) (i_ild 2 (i_sw [(0, i_ald 3 (i_ild 1 (i_callV 1 1 T_X1_roomOf (i_iret Q)))), (1, i_ald 3 (i_getR 1 10 (i_ild 1 (i_iald (i_iret Q))))), (2, i_ald 3 (i_ild 1 (i_callV 1 1 T_X1_placeOf (i_iret Q))))] (i_push (.int (-1)) (i_iret Q))))
def b_X11_told_0 (Q : Option Value → Hp → Prop) : Kt := i_ald 0 (i_getR 11 1 (i_getN 8 4 (i_ast 3 (i_ald 3 (i_nul (i_push (.int (-1)) (i_iret Q)) (i_ald 0 (i_getR 11 1 (i_getR 8 1 (i_ild 1 (i_callV 3 1 T_X3_has (c_X11_told_23 Q)))))))))))
set_option maxRecDepth 100000 in
theorem s_X11_told_0 (Q : Option Value → Hp → Prop) : ∀ A st h, b_X11_told_0 Q A st h → wp 2 MX11_told Q 0 A st h := (q1 (s_aldn (n := 0) (i := 0) rfl) D_X11_told_0 fun D => (qC fl_X11_24 rfl D fun D => (qC fl_X11_180 rfl D fun D => (qL (s_astn (n := 3) (i := 3) rfl) (by decide) D fun D => (q1 (s_aldn (n := 3) (i := 3) rfl) D fun D => (qB s_ifnull 26 (by decide) D (q1 (s_iconst (n := (-1)) (v := (-1)) (by decide)) D_X11_told_26 fun D => (qI rfl D)) fun D => (q1 (s_aldn (n := 0) (i := 0) rfl) D fun D => (qC fl_X11_24 rfl D fun D => (qC fl_X11_99 rfl D fun D => (q1 (s_ildn (n := 1) (i := 1) rfl) D fun D => (qX (s_callV kX3 rfl ok_X3_has mo_X3_has (ch_3_6_ok.2.2.2.2.2.2.2.2.2.2.2.1.1 rfl) (ch_3_6_ok.2.2.2.2.2.2.2.2.2.2.2.2.1.1 rfl) (ch_3_6_ok.2.2.2.2.2.2.2.2.2.2.2.2.2.1.1 rfl)) rfl (by decide) D fun D => (qBn s_ifne2 28 (by decide) D (q1 (s_ildn (n := 2) (i := 2) rfl) D_X11_told_28 fun D => (s_tab 75 W_X11_told_29 rfl (by decide) (q1 (s_iconst (n := (-1)) (v := (-1)) (by decide)) D_X11_told_75 fun D => (qI rfl D)) (fun k c K hk => by
    match k, hk with
    | 0, hk => cases hk; exact ⟨by decide, 56, 27, rfl, by decide, (q1 (s_aldn (n := 3) (i := 3) rfl) D_X11_told_56 fun D => (q1 (s_ildn (n := 1) (i := 1) rfl) D fun D => (qX (s_callV kX1 rfl ok_X1_roomOf mo_X1_roomOf (ch_4_11_ok.2.2.2.2.2.2.2.2.2.2.2.1.1 rfl) (ch_4_10_ok.2.2.2.2.2.2.2.2.2.1.1 rfl) (ch_4_10_ok.2.2.2.2.2.2.2.2.2.2.1.1 rfl)) rfl (by decide) D fun D => (qI rfl D))))⟩
    | 1, hk => cases hk; exact ⟨by decide, 62, 33, rfl, by decide, (q1 (s_aldn (n := 3) (i := 3) rfl) D_X11_told_62 fun D => (qC fl_X11_187 rfl D fun D => (q1 (s_ildn (n := 1) (i := 1) rfl) D fun D => (q1 s_iald D fun D => (qI rfl D)))))⟩
    | 2, hk => cases hk; exact ⟨by decide, 69, 40, rfl, by decide, (q1 (s_aldn (n := 3) (i := 3) rfl) D_X11_told_69 fun D => (q1 (s_ildn (n := 1) (i := 1) rfl) D fun D => (qX (s_callV kX1 rfl ok_X1_placeOf mo_X1_placeOf (ch_4_11_ok.2.2.2.2.2.2.2.2.2.2.2.2.1.1 rfl) (ch_4_11_ok.2.2.2.2.2.2.2.2.2.2.2.2.2.1.1 rfl) (ch_4_11_ok.2.2.2.2.2.2.2.2.2.2.2.2.2.2.1.1 rfl)) rfl (by decide) D fun D => (qI rfl D))))⟩
    | n + 3, hk => simp at hk))) fun D => (q1 (s_iconst (n := (-1)) (v := (-1)) (by decide)) D fun D => (qI rfl D))))))))))))))
def T_X11_told : Tr := fun av h Q => c1 4 av ∧ b_X11_told_0 Q (ent 4 av) [] h
theorem ok_X11_told : ctr 2 MX11_told T_X11_told := ctr_of pn_X11 wc_X11_told (fun av h Q hT => ⟨c1_ok hT.1, s_X11_told_0 Q _ _ _ hT.2⟩)

theorem st_told {h : Hp} (hc : CP h) (p w : Int32) : SOK 2 MX11_told 2 MX12_told [.int p, .int w] h := by
  have hl := hc.1
  have hm := hc.2.1
  obtain ⟨R, P, H, E, Ln, q, np, hs⟩ := hc.2.2.2.1
  obtain ⟨a1, a2, a3, a4, a5, a6, a7, a8, a9, a10, a11, a12, a13⟩ := id hs
  have h16 : hI h 16 0 = nI P := a5.2.1
  have h52 : hI h 52 0 = nI P := a5.2.2.1
  have hP := a5.1
  have hcls : ∀ n : Nat, hR h 3 4 = some n → ∀ Q : Option Value → Hp → Prop, (∀ k, k < P → p = nI k → c_X11_told_23 Q [some (.ref 0), some (.int p), some (.int w), some (.ref n)] [.int 1] h) → ((¬ ∃ k, k < P ∧ p = nI k) → Q (some (.int (-1))) h) → T_X11_told [.ref 0, .int p, .int w] h Q := by
    intro n hn Q g1 g0
    have hgo := has_go hl hP h16 (p := p) (Q := fun r h' => c_X11_told_23 Q [some (.ref 0), some (.int p), some (.int w), some (.ref n)] (r.toList ++ []) h') (fun k hk e => g1 k hk e) (fun e => by
      have := g0 e
      show c_X11_told_23 Q _ [.int 0] h
      simp only [c_X11_told_23, i_push, i_ild, i_ald, i_ist, i_ast, i_inc, i_bin, i_un, i_divs, i_i2l, i_lshl, i_lor, i_dup, i_dup2, i_pop, i_if, i_cmp, i_nul, i_vret, i_iret, i_zret, i_aret, i_keep, keep, lget, lset, ent, i_getI, i_getJ, i_getR, i_getN, i_putI, i_putZ, i_putJ, i_putR, i_iald, i_bald, i_alen, i_aald, i_iast, i_bast, i_aast, i_new, i_newa, i_anew, i_oini, i_callS, i_callV, i_callI, popn, sh4, i_sw, swP, i_copy, i_binS, List.map, Option.toList_none, Option.toList_some, List.append, List.nil_append, List.cons_append, List.length_cons, List.length_nil, List.replicate, Nat.sub_self, Nat.reduceSub, Nat.reduceAdd, hK_pI, hL_pI, hI_pI, hR_pI, hJ_pI, hT_pI, hS_pI, hK_pR, hL_pR, hI_pR, hR_pR, hJ_pR, hT_pR, hS_pR, hK_pJ, hL_pJ, hI_pJ, hR_pJ, hJ_pJ, hT_pJ, hS_pJ, hK_wI, hL_wI, hI_wI, hR_wI, hJ_wI, hT_wI, hS_wI, eq_self, and_true, true_and, and_false, false_and, or_true, true_or, or_false, false_or, if_true, if_false, not_true_eq_false, not_false_eq_true, forall_const, implies_true, false_implies, true_implies, Option.some.injEq, forall_eq', exists_eq_left', reduceCtorEq, Nat.reduceEqDiff, c1, T_X12_in, T_X12_ones, T_X11_within, T_X11_bit, T_X11_isIn, T_X11_oneIfIn, T_J6_bitCount_0f7a4]
      exact this)
    unfold T_X11_told
    simp only [b_X11_told_0, lx_pI, lx_wI, lx_t hl, lx_k hl, lx_r hl, lx_l hl, i_push, i_ild, i_ald, i_ist, i_ast, i_inc, i_bin, i_un, i_divs, i_i2l, i_lshl, i_lor, i_dup, i_dup2, i_pop, i_if, i_cmp, i_nul, i_vret, i_iret, i_zret, i_aret, i_keep, keep, lget, lset, ent, i_getI, i_getJ, i_getR, i_getN, i_putI, i_putZ, i_putJ, i_putR, i_iald, i_bald, i_alen, i_aald, i_iast, i_bast, i_aast, i_new, i_newa, i_anew, i_oini, i_callS, i_callV, i_callI, popn, sh4, i_sw, swP, i_copy, i_binS, List.map, Option.toList_none, Option.toList_some, List.append, List.nil_append, List.cons_append, List.length_cons, List.length_nil, List.replicate, Nat.sub_self, Nat.reduceSub, Nat.reduceAdd, hK_pI, hL_pI, hI_pI, hR_pI, hJ_pI, hT_pI, hS_pI, hK_pR, hL_pR, hI_pR, hR_pR, hJ_pR, hT_pR, hS_pR, hK_pJ, hL_pJ, hI_pJ, hR_pJ, hJ_pJ, hT_pJ, hS_pJ, hK_wI, hL_wI, hI_wI, hR_wI, hJ_wI, hT_wI, hS_wI, eq_self, and_true, true_and, and_false, false_and, or_true, true_or, or_false, false_or, if_true, if_false, not_true_eq_false, not_false_eq_true, forall_const, implies_true, false_implies, true_implies, Option.some.injEq, forall_eq', exists_eq_left', reduceCtorEq, Nat.reduceEqDiff, c1, T_X12_in, T_X12_ones, T_X11_within, T_X11_bit, T_X11_isIn, T_X11_oneIfIn, T_J6_bitCount_0f7a4, hn]
    exact hgo
  cases E with
  | zero =>
    have hn : hR h 3 4 = none := a12
    refine rd (-1) hc (fun Q hq => ok_X11_told _ _ _ ?_) (fun Q hq => ok_X12_told _ _ _ ?_)
    · unfold T_X11_told
      simp only [b_X11_told_0, lx_pI, lx_wI, lx_t hl, lx_k hl, lx_r hl, lx_l hl, i_push, i_ild, i_ald, i_ist, i_ast, i_inc, i_bin, i_un, i_divs, i_i2l, i_lshl, i_lor, i_dup, i_dup2, i_pop, i_if, i_cmp, i_nul, i_vret, i_iret, i_zret, i_aret, i_keep, keep, lget, lset, ent, i_getI, i_getJ, i_getR, i_getN, i_putI, i_putZ, i_putJ, i_putR, i_iald, i_bald, i_alen, i_aald, i_iast, i_bast, i_aast, i_new, i_newa, i_anew, i_oini, i_callS, i_callV, i_callI, popn, sh4, i_sw, swP, i_copy, i_binS, List.map, Option.toList_none, Option.toList_some, List.append, List.nil_append, List.cons_append, List.length_cons, List.length_nil, List.replicate, Nat.sub_self, Nat.reduceSub, Nat.reduceAdd, hK_pI, hL_pI, hI_pI, hR_pI, hJ_pI, hT_pI, hS_pI, hK_pR, hL_pR, hI_pR, hR_pR, hJ_pR, hT_pR, hS_pR, hK_pJ, hL_pJ, hI_pJ, hR_pJ, hJ_pJ, hT_pJ, hS_pJ, hK_wI, hL_wI, hI_wI, hR_wI, hJ_wI, hT_wI, hS_wI, eq_self, and_true, true_and, and_false, false_and, or_true, true_or, or_false, false_or, if_true, if_false, not_true_eq_false, not_false_eq_true, forall_const, implies_true, false_implies, true_implies, Option.some.injEq, forall_eq', exists_eq_left', reduceCtorEq, Nat.reduceEqDiff, c1, T_X12_in, T_X12_ones, T_X11_within, T_X11_bit, T_X11_isIn, T_X11_oneIfIn, T_J6_bitCount_0f7a4, hn]
      exact hq
    · have hl := hm
      have e0 : nI 0 = 0 := rfl
      unfold T_X12_told
      simp only [b_X12_told_0, T_X12_isPerson, hl, lay_pI, lay_wI, lay_pJ, lm_t hl, lm_k hl, lm_r hl, lm_l hl, i_push, i_ild, i_ald, i_ist, i_ast, i_inc, i_bin, i_un, i_divs, i_i2l, i_lshl, i_lor, i_dup, i_dup2, i_pop, i_if, i_cmp, i_nul, i_vret, i_iret, i_zret, i_aret, i_keep, keep, lget, lset, ent, i_getI, i_getJ, i_getR, i_getN, i_putI, i_putZ, i_putJ, i_putR, i_iald, i_bald, i_alen, i_aald, i_iast, i_bast, i_aast, i_new, i_newa, i_anew, i_oini, i_callS, i_callV, i_callI, popn, sh4, i_sw, swP, i_copy, i_binS, List.map, Option.toList_none, Option.toList_some, List.append, List.nil_append, List.cons_append, List.length_cons, List.length_nil, List.replicate, Nat.sub_self, Nat.reduceSub, Nat.reduceAdd, hK_pI, hL_pI, hI_pI, hR_pI, hJ_pI, hT_pI, hS_pI, hK_pR, hL_pR, hI_pR, hR_pR, hJ_pR, hT_pR, hS_pR, hK_pJ, hL_pJ, hI_pJ, hR_pJ, hJ_pJ, hT_pJ, hS_pJ, hK_wI, hL_wI, hI_wI, hR_wI, hJ_wI, hT_wI, hS_wI, eq_self, and_true, true_and, and_false, false_and, or_true, true_or, or_false, false_or, if_true, if_false, not_true_eq_false, not_false_eq_true, forall_const, implies_true, false_implies, true_implies, Option.some.injEq, forall_eq', exists_eq_left', reduceCtorEq, Nat.reduceEqDiff, c1, T_X12_in, T_X12_ones, T_X11_within, T_X11_bit, T_X11_isIn, T_X11_oneIfIn, T_J6_bitCount_0f7a4, h52, a11, in0 4 (by decide) (by decide), cl0, e0]
      exact ⟨fun _ => hq, fun _ => hq⟩
  | succ e =>
    obtain ⟨n, Rn, d1, c2, c3, c4, c5, c6, c7, c8, c9, c10, c11, c12, _⟩ := a12
    have hf := c2.f
    have hw := a13 e n Rn rfl d1 c2
    have e0 : ¬ nI (e + 1) = 0 := fun z => by
      have := (nI_inj (a := e + 1) (b := 0) (by omega) (by decide)).mp z
      omega
    by_cases c : ∃ k, k < P ∧ p = nI k
    · obtain ⟨k, hk, rfl⟩ := c
      obtain ⟨w1, w2, ⟨N, w3, w4, w5, w6⟩, w7, w8⟩ := hw
      obtain ⟨x1, x2⟩ := w8 k hk
      refine rd (if w = 0 then cif (bt (hI h 77 (10 * e + 1)) k = true) (hI h 60 k) (-1) else if w = 1 then hI h 78 k else if w = 2 then hI h 79 k else -1) hc (fun Q hq => ok_X11_told _ _ _ (hcls n d1 Q (fun _ _ _ => ?_) (fun z => absurd ⟨k, hk, rfl⟩ z))) (fun Q hq => ok_X12_told _ _ _ ?_)
      · have g0 : w = 0 → T_X1_roomOf [.ref n, .int (nI k)] h (fun r h' => i_iret Q [some (.ref 0), some (.int (nI k)), some (.int w), some (.ref n)] (r.toList ++ []) h') := fun z => by
          rw [if_pos z] at hq
          refine ⟨Rn, k, c3, c2, rfl, by omega, fun r hr hb hj => ?_, fun hno => ?_⟩
          · have ht : bt (hI h 77 (10 * e + 1)) k = true := by
              apply Classical.byContradiction
              intro y
              have := x2 (by simpa using y) r hr
              rw [this] at hb; cases hb
            rw [cif_t ht] at hq
            obtain ⟨r2, y1, y2, y3, y4⟩ := x1 ht
            have er : r2 = r := by
              rcases Nat.lt_trichotomy r2 r with u | u | u
              · have := hj r2 u; rw [y3] at this; cases this
              · exact u
              · have := y4 r u; rw [hb] at this; cases this
            rw [y2, er] at hq
            exact hq
          · have ht : ¬ bt (hI h 77 (10 * e + 1)) k = true := fun y => by
              obtain ⟨r2, y1, y2, y3, y4⟩ := x1 y
              have := hno r2 y1
              rw [y3] at this; cases this
            rw [cif_f ht] at hq
            exact hq
        have g2 : ¬ w = 0 → ¬ w = 1 → w = 2 → T_X1_placeOf [.ref n, .int (nI k)] h (fun r h' => i_iret Q [some (.ref 0), some (.int (nI k)), some (.int w), some (.ref n)] (r.toList ++ []) h') := fun z0 z1 z => by
          rw [if_neg z0, if_neg z1, if_pos z] at hq
          refine ⟨Rn, N, c2, w3, w4, fun j hj hb hi => ?_, fun hno => ?_⟩
          · rcases w6 k hk with ⟨j2, y1, y2, y3, y4⟩ | ⟨y1, y2⟩
            · have ej : j2 = j := by
                rcases Nat.lt_trichotomy j2 j with u | u | u
                · exact absurd y2 (hi j2 u)
                · exact u
                · exact absurd hb (y3 j u)
              rw [y4, ej] at hq; exact hq
            · exact absurd hb (y1 j hj)
          · rcases w6 k hk with ⟨j2, y1, y2, y3, y4⟩ | ⟨y1, y2⟩
            · exact absurd y2 (hno j2 y1)
            · rw [y2] at hq; exact hq
        have g1 : ¬ w = 0 → w = 1 → Q (some (.int (hI h 78 k))) h := fun z0 z => by rw [if_neg z0, if_pos z] at hq; exact hq
        have g3 : ¬ w = 0 → ¬ w = 1 → ¬ w = 2 → Q (some (.int (-1))) h := fun z0 z1 z2 => by rw [if_neg z0, if_neg z1, if_neg z2] at hq; exact hq
        simp only [c_X11_told_23, lx_pI, lx_wI, lx_t hl, lx_k hl, lx_r hl, lx_l hl, i_push, i_ild, i_ald, i_ist, i_ast, i_inc, i_bin, i_un, i_divs, i_i2l, i_lshl, i_lor, i_dup, i_dup2, i_pop, i_if, i_cmp, i_nul, i_vret, i_iret, i_zret, i_aret, i_keep, keep, lget, lset, ent, i_getI, i_getJ, i_getR, i_getN, i_putI, i_putZ, i_putJ, i_putR, i_iald, i_bald, i_alen, i_aald, i_iast, i_bast, i_aast, i_new, i_newa, i_anew, i_oini, i_callS, i_callV, i_callI, popn, sh4, i_sw, swP, i_copy, i_binS, List.map, Option.toList_none, Option.toList_some, List.append, List.nil_append, List.cons_append, List.length_cons, List.length_nil, List.replicate, Nat.sub_self, Nat.reduceSub, Nat.reduceAdd, hK_pI, hL_pI, hI_pI, hR_pI, hJ_pI, hT_pI, hS_pI, hK_pR, hL_pR, hI_pR, hR_pR, hJ_pR, hT_pR, hS_pR, hK_pJ, hL_pJ, hI_pJ, hR_pJ, hJ_pJ, hT_pJ, hS_pJ, hK_wI, hL_wI, hI_wI, hR_wI, hJ_wI, hT_wI, hS_wI, eq_self, and_true, true_and, and_false, false_and, or_true, true_or, or_false, false_or, if_true, if_false, not_true_eq_false, not_false_eq_true, forall_const, implies_true, false_implies, true_implies, Option.some.injEq, forall_eq', exists_eq_left', reduceCtorEq, Nat.reduceEqDiff, c1, T_X12_in, T_X12_ones, T_X11_within, T_X11_bit, T_X11_isIn, T_X11_oneIfIn, T_J6_bitCount_0f7a4, hf, show ¬ (1 : Int32) = 0 by decide, cl_nI (show k < 2147483648 by omega), in_nI (show k < 24 by omega) (by decide), w1 k hk]
        exact ⟨g0, fun z0 => ⟨fun z1 => g1 z0 z1, fun z1 => ⟨fun z2 => g2 z0 z1 z2, fun z2 => g3 z0 z1 z2⟩⟩⟩
      · have hl := hm
        have hwas : ∀ Q' : Option Value → Hp → Prop, (bt (hI h 77 (10 * e + 1)) k = true → Q' (some (.int 1)) (pI h 44 0 0)) → (¬ bt (hI h 77 (10 * e + 1)) k = true → Q' (some (.int 0)) (pI h 44 0 0)) → T_X12_wasHere [.ref 44, .int (nI k)] (pI h 44 0 0) Q' := fun Q' g1 g0 => by
          refine ⟨rfl, hm.pI _ _ _, e + 1, k, by omega, ?_, rfl, by omega, fun z => g1 ?_, fun z => g0 (fun y => z ?_)⟩
          · rw [hI_pI, if_neg (by omega)]; exact a11
          · have := z.2
            rw [hI_pI, if_neg (by omega), Nat.add_sub_cancel] at this; exact this
          · refine ⟨by omega, ?_⟩
            rw [hI_pI, if_neg (by omega), Nat.add_sub_cancel]; exact y
        unfold T_X12_told
        simp only [b_X12_told_0, T_X12_isPerson, hl, lay_pI, lay_wI, lay_pJ, lm_t hl, lm_k hl, lm_r hl, lm_l hl, i_push, i_ild, i_ald, i_ist, i_ast, i_inc, i_bin, i_un, i_divs, i_i2l, i_lshl, i_lor, i_dup, i_dup2, i_pop, i_if, i_cmp, i_nul, i_vret, i_iret, i_zret, i_aret, i_keep, keep, lget, lset, ent, i_getI, i_getJ, i_getR, i_getN, i_putI, i_putZ, i_putJ, i_putR, i_iald, i_bald, i_alen, i_aald, i_iast, i_bast, i_aast, i_new, i_newa, i_anew, i_oini, i_callS, i_callV, i_callI, popn, sh4, i_sw, swP, i_copy, i_binS, List.map, Option.toList_none, Option.toList_some, List.append, List.nil_append, List.cons_append, List.length_cons, List.length_nil, List.replicate, Nat.sub_self, Nat.reduceSub, Nat.reduceAdd, hK_pI, hL_pI, hI_pI, hR_pI, hJ_pI, hT_pI, hS_pI, hK_pR, hL_pR, hI_pR, hR_pR, hJ_pR, hT_pR, hS_pR, hK_pJ, hL_pJ, hI_pJ, hR_pJ, hJ_pJ, hT_pJ, hS_pJ, hK_wI, hL_wI, hI_wI, hR_wI, hJ_wI, hT_wI, hS_wI, eq_self, and_true, true_and, and_false, false_and, or_true, true_or, or_false, false_or, if_true, if_false, not_true_eq_false, not_false_eq_true, forall_const, implies_true, false_implies, true_implies, Option.some.injEq, forall_eq', exists_eq_left', reduceCtorEq, Nat.reduceEqDiff, c1, T_X12_in, T_X12_ones, T_X11_within, T_X11_bit, T_X11_isIn, T_X11_oneIfIn, T_J6_bitCount_0f7a4, h52, a11, in0 4 (by decide) (by decide), cl0, per_ix (show P ≤ 100000 by omega), b2i_0, e0, cl_nI (show k < 2147483648 by omega), in_nI (show k < 96 by omega) (by decide)]
        refine ⟨fun z => absurd ⟨k, hk, rfl⟩ z, fun _ => ⟨fun z0 => ?_, fun z0 => ⟨fun z1 => ?_, fun z1 => ⟨fun z2 => ?_, fun z2 => ?_⟩⟩⟩⟩
        · rw [if_pos z0] at hq
          refine hwas _ (fun y => ?_) (fun y => ?_)
          · rw [cif_t y] at hq
            simp only [hl, lay_pI, lay_wI, lay_pJ, lm_t hl, lm_k hl, lm_r hl, lm_l hl, i_push, i_ild, i_ald, i_ist, i_ast, i_inc, i_bin, i_un, i_divs, i_i2l, i_lshl, i_lor, i_dup, i_dup2, i_pop, i_if, i_cmp, i_nul, i_vret, i_iret, i_zret, i_aret, i_keep, keep, lget, lset, ent, i_getI, i_getJ, i_getR, i_getN, i_putI, i_putZ, i_putJ, i_putR, i_iald, i_bald, i_alen, i_aald, i_iast, i_bast, i_aast, i_new, i_newa, i_anew, i_oini, i_callS, i_callV, i_callI, popn, sh4, i_sw, swP, i_copy, i_binS, List.map, Option.toList_none, Option.toList_some, List.append, List.nil_append, List.cons_append, List.length_cons, List.length_nil, List.replicate, Nat.sub_self, Nat.reduceSub, Nat.reduceAdd, hK_pI, hL_pI, hI_pI, hR_pI, hJ_pI, hT_pI, hS_pI, hK_pR, hL_pR, hI_pR, hR_pR, hJ_pR, hT_pR, hS_pR, hK_pJ, hL_pJ, hI_pJ, hR_pJ, hJ_pJ, hT_pJ, hS_pJ, hK_wI, hL_wI, hI_wI, hR_wI, hJ_wI, hT_wI, hS_wI, eq_self, and_true, true_and, and_false, false_and, or_true, true_or, or_false, false_or, if_true, if_false, not_true_eq_false, not_false_eq_true, forall_const, implies_true, false_implies, true_implies, Option.some.injEq, forall_eq', exists_eq_left', reduceCtorEq, Nat.reduceEqDiff, c1, T_X12_in, T_X12_ones, T_X11_within, T_X11_bit, T_X11_isIn, T_X11_oneIfIn, T_J6_bitCount_0f7a4, cl_nI (show k < 2147483648 by omega), in_nI (show k < 96 by omega) (by decide), show ¬ (1 : Int32) = 0 by decide]
            exact hq
          · rw [cif_f y] at hq
            simp only [hl, lay_pI, lay_wI, lay_pJ, lm_t hl, lm_k hl, lm_r hl, lm_l hl, i_push, i_ild, i_ald, i_ist, i_ast, i_inc, i_bin, i_un, i_divs, i_i2l, i_lshl, i_lor, i_dup, i_dup2, i_pop, i_if, i_cmp, i_nul, i_vret, i_iret, i_zret, i_aret, i_keep, keep, lget, lset, ent, i_getI, i_getJ, i_getR, i_getN, i_putI, i_putZ, i_putJ, i_putR, i_iald, i_bald, i_alen, i_aald, i_iast, i_bast, i_aast, i_new, i_newa, i_anew, i_oini, i_callS, i_callV, i_callI, popn, sh4, i_sw, swP, i_copy, i_binS, List.map, Option.toList_none, Option.toList_some, List.append, List.nil_append, List.cons_append, List.length_cons, List.length_nil, List.replicate, Nat.sub_self, Nat.reduceSub, Nat.reduceAdd, hK_pI, hL_pI, hI_pI, hR_pI, hJ_pI, hT_pI, hS_pI, hK_pR, hL_pR, hI_pR, hR_pR, hJ_pR, hT_pR, hS_pR, hK_pJ, hL_pJ, hI_pJ, hR_pJ, hJ_pJ, hT_pJ, hS_pJ, hK_wI, hL_wI, hI_wI, hR_wI, hJ_wI, hT_wI, hS_wI, eq_self, and_true, true_and, and_false, false_and, or_true, true_or, or_false, false_or, if_true, if_false, not_true_eq_false, not_false_eq_true, forall_const, implies_true, false_implies, true_implies, Option.some.injEq, forall_eq', exists_eq_left', reduceCtorEq, Nat.reduceEqDiff, c1, T_X12_in, T_X12_ones, T_X11_within, T_X11_bit, T_X11_isIn, T_X11_oneIfIn, T_J6_bitCount_0f7a4]
            exact hq
        · rw [if_neg z0, if_pos z1] at hq; exact hq
        · rw [if_neg z0, if_neg z1, if_pos z2] at hq; exact hq
        · rw [if_neg z0, if_neg z1, if_neg z2] at hq; exact hq
    · refine rd (-1) hc (fun Q hq => ok_X11_told _ _ _ (hcls n d1 Q (fun k hk e => absurd ⟨k, hk, e⟩ c) (fun _ => hq))) (fun Q hq => ok_X12_told _ _ _ ?_)
      have hl := hm
      unfold T_X12_told
      simp only [b_X12_told_0, T_X12_isPerson, hl, lay_pI, lay_wI, lay_pJ, lm_t hl, lm_k hl, lm_r hl, lm_l hl, i_push, i_ild, i_ald, i_ist, i_ast, i_inc, i_bin, i_un, i_divs, i_i2l, i_lshl, i_lor, i_dup, i_dup2, i_pop, i_if, i_cmp, i_nul, i_vret, i_iret, i_zret, i_aret, i_keep, keep, lget, lset, ent, i_getI, i_getJ, i_getR, i_getN, i_putI, i_putZ, i_putJ, i_putR, i_iald, i_bald, i_alen, i_aald, i_iast, i_bast, i_aast, i_new, i_newa, i_anew, i_oini, i_callS, i_callV, i_callI, popn, sh4, i_sw, swP, i_copy, i_binS, List.map, Option.toList_none, Option.toList_some, List.append, List.nil_append, List.cons_append, List.length_cons, List.length_nil, List.replicate, Nat.sub_self, Nat.reduceSub, Nat.reduceAdd, hK_pI, hL_pI, hI_pI, hR_pI, hJ_pI, hT_pI, hS_pI, hK_pR, hL_pR, hI_pR, hR_pR, hJ_pR, hT_pR, hS_pR, hK_pJ, hL_pJ, hI_pJ, hR_pJ, hJ_pJ, hT_pJ, hS_pJ, hK_wI, hL_wI, hI_wI, hR_wI, hJ_wI, hT_wI, hS_wI, eq_self, and_true, true_and, and_false, false_and, or_true, true_or, or_false, false_or, if_true, if_false, not_true_eq_false, not_false_eq_true, forall_const, implies_true, false_implies, true_implies, Option.some.injEq, forall_eq', exists_eq_left', reduceCtorEq, Nat.reduceEqDiff, c1, T_X12_in, T_X12_ones, T_X11_within, T_X11_bit, T_X11_isIn, T_X11_oneIfIn, T_J6_bitCount_0f7a4, h52, per_ix (show P ≤ 100000 by omega), b2i_0]
      exact ⟨fun _ => hq, fun z => absurd (Classical.not_not.mp z) c⟩
def L_X11_count : List UInt8 := [27, 170, 0, 0, 0, 0, 0, 134, 0, 0, 0, 0, 0, 0, 0, 7, 0, 0, 0, 47, 0, 0, 0, 58, 0, 0, 0, 69, 0, 0, 0, 80, 0, 0, 0, 91, 0, 0, 0, 99, 0, 0, 0, 110, 0, 0, 0, 122, 42, 180, 0, 24, 180, 0, 89, 180, 0, 248, 172, 42, 180, 0, 24, 180, 0, 99, 180, 0, 139, 172, 42, 180, 0, 24, 180, 0, 99, 180, 0, 249, 172, 42, 180, 0, 24, 180, 0, 130, 180, 0, 252, 172, 42, 180, 0, 24, 182, 0, 147, 172, 42, 180, 0, 24, 180, 0, 81, 180, 0, 82, 172, 42, 180, 0, 24, 180, 0, 89, 3, 182, 0, 253, 172, 42, 180, 0, 24, 180, 0, 89, 4, 182, 0, 253, 172, 2, 172]
theorem Lc_X11_count : MX11_count.2.1 = ⟨L_X11_count.toArray⟩ := rfl
theorem D_X11_count_0 : dseq MX11_count.2.1 0 [(.iload_n 1, 1)] := dq Lc_X11_count 0 _ (by decide +kernel)
theorem D_X11_count_135 : dseq MX11_count.2.1 135 [(.iconst (-1), 1), (.ireturn, 1)] := dq Lc_X11_count 135 _ (by decide +kernel)
theorem D_X11_count_48 : dseq MX11_count.2.1 48 [(.aload_n 0, 1), (.getfield 24, 3), (.getfield 89, 3), (.getfield 248, 3), (.ireturn, 1)] := dq Lc_X11_count 48 _ (by decide +kernel)
theorem D_X11_count_59 : dseq MX11_count.2.1 59 [(.aload_n 0, 1), (.getfield 24, 3), (.getfield 99, 3), (.getfield 139, 3), (.ireturn, 1)] := dq Lc_X11_count 59 _ (by decide +kernel)
theorem D_X11_count_70 : dseq MX11_count.2.1 70 [(.aload_n 0, 1), (.getfield 24, 3), (.getfield 99, 3), (.getfield 249, 3), (.ireturn, 1)] := dq Lc_X11_count 70 _ (by decide +kernel)
theorem D_X11_count_81 : dseq MX11_count.2.1 81 [(.aload_n 0, 1), (.getfield 24, 3), (.getfield 130, 3), (.getfield 252, 3), (.ireturn, 1)] := dq Lc_X11_count 81 _ (by decide +kernel)
theorem D_X11_count_92 : dseq MX11_count.2.1 92 [(.aload_n 0, 1), (.getfield 24, 3), (.invokevirtual 147, 3), (.ireturn, 1)] := dq Lc_X11_count 92 _ (by decide +kernel)
theorem D_X11_count_100 : dseq MX11_count.2.1 100 [(.aload_n 0, 1), (.getfield 24, 3), (.getfield 81, 3), (.getfield 82, 3), (.ireturn, 1)] := dq Lc_X11_count 100 _ (by decide +kernel)
theorem D_X11_count_111 : dseq MX11_count.2.1 111 [(.aload_n 0, 1), (.getfield 24, 3), (.getfield 89, 3), (.iconst 0, 1), (.invokevirtual 253, 3), (.ireturn, 1)] := dq Lc_X11_count 111 _ (by decide +kernel)
theorem D_X11_count_123 : dseq MX11_count.2.1 123 [(.aload_n 0, 1), (.getfield 24, 3), (.getfield 89, 3), (.iconst 1, 1), (.invokevirtual 253, 3), (.ireturn, 1)] := dq Lc_X11_count 123 _ (by decide +kernel)
theorem W_X11_count_1 : decode MX11_count.2.1 1 = .ok (.tableswitch 134 0 7 #[47, 58, 69, 80, 91, 99, 110, 122], 47) := by decide +kernel
def b_X11_count_0 (Q : Option Value → Hp → Prop) : Kt := i_ild 1 (i_sw [(0, i_ald 0 (i_getR 11 1 (i_getR 8 0 (i_getI 6 0 (i_iret Q))))), (1, i_ald 0 (i_getR 11 1 (i_getR 8 1 (i_getI 3 0 (i_iret Q))))), (2, i_ald 0 (i_getR 11 1 (i_getR 8 1 (i_getI 3 1 (i_iret Q))))), (3, i_ald 0 (i_getR 11 1 (i_getR 8 2 (i_getI 0 0 (i_iret Q))))), (4, i_ald 0 (i_getR 11 1 (i_callV 8 0 T_X8_evenings (i_iret Q)))), (5, i_ald 0 (i_getR 11 1 (i_getR 8 3 (i_getI 7 0 (i_iret Q))))), (6, i_ald 0 (i_getR 11 1 (i_getR 8 0 (i_push (.int 0) (i_callV 6 1 T_X6_placesInAll (i_iret Q)))))), (7, i_ald 0 (i_getR 11 1 (i_getR 8 0 (i_push (.int 1) (i_callV 6 1 T_X6_placesInAll (i_iret Q))))))] (i_push (.int (-1)) (i_iret Q)))
set_option maxRecDepth 100000 in
theorem s_X11_count_0 (Q : Option Value → Hp → Prop) : ∀ A st h, b_X11_count_0 Q A st h → wp 2 MX11_count Q 0 A st h := (q1 (s_ildn (n := 1) (i := 1) rfl) D_X11_count_0 fun D => (s_tab 135 W_X11_count_1 rfl (by decide) (q1 (s_iconst (n := (-1)) (v := (-1)) (by decide)) D_X11_count_135 fun D => (qI rfl D)) (fun k c K hk => by
    match k, hk with
    | 0, hk => cases hk; exact ⟨by decide, 48, 47, rfl, by decide, (q1 (s_aldn (n := 0) (i := 0) rfl) D_X11_count_48 fun D => (qC fl_X11_24 rfl D fun D => (qC fl_X11_89 rfl D fun D => (qC fl_X11_248 rfl D fun D => (qI rfl D)))))⟩
    | 1, hk => cases hk; exact ⟨by decide, 59, 58, rfl, by decide, (q1 (s_aldn (n := 0) (i := 0) rfl) D_X11_count_59 fun D => (qC fl_X11_24 rfl D fun D => (qC fl_X11_99 rfl D fun D => (qC fl_X11_139 rfl D fun D => (qI rfl D)))))⟩
    | 2, hk => cases hk; exact ⟨by decide, 70, 69, rfl, by decide, (q1 (s_aldn (n := 0) (i := 0) rfl) D_X11_count_70 fun D => (qC fl_X11_24 rfl D fun D => (qC fl_X11_99 rfl D fun D => (qC fl_X11_249 rfl D fun D => (qI rfl D)))))⟩
    | 3, hk => cases hk; exact ⟨by decide, 81, 80, rfl, by decide, (q1 (s_aldn (n := 0) (i := 0) rfl) D_X11_count_81 fun D => (qC fl_X11_24 rfl D fun D => (qC fl_X11_130 rfl D fun D => (qC fl_X11_252 rfl D fun D => (qI rfl D)))))⟩
    | 4, hk => cases hk; exact ⟨by decide, 92, 91, rfl, by decide, (q1 (s_aldn (n := 0) (i := 0) rfl) D_X11_count_92 fun D => (qC fl_X11_24 rfl D fun D => (qX (s_callV kX8 rfl ok_X8_evenings mo_X8_evenings (ch_3_9_ok.2.2.2.2.2.2.2.2.2.1.1 rfl) (ch_3_9_ok.2.2.2.2.2.2.2.2.2.2.1.1 rfl) (ch_3_9_ok.2.2.2.2.2.2.2.2.2.2.2.1.1 rfl)) rfl (by decide) D fun D => (qI rfl D))))⟩
    | 5, hk => cases hk; exact ⟨by decide, 100, 99, rfl, by decide, (q1 (s_aldn (n := 0) (i := 0) rfl) D_X11_count_100 fun D => (qC fl_X11_24 rfl D fun D => (qC fl_X11_81 rfl D fun D => (qC fl_X11_82 rfl D fun D => (qI rfl D)))))⟩
    | 6, hk => cases hk; exact ⟨by decide, 111, 110, rfl, by decide, (q1 (s_aldn (n := 0) (i := 0) rfl) D_X11_count_111 fun D => (qC fl_X11_24 rfl D fun D => (qC fl_X11_89 rfl D fun D => (q1 (s_iconst (n := 0) (v := 0) (by decide)) D fun D => (qX (s_callV kX6 rfl ok_X6_placesInAll mo_X6_placesInAll (ch_4_13_ok.2.2.2.2.2.2.2.2.2.2.2.2.2.2.1.1 rfl) (ch_4_13_ok.2.2.2.2.2.2.2.2.2.2.2.2.2.2.2.1.1 rfl) (ch_4_14_ok.1.1 rfl)) rfl (by decide) D fun D => (qI rfl D))))))⟩
    | 7, hk => cases hk; exact ⟨by decide, 123, 122, rfl, by decide, (q1 (s_aldn (n := 0) (i := 0) rfl) D_X11_count_123 fun D => (qC fl_X11_24 rfl D fun D => (qC fl_X11_89 rfl D fun D => (q1 (s_iconst (n := 1) (v := 1) (by decide)) D fun D => (qX (s_callV kX6 rfl ok_X6_placesInAll mo_X6_placesInAll (ch_4_13_ok.2.2.2.2.2.2.2.2.2.2.2.2.2.2.1.1 rfl) (ch_4_13_ok.2.2.2.2.2.2.2.2.2.2.2.2.2.2.2.1.1 rfl) (ch_4_14_ok.1.1 rfl)) rfl (by decide) D fun D => (qI rfl D))))))⟩
    | n + 8, hk => simp at hk)))
def T_X11_count : Tr := fun av h Q => c1 2 av ∧ b_X11_count_0 Q (ent 2 av) [] h
theorem ok_X11_count : ctr 2 MX11_count T_X11_count := ctr_of pn_X11 wc_X11_count (fun av h Q hT => ⟨c1_ok hT.1, s_X11_count_0 Q _ _ _ hT.2⟩)

theorem st_count {h : Hp} (hc : CP h) (w : Int32) : SOK 2 MX11_count 2 MX12_count [.int w] h := by
  have hl := hc.1
  have hm := hc.2.1
  obtain ⟨R, P, H, E, Ln, q, np, hs⟩ := hc.2.2.2.1
  have hlt := hs.lt
  obtain ⟨a1, a2, a3, a4, a5, a6, a7, a8, a9, a10, a11, a12, a13⟩ := id hs
  have h12 : hI h 12 0 = nI R := a4.2.1
  have h16 : hI h 16 0 = nI P := a5.2.1
  have h25 : hI h 25 0 = hI h 64 0 := a7.2.1.trans a7.2.2.1.symm
  have h161 : hI h 16 1 = nI (prN (hI h) P) := by
    have := a9.2.2.2.2.2.2.2.2
    unfold prN
    rw [this, Nat.mul_div_cancel_left np (by decide)]; exact a6
  have hpi : ∀ cold w' : Int32, (cold = 0 ↔ ¬ w' = 7) → ∀ r, r ≤ R → piF (hI h) cold r = cntF (hI h) w' R r := fun cold w' hcw r => by
    induction r with
    | zero => intro _; rfl
    | succ r ih =>
      intro hr
      obtain ⟨p1, p2, _⟩ := a4.2.2.2.1 r (by omega)
      have p1' : hI h 13 r = hI h 47 r := p1
      have p2' : hI h 14 r = hI h 48 r := p2
      rw [piF, cntF, ih (by omega), p1', p2']
      by_cases c : cold = 0
      · rw [if_pos c, if_neg (hcw.mp c), Int32.add_zero]
      · rw [if_neg c, if_pos (Classical.not_not.mp (fun z => c (hcw.mpr z)))]
  have hrf := a3.f
  have hq0 : hI h q 0 = hI h 69 0 := a8.2.1.trans a8.2.2.1.symm
  refine rd (if w = 0 then nI R else if w = 1 then nI P else if w = 2 then nI (prN (hI h) P) else if w = 3 then hI h 64 0 else if w = 4 then hI h 76 0 else if w = 5 then hI h 69 0 else if w = 6 then cntF (hI h) w R R else if w = 7 then cntF (hI h) w R R else -1) hc (fun Q hq => ok_X11_count _ _ _ ?_) (fun Q hq => ok_X12_count _ _ _ ⟨rfl, hm, R, P, a4.1, a4.2.2.1, a5.1, a5.2.2.1, hq⟩)
  unfold T_X11_count
  simp only [b_X11_count_0, lx_pI, lx_wI, lx_t hl, lx_k hl, lx_r hl, lx_l hl, i_push, i_ild, i_ald, i_ist, i_ast, i_inc, i_bin, i_un, i_divs, i_i2l, i_lshl, i_lor, i_dup, i_dup2, i_pop, i_if, i_cmp, i_nul, i_vret, i_iret, i_zret, i_aret, i_keep, keep, lget, lset, ent, i_getI, i_getJ, i_getR, i_getN, i_putI, i_putZ, i_putJ, i_putR, i_iald, i_bald, i_alen, i_aald, i_iast, i_bast, i_aast, i_new, i_newa, i_anew, i_oini, i_callS, i_callV, i_callI, popn, sh4, i_sw, swP, i_copy, i_binS, List.map, Option.toList_none, Option.toList_some, List.append, List.nil_append, List.cons_append, List.length_cons, List.length_nil, List.replicate, Nat.sub_self, Nat.reduceSub, Nat.reduceAdd, hK_pI, hL_pI, hI_pI, hR_pI, hJ_pI, hT_pI, hS_pI, hK_pR, hL_pR, hI_pR, hR_pR, hJ_pR, hT_pR, hS_pR, hK_pJ, hL_pJ, hI_pJ, hR_pJ, hJ_pJ, hT_pJ, hS_pJ, hK_wI, hL_wI, hI_wI, hR_wI, hJ_wI, hT_wI, hS_wI, eq_self, and_true, true_and, and_false, false_and, or_true, true_or, or_false, false_or, if_true, if_false, not_true_eq_false, not_false_eq_true, forall_const, implies_true, false_implies, true_implies, Option.some.injEq, forall_eq', exists_eq_left', reduceCtorEq, Nat.reduceEqDiff, c1, T_X12_in, T_X12_ones, T_X11_within, T_X11_bit, T_X11_isIn, T_X11_oneIfIn, T_J6_bitCount_0f7a4, h12, h16, h161, h25, a2, hrf, hq0]
  iterate 4 (refine ⟨fun c => by rw [if_pos c] at hq; exact hq, fun c => ?_⟩; rw [if_neg c] at hq)
  refine ⟨fun c => ?_, fun c => ?_⟩
  · rw [if_pos c, a11] at hq
    exact eve_go h hl (hI h) E hlt _ hq
  rw [if_neg c] at hq
  refine ⟨fun c => by rw [if_pos c] at hq; exact hq, fun c => ?_⟩
  rw [if_neg c] at hq
  refine ⟨fun c => ?_, fun c => ⟨fun c2 => ?_, fun c2 => by rw [if_neg c, if_neg c2] at hq; exact hq⟩⟩
  · rw [if_pos c, ← hpi 0 w ⟨fun _ => by rw [c]; decide, fun _ => rfl⟩ R (Nat.le_refl _)] at hq
    exact ⟨rfl, hl, R, a4.1, h12, hq⟩
  · rw [if_neg c, if_pos c2, ← hpi 1 w ⟨fun z => absurd z (by decide), fun z => absurd c2 z⟩ R (Nat.le_refl _)] at hq
    exact ⟨rfl, hl, R, a4.1, h12, hq⟩
/-! an evening by its number -/
def rv : Option Nat → Value
  | none => .null
  | some n => .ref n
def NF (h : Hp) (J : Mem) (e n Rn : Nat) : Prop := LayN h n Rn ∧ Rn ≤ 4 ∧ hI h n 1 = nI e ∧ hI h n 2 = J 77 (10 * e) ∧ hI h n 4 = J 77 (10 * e + 1) ∧ hI h n 5 = J 77 (10 * e + 2) ∧ hI h n 6 = J 77 (10 * e + 3) ∧ hI h n 3 = J 77 (10 * e + 4) ∧ (hI h n 3 = 0 ∨ hI h n 3 = 1) ∧ J 77 (10 * e + 9) = nI Rn ∧ (∀ r, r < Rn → hI h (n + 3) r = J 77 (10 * e + 5 + r))
def T_X8_nightOf : Tr := fun av h Q => match av with
  | [.ref s, .int x] => s = 3 ∧ LayX h ∧ ∃ J E, E ≤ 400 ∧ NC h J E (hR h 3 4) ∧ (∀ e n Rn, e < E → x = nI e → NF h J e n Rn → Q (some (.ref n)) h) ∧ ((¬ ∃ e, e < E ∧ x = nI e) → Q (some .null) h)
  | _ => False
def L_X8_nightOf : List UInt8 := [42, 180, 0, 46, 77, 44, 198, 0, 19, 44, 180, 0, 50, 27, 159, 0, 11, 44, 180, 0, 56, 77, 167, 255, 239, 44, 176]
theorem Lc_X8_nightOf : MX8_nightOf.2.1 = ⟨L_X8_nightOf.toArray⟩ := rfl
theorem D_X8_nightOf_0 : dseq MX8_nightOf.2.1 0 [(.aload_n 0, 1), (.getfield 46, 3), (.astore_n 2, 1)] := dq Lc_X8_nightOf 0 _ (by decide +kernel)
theorem D_X8_nightOf_5 : dseq MX8_nightOf.2.1 5 [(.aload_n 2, 1), (.ifnull 19, 3), (.aload_n 2, 1), (.getfield 50, 3), (.iload_n 1, 1), (.if_icmp .eq 11, 3), (.aload_n 2, 1), (.getfield 56, 3), (.astore_n 2, 1), (.goto (-17), 3)] := dq Lc_X8_nightOf 5 _ (by decide +kernel)
theorem D_X8_nightOf_25 : dseq MX8_nightOf.2.1 25 [(.aload_n 2, 1), (.areturn, 1)] := dq Lc_X8_nightOf 25 _ (by decide +kernel)
def b_X8_nightOf_0 (Q : Option Value → Hp → Prop) : Kt := i_ald 0 (i_getN 8 4 (i_ast 2 (i_keep [false, true, true] (wp 0 MX8_nightOf Q 5))))
set_option maxRecDepth 100000 in
theorem s_X8_nightOf_0 (Q : Option Value → Hp → Prop) : ∀ A st h, b_X8_nightOf_0 Q A st h → wp 0 MX8_nightOf Q 0 A st h := (q1 (s_aldn (n := 0) (i := 0) rfl) D_X8_nightOf_0 fun D => (qC fl_X8_46 rfl D fun D => (qL (s_astn (n := 2) (i := 2) rfl) (by decide) D fun D => (s_keep [false, true, true] fun _ _ _ h => h))))
def b_X8_nightOf_5 (Q : Option Value → Hp → Prop) : Kt := i_ald 2 (i_nul (i_ald 2 (i_aret Q)) (i_ald 2 (i_getI 1 1 (i_ild 1 (i_cmp (fun x y => x = y) (i_ald 2 (i_aret Q)) (i_ald 2 (i_getN 1 0 (i_ast 2 (i_keep [false, true, true] (wp 0 MX8_nightOf Q 5))))))))))
set_option maxRecDepth 100000 in
theorem s_X8_nightOf_5 (Q : Option Value → Hp → Prop) : ∀ A st h, b_X8_nightOf_5 Q A st h → wp 0 MX8_nightOf Q 5 A st h := (q1 (s_aldn (n := 2) (i := 2) rfl) D_X8_nightOf_5 fun D => (qB s_ifnull 25 (by decide) D (q1 (s_aldn (n := 2) (i := 2) rfl) D_X8_nightOf_25 fun D => (qA (C := "NightShelter$Night") rfl D)) fun D => (q1 (s_aldn (n := 2) (i := 2) rfl) D fun D => (qC fl_X8_50 rfl D fun D => (q1 (s_ildn (n := 1) (i := 1) rfl) D fun D => (qB s_cmpeq 25 (by decide) D (q1 (s_aldn (n := 2) (i := 2) rfl) D_X8_nightOf_25 fun D => (qA (C := "NightShelter$Night") rfl D)) fun D => (q1 (s_aldn (n := 2) (i := 2) rfl) D fun D => (qC fl_X8_56 rfl D fun D => (qL (s_astn (n := 2) (i := 2) rfl) (by decide) D fun D => (qG 5 (by decide) D (s_keep [false, true, true] fun _ _ _ h => h)))))))))))

set_option maxRecDepth 100000 in
theorem nof_5 (Q : Option Value → Hp → Prop) (h : Hp) (J : Mem) (x : Int32) : ∀ (E : Nat) (o : Option Nat), E ≤ 400 → NC h J E o → (∀ e n Rn, e < E → x = nI e → NF h J e n Rn → Q (some (.ref n)) h) → ((¬ ∃ e, e < E ∧ x = nI e) → Q (some .null) h) → wp 0 MX8_nightOf Q 5 [none, some (.int x), some (rv o)] [] h
  | 0, o, hE, hn, hq1, hq0 => by
    have hn' : o = none := hn
    have hgo := hq0 (fun ⟨e, he, _⟩ => absurd he (Nat.not_lt_zero _))
    subst hn'
    refine s_X8_nightOf_5 Q _ _ _ ?_
    simp only [b_X8_nightOf_5, i_push, i_ild, i_ald, i_ist, i_ast, i_inc, i_bin, i_un, i_divs, i_i2l, i_lshl, i_lor, i_dup, i_dup2, i_pop, i_if, i_cmp, i_nul, i_vret, i_iret, i_zret, i_aret, i_keep, keep, lget, lset, ent, i_getI, i_getJ, i_getR, i_getN, i_putI, i_putZ, i_putJ, i_putR, i_iald, i_bald, i_alen, i_aald, i_iast, i_bast, i_aast, i_new, i_newa, i_anew, i_oini, i_callS, i_callV, i_callI, popn, sh4, i_sw, swP, i_copy, i_binS, List.map, Option.toList_none, Option.toList_some, List.append, List.nil_append, List.cons_append, List.length_cons, List.length_nil, List.replicate, Nat.sub_self, Nat.reduceSub, Nat.reduceAdd, hK_pI, hL_pI, hI_pI, hR_pI, hJ_pI, hT_pI, hS_pI, hK_pR, hL_pR, hI_pR, hR_pR, hJ_pR, hT_pR, hS_pR, hK_pJ, hL_pJ, hI_pJ, hR_pJ, hJ_pJ, hT_pJ, hS_pJ, hK_wI, hL_wI, hI_wI, hR_wI, hJ_wI, hT_wI, hS_wI, eq_self, and_true, true_and, and_false, false_and, or_true, true_or, or_false, false_or, if_true, if_false, not_true_eq_false, not_false_eq_true, forall_const, implies_true, false_implies, true_implies, Option.some.injEq, forall_eq', exists_eq_left', reduceCtorEq, Nat.reduceEqDiff, c1, T_X12_in, T_X12_ones, T_X11_within, T_X11_bit, T_X11_isIn, T_X11_oneIfIn, T_J6_bitCount_0f7a4, rv]
    exact hgo
  | E + 1, o, hE, hn, hq1, hq0 => by
    obtain ⟨n, Rn, d1, c2, c3, c4, c5, c6, c7, c8, c9, c10, c11, c12, c13⟩ := hn
    have hf := c2.f
    have ih := nof_5 Q h J x E (hR h n 0) (by omega) c13 (fun e n' Rn' he ex hnf => hq1 e n' Rn' (by omega) ex hnf)
    have hyes : nI E = x → Q (some (.ref n)) h := fun z => hq1 E n Rn (by omega) z.symm ⟨c2, c3, c4, c5, c6, c7, c8, c9, c10, c11, c12⟩
    have hnext : ¬ nI E = x → wp 0 MX8_nightOf Q 5 [none, some (.int x), some (rv (hR h n 0))] [] h := fun z => ih (fun w => hq0 (fun ⟨e, he, ex⟩ => w ⟨e, by
      have : e ≠ E := fun y => z (by rw [← y]; exact ex.symm)
      omega, ex⟩))
    subst d1
    refine s_X8_nightOf_5 Q _ _ _ ?_
    simp only [b_X8_nightOf_5, i_push, i_ild, i_ald, i_ist, i_ast, i_inc, i_bin, i_un, i_divs, i_i2l, i_lshl, i_lor, i_dup, i_dup2, i_pop, i_if, i_cmp, i_nul, i_vret, i_iret, i_zret, i_aret, i_keep, keep, lget, lset, ent, i_getI, i_getJ, i_getR, i_getN, i_putI, i_putZ, i_putJ, i_putR, i_iald, i_bald, i_alen, i_aald, i_iast, i_bast, i_aast, i_new, i_newa, i_anew, i_oini, i_callS, i_callV, i_callI, popn, sh4, i_sw, swP, i_copy, i_binS, List.map, Option.toList_none, Option.toList_some, List.append, List.nil_append, List.cons_append, List.length_cons, List.length_nil, List.replicate, Nat.sub_self, Nat.reduceSub, Nat.reduceAdd, hK_pI, hL_pI, hI_pI, hR_pI, hJ_pI, hT_pI, hS_pI, hK_pR, hL_pR, hI_pR, hR_pR, hJ_pR, hT_pR, hS_pR, hK_pJ, hL_pJ, hI_pJ, hR_pJ, hJ_pJ, hT_pJ, hS_pJ, hK_wI, hL_wI, hI_wI, hR_wI, hJ_wI, hT_wI, hS_wI, eq_self, and_true, true_and, and_false, false_and, or_true, true_or, or_false, false_or, if_true, if_false, not_true_eq_false, not_false_eq_true, forall_const, implies_true, false_implies, true_implies, Option.some.injEq, forall_eq', exists_eq_left', reduceCtorEq, Nat.reduceEqDiff, c1, T_X12_in, T_X12_ones, T_X11_within, T_X11_bit, T_X11_isIn, T_X11_oneIfIn, T_J6_bitCount_0f7a4, rv, hf, c4]
    refine ⟨hyes, fun z => ⟨fun b hb => ?_, fun hb => ?_⟩⟩
    · have := hnext z
      rw [hb] at this; exact this
    · have := hnext z
      rw [hb] at this; exact this
set_option maxRecDepth 100000 in
set_option maxHeartbeats 4000000 in
theorem ok_X8_nightOf : ctr 0 MX8_nightOf T_X8_nightOf := by
  refine ctr_of pn_X8 wc_X8_nightOf (fun av h Q hT => ?_)
  unfold T_X8_nightOf at hT
  split at hT
  · rename_i s x
    refine ⟨⟨by simp [Value.category], Nat.le_of_ble_eq_true rfl⟩, s_X8_nightOf_0 Q _ _ _ ?_⟩
    obtain ⟨rfl, hl, J, E, hE, hn, hq1, hq0⟩ := hT
    have := nof_5 Q h J x E (hR h 3 4) hE hn hq1 hq0
    simp only [MX8_nightOf, b_X8_nightOf_0, lx_pI, lx_wI, lx_t hl, lx_k hl, lx_r hl, lx_l hl, i_push, i_ild, i_ald, i_ist, i_ast, i_inc, i_bin, i_un, i_divs, i_i2l, i_lshl, i_lor, i_dup, i_dup2, i_pop, i_if, i_cmp, i_nul, i_vret, i_iret, i_zret, i_aret, i_keep, keep, lget, lset, ent, i_getI, i_getJ, i_getR, i_getN, i_putI, i_putZ, i_putJ, i_putR, i_iald, i_bald, i_alen, i_aald, i_iast, i_bast, i_aast, i_new, i_newa, i_anew, i_oini, i_callS, i_callV, i_callI, popn, sh4, i_sw, swP, i_copy, i_binS, List.map, Option.toList_none, Option.toList_some, List.append, List.nil_append, List.cons_append, List.length_cons, List.length_nil, List.replicate, Nat.sub_self, Nat.reduceSub, Nat.reduceAdd, hK_pI, hL_pI, hI_pI, hR_pI, hJ_pI, hT_pI, hS_pI, hK_pR, hL_pR, hI_pR, hR_pR, hJ_pR, hT_pR, hS_pR, hK_pJ, hL_pJ, hI_pJ, hR_pJ, hJ_pJ, hT_pJ, hS_pJ, hK_wI, hL_wI, hI_wI, hR_wI, hJ_wI, hT_wI, hS_wI, eq_self, and_true, true_and, and_false, false_and, or_true, true_or, or_false, false_or, if_true, if_false, not_true_eq_false, not_false_eq_true, forall_const, implies_true, false_implies, true_implies, Option.some.injEq, forall_eq', exists_eq_left', reduceCtorEq, Nat.reduceEqDiff, c1, T_X12_in, T_X12_ones, T_X11_within, T_X11_bit, T_X11_isIn, T_X11_oneIfIn, T_J6_bitCount_0f7a4]
    refine ⟨fun b hb => ?_, fun hb => ?_⟩
    · rw [hb] at this; exact this
    · rw [hb] at this; exact this
  · exact hT.elim
