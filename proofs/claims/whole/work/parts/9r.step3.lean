/-! ===== steps: book, end ===== -/
def L_X11_book : List UInt8 := [42, 180, 0, 24, 27, 182, 0, 231, 78, 45, 199, 0, 5, 2, 172, 28, 170, 0, 0, 0, 0, 0, 0, 69, 0, 0, 0, 0, 0, 0, 0, 4, 0, 0, 0, 36, 0, 0, 0, 41, 0, 0, 0, 46, 0, 0, 0, 51, 0, 0, 0, 56, 45, 180, 0, 235, 172, 45, 180, 0, 172, 172, 45, 180, 0, 194, 172, 45, 180, 0, 238, 172, 45, 180, 0, 241, 153, 0, 7, 4, 167, 0, 4, 3, 172, 28, 16, 10, 16, 9, 45, 180, 0, 245, 190, 96, 184, 0, 85, 153, 0, 15, 45, 180, 0, 245, 28, 16, 10, 100, 46, 167, 0, 4, 2, 172]
theorem Lc_X11_book : MX11_book.2.1 = ⟨L_X11_book.toArray⟩ := rfl
theorem D_X11_book_0 : dseq MX11_book.2.1 0 [(.aload_n 0, 1), (.getfield 24, 3), (.iload_n 1, 1), (.invokevirtual 231, 3), (.astore_n 3, 1), (.aload_n 3, 1), (.ifnonnull 5, 3), (.iconst (-1), 1), (.ireturn, 1)] := dq Lc_X11_book 0 _ (by decide +kernel)
theorem D_X11_book_15 : dseq MX11_book.2.1 15 [(.iload_n 2, 1)] := dq Lc_X11_book 15 _ (by decide +kernel)
theorem D_X11_book_85 : dseq MX11_book.2.1 85 [(.iload_n 2, 1), (.bipush 10, 2), (.bipush 9, 2), (.aload_n 3, 1), (.getfield 245, 3), (.arraylength, 1), (.iadd, 1), (.invokestatic 85, 3), (.ifCond .eq 15, 3), (.aload_n 3, 1), (.getfield 245, 3), (.iload_n 2, 1), (.bipush 10, 2), (.isub, 1), (.iaload, 1), (.goto 4, 3)] := dq Lc_X11_book 85 _ (by decide +kernel)
theorem D_X11_book_114 : dseq MX11_book.2.1 114 [(.iconst (-1), 1), (.ireturn, 1)] := dq Lc_X11_book 114 _ (by decide +kernel)
theorem D_X11_book_115 : dseq MX11_book.2.1 115 [(.ireturn, 1)] := dq Lc_X11_book 115 _ (by decide +kernel)
theorem D_X11_book_52 : dseq MX11_book.2.1 52 [(.aload_n 3, 1), (.getfield 235, 3), (.ireturn, 1)] := dq Lc_X11_book 52 _ (by decide +kernel)
theorem D_X11_book_57 : dseq MX11_book.2.1 57 [(.aload_n 3, 1), (.getfield 172, 3), (.ireturn, 1)] := dq Lc_X11_book 57 _ (by decide +kernel)
theorem D_X11_book_62 : dseq MX11_book.2.1 62 [(.aload_n 3, 1), (.getfield 194, 3), (.ireturn, 1)] := dq Lc_X11_book 62 _ (by decide +kernel)
theorem D_X11_book_67 : dseq MX11_book.2.1 67 [(.aload_n 3, 1), (.getfield 238, 3), (.ireturn, 1)] := dq Lc_X11_book 67 _ (by decide +kernel)
theorem D_X11_book_72 : dseq MX11_book.2.1 72 [(.aload_n 3, 1), (.getfield 241, 3), (.ifCond .eq 7, 3), (.iconst 1, 1), (.goto 4, 3)] := dq Lc_X11_book 72 _ (by decide +kernel)
theorem D_X11_book_83 : dseq MX11_book.2.1 83 [(.iconst 0, 1), (.ireturn, 1)] := dq Lc_X11_book 83 _ (by decide +kernel)
theorem D_X11_book_84 : dseq MX11_book.2.1 84 [(.ireturn, 1)] := dq Lc_X11_book 84 _ (by decide +kernel)
theorem W_X11_book_16 : decode MX11_book.2.1 16 = .ok (.tableswitch 69 0 4 #[36, 41, 46, 51, 56], 36) := by decide +kernel
def c_X11_book_8 (Q : Option Value → Hp → Prop) : Kt := i_ast 3 (i_ald 3 (i_nul (i_push (.int (-1)) (i_iret Q)) (i_ild 2 (i_sw [(0, i_ald 3 (i_getI 1 2 (i_iret Q))), (1, i_ald 3 (i_getI 1 4 (i_iret Q))), (2, i_ald 3 (i_getI 1 5 (i_iret Q))), (3, i_ald 3 (i_getI 1 6 (i_iret Q))), (4, i_ald 3 (i_getI 1 3 (i_if (fun x => x = 0) (i_push (.int 0) (i_iret Q)) (i_push (.int 1) (i_iret Q)))))] (i_ild 2 (i_push (.int 10) (i_push (.int 9) (i_ald 3 (i_getR 1 11 (i_alen (i_bin (fun x y => x + y) (i_callS 3 T_X11_within (i_if (fun x => x = 0) (i_push (.int (-1)) (i_iret Q)) (i_ald 3 (i_getR 1 11 (i_ild 2 (i_push (.int 10) (i_bin (fun x y => x - y) (i_iald (i_iret Q))))))))))))))))))))
def b_X11_book_0 (Q : Option Value → Hp → Prop) : Kt := i_ald 0 (i_getR 11 1 (i_ild 1 (i_callV 8 1 T_X8_nightOf (c_X11_book_8 Q))))
set_option maxRecDepth 100000 in
theorem s_X11_book_0 (Q : Option Value → Hp → Prop) : ∀ A st h, b_X11_book_0 Q A st h → wp 1 MX11_book Q 0 A st h := (q1 (s_aldn (n := 0) (i := 0) rfl) D_X11_book_0 fun D => (qC fl_X11_24 rfl D fun D => (q1 (s_ildn (n := 1) (i := 1) rfl) D fun D => (qX (s_callV kX8 rfl ok_X8_nightOf mo_X8_nightOf (ch_4_13_ok.2.2.2.2.2.2.1.1 rfl) (ch_4_13_ok.2.2.2.2.2.2.2.1.1 rfl) (ch_4_13_ok.2.2.2.2.2.2.2.2.1.1 rfl)) rfl (by decide) D fun D => (qL (s_astn (n := 3) (i := 3) rfl) (by decide) D fun D => (q1 (s_aldn (n := 3) (i := 3) rfl) D fun D => (qBn s_ifnonnull2 15 (by decide) D (q1 (s_ildn (n := 2) (i := 2) rfl) D_X11_book_15 fun D => (s_tab 85 W_X11_book_16 rfl (by decide) (q1 (s_ildn (n := 2) (i := 2) rfl) D_X11_book_85 fun D => (q1 (s_bipush (n := 10) (v := 10) (by decide)) D fun D => (q1 (s_bipush (n := 9) (v := 9) (by decide)) D fun D => (q1 (s_aldn (n := 3) (i := 3) rfl) D fun D => (qC fl_X11_245 rfl D fun D => (q1 s_alen D fun D => (q1 s_add D fun D => (qX (s_callS ok_X11_within mo_X11_within (ch_3_5_ok.2.2.2.2.1.1 rfl) (ch_3_5_ok.2.2.2.2.2.1.1 rfl)) rfl (by decide) D fun D => (qB s_ifeq 114 (by decide) D (q1 (s_iconst (n := (-1)) (v := (-1)) (by decide)) D_X11_book_114 fun D => (qI rfl D)) fun D => (q1 (s_aldn (n := 3) (i := 3) rfl) D fun D => (qC fl_X11_245 rfl D fun D => (q1 (s_ildn (n := 2) (i := 2) rfl) D fun D => (q1 (s_bipush (n := 10) (v := 10) (by decide)) D fun D => (q1 s_sub D fun D => (q1 s_iald D fun D => (qG 115 (by decide) D (qI rfl D_X11_book_115))))))))))))))))) (fun k c K hk => by
    match k, hk with
    | 0, hk => cases hk; exact ⟨by decide, 52, 36, rfl, by decide, (q1 (s_aldn (n := 3) (i := 3) rfl) D_X11_book_52 fun D => (qC fl_X11_235 rfl D fun D => (qI rfl D)))⟩
    | 1, hk => cases hk; exact ⟨by decide, 57, 41, rfl, by decide, (q1 (s_aldn (n := 3) (i := 3) rfl) D_X11_book_57 fun D => (qC fl_X11_172 rfl D fun D => (qI rfl D)))⟩
    | 2, hk => cases hk; exact ⟨by decide, 62, 46, rfl, by decide, (q1 (s_aldn (n := 3) (i := 3) rfl) D_X11_book_62 fun D => (qC fl_X11_194 rfl D fun D => (qI rfl D)))⟩
    | 3, hk => cases hk; exact ⟨by decide, 67, 51, rfl, by decide, (q1 (s_aldn (n := 3) (i := 3) rfl) D_X11_book_67 fun D => (qC fl_X11_238 rfl D fun D => (qI rfl D)))⟩
    | 4, hk => cases hk; exact ⟨by decide, 72, 56, rfl, by decide, (q1 (s_aldn (n := 3) (i := 3) rfl) D_X11_book_72 fun D => (qC fl_X11_241 rfl D fun D => (qB s_ifeq 83 (by decide) D (q1 (s_iconst (n := 0) (v := 0) (by decide)) D_X11_book_83 fun D => (qI rfl D)) fun D => (q1 (s_iconst (n := 1) (v := 1) (by decide)) D fun D => (qG 84 (by decide) D (qI rfl D_X11_book_84))))))⟩
    | n + 5, hk => simp at hk))) fun D => (q1 (s_iconst (n := (-1)) (v := (-1)) (by decide)) D fun D => (qI rfl D)))))))))
def T_X11_book : Tr := fun av h Q => c1 4 av ∧ b_X11_book_0 Q (ent 4 av) [] h
theorem ok_X11_book : ctr 1 MX11_book T_X11_book := ctr_of pn_X11 wc_X11_book (fun av h Q hT => ⟨c1_ok hT.1, s_X11_book_0 Q _ _ _ hT.2⟩)

theorem st_book {h : Hp} (hc : CP h) (x w : Int32) : SOK 1 MX11_book 1 MX12_book [.int x, .int w] h := by
  have hl := hc.1
  have hm := hc.2.1
  obtain ⟨R, P, H, E, Ln, q, np, hs⟩ := hc.2.2.2.1
  obtain ⟨a1, a2, a3, a4, a5, a6, a7, a8, a9, a10, a11, a12, a13⟩ := id hs
  have hcls : ∀ Q : Option Value → Hp → Prop, (∀ e n Rn, e < E → x = nI e → NF h (hI h) e n Rn → c_X11_book_8 Q [some (.ref 0), some (.int x), some (.int w), none] [.ref n] h) → ((¬ ∃ e, e < E ∧ x = nI e) → Q (some (.int (-1))) h) → T_X11_book [.ref 0, .int x, .int w] h Q := by
    intro Q g1 g0
    have hgo : T_X8_nightOf [.ref 3, .int x] h (fun r h' => c_X11_book_8 Q [some (.ref 0), some (.int x), some (.int w), none] (r.toList ++ []) h') := ⟨rfl, hl, hI h, E, a10, a12, fun e n Rn he ex hnf => g1 e n Rn he ex hnf, fun z => by
      have := g0 z
      show c_X11_book_8 Q _ [.null] h
      simp only [c_X11_book_8, i_push, i_ild, i_ald, i_ist, i_ast, i_inc, i_bin, i_un, i_divs, i_i2l, i_lshl, i_lor, i_dup, i_dup2, i_pop, i_if, i_cmp, i_nul, i_vret, i_iret, i_zret, i_aret, i_keep, keep, lget, lset, ent, i_getI, i_getJ, i_getR, i_getN, i_putI, i_putZ, i_putJ, i_putR, i_iald, i_bald, i_alen, i_aald, i_iast, i_bast, i_aast, i_new, i_newa, i_anew, i_oini, i_callS, i_callV, i_callI, popn, sh4, i_sw, swP, i_copy, i_binS, List.map, Option.toList_none, Option.toList_some, List.append, List.nil_append, List.cons_append, List.length_cons, List.length_nil, List.replicate, Nat.sub_self, Nat.reduceSub, Nat.reduceAdd, hK_pI, hL_pI, hI_pI, hR_pI, hJ_pI, hT_pI, hS_pI, hK_pR, hL_pR, hI_pR, hR_pR, hJ_pR, hT_pR, hS_pR, hK_pJ, hL_pJ, hI_pJ, hR_pJ, hJ_pJ, hT_pJ, hS_pJ, hK_wI, hL_wI, hI_wI, hR_wI, hJ_wI, hT_wI, hS_wI, eq_self, and_true, true_and, and_false, false_and, or_true, true_or, or_false, false_or, if_true, if_false, not_true_eq_false, not_false_eq_true, forall_const, implies_true, false_implies, true_implies, Option.some.injEq, forall_eq', exists_eq_left', reduceCtorEq, Nat.reduceEqDiff, c1, T_X12_in, T_X12_ones, T_X11_within, T_X11_bit, T_X11_isIn, T_X11_oneIfIn, T_J6_bitCount_0f7a4]
      exact this⟩
    unfold T_X11_book
    simp only [b_X11_book_0, lx_pI, lx_wI, lx_t hl, lx_k hl, lx_r hl, lx_l hl, i_push, i_ild, i_ald, i_ist, i_ast, i_inc, i_bin, i_un, i_divs, i_i2l, i_lshl, i_lor, i_dup, i_dup2, i_pop, i_if, i_cmp, i_nul, i_vret, i_iret, i_zret, i_aret, i_keep, keep, lget, lset, ent, i_getI, i_getJ, i_getR, i_getN, i_putI, i_putZ, i_putJ, i_putR, i_iald, i_bald, i_alen, i_aald, i_iast, i_bast, i_aast, i_new, i_newa, i_anew, i_oini, i_callS, i_callV, i_callI, popn, sh4, i_sw, swP, i_copy, i_binS, List.map, Option.toList_none, Option.toList_some, List.append, List.nil_append, List.cons_append, List.length_cons, List.length_nil, List.replicate, Nat.sub_self, Nat.reduceSub, Nat.reduceAdd, hK_pI, hL_pI, hI_pI, hR_pI, hJ_pI, hT_pI, hS_pI, hK_pR, hL_pR, hI_pR, hR_pR, hJ_pR, hT_pR, hS_pR, hK_pJ, hL_pJ, hI_pJ, hR_pJ, hJ_pJ, hT_pJ, hS_pJ, hK_wI, hL_wI, hI_wI, hR_wI, hJ_wI, hT_wI, hS_wI, eq_self, and_true, true_and, and_false, false_and, or_true, true_or, or_false, false_or, if_true, if_false, not_true_eq_false, not_false_eq_true, forall_const, implies_true, false_implies, true_implies, Option.some.injEq, forall_eq', exists_eq_left', reduceCtorEq, Nat.reduceEqDiff, c1, T_X12_in, T_X12_ones, T_X11_within, T_X11_bit, T_X11_isIn, T_X11_oneIfIn, T_J6_bitCount_0f7a4]
    exact hgo
  by_cases c : ∃ e, e < E ∧ x = nI e
  · obtain ⟨e, he, rfl⟩ := c
    have e10 : (10 : Int32) * nI e = nI (10 * e) := nI_mul 10 e
    have he1 : ∀ e2, nI e = nI e2 → e2 < E → e2 = e := fun e2 z z2 => ((nI_inj (by omega) (by omega)).mp z).symm
    by_cases c5 : ∃ k, k < 5 ∧ w = nI k
    · obtain ⟨k, hk, rfl⟩ := c5
      have hk' : k = 0 ∨ k = 1 ∨ k = 2 ∨ k = 3 ∨ k = 4 := by omega
      rcases hk' with rfl | rfl | rfl | rfl | rfl
      · have ew : nI 0 = (0 : Int32) := rfl
        rw [ew] at hcls ⊢
        refine rd (hI h 77 (10 * e)) hc (fun Q hq => ok_X11_book _ _ _ (hcls Q (fun e2 n Rn he2 ex hnf => ?_) (fun z => absurd ⟨e, he, rfl⟩ z))) (fun Q hq => ok_X12_book _ _ _ ?_)
        · have ee := he1 e2 ex he2
          subst ee
          obtain ⟨d1, d2, d3, d4, d5, d6, d7, d8, d9, d10, d11⟩ := hnf
          have hf := d1.f
          simp only [c_X11_book_8, lx_pI, lx_wI, lx_t hl, lx_k hl, lx_r hl, lx_l hl, i_push, i_ild, i_ald, i_ist, i_ast, i_inc, i_bin, i_un, i_divs, i_i2l, i_lshl, i_lor, i_dup, i_dup2, i_pop, i_if, i_cmp, i_nul, i_vret, i_iret, i_zret, i_aret, i_keep, keep, lget, lset, ent, i_getI, i_getJ, i_getR, i_getN, i_putI, i_putZ, i_putJ, i_putR, i_iald, i_bald, i_alen, i_aald, i_iast, i_bast, i_aast, i_new, i_newa, i_anew, i_oini, i_callS, i_callV, i_callI, popn, sh4, i_sw, swP, i_copy, i_binS, List.map, Option.toList_none, Option.toList_some, List.append, List.nil_append, List.cons_append, List.length_cons, List.length_nil, List.replicate, Nat.sub_self, Nat.reduceSub, Nat.reduceAdd, hK_pI, hL_pI, hI_pI, hR_pI, hJ_pI, hT_pI, hS_pI, hK_pR, hL_pR, hI_pR, hR_pR, hJ_pR, hT_pR, hS_pR, hK_pJ, hL_pJ, hI_pJ, hR_pJ, hJ_pJ, hT_pJ, hS_pJ, hK_wI, hL_wI, hI_wI, hR_wI, hJ_wI, hT_wI, hS_wI, eq_self, and_true, true_and, and_false, false_and, or_true, true_or, or_false, false_or, if_true, if_false, not_true_eq_false, not_false_eq_true, forall_const, implies_true, false_implies, true_implies, Option.some.injEq, forall_eq', exists_eq_left', reduceCtorEq, Nat.reduceEqDiff, c1, T_X12_in, T_X12_ones, T_X11_within, T_X11_bit, T_X11_isIn, T_X11_oneIfIn, T_J6_bitCount_0f7a4, hf, d4, d5, d6, d7]
          exact hq
        · have hl := hm
          have ei : 10 * nI e + 0 = nI (10 * e) := by
            rw [e10]
            exact nI_add (10 * e) 0
          have i1 : (0 : Int32) ≤ 0 := by decide
          have i2 : (0 : Int32) ≤ 4 := by decide
          have hE1 : ∃ k, k < E ∧ nI e = nI k := ⟨e, he, rfl⟩
          unfold T_X12_book
          simp only [b_X12_book_0, hl, lay_pI, lay_wI, lay_pJ, lm_t hl, lm_k hl, lm_r hl, lm_l hl, i_push, i_ild, i_ald, i_ist, i_ast, i_inc, i_bin, i_un, i_divs, i_i2l, i_lshl, i_lor, i_dup, i_dup2, i_pop, i_if, i_cmp, i_nul, i_vret, i_iret, i_zret, i_aret, i_keep, keep, lget, lset, ent, i_getI, i_getJ, i_getR, i_getN, i_putI, i_putZ, i_putJ, i_putR, i_iald, i_bald, i_alen, i_aald, i_iast, i_bast, i_aast, i_new, i_newa, i_anew, i_oini, i_callS, i_callV, i_callI, popn, sh4, i_sw, swP, i_copy, i_binS, List.map, Option.toList_none, Option.toList_some, List.append, List.nil_append, List.cons_append, List.length_cons, List.length_nil, List.replicate, Nat.sub_self, Nat.reduceSub, Nat.reduceAdd, hK_pI, hL_pI, hI_pI, hR_pI, hJ_pI, hT_pI, hS_pI, hK_pR, hL_pR, hI_pR, hR_pR, hJ_pR, hT_pR, hS_pR, hK_pJ, hL_pJ, hI_pJ, hR_pJ, hJ_pJ, hT_pJ, hS_pJ, hK_wI, hL_wI, hI_wI, hR_wI, hJ_wI, hT_wI, hS_wI, eq_self, and_true, true_and, and_false, false_and, or_true, true_or, or_false, false_or, if_true, if_false, not_true_eq_false, not_false_eq_true, forall_const, implies_true, false_implies, true_implies, Option.some.injEq, forall_eq', exists_eq_left', reduceCtorEq, Nat.reduceEqDiff, c1, T_X12_in, T_X12_ones, T_X11_within, T_X11_bit, T_X11_isIn, T_X11_oneIfIn, T_J6_bitCount_0f7a4, a11, in0 4 (by decide) (by decide), cl0, per_ix (show E ≤ 100000 by omega), b2i_0, hE1, i1, i2, ei, cl_nI (show 10 * e < 2147483648 by omega), in_nI (show 10 * e < 16000 by omega) (by decide)]
          exact hq
      · have ew : nI 1 = (1 : Int32) := rfl
        rw [ew] at hcls ⊢
        refine rd (hI h 77 (10 * e + 1)) hc (fun Q hq => ok_X11_book _ _ _ (hcls Q (fun e2 n Rn he2 ex hnf => ?_) (fun z => absurd ⟨e, he, rfl⟩ z))) (fun Q hq => ok_X12_book _ _ _ ?_)
        · have ee := he1 e2 ex he2
          subst ee
          obtain ⟨d1, d2, d3, d4, d5, d6, d7, d8, d9, d10, d11⟩ := hnf
          have hf := d1.f
          simp only [c_X11_book_8, lx_pI, lx_wI, lx_t hl, lx_k hl, lx_r hl, lx_l hl, i_push, i_ild, i_ald, i_ist, i_ast, i_inc, i_bin, i_un, i_divs, i_i2l, i_lshl, i_lor, i_dup, i_dup2, i_pop, i_if, i_cmp, i_nul, i_vret, i_iret, i_zret, i_aret, i_keep, keep, lget, lset, ent, i_getI, i_getJ, i_getR, i_getN, i_putI, i_putZ, i_putJ, i_putR, i_iald, i_bald, i_alen, i_aald, i_iast, i_bast, i_aast, i_new, i_newa, i_anew, i_oini, i_callS, i_callV, i_callI, popn, sh4, i_sw, swP, i_copy, i_binS, List.map, Option.toList_none, Option.toList_some, List.append, List.nil_append, List.cons_append, List.length_cons, List.length_nil, List.replicate, Nat.sub_self, Nat.reduceSub, Nat.reduceAdd, hK_pI, hL_pI, hI_pI, hR_pI, hJ_pI, hT_pI, hS_pI, hK_pR, hL_pR, hI_pR, hR_pR, hJ_pR, hT_pR, hS_pR, hK_pJ, hL_pJ, hI_pJ, hR_pJ, hJ_pJ, hT_pJ, hS_pJ, hK_wI, hL_wI, hI_wI, hR_wI, hJ_wI, hT_wI, hS_wI, eq_self, and_true, true_and, and_false, false_and, or_true, true_or, or_false, false_or, if_true, if_false, not_true_eq_false, not_false_eq_true, forall_const, implies_true, false_implies, true_implies, Option.some.injEq, forall_eq', exists_eq_left', reduceCtorEq, Nat.reduceEqDiff, c1, T_X12_in, T_X12_ones, T_X11_within, T_X11_bit, T_X11_isIn, T_X11_oneIfIn, T_J6_bitCount_0f7a4, hf, d4, d5, d6, d7, show ¬ (1 : Int32) = 0 by decide]
          exact hq
        · have hl := hm
          have ei : 10 * nI e + 1 = nI (10 * e + 1) := by
            rw [e10]
            exact nI_add (10 * e) 1
          have i1 : (0 : Int32) ≤ 1 := by decide
          have i2 : (1 : Int32) ≤ 4 := by decide
          have hE1 : ∃ k, k < E ∧ nI e = nI k := ⟨e, he, rfl⟩
          unfold T_X12_book
          simp only [b_X12_book_0, hl, lay_pI, lay_wI, lay_pJ, lm_t hl, lm_k hl, lm_r hl, lm_l hl, i_push, i_ild, i_ald, i_ist, i_ast, i_inc, i_bin, i_un, i_divs, i_i2l, i_lshl, i_lor, i_dup, i_dup2, i_pop, i_if, i_cmp, i_nul, i_vret, i_iret, i_zret, i_aret, i_keep, keep, lget, lset, ent, i_getI, i_getJ, i_getR, i_getN, i_putI, i_putZ, i_putJ, i_putR, i_iald, i_bald, i_alen, i_aald, i_iast, i_bast, i_aast, i_new, i_newa, i_anew, i_oini, i_callS, i_callV, i_callI, popn, sh4, i_sw, swP, i_copy, i_binS, List.map, Option.toList_none, Option.toList_some, List.append, List.nil_append, List.cons_append, List.length_cons, List.length_nil, List.replicate, Nat.sub_self, Nat.reduceSub, Nat.reduceAdd, hK_pI, hL_pI, hI_pI, hR_pI, hJ_pI, hT_pI, hS_pI, hK_pR, hL_pR, hI_pR, hR_pR, hJ_pR, hT_pR, hS_pR, hK_pJ, hL_pJ, hI_pJ, hR_pJ, hJ_pJ, hT_pJ, hS_pJ, hK_wI, hL_wI, hI_wI, hR_wI, hJ_wI, hT_wI, hS_wI, eq_self, and_true, true_and, and_false, false_and, or_true, true_or, or_false, false_or, if_true, if_false, not_true_eq_false, not_false_eq_true, forall_const, implies_true, false_implies, true_implies, Option.some.injEq, forall_eq', exists_eq_left', reduceCtorEq, Nat.reduceEqDiff, c1, T_X12_in, T_X12_ones, T_X11_within, T_X11_bit, T_X11_isIn, T_X11_oneIfIn, T_J6_bitCount_0f7a4, a11, in0 4 (by decide) (by decide), cl0, per_ix (show E ≤ 100000 by omega), b2i_0, hE1, i1, i2, ei, cl_nI (show 10 * e + 1 < 2147483648 by omega), in_nI (show 10 * e + 1 < 16000 by omega) (by decide)]
          exact hq
      · have ew : nI 2 = (2 : Int32) := rfl
        rw [ew] at hcls ⊢
        refine rd (hI h 77 (10 * e + 2)) hc (fun Q hq => ok_X11_book _ _ _ (hcls Q (fun e2 n Rn he2 ex hnf => ?_) (fun z => absurd ⟨e, he, rfl⟩ z))) (fun Q hq => ok_X12_book _ _ _ ?_)
        · have ee := he1 e2 ex he2
          subst ee
          obtain ⟨d1, d2, d3, d4, d5, d6, d7, d8, d9, d10, d11⟩ := hnf
          have hf := d1.f
          simp only [c_X11_book_8, lx_pI, lx_wI, lx_t hl, lx_k hl, lx_r hl, lx_l hl, i_push, i_ild, i_ald, i_ist, i_ast, i_inc, i_bin, i_un, i_divs, i_i2l, i_lshl, i_lor, i_dup, i_dup2, i_pop, i_if, i_cmp, i_nul, i_vret, i_iret, i_zret, i_aret, i_keep, keep, lget, lset, ent, i_getI, i_getJ, i_getR, i_getN, i_putI, i_putZ, i_putJ, i_putR, i_iald, i_bald, i_alen, i_aald, i_iast, i_bast, i_aast, i_new, i_newa, i_anew, i_oini, i_callS, i_callV, i_callI, popn, sh4, i_sw, swP, i_copy, i_binS, List.map, Option.toList_none, Option.toList_some, List.append, List.nil_append, List.cons_append, List.length_cons, List.length_nil, List.replicate, Nat.sub_self, Nat.reduceSub, Nat.reduceAdd, hK_pI, hL_pI, hI_pI, hR_pI, hJ_pI, hT_pI, hS_pI, hK_pR, hL_pR, hI_pR, hR_pR, hJ_pR, hT_pR, hS_pR, hK_pJ, hL_pJ, hI_pJ, hR_pJ, hJ_pJ, hT_pJ, hS_pJ, hK_wI, hL_wI, hI_wI, hR_wI, hJ_wI, hT_wI, hS_wI, eq_self, and_true, true_and, and_false, false_and, or_true, true_or, or_false, false_or, if_true, if_false, not_true_eq_false, not_false_eq_true, forall_const, implies_true, false_implies, true_implies, Option.some.injEq, forall_eq', exists_eq_left', reduceCtorEq, Nat.reduceEqDiff, c1, T_X12_in, T_X12_ones, T_X11_within, T_X11_bit, T_X11_isIn, T_X11_oneIfIn, T_J6_bitCount_0f7a4, hf, d4, d5, d6, d7, show ¬ (2 : Int32) = 0 by decide, show ¬ (2 : Int32) = 1 by decide]
          exact hq
        · have hl := hm
          have ei : 10 * nI e + 2 = nI (10 * e + 2) := by
            rw [e10]
            exact nI_add (10 * e) 2
          have i1 : (0 : Int32) ≤ 2 := by decide
          have i2 : (2 : Int32) ≤ 4 := by decide
          have hE1 : ∃ k, k < E ∧ nI e = nI k := ⟨e, he, rfl⟩
          unfold T_X12_book
          simp only [b_X12_book_0, hl, lay_pI, lay_wI, lay_pJ, lm_t hl, lm_k hl, lm_r hl, lm_l hl, i_push, i_ild, i_ald, i_ist, i_ast, i_inc, i_bin, i_un, i_divs, i_i2l, i_lshl, i_lor, i_dup, i_dup2, i_pop, i_if, i_cmp, i_nul, i_vret, i_iret, i_zret, i_aret, i_keep, keep, lget, lset, ent, i_getI, i_getJ, i_getR, i_getN, i_putI, i_putZ, i_putJ, i_putR, i_iald, i_bald, i_alen, i_aald, i_iast, i_bast, i_aast, i_new, i_newa, i_anew, i_oini, i_callS, i_callV, i_callI, popn, sh4, i_sw, swP, i_copy, i_binS, List.map, Option.toList_none, Option.toList_some, List.append, List.nil_append, List.cons_append, List.length_cons, List.length_nil, List.replicate, Nat.sub_self, Nat.reduceSub, Nat.reduceAdd, hK_pI, hL_pI, hI_pI, hR_pI, hJ_pI, hT_pI, hS_pI, hK_pR, hL_pR, hI_pR, hR_pR, hJ_pR, hT_pR, hS_pR, hK_pJ, hL_pJ, hI_pJ, hR_pJ, hJ_pJ, hT_pJ, hS_pJ, hK_wI, hL_wI, hI_wI, hR_wI, hJ_wI, hT_wI, hS_wI, eq_self, and_true, true_and, and_false, false_and, or_true, true_or, or_false, false_or, if_true, if_false, not_true_eq_false, not_false_eq_true, forall_const, implies_true, false_implies, true_implies, Option.some.injEq, forall_eq', exists_eq_left', reduceCtorEq, Nat.reduceEqDiff, c1, T_X12_in, T_X12_ones, T_X11_within, T_X11_bit, T_X11_isIn, T_X11_oneIfIn, T_J6_bitCount_0f7a4, a11, in0 4 (by decide) (by decide), cl0, per_ix (show E ≤ 100000 by omega), b2i_0, hE1, i1, i2, ei, cl_nI (show 10 * e + 2 < 2147483648 by omega), in_nI (show 10 * e + 2 < 16000 by omega) (by decide)]
          exact hq
      · have ew : nI 3 = (3 : Int32) := rfl
        rw [ew] at hcls ⊢
        refine rd (hI h 77 (10 * e + 3)) hc (fun Q hq => ok_X11_book _ _ _ (hcls Q (fun e2 n Rn he2 ex hnf => ?_) (fun z => absurd ⟨e, he, rfl⟩ z))) (fun Q hq => ok_X12_book _ _ _ ?_)
        · have ee := he1 e2 ex he2
          subst ee
          obtain ⟨d1, d2, d3, d4, d5, d6, d7, d8, d9, d10, d11⟩ := hnf
          have hf := d1.f
          simp only [c_X11_book_8, lx_pI, lx_wI, lx_t hl, lx_k hl, lx_r hl, lx_l hl, i_push, i_ild, i_ald, i_ist, i_ast, i_inc, i_bin, i_un, i_divs, i_i2l, i_lshl, i_lor, i_dup, i_dup2, i_pop, i_if, i_cmp, i_nul, i_vret, i_iret, i_zret, i_aret, i_keep, keep, lget, lset, ent, i_getI, i_getJ, i_getR, i_getN, i_putI, i_putZ, i_putJ, i_putR, i_iald, i_bald, i_alen, i_aald, i_iast, i_bast, i_aast, i_new, i_newa, i_anew, i_oini, i_callS, i_callV, i_callI, popn, sh4, i_sw, swP, i_copy, i_binS, List.map, Option.toList_none, Option.toList_some, List.append, List.nil_append, List.cons_append, List.length_cons, List.length_nil, List.replicate, Nat.sub_self, Nat.reduceSub, Nat.reduceAdd, hK_pI, hL_pI, hI_pI, hR_pI, hJ_pI, hT_pI, hS_pI, hK_pR, hL_pR, hI_pR, hR_pR, hJ_pR, hT_pR, hS_pR, hK_pJ, hL_pJ, hI_pJ, hR_pJ, hJ_pJ, hT_pJ, hS_pJ, hK_wI, hL_wI, hI_wI, hR_wI, hJ_wI, hT_wI, hS_wI, eq_self, and_true, true_and, and_false, false_and, or_true, true_or, or_false, false_or, if_true, if_false, not_true_eq_false, not_false_eq_true, forall_const, implies_true, false_implies, true_implies, Option.some.injEq, forall_eq', exists_eq_left', reduceCtorEq, Nat.reduceEqDiff, c1, T_X12_in, T_X12_ones, T_X11_within, T_X11_bit, T_X11_isIn, T_X11_oneIfIn, T_J6_bitCount_0f7a4, hf, d4, d5, d6, d7, show ¬ (3 : Int32) = 0 by decide, show ¬ (3 : Int32) = 1 by decide, show ¬ (3 : Int32) = 2 by decide]
          exact hq
        · have hl := hm
          have ei : 10 * nI e + 3 = nI (10 * e + 3) := by
            rw [e10]
            exact nI_add (10 * e) 3
          have i1 : (0 : Int32) ≤ 3 := by decide
          have i2 : (3 : Int32) ≤ 4 := by decide
          have hE1 : ∃ k, k < E ∧ nI e = nI k := ⟨e, he, rfl⟩
          unfold T_X12_book
          simp only [b_X12_book_0, hl, lay_pI, lay_wI, lay_pJ, lm_t hl, lm_k hl, lm_r hl, lm_l hl, i_push, i_ild, i_ald, i_ist, i_ast, i_inc, i_bin, i_un, i_divs, i_i2l, i_lshl, i_lor, i_dup, i_dup2, i_pop, i_if, i_cmp, i_nul, i_vret, i_iret, i_zret, i_aret, i_keep, keep, lget, lset, ent, i_getI, i_getJ, i_getR, i_getN, i_putI, i_putZ, i_putJ, i_putR, i_iald, i_bald, i_alen, i_aald, i_iast, i_bast, i_aast, i_new, i_newa, i_anew, i_oini, i_callS, i_callV, i_callI, popn, sh4, i_sw, swP, i_copy, i_binS, List.map, Option.toList_none, Option.toList_some, List.append, List.nil_append, List.cons_append, List.length_cons, List.length_nil, List.replicate, Nat.sub_self, Nat.reduceSub, Nat.reduceAdd, hK_pI, hL_pI, hI_pI, hR_pI, hJ_pI, hT_pI, hS_pI, hK_pR, hL_pR, hI_pR, hR_pR, hJ_pR, hT_pR, hS_pR, hK_pJ, hL_pJ, hI_pJ, hR_pJ, hJ_pJ, hT_pJ, hS_pJ, hK_wI, hL_wI, hI_wI, hR_wI, hJ_wI, hT_wI, hS_wI, eq_self, and_true, true_and, and_false, false_and, or_true, true_or, or_false, false_or, if_true, if_false, not_true_eq_false, not_false_eq_true, forall_const, implies_true, false_implies, true_implies, Option.some.injEq, forall_eq', exists_eq_left', reduceCtorEq, Nat.reduceEqDiff, c1, T_X12_in, T_X12_ones, T_X11_within, T_X11_bit, T_X11_isIn, T_X11_oneIfIn, T_J6_bitCount_0f7a4, a11, in0 4 (by decide) (by decide), cl0, per_ix (show E ≤ 100000 by omega), b2i_0, hE1, i1, i2, ei, cl_nI (show 10 * e + 3 < 2147483648 by omega), in_nI (show 10 * e + 3 < 16000 by omega) (by decide)]
          exact hq
      · have ew : nI 4 = (4 : Int32) := rfl
        rw [ew] at hcls ⊢
        refine rd (hI h 77 (10 * e + 4)) hc (fun Q hq => ok_X11_book _ _ _ (hcls Q (fun e2 n Rn he2 ex hnf => ?_) (fun z => absurd ⟨e, he, rfl⟩ z))) (fun Q hq => ok_X12_book _ _ _ ?_)
        · have ee := he1 e2 ex he2
          subst ee
          obtain ⟨d1, d2, d3, d4, d5, d6, d7, d8, d9, d10, d11⟩ := hnf
          have hf := d1.f
          simp only [c_X11_book_8, lx_pI, lx_wI, lx_t hl, lx_k hl, lx_r hl, lx_l hl, i_push, i_ild, i_ald, i_ist, i_ast, i_inc, i_bin, i_un, i_divs, i_i2l, i_lshl, i_lor, i_dup, i_dup2, i_pop, i_if, i_cmp, i_nul, i_vret, i_iret, i_zret, i_aret, i_keep, keep, lget, lset, ent, i_getI, i_getJ, i_getR, i_getN, i_putI, i_putZ, i_putJ, i_putR, i_iald, i_bald, i_alen, i_aald, i_iast, i_bast, i_aast, i_new, i_newa, i_anew, i_oini, i_callS, i_callV, i_callI, popn, sh4, i_sw, swP, i_copy, i_binS, List.map, Option.toList_none, Option.toList_some, List.append, List.nil_append, List.cons_append, List.length_cons, List.length_nil, List.replicate, Nat.sub_self, Nat.reduceSub, Nat.reduceAdd, hK_pI, hL_pI, hI_pI, hR_pI, hJ_pI, hT_pI, hS_pI, hK_pR, hL_pR, hI_pR, hR_pR, hJ_pR, hT_pR, hS_pR, hK_pJ, hL_pJ, hI_pJ, hR_pJ, hJ_pJ, hT_pJ, hS_pJ, hK_wI, hL_wI, hI_wI, hR_wI, hJ_wI, hT_wI, hS_wI, eq_self, and_true, true_and, and_false, false_and, or_true, true_or, or_false, false_or, if_true, if_false, not_true_eq_false, not_false_eq_true, forall_const, implies_true, false_implies, true_implies, Option.some.injEq, forall_eq', exists_eq_left', reduceCtorEq, Nat.reduceEqDiff, c1, T_X12_in, T_X12_ones, T_X11_within, T_X11_bit, T_X11_isIn, T_X11_oneIfIn, T_J6_bitCount_0f7a4, hf, show ¬ (4 : Int32) = 0 by decide, show ¬ (4 : Int32) = 1 by decide, show ¬ (4 : Int32) = 2 by decide, show ¬ (4 : Int32) = 3 by decide]
          rw [← d8] at hq
          refine ⟨fun z => ?_, fun z => ?_⟩
          · rw [z] at hq; exact hq
          · rw [d9.resolve_left z] at hq; exact hq
        · have hl := hm
          have ei : 10 * nI e + 4 = nI (10 * e + 4) := by
            rw [e10]
            exact nI_add (10 * e) 4
          have i1 : (0 : Int32) ≤ 4 := by decide
          have i2 : (4 : Int32) ≤ 4 := by decide
          have hE1 : ∃ k, k < E ∧ nI e = nI k := ⟨e, he, rfl⟩
          unfold T_X12_book
          simp only [b_X12_book_0, hl, lay_pI, lay_wI, lay_pJ, lm_t hl, lm_k hl, lm_r hl, lm_l hl, i_push, i_ild, i_ald, i_ist, i_ast, i_inc, i_bin, i_un, i_divs, i_i2l, i_lshl, i_lor, i_dup, i_dup2, i_pop, i_if, i_cmp, i_nul, i_vret, i_iret, i_zret, i_aret, i_keep, keep, lget, lset, ent, i_getI, i_getJ, i_getR, i_getN, i_putI, i_putZ, i_putJ, i_putR, i_iald, i_bald, i_alen, i_aald, i_iast, i_bast, i_aast, i_new, i_newa, i_anew, i_oini, i_callS, i_callV, i_callI, popn, sh4, i_sw, swP, i_copy, i_binS, List.map, Option.toList_none, Option.toList_some, List.append, List.nil_append, List.cons_append, List.length_cons, List.length_nil, List.replicate, Nat.sub_self, Nat.reduceSub, Nat.reduceAdd, hK_pI, hL_pI, hI_pI, hR_pI, hJ_pI, hT_pI, hS_pI, hK_pR, hL_pR, hI_pR, hR_pR, hJ_pR, hT_pR, hS_pR, hK_pJ, hL_pJ, hI_pJ, hR_pJ, hJ_pJ, hT_pJ, hS_pJ, hK_wI, hL_wI, hI_wI, hR_wI, hJ_wI, hT_wI, hS_wI, eq_self, and_true, true_and, and_false, false_and, or_true, true_or, or_false, false_or, if_true, if_false, not_true_eq_false, not_false_eq_true, forall_const, implies_true, false_implies, true_implies, Option.some.injEq, forall_eq', exists_eq_left', reduceCtorEq, Nat.reduceEqDiff, c1, T_X12_in, T_X12_ones, T_X11_within, T_X11_bit, T_X11_isIn, T_X11_oneIfIn, T_J6_bitCount_0f7a4, a11, in0 4 (by decide) (by decide), cl0, per_ix (show E ≤ 100000 by omega), b2i_0, hE1, i1, i2, ei, cl_nI (show 10 * e + 4 < 2147483648 by omega), in_nI (show 10 * e + 4 < 16000 by omega) (by decide)]
          exact hq
    · have n5 : ¬ (0 ≤ w ∧ w ≤ 4) := fun z => c5 (by
        have := (per_ix (P := 5) (by decide)).mp (show 0 ≤ w ∧ w ≤ nI 5 - 1 from ⟨z.1, z.2⟩)
        exact this)
      have nk : ∀ k, k < 5 → ¬ w = nI k := fun k hk e => c5 ⟨k, hk, e⟩
      have w0 : ¬ w = 0 := nk 0 (by decide)
      have w1 : ¬ w = 1 := nk 1 (by decide)
      have w2 : ¬ w = 2 := nk 2 (by decide)
      have w3 : ¬ w = 3 := nk 3 (by decide)
      have w4 : ¬ w = 4 := nk 4 (by decide)
      -- the evening's rooms: nR of them
      have hR : ∃ nR, nR ≤ 4 ∧ hI h 77 (10 * e + 9) = nI nR := by
        have : ∀ (E : Nat) (o : Option Nat), NC h (hI h) E o → e < E → ∃ nR, nR ≤ 4 ∧ hI h 77 (10 * e + 9) = nI nR := by
          intro E
          induction E with
          | zero => intro o _ z; omega
          | succ E ih =>
            intro o hn z
            obtain ⟨n, Rn, d1, d2, d3, d4, d5, d6, d7, d8, d9, d10, d11, d12, d13⟩ := hn
            by_cases y : e = E
            · rw [y]; exact ⟨Rn, d3, d11⟩
            · exact ih _ d13 (by omega)
        exact this E _ a12 he
      obtain ⟨nR, hnR4, hnR⟩ := hR
      have hin : (10 ≤ w ∧ w ≤ 9 + nI nR) ↔ ∃ r, r < nR ∧ w = nI (10 + r) := by
        have e9 : (9 : Int32) + nI nR = nI (9 + nR) := nI_add 9 nR
        rw [e9]
        constructor
        · rintro ⟨z1, z2⟩
          obtain ⟨m, hm', rfl⟩ := nI_of (Int32.not_lt.mpr (Int32.le_trans (by decide) z1))
          have y1 : (10 : Int32) ≤ nI m ↔ 10 ≤ m := nI_leI (a := 10) (by decide) hm'
          have y2 : nI m ≤ nI (9 + nR) ↔ m ≤ 9 + nR := nI_leI hm' (by omega)
          have y3 := y1.mp z1
          have y4 := y2.mp z2
          exact ⟨m - 10, by omega, by rw [show 10 + (m - 10) = m by omega]⟩
        · rintro ⟨r, hr, rfl⟩
          have y1 : (10 : Int32) ≤ nI (10 + r) ↔ 10 ≤ 10 + r := nI_leI (a := 10) (by decide) (by omega)
          have y2 : nI (10 + r) ≤ nI (9 + nR) ↔ 10 + r ≤ 9 + nR := nI_leI (by omega) (by omega)
          exact ⟨y1.mpr (by omega), y2.mpr (by omega)⟩
      have hE1 : ∃ k, k < E ∧ nI e = nI k := ⟨e, he, rfl⟩
      by_cases cr : ∃ r, r < nR ∧ w = nI (10 + r)
      · obtain ⟨r, hr, rfl⟩ := cr
        have hin' : (10 ≤ nI (10 + r) ∧ nI (10 + r) ≤ 9 + nI nR) := hin.mpr ⟨r, hr, rfl⟩
        refine rd (hI h 77 (10 * e + 5 + r)) hc (fun Q hq => ok_X11_book _ _ _ (hcls Q (fun e2 n Rn he2 ex hnf => ?_) (fun z => absurd ⟨e, he, rfl⟩ z))) (fun Q hq => ok_X12_book _ _ _ ?_)
        · have ee := he1 e2 ex he2
          subst ee
          obtain ⟨d1, d2, d3, d4, d5, d6, d7, d8, d9, d10, d11⟩ := hnf
          have hf := d1.f
          have eR : Rn = nR := (nI_inj (by omega) (by omega)).mp (d10.symm.trans hnR)
          subst eR
          have es : nI (10 + r) - 10 = nI r := (nI_sub (b := 10) (by omega)).trans (by rw [Nat.add_sub_cancel_left])
          have eo : Int32.ofNat Rn = nI Rn := rfl
          simp only [c_X11_book_8, lx_pI, lx_wI, lx_t hl, lx_k hl, lx_r hl, lx_l hl, i_push, i_ild, i_ald, i_ist, i_ast, i_inc, i_bin, i_un, i_divs, i_i2l, i_lshl, i_lor, i_dup, i_dup2, i_pop, i_if, i_cmp, i_nul, i_vret, i_iret, i_zret, i_aret, i_keep, keep, lget, lset, ent, i_getI, i_getJ, i_getR, i_getN, i_putI, i_putZ, i_putJ, i_putR, i_iald, i_bald, i_alen, i_aald, i_iast, i_bast, i_aast, i_new, i_newa, i_anew, i_oini, i_callS, i_callV, i_callI, popn, sh4, i_sw, swP, i_copy, i_binS, List.map, Option.toList_none, Option.toList_some, List.append, List.nil_append, List.cons_append, List.length_cons, List.length_nil, List.replicate, Nat.sub_self, Nat.reduceSub, Nat.reduceAdd, hK_pI, hL_pI, hI_pI, hR_pI, hJ_pI, hT_pI, hS_pI, hK_pR, hL_pR, hI_pR, hR_pR, hJ_pR, hT_pR, hS_pR, hK_pJ, hL_pJ, hI_pJ, hR_pJ, hJ_pJ, hT_pJ, hS_pJ, hK_wI, hL_wI, hI_wI, hR_wI, hJ_wI, hT_wI, hS_wI, eq_self, and_true, true_and, and_false, false_and, or_true, true_or, or_false, false_or, if_true, if_false, not_true_eq_false, not_false_eq_true, forall_const, implies_true, false_implies, true_implies, Option.some.injEq, forall_eq', exists_eq_left', reduceCtorEq, Nat.reduceEqDiff, c1, T_X12_in, T_X12_ones, T_X11_within, T_X11_bit, T_X11_isIn, T_X11_oneIfIn, T_J6_bitCount_0f7a4, hf, w0, w1, w2, w3, w4, eo, hin', b2i_0, es, cl_nI (show r < 2147483648 by omega), in_nI hr (by omega), d11 r hr]
          first | exact hq | exact ⟨by decide, by decide, hq⟩
        · have hl := hm
          have ei : 10 * nI e + 9 = nI (10 * e + 9) := by rw [e10]; exact nI_add (10 * e) 9
          have ej : 10 * nI e + nI (10 + r) - 5 = nI (10 * e + 5 + r) := by
            rw [e10, nI_add]
            exact (nI_sub (b := 5) (by omega)).trans (by rw [show 10 * e + (10 + r) - 5 = 10 * e + 5 + r by omega])
          unfold T_X12_book
          simp only [b_X12_book_0, hl, lay_pI, lay_wI, lay_pJ, lm_t hl, lm_k hl, lm_r hl, lm_l hl, i_push, i_ild, i_ald, i_ist, i_ast, i_inc, i_bin, i_un, i_divs, i_i2l, i_lshl, i_lor, i_dup, i_dup2, i_pop, i_if, i_cmp, i_nul, i_vret, i_iret, i_zret, i_aret, i_keep, keep, lget, lset, ent, i_getI, i_getJ, i_getR, i_getN, i_putI, i_putZ, i_putJ, i_putR, i_iald, i_bald, i_alen, i_aald, i_iast, i_bast, i_aast, i_new, i_newa, i_anew, i_oini, i_callS, i_callV, i_callI, popn, sh4, i_sw, swP, i_copy, i_binS, List.map, Option.toList_none, Option.toList_some, List.append, List.nil_append, List.cons_append, List.length_cons, List.length_nil, List.replicate, Nat.sub_self, Nat.reduceSub, Nat.reduceAdd, hK_pI, hL_pI, hI_pI, hR_pI, hJ_pI, hT_pI, hS_pI, hK_pR, hL_pR, hI_pR, hR_pR, hJ_pR, hT_pR, hS_pR, hK_pJ, hL_pJ, hI_pJ, hR_pJ, hJ_pJ, hT_pJ, hS_pJ, hK_wI, hL_wI, hI_wI, hR_wI, hJ_wI, hT_wI, hS_wI, eq_self, and_true, true_and, and_false, false_and, or_true, true_or, or_false, false_or, if_true, if_false, not_true_eq_false, not_false_eq_true, forall_const, implies_true, false_implies, true_implies, Option.some.injEq, forall_eq', exists_eq_left', reduceCtorEq, Nat.reduceEqDiff, c1, T_X12_in, T_X12_ones, T_X11_within, T_X11_bit, T_X11_isIn, T_X11_oneIfIn, T_J6_bitCount_0f7a4, a11, in0 4 (by decide) (by decide), cl0, per_ix (show E ≤ 100000 by omega), b2i_0, hE1, n5, ei, cl_nI (show 10 * e + 9 < 2147483648 by omega), in_nI (show 10 * e + 9 < 16000 by omega) (by decide), hnR, hin', ej, cl_nI (show 10 * e + 5 + r < 2147483648 by omega), in_nI (show 10 * e + 5 + r < 16000 by omega) (by decide)]
          exact hq
      · have hin' : ¬ (10 ≤ w ∧ w ≤ 9 + nI nR) := fun z => cr (hin.mp z)
        refine rd (-1) hc (fun Q hq => ok_X11_book _ _ _ (hcls Q (fun e2 n Rn he2 ex hnf => ?_) (fun z => absurd ⟨e, he, rfl⟩ z))) (fun Q hq => ok_X12_book _ _ _ ?_)
        · have ee := he1 e2 ex he2
          subst ee
          obtain ⟨d1, d2, d3, d4, d5, d6, d7, d8, d9, d10, d11⟩ := hnf
          have hf := d1.f
          have eR : Rn = nR := (nI_inj (by omega) (by omega)).mp (d10.symm.trans hnR)
          subst eR
          have eo : Int32.ofNat Rn = nI Rn := rfl
          simp only [c_X11_book_8, lx_pI, lx_wI, lx_t hl, lx_k hl, lx_r hl, lx_l hl, i_push, i_ild, i_ald, i_ist, i_ast, i_inc, i_bin, i_un, i_divs, i_i2l, i_lshl, i_lor, i_dup, i_dup2, i_pop, i_if, i_cmp, i_nul, i_vret, i_iret, i_zret, i_aret, i_keep, keep, lget, lset, ent, i_getI, i_getJ, i_getR, i_getN, i_putI, i_putZ, i_putJ, i_putR, i_iald, i_bald, i_alen, i_aald, i_iast, i_bast, i_aast, i_new, i_newa, i_anew, i_oini, i_callS, i_callV, i_callI, popn, sh4, i_sw, swP, i_copy, i_binS, List.map, Option.toList_none, Option.toList_some, List.append, List.nil_append, List.cons_append, List.length_cons, List.length_nil, List.replicate, Nat.sub_self, Nat.reduceSub, Nat.reduceAdd, hK_pI, hL_pI, hI_pI, hR_pI, hJ_pI, hT_pI, hS_pI, hK_pR, hL_pR, hI_pR, hR_pR, hJ_pR, hT_pR, hS_pR, hK_pJ, hL_pJ, hI_pJ, hR_pJ, hJ_pJ, hT_pJ, hS_pJ, hK_wI, hL_wI, hI_wI, hR_wI, hJ_wI, hT_wI, hS_wI, eq_self, and_true, true_and, and_false, false_and, or_true, true_or, or_false, false_or, if_true, if_false, not_true_eq_false, not_false_eq_true, forall_const, implies_true, false_implies, true_implies, Option.some.injEq, forall_eq', exists_eq_left', reduceCtorEq, Nat.reduceEqDiff, c1, T_X12_in, T_X12_ones, T_X11_within, T_X11_bit, T_X11_isIn, T_X11_oneIfIn, T_J6_bitCount_0f7a4, hf, w0, w1, w2, w3, w4, eo, hin', b2i_0]
          first | exact hq | exact ⟨by decide, by decide, hq⟩
        · have hl := hm
          have ei : 10 * nI e + 9 = nI (10 * e + 9) := by rw [e10]; exact nI_add (10 * e) 9
          unfold T_X12_book
          simp only [b_X12_book_0, hl, lay_pI, lay_wI, lay_pJ, lm_t hl, lm_k hl, lm_r hl, lm_l hl, i_push, i_ild, i_ald, i_ist, i_ast, i_inc, i_bin, i_un, i_divs, i_i2l, i_lshl, i_lor, i_dup, i_dup2, i_pop, i_if, i_cmp, i_nul, i_vret, i_iret, i_zret, i_aret, i_keep, keep, lget, lset, ent, i_getI, i_getJ, i_getR, i_getN, i_putI, i_putZ, i_putJ, i_putR, i_iald, i_bald, i_alen, i_aald, i_iast, i_bast, i_aast, i_new, i_newa, i_anew, i_oini, i_callS, i_callV, i_callI, popn, sh4, i_sw, swP, i_copy, i_binS, List.map, Option.toList_none, Option.toList_some, List.append, List.nil_append, List.cons_append, List.length_cons, List.length_nil, List.replicate, Nat.sub_self, Nat.reduceSub, Nat.reduceAdd, hK_pI, hL_pI, hI_pI, hR_pI, hJ_pI, hT_pI, hS_pI, hK_pR, hL_pR, hI_pR, hR_pR, hJ_pR, hT_pR, hS_pR, hK_pJ, hL_pJ, hI_pJ, hR_pJ, hJ_pJ, hT_pJ, hS_pJ, hK_wI, hL_wI, hI_wI, hR_wI, hJ_wI, hT_wI, hS_wI, eq_self, and_true, true_and, and_false, false_and, or_true, true_or, or_false, false_or, if_true, if_false, not_true_eq_false, not_false_eq_true, forall_const, implies_true, false_implies, true_implies, Option.some.injEq, forall_eq', exists_eq_left', reduceCtorEq, Nat.reduceEqDiff, c1, T_X12_in, T_X12_ones, T_X11_within, T_X11_bit, T_X11_isIn, T_X11_oneIfIn, T_J6_bitCount_0f7a4, a11, in0 4 (by decide) (by decide), cl0, per_ix (show E ≤ 100000 by omega), b2i_0, hE1, n5, ei, cl_nI (show 10 * e + 9 < 2147483648 by omega), in_nI (show 10 * e + 9 < 16000 by omega) (by decide), hnR, hin']
          exact hq
  · refine rd (-1) hc (fun Q hq => ok_X11_book _ _ _ (hcls Q (fun e2 n Rn he2 ex hnf => absurd ⟨e2, he2, ex⟩ c) (fun _ => hq))) (fun Q hq => ok_X12_book _ _ _ ?_)
    have hl := hm
    unfold T_X12_book
    simp only [b_X12_book_0, hl, lay_pI, lay_wI, lay_pJ, lm_t hl, lm_k hl, lm_r hl, lm_l hl, i_push, i_ild, i_ald, i_ist, i_ast, i_inc, i_bin, i_un, i_divs, i_i2l, i_lshl, i_lor, i_dup, i_dup2, i_pop, i_if, i_cmp, i_nul, i_vret, i_iret, i_zret, i_aret, i_keep, keep, lget, lset, ent, i_getI, i_getJ, i_getR, i_getN, i_putI, i_putZ, i_putJ, i_putR, i_iald, i_bald, i_alen, i_aald, i_iast, i_bast, i_aast, i_new, i_newa, i_anew, i_oini, i_callS, i_callV, i_callI, popn, sh4, i_sw, swP, i_copy, i_binS, List.map, Option.toList_none, Option.toList_some, List.append, List.nil_append, List.cons_append, List.length_cons, List.length_nil, List.replicate, Nat.sub_self, Nat.reduceSub, Nat.reduceAdd, hK_pI, hL_pI, hI_pI, hR_pI, hJ_pI, hT_pI, hS_pI, hK_pR, hL_pR, hI_pR, hR_pR, hJ_pR, hT_pR, hS_pR, hK_pJ, hL_pJ, hI_pJ, hR_pJ, hJ_pJ, hT_pJ, hS_pJ, hK_wI, hL_wI, hI_wI, hR_wI, hJ_wI, hT_wI, hS_wI, eq_self, and_true, true_and, and_false, false_and, or_true, true_or, or_false, false_or, if_true, if_false, not_true_eq_false, not_false_eq_true, forall_const, implies_true, false_implies, true_implies, Option.some.injEq, forall_eq', exists_eq_left', reduceCtorEq, Nat.reduceEqDiff, c1, T_X12_in, T_X12_ones, T_X11_within, T_X11_bit, T_X11_isIn, T_X11_oneIfIn, T_J6_bitCount_0f7a4, a11, in0 4 (by decide) (by decide), cl0, per_ix (show E ≤ 100000 by omega), b2i_0]
    exact ⟨fun _ => hq, fun z => absurd (Classical.not_not.mp z) c⟩
