/-! ===== steps: image ===== -/
def L_X11_image : List UInt8 := [27, 155, 0, 8, 27, 6, 161, 0, 5, 3, 172, 42, 180, 0, 28, 27, 50, 199, 0, 23, 42, 180, 0, 28, 27, 187, 0, 16, 89, 42, 180, 0, 24, 180, 0, 81, 183, 0, 21, 83, 42, 180, 0, 28, 27, 50, 42, 180, 0, 24, 182, 1, 1, 4, 172]
theorem Lc_X11_image : MX11_image.2.1 = ⟨L_X11_image.toArray⟩ := rfl
theorem D_X11_image_0 : dseq MX11_image.2.1 0 [(.iload_n 1, 1), (.ifCond .lt 8, 3), (.iload_n 1, 1), (.iconst 3, 1), (.if_icmp .lt 5, 3), (.iconst 0, 1), (.ireturn, 1)] := dq Lc_X11_image 0 _ (by decide +kernel)
theorem D_X11_image_9 : dseq MX11_image.2.1 9 [(.iconst 0, 1), (.ireturn, 1)] := dq Lc_X11_image 9 _ (by decide +kernel)
theorem D_X11_image_11 : dseq MX11_image.2.1 11 [(.aload_n 0, 1), (.getfield 28, 3), (.iload_n 1, 1), (.aaload, 1), (.ifnonnull 23, 3), (.aload_n 0, 1), (.getfield 28, 3), (.iload_n 1, 1), (.new 16, 3), (.dup, 1), (.aload_n 0, 1), (.getfield 24, 3), (.getfield 81, 3), (.invokespecial 21, 3), (.aastore, 1), (.aload_n 0, 1), (.getfield 28, 3), (.iload_n 1, 1), (.aaload, 1), (.aload_n 0, 1), (.getfield 24, 3), (.invokevirtual 257, 3), (.iconst 1, 1), (.ireturn, 1)] := dq Lc_X11_image 11 _ (by decide +kernel)
theorem D_X11_image_40 : dseq MX11_image.2.1 40 [(.aload_n 0, 1), (.getfield 28, 3), (.iload_n 1, 1), (.aaload, 1), (.aload_n 0, 1), (.getfield 24, 3), (.invokevirtual 257, 3), (.iconst 1, 1), (.ireturn, 1)] := dq Lc_X11_image 40 _ (by decide +kernel)
def c_X11_image_53 (Q : Option Value → Hp → Prop) : Kt := i_push (.int 1) (i_zret Q)
def c_X11_image_39 (Q : Option Value → Hp → Prop) : Kt := i_aast (i_ald 0 (i_getR 11 2 (i_ild 1 (i_aald (i_ald 0 (i_getR 11 1 (i_callV 8 1 T_X8_copyFrom (c_X11_image_53 Q))))))))
def b_X11_image_0 (Q : Option Value → Hp → Prop) : Kt := i_ild 1 (i_if (fun x => x < 0) (i_push (.int 0) (i_zret Q)) (i_ild 1 (i_push (.int 3) (i_cmp (fun x y => x < y) (i_ald 0 (i_getR 11 2 (i_ild 1 (i_aald (i_nul (i_ald 0 (i_getR 11 2 (i_ild 1 (i_new 8 (i_dup (i_ald 0 (i_getR 11 1 (i_getR 8 3 (i_callI 1 T_X8_init (c_X11_image_39 Q)))))))))) (i_ald 0 (i_getR 11 2 (i_ild 1 (i_aald (i_ald 0 (i_getR 11 1 (i_callV 8 1 T_X8_copyFrom (c_X11_image_53 Q))))))))))))) (i_push (.int 0) (i_zret Q))))))
set_option maxRecDepth 100000 in
theorem s_X11_image_0 (Q : Option Value → Hp → Prop) : ∀ A st h, b_X11_image_0 Q A st h → wp 4 MX11_image Q 0 A st h := (q1 (s_ildn (n := 1) (i := 1) rfl) D_X11_image_0 fun D => (qB s_iflt 9 (by decide) D (q1 (s_iconst (n := 0) (v := 0) (by decide)) D_X11_image_9 fun D => (qZ rfl D)) fun D => (q1 (s_ildn (n := 1) (i := 1) rfl) D fun D => (q1 (s_iconst (n := 3) (v := 3) (by decide)) D fun D => (qB s_cmplt 11 (by decide) D (q1 (s_aldn (n := 0) (i := 0) rfl) D_X11_image_11 fun D => (qC fl_X11_28 rfl D fun D => (q1 (s_ildn (n := 1) (i := 1) rfl) D fun D => (q1 s_aald D fun D => (qBn s_ifnonnull2 40 (by decide) D (q1 (s_aldn (n := 0) (i := 0) rfl) D_X11_image_40 fun D => (qC fl_X11_28 rfl D fun D => (q1 (s_ildn (n := 1) (i := 1) rfl) D fun D => (q1 s_aald D fun D => (q1 (s_aldn (n := 0) (i := 0) rfl) D fun D => (qC fl_X11_24 rfl D fun D => (qX (s_callV kX8 rfl ok_X8_copyFrom mo_X8_copyFrom (ch_4_14_ok.2.2.2.2.2.2.2.1.1 rfl) (ch_4_14_ok.2.2.2.2.2.2.2.2.1.1 rfl) (ch_4_14_ok.2.2.2.2.2.2.2.2.2.1.1 rfl)) rfl (by decide) D fun D => (q1 (s_iconst (n := 1) (v := 1) (by decide)) D fun D => (qZ rfl D))))))))) fun D => (q1 (s_aldn (n := 0) (i := 0) rfl) D fun D => (qC fl_X11_28 rfl D fun D => (q1 (s_ildn (n := 1) (i := 1) rfl) D fun D => (qC (s_new kX8 ot_X8 (ch_1_2_ok.2.2.2.2.2.2.2.2.2.2.2.2.2.2.2.1.1 rfl) (ch_1_3_ok.1.1 rfl) (ch_1_0_ok.2.2.2.1.1 rfl)) rfl D fun D => (q1 s_dup D fun D => (q1 (s_aldn (n := 0) (i := 0) rfl) D fun D => (qC fl_X11_24 rfl D fun D => (qC fl_X11_81 rfl D fun D => (qX (s_callI ok_X8_init mo_X8_init rfl rfl (ch_1_5_ok.2.2.2.2.2.2.1.1 rfl) (ch_1_5_ok.2.2.2.2.2.2.2.1.1 rfl)) rfl (by decide) D fun D => (q1 (s_aast kX8) D fun D => (q1 (s_aldn (n := 0) (i := 0) rfl) D fun D => (qC fl_X11_28 rfl D fun D => (q1 (s_ildn (n := 1) (i := 1) rfl) D fun D => (q1 s_aald D fun D => (q1 (s_aldn (n := 0) (i := 0) rfl) D fun D => (qC fl_X11_24 rfl D fun D => (qX (s_callV kX8 rfl ok_X8_copyFrom mo_X8_copyFrom (ch_4_14_ok.2.2.2.2.2.2.2.1.1 rfl) (ch_4_14_ok.2.2.2.2.2.2.2.2.1.1 rfl) (ch_4_14_ok.2.2.2.2.2.2.2.2.2.1.1 rfl)) rfl (by decide) D fun D => (q1 (s_iconst (n := 1) (v := 1) (by decide)) D fun D => (qZ rfl D)))))))))))))))))))))))) fun D => (q1 (s_iconst (n := 0) (v := 0) (by decide)) D fun D => (qZ rfl D)))))))
def T_X11_image : Tr := fun av h Q => c1 2 av ∧ b_X11_image_0 Q (ent 2 av) [] h
theorem ok_X11_image : ctr 4 MX11_image T_X11_image := ctr_of pn_X11 wc_X11_image (fun av h Q hT => ⟨c1_ok hT.1, s_X11_image_0 Q _ _ _ hT.2⟩)

/-- the class's heap with a new State at hT h, for image j -/
def imN (h : Hp) (j q : Nat) : Hp := pR (pR (s8C (nC h 8 (fN 8)) (hT h)) (hT h) 3 (some q)) 30 j (some (hT h))
theorem im53 (Q : Option Value → Hp → Prop) (A : List (Option Value)) (h' : Hp) (w : Q (some (.int 1)) h') : c_X11_image_53 Q A [] h' := by
  simp only [c_X11_image_53, i_push, i_ild, i_ald, i_ist, i_ast, i_inc, i_bin, i_un, i_divs, i_i2l, i_lshl, i_lor, i_dup, i_dup2, i_pop, i_if, i_cmp, i_nul, i_vret, i_iret, i_zret, i_aret, i_keep, keep, lget, lset, ent, i_getI, i_getJ, i_getR, i_getN, i_putI, i_putZ, i_putJ, i_putR, i_iald, i_bald, i_alen, i_aald, i_iast, i_bast, i_aast, i_new, i_newa, i_anew, i_oini, i_callS, i_callV, i_callI, popn, sh4, i_sw, swP, i_copy, i_binS, List.map, Option.toList_none, Option.toList_some, List.append, List.nil_append, List.cons_append, List.length_cons, List.length_nil, List.replicate, Nat.sub_self, Nat.reduceSub, Nat.reduceAdd, hK_pX, hL_pX, hI_pX, hR_pX, hJ_pX, hT_pX, hS_pX, hK_pR, hL_pR, hI_pR, hR_pR, hJ_pR, hT_pR, hS_pR, hK_pJ, hL_pJ, hI_pJ, hR_pJ, hJ_pJ, hT_pJ, hS_pJ, hK_wI, hL_wI, hI_wI, hR_wI, hJ_wI, hT_wI, hS_wI, eq_self, and_true, true_and, and_false, false_and, or_true, true_or, or_false, false_or, if_true, if_false, not_true_eq_false, not_false_eq_true, forall_const, implies_true, false_implies, true_implies, Option.some.injEq, forall_eq', exists_eq_left', reduceCtorEq, Nat.reduceEqDiff, c1, T_X12_in, T_X12_ones, T_X11_within, T_X11_bit, T_X11_isIn, T_X11_oneIfIn, T_J6_bitCount_0f7a4]
  exact w
theorem im39 (Q : Option Value → Hp → Prop) (X : Hp) (j b : Nat) (hj : j < 3) (hl : LayX X) (hb : b < hT X ∧ hK X b = 8) (hq : T_X8_copyFrom [.ref b, .ref 3] (pR X 30 j (some b)) (fun _ h' => Q (some (.int 1)) h')) : c_X11_image_39 Q [some (.ref 0), some (.int (nI j))] [.ref b, .int (nI j), .ref 30] X := by
  have y2 : T_X8_copyFrom [.ref b, .ref 3] (pR X 30 j (some b)) (fun r h' => c_X11_image_53 Q [some (.ref 0), some (.int (nI j))] (r.toList ++ []) h') := by
    obtain ⟨r, r', q, w1, w2, w3, w4, w5⟩ := hq
    exact ⟨r, r', q, w1, w2, w3, w4, im53 Q _ _ w5⟩
  generalize hW : T_X8_copyFrom = W at y2
  simp only [c_X11_image_39, lx_pI, lx_wI, lx_t hl, lx_k hl, lx_r hl, lx_l hl, i_push, i_ild, i_ald, i_ist, i_ast, i_inc, i_bin, i_un, i_divs, i_i2l, i_lshl, i_lor, i_dup, i_dup2, i_pop, i_if, i_cmp, i_nul, i_vret, i_iret, i_zret, i_aret, i_keep, keep, lget, lset, ent, i_getI, i_getJ, i_getR, i_getN, i_putI, i_putZ, i_putJ, i_putR, i_iald, i_bald, i_alen, i_aald, i_iast, i_bast, i_aast, i_new, i_newa, i_anew, i_oini, i_callS, i_callV, i_callI, popn, sh4, i_sw, swP, i_copy, i_binS, List.map, Option.toList_none, Option.toList_some, List.append, List.nil_append, List.cons_append, List.length_cons, List.length_nil, List.replicate, Nat.sub_self, Nat.reduceSub, Nat.reduceAdd, hK_pX, hL_pX, hI_pX, hR_pX, hJ_pX, hT_pX, hS_pX, hK_pR, hL_pR, hI_pR, hR_pR, hJ_pR, hT_pR, hS_pR, hK_pJ, hL_pJ, hI_pJ, hR_pJ, hJ_pJ, hT_pJ, hS_pJ, hK_wI, hL_wI, hI_wI, hR_wI, hJ_wI, hT_wI, hS_wI, eq_self, and_true, true_and, and_false, false_and, or_true, true_or, or_false, false_or, if_true, if_false, not_true_eq_false, not_false_eq_true, forall_const, implies_true, false_implies, true_implies, Option.some.injEq, forall_eq', exists_eq_left', reduceCtorEq, Nat.reduceEqDiff, c1, T_X12_in, T_X12_ones, T_X11_within, T_X11_bit, T_X11_isIn, T_X11_oneIfIn, T_J6_bitCount_0f7a4, cl_nI (show j < 2147483648 by omega), in_nI (show j < 3 by omega) (by decide), hb, hW]
  exact y2
theorem image_go {h : Hp} (hl : LayX h) {k : Int32} {q : Nat} (hq3 : hR h 3 3 = some q) {Q : Option Value → Hp → Prop} (h0 : (¬ ∃ j, j < 3 ∧ k = nI j) → Q (some (.int 0)) h) (h1 : ∀ j, j < 3 → k = nI j → (hR h 30 j = none → T_X8_copyFrom [.ref (hT h), .ref 3] (imN h j q) (fun _ h' => Q (some (.int 1)) h')) ∧ ∀ b, hR h 30 j = some b → T_X8_copyFrom [.ref b, .ref 3] h (fun _ h' => Q (some (.int 1)) h')) : T_X11_image [.ref 0, .int k] h Q := by
  have h3 : (3 : Int32) = nI 3 := rfl
  unfold T_X11_image
  by_cases c : ∃ j, j < 3 ∧ k = nI j
  · obtain ⟨j, hj, rfl⟩ := c
    obtain ⟨g1, g2⟩ := ix_no (P := 3) (by decide) hj
    obtain ⟨y0, y1⟩ := h1 j hj rfl
    cases hb : hR h 30 j with
    | none =>
      have l1 : hT (nC h 8 (fN 8)) = hT h + 1 := hT_nC ..
      have k1 : hK (nC h 8 (fN 8)) (hT h) = 8 := by rw [hK_nC, if_pos rfl]
      obtain ⟨z1, z2, z3, z4, z5⟩ := s8_lay (h := nC h 8 (fN 8)) (o := hT h) (q := q) (by rw [l1]; exact Nat.lt_succ_self _) k1
      have ha : ∀ a, a < hT h → a ≠ hT h := fun a ha e => by omega
      have t9 := hl.1
      have yC : c_X11_image_39 Q [some (.ref 0), some (.int (nI j))] [.ref (hT h), .int (nI j), .ref 30] (pR (s8C (nC h 8 (fN 8)) (hT h)) (hT h) 3 (some q)) := by
        have lx : LayX (pR (s8C (nC h 8 (fN 8)) (hT h)) (hT h) 3 (some q)) := LayX_of hl (by rw [z2, l1]; omega) (fun a a4 => by rw [(z4 a (by rw [l1]; omega)).1, hK_nC, if_neg (by omega)]) (fun a a4 => by rw [(z4 a (by rw [l1]; omega)).2.1, hL_nC, if_neg (by omega)]) (fun a i a4 _ _ => by rw [z5 a i (by rw [l1]; omega) (by omega), hR_nC, if_neg (by omega)])
        exact im39 Q _ j (hT h) hj lx ⟨z1.1, z1.2.2.1⟩ (y0 hb)
      have yI : T_X8_init [.ref (hT h), .ref q] (nC h 8 (fN 8)) (fun r h' => c_X11_image_39 Q [some (.ref 0), some (.int (nI j))] (r.toList ++ [.ref (hT h), .int (nI j), .ref 30]) h') := ⟨by rw [l1]; exact Nat.lt_succ_self _, k1, yC⟩
      clear yC
      generalize hW : T_X8_init = W at yI
      have r30 : ∀ i, hR (nC h 8 (fN 8)) 0 i = hR h 0 i := fun i => by rw [hR_nC, if_neg (by omega)]
      have r33 : ∀ i, hR (nC h 8 (fN 8)) 3 i = hR h 3 i := fun i => by rw [hR_nC, if_neg (by omega)]
      have k0 : hK (nC h 8 (fN 8)) 0 = hK h 0 := by rw [hK_nC, if_neg (by omega)]
      have k3 : hK (nC h 8 (fN 8)) 3 = hK h 3 := by rw [hK_nC, if_neg (by omega)]
      have t0 : 0 < hT h + 1 := by omega
      have t3 : 3 < hT h + 1 := by omega
      simp only [b_X11_image_0, lx_pI, lx_wI, lx_t hl, lx_k hl, lx_r hl, lx_l hl, i_push, i_ild, i_ald, i_ist, i_ast, i_inc, i_bin, i_un, i_divs, i_i2l, i_lshl, i_lor, i_dup, i_dup2, i_pop, i_if, i_cmp, i_nul, i_vret, i_iret, i_zret, i_aret, i_keep, keep, lget, lset, ent, i_getI, i_getJ, i_getR, i_getN, i_putI, i_putZ, i_putJ, i_putR, i_iald, i_bald, i_alen, i_aald, i_iast, i_bast, i_aast, i_new, i_newa, i_anew, i_oini, i_callS, i_callV, i_callI, popn, sh4, i_sw, swP, i_copy, i_binS, List.map, Option.toList_none, Option.toList_some, List.append, List.nil_append, List.cons_append, List.length_cons, List.length_nil, List.replicate, Nat.sub_self, Nat.reduceSub, Nat.reduceAdd, hK_pX, hL_pX, hI_pX, hR_pX, hJ_pX, hT_pX, hS_pX, hK_pR, hL_pR, hI_pR, hR_pR, hJ_pR, hT_pR, hS_pR, hK_pJ, hL_pJ, hI_pJ, hR_pJ, hJ_pJ, hT_pJ, hS_pJ, hK_wI, hL_wI, hI_wI, hR_wI, hJ_wI, hT_wI, hS_wI, eq_self, and_true, true_and, and_false, false_and, or_true, true_or, or_false, false_or, if_true, if_false, not_true_eq_false, not_false_eq_true, forall_const, implies_true, false_implies, true_implies, Option.some.injEq, forall_eq', exists_eq_left', reduceCtorEq, Nat.reduceEqDiff, c1, T_X12_in, T_X12_ones, T_X11_within, T_X11_bit, T_X11_isIn, T_X11_oneIfIn, T_J6_bitCount_0f7a4, g1, h3, g2, cl_nI (show j < 2147483648 by omega), in_nI (show j < 3 by omega) (by decide), hb, hW, l1, k1, r30, r33, k0, k3, t0, t3, hq3]
      exact ⟨fun _ => yI, fun z => absurd (Int32.not_le.mp g2) z⟩
    | some b =>
      have y2 : T_X8_copyFrom [.ref b, .ref 3] h (fun r h' => c_X11_image_53 Q [some (.ref 0), some (.int (nI j))] (r.toList ++ []) h') := by
        obtain ⟨r, r', q, w1, w2, w3, w4, w5⟩ := y1 b hb
        exact ⟨r, r', q, w1, w2, w3, w4, im53 Q _ _ w5⟩
      have kb : b < hT h ∧ hK h b = 8 := by
        obtain ⟨r, r', q, w1, w2, w3, w4, w5⟩ := y1 b hb
        exact ⟨w2.1, w2.2.2.1⟩
      generalize hW : T_X8_copyFrom = W at y2
      simp only [b_X11_image_0, lx_pI, lx_wI, lx_t hl, lx_k hl, lx_r hl, lx_l hl, i_push, i_ild, i_ald, i_ist, i_ast, i_inc, i_bin, i_un, i_divs, i_i2l, i_lshl, i_lor, i_dup, i_dup2, i_pop, i_if, i_cmp, i_nul, i_vret, i_iret, i_zret, i_aret, i_keep, keep, lget, lset, ent, i_getI, i_getJ, i_getR, i_getN, i_putI, i_putZ, i_putJ, i_putR, i_iald, i_bald, i_alen, i_aald, i_iast, i_bast, i_aast, i_new, i_newa, i_anew, i_oini, i_callS, i_callV, i_callI, popn, sh4, i_sw, swP, i_copy, i_binS, List.map, Option.toList_none, Option.toList_some, List.append, List.nil_append, List.cons_append, List.length_cons, List.length_nil, List.replicate, Nat.sub_self, Nat.reduceSub, Nat.reduceAdd, hK_pX, hL_pX, hI_pX, hR_pX, hJ_pX, hT_pX, hS_pX, hK_pR, hL_pR, hI_pR, hR_pR, hJ_pR, hT_pR, hS_pR, hK_pJ, hL_pJ, hI_pJ, hR_pJ, hJ_pJ, hT_pJ, hS_pJ, hK_wI, hL_wI, hI_wI, hR_wI, hJ_wI, hT_wI, hS_wI, eq_self, and_true, true_and, and_false, false_and, or_true, true_or, or_false, false_or, if_true, if_false, not_true_eq_false, not_false_eq_true, forall_const, implies_true, false_implies, true_implies, Option.some.injEq, forall_eq', exists_eq_left', reduceCtorEq, Nat.reduceEqDiff, c1, T_X12_in, T_X12_ones, T_X11_within, T_X11_bit, T_X11_isIn, T_X11_oneIfIn, T_J6_bitCount_0f7a4, g1, h3, g2, cl_nI (show j < 2147483648 by omega), in_nI (show j < 3 by omega) (by decide), hb, kb, hW]
      exact ⟨fun _ => y2, fun z => absurd (Int32.not_le.mp g2) z⟩
  · simp only [b_X11_image_0, lx_pI, lx_wI, lx_t hl, lx_k hl, lx_r hl, lx_l hl, i_push, i_ild, i_ald, i_ist, i_ast, i_inc, i_bin, i_un, i_divs, i_i2l, i_lshl, i_lor, i_dup, i_dup2, i_pop, i_if, i_cmp, i_nul, i_vret, i_iret, i_zret, i_aret, i_keep, keep, lget, lset, ent, i_getI, i_getJ, i_getR, i_getN, i_putI, i_putZ, i_putJ, i_putR, i_iald, i_bald, i_alen, i_aald, i_iast, i_bast, i_aast, i_new, i_newa, i_anew, i_oini, i_callS, i_callV, i_callI, popn, sh4, i_sw, swP, i_copy, i_binS, List.map, Option.toList_none, Option.toList_some, List.append, List.nil_append, List.cons_append, List.length_cons, List.length_nil, List.replicate, Nat.sub_self, Nat.reduceSub, Nat.reduceAdd, hK_pX, hL_pX, hI_pX, hR_pX, hJ_pX, hT_pX, hS_pX, hK_pR, hL_pR, hI_pR, hR_pR, hJ_pR, hT_pR, hS_pR, hK_pJ, hL_pJ, hI_pJ, hR_pJ, hJ_pJ, hT_pJ, hS_pJ, hK_wI, hL_wI, hI_wI, hR_wI, hJ_wI, hT_wI, hS_wI, eq_self, and_true, true_and, and_false, false_and, or_true, true_or, or_false, false_or, if_true, if_false, not_true_eq_false, not_false_eq_true, forall_const, implies_true, false_implies, true_implies, Option.some.injEq, forall_eq', exists_eq_left', reduceCtorEq, Nat.reduceEqDiff, c1, T_X12_in, T_X12_ones, T_X11_within, T_X11_bit, T_X11_isIn, T_X11_oneIfIn, T_J6_bitCount_0f7a4, h3]
    refine ⟨fun _ => h0 c, fun z1 => ⟨fun z2 => absurd (ix_of (P := 3) (by decide) z1 (Int32.not_le.mpr z2)) c, fun _ => h0 c⟩⟩
/-! a State's block against evenings, rules, other blocks -/
theorem bk_k {h : Hp} {b : Nat} (hl : LayS h b (b + 1)) : hK h b = 8 ∧ ∀ x, 1 ≤ x → x ≤ 18 → hK h (b + x) = 6 ∨ hK h (b + x) = 14 ∨ hK h (b + x) = 3 ∨ hK h (b + x) = 0 := by
  obtain ⟨_, _, c, ⟨d0, d1, d2, d3, d4, d5, d6, d7, d8, d9, d10, d11, d12, d13, d14, d15, d16, d17⟩, _⟩ := hl
  refine ⟨c, fun x x1 x2 => ?_⟩
  have : x = 1 ∨ x = 2 ∨ x = 3 ∨ x = 4 ∨ x = 5 ∨ x = 6 ∨ x = 7 ∨ x = 8 ∨ x = 9 ∨ x = 10 ∨ x = 11 ∨ x = 12 ∨ x = 13 ∨ x = 14 ∨ x = 15 ∨ x = 16 ∨ x = 17 ∨ x = 18 := by omega
  rcases this with rfl | rfl | rfl | rfl | rfl | rfl | rfl | rfl | rfl | rfl | rfl | rfl | rfl | rfl | rfl | rfl | rfl | rfl
  · exact Or.inl d0
  · exact Or.inr (Or.inl d1)
  · exact Or.inr (Or.inl d2)
  · exact Or.inr (Or.inl d3)
  · exact Or.inr (Or.inr (Or.inl d4))
  · exact Or.inr (Or.inl d5)
  · exact Or.inr (Or.inl d6)
  · exact Or.inr (Or.inl d7)
  · exact Or.inr (Or.inl d8)
  · exact Or.inr (Or.inl d9)
  · exact Or.inr (Or.inl d10)
  · exact Or.inr (Or.inl d11)
  · exact Or.inr (Or.inl d12)
  · exact Or.inr (Or.inr (Or.inr d13))
  · exact Or.inr (Or.inl d14)
  · exact Or.inr (Or.inl d15)
  · exact Or.inr (Or.inl d16)
  · exact Or.inr (Or.inl d17)
/-- cells n .. n+m, the first of kind K (no kind of a State's block), none behind it of kind 8, lie apart from the block -/
theorem bk_ap {h : Hp} {b n m K : Nat} (hl : LayS h b (b + 1)) (hn : hK h n = K) (hK1 : K ≠ 6 ∧ K ≠ 14 ∧ K ≠ 3 ∧ K ≠ 0) (hne : n ≠ b) (hm : ∀ x, 1 ≤ x → x ≤ m → hK h (n + x) ≠ 8) (x : Nat) (hx : x ≤ m) : ¬ (b ≤ n + x ∧ n + x ≤ b + 18) := by
  obtain ⟨k0, k1⟩ := bk_k hl
  intro ⟨a1, a2⟩
  by_cases c : n < b
  · have := hm (b - n) (by omega) (by omega)
    rw [show n + (b - n) = b by omega] at this
    exact this k0
  · have := k1 (n - b) (by omega) (by omega)
    rw [show b + (n - b) = n by omega, hn] at this
    omega
theorem bk_N {h : Hp} {b : Nat} (hl : LayS h b (b + 1)) {n R : Nat} (hn : LayN h n R) (i : Nat) (hi : i ≤ 3) : ¬ (b ≤ n + i ∧ n + i ≤ b + 18) := by
  obtain ⟨_, _, c0, d1, d2, d3, _⟩ := hn
  have kb := (bk_k hl).1
  refine bk_ap hl c0 (by decide) (fun e => by rw [e, kb] at c0; exact absurd c0 (by decide)) (fun x x1 x2 => ?_) i hi
  have : x = 1 ∨ x = 2 ∨ x = 3 := by omega
  rcases this with rfl | rfl | rfl
  · rw [d1]; decide
  · rw [d2]; decide
  · rw [d3]; decide
theorem bk_R {h : Hp} {b : Nat} (hl : LayS h b (b + 1)) {q : Nat} (hn : LayR h q) (i : Nat) (hi : i ≤ 7) : ¬ (b ≤ q + i ∧ q + i ≤ b + 18) := by
  obtain ⟨_, _, c0, d1, d2, d3, d4, d5, d6, d7, _⟩ := hn
  have kb := (bk_k hl).1
  refine bk_ap hl c0 (by decide) (fun e => by rw [e, kb] at c0; exact absurd c0 (by decide)) (fun x x1 x2 => ?_) i hi
  have : x = 1 ∨ x = 2 ∨ x = 3 ∨ x = 4 ∨ x = 5 ∨ x = 6 ∨ x = 7 := by omega
  rcases this with rfl | rfl | rfl | rfl | rfl | rfl | rfl
  · rw [d1]; decide
  · rw [d2]; decide
  · rw [d3]; decide
  · rw [d4]; decide
  · rw [d5]; decide
  · rw [d6]; decide
  · rw [d7]; decide
theorem bk_S {h : Hp} {b b' : Nat} (hl : LayS h b (b + 1)) (hl' : LayS h b' (b' + 1)) (hne : b' ≠ b) (i : Nat) (hi : i ≤ 18) : ¬ (b ≤ b' + i ∧ b' + i ≤ b + 18) := by
  have hk := bk_k hl'
  refine bk_ap (m := 18) hl hk.1 (by decide) hne (fun x x1 x2 => ?_) i hi
  have := hk.2 x x1 x2
  omega
