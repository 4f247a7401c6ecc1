/-! ===== the reference: a word of the tape ===== -/
theorem k8' : (8 : Int32) = nI 8 := rfl
set_option maxRecDepth 100000 in
set_option maxHeartbeats 400000 in
theorem nx_79 (Q : Option Value → Hp → Prop) (G : Hp) (hl0 : LayM G) (L b : Nat) (hb : b < L) (hL : L ≤ 500) (h38 : hI G 44 38 = nI L) (B : Nat → Int32) (hB : ∀ i, hI G 45 i &&& 255 = B i)
    (hq : Q none (pI (hw G (eL B L b) (if 8 < eL B L b - b then 0 else wv B b (eL B L b - b))) 44 40 2)) :
    ∀ (m n : Nat), m = L - (b + n) → b + n ≤ L → (∀ k, b ≤ k → k < b + n → sLe B L k) → wp 1 MX12_next Q 79 [some (.ref 44), none, some (.int (nI n))] [] (hw G (b + n) (wv B b n)) := by
  intro m
  induction m with
  | zero =>
    intro n hm hn hall
    have hl : LayM (hw G (b + n) (wv B b n)) := hw_l hl0 _ _
    have e37 : hI (hw G (b + n) (wv B b n)) 44 37 = nI (b + n) := hw_37 _ _ _
    have e38 : hI (hw G (b + n) (wv B b n)) 44 38 = nI L := (hw_o _ _ _ (by decide)).trans h38
    have eB : ∀ i, hI (hw G (b + n) (wv B b n)) 45 i &&& 255 = B i := fun i => (hw_B _ _ _ i).trans (hB i)
    have eJ : hJ (hw G (b + n) (wv B b n)) 44 42 = wv B b n := hw_J _ _ _
    have c : ¬ sLe B L (b + n) := fun z => by have := z.1; omega
    have hend : eL B L b = b + n := nxN_at (by omega) hall c
    have h141 : ∀ w, (w = if 8 < n then 0 else wv B b n) → wp 1 MX12_next Q 141 [some (.ref 44), none, none] [.long w, .ref 44] (hw G (b + n) (wv B b n)) := by
      intro w hw'
      rw [hend, show b + n - b = n by omega, ← hw', ← hw_w G (b + n) (wv B b n) w] at hq
      refine s_X12_next_141 Q _ _ _ ?_
      generalize hw G (b + n) (wv B b n) = H at hl hq ⊢
      have hkk := (lm_k hl).1
      have htt := (lm_t hl).1
      simp only [b_X12_next_141, i_push, i_ild, i_ald, i_ist, i_ast, i_inc, i_bin, i_un, i_divs, i_i2l, i_lshl, i_lor, i_dup, i_dup2, i_pop, i_if, i_cmp, i_nul, i_vret, i_iret, i_zret, i_aret, i_keep, keep, lget, lset, ent, i_getI, i_getJ, i_getR, i_getN, i_putI, i_putZ, i_putJ, i_putR, i_iald, i_bald, i_alen, i_aald, i_iast, i_bast, i_aast, i_new, i_newa, i_anew, i_oini, i_callS, i_callV, i_callI, popn, sh4, i_sw, swP, i_copy, i_binS, List.map, Option.toList_none, Option.toList_some, List.append, List.nil_append, List.cons_append, List.length_cons, List.length_nil, List.replicate, Nat.sub_self, Nat.reduceSub, Nat.reduceAdd, hK_pI, hL_pI, hI_pI, hR_pI, hJ_pI, hT_pI, hS_pI, hK_pR, hL_pR, hI_pR, hR_pR, hJ_pR, hT_pR, hS_pR, hK_pJ, hL_pJ, hI_pJ, hR_pJ, hJ_pJ, hT_pJ, hS_pJ, hK_wI, hL_wI, hI_wI, hR_wI, hJ_wI, hT_wI, hS_wI, eq_self, and_true, true_and, and_false, false_and, or_true, true_or, or_false, false_or, if_true, if_false, not_true_eq_false, not_false_eq_true, forall_const, implies_true, false_implies, true_implies, Option.some.injEq, forall_eq', exists_eq_left', reduceCtorEq, Nat.reduceEqDiff, c1, T_X12_in, T_X12_ones, T_X11_within, T_X11_bit, T_X11_isIn, T_X11_oneIfIn, T_J6_bitCount_0f7a4, hkk, htt]
      exact hq
    have hc : T_X12_see [.ref 44] (hw G (b + n) (wv B b n)) (fun r h' => c_X12_next_83 Q [some (.ref 44), none, some (.int (nI n))] (r.toList ++ []) h') := by
      refine see_ok hl (by omega) hL e37 e38 eB ?_
      show c_X12_next_83 Q _ [.int (sB B L (b + n))] _
      have hx : ¬ (97 ≤ sB B L (b + n) ∧ sB B L (b + n) ≤ 122) := fun z => c (sB_le.mp z)
      generalize sB B L (b + n) = X at hx ⊢
      generalize hw G (b + n) (wv B b n) = H at hl eJ h141 ⊢
      have hkk := (lm_k hl).1
      have htt := (lm_t hl).1
      simp only [c_X12_next_83, i_push, i_ild, i_ald, i_ist, i_ast, i_inc, i_bin, i_un, i_divs, i_i2l, i_lshl, i_lor, i_dup, i_dup2, i_pop, i_if, i_cmp, i_nul, i_vret, i_iret, i_zret, i_aret, i_keep, keep, lget, lset, ent, i_getI, i_getJ, i_getR, i_getN, i_putI, i_putZ, i_putJ, i_putR, i_iald, i_bald, i_alen, i_aald, i_iast, i_bast, i_aast, i_new, i_newa, i_anew, i_oini, i_callS, i_callV, i_callI, popn, sh4, i_sw, swP, i_copy, i_binS, List.map, Option.toList_none, Option.toList_some, List.append, List.nil_append, List.cons_append, List.length_cons, List.length_nil, List.replicate, Nat.sub_self, Nat.reduceSub, Nat.reduceAdd, hK_pI, hL_pI, hI_pI, hR_pI, hJ_pI, hT_pI, hS_pI, hK_pR, hL_pR, hI_pR, hR_pR, hJ_pR, hT_pR, hS_pR, hK_pJ, hL_pJ, hI_pJ, hR_pJ, hJ_pJ, hT_pJ, hS_pJ, hK_wI, hL_wI, hI_wI, hR_wI, hJ_wI, hT_wI, hS_wI, eq_self, and_true, true_and, and_false, false_and, or_true, true_or, or_false, false_or, if_true, if_false, not_true_eq_false, not_false_eq_true, forall_const, implies_true, false_implies, true_implies, Option.some.injEq, forall_eq', exists_eq_left', reduceCtorEq, Nat.reduceEqDiff, c1, T_X12_in, T_X12_ones, T_X11_within, T_X11_bit, T_X11_isIn, T_X11_oneIfIn, T_J6_bitCount_0f7a4, hkk, htt, b2i_0, eJ, k8', nI_leI (show n < 2 ^ 31 by omega) (show 8 < 2 ^ 31 by decide)]
      refine ⟨fun _ => ⟨fun z => h141 _ ?_, fun z => h141 _ ?_⟩, fun z => absurd hx z⟩
      · rw [if_neg (by omega)]
      · rw [if_pos (by omega)]
    refine s_X12_next_79 Q _ _ _ ?_
    generalize hw G (b + n) (wv B b n) = H at hl hc ⊢
    have hkk := (lm_k hl).1
    have htt := (lm_t hl).1
    simp only [b_X12_next_79, i_push, i_ild, i_ald, i_ist, i_ast, i_inc, i_bin, i_un, i_divs, i_i2l, i_lshl, i_lor, i_dup, i_dup2, i_pop, i_if, i_cmp, i_nul, i_vret, i_iret, i_zret, i_aret, i_keep, keep, lget, lset, ent, i_getI, i_getJ, i_getR, i_getN, i_putI, i_putZ, i_putJ, i_putR, i_iald, i_bald, i_alen, i_aald, i_iast, i_bast, i_aast, i_new, i_newa, i_anew, i_oini, i_callS, i_callV, i_callI, popn, sh4, i_sw, swP, i_copy, i_binS, List.map, Option.toList_none, Option.toList_some, List.append, List.nil_append, List.cons_append, List.length_cons, List.length_nil, List.replicate, Nat.sub_self, Nat.reduceSub, Nat.reduceAdd, hK_pI, hL_pI, hI_pI, hR_pI, hJ_pI, hT_pI, hS_pI, hK_pR, hL_pR, hI_pR, hR_pR, hJ_pR, hT_pR, hS_pR, hK_pJ, hL_pJ, hI_pJ, hR_pJ, hJ_pJ, hT_pJ, hS_pJ, hK_wI, hL_wI, hI_wI, hR_wI, hJ_wI, hT_wI, hS_wI, eq_self, and_true, true_and, and_false, false_and, or_true, true_or, or_false, false_or, if_true, if_false, not_true_eq_false, not_false_eq_true, forall_const, implies_true, false_implies, true_implies, Option.some.injEq, forall_eq', exists_eq_left', reduceCtorEq, Nat.reduceEqDiff, c1, T_X12_in, T_X12_ones, T_X11_within, T_X11_bit, T_X11_isIn, T_X11_oneIfIn, T_J6_bitCount_0f7a4, hkk, htt]
    exact hc
  | succ m ih =>
    intro n hm hn hall
    have hl : LayM (hw G (b + n) (wv B b n)) := hw_l hl0 _ _
    have e37 : hI (hw G (b + n) (wv B b n)) 44 37 = nI (b + n) := hw_37 _ _ _
    have e38 : hI (hw G (b + n) (wv B b n)) 44 38 = nI L := (hw_o _ _ _ (by decide)).trans h38
    have eB : ∀ i, hI (hw G (b + n) (wv B b n)) 45 i &&& 255 = B i := fun i => (hw_B _ _ _ i).trans (hB i)
    have eJ : hJ (hw G (b + n) (wv B b n)) 44 42 = wv B b n := hw_J _ _ _
    by_cases c : sLe B L (b + n)
    · have hgo := ih (n + 1) (by omega) (by omega) (fun k k1 k2 => by
        by_cases e : k = b + n
        · rw [e]; exact c
        · exact hall k k1 (by omega))
      refine s_X12_next_79 Q _ _ _ ?_
      have hc : T_X12_see [.ref 44] (hw G (b + n) (wv B b n)) (fun r h' => c_X12_next_83 Q [some (.ref 44), none, some (.int (nI n))] (r.toList ++ []) h') := by
        refine see_ok hl (by omega) hL e37 e38 eB ?_
        have hc2 : T_X12_see [.ref 44] (hw G (b + n) (wv B b n)) (fun r h' => c_X12_next_105 Q [some (.ref 44), none, some (.int (nI n))] (r.toList ++ [.long (wv B b n <<< (Int32.toInt64 8 &&& 63)), .ref 44]) h') := by
          refine see_ok hl (by omega) hL e37 e38 eB ?_
          have hs := hw_s G (b + n) (b + (n + 1)) (wv B b n) (wv B b (n + 1))
          rw [← hs] at hgo
          have e1 : sB B L (b + n) = B (b + n) := if_pos c.1
          show c_X12_next_105 Q _ [.int (sB B L (b + n)), .long (wv B b n <<< (Int32.toInt64 8 &&& 63)), .ref 44] _
          rw [e1]
          have e2 : wv B b (n + 1) = wv B b n <<< (Int32.toInt64 8 &&& 63) ||| (B (b + n)).toInt64 := by rw [wv]
          rw [e2] at hgo
          generalize hw G (b + n) (wv B b n) = H at hl e37 hgo ⊢
          generalize wv B b n <<< (Int32.toInt64 8 &&& 63) = X at hgo ⊢
          have hkk := (lm_k hl).1
          have htt := (lm_t hl).1
          simp only [c_X12_next_105, i_push, i_ild, i_ald, i_ist, i_ast, i_inc, i_bin, i_un, i_divs, i_i2l, i_lshl, i_lor, i_dup, i_dup2, i_pop, i_if, i_cmp, i_nul, i_vret, i_iret, i_zret, i_aret, i_keep, keep, lget, lset, ent, i_getI, i_getJ, i_getR, i_getN, i_putI, i_putZ, i_putJ, i_putR, i_iald, i_bald, i_alen, i_aald, i_iast, i_bast, i_aast, i_new, i_newa, i_anew, i_oini, i_callS, i_callV, i_callI, popn, sh4, i_sw, swP, i_copy, i_binS, List.map, Option.toList_none, Option.toList_some, List.append, List.nil_append, List.cons_append, List.length_cons, List.length_nil, List.replicate, Nat.sub_self, Nat.reduceSub, Nat.reduceAdd, hK_pI, hL_pI, hI_pI, hR_pI, hJ_pI, hT_pI, hS_pI, hK_pR, hL_pR, hI_pR, hR_pR, hJ_pR, hT_pR, hS_pR, hK_pJ, hL_pJ, hI_pJ, hR_pJ, hJ_pJ, hT_pJ, hS_pJ, hK_wI, hL_wI, hI_wI, hR_wI, hJ_wI, hT_wI, hS_wI, eq_self, and_true, true_and, and_false, false_and, or_true, true_or, or_false, false_or, if_true, if_false, not_true_eq_false, not_false_eq_true, forall_const, implies_true, false_implies, true_implies, Option.some.injEq, forall_eq', exists_eq_left', reduceCtorEq, Nat.reduceEqDiff, c1, T_X12_in, T_X12_ones, T_X11_within, T_X11_bit, T_X11_isIn, T_X11_oneIfIn, T_J6_bitCount_0f7a4, hkk, htt, e37, nI_1, Nat.add_assoc]
          exact hgo
        show c_X12_next_83 Q _ [.int (sB B L (b + n))] _
        have hx := sB_le.mpr c
        generalize sB B L (b + n) = X at hx ⊢
        generalize hw G (b + n) (wv B b n) = H at hl eJ hc2 ⊢
        have hkk := (lm_k hl).1
        have htt := (lm_t hl).1
        simp only [c_X12_next_83, i_push, i_ild, i_ald, i_ist, i_ast, i_inc, i_bin, i_un, i_divs, i_i2l, i_lshl, i_lor, i_dup, i_dup2, i_pop, i_if, i_cmp, i_nul, i_vret, i_iret, i_zret, i_aret, i_keep, keep, lget, lset, ent, i_getI, i_getJ, i_getR, i_getN, i_putI, i_putZ, i_putJ, i_putR, i_iald, i_bald, i_alen, i_aald, i_iast, i_bast, i_aast, i_new, i_newa, i_anew, i_oini, i_callS, i_callV, i_callI, popn, sh4, i_sw, swP, i_copy, i_binS, List.map, Option.toList_none, Option.toList_some, List.append, List.nil_append, List.cons_append, List.length_cons, List.length_nil, List.replicate, Nat.sub_self, Nat.reduceSub, Nat.reduceAdd, hK_pI, hL_pI, hI_pI, hR_pI, hJ_pI, hT_pI, hS_pI, hK_pR, hL_pR, hI_pR, hR_pR, hJ_pR, hT_pR, hS_pR, hK_pJ, hL_pJ, hI_pJ, hR_pJ, hJ_pJ, hT_pJ, hS_pJ, hK_wI, hL_wI, hI_wI, hR_wI, hJ_wI, hT_wI, hS_wI, eq_self, and_true, true_and, and_false, false_and, or_true, true_or, or_false, false_or, if_true, if_false, not_true_eq_false, not_false_eq_true, forall_const, implies_true, false_implies, true_implies, Option.some.injEq, forall_eq', exists_eq_left', reduceCtorEq, Nat.reduceEqDiff, c1, T_X12_in, T_X12_ones, T_X11_within, T_X11_bit, T_X11_isIn, T_X11_oneIfIn, T_J6_bitCount_0f7a4, hkk, htt, b2i_0, eJ]
        exact ⟨fun z => absurd hx z, fun _ => hc2⟩
      generalize hw G (b + n) (wv B b n) = H at hl hc ⊢
      have hkk := (lm_k hl).1
      have htt := (lm_t hl).1
      simp only [b_X12_next_79, i_push, i_ild, i_ald, i_ist, i_ast, i_inc, i_bin, i_un, i_divs, i_i2l, i_lshl, i_lor, i_dup, i_dup2, i_pop, i_if, i_cmp, i_nul, i_vret, i_iret, i_zret, i_aret, i_keep, keep, lget, lset, ent, i_getI, i_getJ, i_getR, i_getN, i_putI, i_putZ, i_putJ, i_putR, i_iald, i_bald, i_alen, i_aald, i_iast, i_bast, i_aast, i_new, i_newa, i_anew, i_oini, i_callS, i_callV, i_callI, popn, sh4, i_sw, swP, i_copy, i_binS, List.map, Option.toList_none, Option.toList_some, List.append, List.nil_append, List.cons_append, List.length_cons, List.length_nil, List.replicate, Nat.sub_self, Nat.reduceSub, Nat.reduceAdd, hK_pI, hL_pI, hI_pI, hR_pI, hJ_pI, hT_pI, hS_pI, hK_pR, hL_pR, hI_pR, hR_pR, hJ_pR, hT_pR, hS_pR, hK_pJ, hL_pJ, hI_pJ, hR_pJ, hJ_pJ, hT_pJ, hS_pJ, hK_wI, hL_wI, hI_wI, hR_wI, hJ_wI, hT_wI, hS_wI, eq_self, and_true, true_and, and_false, false_and, or_true, true_or, or_false, false_or, if_true, if_false, not_true_eq_false, not_false_eq_true, forall_const, implies_true, false_implies, true_implies, Option.some.injEq, forall_eq', exists_eq_left', reduceCtorEq, Nat.reduceEqDiff, c1, T_X12_in, T_X12_ones, T_X11_within, T_X11_bit, T_X11_isIn, T_X11_oneIfIn, T_J6_bitCount_0f7a4, hkk, htt]
      exact hc
    · have hend : eL B L b = b + n := nxN_at (by omega) hall c
      have h141 : ∀ w, (w = if 8 < n then 0 else wv B b n) → wp 1 MX12_next Q 141 [some (.ref 44), none, none] [.long w, .ref 44] (hw G (b + n) (wv B b n)) := by
        intro w hw'
        rw [hend, show b + n - b = n by omega, ← hw', ← hw_w G (b + n) (wv B b n) w] at hq
        refine s_X12_next_141 Q _ _ _ ?_
        generalize hw G (b + n) (wv B b n) = H at hl hq ⊢
        have hkk := (lm_k hl).1
        have htt := (lm_t hl).1
        simp only [b_X12_next_141, i_push, i_ild, i_ald, i_ist, i_ast, i_inc, i_bin, i_un, i_divs, i_i2l, i_lshl, i_lor, i_dup, i_dup2, i_pop, i_if, i_cmp, i_nul, i_vret, i_iret, i_zret, i_aret, i_keep, keep, lget, lset, ent, i_getI, i_getJ, i_getR, i_getN, i_putI, i_putZ, i_putJ, i_putR, i_iald, i_bald, i_alen, i_aald, i_iast, i_bast, i_aast, i_new, i_newa, i_anew, i_oini, i_callS, i_callV, i_callI, popn, sh4, i_sw, swP, i_copy, i_binS, List.map, Option.toList_none, Option.toList_some, List.append, List.nil_append, List.cons_append, List.length_cons, List.length_nil, List.replicate, Nat.sub_self, Nat.reduceSub, Nat.reduceAdd, hK_pI, hL_pI, hI_pI, hR_pI, hJ_pI, hT_pI, hS_pI, hK_pR, hL_pR, hI_pR, hR_pR, hJ_pR, hT_pR, hS_pR, hK_pJ, hL_pJ, hI_pJ, hR_pJ, hJ_pJ, hT_pJ, hS_pJ, hK_wI, hL_wI, hI_wI, hR_wI, hJ_wI, hT_wI, hS_wI, eq_self, and_true, true_and, and_false, false_and, or_true, true_or, or_false, false_or, if_true, if_false, not_true_eq_false, not_false_eq_true, forall_const, implies_true, false_implies, true_implies, Option.some.injEq, forall_eq', exists_eq_left', reduceCtorEq, Nat.reduceEqDiff, c1, T_X12_in, T_X12_ones, T_X11_within, T_X11_bit, T_X11_isIn, T_X11_oneIfIn, T_J6_bitCount_0f7a4, hkk, htt]
        exact hq
      have hc : T_X12_see [.ref 44] (hw G (b + n) (wv B b n)) (fun r h' => c_X12_next_83 Q [some (.ref 44), none, some (.int (nI n))] (r.toList ++ []) h') := by
        refine see_ok hl (by omega) hL e37 e38 eB ?_
        show c_X12_next_83 Q _ [.int (sB B L (b + n))] _
        have hx : ¬ (97 ≤ sB B L (b + n) ∧ sB B L (b + n) ≤ 122) := fun z => c (sB_le.mp z)
        generalize sB B L (b + n) = X at hx ⊢
        generalize hw G (b + n) (wv B b n) = H at hl eJ h141 ⊢
        have hkk := (lm_k hl).1
        have htt := (lm_t hl).1
        simp only [c_X12_next_83, i_push, i_ild, i_ald, i_ist, i_ast, i_inc, i_bin, i_un, i_divs, i_i2l, i_lshl, i_lor, i_dup, i_dup2, i_pop, i_if, i_cmp, i_nul, i_vret, i_iret, i_zret, i_aret, i_keep, keep, lget, lset, ent, i_getI, i_getJ, i_getR, i_getN, i_putI, i_putZ, i_putJ, i_putR, i_iald, i_bald, i_alen, i_aald, i_iast, i_bast, i_aast, i_new, i_newa, i_anew, i_oini, i_callS, i_callV, i_callI, popn, sh4, i_sw, swP, i_copy, i_binS, List.map, Option.toList_none, Option.toList_some, List.append, List.nil_append, List.cons_append, List.length_cons, List.length_nil, List.replicate, Nat.sub_self, Nat.reduceSub, Nat.reduceAdd, hK_pI, hL_pI, hI_pI, hR_pI, hJ_pI, hT_pI, hS_pI, hK_pR, hL_pR, hI_pR, hR_pR, hJ_pR, hT_pR, hS_pR, hK_pJ, hL_pJ, hI_pJ, hR_pJ, hJ_pJ, hT_pJ, hS_pJ, hK_wI, hL_wI, hI_wI, hR_wI, hJ_wI, hT_wI, hS_wI, eq_self, and_true, true_and, and_false, false_and, or_true, true_or, or_false, false_or, if_true, if_false, not_true_eq_false, not_false_eq_true, forall_const, implies_true, false_implies, true_implies, Option.some.injEq, forall_eq', exists_eq_left', reduceCtorEq, Nat.reduceEqDiff, c1, T_X12_in, T_X12_ones, T_X11_within, T_X11_bit, T_X11_isIn, T_X11_oneIfIn, T_J6_bitCount_0f7a4, hkk, htt, b2i_0, eJ, k8', nI_leI (show n < 2 ^ 31 by omega) (show 8 < 2 ^ 31 by decide)]
        refine ⟨fun _ => ⟨fun z => h141 _ ?_, fun z => h141 _ ?_⟩, fun z => absurd hx z⟩
        · rw [if_neg (by omega)]
        · rw [if_pos (by omega)]
      refine s_X12_next_79 Q _ _ _ ?_
      generalize hw G (b + n) (wv B b n) = H at hl hc ⊢
      have hkk := (lm_k hl).1
      have htt := (lm_t hl).1
      simp only [b_X12_next_79, i_push, i_ild, i_ald, i_ist, i_ast, i_inc, i_bin, i_un, i_divs, i_i2l, i_lshl, i_lor, i_dup, i_dup2, i_pop, i_if, i_cmp, i_nul, i_vret, i_iret, i_zret, i_aret, i_keep, keep, lget, lset, ent, i_getI, i_getJ, i_getR, i_getN, i_putI, i_putZ, i_putJ, i_putR, i_iald, i_bald, i_alen, i_aald, i_iast, i_bast, i_aast, i_new, i_newa, i_anew, i_oini, i_callS, i_callV, i_callI, popn, sh4, i_sw, swP, i_copy, i_binS, List.map, Option.toList_none, Option.toList_some, List.append, List.nil_append, List.cons_append, List.length_cons, List.length_nil, List.replicate, Nat.sub_self, Nat.reduceSub, Nat.reduceAdd, hK_pI, hL_pI, hI_pI, hR_pI, hJ_pI, hT_pI, hS_pI, hK_pR, hL_pR, hI_pR, hR_pR, hJ_pR, hT_pR, hS_pR, hK_pJ, hL_pJ, hI_pJ, hR_pJ, hJ_pJ, hT_pJ, hS_pJ, hK_wI, hL_wI, hI_wI, hR_wI, hJ_wI, hT_wI, hS_wI, eq_self, and_true, true_and, and_false, false_and, or_true, true_or, or_false, false_or, if_true, if_false, not_true_eq_false, not_false_eq_true, forall_const, implies_true, false_implies, true_implies, Option.some.injEq, forall_eq', exists_eq_left', reduceCtorEq, Nat.reduceEqDiff, c1, T_X12_in, T_X12_ones, T_X11_within, T_X11_bit, T_X11_isIn, T_X11_oneIfIn, T_J6_bitCount_0f7a4, hkk, htt]
      exact hc
