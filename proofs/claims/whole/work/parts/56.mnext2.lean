/-! ===== the reference: a number of the tape ===== -/
set_option maxRecDepth 100000 in
set_option maxHeartbeats 400000 in
theorem nx_170 (Q : Option Value → Hp → Prop) (G : Hp) (hl0 : LayM G) (L b : Nat) (hb : b < L) (hL : L ≤ 500) (h38 : hI G 44 38 = nI L) (B : Nat → Int32) (hB : ∀ i, hI G 45 i &&& 255 = B i)
    (hq : Q none (pI (hd G (eD B L b) (nv B b (eD B L b - b))) 44 40 (if 4 < eD B L b - b then 1 else 3))) :
    ∀ (m n : Nat), m = L - (b + n) → b + n ≤ L → (∀ k, b ≤ k → k < b + n → sDi B L k) → wp 1 MX12_next Q 170 [some (.ref 44), none, some (.int (nI n))] [] (hd G (b + n) (nv B b n)) := by
  intro m
  induction m with
  | zero =>
    intro n hm hn hall
    have hl : LayM (hd G (b + n) (nv B b n)) := hd_l hl0 _ _
    have e37 : hI (hd G (b + n) (nv B b n)) 44 37 = nI (b + n) := hd_37 _ _ _
    have e38 : hI (hd G (b + n) (nv B b n)) 44 38 = nI L := (hd_o _ _ _ (by decide) (by decide)).trans h38
    have eB : ∀ i, hI (hd G (b + n) (nv B b n)) 45 i &&& 255 = B i := fun i => (hd_B _ _ _ i).trans (hB i)
    have c : ¬ sDi B L (b + n) := fun z => by have := z.1; omega
    have hend : eD B L b = b + n := nxN_at (by omega) hall c
    have h242 : ∀ v, (v = if 4 < n then 1 else 3) → wp 1 MX12_next Q 242 [none, none, none] [.int v, .ref 44] (hd G (b + n) (nv B b n)) := by
      intro v hv
      rw [hend, show b + n - b = n by omega, ← hv] at hq
      refine s_X12_next_242 Q _ _ _ ?_
      generalize hd G (b + n) (nv B b n) = H at hl hq ⊢
      have hkk := (lm_k hl).1
      have htt := (lm_t hl).1
      simp only [b_X12_next_242, i_push, i_ild, i_ald, i_ist, i_ast, i_inc, i_bin, i_un, i_divs, i_i2l, i_lshl, i_lor, i_dup, i_dup2, i_pop, i_if, i_cmp, i_nul, i_vret, i_iret, i_zret, i_aret, i_keep, keep, lget, lset, ent, i_getI, i_getJ, i_getR, i_getN, i_putI, i_putZ, i_putJ, i_putR, i_iald, i_bald, i_alen, i_aald, i_iast, i_bast, i_aast, i_new, i_newa, i_anew, i_oini, i_callS, i_callV, i_callI, popn, sh4, i_sw, swP, i_copy, i_binS, List.map, Option.toList_none, Option.toList_some, List.append, List.nil_append, List.cons_append, List.length_cons, List.length_nil, List.replicate, Nat.sub_self, Nat.reduceSub, Nat.reduceAdd, hK_pI, hL_pI, hI_pI, hR_pI, hJ_pI, hT_pI, hS_pI, hK_pR, hL_pR, hI_pR, hR_pR, hJ_pR, hT_pR, hS_pR, hK_pJ, hL_pJ, hI_pJ, hR_pJ, hJ_pJ, hT_pJ, hS_pJ, hK_wI, hL_wI, hI_wI, hR_wI, hJ_wI, hT_wI, hS_wI, eq_self, and_true, true_and, and_false, false_and, or_true, true_or, or_false, false_or, if_true, if_false, not_true_eq_false, not_false_eq_true, forall_const, implies_true, false_implies, true_implies, Option.some.injEq, forall_eq', exists_eq_left', reduceCtorEq, Nat.reduceEqDiff, c1, T_X12_in, T_X12_ones, T_X11_within, T_X11_bit, T_X11_isIn, T_X11_oneIfIn, T_J6_bitCount_0f7a4, hkk, htt]
      exact hq
    have hc : T_X12_see [.ref 44] (hd G (b + n) (nv B b n)) (fun r h' => c_X12_next_174 Q [some (.ref 44), none, some (.int (nI n))] (r.toList ++ []) h') := by
      refine see_ok hl (by omega) hL e37 e38 eB ?_
      show c_X12_next_174 Q _ [.int (sB B L (b + n))] _
      have hx : ¬ (48 ≤ sB B L (b + n) ∧ sB B L (b + n) ≤ 57) := fun z => c (sB_di.mp z)
      generalize sB B L (b + n) = X at hx ⊢
      generalize hd G (b + n) (nv B b n) = H at hl h242 ⊢
      have hkk := (lm_k hl).1
      have htt := (lm_t hl).1
      simp only [c_X12_next_174, i_push, i_ild, i_ald, i_ist, i_ast, i_inc, i_bin, i_un, i_divs, i_i2l, i_lshl, i_lor, i_dup, i_dup2, i_pop, i_if, i_cmp, i_nul, i_vret, i_iret, i_zret, i_aret, i_keep, keep, lget, lset, ent, i_getI, i_getJ, i_getR, i_getN, i_putI, i_putZ, i_putJ, i_putR, i_iald, i_bald, i_alen, i_aald, i_iast, i_bast, i_aast, i_new, i_newa, i_anew, i_oini, i_callS, i_callV, i_callI, popn, sh4, i_sw, swP, i_copy, i_binS, List.map, Option.toList_none, Option.toList_some, List.append, List.nil_append, List.cons_append, List.length_cons, List.length_nil, List.replicate, Nat.sub_self, Nat.reduceSub, Nat.reduceAdd, hK_pI, hL_pI, hI_pI, hR_pI, hJ_pI, hT_pI, hS_pI, hK_pR, hL_pR, hI_pR, hR_pR, hJ_pR, hT_pR, hS_pR, hK_pJ, hL_pJ, hI_pJ, hR_pJ, hJ_pJ, hT_pJ, hS_pJ, hK_wI, hL_wI, hI_wI, hR_wI, hJ_wI, hT_wI, hS_wI, eq_self, and_true, true_and, and_false, false_and, or_true, true_or, or_false, false_or, if_true, if_false, not_true_eq_false, not_false_eq_true, forall_const, implies_true, false_implies, true_implies, Option.some.injEq, forall_eq', exists_eq_left', reduceCtorEq, Nat.reduceEqDiff, c1, T_X12_in, T_X12_ones, T_X11_within, T_X11_bit, T_X11_isIn, T_X11_oneIfIn, T_J6_bitCount_0f7a4, hkk, htt, b2i_0, k4', nI_leI (show n < 2 ^ 31 by omega) (show 4 < 2 ^ 31 by decide)]
      refine ⟨fun _ => ⟨fun z => h242 _ ?_, fun z => h242 _ ?_⟩, fun z => absurd hx z⟩
      · rw [if_neg (by omega)]
      · rw [if_pos (by omega)]
    refine s_X12_next_170 Q _ _ _ ?_
    generalize hd G (b + n) (nv B b n) = H at hl hc ⊢
    have hkk := (lm_k hl).1
    have htt := (lm_t hl).1
    simp only [b_X12_next_170, i_push, i_ild, i_ald, i_ist, i_ast, i_inc, i_bin, i_un, i_divs, i_i2l, i_lshl, i_lor, i_dup, i_dup2, i_pop, i_if, i_cmp, i_nul, i_vret, i_iret, i_zret, i_aret, i_keep, keep, lget, lset, ent, i_getI, i_getJ, i_getR, i_getN, i_putI, i_putZ, i_putJ, i_putR, i_iald, i_bald, i_alen, i_aald, i_iast, i_bast, i_aast, i_new, i_newa, i_anew, i_oini, i_callS, i_callV, i_callI, popn, sh4, i_sw, swP, i_copy, i_binS, List.map, Option.toList_none, Option.toList_some, List.append, List.nil_append, List.cons_append, List.length_cons, List.length_nil, List.replicate, Nat.sub_self, Nat.reduceSub, Nat.reduceAdd, hK_pI, hL_pI, hI_pI, hR_pI, hJ_pI, hT_pI, hS_pI, hK_pR, hL_pR, hI_pR, hR_pR, hJ_pR, hT_pR, hS_pR, hK_pJ, hL_pJ, hI_pJ, hR_pJ, hJ_pJ, hT_pJ, hS_pJ, hK_wI, hL_wI, hI_wI, hR_wI, hJ_wI, hT_wI, hS_wI, eq_self, and_true, true_and, and_false, false_and, or_true, true_or, or_false, false_or, if_true, if_false, not_true_eq_false, not_false_eq_true, forall_const, implies_true, false_implies, true_implies, Option.some.injEq, forall_eq', exists_eq_left', reduceCtorEq, Nat.reduceEqDiff, c1, T_X12_in, T_X12_ones, T_X11_within, T_X11_bit, T_X11_isIn, T_X11_oneIfIn, T_J6_bitCount_0f7a4, hkk, htt]
    exact hc
  | succ m ih =>
    intro n hm hn hall
    have hl : LayM (hd G (b + n) (nv B b n)) := hd_l hl0 _ _
    have e37 : hI (hd G (b + n) (nv B b n)) 44 37 = nI (b + n) := hd_37 _ _ _
    have e38 : hI (hd G (b + n) (nv B b n)) 44 38 = nI L := (hd_o _ _ _ (by decide) (by decide)).trans h38
    have e41 : hI (hd G (b + n) (nv B b n)) 44 41 = nv B b n := hd_41 _ _ _
    have eB : ∀ i, hI (hd G (b + n) (nv B b n)) 45 i &&& 255 = B i := fun i => (hd_B _ _ _ i).trans (hB i)
    by_cases c : sDi B L (b + n)
    · have hgo := ih (n + 1) (by omega) (by omega) (fun k k1 k2 => by
        by_cases e : k = b + n
        · rw [e]; exact c
        · exact hall k k1 (by omega))
      have hs := hd_s G (b + n) (b + (n + 1)) (nv B b n) (nv B b (n + 1))
      rw [← hs] at hgo
      have h212 : ∀ v, v = nv B b (n + 1) → wp 1 MX12_next Q 212 [some (.ref 44), none, some (.int (nI n))] [.int v, .ref 44] (hd G (b + n) (nv B b n)) := by
        intro v hv
        rw [← hv] at hgo
        refine s_X12_next_212 Q _ _ _ ?_
        generalize hd G (b + n) (nv B b n) = H at hl e37 hgo ⊢
        have hkk := (lm_k hl).1
        have htt := (lm_t hl).1
        simp only [b_X12_next_212, i_push, i_ild, i_ald, i_ist, i_ast, i_inc, i_bin, i_un, i_divs, i_i2l, i_lshl, i_lor, i_dup, i_dup2, i_pop, i_if, i_cmp, i_nul, i_vret, i_iret, i_zret, i_aret, i_keep, keep, lget, lset, ent, i_getI, i_getJ, i_getR, i_getN, i_putI, i_putZ, i_putJ, i_putR, i_iald, i_bald, i_alen, i_aald, i_iast, i_bast, i_aast, i_new, i_newa, i_anew, i_oini, i_callS, i_callV, i_callI, popn, sh4, i_sw, swP, i_copy, i_binS, List.map, Option.toList_none, Option.toList_some, List.append, List.nil_append, List.cons_append, List.length_cons, List.length_nil, List.replicate, Nat.sub_self, Nat.reduceSub, Nat.reduceAdd, hK_pI, hL_pI, hI_pI, hR_pI, hJ_pI, hT_pI, hS_pI, hK_pR, hL_pR, hI_pR, hR_pR, hJ_pR, hT_pR, hS_pR, hK_pJ, hL_pJ, hI_pJ, hR_pJ, hJ_pJ, hT_pJ, hS_pJ, hK_wI, hL_wI, hI_wI, hR_wI, hJ_wI, hT_wI, hS_wI, eq_self, and_true, true_and, and_false, false_and, or_true, true_or, or_false, false_or, if_true, if_false, not_true_eq_false, not_false_eq_true, forall_const, implies_true, false_implies, true_implies, Option.some.injEq, forall_eq', exists_eq_left', reduceCtorEq, Nat.reduceEqDiff, c1, T_X12_in, T_X12_ones, T_X11_within, T_X11_bit, T_X11_isIn, T_X11_oneIfIn, T_J6_bitCount_0f7a4, hkk, htt, e37, nI_1, Nat.add_assoc]
        exact hgo
      have e1 : sB B L (b + n) = B (b + n) := if_pos c.1
      have hc : T_X12_see [.ref 44] (hd G (b + n) (nv B b n)) (fun r h' => c_X12_next_174 Q [some (.ref 44), none, some (.int (nI n))] (r.toList ++ []) h') := by
        refine see_ok hl (by omega) hL e37 e38 eB ?_
        have hc2 : n < 4 → T_X12_see [.ref 44] (hd G (b + n) (nv B b n)) (fun r h' => c_X12_next_201 Q [some (.ref 44), none, some (.int (nI n))] (r.toList ++ [.int (10 * nv B b n), .ref 44]) h') := by
          intro h4
          refine see_ok hl (by omega) hL e37 e38 eB ?_
          show c_X12_next_201 Q _ [.int (sB B L (b + n)), .int (10 * nv B b n), .ref 44] _
          rw [e1]
          have h212' := h212 (10 * nv B b n + B (b + n) - 48) (by rw [nv, if_pos h4])
          generalize hd G (b + n) (nv B b n) = H at hl h212' ⊢
          generalize 10 * nv B b n = Y at h212' ⊢
          simp only [c_X12_next_201, i_push, i_ild, i_ald, i_ist, i_ast, i_inc, i_bin, i_un, i_divs, i_i2l, i_lshl, i_lor, i_dup, i_dup2, i_pop, i_if, i_cmp, i_nul, i_vret, i_iret, i_zret, i_aret, i_keep, keep, lget, lset, ent, i_getI, i_getJ, i_getR, i_getN, i_putI, i_putZ, i_putJ, i_putR, i_iald, i_bald, i_alen, i_aald, i_iast, i_bast, i_aast, i_new, i_newa, i_anew, i_oini, i_callS, i_callV, i_callI, popn, sh4, i_sw, swP, i_copy, i_binS, List.map, Option.toList_none, Option.toList_some, List.append, List.nil_append, List.cons_append, List.length_cons, List.length_nil, List.replicate, Nat.sub_self, Nat.reduceSub, Nat.reduceAdd, hK_pI, hL_pI, hI_pI, hR_pI, hJ_pI, hT_pI, hS_pI, hK_pR, hL_pR, hI_pR, hR_pR, hJ_pR, hT_pR, hS_pR, hK_pJ, hL_pJ, hI_pJ, hR_pJ, hJ_pJ, hT_pJ, hS_pJ, hK_wI, hL_wI, hI_wI, hR_wI, hJ_wI, hT_wI, hS_wI, eq_self, and_true, true_and, and_false, false_and, or_true, true_or, or_false, false_or, if_true, if_false, not_true_eq_false, not_false_eq_true, forall_const, implies_true, false_implies, true_implies, Option.some.injEq, forall_eq', exists_eq_left', reduceCtorEq, Nat.reduceEqDiff, c1, T_X12_in, T_X12_ones, T_X11_within, T_X11_bit, T_X11_isIn, T_X11_oneIfIn, T_J6_bitCount_0f7a4]
          exact h212'
        show c_X12_next_174 Q _ [.int (sB B L (b + n))] _
        have hx := sB_di.mpr c
        have h212'' : 4 ≤ n → _ := fun h4 => h212 (nv B b n) (by rw [nv, if_neg (by omega)])
        generalize sB B L (b + n) = X at hx ⊢
        generalize hd G (b + n) (nv B b n) = H at hl e41 hc2 h212'' ⊢
        have hkk := (lm_k hl).1
        have htt := (lm_t hl).1
        simp only [c_X12_next_174, i_push, i_ild, i_ald, i_ist, i_ast, i_inc, i_bin, i_un, i_divs, i_i2l, i_lshl, i_lor, i_dup, i_dup2, i_pop, i_if, i_cmp, i_nul, i_vret, i_iret, i_zret, i_aret, i_keep, keep, lget, lset, ent, i_getI, i_getJ, i_getR, i_getN, i_putI, i_putZ, i_putJ, i_putR, i_iald, i_bald, i_alen, i_aald, i_iast, i_bast, i_aast, i_new, i_newa, i_anew, i_oini, i_callS, i_callV, i_callI, popn, sh4, i_sw, swP, i_copy, i_binS, List.map, Option.toList_none, Option.toList_some, List.append, List.nil_append, List.cons_append, List.length_cons, List.length_nil, List.replicate, Nat.sub_self, Nat.reduceSub, Nat.reduceAdd, hK_pI, hL_pI, hI_pI, hR_pI, hJ_pI, hT_pI, hS_pI, hK_pR, hL_pR, hI_pR, hR_pR, hJ_pR, hT_pR, hS_pR, hK_pJ, hL_pJ, hI_pJ, hR_pJ, hJ_pJ, hT_pJ, hS_pJ, hK_wI, hL_wI, hI_wI, hR_wI, hJ_wI, hT_wI, hS_wI, eq_self, and_true, true_and, and_false, false_and, or_true, true_or, or_false, false_or, if_true, if_false, not_true_eq_false, not_false_eq_true, forall_const, implies_true, false_implies, true_implies, Option.some.injEq, forall_eq', exists_eq_left', reduceCtorEq, Nat.reduceEqDiff, c1, T_X12_in, T_X12_ones, T_X11_within, T_X11_bit, T_X11_isIn, T_X11_oneIfIn, T_J6_bitCount_0f7a4, hkk, htt, b2i_0, e41, k4', nI_leI (show n < 2 ^ 31 by omega) (show 4 < 2 ^ 31 by decide), nI_leI (show 4 < 2 ^ 31 by decide) (show n < 2 ^ 31 by omega)]
        exact ⟨fun z => absurd hx z, fun _ => ⟨fun z => h212'' z, fun z => hc2 (by omega)⟩⟩
      refine s_X12_next_170 Q _ _ _ ?_
      generalize hd G (b + n) (nv B b n) = H at hl hc ⊢
      have hkk := (lm_k hl).1
      have htt := (lm_t hl).1
      simp only [b_X12_next_170, i_push, i_ild, i_ald, i_ist, i_ast, i_inc, i_bin, i_un, i_divs, i_i2l, i_lshl, i_lor, i_dup, i_dup2, i_pop, i_if, i_cmp, i_nul, i_vret, i_iret, i_zret, i_aret, i_keep, keep, lget, lset, ent, i_getI, i_getJ, i_getR, i_getN, i_putI, i_putZ, i_putJ, i_putR, i_iald, i_bald, i_alen, i_aald, i_iast, i_bast, i_aast, i_new, i_newa, i_anew, i_oini, i_callS, i_callV, i_callI, popn, sh4, i_sw, swP, i_copy, i_binS, List.map, Option.toList_none, Option.toList_some, List.append, List.nil_append, List.cons_append, List.length_cons, List.length_nil, List.replicate, Nat.sub_self, Nat.reduceSub, Nat.reduceAdd, hK_pI, hL_pI, hI_pI, hR_pI, hJ_pI, hT_pI, hS_pI, hK_pR, hL_pR, hI_pR, hR_pR, hJ_pR, hT_pR, hS_pR, hK_pJ, hL_pJ, hI_pJ, hR_pJ, hJ_pJ, hT_pJ, hS_pJ, hK_wI, hL_wI, hI_wI, hR_wI, hJ_wI, hT_wI, hS_wI, eq_self, and_true, true_and, and_false, false_and, or_true, true_or, or_false, false_or, if_true, if_false, not_true_eq_false, not_false_eq_true, forall_const, implies_true, false_implies, true_implies, Option.some.injEq, forall_eq', exists_eq_left', reduceCtorEq, Nat.reduceEqDiff, c1, T_X12_in, T_X12_ones, T_X11_within, T_X11_bit, T_X11_isIn, T_X11_oneIfIn, T_J6_bitCount_0f7a4, hkk, htt]
      exact hc
    · have hend : eD B L b = b + n := nxN_at (by omega) hall c
      have h242 : ∀ v, (v = if 4 < n then 1 else 3) → wp 1 MX12_next Q 242 [none, none, none] [.int v, .ref 44] (hd G (b + n) (nv B b n)) := by
        intro v hv
        rw [hend, show b + n - b = n by omega, ← hv] at hq
        refine s_X12_next_242 Q _ _ _ ?_
        generalize hd G (b + n) (nv B b n) = H at hl hq ⊢
        have hkk := (lm_k hl).1
        have htt := (lm_t hl).1
        simp only [b_X12_next_242, i_push, i_ild, i_ald, i_ist, i_ast, i_inc, i_bin, i_un, i_divs, i_i2l, i_lshl, i_lor, i_dup, i_dup2, i_pop, i_if, i_cmp, i_nul, i_vret, i_iret, i_zret, i_aret, i_keep, keep, lget, lset, ent, i_getI, i_getJ, i_getR, i_getN, i_putI, i_putZ, i_putJ, i_putR, i_iald, i_bald, i_alen, i_aald, i_iast, i_bast, i_aast, i_new, i_newa, i_anew, i_oini, i_callS, i_callV, i_callI, popn, sh4, i_sw, swP, i_copy, i_binS, List.map, Option.toList_none, Option.toList_some, List.append, List.nil_append, List.cons_append, List.length_cons, List.length_nil, List.replicate, Nat.sub_self, Nat.reduceSub, Nat.reduceAdd, hK_pI, hL_pI, hI_pI, hR_pI, hJ_pI, hT_pI, hS_pI, hK_pR, hL_pR, hI_pR, hR_pR, hJ_pR, hT_pR, hS_pR, hK_pJ, hL_pJ, hI_pJ, hR_pJ, hJ_pJ, hT_pJ, hS_pJ, hK_wI, hL_wI, hI_wI, hR_wI, hJ_wI, hT_wI, hS_wI, eq_self, and_true, true_and, and_false, false_and, or_true, true_or, or_false, false_or, if_true, if_false, not_true_eq_false, not_false_eq_true, forall_const, implies_true, false_implies, true_implies, Option.some.injEq, forall_eq', exists_eq_left', reduceCtorEq, Nat.reduceEqDiff, c1, T_X12_in, T_X12_ones, T_X11_within, T_X11_bit, T_X11_isIn, T_X11_oneIfIn, T_J6_bitCount_0f7a4, hkk, htt]
        exact hq
      have hc : T_X12_see [.ref 44] (hd G (b + n) (nv B b n)) (fun r h' => c_X12_next_174 Q [some (.ref 44), none, some (.int (nI n))] (r.toList ++ []) h') := by
        refine see_ok hl (by omega) hL e37 e38 eB ?_
        show c_X12_next_174 Q _ [.int (sB B L (b + n))] _
        have hx : ¬ (48 ≤ sB B L (b + n) ∧ sB B L (b + n) ≤ 57) := fun z => c (sB_di.mp z)
        generalize sB B L (b + n) = X at hx ⊢
        generalize hd G (b + n) (nv B b n) = H at hl h242 ⊢
        have hkk := (lm_k hl).1
        have htt := (lm_t hl).1
        simp only [c_X12_next_174, i_push, i_ild, i_ald, i_ist, i_ast, i_inc, i_bin, i_un, i_divs, i_i2l, i_lshl, i_lor, i_dup, i_dup2, i_pop, i_if, i_cmp, i_nul, i_vret, i_iret, i_zret, i_aret, i_keep, keep, lget, lset, ent, i_getI, i_getJ, i_getR, i_getN, i_putI, i_putZ, i_putJ, i_putR, i_iald, i_bald, i_alen, i_aald, i_iast, i_bast, i_aast, i_new, i_newa, i_anew, i_oini, i_callS, i_callV, i_callI, popn, sh4, i_sw, swP, i_copy, i_binS, List.map, Option.toList_none, Option.toList_some, List.append, List.nil_append, List.cons_append, List.length_cons, List.length_nil, List.replicate, Nat.sub_self, Nat.reduceSub, Nat.reduceAdd, hK_pI, hL_pI, hI_pI, hR_pI, hJ_pI, hT_pI, hS_pI, hK_pR, hL_pR, hI_pR, hR_pR, hJ_pR, hT_pR, hS_pR, hK_pJ, hL_pJ, hI_pJ, hR_pJ, hJ_pJ, hT_pJ, hS_pJ, hK_wI, hL_wI, hI_wI, hR_wI, hJ_wI, hT_wI, hS_wI, eq_self, and_true, true_and, and_false, false_and, or_true, true_or, or_false, false_or, if_true, if_false, not_true_eq_false, not_false_eq_true, forall_const, implies_true, false_implies, true_implies, Option.some.injEq, forall_eq', exists_eq_left', reduceCtorEq, Nat.reduceEqDiff, c1, T_X12_in, T_X12_ones, T_X11_within, T_X11_bit, T_X11_isIn, T_X11_oneIfIn, T_J6_bitCount_0f7a4, hkk, htt, b2i_0, k4', nI_leI (show n < 2 ^ 31 by omega) (show 4 < 2 ^ 31 by decide)]
        refine ⟨fun _ => ⟨fun z => h242 _ ?_, fun z => h242 _ ?_⟩, fun z => absurd hx z⟩
        · rw [if_neg (by omega)]
        · rw [if_pos (by omega)]
      refine s_X12_next_170 Q _ _ _ ?_
      generalize hd G (b + n) (nv B b n) = H at hl hc ⊢
      have hkk := (lm_k hl).1
      have htt := (lm_t hl).1
      simp only [b_X12_next_170, i_push, i_ild, i_ald, i_ist, i_ast, i_inc, i_bin, i_un, i_divs, i_i2l, i_lshl, i_lor, i_dup, i_dup2, i_pop, i_if, i_cmp, i_nul, i_vret, i_iret, i_zret, i_aret, i_keep, keep, lget, lset, ent, i_getI, i_getJ, i_getR, i_getN, i_putI, i_putZ, i_putJ, i_putR, i_iald, i_bald, i_alen, i_aald, i_iast, i_bast, i_aast, i_new, i_newa, i_anew, i_oini, i_callS, i_callV, i_callI, popn, sh4, i_sw, swP, i_copy, i_binS, List.map, Option.toList_none, Option.toList_some, List.append, List.nil_append, List.cons_append, List.length_cons, List.length_nil, List.replicate, Nat.sub_self, Nat.reduceSub, Nat.reduceAdd, hK_pI, hL_pI, hI_pI, hR_pI, hJ_pI, hT_pI, hS_pI, hK_pR, hL_pR, hI_pR, hR_pR, hJ_pR, hT_pR, hS_pR, hK_pJ, hL_pJ, hI_pJ, hR_pJ, hJ_pJ, hT_pJ, hS_pJ, hK_wI, hL_wI, hI_wI, hR_wI, hJ_wI, hT_wI, hS_wI, eq_self, and_true, true_and, and_false, false_and, or_true, true_or, or_false, false_or, if_true, if_false, not_true_eq_false, not_false_eq_true, forall_const, implies_true, false_implies, true_implies, Option.some.injEq, forall_eq', exists_eq_left', reduceCtorEq, Nat.reduceEqDiff, c1, T_X12_in, T_X12_ones, T_X11_within, T_X11_bit, T_X11_isIn, T_X11_oneIfIn, T_J6_bitCount_0f7a4, hkk, htt]
      exact hc
