/-! ===== the class: partyWith, hasSettled, settles ===== -/
def T_X4_partyWith : Tr := fun av h Q => match av with
  | [.ref o, .int p] => o = 33 ∧ LayX h ∧ ∃ n k, n ≤ 10 ∧ hI h 33 2 = nI n ∧ p = nI k ∧ k < 32 ∧ (∀ i, i < n → bt (hI h 34 i) k = true → (∀ j, j < i → bt (hI h 34 j) k = false) → Q (some (.int (nI i))) h) ∧ ((∀ i, i < n → bt (hI h 34 i) k = false) → Q (some (.int (-1))) h)
  | _ => False
def L_X4_partyWith : List UInt8 := [3, 61, 28, 42, 180, 0, 51, 162, 0, 24, 42, 180, 0, 9, 28, 46, 27, 184, 0, 90, 153, 0, 5, 28, 172, 132, 2, 1, 167, 255, 230, 2, 172]
theorem Lc_X4_partyWith : MX4_partyWith.2.1 = ⟨L_X4_partyWith.toArray⟩ := rfl
theorem D_X4_partyWith_0 : dseq MX4_partyWith.2.1 0 [(.iconst 0, 1), (.istore_n 2, 1)] := dq Lc_X4_partyWith 0 _ (by decide +kernel)
theorem D_X4_partyWith_2 : dseq MX4_partyWith.2.1 2 [(.iload_n 2, 1), (.aload_n 0, 1), (.getfield 51, 3), (.if_icmp .ge 24, 3), (.aload_n 0, 1), (.getfield 9, 3), (.iload_n 2, 1), (.iaload, 1), (.iload_n 1, 1), (.invokestatic 90, 3), (.ifCond .eq 5, 3), (.iload_n 2, 1), (.ireturn, 1)] := dq Lc_X4_partyWith 2 _ (by decide +kernel)
theorem D_X4_partyWith_31 : dseq MX4_partyWith.2.1 31 [(.iconst (-1), 1), (.ireturn, 1)] := dq Lc_X4_partyWith 31 _ (by decide +kernel)
theorem D_X4_partyWith_25 : dseq MX4_partyWith.2.1 25 [(.iinc 2 1, 3), (.goto (-26), 3)] := dq Lc_X4_partyWith 25 _ (by decide +kernel)
def b_X4_partyWith_0 (Q : Option Value → Hp → Prop) : Kt := i_push (.int 0) (i_ist 2 (i_keep [true, true, true] (wp 1 MX4_partyWith Q 2)))
set_option maxRecDepth 100000 in
theorem s_X4_partyWith_0 (Q : Option Value → Hp → Prop) : ∀ A st h, b_X4_partyWith_0 Q A st h → wp 1 MX4_partyWith Q 0 A st h := (q1 (s_iconst (n := 0) (v := 0) (by decide)) D_X4_partyWith_0 fun D => (qL (s_istn (n := 2) (i := 2) rfl) (by decide) D fun D => (s_keep [true, true, true] fun _ _ _ h => h)))
def b_X4_partyWith_2 (Q : Option Value → Hp → Prop) : Kt := i_ild 2 (i_ald 0 (i_getI 4 2 (i_cmp (fun x y => y ≤ x) (i_push (.int (-1)) (i_iret Q)) (i_ald 0 (i_getR 4 3 (i_ild 2 (i_iald (i_ild 1 (i_callS 2 T_X11_isIn (i_if (fun x => x = 0) (i_inc 2 1 (i_keep [true, true, true] (wp 1 MX4_partyWith Q 2))) (i_ild 2 (i_iret Q))))))))))))
set_option maxRecDepth 100000 in
theorem s_X4_partyWith_2 (Q : Option Value → Hp → Prop) : ∀ A st h, b_X4_partyWith_2 Q A st h → wp 1 MX4_partyWith Q 2 A st h := (q1 (s_ildn (n := 2) (i := 2) rfl) D_X4_partyWith_2 fun D => (q1 (s_aldn (n := 0) (i := 0) rfl) D fun D => (qC fl_X4_51 rfl D fun D => (qB s_cmpge 31 (by decide) D (q1 (s_iconst (n := (-1)) (v := (-1)) (by decide)) D_X4_partyWith_31 fun D => (qI rfl D)) fun D => (q1 (s_aldn (n := 0) (i := 0) rfl) D fun D => (qC fl_X4_9 rfl D fun D => (q1 (s_ildn (n := 2) (i := 2) rfl) D fun D => (q1 s_iald D fun D => (q1 (s_ildn (n := 1) (i := 1) rfl) D fun D => (qX (s_callSN ok_X11_isIn mo_X11_isIn (ch_4_3_ok.2.2.1.2 rfl) (ch_3_7_ok.2.2.2.2.1.1 rfl)) rfl (by decide) D fun D => (qB s_ifeq 25 (by decide) D (qL (s_inc (i := 2) (n := 1) (v := 1) (by decide)) (by decide) D_X4_partyWith_25 fun D => (qG 2 (by decide) D (s_keep [true, true, true] fun _ _ _ h => h))) fun D => (q1 (s_ildn (n := 2) (i := 2) rfl) D fun D => (qI rfl D)))))))))))))

set_option maxRecDepth 100000 in
set_option maxHeartbeats 400000 in
theorem pw_2 (Q : Option Value → Hp → Prop) (h : Hp) (hl : LayX h) (n p : Nat) (hn : n ≤ 10) (h32 : hI h 33 2 = nI n) (hp : p < 32) (hq1 : ∀ i, i < n → bt (hI h 34 i) p = true → (∀ j, j < i → bt (hI h 34 j) p = false) → Q (some (.int (nI i))) h) (hq0 : (∀ i, i < n → bt (hI h 34 i) p = false) → Q (some (.int (-1))) h) :
    ∀ (m k : Nat), m = n - k → k ≤ n → (∀ j, j < k → bt (hI h 34 j) p = false) → wp 1 MX4_partyWith Q 2 [some (.ref 33), some (.int (nI p)), some (.int (nI k))] [] h := by
  intro m
  induction m with
  | zero =>
    intro k hm hk hb
    have e : k = n := by omega
    subst e
    refine s_X4_partyWith_2 Q _ _ _ ?_
    simp only [b_X4_partyWith_2, lx_pI, lx_wI, lx_t hl, lx_k hl, lx_r hl, lx_l hl, i_push, i_ild, i_ald, i_ist, i_ast, i_inc, i_bin, i_un, i_divs, i_i2l, i_lshl, i_lor, i_dup, i_dup2, i_pop, i_if, i_cmp, i_nul, i_vret, i_iret, i_zret, i_aret, i_keep, keep, lget, lset, ent, i_getI, i_getJ, i_getR, i_getN, i_putI, i_putZ, i_putJ, i_putR, i_iald, i_bald, i_alen, i_aald, i_iast, i_bast, i_aast, i_new, i_newa, i_anew, i_oini, i_callS, i_callV, i_callI, popn, sh4, i_sw, swP, i_copy, i_binS, List.map, Option.toList_none, Option.toList_some, List.append, List.nil_append, List.cons_append, List.length_cons, List.length_nil, List.replicate, Nat.sub_self, Nat.reduceSub, Nat.reduceAdd, hK_pI, hL_pI, hI_pI, hR_pI, hJ_pI, hT_pI, hS_pI, hK_pR, hL_pR, hI_pR, hR_pR, hJ_pR, hT_pR, hS_pR, hK_pJ, hL_pJ, hI_pJ, hR_pJ, hJ_pJ, hT_pJ, hS_pJ, hK_wI, hL_wI, hI_wI, hR_wI, hJ_wI, hT_wI, hS_wI, eq_self, and_true, true_and, and_false, false_and, or_true, true_or, or_false, false_or, if_true, if_false, not_true_eq_false, not_false_eq_true, forall_const, implies_true, false_implies, true_implies, Option.some.injEq, forall_eq', exists_eq_left', reduceCtorEq, Nat.reduceEqDiff, c1, T_X12_in, T_X12_ones, T_X11_within, T_X11_bit, T_X11_isIn, T_X11_oneIfIn, T_J6_bitCount_0f7a4, h32]
    exact ⟨fun _ => hq0 hb, fun z => absurd (nI_le (Nat.le_refl _) (by omega)) z⟩
  | succ m ih =>
    intro k hm hk hb
    refine s_X4_partyWith_2 Q _ _ _ ?_
    simp only [b_X4_partyWith_2, lx_pI, lx_wI, lx_t hl, lx_k hl, lx_r hl, lx_l hl, i_push, i_ild, i_ald, i_ist, i_ast, i_inc, i_bin, i_un, i_divs, i_i2l, i_lshl, i_lor, i_dup, i_dup2, i_pop, i_if, i_cmp, i_nul, i_vret, i_iret, i_zret, i_aret, i_keep, keep, lget, lset, ent, i_getI, i_getJ, i_getR, i_getN, i_putI, i_putZ, i_putJ, i_putR, i_iald, i_bald, i_alen, i_aald, i_iast, i_bast, i_aast, i_new, i_newa, i_anew, i_oini, i_callS, i_callV, i_callI, popn, sh4, i_sw, swP, i_copy, i_binS, List.map, Option.toList_none, Option.toList_some, List.append, List.nil_append, List.cons_append, List.length_cons, List.length_nil, List.replicate, Nat.sub_self, Nat.reduceSub, Nat.reduceAdd, hK_pI, hL_pI, hI_pI, hR_pI, hJ_pI, hT_pI, hS_pI, hK_pR, hL_pR, hI_pR, hR_pR, hJ_pR, hT_pR, hS_pR, hK_pJ, hL_pJ, hI_pJ, hR_pJ, hJ_pJ, hT_pJ, hS_pJ, hK_wI, hL_wI, hI_wI, hR_wI, hJ_wI, hT_wI, hS_wI, eq_self, and_true, true_and, and_false, false_and, or_true, true_or, or_false, false_or, if_true, if_false, not_true_eq_false, not_false_eq_true, forall_const, implies_true, false_implies, true_implies, Option.some.injEq, forall_eq', exists_eq_left', reduceCtorEq, Nat.reduceEqDiff, c1, T_X12_in, T_X12_ones, T_X11_within, T_X11_bit, T_X11_isIn, T_X11_oneIfIn, T_J6_bitCount_0f7a4, h32, cl_nI (show k < 2147483648 by omega), in_nI (show k < 10 by omega) (by decide), sh_bt (hI h 34 k) hp, b2i_0, Classical.not_not, nI_1]
    refine ⟨fun z => absurd z (nI_ge (by omega) (by omega)), fun _ => ⟨fun c => ih (k + 1) (by omega) (by omega) (fun j hj => ?_), fun c => hq1 k (by omega) (by simpa using c) hb⟩⟩
    by_cases e : j = k
    · rw [e]; exact c
    · exact hb j (by omega)
set_option maxRecDepth 100000 in
set_option maxHeartbeats 4000000 in
theorem ok_X4_partyWith : ctr 1 MX4_partyWith T_X4_partyWith := by
  refine ctr_of pn_X4 wc_X4_partyWith (fun av h Q hT => ?_)
  unfold T_X4_partyWith at hT
  split at hT
  · rename_i o p
    refine ⟨⟨by simp [Value.category], Nat.le_of_ble_eq_true rfl⟩, s_X4_partyWith_0 Q _ _ _ ?_⟩
    obtain ⟨rfl, hl, n, k, hn, h32, rfl, hk, hq1, hq0⟩ := hT
    simp only [MX4_partyWith, b_X4_partyWith_0, i_push, i_ild, i_ald, i_ist, i_ast, i_inc, i_bin, i_un, i_divs, i_i2l, i_lshl, i_lor, i_dup, i_dup2, i_pop, i_if, i_cmp, i_nul, i_vret, i_iret, i_zret, i_aret, i_keep, keep, lget, lset, ent, i_getI, i_getJ, i_getR, i_getN, i_putI, i_putZ, i_putJ, i_putR, i_iald, i_bald, i_alen, i_aald, i_iast, i_bast, i_aast, i_new, i_newa, i_anew, i_oini, i_callS, i_callV, i_callI, popn, sh4, i_sw, swP, i_copy, i_binS, List.map, Option.toList_none, Option.toList_some, List.append, List.nil_append, List.cons_append, List.length_cons, List.length_nil, List.replicate, Nat.sub_self, Nat.reduceSub, Nat.reduceAdd, hK_pI, hL_pI, hI_pI, hR_pI, hJ_pI, hT_pI, hS_pI, hK_pR, hL_pR, hI_pR, hR_pR, hJ_pR, hT_pR, hS_pR, hK_pJ, hL_pJ, hI_pJ, hR_pJ, hJ_pJ, hT_pJ, hS_pJ, hK_wI, hL_wI, hI_wI, hR_wI, hJ_wI, hT_wI, hS_wI, eq_self, and_true, true_and, and_false, false_and, or_true, true_or, or_false, false_or, if_true, if_false, not_true_eq_false, not_false_eq_true, forall_const, implies_true, false_implies, true_implies, Option.some.injEq, forall_eq', exists_eq_left', reduceCtorEq, Nat.reduceEqDiff, c1, T_X12_in, T_X12_ones, T_X11_within, T_X11_bit, T_X11_isIn, T_X11_oneIfIn, T_J6_bitCount_0f7a4]
    exact pw_2 Q h hl n k hn h32 hk hq1 hq0 n 0 (by omega) (by omega) (fun j hj => absurd hj (Nat.not_lt_zero _))
  · exact hT.elim
def T_X4_hasSettled : Tr := fun av h Q => match av with
  | [.ref o, .int p] => o = 33 ∧ LayX h ∧ ∃ n k i, n ≤ 10 ∧ hI h 33 2 = nI n ∧ p = nI k ∧ k < 32 ∧ i < n ∧ bt (hI h 34 i) k = true ∧ (∀ j, j < n → bt (hI h 34 j) k = true → j = i) ∧ (¬ hI h 40 i = 0 → Q (some (.int 1)) h) ∧ (hI h 40 i = 0 → Q (some (.int 0)) h)
  | _ => False
def L_X4_hasSettled : List UInt8 := [42, 27, 182, 0, 131, 61, 28, 2, 159, 0, 16, 42, 180, 0, 30, 28, 51, 153, 0, 7, 4, 167, 0, 4, 3, 172]
theorem Lc_X4_hasSettled : MX4_hasSettled.2.1 = ⟨L_X4_hasSettled.toArray⟩ := rfl
theorem D_X4_hasSettled_0 : dseq MX4_hasSettled.2.1 0 [(.aload_n 0, 1), (.iload_n 1, 1), (.invokevirtual 131, 3), (.istore_n 2, 1), (.iload_n 2, 1), (.iconst (-1), 1), (.if_icmp .eq 16, 3), (.aload_n 0, 1), (.getfield 30, 3), (.iload_n 2, 1), (.baload, 1), (.ifCond .eq 7, 3), (.iconst 1, 1), (.goto 4, 3)] := dq Lc_X4_hasSettled 0 _ (by decide +kernel)
theorem D_X4_hasSettled_24 : dseq MX4_hasSettled.2.1 24 [(.iconst 0, 1), (.ireturn, 1)] := dq Lc_X4_hasSettled 24 _ (by decide +kernel)
theorem D_X4_hasSettled_25 : dseq MX4_hasSettled.2.1 25 [(.ireturn, 1)] := dq Lc_X4_hasSettled 25 _ (by decide +kernel)
def c_X4_hasSettled_5 (Q : Option Value → Hp → Prop) : Kt := i_ist 2 (i_ild 2 (i_push (.int (-1)) (i_cmp (fun x y => x = y) (i_push (.int 0) (i_zret Q)) (i_ald 0 (i_getR 4 9 (i_ild 2 (i_bald (i_if (fun x => x = 0) (i_push (.int 0) (i_zret Q)) (i_push (.int 1) (i_zret Q))))))))))
def b_X4_hasSettled_0 (Q : Option Value → Hp → Prop) : Kt := i_ald 0 (i_ild 1 (i_callV 4 1 T_X4_partyWith (c_X4_hasSettled_5 Q)))
set_option maxRecDepth 100000 in
theorem s_X4_hasSettled_0 (Q : Option Value → Hp → Prop) : ∀ A st h, b_X4_hasSettled_0 Q A st h → wp 2 MX4_hasSettled Q 0 A st h := (q1 (s_aldn (n := 0) (i := 0) rfl) D_X4_hasSettled_0 fun D => (q1 (s_ildn (n := 1) (i := 1) rfl) D fun D => (qX (s_callV kX4 rfl ok_X4_partyWith mo_X4_partyWith (ch_4_8_ok.2.2.2.2.2.1.1 rfl) (ch_4_8_ok.2.2.2.2.2.2.2.1.1 rfl) (pv_2.2.2.2.1)) rfl (by decide) D fun D => (qL (s_istn (n := 2) (i := 2) rfl) (by decide) D fun D => (q1 (s_ildn (n := 2) (i := 2) rfl) D fun D => (q1 (s_iconst (n := (-1)) (v := (-1)) (by decide)) D fun D => (qB s_cmpeq 24 (by decide) D (q1 (s_iconst (n := 0) (v := 0) (by decide)) D_X4_hasSettled_24 fun D => (qZ rfl D)) fun D => (q1 (s_aldn (n := 0) (i := 0) rfl) D fun D => (qC fl_X4_30 rfl D fun D => (q1 (s_ildn (n := 2) (i := 2) rfl) D fun D => (q1 s_bald D fun D => (qB s_ifeq 24 (by decide) D (q1 (s_iconst (n := 0) (v := 0) (by decide)) D_X4_hasSettled_24 fun D => (qZ rfl D)) fun D => (q1 (s_iconst (n := 1) (v := 1) (by decide)) D fun D => (qG 25 (by decide) D (qZ rfl D_X4_hasSettled_25)))))))))))))))

set_option maxRecDepth 100000 in
set_option maxHeartbeats 4000000 in
theorem ok_X4_hasSettled : ctr 2 MX4_hasSettled T_X4_hasSettled := by
  refine ctr_of pn_X4 wc_X4_hasSettled (fun av h Q hT => ?_)
  unfold T_X4_hasSettled at hT
  split at hT
  · rename_i o p
    refine ⟨⟨by simp [Value.category], Nat.le_of_ble_eq_true rfl⟩, s_X4_hasSettled_0 Q _ _ _ ?_⟩
    obtain ⟨rfl, hl, n, k, i, hn, h32, rfl, hk, hi, hb, hu, hq1, hq0⟩ := hT
    have hc : T_X4_partyWith [.ref 33, .int (nI k)] h (fun x h' => c_X4_hasSettled_5 Q [some (.ref 33), some (.int (nI k)), none] (x.toList ++ []) h') := by
      refine ⟨rfl, hl, n, k, hn, h32, rfl, hk, fun j hj hbj _ => ?_, fun z => ?_⟩
      · have e := hu j hj hbj
        subst e
        show c_X4_hasSettled_5 Q _ [.int (nI j)] h
        simp only [c_X4_hasSettled_5, lx_pI, lx_wI, lx_t hl, lx_k hl, lx_r hl, lx_l hl, i_push, i_ild, i_ald, i_ist, i_ast, i_inc, i_bin, i_un, i_divs, i_i2l, i_lshl, i_lor, i_dup, i_dup2, i_pop, i_if, i_cmp, i_nul, i_vret, i_iret, i_zret, i_aret, i_keep, keep, lget, lset, ent, i_getI, i_getJ, i_getR, i_getN, i_putI, i_putZ, i_putJ, i_putR, i_iald, i_bald, i_alen, i_aald, i_iast, i_bast, i_aast, i_new, i_newa, i_anew, i_oini, i_callS, i_callV, i_callI, popn, sh4, i_sw, swP, i_copy, i_binS, List.map, Option.toList_none, Option.toList_some, List.append, List.nil_append, List.cons_append, List.length_cons, List.length_nil, List.replicate, Nat.sub_self, Nat.reduceSub, Nat.reduceAdd, hK_pI, hL_pI, hI_pI, hR_pI, hJ_pI, hT_pI, hS_pI, hK_pR, hL_pR, hI_pR, hR_pR, hJ_pR, hT_pR, hS_pR, hK_pJ, hL_pJ, hI_pJ, hR_pJ, hJ_pJ, hT_pJ, hS_pJ, hK_wI, hL_wI, hI_wI, hR_wI, hJ_wI, hT_wI, hS_wI, eq_self, and_true, true_and, and_false, false_and, or_true, true_or, or_false, false_or, if_true, if_false, not_true_eq_false, not_false_eq_true, forall_const, implies_true, false_implies, true_implies, Option.some.injEq, forall_eq', exists_eq_left', reduceCtorEq, Nat.reduceEqDiff, c1, T_X12_in, T_X12_ones, T_X11_within, T_X11_bit, T_X11_isIn, T_X11_oneIfIn, T_J6_bitCount_0f7a4, cl_nI (show j < 2147483648 by omega), in_nI (show j < 10 by omega) (by decide), show ¬ nI j = -1 from nI_m1 j (by omega)]
        exact ⟨hq0, hq1⟩
      · rw [z i hi] at hb; cases hb
    simp only [MX4_hasSettled, b_X4_hasSettled_0, lx_pI, lx_wI, lx_t hl, lx_k hl, lx_r hl, lx_l hl, i_push, i_ild, i_ald, i_ist, i_ast, i_inc, i_bin, i_un, i_divs, i_i2l, i_lshl, i_lor, i_dup, i_dup2, i_pop, i_if, i_cmp, i_nul, i_vret, i_iret, i_zret, i_aret, i_keep, keep, lget, lset, ent, i_getI, i_getJ, i_getR, i_getN, i_putI, i_putZ, i_putJ, i_putR, i_iald, i_bald, i_alen, i_aald, i_iast, i_bast, i_aast, i_new, i_newa, i_anew, i_oini, i_callS, i_callV, i_callI, popn, sh4, i_sw, swP, i_copy, i_binS, List.map, Option.toList_none, Option.toList_some, List.append, List.nil_append, List.cons_append, List.length_cons, List.length_nil, List.replicate, Nat.sub_self, Nat.reduceSub, Nat.reduceAdd, hK_pI, hL_pI, hI_pI, hR_pI, hJ_pI, hT_pI, hS_pI, hK_pR, hL_pR, hI_pR, hR_pR, hJ_pR, hT_pR, hS_pR, hK_pJ, hL_pJ, hI_pJ, hR_pJ, hJ_pJ, hT_pJ, hS_pJ, hK_wI, hL_wI, hI_wI, hR_wI, hJ_wI, hT_wI, hS_wI, eq_self, and_true, true_and, and_false, false_and, or_true, true_or, or_false, false_or, if_true, if_false, not_true_eq_false, not_false_eq_true, forall_const, implies_true, false_implies, true_implies, Option.some.injEq, forall_eq', exists_eq_left', reduceCtorEq, Nat.reduceEqDiff, c1, T_X12_in, T_X12_ones, T_X11_within, T_X11_bit, T_X11_isIn, T_X11_oneIfIn, T_J6_bitCount_0f7a4]
    exact hc
  · exact hT.elim
/-- all stand in rooms, or all who aren't settled stand in none -/
def fullO (f : Mem) (n : Nat) (wh : Nat → Option Nat) : Prop := (∀ i, i < n → wh i ≠ none) ∨ ∀ i, i < n → f 40 i = 0 → wh i = none
/-- w has the settled parties where they stand -/
def stW (f : Mem) (n : Nat) (wh : Nat → Option Nat) (w : Nat → Nat) : Prop := ∀ i, i < n → ¬ f 40 i = 0 → wh i = some (w i)
def T_X4_settles : Tr := fun av h Q => match av with
  | [.ref o, .int p, .int rm] => o = 33 ∧ LayX h ∧ hR h 33 0 = some 3 ∧ ∃ R n sz cp wh k i, PS (hI h) R n sz cp ∧ PD (hI h) R n sz cp wh ∧ fullO (hI h) n wh ∧ (∀ j, j < n → ¬ hI h 40 j = 0 → wh j ≠ none) ∧ p = nI k ∧ k < 32 ∧ i < n ∧ bt (hI h 34 i) k = true ∧ (∀ j, j < n → bt (hI h 34 j) k = true → j = i) ∧ hI h 40 i = 0 ∧ (rm = -1 ∨ ∃ r, r < 4 ∧ rm = nI r) ∧
      (∀ r, rm = nI r → ∀ f w, smP f (u2 (hI h) 40 i 1) → PD f R n sz cp (fun j => some (w j)) → VF (hI h) R n sz cp w → stW (hI h) n wh w → w i = r → Q (some (.int 1)) (wI h f)) ∧
      ((¬ ∃ r w, rm = nI r ∧ VF (hI h) R n sz cp w ∧ stW (hI h) n wh w ∧ w i = r) → ∀ f wh', smP f (hI h) → PD f R n sz cp wh' → fullO (hI h) n wh' → (∀ j, j < n → ¬ hI h 40 j = 0 → wh' j = wh j) → Q (some (.int 0)) (wI h f))
  | _ => False
def L_X4_settles : List UInt8 := [42, 27, 182, 0, 131, 62, 29, 2, 159, 0, 8, 28, 2, 160, 0, 5, 3, 172, 42, 180, 0, 27, 29, 46, 28, 160, 0, 12, 42, 180, 0, 30, 29, 4, 84, 4, 172, 42, 182, 0, 128, 42, 29, 182, 0, 134, 28, 184, 0, 90, 154, 0, 5, 3, 172, 42, 29, 28, 182, 0, 137, 42, 180, 0, 30, 29, 4, 84, 42, 3, 182, 0, 124, 153, 0, 5, 4, 172, 42, 180, 0, 30, 29, 3, 84, 42, 29, 182, 0, 141, 3, 172]
theorem Lc_X4_settles : MX4_settles.2.1 = ⟨L_X4_settles.toArray⟩ := rfl
theorem D_X4_settles_0 : dseq MX4_settles.2.1 0 [(.aload_n 0, 1), (.iload_n 1, 1), (.invokevirtual 131, 3), (.istore_n 3, 1), (.iload_n 3, 1), (.iconst (-1), 1), (.if_icmp .eq 8, 3), (.iload_n 2, 1), (.iconst (-1), 1), (.if_icmp .ne 5, 3), (.iconst 0, 1), (.ireturn, 1)] := dq Lc_X4_settles 0 _ (by decide +kernel)
theorem D_X4_settles_16 : dseq MX4_settles.2.1 16 [(.iconst 0, 1), (.ireturn, 1)] := dq Lc_X4_settles 16 _ (by decide +kernel)
theorem D_X4_settles_18 : dseq MX4_settles.2.1 18 [(.aload_n 0, 1), (.getfield 27, 3), (.iload_n 3, 1), (.iaload, 1), (.iload_n 2, 1), (.if_icmp .ne 12, 3), (.aload_n 0, 1), (.getfield 30, 3), (.iload_n 3, 1), (.iconst 1, 1), (.bastore, 1), (.iconst 1, 1), (.ireturn, 1)] := dq Lc_X4_settles 18 _ (by decide +kernel)
theorem D_X4_settles_37 : dseq MX4_settles.2.1 37 [(.aload_n 0, 1), (.invokevirtual 128, 3), (.aload_n 0, 1), (.iload_n 3, 1), (.invokevirtual 134, 3), (.iload_n 2, 1), (.invokestatic 90, 3), (.ifCond .ne 5, 3), (.iconst 0, 1), (.ireturn, 1)] := dq Lc_X4_settles 37 _ (by decide +kernel)
theorem D_X4_settles_55 : dseq MX4_settles.2.1 55 [(.aload_n 0, 1), (.iload_n 3, 1), (.iload_n 2, 1), (.invokevirtual 137, 3), (.aload_n 0, 1), (.getfield 30, 3), (.iload_n 3, 1), (.iconst 1, 1), (.bastore, 1), (.aload_n 0, 1), (.iconst 0, 1), (.invokevirtual 124, 3), (.ifCond .eq 5, 3), (.iconst 1, 1), (.ireturn, 1)] := dq Lc_X4_settles 55 _ (by decide +kernel)
theorem D_X4_settles_78 : dseq MX4_settles.2.1 78 [(.aload_n 0, 1), (.getfield 30, 3), (.iload_n 3, 1), (.iconst 0, 1), (.bastore, 1), (.aload_n 0, 1), (.iload_n 3, 1), (.invokevirtual 141, 3), (.iconst 0, 1), (.ireturn, 1)] := dq Lc_X4_settles 78 _ (by decide +kernel)
def c_X4_settles_90 (Q : Option Value → Hp → Prop) : Kt := i_push (.int 0) (i_zret Q)
def c_X4_settles_73 (Q : Option Value → Hp → Prop) : Kt := i_if (fun x => x = 0) (i_ald 0 (i_getR 4 9 (i_ild 3 (i_push (.int 0) (i_bast (i_ald 0 (i_ild 3 (i_callV 4 1 T_X4_takeOut (c_X4_settles_90 Q))))))))) (i_push (.int 1) (i_zret Q))
def c_X4_settles_61 (Q : Option Value → Hp → Prop) : Kt := i_ald 0 (i_getR 4 9 (i_ild 3 (i_push (.int 1) (i_bast (i_ald 0 (i_push (.int 0) (i_callV 4 1 T_X4_placeRest (c_X4_settles_73 Q))))))))
def c_X4_settles_46 (Q : Option Value → Hp → Prop) : Kt := i_ild 2 (i_callS 2 T_X11_isIn (i_if (fun x => x = 0) (i_push (.int 0) (i_zret Q)) (i_ald 0 (i_ild 3 (i_ild 2 (i_callV 4 2 T_X4_put (c_X4_settles_61 Q)))))))
def c_X4_settles_41 (Q : Option Value → Hp → Prop) : Kt := i_ald 0 (i_ild 3 (i_callV 4 1 T_X4_openRooms (c_X4_settles_46 Q)))
def c_X4_settles_5 (Q : Option Value → Hp → Prop) : Kt := i_ist 3 (i_ild 3 (i_push (.int (-1)) (i_cmp (fun x y => x = y) (i_push (.int 0) (i_zret Q)) (i_ild 2 (i_push (.int (-1)) (i_cmp (fun x y => x = y) (i_push (.int 0) (i_zret Q)) (i_ald 0 (i_getR 4 8 (i_ild 3 (i_iald (i_ild 2 (i_cmp (fun x y => x = y) (i_ald 0 (i_getR 4 9 (i_ild 3 (i_push (.int 1) (i_bast (i_push (.int 1) (i_zret Q))))))) (i_ald 0 (i_callV 4 0 T_X4_takeOutUnsettled (c_X4_settles_41 Q)))))))))))))))
def b_X4_settles_0 (Q : Option Value → Hp → Prop) : Kt := i_ald 0 (i_ild 1 (i_callV 4 1 T_X4_partyWith (c_X4_settles_5 Q)))
set_option maxRecDepth 100000 in
theorem s_X4_settles_0 (Q : Option Value → Hp → Prop) : ∀ A st h, b_X4_settles_0 Q A st h → wp 21 MX4_settles Q 0 A st h := (q1 (s_aldn (n := 0) (i := 0) rfl) D_X4_settles_0 fun D => (q1 (s_ildn (n := 1) (i := 1) rfl) D fun D => (qX (s_callV kX4 rfl ok_X4_partyWith mo_X4_partyWith (ch_4_8_ok.2.2.2.2.2.1.1 rfl) (ch_4_8_ok.2.2.2.2.2.2.2.1.1 rfl) (pv_2.2.2.2.1)) rfl (by decide) D fun D => (qL (s_istn (n := 3) (i := 3) rfl) (by decide) D fun D => (q1 (s_ildn (n := 3) (i := 3) rfl) D fun D => (q1 (s_iconst (n := (-1)) (v := (-1)) (by decide)) D fun D => (qB s_cmpeq 16 (by decide) D (q1 (s_iconst (n := 0) (v := 0) (by decide)) D_X4_settles_16 fun D => (qZ rfl D)) fun D => (q1 (s_ildn (n := 2) (i := 2) rfl) D fun D => (q1 (s_iconst (n := (-1)) (v := (-1)) (by decide)) D fun D => (qBn s_cmpne2 18 (by decide) D (q1 (s_aldn (n := 0) (i := 0) rfl) D_X4_settles_18 fun D => (qC fl_X4_27 rfl D fun D => (q1 (s_ildn (n := 3) (i := 3) rfl) D fun D => (q1 s_iald D fun D => (q1 (s_ildn (n := 2) (i := 2) rfl) D fun D => (qBn s_cmpne2 37 (by decide) D (q1 (s_aldn (n := 0) (i := 0) rfl) D_X4_settles_37 fun D => (qX (s_callV kX4 rfl ok_X4_takeOutUnsettled mo_X4_takeOutUnsettled (ch_4_7_ok.2.2.2.2.1.1 rfl) (ch_4_7_ok.2.2.2.2.2.2.1.1 rfl) (pv_2.2.2.1)) rfl (by decide) D fun D => (q1 (s_aldn (n := 0) (i := 0) rfl) D fun D => (q1 (s_ildn (n := 3) (i := 3) rfl) D fun D => (qX (s_callV kX4 rfl ok_X4_openRooms mo_X4_openRooms (ch_4_4_ok.2.2.2.2.2.2.2.2.2.2.2.2.2.2.1.1 rfl) (ch_4_5_ok.1.1 rfl) (pv_1.2.2.2.2.2.2.2.2.2.2.1)) rfl (by decide) D fun D => (q1 (s_ildn (n := 2) (i := 2) rfl) D fun D => (qX (s_callSN ok_X11_isIn mo_X11_isIn (ch_4_3_ok.2.2.1.2 rfl) (ch_3_7_ok.2.2.2.2.1.1 rfl)) rfl (by decide) D fun D => (qBn s_ifne2 55 (by decide) D (q1 (s_aldn (n := 0) (i := 0) rfl) D_X4_settles_55 fun D => (q1 (s_ildn (n := 3) (i := 3) rfl) D fun D => (q1 (s_ildn (n := 2) (i := 2) rfl) D fun D => (qX (s_callV kX4 rfl ok_X4_put mo_X4_put (ch_4_6_ok.2.2.2.2.2.2.2.2.2.2.2.2.1.1 rfl) (ch_4_6_ok.2.2.2.2.2.2.2.2.2.2.2.2.2.2.1.1 rfl) (pv_2.1)) rfl (by decide) D fun D => (q1 (s_aldn (n := 0) (i := 0) rfl) D fun D => (qC fl_X4_30 rfl D fun D => (q1 (s_ildn (n := 3) (i := 3) rfl) D fun D => (q1 (s_iconst (n := 1) (v := 1) (by decide)) D fun D => (q1 s_bast D fun D => (q1 (s_aldn (n := 0) (i := 0) rfl) D fun D => (q1 (s_iconst (n := 0) (v := 0) (by decide)) D fun D => (qX (s_callV kX4 rfl ok_X4_placeRest mo_X4_placeRest (ch_4_4_ok.2.2.2.2.2.2.1.1 rfl) (ch_4_4_ok.2.2.2.2.2.2.2.2.1.1 rfl) (pv_1.2.2.2.2.2.2.2.2.1)) rfl (by decide) D fun D => (qB s_ifeq 78 (by decide) D (q1 (s_aldn (n := 0) (i := 0) rfl) D_X4_settles_78 fun D => (qC fl_X4_30 rfl D fun D => (q1 (s_ildn (n := 3) (i := 3) rfl) D fun D => (q1 (s_iconst (n := 0) (v := 0) (by decide)) D fun D => (q1 s_bast D fun D => (q1 (s_aldn (n := 0) (i := 0) rfl) D fun D => (q1 (s_ildn (n := 3) (i := 3) rfl) D fun D => (qX (s_callV kX4 rfl ok_X4_takeOut mo_X4_takeOut (ch_4_7_ok.1.1 rfl) (ch_4_7_ok.2.2.1.1 rfl) (pv_2.2.1)) rfl (by decide) D fun D => (q1 (s_iconst (n := 0) (v := 0) (by decide)) D fun D => (qZ rfl D)))))))))) fun D => (q1 (s_iconst (n := 1) (v := 1) (by decide)) D fun D => (qZ rfl D))))))))))))))) fun D => (q1 (s_iconst (n := 0) (v := 0) (by decide)) D fun D => (qZ rfl D)))))))))) fun D => (q1 (s_aldn (n := 0) (i := 0) rfl) D fun D => (qC fl_X4_30 rfl D fun D => (q1 (s_ildn (n := 3) (i := 3) rfl) D fun D => (q1 (s_iconst (n := 1) (v := 1) (by decide)) D fun D => (q1 s_bast D fun D => (q1 (s_iconst (n := 1) (v := 1) (by decide)) D fun D => (qZ rfl D))))))))))))) fun D => (q1 (s_iconst (n := 0) (v := 0) (by decide)) D fun D => (qZ rfl D))))))))))))

theorem VF_st {f : Mem} {R n : Nat} {sz cp : Nat → Nat} {w : Nat → Nat} (i : Nat) (v : Int32) : VF (u2 f 40 i v) R n sz cp w ↔ VF f R n sz cp w := ⟨fun z => VF_n (fun a j _ a1 a2 => u2_ne (by omega)) z, fun z => VF_n (fun a j _ a1 a2 => (u2_ne (by omega)).symm) z⟩
theorem PS_st {f : Mem} {R n : Nat} {sz cp : Nat → Nat} (hs : PS f R n sz cp) (i : Nat) (v : Int32) : PS (u2 f 40 i v) R n sz cp := by
  obtain ⟨s1, s2, s3, s4, s5, s6, s7, s8⟩ := hs
  have o : ∀ a j, a ≠ 40 → u2 f 40 i v a j = f a j := fun a j ha => u2_ne (fun z => ha z.1)
  refine ⟨s1, s2, ?_, ?_, fun k hk => ?_, fun a b ha hb hab => ?_, fun a b ha hb => ?_, s8⟩
  · rw [o 12 0 (by decide)]; exact s3
  · rw [o 33 2 (by decide)]; exact s4
  · rw [o 35 k (by decide), o 34 k (by decide)]; exact s5 k hk
  · rw [o 34 a (by decide), o 34 b (by decide)]; exact s6 a b ha hb hab
  · rw [o 37 a (by decide), o 37 b (by decide), o 34 a (by decide), o 34 b (by decide)]; exact s7 a b ha hb
theorem PD_st {f : Mem} {R n : Nat} {sz cp : Nat → Nat} {wh : Nat → Option Nat} (hd : PD f R n sz cp wh) (i : Nat) (v : Int32) : PD (u2 f 40 i v) R n sz cp wh := by
  have o : ∀ a, a ≠ 40 → u2 f 40 i v a = f a := fun a ha => funext fun j => u2_ne (fun z => ha z.1)
  unfold PD at hd ⊢
  rw [o 39 (by decide), o 38 (by decide), o 42 (by decide), o 36 (by decide), o 43 (by decide), o 41 (by decide), o 34 (by decide), o 37 (by decide)]
  exact hd
set_option maxRecDepth 100000 in
set_option maxHeartbeats 400000 in
theorem se_46 (Q : Option Value → Hp → Prop) (h : Hp) (hl : LayX h) (hst : hR h 33 0 = some 3) (R n : Nat) (sz cp : Nat → Nat) (wh : Nat → Option Nat) (k i r : Nat) (hs : PS (hI h) R n sz cp) (hsn : ∀ j, j < n → ¬ hI h 40 j = 0 → wh j ≠ none) (hi : i < n) (h39 : hI h 40 i = 0) (hr4 : r < 4)
    (hq1 : ∀ f w, smP f (u2 (hI h) 40 i 1) → PD f R n sz cp (fun j => some (w j)) → VF (hI h) R n sz cp w → stW (hI h) n wh w → w i = r → Q (some (.int 1)) (wI h f))
    (hq0 : (¬ ∃ w, VF (hI h) R n sz cp w ∧ stW (hI h) n wh w ∧ w i = r) → ∀ f wh', smP f (hI h) → PD f R n sz cp wh' → fullO (hI h) n wh' → (∀ j, j < n → ¬ hI h 40 j = 0 → wh' j = wh j) → Q (some (.int 0)) (wI h f))
    (f : Mem) (hsm : smP f (hI h)) (hdf : PD f R n sz cp (outW (hI h) wh n)) (X : Int32) (hX : ∀ q, bt X q = true ↔ opn f R n i q) :
    c_X4_settles_46 Q [some (.ref 33), some (.int (nI k)), some (.int (nI r)), some (.int (nI i))] [.int X] (wI h f) := by
  have hn10 := hs.2.1
  have hR4 := hs.1
  have hl2 : LayX (wI h f) := hl
  have hsf : PS f R n sz cp := hs.c hsm
  have ow : ∀ j, j < n → (hI h 40 j = 0 → outW (hI h) wh n j = none) ∧ (¬ hI h 40 j = 0 → outW (hI h) wh n j = wh j) := fun j hj => ⟨fun z => cif_t ⟨hj, z⟩, fun z => cif_f (fun y => z y.2)⟩
  have hwi := (ow i hi).1 h39
  have f39 : ∀ j, f 40 j = hI h 40 j := fun j => hsm 40 j (by decide) (by decide) (by decide) (by decide)
  have hno0 : (¬ ∃ w, VF (hI h) R n sz cp w ∧ stW (hI h) n wh w ∧ w i = r) → Q (some (.int 0)) (wI h f) := fun z => hq0 z f (outW (hI h) wh n) hsm hdf (Or.inr (fun j hj y => (ow j hj).1 y)) (fun j hj y => (ow j hj).2 y)
  -- a placing has room r open
  have hopn : ∀ w, VF (hI h) R n sz cp w → stW (hI h) n wh w → w i = r → bt X r = true := fun w hv hsw hwr => by
    refine (hX r).mpr ?_
    -- no one who isn't settled stands in a room
    have hcn : ∀ o, o < n → ¬ cns f i o := fun o ho c => by
      have h1 := c.2.1
      rw [f39] at h1
      have := (hdf.1 o ho).1
      rw [(ow o ho).1 h1] at this
      exact c.1 this
    obtain ⟨w2, hw2, e2⟩ : ∃ w2, VF f R n sz cp w2 ∧ w2 = w := ⟨w, (VF_sm hsm).mpr hv, rfl⟩
    have hex : EX n (outW (hI h) wh n) w := fun j hj q hq => by
      by_cases z : hI h 40 j = 0
      · rw [(ow j hj).1 z] at hq; cases hq
      · rw [(ow j hj).2 z, hsw j hj z] at hq; exact Option.some.inj hq
    subst e2
    -- the order of parties that are alike puts no bound here: take them all for settled
    have := sol_open (f := f) (R := R) (n := n) (sz := sz) (cp := cp) (wh := outW (hI h) wh n) hsf hdf (w := w2) hw2
    have hm : MF (u2 f 40 i 0) n w2 ∨ True := Or.inr trivial
    refine ⟨by rw [← hwr]; exact (hw2.1 i hi).1, fun o ho c => absurd c (hcn o ho), ?_⟩
    have hs' : PS (fun a j => if a = 40 then (if j = i then 0 else 1) else f a j) R n sz cp := by
      obtain ⟨s1, s2, s3, s4, s5, s6, s7, s8⟩ := hsf
      exact ⟨s1, s2, s3, s4, s5, s6, s7, s8⟩
    have hd' : PD (fun a j => if a = 40 then (if j = i then 0 else 1) else f a j) R n sz cp (outW (hI h) wh n) := hdf
    have hv' : VF (fun a j => if a = 40 then (if j = i then 0 else 1) else f a j) R n sz cp w2 := hw2
    have hm' : MF (fun a j => if a = 40 then (if j = i then 0 else 1) else f a j) n w2 := fun a b hab hb s1 s2 _ => by
      simp only [if_true] at s1 s2
      by_cases ea : a = i
      · rw [if_neg (by omega)] at s2; exact absurd s2 (by decide)
      · rw [if_neg ea] at s1; exact absurd s1 (by decide)
    have h3 := sol_open hs' hd' hv' hm' hex hi (by simp) hwi
    rw [hwr] at h3
    exact h3.2.2
  by_cases hb : bt X r = true
  · obtain ⟨hrR, hcn, hop⟩ := (hX r).mp hb
    have hdp := PD.put hsf hdf hi hwi hrR hop
    have hsmp : smP (putM f i r) (hI h) := (smP.put f i r).tr hsm
    have hui : updO (outW (hI h) wh n) i (some r) i = some r := if_pos rfl
    have hun : ∀ j, j ≠ i → updO (outW (hI h) wh n) i (some r) j = outW (hI h) wh n j := fun j hj => if_neg hj
    obtain ⟨f2, hf2⟩ : ∃ f2, f2 = u2 (putM f i r) 40 i 1 := ⟨_, rfl⟩
    have hs2 : PS f2 R n sz cp := by rw [hf2]; exact PS_st (hs.c hsmp) i 1
    have hd2 : PD f2 R n sz cp (updO (outW (hI h) wh n) i (some r)) := by rw [hf2]; exact PD_st hdp i 1
    have f239 : ∀ j, j ≠ i → f2 40 j = hI h 40 j := fun j hj => by rw [hf2, u2_ne (fun z => hj z.2), hsmp 40 j (by decide) (by decide) (by decide) (by decide)]
    have f239i : f2 40 i = 1 := by rw [hf2]; exact u2_eq
    have hVF2 : ∀ w, VF f2 R n sz cp w ↔ VF (hI h) R n sz cp w := fun w => by rw [hf2, VF_st, VF_sm hsmp]
    have hexw : ∀ w, (EX n (updO (outW (hI h) wh n) i (some r)) w ↔ stW (hI h) n wh w ∧ w i = r) := fun w => by
      constructor
      · intro z
        refine ⟨fun j hj y => ?_, z i hi r hui⟩
        have e : j ≠ i := fun x => y (by rw [x]; exact h39)
        cases hw : wh j with
        | none => exact absurd hw (hsn j hj y)
        | some q =>
          have := z j hj q (by rw [hun j e, (ow j hj).2 y]; exact hw)
          rw [this]
      · rintro ⟨z, y⟩ j hj q hq
        by_cases e : j = i
        · subst e; rw [hui] at hq; cases hq; exact y
        · rw [hun j e] at hq
          by_cases c : hI h 40 j = 0
          · rw [(ow j hj).1 c] at hq; cases hq
          · rw [(ow j hj).2 c, z j hj c] at hq; exact Option.some.inj hq
    have hunp : ∀ j, j < n → f2 40 j = 0 → updO (outW (hI h) wh n) i (some r) j = none := fun j hj z => by
      have e : j ≠ i := fun x => by rw [x, f239i] at z; exact absurd z (by decide)
      rw [hun j e]
      rw [f239 j e] at z
      exact (ow j hj).1 z
    refine ?_
    have hpr : T_X4_placeRest [.ref 33, .int 0] (wI h f2) (fun x h' => c_X4_settles_73 Q [some (.ref 33), some (.int (nI k)), some (.int (nI r)), some (.int (nI i))] (x.toList ++ []) h') := by
      refine ⟨rfl, hl, hst, R, n, sz, cp, _, 0, rfl, hs2, hd2, fun a b hab hb' s1 s2 _ x y hx hy => ?_, fun j hj hw => ?_, ?_, ?_, fun f3 w q1 q2 q3 => ?_, fun hno f3 q1 q2 => ?_⟩
      · have := hunp a (by omega) s1
        rw [this] at hx; cases hx
      · show f2 40 j = 0
        have e : j ≠ i := fun x => by rw [x, hui] at hw; cases hw
        rw [hun j e] at hw
        rw [f239 j e]
        exact Classical.not_not.mp (fun z => by rw [(ow j hj).2 z] at hw; exact hsn j hj z hw)
      · have := uN_le (updO (outW (hI h) wh n) i (some r)) n; omega
      · have := uN_le (updO (outW (hI h) wh n) i (some r)) n; omega
      · have q3' : sol f2 R n sz cp (updO (outW (hI h) wh n) i (some r)) w := q3
        have q1' : smP f3 f2 := q1
        obtain ⟨e1, e2⟩ := (hexw w).mp q3'.2.2
        have hsm3 : smP f3 (u2 (hI h) 40 i 1) := fun a j a1 a2 a3 a4 => by
          rw [q1' a j a1 a2 a3 a4, hf2]
          unfold u2
          by_cases e : a = 40 ∧ j = i
          · rw [if_pos e, if_pos e]
          · rw [if_neg e, if_neg e, hsmp a j a1 a2 a3 a4]
        have := hq1 f3 w hsm3 q2 ((hVF2 w).mp q3'.1) e1 e2
        show c_X4_settles_73 Q _ [.int 1] (wI h f3)
        generalize wI h f3 = H at this ⊢
        simp only [c_X4_settles_73, i_push, i_ild, i_ald, i_ist, i_ast, i_inc, i_bin, i_un, i_divs, i_i2l, i_lshl, i_lor, i_dup, i_dup2, i_pop, i_if, i_cmp, i_nul, i_vret, i_iret, i_zret, i_aret, i_keep, keep, lget, lset, ent, i_getI, i_getJ, i_getR, i_getN, i_putI, i_putZ, i_putJ, i_putR, i_iald, i_bald, i_alen, i_aald, i_iast, i_bast, i_aast, i_new, i_newa, i_anew, i_oini, i_callS, i_callV, i_callI, popn, sh4, i_sw, swP, i_copy, i_binS, List.map, Option.toList_none, Option.toList_some, List.append, List.nil_append, List.cons_append, List.length_cons, List.length_nil, List.replicate, Nat.sub_self, Nat.reduceSub, Nat.reduceAdd, hK_pI, hL_pI, hI_pI, hR_pI, hJ_pI, hT_pI, hS_pI, hK_pR, hL_pR, hI_pR, hR_pR, hJ_pR, hT_pR, hS_pR, hK_pJ, hL_pJ, hI_pJ, hR_pJ, hJ_pJ, hT_pJ, hS_pJ, hK_wI, hL_wI, hI_wI, hR_wI, hJ_wI, hT_wI, hS_wI, eq_self, and_true, true_and, and_false, false_and, or_true, true_or, or_false, false_or, if_true, if_false, not_true_eq_false, not_false_eq_true, forall_const, implies_true, false_implies, true_implies, Option.some.injEq, forall_eq', exists_eq_left', reduceCtorEq, Nat.reduceEqDiff, c1, T_X12_in, T_X12_ones, T_X11_within, T_X11_bit, T_X11_isIn, T_X11_oneIfIn, T_J6_bitCount_0f7a4, show ¬ (1 : Int32) = 0 by decide]
        exact this
      · show c_X4_settles_73 Q _ [.int 0] (wI h f3)
        have q1' : smP f3 f2 := q1
        have hnoV : ¬ ∃ w, VF (hI h) R n sz cp w ∧ stW (hI h) n wh w ∧ w i = r := fun ⟨w, a, b, c⟩ => by
          obtain ⟨w2, x1, x2, x3⟩ := sort_w hs2 (updO (outW (hI h) wh n) i (some r)) hunp _ w rfl ((hVF2 w).mpr a) ((hexw w).mpr ⟨b, c⟩)
          exact hno ⟨w2, x1, x3, x2⟩
        -- the flag goes back, the party goes out
        obtain ⟨f4, hf4⟩ : ∃ f4, f4 = u2 f3 40 i 0 := ⟨_, rfl⟩
        have hd4 : PD f4 R n sz cp (updO (outW (hI h) wh n) i (some r)) := by rw [hf4]; exact PD_st q2 i 0
        have hsm4 : smP f4 (hI h) := fun a j a1 a2 a3 a4 => by
          rw [hf4]
          unfold u2
          by_cases e : a = 40 ∧ j = i
          · rw [if_pos e, e.1, e.2, h39]
          · rw [if_neg e, q1' a j a1 a2 a3 a4, hf2, u2_ne e, hsmp a j a1 a2 a3 a4]
        have hd5 := PD.out (hs.c hsm4) hd4 hi hui
        have hfin := hq0 hnoV (outM f4 i r) _ ((smP.out f4 i r).tr hsm4) hd5 (Or.inr (fun j hj z => by
          unfold updO
          by_cases e : j = i
          · rw [if_pos e]
          · rw [if_neg e, if_neg e]; exact (ow j hj).1 z)) (fun j hj z => by
          have e : j ≠ i := fun x => z (by rw [x]; exact h39)
          unfold updO
          rw [if_neg e, if_neg e]; exact (ow j hj).2 z)
        have hl4 : LayX (wI h f4) := hl
        have e38 : hI (wI h f4) 39 i = nI r := by
          have := (hd4.1 i hi).1
          rw [hui] at this; exact this
        have hto : T_X4_takeOut [.ref 33, .int (nI i)] (wI h f4) (fun x h' => c_X4_settles_90 Q [some (.ref 33), some (.int (nI k)), some (.int (nI r)), some (.int (nI i))] (x.toList ++ []) h') := by
          refine out_ok hl4 (by omega) hr4 e38 ?_
          show c_X4_settles_90 Q _ [] (wI h (outM f4 i r))
          generalize wI h (outM f4 i r) = H at hfin ⊢
          simp only [c_X4_settles_90, i_push, i_ild, i_ald, i_ist, i_ast, i_inc, i_bin, i_un, i_divs, i_i2l, i_lshl, i_lor, i_dup, i_dup2, i_pop, i_if, i_cmp, i_nul, i_vret, i_iret, i_zret, i_aret, i_keep, keep, lget, lset, ent, i_getI, i_getJ, i_getR, i_getN, i_putI, i_putZ, i_putJ, i_putR, i_iald, i_bald, i_alen, i_aald, i_iast, i_bast, i_aast, i_new, i_newa, i_anew, i_oini, i_callS, i_callV, i_callI, popn, sh4, i_sw, swP, i_copy, i_binS, List.map, Option.toList_none, Option.toList_some, List.append, List.nil_append, List.cons_append, List.length_cons, List.length_nil, List.replicate, Nat.sub_self, Nat.reduceSub, Nat.reduceAdd, hK_pI, hL_pI, hI_pI, hR_pI, hJ_pI, hT_pI, hS_pI, hK_pR, hL_pR, hI_pR, hR_pR, hJ_pR, hT_pR, hS_pR, hK_pJ, hL_pJ, hI_pJ, hR_pJ, hJ_pJ, hT_pJ, hS_pJ, hK_wI, hL_wI, hI_wI, hR_wI, hJ_wI, hT_wI, hS_wI, eq_self, and_true, true_and, and_false, false_and, or_true, true_or, or_false, false_or, if_true, if_false, not_true_eq_false, not_false_eq_true, forall_const, implies_true, false_implies, true_implies, Option.some.injEq, forall_eq', exists_eq_left', reduceCtorEq, Nat.reduceEqDiff, c1, T_X12_in, T_X12_ones, T_X11_within, T_X11_bit, T_X11_isIn, T_X11_oneIfIn, T_J6_bitCount_0f7a4]
          exact hfin
        have hH : wI h f4 = pI (wI h f3) 40 i 0 := by rw [hf4]; rfl
        rw [hH] at hto
        have hl3 : LayX (wI h f3) := hl
        generalize wI h f3 = H at hl3 hto ⊢
        have hl := hl3
        simp only [c_X4_settles_73, lx_pI, lx_wI, lx_t hl, lx_k hl, lx_r hl, lx_l hl, i_push, i_ild, i_ald, i_ist, i_ast, i_inc, i_bin, i_un, i_divs, i_i2l, i_lshl, i_lor, i_dup, i_dup2, i_pop, i_if, i_cmp, i_nul, i_vret, i_iret, i_zret, i_aret, i_keep, keep, lget, lset, ent, i_getI, i_getJ, i_getR, i_getN, i_putI, i_putZ, i_putJ, i_putR, i_iald, i_bald, i_alen, i_aald, i_iast, i_bast, i_aast, i_new, i_newa, i_anew, i_oini, i_callS, i_callV, i_callI, popn, sh4, i_sw, swP, i_copy, i_binS, List.map, Option.toList_none, Option.toList_some, List.append, List.nil_append, List.cons_append, List.length_cons, List.length_nil, List.replicate, Nat.sub_self, Nat.reduceSub, Nat.reduceAdd, hK_pI, hL_pI, hI_pI, hR_pI, hJ_pI, hT_pI, hS_pI, hK_pR, hL_pR, hI_pR, hR_pR, hJ_pR, hT_pR, hS_pR, hK_pJ, hL_pJ, hI_pJ, hR_pJ, hJ_pJ, hT_pJ, hS_pJ, hK_wI, hL_wI, hI_wI, hR_wI, hJ_wI, hT_wI, hS_wI, eq_self, and_true, true_and, and_false, false_and, or_true, true_or, or_false, false_or, if_true, if_false, not_true_eq_false, not_false_eq_true, forall_const, implies_true, false_implies, true_implies, Option.some.injEq, forall_eq', exists_eq_left', reduceCtorEq, Nat.reduceEqDiff, c1, T_X12_in, T_X12_ones, T_X11_within, T_X11_bit, T_X11_isIn, T_X11_oneIfIn, T_J6_bitCount_0f7a4, cl_nI (show i < 2147483648 by omega), in_nI (show i < 10 by omega) (by decide)]
        exact hto
    have hput : T_X4_put [.ref 33, .int (nI i), .int (nI r)] (wI h f) (fun x h' => c_X4_settles_61 Q [some (.ref 33), some (.int (nI k)), some (.int (nI r)), some (.int (nI i))] (x.toList ++ []) h') := by
      refine put_ok hl2 (by omega) hr4 ?_
      show c_X4_settles_61 Q _ [] (wI h (putM f i r))
      have hH : wI h f2 = pI (wI h (putM f i r)) 40 i 1 := by rw [hf2]; rfl
      rw [hH] at hpr
      have hl3 : LayX (wI h (putM f i r)) := hl
      generalize wI h (putM f i r) = H at hl3 hpr ⊢
      have hl := hl3
      simp only [c_X4_settles_61, lx_pI, lx_wI, lx_t hl, lx_k hl, lx_r hl, lx_l hl, i_push, i_ild, i_ald, i_ist, i_ast, i_inc, i_bin, i_un, i_divs, i_i2l, i_lshl, i_lor, i_dup, i_dup2, i_pop, i_if, i_cmp, i_nul, i_vret, i_iret, i_zret, i_aret, i_keep, keep, lget, lset, ent, i_getI, i_getJ, i_getR, i_getN, i_putI, i_putZ, i_putJ, i_putR, i_iald, i_bald, i_alen, i_aald, i_iast, i_bast, i_aast, i_new, i_newa, i_anew, i_oini, i_callS, i_callV, i_callI, popn, sh4, i_sw, swP, i_copy, i_binS, List.map, Option.toList_none, Option.toList_some, List.append, List.nil_append, List.cons_append, List.length_cons, List.length_nil, List.replicate, Nat.sub_self, Nat.reduceSub, Nat.reduceAdd, hK_pI, hL_pI, hI_pI, hR_pI, hJ_pI, hT_pI, hS_pI, hK_pR, hL_pR, hI_pR, hR_pR, hJ_pR, hT_pR, hS_pR, hK_pJ, hL_pJ, hI_pJ, hR_pJ, hJ_pJ, hT_pJ, hS_pJ, hK_wI, hL_wI, hI_wI, hR_wI, hJ_wI, hT_wI, hS_wI, eq_self, and_true, true_and, and_false, false_and, or_true, true_or, or_false, false_or, if_true, if_false, not_true_eq_false, not_false_eq_true, forall_const, implies_true, false_implies, true_implies, Option.some.injEq, forall_eq', exists_eq_left', reduceCtorEq, Nat.reduceEqDiff, c1, T_X12_in, T_X12_ones, T_X11_within, T_X11_bit, T_X11_isIn, T_X11_oneIfIn, T_J6_bitCount_0f7a4, cl_nI (show i < 2147483648 by omega), in_nI (show i < 10 by omega) (by decide)]
      exact hpr
    generalize wI h f = H at hl2 hput ⊢
    have hl := hl2
    simp only [c_X4_settles_46, lx_pI, lx_wI, lx_t hl, lx_k hl, lx_r hl, lx_l hl, i_push, i_ild, i_ald, i_ist, i_ast, i_inc, i_bin, i_un, i_divs, i_i2l, i_lshl, i_lor, i_dup, i_dup2, i_pop, i_if, i_cmp, i_nul, i_vret, i_iret, i_zret, i_aret, i_keep, keep, lget, lset, ent, i_getI, i_getJ, i_getR, i_getN, i_putI, i_putZ, i_putJ, i_putR, i_iald, i_bald, i_alen, i_aald, i_iast, i_bast, i_aast, i_new, i_newa, i_anew, i_oini, i_callS, i_callV, i_callI, popn, sh4, i_sw, swP, i_copy, i_binS, List.map, Option.toList_none, Option.toList_some, List.append, List.nil_append, List.cons_append, List.length_cons, List.length_nil, List.replicate, Nat.sub_self, Nat.reduceSub, Nat.reduceAdd, hK_pI, hL_pI, hI_pI, hR_pI, hJ_pI, hT_pI, hS_pI, hK_pR, hL_pR, hI_pR, hR_pR, hJ_pR, hT_pR, hS_pR, hK_pJ, hL_pJ, hI_pJ, hR_pJ, hJ_pJ, hT_pJ, hS_pJ, hK_wI, hL_wI, hI_wI, hR_wI, hJ_wI, hT_wI, hS_wI, eq_self, and_true, true_and, and_false, false_and, or_true, true_or, or_false, false_or, if_true, if_false, not_true_eq_false, not_false_eq_true, forall_const, implies_true, false_implies, true_implies, Option.some.injEq, forall_eq', exists_eq_left', reduceCtorEq, Nat.reduceEqDiff, c1, T_X12_in, T_X12_ones, T_X11_within, T_X11_bit, T_X11_isIn, T_X11_oneIfIn, T_J6_bitCount_0f7a4, sh_bt X (show r < 32 by omega), b2i_0, Classical.not_not, hb]
    exact hput
  · have := hno0 (fun ⟨w, a, b, c⟩ => hb (hopn w a b c))
    have hb' : bt X r = false := by simpa using hb
    generalize wI h f = H at this ⊢
    simp only [c_X4_settles_46, i_push, i_ild, i_ald, i_ist, i_ast, i_inc, i_bin, i_un, i_divs, i_i2l, i_lshl, i_lor, i_dup, i_dup2, i_pop, i_if, i_cmp, i_nul, i_vret, i_iret, i_zret, i_aret, i_keep, keep, lget, lset, ent, i_getI, i_getJ, i_getR, i_getN, i_putI, i_putZ, i_putJ, i_putR, i_iald, i_bald, i_alen, i_aald, i_iast, i_bast, i_aast, i_new, i_newa, i_anew, i_oini, i_callS, i_callV, i_callI, popn, sh4, i_sw, swP, i_copy, i_binS, List.map, Option.toList_none, Option.toList_some, List.append, List.nil_append, List.cons_append, List.length_cons, List.length_nil, List.replicate, Nat.sub_self, Nat.reduceSub, Nat.reduceAdd, hK_pI, hL_pI, hI_pI, hR_pI, hJ_pI, hT_pI, hS_pI, hK_pR, hL_pR, hI_pR, hR_pR, hJ_pR, hT_pR, hS_pR, hK_pJ, hL_pJ, hI_pJ, hR_pJ, hJ_pJ, hT_pJ, hS_pJ, hK_wI, hL_wI, hI_wI, hR_wI, hJ_wI, hT_wI, hS_wI, eq_self, and_true, true_and, and_false, false_and, or_true, true_or, or_false, false_or, if_true, if_false, not_true_eq_false, not_false_eq_true, forall_const, implies_true, false_implies, true_implies, Option.some.injEq, forall_eq', exists_eq_left', reduceCtorEq, Nat.reduceEqDiff, c1, T_X12_in, T_X12_ones, T_X11_within, T_X11_bit, T_X11_isIn, T_X11_oneIfIn, T_J6_bitCount_0f7a4, sh_bt X (show r < 32 by omega), b2i_0, Classical.not_not, hb']
    exact this
set_option maxRecDepth 100000 in
set_option maxHeartbeats 4000000 in
theorem ok_X4_settles : ctr 21 MX4_settles T_X4_settles := by
  refine ctr_of pn_X4 wc_X4_settles (fun av h Q hT => ?_)
  unfold T_X4_settles at hT
  split at hT
  · rename_i o p rm
    refine ⟨⟨by simp [Value.category], Nat.le_of_ble_eq_true rfl⟩, s_X4_settles_0 Q _ _ _ ?_⟩
    obtain ⟨rfl, hl, hst, R, n, sz, cp, wh, k, i, hs, hd, hfo, hsn, rfl, hk, hi, hb, hu, h39, hrm, hq1, hq0⟩ := hT
    have hn10 := hs.2.1
    have hR4 := hs.1
    have ew : wI h (hI h) = h := rfl
    have hc5 : T_X4_partyWith [.ref 33, .int (nI k)] h (fun x h' => c_X4_settles_5 Q [some (.ref 33), some (.int (nI k)), some (.int rm), none] (x.toList ++ []) h') := by
      refine ⟨rfl, hl, n, k, hn10, hs.2.2.2.1, rfl, hk, fun j hj hbj _ => ?_, fun z => ?_⟩
      · have e := hu j hj hbj
        subst e
        show c_X4_settles_5 Q _ [.int (nI j)] h
        have hneg : rm = -1 → Q (some (.int 0)) h := fun z => by
          have := hq0 (fun ⟨r, w, a, b, _, c⟩ => by
            have h1 := (b.1 j hi).1
            rw [c] at h1
            rw [z] at a
            exact nI_m1 r (by omega) a.symm) (hI h) wh (smP.rf _) hd hfo (fun _ _ _ => rfl)
          exact this
        have heq : hI h 39 j = rm → ¬ rm = -1 → Q (some (.int 1)) (pI h 40 j 1) := fun z z2 => by
          obtain ⟨r, hr4, er⟩ : ∃ r, r < 4 ∧ rm = nI r := by
            rcases hrm with q | q
            · exact absurd q z2
            · exact q
          have e38 := (hd.1 j hi).1
          have hwj : wh j = some r := by
            cases hw : wh j with
            | none => rw [hw] at e38; exact absurd (z.symm.trans e38) z2
            | some q =>
              rw [hw] at e38
              have hq := ((hd.1 j hi).2 q hw).1
              have e3 : nI q = nI r := e38.symm.trans (z.trans er)
              rw [(nI_eq (by omega) (by omega)).mp e3]
          have hfull : ∀ x, x < n → wh x ≠ none := by
            rcases hfo with q | q
            · exact q
            · have := q j hi h39
              rw [hwj] at this; cases this
          have hw : ∀ x, x < n → wh x = some ((wh x).getD 0) := fun x hx => by
            cases hy : wh x with
            | none => exact absurd hy (hfull x hx)
            | some a => rfl
          have hdw : PD (hI h) R n sz cp (fun x => some ((wh x).getD 0)) := PD_c hw hd
          exact hq1 r er (u2 (hI h) 40 j 1) (fun x => (wh x).getD 0) (smP.rf _) (PD_st hdw j 1) (PD_VF hdw) (fun x hx _ => hw x hx) (by simp only [hwj]; rfl)
        have hgo : ¬ rm = -1 → T_X4_takeOutUnsettled [.ref 33] h (fun x h' => c_X4_settles_41 Q [some (.ref 33), some (.int (nI k)), some (.int rm), some (.int (nI j))] (x.toList ++ []) h') := fun z2 => by
          obtain ⟨r, hr4, er⟩ : ∃ r, r < 4 ∧ rm = nI r := by
            rcases hrm with q | q
            · exact absurd q z2
            · exact q
          refine ⟨rfl, hl, R, n, sz, cp, wh, hs, hd, fun f hsm hdf => ?_⟩
          show c_X4_settles_41 Q _ [] (wI h f)
          have hsf : PS f R n sz cp := hs.c hsm
          have hor : T_X4_openRooms [.ref 33, .int (nI j)] (wI h f) (fun x h' => c_X4_settles_46 Q [some (.ref 33), some (.int (nI k)), some (.int rm), some (.int (nI j))] (x.toList ++ []) h') := by
            refine ⟨rfl, hl, hst, R, n, j, hR4, hn10, hsf.2.2.1, hsf.2.2.2.1, rfl, by omega, whOk_of hdf, fun X hX => ?_⟩
            show c_X4_settles_46 Q _ [.int X] (wI h f)
            rw [er]
            refine se_46 Q h hl hst R n sz cp wh k j r hs hsn hi h39 hr4 (hq1 r er) (fun hno f2 wh2 a b c d => hq0 (fun ⟨r2, w, x1, x2, x3, x4⟩ => ?_) f2 wh2 a b c d) f hsm hdf X hX
            have h1 := (x2.1 j hi).1
            rw [x4] at h1
            have e3 : r2 = r := (nI_eq (by omega) (by omega)).mp (x1.symm.trans er)
            exact hno ⟨w, x2, x3, by rw [x4, e3]⟩
          have hl2 : LayX (wI h f) := hl
          generalize wI h f = H at hl2 hor ⊢
          have hl := hl2
          simp only [c_X4_settles_41, lx_pI, lx_wI, lx_t hl, lx_k hl, lx_r hl, lx_l hl, i_push, i_ild, i_ald, i_ist, i_ast, i_inc, i_bin, i_un, i_divs, i_i2l, i_lshl, i_lor, i_dup, i_dup2, i_pop, i_if, i_cmp, i_nul, i_vret, i_iret, i_zret, i_aret, i_keep, keep, lget, lset, ent, i_getI, i_getJ, i_getR, i_getN, i_putI, i_putZ, i_putJ, i_putR, i_iald, i_bald, i_alen, i_aald, i_iast, i_bast, i_aast, i_new, i_newa, i_anew, i_oini, i_callS, i_callV, i_callI, popn, sh4, i_sw, swP, i_copy, i_binS, List.map, Option.toList_none, Option.toList_some, List.append, List.nil_append, List.cons_append, List.length_cons, List.length_nil, List.replicate, Nat.sub_self, Nat.reduceSub, Nat.reduceAdd, hK_pI, hL_pI, hI_pI, hR_pI, hJ_pI, hT_pI, hS_pI, hK_pR, hL_pR, hI_pR, hR_pR, hJ_pR, hT_pR, hS_pR, hK_pJ, hL_pJ, hI_pJ, hR_pJ, hJ_pJ, hT_pJ, hS_pJ, hK_wI, hL_wI, hI_wI, hR_wI, hJ_wI, hT_wI, hS_wI, eq_self, and_true, true_and, and_false, false_and, or_true, true_or, or_false, false_or, if_true, if_false, not_true_eq_false, not_false_eq_true, forall_const, implies_true, false_implies, true_implies, Option.some.injEq, forall_eq', exists_eq_left', reduceCtorEq, Nat.reduceEqDiff, c1, T_X12_in, T_X12_ones, T_X11_within, T_X11_bit, T_X11_isIn, T_X11_oneIfIn, T_J6_bitCount_0f7a4]
          exact hor
        simp only [c_X4_settles_5, lx_pI, lx_wI, lx_t hl, lx_k hl, lx_r hl, lx_l hl, i_push, i_ild, i_ald, i_ist, i_ast, i_inc, i_bin, i_un, i_divs, i_i2l, i_lshl, i_lor, i_dup, i_dup2, i_pop, i_if, i_cmp, i_nul, i_vret, i_iret, i_zret, i_aret, i_keep, keep, lget, lset, ent, i_getI, i_getJ, i_getR, i_getN, i_putI, i_putZ, i_putJ, i_putR, i_iald, i_bald, i_alen, i_aald, i_iast, i_bast, i_aast, i_new, i_newa, i_anew, i_oini, i_callS, i_callV, i_callI, popn, sh4, i_sw, swP, i_copy, i_binS, List.map, Option.toList_none, Option.toList_some, List.append, List.nil_append, List.cons_append, List.length_cons, List.length_nil, List.replicate, Nat.sub_self, Nat.reduceSub, Nat.reduceAdd, hK_pI, hL_pI, hI_pI, hR_pI, hJ_pI, hT_pI, hS_pI, hK_pR, hL_pR, hI_pR, hR_pR, hJ_pR, hT_pR, hS_pR, hK_pJ, hL_pJ, hI_pJ, hR_pJ, hJ_pJ, hT_pJ, hS_pJ, hK_wI, hL_wI, hI_wI, hR_wI, hJ_wI, hT_wI, hS_wI, eq_self, and_true, true_and, and_false, false_and, or_true, true_or, or_false, false_or, if_true, if_false, not_true_eq_false, not_false_eq_true, forall_const, implies_true, false_implies, true_implies, Option.some.injEq, forall_eq', exists_eq_left', reduceCtorEq, Nat.reduceEqDiff, c1, T_X12_in, T_X12_ones, T_X11_within, T_X11_bit, T_X11_isIn, T_X11_oneIfIn, T_J6_bitCount_0f7a4, show ¬ nI j = -1 from nI_m1 j (by omega), cl_nI (show j < 2147483648 by omega), in_nI (show j < 10 by omega) (by decide)]
        exact ⟨hneg, fun z => ⟨fun z2 => heq z2 z, fun _ => hgo z⟩⟩
      · rw [z i hi] at hb; cases hb
    simp only [MX4_settles, b_X4_settles_0, lx_pI, lx_wI, lx_t hl, lx_k hl, lx_r hl, lx_l hl, i_push, i_ild, i_ald, i_ist, i_ast, i_inc, i_bin, i_un, i_divs, i_i2l, i_lshl, i_lor, i_dup, i_dup2, i_pop, i_if, i_cmp, i_nul, i_vret, i_iret, i_zret, i_aret, i_keep, keep, lget, lset, ent, i_getI, i_getJ, i_getR, i_getN, i_putI, i_putZ, i_putJ, i_putR, i_iald, i_bald, i_alen, i_aald, i_iast, i_bast, i_aast, i_new, i_newa, i_anew, i_oini, i_callS, i_callV, i_callI, popn, sh4, i_sw, swP, i_copy, i_binS, List.map, Option.toList_none, Option.toList_some, List.append, List.nil_append, List.cons_append, List.length_cons, List.length_nil, List.replicate, Nat.sub_self, Nat.reduceSub, Nat.reduceAdd, hK_pI, hL_pI, hI_pI, hR_pI, hJ_pI, hT_pI, hS_pI, hK_pR, hL_pR, hI_pR, hR_pR, hJ_pR, hT_pR, hS_pR, hK_pJ, hL_pJ, hI_pJ, hR_pJ, hJ_pJ, hT_pJ, hS_pJ, hK_wI, hL_wI, hI_wI, hR_wI, hJ_wI, hT_wI, hS_wI, eq_self, and_true, true_and, and_false, false_and, or_true, true_or, or_false, false_or, if_true, if_false, not_true_eq_false, not_false_eq_true, forall_const, implies_true, false_implies, true_implies, Option.some.injEq, forall_eq', exists_eq_left', reduceCtorEq, Nat.reduceEqDiff, c1, T_X12_in, T_X12_ones, T_X11_within, T_X11_bit, T_X11_isIn, T_X11_oneIfIn, T_J6_bitCount_0f7a4]
    exact hc5
  · exact hT.elim
