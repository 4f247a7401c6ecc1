/-! ===== the reference: ways ===== -/
def T_X12_ways : Tr := fun av h Q => match av with
  | [.ref o, .int p] => o = 44 ∧ LayM h ∧ ∃ R k, R ≤ 4 ∧ hI h 46 0 = nI R ∧ p = nI k ∧ k < 24 ∧ ∀ n, n ≤ R → (n = 0 ↔ ∀ r, r < R → ¬ mayF (hI h) R k r) → Q (some (.int (nI n))) h
  | _ => False
def L_X12_ways : List UInt8 := [3, 61, 3, 62, 29, 42, 180, 0, 13, 3, 46, 162, 0, 26, 28, 42, 27, 29, 182, 1, 45, 153, 0, 7, 4, 167, 0, 4, 3, 96, 61, 132, 3, 1, 167, 255, 226, 28, 172]
theorem Lc_X12_ways : MX12_ways.2.1 = ⟨L_X12_ways.toArray⟩ := rfl
theorem D_X12_ways_0 : dseq MX12_ways.2.1 0 [(.iconst 0, 1), (.istore_n 2, 1), (.iconst 0, 1), (.istore_n 3, 1)] := dq Lc_X12_ways 0 _ (by decide +kernel)
theorem D_X12_ways_4 : dseq MX12_ways.2.1 4 [(.iload_n 3, 1), (.aload_n 0, 1), (.getfield 13, 3), (.iconst 0, 1), (.iaload, 1), (.if_icmp .ge 26, 3), (.iload_n 2, 1), (.aload_n 0, 1), (.iload_n 1, 1), (.iload_n 3, 1), (.invokevirtual 301, 3), (.ifCond .eq 7, 3), (.iconst 1, 1), (.goto 4, 3)] := dq Lc_X12_ways 4 _ (by decide +kernel)
theorem D_X12_ways_37 : dseq MX12_ways.2.1 37 [(.iload_n 2, 1), (.ireturn, 1)] := dq Lc_X12_ways 37 _ (by decide +kernel)
theorem D_X12_ways_28 : dseq MX12_ways.2.1 28 [(.iconst 0, 1)] := dq Lc_X12_ways 28 _ (by decide +kernel)
theorem D_X12_ways_29 : dseq MX12_ways.2.1 29 [(.iadd, 1), (.istore_n 2, 1), (.iinc 3 1, 3), (.goto (-30), 3)] := dq Lc_X12_ways 29 _ (by decide +kernel)
def c_X12_ways_21 (Q : Option Value → Hp → Prop) : Kt := i_if (fun x => x = 0) (i_push (.int 0) (i_keep [true, true, false, true] (wp 2 MX12_ways Q 29))) (i_push (.int 1) (i_keep [true, true, false, true] (wp 2 MX12_ways Q 29)))
def b_X12_ways_0 (Q : Option Value → Hp → Prop) : Kt := i_push (.int 0) (i_ist 2 (i_push (.int 0) (i_ist 3 (i_keep [true, true, true, true] (wp 2 MX12_ways Q 4)))))
set_option maxRecDepth 100000 in
theorem s_X12_ways_0 (Q : Option Value → Hp → Prop) : ∀ A st h, b_X12_ways_0 Q A st h → wp 2 MX12_ways Q 0 A st h := (q1 (s_iconst (n := 0) (v := 0) (by decide)) D_X12_ways_0 fun D => (qL (s_istn (n := 2) (i := 2) rfl) (by decide) D fun D => (q1 (s_iconst (n := 0) (v := 0) (by decide)) D fun D => (qL (s_istn (n := 3) (i := 3) rfl) (by decide) D fun D => (s_keep [true, true, true, true] fun _ _ _ h => h)))))
def b_X12_ways_4 (Q : Option Value → Hp → Prop) : Kt := i_ild 3 (i_ald 0 (i_getR 12 3 (i_push (.int 0) (i_iald (i_cmp (fun x y => y ≤ x) (i_ild 2 (i_iret Q)) (i_ild 2 (i_ald 0 (i_ild 1 (i_ild 3 (i_callV 12 2 T_X12_may (c_X12_ways_21 Q)))))))))))
set_option maxRecDepth 100000 in
theorem s_X12_ways_4 (Q : Option Value → Hp → Prop) : ∀ A st h, b_X12_ways_4 Q A st h → wp 2 MX12_ways Q 4 A st h := (q1 (s_ildn (n := 3) (i := 3) rfl) D_X12_ways_4 fun D => (q1 (s_aldn (n := 0) (i := 0) rfl) D fun D => (qC fl_X12_13 rfl D fun D => (q1 (s_iconst (n := 0) (v := 0) (by decide)) D fun D => (q1 s_iald D fun D => (qB s_cmpge 37 (by decide) D (q1 (s_ildn (n := 2) (i := 2) rfl) D_X12_ways_37 fun D => (qI rfl D)) fun D => (q1 (s_ildn (n := 2) (i := 2) rfl) D fun D => (q1 (s_aldn (n := 0) (i := 0) rfl) D fun D => (q1 (s_ildn (n := 1) (i := 1) rfl) D fun D => (q1 (s_ildn (n := 3) (i := 3) rfl) D fun D => (qX (s_callV kX12 rfl ok_X12_may mo_X12_may (ch_6_7_ok.2.2.2.2.2.2.2.2.2.2.2.1.1 rfl) (ch_6_7_ok.2.2.2.2.2.2.2.2.2.2.2.2.2.1.1 rfl) (pv_3.2.2.2.2.2.2.2.2.2.2.2.1)) rfl (by decide) D fun D => (qB s_ifeq 28 (by decide) D (q1 (s_iconst (n := 0) (v := 0) (by decide)) D_X12_ways_28 fun D => (s_keep [true, true, false, true] fun _ _ _ h => h)) fun D => (q1 (s_iconst (n := 1) (v := 1) (by decide)) D fun D => (qG 29 (by decide) D (s_keep [true, true, false, true] fun _ _ _ h => h)))))))))))))))
def b_X12_ways_29 (Q : Option Value → Hp → Prop) : Kt := i_bin (fun x y => x + y) (i_ist 2 (i_inc 3 1 (i_keep [true, true, true, true] (wp 2 MX12_ways Q 4))))
set_option maxRecDepth 100000 in
theorem s_X12_ways_29 (Q : Option Value → Hp → Prop) : ∀ A st h, b_X12_ways_29 Q A st h → wp 2 MX12_ways Q 29 A st h := (q1 s_add D_X12_ways_29 fun D => (qL (s_istn (n := 2) (i := 2) rfl) (by decide) D fun D => (qL (s_inc (i := 3) (n := 1) (v := 1) (by decide)) (by decide) D fun D => (qG 4 (by decide) D (s_keep [true, true, true, true] fun _ _ _ h => h)))))

theorem lp_X12_ways (Q : Option Value → Hp → Prop) (h : Hp) (hl : LayM h) (R k : Nat) (hR : R ≤ 4) (hr : hI h 46 0 = nI R) (hk : k < 24) (hq : ∀ n, n ≤ R → (n = 0 ↔ ∀ r, r < R → ¬ mayF (hI h) R k r) → Q (some (.int (nI n))) h) :
    ∀ (m r n : Nat), m = R - r → r ≤ R → n ≤ r → (n = 0 ↔ ∀ j, j < r → ¬ mayF (hI h) R k j) → wp 2 MX12_ways Q 4 [some (.ref 44), some (.int (nI k)), some (.int (nI n)), some (.int (nI r))] [] h := by
  intro m
  induction m with
  | zero =>
    intro r n hm hrr hn hiff
    have e : r = R := by omega
    subst e
    refine s_X12_ways_4 Q _ _ _ ?_
    simp only [b_X12_ways_4, hl, lay_pI, lay_wI, lay_pJ, lm_t hl, lm_k hl, lm_r hl, lm_l hl, i_push, i_ild, i_ald, i_ist, i_ast, i_inc, i_bin, i_un, i_divs, i_i2l, i_lshl, i_lor, i_dup, i_dup2, i_pop, i_if, i_cmp, i_nul, i_vret, i_iret, i_zret, i_aret, i_keep, keep, lget, lset, ent, i_getI, i_getJ, i_getR, i_getN, i_putI, i_putZ, i_putJ, i_putR, i_iald, i_bald, i_alen, i_aald, i_iast, i_bast, i_aast, i_new, i_newa, i_anew, i_oini, i_callS, i_callV, i_callI, popn, sh4, i_sw, swP, i_copy, i_binS, List.map, Option.toList_none, Option.toList_some, List.append, List.nil_append, List.cons_append, List.length_cons, List.length_nil, List.replicate, Nat.sub_self, Nat.reduceSub, Nat.reduceAdd, hK_pI, hL_pI, hI_pI, hR_pI, hJ_pI, hT_pI, hS_pI, hK_pR, hL_pR, hI_pR, hR_pR, hJ_pR, hT_pR, hS_pR, hK_pJ, hL_pJ, hI_pJ, hR_pJ, hJ_pJ, hT_pJ, hS_pJ, hK_wI, hL_wI, hI_wI, hR_wI, hJ_wI, hT_wI, hS_wI, eq_self, and_true, true_and, and_false, false_and, or_true, true_or, or_false, false_or, if_true, if_false, not_true_eq_false, not_false_eq_true, forall_const, implies_true, false_implies, true_implies, Option.some.injEq, forall_eq', exists_eq_left', reduceCtorEq, Nat.reduceEqDiff, c1, T_X12_in, T_X12_ones, T_X11_within, T_X11_bit, T_X11_isIn, T_X11_oneIfIn, T_J6_bitCount_0f7a4, in0 4 (by decide) (by decide), cl0, hr]
    exact ⟨fun _ => hq n hn hiff, fun c => absurd (nI_le (Nat.le_refl _) (by omega)) c⟩
  | succ m ih =>
    intro r n hm hrr hn hiff
    have h29 : ∀ z : Nat, (z = 0 ∧ ¬ mayF (hI h) R k r) ∨ (z = 1 ∧ mayF (hI h) R k r) → wp 2 MX12_ways Q 29 [some (.ref 44), some (.int (nI k)), none, some (.int (nI r))] [.int (nI z), .int (nI n)] h := by
      intro z hz
      refine s_X12_ways_29 Q _ _ _ ?_
      simp only [b_X12_ways_29, i_push, i_ild, i_ald, i_ist, i_ast, i_inc, i_bin, i_un, i_divs, i_i2l, i_lshl, i_lor, i_dup, i_dup2, i_pop, i_if, i_cmp, i_nul, i_vret, i_iret, i_zret, i_aret, i_keep, keep, lget, lset, ent, i_getI, i_getJ, i_getR, i_getN, i_putI, i_putZ, i_putJ, i_putR, i_iald, i_bald, i_alen, i_aald, i_iast, i_bast, i_aast, i_new, i_newa, i_anew, i_oini, i_callS, i_callV, i_callI, popn, sh4, i_sw, swP, i_copy, i_binS, List.map, Option.toList_none, Option.toList_some, List.append, List.nil_append, List.cons_append, List.length_cons, List.length_nil, List.replicate, Nat.sub_self, Nat.reduceSub, Nat.reduceAdd, hK_pI, hL_pI, hI_pI, hR_pI, hJ_pI, hT_pI, hS_pI, hK_pR, hL_pR, hI_pR, hR_pR, hJ_pR, hT_pR, hS_pR, hK_pJ, hL_pJ, hI_pJ, hR_pJ, hJ_pJ, hT_pJ, hS_pJ, hK_wI, hL_wI, hI_wI, hR_wI, hJ_wI, hT_wI, hS_wI, eq_self, and_true, true_and, and_false, false_and, or_true, true_or, or_false, false_or, if_true, if_false, not_true_eq_false, not_false_eq_true, forall_const, implies_true, false_implies, true_implies, Option.some.injEq, forall_eq', exists_eq_left', reduceCtorEq, Nat.reduceEqDiff, c1, T_X12_in, T_X12_ones, T_X11_within, T_X11_bit, T_X11_isIn, T_X11_oneIfIn, T_J6_bitCount_0f7a4, nI_1, nI_add]
      refine ih (r + 1) (n + z) (by omega) (by omega) (by rcases hz with q | q <;> omega) ?_
      rcases hz with ⟨e, hm2⟩ | ⟨e, hm2⟩
      · subst e
        rw [Nat.add_zero, hiff]
        constructor
        · intro a j hj
          rcases Nat.lt_or_ge j r with q | q
          · exact a j q
          · have : j = r := by omega
            subst this
            exact hm2
        · intro a j hj
          exact a j (by omega)
      · subst e
        constructor
        · intro a; omega
        · intro a; exact absurd hm2 (a r (by omega))
    refine s_X12_ways_4 Q _ _ _ ?_
    simp only [b_X12_ways_4, hl, lay_pI, lay_wI, lay_pJ, lm_t hl, lm_k hl, lm_r hl, lm_l hl, i_push, i_ild, i_ald, i_ist, i_ast, i_inc, i_bin, i_un, i_divs, i_i2l, i_lshl, i_lor, i_dup, i_dup2, i_pop, i_if, i_cmp, i_nul, i_vret, i_iret, i_zret, i_aret, i_keep, keep, lget, lset, ent, i_getI, i_getJ, i_getR, i_getN, i_putI, i_putZ, i_putJ, i_putR, i_iald, i_bald, i_alen, i_aald, i_iast, i_bast, i_aast, i_new, i_newa, i_anew, i_oini, i_callS, i_callV, i_callI, popn, sh4, i_sw, swP, i_copy, i_binS, List.map, Option.toList_none, Option.toList_some, List.append, List.nil_append, List.cons_append, List.length_cons, List.length_nil, List.replicate, Nat.sub_self, Nat.reduceSub, Nat.reduceAdd, hK_pI, hL_pI, hI_pI, hR_pI, hJ_pI, hT_pI, hS_pI, hK_pR, hL_pR, hI_pR, hR_pR, hJ_pR, hT_pR, hS_pR, hK_pJ, hL_pJ, hI_pJ, hR_pJ, hJ_pJ, hT_pJ, hS_pJ, hK_wI, hL_wI, hI_wI, hR_wI, hJ_wI, hT_wI, hS_wI, eq_self, and_true, true_and, and_false, false_and, or_true, true_or, or_false, false_or, if_true, if_false, not_true_eq_false, not_false_eq_true, forall_const, implies_true, false_implies, true_implies, Option.some.injEq, forall_eq', exists_eq_left', reduceCtorEq, Nat.reduceEqDiff, c1, T_X12_in, T_X12_ones, T_X11_within, T_X11_bit, T_X11_isIn, T_X11_oneIfIn, T_J6_bitCount_0f7a4, in0 4 (by decide) (by decide), cl0, hr]
    refine ⟨fun c => absurd c (nI_ge (by omega) (by omega)), fun _ => ?_⟩
    refine ⟨rfl, hl, R, k, r, hR, hr, rfl, hk, rfl, by omega, fun q => ?_, fun q => ?_⟩
    · simp only [c_X12_ways_21, i_push, i_ild, i_ald, i_ist, i_ast, i_inc, i_bin, i_un, i_divs, i_i2l, i_lshl, i_lor, i_dup, i_dup2, i_pop, i_if, i_cmp, i_nul, i_vret, i_iret, i_zret, i_aret, i_keep, keep, lget, lset, ent, i_getI, i_getJ, i_getR, i_getN, i_putI, i_putZ, i_putJ, i_putR, i_iald, i_bald, i_alen, i_aald, i_iast, i_bast, i_aast, i_new, i_newa, i_anew, i_oini, i_callS, i_callV, i_callI, popn, sh4, i_sw, swP, i_copy, i_binS, List.map, Option.toList_none, Option.toList_some, List.append, List.nil_append, List.cons_append, List.length_cons, List.length_nil, List.replicate, Nat.sub_self, Nat.reduceSub, Nat.reduceAdd, hK_pI, hL_pI, hI_pI, hR_pI, hJ_pI, hT_pI, hS_pI, hK_pR, hL_pR, hI_pR, hR_pR, hJ_pR, hT_pR, hS_pR, hK_pJ, hL_pJ, hI_pJ, hR_pJ, hJ_pJ, hT_pJ, hS_pJ, hK_wI, hL_wI, hI_wI, hR_wI, hJ_wI, hT_wI, hS_wI, eq_self, and_true, true_and, and_false, false_and, or_true, true_or, or_false, false_or, if_true, if_false, not_true_eq_false, not_false_eq_true, forall_const, implies_true, false_implies, true_implies, Option.some.injEq, forall_eq', exists_eq_left', reduceCtorEq, Nat.reduceEqDiff, c1, T_X12_in, T_X12_ones, T_X11_within, T_X11_bit, T_X11_isIn, T_X11_oneIfIn, T_J6_bitCount_0f7a4]
      exact ⟨fun z => absurd z (by decide), fun _ => h29 1 (Or.inr ⟨rfl, q⟩)⟩
    · simp only [c_X12_ways_21, i_push, i_ild, i_ald, i_ist, i_ast, i_inc, i_bin, i_un, i_divs, i_i2l, i_lshl, i_lor, i_dup, i_dup2, i_pop, i_if, i_cmp, i_nul, i_vret, i_iret, i_zret, i_aret, i_keep, keep, lget, lset, ent, i_getI, i_getJ, i_getR, i_getN, i_putI, i_putZ, i_putJ, i_putR, i_iald, i_bald, i_alen, i_aald, i_iast, i_bast, i_aast, i_new, i_newa, i_anew, i_oini, i_callS, i_callV, i_callI, popn, sh4, i_sw, swP, i_copy, i_binS, List.map, Option.toList_none, Option.toList_some, List.append, List.nil_append, List.cons_append, List.length_cons, List.length_nil, List.replicate, Nat.sub_self, Nat.reduceSub, Nat.reduceAdd, hK_pI, hL_pI, hI_pI, hR_pI, hJ_pI, hT_pI, hS_pI, hK_pR, hL_pR, hI_pR, hR_pR, hJ_pR, hT_pR, hS_pR, hK_pJ, hL_pJ, hI_pJ, hR_pJ, hJ_pJ, hT_pJ, hS_pJ, hK_wI, hL_wI, hI_wI, hR_wI, hJ_wI, hT_wI, hS_wI, eq_self, and_true, true_and, and_false, false_and, or_true, true_or, or_false, false_or, if_true, if_false, not_true_eq_false, not_false_eq_true, forall_const, implies_true, false_implies, true_implies, Option.some.injEq, forall_eq', exists_eq_left', reduceCtorEq, Nat.reduceEqDiff, c1, T_X12_in, T_X12_ones, T_X11_within, T_X11_bit, T_X11_isIn, T_X11_oneIfIn, T_J6_bitCount_0f7a4]
      first | exact h29 0 (Or.inl ⟨rfl, q⟩) | exact ⟨fun _ => h29 0 (Or.inl ⟨rfl, q⟩), fun z => absurd rfl z⟩
set_option maxRecDepth 100000 in
set_option maxHeartbeats 4000000 in
theorem ok_X12_ways : ctr 2 MX12_ways T_X12_ways := by
  refine ctr_of pn_X12 wc_X12_ways (fun av h Q hT => ?_)
  unfold T_X12_ways at hT
  split at hT
  · rename_i o p
    refine ⟨⟨by simp [Value.category], Nat.le_of_ble_eq_true rfl⟩, s_X12_ways_0 Q _ _ _ ?_⟩
    obtain ⟨rfl, hl, R, k, hR, hr, rfl, hk, hq⟩ := hT
    simp only [MX12_ways, b_X12_ways_0, i_push, i_ild, i_ald, i_ist, i_ast, i_inc, i_bin, i_un, i_divs, i_i2l, i_lshl, i_lor, i_dup, i_dup2, i_pop, i_if, i_cmp, i_nul, i_vret, i_iret, i_zret, i_aret, i_keep, keep, lget, lset, ent, i_getI, i_getJ, i_getR, i_getN, i_putI, i_putZ, i_putJ, i_putR, i_iald, i_bald, i_alen, i_aald, i_iast, i_bast, i_aast, i_new, i_newa, i_anew, i_oini, i_callS, i_callV, i_callI, popn, sh4, i_sw, swP, i_copy, i_binS, List.map, Option.toList_none, Option.toList_some, List.append, List.nil_append, List.cons_append, List.length_cons, List.length_nil, List.replicate, Nat.sub_self, Nat.reduceSub, Nat.reduceAdd, hK_pI, hL_pI, hI_pI, hR_pI, hJ_pI, hT_pI, hS_pI, hK_pR, hL_pR, hI_pR, hR_pR, hJ_pR, hT_pR, hS_pR, hK_pJ, hL_pJ, hI_pJ, hR_pJ, hJ_pJ, hT_pJ, hS_pJ, hK_wI, hL_wI, hI_wI, hR_wI, hJ_wI, hT_wI, hS_wI, eq_self, and_true, true_and, and_false, false_and, or_true, true_or, or_false, false_or, if_true, if_false, not_true_eq_false, not_false_eq_true, forall_const, implies_true, false_implies, true_implies, Option.some.injEq, forall_eq', exists_eq_left', reduceCtorEq, Nat.reduceEqDiff, c1, T_X12_in, T_X12_ones, T_X11_within, T_X11_bit, T_X11_isIn, T_X11_oneIfIn, T_J6_bitCount_0f7a4]
    exact lp_X12_ways Q h hl R k hR hr hk hq R 0 0 (by omega) (by omega) (by omega) ⟨fun _ j hj => absurd hj (by omega), fun _ => rfl⟩
  · exact hT.elim
