/-! ===== the reference: pairs, groups ===== -/
def T_X12_pairs : Tr := fun av h Q => match av with
  | [.ref o] => o = 44 ∧ LayM h ∧ ∃ P, P ≤ 24 ∧ hI h 52 0 = nI P ∧ Q (some (.int (nI (fb_sm (fun p => pct (hI h 62 p) + pct (hI h 63 p)) P / 2)))) h
  | _ => False
def L_X12_pairs : List UInt8 := [3, 60, 3, 61, 28, 42, 180, 0, 32, 3, 46, 162, 0, 31, 27, 42, 180, 0, 62, 28, 46, 184, 1, 8, 42, 180, 0, 65, 28, 46, 184, 1, 8, 96, 96, 60, 132, 2, 1, 167, 255, 221, 27, 5, 108, 172]
theorem Lc_X12_pairs : MX12_pairs.2.1 = ⟨L_X12_pairs.toArray⟩ := rfl
theorem D_X12_pairs_0 : dseq MX12_pairs.2.1 0 [(.iconst 0, 1), (.istore_n 1, 1), (.iconst 0, 1), (.istore_n 2, 1)] := dq Lc_X12_pairs 0 _ (by decide +kernel)
theorem D_X12_pairs_4 : dseq MX12_pairs.2.1 4 [(.iload_n 2, 1), (.aload_n 0, 1), (.getfield 32, 3), (.iconst 0, 1), (.iaload, 1), (.if_icmp .ge 31, 3), (.iload_n 1, 1), (.aload_n 0, 1), (.getfield 62, 3), (.iload_n 2, 1), (.iaload, 1), (.invokestatic 264, 3), (.aload_n 0, 1), (.getfield 65, 3), (.iload_n 2, 1), (.iaload, 1), (.invokestatic 264, 3), (.iadd, 1), (.iadd, 1), (.istore_n 1, 1), (.iinc 2 1, 3), (.goto (-35), 3)] := dq Lc_X12_pairs 4 _ (by decide +kernel)
theorem D_X12_pairs_42 : dseq MX12_pairs.2.1 42 [(.iload_n 1, 1), (.iconst 2, 1), (.idiv, 1), (.ireturn, 1)] := dq Lc_X12_pairs 42 _ (by decide +kernel)
def b_X12_pairs_0 (Q : Option Value → Hp → Prop) : Kt := i_push (.int 0) (i_ist 1 (i_push (.int 0) (i_ist 2 (i_keep [true, true, true] (wp 1 MX12_pairs Q 4)))))
set_option maxRecDepth 100000 in
theorem s_X12_pairs_0 (Q : Option Value → Hp → Prop) : ∀ A st h, b_X12_pairs_0 Q A st h → wp 1 MX12_pairs Q 0 A st h := (q1 (s_iconst (n := 0) (v := 0) (by decide)) D_X12_pairs_0 fun D => (qL (s_istn (n := 1) (i := 1) rfl) (by decide) D fun D => (q1 (s_iconst (n := 0) (v := 0) (by decide)) D fun D => (qL (s_istn (n := 2) (i := 2) rfl) (by decide) D fun D => (s_keep [true, true, true] fun _ _ _ h => h)))))
def b_X12_pairs_4 (Q : Option Value → Hp → Prop) : Kt := i_ild 2 (i_ald 0 (i_getR 12 9 (i_push (.int 0) (i_iald (i_cmp (fun x y => y ≤ x) (i_ild 1 (i_push (.int 2) (i_divs (fun x y => x / y) (i_iret Q)))) (i_ild 1 (i_ald 0 (i_getR 12 19 (i_ild 2 (i_iald (i_callS 1 T_X12_ones (i_ald 0 (i_getR 12 20 (i_ild 2 (i_iald (i_callS 1 T_X12_ones (i_bin (fun x y => x + y) (i_bin (fun x y => x + y) (i_ist 1 (i_inc 2 1 (i_keep [true, true, true] (wp 1 MX12_pairs Q 4))))))))))))))))))))))
set_option maxRecDepth 100000 in
theorem s_X12_pairs_4 (Q : Option Value → Hp → Prop) : ∀ A st h, b_X12_pairs_4 Q A st h → wp 1 MX12_pairs Q 4 A st h := (q1 (s_ildn (n := 2) (i := 2) rfl) D_X12_pairs_4 fun D => (q1 (s_aldn (n := 0) (i := 0) rfl) D fun D => (qC fl_X12_32 rfl D fun D => (q1 (s_iconst (n := 0) (v := 0) (by decide)) D fun D => (q1 s_iald D fun D => (qB s_cmpge 42 (by decide) D (q1 (s_ildn (n := 1) (i := 1) rfl) D_X12_pairs_42 fun D => (q1 (s_iconst (n := 2) (v := 2) (by decide)) D fun D => (q1 s_div D fun D => (qI rfl D)))) fun D => (q1 (s_ildn (n := 1) (i := 1) rfl) D fun D => (q1 (s_aldn (n := 0) (i := 0) rfl) D fun D => (qC fl_X12_62 rfl D fun D => (q1 (s_ildn (n := 2) (i := 2) rfl) D fun D => (q1 s_iald D fun D => (qX (s_callS ok_X12_ones mo_X12_ones (ch_6_4_ok.2.2.2.1.1 rfl) (ch_6_4_ok.2.2.2.2.1.1 rfl)) rfl (by decide) D fun D => (q1 (s_aldn (n := 0) (i := 0) rfl) D fun D => (qC fl_X12_65 rfl D fun D => (q1 (s_ildn (n := 2) (i := 2) rfl) D fun D => (q1 s_iald D fun D => (qX (s_callS ok_X12_ones mo_X12_ones (ch_6_4_ok.2.2.2.1.1 rfl) (ch_6_4_ok.2.2.2.2.1.1 rfl)) rfl (by decide) D fun D => (q1 s_add D fun D => (q1 s_add D fun D => (qL (s_istn (n := 1) (i := 1) rfl) (by decide) D fun D => (qL (s_inc (i := 2) (n := 1) (v := 1) (by decide)) (by decide) D fun D => (qG 4 (by decide) D (s_keep [true, true, true] fun _ _ _ h => h)))))))))))))))))))))))

theorem lp_X12_pairs (Q : Option Value → Hp → Prop) (h : Hp) (hl : LayM h) (P : Nat) (hP : P ≤ 24) (h52 : hI h 52 0 = nI P) (hq : Q (some (.int (nI (fb_sm (fun p => pct (hI h 62 p) + pct (hI h 63 p)) P / 2)))) h) :
    ∀ (m p : Nat), m = P - p → p ≤ P → wp 1 MX12_pairs Q 4 [some (.ref 44), some (.int (nI (fb_sm (fun p => pct (hI h 62 p) + pct (hI h 63 p)) p))), some (.int (nI p))] [] h := by
  have hb : ∀ p, p ≤ P → fb_sm (fun p => pct (hI h 62 p) + pct (hI h 63 p)) p ≤ p * 64 := fun p _ => fb_sm_bound (fun k _ => by have := pct_le (hI h 62 k); have := pct_le (hI h 63 k); omega)
  have h2 : ¬ (2 : Int32) = 0 := by decide
  intro m
  induction m with
  | zero =>
    intro p hm hp
    have e : p = P := by omega
    subst e
    have := hb p (Nat.le_refl p)
    have ed : nI (fb_sm (fun p => pct (hI h 62 p) + pct (hI h 63 p)) p) / 2 = nI (fb_sm (fun p => pct (hI h 62 p) + pct (hI h 63 p)) p / 2) := pk_div (d := 2) (by omega) (by decide) (by decide)
    refine s_X12_pairs_4 Q _ _ _ ?_
    simp only [b_X12_pairs_4, hl, lay_pI, lay_wI, lay_pJ, lm_t hl, lm_k hl, lm_r hl, lm_l hl, i_push, i_ild, i_ald, i_ist, i_ast, i_inc, i_bin, i_un, i_divs, i_i2l, i_lshl, i_lor, i_dup, i_dup2, i_pop, i_if, i_cmp, i_nul, i_vret, i_iret, i_zret, i_aret, i_keep, keep, lget, lset, ent, i_getI, i_getJ, i_getR, i_getN, i_putI, i_putZ, i_putJ, i_putR, i_iald, i_bald, i_alen, i_aald, i_iast, i_bast, i_aast, i_new, i_newa, i_anew, i_oini, i_callS, i_callV, i_callI, popn, sh4, i_sw, swP, i_copy, i_binS, List.map, Option.toList_none, Option.toList_some, List.append, List.nil_append, List.cons_append, List.length_cons, List.length_nil, List.replicate, Nat.sub_self, Nat.reduceSub, Nat.reduceAdd, hK_pI, hL_pI, hI_pI, hR_pI, hJ_pI, hT_pI, hS_pI, hK_pR, hL_pR, hI_pR, hR_pR, hJ_pR, hT_pR, hS_pR, hK_pJ, hL_pJ, hI_pJ, hR_pJ, hJ_pJ, hT_pJ, hS_pJ, hK_wI, hL_wI, hI_wI, hR_wI, hJ_wI, hT_wI, hS_wI, eq_self, and_true, true_and, and_false, false_and, or_true, true_or, or_false, false_or, if_true, if_false, not_true_eq_false, not_false_eq_true, forall_const, implies_true, false_implies, true_implies, Option.some.injEq, forall_eq', exists_eq_left', reduceCtorEq, Nat.reduceEqDiff, c1, T_X12_in, T_X12_ones, T_X11_within, T_X11_bit, T_X11_isIn, T_X11_oneIfIn, T_J6_bitCount_0f7a4, in0 4 (by decide) (by decide), cl0, h52, h2, ed]
    exact ⟨fun _ => hq, fun c => absurd (nI_le (Nat.le_refl _) (by omega)) c⟩
  | succ m ih =>
    intro p hm hp
    refine s_X12_pairs_4 Q _ _ _ ?_
    simp only [b_X12_pairs_4, hl, lay_pI, lay_wI, lay_pJ, lm_t hl, lm_k hl, lm_r hl, lm_l hl, i_push, i_ild, i_ald, i_ist, i_ast, i_inc, i_bin, i_un, i_divs, i_i2l, i_lshl, i_lor, i_dup, i_dup2, i_pop, i_if, i_cmp, i_nul, i_vret, i_iret, i_zret, i_aret, i_keep, keep, lget, lset, ent, i_getI, i_getJ, i_getR, i_getN, i_putI, i_putZ, i_putJ, i_putR, i_iald, i_bald, i_alen, i_aald, i_iast, i_bast, i_aast, i_new, i_newa, i_anew, i_oini, i_callS, i_callV, i_callI, popn, sh4, i_sw, swP, i_copy, i_binS, List.map, Option.toList_none, Option.toList_some, List.append, List.nil_append, List.cons_append, List.length_cons, List.length_nil, List.replicate, Nat.sub_self, Nat.reduceSub, Nat.reduceAdd, hK_pI, hL_pI, hI_pI, hR_pI, hJ_pI, hT_pI, hS_pI, hK_pR, hL_pR, hI_pR, hR_pR, hJ_pR, hT_pR, hS_pR, hK_pJ, hL_pJ, hI_pJ, hR_pJ, hJ_pJ, hT_pJ, hS_pJ, hK_wI, hL_wI, hI_wI, hR_wI, hJ_wI, hT_wI, hS_wI, eq_self, and_true, true_and, and_false, false_and, or_true, true_or, or_false, false_or, if_true, if_false, not_true_eq_false, not_false_eq_true, forall_const, implies_true, false_implies, true_implies, Option.some.injEq, forall_eq', exists_eq_left', reduceCtorEq, Nat.reduceEqDiff, c1, T_X12_in, T_X12_ones, T_X11_within, T_X11_bit, T_X11_isIn, T_X11_oneIfIn, T_J6_bitCount_0f7a4, in0 4 (by decide) (by decide), cl0, h52, h2, cl_nI (show p < 2147483648 by omega), in_nI (show p < 96 by omega) (by decide), nI_add, nI_1]
    refine ⟨fun c => absurd c (nI_ge (by omega) (by omega)), fun _ => ?_⟩
    exact ih (p + 1) (by omega) (by omega)
set_option maxRecDepth 100000 in
set_option maxHeartbeats 4000000 in
theorem ok_X12_pairs : ctr 1 MX12_pairs T_X12_pairs := by
  refine ctr_of pn_X12 wc_X12_pairs (fun av h Q hT => ?_)
  unfold T_X12_pairs at hT
  split at hT
  · rename_i o
    refine ⟨⟨by simp [Value.category], Nat.le_of_ble_eq_true rfl⟩, s_X12_pairs_0 Q _ _ _ ?_⟩
    obtain ⟨rfl, hl, P, hP, h52, hq⟩ := hT
    simp only [MX12_pairs, b_X12_pairs_0, i_push, i_ild, i_ald, i_ist, i_ast, i_inc, i_bin, i_un, i_divs, i_i2l, i_lshl, i_lor, i_dup, i_dup2, i_pop, i_if, i_cmp, i_nul, i_vret, i_iret, i_zret, i_aret, i_keep, keep, lget, lset, ent, i_getI, i_getJ, i_getR, i_getN, i_putI, i_putZ, i_putJ, i_putR, i_iald, i_bald, i_alen, i_aald, i_iast, i_bast, i_aast, i_new, i_newa, i_anew, i_oini, i_callS, i_callV, i_callI, popn, sh4, i_sw, swP, i_copy, i_binS, List.map, Option.toList_none, Option.toList_some, List.append, List.nil_append, List.cons_append, List.length_cons, List.length_nil, List.replicate, Nat.sub_self, Nat.reduceSub, Nat.reduceAdd, hK_pI, hL_pI, hI_pI, hR_pI, hJ_pI, hT_pI, hS_pI, hK_pR, hL_pR, hI_pR, hR_pR, hJ_pR, hT_pR, hS_pR, hK_pJ, hL_pJ, hI_pJ, hR_pJ, hJ_pJ, hT_pJ, hS_pJ, hK_wI, hL_wI, hI_wI, hR_wI, hJ_wI, hT_wI, hS_wI, eq_self, and_true, true_and, and_false, false_and, or_true, true_or, or_false, false_or, if_true, if_false, not_true_eq_false, not_false_eq_true, forall_const, implies_true, false_implies, true_implies, Option.some.injEq, forall_eq', exists_eq_left', reduceCtorEq, Nat.reduceEqDiff, c1, T_X12_in, T_X12_ones, T_X11_within, T_X11_bit, T_X11_isIn, T_X11_oneIfIn, T_J6_bitCount_0f7a4]
    exact lp_X12_pairs Q h hl P hP h52 hq P 0 (by omega) (by omega)
  · exact hT.elim
def T_X12_lacksOne : Tr := fun av h Q => match av with
  | [.ref o, .int g, .int am] => o = 44 ∧ LayM h ∧ ∃ P, P ≤ 24 ∧ hI h 52 0 = nI P ∧ ((∃ q, q < P ∧ bt g q = true ∧ ¬ hI h 63 q &&& (am ^^^ (-1)) = 0) → Q (some (.int 1)) h) ∧ (¬ (∃ q, q < P ∧ bt g q = true ∧ ¬ hI h 63 q &&& (am ^^^ (-1)) = 0) → Q (some (.int 0)) h)
  | _ => False
def L_X12_lacksOne : List UInt8 := [3, 62, 29, 42, 180, 0, 32, 3, 46, 162, 0, 32, 27, 29, 122, 4, 126, 153, 0, 18, 42, 180, 0, 65, 29, 46, 28, 2, 130, 126, 153, 0, 5, 4, 172, 132, 3, 1, 167, 255, 220, 3, 172]
theorem Lc_X12_lacksOne : MX12_lacksOne.2.1 = ⟨L_X12_lacksOne.toArray⟩ := rfl
theorem D_X12_lacksOne_0 : dseq MX12_lacksOne.2.1 0 [(.iconst 0, 1), (.istore_n 3, 1)] := dq Lc_X12_lacksOne 0 _ (by decide +kernel)
theorem D_X12_lacksOne_2 : dseq MX12_lacksOne.2.1 2 [(.iload_n 3, 1), (.aload_n 0, 1), (.getfield 32, 3), (.iconst 0, 1), (.iaload, 1), (.if_icmp .ge 32, 3), (.iload_n 1, 1), (.iload_n 3, 1), (.ishr, 1), (.iconst 1, 1), (.iand, 1), (.ifCond .eq 18, 3), (.aload_n 0, 1), (.getfield 65, 3), (.iload_n 3, 1), (.iaload, 1), (.iload_n 2, 1), (.iconst (-1), 1), (.ixor, 1), (.iand, 1), (.ifCond .eq 5, 3), (.iconst 1, 1), (.ireturn, 1)] := dq Lc_X12_lacksOne 2 _ (by decide +kernel)
theorem D_X12_lacksOne_41 : dseq MX12_lacksOne.2.1 41 [(.iconst 0, 1), (.ireturn, 1)] := dq Lc_X12_lacksOne 41 _ (by decide +kernel)
theorem D_X12_lacksOne_35 : dseq MX12_lacksOne.2.1 35 [(.iinc 3 1, 3), (.goto (-36), 3)] := dq Lc_X12_lacksOne 35 _ (by decide +kernel)
def b_X12_lacksOne_0 (Q : Option Value → Hp → Prop) : Kt := i_push (.int 0) (i_ist 3 (i_keep [true, true, true, true] (wp 0 MX12_lacksOne Q 2)))
set_option maxRecDepth 100000 in
theorem s_X12_lacksOne_0 (Q : Option Value → Hp → Prop) : ∀ A st h, b_X12_lacksOne_0 Q A st h → wp 0 MX12_lacksOne Q 0 A st h := (q1 (s_iconst (n := 0) (v := 0) (by decide)) D_X12_lacksOne_0 fun D => (qL (s_istn (n := 3) (i := 3) rfl) (by decide) D fun D => (s_keep [true, true, true, true] fun _ _ _ h => h)))
def b_X12_lacksOne_2 (Q : Option Value → Hp → Prop) : Kt := i_ild 3 (i_ald 0 (i_getR 12 9 (i_push (.int 0) (i_iald (i_cmp (fun x y => y ≤ x) (i_push (.int 0) (i_zret Q)) (i_ild 1 (i_ild 3 (i_bin (fun x y => x >>> (y &&& 31)) (i_push (.int 1) (i_bin (fun x y => x &&& y) (i_if (fun x => x = 0) (i_keep [true, true, true, true] (wp 0 MX12_lacksOne Q 35)) (i_ald 0 (i_getR 12 20 (i_ild 3 (i_iald (i_ild 2 (i_push (.int (-1)) (i_bin (fun x y => x ^^^ y) (i_bin (fun x y => x &&& y) (i_if (fun x => x = 0) (i_keep [true, true, true, true] (wp 0 MX12_lacksOne Q 35)) (i_push (.int 1) (i_zret Q))))))))))))))))))))))
set_option maxRecDepth 100000 in
theorem s_X12_lacksOne_2 (Q : Option Value → Hp → Prop) : ∀ A st h, b_X12_lacksOne_2 Q A st h → wp 0 MX12_lacksOne Q 2 A st h := (q1 (s_ildn (n := 3) (i := 3) rfl) D_X12_lacksOne_2 fun D => (q1 (s_aldn (n := 0) (i := 0) rfl) D fun D => (qC fl_X12_32 rfl D fun D => (q1 (s_iconst (n := 0) (v := 0) (by decide)) D fun D => (q1 s_iald D fun D => (qB s_cmpge 41 (by decide) D (q1 (s_iconst (n := 0) (v := 0) (by decide)) D_X12_lacksOne_41 fun D => (qZ rfl D)) fun D => (q1 (s_ildn (n := 1) (i := 1) rfl) D fun D => (q1 (s_ildn (n := 3) (i := 3) rfl) D fun D => (q1 s_shr D fun D => (q1 (s_iconst (n := 1) (v := 1) (by decide)) D fun D => (q1 s_and D fun D => (qB s_ifeq 35 (by decide) D (s_keep [true, true, true, true] fun _ _ _ h => h) fun D => (q1 (s_aldn (n := 0) (i := 0) rfl) D fun D => (qC fl_X12_65 rfl D fun D => (q1 (s_ildn (n := 3) (i := 3) rfl) D fun D => (q1 s_iald D fun D => (q1 (s_ildn (n := 2) (i := 2) rfl) D fun D => (q1 (s_iconst (n := (-1)) (v := (-1)) (by decide)) D fun D => (q1 s_xor D fun D => (q1 s_and D fun D => (qB s_ifeq 35 (by decide) D (s_keep [true, true, true, true] fun _ _ _ h => h) fun D => (q1 (s_iconst (n := 1) (v := 1) (by decide)) D fun D => (qZ rfl D)))))))))))))))))))))))
def b_X12_lacksOne_35 (Q : Option Value → Hp → Prop) : Kt := i_inc 3 1 (i_keep [true, true, true, true] (wp 0 MX12_lacksOne Q 2))
set_option maxRecDepth 100000 in
theorem s_X12_lacksOne_35 (Q : Option Value → Hp → Prop) : ∀ A st h, b_X12_lacksOne_35 Q A st h → wp 0 MX12_lacksOne Q 35 A st h := (qL (s_inc (i := 3) (n := 1) (v := 1) (by decide)) (by decide) D_X12_lacksOne_35 fun D => (qG 2 (by decide) D (s_keep [true, true, true, true] fun _ _ _ h => h)))

theorem lp_X12_lacksOne (Q : Option Value → Hp → Prop) (h : Hp) (hl : LayM h) (P : Nat) (g am : Int32) (hP : P ≤ 24) (h52 : hI h 52 0 = nI P) (hq1 : (∃ q, q < P ∧ bt g q = true ∧ ¬ hI h 63 q &&& (am ^^^ (-1)) = 0) → Q (some (.int 1)) h) (hq2 : ¬ (∃ q, q < P ∧ bt g q = true ∧ ¬ hI h 63 q &&& (am ^^^ (-1)) = 0) → Q (some (.int 0)) h) :
    ∀ (m p : Nat), m = P - p → p ≤ P → (∀ q, q < p → bt g q = true → hI h 63 q &&& (am ^^^ (-1)) = 0) → wp 0 MX12_lacksOne Q 2 [some (.ref 44), some (.int g), some (.int am), some (.int (nI p))] [] h := by
  intro m
  induction m with
  | zero =>
    intro p hm hp hall
    have e : p = P := by omega
    subst e
    refine s_X12_lacksOne_2 Q _ _ _ ?_
    simp only [b_X12_lacksOne_2, hl, lay_pI, lay_wI, lay_pJ, lm_t hl, lm_k hl, lm_r hl, lm_l hl, i_push, i_ild, i_ald, i_ist, i_ast, i_inc, i_bin, i_un, i_divs, i_i2l, i_lshl, i_lor, i_dup, i_dup2, i_pop, i_if, i_cmp, i_nul, i_vret, i_iret, i_zret, i_aret, i_keep, keep, lget, lset, ent, i_getI, i_getJ, i_getR, i_getN, i_putI, i_putZ, i_putJ, i_putR, i_iald, i_bald, i_alen, i_aald, i_iast, i_bast, i_aast, i_new, i_newa, i_anew, i_oini, i_callS, i_callV, i_callI, popn, sh4, i_sw, swP, i_copy, i_binS, List.map, Option.toList_none, Option.toList_some, List.append, List.nil_append, List.cons_append, List.length_cons, List.length_nil, List.replicate, Nat.sub_self, Nat.reduceSub, Nat.reduceAdd, hK_pI, hL_pI, hI_pI, hR_pI, hJ_pI, hT_pI, hS_pI, hK_pR, hL_pR, hI_pR, hR_pR, hJ_pR, hT_pR, hS_pR, hK_pJ, hL_pJ, hI_pJ, hR_pJ, hJ_pJ, hT_pJ, hS_pJ, hK_wI, hL_wI, hI_wI, hR_wI, hJ_wI, hT_wI, hS_wI, eq_self, and_true, true_and, and_false, false_and, or_true, true_or, or_false, false_or, if_true, if_false, not_true_eq_false, not_false_eq_true, forall_const, implies_true, false_implies, true_implies, Option.some.injEq, forall_eq', exists_eq_left', reduceCtorEq, Nat.reduceEqDiff, c1, T_X12_in, T_X12_ones, T_X11_within, T_X11_bit, T_X11_isIn, T_X11_oneIfIn, T_J6_bitCount_0f7a4, in0 4 (by decide) (by decide), cl0, h52]
    exact ⟨fun _ => hq2 (fun ⟨q, a, b, c⟩ => c (hall q a b)), fun c => absurd (nI_le (Nat.le_refl _) (by omega)) c⟩
  | succ m ih =>
    intro p hm hp hall
    have h35 : (bt g p = true → hI h 63 p &&& (am ^^^ (-1)) = 0) → wp 0 MX12_lacksOne Q 35 [some (.ref 44), some (.int g), some (.int am), some (.int (nI p))] [] h := by
      intro hz
      refine s_X12_lacksOne_35 Q _ _ _ ?_
      simp only [b_X12_lacksOne_35, i_push, i_ild, i_ald, i_ist, i_ast, i_inc, i_bin, i_un, i_divs, i_i2l, i_lshl, i_lor, i_dup, i_dup2, i_pop, i_if, i_cmp, i_nul, i_vret, i_iret, i_zret, i_aret, i_keep, keep, lget, lset, ent, i_getI, i_getJ, i_getR, i_getN, i_putI, i_putZ, i_putJ, i_putR, i_iald, i_bald, i_alen, i_aald, i_iast, i_bast, i_aast, i_new, i_newa, i_anew, i_oini, i_callS, i_callV, i_callI, popn, sh4, i_sw, swP, i_copy, i_binS, List.map, Option.toList_none, Option.toList_some, List.append, List.nil_append, List.cons_append, List.length_cons, List.length_nil, List.replicate, Nat.sub_self, Nat.reduceSub, Nat.reduceAdd, hK_pI, hL_pI, hI_pI, hR_pI, hJ_pI, hT_pI, hS_pI, hK_pR, hL_pR, hI_pR, hR_pR, hJ_pR, hT_pR, hS_pR, hK_pJ, hL_pJ, hI_pJ, hR_pJ, hJ_pJ, hT_pJ, hS_pJ, hK_wI, hL_wI, hI_wI, hR_wI, hJ_wI, hT_wI, hS_wI, eq_self, and_true, true_and, and_false, false_and, or_true, true_or, or_false, false_or, if_true, if_false, not_true_eq_false, not_false_eq_true, forall_const, implies_true, false_implies, true_implies, Option.some.injEq, forall_eq', exists_eq_left', reduceCtorEq, Nat.reduceEqDiff, c1, T_X12_in, T_X12_ones, T_X11_within, T_X11_bit, T_X11_isIn, T_X11_oneIfIn, T_J6_bitCount_0f7a4, nI_1]
      refine ih (p + 1) (by omega) (by omega) (fun q hq hb => ?_)
      rcases Nat.lt_or_ge q p with r | r
      · exact hall q r hb
      · have : q = p := by omega
        subst this
        exact hz hb
    refine s_X12_lacksOne_2 Q _ _ _ ?_
    simp only [b_X12_lacksOne_2, hl, lay_pI, lay_wI, lay_pJ, lm_t hl, lm_k hl, lm_r hl, lm_l hl, i_push, i_ild, i_ald, i_ist, i_ast, i_inc, i_bin, i_un, i_divs, i_i2l, i_lshl, i_lor, i_dup, i_dup2, i_pop, i_if, i_cmp, i_nul, i_vret, i_iret, i_zret, i_aret, i_keep, keep, lget, lset, ent, i_getI, i_getJ, i_getR, i_getN, i_putI, i_putZ, i_putJ, i_putR, i_iald, i_bald, i_alen, i_aald, i_iast, i_bast, i_aast, i_new, i_newa, i_anew, i_oini, i_callS, i_callV, i_callI, popn, sh4, i_sw, swP, i_copy, i_binS, List.map, Option.toList_none, Option.toList_some, List.append, List.nil_append, List.cons_append, List.length_cons, List.length_nil, List.replicate, Nat.sub_self, Nat.reduceSub, Nat.reduceAdd, hK_pI, hL_pI, hI_pI, hR_pI, hJ_pI, hT_pI, hS_pI, hK_pR, hL_pR, hI_pR, hR_pR, hJ_pR, hT_pR, hS_pR, hK_pJ, hL_pJ, hI_pJ, hR_pJ, hJ_pJ, hT_pJ, hS_pJ, hK_wI, hL_wI, hI_wI, hR_wI, hJ_wI, hT_wI, hS_wI, eq_self, and_true, true_and, and_false, false_and, or_true, true_or, or_false, false_or, if_true, if_false, not_true_eq_false, not_false_eq_true, forall_const, implies_true, false_implies, true_implies, Option.some.injEq, forall_eq', exists_eq_left', reduceCtorEq, Nat.reduceEqDiff, c1, T_X12_in, T_X12_ones, T_X11_within, T_X11_bit, T_X11_isIn, T_X11_oneIfIn, T_J6_bitCount_0f7a4, in0 4 (by decide) (by decide), cl0, h52, sh_bt g (show p < 32 by omega), cl_nI (show p < 2147483648 by omega), in_nI (show p < 96 by omega) (by decide)]
    refine ⟨fun c => absurd c (nI_ge (by omega) (by omega)), fun _ => ⟨fun c => h35 (fun z => by rw [c] at z; cases z), fun c => ⟨fun z => h35 (fun _ => z), fun z => hq1 ⟨p, by omega, by simpa using c, z⟩⟩⟩⟩
set_option maxRecDepth 100000 in
set_option maxHeartbeats 4000000 in
theorem ok_X12_lacksOne : ctr 0 MX12_lacksOne T_X12_lacksOne := by
  refine ctr_of pn_X12 wc_X12_lacksOne (fun av h Q hT => ?_)
  unfold T_X12_lacksOne at hT
  split at hT
  · rename_i o g am
    refine ⟨⟨by simp [Value.category], Nat.le_of_ble_eq_true rfl⟩, s_X12_lacksOne_0 Q _ _ _ ?_⟩
    obtain ⟨rfl, hl, P, hP, h52, hq1, hq2⟩ := hT
    simp only [MX12_lacksOne, b_X12_lacksOne_0, i_push, i_ild, i_ald, i_ist, i_ast, i_inc, i_bin, i_un, i_divs, i_i2l, i_lshl, i_lor, i_dup, i_dup2, i_pop, i_if, i_cmp, i_nul, i_vret, i_iret, i_zret, i_aret, i_keep, keep, lget, lset, ent, i_getI, i_getJ, i_getR, i_getN, i_putI, i_putZ, i_putJ, i_putR, i_iald, i_bald, i_alen, i_aald, i_iast, i_bast, i_aast, i_new, i_newa, i_anew, i_oini, i_callS, i_callV, i_callI, popn, sh4, i_sw, swP, i_copy, i_binS, List.map, Option.toList_none, Option.toList_some, List.append, List.nil_append, List.cons_append, List.length_cons, List.length_nil, List.replicate, Nat.sub_self, Nat.reduceSub, Nat.reduceAdd, hK_pI, hL_pI, hI_pI, hR_pI, hJ_pI, hT_pI, hS_pI, hK_pR, hL_pR, hI_pR, hR_pR, hJ_pR, hT_pR, hS_pR, hK_pJ, hL_pJ, hI_pJ, hR_pJ, hJ_pJ, hT_pJ, hS_pJ, hK_wI, hL_wI, hI_wI, hR_wI, hJ_wI, hT_wI, hS_wI, eq_self, and_true, true_and, and_false, false_and, or_true, true_or, or_false, false_or, if_true, if_false, not_true_eq_false, not_false_eq_true, forall_const, implies_true, false_implies, true_implies, Option.some.injEq, forall_eq', exists_eq_left', reduceCtorEq, Nat.reduceEqDiff, c1, T_X12_in, T_X12_ones, T_X11_within, T_X11_bit, T_X11_isIn, T_X11_oneIfIn, T_J6_bitCount_0f7a4]
    exact lp_X12_lacksOne Q h hl P g am hP h52 hq1 hq2 P 0 (by omega) (by omega) (fun q hq => absurd hq (by omega))
  · exact hT.elim
/-- bits of x are bits of y -/
def sub (x y : Int32) : Prop := ∀ i, bt x i = true → bt y i = true
/-- closed under PAIRS TOGETHER among some -/
def clo (I : Nat → Nat → Int32) (P : Nat) (am : Int32) (S : Nat → Prop) : Prop := ∀ q i, q < P → S q → bt (I 63 q) i = true → bt am i = true → S i
def T_X12_hanging : Tr := fun av h Q => match av with
  | [.ref o, .int p, .int am] => o = 44 ∧ LayM h ∧ ∃ P k, P ≤ 24 ∧ hI h 52 0 = nI P ∧ p = nI k ∧ k < P ∧ ∀ g, bt g k = true → clo (hI h) P am (fun i => bt g i = true) → (∀ S : Nat → Prop, S k → clo (hI h) P am S → ∀ i, bt g i = true → S i) → Q (some (.int g)) h
  | _ => False
def L_X12_hanging : List UInt8 := [4, 27, 120, 62, 3, 54, 4, 29, 21, 4, 159, 0, 54, 29, 54, 4, 3, 54, 5, 21, 5, 42, 180, 0, 32, 3, 46, 162, 0, 34, 29, 29, 21, 5, 122, 4, 126, 153, 0, 15, 42, 180, 0, 65, 21, 5, 46, 28, 126, 167, 0, 4, 3, 128, 62, 132, 5, 1, 167, 255, 217, 167, 255, 202, 29, 172]
theorem Lc_X12_hanging : MX12_hanging.2.1 = ⟨L_X12_hanging.toArray⟩ := rfl
theorem D_X12_hanging_0 : dseq MX12_hanging.2.1 0 [(.iconst 1, 1), (.iload_n 1, 1), (.ishl, 1), (.istore_n 3, 1), (.iconst 0, 1), (.istore 4, 2)] := dq Lc_X12_hanging 0 _ (by decide +kernel)
theorem D_X12_hanging_7 : dseq MX12_hanging.2.1 7 [(.iload_n 3, 1), (.iload 4, 2), (.if_icmp .eq 54, 3), (.iload_n 3, 1), (.istore 4, 2), (.iconst 0, 1), (.istore 5, 2)] := dq Lc_X12_hanging 7 _ (by decide +kernel)
theorem D_X12_hanging_64 : dseq MX12_hanging.2.1 64 [(.iload_n 3, 1), (.ireturn, 1)] := dq Lc_X12_hanging 64 _ (by decide +kernel)
theorem D_X12_hanging_19 : dseq MX12_hanging.2.1 19 [(.iload 5, 2), (.aload_n 0, 1), (.getfield 32, 3), (.iconst 0, 1), (.iaload, 1), (.if_icmp .ge 34, 3), (.iload_n 3, 1), (.iload_n 3, 1), (.iload 5, 2), (.ishr, 1), (.iconst 1, 1), (.iand, 1), (.ifCond .eq 15, 3), (.aload_n 0, 1), (.getfield 65, 3), (.iload 5, 2), (.iaload, 1), (.iload_n 2, 1), (.iand, 1), (.goto 4, 3)] := dq Lc_X12_hanging 19 _ (by decide +kernel)
theorem D_X12_hanging_61 : dseq MX12_hanging.2.1 61 [(.goto (-54), 3)] := dq Lc_X12_hanging 61 _ (by decide +kernel)
theorem D_X12_hanging_52 : dseq MX12_hanging.2.1 52 [(.iconst 0, 1)] := dq Lc_X12_hanging 52 _ (by decide +kernel)
theorem D_X12_hanging_53 : dseq MX12_hanging.2.1 53 [(.ior, 1), (.istore_n 3, 1), (.iinc 5 1, 3), (.goto (-39), 3)] := dq Lc_X12_hanging 53 _ (by decide +kernel)
def b_X12_hanging_0 (Q : Option Value → Hp → Prop) : Kt := i_push (.int 1) (i_ild 1 (i_bin (fun x y => x <<< (y &&& 31)) (i_ist 3 (i_push (.int 0) (i_ist 4 (i_keep [true, false, true, true, true, false] (wp 0 MX12_hanging Q 7)))))))
set_option maxRecDepth 100000 in
theorem s_X12_hanging_0 (Q : Option Value → Hp → Prop) : ∀ A st h, b_X12_hanging_0 Q A st h → wp 0 MX12_hanging Q 0 A st h := (q1 (s_iconst (n := 1) (v := 1) (by decide)) D_X12_hanging_0 fun D => (q1 (s_ildn (n := 1) (i := 1) rfl) D fun D => (q1 s_shl D fun D => (qL (s_istn (n := 3) (i := 3) rfl) (by decide) D fun D => (q1 (s_iconst (n := 0) (v := 0) (by decide)) D fun D => (qL s_ist (by decide) D fun D => (s_keep [true, false, true, true, true, false] fun _ _ _ h => h)))))))
def b_X12_hanging_7 (Q : Option Value → Hp → Prop) : Kt := i_ild 3 (i_ild 4 (i_cmp (fun x y => x = y) (i_ild 3 (i_iret Q)) (i_ild 3 (i_ist 4 (i_push (.int 0) (i_ist 5 (i_keep [true, false, true, true, true, true] (wp 0 MX12_hanging Q 19))))))))
set_option maxRecDepth 100000 in
theorem s_X12_hanging_7 (Q : Option Value → Hp → Prop) : ∀ A st h, b_X12_hanging_7 Q A st h → wp 0 MX12_hanging Q 7 A st h := (q1 (s_ildn (n := 3) (i := 3) rfl) D_X12_hanging_7 fun D => (q1 s_ild D fun D => (qB s_cmpeq 64 (by decide) D (q1 (s_ildn (n := 3) (i := 3) rfl) D_X12_hanging_64 fun D => (qI rfl D)) fun D => (q1 (s_ildn (n := 3) (i := 3) rfl) D fun D => (qL s_ist (by decide) D fun D => (q1 (s_iconst (n := 0) (v := 0) (by decide)) D fun D => (qL s_ist (by decide) D fun D => (s_keep [true, false, true, true, true, true] fun _ _ _ h => h))))))))
def b_X12_hanging_19 (Q : Option Value → Hp → Prop) : Kt := i_ild 5 (i_ald 0 (i_getR 12 9 (i_push (.int 0) (i_iald (i_cmp (fun x y => y ≤ x) (i_keep [true, false, true, true, true, false] (wp 0 MX12_hanging Q 7)) (i_ild 3 (i_ild 3 (i_ild 5 (i_bin (fun x y => x >>> (y &&& 31)) (i_push (.int 1) (i_bin (fun x y => x &&& y) (i_if (fun x => x = 0) (i_push (.int 0) (i_keep [true, false, true, false, true, true] (wp 0 MX12_hanging Q 53))) (i_ald 0 (i_getR 12 20 (i_ild 5 (i_iald (i_ild 2 (i_bin (fun x y => x &&& y) (i_keep [true, false, true, false, true, true] (wp 0 MX12_hanging Q 53))))))))))))))))))))
set_option maxRecDepth 100000 in
theorem s_X12_hanging_19 (Q : Option Value → Hp → Prop) : ∀ A st h, b_X12_hanging_19 Q A st h → wp 0 MX12_hanging Q 19 A st h := (q1 s_ild D_X12_hanging_19 fun D => (q1 (s_aldn (n := 0) (i := 0) rfl) D fun D => (qC fl_X12_32 rfl D fun D => (q1 (s_iconst (n := 0) (v := 0) (by decide)) D fun D => (q1 s_iald D fun D => (qB s_cmpge 61 (by decide) D (qG 7 (by decide) D_X12_hanging_61 (s_keep [true, false, true, true, true, false] fun _ _ _ h => h)) fun D => (q1 (s_ildn (n := 3) (i := 3) rfl) D fun D => (q1 (s_ildn (n := 3) (i := 3) rfl) D fun D => (q1 s_ild D fun D => (q1 s_shr D fun D => (q1 (s_iconst (n := 1) (v := 1) (by decide)) D fun D => (q1 s_and D fun D => (qB s_ifeq 52 (by decide) D (q1 (s_iconst (n := 0) (v := 0) (by decide)) D_X12_hanging_52 fun D => (s_keep [true, false, true, false, true, true] fun _ _ _ h => h)) fun D => (q1 (s_aldn (n := 0) (i := 0) rfl) D fun D => (qC fl_X12_65 rfl D fun D => (q1 s_ild D fun D => (q1 s_iald D fun D => (q1 (s_ildn (n := 2) (i := 2) rfl) D fun D => (q1 s_and D fun D => (qG 53 (by decide) D (s_keep [true, false, true, false, true, true] fun _ _ _ h => h)))))))))))))))))))))
def b_X12_hanging_53 (Q : Option Value → Hp → Prop) : Kt := i_bin (fun x y => x ||| y) (i_ist 3 (i_inc 5 1 (i_keep [true, false, true, true, true, true] (wp 0 MX12_hanging Q 19))))
set_option maxRecDepth 100000 in
theorem s_X12_hanging_53 (Q : Option Value → Hp → Prop) : ∀ A st h, b_X12_hanging_53 Q A st h → wp 0 MX12_hanging Q 53 A st h := (q1 s_or D_X12_hanging_53 fun D => (qL (s_istn (n := 3) (i := 3) rfl) (by decide) D fun D => (qL (s_inc (i := 5) (n := 1) (v := 1) (by decide)) (by decide) D fun D => (qG 19 (by decide) D (s_keep [true, false, true, true, true, true] fun _ _ _ h => h)))))

theorem pct_sub {x y : Int32} (h : sub x y) (hne : ¬ y = x) : pct x < pct y := by
  rw [pct_ct, pct_ct]
  have hle : fb_ct (bt x) 32 ≤ fb_ct (bt y) 32 := fb_ct_sub (fun k _ hk => h k hk)
  rcases Nat.lt_or_ge (fb_ct (bt x) 32) (fb_ct (bt y) 32) with q | q
  · exact q
  · exfalso
    refine hne (b_ext fun i hi => ?_)
    have hsp : fb_ct (bt y) 32 = fb_ct (bt x) 32 + fb_ct (fun k => bt y k && !bt x k) 32 := by
      have h2 := fb_ct_or (p := bt x) (q := fun k => bt y k && !bt x k) (n := 32) (fun k _ hk => by
        obtain ⟨a, b⟩ := hk
        simp only [a, Bool.not_true, Bool.and_false] at b
        cases b)
      rw [← h2]
      apply fb_ct_cong
      intro k _
      cases hx : bt x k with
      | false => simp
      | true => rw [h k hx]; rfl
    have hz : fb_ct (fun k => bt y k && !bt x k) 32 = 0 := by omega
    have := fb_ct_zero.mp hz i hi
    cases hx : bt x i with
    | true => exact h i hx
    | false => simpa [hx] using this
theorem lp19_hanging (Q : Option Value → Hp → Prop) (h : Hp) (hl : LayM h) (P k : Nat) (am before : Int32) (hP : P ≤ 24) (h52 : hI h 52 0 = nI P) (hk : k < P)
    (hout : ∀ g, sub before g → (∀ q, q < P → bt before q = true → ∀ i, bt (hI h 63 q) i = true → bt am i = true → bt g i = true) → (∀ S : Nat → Prop, S k → clo (hI h) P am S → ∀ i, bt g i = true → S i) → wp 0 MX12_hanging Q 7 [some (.ref 44), none, some (.int am), some (.int g), some (.int before), none] [] h) :
    ∀ (m q : Nat) (g : Int32), m = P - q → q ≤ P → sub before g → (∀ j, j < q → bt before j = true → ∀ i, bt (hI h 63 j) i = true → bt am i = true → bt g i = true) → (∀ S : Nat → Prop, S k → clo (hI h) P am S → ∀ i, bt g i = true → S i) → wp 0 MX12_hanging Q 19 [some (.ref 44), none, some (.int am), some (.int g), some (.int before), some (.int (nI q))] [] h := by
  intro m
  induction m with
  | zero =>
    intro q g hm hq hsub hall hmin
    have e : q = P := by omega
    subst e
    refine s_X12_hanging_19 Q _ _ _ ?_
    simp only [b_X12_hanging_19, hl, lay_pI, lay_wI, lay_pJ, lm_t hl, lm_k hl, lm_r hl, lm_l hl, i_push, i_ild, i_ald, i_ist, i_ast, i_inc, i_bin, i_un, i_divs, i_i2l, i_lshl, i_lor, i_dup, i_dup2, i_pop, i_if, i_cmp, i_nul, i_vret, i_iret, i_zret, i_aret, i_keep, keep, lget, lset, ent, i_getI, i_getJ, i_getR, i_getN, i_putI, i_putZ, i_putJ, i_putR, i_iald, i_bald, i_alen, i_aald, i_iast, i_bast, i_aast, i_new, i_newa, i_anew, i_oini, i_callS, i_callV, i_callI, popn, sh4, i_sw, swP, i_copy, i_binS, List.map, Option.toList_none, Option.toList_some, List.append, List.nil_append, List.cons_append, List.length_cons, List.length_nil, List.replicate, Nat.sub_self, Nat.reduceSub, Nat.reduceAdd, hK_pI, hL_pI, hI_pI, hR_pI, hJ_pI, hT_pI, hS_pI, hK_pR, hL_pR, hI_pR, hR_pR, hJ_pR, hT_pR, hS_pR, hK_pJ, hL_pJ, hI_pJ, hR_pJ, hJ_pJ, hT_pJ, hS_pJ, hK_wI, hL_wI, hI_wI, hR_wI, hJ_wI, hT_wI, hS_wI, eq_self, and_true, true_and, and_false, false_and, or_true, true_or, or_false, false_or, if_true, if_false, not_true_eq_false, not_false_eq_true, forall_const, implies_true, false_implies, true_implies, Option.some.injEq, forall_eq', exists_eq_left', reduceCtorEq, Nat.reduceEqDiff, c1, T_X12_in, T_X12_ones, T_X11_within, T_X11_bit, T_X11_isIn, T_X11_oneIfIn, T_J6_bitCount_0f7a4, in0 4 (by decide) (by decide), cl0, h52]
    exact ⟨fun _ => hout g hsub hall hmin, fun c => absurd (nI_le (Nat.le_refl _) (by omega)) c⟩
  | succ m ih =>
    intro q g hm hq hsub hall hmin
    have h53 : ∀ y : Int32, (∀ i, bt y i = true → bt g q = true ∧ bt (hI h 63 q) i = true ∧ bt am i = true) → (bt g q = true → ∀ i, bt (hI h 63 q) i = true → bt am i = true → bt y i = true) → wp 0 MX12_hanging Q 53 [some (.ref 44), none, some (.int am), none, some (.int before), some (.int (nI q))] [.int y, .int g] h := by
      intro y hy1 hy2
      refine s_X12_hanging_53 Q _ _ _ ?_
      simp only [b_X12_hanging_53, i_push, i_ild, i_ald, i_ist, i_ast, i_inc, i_bin, i_un, i_divs, i_i2l, i_lshl, i_lor, i_dup, i_dup2, i_pop, i_if, i_cmp, i_nul, i_vret, i_iret, i_zret, i_aret, i_keep, keep, lget, lset, ent, i_getI, i_getJ, i_getR, i_getN, i_putI, i_putZ, i_putJ, i_putR, i_iald, i_bald, i_alen, i_aald, i_iast, i_bast, i_aast, i_new, i_newa, i_anew, i_oini, i_callS, i_callV, i_callI, popn, sh4, i_sw, swP, i_copy, i_binS, List.map, Option.toList_none, Option.toList_some, List.append, List.nil_append, List.cons_append, List.length_cons, List.length_nil, List.replicate, Nat.sub_self, Nat.reduceSub, Nat.reduceAdd, hK_pI, hL_pI, hI_pI, hR_pI, hJ_pI, hT_pI, hS_pI, hK_pR, hL_pR, hI_pR, hR_pR, hJ_pR, hT_pR, hS_pR, hK_pJ, hL_pJ, hI_pJ, hR_pJ, hJ_pJ, hT_pJ, hS_pJ, hK_wI, hL_wI, hI_wI, hR_wI, hJ_wI, hT_wI, hS_wI, eq_self, and_true, true_and, and_false, false_and, or_true, true_or, or_false, false_or, if_true, if_false, not_true_eq_false, not_false_eq_true, forall_const, implies_true, false_implies, true_implies, Option.some.injEq, forall_eq', exists_eq_left', reduceCtorEq, Nat.reduceEqDiff, c1, T_X12_in, T_X12_ones, T_X11_within, T_X11_bit, T_X11_isIn, T_X11_oneIfIn, T_J6_bitCount_0f7a4, nI_1]
      refine ih (q + 1) (g ||| y) (by omega) (by omega) (fun i hi => ?_) (fun j hj hbj i h1 h2 => ?_) (fun S hS hc i hi => ?_)
      · rw [b_or, hsub i hi]; rfl
      · rw [b_or]
        rcases Nat.lt_or_ge j q with r | r
        · rw [hall j r hbj i h1 h2]; rfl
        · have : j = q := by omega
          subst this
          rw [hy2 (hsub j hbj) i h1 h2, Bool.or_true]
      · rw [b_or] at hi
        simp only [Bool.or_eq_true] at hi
        rcases hi with hi | hi
        · exact hmin S hS hc i hi
        · obtain ⟨a, b, c⟩ := hy1 i hi
          exact hc q i (by omega) (hmin S hS hc q a) b c
    refine s_X12_hanging_19 Q _ _ _ ?_
    simp only [b_X12_hanging_19, hl, lay_pI, lay_wI, lay_pJ, lm_t hl, lm_k hl, lm_r hl, lm_l hl, i_push, i_ild, i_ald, i_ist, i_ast, i_inc, i_bin, i_un, i_divs, i_i2l, i_lshl, i_lor, i_dup, i_dup2, i_pop, i_if, i_cmp, i_nul, i_vret, i_iret, i_zret, i_aret, i_keep, keep, lget, lset, ent, i_getI, i_getJ, i_getR, i_getN, i_putI, i_putZ, i_putJ, i_putR, i_iald, i_bald, i_alen, i_aald, i_iast, i_bast, i_aast, i_new, i_newa, i_anew, i_oini, i_callS, i_callV, i_callI, popn, sh4, i_sw, swP, i_copy, i_binS, List.map, Option.toList_none, Option.toList_some, List.append, List.nil_append, List.cons_append, List.length_cons, List.length_nil, List.replicate, Nat.sub_self, Nat.reduceSub, Nat.reduceAdd, hK_pI, hL_pI, hI_pI, hR_pI, hJ_pI, hT_pI, hS_pI, hK_pR, hL_pR, hI_pR, hR_pR, hJ_pR, hT_pR, hS_pR, hK_pJ, hL_pJ, hI_pJ, hR_pJ, hJ_pJ, hT_pJ, hS_pJ, hK_wI, hL_wI, hI_wI, hR_wI, hJ_wI, hT_wI, hS_wI, eq_self, and_true, true_and, and_false, false_and, or_true, true_or, or_false, false_or, if_true, if_false, not_true_eq_false, not_false_eq_true, forall_const, implies_true, false_implies, true_implies, Option.some.injEq, forall_eq', exists_eq_left', reduceCtorEq, Nat.reduceEqDiff, c1, T_X12_in, T_X12_ones, T_X11_within, T_X11_bit, T_X11_isIn, T_X11_oneIfIn, T_J6_bitCount_0f7a4, in0 4 (by decide) (by decide), cl0, h52, sh_bt g (show q < 32 by omega), cl_nI (show q < 2147483648 by omega), in_nI (show q < 96 by omega) (by decide)]
    refine ⟨fun c => absurd c (nI_ge (by omega) (by omega)), fun _ => ⟨fun c => h53 0 (fun i hi => by rw [b_0] at hi; cases hi) (fun z => by rw [c] at z; cases z), fun c => h53 _ (fun i hi => ?_) (fun _ i h1 h2 => ?_)⟩⟩
    · rw [b_and] at hi
      simp only [Bool.and_eq_true] at hi
      exact ⟨by simpa using c, hi.1, hi.2⟩
    · rw [b_and, h1, h2]; rfl
theorem lp7_hanging (Q : Option Value → Hp → Prop) (h : Hp) (hl : LayM h) (P k : Nat) (am : Int32) (hP : P ≤ 24) (h52 : hI h 52 0 = nI P) (hk : k < P)
    (hq : ∀ g, bt g k = true → clo (hI h) P am (fun i => bt g i = true) → (∀ S : Nat → Prop, S k → clo (hI h) P am S → ∀ i, bt g i = true → S i) → Q (some (.int g)) h) :
    ∀ (m : Nat) (g before : Int32), 32 ≤ m + pct before → bt g k = true → sub before g → (∀ q, q < P → bt before q = true → ∀ i, bt (hI h 63 q) i = true → bt am i = true → bt g i = true) → (∀ S : Nat → Prop, S k → clo (hI h) P am S → ∀ i, bt g i = true → S i) → wp 0 MX12_hanging Q 7 [some (.ref 44), none, some (.int am), some (.int g), some (.int before), none] [] h := by
  intro m
  induction m with
  | zero =>
    intro g before hm hb hsub hall hmin
    refine s_X12_hanging_7 Q _ _ _ ?_
    simp only [b_X12_hanging_7, i_push, i_ild, i_ald, i_ist, i_ast, i_inc, i_bin, i_un, i_divs, i_i2l, i_lshl, i_lor, i_dup, i_dup2, i_pop, i_if, i_cmp, i_nul, i_vret, i_iret, i_zret, i_aret, i_keep, keep, lget, lset, ent, i_getI, i_getJ, i_getR, i_getN, i_putI, i_putZ, i_putJ, i_putR, i_iald, i_bald, i_alen, i_aald, i_iast, i_bast, i_aast, i_new, i_newa, i_anew, i_oini, i_callS, i_callV, i_callI, popn, sh4, i_sw, swP, i_copy, i_binS, List.map, Option.toList_none, Option.toList_some, List.append, List.nil_append, List.cons_append, List.length_cons, List.length_nil, List.replicate, Nat.sub_self, Nat.reduceSub, Nat.reduceAdd, hK_pI, hL_pI, hI_pI, hR_pI, hJ_pI, hT_pI, hS_pI, hK_pR, hL_pR, hI_pR, hR_pR, hJ_pR, hT_pR, hS_pR, hK_pJ, hL_pJ, hI_pJ, hR_pJ, hJ_pJ, hT_pJ, hS_pJ, hK_wI, hL_wI, hI_wI, hR_wI, hJ_wI, hT_wI, hS_wI, eq_self, and_true, true_and, and_false, false_and, or_true, true_or, or_false, false_or, if_true, if_false, not_true_eq_false, not_false_eq_true, forall_const, implies_true, false_implies, true_implies, Option.some.injEq, forall_eq', exists_eq_left', reduceCtorEq, Nat.reduceEqDiff, c1, T_X12_in, T_X12_ones, T_X11_within, T_X11_bit, T_X11_isIn, T_X11_oneIfIn, T_J6_bitCount_0f7a4]
    refine ⟨fun c => hq g hb (fun q i hqP hgq h1 h2 => hall q hqP (by rw [← c]; exact hgq) i h1 h2) hmin, fun c => ?_⟩
    have := pct_sub hsub c
    have := pct_le g
    omega
  | succ m ih =>
    intro g before hm hb hsub hall hmin
    refine s_X12_hanging_7 Q _ _ _ ?_
    simp only [b_X12_hanging_7, i_push, i_ild, i_ald, i_ist, i_ast, i_inc, i_bin, i_un, i_divs, i_i2l, i_lshl, i_lor, i_dup, i_dup2, i_pop, i_if, i_cmp, i_nul, i_vret, i_iret, i_zret, i_aret, i_keep, keep, lget, lset, ent, i_getI, i_getJ, i_getR, i_getN, i_putI, i_putZ, i_putJ, i_putR, i_iald, i_bald, i_alen, i_aald, i_iast, i_bast, i_aast, i_new, i_newa, i_anew, i_oini, i_callS, i_callV, i_callI, popn, sh4, i_sw, swP, i_copy, i_binS, List.map, Option.toList_none, Option.toList_some, List.append, List.nil_append, List.cons_append, List.length_cons, List.length_nil, List.replicate, Nat.sub_self, Nat.reduceSub, Nat.reduceAdd, hK_pI, hL_pI, hI_pI, hR_pI, hJ_pI, hT_pI, hS_pI, hK_pR, hL_pR, hI_pR, hR_pR, hJ_pR, hT_pR, hS_pR, hK_pJ, hL_pJ, hI_pJ, hR_pJ, hJ_pJ, hT_pJ, hS_pJ, hK_wI, hL_wI, hI_wI, hR_wI, hJ_wI, hT_wI, hS_wI, eq_self, and_true, true_and, and_false, false_and, or_true, true_or, or_false, false_or, if_true, if_false, not_true_eq_false, not_false_eq_true, forall_const, implies_true, false_implies, true_implies, Option.some.injEq, forall_eq', exists_eq_left', reduceCtorEq, Nat.reduceEqDiff, c1, T_X12_in, T_X12_ones, T_X11_within, T_X11_bit, T_X11_isIn, T_X11_oneIfIn, T_J6_bitCount_0f7a4]
    refine ⟨fun c => hq g hb (fun q i hqP hgq h1 h2 => hall q hqP (by rw [← c]; exact hgq) i h1 h2) hmin, fun c => ?_⟩
    have hlt := pct_sub hsub c
    refine lp19_hanging Q h hl P k am g hP h52 hk (fun g2 hs2 ha2 hm2 => ih g2 g (by omega) (hs2 k hb) hs2 ha2 hm2) P 0 g (by omega) (by omega) (fun i hi => hi) (fun j hj => absurd hj (by omega)) hmin
set_option maxRecDepth 100000 in
set_option maxHeartbeats 4000000 in
theorem ok_X12_hanging : ctr 0 MX12_hanging T_X12_hanging := by
  refine ctr_of pn_X12 wc_X12_hanging (fun av h Q hT => ?_)
  unfold T_X12_hanging at hT
  split at hT
  · rename_i o p am
    refine ⟨⟨by simp [Value.category], Nat.le_of_ble_eq_true rfl⟩, s_X12_hanging_0 Q _ _ _ ?_⟩
    obtain ⟨rfl, hl, P, k, hP, h52, rfl, hk, hq⟩ := hT
    simp only [MX12_hanging, b_X12_hanging_0, i_push, i_ild, i_ald, i_ist, i_ast, i_inc, i_bin, i_un, i_divs, i_i2l, i_lshl, i_lor, i_dup, i_dup2, i_pop, i_if, i_cmp, i_nul, i_vret, i_iret, i_zret, i_aret, i_keep, keep, lget, lset, ent, i_getI, i_getJ, i_getR, i_getN, i_putI, i_putZ, i_putJ, i_putR, i_iald, i_bald, i_alen, i_aald, i_iast, i_bast, i_aast, i_new, i_newa, i_anew, i_oini, i_callS, i_callV, i_callI, popn, sh4, i_sw, swP, i_copy, i_binS, List.map, Option.toList_none, Option.toList_some, List.append, List.nil_append, List.cons_append, List.length_cons, List.length_nil, List.replicate, Nat.sub_self, Nat.reduceSub, Nat.reduceAdd, hK_pI, hL_pI, hI_pI, hR_pI, hJ_pI, hT_pI, hS_pI, hK_pR, hL_pR, hI_pR, hR_pR, hJ_pR, hT_pR, hS_pR, hK_pJ, hL_pJ, hI_pJ, hR_pJ, hJ_pJ, hT_pJ, hS_pJ, hK_wI, hL_wI, hI_wI, hR_wI, hJ_wI, hT_wI, hS_wI, eq_self, and_true, true_and, and_false, false_and, or_true, true_or, or_false, false_or, if_true, if_false, not_true_eq_false, not_false_eq_true, forall_const, implies_true, false_implies, true_implies, Option.some.injEq, forall_eq', exists_eq_left', reduceCtorEq, Nat.reduceEqDiff, c1, T_X12_in, T_X12_ones, T_X11_within, T_X11_bit, T_X11_isIn, T_X11_oneIfIn, T_J6_bitCount_0f7a4]
    have eb : (1 : Int32) <<< (nI k &&& 31) = bitI k := rfl
    rw [eb]
    refine lp7_hanging Q h hl P k am hP h52 hk hq 32 (bitI k) 0 (by omega) ?_ (fun i hi => by rw [b_0] at hi; cases hi) (fun q _ hi => by rw [b_0] at hi; cases hi) (fun S hS _ i hi => ?_)
    · rw [b_bitI (by omega) (by omega)]; simp
    · rcases Nat.lt_or_ge i 32 with z | z
      · rw [b_bitI (by omega) z] at hi
        simp only [decide_eq_true_eq] at hi
        rw [hi]; exact hS
      · rw [b_big z] at hi; cases hi
  · exact hT.elim
