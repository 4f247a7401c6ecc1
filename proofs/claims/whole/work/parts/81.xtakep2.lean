/-! ===== the class: takeParties, the loop ===== -/
/-- Placer's rows when it begins -/
def bgF (f : Mem) (cold : Int32) (R : Nat) : Mem := bgM (u2 (u2 f 33 1 cold) 33 2 0) R
def T_X5_takeParties : Tr := fun av h Q => match av with
  | [.ref a, .ref b] => a = 31 ∧ LayX h ∧ ∃ n J R P N o cp cold, n = b ∧ LayN h n R ∧ hI h n 3 = cold ∧ (cold = 0 ∨ cold = 1) ∧ R ≤ 4 ∧ hI h 12 0 = nI R ∧ TPre (bgF (hI h) cold R) J n R P N o ∧ TI (bgF (hI h) cold R) J n R P N o cp 0 (bgF (hI h) cold R) ∧ ∀ f, TI (bgF (hI h) cold R) J n R P N o cp N f → Q none (wI h f)
  | _ => False
def L_X5_takeParties : List UInt8 := [42, 180, 0, 24, 43, 180, 0, 53, 182, 0, 92, 3, 61, 3, 62, 29, 43, 180, 0, 68, 162, 0, 103, 43, 180, 0, 79, 29, 46, 54, 4, 28, 21, 4, 184, 0, 45, 154, 0, 80, 42, 180, 0, 15, 180, 0, 28, 21, 4, 182, 0, 96, 54, 5, 42, 43, 21, 5, 182, 0, 99, 54, 6, 21, 6, 154, 0, 18, 42, 180, 0, 24, 21, 5, 182, 0, 103, 154, 0, 6, 8, 54, 6, 21, 6, 154, 0, 14, 43, 89, 180, 0, 107, 21, 5, 128, 181, 0, 107, 43, 21, 5, 43, 180, 0, 82, 126, 21, 6, 182, 0, 110, 28, 21, 5, 128, 61, 132, 3, 1, 167, 255, 151, 177]
theorem Lc_X5_takeParties : MX5_takeParties.2.1 = ⟨L_X5_takeParties.toArray⟩ := rfl
theorem D_X5_takeParties_0 : dseq MX5_takeParties.2.1 0 [(.aload_n 0, 1), (.getfield 24, 3), (.aload_n 1, 1), (.getfield 53, 3), (.invokevirtual 92, 3), (.iconst 0, 1), (.istore_n 2, 1), (.iconst 0, 1), (.istore_n 3, 1)] := dq Lc_X5_takeParties 0 _ (by decide +kernel)
theorem D_X5_takeParties_15 : dseq MX5_takeParties.2.1 15 [(.iload_n 3, 1), (.aload_n 1, 1), (.getfield 68, 3), (.if_icmp .ge 103, 3), (.aload_n 1, 1), (.getfield 79, 3), (.iload_n 3, 1), (.iaload, 1), (.istore 4, 2), (.iload_n 2, 1), (.iload 4, 2), (.invokestatic 45, 3), (.ifCond .ne 80, 3), (.aload_n 0, 1), (.getfield 15, 3), (.getfield 28, 3), (.iload 4, 2), (.invokevirtual 96, 3), (.istore 5, 2), (.aload_n 0, 1), (.aload_n 1, 1), (.iload 5, 2), (.invokevirtual 99, 3), (.istore 6, 2), (.iload 6, 2), (.ifCond .ne 18, 3), (.aload_n 0, 1), (.getfield 24, 3), (.iload 5, 2), (.invokevirtual 103, 3), (.ifCond .ne 6, 3), (.iconst 5, 1), (.istore 6, 2)] := dq Lc_X5_takeParties 15 _ (by decide +kernel)
theorem D_X5_takeParties_123 : dseq MX5_takeParties.2.1 123 [(.return_, 1)] := dq Lc_X5_takeParties 123 _ (by decide +kernel)
theorem D_X5_takeParties_83 : dseq MX5_takeParties.2.1 83 [(.iload 6, 2), (.ifCond .ne 14, 3), (.aload_n 1, 1), (.dup, 1), (.getfield 107, 3), (.iload 5, 2), (.ior, 1), (.putfield 107, 3)] := dq Lc_X5_takeParties 83 _ (by decide +kernel)
theorem D_X5_takeParties_99 : dseq MX5_takeParties.2.1 99 [(.aload_n 1, 1), (.iload 5, 2), (.aload_n 1, 1), (.getfield 82, 3), (.iand, 1), (.iload 6, 2), (.invokevirtual 110, 3), (.iload_n 2, 1), (.iload 5, 2), (.ior, 1), (.istore_n 2, 1)] := dq Lc_X5_takeParties 99 _ (by decide +kernel)
theorem D_X5_takeParties_117 : dseq MX5_takeParties.2.1 117 [(.iinc 3 1, 3), (.goto (-105), 3)] := dq Lc_X5_takeParties 117 _ (by decide +kernel)
def c_X5_takeParties_11 (Q : Option Value → Hp → Prop) : Kt := i_push (.int 0) (i_ist 2 (i_push (.int 0) (i_ist 3 (i_keep [true, true, true, true, false, false, false] (wp 22 MX5_takeParties Q 15)))))
def c_X5_takeParties_77 (Q : Option Value → Hp → Prop) : Kt := i_if (fun x => x = 0) (i_push (.int 5) (i_ist 6 (i_keep [true, true, true, true, false, true, true] (wp 22 MX5_takeParties Q 83)))) (i_keep [true, true, true, true, false, true, true] (wp 22 MX5_takeParties Q 83))
def c_X5_takeParties_61 (Q : Option Value → Hp → Prop) : Kt := i_ist 6 (i_ild 6 (i_if (fun x => x = 0) (i_ald 0 (i_getR 5 1 (i_ild 5 (i_callV 4 1 T_X4_takes (c_X5_takeParties_77 Q))))) (i_keep [true, true, true, true, false, true, true] (wp 22 MX5_takeParties Q 83))))
def c_X5_takeParties_52 (Q : Option Value → Hp → Prop) : Kt := i_ist 5 (i_ald 0 (i_ald 1 (i_ild 5 (i_callV 5 2 T_X5_reasonAgainst (c_X5_takeParties_61 Q)))))
def c_X5_takeParties_112 (Q : Option Value → Hp → Prop) : Kt := i_ild 2 (i_ild 5 (i_bin (fun x y => x ||| y) (i_ist 2 (i_keep [true, true, true, true, false, false, false] (wp 22 MX5_takeParties Q 117)))))
def b_X5_takeParties_0 (Q : Option Value → Hp → Prop) : Kt := i_ald 0 (i_getR 5 1 (i_ald 1 (i_getI 1 3 (i_callV 4 1 T_X4_begin (c_X5_takeParties_11 Q)))))
set_option maxRecDepth 100000 in
theorem s_X5_takeParties_0 (Q : Option Value → Hp → Prop) : ∀ A st h, b_X5_takeParties_0 Q A st h → wp 22 MX5_takeParties Q 0 A st h := (q1 (s_aldn (n := 0) (i := 0) rfl) D_X5_takeParties_0 fun D => (qC fl_X5_24 rfl D fun D => (q1 (s_aldn (n := 1) (i := 1) rfl) D fun D => (qC fl_X5_53 rfl D fun D => (qX (s_callV kX4 rfl ok_X4_begin mo_X4_begin (ch_4_1_ok.2.2.2.2.2.2.2.2.2.2.1.1 rfl) (ch_4_1_ok.2.2.2.2.2.2.2.2.2.2.2.1.1 rfl) (ch_4_1_ok.2.2.2.2.2.2.2.2.2.2.2.2.1.1 rfl)) rfl (by decide) D fun D => (q1 (s_iconst (n := 0) (v := 0) (by decide)) D fun D => (qL (s_istn (n := 2) (i := 2) rfl) (by decide) D fun D => (q1 (s_iconst (n := 0) (v := 0) (by decide)) D fun D => (qL (s_istn (n := 3) (i := 3) rfl) (by decide) D fun D => (s_keep [true, true, true, true, false, false, false] fun _ _ _ h => h))))))))))
def b_X5_takeParties_15 (Q : Option Value → Hp → Prop) : Kt := i_ild 3 (i_ald 1 (i_getI 1 8 (i_cmp (fun x y => y ≤ x) (i_vret Q) (i_ald 1 (i_getR 1 9 (i_ild 3 (i_iald (i_ist 4 (i_ild 2 (i_ild 4 (i_callS 2 T_X11_isIn (i_if (fun x => x = 0) (i_ald 0 (i_getR 5 0 (i_getR 8 1 (i_ild 4 (i_callV 3 1 T_X3_partyOf (c_X5_takeParties_52 Q)))))) (i_keep [true, true, true, true, false, false, false] (wp 22 MX5_takeParties Q 117))))))))))))))
set_option maxRecDepth 100000 in
theorem s_X5_takeParties_15 (Q : Option Value → Hp → Prop) : ∀ A st h, b_X5_takeParties_15 Q A st h → wp 22 MX5_takeParties Q 15 A st h := (q1 (s_ildn (n := 3) (i := 3) rfl) D_X5_takeParties_15 fun D => (q1 (s_aldn (n := 1) (i := 1) rfl) D fun D => (qC fl_X5_68 rfl D fun D => (qB s_cmpge 123 (by decide) D (qV rfl D_X5_takeParties_123) fun D => (q1 (s_aldn (n := 1) (i := 1) rfl) D fun D => (qC fl_X5_79 rfl D fun D => (q1 (s_ildn (n := 3) (i := 3) rfl) D fun D => (q1 s_iald D fun D => (qL s_ist (by decide) D fun D => (q1 (s_ildn (n := 2) (i := 2) rfl) D fun D => (q1 s_ild D fun D => (qX (s_callSN ok_X11_isIn mo_X11_isIn (ch_3_14_ok.1.2 rfl) (ch_3_7_ok.2.2.2.2.1.1 rfl)) rfl (by decide) D fun D => (qBn s_ifne2 117 (by decide) D (s_keep [true, true, true, true, false, false, false] fun _ _ _ h => h) fun D => (q1 (s_aldn (n := 0) (i := 0) rfl) D fun D => (qC fl_X5_15 rfl D fun D => (qC fl_X5_28 rfl D fun D => (q1 s_ild D fun D => (qX (s_callV kX3 rfl ok_X3_partyOf mo_X3_partyOf (ch_4_2_ok.2.2.1.1 rfl) (ch_4_2_ok.2.2.2.1.1 rfl) (ch_4_2_ok.2.2.2.2.1.1 rfl)) rfl (by decide) D fun D => (qL s_ist (by decide) D fun D => (q1 (s_aldn (n := 0) (i := 0) rfl) D fun D => (q1 (s_aldn (n := 1) (i := 1) rfl) D fun D => (q1 s_ild D fun D => (qX (s_callV kX5 rfl ok_X5_reasonAgainst mo_X5_reasonAgainst (ch_4_2_ok.2.2.2.2.2.2.1.1 rfl) (ch_4_2_ok.2.2.2.2.2.2.2.2.1.1 rfl) (pv_1.2.2.2.1)) rfl (by decide) D fun D => (qL s_ist (by decide) D fun D => (q1 s_ild D fun D => (qBn s_ifne2 83 (by decide) D (s_keep [true, true, true, true, false, true, true] fun _ _ _ h => h) fun D => (q1 (s_aldn (n := 0) (i := 0) rfl) D fun D => (qC fl_X5_24 rfl D fun D => (q1 s_ild D fun D => (qX (s_callV kX4 rfl ok_X4_takes mo_X4_takes (ch_4_4_ok.2.1.1 rfl) (ch_4_4_ok.2.2.1.1 rfl) (ch_4_4_ok.2.2.2.1.1 rfl)) rfl (by decide) D fun D => (qBn s_ifne2 83 (by decide) D (s_keep [true, true, true, true, false, true, true] fun _ _ _ h => h) fun D => (q1 (s_iconst (n := 5) (v := 5) (by decide)) D fun D => (qL s_ist (by decide) D fun D => (s_keep [true, true, true, true, false, true, true] fun _ _ _ h => h))))))))))))))))))))))))))))))))))
def b_X5_takeParties_83 (Q : Option Value → Hp → Prop) : Kt := i_ild 6 (i_if (fun x => x = 0) (i_ald 1 (i_dup (i_getI 1 4 (i_ild 5 (i_bin (fun x y => x ||| y) (i_putI 1 4 (i_keep [true, true, true, true, false, true, true] (wp 22 MX5_takeParties Q 99)))))))) (i_keep [true, true, true, true, false, true, true] (wp 22 MX5_takeParties Q 99)))
set_option maxRecDepth 100000 in
theorem s_X5_takeParties_83 (Q : Option Value → Hp → Prop) : ∀ A st h, b_X5_takeParties_83 Q A st h → wp 22 MX5_takeParties Q 83 A st h := (q1 s_ild D_X5_takeParties_83 fun D => (qBn s_ifne2 99 (by decide) D (s_keep [true, true, true, true, false, true, true] fun _ _ _ h => h) fun D => (q1 (s_aldn (n := 1) (i := 1) rfl) D fun D => (q1 s_dup D fun D => (qC fl_X5_107 rfl D fun D => (q1 s_ild D fun D => (q1 s_or D fun D => (qP pl_X5_107 rfl (Or.inl rfl) D fun D => (s_keep [true, true, true, true, false, true, true] fun _ _ _ h => h)))))))))
def b_X5_takeParties_99 (Q : Option Value → Hp → Prop) : Kt := i_ald 1 (i_ild 5 (i_ald 1 (i_getI 1 7 (i_bin (fun x y => x &&& y) (i_ild 6 (i_callV 1 2 T_X1_giveReason (c_X5_takeParties_112 Q)))))))
set_option maxRecDepth 100000 in
theorem s_X5_takeParties_99 (Q : Option Value → Hp → Prop) : ∀ A st h, b_X5_takeParties_99 Q A st h → wp 22 MX5_takeParties Q 99 A st h := (q1 (s_aldn (n := 1) (i := 1) rfl) D_X5_takeParties_99 fun D => (q1 s_ild D fun D => (q1 (s_aldn (n := 1) (i := 1) rfl) D fun D => (qC fl_X5_82 rfl D fun D => (q1 s_and D fun D => (q1 s_ild D fun D => (qX (s_callV kX1 rfl ok_X1_giveReason mo_X1_giveReason (ch_4_7_ok.2.2.2.2.2.2.2.2.1.1 rfl) (ch_4_7_ok.2.2.2.2.2.2.2.2.2.1.1 rfl) (ch_4_7_ok.2.2.2.2.2.2.2.2.2.2.1.1 rfl)) rfl (by decide) D fun D => (q1 (s_ildn (n := 2) (i := 2) rfl) D fun D => (q1 s_ild D fun D => (q1 s_or D fun D => (qL (s_istn (n := 2) (i := 2) rfl) (by decide) D fun D => (s_keep [true, true, true, true, false, false, false] fun _ _ _ h => h))))))))))))
def b_X5_takeParties_117 (Q : Option Value → Hp → Prop) : Kt := i_inc 3 1 (i_keep [true, true, true, true, false, false, false] (wp 22 MX5_takeParties Q 15))
set_option maxRecDepth 100000 in
theorem s_X5_takeParties_117 (Q : Option Value → Hp → Prop) : ∀ A st h, b_X5_takeParties_117 Q A st h → wp 22 MX5_takeParties Q 117 A st h := (qL (s_inc (i := 3) (n := 1) (v := 1) (by decide)) (by decide) D_X5_takeParties_117 fun D => (qG 15 (by decide) D (s_keep [true, true, true, true, false, false, false] fun _ _ _ h => h)))

set_option maxRecDepth 100000 in
set_option maxHeartbeats 400000 in
theorem tp_93 (Q : Option Value → Hp → Prop) (h : Hp) (hl : LayX h) (hs31 : hR h 31 0 = some 3) (n : Nat) (R : Nat) (hn : LayN h n R) (f : Mem) (seen k g is am : Int32) (hin : f n 7 = am)
    (hgo : wp 22 MX5_takeParties Q 117 [some (.ref 31), some (.ref n), some (.int (seen ||| g)), some (.int k), none, none, none] [] (wI h (rsM f (n + 2) (g &&& am) is 24))) :
    wp 22 MX5_takeParties Q 99 [some (.ref 31), some (.ref n), some (.int seen), some (.int k), none, some (.int g), some (.int is)] [] (wI h f) := by
  have hl2 : LayX (wI h f) := hl
  have hn2 : LayN (wI h f) n R := hn
  have hc : T_X1_giveReason [.ref n, .int (g &&& am), .int is] (wI h f) (fun x h' => c_X5_takeParties_112 Q [some (.ref 31), some (.ref n), some (.int seen), some (.int k), none, some (.int g), some (.int is)] (x.toList ++ []) h') := by
    refine ⟨⟨R, hn2⟩, ?_⟩
    show c_X5_takeParties_112 Q _ [] (wI h (rsM f (n + 2) (g &&& am) is 24))
    generalize wI h (rsM f (n + 2) (g &&& am) is 24) = H at hgo ⊢
    simp only [c_X5_takeParties_112, i_push, i_ild, i_ald, i_ist, i_ast, i_inc, i_bin, i_un, i_divs, i_i2l, i_lshl, i_lor, i_dup, i_dup2, i_pop, i_if, i_cmp, i_nul, i_vret, i_iret, i_zret, i_aret, i_keep, keep, lget, lset, ent, i_getI, i_getJ, i_getR, i_getN, i_putI, i_putZ, i_putJ, i_putR, i_iald, i_bald, i_alen, i_aald, i_iast, i_bast, i_aast, i_new, i_newa, i_anew, i_oini, i_callS, i_callV, i_callI, popn, sh4, i_sw, swP, i_copy, i_binS, List.map, Option.toList_none, Option.toList_some, List.append, List.nil_append, List.cons_append, List.length_cons, List.length_nil, List.replicate, Nat.sub_self, Nat.reduceSub, Nat.reduceAdd, hK_pI, hL_pI, hI_pI, hR_pI, hJ_pI, hT_pI, hS_pI, hK_pR, hL_pR, hI_pR, hR_pR, hJ_pR, hT_pR, hS_pR, hK_pJ, hL_pJ, hI_pJ, hR_pJ, hJ_pJ, hT_pJ, hS_pJ, hK_wI, hL_wI, hI_wI, hR_wI, hJ_wI, hT_wI, hS_wI, eq_self, and_true, true_and, and_false, false_and, or_true, true_or, or_false, false_or, if_true, if_false, not_true_eq_false, not_false_eq_true, forall_const, implies_true, false_implies, true_implies, Option.some.injEq, forall_eq', exists_eq_left', reduceCtorEq, Nat.reduceEqDiff, c1, T_X12_in, T_X12_ones, T_X11_within, T_X11_bit, T_X11_isIn, T_X11_oneIfIn, T_J6_bitCount_0f7a4]
    exact hgo
  have hf := hn2.f
  have hin' : hI (wI h f) n 7 = am := hin
  refine s_X5_takeParties_99 Q _ _ _ ?_
  generalize wI h f = H at hl2 hf hin' hc ⊢
  have hl := hl2
  simp only [b_X5_takeParties_99, lx_pI, lx_wI, lx_t hl, lx_k hl, lx_r hl, lx_l hl, i_push, i_ild, i_ald, i_ist, i_ast, i_inc, i_bin, i_un, i_divs, i_i2l, i_lshl, i_lor, i_dup, i_dup2, i_pop, i_if, i_cmp, i_nul, i_vret, i_iret, i_zret, i_aret, i_keep, keep, lget, lset, ent, i_getI, i_getJ, i_getR, i_getN, i_putI, i_putZ, i_putJ, i_putR, i_iald, i_bald, i_alen, i_aald, i_iast, i_bast, i_aast, i_new, i_newa, i_anew, i_oini, i_callS, i_callV, i_callI, popn, sh4, i_sw, swP, i_copy, i_binS, List.map, Option.toList_none, Option.toList_some, List.append, List.nil_append, List.cons_append, List.length_cons, List.length_nil, List.replicate, Nat.sub_self, Nat.reduceSub, Nat.reduceAdd, hK_pI, hL_pI, hI_pI, hR_pI, hJ_pI, hT_pI, hS_pI, hK_pR, hL_pR, hI_pR, hR_pR, hJ_pR, hT_pR, hS_pR, hK_pJ, hL_pJ, hI_pJ, hR_pJ, hJ_pJ, hT_pJ, hS_pJ, hK_wI, hL_wI, hI_wI, hR_wI, hJ_wI, hT_wI, hS_wI, eq_self, and_true, true_and, and_false, false_and, or_true, true_or, or_false, false_or, if_true, if_false, not_true_eq_false, not_false_eq_true, forall_const, implies_true, false_implies, true_implies, Option.some.injEq, forall_eq', exists_eq_left', reduceCtorEq, Nat.reduceEqDiff, c1, T_X12_in, T_X12_ones, T_X11_within, T_X11_bit, T_X11_isIn, T_X11_oneIfIn, T_J6_bitCount_0f7a4, hf, hin']
  exact hc
set_option maxRecDepth 100000 in
set_option maxHeartbeats 400000 in
theorem tp_74 (Q : Option Value → Hp → Prop) (h : Hp) (hl : LayX h) (hs31 : hR h 31 0 = some 3) (n : Nat) (R : Nat) (hn : LayN h n R) (f : Mem) (seen k g is am : Int32) (hin : f n 7 = am)
    (hgo : ∀ f2, (f2 = if is = 0 then u2 f n 4 (f n 4 ||| g) else f) → wp 22 MX5_takeParties Q 117 [some (.ref 31), some (.ref n), some (.int (seen ||| g)), some (.int k), none, none, none] [] (wI h (rsM f2 (n + 2) (g &&& am) is 24))) :
    wp 22 MX5_takeParties Q 83 [some (.ref 31), some (.ref n), some (.int seen), some (.int k), none, some (.int g), some (.int is)] [] (wI h f) := by
  have hl2 : LayX (wI h f) := hl
  have hn2 : LayN (wI h f) n R := hn
  have hf := hn2.f
  have h0 : is = 0 → wp 22 MX5_takeParties Q 99 [some (.ref 31), some (.ref n), some (.int seen), some (.int k), none, some (.int g), some (.int is)] [] (pI (wI h f) n 4 (hI (wI h f) n 4 ||| g)) := fun e =>
    tp_93 Q h hl hs31 n R hn (u2 f n 4 (f n 4 ||| g)) seen k g is am (by rw [u2_ne (fun z => absurd z.2 (by decide))]; exact hin) (hgo _ (by rw [if_pos e]))
  have h1 : ¬ is = 0 → wp 22 MX5_takeParties Q 99 [some (.ref 31), some (.ref n), some (.int seen), some (.int k), none, some (.int g), some (.int is)] [] (wI h f) := fun e =>
    tp_93 Q h hl hs31 n R hn f seen k g is am hin (hgo _ (by rw [if_neg e]))
  refine s_X5_takeParties_83 Q _ _ _ ?_
  generalize wI h f = H at hl2 hf h0 h1 ⊢
  have hl := hl2
  simp only [b_X5_takeParties_83, lx_pI, lx_wI, lx_t hl, lx_k hl, lx_r hl, lx_l hl, i_push, i_ild, i_ald, i_ist, i_ast, i_inc, i_bin, i_un, i_divs, i_i2l, i_lshl, i_lor, i_dup, i_dup2, i_pop, i_if, i_cmp, i_nul, i_vret, i_iret, i_zret, i_aret, i_keep, keep, lget, lset, ent, i_getI, i_getJ, i_getR, i_getN, i_putI, i_putZ, i_putJ, i_putR, i_iald, i_bald, i_alen, i_aald, i_iast, i_bast, i_aast, i_new, i_newa, i_anew, i_oini, i_callS, i_callV, i_callI, popn, sh4, i_sw, swP, i_copy, i_binS, List.map, Option.toList_none, Option.toList_some, List.append, List.nil_append, List.cons_append, List.length_cons, List.length_nil, List.replicate, Nat.sub_self, Nat.reduceSub, Nat.reduceAdd, hK_pI, hL_pI, hI_pI, hR_pI, hJ_pI, hT_pI, hS_pI, hK_pR, hL_pR, hI_pR, hR_pR, hJ_pR, hT_pR, hS_pR, hK_pJ, hL_pJ, hI_pJ, hR_pJ, hJ_pJ, hT_pJ, hS_pJ, hK_wI, hL_wI, hI_wI, hR_wI, hJ_wI, hT_wI, hS_wI, eq_self, and_true, true_and, and_false, false_and, or_true, true_or, or_false, false_or, if_true, if_false, not_true_eq_false, not_false_eq_true, forall_const, implies_true, false_implies, true_implies, Option.some.injEq, forall_eq', exists_eq_left', reduceCtorEq, Nat.reduceEqDiff, c1, T_X12_in, T_X12_ones, T_X11_within, T_X11_bit, T_X11_isIn, T_X11_oneIfIn, T_J6_bitCount_0f7a4, hf]
  exact ⟨h0, h1⟩
theorem tkS_step (J : Mem) (R P : Nat) (am : Int32) (o : Nat → Nat) (k : Nat) (hns : ∀ j, j < k → ¬ Rch J P (-1) (o j) (o k)) (is : Int32) (his : is = cdS J R P am (tkS J R P am o k) (o k)) : tkS J R P am o (k + 1) = if is = 0 then tkS J R P am o k ||| grp J P (o k) else tkS J R P am o k := by
  show cif _ _ _ = _
  by_cases e : is = 0
  · rw [if_pos e, cif_t ⟨hns, his.symm.trans e⟩]
  · rw [if_neg e, cif_f (fun z => e (his.trans z.2))]
/-- one step of taking: the new party's reason is written -/
theorem TI_new {f0 J f1 f2 : Mem} {n R P N : Nat} {o : Nat → Nat} {cp : Nat → Nat} {k : Nat} (hn : 90 ≤ n) (hP : P ≤ 24) (hT : Tg J P) (hsy : Sy J) (hkN : k < N) (hoP : ∀ j, j < N → o j < P) (hns : ∀ j, j < k → ¬ Rch J P (-1) (o j) (o k)) {is : Int32} (his : is = cdS J R P (amS o N) (tkS J R P (amS o N) o k) (o k)) (m : Nat) (sz w : Nat → Nat)
    (c1 : sx f1 f0) (c2 : f1 n 4 = tkS J R P (amS o N) o k) (c3 : ∀ i, i ≠ 4 → f1 n i = f0 n i) (c4 : ∀ q, f1 (n + 2) q = cif (∃ j, j < k ∧ Rch J P (-1) (o j) q ∧ bt (amS o N) q = true ∧ q < 24) (whyT J R P o N q) (f0 (n + 2) q)) (c5 : ∀ a i, 44 ≤ a → a ≠ n → a ≠ n + 2 → f1 a i = f0 a i) (c6 : FAM f1 J R P m sz cp) (c7 : PD f1 R m sz cp (fun i => some (w i))) (c8 : MF f1 m w) (c9 : ∀ i, i < m → f1 40 i = 0) (c10 : TU f1 m = tkS J R P (amS o N) o (k + 1)) (c11 : ∀ i, i < m → ∃ j, j < k + 1 ∧ f1 34 i = grp J P (o j)) (c12 : m ≤ k + 1) (c13 : ∀ i, i ≠ 2 → f1 33 i = f0 33 i)
    (hf2 : f2 = if is = 0 then u2 f1 n 4 (f1 n 4 ||| grp J P (o k)) else f1) : TI f0 J n R P N o cp (k + 1) (rsM f2 (n + 2) (grp J P (o k) &&& amS o N) is 24) := by
  have hp := hoP k hkN
  have o2 : ∀ a i, ¬ (a = n ∧ i = 4) → f2 a i = f1 a i := fun a i ha => by
    rw [hf2]
    split
    · exact u2_ne ha
    · rfl
  have o3 : ∀ a i, a ≠ n + 2 → ¬ (a = n ∧ i = 4) → rsM f2 (n + 2) (grp J P (o k) &&& amS o N) is 24 a i = f1 a i := fun a i h1 h2 => by
    rw [← o2 a i h2]
    exact if_neg (fun z => h1 z.1)
  have r3 : ∀ a, a < 44 → rsM f2 (n + 2) (grp J P (o k) &&& amS o N) is 24 a = f1 a := fun a ha => funext fun i => o3 a i (by omega) (by omega)
  have hsx : sx (rsM f2 (n + 2) (grp J P (o k) &&& amS o N) is 24) f1 := ⟨fun a ha => r3 a (by omega), by rw [r3 33 (by decide)]⟩
  refine ⟨m, sz, w, ⟨fun a ha => (hsx.1 a ha).trans (c1.1 a ha), hsx.2.trans c1.2⟩, ?_, fun i hi => ?_, fun q => ?_, fun a i a1 a2 a3 => ?_, FAM_c hsx (by rw [r3 33 (by decide)]) (fun a a1 a2 => r3 a (by omega)) c6, ?_, ?_, fun i hi => ?_, ?_, fun i hi => ?_, c12, fun i hi => ?_⟩
  · rw [tkS_step J R P (amS o N) o k hns is his, ← c2]
    have : rsM f2 (n + 2) (grp J P (o k) &&& amS o N) is 24 n 4 = f2 n 4 := if_neg (fun z => by omega)
    rw [this, hf2]
    split
    · exact u2_eq
    · rfl
  · rw [o3 n i (by omega) (fun z => hi z.2)]; exact c3 i hi
  · have e2 : f2 (n + 2) q = f1 (n + 2) q := o2 _ _ (fun z => by omega)
    unfold rsM
    rw [e2, c4 q]
    by_cases c : bt (grp J P (o k) &&& amS o N) q = true ∧ q < 24
    · rw [if_pos ⟨rfl, c.2, c.1⟩]
      have hb := c.1
      rw [b_and, Bool.and_eq_true] at hb
      have hr := (b_grp hP hT hp).mp hb.1
      rw [cif_t ⟨k, by omega, hr, hb.2, c.2⟩]
      have hl : lst (fun j => j < N ∧ Rch J P (-1) (o j) q) = k := lst_is ⟨hkN, hr⟩ (fun j hj z => hns j hj (Rch_tr z.2 (Rch_sym hP hsy hT hp (m1_bt (by omega)) hr)))
      unfold whyT
      rw [hl]; exact his
    · rw [if_neg (fun z => c ⟨z.2.2, z.2.1⟩)]
      refine cif_c ⟨fun ⟨j, a, b⟩ => ⟨j, by omega, b⟩, fun ⟨j, a, b1, b2, b3⟩ => ?_⟩ rfl rfl
      by_cases e : j = k
      · rw [e] at b1
        exact absurd ⟨by rw [b_and, (b_grp hP hT hp).mpr b1, b2]; rfl, b3⟩ c
      · exact ⟨j, by omega, b1, b2, b3⟩
  · rw [o3 a i a3 (fun z => a2 z.1)]; exact c5 a i a1 a2 a3
  · obtain ⟨d1, d2, d3, d4⟩ := c7
    unfold PD
    rw [r3 39 (by decide), r3 38 (by decide), r3 42 (by decide), r3 36 (by decide), r3 43 (by decide), r3 41 (by decide), r3 34 (by decide), r3 37 (by decide)]
    exact ⟨d1, d2, d3, d4⟩
  · exact MF_n (fun a i _ a1 a2 => by rw [r3 a (by omega)]) (fun i _ => by rw [r3 40 (by decide)]) c8
  · rw [r3 40 (by decide)]; exact c9 i hi
  · rw [TU_c (r3 34 (by decide))]; exact c10
  · rw [r3 34 (by decide)]; exact c11 i hi
  · rw [r3 33 (by decide)]; exact c13 i hi
theorem TI_skip {f0 J f : Mem} {n R P N : Nat} {o : Nat → Nat} {cp : Nat → Nat} {k : Nat} (hs : ∃ j, j < k ∧ Rch J P (-1) (o j) (o k)) (hi : TI f0 J n R P N o cp k f) : TI f0 J n R P N o cp (k + 1) f := by
  obtain ⟨j0, hj0, hr0⟩ := hs
  obtain ⟨m, sz, w, c1, c2, c3, c4, c5, c6, c7, c8, c9, c10, c11, c12, c13⟩ := hi
  have et : tkS J R P (amS o N) o (k + 1) = tkS J R P (amS o N) o k := cif_f (fun z => z.1 j0 hj0 hr0)
  refine ⟨m, sz, w, c1, by rw [et]; exact c2, c3, fun q => ?_, c5, c6, c7, c8, c9, by rw [et]; exact c10, fun i hi => ?_, by omega, c13⟩
  · rw [c4 q]
    refine cif_c ⟨fun ⟨j, a, b⟩ => ⟨j, by omega, b⟩, fun ⟨j, a, b1, b2⟩ => ?_⟩ rfl rfl
    by_cases e : j = k
    · rw [e] at b1; exact ⟨j0, hj0, Rch_tr hr0 b1, b2⟩
    · exact ⟨j, by omega, b1, b2⟩
  · obtain ⟨j, a, b⟩ := c11 i hi
    exact ⟨j, by omega, b⟩
