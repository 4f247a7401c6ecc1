/-! ===== the class: takeParties, the loop ===== -/
def T_X5_takeParties : Tr := fun av h Q => match av with
  | [.ref a] => a = 31 ∧ LayX h ∧ hR h 32 0 = some 3 ∧ hR h 31 2 = some 3 ∧ ∃ n J R P N o cp, hR h 31 3 = some n ∧ LayN h n R ∧ TPre (hI h) J n R P N o ∧ TI (hI h) J n R P N o cp 0 (hI h) ∧ ∀ f, TI (hI h) J n R P N o cp N f → Q none (wI h f)
  | _ => False
def L_X5_takeParties : List UInt8 := [3, 60, 3, 61, 28, 42, 180, 0, 31, 180, 0, 77, 162, 0, 111, 42, 180, 0, 31, 180, 0, 88, 28, 46, 62, 27, 29, 184, 0, 54, 154, 0, 87, 42, 180, 0, 22, 180, 0, 39, 29, 182, 0, 101, 54, 4, 42, 21, 4, 182, 0, 104, 54, 5, 21, 5, 154, 0, 18, 42, 180, 0, 12, 21, 4, 182, 0, 107, 154, 0, 6, 8, 54, 5, 21, 5, 154, 0, 17, 42, 180, 0, 31, 89, 180, 0, 111, 21, 4, 128, 181, 0, 111, 42, 180, 0, 31, 21, 4, 42, 180, 0, 31, 180, 0, 91, 126, 21, 5, 182, 0, 114, 27, 21, 4, 128, 60, 132, 2, 1, 167, 255, 140, 177]
theorem Lc_X5_takeParties : MX5_takeParties.2.1 = ⟨L_X5_takeParties.toArray⟩ := rfl
theorem D_X5_takeParties_0 : dseq MX5_takeParties.2.1 0 [(.iconst 0, 1), (.istore_n 1, 1), (.iconst 0, 1), (.istore_n 2, 1)] := dq Lc_X5_takeParties 0 _ (by decide +kernel)
theorem D_X5_takeParties_4 : dseq MX5_takeParties.2.1 4 [(.iload_n 2, 1), (.aload_n 0, 1), (.getfield 31, 3), (.getfield 77, 3), (.if_icmp .ge 111, 3), (.aload_n 0, 1), (.getfield 31, 3), (.getfield 88, 3), (.iload_n 2, 1), (.iaload, 1), (.istore_n 3, 1), (.iload_n 1, 1), (.iload_n 3, 1), (.invokestatic 54, 3), (.ifCond .ne 87, 3), (.aload_n 0, 1), (.getfield 22, 3), (.getfield 39, 3), (.iload_n 3, 1), (.invokevirtual 101, 3), (.istore 4, 2), (.aload_n 0, 1), (.iload 4, 2), (.invokevirtual 104, 3), (.istore 5, 2), (.iload 5, 2), (.ifCond .ne 18, 3), (.aload_n 0, 1), (.getfield 12, 3), (.iload 4, 2), (.invokevirtual 107, 3), (.ifCond .ne 6, 3), (.iconst 5, 1), (.istore 5, 2)] := dq Lc_X5_takeParties 4 _ (by decide +kernel)
theorem D_X5_takeParties_123 : dseq MX5_takeParties.2.1 123 [(.return_, 1)] := dq Lc_X5_takeParties 123 _ (by decide +kernel)
theorem D_X5_takeParties_74 : dseq MX5_takeParties.2.1 74 [(.iload 5, 2), (.ifCond .ne 17, 3), (.aload_n 0, 1), (.getfield 31, 3), (.dup, 1), (.getfield 111, 3), (.iload 4, 2), (.ior, 1), (.putfield 111, 3)] := dq Lc_X5_takeParties 74 _ (by decide +kernel)
theorem D_X5_takeParties_93 : dseq MX5_takeParties.2.1 93 [(.aload_n 0, 1), (.getfield 31, 3), (.iload 4, 2), (.aload_n 0, 1), (.getfield 31, 3), (.getfield 91, 3), (.iand, 1), (.iload 5, 2), (.invokevirtual 114, 3), (.iload_n 1, 1), (.iload 4, 2), (.ior, 1), (.istore_n 1, 1)] := dq Lc_X5_takeParties 93 _ (by decide +kernel)
theorem D_X5_takeParties_117 : dseq MX5_takeParties.2.1 117 [(.iinc 2 1, 3), (.goto (-116), 3)] := dq Lc_X5_takeParties 117 _ (by decide +kernel)
def c_X5_takeParties_68 (Q : Option Value → Hp → Prop) : Kt := i_if (fun x => x = 0) (i_push (.int 5) (i_ist 5 (i_keep [true, true, true, false, true, true] (wp 22 MX5_takeParties Q 74)))) (i_keep [true, true, true, false, true, true] (wp 22 MX5_takeParties Q 74))
def c_X5_takeParties_52 (Q : Option Value → Hp → Prop) : Kt := i_ist 5 (i_ild 5 (i_if (fun x => x = 0) (i_ald 0 (i_getR 5 0 (i_ild 4 (i_callV 4 1 T_X4_takes (c_X5_takeParties_68 Q))))) (i_keep [true, true, true, false, true, true] (wp 22 MX5_takeParties Q 74))))
def c_X5_takeParties_44 (Q : Option Value → Hp → Prop) : Kt := i_ist 4 (i_ald 0 (i_ild 4 (i_callV 5 1 T_X5_reasonAgainst (c_X5_takeParties_52 Q))))
def c_X5_takeParties_112 (Q : Option Value → Hp → Prop) : Kt := i_ild 1 (i_ild 4 (i_bin (fun x y => x ||| y) (i_ist 1 (i_keep [true, true, true, false, false, false] (wp 22 MX5_takeParties Q 117)))))
def b_X5_takeParties_0 (Q : Option Value → Hp → Prop) : Kt := i_push (.int 0) (i_ist 1 (i_push (.int 0) (i_ist 2 (i_keep [true, true, true, false, false, false] (wp 22 MX5_takeParties Q 4)))))
set_option maxRecDepth 100000 in
theorem s_X5_takeParties_0 (Q : Option Value → Hp → Prop) : ∀ A st h, b_X5_takeParties_0 Q A st h → wp 22 MX5_takeParties Q 0 A st h := (q1 (s_iconst (n := 0) (v := 0) (by decide)) D_X5_takeParties_0 fun D => (qL (s_istn (n := 1) (i := 1) rfl) (by decide) D fun D => (q1 (s_iconst (n := 0) (v := 0) (by decide)) D fun D => (qL (s_istn (n := 2) (i := 2) rfl) (by decide) D fun D => (s_keep [true, true, true, false, false, false] fun _ _ _ h => h)))))
def b_X5_takeParties_4 (Q : Option Value → Hp → Prop) : Kt := i_ild 2 (i_ald 0 (i_getR 5 3 (i_getI 1 8 (i_cmp (fun x y => y ≤ x) (i_vret Q) (i_ald 0 (i_getR 5 3 (i_getR 1 9 (i_ild 2 (i_iald (i_ist 3 (i_ild 1 (i_ild 3 (i_callS 2 T_X11_isIn (i_if (fun x => x = 0) (i_ald 0 (i_getR 5 2 (i_getR 8 1 (i_ild 3 (i_callV 3 1 T_X3_partyOf (c_X5_takeParties_44 Q)))))) (i_keep [true, true, true, false, false, false] (wp 22 MX5_takeParties Q 117))))))))))))))))
set_option maxRecDepth 100000 in
theorem s_X5_takeParties_4 (Q : Option Value → Hp → Prop) : ∀ A st h, b_X5_takeParties_4 Q A st h → wp 22 MX5_takeParties Q 4 A st h := (q1 (s_ildn (n := 2) (i := 2) rfl) D_X5_takeParties_4 fun D => (q1 (s_aldn (n := 0) (i := 0) rfl) D fun D => (qC fl_X5_31 rfl D fun D => (qC fl_X5_77 rfl D fun D => (qB s_cmpge 123 (by decide) D (qV rfl D_X5_takeParties_123) fun D => (q1 (s_aldn (n := 0) (i := 0) rfl) D fun D => (qC fl_X5_31 rfl D fun D => (qC fl_X5_88 rfl D fun D => (q1 (s_ildn (n := 2) (i := 2) rfl) D fun D => (q1 s_iald D fun D => (qL (s_istn (n := 3) (i := 3) rfl) (by decide) D fun D => (q1 (s_ildn (n := 1) (i := 1) rfl) D fun D => (q1 (s_ildn (n := 3) (i := 3) rfl) D fun D => (qX (s_callSN ok_X11_isIn mo_X11_isIn (ch_3_14_ok.2.2.2.2.2.2.2.2.2.2.2.2.2.2.2.1.2 rfl) (ch_3_7_ok.2.2.2.2.2.2.2.1.1 rfl)) rfl (by decide) D fun D => (qBn s_ifne2 117 (by decide) D (s_keep [true, true, true, false, false, false] fun _ _ _ h => h) fun D => (q1 (s_aldn (n := 0) (i := 0) rfl) D fun D => (qC fl_X5_22 rfl D fun D => (qC fl_X5_39 rfl D fun D => (q1 (s_ildn (n := 3) (i := 3) rfl) D fun D => (qX (s_callV kX3 rfl ok_X3_partyOf mo_X3_partyOf (ch_4_2_ok.2.2.2.2.2.2.2.2.2.1.1 rfl) (ch_4_2_ok.2.2.2.2.2.2.2.2.2.2.1.1 rfl) (ch_4_2_ok.2.2.2.2.2.2.2.2.2.2.2.1.1 rfl)) rfl (by decide) D fun D => (qL s_ist (by decide) D fun D => (q1 (s_aldn (n := 0) (i := 0) rfl) D fun D => (q1 s_ild D fun D => (qX (s_callV kX5 rfl ok_X5_reasonAgainst mo_X5_reasonAgainst (ch_4_2_ok.2.2.2.2.2.2.2.2.2.2.2.2.2.1.1 rfl) (ch_4_2_ok.2.2.2.2.2.2.2.2.2.2.2.2.2.2.2.1.1 rfl) (pv_1.2.2.2.1)) rfl (by decide) D fun D => (qL s_ist (by decide) D fun D => (q1 s_ild D fun D => (qBn s_ifne2 74 (by decide) D (s_keep [true, true, true, false, true, true] fun _ _ _ h => h) fun D => (q1 (s_aldn (n := 0) (i := 0) rfl) D fun D => (qC fl_X5_12 rfl D fun D => (q1 s_ild D fun D => (qX (s_callV kX4 rfl ok_X4_takes mo_X4_takes (ch_4_4_ok.2.2.2.2.2.2.2.2.1.1 rfl) (ch_4_4_ok.2.2.2.2.2.2.2.2.2.1.1 rfl) (ch_4_4_ok.2.2.2.2.2.2.2.2.2.2.1.1 rfl)) rfl (by decide) D fun D => (qBn s_ifne2 74 (by decide) D (s_keep [true, true, true, false, true, true] fun _ _ _ h => h) fun D => (q1 (s_iconst (n := 5) (v := 5) (by decide)) D fun D => (qL s_ist (by decide) D fun D => (s_keep [true, true, true, false, true, true] fun _ _ _ h => h)))))))))))))))))))))))))))))))))))
def b_X5_takeParties_74 (Q : Option Value → Hp → Prop) : Kt := i_ild 5 (i_if (fun x => x = 0) (i_ald 0 (i_getR 5 3 (i_dup (i_getI 1 4 (i_ild 4 (i_bin (fun x y => x ||| y) (i_putI 1 4 (i_keep [true, true, true, false, true, true] (wp 22 MX5_takeParties Q 93))))))))) (i_keep [true, true, true, false, true, true] (wp 22 MX5_takeParties Q 93)))
set_option maxRecDepth 100000 in
theorem s_X5_takeParties_74 (Q : Option Value → Hp → Prop) : ∀ A st h, b_X5_takeParties_74 Q A st h → wp 22 MX5_takeParties Q 74 A st h := (q1 s_ild D_X5_takeParties_74 fun D => (qBn s_ifne2 93 (by decide) D (s_keep [true, true, true, false, true, true] fun _ _ _ h => h) fun D => (q1 (s_aldn (n := 0) (i := 0) rfl) D fun D => (qC fl_X5_31 rfl D fun D => (q1 s_dup D fun D => (qC fl_X5_111 rfl D fun D => (q1 s_ild D fun D => (q1 s_or D fun D => (qP pl_X5_111 rfl (Or.inl rfl) D fun D => (s_keep [true, true, true, false, true, true] fun _ _ _ h => h))))))))))
def b_X5_takeParties_93 (Q : Option Value → Hp → Prop) : Kt := i_ald 0 (i_getR 5 3 (i_ild 4 (i_ald 0 (i_getR 5 3 (i_getI 1 7 (i_bin (fun x y => x &&& y) (i_ild 5 (i_callV 1 2 T_X1_giveReason (c_X5_takeParties_112 Q)))))))))
set_option maxRecDepth 100000 in
theorem s_X5_takeParties_93 (Q : Option Value → Hp → Prop) : ∀ A st h, b_X5_takeParties_93 Q A st h → wp 22 MX5_takeParties Q 93 A st h := (q1 (s_aldn (n := 0) (i := 0) rfl) D_X5_takeParties_93 fun D => (qC fl_X5_31 rfl D fun D => (q1 s_ild D fun D => (q1 (s_aldn (n := 0) (i := 0) rfl) D fun D => (qC fl_X5_31 rfl D fun D => (qC fl_X5_91 rfl D fun D => (q1 s_and D fun D => (q1 s_ild D fun D => (qX (s_callV kX1 rfl ok_X1_giveReason mo_X1_giveReason (ch_4_7_ok.2.2.2.2.2.2.2.2.2.2.2.2.2.2.2.1.1 rfl) (ch_4_8_ok.1.1 rfl) (ch_4_8_ok.2.1.1 rfl)) rfl (by decide) D fun D => (q1 (s_ildn (n := 1) (i := 1) rfl) D fun D => (q1 s_ild D fun D => (q1 s_or D fun D => (qL (s_istn (n := 1) (i := 1) rfl) (by decide) D fun D => (s_keep [true, true, true, false, false, false] fun _ _ _ h => h))))))))))))))
def b_X5_takeParties_117 (Q : Option Value → Hp → Prop) : Kt := i_inc 2 1 (i_keep [true, true, true, false, false, false] (wp 22 MX5_takeParties Q 4))
set_option maxRecDepth 100000 in
theorem s_X5_takeParties_117 (Q : Option Value → Hp → Prop) : ∀ A st h, b_X5_takeParties_117 Q A st h → wp 22 MX5_takeParties Q 117 A st h := (qL (s_inc (i := 2) (n := 1) (v := 1) (by decide)) (by decide) D_X5_takeParties_117 fun D => (qG 4 (by decide) D (s_keep [true, true, true, false, false, false] fun _ _ _ h => h)))

set_option maxRecDepth 100000 in
set_option maxHeartbeats 400000 in
theorem tp_93 (Q : Option Value → Hp → Prop) (h : Hp) (hl : LayX h) (hs31 : hR h 31 2 = some 3) (n : Nat) (R : Nat) (hn3 : hR h 31 3 = some n) (hn : LayN h n R) (f : Mem) (seen k g is am : Int32) (hin : f n 7 = am)
    (hgo : wp 22 MX5_takeParties Q 117 [some (.ref 31), some (.int (seen ||| g)), some (.int k), none, none, none] [] (wI h (rsM f (n + 2) (g &&& am) is 24))) :
    wp 22 MX5_takeParties Q 93 [some (.ref 31), some (.int seen), some (.int k), none, some (.int g), some (.int is)] [] (wI h f) := by
  have hl2 : LayX (wI h f) := hl
  have hn2 : LayN (wI h f) n R := hn
  have hc : T_X1_giveReason [.ref n, .int (g &&& am), .int is] (wI h f) (fun x h' => c_X5_takeParties_112 Q [some (.ref 31), some (.int seen), some (.int k), none, some (.int g), some (.int is)] (x.toList ++ []) h') := by
    refine ⟨⟨R, hn2⟩, ?_⟩
    show c_X5_takeParties_112 Q _ [] (wI h (rsM f (n + 2) (g &&& am) is 24))
    generalize wI h (rsM f (n + 2) (g &&& am) is 24) = H at hgo ⊢
    simp only [c_X5_takeParties_112, i_push, i_ild, i_ald, i_ist, i_ast, i_inc, i_bin, i_un, i_divs, i_i2l, i_lshl, i_lor, i_dup, i_dup2, i_pop, i_if, i_cmp, i_nul, i_vret, i_iret, i_zret, i_aret, i_keep, keep, lget, lset, ent, i_getI, i_getJ, i_getR, i_getN, i_putI, i_putZ, i_putJ, i_putR, i_iald, i_bald, i_alen, i_aald, i_iast, i_bast, i_aast, i_new, i_newa, i_anew, i_oini, i_callS, i_callV, i_callI, popn, sh4, i_sw, swP, i_copy, i_binS, List.map, Option.toList_none, Option.toList_some, List.append, List.nil_append, List.cons_append, List.length_cons, List.length_nil, List.replicate, Nat.sub_self, Nat.reduceSub, Nat.reduceAdd, hK_pI, hL_pI, hI_pI, hR_pI, hJ_pI, hT_pI, hS_pI, hK_pR, hL_pR, hI_pR, hR_pR, hJ_pR, hT_pR, hS_pR, hK_pJ, hL_pJ, hI_pJ, hR_pJ, hJ_pJ, hT_pJ, hS_pJ, hK_wI, hL_wI, hI_wI, hR_wI, hJ_wI, hT_wI, hS_wI, eq_self, and_true, true_and, and_false, false_and, or_true, true_or, or_false, false_or, if_true, if_false, not_true_eq_false, not_false_eq_true, forall_const, implies_true, false_implies, true_implies, Option.some.injEq, forall_eq', exists_eq_left', reduceCtorEq, Nat.reduceEqDiff, c1, T_X12_in, T_X12_ones, T_X11_within, T_X11_bit, T_X11_isIn, T_X11_oneIfIn, T_J6_bitCount_0f7a4]
    exact hgo
  have hf := hn2.f
  have h31 : hR (wI h f) 31 3 = some n := hn3
  have hin' : hI (wI h f) n 7 = am := hin
  refine s_X5_takeParties_93 Q _ _ _ ?_
  generalize wI h f = H at hl2 hf h31 hin' hc ⊢
  have hl := hl2
  simp only [b_X5_takeParties_93, lx_pI, lx_wI, lx_t hl, lx_k hl, lx_r hl, lx_l hl, i_push, i_ild, i_ald, i_ist, i_ast, i_inc, i_bin, i_un, i_divs, i_i2l, i_lshl, i_lor, i_dup, i_dup2, i_pop, i_if, i_cmp, i_nul, i_vret, i_iret, i_zret, i_aret, i_keep, keep, lget, lset, ent, i_getI, i_getJ, i_getR, i_getN, i_putI, i_putZ, i_putJ, i_putR, i_iald, i_bald, i_alen, i_aald, i_iast, i_bast, i_aast, i_new, i_newa, i_anew, i_oini, i_callS, i_callV, i_callI, popn, sh4, i_sw, swP, i_copy, i_binS, List.map, Option.toList_none, Option.toList_some, List.append, List.nil_append, List.cons_append, List.length_cons, List.length_nil, List.replicate, Nat.sub_self, Nat.reduceSub, Nat.reduceAdd, hK_pI, hL_pI, hI_pI, hR_pI, hJ_pI, hT_pI, hS_pI, hK_pR, hL_pR, hI_pR, hR_pR, hJ_pR, hT_pR, hS_pR, hK_pJ, hL_pJ, hI_pJ, hR_pJ, hJ_pJ, hT_pJ, hS_pJ, hK_wI, hL_wI, hI_wI, hR_wI, hJ_wI, hT_wI, hS_wI, eq_self, and_true, true_and, and_false, false_and, or_true, true_or, or_false, false_or, if_true, if_false, not_true_eq_false, not_false_eq_true, forall_const, implies_true, false_implies, true_implies, Option.some.injEq, forall_eq', exists_eq_left', reduceCtorEq, Nat.reduceEqDiff, c1, T_X12_in, T_X12_ones, T_X11_within, T_X11_bit, T_X11_isIn, T_X11_oneIfIn, T_J6_bitCount_0f7a4, h31, hf, hin']
  exact hc
set_option maxRecDepth 100000 in
set_option maxHeartbeats 400000 in
theorem tp_74 (Q : Option Value → Hp → Prop) (h : Hp) (hl : LayX h) (hs31 : hR h 31 2 = some 3) (n : Nat) (R : Nat) (hn3 : hR h 31 3 = some n) (hn : LayN h n R) (f : Mem) (seen k g is am : Int32) (hin : f n 7 = am)
    (hgo : ∀ f2, (f2 = if is = 0 then u2 f n 4 (f n 4 ||| g) else f) → wp 22 MX5_takeParties Q 117 [some (.ref 31), some (.int (seen ||| g)), some (.int k), none, none, none] [] (wI h (rsM f2 (n + 2) (g &&& am) is 24))) :
    wp 22 MX5_takeParties Q 74 [some (.ref 31), some (.int seen), some (.int k), none, some (.int g), some (.int is)] [] (wI h f) := by
  have hl2 : LayX (wI h f) := hl
  have hn2 : LayN (wI h f) n R := hn
  have hf := hn2.f
  have h31 : hR (wI h f) 31 3 = some n := hn3
  have h0 : is = 0 → wp 22 MX5_takeParties Q 93 [some (.ref 31), some (.int seen), some (.int k), none, some (.int g), some (.int is)] [] (pI (wI h f) n 4 (hI (wI h f) n 4 ||| g)) := fun e =>
    tp_93 Q h hl hs31 n R hn3 hn (u2 f n 4 (f n 4 ||| g)) seen k g is am (by rw [u2_ne (fun z => absurd z.2 (by decide))]; exact hin) (hgo _ (by rw [if_pos e]))
  have h1 : ¬ is = 0 → wp 22 MX5_takeParties Q 93 [some (.ref 31), some (.int seen), some (.int k), none, some (.int g), some (.int is)] [] (wI h f) := fun e =>
    tp_93 Q h hl hs31 n R hn3 hn f seen k g is am hin (hgo _ (by rw [if_neg e]))
  refine s_X5_takeParties_74 Q _ _ _ ?_
  generalize wI h f = H at hl2 hf h31 h0 h1 ⊢
  have hl := hl2
  simp only [b_X5_takeParties_74, lx_pI, lx_wI, lx_t hl, lx_k hl, lx_r hl, lx_l hl, i_push, i_ild, i_ald, i_ist, i_ast, i_inc, i_bin, i_un, i_divs, i_i2l, i_lshl, i_lor, i_dup, i_dup2, i_pop, i_if, i_cmp, i_nul, i_vret, i_iret, i_zret, i_aret, i_keep, keep, lget, lset, ent, i_getI, i_getJ, i_getR, i_getN, i_putI, i_putZ, i_putJ, i_putR, i_iald, i_bald, i_alen, i_aald, i_iast, i_bast, i_aast, i_new, i_newa, i_anew, i_oini, i_callS, i_callV, i_callI, popn, sh4, i_sw, swP, i_copy, i_binS, List.map, Option.toList_none, Option.toList_some, List.append, List.nil_append, List.cons_append, List.length_cons, List.length_nil, List.replicate, Nat.sub_self, Nat.reduceSub, Nat.reduceAdd, hK_pI, hL_pI, hI_pI, hR_pI, hJ_pI, hT_pI, hS_pI, hK_pR, hL_pR, hI_pR, hR_pR, hJ_pR, hT_pR, hS_pR, hK_pJ, hL_pJ, hI_pJ, hR_pJ, hJ_pJ, hT_pJ, hS_pJ, hK_wI, hL_wI, hI_wI, hR_wI, hJ_wI, hT_wI, hS_wI, eq_self, and_true, true_and, and_false, false_and, or_true, true_or, or_false, false_or, if_true, if_false, not_true_eq_false, not_false_eq_true, forall_const, implies_true, false_implies, true_implies, Option.some.injEq, forall_eq', exists_eq_left', reduceCtorEq, Nat.reduceEqDiff, c1, T_X12_in, T_X12_ones, T_X11_within, T_X11_bit, T_X11_isIn, T_X11_oneIfIn, T_J6_bitCount_0f7a4, h31, hf]
  exact ⟨h0, h1⟩
theorem tkS_step (J : Mem) (R P : Nat) (am : Int32) (o : Nat → Nat) (k : Nat) (hns : ∀ j, j < k → ¬ Rch J P (-1) (o j) (o k)) (is : Int32) (his : is = cdS J R P am (tkS J R P am o k) (o k)) : tkS J R P am o (k + 1) = if is = 0 then tkS J R P am o k ||| grp J P (o k) else tkS J R P am o k := by
  show cif _ _ _ = _
  by_cases e : is = 0
  · rw [if_pos e, cif_t ⟨hns, his.symm.trans e⟩]
  · rw [if_neg e, cif_f (fun z => e (his.trans z.2))]
/-- one step of taking: the new party's reason is written -/
theorem TI_new {f0 J f1 f2 : Mem} {n R P N : Nat} {o : Nat → Nat} {cp : Nat → Nat} {k : Nat} (hn : 90 ≤ n) (hP : P ≤ 24) (hT : Tg J P) (hsy : Sy J) (hkN : k < N) (hoP : ∀ j, j < N → o j < P) (hns : ∀ j, j < k → ¬ Rch J P (-1) (o j) (o k)) {is : Int32} (his : is = cdS J R P (amS o N) (tkS J R P (amS o N) o k) (o k)) (m : Nat) (sz w : Nat → Nat)
    (c1 : sx f1 f0) (c2 : f1 n 4 = tkS J R P (amS o N) o k) (c3 : ∀ i, i ≠ 4 → f1 n i = f0 n i) (c4 : ∀ q, f1 (n + 2) q = cif (∃ j, j < k ∧ Rch J P (-1) (o j) q ∧ bt (amS o N) q = true ∧ q < 24) (whyT J R P o N q) (f0 (n + 2) q)) (c5 : ∀ a i, 43 ≤ a → a ≠ n → a ≠ n + 2 → f1 a i = f0 a i) (c6 : FAM f1 J R P m sz cp) (c7 : PD f1 R m sz cp (fun i => some (w i))) (c8 : MF f1 m w) (c9 : ∀ i, i < m → f1 39 i = 0) (c10 : TU f1 m = tkS J R P (amS o N) o (k + 1)) (c11 : ∀ i, i < m → ∃ j, j < k + 1 ∧ f1 33 i = grp J P (o j)) (c12 : m ≤ k + 1) (c13 : ∀ i, i ≠ 2 → f1 32 i = f0 32 i)
    (hf2 : f2 = if is = 0 then u2 f1 n 4 (f1 n 4 ||| grp J P (o k)) else f1) : TI f0 J n R P N o cp (k + 1) (rsM f2 (n + 2) (grp J P (o k) &&& amS o N) is 24) := by
  have hp := hoP k hkN
  have o2 : ∀ a i, ¬ (a = n ∧ i = 4) → f2 a i = f1 a i := fun a i ha => by
    rw [hf2]
    split
    · exact u2_ne ha
    · rfl
  have o3 : ∀ a i, a ≠ n + 2 → ¬ (a = n ∧ i = 4) → rsM f2 (n + 2) (grp J P (o k) &&& amS o N) is 24 a i = f1 a i := fun a i h1 h2 => by
    rw [← o2 a i h2]
    exact if_neg (fun z => h1 z.1)
  have r3 : ∀ a, a < 43 → rsM f2 (n + 2) (grp J P (o k) &&& amS o N) is 24 a = f1 a := fun a ha => funext fun i => o3 a i (by omega) (by omega)
  have hsx : sx (rsM f2 (n + 2) (grp J P (o k) &&& amS o N) is 24) f1 := ⟨fun a ha => r3 a (by omega), by rw [r3 32 (by decide)]⟩
  refine ⟨m, sz, w, ⟨fun a ha => (hsx.1 a ha).trans (c1.1 a ha), hsx.2.trans c1.2⟩, ?_, fun i hi => ?_, fun q => ?_, fun a i a1 a2 a3 => ?_, FAM_c hsx (by rw [r3 32 (by decide)]) (fun a a1 a2 => r3 a (by omega)) c6, ?_, ?_, fun i hi => ?_, ?_, fun i hi => ?_, c12, fun i hi => ?_⟩
  · rw [tkS_step J R P (amS o N) o k hns is his, ← c2]
    have : rsM f2 (n + 2) (grp J P (o k) &&& amS o N) is 24 n 4 = f2 n 4 := if_neg (fun z => by omega)
    rw [this, hf2]
    split
    · exact u2_eq
    · rfl
  · rw [o3 n i (by omega) (fun z => hi z.2)]; exact c3 i hi
  · have e2 : f2 (n + 2) q = f1 (n + 2) q := o2 _ _ (fun z => by omega)
    unfold rsM
    rw [e2, c4 q]
    by_cases c : bt (grp J P (o k) &&& amS o N) q = true ∧ q < 24
    · rw [if_pos ⟨rfl, c.2, c.1⟩]
      have hb := c.1
      rw [b_and, Bool.and_eq_true] at hb
      have hr := (b_grp hP hT hp).mp hb.1
      rw [cif_t ⟨k, by omega, hr, hb.2, c.2⟩]
      have hl : lst (fun j => j < N ∧ Rch J P (-1) (o j) q) = k := lst_is ⟨hkN, hr⟩ (fun j hj z => hns j hj (Rch_tr z.2 (Rch_sym hP hsy hT hp (m1_bt (by omega)) hr)))
      unfold whyT
      rw [hl]; exact his
    · rw [if_neg (fun z => c ⟨z.2.2, z.2.1⟩)]
      refine cif_c ⟨fun ⟨j, a, b⟩ => ⟨j, by omega, b⟩, fun ⟨j, a, b1, b2, b3⟩ => ?_⟩ rfl rfl
      by_cases e : j = k
      · rw [e] at b1
        exact absurd ⟨by rw [b_and, (b_grp hP hT hp).mpr b1, b2]; rfl, b3⟩ c
      · exact ⟨j, by omega, b1, b2, b3⟩
  · rw [o3 a i a3 (fun z => a2 z.1)]; exact c5 a i a1 a2 a3
  · obtain ⟨d1, d2, d3, d4⟩ := c7
    unfold PD
    rw [r3 38 (by decide), r3 37 (by decide), r3 41 (by decide), r3 35 (by decide), r3 42 (by decide), r3 40 (by decide), r3 33 (by decide), r3 36 (by decide)]
    exact ⟨d1, d2, d3, d4⟩
  · exact MF_n (fun a i _ a1 a2 => by rw [r3 a (by omega)]) (fun i _ => by rw [r3 39 (by decide)]) c8
  · rw [r3 39 (by decide)]; exact c9 i hi
  · rw [TU_c (r3 33 (by decide))]; exact c10
  · rw [r3 33 (by decide)]; exact c11 i hi
  · rw [r3 32 (by decide)]; exact c13 i hi
theorem TI_skip {f0 J f : Mem} {n R P N : Nat} {o : Nat → Nat} {cp : Nat → Nat} {k : Nat} (hs : ∃ j, j < k ∧ Rch J P (-1) (o j) (o k)) (hi : TI f0 J n R P N o cp k f) : TI f0 J n R P N o cp (k + 1) f := by
  obtain ⟨j0, hj0, hr0⟩ := hs
  obtain ⟨m, sz, w, c1, c2, c3, c4, c5, c6, c7, c8, c9, c10, c11, c12, c13⟩ := hi
  have et : tkS J R P (amS o N) o (k + 1) = tkS J R P (amS o N) o k := cif_f (fun z => z.1 j0 hj0 hr0)
  refine ⟨m, sz, w, c1, by rw [et]; exact c2, c3, fun q => ?_, c5, c6, c7, c8, c9, by rw [et]; exact c10, fun i hi => ?_, by omega, c13⟩
  · rw [c4 q]
    refine cif_c ⟨fun ⟨j, a, b⟩ => ⟨j, by omega, b⟩, fun ⟨j, a, b1, b2⟩ => ?_⟩ rfl rfl
    by_cases e : j = k
    · rw [e] at b1; exact ⟨j0, hj0, Rch_tr hr0 b1, b2⟩
    · exact ⟨j, by omega, b1, b2⟩
  · obtain ⟨j, a, b⟩ := c11 i hi
    exact ⟨j, by omega, b⟩
