/-! ===== constructors: rows that are made one behind the other ===== -/
def mkA (h : Hp) (o : Nat) : List (Nat × Nat × Nat) → Hp
  | [] => h
  | (j, k, n) :: t => mkA (pR (nC h k n) o j (some (hT h))) o t
theorem mkA_T : ∀ (l : List (Nat × Nat × Nat)) (h : Hp) (o : Nat), hT (mkA h o l) = hT h + l.length
  | [], h, o => rfl
  | (j, k, n) :: t, h, o => by rw [mkA, mkA_T t, hT_pR, hT_nC, List.length_cons]; omega
theorem mkA_S : ∀ (l : List (Nat × Nat × Nat)) (h : Hp) (o : Nat), hS (mkA h o l) = hS h + (l.map (fun q => q.2.2)).sum
  | [], h, o => rfl
  | (j, k, n) :: t, h, o => by rw [mkA, mkA_S t, hS_pR, hS_nC, List.map_cons, List.sum_cons]; simp only; omega
theorem mkA_old : ∀ (l : List (Nat × Nat × Nat)) (h : Hp) (o a : Nat), a < hT h → hK (mkA h o l) a = hK h a ∧ hL (mkA h o l) a = hL h a ∧ (∀ i, hI (mkA h o l) a i = hI h a i) ∧ (∀ i, hJ (mkA h o l) a i = hJ h a i) ∧ ∀ i, (a ≠ o ∨ ∀ q ∈ l, q.1 ≠ i) → hR (mkA h o l) a i = hR h a i
  | [], h, o, a, ha => ⟨rfl, rfl, fun _ => rfl, fun _ => rfl, fun _ _ => rfl⟩
  | (j, k, n) :: t, h, o, a, ha => by
    obtain ⟨h1, h2, h3, h4, h5⟩ := mkA_old t (pR (nC h k n) o j (some (hT h))) o a (by rw [hT_pR, hT_nC]; omega)
    have ne : ¬ a = hT h := by omega
    rw [mkA]
    refine ⟨?_, ?_, fun i => ?_, fun i => ?_, fun i hi => ?_⟩
    · rw [h1, hK_pR, hK_nC, if_neg ne]
    · rw [h2, hL_pR, hL_nC, if_neg ne]
    · rw [h3, hI_pR, hI_nC, if_neg ne]
    · rw [h4, hJ_pR, hJ_nC, if_neg ne]
    · rw [h5 i (hi.elim Or.inl (fun z => Or.inr (fun q hq => z q (List.mem_cons_of_mem _ hq)))), hR_pR, if_neg (fun z => hi.elim (fun w => w z.1) (fun w => w (j, k, n) List.mem_cons_self z.2.symm)), hR_nC, if_neg ne]
theorem mkA_new : ∀ (l : List (Nat × Nat × Nat)) (h : Hp) (o t j k n : Nat), o < hT h → (l.map (fun q => q.1)).Nodup → l[t]? = some (j, k, n) → hK (mkA h o l) (hT h + t) = k ∧ hL (mkA h o l) (hT h + t) = n ∧ (∀ i, hI (mkA h o l) (hT h + t) i = 0) ∧ hR (mkA h o l) o j = some (hT h + t)
  | [], h, o, t, j, k, n, ho, hn, hl => by cases t <;> cases hl
  | (j0, k0, n0) :: l, h, o, 0, j, k, n, ho, hn, hl => by
    cases hl
    rw [List.map_cons, List.nodup_cons] at hn
    obtain ⟨h1, h2, h3, h4, h5⟩ := mkA_old l (pR (nC h k0 n0) o j0 (some (hT h))) o (hT h) (by rw [hT_pR, hT_nC]; omega)
    obtain ⟨_, _, _, _, g5⟩ := mkA_old l (pR (nC h k0 n0) o j0 (some (hT h))) o o (by rw [hT_pR, hT_nC]; omega)
    rw [mkA, Nat.add_zero]
    refine ⟨?_, ?_, fun i => ?_, ?_⟩
    · rw [h1, hK_pR, hK_nC, if_pos rfl]
    · rw [h2, hL_pR, hL_nC, if_pos rfl]
    · rw [h3, hI_pR, hI_nC, if_pos rfl]
    · rw [g5 j0 (Or.inr (fun q hq z => hn.1 (List.mem_map.mpr ⟨q, hq, z⟩))), hR_pR, if_pos ⟨rfl, rfl⟩]
  | (j0, k0, n0) :: l, h, o, t + 1, j, k, n, ho, hn, hl => by
    rw [List.map_cons, List.nodup_cons] at hn
    have := mkA_new l (pR (nC h k0 n0) o j0 (some (hT h))) o t j k n (by rw [hT_pR, hT_nC]; omega) hn.2 (by simpa using hl)
    rw [hT_pR, hT_nC, show hT h + 1 + t = hT h + (t + 1) by omega] at this
    rw [mkA]
    exact this
def li_X0 : List (Nat × Nat × Nat) := [(1, 14, 8), (2, 14, 8), (3, 14, 8), (4, 14, 8)]
def T_X0_init : Tr := fun av h Q => match av with
  | [.ref o] => o < hT h ∧ hK h o = 0 ∧ Q none (mkA h o li_X0)
  | _ => False
def L_X0_init : List UInt8 := [42, 183, 0, 3, 42, 16, 8, 188, 10, 181, 0, 9, 42, 16, 8, 188, 10, 181, 0, 15, 42, 16, 8, 188, 10, 181, 0, 18, 42, 16, 8, 188, 10, 181, 0, 21, 177]
theorem Lc_X0_init : MX0_init.2.1 = ⟨L_X0_init.toArray⟩ := rfl
theorem D_X0_init_0 : dseq MX0_init.2.1 0 [(.aload_n 0, 1), (.invokespecial 3, 3), (.aload_n 0, 1), (.bipush 8, 2), (.newarray .int, 2), (.putfield 9, 3), (.aload_n 0, 1), (.bipush 8, 2), (.newarray .int, 2), (.putfield 15, 3), (.aload_n 0, 1), (.bipush 8, 2), (.newarray .int, 2), (.putfield 18, 3), (.aload_n 0, 1), (.bipush 8, 2), (.newarray .int, 2), (.putfield 21, 3), (.return_, 1)] := dq Lc_X0_init 0 _ (by decide +kernel)
def b_X0_init_0 (Q : Option Value → Hp → Prop) : Kt := i_ald 0 (i_oini (i_ald 0 (i_push (.int 8) (i_newa 14 (i_putR 0 1 (i_ald 0 (i_push (.int 8) (i_newa 14 (i_putR 0 2 (i_ald 0 (i_push (.int 8) (i_newa 14 (i_putR 0 3 (i_ald 0 (i_push (.int 8) (i_newa 14 (i_putR 0 4 (i_vret Q))))))))))))))))))
set_option maxRecDepth 100000 in
theorem s_X0_init_0 (Q : Option Value → Hp → Prop) : ∀ A st h, b_X0_init_0 Q A st h → wp 1 MX0_init Q 0 A st h := (q1 (s_aldn (n := 0) (i := 0) rfl) D_X0_init_0 fun D => (qO (s_oini (ch_1_12_ok.2.2.2.2.2.2.2.2.2.2.2.1.1 rfl) w_oi2 w_oi3) rfl (by decide) D fun D => (q1 (s_aldn (n := 0) (i := 0) rfl) D fun D => (q1 (s_bipush (n := 8) (v := 8) (by decide)) D fun D => (q1 na_int D fun D => (qP pl_X0_9 rfl (Or.inr rfl) D fun D => (q1 (s_aldn (n := 0) (i := 0) rfl) D fun D => (q1 (s_bipush (n := 8) (v := 8) (by decide)) D fun D => (q1 na_int D fun D => (qP pl_X0_15 rfl (Or.inr rfl) D fun D => (q1 (s_aldn (n := 0) (i := 0) rfl) D fun D => (q1 (s_bipush (n := 8) (v := 8) (by decide)) D fun D => (q1 na_int D fun D => (qP pl_X0_18 rfl (Or.inr rfl) D fun D => (q1 (s_aldn (n := 0) (i := 0) rfl) D fun D => (q1 (s_bipush (n := 8) (v := 8) (by decide)) D fun D => (q1 na_int D fun D => (qP pl_X0_21 rfl (Or.inr rfl) D fun D => (qV rfl D)))))))))))))))))))

set_option maxRecDepth 100000 in
set_option maxHeartbeats 400000 in
theorem xin_X0 (Q : Option Value → Hp → Prop) (h : Hp) (o : Nat) (ho : o < hT h) (hk : hK h o = 0) (hq : Q none (mkA h o li_X0)) : b_X0_init_0 Q [some (.ref o)] [] h := by
  have p0 : o < hT h := by omega
  have q0 : ¬ o = hT h := by omega
  have p1 : o < hT h + 1 := by omega
  have q1 : ¬ o = hT h + 1 := by omega
  have p2 : o < hT h + 1 + 1 := by omega
  have q2 : ¬ o = hT h + 1 + 1 := by omega
  have p3 : o < hT h + 1 + 1 + 1 := by omega
  have q3 : ¬ o = hT h + 1 + 1 + 1 := by omega
  have p4 : o < hT h + 1 + 1 + 1 + 1 := by omega
  have q4 : ¬ o = hT h + 1 + 1 + 1 + 1 := by omega
  have e8 : (8 : Int32).toNatClampNeg = 8 := by decide
  have l8 : ¬ (8 : Int32) < 0 := by decide
  have m8 : (8 : Nat) ≤ 100000 := by decide
  unfold li_X0 at hq
  simp only [mkA, hT_pR, hT_nC] at hq
  simp only [b_X0_init_0, i_push, i_ild, i_ald, i_ist, i_ast, i_inc, i_bin, i_un, i_divs, i_i2l, i_lshl, i_lor, i_dup, i_dup2, i_pop, i_if, i_cmp, i_nul, i_vret, i_iret, i_zret, i_aret, i_keep, keep, lget, lset, ent, i_getI, i_getJ, i_getR, i_getN, i_putI, i_putZ, i_putJ, i_putR, i_iald, i_bald, i_alen, i_aald, i_iast, i_bast, i_aast, i_new, i_newa, i_anew, i_oini, i_callS, i_callV, i_callI, popn, sh4, i_sw, swP, i_copy, i_binS, List.map, Option.toList_none, Option.toList_some, List.append, List.nil_append, List.cons_append, List.length_cons, List.length_nil, List.replicate, Nat.sub_self, Nat.reduceSub, Nat.reduceAdd, hK_pI, hL_pI, hI_pI, hR_pI, hJ_pI, hT_pI, hS_pI, hK_pR, hL_pR, hI_pR, hR_pR, hJ_pR, hT_pR, hS_pR, hK_pJ, hL_pJ, hI_pJ, hR_pJ, hJ_pJ, hT_pJ, hS_pJ, hK_wI, hL_wI, hI_wI, hR_wI, hJ_wI, hT_wI, hS_wI, eq_self, and_true, true_and, and_false, false_and, or_true, true_or, or_false, false_or, if_true, if_false, not_true_eq_false, not_false_eq_true, forall_const, implies_true, false_implies, true_implies, Option.some.injEq, forall_eq', exists_eq_left', reduceCtorEq, Nat.reduceEqDiff, c1, T_X12_in, T_X12_ones, T_X11_within, T_X11_bit, T_X11_isIn, T_X11_oneIfIn, T_J6_bitCount_0f7a4, hT_nC, hK_nC, p0, q0, p1, q1, p2, q2, p3, q3, p4, q4, e8, l8, m8, hk, List.length, Nat.zero_le, Nat.reduceLeDiff]
  exact hq
set_option maxRecDepth 100000 in
set_option maxHeartbeats 4000000 in
theorem ok_X0_init : ctr 1 MX0_init T_X0_init := by
  refine ctr_of pn_X0 wc_X0_init (fun av h Q hT => ?_)
  unfold T_X0_init at hT
  split at hT
  · rename_i o
    refine ⟨⟨by simp [Value.category], Nat.le_of_ble_eq_true rfl⟩, s_X0_init_0 Q _ _ _ ?_⟩
    exact xin_X0 Q h o hT.1 hT.2.1 hT.2.2
  · exact hT.elim
def li_X3 : List (Nat × Nat × Nat) := [(2, 14, 24), (3, 14, 24), (4, 14, 24), (5, 14, 24), (6, 14, 24), (7, 14, 24), (8, 14, 24), (9, 14, 24)]
def T_X3_init : Tr := fun av h Q => match av with
  | [.ref o] => o < hT h ∧ hK h o = 3 ∧ Q none (mkA h o li_X3)
  | _ => False
def L_X3_init : List UInt8 := [42, 183, 0, 3, 42, 16, 24, 188, 10, 181, 0, 9, 42, 16, 24, 188, 10, 181, 0, 15, 42, 16, 24, 188, 10, 181, 0, 18, 42, 16, 24, 188, 10, 181, 0, 21, 42, 16, 24, 188, 10, 181, 0, 24, 42, 16, 24, 188, 10, 181, 0, 27, 42, 16, 24, 188, 10, 181, 0, 30, 42, 16, 24, 188, 10, 181, 0, 33, 177]
theorem Lc_X3_init : MX3_init.2.1 = ⟨L_X3_init.toArray⟩ := rfl
theorem D_X3_init_0 : dseq MX3_init.2.1 0 [(.aload_n 0, 1), (.invokespecial 3, 3), (.aload_n 0, 1), (.bipush 24, 2), (.newarray .int, 2), (.putfield 9, 3), (.aload_n 0, 1), (.bipush 24, 2), (.newarray .int, 2), (.putfield 15, 3), (.aload_n 0, 1), (.bipush 24, 2), (.newarray .int, 2), (.putfield 18, 3), (.aload_n 0, 1), (.bipush 24, 2), (.newarray .int, 2), (.putfield 21, 3), (.aload_n 0, 1), (.bipush 24, 2), (.newarray .int, 2), (.putfield 24, 3), (.aload_n 0, 1), (.bipush 24, 2), (.newarray .int, 2), (.putfield 27, 3), (.aload_n 0, 1), (.bipush 24, 2), (.newarray .int, 2), (.putfield 30, 3), (.aload_n 0, 1), (.bipush 24, 2), (.newarray .int, 2), (.putfield 33, 3), (.return_, 1)] := dq Lc_X3_init 0 _ (by decide +kernel)
def b_X3_init_0 (Q : Option Value → Hp → Prop) : Kt := i_ald 0 (i_oini (i_ald 0 (i_push (.int 24) (i_newa 14 (i_putR 3 2 (i_ald 0 (i_push (.int 24) (i_newa 14 (i_putR 3 3 (i_ald 0 (i_push (.int 24) (i_newa 14 (i_putR 3 4 (i_ald 0 (i_push (.int 24) (i_newa 14 (i_putR 3 5 (i_ald 0 (i_push (.int 24) (i_newa 14 (i_putR 3 6 (i_ald 0 (i_push (.int 24) (i_newa 14 (i_putR 3 7 (i_ald 0 (i_push (.int 24) (i_newa 14 (i_putR 3 8 (i_ald 0 (i_push (.int 24) (i_newa 14 (i_putR 3 9 (i_vret Q))))))))))))))))))))))))))))))))))
set_option maxRecDepth 100000 in
theorem s_X3_init_0 (Q : Option Value → Hp → Prop) : ∀ A st h, b_X3_init_0 Q A st h → wp 1 MX3_init Q 0 A st h := (q1 (s_aldn (n := 0) (i := 0) rfl) D_X3_init_0 fun D => (qO (s_oini (ch_1_7_ok.2.2.2.2.2.2.2.2.2.2.2.2.2.2.1.1 rfl) w_oi2 w_oi3) rfl (by decide) D fun D => (q1 (s_aldn (n := 0) (i := 0) rfl) D fun D => (q1 (s_bipush (n := 24) (v := 24) (by decide)) D fun D => (q1 na_int D fun D => (qP pl_X3_9 rfl (Or.inr rfl) D fun D => (q1 (s_aldn (n := 0) (i := 0) rfl) D fun D => (q1 (s_bipush (n := 24) (v := 24) (by decide)) D fun D => (q1 na_int D fun D => (qP pl_X3_15 rfl (Or.inr rfl) D fun D => (q1 (s_aldn (n := 0) (i := 0) rfl) D fun D => (q1 (s_bipush (n := 24) (v := 24) (by decide)) D fun D => (q1 na_int D fun D => (qP pl_X3_18 rfl (Or.inr rfl) D fun D => (q1 (s_aldn (n := 0) (i := 0) rfl) D fun D => (q1 (s_bipush (n := 24) (v := 24) (by decide)) D fun D => (q1 na_int D fun D => (qP pl_X3_21 rfl (Or.inr rfl) D fun D => (q1 (s_aldn (n := 0) (i := 0) rfl) D fun D => (q1 (s_bipush (n := 24) (v := 24) (by decide)) D fun D => (q1 na_int D fun D => (qP pl_X3_24 rfl (Or.inr rfl) D fun D => (q1 (s_aldn (n := 0) (i := 0) rfl) D fun D => (q1 (s_bipush (n := 24) (v := 24) (by decide)) D fun D => (q1 na_int D fun D => (qP pl_X3_27 rfl (Or.inr rfl) D fun D => (q1 (s_aldn (n := 0) (i := 0) rfl) D fun D => (q1 (s_bipush (n := 24) (v := 24) (by decide)) D fun D => (q1 na_int D fun D => (qP pl_X3_30 rfl (Or.inr rfl) D fun D => (q1 (s_aldn (n := 0) (i := 0) rfl) D fun D => (q1 (s_bipush (n := 24) (v := 24) (by decide)) D fun D => (q1 na_int D fun D => (qP pl_X3_33 rfl (Or.inr rfl) D fun D => (qV rfl D)))))))))))))))))))))))))))))))))))

set_option maxRecDepth 100000 in
set_option maxHeartbeats 400000 in
theorem xin_X3 (Q : Option Value → Hp → Prop) (h : Hp) (o : Nat) (ho : o < hT h) (hk : hK h o = 3) (hq : Q none (mkA h o li_X3)) : b_X3_init_0 Q [some (.ref o)] [] h := by
  have p0 : o < hT h := by omega
  have q0 : ¬ o = hT h := by omega
  have p1 : o < hT h + 1 := by omega
  have q1 : ¬ o = hT h + 1 := by omega
  have p2 : o < hT h + 1 + 1 := by omega
  have q2 : ¬ o = hT h + 1 + 1 := by omega
  have p3 : o < hT h + 1 + 1 + 1 := by omega
  have q3 : ¬ o = hT h + 1 + 1 + 1 := by omega
  have p4 : o < hT h + 1 + 1 + 1 + 1 := by omega
  have q4 : ¬ o = hT h + 1 + 1 + 1 + 1 := by omega
  have p5 : o < hT h + 1 + 1 + 1 + 1 + 1 := by omega
  have q5 : ¬ o = hT h + 1 + 1 + 1 + 1 + 1 := by omega
  have p6 : o < hT h + 1 + 1 + 1 + 1 + 1 + 1 := by omega
  have q6 : ¬ o = hT h + 1 + 1 + 1 + 1 + 1 + 1 := by omega
  have p7 : o < hT h + 1 + 1 + 1 + 1 + 1 + 1 + 1 := by omega
  have q7 : ¬ o = hT h + 1 + 1 + 1 + 1 + 1 + 1 + 1 := by omega
  have p8 : o < hT h + 1 + 1 + 1 + 1 + 1 + 1 + 1 + 1 := by omega
  have q8 : ¬ o = hT h + 1 + 1 + 1 + 1 + 1 + 1 + 1 + 1 := by omega
  have e24 : (24 : Int32).toNatClampNeg = 24 := by decide
  have l24 : ¬ (24 : Int32) < 0 := by decide
  have m24 : (24 : Nat) ≤ 100000 := by decide
  unfold li_X3 at hq
  simp only [mkA, hT_pR, hT_nC] at hq
  simp only [b_X3_init_0, i_push, i_ild, i_ald, i_ist, i_ast, i_inc, i_bin, i_un, i_divs, i_i2l, i_lshl, i_lor, i_dup, i_dup2, i_pop, i_if, i_cmp, i_nul, i_vret, i_iret, i_zret, i_aret, i_keep, keep, lget, lset, ent, i_getI, i_getJ, i_getR, i_getN, i_putI, i_putZ, i_putJ, i_putR, i_iald, i_bald, i_alen, i_aald, i_iast, i_bast, i_aast, i_new, i_newa, i_anew, i_oini, i_callS, i_callV, i_callI, popn, sh4, i_sw, swP, i_copy, i_binS, List.map, Option.toList_none, Option.toList_some, List.append, List.nil_append, List.cons_append, List.length_cons, List.length_nil, List.replicate, Nat.sub_self, Nat.reduceSub, Nat.reduceAdd, hK_pI, hL_pI, hI_pI, hR_pI, hJ_pI, hT_pI, hS_pI, hK_pR, hL_pR, hI_pR, hR_pR, hJ_pR, hT_pR, hS_pR, hK_pJ, hL_pJ, hI_pJ, hR_pJ, hJ_pJ, hT_pJ, hS_pJ, hK_wI, hL_wI, hI_wI, hR_wI, hJ_wI, hT_wI, hS_wI, eq_self, and_true, true_and, and_false, false_and, or_true, true_or, or_false, false_or, if_true, if_false, not_true_eq_false, not_false_eq_true, forall_const, implies_true, false_implies, true_implies, Option.some.injEq, forall_eq', exists_eq_left', reduceCtorEq, Nat.reduceEqDiff, c1, T_X12_in, T_X12_ones, T_X11_within, T_X11_bit, T_X11_isIn, T_X11_oneIfIn, T_J6_bitCount_0f7a4, hT_nC, hK_nC, p0, q0, p1, q1, p2, q2, p3, q3, p4, q4, p5, q5, p6, q6, p7, q7, p8, q8, e24, l24, m24, hk, List.length, Nat.zero_le, Nat.reduceLeDiff]
  exact hq
set_option maxRecDepth 100000 in
set_option maxHeartbeats 4000000 in
theorem ok_X3_init : ctr 1 MX3_init T_X3_init := by
  refine ctr_of pn_X3 wc_X3_init (fun av h Q hT => ?_)
  unfold T_X3_init at hT
  split at hT
  · rename_i o
    refine ⟨⟨by simp [Value.category], Nat.le_of_ble_eq_true rfl⟩, s_X3_init_0 Q _ _ _ ?_⟩
    exact xin_X3 Q h o hT.1 hT.2.1 hT.2.2
  · exact hT.elim
def li_X4 : List (Nat × Nat × Nat) := [(3, 14, 10), (4, 14, 10), (5, 14, 10), (6, 14, 10), (7, 14, 10), (8, 14, 10), (9, 15, 10), (10, 14, 4), (11, 14, 4), (12, 14, 4)]
def T_X4_init : Tr := fun av h Q => match av with
  | [.ref o, .ref s] => o < hT h ∧ hK h o = 4 ∧ Q none (pR (mkA h o li_X4) o 0 (some s))
  | _ => False
def L_X4_init : List UInt8 := [42, 183, 0, 3, 42, 16, 10, 188, 10, 181, 0, 9, 42, 16, 10, 188, 10, 181, 0, 15, 42, 16, 10, 188, 10, 181, 0, 18, 42, 16, 10, 188, 10, 181, 0, 21, 42, 16, 10, 188, 10, 181, 0, 24, 42, 16, 10, 188, 10, 181, 0, 27, 42, 16, 10, 188, 4, 181, 0, 30, 42, 7, 188, 10, 181, 0, 34, 42, 7, 188, 10, 181, 0, 37, 42, 7, 188, 10, 181, 0, 40, 42, 43, 181, 0, 43, 177]
theorem Lc_X4_init : MX4_init.2.1 = ⟨L_X4_init.toArray⟩ := rfl
theorem D_X4_init_0 : dseq MX4_init.2.1 0 [(.aload_n 0, 1), (.invokespecial 3, 3), (.aload_n 0, 1), (.bipush 10, 2), (.newarray .int, 2), (.putfield 9, 3), (.aload_n 0, 1), (.bipush 10, 2), (.newarray .int, 2), (.putfield 15, 3), (.aload_n 0, 1), (.bipush 10, 2), (.newarray .int, 2), (.putfield 18, 3), (.aload_n 0, 1), (.bipush 10, 2), (.newarray .int, 2), (.putfield 21, 3), (.aload_n 0, 1), (.bipush 10, 2), (.newarray .int, 2), (.putfield 24, 3), (.aload_n 0, 1), (.bipush 10, 2), (.newarray .int, 2), (.putfield 27, 3), (.aload_n 0, 1), (.bipush 10, 2), (.newarray .boolean, 2), (.putfield 30, 3), (.aload_n 0, 1), (.iconst 4, 1), (.newarray .int, 2), (.putfield 34, 3), (.aload_n 0, 1), (.iconst 4, 1), (.newarray .int, 2), (.putfield 37, 3), (.aload_n 0, 1), (.iconst 4, 1), (.newarray .int, 2), (.putfield 40, 3), (.aload_n 0, 1), (.aload_n 1, 1), (.putfield 43, 3), (.return_, 1)] := dq Lc_X4_init 0 _ (by decide +kernel)
def b_X4_init_0 (Q : Option Value → Hp → Prop) : Kt := i_ald 0 (i_oini (i_ald 0 (i_push (.int 10) (i_newa 14 (i_putR 4 3 (i_ald 0 (i_push (.int 10) (i_newa 14 (i_putR 4 4 (i_ald 0 (i_push (.int 10) (i_newa 14 (i_putR 4 5 (i_ald 0 (i_push (.int 10) (i_newa 14 (i_putR 4 6 (i_ald 0 (i_push (.int 10) (i_newa 14 (i_putR 4 7 (i_ald 0 (i_push (.int 10) (i_newa 14 (i_putR 4 8 (i_ald 0 (i_push (.int 10) (i_newa 15 (i_putR 4 9 (i_ald 0 (i_push (.int 4) (i_newa 14 (i_putR 4 10 (i_ald 0 (i_push (.int 4) (i_newa 14 (i_putR 4 11 (i_ald 0 (i_push (.int 4) (i_newa 14 (i_putR 4 12 (i_ald 0 (i_ald 1 (i_putR 4 0 (i_vret Q)))))))))))))))))))))))))))))))))))))))))))))
set_option maxRecDepth 100000 in
theorem s_X4_init_0 (Q : Option Value → Hp → Prop) : ∀ A st h, b_X4_init_0 Q A st h → wp 1 MX4_init Q 0 A st h := (q1 (s_aldn (n := 0) (i := 0) rfl) D_X4_init_0 fun D => (qO (s_oini (ch_2_1_ok.2.2.2.2.2.2.1.1 rfl) w_oi2 w_oi3) rfl (by decide) D fun D => (q1 (s_aldn (n := 0) (i := 0) rfl) D fun D => (q1 (s_bipush (n := 10) (v := 10) (by decide)) D fun D => (q1 na_int D fun D => (qP pl_X4_9 rfl (Or.inr rfl) D fun D => (q1 (s_aldn (n := 0) (i := 0) rfl) D fun D => (q1 (s_bipush (n := 10) (v := 10) (by decide)) D fun D => (q1 na_int D fun D => (qP pl_X4_15 rfl (Or.inr rfl) D fun D => (q1 (s_aldn (n := 0) (i := 0) rfl) D fun D => (q1 (s_bipush (n := 10) (v := 10) (by decide)) D fun D => (q1 na_int D fun D => (qP pl_X4_18 rfl (Or.inr rfl) D fun D => (q1 (s_aldn (n := 0) (i := 0) rfl) D fun D => (q1 (s_bipush (n := 10) (v := 10) (by decide)) D fun D => (q1 na_int D fun D => (qP pl_X4_21 rfl (Or.inr rfl) D fun D => (q1 (s_aldn (n := 0) (i := 0) rfl) D fun D => (q1 (s_bipush (n := 10) (v := 10) (by decide)) D fun D => (q1 na_int D fun D => (qP pl_X4_24 rfl (Or.inr rfl) D fun D => (q1 (s_aldn (n := 0) (i := 0) rfl) D fun D => (q1 (s_bipush (n := 10) (v := 10) (by decide)) D fun D => (q1 na_int D fun D => (qP pl_X4_27 rfl (Or.inr rfl) D fun D => (q1 (s_aldn (n := 0) (i := 0) rfl) D fun D => (q1 (s_bipush (n := 10) (v := 10) (by decide)) D fun D => (q1 na_boolean D fun D => (qP pl_X4_30 rfl (Or.inr rfl) D fun D => (q1 (s_aldn (n := 0) (i := 0) rfl) D fun D => (q1 (s_iconst (n := 4) (v := 4) (by decide)) D fun D => (q1 na_int D fun D => (qP pl_X4_34 rfl (Or.inr rfl) D fun D => (q1 (s_aldn (n := 0) (i := 0) rfl) D fun D => (q1 (s_iconst (n := 4) (v := 4) (by decide)) D fun D => (q1 na_int D fun D => (qP pl_X4_37 rfl (Or.inr rfl) D fun D => (q1 (s_aldn (n := 0) (i := 0) rfl) D fun D => (q1 (s_iconst (n := 4) (v := 4) (by decide)) D fun D => (q1 na_int D fun D => (qP pl_X4_40 rfl (Or.inr rfl) D fun D => (q1 (s_aldn (n := 0) (i := 0) rfl) D fun D => (q1 (s_aldn (n := 1) (i := 1) rfl) D fun D => (qP pl_X4_43 rfl (Or.inr rfl) D fun D => (qV rfl D))))))))))))))))))))))))))))))))))))))))))))))

set_option maxRecDepth 100000 in
set_option maxHeartbeats 400000 in
theorem xin_X4 (Q : Option Value → Hp → Prop) (h : Hp) (o s : Nat) (ho : o < hT h) (hk : hK h o = 4) (hq : Q none (pR (mkA h o li_X4) o 0 (some s))) : b_X4_init_0 Q [some (.ref o), some (.ref s)] [] h := by
  have p0 : o < hT h := by omega
  have q0 : ¬ o = hT h := by omega
  have p1 : o < hT h + 1 := by omega
  have q1 : ¬ o = hT h + 1 := by omega
  have p2 : o < hT h + 1 + 1 := by omega
  have q2 : ¬ o = hT h + 1 + 1 := by omega
  have p3 : o < hT h + 1 + 1 + 1 := by omega
  have q3 : ¬ o = hT h + 1 + 1 + 1 := by omega
  have p4 : o < hT h + 1 + 1 + 1 + 1 := by omega
  have q4 : ¬ o = hT h + 1 + 1 + 1 + 1 := by omega
  have p5 : o < hT h + 1 + 1 + 1 + 1 + 1 := by omega
  have q5 : ¬ o = hT h + 1 + 1 + 1 + 1 + 1 := by omega
  have p6 : o < hT h + 1 + 1 + 1 + 1 + 1 + 1 := by omega
  have q6 : ¬ o = hT h + 1 + 1 + 1 + 1 + 1 + 1 := by omega
  have p7 : o < hT h + 1 + 1 + 1 + 1 + 1 + 1 + 1 := by omega
  have q7 : ¬ o = hT h + 1 + 1 + 1 + 1 + 1 + 1 + 1 := by omega
  have p8 : o < hT h + 1 + 1 + 1 + 1 + 1 + 1 + 1 + 1 := by omega
  have q8 : ¬ o = hT h + 1 + 1 + 1 + 1 + 1 + 1 + 1 + 1 := by omega
  have p9 : o < hT h + 1 + 1 + 1 + 1 + 1 + 1 + 1 + 1 + 1 := by omega
  have q9 : ¬ o = hT h + 1 + 1 + 1 + 1 + 1 + 1 + 1 + 1 + 1 := by omega
  have p10 : o < hT h + 1 + 1 + 1 + 1 + 1 + 1 + 1 + 1 + 1 + 1 := by omega
  have q10 : ¬ o = hT h + 1 + 1 + 1 + 1 + 1 + 1 + 1 + 1 + 1 + 1 := by omega
  have e4 : (4 : Int32).toNatClampNeg = 4 := by decide
  have l4 : ¬ (4 : Int32) < 0 := by decide
  have m4 : (4 : Nat) ≤ 100000 := by decide
  have e10 : (10 : Int32).toNatClampNeg = 10 := by decide
  have l10 : ¬ (10 : Int32) < 0 := by decide
  have m10 : (10 : Nat) ≤ 100000 := by decide
  unfold li_X4 at hq
  simp only [mkA, hT_pR, hT_nC] at hq
  simp only [b_X4_init_0, i_push, i_ild, i_ald, i_ist, i_ast, i_inc, i_bin, i_un, i_divs, i_i2l, i_lshl, i_lor, i_dup, i_dup2, i_pop, i_if, i_cmp, i_nul, i_vret, i_iret, i_zret, i_aret, i_keep, keep, lget, lset, ent, i_getI, i_getJ, i_getR, i_getN, i_putI, i_putZ, i_putJ, i_putR, i_iald, i_bald, i_alen, i_aald, i_iast, i_bast, i_aast, i_new, i_newa, i_anew, i_oini, i_callS, i_callV, i_callI, popn, sh4, i_sw, swP, i_copy, i_binS, List.map, Option.toList_none, Option.toList_some, List.append, List.nil_append, List.cons_append, List.length_cons, List.length_nil, List.replicate, Nat.sub_self, Nat.reduceSub, Nat.reduceAdd, hK_pI, hL_pI, hI_pI, hR_pI, hJ_pI, hT_pI, hS_pI, hK_pR, hL_pR, hI_pR, hR_pR, hJ_pR, hT_pR, hS_pR, hK_pJ, hL_pJ, hI_pJ, hR_pJ, hJ_pJ, hT_pJ, hS_pJ, hK_wI, hL_wI, hI_wI, hR_wI, hJ_wI, hT_wI, hS_wI, eq_self, and_true, true_and, and_false, false_and, or_true, true_or, or_false, false_or, if_true, if_false, not_true_eq_false, not_false_eq_true, forall_const, implies_true, false_implies, true_implies, Option.some.injEq, forall_eq', exists_eq_left', reduceCtorEq, Nat.reduceEqDiff, c1, T_X12_in, T_X12_ones, T_X11_within, T_X11_bit, T_X11_isIn, T_X11_oneIfIn, T_J6_bitCount_0f7a4, hT_nC, hK_nC, p0, q0, p1, q1, p2, q2, p3, q3, p4, q4, p5, q5, p6, q6, p7, q7, p8, q8, p9, q9, p10, q10, e4, l4, m4, e10, l10, m10, hk, List.length, Nat.zero_le, Nat.reduceLeDiff]
  exact hq
set_option maxRecDepth 100000 in
set_option maxHeartbeats 4000000 in
theorem ok_X4_init : ctr 1 MX4_init T_X4_init := by
  refine ctr_of pn_X4 wc_X4_init (fun av h Q hT => ?_)
  unfold T_X4_init at hT
  split at hT
  · rename_i o s
    refine ⟨⟨by simp [Value.category], Nat.le_of_ble_eq_true rfl⟩, s_X4_init_0 Q _ _ _ ?_⟩
    exact xin_X4 Q h o s hT.1 hT.2.1 hT.2.2
  · exact hT.elim
def li_X6 : List (Nat × Nat × Nat) := [(1, 14, 4), (2, 14, 4), (3, 14, 4)]
def T_X6_init : Tr := fun av h Q => match av with
  | [.ref o] => o < hT h ∧ hK h o = 6 ∧ Q none (mkA h o li_X6)
  | _ => False
def L_X6_init : List UInt8 := [42, 183, 0, 3, 42, 7, 188, 10, 181, 0, 9, 42, 7, 188, 10, 181, 0, 15, 42, 7, 188, 10, 181, 0, 18, 177]
theorem Lc_X6_init : MX6_init.2.1 = ⟨L_X6_init.toArray⟩ := rfl
theorem D_X6_init_0 : dseq MX6_init.2.1 0 [(.aload_n 0, 1), (.invokespecial 3, 3), (.aload_n 0, 1), (.iconst 4, 1), (.newarray .int, 2), (.putfield 9, 3), (.aload_n 0, 1), (.iconst 4, 1), (.newarray .int, 2), (.putfield 15, 3), (.aload_n 0, 1), (.iconst 4, 1), (.newarray .int, 2), (.putfield 18, 3), (.return_, 1)] := dq Lc_X6_init 0 _ (by decide +kernel)
def b_X6_init_0 (Q : Option Value → Hp → Prop) : Kt := i_ald 0 (i_oini (i_ald 0 (i_push (.int 4) (i_newa 14 (i_putR 6 1 (i_ald 0 (i_push (.int 4) (i_newa 14 (i_putR 6 2 (i_ald 0 (i_push (.int 4) (i_newa 14 (i_putR 6 3 (i_vret Q))))))))))))))
set_option maxRecDepth 100000 in
theorem s_X6_init_0 (Q : Option Value → Hp → Prop) : ∀ A st h, b_X6_init_0 Q A st h → wp 1 MX6_init Q 0 A st h := (q1 (s_aldn (n := 0) (i := 0) rfl) D_X6_init_0 fun D => (qO (s_oini (ch_1_5_ok.2.2.2.2.2.2.2.2.2.2.2.2.2.2.2.1.1 rfl) w_oi2 w_oi3) rfl (by decide) D fun D => (q1 (s_aldn (n := 0) (i := 0) rfl) D fun D => (q1 (s_iconst (n := 4) (v := 4) (by decide)) D fun D => (q1 na_int D fun D => (qP pl_X6_9 rfl (Or.inr rfl) D fun D => (q1 (s_aldn (n := 0) (i := 0) rfl) D fun D => (q1 (s_iconst (n := 4) (v := 4) (by decide)) D fun D => (q1 na_int D fun D => (qP pl_X6_15 rfl (Or.inr rfl) D fun D => (q1 (s_aldn (n := 0) (i := 0) rfl) D fun D => (q1 (s_iconst (n := 4) (v := 4) (by decide)) D fun D => (q1 na_int D fun D => (qP pl_X6_18 rfl (Or.inr rfl) D fun D => (qV rfl D)))))))))))))))

set_option maxRecDepth 100000 in
set_option maxHeartbeats 400000 in
theorem xin_X6 (Q : Option Value → Hp → Prop) (h : Hp) (o : Nat) (ho : o < hT h) (hk : hK h o = 6) (hq : Q none (mkA h o li_X6)) : b_X6_init_0 Q [some (.ref o)] [] h := by
  have p0 : o < hT h := by omega
  have q0 : ¬ o = hT h := by omega
  have p1 : o < hT h + 1 := by omega
  have q1 : ¬ o = hT h + 1 := by omega
  have p2 : o < hT h + 1 + 1 := by omega
  have q2 : ¬ o = hT h + 1 + 1 := by omega
  have p3 : o < hT h + 1 + 1 + 1 := by omega
  have q3 : ¬ o = hT h + 1 + 1 + 1 := by omega
  have e4 : (4 : Int32).toNatClampNeg = 4 := by decide
  have l4 : ¬ (4 : Int32) < 0 := by decide
  have m4 : (4 : Nat) ≤ 100000 := by decide
  unfold li_X6 at hq
  simp only [mkA, hT_pR, hT_nC] at hq
  simp only [b_X6_init_0, i_push, i_ild, i_ald, i_ist, i_ast, i_inc, i_bin, i_un, i_divs, i_i2l, i_lshl, i_lor, i_dup, i_dup2, i_pop, i_if, i_cmp, i_nul, i_vret, i_iret, i_zret, i_aret, i_keep, keep, lget, lset, ent, i_getI, i_getJ, i_getR, i_getN, i_putI, i_putZ, i_putJ, i_putR, i_iald, i_bald, i_alen, i_aald, i_iast, i_bast, i_aast, i_new, i_newa, i_anew, i_oini, i_callS, i_callV, i_callI, popn, sh4, i_sw, swP, i_copy, i_binS, List.map, Option.toList_none, Option.toList_some, List.append, List.nil_append, List.cons_append, List.length_cons, List.length_nil, List.replicate, Nat.sub_self, Nat.reduceSub, Nat.reduceAdd, hK_pI, hL_pI, hI_pI, hR_pI, hJ_pI, hT_pI, hS_pI, hK_pR, hL_pR, hI_pR, hR_pR, hJ_pR, hT_pR, hS_pR, hK_pJ, hL_pJ, hI_pJ, hR_pJ, hJ_pJ, hT_pJ, hS_pJ, hK_wI, hL_wI, hI_wI, hR_wI, hJ_wI, hT_wI, hS_wI, eq_self, and_true, true_and, and_false, false_and, or_true, true_or, or_false, false_or, if_true, if_false, not_true_eq_false, not_false_eq_true, forall_const, implies_true, false_implies, true_implies, Option.some.injEq, forall_eq', exists_eq_left', reduceCtorEq, Nat.reduceEqDiff, c1, T_X12_in, T_X12_ones, T_X11_within, T_X11_bit, T_X11_isIn, T_X11_oneIfIn, T_J6_bitCount_0f7a4, hT_nC, hK_nC, p0, q0, p1, q1, p2, q2, p3, q3, e4, l4, m4, hk, List.length, Nat.zero_le, Nat.reduceLeDiff]
  exact hq
set_option maxRecDepth 100000 in
set_option maxHeartbeats 4000000 in
theorem ok_X6_init : ctr 1 MX6_init T_X6_init := by
  refine ctr_of pn_X6 wc_X6_init (fun av h Q hT => ?_)
  unfold T_X6_init at hT
  split at hT
  · rename_i o
    refine ⟨⟨by simp [Value.category], Nat.le_of_ble_eq_true rfl⟩, s_X6_init_0 Q _ _ _ ?_⟩
    exact xin_X6 Q h o hT.1 hT.2.1 hT.2.2
  · exact hT.elim
def li_X7 : List (Nat × Nat × Nat) := [(1, 14, 16), (2, 14, 64), (3, 14, 64), (4, 14, 64), (5, 15, 64), (6, 14, 16), (7, 14, 16)]
def T_X7_init : Tr := fun av h Q => match av with
  | [.ref o] => o < hT h ∧ hK h o = 7 ∧ Q none (mkA h o li_X7)
  | _ => False
def L_X7_init : List UInt8 := [42, 183, 0, 3, 42, 16, 16, 188, 10, 181, 0, 9, 42, 16, 64, 188, 10, 181, 0, 15, 42, 16, 64, 188, 10, 181, 0, 18, 42, 16, 64, 188, 10, 181, 0, 21, 42, 16, 64, 188, 4, 181, 0, 24, 42, 16, 16, 188, 10, 181, 0, 28, 42, 16, 16, 188, 10, 181, 0, 31, 177]
theorem Lc_X7_init : MX7_init.2.1 = ⟨L_X7_init.toArray⟩ := rfl
theorem D_X7_init_0 : dseq MX7_init.2.1 0 [(.aload_n 0, 1), (.invokespecial 3, 3), (.aload_n 0, 1), (.bipush 16, 2), (.newarray .int, 2), (.putfield 9, 3), (.aload_n 0, 1), (.bipush 64, 2), (.newarray .int, 2), (.putfield 15, 3), (.aload_n 0, 1), (.bipush 64, 2), (.newarray .int, 2), (.putfield 18, 3), (.aload_n 0, 1), (.bipush 64, 2), (.newarray .int, 2), (.putfield 21, 3), (.aload_n 0, 1), (.bipush 64, 2), (.newarray .boolean, 2), (.putfield 24, 3), (.aload_n 0, 1), (.bipush 16, 2), (.newarray .int, 2), (.putfield 28, 3), (.aload_n 0, 1), (.bipush 16, 2), (.newarray .int, 2), (.putfield 31, 3), (.return_, 1)] := dq Lc_X7_init 0 _ (by decide +kernel)
def b_X7_init_0 (Q : Option Value → Hp → Prop) : Kt := i_ald 0 (i_oini (i_ald 0 (i_push (.int 16) (i_newa 14 (i_putR 7 1 (i_ald 0 (i_push (.int 64) (i_newa 14 (i_putR 7 2 (i_ald 0 (i_push (.int 64) (i_newa 14 (i_putR 7 3 (i_ald 0 (i_push (.int 64) (i_newa 14 (i_putR 7 4 (i_ald 0 (i_push (.int 64) (i_newa 15 (i_putR 7 5 (i_ald 0 (i_push (.int 16) (i_newa 14 (i_putR 7 6 (i_ald 0 (i_push (.int 16) (i_newa 14 (i_putR 7 7 (i_vret Q))))))))))))))))))))))))))))))
set_option maxRecDepth 100000 in
theorem s_X7_init_0 (Q : Option Value → Hp → Prop) : ∀ A st h, b_X7_init_0 Q A st h → wp 1 MX7_init Q 0 A st h := (q1 (s_aldn (n := 0) (i := 0) rfl) D_X7_init_0 fun D => (qO (s_oini (ch_1_3_ok.2.2.2.2.2.2.1.1 rfl) w_oi2 w_oi3) rfl (by decide) D fun D => (q1 (s_aldn (n := 0) (i := 0) rfl) D fun D => (q1 (s_bipush (n := 16) (v := 16) (by decide)) D fun D => (q1 na_int D fun D => (qP pl_X7_9 rfl (Or.inr rfl) D fun D => (q1 (s_aldn (n := 0) (i := 0) rfl) D fun D => (q1 (s_bipush (n := 64) (v := 64) (by decide)) D fun D => (q1 na_int D fun D => (qP pl_X7_15 rfl (Or.inr rfl) D fun D => (q1 (s_aldn (n := 0) (i := 0) rfl) D fun D => (q1 (s_bipush (n := 64) (v := 64) (by decide)) D fun D => (q1 na_int D fun D => (qP pl_X7_18 rfl (Or.inr rfl) D fun D => (q1 (s_aldn (n := 0) (i := 0) rfl) D fun D => (q1 (s_bipush (n := 64) (v := 64) (by decide)) D fun D => (q1 na_int D fun D => (qP pl_X7_21 rfl (Or.inr rfl) D fun D => (q1 (s_aldn (n := 0) (i := 0) rfl) D fun D => (q1 (s_bipush (n := 64) (v := 64) (by decide)) D fun D => (q1 na_boolean D fun D => (qP pl_X7_24 rfl (Or.inr rfl) D fun D => (q1 (s_aldn (n := 0) (i := 0) rfl) D fun D => (q1 (s_bipush (n := 16) (v := 16) (by decide)) D fun D => (q1 na_int D fun D => (qP pl_X7_28 rfl (Or.inr rfl) D fun D => (q1 (s_aldn (n := 0) (i := 0) rfl) D fun D => (q1 (s_bipush (n := 16) (v := 16) (by decide)) D fun D => (q1 na_int D fun D => (qP pl_X7_31 rfl (Or.inr rfl) D fun D => (qV rfl D)))))))))))))))))))))))))))))))

set_option maxRecDepth 100000 in
set_option maxHeartbeats 400000 in
theorem xin_X7 (Q : Option Value → Hp → Prop) (h : Hp) (o : Nat) (ho : o < hT h) (hk : hK h o = 7) (hq : Q none (mkA h o li_X7)) : b_X7_init_0 Q [some (.ref o)] [] h := by
  have p0 : o < hT h := by omega
  have q0 : ¬ o = hT h := by omega
  have p1 : o < hT h + 1 := by omega
  have q1 : ¬ o = hT h + 1 := by omega
  have p2 : o < hT h + 1 + 1 := by omega
  have q2 : ¬ o = hT h + 1 + 1 := by omega
  have p3 : o < hT h + 1 + 1 + 1 := by omega
  have q3 : ¬ o = hT h + 1 + 1 + 1 := by omega
  have p4 : o < hT h + 1 + 1 + 1 + 1 := by omega
  have q4 : ¬ o = hT h + 1 + 1 + 1 + 1 := by omega
  have p5 : o < hT h + 1 + 1 + 1 + 1 + 1 := by omega
  have q5 : ¬ o = hT h + 1 + 1 + 1 + 1 + 1 := by omega
  have p6 : o < hT h + 1 + 1 + 1 + 1 + 1 + 1 := by omega
  have q6 : ¬ o = hT h + 1 + 1 + 1 + 1 + 1 + 1 := by omega
  have p7 : o < hT h + 1 + 1 + 1 + 1 + 1 + 1 + 1 := by omega
  have q7 : ¬ o = hT h + 1 + 1 + 1 + 1 + 1 + 1 + 1 := by omega
  have e16 : (16 : Int32).toNatClampNeg = 16 := by decide
  have l16 : ¬ (16 : Int32) < 0 := by decide
  have m16 : (16 : Nat) ≤ 100000 := by decide
  have e64 : (64 : Int32).toNatClampNeg = 64 := by decide
  have l64 : ¬ (64 : Int32) < 0 := by decide
  have m64 : (64 : Nat) ≤ 100000 := by decide
  unfold li_X7 at hq
  simp only [mkA, hT_pR, hT_nC] at hq
  simp only [b_X7_init_0, i_push, i_ild, i_ald, i_ist, i_ast, i_inc, i_bin, i_un, i_divs, i_i2l, i_lshl, i_lor, i_dup, i_dup2, i_pop, i_if, i_cmp, i_nul, i_vret, i_iret, i_zret, i_aret, i_keep, keep, lget, lset, ent, i_getI, i_getJ, i_getR, i_getN, i_putI, i_putZ, i_putJ, i_putR, i_iald, i_bald, i_alen, i_aald, i_iast, i_bast, i_aast, i_new, i_newa, i_anew, i_oini, i_callS, i_callV, i_callI, popn, sh4, i_sw, swP, i_copy, i_binS, List.map, Option.toList_none, Option.toList_some, List.append, List.nil_append, List.cons_append, List.length_cons, List.length_nil, List.replicate, Nat.sub_self, Nat.reduceSub, Nat.reduceAdd, hK_pI, hL_pI, hI_pI, hR_pI, hJ_pI, hT_pI, hS_pI, hK_pR, hL_pR, hI_pR, hR_pR, hJ_pR, hT_pR, hS_pR, hK_pJ, hL_pJ, hI_pJ, hR_pJ, hJ_pJ, hT_pJ, hS_pJ, hK_wI, hL_wI, hI_wI, hR_wI, hJ_wI, hT_wI, hS_wI, eq_self, and_true, true_and, and_false, false_and, or_true, true_or, or_false, false_or, if_true, if_false, not_true_eq_false, not_false_eq_true, forall_const, implies_true, false_implies, true_implies, Option.some.injEq, forall_eq', exists_eq_left', reduceCtorEq, Nat.reduceEqDiff, c1, T_X12_in, T_X12_ones, T_X11_within, T_X11_bit, T_X11_isIn, T_X11_oneIfIn, T_J6_bitCount_0f7a4, hT_nC, hK_nC, p0, q0, p1, q1, p2, q2, p3, q3, p4, q4, p5, q5, p6, q6, p7, q7, e16, l16, m16, e64, l64, m64, hk, List.length, Nat.zero_le, Nat.reduceLeDiff]
  exact hq
set_option maxRecDepth 100000 in
set_option maxHeartbeats 4000000 in
theorem ok_X7_init : ctr 1 MX7_init T_X7_init := by
  refine ctr_of pn_X7 wc_X7_init (fun av h Q hT => ?_)
  unfold T_X7_init at hT
  split at hT
  · rename_i o
    refine ⟨⟨by simp [Value.category], Nat.le_of_ble_eq_true rfl⟩, s_X7_init_0 Q _ _ _ ?_⟩
    exact xin_X7 Q h o hT.1 hT.2.1 hT.2.2
  · exact hT.elim
def li_X9 : List (Nat × Nat × Nat) := [(0, 13, 500)]
def T_X9_init : Tr := fun av h Q => match av with
  | [.ref o] => o < hT h ∧ hK h o = 9 ∧ Q none (mkA h o li_X9)
  | _ => False
def L_X9_init : List UInt8 := [42, 183, 0, 3, 42, 17, 1, 244, 188, 8, 181, 0, 9, 177]
theorem Lc_X9_init : MX9_init.2.1 = ⟨L_X9_init.toArray⟩ := rfl
theorem D_X9_init_0 : dseq MX9_init.2.1 0 [(.aload_n 0, 1), (.invokespecial 3, 3), (.aload_n 0, 1), (.sipush 500, 3), (.newarray .byte, 2), (.putfield 9, 3), (.return_, 1)] := dq Lc_X9_init 0 _ (by decide +kernel)
def b_X9_init_0 (Q : Option Value → Hp → Prop) : Kt := i_ald 0 (i_oini (i_ald 0 (i_push (.int 500) (i_newa 13 (i_putR 9 0 (i_vret Q))))))
set_option maxRecDepth 100000 in
theorem s_X9_init_0 (Q : Option Value → Hp → Prop) : ∀ A st h, b_X9_init_0 Q A st h → wp 1 MX9_init Q 0 A st h := (q1 (s_aldn (n := 0) (i := 0) rfl) D_X9_init_0 fun D => (qO (s_oini (ch_1_2_ok.2.2.2.1.1 rfl) w_oi2 w_oi3) rfl (by decide) D fun D => (q1 (s_aldn (n := 0) (i := 0) rfl) D fun D => (q1 (s_sipush (n := 500) (v := 500) (by decide)) D fun D => (q1 na_byte D fun D => (qP pl_X9_9 rfl (Or.inr rfl) D fun D => (qV rfl D)))))))

set_option maxRecDepth 100000 in
set_option maxHeartbeats 400000 in
theorem xin_X9 (Q : Option Value → Hp → Prop) (h : Hp) (o : Nat) (ho : o < hT h) (hk : hK h o = 9) (hq : Q none (mkA h o li_X9)) : b_X9_init_0 Q [some (.ref o)] [] h := by
  have p0 : o < hT h := by omega
  have q0 : ¬ o = hT h := by omega
  have p1 : o < hT h + 1 := by omega
  have q1 : ¬ o = hT h + 1 := by omega
  have e500 : (500 : Int32).toNatClampNeg = 500 := by decide
  have l500 : ¬ (500 : Int32) < 0 := by decide
  have m500 : (500 : Nat) ≤ 100000 := by decide
  unfold li_X9 at hq
  simp only [mkA, hT_pR, hT_nC] at hq
  simp only [b_X9_init_0, i_push, i_ild, i_ald, i_ist, i_ast, i_inc, i_bin, i_un, i_divs, i_i2l, i_lshl, i_lor, i_dup, i_dup2, i_pop, i_if, i_cmp, i_nul, i_vret, i_iret, i_zret, i_aret, i_keep, keep, lget, lset, ent, i_getI, i_getJ, i_getR, i_getN, i_putI, i_putZ, i_putJ, i_putR, i_iald, i_bald, i_alen, i_aald, i_iast, i_bast, i_aast, i_new, i_newa, i_anew, i_oini, i_callS, i_callV, i_callI, popn, sh4, i_sw, swP, i_copy, i_binS, List.map, Option.toList_none, Option.toList_some, List.append, List.nil_append, List.cons_append, List.length_cons, List.length_nil, List.replicate, Nat.sub_self, Nat.reduceSub, Nat.reduceAdd, hK_pI, hL_pI, hI_pI, hR_pI, hJ_pI, hT_pI, hS_pI, hK_pR, hL_pR, hI_pR, hR_pR, hJ_pR, hT_pR, hS_pR, hK_pJ, hL_pJ, hI_pJ, hR_pJ, hJ_pJ, hT_pJ, hS_pJ, hK_wI, hL_wI, hI_wI, hR_wI, hJ_wI, hT_wI, hS_wI, eq_self, and_true, true_and, and_false, false_and, or_true, true_or, or_false, false_or, if_true, if_false, not_true_eq_false, not_false_eq_true, forall_const, implies_true, false_implies, true_implies, Option.some.injEq, forall_eq', exists_eq_left', reduceCtorEq, Nat.reduceEqDiff, c1, T_X12_in, T_X12_ones, T_X11_within, T_X11_bit, T_X11_isIn, T_X11_oneIfIn, T_J6_bitCount_0f7a4, hT_nC, hK_nC, p0, q0, p1, q1, e500, l500, m500, hk, List.length, Nat.zero_le, Nat.reduceLeDiff]
  exact hq
set_option maxRecDepth 100000 in
set_option maxHeartbeats 4000000 in
theorem ok_X9_init : ctr 1 MX9_init T_X9_init := by
  refine ctr_of pn_X9 wc_X9_init (fun av h Q hT => ?_)
  unfold T_X9_init at hT
  split at hT
  · rename_i o
    refine ⟨⟨by simp [Value.category], Nat.le_of_ble_eq_true rfl⟩, s_X9_init_0 Q _ _ _ ?_⟩
    exact xin_X9 Q h o hT.1 hT.2.1 hT.2.2
  · exact hT.elim
