/-! ===== steps: person ===== -/
def psA (h : Hp) (P : Nat) (age kd cv dv : Int32) : Hp := pI (pI (pI (pI (pI (pI h 17 P age) 18 P kd) 22 P (-1)) 16 10 (hI h 16 10 ||| cv)) 16 11 (hI h 16 11 ||| dv)) 16 0 (nI (P + 1))
def psB (h : Hp) (P : Nat) (age kd cb dg : Int32) : Hp := pI (pI (pI (pI (pI (pI (pI (pI (pI (pI (pI (pI (pI (pI (pI h 44 0 0) 52 0 (nI (P + 1))) 53 P age) 54 P kd) 55 P cb) 56 P dg) 57 P 0) 58 P 0) 59 P 0) 60 P (-1)) 61 P 0) 62 P 0) 63 P 0) 78 P (-1)) 79 P (-1)
theorem psA_sh (h : Hp) (P : Nat) (age kd cv dv : Int32) : Sh h (psA h P age kd cv dv) := (((((pI_sh h 17 P age).p 18 P kd).p 22 P (-1)).p 16 10 _).p 16 11 _).p 16 0 _
theorem psB_sh (h : Hp) (P : Nat) (age kd cb dg : Int32) : Sh h (psB h P age kd cb dg) := ((((((((((((((pI_sh h 44 0 0).p 52 0 (nI (P + 1))).p 53 P age).p 54 P kd).p 55 P cb).p 56 P dg).p 57 P 0).p 58 P 0).p 59 P 0).p 60 P (-1)).p 61 P 0).p 62 P 0).p 63 P 0).p 78 P (-1)).p 79 P (-1)
theorem psA_o (h : Hp) (P : Nat) (age kd cv dv : Int32) (a j : Nat) (n1 : a ≠ 16 ∨ (j ≠ 0 ∧ j ≠ 10 ∧ j ≠ 11)) (n2 : a ≠ 17) (n3 : a ≠ 18) (n4 : a ≠ 22) : hI (psA h P age kd cv dv) a j = hI h a j := by
  unfold psA
  rw [hI_pX, if_neg (by omega), hI_pX, if_neg (by omega), hI_pX, if_neg (by omega), hI_pX, if_neg (by omega), hI_pX, if_neg (by omega), hI_pX, if_neg (by omega)]
theorem psB_o (h : Hp) (P : Nat) (age kd cb dg : Int32) (a j : Nat) (n1 : ¬ (a = 44 ∧ j = 0)) (n2 : ¬ (52 ≤ a ∧ a ≤ 63)) (n3 : a ≠ 78) (n4 : a ≠ 79) : hI (psB h P age kd cb dg) a j = hI h a j := by
  unfold psB
  rw [hI_pX, if_neg (by omega), hI_pX, if_neg (by omega), hI_pX, if_neg (by omega), hI_pX, if_neg (by omega), hI_pX, if_neg (by omega), hI_pX, if_neg (by omega), hI_pX, if_neg (by omega), hI_pX, if_neg (by omega), hI_pX, if_neg (by omega), hI_pX, if_neg (by omega), hI_pX, if_neg (by omega), hI_pX, if_neg (by omega), hI_pX, if_neg (by omega), hI_pX, if_neg (by omega), hI_pX, if_neg n1]
theorem psA_r (h : Hp) (P : Nat) (age kd cv dv : Int32) (x : Nat) : (hI (psA h P age kd cv dv) 16 0 = nI (P + 1)) ∧ (hI (psA h P age kd cv dv) 16 10 = hI h 16 10 ||| cv) ∧ (hI (psA h P age kd cv dv) 16 11 = hI h 16 11 ||| dv) ∧ (hI (psA h P age kd cv dv) 17 x = if x = P then age else hI h 17 x) ∧ (hI (psA h P age kd cv dv) 18 x = if x = P then kd else hI h 18 x) ∧ (hI (psA h P age kd cv dv) 22 x = if x = P then -1 else hI h 22 x) := by
  unfold psA
  refine ⟨?_, ?_, ?_, ?_, ?_, ?_⟩ <;> simp only [hI_pX, Nat.reduceEqDiff, false_and, and_false, if_false, true_and, and_true, if_true, eq_self]
theorem psB_r (h : Hp) (P : Nat) (age kd cb dg : Int32) (x : Nat) : (hI (psB h P age kd cb dg) 52 x = if x = 0 then (nI (P + 1)) else hI h 52 x) ∧ (hI (psB h P age kd cb dg) 53 x = if x = P then age else hI h 53 x) ∧ (hI (psB h P age kd cb dg) 54 x = if x = P then kd else hI h 54 x) ∧ (hI (psB h P age kd cb dg) 55 x = if x = P then cb else hI h 55 x) ∧ (hI (psB h P age kd cb dg) 56 x = if x = P then dg else hI h 56 x) ∧ (hI (psB h P age kd cb dg) 57 x = if x = P then 0 else hI h 57 x) ∧ (hI (psB h P age kd cb dg) 58 x = if x = P then 0 else hI h 58 x) ∧ (hI (psB h P age kd cb dg) 59 x = if x = P then 0 else hI h 59 x) ∧ (hI (psB h P age kd cb dg) 60 x = if x = P then (-1) else hI h 60 x) ∧ (hI (psB h P age kd cb dg) 61 x = if x = P then 0 else hI h 61 x) ∧ (hI (psB h P age kd cb dg) 62 x = if x = P then 0 else hI h 62 x) ∧ (hI (psB h P age kd cb dg) 63 x = if x = P then 0 else hI h 63 x) ∧ (hI (psB h P age kd cb dg) 78 x = if x = P then (-1) else hI h 78 x) ∧ (hI (psB h P age kd cb dg) 79 x = if x = P then (-1) else hI h 79 x) := by
  unfold psB
  refine ⟨?_, ?_, ?_, ?_, ?_, ?_, ?_, ?_, ?_, ?_, ?_, ?_, ?_, ?_⟩ <;> simp only [hI_pX, Nat.reduceEqDiff, false_and, and_false, if_false, true_and, and_true, if_true, eq_self]
def L_X11_person : List UInt8 := [27, 3, 16, 120, 184, 0, 85, 153, 0, 12, 28, 4, 5, 184, 0, 85, 154, 0, 5, 2, 172, 42, 180, 0, 24, 180, 0, 99, 27, 28, 29, 21, 4, 182, 0, 103, 172]
theorem Lc_X11_person : MX11_person.2.1 = ⟨L_X11_person.toArray⟩ := rfl
theorem D_X11_person_0 : dseq MX11_person.2.1 0 [(.iload_n 1, 1), (.iconst 0, 1), (.bipush 120, 2), (.invokestatic 85, 3), (.ifCond .eq 12, 3), (.iload_n 2, 1), (.iconst 1, 1), (.iconst 2, 1), (.invokestatic 85, 3), (.ifCond .ne 5, 3), (.iconst (-1), 1), (.ireturn, 1)] := dq Lc_X11_person 0 _ (by decide +kernel)
theorem D_X11_person_19 : dseq MX11_person.2.1 19 [(.iconst (-1), 1), (.ireturn, 1)] := dq Lc_X11_person 19 _ (by decide +kernel)
theorem D_X11_person_21 : dseq MX11_person.2.1 21 [(.aload_n 0, 1), (.getfield 24, 3), (.getfield 99, 3), (.iload_n 1, 1), (.iload_n 2, 1), (.iload_n 3, 1), (.iload 4, 2), (.invokevirtual 103, 3), (.ireturn, 1)] := dq Lc_X11_person 21 _ (by decide +kernel)
def b_X11_person_0 (Q : Option Value → Hp → Prop) : Kt := i_ild 1 (i_push (.int 0) (i_push (.int 120) (i_callS 3 T_X11_within (i_if (fun x => x = 0) (i_push (.int (-1)) (i_iret Q)) (i_ild 2 (i_push (.int 1) (i_push (.int 2) (i_callS 3 T_X11_within (i_if (fun x => x = 0) (i_push (.int (-1)) (i_iret Q)) (i_ald 0 (i_getR 11 1 (i_getR 8 1 (i_ild 1 (i_ild 2 (i_ild 3 (i_ild 4 (i_callV 3 4 T_X3_add (i_iret Q))))))))))))))))))
set_option maxRecDepth 100000 in
theorem s_X11_person_0 (Q : Option Value → Hp → Prop) : ∀ A st h, b_X11_person_0 Q A st h → wp 2 MX11_person Q 0 A st h := (q1 (s_ildn (n := 1) (i := 1) rfl) D_X11_person_0 fun D => (q1 (s_iconst (n := 0) (v := 0) (by decide)) D fun D => (q1 (s_bipush (n := 120) (v := 120) (by decide)) D fun D => (qX (s_callS ok_X11_within mo_X11_within (ch_3_5_ok.2.2.2.2.1.1 rfl) (ch_3_5_ok.2.2.2.2.2.1.1 rfl)) rfl (by decide) D fun D => (qB s_ifeq 19 (by decide) D (q1 (s_iconst (n := (-1)) (v := (-1)) (by decide)) D_X11_person_19 fun D => (qI rfl D)) fun D => (q1 (s_ildn (n := 2) (i := 2) rfl) D fun D => (q1 (s_iconst (n := 1) (v := 1) (by decide)) D fun D => (q1 (s_iconst (n := 2) (v := 2) (by decide)) D fun D => (qX (s_callS ok_X11_within mo_X11_within (ch_3_5_ok.2.2.2.2.1.1 rfl) (ch_3_5_ok.2.2.2.2.2.1.1 rfl)) rfl (by decide) D fun D => (qBn s_ifne2 21 (by decide) D (q1 (s_aldn (n := 0) (i := 0) rfl) D_X11_person_21 fun D => (qC fl_X11_24 rfl D fun D => (qC fl_X11_99 rfl D fun D => (q1 (s_ildn (n := 1) (i := 1) rfl) D fun D => (q1 (s_ildn (n := 2) (i := 2) rfl) D fun D => (q1 (s_ildn (n := 3) (i := 3) rfl) D fun D => (q1 s_ild D fun D => (qX (s_callV kX3 rfl ok_X3_add mo_X3_add (ch_3_6_ok.2.2.1.1 rfl) (ch_3_6_ok.2.2.2.1.1 rfl) (ch_3_6_ok.2.2.2.2.1.1 rfl)) rfl (by decide) D fun D => (qI rfl D))))))))) fun D => (q1 (s_iconst (n := (-1)) (v := (-1)) (by decide)) D fun D => (qI rfl D))))))))))))
def T_X11_person : Tr := fun av h Q => c1 5 av ∧ b_X11_person_0 Q (ent 5 av) [] h
theorem ok_X11_person : ctr 2 MX11_person T_X11_person := ctr_of pn_X11 wc_X11_person (fun av h Q hT => ⟨c1_ok hT.1, s_X11_person_0 Q _ _ _ hT.2⟩)

set_option maxRecDepth 100000 in
theorem xperson (Q : Option Value → Hp → Prop) (h : Hp) (hl : LayX h) (P : Nat) (h16 : hI h 16 0 = nI P) (hP : P < 24) (age kd cb dg : Int32) (c1' : 0 ≤ age ∧ age ≤ 120) (c2' : 1 ≤ kd ∧ kd ≤ 2) (hq : Q (some (.int (nI P))) (psA h P age kd (sv cb P) (sv dg P))) : T_X11_person [.ref 0, .int age, .int kd, .int cb, .int dg] h Q := by
  have hlt4 : nI P < 24 ↔ P < 24 := nI_ltI (b := 24) (by omega) (by decide)
  have em : nI (P + 1) - 1 = nI P := (nI_sub (b := 1) (by omega)).trans (by rw [Nat.add_sub_cancel])
  have hb : (1 : Int32) <<< (nI P &&& 31) = bitI P := rfl
  unfold psA at hq
  unfold T_X11_person
  by_cases cs : cb = 0
  · have es : sv cb P = 0 := if_pos cs
    rw [es] at hq
    by_cases cd : dg = 0
    · have ed : sv dg P = 0 := if_pos cd
      rw [ed] at hq
      simp only [b_X11_person_0, T_X3_add, b_X3_add_0, lx_pI, lx_wI, lx_t hl, lx_k hl, lx_r hl, lx_l hl, i_push, i_ild, i_ald, i_ist, i_ast, i_inc, i_bin, i_un, i_divs, i_i2l, i_lshl, i_lor, i_dup, i_dup2, i_pop, i_if, i_cmp, i_nul, i_vret, i_iret, i_zret, i_aret, i_keep, keep, lget, lset, ent, i_getI, i_getJ, i_getR, i_getN, i_putI, i_putZ, i_putJ, i_putR, i_iald, i_bald, i_alen, i_aald, i_iast, i_bast, i_aast, i_new, i_newa, i_anew, i_oini, i_callS, i_callV, i_callI, popn, sh4, i_sw, swP, i_copy, i_binS, List.map, Option.toList_none, Option.toList_some, List.append, List.nil_append, List.cons_append, List.length_cons, List.length_nil, List.replicate, Nat.sub_self, Nat.reduceSub, Nat.reduceAdd, hK_pX, hL_pX, hI_pX, hR_pX, hJ_pX, hT_pX, hS_pX, hK_pR, hL_pR, hI_pR, hR_pR, hJ_pR, hT_pR, hS_pR, hK_pJ, hL_pJ, hI_pJ, hR_pJ, hJ_pJ, hT_pJ, hS_pJ, hK_wI, hL_wI, hI_wI, hR_wI, hJ_wI, hT_wI, hS_wI, eq_self, and_true, true_and, and_false, false_and, or_true, true_or, or_false, false_or, if_true, if_false, not_true_eq_false, not_false_eq_true, forall_const, implies_true, false_implies, true_implies, Option.some.injEq, forall_eq', exists_eq_left', reduceCtorEq, Nat.reduceEqDiff, c1, T_X12_in, T_X12_ones, T_X11_within, T_X11_bit, T_X11_isIn, T_X11_oneIfIn, T_J6_bitCount_0f7a4, c1', c2', b2i_0, h16, hlt4, hP, cs, cd, cl_nI (show P < 2147483648 by omega), in_nI (show P < 24 by omega) (by decide), nI_1, em, Nat.reduceEqDiff, hb]
      exact hq
    · have ed : sv dg P = bitI P := if_neg cd
      rw [ed] at hq
      simp only [b_X11_person_0, T_X3_add, b_X3_add_0, lx_pI, lx_wI, lx_t hl, lx_k hl, lx_r hl, lx_l hl, i_push, i_ild, i_ald, i_ist, i_ast, i_inc, i_bin, i_un, i_divs, i_i2l, i_lshl, i_lor, i_dup, i_dup2, i_pop, i_if, i_cmp, i_nul, i_vret, i_iret, i_zret, i_aret, i_keep, keep, lget, lset, ent, i_getI, i_getJ, i_getR, i_getN, i_putI, i_putZ, i_putJ, i_putR, i_iald, i_bald, i_alen, i_aald, i_iast, i_bast, i_aast, i_new, i_newa, i_anew, i_oini, i_callS, i_callV, i_callI, popn, sh4, i_sw, swP, i_copy, i_binS, List.map, Option.toList_none, Option.toList_some, List.append, List.nil_append, List.cons_append, List.length_cons, List.length_nil, List.replicate, Nat.sub_self, Nat.reduceSub, Nat.reduceAdd, hK_pX, hL_pX, hI_pX, hR_pX, hJ_pX, hT_pX, hS_pX, hK_pR, hL_pR, hI_pR, hR_pR, hJ_pR, hT_pR, hS_pR, hK_pJ, hL_pJ, hI_pJ, hR_pJ, hJ_pJ, hT_pJ, hS_pJ, hK_wI, hL_wI, hI_wI, hR_wI, hJ_wI, hT_wI, hS_wI, eq_self, and_true, true_and, and_false, false_and, or_true, true_or, or_false, false_or, if_true, if_false, not_true_eq_false, not_false_eq_true, forall_const, implies_true, false_implies, true_implies, Option.some.injEq, forall_eq', exists_eq_left', reduceCtorEq, Nat.reduceEqDiff, c1, T_X12_in, T_X12_ones, T_X11_within, T_X11_bit, T_X11_isIn, T_X11_oneIfIn, T_J6_bitCount_0f7a4, c1', c2', b2i_0, h16, hlt4, hP, cs, cd, cl_nI (show P < 2147483648 by omega), in_nI (show P < 24 by omega) (by decide), nI_1, em, Nat.reduceEqDiff, hb]
      exact hq
  · have es : sv cb P = bitI P := if_neg cs
    rw [es] at hq
    by_cases cd : dg = 0
    · have ed : sv dg P = 0 := if_pos cd
      rw [ed] at hq
      simp only [b_X11_person_0, T_X3_add, b_X3_add_0, lx_pI, lx_wI, lx_t hl, lx_k hl, lx_r hl, lx_l hl, i_push, i_ild, i_ald, i_ist, i_ast, i_inc, i_bin, i_un, i_divs, i_i2l, i_lshl, i_lor, i_dup, i_dup2, i_pop, i_if, i_cmp, i_nul, i_vret, i_iret, i_zret, i_aret, i_keep, keep, lget, lset, ent, i_getI, i_getJ, i_getR, i_getN, i_putI, i_putZ, i_putJ, i_putR, i_iald, i_bald, i_alen, i_aald, i_iast, i_bast, i_aast, i_new, i_newa, i_anew, i_oini, i_callS, i_callV, i_callI, popn, sh4, i_sw, swP, i_copy, i_binS, List.map, Option.toList_none, Option.toList_some, List.append, List.nil_append, List.cons_append, List.length_cons, List.length_nil, List.replicate, Nat.sub_self, Nat.reduceSub, Nat.reduceAdd, hK_pX, hL_pX, hI_pX, hR_pX, hJ_pX, hT_pX, hS_pX, hK_pR, hL_pR, hI_pR, hR_pR, hJ_pR, hT_pR, hS_pR, hK_pJ, hL_pJ, hI_pJ, hR_pJ, hJ_pJ, hT_pJ, hS_pJ, hK_wI, hL_wI, hI_wI, hR_wI, hJ_wI, hT_wI, hS_wI, eq_self, and_true, true_and, and_false, false_and, or_true, true_or, or_false, false_or, if_true, if_false, not_true_eq_false, not_false_eq_true, forall_const, implies_true, false_implies, true_implies, Option.some.injEq, forall_eq', exists_eq_left', reduceCtorEq, Nat.reduceEqDiff, c1, T_X12_in, T_X12_ones, T_X11_within, T_X11_bit, T_X11_isIn, T_X11_oneIfIn, T_J6_bitCount_0f7a4, c1', c2', b2i_0, h16, hlt4, hP, cs, cd, cl_nI (show P < 2147483648 by omega), in_nI (show P < 24 by omega) (by decide), nI_1, em, Nat.reduceEqDiff, hb]
      exact hq
    · have ed : sv dg P = bitI P := if_neg cd
      rw [ed] at hq
      simp only [b_X11_person_0, T_X3_add, b_X3_add_0, lx_pI, lx_wI, lx_t hl, lx_k hl, lx_r hl, lx_l hl, i_push, i_ild, i_ald, i_ist, i_ast, i_inc, i_bin, i_un, i_divs, i_i2l, i_lshl, i_lor, i_dup, i_dup2, i_pop, i_if, i_cmp, i_nul, i_vret, i_iret, i_zret, i_aret, i_keep, keep, lget, lset, ent, i_getI, i_getJ, i_getR, i_getN, i_putI, i_putZ, i_putJ, i_putR, i_iald, i_bald, i_alen, i_aald, i_iast, i_bast, i_aast, i_new, i_newa, i_anew, i_oini, i_callS, i_callV, i_callI, popn, sh4, i_sw, swP, i_copy, i_binS, List.map, Option.toList_none, Option.toList_some, List.append, List.nil_append, List.cons_append, List.length_cons, List.length_nil, List.replicate, Nat.sub_self, Nat.reduceSub, Nat.reduceAdd, hK_pX, hL_pX, hI_pX, hR_pX, hJ_pX, hT_pX, hS_pX, hK_pR, hL_pR, hI_pR, hR_pR, hJ_pR, hT_pR, hS_pR, hK_pJ, hL_pJ, hI_pJ, hR_pJ, hJ_pJ, hT_pJ, hS_pJ, hK_wI, hL_wI, hI_wI, hR_wI, hJ_wI, hT_wI, hS_wI, eq_self, and_true, true_and, and_false, false_and, or_true, true_or, or_false, false_or, if_true, if_false, not_true_eq_false, not_false_eq_true, forall_const, implies_true, false_implies, true_implies, Option.some.injEq, forall_eq', exists_eq_left', reduceCtorEq, Nat.reduceEqDiff, c1, T_X12_in, T_X12_ones, T_X11_within, T_X11_bit, T_X11_isIn, T_X11_oneIfIn, T_J6_bitCount_0f7a4, c1', c2', b2i_0, h16, hlt4, hP, cs, cd, cl_nI (show P < 2147483648 by omega), in_nI (show P < 24 by omega) (by decide), nI_1, em, Nat.reduceEqDiff, hb]
      exact hq
set_option maxRecDepth 100000 in
theorem mperson (Q : Option Value → Hp → Prop) (h : Hp) (hl : LayM h) (P : Nat) (h52 : hI h 52 0 = nI P) (hP : P < 24) (age kd cb dg : Int32) (hst : cb = 0 ∨ cb = 1) (hdg : dg = 0 ∨ dg = 1) (c1' : 0 ≤ age ∧ age ≤ 120) (c2' : 1 ≤ kd ∧ kd ≤ 2) (hq : Q (some (.int (nI P))) (psB h P age kd cb dg)) : T_X12_person [.ref 44, .int age, .int kd, .int cb, .int dg] h Q := by
  have h4 : ¬ nI P = 24 := fun z => by
    have := (nI_inj (b := 24) (by omega) (by decide)).mp z
    omega
  unfold psB at hq
  unfold T_X12_person
  rcases hst with cs | cs <;> rcases hdg with cd | cd <;> subst cs <;> subst cd <;> simp only [b_X12_person_0, hl, lay_pI, lay_wI, lay_pJ, lm_t hl, lm_k hl, lm_r hl, lm_l hl, i_push, i_ild, i_ald, i_ist, i_ast, i_inc, i_bin, i_un, i_divs, i_i2l, i_lshl, i_lor, i_dup, i_dup2, i_pop, i_if, i_cmp, i_nul, i_vret, i_iret, i_zret, i_aret, i_keep, keep, lget, lset, ent, i_getI, i_getJ, i_getR, i_getN, i_putI, i_putZ, i_putJ, i_putR, i_iald, i_bald, i_alen, i_aald, i_iast, i_bast, i_aast, i_new, i_newa, i_anew, i_oini, i_callS, i_callV, i_callI, popn, sh4, i_sw, swP, i_copy, i_binS, List.map, Option.toList_none, Option.toList_some, List.append, List.nil_append, List.cons_append, List.length_cons, List.length_nil, List.replicate, Nat.sub_self, Nat.reduceSub, Nat.reduceAdd, hK_pX, hL_pX, hI_pX, hR_pX, hJ_pX, hT_pX, hS_pX, hK_pR, hL_pR, hI_pR, hR_pR, hJ_pR, hT_pR, hS_pR, hK_pJ, hL_pJ, hI_pJ, hR_pJ, hJ_pJ, hT_pJ, hS_pJ, hK_wI, hL_wI, hI_wI, hR_wI, hJ_wI, hT_wI, hS_wI, eq_self, and_true, true_and, and_false, false_and, or_true, true_or, or_false, false_or, if_true, if_false, not_true_eq_false, not_false_eq_true, forall_const, implies_true, false_implies, true_implies, Option.some.injEq, forall_eq', exists_eq_left', reduceCtorEq, Nat.reduceEqDiff, c1, T_X12_in, T_X12_ones, T_X11_within, T_X11_bit, T_X11_isIn, T_X11_oneIfIn, T_J6_bitCount_0f7a4, in0 4 (by decide) (by decide), cl0, h52, h4, c1', c2', b2i_0, cl_nI (show P < 2147483648 by omega), in_nI (show P < 96 by omega) (by decide), nI_1, show ¬ (1 : Int32) = 0 by decide] <;> exact hq
theorem LtW_more {f J J' : Mem} {e P n Rn : Nat} (hP : P < 24) (h60 : ∀ x, x < P → J' 60 x = J 60 x) (h77 : J' 77 = J 77) (h78 : ∀ x, x < P → J' 78 x = J 78 x) (h79 : ∀ x, x < P → J' 79 x = J 79 x) (e8 : J' 78 P = -1) (e9 : J' 79 P = -1) (hw : LtW f J e P n Rn) : LtW f J' e (P + 1) n Rn := by
  obtain ⟨w1, w2, ⟨N, n1, n2, n3, n4⟩, w4, w5⟩ := hw
  refine ⟨fun p hp => ?_, fun p hp hp4 => w2 p (by omega) hp4, ⟨N, n1, n2, fun j hj => ?_, fun p hp => ?_⟩, fun p hp => ?_, fun p hp => ?_⟩
  · rcases Nat.lt_or_ge p P with z | z
    · rw [h78 p z]; exact w1 p z
    · have : p = P := by omega
      subst this
      rw [e8]; exact w2 p (Nat.le_refl _) hP
  · obtain ⟨x, hx, ex⟩ := n3 j hj
    exact ⟨x, by omega, ex⟩
  · rcases Nat.lt_or_ge p P with z | z
    · rw [h79 p z]; exact n4 p z
    · have : p = P := by omega
      subst this
      refine Or.inr ⟨fun j hj ej => ?_, e9⟩
      obtain ⟨x, hx, ex⟩ := n3 j hj
      have := (nI_inj (by omega) (by omega)).mp (ex.symm.trans ej)
      omega
  · rw [h77]; exact w4 p (by omega)
  · rw [h77]
    rcases Nat.lt_or_ge p P with z | z
    · rw [h60 p z]; exact w5 p z
    · have : p = P := by omega
      subst this
      obtain ⟨g1, g2⟩ := w4 p (Nat.le_refl _)
      exact ⟨fun t => (by rw [g1] at t; cases t), fun _ => g2⟩
theorem JP_more {J J' : Mem} {R P np : Nat} (hP : P < 24) (h57 : ∀ x, x < P → J' 57 x = J 57 x) (h60 : ∀ x, x < P → J' 60 x = J 60 x) (h62 : J' 62 = J 62) (h63 : J' 63 = J 63) (e7 : J' 57 P = 0) (e0 : J' 60 P = -1) (z2 : J 62 P = 0) (z3 : J 63 P = 0) (hj : JP J R P np) : JP J' R (P + 1) np := by
  obtain ⟨a1, a2, a3, a4, a5, a6, a7, a8, a9⟩ := hj
  refine ⟨fun p hp => ?_, fun p hp => ?_, ?_, fun x i hx hb => ?_, fun p hp => ?_, fun p i hp hb => ?_, fun p i hp => ?_, a8, ?_⟩
  · rcases Nat.lt_or_ge p P with z | z
    · rw [h57 p z]; exact a1 p z
    · have : p = P := by omega
      subst this
      exact ⟨0, by decide, e7⟩
  · unfold slpOk
    rcases Nat.lt_or_ge p P with z | z
    · rw [h60 p z]; exact a2 p z
    · have : p = P := by omega
      subst this
      exact Or.inl e0
  · unfold Sy; rw [h62, h63]; exact a3
  · rw [h63] at hb
    rcases Nat.lt_or_ge x P with z | z
    · have := a4 x i z hb; omega
    · have : x = P := by omega
      subst this
      rw [z3, b_0] at hb; cases hb
  · rw [h62]
    rcases Nat.lt_or_ge p P with z | z
    · exact a5 p z
    · have : p = P := by omega
      subst this
      rw [z2, b_0]
  · rw [h62] at hb
    rcases Nat.lt_or_ge p P with z | z
    · have := a6 p i z hb; omega
    · have : p = P := by omega
      subst this
      rw [z2, b_0] at hb; cases hb
  · rw [h62, h63]; exact a7 p i hp
  · rw [fb_sm_succ, h62, h63, a9, z2, z3, pct_0]; omega
set_option maxRecDepth 100000 in
theorem st_person {h : Hp} (hc : CP h) (age kd cb dg : Int32) (hst : cb = 0 ∨ cb = 1) (hdg : dg = 0 ∨ dg = 1) : SOK 2 MX11_person 1 MX12_person [.int age, .int kd, .int cb, .int dg] h := by
  have hl := hc.1
  have hm := hc.2.1
  obtain ⟨R, P, H, E, Ln, q, np, hs⟩ := hc.2.2.2.1
  obtain ⟨a1, a2, a3, a4, a5, a6, a7, a8, a9, a10, a11, a12, a13⟩ := id hs
  have h16 : hI h 16 0 = nI P := a5.2.1
  have h52 : hI h 52 0 = nI P := a5.2.2.1
  have hP := a5.1
  have h4 : nI P = 24 ↔ P = 24 := nI_inj (b := 24) (by omega) (by decide)
  have hlt4 : nI P < 24 ↔ P < 24 := nI_ltI (b := 24) (by omega) (by decide)
  by_cases c : P < 24 ∧ (0 ≤ age ∧ age ≤ 120) ∧ (1 ≤ kd ∧ kd ≤ 2)
  · obtain ⟨cP, ch, cm⟩ := c
    have sA := psA_sh h P age kd (sv cb P) (sv dg P)
    have sB := psB_sh (psA h P age kd (sv cb P) (sv dg P)) P age kd cb dg
    have oA := psA_o h P age kd (sv cb P) (sv dg P)
    have oB := psB_o (psA h P age kd (sv cb P) (sv dg P)) P age kd cb dg
    have rA' := psA_r h P age kd (sv cb P) (sv dg P)
    have rB := psB_r (psA h P age kd (sv cb P) (sv dg P)) P age kd cb dg
    have s2 := sA.tr sB
    refine wr (nI P) (psA h P age kd (sv cb P) (sv dg P)) (psB (psA h P age kd (sv cb P) (sv dg P)) P age kd cb dg) (fun Q hq => ok_X11_person _ _ _ (xperson Q h hl P h16 cP age kd cb dg ch cm hq)) (fun Q hq => ok_X12_person _ _ _ (mperson Q _ (sA.m hm) P ((oA 52 0 (Or.inl (by decide)) (by decide) (by decide) (by decide)).trans h52) cP age kd cb dg hst hdg ch cm hq)) ?_ (by rw [s2.1]; exact Nat.le_add_right _ _) (by rw [s2.2.1]; exact Nat.le_add_right _ _) (lm_k (sA.m hm)).1
    generalize psA h P age kd (sv cb P) (sv dg P) = hA at sA sB oA oB rA' rB s2 ⊢
    generalize psB hA P age kd cb dg = h2 at sB oB rB s2 ⊢
    have o : ∀ a j, a ≠ 16 → a ≠ 17 → a ≠ 18 → a ≠ 22 → ¬ (a = 44 ∧ j = 0) → ¬ (52 ≤ a ∧ a ≤ 63) → a ≠ 78 → a ≠ 79 → hI h2 a j = hI h a j := fun a j n1 n2 n3 n4 n5 n6 n7 n8 => (oB a j n5 n6 n7 n8).trans (oA a j (Or.inl n1) n2 n3 n4)
    have of : ∀ a, a ≠ 16 → a ≠ 17 → a ≠ 18 → a ≠ 22 → a ≠ 44 → ¬ (52 ≤ a ∧ a ≤ 63) → a ≠ 78 → a ≠ 79 → hI h2 a = hI h a := fun a n1 n2 n3 n4 n5 n6 n7 n8 => funext fun j => o a j n1 n2 n3 n4 (fun z => n5 z.1) n6 n7 n8
    have oM : ∀ a j, 45 ≤ a → hI hA a j = hI h a j := fun a j n1 => oA a j (by omega) (by omega) (by omega) (by omega)
    obtain ⟨c1', c2', c3', c4', c5', c6'⟩ := id a5
    obtain ⟨z7, z8, z9, z11, z12, z62, z63⟩ := c6' P (Nat.le_refl _) cP
    have k57 : ∀ x, x < P → hI h2 57 x = hI h 57 x := fun x hx => by rw [(rB x).2.2.2.2.2.1, if_neg (by omega)]; exact oM _ _ (by decide)
    have k60 : ∀ x, x < P → hI h2 60 x = hI h 60 x := fun x hx => by rw [(rB x).2.2.2.2.2.2.2.2.1, if_neg (by omega)]; exact oM _ _ (by decide)
    have k78 : ∀ x, x < P → hI h2 78 x = hI h 78 x := fun x hx => by rw [(rB x).2.2.2.2.2.2.2.2.2.2.2.2.1, if_neg (by omega)]; exact oM _ _ (by decide)
    have k79 : ∀ x, x < P → hI h2 79 x = hI h 79 x := fun x hx => by rw [(rB x).2.2.2.2.2.2.2.2.2.2.2.2.2, if_neg (by omega)]; exact oM _ _ (by decide)
    have k62 : hI h2 62 = hI h 62 := funext fun x => by
      rw [(rB x).2.2.2.2.2.2.2.2.2.2.1]
      by_cases e : x = P
      · rw [if_pos e, e]; exact z62.symm
      · rw [if_neg e]; exact oM _ _ (by decide)
    have k63 : hI h2 63 = hI h 63 := funext fun x => by
      rw [(rB x).2.2.2.2.2.2.2.2.2.2.2.1]
      by_cases e : x = P
      · rw [if_pos e, e]; exact z63.symm
      · rw [if_neg e]; exact oM _ _ (by decide)
    refine hc.now hs s2 (fun a ha => of a (by omega) (by omega) (by omega) (by omega) (by omega) (by omega) (by omega) (by omega)) (fun j hj => o 44 j (by decide) (by decide) (by decide) (by decide) (by omega) (by decide) (by decide) (by decide)) (fun a j b1 b2 bs => ?_) (fun a b1 b2 => of a (by omega) (by omega) (by omega) (by omega) (by omega) (by omega) (by omega) (by omega)) (RmC_k (fun a b1 b2 => of a (by omega) (by omega) (by omega) (by omega) (by omega) (by omega) (by omega) (by omega)) (RmC_c (fun i hi => of _ (by omega) (by omega) (by omega) (by omega) (by omega) (by omega) (by omega) (by omega)) a4)) (P' := P + 1) ?_ ?_ (HlC_k (fun a b1 b2 => of a (by omega) (by omega) (by omega) (by omega) (by omega) (by omega) (by omega) (by omega)) (HlC_c (fun i i1 i2 => of _ (by omega) (by omega) (by omega) (by omega) (by omega) (by omega) (by omega) (by omega)) a7)) (np' := np) (JP_more cP k57 k60 k62 k63 ?_ ?_ z62 z63 a9) (fun e n Rn _ _ hw => LtW_more cP k60 (of 77 (by decide) (by decide) (by decide) (by decide) (by decide) (by decide) (by decide) (by decide)) k78 k79 ?_ ?_ hw)
    · by_cases e : (52 ≤ a ∧ a ≤ 63) ∨ a = 78 ∨ a = 79
      · have e5 : a = 52 ∨ a = 53 ∨ a = 54 ∨ a = 55 ∨ a = 56 ∨ a = 57 ∨ a = 58 ∨ a = 59 ∨ a = 60 ∨ a = 61 ∨ a = 62 ∨ a = 63 ∨ a = 78 ∨ a = 79 := by omega
        have y52 : szA 52 = 1 := rfl
        have y53 : szA 53 = 24 := rfl
        have y54 : szA 54 = 24 := rfl
        have y55 : szA 55 = 24 := rfl
        have y56 : szA 56 = 24 := rfl
        have y57 : szA 57 = 24 := rfl
        have y58 : szA 58 = 24 := rfl
        have y59 : szA 59 = 24 := rfl
        have y60 : szA 60 = 24 := rfl
        have y61 : szA 61 = 24 := rfl
        have y62 : szA 62 = 24 := rfl
        have y63 : szA 63 = 24 := rfl
        have y78 : szA 78 = 24 := rfl
        have y79 : szA 79 = 24 := rfl
        obtain ⟨g1, g2, g3, g4, g5, g6, g7, g8, g9, g10, g11, g12, g13, g14⟩ := rB j
        rcases e5 with rfl | rfl | rfl | rfl | rfl | rfl | rfl | rfl | rfl | rfl | rfl | rfl | rfl | rfl
        · rw [g1, if_neg (by omega)]; exact oM _ _ (by decide)
        · rw [g2, if_neg (by omega)]; exact oM _ _ (by decide)
        · rw [g3, if_neg (by omega)]; exact oM _ _ (by decide)
        · rw [g4, if_neg (by omega)]; exact oM _ _ (by decide)
        · rw [g5, if_neg (by omega)]; exact oM _ _ (by decide)
        · rw [g6, if_neg (by omega)]; exact oM _ _ (by decide)
        · rw [g7, if_neg (by omega)]; exact oM _ _ (by decide)
        · rw [g8, if_neg (by omega)]; exact oM _ _ (by decide)
        · rw [g9, if_neg (by omega)]; exact oM _ _ (by decide)
        · rw [g10, if_neg (by omega)]; exact oM _ _ (by decide)
        · rw [g11, if_neg (by omega)]; exact oM _ _ (by decide)
        · rw [g12, if_neg (by omega)]; exact oM _ _ (by decide)
        · rw [g13, if_neg (by omega)]; exact oM _ _ (by decide)
        · rw [g14, if_neg (by omega)]; exact oM _ _ (by decide)
      · exact o a j (by omega) (by omega) (by omega) (by omega) (by omega) (by omega) (by omega) (by omega)
    · have kB' : ∀ a j, 16 ≤ a → a ≤ 24 → hI h2 a j = hI hA a j := fun a j x1 x2 => oB a j (by omega) (by omega) (by omega) (by omega)
      have kf : ∀ a, 19 ≤ a → a ≤ 24 → a ≠ 22 → hI h2 a = hI h a := fun a x1 x2 x3 => of a (by omega) (by omega) (by omega) (by omega) (by omega) (by omega) (by omega) (by omega)
      have k16 : hI h2 16 12 = hI h 16 12 := (kB' 16 12 (by decide) (by decide)).trans (oA 16 12 (Or.inr (by decide)) (by decide) (by decide) (by decide))
      unfold PC
      simp only [Nat.reduceAdd] at c4' c5' c6' ⊢
      rw [kf 19 (by decide) (by decide) (by decide), kf 20 (by decide) (by decide) (by decide), kf 21 (by decide) (by decide) (by decide), kf 23 (by decide) (by decide) (by decide), kf 24 (by decide) (by decide) (by decide), k16, k62, k63, kB' 16 10 (by decide) (by decide), kB' 16 11 (by decide) (by decide), (rA' 0).2.1, (rA' 0).2.2.1]
      refine ⟨by omega, (kB' 16 0 (by decide) (by decide)).trans (rA' 0).1, (rB 0).1.trans (if_pos rfl), fun x hx => ?_, fun x hx => ?_, fun x hx hx4 => c6' x (by omega) hx4⟩
      · obtain ⟨_, _, _, q17, q18, q22⟩ := rA' x
        obtain ⟨_, g53, g54, g55, g56, g57, g58, g59, g60, g61, g62, g63, _, _⟩ := rB x
        rw [kB' 17 x (by decide) (by decide), kB' 18 x (by decide) (by decide), kB' 22 x (by decide) (by decide), q17, q18, q22, g53, g54, g55, g56, g57, g58, g59, g60, g61, b_sv _ _ (by omega), b_sv _ _ (by omega)]
        by_cases e : x = P
        · obtain ⟨f1', f2', f3'⟩ := c5' x (by omega)
          rw [if_pos e, if_pos e, if_pos e, if_pos e, if_pos e, if_pos e, if_pos e, if_pos e, if_pos e, if_pos e, if_pos e, if_pos e, f1', f2', f3']
          subst e
          refine ⟨rfl, rfl, z7, z8, z9, rfl, z11.trans z62.symm, z12.trans z63.symm, ?_, ?_, ?_⟩
          · rcases hst with z | z <;> rw [z] <;> simp [b2i]
          · rcases hdg with z | z <;> rw [z] <;> simp [b2i]
          · simp [b2i]
        · have ed : decide (x = P) = false := by simp [e]
          rw [if_neg e, if_neg e, if_neg e, if_neg e, if_neg e, if_neg e, if_neg e, if_neg e, if_neg e, if_neg e, if_neg e, if_neg e, ed, Bool.and_false, Bool.and_false, Bool.or_false, Bool.or_false, oM 53 x (by decide), oM 54 x (by decide), oM 55 x (by decide), oM 56 x (by decide), oM 57 x (by decide), oM 58 x (by decide), oM 59 x (by decide), oM 60 x (by decide), oM 61 x (by decide)]
          exact c4' x (by omega)
      · obtain ⟨f1', f2', f3'⟩ := c5' x (by omega)
        have ed : decide (x = P) = false := by simp; omega
        rw [b_sv _ _ (by omega), b_sv _ _ (by omega), ed, Bool.and_false, Bool.and_false, Bool.or_false, Bool.or_false]
        exact ⟨f1', f2', f3'⟩
    · exact (oB 16 1 (by decide) (by decide) (by decide) (by decide)).trans ((oA 16 1 (Or.inr (by decide)) (by decide) (by decide) (by decide)).trans a6)
    · rw [(rB P).2.2.2.2.2.1, if_pos rfl]
    · rw [(rB P).2.2.2.2.2.2.2.2.1, if_pos rfl]
    · rw [(rB P).2.2.2.2.2.2.2.2.2.2.2.2.1, if_pos rfl]
    · rw [(rB P).2.2.2.2.2.2.2.2.2.2.2.2.2, if_pos rfl]
  · refine rd (-1) hc (fun Q hq => ok_X11_person _ _ _ ?_) (fun Q hq => ok_X12_person _ _ _ ?_)
    · unfold T_X11_person
      by_cases g1 : 0 ≤ age ∧ age ≤ 120
      · by_cases g2 : 1 ≤ kd ∧ kd ≤ 2
        · have g4 : ¬ P < 24 := fun z => c ⟨z, g1, g2⟩
          simp only [b_X11_person_0, T_X3_add, b_X3_add_0, lx_pI, lx_wI, lx_t hl, lx_k hl, lx_r hl, lx_l hl, i_push, i_ild, i_ald, i_ist, i_ast, i_inc, i_bin, i_un, i_divs, i_i2l, i_lshl, i_lor, i_dup, i_dup2, i_pop, i_if, i_cmp, i_nul, i_vret, i_iret, i_zret, i_aret, i_keep, keep, lget, lset, ent, i_getI, i_getJ, i_getR, i_getN, i_putI, i_putZ, i_putJ, i_putR, i_iald, i_bald, i_alen, i_aald, i_iast, i_bast, i_aast, i_new, i_newa, i_anew, i_oini, i_callS, i_callV, i_callI, popn, sh4, i_sw, swP, i_copy, i_binS, List.map, Option.toList_none, Option.toList_some, List.append, List.nil_append, List.cons_append, List.length_cons, List.length_nil, List.replicate, Nat.sub_self, Nat.reduceSub, Nat.reduceAdd, hK_pX, hL_pX, hI_pX, hR_pX, hJ_pX, hT_pX, hS_pX, hK_pR, hL_pR, hI_pR, hR_pR, hJ_pR, hT_pR, hS_pR, hK_pJ, hL_pJ, hI_pJ, hR_pJ, hJ_pJ, hT_pJ, hS_pJ, hK_wI, hL_wI, hI_wI, hR_wI, hJ_wI, hT_wI, hS_wI, eq_self, and_true, true_and, and_false, false_and, or_true, true_or, or_false, false_or, if_true, if_false, not_true_eq_false, not_false_eq_true, forall_const, implies_true, false_implies, true_implies, Option.some.injEq, forall_eq', exists_eq_left', reduceCtorEq, Nat.reduceEqDiff, c1, T_X12_in, T_X12_ones, T_X11_within, T_X11_bit, T_X11_isIn, T_X11_oneIfIn, T_J6_bitCount_0f7a4, b2i_0, g1, g2, h16, hlt4, g4]
          exact hq
        · simp only [b_X11_person_0, lx_pI, lx_wI, lx_t hl, lx_k hl, lx_r hl, lx_l hl, i_push, i_ild, i_ald, i_ist, i_ast, i_inc, i_bin, i_un, i_divs, i_i2l, i_lshl, i_lor, i_dup, i_dup2, i_pop, i_if, i_cmp, i_nul, i_vret, i_iret, i_zret, i_aret, i_keep, keep, lget, lset, ent, i_getI, i_getJ, i_getR, i_getN, i_putI, i_putZ, i_putJ, i_putR, i_iald, i_bald, i_alen, i_aald, i_iast, i_bast, i_aast, i_new, i_newa, i_anew, i_oini, i_callS, i_callV, i_callI, popn, sh4, i_sw, swP, i_copy, i_binS, List.map, Option.toList_none, Option.toList_some, List.append, List.nil_append, List.cons_append, List.length_cons, List.length_nil, List.replicate, Nat.sub_self, Nat.reduceSub, Nat.reduceAdd, hK_pX, hL_pX, hI_pX, hR_pX, hJ_pX, hT_pX, hS_pX, hK_pR, hL_pR, hI_pR, hR_pR, hJ_pR, hT_pR, hS_pR, hK_pJ, hL_pJ, hI_pJ, hR_pJ, hJ_pJ, hT_pJ, hS_pJ, hK_wI, hL_wI, hI_wI, hR_wI, hJ_wI, hT_wI, hS_wI, eq_self, and_true, true_and, and_false, false_and, or_true, true_or, or_false, false_or, if_true, if_false, not_true_eq_false, not_false_eq_true, forall_const, implies_true, false_implies, true_implies, Option.some.injEq, forall_eq', exists_eq_left', reduceCtorEq, Nat.reduceEqDiff, c1, T_X12_in, T_X12_ones, T_X11_within, T_X11_bit, T_X11_isIn, T_X11_oneIfIn, T_J6_bitCount_0f7a4, b2i_0, g1, g2]
          exact hq
      · simp only [b_X11_person_0, lx_pI, lx_wI, lx_t hl, lx_k hl, lx_r hl, lx_l hl, i_push, i_ild, i_ald, i_ist, i_ast, i_inc, i_bin, i_un, i_divs, i_i2l, i_lshl, i_lor, i_dup, i_dup2, i_pop, i_if, i_cmp, i_nul, i_vret, i_iret, i_zret, i_aret, i_keep, keep, lget, lset, ent, i_getI, i_getJ, i_getR, i_getN, i_putI, i_putZ, i_putJ, i_putR, i_iald, i_bald, i_alen, i_aald, i_iast, i_bast, i_aast, i_new, i_newa, i_anew, i_oini, i_callS, i_callV, i_callI, popn, sh4, i_sw, swP, i_copy, i_binS, List.map, Option.toList_none, Option.toList_some, List.append, List.nil_append, List.cons_append, List.length_cons, List.length_nil, List.replicate, Nat.sub_self, Nat.reduceSub, Nat.reduceAdd, hK_pX, hL_pX, hI_pX, hR_pX, hJ_pX, hT_pX, hS_pX, hK_pR, hL_pR, hI_pR, hR_pR, hJ_pR, hT_pR, hS_pR, hK_pJ, hL_pJ, hI_pJ, hR_pJ, hJ_pJ, hT_pJ, hS_pJ, hK_wI, hL_wI, hI_wI, hR_wI, hJ_wI, hT_wI, hS_wI, eq_self, and_true, true_and, and_false, false_and, or_true, true_or, or_false, false_or, if_true, if_false, not_true_eq_false, not_false_eq_true, forall_const, implies_true, false_implies, true_implies, Option.some.injEq, forall_eq', exists_eq_left', reduceCtorEq, Nat.reduceEqDiff, c1, T_X12_in, T_X12_ones, T_X11_within, T_X11_bit, T_X11_isIn, T_X11_oneIfIn, T_J6_bitCount_0f7a4, b2i_0, g1]
        exact hq
    · have hl := hm
      unfold T_X12_person
      by_cases g4 : P = 24
      · have g46 : hI h 52 0 = 24 := h52.trans (h4.mpr g4)
        simp only [b_X12_person_0, hl, lay_pI, lay_wI, lay_pJ, lm_t hl, lm_k hl, lm_r hl, lm_l hl, i_push, i_ild, i_ald, i_ist, i_ast, i_inc, i_bin, i_un, i_divs, i_i2l, i_lshl, i_lor, i_dup, i_dup2, i_pop, i_if, i_cmp, i_nul, i_vret, i_iret, i_zret, i_aret, i_keep, keep, lget, lset, ent, i_getI, i_getJ, i_getR, i_getN, i_putI, i_putZ, i_putJ, i_putR, i_iald, i_bald, i_alen, i_aald, i_iast, i_bast, i_aast, i_new, i_newa, i_anew, i_oini, i_callS, i_callV, i_callI, popn, sh4, i_sw, swP, i_copy, i_binS, List.map, Option.toList_none, Option.toList_some, List.append, List.nil_append, List.cons_append, List.length_cons, List.length_nil, List.replicate, Nat.sub_self, Nat.reduceSub, Nat.reduceAdd, hK_pX, hL_pX, hI_pX, hR_pX, hJ_pX, hT_pX, hS_pX, hK_pR, hL_pR, hI_pR, hR_pR, hJ_pR, hT_pR, hS_pR, hK_pJ, hL_pJ, hI_pJ, hR_pJ, hJ_pJ, hT_pJ, hS_pJ, hK_wI, hL_wI, hI_wI, hR_wI, hJ_wI, hT_wI, hS_wI, eq_self, and_true, true_and, and_false, false_and, or_true, true_or, or_false, false_or, if_true, if_false, not_true_eq_false, not_false_eq_true, forall_const, implies_true, false_implies, true_implies, Option.some.injEq, forall_eq', exists_eq_left', reduceCtorEq, Nat.reduceEqDiff, c1, T_X12_in, T_X12_ones, T_X11_within, T_X11_bit, T_X11_isIn, T_X11_oneIfIn, T_J6_bitCount_0f7a4, in0 4 (by decide) (by decide), cl0, g46]
        exact hq
      · by_cases g1 : 0 ≤ age ∧ age ≤ 120
        · have g3 : ¬ (1 ≤ kd ∧ kd ≤ 2) := fun z => c ⟨by omega, g1, z⟩
          simp only [b_X12_person_0, hl, lay_pI, lay_wI, lay_pJ, lm_t hl, lm_k hl, lm_r hl, lm_l hl, i_push, i_ild, i_ald, i_ist, i_ast, i_inc, i_bin, i_un, i_divs, i_i2l, i_lshl, i_lor, i_dup, i_dup2, i_pop, i_if, i_cmp, i_nul, i_vret, i_iret, i_zret, i_aret, i_keep, keep, lget, lset, ent, i_getI, i_getJ, i_getR, i_getN, i_putI, i_putZ, i_putJ, i_putR, i_iald, i_bald, i_alen, i_aald, i_iast, i_bast, i_aast, i_new, i_newa, i_anew, i_oini, i_callS, i_callV, i_callI, popn, sh4, i_sw, swP, i_copy, i_binS, List.map, Option.toList_none, Option.toList_some, List.append, List.nil_append, List.cons_append, List.length_cons, List.length_nil, List.replicate, Nat.sub_self, Nat.reduceSub, Nat.reduceAdd, hK_pX, hL_pX, hI_pX, hR_pX, hJ_pX, hT_pX, hS_pX, hK_pR, hL_pR, hI_pR, hR_pR, hJ_pR, hT_pR, hS_pR, hK_pJ, hL_pJ, hI_pJ, hR_pJ, hJ_pJ, hT_pJ, hS_pJ, hK_wI, hL_wI, hI_wI, hR_wI, hJ_wI, hT_wI, hS_wI, eq_self, and_true, true_and, and_false, false_and, or_true, true_or, or_false, false_or, if_true, if_false, not_true_eq_false, not_false_eq_true, forall_const, implies_true, false_implies, true_implies, Option.some.injEq, forall_eq', exists_eq_left', reduceCtorEq, Nat.reduceEqDiff, c1, T_X12_in, T_X12_ones, T_X11_within, T_X11_bit, T_X11_isIn, T_X11_oneIfIn, T_J6_bitCount_0f7a4, in0 4 (by decide) (by decide), cl0, h52, h4, g4, b2i_0, g1, g3]
          exact hq
        · simp only [b_X12_person_0, hl, lay_pI, lay_wI, lay_pJ, lm_t hl, lm_k hl, lm_r hl, lm_l hl, i_push, i_ild, i_ald, i_ist, i_ast, i_inc, i_bin, i_un, i_divs, i_i2l, i_lshl, i_lor, i_dup, i_dup2, i_pop, i_if, i_cmp, i_nul, i_vret, i_iret, i_zret, i_aret, i_keep, keep, lget, lset, ent, i_getI, i_getJ, i_getR, i_getN, i_putI, i_putZ, i_putJ, i_putR, i_iald, i_bald, i_alen, i_aald, i_iast, i_bast, i_aast, i_new, i_newa, i_anew, i_oini, i_callS, i_callV, i_callI, popn, sh4, i_sw, swP, i_copy, i_binS, List.map, Option.toList_none, Option.toList_some, List.append, List.nil_append, List.cons_append, List.length_cons, List.length_nil, List.replicate, Nat.sub_self, Nat.reduceSub, Nat.reduceAdd, hK_pX, hL_pX, hI_pX, hR_pX, hJ_pX, hT_pX, hS_pX, hK_pR, hL_pR, hI_pR, hR_pR, hJ_pR, hT_pR, hS_pR, hK_pJ, hL_pJ, hI_pJ, hR_pJ, hJ_pJ, hT_pJ, hS_pJ, hK_wI, hL_wI, hI_wI, hR_wI, hJ_wI, hT_wI, hS_wI, eq_self, and_true, true_and, and_false, false_and, or_true, true_or, or_false, false_or, if_true, if_false, not_true_eq_false, not_false_eq_true, forall_const, implies_true, false_implies, true_implies, Option.some.injEq, forall_eq', exists_eq_left', reduceCtorEq, Nat.reduceEqDiff, c1, T_X12_in, T_X12_ones, T_X11_within, T_X11_bit, T_X11_isIn, T_X11_oneIfIn, T_J6_bitCount_0f7a4, in0 4 (by decide) (by decide), cl0, h52, h4, g4, b2i_0, g1]
          exact hq
