/-! ===== steps: room ===== -/
def rmA (h : Hp) (R : Nat) (ho ma ki sv dv : Int32) : Hp := pI (pI (pI (pI (pI (pI h 13 R ho) 14 R ma) 15 R ki) 12 4 (hI h 12 4 ||| sv)) 12 5 (hI h 12 5 ||| dv)) 12 0 (nI (R + 1))
def rmB (h : Hp) (R : Nat) (ho ma st dg ki : Int32) : Hp := pI (pI (pI (pI (pI (pI (pI h 44 0 0) 46 0 (nI (R + 1))) 47 R ho) 48 R ma) 49 R st) 50 R dg) 51 R ki
theorem rmA_sh (h : Hp) (R : Nat) (ho ma ki sv dv : Int32) : Sh h (rmA h R ho ma ki sv dv) := (((((pI_sh h 13 R ho).p 14 R ma).p 15 R ki).p 12 4 _).p 12 5 _).p 12 0 _
theorem rmB_sh (h : Hp) (R : Nat) (ho ma st dg ki : Int32) : Sh h (rmB h R ho ma st dg ki) := ((((((pI_sh h 44 0 0).p 46 0 _).p 47 R ho).p 48 R ma).p 49 R st).p 50 R dg).p 51 R ki
theorem rmA_o (h : Hp) (R : Nat) (ho ma ki sv dv : Int32) (a j : Nat) (n1 : ¬ (12 ≤ a ∧ a ≤ 15)) : hI (rmA h R ho ma ki sv dv) a j = hI h a j := by
  unfold rmA
  rw [hI_pX, if_neg (by omega), hI_pX, if_neg (by omega), hI_pX, if_neg (by omega), hI_pX, if_neg (by omega), hI_pX, if_neg (by omega), hI_pX, if_neg (by omega)]
theorem rmB_o (h : Hp) (R : Nat) (ho ma st dg ki : Int32) (a j : Nat) (n1 : ¬ (a = 44 ∧ j = 0)) (n2 : ¬ (46 ≤ a ∧ a ≤ 51)) : hI (rmB h R ho ma st dg ki) a j = hI h a j := by
  unfold rmB
  rw [hI_pX, if_neg (by omega), hI_pX, if_neg (by omega), hI_pX, if_neg (by omega), hI_pX, if_neg (by omega), hI_pX, if_neg (by omega), hI_pX, if_neg (by omega), hI_pX, if_neg n1]
theorem rmA_r (h : Hp) (R : Nat) (ho ma ki sv dv : Int32) (x : Nat) : (hI (rmA h R ho ma ki sv dv) 12 0 = nI (R + 1)) ∧ (hI (rmA h R ho ma ki sv dv) 12 4 = hI h 12 4 ||| sv) ∧ (hI (rmA h R ho ma ki sv dv) 12 5 = hI h 12 5 ||| dv) ∧ (hI (rmA h R ho ma ki sv dv) 13 x = if x = R then ho else hI h 13 x) ∧ (hI (rmA h R ho ma ki sv dv) 14 x = if x = R then ma else hI h 14 x) ∧ (hI (rmA h R ho ma ki sv dv) 15 x = if x = R then ki else hI h 15 x) := by
  unfold rmA
  refine ⟨?_, ?_, ?_, ?_, ?_, ?_⟩ <;> simp only [hI_pX, Nat.reduceEqDiff, false_and, and_false, if_false, true_and, and_true, if_true, eq_self]
theorem rmB_r (h : Hp) (R : Nat) (ho ma st dg ki : Int32) (x : Nat) : (hI (rmB h R ho ma st dg ki) 46 x = if x = 0 then nI (R + 1) else hI h 46 x) ∧ (hI (rmB h R ho ma st dg ki) 47 x = if x = R then ho else hI h 47 x) ∧ (hI (rmB h R ho ma st dg ki) 48 x = if x = R then ma else hI h 48 x) ∧ (hI (rmB h R ho ma st dg ki) 49 x = if x = R then st else hI h 49 x) ∧ (hI (rmB h R ho ma st dg ki) 50 x = if x = R then dg else hI h 50 x) ∧ (hI (rmB h R ho ma st dg ki) 51 x = if x = R then ki else hI h 51 x) := by
  unfold rmB
  refine ⟨?_, ?_, ?_, ?_, ?_, ?_⟩ <;> simp only [hI_pX, Nat.reduceEqDiff, false_and, and_false, if_false, true_and, and_true, if_true, eq_self]
/-- a set with one more, or not -/
def sv (b : Int32) (R : Nat) : Int32 := if b = 0 then 0 else bitI R
theorem b_sv (g b : Int32) {R : Nat} (hR : R < 32) (x : Nat) : bt (g ||| sv b R) x = (bt g x || (decide (¬ b = 0) && decide (x = R))) := by
  rw [b_or]
  unfold sv
  by_cases c : b = 0
  · rw [if_pos c, b_0]; simp [c]
  · rw [if_neg c]
    rcases Nat.lt_or_ge x 32 with y | y
    · rw [b_bitI hR y]; simp [c]
    · rw [b_big (x := bitI R) y]
      have : ¬ x = R := by omega
      simp [this]
def L_X11_room : List UInt8 := [27, 4, 16, 6, 184, 0, 85, 153, 0, 22, 28, 3, 6, 184, 0, 85, 153, 0, 13, 21, 5, 3, 5, 184, 0, 85, 154, 0, 5, 2, 172, 42, 180, 0, 24, 180, 0, 89, 27, 28, 29, 21, 4, 21, 5, 182, 0, 93, 172]
theorem Lc_X11_room : MX11_room.2.1 = ⟨L_X11_room.toArray⟩ := rfl
theorem D_X11_room_0 : dseq MX11_room.2.1 0 [(.iload_n 1, 1), (.iconst 1, 1), (.bipush 6, 2), (.invokestatic 85, 3), (.ifCond .eq 22, 3), (.iload_n 2, 1), (.iconst 0, 1), (.iconst 3, 1), (.invokestatic 85, 3), (.ifCond .eq 13, 3), (.iload 5, 2), (.iconst 0, 1), (.iconst 2, 1), (.invokestatic 85, 3), (.ifCond .ne 5, 3), (.iconst (-1), 1), (.ireturn, 1)] := dq Lc_X11_room 0 _ (by decide +kernel)
theorem D_X11_room_29 : dseq MX11_room.2.1 29 [(.iconst (-1), 1), (.ireturn, 1)] := dq Lc_X11_room 29 _ (by decide +kernel)
theorem D_X11_room_31 : dseq MX11_room.2.1 31 [(.aload_n 0, 1), (.getfield 24, 3), (.getfield 89, 3), (.iload_n 1, 1), (.iload_n 2, 1), (.iload_n 3, 1), (.iload 4, 2), (.iload 5, 2), (.invokevirtual 93, 3), (.ireturn, 1)] := dq Lc_X11_room 31 _ (by decide +kernel)
def b_X11_room_0 (Q : Option Value → Hp → Prop) : Kt := i_ild 1 (i_push (.int 1) (i_push (.int 6) (i_callS 3 T_X11_within (i_if (fun x => x = 0) (i_push (.int (-1)) (i_iret Q)) (i_ild 2 (i_push (.int 0) (i_push (.int 3) (i_callS 3 T_X11_within (i_if (fun x => x = 0) (i_push (.int (-1)) (i_iret Q)) (i_ild 5 (i_push (.int 0) (i_push (.int 2) (i_callS 3 T_X11_within (i_if (fun x => x = 0) (i_push (.int (-1)) (i_iret Q)) (i_ald 0 (i_getR 11 1 (i_getR 8 0 (i_ild 1 (i_ild 2 (i_ild 3 (i_ild 4 (i_ild 5 (i_callV 6 5 T_X6_add (i_iret Q))))))))))))))))))))))))
set_option maxRecDepth 100000 in
theorem s_X11_room_0 (Q : Option Value → Hp → Prop) : ∀ A st h, b_X11_room_0 Q A st h → wp 2 MX11_room Q 0 A st h := (q1 (s_ildn (n := 1) (i := 1) rfl) D_X11_room_0 fun D => (q1 (s_iconst (n := 1) (v := 1) (by decide)) D fun D => (q1 (s_bipush (n := 6) (v := 6) (by decide)) D fun D => (qX (s_callS ok_X11_within mo_X11_within (ch_3_5_ok.2.2.2.2.1.1 rfl) (ch_3_5_ok.2.2.2.2.2.1.1 rfl)) rfl (by decide) D fun D => (qB s_ifeq 29 (by decide) D (q1 (s_iconst (n := (-1)) (v := (-1)) (by decide)) D_X11_room_29 fun D => (qI rfl D)) fun D => (q1 (s_ildn (n := 2) (i := 2) rfl) D fun D => (q1 (s_iconst (n := 0) (v := 0) (by decide)) D fun D => (q1 (s_iconst (n := 3) (v := 3) (by decide)) D fun D => (qX (s_callS ok_X11_within mo_X11_within (ch_3_5_ok.2.2.2.2.1.1 rfl) (ch_3_5_ok.2.2.2.2.2.1.1 rfl)) rfl (by decide) D fun D => (qB s_ifeq 29 (by decide) D (q1 (s_iconst (n := (-1)) (v := (-1)) (by decide)) D_X11_room_29 fun D => (qI rfl D)) fun D => (q1 s_ild D fun D => (q1 (s_iconst (n := 0) (v := 0) (by decide)) D fun D => (q1 (s_iconst (n := 2) (v := 2) (by decide)) D fun D => (qX (s_callS ok_X11_within mo_X11_within (ch_3_5_ok.2.2.2.2.1.1 rfl) (ch_3_5_ok.2.2.2.2.2.1.1 rfl)) rfl (by decide) D fun D => (qBn s_ifne2 31 (by decide) D (q1 (s_aldn (n := 0) (i := 0) rfl) D_X11_room_31 fun D => (qC fl_X11_24 rfl D fun D => (qC fl_X11_89 rfl D fun D => (q1 (s_ildn (n := 1) (i := 1) rfl) D fun D => (q1 (s_ildn (n := 2) (i := 2) rfl) D fun D => (q1 (s_ildn (n := 3) (i := 3) rfl) D fun D => (q1 s_ild D fun D => (q1 s_ild D fun D => (qX (s_callV kX6 rfl ok_X6_add mo_X6_add (ch_3_5_ok.2.2.2.2.2.2.2.1.1 rfl) (ch_3_5_ok.2.2.2.2.2.2.2.2.1.1 rfl) (ch_3_5_ok.2.2.2.2.2.2.2.2.2.1.1 rfl)) rfl (by decide) D fun D => (qI rfl D)))))))))) fun D => (q1 (s_iconst (n := (-1)) (v := (-1)) (by decide)) D fun D => (qI rfl D)))))))))))))))))
def T_X11_room : Tr := fun av h Q => c1 6 av ∧ b_X11_room_0 Q (ent 6 av) [] h
theorem ok_X11_room : ctr 2 MX11_room T_X11_room := ctr_of pn_X11 wc_X11_room (fun av h Q hT => ⟨c1_ok hT.1, s_X11_room_0 Q _ _ _ hT.2⟩)

set_option maxRecDepth 100000 in
theorem xroom (Q : Option Value → Hp → Prop) (h : Hp) (hl : LayX h) (R : Nat) (h12 : hI h 12 0 = nI R) (hR : R < 4) (ho ma st dg ki : Int32) (c1' : 1 ≤ ho ∧ ho ≤ 6) (c2' : 0 ≤ ma ∧ ma ≤ 3) (c3' : 0 ≤ ki ∧ ki ≤ 2) (hq : Q (some (.int (nI R))) (rmA h R ho ma ki (sv st R) (sv dg R))) : T_X11_room [.ref 0, .int ho, .int ma, .int st, .int dg, .int ki] h Q := by
  have hlt4 : nI R < 4 ↔ R < 4 := nI_ltI (b := 4) (by omega) (by decide)
  have em : nI (R + 1) - 1 = nI R := (nI_sub (b := 1) (by omega)).trans (by rw [Nat.add_sub_cancel])
  have hb : (1 : Int32) <<< (nI R &&& 31) = bitI R := rfl
  unfold rmA at hq
  unfold T_X11_room
  by_cases cs : st = 0
  · have es : sv st R = 0 := if_pos cs
    rw [es] at hq
    by_cases cd : dg = 0
    · have ed : sv dg R = 0 := if_pos cd
      rw [ed] at hq
      simp only [b_X11_room_0, T_X6_add, b_X6_add_0, lx_pI, lx_wI, lx_t hl, lx_k hl, lx_r hl, lx_l hl, i_push, i_ild, i_ald, i_ist, i_ast, i_inc, i_bin, i_un, i_divs, i_i2l, i_lshl, i_lor, i_dup, i_dup2, i_pop, i_if, i_cmp, i_nul, i_vret, i_iret, i_zret, i_aret, i_keep, keep, lget, lset, ent, i_getI, i_getJ, i_getR, i_getN, i_putI, i_putZ, i_putJ, i_putR, i_iald, i_bald, i_alen, i_aald, i_iast, i_bast, i_aast, i_new, i_newa, i_anew, i_oini, i_callS, i_callV, i_callI, popn, sh4, i_sw, swP, i_copy, i_binS, List.map, Option.toList_none, Option.toList_some, List.append, List.nil_append, List.cons_append, List.length_cons, List.length_nil, List.replicate, Nat.sub_self, Nat.reduceSub, Nat.reduceAdd, hK_pX, hL_pX, hI_pX, hR_pX, hJ_pX, hT_pX, hS_pX, hK_pR, hL_pR, hI_pR, hR_pR, hJ_pR, hT_pR, hS_pR, hK_pJ, hL_pJ, hI_pJ, hR_pJ, hJ_pJ, hT_pJ, hS_pJ, hK_wI, hL_wI, hI_wI, hR_wI, hJ_wI, hT_wI, hS_wI, eq_self, and_true, true_and, and_false, false_and, or_true, true_or, or_false, false_or, if_true, if_false, not_true_eq_false, not_false_eq_true, forall_const, implies_true, false_implies, true_implies, Option.some.injEq, forall_eq', exists_eq_left', reduceCtorEq, Nat.reduceEqDiff, c1, T_X12_in, T_X12_ones, T_X11_within, T_X11_bit, T_X11_isIn, T_X11_oneIfIn, T_J6_bitCount_0f7a4, c1', c2', c3', b2i_0, h12, hlt4, hR, cs, cd, cl_nI (show R < 2147483648 by omega), in_nI (show R < 4 by omega) (by decide), nI_1, em, Nat.reduceEqDiff, hb]
      exact hq
    · have ed : sv dg R = bitI R := if_neg cd
      rw [ed] at hq
      simp only [b_X11_room_0, T_X6_add, b_X6_add_0, lx_pI, lx_wI, lx_t hl, lx_k hl, lx_r hl, lx_l hl, i_push, i_ild, i_ald, i_ist, i_ast, i_inc, i_bin, i_un, i_divs, i_i2l, i_lshl, i_lor, i_dup, i_dup2, i_pop, i_if, i_cmp, i_nul, i_vret, i_iret, i_zret, i_aret, i_keep, keep, lget, lset, ent, i_getI, i_getJ, i_getR, i_getN, i_putI, i_putZ, i_putJ, i_putR, i_iald, i_bald, i_alen, i_aald, i_iast, i_bast, i_aast, i_new, i_newa, i_anew, i_oini, i_callS, i_callV, i_callI, popn, sh4, i_sw, swP, i_copy, i_binS, List.map, Option.toList_none, Option.toList_some, List.append, List.nil_append, List.cons_append, List.length_cons, List.length_nil, List.replicate, Nat.sub_self, Nat.reduceSub, Nat.reduceAdd, hK_pX, hL_pX, hI_pX, hR_pX, hJ_pX, hT_pX, hS_pX, hK_pR, hL_pR, hI_pR, hR_pR, hJ_pR, hT_pR, hS_pR, hK_pJ, hL_pJ, hI_pJ, hR_pJ, hJ_pJ, hT_pJ, hS_pJ, hK_wI, hL_wI, hI_wI, hR_wI, hJ_wI, hT_wI, hS_wI, eq_self, and_true, true_and, and_false, false_and, or_true, true_or, or_false, false_or, if_true, if_false, not_true_eq_false, not_false_eq_true, forall_const, implies_true, false_implies, true_implies, Option.some.injEq, forall_eq', exists_eq_left', reduceCtorEq, Nat.reduceEqDiff, c1, T_X12_in, T_X12_ones, T_X11_within, T_X11_bit, T_X11_isIn, T_X11_oneIfIn, T_J6_bitCount_0f7a4, c1', c2', c3', b2i_0, h12, hlt4, hR, cs, cd, cl_nI (show R < 2147483648 by omega), in_nI (show R < 4 by omega) (by decide), nI_1, em, Nat.reduceEqDiff, hb]
      exact hq
  · have es : sv st R = bitI R := if_neg cs
    rw [es] at hq
    by_cases cd : dg = 0
    · have ed : sv dg R = 0 := if_pos cd
      rw [ed] at hq
      simp only [b_X11_room_0, T_X6_add, b_X6_add_0, lx_pI, lx_wI, lx_t hl, lx_k hl, lx_r hl, lx_l hl, i_push, i_ild, i_ald, i_ist, i_ast, i_inc, i_bin, i_un, i_divs, i_i2l, i_lshl, i_lor, i_dup, i_dup2, i_pop, i_if, i_cmp, i_nul, i_vret, i_iret, i_zret, i_aret, i_keep, keep, lget, lset, ent, i_getI, i_getJ, i_getR, i_getN, i_putI, i_putZ, i_putJ, i_putR, i_iald, i_bald, i_alen, i_aald, i_iast, i_bast, i_aast, i_new, i_newa, i_anew, i_oini, i_callS, i_callV, i_callI, popn, sh4, i_sw, swP, i_copy, i_binS, List.map, Option.toList_none, Option.toList_some, List.append, List.nil_append, List.cons_append, List.length_cons, List.length_nil, List.replicate, Nat.sub_self, Nat.reduceSub, Nat.reduceAdd, hK_pX, hL_pX, hI_pX, hR_pX, hJ_pX, hT_pX, hS_pX, hK_pR, hL_pR, hI_pR, hR_pR, hJ_pR, hT_pR, hS_pR, hK_pJ, hL_pJ, hI_pJ, hR_pJ, hJ_pJ, hT_pJ, hS_pJ, hK_wI, hL_wI, hI_wI, hR_wI, hJ_wI, hT_wI, hS_wI, eq_self, and_true, true_and, and_false, false_and, or_true, true_or, or_false, false_or, if_true, if_false, not_true_eq_false, not_false_eq_true, forall_const, implies_true, false_implies, true_implies, Option.some.injEq, forall_eq', exists_eq_left', reduceCtorEq, Nat.reduceEqDiff, c1, T_X12_in, T_X12_ones, T_X11_within, T_X11_bit, T_X11_isIn, T_X11_oneIfIn, T_J6_bitCount_0f7a4, c1', c2', c3', b2i_0, h12, hlt4, hR, cs, cd, cl_nI (show R < 2147483648 by omega), in_nI (show R < 4 by omega) (by decide), nI_1, em, Nat.reduceEqDiff, hb]
      exact hq
    · have ed : sv dg R = bitI R := if_neg cd
      rw [ed] at hq
      simp only [b_X11_room_0, T_X6_add, b_X6_add_0, lx_pI, lx_wI, lx_t hl, lx_k hl, lx_r hl, lx_l hl, i_push, i_ild, i_ald, i_ist, i_ast, i_inc, i_bin, i_un, i_divs, i_i2l, i_lshl, i_lor, i_dup, i_dup2, i_pop, i_if, i_cmp, i_nul, i_vret, i_iret, i_zret, i_aret, i_keep, keep, lget, lset, ent, i_getI, i_getJ, i_getR, i_getN, i_putI, i_putZ, i_putJ, i_putR, i_iald, i_bald, i_alen, i_aald, i_iast, i_bast, i_aast, i_new, i_newa, i_anew, i_oini, i_callS, i_callV, i_callI, popn, sh4, i_sw, swP, i_copy, i_binS, List.map, Option.toList_none, Option.toList_some, List.append, List.nil_append, List.cons_append, List.length_cons, List.length_nil, List.replicate, Nat.sub_self, Nat.reduceSub, Nat.reduceAdd, hK_pX, hL_pX, hI_pX, hR_pX, hJ_pX, hT_pX, hS_pX, hK_pR, hL_pR, hI_pR, hR_pR, hJ_pR, hT_pR, hS_pR, hK_pJ, hL_pJ, hI_pJ, hR_pJ, hJ_pJ, hT_pJ, hS_pJ, hK_wI, hL_wI, hI_wI, hR_wI, hJ_wI, hT_wI, hS_wI, eq_self, and_true, true_and, and_false, false_and, or_true, true_or, or_false, false_or, if_true, if_false, not_true_eq_false, not_false_eq_true, forall_const, implies_true, false_implies, true_implies, Option.some.injEq, forall_eq', exists_eq_left', reduceCtorEq, Nat.reduceEqDiff, c1, T_X12_in, T_X12_ones, T_X11_within, T_X11_bit, T_X11_isIn, T_X11_oneIfIn, T_J6_bitCount_0f7a4, c1', c2', c3', b2i_0, h12, hlt4, hR, cs, cd, cl_nI (show R < 2147483648 by omega), in_nI (show R < 4 by omega) (by decide), nI_1, em, Nat.reduceEqDiff, hb]
      exact hq
set_option maxRecDepth 100000 in
theorem mroom (Q : Option Value → Hp → Prop) (h : Hp) (hl : LayM h) (R : Nat) (h46 : hI h 46 0 = nI R) (hR : R < 4) (ho ma st dg ki : Int32) (hst : st = 0 ∨ st = 1) (hdg : dg = 0 ∨ dg = 1) (c1' : 1 ≤ ho ∧ ho ≤ 6) (c2' : 0 ≤ ma ∧ ma ≤ 3) (c3' : 0 ≤ ki ∧ ki ≤ 2) (hq : Q (some (.int (nI R))) (rmB h R ho ma st dg ki)) : T_X12_room [.ref 44, .int ho, .int ma, .int st, .int dg, .int ki] h Q := by
  have h4 : ¬ nI R = 4 := fun z => by
    have := (nI_inj (b := 4) (by omega) (by decide)).mp z
    omega
  unfold rmB at hq
  unfold T_X12_room
  rcases hst with cs | cs <;> rcases hdg with cd | cd <;> subst cs <;> subst cd <;> simp only [b_X12_room_0, hl, lay_pI, lay_wI, lay_pJ, lm_t hl, lm_k hl, lm_r hl, lm_l hl, i_push, i_ild, i_ald, i_ist, i_ast, i_inc, i_bin, i_un, i_divs, i_i2l, i_lshl, i_lor, i_dup, i_dup2, i_pop, i_if, i_cmp, i_nul, i_vret, i_iret, i_zret, i_aret, i_keep, keep, lget, lset, ent, i_getI, i_getJ, i_getR, i_getN, i_putI, i_putZ, i_putJ, i_putR, i_iald, i_bald, i_alen, i_aald, i_iast, i_bast, i_aast, i_new, i_newa, i_anew, i_oini, i_callS, i_callV, i_callI, popn, sh4, i_sw, swP, i_copy, i_binS, List.map, Option.toList_none, Option.toList_some, List.append, List.nil_append, List.cons_append, List.length_cons, List.length_nil, List.replicate, Nat.sub_self, Nat.reduceSub, Nat.reduceAdd, hK_pX, hL_pX, hI_pX, hR_pX, hJ_pX, hT_pX, hS_pX, hK_pR, hL_pR, hI_pR, hR_pR, hJ_pR, hT_pR, hS_pR, hK_pJ, hL_pJ, hI_pJ, hR_pJ, hJ_pJ, hT_pJ, hS_pJ, hK_wI, hL_wI, hI_wI, hR_wI, hJ_wI, hT_wI, hS_wI, eq_self, and_true, true_and, and_false, false_and, or_true, true_or, or_false, false_or, if_true, if_false, not_true_eq_false, not_false_eq_true, forall_const, implies_true, false_implies, true_implies, Option.some.injEq, forall_eq', exists_eq_left', reduceCtorEq, Nat.reduceEqDiff, c1, T_X12_in, T_X12_ones, T_X11_within, T_X11_bit, T_X11_isIn, T_X11_oneIfIn, T_J6_bitCount_0f7a4, in0 4 (by decide) (by decide), cl0, h46, h4, c1', c2', c3', b2i_0, cl_nI (show R < 2147483648 by omega), in_nI (show R < 16 by omega) (by decide), nI_1, show ¬ (1 : Int32) = 0 by decide] <;> exact hq
theorem st_room {h : Hp} (hc : CP h) (ho ma st dg ki : Int32) (hst : st = 0 ∨ st = 1) (hdg : dg = 0 ∨ dg = 1) : SOK 2 MX11_room 1 MX12_room [.int ho, .int ma, .int st, .int dg, .int ki] h := by
  have hl := hc.1
  have hm := hc.2.1
  obtain ⟨R, P, H, E, Ln, q, np, hs⟩ := hc.2.2.2.1
  obtain ⟨a1, a2, a3, a4, a5, a6, a7, a8, a9, a10, a11, a12, a13⟩ := id hs
  have h12 : hI h 12 0 = nI R := a4.2.1
  have h46 : hI h 46 0 = nI R := a4.2.2.1
  have hR := a4.1
  have h4 : nI R = 4 ↔ R = 4 := nI_inj (b := 4) (by omega) (by decide)
  have hlt4 : nI R < 4 ↔ R < 4 := nI_ltI (b := 4) (by omega) (by decide)
  by_cases c : R < 4 ∧ (1 ≤ ho ∧ ho ≤ 6) ∧ (0 ≤ ma ∧ ma ≤ 3) ∧ (0 ≤ ki ∧ ki ≤ 2)
  · obtain ⟨cR, ch, cm, ck⟩ := c
    obtain ⟨hv, hhv, eh⟩ := (per_ix (P := 7) (by decide)).mp (show 0 ≤ ho ∧ ho ≤ nI 7 - 1 from ⟨Int32.le_trans (by decide) ch.1, ch.2⟩)
    obtain ⟨mv, hmv, em⟩ := (per_ix (P := 4) (by decide)).mp (show 0 ≤ ma ∧ ma ≤ nI 4 - 1 from cm)
    have sA := rmA_sh h R ho ma ki (sv st R) (sv dg R)
    have sB := rmB_sh (rmA h R ho ma ki (sv st R) (sv dg R)) R ho ma st dg ki
    have oA := rmA_o h R ho ma ki (sv st R) (sv dg R)
    have oB := rmB_o (rmA h R ho ma ki (sv st R) (sv dg R)) R ho ma st dg ki
    have rA' := rmA_r h R ho ma ki (sv st R) (sv dg R)
    have rB := rmB_r (rmA h R ho ma ki (sv st R) (sv dg R)) R ho ma st dg ki
    have s2 := sA.tr sB
    refine wr (nI R) (rmA h R ho ma ki (sv st R) (sv dg R)) (rmB (rmA h R ho ma ki (sv st R) (sv dg R)) R ho ma st dg ki) (fun Q hq => ok_X11_room _ _ _ (xroom Q h hl R h12 cR ho ma st dg ki ch cm ck hq)) (fun Q hq => ok_X12_room _ _ _ (mroom Q _ (sA.m hm) R ((oA 46 0 (by decide)).trans h46) cR ho ma st dg ki hst hdg ch cm ck hq)) ?_ (by rw [s2.1]; exact Nat.le_add_right _ _) (by rw [s2.2.1]; exact Nat.le_add_right _ _) (lm_k (sA.m hm)).1
    generalize rmA h R ho ma ki (sv st R) (sv dg R) = hA at sA sB oA oB rA' rB s2 ⊢
    generalize rmB hA R ho ma st dg ki = h2 at sB oB rB s2 ⊢
    have o : ∀ a, ¬ (12 ≤ a ∧ a ≤ 15) → a ≠ 44 → ¬ (46 ≤ a ∧ a ≤ 51) → hI h2 a = hI h a := fun a n1 n2 n3 => funext fun j => (oB a j (fun z => n2 z.1) n3).trans (oA a j n1)
    have oo : ∀ a, 52 ≤ a → hI h2 a = hI h a := fun a n1 => o a (by omega) (by omega) (by omega)
    refine hc.now hs s2 (fun a ha => o a (by omega) (by omega) (by omega)) (fun j hj => (oB 44 j (by omega) (by omega)).trans (oA 44 j (by omega))) (fun a j b1 b2 bs => ?_) (fun a b1 b2 => oo a (by omega)) (R' := R + 1) ?_ (PC_k (fun a b1 b2 => oo a (by omega)) (PC_c (fun i i1 i2 => o _ (by omega) (by omega) (by omega)) a5)) ((congrFun (o 16 (by decide) (by decide) (by decide)) 1).trans a6) (HlC_k (fun a b1 b2 => oo a (by omega)) (HlC_c (fun i i1 i2 => o _ (by omega) (by omega) (by omega)) a7)) (JP_k (oo 57 (by decide)) (oo 60 (by decide)) (oo 62 (by decide)) (oo 63 (by decide)) (JP.R (Nat.le_succ R) a9)) (fun e n Rn _ _ hw => LtW_k (oo 60 (by decide)) (oo 77 (by decide)) (oo 78 (by decide)) (oo 79 (by decide)) hw)
    · by_cases e : 46 ≤ a ∧ a ≤ 51
      · have e5 : a = 46 ∨ a = 47 ∨ a = 48 ∨ a = 49 ∨ a = 50 ∨ a = 51 := by omega
        have z6 : szA 46 = 1 := rfl
        have z7 : szA 47 = 4 := rfl
        have z8 : szA 48 = 4 := rfl
        have z9 : szA 49 = 4 := rfl
        have z0 : szA 50 = 4 := rfl
        have z1 : szA 51 = 4 := rfl
        obtain ⟨g1, g2, g3, g4, g5, g6⟩ := rB j
        rcases e5 with rfl | rfl | rfl | rfl | rfl | rfl
        · rw [g1, if_neg (by omega)]; exact oA _ _ (by decide)
        · rw [g2, if_neg (by omega)]; exact oA _ _ (by decide)
        · rw [g3, if_neg (by omega)]; exact oA _ _ (by decide)
        · rw [g4, if_neg (by omega)]; exact oA _ _ (by decide)
        · rw [g5, if_neg (by omega)]; exact oA _ _ (by decide)
        · rw [g6, if_neg (by omega)]; exact oA _ _ (by decide)
      · exact congrFun (o a (by omega) (by omega) e) j
    · obtain ⟨b1, b2, b3, b4, b5⟩ := a4
      have kB' : ∀ a j, 12 ≤ a → a ≤ 15 → hI h2 a j = hI hA a j := fun a j x1 x2 => oB a j (by omega) (by omega)
      unfold RmC
      simp only [Nat.reduceAdd] at b4 ⊢
      refine ⟨by omega, (kB' 12 0 (by decide) (by decide)).trans (rA' 0).1, (rB 0).1.trans (if_pos rfl), fun x hx => ?_, fun x hx => ?_⟩
      · obtain ⟨_, q4, q5, q13, q14, q15⟩ := rA' x
        obtain ⟨_, g47, g48, g49, g50, g51⟩ := rB x
        rw [kB' 13 x (by decide) (by decide), kB' 14 x (by decide) (by decide), kB' 15 x (by decide) (by decide), kB' 12 4 (by decide) (by decide), kB' 12 5 (by decide) (by decide), q4, q5, q13, q14, q15, g47, g48, g49, g50, g51, b_sv _ _ (by omega), b_sv _ _ (by omega)]
        by_cases e : x = R
        · obtain ⟨f1', f2'⟩ := b5 x (by omega)
          rw [if_pos e, if_pos e, if_pos e, if_pos e, if_pos e, if_pos e, if_pos e, if_pos e, f1', f2']
          refine ⟨rfl, rfl, rfl, ?_, ?_, hv, mv, by omega, eh, em⟩
          · rcases hst with z | z <;> rw [z] <;> simp [b2i, e]
          · rcases hdg with z | z <;> rw [z] <;> simp [b2i, e]
        · have ed : decide (x = R) = false := by simp [e]
          rw [if_neg e, if_neg e, if_neg e, if_neg e, if_neg e, if_neg e, if_neg e, if_neg e, ed, Bool.and_false, Bool.and_false, Bool.or_false, Bool.or_false, oA 47 x (by decide), oA 48 x (by decide), oA 49 x (by decide), oA 50 x (by decide), oA 51 x (by decide)]
          exact b4 x (by omega)
      · obtain ⟨f1', f2'⟩ := b5 x (by omega)
        have ed : decide (x = R) = false := by simp; omega
        rw [kB' 12 4 (by decide) (by decide), kB' 12 5 (by decide) (by decide), (rA' 0).2.1, (rA' 0).2.2.1, b_sv _ _ (by omega), b_sv _ _ (by omega), ed, Bool.and_false, Bool.and_false, Bool.or_false, Bool.or_false]
        exact ⟨f1', f2'⟩
  · refine rd (-1) hc (fun Q hq => ok_X11_room _ _ _ ?_) (fun Q hq => ok_X12_room _ _ _ ?_)
    · unfold T_X11_room
      by_cases g1 : 1 ≤ ho ∧ ho ≤ 6
      · by_cases g2 : 0 ≤ ma ∧ ma ≤ 3
        · by_cases g3 : 0 ≤ ki ∧ ki ≤ 2
          · have g4 : ¬ R < 4 := fun z => c ⟨z, g1, g2, g3⟩
            simp only [b_X11_room_0, T_X6_add, b_X6_add_0, lx_pI, lx_wI, lx_t hl, lx_k hl, lx_r hl, lx_l hl, i_push, i_ild, i_ald, i_ist, i_ast, i_inc, i_bin, i_un, i_divs, i_i2l, i_lshl, i_lor, i_dup, i_dup2, i_pop, i_if, i_cmp, i_nul, i_vret, i_iret, i_zret, i_aret, i_keep, keep, lget, lset, ent, i_getI, i_getJ, i_getR, i_getN, i_putI, i_putZ, i_putJ, i_putR, i_iald, i_bald, i_alen, i_aald, i_iast, i_bast, i_aast, i_new, i_newa, i_anew, i_oini, i_callS, i_callV, i_callI, popn, sh4, i_sw, swP, i_copy, i_binS, List.map, Option.toList_none, Option.toList_some, List.append, List.nil_append, List.cons_append, List.length_cons, List.length_nil, List.replicate, Nat.sub_self, Nat.reduceSub, Nat.reduceAdd, hK_pX, hL_pX, hI_pX, hR_pX, hJ_pX, hT_pX, hS_pX, hK_pR, hL_pR, hI_pR, hR_pR, hJ_pR, hT_pR, hS_pR, hK_pJ, hL_pJ, hI_pJ, hR_pJ, hJ_pJ, hT_pJ, hS_pJ, hK_wI, hL_wI, hI_wI, hR_wI, hJ_wI, hT_wI, hS_wI, eq_self, and_true, true_and, and_false, false_and, or_true, true_or, or_false, false_or, if_true, if_false, not_true_eq_false, not_false_eq_true, forall_const, implies_true, false_implies, true_implies, Option.some.injEq, forall_eq', exists_eq_left', reduceCtorEq, Nat.reduceEqDiff, c1, T_X12_in, T_X12_ones, T_X11_within, T_X11_bit, T_X11_isIn, T_X11_oneIfIn, T_J6_bitCount_0f7a4, b2i_0, g1, g2, g3, h12, hlt4, g4]
            exact hq
          · simp only [b_X11_room_0, lx_pI, lx_wI, lx_t hl, lx_k hl, lx_r hl, lx_l hl, i_push, i_ild, i_ald, i_ist, i_ast, i_inc, i_bin, i_un, i_divs, i_i2l, i_lshl, i_lor, i_dup, i_dup2, i_pop, i_if, i_cmp, i_nul, i_vret, i_iret, i_zret, i_aret, i_keep, keep, lget, lset, ent, i_getI, i_getJ, i_getR, i_getN, i_putI, i_putZ, i_putJ, i_putR, i_iald, i_bald, i_alen, i_aald, i_iast, i_bast, i_aast, i_new, i_newa, i_anew, i_oini, i_callS, i_callV, i_callI, popn, sh4, i_sw, swP, i_copy, i_binS, List.map, Option.toList_none, Option.toList_some, List.append, List.nil_append, List.cons_append, List.length_cons, List.length_nil, List.replicate, Nat.sub_self, Nat.reduceSub, Nat.reduceAdd, hK_pX, hL_pX, hI_pX, hR_pX, hJ_pX, hT_pX, hS_pX, hK_pR, hL_pR, hI_pR, hR_pR, hJ_pR, hT_pR, hS_pR, hK_pJ, hL_pJ, hI_pJ, hR_pJ, hJ_pJ, hT_pJ, hS_pJ, hK_wI, hL_wI, hI_wI, hR_wI, hJ_wI, hT_wI, hS_wI, eq_self, and_true, true_and, and_false, false_and, or_true, true_or, or_false, false_or, if_true, if_false, not_true_eq_false, not_false_eq_true, forall_const, implies_true, false_implies, true_implies, Option.some.injEq, forall_eq', exists_eq_left', reduceCtorEq, Nat.reduceEqDiff, c1, T_X12_in, T_X12_ones, T_X11_within, T_X11_bit, T_X11_isIn, T_X11_oneIfIn, T_J6_bitCount_0f7a4, b2i_0, g1, g2, g3]
            exact hq
        · simp only [b_X11_room_0, lx_pI, lx_wI, lx_t hl, lx_k hl, lx_r hl, lx_l hl, i_push, i_ild, i_ald, i_ist, i_ast, i_inc, i_bin, i_un, i_divs, i_i2l, i_lshl, i_lor, i_dup, i_dup2, i_pop, i_if, i_cmp, i_nul, i_vret, i_iret, i_zret, i_aret, i_keep, keep, lget, lset, ent, i_getI, i_getJ, i_getR, i_getN, i_putI, i_putZ, i_putJ, i_putR, i_iald, i_bald, i_alen, i_aald, i_iast, i_bast, i_aast, i_new, i_newa, i_anew, i_oini, i_callS, i_callV, i_callI, popn, sh4, i_sw, swP, i_copy, i_binS, List.map, Option.toList_none, Option.toList_some, List.append, List.nil_append, List.cons_append, List.length_cons, List.length_nil, List.replicate, Nat.sub_self, Nat.reduceSub, Nat.reduceAdd, hK_pX, hL_pX, hI_pX, hR_pX, hJ_pX, hT_pX, hS_pX, hK_pR, hL_pR, hI_pR, hR_pR, hJ_pR, hT_pR, hS_pR, hK_pJ, hL_pJ, hI_pJ, hR_pJ, hJ_pJ, hT_pJ, hS_pJ, hK_wI, hL_wI, hI_wI, hR_wI, hJ_wI, hT_wI, hS_wI, eq_self, and_true, true_and, and_false, false_and, or_true, true_or, or_false, false_or, if_true, if_false, not_true_eq_false, not_false_eq_true, forall_const, implies_true, false_implies, true_implies, Option.some.injEq, forall_eq', exists_eq_left', reduceCtorEq, Nat.reduceEqDiff, c1, T_X12_in, T_X12_ones, T_X11_within, T_X11_bit, T_X11_isIn, T_X11_oneIfIn, T_J6_bitCount_0f7a4, b2i_0, g1, g2]
          exact hq
      · simp only [b_X11_room_0, lx_pI, lx_wI, lx_t hl, lx_k hl, lx_r hl, lx_l hl, i_push, i_ild, i_ald, i_ist, i_ast, i_inc, i_bin, i_un, i_divs, i_i2l, i_lshl, i_lor, i_dup, i_dup2, i_pop, i_if, i_cmp, i_nul, i_vret, i_iret, i_zret, i_aret, i_keep, keep, lget, lset, ent, i_getI, i_getJ, i_getR, i_getN, i_putI, i_putZ, i_putJ, i_putR, i_iald, i_bald, i_alen, i_aald, i_iast, i_bast, i_aast, i_new, i_newa, i_anew, i_oini, i_callS, i_callV, i_callI, popn, sh4, i_sw, swP, i_copy, i_binS, List.map, Option.toList_none, Option.toList_some, List.append, List.nil_append, List.cons_append, List.length_cons, List.length_nil, List.replicate, Nat.sub_self, Nat.reduceSub, Nat.reduceAdd, hK_pX, hL_pX, hI_pX, hR_pX, hJ_pX, hT_pX, hS_pX, hK_pR, hL_pR, hI_pR, hR_pR, hJ_pR, hT_pR, hS_pR, hK_pJ, hL_pJ, hI_pJ, hR_pJ, hJ_pJ, hT_pJ, hS_pJ, hK_wI, hL_wI, hI_wI, hR_wI, hJ_wI, hT_wI, hS_wI, eq_self, and_true, true_and, and_false, false_and, or_true, true_or, or_false, false_or, if_true, if_false, not_true_eq_false, not_false_eq_true, forall_const, implies_true, false_implies, true_implies, Option.some.injEq, forall_eq', exists_eq_left', reduceCtorEq, Nat.reduceEqDiff, c1, T_X12_in, T_X12_ones, T_X11_within, T_X11_bit, T_X11_isIn, T_X11_oneIfIn, T_J6_bitCount_0f7a4, b2i_0, g1]
        exact hq
    · have hl := hm
      unfold T_X12_room
      by_cases g4 : R = 4
      · have g46 : hI h 46 0 = 4 := h46.trans (h4.mpr g4)
        simp only [b_X12_room_0, hl, lay_pI, lay_wI, lay_pJ, lm_t hl, lm_k hl, lm_r hl, lm_l hl, i_push, i_ild, i_ald, i_ist, i_ast, i_inc, i_bin, i_un, i_divs, i_i2l, i_lshl, i_lor, i_dup, i_dup2, i_pop, i_if, i_cmp, i_nul, i_vret, i_iret, i_zret, i_aret, i_keep, keep, lget, lset, ent, i_getI, i_getJ, i_getR, i_getN, i_putI, i_putZ, i_putJ, i_putR, i_iald, i_bald, i_alen, i_aald, i_iast, i_bast, i_aast, i_new, i_newa, i_anew, i_oini, i_callS, i_callV, i_callI, popn, sh4, i_sw, swP, i_copy, i_binS, List.map, Option.toList_none, Option.toList_some, List.append, List.nil_append, List.cons_append, List.length_cons, List.length_nil, List.replicate, Nat.sub_self, Nat.reduceSub, Nat.reduceAdd, hK_pX, hL_pX, hI_pX, hR_pX, hJ_pX, hT_pX, hS_pX, hK_pR, hL_pR, hI_pR, hR_pR, hJ_pR, hT_pR, hS_pR, hK_pJ, hL_pJ, hI_pJ, hR_pJ, hJ_pJ, hT_pJ, hS_pJ, hK_wI, hL_wI, hI_wI, hR_wI, hJ_wI, hT_wI, hS_wI, eq_self, and_true, true_and, and_false, false_and, or_true, true_or, or_false, false_or, if_true, if_false, not_true_eq_false, not_false_eq_true, forall_const, implies_true, false_implies, true_implies, Option.some.injEq, forall_eq', exists_eq_left', reduceCtorEq, Nat.reduceEqDiff, c1, T_X12_in, T_X12_ones, T_X11_within, T_X11_bit, T_X11_isIn, T_X11_oneIfIn, T_J6_bitCount_0f7a4, in0 4 (by decide) (by decide), cl0, g46]
        exact hq
      · by_cases g1 : 1 ≤ ho ∧ ho ≤ 6
        · by_cases g2 : 0 ≤ ma ∧ ma ≤ 3
          · have g3 : ¬ (0 ≤ ki ∧ ki ≤ 2) := fun z => c ⟨by omega, g1, g2, z⟩
            simp only [b_X12_room_0, hl, lay_pI, lay_wI, lay_pJ, lm_t hl, lm_k hl, lm_r hl, lm_l hl, i_push, i_ild, i_ald, i_ist, i_ast, i_inc, i_bin, i_un, i_divs, i_i2l, i_lshl, i_lor, i_dup, i_dup2, i_pop, i_if, i_cmp, i_nul, i_vret, i_iret, i_zret, i_aret, i_keep, keep, lget, lset, ent, i_getI, i_getJ, i_getR, i_getN, i_putI, i_putZ, i_putJ, i_putR, i_iald, i_bald, i_alen, i_aald, i_iast, i_bast, i_aast, i_new, i_newa, i_anew, i_oini, i_callS, i_callV, i_callI, popn, sh4, i_sw, swP, i_copy, i_binS, List.map, Option.toList_none, Option.toList_some, List.append, List.nil_append, List.cons_append, List.length_cons, List.length_nil, List.replicate, Nat.sub_self, Nat.reduceSub, Nat.reduceAdd, hK_pX, hL_pX, hI_pX, hR_pX, hJ_pX, hT_pX, hS_pX, hK_pR, hL_pR, hI_pR, hR_pR, hJ_pR, hT_pR, hS_pR, hK_pJ, hL_pJ, hI_pJ, hR_pJ, hJ_pJ, hT_pJ, hS_pJ, hK_wI, hL_wI, hI_wI, hR_wI, hJ_wI, hT_wI, hS_wI, eq_self, and_true, true_and, and_false, false_and, or_true, true_or, or_false, false_or, if_true, if_false, not_true_eq_false, not_false_eq_true, forall_const, implies_true, false_implies, true_implies, Option.some.injEq, forall_eq', exists_eq_left', reduceCtorEq, Nat.reduceEqDiff, c1, T_X12_in, T_X12_ones, T_X11_within, T_X11_bit, T_X11_isIn, T_X11_oneIfIn, T_J6_bitCount_0f7a4, in0 4 (by decide) (by decide), cl0, h46, h4, g4, b2i_0, g1, g2, g3]
            exact hq
          · simp only [b_X12_room_0, hl, lay_pI, lay_wI, lay_pJ, lm_t hl, lm_k hl, lm_r hl, lm_l hl, i_push, i_ild, i_ald, i_ist, i_ast, i_inc, i_bin, i_un, i_divs, i_i2l, i_lshl, i_lor, i_dup, i_dup2, i_pop, i_if, i_cmp, i_nul, i_vret, i_iret, i_zret, i_aret, i_keep, keep, lget, lset, ent, i_getI, i_getJ, i_getR, i_getN, i_putI, i_putZ, i_putJ, i_putR, i_iald, i_bald, i_alen, i_aald, i_iast, i_bast, i_aast, i_new, i_newa, i_anew, i_oini, i_callS, i_callV, i_callI, popn, sh4, i_sw, swP, i_copy, i_binS, List.map, Option.toList_none, Option.toList_some, List.append, List.nil_append, List.cons_append, List.length_cons, List.length_nil, List.replicate, Nat.sub_self, Nat.reduceSub, Nat.reduceAdd, hK_pX, hL_pX, hI_pX, hR_pX, hJ_pX, hT_pX, hS_pX, hK_pR, hL_pR, hI_pR, hR_pR, hJ_pR, hT_pR, hS_pR, hK_pJ, hL_pJ, hI_pJ, hR_pJ, hJ_pJ, hT_pJ, hS_pJ, hK_wI, hL_wI, hI_wI, hR_wI, hJ_wI, hT_wI, hS_wI, eq_self, and_true, true_and, and_false, false_and, or_true, true_or, or_false, false_or, if_true, if_false, not_true_eq_false, not_false_eq_true, forall_const, implies_true, false_implies, true_implies, Option.some.injEq, forall_eq', exists_eq_left', reduceCtorEq, Nat.reduceEqDiff, c1, T_X12_in, T_X12_ones, T_X11_within, T_X11_bit, T_X11_isIn, T_X11_oneIfIn, T_J6_bitCount_0f7a4, in0 4 (by decide) (by decide), cl0, h46, h4, g4, b2i_0, g1, g2]
            exact hq
        · simp only [b_X12_room_0, hl, lay_pI, lay_wI, lay_pJ, lm_t hl, lm_k hl, lm_r hl, lm_l hl, i_push, i_ild, i_ald, i_ist, i_ast, i_inc, i_bin, i_un, i_divs, i_i2l, i_lshl, i_lor, i_dup, i_dup2, i_pop, i_if, i_cmp, i_nul, i_vret, i_iret, i_zret, i_aret, i_keep, keep, lget, lset, ent, i_getI, i_getJ, i_getR, i_getN, i_putI, i_putZ, i_putJ, i_putR, i_iald, i_bald, i_alen, i_aald, i_iast, i_bast, i_aast, i_new, i_newa, i_anew, i_oini, i_callS, i_callV, i_callI, popn, sh4, i_sw, swP, i_copy, i_binS, List.map, Option.toList_none, Option.toList_some, List.append, List.nil_append, List.cons_append, List.length_cons, List.length_nil, List.replicate, Nat.sub_self, Nat.reduceSub, Nat.reduceAdd, hK_pX, hL_pX, hI_pX, hR_pX, hJ_pX, hT_pX, hS_pX, hK_pR, hL_pR, hI_pR, hR_pR, hJ_pR, hT_pR, hS_pR, hK_pJ, hL_pJ, hI_pJ, hR_pJ, hJ_pJ, hT_pJ, hS_pJ, hK_wI, hL_wI, hI_wI, hR_wI, hJ_wI, hT_wI, hS_wI, eq_self, and_true, true_and, and_false, false_and, or_true, true_or, or_false, false_or, if_true, if_false, not_true_eq_false, not_false_eq_true, forall_const, implies_true, false_implies, true_implies, Option.some.injEq, forall_eq', exists_eq_left', reduceCtorEq, Nat.reduceEqDiff, c1, T_X12_in, T_X12_ones, T_X11_within, T_X11_bit, T_X11_isIn, T_X11_oneIfIn, T_J6_bitCount_0f7a4, in0 4 (by decide) (by decide), cl0, h46, h4, g4, b2i_0, g1]
          exact hq
