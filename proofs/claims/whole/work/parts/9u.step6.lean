/-! ===== steps: helper ===== -/
theorem hI_pX (h : Hp) (a j : Nat) (v : Int32) (b i : Nat) : hI (pI h a j v) b i = if b = a ∧ i = j then v else hI h b i := by
  by_cases c : b = a ∧ i = j
  · rw [if_pos c]; exact if_pos c
  · rw [if_neg c]; exact if_neg c
theorem hK_pX (h : Hp) (a j : Nat) (v : Int32) : hK (pI h a j v) = hK h := by obtain ⟨k, r⟩ := h; rfl
theorem hL_pX (h : Hp) (a j : Nat) (v : Int32) : hL (pI h a j v) = hL h := by obtain ⟨k, r⟩ := h; rfl
theorem hR_pX (h : Hp) (a j : Nat) (v : Int32) : hR (pI h a j v) = hR h := by obtain ⟨k, r⟩ := h; rfl
theorem hJ_pX (h : Hp) (a j : Nat) (v : Int32) : hJ (pI h a j v) = hJ h := by obtain ⟨k, r⟩ := h; rfl
theorem hT_pX (h : Hp) (a j : Nat) (v : Int32) : hT (pI h a j v) = hT h := by obtain ⟨k, r⟩ := h; rfl
theorem hS_pX (h : Hp) (a j : Nat) (v : Int32) : hS (pI h a j v) = hS h := by obtain ⟨k, r⟩ := h; rfl
theorem pI_sh (h : Hp) (a j : Nat) (v : Int32) : Sh h (pI h a j v) := ⟨rfl, rfl, rfl, rfl, rfl⟩
theorem Sh.p {h h' : Hp} (s : Sh h h') (a j : Nat) (v : Int32) : Sh h (pI h' a j v) := s.tr (pI_sh h' a j v)
theorem e127 : (1 : Int32) <<< ((7 : Int32) &&& 31) - 1 = 127 := by decide +kernel
def hlpH (h : Hp) (H : Nat) (d n : Int32) : Hp := pI (pI (pI (pI (pI (pI (pI (pI (pI h 26 H d) 27 H n) 25 0 (nI (H + 1))) 44 0 0) 64 0 (nI (H + 1))) 65 H d) 66 H n) 67 H 0) 68 H 0
theorem hlp_sh (h : Hp) (H : Nat) (d n : Int32) : Sh h (hlpH h H d n) := ((((((((pI_sh h 26 H d).p 27 H n).p 25 0 (nI (H + 1))).p 44 0 0).p 64 0 (nI (H + 1))).p 65 H d).p 66 H n).p 67 H 0).p 68 H 0
theorem hlp_o (h : Hp) (H : Nat) (d n : Int32) (a j : Nat) (n1 : a ≠ 25) (n2 : a ≠ 26) (n3 : a ≠ 27) (n4 : a ≠ 44) (n5 : ¬ (64 ≤ a ∧ a ≤ 68)) : hI (hlpH h H d n) a j = hI h a j := by
  unfold hlpH
  rw [hI_pI, if_neg (by omega), hI_pI, if_neg (by omega), hI_pI, if_neg (by omega), hI_pI, if_neg (by omega), hI_pI, if_neg (by omega), hI_pI, if_neg (by omega), hI_pI, if_neg (by omega), hI_pI, if_neg (by omega), hI_pI, if_neg (by omega)]
theorem hlp_44 (h : Hp) (H : Nat) (d n : Int32) (j : Nat) (hj : j ≠ 0) : hI (hlpH h H d n) 44 j = hI h 44 j := by
  unfold hlpH
  simp only [hI_pX, Nat.reduceEqDiff, false_and, if_false, true_and, hj]
theorem hlp_r (h : Hp) (H : Nat) (d n : Int32) (x : Nat) : (hI (hlpH h H d n) 25 x = if x = 0 then nI (H + 1) else hI h 25 x) ∧ (hI (hlpH h H d n) 26 x = if x = H then d else hI h 26 x) ∧ (hI (hlpH h H d n) 27 x = if x = H then n else hI h 27 x) ∧ (hI (hlpH h H d n) 64 x = if x = 0 then nI (H + 1) else hI h 64 x) ∧ (hI (hlpH h H d n) 65 x = if x = H then d else hI h 65 x) ∧ (hI (hlpH h H d n) 66 x = if x = H then n else hI h 66 x) ∧ (hI (hlpH h H d n) 67 x = if x = H then 0 else hI h 67 x) ∧ (hI (hlpH h H d n) 68 x = if x = H then 0 else hI h 68 x) := by
  unfold hlpH
  refine ⟨?_, ?_, ?_, ?_, ?_, ?_, ?_, ?_⟩ <;> simp only [hI_pX, Nat.reduceEqDiff, false_and, if_false, true_and]
def L_X11_helper : List UInt8 := [27, 3, 16, 7, 184, 0, 123, 4, 100, 184, 0, 85, 153, 0, 13, 28, 4, 16, 7, 184, 0, 85, 154, 0, 5, 2, 172, 42, 180, 0, 24, 180, 0, 130, 27, 28, 182, 0, 134, 172]
theorem Lc_X11_helper : MX11_helper.2.1 = ⟨L_X11_helper.toArray⟩ := rfl
theorem D_X11_helper_0 : dseq MX11_helper.2.1 0 [(.iload_n 1, 1), (.iconst 0, 1), (.bipush 7, 2), (.invokestatic 123, 3), (.iconst 1, 1), (.isub, 1), (.invokestatic 85, 3), (.ifCond .eq 13, 3), (.iload_n 2, 1), (.iconst 1, 1), (.bipush 7, 2), (.invokestatic 85, 3), (.ifCond .ne 5, 3), (.iconst (-1), 1), (.ireturn, 1)] := dq Lc_X11_helper 0 _ (by decide +kernel)
theorem D_X11_helper_25 : dseq MX11_helper.2.1 25 [(.iconst (-1), 1), (.ireturn, 1)] := dq Lc_X11_helper 25 _ (by decide +kernel)
theorem D_X11_helper_27 : dseq MX11_helper.2.1 27 [(.aload_n 0, 1), (.getfield 24, 3), (.getfield 130, 3), (.iload_n 1, 1), (.iload_n 2, 1), (.invokevirtual 134, 3), (.ireturn, 1)] := dq Lc_X11_helper 27 _ (by decide +kernel)
def b_X11_helper_0 (Q : Option Value → Hp → Prop) : Kt := i_ild 1 (i_push (.int 0) (i_push (.int 7) (i_callS 1 T_X11_bit (i_push (.int 1) (i_bin (fun x y => x - y) (i_callS 3 T_X11_within (i_if (fun x => x = 0) (i_push (.int (-1)) (i_iret Q)) (i_ild 2 (i_push (.int 1) (i_push (.int 7) (i_callS 3 T_X11_within (i_if (fun x => x = 0) (i_push (.int (-1)) (i_iret Q)) (i_ald 0 (i_getR 11 1 (i_getR 8 2 (i_ild 1 (i_ild 2 (i_callV 0 2 T_X0_add (i_iret Q)))))))))))))))))))
set_option maxRecDepth 100000 in
theorem s_X11_helper_0 (Q : Option Value → Hp → Prop) : ∀ A st h, b_X11_helper_0 Q A st h → wp 1 MX11_helper Q 0 A st h := (q1 (s_ildn (n := 1) (i := 1) rfl) D_X11_helper_0 fun D => (q1 (s_iconst (n := 0) (v := 0) (by decide)) D fun D => (q1 (s_bipush (n := 7) (v := 7) (by decide)) D fun D => (qX (s_callS ok_X11_bit mo_X11_bit (ch_3_7_ok.2.2.2.2.2.2.1.1 rfl) (ch_3_5_ok.2.2.2.2.2.2.2.2.2.2.2.2.1.1 rfl)) rfl (by decide) D fun D => (q1 (s_iconst (n := 1) (v := 1) (by decide)) D fun D => (q1 s_sub D fun D => (qX (s_callS ok_X11_within mo_X11_within (ch_3_5_ok.2.2.2.2.1.1 rfl) (ch_3_5_ok.2.2.2.2.2.1.1 rfl)) rfl (by decide) D fun D => (qB s_ifeq 25 (by decide) D (q1 (s_iconst (n := (-1)) (v := (-1)) (by decide)) D_X11_helper_25 fun D => (qI rfl D)) fun D => (q1 (s_ildn (n := 2) (i := 2) rfl) D fun D => (q1 (s_iconst (n := 1) (v := 1) (by decide)) D fun D => (q1 (s_bipush (n := 7) (v := 7) (by decide)) D fun D => (qX (s_callS ok_X11_within mo_X11_within (ch_3_5_ok.2.2.2.2.1.1 rfl) (ch_3_5_ok.2.2.2.2.2.1.1 rfl)) rfl (by decide) D fun D => (qBn s_ifne2 27 (by decide) D (q1 (s_aldn (n := 0) (i := 0) rfl) D_X11_helper_27 fun D => (qC fl_X11_24 rfl D fun D => (qC fl_X11_130 rfl D fun D => (q1 (s_ildn (n := 1) (i := 1) rfl) D fun D => (q1 (s_ildn (n := 2) (i := 2) rfl) D fun D => (qX (s_callV kX0 rfl ok_X0_add mo_X0_add (ch_3_8_ok.2.2.2.2.2.2.2.2.2.2.2.1.1 rfl) (ch_3_8_ok.2.2.2.2.2.2.2.2.2.2.2.2.1.1 rfl) (ch_3_8_ok.2.2.2.2.2.2.2.2.2.2.2.2.2.1.1 rfl)) rfl (by decide) D fun D => (qI rfl D))))))) fun D => (q1 (s_iconst (n := (-1)) (v := (-1)) (by decide)) D fun D => (qI rfl D)))))))))))))))
def T_X11_helper : Tr := fun av h Q => c1 3 av ∧ b_X11_helper_0 Q (ent 3 av) [] h
theorem ok_X11_helper : ctr 1 MX11_helper T_X11_helper := ctr_of pn_X11 wc_X11_helper (fun av h Q hT => ⟨c1_ok hT.1, s_X11_helper_0 Q _ _ _ hT.2⟩)

theorem st_helper {h : Hp} (hc : CP h) (d n : Int32) : SOK 1 MX11_helper 1 MX12_helper [.int d, .int n] h := by
  have hl := hc.1
  have hm := hc.2.1
  obtain ⟨R, P, H, E, Ln, q, np, hs⟩ := hc.2.2.2.1
  obtain ⟨a1, a2, a3, a4, a5, a6, a7, a8, a9, a10, a11, a12, a13⟩ := id hs
  have h25 : hI h 25 0 = nI H := a7.2.1
  have h64 : hI h 64 0 = nI H := a7.2.2.1
  have hH := a7.1
  have hH8 : nI H = 8 ↔ H = 8 := nI_inj (b := 8) (by omega) (by decide)
  have hlt8 : nI H < 8 ↔ H < 8 := nI_ltI (b := 8) (by omega) (by decide)
  by_cases c : (H < 8 ∧ 0 ≤ d ∧ d ≤ 127) ∧ 1 ≤ n ∧ n ≤ 7
  · obtain ⟨⟨cH, cd⟩, cn⟩ := c
    have cH8 : ¬ H = 8 := by omega
    have em : nI (H + 1) - 1 = nI H := (nI_sub (b := 1) (by omega)).trans (by rw [Nat.add_sub_cancel])
    obtain ⟨nv', hnv, en⟩ := (per_ix (P := 8) (by decide)).mp (show 0 ≤ n ∧ n ≤ nI 8 - 1 from ⟨Int32.le_trans (by decide) cn.1, cn.2⟩)
    have s2 := hlp_sh h H d n
    have o : ∀ a, a ≠ 25 → a ≠ 26 → a ≠ 27 → a ≠ 44 → ¬ (64 ≤ a ∧ a ≤ 68) → hI (hlpH h H d n) a = hI h a := fun a n1 n2 n3 n4 n5 => funext fun j => hlp_o h H d n a j n1 n2 n3 n4 n5
    have r44 := hlp_44 h H d n
    have rr := hlp_r h H d n
    refine wr (nI H) (pI (pI (pI h 26 H d) 27 H n) 25 0 (nI (H + 1))) (hlpH h H d n) (fun Q hq => ok_X11_helper _ _ _ ?_) (fun Q hq => ok_X12_helper _ _ _ ?_) ?_ (by rw [s2.1]; exact Nat.le_add_right _ _) (by rw [s2.2.1]; exact Nat.le_add_right _ _) (lm_k hm).1
    · unfold T_X11_helper
      simp only [b_X11_helper_0, T_X0_add, b_X0_add_0, lx_pI, lx_wI, lx_t hl, lx_k hl, lx_r hl, lx_l hl, i_push, i_ild, i_ald, i_ist, i_ast, i_inc, i_bin, i_un, i_divs, i_i2l, i_lshl, i_lor, i_dup, i_dup2, i_pop, i_if, i_cmp, i_nul, i_vret, i_iret, i_zret, i_aret, i_keep, keep, lget, lset, ent, i_getI, i_getJ, i_getR, i_getN, i_putI, i_putZ, i_putJ, i_putR, i_iald, i_bald, i_alen, i_aald, i_iast, i_bast, i_aast, i_new, i_newa, i_anew, i_oini, i_callS, i_callV, i_callI, popn, sh4, i_sw, swP, i_copy, i_binS, List.map, Option.toList_none, Option.toList_some, List.append, List.nil_append, List.cons_append, List.length_cons, List.length_nil, List.replicate, Nat.sub_self, Nat.reduceSub, Nat.reduceAdd, hK_pX, hL_pX, hI_pX, hR_pX, hJ_pX, hT_pX, hS_pX, hK_pR, hL_pR, hI_pR, hR_pR, hJ_pR, hT_pR, hS_pR, hK_pJ, hL_pJ, hI_pJ, hR_pJ, hJ_pJ, hT_pJ, hS_pJ, hK_wI, hL_wI, hI_wI, hR_wI, hJ_wI, hT_wI, hS_wI, eq_self, and_true, true_and, and_false, false_and, or_true, true_or, or_false, false_or, if_true, if_false, not_true_eq_false, not_false_eq_true, forall_const, implies_true, false_implies, true_implies, Option.some.injEq, forall_eq', exists_eq_left', reduceCtorEq, Nat.reduceEqDiff, c1, T_X12_in, T_X12_ones, T_X11_within, T_X11_bit, T_X11_isIn, T_X11_oneIfIn, T_J6_bitCount_0f7a4, e127, cd, cn, b2i_0, h25, hlt8, cH, cl_nI (show H < 2147483648 by omega), in_nI (show H < 8 by omega) (by decide), nI_1, em, Nat.reduceEqDiff]
      exact hq
    · have hm2 : LayM (pI (pI (pI h 26 H d) 27 H n) 25 0 (nI (H + 1))) := ((hm.pI _ _ _).pI _ _ _).pI _ _ _
      have e64 : hI (pI (pI (pI h 26 H d) 27 H n) 25 0 (nI (H + 1))) 64 0 = nI H := by rw [hI_pI, if_neg (by omega), hI_pI, if_neg (by omega), hI_pI, if_neg (by omega)]; exact h64
      have hq2 : Q (some (.int (nI H))) (pI (pI (pI (pI (pI (pI (pI (pI (pI h 26 H d) 27 H n) 25 0 (nI (H + 1))) 44 0 0) 64 0 (nI (H + 1))) 65 H d) 66 H n) 67 H 0) 68 H 0) := hq
      unfold T_X12_helper
      generalize pI (pI (pI h 26 H d) 27 H n) 25 0 (nI (H + 1)) = X at hm2 e64 hq2 ⊢
      have hl := hm2
      simp only [b_X12_helper_0, hl, lay_pI, lay_wI, lay_pJ, lm_t hl, lm_k hl, lm_r hl, lm_l hl, i_push, i_ild, i_ald, i_ist, i_ast, i_inc, i_bin, i_un, i_divs, i_i2l, i_lshl, i_lor, i_dup, i_dup2, i_pop, i_if, i_cmp, i_nul, i_vret, i_iret, i_zret, i_aret, i_keep, keep, lget, lset, ent, i_getI, i_getJ, i_getR, i_getN, i_putI, i_putZ, i_putJ, i_putR, i_iald, i_bald, i_alen, i_aald, i_iast, i_bast, i_aast, i_new, i_newa, i_anew, i_oini, i_callS, i_callV, i_callI, popn, sh4, i_sw, swP, i_copy, i_binS, List.map, Option.toList_none, Option.toList_some, List.append, List.nil_append, List.cons_append, List.length_cons, List.length_nil, List.replicate, Nat.sub_self, Nat.reduceSub, Nat.reduceAdd, hK_pX, hL_pX, hI_pX, hR_pX, hJ_pX, hT_pX, hS_pX, hK_pR, hL_pR, hI_pR, hR_pR, hJ_pR, hT_pR, hS_pR, hK_pJ, hL_pJ, hI_pJ, hR_pJ, hJ_pJ, hT_pJ, hS_pJ, hK_wI, hL_wI, hI_wI, hR_wI, hJ_wI, hT_wI, hS_wI, eq_self, and_true, true_and, and_false, false_and, or_true, true_or, or_false, false_or, if_true, if_false, not_true_eq_false, not_false_eq_true, forall_const, implies_true, false_implies, true_implies, Option.some.injEq, forall_eq', exists_eq_left', reduceCtorEq, Nat.reduceEqDiff, c1, T_X12_in, T_X12_ones, T_X11_within, T_X11_bit, T_X11_isIn, T_X11_oneIfIn, T_J6_bitCount_0f7a4, in0 4 (by decide) (by decide), cl0, e64, hH8, cH8, cd, cn, b2i_0, cl_nI (show H < 2147483648 by omega), in_nI (show H < 32 by omega) (by decide), nI_1]
      exact hq2
    · generalize hlpH h H d n = h2 at s2 o r44 rr ⊢
      have oo : ∀ a, 45 ≤ a → ¬ (64 ≤ a ∧ a ≤ 68) → hI h2 a = hI h a := fun a n1 n2 => o a (by omega) (by omega) (by omega) (by omega) n2
      refine hc.now hs s2 (fun a ha => o a (by omega) (by omega) (by omega) (by omega) (by omega)) r44 (fun a j b1 b2 bs => ?_) (fun a b1 b2 => oo a (by omega) (by omega)) (RmC_k (fun a b1 b2 => oo a (by omega) (by omega)) (RmC_c (fun i hi => o _ (by omega) (by omega) (by omega) (by omega) (by omega)) a4)) (PC_k (fun a b1 b2 => oo a (by omega) (by omega)) (PC_c (fun i i1 i2 => o _ (by omega) (by omega) (by omega) (by omega) (by omega)) a5)) ((congrFun (o 16 (by decide) (by decide) (by decide) (by decide) (by decide)) 1).trans a6) (H' := H + 1) ?_ (JP_k (oo 57 (by decide) (by decide)) (oo 60 (by decide) (by decide)) (oo 62 (by decide) (by decide)) (oo 63 (by decide) (by decide)) a9) (fun e n Rn _ _ hw => LtW_k (oo 60 (by decide) (by decide)) (oo 77 (by decide) (by decide)) (oo 78 (by decide) (by decide)) (oo 79 (by decide) (by decide)) hw)
      · by_cases e : 64 ≤ a ∧ a ≤ 68
        · have e5 : a = 64 ∨ a = 65 ∨ a = 66 ∨ a = 67 ∨ a = 68 := by omega
          have z64 : szA 64 = 1 := rfl
          have z65 : szA 65 = 8 := rfl
          have z66 : szA 66 = 8 := rfl
          have z67 : szA 67 = 8 := rfl
          have z68 : szA 68 = 8 := rfl
          obtain ⟨_, _, _, g1, g2, g3, g4, g5⟩ := rr j
          rcases e5 with rfl | rfl | rfl | rfl | rfl
          · rw [g1, if_neg (by omega)]
          · rw [g2, if_neg (by omega)]
          · rw [g3, if_neg (by omega)]
          · rw [g4, if_neg (by omega)]
          · rw [g5, if_neg (by omega)]
        · exact congrFun (oo a (by omega) e) j
      · obtain ⟨b1, b2, b3, b4, b5⟩ := a7
        have o28 := o 28 (by decide) (by decide) (by decide) (by decide) (by decide)
        have o29 := o 29 (by decide) (by decide) (by decide) (by decide) (by decide)
        unfold HlC
        simp only [Nat.reduceAdd] at b2 b4 b5 ⊢
        refine ⟨by omega, (rr 0).1.trans (if_pos rfl), (rr 0).2.2.2.1.trans (if_pos rfl), fun x hx => ?_, fun x hx hx8 => ?_⟩
        · obtain ⟨_, g26, g27, _, g65, g66, g67, g68⟩ := rr x
          rw [g26, g27, g65, g66, g67, g68, o28, o29]
          by_cases e : x = H
          · obtain ⟨f1', f2'⟩ := b5 x (by omega) (by omega)
            rw [if_pos e, if_pos e, if_pos e, if_pos e, if_pos e, if_pos e]
            exact ⟨rfl, rfl, f1', f2', nv', 0, by omega, by omega, en, rfl⟩
          · rw [if_neg e, if_neg e, if_neg e, if_neg e, if_neg e, if_neg e]
            exact b4 x (by omega)
        · rw [o28, o29]; exact b5 x (by omega) hx8
  · refine rd (-1) hc (fun Q hq => ok_X11_helper _ _ _ ?_) (fun Q hq => ok_X12_helper _ _ _ ?_)
    · unfold T_X11_helper
      simp only [b_X11_helper_0, T_X0_add, b_X0_add_0, lx_pI, lx_wI, lx_t hl, lx_k hl, lx_r hl, lx_l hl, i_push, i_ild, i_ald, i_ist, i_ast, i_inc, i_bin, i_un, i_divs, i_i2l, i_lshl, i_lor, i_dup, i_dup2, i_pop, i_if, i_cmp, i_nul, i_vret, i_iret, i_zret, i_aret, i_keep, keep, lget, lset, ent, i_getI, i_getJ, i_getR, i_getN, i_putI, i_putZ, i_putJ, i_putR, i_iald, i_bald, i_alen, i_aald, i_iast, i_bast, i_aast, i_new, i_newa, i_anew, i_oini, i_callS, i_callV, i_callI, popn, sh4, i_sw, swP, i_copy, i_binS, List.map, Option.toList_none, Option.toList_some, List.append, List.nil_append, List.cons_append, List.length_cons, List.length_nil, List.replicate, Nat.sub_self, Nat.reduceSub, Nat.reduceAdd, hK_pX, hL_pX, hI_pX, hR_pX, hJ_pX, hT_pX, hS_pX, hK_pR, hL_pR, hI_pR, hR_pR, hJ_pR, hT_pR, hS_pR, hK_pJ, hL_pJ, hI_pJ, hR_pJ, hJ_pJ, hT_pJ, hS_pJ, hK_wI, hL_wI, hI_wI, hR_wI, hJ_wI, hT_wI, hS_wI, eq_self, and_true, true_and, and_false, false_and, or_true, true_or, or_false, false_or, if_true, if_false, not_true_eq_false, not_false_eq_true, forall_const, implies_true, false_implies, true_implies, Option.some.injEq, forall_eq', exists_eq_left', reduceCtorEq, Nat.reduceEqDiff, c1, T_X12_in, T_X12_ones, T_X11_within, T_X11_bit, T_X11_isIn, T_X11_oneIfIn, T_J6_bitCount_0f7a4, e127, b2i_0, h25, hlt8]
      refine ⟨fun _ => hq, fun z1 => ⟨fun _ => hq, fun z2 => ⟨fun z3 => absurd ⟨⟨z3, Classical.not_not.mp z1⟩, Classical.not_not.mp z2⟩ c, fun _ => hq⟩⟩⟩
    · have hl := hm
      unfold T_X12_helper
      simp only [b_X12_helper_0, hl, lay_pI, lay_wI, lay_pJ, lm_t hl, lm_k hl, lm_r hl, lm_l hl, i_push, i_ild, i_ald, i_ist, i_ast, i_inc, i_bin, i_un, i_divs, i_i2l, i_lshl, i_lor, i_dup, i_dup2, i_pop, i_if, i_cmp, i_nul, i_vret, i_iret, i_zret, i_aret, i_keep, keep, lget, lset, ent, i_getI, i_getJ, i_getR, i_getN, i_putI, i_putZ, i_putJ, i_putR, i_iald, i_bald, i_alen, i_aald, i_iast, i_bast, i_aast, i_new, i_newa, i_anew, i_oini, i_callS, i_callV, i_callI, popn, sh4, i_sw, swP, i_copy, i_binS, List.map, Option.toList_none, Option.toList_some, List.append, List.nil_append, List.cons_append, List.length_cons, List.length_nil, List.replicate, Nat.sub_self, Nat.reduceSub, Nat.reduceAdd, hK_pX, hL_pX, hI_pX, hR_pX, hJ_pX, hT_pX, hS_pX, hK_pR, hL_pR, hI_pR, hR_pR, hJ_pR, hT_pR, hS_pR, hK_pJ, hL_pJ, hI_pJ, hR_pJ, hJ_pJ, hT_pJ, hS_pJ, hK_wI, hL_wI, hI_wI, hR_wI, hJ_wI, hT_wI, hS_wI, eq_self, and_true, true_and, and_false, false_and, or_true, true_or, or_false, false_or, if_true, if_false, not_true_eq_false, not_false_eq_true, forall_const, implies_true, false_implies, true_implies, Option.some.injEq, forall_eq', exists_eq_left', reduceCtorEq, Nat.reduceEqDiff, c1, T_X12_in, T_X12_ones, T_X11_within, T_X11_bit, T_X11_isIn, T_X11_oneIfIn, T_J6_bitCount_0f7a4, in0 4 (by decide) (by decide), cl0, h64, hH8, b2i_0]
      refine ⟨fun _ => hq, fun z0 => ⟨fun _ => hq, fun z1 => ⟨fun _ => hq, fun z2 => absurd ⟨⟨by omega, Classical.not_not.mp z1⟩, Classical.not_not.mp z2⟩ c⟩⟩⟩
