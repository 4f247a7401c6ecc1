/-! ===== the class: an evening begins ===== -/
def niA (h : Hp) (n : Nat) : Hp := pR (pR (nC (pR (nC h 14 10) n 9 (some (n + 1))) 14 24) n 10 (some (n + 2))) n 0 (hR h 3 4)
def niB (h : Hp) (n R E : Nat) (door cold : Int32) : Hp := pR (nC (pI (pI (pI (niA h n) n 1 (nI E)) n 2 door) n 3 cold) 14 R) n 11 (some (n + 3))
def niH (h : Hp) (n R E : Nat) (door cold : Int32) : Hp := wI (niB h n R E door cold) (flM (hI (niB h n R E door cold)) (n + 2) (-1) 24)
theorem LayX.nC {h : Hp} (hl : LayX h) (k m : Nat) : LayX (nC h k m) := by
  obtain ⟨a, b, c, d⟩ := hl
  have e : ∀ x, x < 90 → ¬ x = hT h := fun x hx => by omega
  refine ⟨by rw [hT_nC]; omega, ?_, ?_, ?_⟩
  · simp only [hK_nC, e _ (show 0 < 90 by decide), e _ (show 1 < 90 by decide), e _ (show 2 < 90 by decide), e _ (show 3 < 90 by decide), e _ (show 12 < 90 by decide), e _ (show 13 < 90 by decide), e _ (show 14 < 90 by decide), e _ (show 15 < 90 by decide), e _ (show 16 < 90 by decide), e _ (show 17 < 90 by decide), e _ (show 18 < 90 by decide), e _ (show 19 < 90 by decide), e _ (show 20 < 90 by decide), e _ (show 21 < 90 by decide), e _ (show 22 < 90 by decide), e _ (show 23 < 90 by decide), e _ (show 24 < 90 by decide), e _ (show 25 < 90 by decide), e _ (show 26 < 90 by decide), e _ (show 27 < 90 by decide), e _ (show 28 < 90 by decide), e _ (show 29 < 90 by decide), e _ (show 30 < 90 by decide), e _ (show 31 < 90 by decide), e _ (show 33 < 90 by decide), e _ (show 34 < 90 by decide), e _ (show 35 < 90 by decide), e _ (show 36 < 90 by decide), e _ (show 37 < 90 by decide), e _ (show 38 < 90 by decide), e _ (show 39 < 90 by decide), e _ (show 40 < 90 by decide), e _ (show 41 < 90 by decide), e _ (show 42 < 90 by decide), e _ (show 43 < 90 by decide), e _ (show 32 < 90 by decide), if_false]
    exact b
  · simp only [hR_nC, e _ (show 0 < 90 by decide), e _ (show 1 < 90 by decide), e _ (show 3 < 90 by decide), e _ (show 12 < 90 by decide), e _ (show 16 < 90 by decide), e _ (show 25 < 90 by decide), e _ (show 31 < 90 by decide), e _ (show 33 < 90 by decide), if_false]
    exact c
  · simp only [hL_nC, e _ (show 2 < 90 by decide), e _ (show 13 < 90 by decide), e _ (show 14 < 90 by decide), e _ (show 15 < 90 by decide), e _ (show 17 < 90 by decide), e _ (show 18 < 90 by decide), e _ (show 19 < 90 by decide), e _ (show 20 < 90 by decide), e _ (show 21 < 90 by decide), e _ (show 22 < 90 by decide), e _ (show 23 < 90 by decide), e _ (show 24 < 90 by decide), e _ (show 26 < 90 by decide), e _ (show 27 < 90 by decide), e _ (show 28 < 90 by decide), e _ (show 29 < 90 by decide), e _ (show 30 < 90 by decide), e _ (show 34 < 90 by decide), e _ (show 35 < 90 by decide), e _ (show 36 < 90 by decide), e _ (show 37 < 90 by decide), e _ (show 38 < 90 by decide), e _ (show 39 < 90 by decide), e _ (show 40 < 90 by decide), e _ (show 41 < 90 by decide), e _ (show 42 < 90 by decide), e _ (show 43 < 90 by decide), e _ (show 32 < 90 by decide), if_false]
    exact d
theorem LayX.pRb {h : Hp} (hl : LayX h) {n : Nat} (hn : 90 ≤ n) (j : Nat) (v : Option Nat) : LayX (pR h n j v) := by
  obtain ⟨a, b, c, d⟩ := hl
  refine ⟨a, b, ?_, d⟩
  have e : ∀ x, x < 90 → ¬ x = n := fun x hx => by omega
  simp only [hR_pR, e _ (show 0 < 90 by decide), e _ (show 1 < 90 by decide), e _ (show 3 < 90 by decide), e _ (show 12 < 90 by decide), e _ (show 16 < 90 by decide), e _ (show 25 < 90 by decide), e _ (show 31 < 90 by decide), e _ (show 33 < 90 by decide), false_and, if_false]
  exact c
theorem LtC_w {h h2 : Hp} {J : Mem} {E : Nat} (h1 : hR h2 3 4 = hR h 3 4) (hT2 : hT h ≤ hT h2) (hk : ∀ a, a < hT h → hK h2 a = hK h a) (hf : ∀ a i, hR h 3 4 = some a → hK h a = 1 → a < hT h → hI h2 a i = hI h a i) (hE : LtC h J E) : LtC h2 J E := by
  obtain ⟨a, b, c⟩ := hE
  refine ⟨a, fun z => by rw [h1]; exact b z, fun e he => ?_⟩
  obtain ⟨n, c1, c2, c3, c4, c5⟩ := c e he
  exact ⟨n, by rw [h1]; exact c1, by omega, by rw [hk n c2]; exact c3, (hf n 1 c1 c3 c2).trans c4, (hf n 4 c1 c3 c2).trans c5⟩
def T_X1_init : Tr := fun av h Q => match av with
  | [.ref n, .ref s, .int door, .int cold] => s = 3 ∧ LayX h ∧ n + 1 = hT h ∧ 90 ≤ n ∧ hK h n = 1 ∧ (cold = 0 ∨ cold = 1) ∧ ¬ hR h 3 4 = some n ∧ ∃ R J E, R ≤ 4 ∧ hI h 12 0 = nI R ∧ LtC h J E ∧ Q none (niH h n R E door cold)
  | _ => False
def L_X1_init : List UInt8 := [42, 183, 0, 3, 42, 16, 10, 188, 10, 181, 0, 9, 42, 16, 24, 188, 10, 181, 0, 15, 42, 43, 180, 0, 18, 181, 0, 24, 42, 43, 182, 0, 27, 181, 0, 31, 42, 28, 181, 0, 35, 42, 29, 181, 0, 38, 42, 43, 180, 0, 42, 180, 0, 46, 188, 10, 181, 0, 51, 42, 180, 0, 15, 2, 184, 0, 54, 177]
theorem Lc_X1_init : MX1_init.2.1 = ⟨L_X1_init.toArray⟩ := rfl
theorem D_X1_init_0 : dseq MX1_init.2.1 0 [(.aload_n 0, 1), (.invokespecial 3, 3), (.aload_n 0, 1), (.bipush 10, 2), (.newarray .int, 2), (.putfield 9, 3), (.aload_n 0, 1), (.bipush 24, 2), (.newarray .int, 2), (.putfield 15, 3), (.aload_n 0, 1), (.aload_n 1, 1), (.getfield 18, 3), (.putfield 24, 3), (.aload_n 0, 1), (.aload_n 1, 1), (.invokevirtual 27, 3), (.putfield 31, 3), (.aload_n 0, 1), (.iload_n 2, 1), (.putfield 35, 3), (.aload_n 0, 1), (.iload_n 3, 1), (.putfield 38, 3), (.aload_n 0, 1), (.aload_n 1, 1), (.getfield 42, 3), (.getfield 46, 3), (.newarray .int, 2), (.putfield 51, 3), (.aload_n 0, 1), (.getfield 15, 3), (.iconst (-1), 1), (.invokestatic 54, 3), (.return_, 1)] := dq Lc_X1_init 0 _ (by decide +kernel)
def c_X1_init_33 (Q : Option Value → Hp → Prop) : Kt := i_putI 1 1 (i_ald 0 (i_ild 2 (i_putI 1 2 (i_ald 0 (i_ild 3 (i_putZ 1 3 (i_ald 0 (i_ald 1 (i_getR 8 0 (i_getI 6 0 (i_newa 14 (i_putR 1 11 (i_ald 0 (i_getR 1 10 (i_push (.int (-1)) (i_callS 2 T_J7_fill_53178 (i_vret Q)))))))))))))))))
def b_X1_init_0 (Q : Option Value → Hp → Prop) : Kt := i_ald 0 (i_oini (i_ald 0 (i_push (.int 10) (i_newa 14 (i_putR 1 9 (i_ald 0 (i_push (.int 24) (i_newa 14 (i_putR 1 10 (i_ald 0 (i_ald 1 (i_getN 8 4 (i_putR 1 0 (i_ald 0 (i_ald 1 (i_callV 8 0 T_X8_evenings (c_X1_init_33 Q)))))))))))))))))
set_option maxRecDepth 100000 in
theorem s_X1_init_0 (Q : Option Value → Hp → Prop) : ∀ A st h, b_X1_init_0 Q A st h → wp 1 MX1_init Q 0 A st h := (q1 (s_aldn (n := 0) (i := 0) rfl) D_X1_init_0 fun D => (qO (s_oini (ch_3_10_ok.2.2.1.1 rfl) w_oi2 w_oi3) rfl (by decide) D fun D => (q1 (s_aldn (n := 0) (i := 0) rfl) D fun D => (q1 (s_bipush (n := 10) (v := 10) (by decide)) D fun D => (q1 na_int D fun D => (qP pl_X1_9 rfl (Or.inr rfl) D fun D => (q1 (s_aldn (n := 0) (i := 0) rfl) D fun D => (q1 (s_bipush (n := 24) (v := 24) (by decide)) D fun D => (q1 na_int D fun D => (qP pl_X1_15 rfl (Or.inr rfl) D fun D => (q1 (s_aldn (n := 0) (i := 0) rfl) D fun D => (q1 (s_aldn (n := 1) (i := 1) rfl) D fun D => (qC fl_X1_18 rfl D fun D => (qP pl_X1_24 rfl (Or.inr rfl) D fun D => (q1 (s_aldn (n := 0) (i := 0) rfl) D fun D => (q1 (s_aldn (n := 1) (i := 1) rfl) D fun D => (qX (s_callV kX8 rfl ok_X8_evenings mo_X8_evenings (ch_3_10_ok.2.2.2.1.1 rfl) (ch_3_9_ok.2.2.2.2.2.2.2.2.2.2.1.1 rfl) (ch_3_9_ok.2.2.2.2.2.2.2.2.2.2.2.1.1 rfl)) rfl (by decide) D fun D => (qP pl_X1_31 rfl (Or.inr rfl) D fun D => (q1 (s_aldn (n := 0) (i := 0) rfl) D fun D => (q1 (s_ildn (n := 2) (i := 2) rfl) D fun D => (qP pl_X1_35 rfl (Or.inr rfl) D fun D => (q1 (s_aldn (n := 0) (i := 0) rfl) D fun D => (q1 (s_ildn (n := 3) (i := 3) rfl) D fun D => (qP pl_X1_38 rfl (Or.inr rfl) D fun D => (q1 (s_aldn (n := 0) (i := 0) rfl) D fun D => (q1 (s_aldn (n := 1) (i := 1) rfl) D fun D => (qC fl_X1_42 rfl D fun D => (qC fl_X1_46 rfl D fun D => (q1 na_int D fun D => (qP pl_X1_51 rfl (Or.inr rfl) D fun D => (q1 (s_aldn (n := 0) (i := 0) rfl) D fun D => (qC fl_X1_15 rfl D fun D => (q1 (s_iconst (n := (-1)) (v := (-1)) (by decide)) D fun D => (qX (s_callS ok_J7_fill_53178 mo_J7_fill_53178 (ch_3_10_ok.2.2.2.2.1.1 rfl) (ch_3_10_ok.2.2.2.2.2.1.1 rfl)) rfl (by decide) D fun D => (qV rfl D)))))))))))))))))))))))))))))))))))

set_option maxRecDepth 100000 in
set_option maxHeartbeats 400000 in
theorem ni_0 (Q : Option Value → Hp → Prop) (h : Hp) (n R E : Nat) (J : Mem) (door cold : Int32) (hl : LayX h) (hn1 : n + 1 = hT h) (hn90 : 90 ≤ n) (hkn : hK h n = 1) (hc : cold = 0 ∨ cold = 1) (hnn : ¬ hR h 3 4 = some n) (hR4 : R ≤ 4) (h12 : hI h 12 0 = nI R) (hE : LtC h J E) (hq : Q none (niH h n R E door cold)) : b_X1_init_0 Q [some (.ref n), some (.ref 3), some (.int door), some (.int cold)] [] h := by
  have hX1 : LayX (nC h 14 10) := hl.nC _ _
  have hX2 : LayX (pR (nC h 14 10) n 9 (some (n + 1))) := hX1.pRb hn90 _ _
  have hX3 : LayX (nC (pR (nC h 14 10) n 9 (some (n + 1))) 14 24) := hX2.nC _ _
  have hX4 : LayX (pR (nC (pR (nC h 14 10) n 9 (some (n + 1))) 14 24) n 10 (some (n + 2))) := hX3.pRb hn90 _ _
  have hX5 : LayX (niA h n) := hX4.pRb hn90 _ _
  have n3 : ¬ 3 = hT h := by omega
  have n3' : ¬ 3 = hT h + 1 := by omega
  have n3n : ¬ 3 = n := by omega
  have nn : ¬ n = hT h := by omega
  have nn' : ¬ n = hT h + 1 := by omega
  have t1 : n < hT h + 1 := by omega
  have t2 : n < hT h + 1 + 1 := by omega
  have hA3 : hR (niA h n) 3 4 = hR h 3 4 := by
    simp only [niA, hR_pR, hR_nC, hT_pR, hT_nC, n3, n3', n3n, false_and, if_false]
  have hAE : LtC (niA h n) J E := LtC_w hA3 (show hT h ≤ hT h + 1 + 1 by omega) (fun a ha => by
    show hK (nC (pR (nC h 14 10) n 9 (some (n + 1))) 14 24) a = _
    rw [hK_nC, if_neg (by rw [hT_pR, hT_nC]; omega), hK_pR, hK_nC, if_neg (by omega)]) (fun a i _ _ ha => by
    show hI (nC (pR (nC h 14 10) n 9 (some (n + 1))) 14 24) a i = _
    rw [hI_nC, if_neg (by rw [hT_pR, hT_nC]; omega), hI_pR, hI_nC, if_neg (by omega)]) hE
  have hAT : hT (niA h n) = n + 3 := by show hT h + 1 + 1 = _; omega
  have hAK : hK (niA h n) n = 1 := by
    show hK (nC (pR (nC h 14 10) n 9 (some (n + 1))) 14 24) n = _
    rw [hK_nC, if_neg (by rw [hT_pR, hT_nC]; omega), hK_pR, hK_nC, if_neg (by omega)]; exact hkn
  have hA12 : hI (niA h n) 12 0 = nI R := by
    show hI (nC (pR (nC h 14 10) n 9 (some (n + 1))) 14 24) 12 0 = _
    rw [hI_nC, if_neg (by rw [hT_pR, hT_nC]; omega), hI_pR, hI_nC, if_neg (by omega)]; exact h12
  have hAr : hR (niA h n) n 10 = some (n + 2) := by
    simp only [niA, hR_pR, true_and, Nat.reduceEqDiff, if_false, if_true, eq_self]
  have hAk2 : hK (niA h n) (n + 2) = 14 := by
    show hK (nC (pR (nC h 14 10) n 9 (some (n + 1))) 14 24) (n + 2) = _
    rw [hK_nC, if_pos (by rw [hT_pR, hT_nC]; omega)]
  have hAl2 : hL (niA h n) (n + 2) = 24 := by
    show hL (nC (pR (nC h 14 10) n 9 (some (n + 1))) 14 24) (n + 2) = _
    rw [hL_nC, if_pos (by rw [hT_pR, hT_nC]; omega)]
  have h33 : c_X1_init_33 Q [some (.ref n), some (.ref 3), some (.int door), some (.int cold)] [.int (nI E), .ref n] (niA h n) := by
    have hqq : Q none (wI (pR (nC (pI (pI (pI (niA h n) n 1 (nI E)) n 2 door) n 3 cold) 14 R) n 11 (some (n + 3))) (flM (hI (pR (nC (pI (pI (pI (niA h n) n 1 (nI E)) n 2 door) n 3 cold) 14 R) n 11 (some (n + 3)))) (n + 2) (-1) 24)) := hq
    generalize niA h n = X at hX5 hAT hAK hA12 hAr hAk2 hAl2 hqq ⊢
    have hl := hX5
    have m1 : ¬ n = n + 3 := by omega
    have m2 : ¬ n + 2 = n + 3 := by omega
    have m3 : n < n + 3 := by omega
    have m4 : n < n + 3 + 1 := by omega
    have m5 : n + 2 < n + 3 + 1 := by omega
    have m6 : ¬ 12 = n := by omega
    have m7 : 3 < n + 3 := by omega
    have m8 : 12 < n + 3 := by omega
    simp only [c_X1_init_33, T_J7_fill_53178, lx_pI, lx_wI, lx_t hl, lx_k hl, lx_r hl, lx_l hl, i_push, i_ild, i_ald, i_ist, i_ast, i_inc, i_bin, i_un, i_divs, i_i2l, i_lshl, i_lor, i_dup, i_dup2, i_pop, i_if, i_cmp, i_nul, i_vret, i_iret, i_zret, i_aret, i_keep, keep, lget, lset, ent, i_getI, i_getJ, i_getR, i_getN, i_putI, i_putZ, i_putJ, i_putR, i_iald, i_bald, i_alen, i_aald, i_iast, i_bast, i_aast, i_new, i_newa, i_anew, i_oini, i_callS, i_callV, i_callI, popn, sh4, i_sw, swP, i_copy, i_binS, List.map, Option.toList_none, Option.toList_some, List.append, List.nil_append, List.cons_append, List.length_cons, List.length_nil, List.replicate, Nat.sub_self, Nat.reduceSub, Nat.reduceAdd, hK_pI, hL_pI, hI_pI, hR_pI, hJ_pI, hT_pI, hS_pI, hK_pR, hL_pR, hI_pR, hR_pR, hJ_pR, hT_pR, hS_pR, hK_pJ, hL_pJ, hI_pJ, hR_pJ, hJ_pJ, hT_pJ, hS_pJ, hK_wI, hL_wI, hI_wI, hR_wI, hJ_wI, hT_wI, hS_wI, eq_self, and_true, true_and, and_false, false_and, or_true, true_or, or_false, false_or, if_true, if_false, not_true_eq_false, not_false_eq_true, forall_const, implies_true, false_implies, true_implies, Option.some.injEq, forall_eq', exists_eq_left', reduceCtorEq, Nat.reduceEqDiff, c1, T_X12_in, T_X12_ones, T_X11_within, T_X11_bit, T_X11_isIn, T_X11_oneIfIn, T_J6_bitCount_0f7a4, hT_nC, hK_nC, hL_nC, hR_nC, hAT, hAK, hA12, hAr, hAk2, hAl2, m1, m2, m3, m4, m5, m6, m7, m8, hc, cl_nI (show R < 2147483648 by omega), nI_pos (show R < 2147483648 by omega), show R ≤ 100000 by omega]
    exact ⟨by decide, hqq⟩
  have hev := eve_go (niA h n) hX5 J E hAE (fun r h' => c_X1_init_33 Q [some (.ref n), some (.ref 3), some (.int door), some (.int cold)] (r.toList ++ [.ref n]) h') h33
  have e10 : (10 : Int32).toNatClampNeg = 10 := by decide
  have e24 : (24 : Int32).toNatClampNeg = 24 := by decide
  have l10 : ¬ (10 : Int32) < 0 := by decide
  have l24 : ¬ (24 : Int32) < 0 := by decide
  have hTn : hT h = n + 1 := hn1.symm
  have q1 : ¬ n = n + 1 := by omega
  have q2 : ¬ n = n + 1 + 1 := by omega
  have q3 : ¬ 3 = n + 1 := by omega
  have q4 : ¬ 3 = n + 1 + 1 := by omega
  have q5 : n < n + 1 + 1 := by omega
  have q6 : n < n + 1 + 1 + 1 := by omega
  have q7 : 3 < n + 1 + 1 + 1 := by omega
  simp only [b_X1_init_0, lx_pI, lx_wI, lx_t hl, lx_k hl, lx_r hl, lx_l hl, i_push, i_ild, i_ald, i_ist, i_ast, i_inc, i_bin, i_un, i_divs, i_i2l, i_lshl, i_lor, i_dup, i_dup2, i_pop, i_if, i_cmp, i_nul, i_vret, i_iret, i_zret, i_aret, i_keep, keep, lget, lset, ent, i_getI, i_getJ, i_getR, i_getN, i_putI, i_putZ, i_putJ, i_putR, i_iald, i_bald, i_alen, i_aald, i_iast, i_bast, i_aast, i_new, i_newa, i_anew, i_oini, i_callS, i_callV, i_callI, popn, sh4, i_sw, swP, i_copy, i_binS, List.map, Option.toList_none, Option.toList_some, List.append, List.nil_append, List.cons_append, List.length_cons, List.length_nil, List.replicate, Nat.sub_self, Nat.reduceSub, Nat.reduceAdd, hK_pI, hL_pI, hI_pI, hR_pI, hJ_pI, hT_pI, hS_pI, hK_pR, hL_pR, hI_pR, hR_pR, hJ_pR, hT_pR, hS_pR, hK_pJ, hL_pJ, hI_pJ, hR_pJ, hJ_pJ, hT_pJ, hS_pJ, hK_wI, hL_wI, hI_wI, hR_wI, hJ_wI, hT_wI, hS_wI, eq_self, and_true, true_and, and_false, false_and, or_true, true_or, or_false, false_or, if_true, if_false, not_true_eq_false, not_false_eq_true, forall_const, implies_true, false_implies, true_implies, Option.some.injEq, forall_eq', exists_eq_left', reduceCtorEq, Nat.reduceEqDiff, c1, T_X12_in, T_X12_ones, T_X11_within, T_X11_bit, T_X11_isIn, T_X11_oneIfIn, T_J6_bitCount_0f7a4, hT_nC, hK_nC, hL_nC, hR_nC, hTn, e10, e24, l10, l24, q1, q2, q3, q4, q5, q6, q7, n3n, hkn]
  unfold niA at hev
  refine ⟨by decide, by decide, by decide, fun b hb => ?_, fun hb => ?_⟩
  · rw [hb] at hev; exact hev
  · rw [hb] at hev; exact hev

set_option maxRecDepth 100000 in
set_option maxHeartbeats 4000000 in
theorem ok_X1_init : ctr 1 MX1_init T_X1_init := by
  refine ctr_of pn_X1 wc_X1_init (fun av h Q hT => ?_)
  unfold T_X1_init at hT
  split at hT
  · rename_i n s door cold
    refine ⟨⟨by simp [Value.category], Nat.le_of_ble_eq_true rfl⟩, s_X1_init_0 Q _ _ _ ?_⟩
    obtain ⟨rfl, hl, hn1, hn90, hkn, hc, hnn, R, J, E, hR4, h12, hE, hq⟩ := hT
    exact ni_0 Q h n R E J door cold hl hn1 hn90 hkn hc hnn hR4 h12 hE hq
  · exact hT.elim
