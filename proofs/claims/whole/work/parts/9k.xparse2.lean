/-! ===== the class: a LINE, the text ===== -/
/-- a line begins on both sides -/
theorem PEd.begin {f0 f M : Mem} {y q N k s : Nat} (hs : PEd f0 f M y q N k s) : PSt f0 f (u2 M 80 (lI k) 0) y q N k 0 s := by
  obtain ⟨p1, p2, p3, p4, p5, p6, p7⟩ := hs
  have Mo : ∀ a j, ¬ (a = 80 ∧ j = lI k) → u2 M 80 (lI k) 0 a j = M a j := fun a j h => u2_ne h
  have hlk : ∀ l, l < k → l < 16 → l ≠ lI k := fun l h1 h2 => by unfold lI; split <;> omega
  refine ⟨p1, p2, p3, ?_, fun k16 => ⟨?_, ?_, fun t ht => ?_⟩, fun l hl hl16 => ?_, fun l hl hl16 => p6 l (by omega) hl16, p7⟩
  · rw [Mo 44 45 (by omega)]; exact p4
  · exact p6 k (Nat.le_refl _) k16
  · have e : lI k = k := if_pos k16
    rw [e, u2_eq]; rfl
  · exact absurd ht (by unfold cap4; rw [if_pos (by decide)]; omega)
  · have := hlk l hl hl16
    exact LnC_c rfl rfl rfl (fun _ _ _ _ _ => rfl) (Mo _ _ (by omega)) (Mo _ _ (by omega)) (Mo _ _ (by omega)) (fun a t t4 a1 a2 => Mo _ _ (by omega)) (p5 l hl hl16)
theorem PEd.many {f0 f M : Mem} {y q N k s : Nat} (hy : y + 1 = q) (hs : PEd f0 f M y q N k s) (hm : f y 2 = -1) (v : Int32) : PEd f0 (u2 f y 2 v) (pMany M v) y q N k s := by
  obtain ⟨p1, p2, p3, p4, p5, p6, p7⟩ := hs
  have hM : pMany M v = u2 M 44 45 v := if_pos (by rw [← p4]; exact hm)
  rw [hM]
  have go : ∀ a j, ¬ (a = y ∧ j = 2) → u2 f y 2 v a j = f a j := fun a j h => u2_ne h
  have Mo : ∀ a j, a ≠ 44 → u2 M 44 45 v a j = M a j := fun a j h => u2_ne (fun z => h z.1)
  refine ⟨⟨fun a j a1 a2 => ?_, fun j j1 j2 => ?_⟩, ?_, p3, ?_, fun l hl hl16 => ?_, fun l hl hl16 => ?_, ?_⟩
  · rw [go a j (by omega)]; exact p1.1 a j a1 a2
  · rw [go y j (by omega)]; exact p1.2 j j1 j2
  · rw [go y 1 (by omega)]; exact p2
  · rw [u2_eq, u2_eq]
  · exact LnC_c (go _ _ (by omega)) (go _ _ (by omega)) (go _ _ (by omega)) (fun i t t4 i1 i2 => go _ _ (by omega)) (Mo _ _ (by decide)) (Mo _ _ (by decide)) (Mo _ _ (by decide)) (fun a t t4 a1 a2 => Mo _ _ (by omega)) (p5 l hl hl16)
  · rw [go _ _ (by omega)]; exact p6 l hl hl16
  · rw [go _ _ (by omega)]; exact p7
theorem PEd.step {f0 f M : Mem} {y q N k s : Nat} (hy : y + 1 = q) (hs : PEd f0 f M y q N k s) {s2 : Nat} (h2 : s2 ≤ N) (v : Int32) : PEd f0 (u2 f y 1 (nI s2)) (u2 M 44 46 v) y q N k s2 := by
  obtain ⟨p1, p2, p3, p4, p5, p6, p7⟩ := hs
  have go : ∀ a j, ¬ (a = y ∧ j = 1) → u2 f y 1 (nI s2) a j = f a j := fun a j h => u2_ne h
  have Mo : ∀ a j, ¬ (a = 44 ∧ j = 46) → u2 M 44 46 v a j = M a j := fun a j h => u2_ne h
  refine ⟨p1.at _, u2_eq, h2, ?_, fun l hl hl16 => ?_, fun l hl hl16 => ?_, ?_⟩
  · rw [go y 2 (by omega), Mo 44 45 (by omega)]; exact p4
  · exact LnC_c (go _ _ (by omega)) (go _ _ (by omega)) (go _ _ (by omega)) (fun i t t4 i1 i2 => go _ _ (by omega)) (Mo _ _ (by omega)) (Mo _ _ (by omega)) (Mo _ _ (by omega)) (fun a t t4 a1 a2 => Mo _ _ (by omega)) (p5 l hl hl16)
  · rw [go _ _ (by omega)]; exact p6 l hl hl16
  · rw [go _ _ (by omega)]; exact p7
def T_X2_readLine : Tr := fun av h Q => match av with
  | [.ref y, .int x] => ∃ q z B L N f0 M k s, PEn h y q z B L N f0 ∧ x = nI k ∧ k ≤ 1000 ∧ PEd f0 (hI h) M y q N k s ∧ (16 < k → ¬ M 44 45 = -1) ∧ (∀ f', (pL B L k M s).1 = true → PEd f0 f' (pL B L k M s).2.1 y q N (k + 1) (pL B L k M s).2.2 → Q (some (.int 1)) (wI h f')) ∧ (∀ f', (pL B L k M s).1 = false → PO f0 f' y q → f' y 1 = nI (pL B L k M s).2.2 → (pL B L k M s).2.2 ≤ N → Q (some (.int 0)) (wI h f'))
  | _ => False
def L_X2_readLine : List UInt8 := [42, 27, 16, 16, 182, 0, 49, 42, 17, 1, 0, 182, 0, 53, 153, 0, 13, 42, 27, 182, 0, 56, 154, 0, 5, 3, 172, 42, 27, 182, 0, 59, 153, 0, 16, 42, 16, 59, 182, 0, 53, 153, 0, 7, 4, 167, 0, 4, 3, 172]
theorem Lc_X2_readLine : MX2_readLine.2.1 = ⟨L_X2_readLine.toArray⟩ := rfl
theorem D_X2_readLine_0 : dseq MX2_readLine.2.1 0 [(.aload_n 0, 1), (.iload_n 1, 1), (.bipush 16, 2), (.invokevirtual 49, 3), (.aload_n 0, 1), (.sipush 256, 3), (.invokevirtual 53, 3), (.ifCond .eq 13, 3), (.aload_n 0, 1), (.iload_n 1, 1), (.invokevirtual 56, 3), (.ifCond .ne 5, 3), (.iconst 0, 1), (.ireturn, 1)] := dq Lc_X2_readLine 0 _ (by decide +kernel)
theorem D_X2_readLine_27 : dseq MX2_readLine.2.1 27 [(.aload_n 0, 1), (.iload_n 1, 1), (.invokevirtual 59, 3), (.ifCond .eq 16, 3), (.aload_n 0, 1), (.bipush 59, 2), (.invokevirtual 53, 3), (.ifCond .eq 7, 3), (.iconst 1, 1), (.goto 4, 3)] := dq Lc_X2_readLine 27 _ (by decide +kernel)
theorem D_X2_readLine_48 : dseq MX2_readLine.2.1 48 [(.iconst 0, 1), (.ireturn, 1)] := dq Lc_X2_readLine 48 _ (by decide +kernel)
theorem D_X2_readLine_49 : dseq MX2_readLine.2.1 49 [(.ireturn, 1)] := dq Lc_X2_readLine 49 _ (by decide +kernel)
def c_X2_readLine_22 (Q : Option Value → Hp → Prop) : Kt := i_if (fun x => x = 0) (i_push (.int 0) (i_zret Q)) (i_keep [true, true] (wp 4 MX2_readLine Q 27))
def c_X2_readLine_14 (Q : Option Value → Hp → Prop) : Kt := i_if (fun x => x = 0) (i_keep [true, true] (wp 4 MX2_readLine Q 27)) (i_ald 0 (i_ild 1 (i_callV 2 1 T_X2_readTests (c_X2_readLine_22 Q))))
def c_X2_readLine_7 (Q : Option Value → Hp → Prop) : Kt := i_ald 0 (i_push (.int 256) (i_callV 2 1 T_X2_skip (c_X2_readLine_14 Q)))
def c_X2_readLine_41 (Q : Option Value → Hp → Prop) : Kt := i_if (fun x => x = 0) (i_push (.int 0) (i_zret Q)) (i_push (.int 1) (i_zret Q))
def c_X2_readLine_32 (Q : Option Value → Hp → Prop) : Kt := i_if (fun x => x = 0) (i_push (.int 0) (i_zret Q)) (i_ald 0 (i_push (.int 59) (i_callV 2 1 T_X2_skip (c_X2_readLine_41 Q))))
def b_X2_readLine_0 (Q : Option Value → Hp → Prop) : Kt := i_ald 0 (i_ild 1 (i_push (.int 16) (i_callV 2 2 T_X2_noteIfTooMany (c_X2_readLine_7 Q))))
set_option maxRecDepth 100000 in
theorem s_X2_readLine_0 (Q : Option Value → Hp → Prop) : ∀ A st h, b_X2_readLine_0 Q A st h → wp 4 MX2_readLine Q 0 A st h := (q1 (s_aldn (n := 0) (i := 0) rfl) D_X2_readLine_0 fun D => (q1 (s_ildn (n := 1) (i := 1) rfl) D fun D => (q1 (s_bipush (n := 16) (v := 16) (by decide)) D fun D => (qX (s_callV kX2 rfl ok_X2_noteIfTooMany mo_X2_noteIfTooMany (ch_3_3_ok.1.1 rfl) (ch_3_3_ok.2.2.1.1 rfl) (pv_0.2.2.2.2.2.2.2.2.2.2.1)) rfl (by decide) D fun D => (q1 (s_aldn (n := 0) (i := 0) rfl) D fun D => (q1 (s_sipush (n := 256) (v := 256) (by decide)) D fun D => (qX (s_callV kX2 rfl ok_X2_skip mo_X2_skip (ch_3_3_ok.2.2.2.2.1.1 rfl) (ch_3_3_ok.2.2.2.2.2.2.1.1 rfl) (pv_0.2.2.2.2.2.2.2.2.2.2.2.1)) rfl (by decide) D fun D => (qB s_ifeq 27 (by decide) D (s_keep [true, true] fun _ _ _ h => h) fun D => (q1 (s_aldn (n := 0) (i := 0) rfl) D fun D => (q1 (s_ildn (n := 1) (i := 1) rfl) D fun D => (qX (s_callV kX2 rfl ok_X2_readTests mo_X2_readTests (ch_3_3_ok.2.2.2.2.2.2.2.2.1.1 rfl) (ch_3_3_ok.2.2.2.2.2.2.2.2.2.2.1.1 rfl) (pv_0.2.2.2.2.2.2.2.2.2.2.2.2.1)) rfl (by decide) D fun D => (qBn s_ifne2 27 (by decide) D (s_keep [true, true] fun _ _ _ h => h) fun D => (q1 (s_iconst (n := 0) (v := 0) (by decide)) D fun D => (qZ rfl D))))))))))))))
def b_X2_readLine_27 (Q : Option Value → Hp → Prop) : Kt := i_ald 0 (i_ild 1 (i_callV 2 1 T_X2_readAct (c_X2_readLine_32 Q)))
set_option maxRecDepth 100000 in
theorem s_X2_readLine_27 (Q : Option Value → Hp → Prop) : ∀ A st h, b_X2_readLine_27 Q A st h → wp 4 MX2_readLine Q 27 A st h := (q1 (s_aldn (n := 0) (i := 0) rfl) D_X2_readLine_27 fun D => (q1 (s_ildn (n := 1) (i := 1) rfl) D fun D => (qX (s_callV kX2 rfl ok_X2_readAct mo_X2_readAct (ch_3_4_ok.2.2.2.2.1.1 rfl) (ch_3_4_ok.2.2.2.2.2.2.1.1 rfl) (pv_0.2.2.2.2.2.2.2.2.2.2.2.2.2.2.1)) rfl (by decide) D fun D => (qB s_ifeq 48 (by decide) D (q1 (s_iconst (n := 0) (v := 0) (by decide)) D_X2_readLine_48 fun D => (qZ rfl D)) fun D => (q1 (s_aldn (n := 0) (i := 0) rfl) D fun D => (q1 (s_bipush (n := 59) (v := 59) (by decide)) D fun D => (qX (s_callV kX2 rfl ok_X2_skip mo_X2_skip (ch_3_3_ok.2.2.2.2.1.1 rfl) (ch_3_3_ok.2.2.2.2.2.2.1.1 rfl) (pv_0.2.2.2.2.2.2.2.2.2.2.2.1)) rfl (by decide) D fun D => (qB s_ifeq 48 (by decide) D (q1 (s_iconst (n := 0) (v := 0) (by decide)) D_X2_readLine_48 fun D => (qZ rfl D)) fun D => (q1 (s_iconst (n := 1) (v := 1) (by decide)) D fun D => (qG 49 (by decide) D (qZ rfl D_X2_readLine_49)))))))))))

set_option maxRecDepth 100000 in
set_option maxHeartbeats 1000000 in
theorem xrl_27 (Q : Option Value → Hp → Prop) (h : Hp) (y q z : Nat) (B : Nat → Int32) (L N : Nat) (f0 f M : Mem) (k n s : Nat) (he : PEn h y q z B L N f0) (hk : k ≤ 1000) (hps : PSt f0 f M y q N k n s)
    (hq1 : ∀ f', (pA B L (lI k) k M s).1 = true → PEd f0 f' (pA B L (lI k) k M s).2.1 y q N (k + 1) (pA B L (lI k) k M s).2.2 → Q (some (.int 1)) (wI h f'))
    (hq0 : ∀ f', (pA B L (lI k) k M s).1 = false → PO f0 f' y q → f' y 1 = nI (pA B L (lI k) k M s).2.2 → (pA B L (lI k) k M s).2.2 ≤ N → Q (some (.int 0)) (wI h f')) : wp 4 MX2_readLine Q 27 [some (.ref y), some (.int (nI k))] [] (wI h f) := by
  obtain ⟨⟨a1, a2, a3, a4⟩, z90, ey, eq⟩ := he.f
  have b1 : ∀ g, y < hT (wI h g) := fun _ => a1
  have b2 : ∀ g, hK (wI h g) y = 2 := fun _ => a2
  rw [pA_rA] at hq1 hq0
  have hcall : T_X2_readAct [.ref y, .int (nI k)] (wI h f) (fun r h' => c_X2_readLine_32 Q [some (.ref y), some (.int (nI k))] (r.toList ++ []) h') := by
    refine ⟨q, z, B, L, N, f0, M, k, n, s, he, rfl, hk, hps, fun f' ht hpe => ?_, fun f' ht ho' h1' hN' => ?_⟩
    · rw [if_pos ht] at hq1 hq0
      have hsk : T_X2_skip [.ref y, .int 59] (wI h f') (fun r h' => c_X2_readLine_41 Q [some (.ref y), some (.int (nI k))] (r.toList ++ []) h') := by
        refine skip_go he hpe.1 hpe.2.2.1 hpe.2.1 (by decide) (fun e eN => ?_) (fun e => ?_)
        · have hE : pA.pE B L k (rA B L (lI k) M s).2.1 (rA B L (lI k) M s).2.2 = (true, u2 (rA B L (lI k) M s).2.1 44 46 (nI (k + 1)), (rA B L (lI k) M s).2.2 + 1) := if_pos e
          rw [hE] at hq1
          have hgo := hq1 _ rfl (hpe.step (by omega) eN (nI (k + 1)))
          show c_X2_readLine_41 Q _ [.int 1] (wI h (u2 f' y 1 (nI ((rA B L (lI k) M s).2.2 + 1))))
          generalize wI h (u2 f' y 1 (nI ((rA B L (lI k) M s).2.2 + 1))) = H at hgo ⊢
          simp only [c_X2_readLine_41, i_push, i_ild, i_ald, i_ist, i_ast, i_inc, i_bin, i_un, i_divs, i_i2l, i_lshl, i_lor, i_dup, i_dup2, i_pop, i_if, i_cmp, i_nul, i_vret, i_iret, i_zret, i_aret, i_keep, keep, lget, lset, ent, i_getI, i_getJ, i_getR, i_getN, i_putI, i_putZ, i_putJ, i_putR, i_iald, i_bald, i_alen, i_aald, i_iast, i_bast, i_aast, i_new, i_newa, i_anew, i_oini, i_callS, i_callV, i_callI, popn, sh4, i_sw, swP, i_copy, i_binS, List.map, Option.toList_none, Option.toList_some, List.append, List.nil_append, List.cons_append, List.length_cons, List.length_nil, List.replicate, Nat.sub_self, Nat.reduceSub, Nat.reduceAdd, hK_pI, hL_pI, hI_pI, hR_pI, hJ_pI, hT_pI, hS_pI, hK_pR, hL_pR, hI_pR, hR_pR, hJ_pR, hT_pR, hS_pR, hK_pJ, hL_pJ, hI_pJ, hR_pJ, hJ_pJ, hT_pJ, hS_pJ, hK_wI, hL_wI, hI_wI, hR_wI, hJ_wI, hT_wI, hS_wI, eq_self, and_true, true_and, and_false, false_and, or_true, true_or, or_false, false_or, if_true, if_false, not_true_eq_false, not_false_eq_true, forall_const, implies_true, false_implies, true_implies, Option.some.injEq, forall_eq', exists_eq_left', reduceCtorEq, Nat.reduceEqDiff, c1, T_X12_in, T_X12_ones, T_X11_within, T_X11_bit, T_X11_isIn, T_X11_oneIfIn, T_J6_bitCount_0f7a4, show ¬ (1 : Int32) = 0 by decide]
          exact hgo
        · have hE : pA.pE B L k (rA B L (lI k) M s).2.1 (rA B L (lI k) M s).2.2 = (false, pFail (u2 (rA B L (lI k) M s).2.1 44 46 (nI (k + 1))) (nI (bgT B L (rA B L (lI k) M s).2.2)), (rA B L (lI k) M s).2.2) := if_neg e
          rw [hE] at hq0
          have hgo := hq0 f' rfl hpe.1 hpe.2.1 hpe.2.2.1
          show c_X2_readLine_41 Q _ [.int 0] (wI h f')
          generalize wI h f' = H at hgo ⊢
          simp only [c_X2_readLine_41, i_push, i_ild, i_ald, i_ist, i_ast, i_inc, i_bin, i_un, i_divs, i_i2l, i_lshl, i_lor, i_dup, i_dup2, i_pop, i_if, i_cmp, i_nul, i_vret, i_iret, i_zret, i_aret, i_keep, keep, lget, lset, ent, i_getI, i_getJ, i_getR, i_getN, i_putI, i_putZ, i_putJ, i_putR, i_iald, i_bald, i_alen, i_aald, i_iast, i_bast, i_aast, i_new, i_newa, i_anew, i_oini, i_callS, i_callV, i_callI, popn, sh4, i_sw, swP, i_copy, i_binS, List.map, Option.toList_none, Option.toList_some, List.append, List.nil_append, List.cons_append, List.length_cons, List.length_nil, List.replicate, Nat.sub_self, Nat.reduceSub, Nat.reduceAdd, hK_pI, hL_pI, hI_pI, hR_pI, hJ_pI, hT_pI, hS_pI, hK_pR, hL_pR, hI_pR, hR_pR, hJ_pR, hT_pR, hS_pR, hK_pJ, hL_pJ, hI_pJ, hR_pJ, hJ_pJ, hT_pJ, hS_pJ, hK_wI, hL_wI, hI_wI, hR_wI, hJ_wI, hT_wI, hS_wI, eq_self, and_true, true_and, and_false, false_and, or_true, true_or, or_false, false_or, if_true, if_false, not_true_eq_false, not_false_eq_true, forall_const, implies_true, false_implies, true_implies, Option.some.injEq, forall_eq', exists_eq_left', reduceCtorEq, Nat.reduceEqDiff, c1, T_X12_in, T_X12_ones, T_X11_within, T_X11_bit, T_X11_isIn, T_X11_oneIfIn, T_J6_bitCount_0f7a4]
          exact hgo
      have c1 := b1 f'
      have c2 := b2 f'
      show c_X2_readLine_32 Q _ [.int 1] (wI h f')
      generalize wI h f' = H at c1 c2 hsk ⊢
      simp only [c_X2_readLine_32, i_push, i_ild, i_ald, i_ist, i_ast, i_inc, i_bin, i_un, i_divs, i_i2l, i_lshl, i_lor, i_dup, i_dup2, i_pop, i_if, i_cmp, i_nul, i_vret, i_iret, i_zret, i_aret, i_keep, keep, lget, lset, ent, i_getI, i_getJ, i_getR, i_getN, i_putI, i_putZ, i_putJ, i_putR, i_iald, i_bald, i_alen, i_aald, i_iast, i_bast, i_aast, i_new, i_newa, i_anew, i_oini, i_callS, i_callV, i_callI, popn, sh4, i_sw, swP, i_copy, i_binS, List.map, Option.toList_none, Option.toList_some, List.append, List.nil_append, List.cons_append, List.length_cons, List.length_nil, List.replicate, Nat.sub_self, Nat.reduceSub, Nat.reduceAdd, hK_pI, hL_pI, hI_pI, hR_pI, hJ_pI, hT_pI, hS_pI, hK_pR, hL_pR, hI_pR, hR_pR, hJ_pR, hT_pR, hS_pR, hK_pJ, hL_pJ, hI_pJ, hR_pJ, hJ_pJ, hT_pJ, hS_pJ, hK_wI, hL_wI, hI_wI, hR_wI, hJ_wI, hT_wI, hS_wI, eq_self, and_true, true_and, and_false, false_and, or_true, true_or, or_false, false_or, if_true, if_false, not_true_eq_false, not_false_eq_true, forall_const, implies_true, false_implies, true_implies, Option.some.injEq, forall_eq', exists_eq_left', reduceCtorEq, Nat.reduceEqDiff, c1, T_X12_in, T_X12_ones, T_X11_within, T_X11_bit, T_X11_isIn, T_X11_oneIfIn, T_J6_bitCount_0f7a4, c1, c2, show ¬ (1 : Int32) = 0 by decide]
      exact hsk
    · rw [if_neg (by rw [ht]; decide)] at hq0
      have hgo := hq0 f' ht ho' h1' hN'
      show c_X2_readLine_32 Q _ [.int 0] (wI h f')
      generalize wI h f' = H at hgo ⊢
      simp only [c_X2_readLine_32, i_push, i_ild, i_ald, i_ist, i_ast, i_inc, i_bin, i_un, i_divs, i_i2l, i_lshl, i_lor, i_dup, i_dup2, i_pop, i_if, i_cmp, i_nul, i_vret, i_iret, i_zret, i_aret, i_keep, keep, lget, lset, ent, i_getI, i_getJ, i_getR, i_getN, i_putI, i_putZ, i_putJ, i_putR, i_iald, i_bald, i_alen, i_aald, i_iast, i_bast, i_aast, i_new, i_newa, i_anew, i_oini, i_callS, i_callV, i_callI, popn, sh4, i_sw, swP, i_copy, i_binS, List.map, Option.toList_none, Option.toList_some, List.append, List.nil_append, List.cons_append, List.length_cons, List.length_nil, List.replicate, Nat.sub_self, Nat.reduceSub, Nat.reduceAdd, hK_pI, hL_pI, hI_pI, hR_pI, hJ_pI, hT_pI, hS_pI, hK_pR, hL_pR, hI_pR, hR_pR, hJ_pR, hT_pR, hS_pR, hK_pJ, hL_pJ, hI_pJ, hR_pJ, hJ_pJ, hT_pJ, hS_pJ, hK_wI, hL_wI, hI_wI, hR_wI, hJ_wI, hT_wI, hS_wI, eq_self, and_true, true_and, and_false, false_and, or_true, true_or, or_false, false_or, if_true, if_false, not_true_eq_false, not_false_eq_true, forall_const, implies_true, false_implies, true_implies, Option.some.injEq, forall_eq', exists_eq_left', reduceCtorEq, Nat.reduceEqDiff, c1, T_X12_in, T_X12_ones, T_X11_within, T_X11_bit, T_X11_isIn, T_X11_oneIfIn, T_J6_bitCount_0f7a4]
      exact hgo
  have c1 := b1 f
  have c2 := b2 f
  refine s_X2_readLine_27 Q _ _ _ ?_
  generalize wI h f = H at c1 c2 hcall ⊢
  simp only [b_X2_readLine_27, i_push, i_ild, i_ald, i_ist, i_ast, i_inc, i_bin, i_un, i_divs, i_i2l, i_lshl, i_lor, i_dup, i_dup2, i_pop, i_if, i_cmp, i_nul, i_vret, i_iret, i_zret, i_aret, i_keep, keep, lget, lset, ent, i_getI, i_getJ, i_getR, i_getN, i_putI, i_putZ, i_putJ, i_putR, i_iald, i_bald, i_alen, i_aald, i_iast, i_bast, i_aast, i_new, i_newa, i_anew, i_oini, i_callS, i_callV, i_callI, popn, sh4, i_sw, swP, i_copy, i_binS, List.map, Option.toList_none, Option.toList_some, List.append, List.nil_append, List.cons_append, List.length_cons, List.length_nil, List.replicate, Nat.sub_self, Nat.reduceSub, Nat.reduceAdd, hK_pI, hL_pI, hI_pI, hR_pI, hJ_pI, hT_pI, hS_pI, hK_pR, hL_pR, hI_pR, hR_pR, hJ_pR, hT_pR, hS_pR, hK_pJ, hL_pJ, hI_pJ, hR_pJ, hJ_pJ, hT_pJ, hS_pJ, hK_wI, hL_wI, hI_wI, hR_wI, hJ_wI, hT_wI, hS_wI, eq_self, and_true, true_and, and_false, false_and, or_true, true_or, or_false, false_or, if_true, if_false, not_true_eq_false, not_false_eq_true, forall_const, implies_true, false_implies, true_implies, Option.some.injEq, forall_eq', exists_eq_left', reduceCtorEq, Nat.reduceEqDiff, c1, T_X12_in, T_X12_ones, T_X11_within, T_X11_bit, T_X11_isIn, T_X11_oneIfIn, T_J6_bitCount_0f7a4, c1, c2]
  exact hcall
set_option maxRecDepth 100000 in
set_option maxHeartbeats 1000000 in
theorem xrl_0 (Q : Option Value → Hp → Prop) (h : Hp) (y q z : Nat) (B : Nat → Int32) (L N : Nat) (f0 M : Mem) (k s : Nat) (he : PEn h y q z B L N f0) (hk : k ≤ 1000) (hpe : PEd f0 (hI h) M y q N k s) (h16 : 16 < k → ¬ M 44 45 = -1)
    (hq1 : ∀ f', (pL B L k M s).1 = true → PEd f0 f' (pL B L k M s).2.1 y q N (k + 1) (pL B L k M s).2.2 → Q (some (.int 1)) (wI h f'))
    (hq0 : ∀ f', (pL B L k M s).1 = false → PO f0 f' y q → f' y 1 = nI (pL B L k M s).2.2 → (pL B L k M s).2.2 ≤ N → Q (some (.int 0)) (wI h f')) : b_X2_readLine_0 Q [some (.ref y), some (.int (nI k))] [] h := by
  obtain ⟨⟨a1, a2, a3, a4⟩, z90, ey, eq⟩ := he.f
  have b1 : ∀ g, y < hT (wI h g) := fun _ => a1
  have b2 : ∀ g, hK (wI h g) y = 2 := fun _ => a2
  obtain ⟨M0, hM0⟩ : ∃ M0, M0 = pM0 M k (nI (bgT B L s)) := ⟨_, rfl⟩
  have hpL : pL B L k M s = if K B L s = 256 then (if (pTs B L (lI k) 501 0 M0 (s + 1)).1 = true then (if K B L (pTs B L (lI k) 501 0 M0 (s + 1)).2.2 = 58 then pA B L (lI k) k (pTs B L (lI k) 501 0 M0 (s + 1)).2.1 ((pTs B L (lI k) 501 0 M0 (s + 1)).2.2 + 1) else (false, pFail (pTs B L (lI k) 501 0 M0 (s + 1)).2.1 (nI (bgT B L (pTs B L (lI k) 501 0 M0 (s + 1)).2.2)), (pTs B L (lI k) 501 0 M0 (s + 1)).2.2)) else pTs B L (lI k) 501 0 M0 (s + 1)) else pA B L (lI k) k M0 s := by
    rw [hM0]; rfl
  rw [hpL] at hq1 hq0
  have h7 : ∀ f1, PSt f0 f1 M0 y q N k 0 s → c_X2_readLine_7 Q [some (.ref y), some (.int (nI k))] [] (wI h f1) := by
    intro f1 hps
    have hsk : T_X2_skip [.ref y, .int 256] (wI h f1) (fun r h' => c_X2_readLine_14 Q [some (.ref y), some (.int (nI k))] (r.toList ++ []) h') := by
      refine skip_go he hps.1 hps.2.2.1 hps.2.1 (by decide) (fun e eN => ?_) (fun e => ?_)
      · rw [if_pos e] at hq1 hq0
        obtain ⟨R, hR⟩ : ∃ R, R = pTs B L (lI k) 501 0 M0 (s + 1) := ⟨_, rfl⟩
        rw [← hR] at hq1 hq0
        have hcall : T_X2_readTests [.ref y, .int (nI k)] (wI h (u2 f1 y 1 (nI (s + 1)))) (fun r h' => c_X2_readLine_22 Q [some (.ref y), some (.int (nI k))] (r.toList ++ []) h') := by
          refine ⟨q, z, B, L, N, f0, M0, k, s + 1, he, rfl, hk, hps.at (by omega) eN, ?_, ?_⟩
          · rw [← hR]
            intro f' n' r1 r2 hps'
            rw [if_pos r1, if_pos r2] at hq1 hq0
            have hgo := xrl_27 Q h y q z B L N f0 f' R.2.1 k n' (R.2.2 + 1) he hk hps' hq1 hq0
            show c_X2_readLine_22 Q _ [.int 1] (wI h f')
            generalize wI h f' = H at hgo ⊢
            simp only [c_X2_readLine_22, i_push, i_ild, i_ald, i_ist, i_ast, i_inc, i_bin, i_un, i_divs, i_i2l, i_lshl, i_lor, i_dup, i_dup2, i_pop, i_if, i_cmp, i_nul, i_vret, i_iret, i_zret, i_aret, i_keep, keep, lget, lset, ent, i_getI, i_getJ, i_getR, i_getN, i_putI, i_putZ, i_putJ, i_putR, i_iald, i_bald, i_alen, i_aald, i_iast, i_bast, i_aast, i_new, i_newa, i_anew, i_oini, i_callS, i_callV, i_callI, popn, sh4, i_sw, swP, i_copy, i_binS, List.map, Option.toList_none, Option.toList_some, List.append, List.nil_append, List.cons_append, List.length_cons, List.length_nil, List.replicate, Nat.sub_self, Nat.reduceSub, Nat.reduceAdd, hK_pI, hL_pI, hI_pI, hR_pI, hJ_pI, hT_pI, hS_pI, hK_pR, hL_pR, hI_pR, hR_pR, hJ_pR, hT_pR, hS_pR, hK_pJ, hL_pJ, hI_pJ, hR_pJ, hJ_pJ, hT_pJ, hS_pJ, hK_wI, hL_wI, hI_wI, hR_wI, hJ_wI, hT_wI, hS_wI, eq_self, and_true, true_and, and_false, false_and, or_true, true_or, or_false, false_or, if_true, if_false, not_true_eq_false, not_false_eq_true, forall_const, implies_true, false_implies, true_implies, Option.some.injEq, forall_eq', exists_eq_left', reduceCtorEq, Nat.reduceEqDiff, c1, T_X12_in, T_X12_ones, T_X11_within, T_X11_bit, T_X11_isIn, T_X11_oneIfIn, T_J6_bitCount_0f7a4, show ¬ (1 : Int32) = 0 by decide]
            exact hgo
          · rw [← hR]
            intro f' hno ho' h1' hN'
            have hgo : Q (some (.int 0)) (wI h f') := by
              by_cases r1 : R.1 = true
              · have r2 : ¬ K B L R.2.2 = 58 := by
                  rcases hno with w | w
                  · rw [r1] at w; cases w
                  · exact w
                rw [if_pos r1, if_neg r2] at hq0
                exact hq0 f' rfl ho' h1' hN'
              · rw [if_neg r1] at hq0
                exact hq0 f' (by simpa using r1) ho' h1' hN'
            show c_X2_readLine_22 Q _ [.int 0] (wI h f')
            generalize wI h f' = H at hgo ⊢
            simp only [c_X2_readLine_22, i_push, i_ild, i_ald, i_ist, i_ast, i_inc, i_bin, i_un, i_divs, i_i2l, i_lshl, i_lor, i_dup, i_dup2, i_pop, i_if, i_cmp, i_nul, i_vret, i_iret, i_zret, i_aret, i_keep, keep, lget, lset, ent, i_getI, i_getJ, i_getR, i_getN, i_putI, i_putZ, i_putJ, i_putR, i_iald, i_bald, i_alen, i_aald, i_iast, i_bast, i_aast, i_new, i_newa, i_anew, i_oini, i_callS, i_callV, i_callI, popn, sh4, i_sw, swP, i_copy, i_binS, List.map, Option.toList_none, Option.toList_some, List.append, List.nil_append, List.cons_append, List.length_cons, List.length_nil, List.replicate, Nat.sub_self, Nat.reduceSub, Nat.reduceAdd, hK_pI, hL_pI, hI_pI, hR_pI, hJ_pI, hT_pI, hS_pI, hK_pR, hL_pR, hI_pR, hR_pR, hJ_pR, hT_pR, hS_pR, hK_pJ, hL_pJ, hI_pJ, hR_pJ, hJ_pJ, hT_pJ, hS_pJ, hK_wI, hL_wI, hI_wI, hR_wI, hJ_wI, hT_wI, hS_wI, eq_self, and_true, true_and, and_false, false_and, or_true, true_or, or_false, false_or, if_true, if_false, not_true_eq_false, not_false_eq_true, forall_const, implies_true, false_implies, true_implies, Option.some.injEq, forall_eq', exists_eq_left', reduceCtorEq, Nat.reduceEqDiff, c1, T_X12_in, T_X12_ones, T_X11_within, T_X11_bit, T_X11_isIn, T_X11_oneIfIn, T_J6_bitCount_0f7a4]
            exact hgo
        have c1 := b1 (u2 f1 y 1 (nI (s + 1)))
        have c2 := b2 (u2 f1 y 1 (nI (s + 1)))
        show c_X2_readLine_14 Q _ [.int 1] (wI h (u2 f1 y 1 (nI (s + 1))))
        generalize wI h (u2 f1 y 1 (nI (s + 1))) = H at c1 c2 hcall ⊢
        simp only [c_X2_readLine_14, i_push, i_ild, i_ald, i_ist, i_ast, i_inc, i_bin, i_un, i_divs, i_i2l, i_lshl, i_lor, i_dup, i_dup2, i_pop, i_if, i_cmp, i_nul, i_vret, i_iret, i_zret, i_aret, i_keep, keep, lget, lset, ent, i_getI, i_getJ, i_getR, i_getN, i_putI, i_putZ, i_putJ, i_putR, i_iald, i_bald, i_alen, i_aald, i_iast, i_bast, i_aast, i_new, i_newa, i_anew, i_oini, i_callS, i_callV, i_callI, popn, sh4, i_sw, swP, i_copy, i_binS, List.map, Option.toList_none, Option.toList_some, List.append, List.nil_append, List.cons_append, List.length_cons, List.length_nil, List.replicate, Nat.sub_self, Nat.reduceSub, Nat.reduceAdd, hK_pI, hL_pI, hI_pI, hR_pI, hJ_pI, hT_pI, hS_pI, hK_pR, hL_pR, hI_pR, hR_pR, hJ_pR, hT_pR, hS_pR, hK_pJ, hL_pJ, hI_pJ, hR_pJ, hJ_pJ, hT_pJ, hS_pJ, hK_wI, hL_wI, hI_wI, hR_wI, hJ_wI, hT_wI, hS_wI, eq_self, and_true, true_and, and_false, false_and, or_true, true_or, or_false, false_or, if_true, if_false, not_true_eq_false, not_false_eq_true, forall_const, implies_true, false_implies, true_implies, Option.some.injEq, forall_eq', exists_eq_left', reduceCtorEq, Nat.reduceEqDiff, c1, T_X12_in, T_X12_ones, T_X11_within, T_X11_bit, T_X11_isIn, T_X11_oneIfIn, T_J6_bitCount_0f7a4, c1, c2, show ¬ (1 : Int32) = 0 by decide]
        exact hcall
      · rw [if_neg e] at hq1 hq0
        have hgo := xrl_27 Q h y q z B L N f0 f1 M0 k 0 s he hk hps hq1 hq0
        show c_X2_readLine_14 Q _ [.int 0] (wI h f1)
        generalize wI h f1 = H at hgo ⊢
        simp only [c_X2_readLine_14, i_push, i_ild, i_ald, i_ist, i_ast, i_inc, i_bin, i_un, i_divs, i_i2l, i_lshl, i_lor, i_dup, i_dup2, i_pop, i_if, i_cmp, i_nul, i_vret, i_iret, i_zret, i_aret, i_keep, keep, lget, lset, ent, i_getI, i_getJ, i_getR, i_getN, i_putI, i_putZ, i_putJ, i_putR, i_iald, i_bald, i_alen, i_aald, i_iast, i_bast, i_aast, i_new, i_newa, i_anew, i_oini, i_callS, i_callV, i_callI, popn, sh4, i_sw, swP, i_copy, i_binS, List.map, Option.toList_none, Option.toList_some, List.append, List.nil_append, List.cons_append, List.length_cons, List.length_nil, List.replicate, Nat.sub_self, Nat.reduceSub, Nat.reduceAdd, hK_pI, hL_pI, hI_pI, hR_pI, hJ_pI, hT_pI, hS_pI, hK_pR, hL_pR, hI_pR, hR_pR, hJ_pR, hT_pR, hS_pR, hK_pJ, hL_pJ, hI_pJ, hR_pJ, hJ_pJ, hT_pJ, hS_pJ, hK_wI, hL_wI, hI_wI, hR_wI, hJ_wI, hT_wI, hS_wI, eq_self, and_true, true_and, and_false, false_and, or_true, true_or, or_false, false_or, if_true, if_false, not_true_eq_false, not_false_eq_true, forall_const, implies_true, false_implies, true_implies, Option.some.injEq, forall_eq', exists_eq_left', reduceCtorEq, Nat.reduceEqDiff, c1, T_X12_in, T_X12_ones, T_X11_within, T_X11_bit, T_X11_isIn, T_X11_oneIfIn, T_J6_bitCount_0f7a4]
        exact hgo
    have c1 := b1 f1
    have c2 := b2 f1
    generalize wI h f1 = H at c1 c2 hsk ⊢
    simp only [c_X2_readLine_7, i_push, i_ild, i_ald, i_ist, i_ast, i_inc, i_bin, i_un, i_divs, i_i2l, i_lshl, i_lor, i_dup, i_dup2, i_pop, i_if, i_cmp, i_nul, i_vret, i_iret, i_zret, i_aret, i_keep, keep, lget, lset, ent, i_getI, i_getJ, i_getR, i_getN, i_putI, i_putZ, i_putJ, i_putR, i_iald, i_bald, i_alen, i_aald, i_iast, i_bast, i_aast, i_new, i_newa, i_anew, i_oini, i_callS, i_callV, i_callI, popn, sh4, i_sw, swP, i_copy, i_binS, List.map, Option.toList_none, Option.toList_some, List.append, List.nil_append, List.cons_append, List.length_cons, List.length_nil, List.replicate, Nat.sub_self, Nat.reduceSub, Nat.reduceAdd, hK_pI, hL_pI, hI_pI, hR_pI, hJ_pI, hT_pI, hS_pI, hK_pR, hL_pR, hI_pR, hR_pR, hJ_pR, hT_pR, hS_pR, hK_pJ, hL_pJ, hI_pJ, hR_pJ, hJ_pJ, hT_pJ, hS_pJ, hK_wI, hL_wI, hI_wI, hR_wI, hJ_wI, hT_wI, hS_wI, eq_self, and_true, true_and, and_false, false_and, or_true, true_or, or_false, false_or, if_true, if_false, not_true_eq_false, not_false_eq_true, forall_const, implies_true, false_implies, true_implies, Option.some.injEq, forall_eq', exists_eq_left', reduceCtorEq, Nat.reduceEqDiff, c1, T_X12_in, T_X12_ones, T_X11_within, T_X11_bit, T_X11_isIn, T_X11_oneIfIn, T_J6_bitCount_0f7a4, c1, c2]
    exact hsk
  obtain ⟨p1, p2, p3, p4, p5, p6, p7⟩ := id hpe
  have hnote := note_go he p1 p3 p2 (a := k) (b := 16) (by omega) (by decide) (Q := fun r h' => c_X2_readLine_7 Q [some (.ref y), some (.int (nI k))] (r.toList ++ []) h') (fun c c2 => by
    have e16 : k = 16 := by
      apply Classical.byContradiction
      intro w
      exact h16 (by omega) (by rw [← p4]; exact c2)
    refine h7 _ ?_
    have hm := (hpe.many (by omega) c2 (nI (bgT B L s))).begin
    have eM : M0 = u2 (pMany M (nI (bgT B L s))) 80 (lI k) 0 := by rw [hM0]; unfold pM0 lI; rw [if_pos e16]
    rw [eM]; exact hm) (fun c => by
    refine h7 (hI h) ?_
    have eM : M0 = u2 M 80 (lI k) 0 := by
      rw [hM0]; unfold pM0 lI
      by_cases e16 : k = 16
      · rw [if_pos e16, pMany_no (fun w => c ⟨by omega, by rw [p4]; exact w⟩)]
      · rw [if_neg e16]
    rw [eM]; exact hpe.begin)
  have e : wI h (hI h) = h := rfl
  have e16 : (16 : Int32) = nI 16 := rfl
  rw [e, ← e16] at hnote
  simp only [b_X2_readLine_0, i_push, i_ild, i_ald, i_ist, i_ast, i_inc, i_bin, i_un, i_divs, i_i2l, i_lshl, i_lor, i_dup, i_dup2, i_pop, i_if, i_cmp, i_nul, i_vret, i_iret, i_zret, i_aret, i_keep, keep, lget, lset, ent, i_getI, i_getJ, i_getR, i_getN, i_putI, i_putZ, i_putJ, i_putR, i_iald, i_bald, i_alen, i_aald, i_iast, i_bast, i_aast, i_new, i_newa, i_anew, i_oini, i_callS, i_callV, i_callI, popn, sh4, i_sw, swP, i_copy, i_binS, List.map, Option.toList_none, Option.toList_some, List.append, List.nil_append, List.cons_append, List.length_cons, List.length_nil, List.replicate, Nat.sub_self, Nat.reduceSub, Nat.reduceAdd, hK_pI, hL_pI, hI_pI, hR_pI, hJ_pI, hT_pI, hS_pI, hK_pR, hL_pR, hI_pR, hR_pR, hJ_pR, hT_pR, hS_pR, hK_pJ, hL_pJ, hI_pJ, hR_pJ, hJ_pJ, hT_pJ, hS_pJ, hK_wI, hL_wI, hI_wI, hR_wI, hJ_wI, hT_wI, hS_wI, eq_self, and_true, true_and, and_false, false_and, or_true, true_or, or_false, false_or, if_true, if_false, not_true_eq_false, not_false_eq_true, forall_const, implies_true, false_implies, true_implies, Option.some.injEq, forall_eq', exists_eq_left', reduceCtorEq, Nat.reduceEqDiff, c1, T_X12_in, T_X12_ones, T_X11_within, T_X11_bit, T_X11_isIn, T_X11_oneIfIn, T_J6_bitCount_0f7a4, a1, a2]
  exact hnote
set_option maxRecDepth 100000 in
set_option maxHeartbeats 4000000 in
theorem ok_X2_readLine : ctr 4 MX2_readLine T_X2_readLine := by
  refine ctr_of pn_X2 wc_X2_readLine (fun av h Q hT => ?_)
  unfold T_X2_readLine at hT
  split at hT
  · rename_i y x
    refine ⟨⟨by simp [Value.category], Nat.le_of_ble_eq_true rfl⟩, s_X2_readLine_0 Q _ _ _ ?_⟩
    obtain ⟨q, z, B, L, N, f0, M, k, s, he, rfl, hk, hpe, h16, hq1, hq0⟩ := hT
    exact xrl_0 Q h y q z B L N f0 M k s he hk hpe h16 hq1 hq0
  · exact hT.elim
def T_X2_parse : Tr := fun av h Q => match av with
  | [.ref y] => ∃ q z B L N f0 M, PEn h y q z B L N f0 ∧ PEd f0 (hI h) M y q N 0 0 ∧ INV 0 M ∧
      ((pX B L 501 0 M 0).1 = false → ∀ f', PO f0 f' y q → Q none (wI h (u2 (u2 f' y 4 1) y 5 (nI (bgT B L (pX B L 501 0 M 0).2.2))))) ∧
      ((pX B L 501 0 M 0).1 = true → ¬ (pX B L 501 0 M 0).2.1 44 45 = -1 → ∀ f', PO f0 f' y q → Q none (wI h (u2 (u2 f' y 4 3) y 5 ((pX B L 501 0 M 0).2.1 44 45)))) ∧
      ((pX B L 501 0 M 0).1 = true → (pX B L 501 0 M 0).2.1 44 45 = -1 → ∀ f' k s, INV k (pX B L 501 0 M 0).2.1 → PEd f0 f' (pX B L 501 0 M 0).2.1 y q N k s → Q none (wI h f'))
  | _ => False
def L_X2_parse : List UInt8 := [4, 60, 3, 61, 28, 17, 1, 244, 163, 0, 27, 27, 153, 0, 23, 42, 182, 0, 32, 4, 159, 0, 15, 42, 28, 182, 0, 38, 60, 132, 2, 1, 167, 255, 228, 27, 154, 0, 27, 42, 4, 181, 0, 22, 42, 42, 180, 0, 28, 180, 0, 42, 42, 180, 0, 46, 46, 181, 0, 25, 167, 0, 24, 42, 180, 0, 9, 2, 159, 0, 16, 42, 6, 181, 0, 22, 42, 42, 180, 0, 9, 181, 0, 25, 177]
theorem Lc_X2_parse : MX2_parse.2.1 = ⟨L_X2_parse.toArray⟩ := rfl
theorem D_X2_parse_0 : dseq MX2_parse.2.1 0 [(.iconst 1, 1), (.istore_n 1, 1), (.iconst 0, 1), (.istore_n 2, 1)] := dq Lc_X2_parse 0 _ (by decide +kernel)
theorem D_X2_parse_4 : dseq MX2_parse.2.1 4 [(.iload_n 2, 1), (.sipush 500, 3), (.if_icmp .gt 27, 3), (.iload_n 1, 1), (.ifCond .eq 23, 3), (.aload_n 0, 1), (.invokevirtual 32, 3), (.iconst 1, 1), (.if_icmp .eq 15, 3), (.aload_n 0, 1), (.iload_n 2, 1), (.invokevirtual 38, 3), (.istore_n 1, 1), (.iinc 2 1, 3), (.goto (-28), 3)] := dq Lc_X2_parse 4 _ (by decide +kernel)
theorem D_X2_parse_35 : dseq MX2_parse.2.1 35 [(.iload_n 1, 1), (.ifCond .ne 27, 3), (.aload_n 0, 1), (.iconst 1, 1), (.putfield 22, 3), (.aload_n 0, 1), (.aload_n 0, 1), (.getfield 28, 3), (.getfield 42, 3), (.aload_n 0, 1), (.getfield 46, 3), (.iaload, 1), (.putfield 25, 3), (.goto 24, 3)] := dq Lc_X2_parse 35 _ (by decide +kernel)
theorem D_X2_parse_63 : dseq MX2_parse.2.1 63 [(.aload_n 0, 1), (.getfield 9, 3), (.iconst (-1), 1), (.if_icmp .eq 16, 3), (.aload_n 0, 1), (.iconst 3, 1), (.putfield 22, 3), (.aload_n 0, 1), (.aload_n 0, 1), (.getfield 9, 3), (.putfield 25, 3), (.return_, 1)] := dq Lc_X2_parse 63 _ (by decide +kernel)
theorem D_X2_parse_84 : dseq MX2_parse.2.1 84 [(.return_, 1)] := dq Lc_X2_parse 84 _ (by decide +kernel)
def c_X2_parse_28 (Q : Option Value → Hp → Prop) : Kt := i_ist 1 (i_inc 2 1 (i_keep [true, true, true] (wp 5 MX2_parse Q 4)))
def c_X2_parse_19 (Q : Option Value → Hp → Prop) : Kt := i_push (.int 1) (i_cmp (fun x y => x = y) (i_keep [true, true, false] (wp 5 MX2_parse Q 35)) (i_ald 0 (i_ild 2 (i_callV 2 1 T_X2_readLine (c_X2_parse_28 Q)))))
def b_X2_parse_0 (Q : Option Value → Hp → Prop) : Kt := i_push (.int 1) (i_ist 1 (i_push (.int 0) (i_ist 2 (i_keep [true, true, true] (wp 5 MX2_parse Q 4)))))
set_option maxRecDepth 100000 in
theorem s_X2_parse_0 (Q : Option Value → Hp → Prop) : ∀ A st h, b_X2_parse_0 Q A st h → wp 5 MX2_parse Q 0 A st h := (q1 (s_iconst (n := 1) (v := 1) (by decide)) D_X2_parse_0 fun D => (qL (s_istn (n := 1) (i := 1) rfl) (by decide) D fun D => (q1 (s_iconst (n := 0) (v := 0) (by decide)) D fun D => (qL (s_istn (n := 2) (i := 2) rfl) (by decide) D fun D => (s_keep [true, true, true] fun _ _ _ h => h)))))
def b_X2_parse_4 (Q : Option Value → Hp → Prop) : Kt := i_ild 2 (i_push (.int 500) (i_cmp (fun x y => y < x) (i_keep [true, true, false] (wp 5 MX2_parse Q 35)) (i_ild 1 (i_if (fun x => x = 0) (i_keep [true, true, false] (wp 5 MX2_parse Q 35)) (i_ald 0 (i_callV 2 0 T_X2_kind (c_X2_parse_19 Q)))))))
set_option maxRecDepth 100000 in
theorem s_X2_parse_4 (Q : Option Value → Hp → Prop) : ∀ A st h, b_X2_parse_4 Q A st h → wp 5 MX2_parse Q 4 A st h := (q1 (s_ildn (n := 2) (i := 2) rfl) D_X2_parse_4 fun D => (q1 (s_sipush (n := 500) (v := 500) (by decide)) D fun D => (qB s_cmpgt 35 (by decide) D (s_keep [true, true, false] fun _ _ _ h => h) fun D => (q1 (s_ildn (n := 1) (i := 1) rfl) D fun D => (qB s_ifeq 35 (by decide) D (s_keep [true, true, false] fun _ _ _ h => h) fun D => (q1 (s_aldn (n := 0) (i := 0) rfl) D fun D => (qX (s_callV kX2 rfl ok_X2_kind mo_X2_kind (ch_3_2_ok.2.2.2.2.2.2.2.2.1.1 rfl) (ch_3_2_ok.2.2.2.2.2.2.2.2.2.2.1.1 rfl) (pv_0.2.2.2.2.2.2.2.2.1)) rfl (by decide) D fun D => (q1 (s_iconst (n := 1) (v := 1) (by decide)) D fun D => (qB s_cmpeq 35 (by decide) D (s_keep [true, true, false] fun _ _ _ h => h) fun D => (q1 (s_aldn (n := 0) (i := 0) rfl) D fun D => (q1 (s_ildn (n := 2) (i := 2) rfl) D fun D => (qX (s_callV kX2 rfl ok_X2_readLine mo_X2_readLine (ch_3_2_ok.2.2.2.2.2.2.2.2.2.2.2.2.1.1 rfl) (ch_3_2_ok.2.2.2.2.2.2.2.2.2.2.2.2.2.2.1.1 rfl) (pv_0.2.2.2.2.2.2.2.2.2.1)) rfl (by decide) D fun D => (qL (s_istn (n := 1) (i := 1) rfl) (by decide) D fun D => (qL (s_inc (i := 2) (n := 1) (v := 1) (by decide)) (by decide) D fun D => (qG 4 (by decide) D (s_keep [true, true, true] fun _ _ _ h => h))))))))))))))))
def b_X2_parse_35 (Q : Option Value → Hp → Prop) : Kt := i_ild 1 (i_if (fun x => x = 0) (i_ald 0 (i_push (.int 1) (i_putI 2 4 (i_ald 0 (i_ald 0 (i_getR 2 0 (i_getR 10 3 (i_ald 0 (i_getI 2 1 (i_iald (i_putI 2 5 (i_vret Q)))))))))))) (i_ald 0 (i_getI 2 2 (i_push (.int (-1)) (i_cmp (fun x y => x = y) (i_vret Q) (i_ald 0 (i_push (.int 3) (i_putI 2 4 (i_ald 0 (i_ald 0 (i_getI 2 2 (i_putI 2 5 (i_vret Q)))))))))))))
set_option maxRecDepth 100000 in
theorem s_X2_parse_35 (Q : Option Value → Hp → Prop) : ∀ A st h, b_X2_parse_35 Q A st h → wp 5 MX2_parse Q 35 A st h := (q1 (s_ildn (n := 1) (i := 1) rfl) D_X2_parse_35 fun D => (qBn s_ifne2 63 (by decide) D (q1 (s_aldn (n := 0) (i := 0) rfl) D_X2_parse_63 fun D => (qC fl_X2_9 rfl D fun D => (q1 (s_iconst (n := (-1)) (v := (-1)) (by decide)) D fun D => (qB s_cmpeq 84 (by decide) D (qV rfl D_X2_parse_84) fun D => (q1 (s_aldn (n := 0) (i := 0) rfl) D fun D => (q1 (s_iconst (n := 3) (v := 3) (by decide)) D fun D => (qP pl_X2_22 rfl (Or.inl rfl) D fun D => (q1 (s_aldn (n := 0) (i := 0) rfl) D fun D => (q1 (s_aldn (n := 0) (i := 0) rfl) D fun D => (qC fl_X2_9 rfl D fun D => (qP pl_X2_25 rfl (Or.inl rfl) D fun D => (qV rfl D)))))))))))) fun D => (q1 (s_aldn (n := 0) (i := 0) rfl) D fun D => (q1 (s_iconst (n := 1) (v := 1) (by decide)) D fun D => (qP pl_X2_22 rfl (Or.inl rfl) D fun D => (q1 (s_aldn (n := 0) (i := 0) rfl) D fun D => (q1 (s_aldn (n := 0) (i := 0) rfl) D fun D => (qC fl_X2_28 rfl D fun D => (qC fl_X2_42 rfl D fun D => (q1 (s_aldn (n := 0) (i := 0) rfl) D fun D => (qC fl_X2_46 rfl D fun D => (q1 s_iald D fun D => (qP pl_X2_25 rfl (Or.inl rfl) D fun D => (qG 84 (by decide) D (qV rfl D_X2_parse_84)))))))))))))))

set_option maxRecDepth 100000 in
set_option maxHeartbeats 1000000 in
theorem xpa_4 (Q : Option Value → Hp → Prop) (h : Hp) (y q z : Nat) (B : Nat → Int32) (L N : Nat) (f0 : Mem) (he : PEn h y q z B L N f0) :
    ∀ (m k : Nat) (f M : Mem) (s : Nat), m + k = 501 → PEd f0 f M y q N k s → INV k M →
      ((pX B L m k M s).1 = false → ∀ f', PO f0 f' y q → Q none (wI h (u2 (u2 f' y 4 1) y 5 (nI (bgT B L (pX B L m k M s).2.2))))) →
      ((pX B L m k M s).1 = true → ¬ (pX B L m k M s).2.1 44 45 = -1 → ∀ f', PO f0 f' y q → Q none (wI h (u2 (u2 f' y 4 3) y 5 ((pX B L m k M s).2.1 44 45)))) →
      ((pX B L m k M s).1 = true → (pX B L m k M s).2.1 44 45 = -1 → ∀ f' k' s', INV k' (pX B L m k M s).2.1 → PEd f0 f' (pX B L m k M s).2.1 y q N k' s' → Q none (wI h f')) →
      wp 5 MX2_parse Q 4 [some (.ref y), some (.int 1), some (.int (nI k))] [] (wI h f) := by
  obtain ⟨⟨a1, a2, a3, a4⟩, z90, ey, eq⟩ := he.f
  have hlt := he.2.1
  have hL := he.2.2.2.2.2.2.2.2.1
  have b1 : ∀ g, y < hT (wI h g) := fun _ => a1
  have b2 : ∀ g, hK (wI h g) y = 2 := fun _ => a2
  have b3 : ∀ g, hR (wI h g) y 0 = some z := fun _ => a3
  -- 35 with a fault of form
  have hbad : ∀ (f : Mem) (t : Nat), PO f0 f y q → f y 1 = nI t → t ≤ N → Q none (wI h (u2 (u2 f y 4 1) y 5 (nI (bgT B L t)))) → wp 5 MX2_parse Q 35 [some (.ref y), some (.int 0), none] [] (wI h f) := by
    intro f t ho h1 htN hq
    have htk := PO.tk he ho
    have hNL := htk.2.2.1
    have e1 : hI (wI h f) y 1 = nI t := h1
    have e3 : hI (wI h f) (z + 2) t = nI (bgT B L t) := (htk.2.2.2.2 t htN).2.1
    have c1 := b1 f
    have c2 := b2 f
    have c3 := b3 f
    have hlt2 : LayT (wI h f) z L := hlt
    have hq2 : Q none (pI (pI (wI h f) y 4 1) y 5 (nI (bgT B L t))) := hq
    have n1 : ¬ z + 2 = y := by omega
    refine s_X2_parse_35 Q _ _ _ ?_
    generalize wI h f = H at e1 e3 c1 c2 c3 hlt2 hq2 ⊢
    have hf := hlt2.f
    simp only [b_X2_parse_35, i_push, i_ild, i_ald, i_ist, i_ast, i_inc, i_bin, i_un, i_divs, i_i2l, i_lshl, i_lor, i_dup, i_dup2, i_pop, i_if, i_cmp, i_nul, i_vret, i_iret, i_zret, i_aret, i_keep, keep, lget, lset, ent, i_getI, i_getJ, i_getR, i_getN, i_putI, i_putZ, i_putJ, i_putR, i_iald, i_bald, i_alen, i_aald, i_iast, i_bast, i_aast, i_new, i_newa, i_anew, i_oini, i_callS, i_callV, i_callI, popn, sh4, i_sw, swP, i_copy, i_binS, List.map, Option.toList_none, Option.toList_some, List.append, List.nil_append, List.cons_append, List.length_cons, List.length_nil, List.replicate, Nat.sub_self, Nat.reduceSub, Nat.reduceAdd, hK_pI, hL_pI, hI_pI, hR_pI, hJ_pI, hT_pI, hS_pI, hK_pR, hL_pR, hI_pR, hR_pR, hJ_pR, hT_pR, hS_pR, hK_pJ, hL_pJ, hI_pJ, hR_pJ, hJ_pJ, hT_pJ, hS_pJ, hK_wI, hL_wI, hI_wI, hR_wI, hJ_wI, hT_wI, hS_wI, eq_self, and_true, true_and, and_false, false_and, or_true, true_or, or_false, false_or, if_true, if_false, not_true_eq_false, not_false_eq_true, forall_const, implies_true, false_implies, true_implies, Option.some.injEq, forall_eq', exists_eq_left', reduceCtorEq, Nat.reduceEqDiff, c1, T_X12_in, T_X12_ones, T_X11_within, T_X11_bit, T_X11_isIn, T_X11_oneIfIn, T_J6_bitCount_0f7a4, c1, c2, c3, hf, e1, n1, Nat.reduceEqDiff, cl_nI (show t < 2147483648 by omega), in_nI (show t < L + 1 by omega) (by omega), e3]
    exact hq2
  -- 35 without
  have hgood : ∀ (f : Mem), (¬ f y 2 = -1 → Q none (wI h (u2 (u2 f y 4 3) y 5 (f y 2)))) → (f y 2 = -1 → Q none (wI h f)) → wp 5 MX2_parse Q 35 [some (.ref y), some (.int 1), none] [] (wI h f) := by
    intro f g3 g1
    have e2 : hI (wI h f) y 2 = f y 2 := rfl
    have c1 := b1 f
    have c2 := b2 f
    have g3' : ¬ f y 2 = -1 → Q none (pI (pI (wI h f) y 4 3) y 5 (f y 2)) := g3
    refine s_X2_parse_35 Q _ _ _ ?_
    generalize wI h f = H at e2 c1 c2 g3' g1 ⊢
    generalize f y 2 = X at e2 g3' g1
    simp only [b_X2_parse_35, i_push, i_ild, i_ald, i_ist, i_ast, i_inc, i_bin, i_un, i_divs, i_i2l, i_lshl, i_lor, i_dup, i_dup2, i_pop, i_if, i_cmp, i_nul, i_vret, i_iret, i_zret, i_aret, i_keep, keep, lget, lset, ent, i_getI, i_getJ, i_getR, i_getN, i_putI, i_putZ, i_putJ, i_putR, i_iald, i_bald, i_alen, i_aald, i_iast, i_bast, i_aast, i_new, i_newa, i_anew, i_oini, i_callS, i_callV, i_callI, popn, sh4, i_sw, swP, i_copy, i_binS, List.map, Option.toList_none, Option.toList_some, List.append, List.nil_append, List.cons_append, List.length_cons, List.length_nil, List.replicate, Nat.sub_self, Nat.reduceSub, Nat.reduceAdd, hK_pI, hL_pI, hI_pI, hR_pI, hJ_pI, hT_pI, hS_pI, hK_pR, hL_pR, hI_pR, hR_pR, hJ_pR, hT_pR, hS_pR, hK_pJ, hL_pJ, hI_pJ, hR_pJ, hJ_pJ, hT_pJ, hS_pJ, hK_wI, hL_wI, hI_wI, hR_wI, hJ_wI, hT_wI, hS_wI, eq_self, and_true, true_and, and_false, false_and, or_true, true_or, or_false, false_or, if_true, if_false, not_true_eq_false, not_false_eq_true, forall_const, implies_true, false_implies, true_implies, Option.some.injEq, forall_eq', exists_eq_left', reduceCtorEq, Nat.reduceEqDiff, c1, T_X12_in, T_X12_ones, T_X11_within, T_X11_bit, T_X11_isIn, T_X11_oneIfIn, T_J6_bitCount_0f7a4, c1, c2, e2, Nat.reduceEqDiff, show ¬ (1 : Int32) = 0 by decide]
    exact ⟨g1, g3'⟩
  intro m
  induction m with
  | zero =>
    intro k f M s hmk hpe hinv hq0 hq3 hq1
    have e : k = 501 := by omega
    subst e
    have hgo := hgood f (fun c => by rw [hpe.2.2.2.1] at c ⊢; exact hq3 rfl c f hpe.1) (fun c => hq1 rfl (by rw [hpe.2.2.2.1] at c; exact c) f 501 s hinv hpe)
    have c : (500 : Int32) < nI 501 := by decide
    refine s_X2_parse_4 Q _ _ _ ?_
    generalize wI h f = H at hgo ⊢
    simp only [b_X2_parse_4, i_push, i_ild, i_ald, i_ist, i_ast, i_inc, i_bin, i_un, i_divs, i_i2l, i_lshl, i_lor, i_dup, i_dup2, i_pop, i_if, i_cmp, i_nul, i_vret, i_iret, i_zret, i_aret, i_keep, keep, lget, lset, ent, i_getI, i_getJ, i_getR, i_getN, i_putI, i_putZ, i_putJ, i_putR, i_iald, i_bald, i_alen, i_aald, i_iast, i_bast, i_aast, i_new, i_newa, i_anew, i_oini, i_callS, i_callV, i_callI, popn, sh4, i_sw, swP, i_copy, i_binS, List.map, Option.toList_none, Option.toList_some, List.append, List.nil_append, List.cons_append, List.length_cons, List.length_nil, List.replicate, Nat.sub_self, Nat.reduceSub, Nat.reduceAdd, hK_pI, hL_pI, hI_pI, hR_pI, hJ_pI, hT_pI, hS_pI, hK_pR, hL_pR, hI_pR, hR_pR, hJ_pR, hT_pR, hS_pR, hK_pJ, hL_pJ, hI_pJ, hR_pJ, hJ_pJ, hT_pJ, hS_pJ, hK_wI, hL_wI, hI_wI, hR_wI, hJ_wI, hT_wI, hS_wI, eq_self, and_true, true_and, and_false, false_and, or_true, true_or, or_false, false_or, if_true, if_false, not_true_eq_false, not_false_eq_true, forall_const, implies_true, false_implies, true_implies, Option.some.injEq, forall_eq', exists_eq_left', reduceCtorEq, Nat.reduceEqDiff, c1, T_X12_in, T_X12_ones, T_X11_within, T_X11_bit, T_X11_isIn, T_X11_oneIfIn, T_J6_bitCount_0f7a4, c]
    exact hgo
  | succ m ih =>
    intro k f M s hmk hpe hinv hq0 hq3 hq1
    have hpX : pX B L (m + 1) k M s = if K B L s = 1 then (true, M, s) else if (pL B L k M s).1 = true then pX B L m (k + 1) (pL B L k M s).2.1 (pL B L k M s).2.2 else pL B L k M s := rfl
    rw [hpX] at hq0 hq3 hq1
    have h19 : c_X2_parse_19 Q [some (.ref y), some (.int 1), some (.int (nI k))] [.int (K B L s)] (wI h f) := by
      have c1 := b1 f
      have c2 := b2 f
      have hend : K B L s = 1 → wp 5 MX2_parse Q 35 [some (.ref y), some (.int 1), none] [] (wI h f) := fun e => by
        rw [if_pos e] at hq0 hq3 hq1
        exact hgood f (fun c => by rw [hpe.2.2.2.1] at c ⊢; exact hq3 rfl c f hpe.1) (fun c => hq1 rfl (by rw [hpe.2.2.2.1] at c; exact c) f k s hinv hpe)
      have hline : ¬ K B L s = 1 → T_X2_readLine [.ref y, .int (nI k)] (wI h f) (fun r h' => c_X2_parse_28 Q [some (.ref y), some (.int 1), some (.int (nI k))] (r.toList ++ []) h') := fun e => by
        rw [if_neg e] at hq0 hq3 hq1
        refine ⟨q, z, B, L, N, f0, M, k, s, he, rfl, by omega, hpe, hinv.2.2.2.1, fun f' ht hpe' => ?_, fun f' ht ho' h1' hN' => ?_⟩
        · rw [if_pos ht] at hq0 hq3 hq1
          have hgo := ih (k + 1) f' _ _ (by omega) hpe' (((pL_inv B L k M s hL hinv).1 ht).1) hq0 hq3 hq1
          show c_X2_parse_28 Q _ [.int 1] (wI h f')
          generalize wI h f' = H at hgo ⊢
          simp only [c_X2_parse_28, i_push, i_ild, i_ald, i_ist, i_ast, i_inc, i_bin, i_un, i_divs, i_i2l, i_lshl, i_lor, i_dup, i_dup2, i_pop, i_if, i_cmp, i_nul, i_vret, i_iret, i_zret, i_aret, i_keep, keep, lget, lset, ent, i_getI, i_getJ, i_getR, i_getN, i_putI, i_putZ, i_putJ, i_putR, i_iald, i_bald, i_alen, i_aald, i_iast, i_bast, i_aast, i_new, i_newa, i_anew, i_oini, i_callS, i_callV, i_callI, popn, sh4, i_sw, swP, i_copy, i_binS, List.map, Option.toList_none, Option.toList_some, List.append, List.nil_append, List.cons_append, List.length_cons, List.length_nil, List.replicate, Nat.sub_self, Nat.reduceSub, Nat.reduceAdd, hK_pI, hL_pI, hI_pI, hR_pI, hJ_pI, hT_pI, hS_pI, hK_pR, hL_pR, hI_pR, hR_pR, hJ_pR, hT_pR, hS_pR, hK_pJ, hL_pJ, hI_pJ, hR_pJ, hJ_pJ, hT_pJ, hS_pJ, hK_wI, hL_wI, hI_wI, hR_wI, hJ_wI, hT_wI, hS_wI, eq_self, and_true, true_and, and_false, false_and, or_true, true_or, or_false, false_or, if_true, if_false, not_true_eq_false, not_false_eq_true, forall_const, implies_true, false_implies, true_implies, Option.some.injEq, forall_eq', exists_eq_left', reduceCtorEq, Nat.reduceEqDiff, c1, T_X12_in, T_X12_ones, T_X11_within, T_X11_bit, T_X11_isIn, T_X11_oneIfIn, T_J6_bitCount_0f7a4, nI_1]
          exact hgo
        · rw [if_neg (by rw [ht]; decide)] at hq0
          have hgo := hbad f' _ ho' h1' hN' (hq0 ht f' ho')
          have h4 : wp 5 MX2_parse Q 4 [some (.ref y), some (.int 0), some (.int (nI (k + 1)))] [] (wI h f') := by
            refine s_X2_parse_4 Q _ _ _ ?_
            generalize wI h f' = H at hgo ⊢
            simp only [b_X2_parse_4, i_push, i_ild, i_ald, i_ist, i_ast, i_inc, i_bin, i_un, i_divs, i_i2l, i_lshl, i_lor, i_dup, i_dup2, i_pop, i_if, i_cmp, i_nul, i_vret, i_iret, i_zret, i_aret, i_keep, keep, lget, lset, ent, i_getI, i_getJ, i_getR, i_getN, i_putI, i_putZ, i_putJ, i_putR, i_iald, i_bald, i_alen, i_aald, i_iast, i_bast, i_aast, i_new, i_newa, i_anew, i_oini, i_callS, i_callV, i_callI, popn, sh4, i_sw, swP, i_copy, i_binS, List.map, Option.toList_none, Option.toList_some, List.append, List.nil_append, List.cons_append, List.length_cons, List.length_nil, List.replicate, Nat.sub_self, Nat.reduceSub, Nat.reduceAdd, hK_pI, hL_pI, hI_pI, hR_pI, hJ_pI, hT_pI, hS_pI, hK_pR, hL_pR, hI_pR, hR_pR, hJ_pR, hT_pR, hS_pR, hK_pJ, hL_pJ, hI_pJ, hR_pJ, hJ_pJ, hT_pJ, hS_pJ, hK_wI, hL_wI, hI_wI, hR_wI, hJ_wI, hT_wI, hS_wI, eq_self, and_true, true_and, and_false, false_and, or_true, true_or, or_false, false_or, if_true, if_false, not_true_eq_false, not_false_eq_true, forall_const, implies_true, false_implies, true_implies, Option.some.injEq, forall_eq', exists_eq_left', reduceCtorEq, Nat.reduceEqDiff, c1, T_X12_in, T_X12_ones, T_X11_within, T_X11_bit, T_X11_isIn, T_X11_oneIfIn, T_J6_bitCount_0f7a4]
            exact ⟨fun _ => hgo, fun _ => hgo⟩
          show c_X2_parse_28 Q _ [.int 0] (wI h f')
          generalize wI h f' = H at h4 ⊢
          simp only [c_X2_parse_28, i_push, i_ild, i_ald, i_ist, i_ast, i_inc, i_bin, i_un, i_divs, i_i2l, i_lshl, i_lor, i_dup, i_dup2, i_pop, i_if, i_cmp, i_nul, i_vret, i_iret, i_zret, i_aret, i_keep, keep, lget, lset, ent, i_getI, i_getJ, i_getR, i_getN, i_putI, i_putZ, i_putJ, i_putR, i_iald, i_bald, i_alen, i_aald, i_iast, i_bast, i_aast, i_new, i_newa, i_anew, i_oini, i_callS, i_callV, i_callI, popn, sh4, i_sw, swP, i_copy, i_binS, List.map, Option.toList_none, Option.toList_some, List.append, List.nil_append, List.cons_append, List.length_cons, List.length_nil, List.replicate, Nat.sub_self, Nat.reduceSub, Nat.reduceAdd, hK_pI, hL_pI, hI_pI, hR_pI, hJ_pI, hT_pI, hS_pI, hK_pR, hL_pR, hI_pR, hR_pR, hJ_pR, hT_pR, hS_pR, hK_pJ, hL_pJ, hI_pJ, hR_pJ, hJ_pJ, hT_pJ, hS_pJ, hK_wI, hL_wI, hI_wI, hR_wI, hJ_wI, hT_wI, hS_wI, eq_self, and_true, true_and, and_false, false_and, or_true, true_or, or_false, false_or, if_true, if_false, not_true_eq_false, not_false_eq_true, forall_const, implies_true, false_implies, true_implies, Option.some.injEq, forall_eq', exists_eq_left', reduceCtorEq, Nat.reduceEqDiff, c1, T_X12_in, T_X12_ones, T_X11_within, T_X11_bit, T_X11_isIn, T_X11_oneIfIn, T_J6_bitCount_0f7a4, nI_1]
          exact h4
      generalize wI h f = H at c1 c2 hend hline ⊢
      generalize K B L s = X at hend hline ⊢
      simp only [c_X2_parse_19, i_push, i_ild, i_ald, i_ist, i_ast, i_inc, i_bin, i_un, i_divs, i_i2l, i_lshl, i_lor, i_dup, i_dup2, i_pop, i_if, i_cmp, i_nul, i_vret, i_iret, i_zret, i_aret, i_keep, keep, lget, lset, ent, i_getI, i_getJ, i_getR, i_getN, i_putI, i_putZ, i_putJ, i_putR, i_iald, i_bald, i_alen, i_aald, i_iast, i_bast, i_aast, i_new, i_newa, i_anew, i_oini, i_callS, i_callV, i_callI, popn, sh4, i_sw, swP, i_copy, i_binS, List.map, Option.toList_none, Option.toList_some, List.append, List.nil_append, List.cons_append, List.length_cons, List.length_nil, List.replicate, Nat.sub_self, Nat.reduceSub, Nat.reduceAdd, hK_pI, hL_pI, hI_pI, hR_pI, hJ_pI, hT_pI, hS_pI, hK_pR, hL_pR, hI_pR, hR_pR, hJ_pR, hT_pR, hS_pR, hK_pJ, hL_pJ, hI_pJ, hR_pJ, hJ_pJ, hT_pJ, hS_pJ, hK_wI, hL_wI, hI_wI, hR_wI, hJ_wI, hT_wI, hS_wI, eq_self, and_true, true_and, and_false, false_and, or_true, true_or, or_false, false_or, if_true, if_false, not_true_eq_false, not_false_eq_true, forall_const, implies_true, false_implies, true_implies, Option.some.injEq, forall_eq', exists_eq_left', reduceCtorEq, Nat.reduceEqDiff, c1, T_X12_in, T_X12_ones, T_X11_within, T_X11_bit, T_X11_isIn, T_X11_oneIfIn, T_J6_bitCount_0f7a4, c1, c2]
      exact ⟨hend, hline⟩
    have hk := kind_go he hpe.1 hpe.2.2.1 hpe.2.1 (Q := fun r h' => c_X2_parse_19 Q [some (.ref y), some (.int 1), some (.int (nI k))] (r.toList ++ []) h') h19
    have h5 : ¬ (500 : Int32) < nI k := by
      have : (500 : Int32) < nI k ↔ 500 < k := nI_ltI (a := 500) (by decide) (by omega)
      rw [this]; omega
    have c1 := b1 f
    have c2 := b2 f
    refine s_X2_parse_4 Q _ _ _ ?_
    generalize wI h f = H at c1 c2 hk ⊢
    simp only [b_X2_parse_4, i_push, i_ild, i_ald, i_ist, i_ast, i_inc, i_bin, i_un, i_divs, i_i2l, i_lshl, i_lor, i_dup, i_dup2, i_pop, i_if, i_cmp, i_nul, i_vret, i_iret, i_zret, i_aret, i_keep, keep, lget, lset, ent, i_getI, i_getJ, i_getR, i_getN, i_putI, i_putZ, i_putJ, i_putR, i_iald, i_bald, i_alen, i_aald, i_iast, i_bast, i_aast, i_new, i_newa, i_anew, i_oini, i_callS, i_callV, i_callI, popn, sh4, i_sw, swP, i_copy, i_binS, List.map, Option.toList_none, Option.toList_some, List.append, List.nil_append, List.cons_append, List.length_cons, List.length_nil, List.replicate, Nat.sub_self, Nat.reduceSub, Nat.reduceAdd, hK_pI, hL_pI, hI_pI, hR_pI, hJ_pI, hT_pI, hS_pI, hK_pR, hL_pR, hI_pR, hR_pR, hJ_pR, hT_pR, hS_pR, hK_pJ, hL_pJ, hI_pJ, hR_pJ, hJ_pJ, hT_pJ, hS_pJ, hK_wI, hL_wI, hI_wI, hR_wI, hJ_wI, hT_wI, hS_wI, eq_self, and_true, true_and, and_false, false_and, or_true, true_or, or_false, false_or, if_true, if_false, not_true_eq_false, not_false_eq_true, forall_const, implies_true, false_implies, true_implies, Option.some.injEq, forall_eq', exists_eq_left', reduceCtorEq, Nat.reduceEqDiff, c1, T_X12_in, T_X12_ones, T_X11_within, T_X11_bit, T_X11_isIn, T_X11_oneIfIn, T_J6_bitCount_0f7a4, c1, c2, h5, show ¬ (1 : Int32) = 0 by decide]
    exact hk
set_option maxRecDepth 100000 in
set_option maxHeartbeats 4000000 in
theorem ok_X2_parse : ctr 5 MX2_parse T_X2_parse := by
  refine ctr_of pn_X2 wc_X2_parse (fun av h Q hT => ?_)
  unfold T_X2_parse at hT
  split at hT
  · rename_i y
    refine ⟨⟨by simp [Value.category], Nat.le_of_ble_eq_true rfl⟩, s_X2_parse_0 Q _ _ _ ?_⟩
    obtain ⟨q, z, B, L, N, f0, M, he, hpe, hinv, hq0, hq3, hq1⟩ := hT
    have := xpa_4 Q h y q z B L N f0 he 501 0 (hI h) M 0 rfl hpe hinv hq0 hq3 hq1
    have e : wI h (hI h) = h := rfl
    rw [e] at this
    simp only [MX2_parse, b_X2_parse_0, i_push, i_ild, i_ald, i_ist, i_ast, i_inc, i_bin, i_un, i_divs, i_i2l, i_lshl, i_lor, i_dup, i_dup2, i_pop, i_if, i_cmp, i_nul, i_vret, i_iret, i_zret, i_aret, i_keep, keep, lget, lset, ent, i_getI, i_getJ, i_getR, i_getN, i_putI, i_putZ, i_putJ, i_putR, i_iald, i_bald, i_alen, i_aald, i_iast, i_bast, i_aast, i_new, i_newa, i_anew, i_oini, i_callS, i_callV, i_callI, popn, sh4, i_sw, swP, i_copy, i_binS, List.map, Option.toList_none, Option.toList_some, List.append, List.nil_append, List.cons_append, List.length_cons, List.length_nil, List.replicate, Nat.sub_self, Nat.reduceSub, Nat.reduceAdd, hK_pI, hL_pI, hI_pI, hR_pI, hJ_pI, hT_pI, hS_pI, hK_pR, hL_pR, hI_pR, hR_pR, hJ_pR, hT_pR, hS_pR, hK_pJ, hL_pJ, hI_pJ, hR_pJ, hJ_pJ, hT_pJ, hS_pJ, hK_wI, hL_wI, hI_wI, hR_wI, hJ_wI, hT_wI, hS_wI, eq_self, and_true, true_and, and_false, false_and, or_true, true_or, or_false, false_or, if_true, if_false, not_true_eq_false, not_false_eq_true, forall_const, implies_true, false_implies, true_implies, Option.some.injEq, forall_eq', exists_eq_left', reduceCtorEq, Nat.reduceEqDiff, c1, T_X12_in, T_X12_ones, T_X11_within, T_X11_bit, T_X11_isIn, T_X11_oneIfIn, T_J6_bitCount_0f7a4]
    exact this
  · exact hT.elim
