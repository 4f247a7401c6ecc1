/-! ===== the class: TESTS, an ACT ===== -/
/-- what pTs leaves, put for the class's loop: n tests so far, the tooMany of the fifth noted -/
def T_X2_readTests : Tr := fun av h Q => match av with
  | [.ref y, .int x] => ∃ q z B L N f0 M k s, PEn h y q z B L N f0 ∧ x = nI k ∧ k ≤ 1000 ∧ PSt f0 (hI h) M y q N k 0 s ∧
      (∀ f' n, (pTs B L (lI k) 501 0 M s).1 = true → K B L (pTs B L (lI k) 501 0 M s).2.2 = 58 → PSt f0 f' (pTs B L (lI k) 501 0 M s).2.1 y q N k n ((pTs B L (lI k) 501 0 M s).2.2 + 1) → Q (some (.int 1)) (wI h f')) ∧
      (∀ f', (pTs B L (lI k) 501 0 M s).1 = false ∨ ¬ K B L (pTs B L (lI k) 501 0 M s).2.2 = 58 → PO f0 f' y q → f' y 1 = nI (pTs B L (lI k) 501 0 M s).2.2 → (pTs B L (lI k) 501 0 M s).2.2 ≤ N → Q (some (.int 0)) (wI h f'))
  | _ => False
def L_X2_readTests : List UInt8 := [4, 61, 3, 62, 29, 17, 1, 244, 163, 0, 37, 28, 153, 0, 33, 42, 29, 7, 182, 0, 49, 42, 27, 182, 0, 62, 154, 0, 5, 3, 172, 42, 17, 1, 1, 182, 0, 53, 61, 132, 3, 1, 167, 255, 218, 42, 16, 58, 182, 0, 53, 172]
theorem Lc_X2_readTests : MX2_readTests.2.1 = ⟨L_X2_readTests.toArray⟩ := rfl
theorem D_X2_readTests_0 : dseq MX2_readTests.2.1 0 [(.iconst 1, 1), (.istore_n 2, 1), (.iconst 0, 1), (.istore_n 3, 1)] := dq Lc_X2_readTests 0 _ (by decide +kernel)
theorem D_X2_readTests_4 : dseq MX2_readTests.2.1 4 [(.iload_n 3, 1), (.sipush 500, 3), (.if_icmp .gt 37, 3), (.iload_n 2, 1), (.ifCond .eq 33, 3), (.aload_n 0, 1), (.iload_n 3, 1), (.iconst 4, 1), (.invokevirtual 49, 3), (.aload_n 0, 1), (.iload_n 1, 1), (.invokevirtual 62, 3), (.ifCond .ne 5, 3), (.iconst 0, 1), (.ireturn, 1)] := dq Lc_X2_readTests 4 _ (by decide +kernel)
theorem D_X2_readTests_31 : dseq MX2_readTests.2.1 31 [(.aload_n 0, 1), (.sipush 257, 3), (.invokevirtual 53, 3), (.istore_n 2, 1), (.iinc 3 1, 3), (.goto (-38), 3)] := dq Lc_X2_readTests 31 _ (by decide +kernel)
theorem D_X2_readTests_45 : dseq MX2_readTests.2.1 45 [(.aload_n 0, 1), (.bipush 58, 2), (.invokevirtual 53, 3), (.ireturn, 1)] := dq Lc_X2_readTests 45 _ (by decide +kernel)
def c_X2_readTests_38 (Q : Option Value → Hp → Prop) : Kt := i_ist 2 (i_inc 3 1 (i_keep [true, true, true, true] (wp 3 MX2_readTests Q 4)))
def c_X2_readTests_26 (Q : Option Value → Hp → Prop) : Kt := i_if (fun x => x = 0) (i_push (.int 0) (i_zret Q)) (i_ald 0 (i_push (.int 257) (i_callV 2 1 T_X2_skip (c_X2_readTests_38 Q))))
def c_X2_readTests_21 (Q : Option Value → Hp → Prop) : Kt := i_ald 0 (i_ild 1 (i_callV 2 1 T_X2_readTest (c_X2_readTests_26 Q)))
def b_X2_readTests_0 (Q : Option Value → Hp → Prop) : Kt := i_push (.int 1) (i_ist 2 (i_push (.int 0) (i_ist 3 (i_keep [true, true, true, true] (wp 3 MX2_readTests Q 4)))))
set_option maxRecDepth 100000 in
theorem s_X2_readTests_0 (Q : Option Value → Hp → Prop) : ∀ A st h, b_X2_readTests_0 Q A st h → wp 3 MX2_readTests Q 0 A st h := (q1 (s_iconst (n := 1) (v := 1) (by decide)) D_X2_readTests_0 fun D => (qL (s_istn (n := 2) (i := 2) rfl) (by decide) D fun D => (q1 (s_iconst (n := 0) (v := 0) (by decide)) D fun D => (qL (s_istn (n := 3) (i := 3) rfl) (by decide) D fun D => (s_keep [true, true, true, true] fun _ _ _ h => h)))))
def b_X2_readTests_4 (Q : Option Value → Hp → Prop) : Kt := i_ild 3 (i_push (.int 500) (i_cmp (fun x y => y < x) (i_keep [true, false, false, false] (wp 3 MX2_readTests Q 45)) (i_ild 2 (i_if (fun x => x = 0) (i_keep [true, false, false, false] (wp 3 MX2_readTests Q 45)) (i_ald 0 (i_ild 3 (i_push (.int 4) (i_callV 2 2 T_X2_noteIfTooMany (c_X2_readTests_21 Q)))))))))
set_option maxRecDepth 100000 in
theorem s_X2_readTests_4 (Q : Option Value → Hp → Prop) : ∀ A st h, b_X2_readTests_4 Q A st h → wp 3 MX2_readTests Q 4 A st h := (q1 (s_ildn (n := 3) (i := 3) rfl) D_X2_readTests_4 fun D => (q1 (s_sipush (n := 500) (v := 500) (by decide)) D fun D => (qB s_cmpgt 45 (by decide) D (s_keep [true, false, false, false] fun _ _ _ h => h) fun D => (q1 (s_ildn (n := 2) (i := 2) rfl) D fun D => (qB s_ifeq 45 (by decide) D (s_keep [true, false, false, false] fun _ _ _ h => h) fun D => (q1 (s_aldn (n := 0) (i := 0) rfl) D fun D => (q1 (s_ildn (n := 3) (i := 3) rfl) D fun D => (q1 (s_iconst (n := 4) (v := 4) (by decide)) D fun D => (qX (s_callV kX2 rfl ok_X2_noteIfTooMany mo_X2_noteIfTooMany (ch_3_3_ok.1.1 rfl) (ch_3_3_ok.2.2.1.1 rfl) (pv_0.2.2.2.2.2.2.2.2.2.2.1)) rfl (by decide) D fun D => (q1 (s_aldn (n := 0) (i := 0) rfl) D fun D => (q1 (s_ildn (n := 1) (i := 1) rfl) D fun D => (qX (s_callV kX2 rfl ok_X2_readTest mo_X2_readTest (ch_3_3_ok.2.2.2.2.2.2.2.2.2.2.2.2.1.1 rfl) (ch_3_3_ok.2.2.2.2.2.2.2.2.2.2.2.2.2.2.1.1 rfl) (pv_0.2.2.2.2.2.2.2.2.2.2.2.2.2.1)) rfl (by decide) D fun D => (qBn s_ifne2 31 (by decide) D (q1 (s_aldn (n := 0) (i := 0) rfl) D_X2_readTests_31 fun D => (q1 (s_sipush (n := 257) (v := 257) (by decide)) D fun D => (qX (s_callV kX2 rfl ok_X2_skip mo_X2_skip (ch_3_3_ok.2.2.2.2.1.1 rfl) (ch_3_3_ok.2.2.2.2.2.2.1.1 rfl) (pv_0.2.2.2.2.2.2.2.2.2.2.2.1)) rfl (by decide) D fun D => (qL (s_istn (n := 2) (i := 2) rfl) (by decide) D fun D => (qL (s_inc (i := 3) (n := 1) (v := 1) (by decide)) (by decide) D fun D => (qG 4 (by decide) D (s_keep [true, true, true, true] fun _ _ _ h => h))))))) fun D => (q1 (s_iconst (n := 0) (v := 0) (by decide)) D fun D => (qZ rfl D)))))))))))))))
def b_X2_readTests_45 (Q : Option Value → Hp → Prop) : Kt := i_ald 0 (i_push (.int 58) (i_callV 2 1 T_X2_skip (i_zret Q)))
set_option maxRecDepth 100000 in
theorem s_X2_readTests_45 (Q : Option Value → Hp → Prop) : ∀ A st h, b_X2_readTests_45 Q A st h → wp 3 MX2_readTests Q 45 A st h := (q1 (s_aldn (n := 0) (i := 0) rfl) D_X2_readTests_45 fun D => (q1 (s_bipush (n := 58) (v := 58) (by decide)) D fun D => (qX (s_callV kX2 rfl ok_X2_skip mo_X2_skip (ch_3_3_ok.2.2.2.2.1.1 rfl) (ch_3_3_ok.2.2.2.2.2.2.1.1 rfl) (pv_0.2.2.2.2.2.2.2.2.2.2.2.1)) rfl (by decide) D fun D => (qZ rfl D))))

theorem PSt.at {f0 f M : Mem} {y q N k n s : Nat} (hy : y + 1 = q) (hs : PSt f0 f M y q N k n s) {s2 : Nat} (h2 : s2 ≤ N) : PSt f0 (u2 f y 1 (nI s2)) M y q N k n s2 := by
  obtain ⟨p1, p2, p3, p4, p5, p6⟩ := hs
  have go : ∀ a j, ¬ (a = y ∧ j = 1) → u2 f y 1 (nI s2) a j = f a j := fun a j h => u2_ne h
  refine ⟨p1.at _, u2_eq, h2, ?_, fun k16 => ?_, fun l hl hl16 => ?_, fun l hl hl16 => ?_, ?_⟩
  · rw [go y 2 (by omega)]; exact p4
  · obtain ⟨q1, q2, q3⟩ := p5 k16
    exact ⟨by rw [go _ _ (by omega)]; exact q1, q2, fun t ht => tsM_c (fun i i1 i2 => go _ _ (by omega)) (fun a a1 a2 => rfl) (q3 t ht)⟩
  · exact LnC_c (go _ _ (by omega)) (go _ _ (by omega)) (go _ _ (by omega)) (fun i t t4 i1 i2 => go _ _ (by omega)) rfl rfl rfl (fun a t t4 a1 a2 => rfl) (p6.1 l hl hl16)
  · rw [go _ _ (by omega)]; exact p6.2.1 l hl hl16
  · rw [go _ _ (by omega)]; exact p6.2.2
/-- one too many is noted on both sides -/
theorem PSt.many {f0 f M : Mem} {y q N k n s : Nat} (hy : y + 1 = q) (hs : PSt f0 f M y q N k n s) (hm : f y 2 = -1) (v : Int32) : PSt f0 (u2 f y 2 v) (pMany M v) y q N k n s := by
  obtain ⟨p1, p2, p3, p4, p5, p6⟩ := hs
  have hM : pMany M v = u2 M 44 45 v := if_pos (by rw [← p4]; exact hm)
  rw [hM]
  have go : ∀ a j, ¬ (a = y ∧ j = 2) → u2 f y 2 v a j = f a j := fun a j h => u2_ne h
  have Mo : ∀ a j, a ≠ 44 → u2 M 44 45 v a j = M a j := fun a j h => u2_ne (fun z => h z.1)
  refine ⟨⟨fun a j a1 a2 => ?_, fun j j1 j2 => ?_⟩, ?_, p3, ?_, fun k16 => ?_, fun l hl hl16 => ?_, fun l hl hl16 => ?_, ?_⟩
  · rw [go a j (by omega)]; exact p1.1 a j a1 a2
  · rw [go y j (by omega)]; exact p1.2 j j1 j2
  · rw [go y 1 (by omega)]; exact p2
  · rw [u2_eq, u2_eq]
  · obtain ⟨q1, q2, q3⟩ := p5 k16
    exact ⟨by rw [go _ _ (by omega)]; exact q1, by rw [Mo _ _ (by decide)]; exact q2, fun t ht => tsM_c (fun i i1 i2 => go _ _ (by omega)) (fun a a1 a2 => Mo _ _ (by omega)) (q3 t ht)⟩
  · exact LnC_c (go _ _ (by omega)) (go _ _ (by omega)) (go _ _ (by omega)) (fun i t t4 i1 i2 => go _ _ (by omega)) (Mo _ _ (by decide)) (Mo _ _ (by decide)) (Mo _ _ (by decide)) (fun a t t4 a1 a2 => Mo _ _ (by omega)) (p6.1 l hl hl16)
  · rw [go _ _ (by omega)]; exact p6.2.1 l hl hl16
  · rw [go _ _ (by omega)]; exact p6.2.2
theorem pMany_no {M : Mem} (h : ¬ M 44 45 = -1) (v : Int32) : pMany M v = M := if_neg h
set_option maxRecDepth 100000 in
set_option maxHeartbeats 1000000 in
theorem xts_4 (Q : Option Value → Hp → Prop) (h : Hp) (y q z : Nat) (B : Nat → Int32) (L N : Nat) (f0 : Mem) (k : Nat) (he : PEn h y q z B L N f0) (hk : k ≤ 1000) :
    ∀ (m n : Nat) (f M : Mem) (s : Nat), m + n = 501 → PSt f0 f M y q N k n s → (4 < n → ¬ M 44 45 = -1) →
      (∀ f' n', (pTs B L (lI k) m n M s).1 = true → K B L (pTs B L (lI k) m n M s).2.2 = 58 → PSt f0 f' (pTs B L (lI k) m n M s).2.1 y q N k n' ((pTs B L (lI k) m n M s).2.2 + 1) → Q (some (.int 1)) (wI h f')) →
      (∀ f', (pTs B L (lI k) m n M s).1 = false ∨ ¬ K B L (pTs B L (lI k) m n M s).2.2 = 58 → PO f0 f' y q → f' y 1 = nI (pTs B L (lI k) m n M s).2.2 → (pTs B L (lI k) m n M s).2.2 ≤ N → Q (some (.int 0)) (wI h f')) →
      wp 3 MX2_readTests Q 4 [some (.ref y), some (.int (nI k)), some (.int 1), some (.int (nI n))] [] (wI h f) := by
  obtain ⟨⟨a1, a2, a3, a4⟩, z90, ey, eq⟩ := he.f
  have hL := he.2.2.2.2.2.2.2.2.1
  have b1 : ∀ g, y < hT (wI h g) := fun _ => a1
  have b2 : ∀ g, hK (wI h g) y = 2 := fun _ => a2
  -- the colon
  have h45 : ∀ (f M : Mem) (s n : Nat), PSt f0 f M y q N k n s → (K B L s = 58 → ∀ f', PSt f0 f' M y q N k n (s + 1) → Q (some (.int 1)) (wI h f')) → (¬ K B L s = 58 → Q (some (.int 0)) (wI h f)) → wp 3 MX2_readTests Q 45 [some (.ref y), none, none, none] [] (wI h f) := by
    intro f M s n hps g1 g0
    obtain ⟨p1, p2, p3, p4, p5, p6⟩ := id hps
    have hsk := skip_go he p1 p3 p2 (c := 58) (by decide) (Q := fun r h' => i_zret Q [some (.ref y), none, none, none] (r.toList ++ []) h') (fun e eN => by
      have hgo := g1 e _ (hps.at (by omega) eN)
      exact (show (((1 : Int32) = 0 ∨ (1 : Int32) = 1) ∧ Q (some (.int 1)) _) from ⟨Or.inr rfl, hgo⟩)) (fun e => by
      have hgo := g0 e
      generalize wI h f = H at hgo ⊢
      simp only [i_push, i_ild, i_ald, i_ist, i_ast, i_inc, i_bin, i_un, i_divs, i_i2l, i_lshl, i_lor, i_dup, i_dup2, i_pop, i_if, i_cmp, i_nul, i_vret, i_iret, i_zret, i_aret, i_keep, keep, lget, lset, ent, i_getI, i_getJ, i_getR, i_getN, i_putI, i_putZ, i_putJ, i_putR, i_iald, i_bald, i_alen, i_aald, i_iast, i_bast, i_aast, i_new, i_newa, i_anew, i_oini, i_callS, i_callV, i_callI, popn, sh4, i_sw, swP, i_copy, i_binS, List.map, Option.toList_none, Option.toList_some, List.append, List.nil_append, List.cons_append, List.length_cons, List.length_nil, List.replicate, Nat.sub_self, Nat.reduceSub, Nat.reduceAdd, hK_pI, hL_pI, hI_pI, hR_pI, hJ_pI, hT_pI, hS_pI, hK_pR, hL_pR, hI_pR, hR_pR, hJ_pR, hT_pR, hS_pR, hK_pJ, hL_pJ, hI_pJ, hR_pJ, hJ_pJ, hT_pJ, hS_pJ, hK_wI, hL_wI, hI_wI, hR_wI, hJ_wI, hT_wI, hS_wI, eq_self, and_true, true_and, and_false, false_and, or_true, true_or, or_false, false_or, if_true, if_false, not_true_eq_false, not_false_eq_true, forall_const, implies_true, false_implies, true_implies, Option.some.injEq, forall_eq', exists_eq_left', reduceCtorEq, Nat.reduceEqDiff, c1, T_X12_in, T_X12_ones, T_X11_within, T_X11_bit, T_X11_isIn, T_X11_oneIfIn, T_J6_bitCount_0f7a4]
      exact hgo)
    have c1 := b1 f
    have c2 := b2 f
    refine s_X2_readTests_45 Q _ _ _ ?_
    generalize wI h f = H at c1 c2 hsk ⊢
    simp only [b_X2_readTests_45, i_push, i_ild, i_ald, i_ist, i_ast, i_inc, i_bin, i_un, i_divs, i_i2l, i_lshl, i_lor, i_dup, i_dup2, i_pop, i_if, i_cmp, i_nul, i_vret, i_iret, i_zret, i_aret, i_keep, keep, lget, lset, ent, i_getI, i_getJ, i_getR, i_getN, i_putI, i_putZ, i_putJ, i_putR, i_iald, i_bald, i_alen, i_aald, i_iast, i_bast, i_aast, i_new, i_newa, i_anew, i_oini, i_callS, i_callV, i_callI, popn, sh4, i_sw, swP, i_copy, i_binS, List.map, Option.toList_none, Option.toList_some, List.append, List.nil_append, List.cons_append, List.length_cons, List.length_nil, List.replicate, Nat.sub_self, Nat.reduceSub, Nat.reduceAdd, hK_pI, hL_pI, hI_pI, hR_pI, hJ_pI, hT_pI, hS_pI, hK_pR, hL_pR, hI_pR, hR_pR, hJ_pR, hT_pR, hS_pR, hK_pJ, hL_pJ, hI_pJ, hR_pJ, hJ_pJ, hT_pJ, hS_pJ, hK_wI, hL_wI, hI_wI, hR_wI, hJ_wI, hT_wI, hS_wI, eq_self, and_true, true_and, and_false, false_and, or_true, true_or, or_false, false_or, if_true, if_false, not_true_eq_false, not_false_eq_true, forall_const, implies_true, false_implies, true_implies, Option.some.injEq, forall_eq', exists_eq_left', reduceCtorEq, Nat.reduceEqDiff, c1, T_X12_in, T_X12_ones, T_X11_within, T_X11_bit, T_X11_isIn, T_X11_oneIfIn, T_J6_bitCount_0f7a4, c1, c2]
    exact hsk
  intro m
  induction m with
  | zero =>
    intro n f M s hmn hps hbig hq1 hq0
    have e : n = 501 := by omega
    subst e
    have hgo := h45 f M s 501 hps (fun c f' hf' => hq1 f' 501 rfl c hf') (fun c => hq0 f (Or.inr c) hps.1 hps.2.1 hps.2.2.1)
    refine s_X2_readTests_4 Q _ _ _ ?_
    generalize wI h f = H at hgo ⊢
    have c : (500 : Int32) < nI 501 := by decide
    simp only [b_X2_readTests_4, i_push, i_ild, i_ald, i_ist, i_ast, i_inc, i_bin, i_un, i_divs, i_i2l, i_lshl, i_lor, i_dup, i_dup2, i_pop, i_if, i_cmp, i_nul, i_vret, i_iret, i_zret, i_aret, i_keep, keep, lget, lset, ent, i_getI, i_getJ, i_getR, i_getN, i_putI, i_putZ, i_putJ, i_putR, i_iald, i_bald, i_alen, i_aald, i_iast, i_bast, i_aast, i_new, i_newa, i_anew, i_oini, i_callS, i_callV, i_callI, popn, sh4, i_sw, swP, i_copy, i_binS, List.map, Option.toList_none, Option.toList_some, List.append, List.nil_append, List.cons_append, List.length_cons, List.length_nil, List.replicate, Nat.sub_self, Nat.reduceSub, Nat.reduceAdd, hK_pI, hL_pI, hI_pI, hR_pI, hJ_pI, hT_pI, hS_pI, hK_pR, hL_pR, hI_pR, hR_pR, hJ_pR, hT_pR, hS_pR, hK_pJ, hL_pJ, hI_pJ, hR_pJ, hJ_pJ, hT_pJ, hS_pJ, hK_wI, hL_wI, hI_wI, hR_wI, hJ_wI, hT_wI, hS_wI, eq_self, and_true, true_and, and_false, false_and, or_true, true_or, or_false, false_or, if_true, if_false, not_true_eq_false, not_false_eq_true, forall_const, implies_true, false_implies, true_implies, Option.some.injEq, forall_eq', exists_eq_left', reduceCtorEq, Nat.reduceEqDiff, c1, T_X12_in, T_X12_ones, T_X11_within, T_X11_bit, T_X11_isIn, T_X11_oneIfIn, T_J6_bitCount_0f7a4, c]
    exact hgo
  | succ m ih =>
    intro n f M s hmn hps hbig hq1 hq0
    obtain ⟨p1, p2, p3, p4, p5, p6⟩ := id hps
    obtain ⟨M1, hM1⟩ : ∃ M1, M1 = (if n = 4 then pMany M (nI (bgT B L s)) else M) := ⟨_, rfl⟩
    have hpT : pT B L (lI k) n M s = rT B L (lI k) n M1 s := by rw [pT_rT, hM1]
    have hbL := bgT_le B L s
    have hpTs : pTs B L (lI k) (m + 1) n M s = if (rT B L (lI k) n M1 s).1 = true then (if K B L (rT B L (lI k) n M1 s).2.2 = 257 then pTs B L (lI k) m (n + 1) (rT B L (lI k) n M1 s).2.1 ((rT B L (lI k) n M1 s).2.2 + 1) else rT B L (lI k) n M1 s) else rT B L (lI k) n M1 s := by
      show (if (pT B L (lI k) n M s).1 = true then _ else _) = _
      rw [hpT]
    have hkp : (rT B L (lI k) n M1 s).1 = true → 4 < n + 1 → ¬ (rT B L (lI k) n M1 s).2.1 44 45 = -1 := fun ht hn => by
      have hrk := (pT_rk B L (lI k) n M s hL).1
      rw [hpT] at hrk
      have hkp := (hrk ht).1
      by_cases c : 4 < n
      · exact hkp.2.2.1 (hbig c)
      · have e4 : n = 4 := by omega
        -- the fifth was noted
        have : rT B L (lI k) n M1 s = rT B L (lI k) n M1 s := rfl
        have hM1' : ¬ M1 44 45 = -1 := by
          rw [hM1, if_pos e4]
          unfold pMany
          by_cases c2 : M 44 45 = -1
          · rw [if_pos c2, u2_eq]; exact nI_m1 _ (by omega)
          · rw [if_neg c2]; exact c2
        have hr5 := (pT_rk B L (lI k) 5 M1 s hL).1
        have hpT5 : pT B L (lI k) 5 M1 s = rT B L (lI k) 5 M1 s := by rw [pT_rT, if_neg (by decide)]
        -- the memory's 44 45 after rT is M1's, whatever n
        have hsame : (rT B L (lI k) n M1 s).2.1 44 45 = M1 44 45 := by
          unfold rT
          have hw : ∀ w s' v, pWr M1 (lI k) n w s' v 44 45 = M1 44 45 := fun w s' v => by
            unfold pWr
            split
            · rw [u2_ne (by omega), u2_ne (by omega), u2_ne (by omega), u2_ne (by omega)]
            · rfl
          have hfl : ∀ v, pFail M1 v 44 45 = M1 44 45 := fun v => by
            unfold pFail
            rw [u2_ne (by omega), u2_ne (by omega)]
          split
          · split
            · split
              · exact hw _ _ _
              · exact hfl (nI (bgT B L (t1T B L s + 2)))
            · exact hfl (nI (bgT B L (t1T B L s + 1)))
          · split
            · exact hw _ _ _
            · exact hfl (nI (bgT B L (t1T B L s)))
        rw [hsame]; exact hM1'
    rw [hpTs] at hq1 hq0
    -- after a test that was read
    have h38 : ∀ f', (rT B L (lI k) n M1 s).1 = true → PSt f0 f' (rT B L (lI k) n M1 s).2.1 y q N k (n + 1) (rT B L (lI k) n M1 s).2.2 → T_X2_skip [.ref y, .int 257] (wI h f') (fun r h' => c_X2_readTests_38 Q [some (.ref y), some (.int (nI k)), some (.int 1), some (.int (nI n))] (r.toList ++ []) h') := by
      intro f' ht hps'
      rw [if_pos ht] at hq1 hq0
      refine skip_go he hps'.1 hps'.2.2.1 hps'.2.1 (by decide) (fun e eN => ?_) (fun e => ?_)
      · rw [if_pos e] at hq1 hq0
        have hgo := ih (n + 1) _ _ _ (by omega) (hps'.at (by omega) eN) (hkp ht) hq1 hq0
        show c_X2_readTests_38 Q _ [.int 1] _
        generalize wI h (u2 f' y 1 (nI ((rT B L (lI k) n M1 s).2.2 + 1))) = H at hgo ⊢
        simp only [c_X2_readTests_38, i_push, i_ild, i_ald, i_ist, i_ast, i_inc, i_bin, i_un, i_divs, i_i2l, i_lshl, i_lor, i_dup, i_dup2, i_pop, i_if, i_cmp, i_nul, i_vret, i_iret, i_zret, i_aret, i_keep, keep, lget, lset, ent, i_getI, i_getJ, i_getR, i_getN, i_putI, i_putZ, i_putJ, i_putR, i_iald, i_bald, i_alen, i_aald, i_iast, i_bast, i_aast, i_new, i_newa, i_anew, i_oini, i_callS, i_callV, i_callI, popn, sh4, i_sw, swP, i_copy, i_binS, List.map, Option.toList_none, Option.toList_some, List.append, List.nil_append, List.cons_append, List.length_cons, List.length_nil, List.replicate, Nat.sub_self, Nat.reduceSub, Nat.reduceAdd, hK_pI, hL_pI, hI_pI, hR_pI, hJ_pI, hT_pI, hS_pI, hK_pR, hL_pR, hI_pR, hR_pR, hJ_pR, hT_pR, hS_pR, hK_pJ, hL_pJ, hI_pJ, hR_pJ, hJ_pJ, hT_pJ, hS_pJ, hK_wI, hL_wI, hI_wI, hR_wI, hJ_wI, hT_wI, hS_wI, eq_self, and_true, true_and, and_false, false_and, or_true, true_or, or_false, false_or, if_true, if_false, not_true_eq_false, not_false_eq_true, forall_const, implies_true, false_implies, true_implies, Option.some.injEq, forall_eq', exists_eq_left', reduceCtorEq, Nat.reduceEqDiff, c1, T_X12_in, T_X12_ones, T_X11_within, T_X11_bit, T_X11_isIn, T_X11_oneIfIn, T_J6_bitCount_0f7a4, nI_1]
        exact hgo
      · rw [if_neg e] at hq1 hq0
        have hgo := h45 f' _ _ _ hps' (fun c f2 hf2 => hq1 f2 (n + 1) ht c hf2) (fun c => hq0 f' (Or.inr c) hps'.1 hps'.2.1 hps'.2.2.1)
        have h4 : wp 3 MX2_readTests Q 4 [some (.ref y), some (.int (nI k)), some (.int 0), some (.int (nI (n + 1)))] [] (wI h f') := by
          refine s_X2_readTests_4 Q _ _ _ ?_
          generalize wI h f' = H at hgo ⊢
          simp only [b_X2_readTests_4, i_push, i_ild, i_ald, i_ist, i_ast, i_inc, i_bin, i_un, i_divs, i_i2l, i_lshl, i_lor, i_dup, i_dup2, i_pop, i_if, i_cmp, i_nul, i_vret, i_iret, i_zret, i_aret, i_keep, keep, lget, lset, ent, i_getI, i_getJ, i_getR, i_getN, i_putI, i_putZ, i_putJ, i_putR, i_iald, i_bald, i_alen, i_aald, i_iast, i_bast, i_aast, i_new, i_newa, i_anew, i_oini, i_callS, i_callV, i_callI, popn, sh4, i_sw, swP, i_copy, i_binS, List.map, Option.toList_none, Option.toList_some, List.append, List.nil_append, List.cons_append, List.length_cons, List.length_nil, List.replicate, Nat.sub_self, Nat.reduceSub, Nat.reduceAdd, hK_pI, hL_pI, hI_pI, hR_pI, hJ_pI, hT_pI, hS_pI, hK_pR, hL_pR, hI_pR, hR_pR, hJ_pR, hT_pR, hS_pR, hK_pJ, hL_pJ, hI_pJ, hR_pJ, hJ_pJ, hT_pJ, hS_pJ, hK_wI, hL_wI, hI_wI, hR_wI, hJ_wI, hT_wI, hS_wI, eq_self, and_true, true_and, and_false, false_and, or_true, true_or, or_false, false_or, if_true, if_false, not_true_eq_false, not_false_eq_true, forall_const, implies_true, false_implies, true_implies, Option.some.injEq, forall_eq', exists_eq_left', reduceCtorEq, Nat.reduceEqDiff, c1, T_X12_in, T_X12_ones, T_X11_within, T_X11_bit, T_X11_isIn, T_X11_oneIfIn, T_J6_bitCount_0f7a4]
          exact ⟨fun _ => hgo, fun _ => hgo⟩
        show c_X2_readTests_38 Q _ [.int 0] _
        generalize wI h f' = H at h4 ⊢
        simp only [c_X2_readTests_38, i_push, i_ild, i_ald, i_ist, i_ast, i_inc, i_bin, i_un, i_divs, i_i2l, i_lshl, i_lor, i_dup, i_dup2, i_pop, i_if, i_cmp, i_nul, i_vret, i_iret, i_zret, i_aret, i_keep, keep, lget, lset, ent, i_getI, i_getJ, i_getR, i_getN, i_putI, i_putZ, i_putJ, i_putR, i_iald, i_bald, i_alen, i_aald, i_iast, i_bast, i_aast, i_new, i_newa, i_anew, i_oini, i_callS, i_callV, i_callI, popn, sh4, i_sw, swP, i_copy, i_binS, List.map, Option.toList_none, Option.toList_some, List.append, List.nil_append, List.cons_append, List.length_cons, List.length_nil, List.replicate, Nat.sub_self, Nat.reduceSub, Nat.reduceAdd, hK_pI, hL_pI, hI_pI, hR_pI, hJ_pI, hT_pI, hS_pI, hK_pR, hL_pR, hI_pR, hR_pR, hJ_pR, hT_pR, hS_pR, hK_pJ, hL_pJ, hI_pJ, hR_pJ, hJ_pJ, hT_pJ, hS_pJ, hK_wI, hL_wI, hI_wI, hR_wI, hJ_wI, hT_wI, hS_wI, eq_self, and_true, true_and, and_false, false_and, or_true, true_or, or_false, false_or, if_true, if_false, not_true_eq_false, not_false_eq_true, forall_const, implies_true, false_implies, true_implies, Option.some.injEq, forall_eq', exists_eq_left', reduceCtorEq, Nat.reduceEqDiff, c1, T_X12_in, T_X12_ones, T_X11_within, T_X11_bit, T_X11_isIn, T_X11_oneIfIn, T_J6_bitCount_0f7a4, nI_1]
        exact h4
    -- the test itself, from the noted state
    have h21 : ∀ f1, PSt f0 f1 M1 y q N k n s → c_X2_readTests_21 Q [some (.ref y), some (.int (nI k)), some (.int 1), some (.int (nI n))] [] (wI h f1) := by
      intro f1 hps1
      have hcall : T_X2_readTest [.ref y, .int (nI k)] (wI h f1) (fun r h' => c_X2_readTests_26 Q [some (.ref y), some (.int (nI k)), some (.int 1), some (.int (nI n))] (r.toList ++ []) h') := by
        refine ⟨q, z, B, L, N, f0, M1, k, n, s, he, rfl, hk, hps1, fun f' ht hps' => ?_, fun f' ht ho' h1' hN' => ?_⟩
        · have hgo := h38 f' ht hps'
          have c1 := b1 f'
          have c2 := b2 f'
          show c_X2_readTests_26 Q _ [.int 1] (wI h f')
          generalize wI h f' = H at c1 c2 hgo ⊢
          simp only [c_X2_readTests_26, i_push, i_ild, i_ald, i_ist, i_ast, i_inc, i_bin, i_un, i_divs, i_i2l, i_lshl, i_lor, i_dup, i_dup2, i_pop, i_if, i_cmp, i_nul, i_vret, i_iret, i_zret, i_aret, i_keep, keep, lget, lset, ent, i_getI, i_getJ, i_getR, i_getN, i_putI, i_putZ, i_putJ, i_putR, i_iald, i_bald, i_alen, i_aald, i_iast, i_bast, i_aast, i_new, i_newa, i_anew, i_oini, i_callS, i_callV, i_callI, popn, sh4, i_sw, swP, i_copy, i_binS, List.map, Option.toList_none, Option.toList_some, List.append, List.nil_append, List.cons_append, List.length_cons, List.length_nil, List.replicate, Nat.sub_self, Nat.reduceSub, Nat.reduceAdd, hK_pI, hL_pI, hI_pI, hR_pI, hJ_pI, hT_pI, hS_pI, hK_pR, hL_pR, hI_pR, hR_pR, hJ_pR, hT_pR, hS_pR, hK_pJ, hL_pJ, hI_pJ, hR_pJ, hJ_pJ, hT_pJ, hS_pJ, hK_wI, hL_wI, hI_wI, hR_wI, hJ_wI, hT_wI, hS_wI, eq_self, and_true, true_and, and_false, false_and, or_true, true_or, or_false, false_or, if_true, if_false, not_true_eq_false, not_false_eq_true, forall_const, implies_true, false_implies, true_implies, Option.some.injEq, forall_eq', exists_eq_left', reduceCtorEq, Nat.reduceEqDiff, c1, T_X12_in, T_X12_ones, T_X11_within, T_X11_bit, T_X11_isIn, T_X11_oneIfIn, T_J6_bitCount_0f7a4, c1, c2, show ¬ (1 : Int32) = 0 by decide]
          exact hgo
        · rw [if_neg (by rw [ht]; decide)] at hq0
          have hgo := hq0 f' (Or.inl ht) ho' h1' hN'
          show c_X2_readTests_26 Q _ [.int 0] (wI h f')
          generalize wI h f' = H at hgo ⊢
          simp only [c_X2_readTests_26, i_push, i_ild, i_ald, i_ist, i_ast, i_inc, i_bin, i_un, i_divs, i_i2l, i_lshl, i_lor, i_dup, i_dup2, i_pop, i_if, i_cmp, i_nul, i_vret, i_iret, i_zret, i_aret, i_keep, keep, lget, lset, ent, i_getI, i_getJ, i_getR, i_getN, i_putI, i_putZ, i_putJ, i_putR, i_iald, i_bald, i_alen, i_aald, i_iast, i_bast, i_aast, i_new, i_newa, i_anew, i_oini, i_callS, i_callV, i_callI, popn, sh4, i_sw, swP, i_copy, i_binS, List.map, Option.toList_none, Option.toList_some, List.append, List.nil_append, List.cons_append, List.length_cons, List.length_nil, List.replicate, Nat.sub_self, Nat.reduceSub, Nat.reduceAdd, hK_pI, hL_pI, hI_pI, hR_pI, hJ_pI, hT_pI, hS_pI, hK_pR, hL_pR, hI_pR, hR_pR, hJ_pR, hT_pR, hS_pR, hK_pJ, hL_pJ, hI_pJ, hR_pJ, hJ_pJ, hT_pJ, hS_pJ, hK_wI, hL_wI, hI_wI, hR_wI, hJ_wI, hT_wI, hS_wI, eq_self, and_true, true_and, and_false, false_and, or_true, true_or, or_false, false_or, if_true, if_false, not_true_eq_false, not_false_eq_true, forall_const, implies_true, false_implies, true_implies, Option.some.injEq, forall_eq', exists_eq_left', reduceCtorEq, Nat.reduceEqDiff, c1, T_X12_in, T_X12_ones, T_X11_within, T_X11_bit, T_X11_isIn, T_X11_oneIfIn, T_J6_bitCount_0f7a4]
          exact hgo
      have c1 := b1 f1
      have c2 := b2 f1
      generalize wI h f1 = H at c1 c2 hcall ⊢
      simp only [c_X2_readTests_21, i_push, i_ild, i_ald, i_ist, i_ast, i_inc, i_bin, i_un, i_divs, i_i2l, i_lshl, i_lor, i_dup, i_dup2, i_pop, i_if, i_cmp, i_nul, i_vret, i_iret, i_zret, i_aret, i_keep, keep, lget, lset, ent, i_getI, i_getJ, i_getR, i_getN, i_putI, i_putZ, i_putJ, i_putR, i_iald, i_bald, i_alen, i_aald, i_iast, i_bast, i_aast, i_new, i_newa, i_anew, i_oini, i_callS, i_callV, i_callI, popn, sh4, i_sw, swP, i_copy, i_binS, List.map, Option.toList_none, Option.toList_some, List.append, List.nil_append, List.cons_append, List.length_cons, List.length_nil, List.replicate, Nat.sub_self, Nat.reduceSub, Nat.reduceAdd, hK_pI, hL_pI, hI_pI, hR_pI, hJ_pI, hT_pI, hS_pI, hK_pR, hL_pR, hI_pR, hR_pR, hJ_pR, hT_pR, hS_pR, hK_pJ, hL_pJ, hI_pJ, hR_pJ, hJ_pJ, hT_pJ, hS_pJ, hK_wI, hL_wI, hI_wI, hR_wI, hJ_wI, hT_wI, hS_wI, eq_self, and_true, true_and, and_false, false_and, or_true, true_or, or_false, false_or, if_true, if_false, not_true_eq_false, not_false_eq_true, forall_const, implies_true, false_implies, true_implies, Option.some.injEq, forall_eq', exists_eq_left', reduceCtorEq, Nat.reduceEqDiff, c1, T_X12_in, T_X12_ones, T_X11_within, T_X11_bit, T_X11_isIn, T_X11_oneIfIn, T_J6_bitCount_0f7a4, c1, c2]
      exact hcall
    have hnote := note_go he p1 p3 p2 (a := n) (b := 4) (by omega) (by decide) (Q := fun r h' => c_X2_readTests_21 Q [some (.ref y), some (.int (nI k)), some (.int 1), some (.int (nI n))] (r.toList ++ []) h') (fun c c2 => by
      have e4 : n = 4 := by
        apply Classical.byContradiction
        intro w
        exact hbig (by omega) (by rw [← p4]; exact c2)
      refine h21 _ ?_
      rw [hM1, if_pos e4]
      exact hps.many (by omega) c2 _) (fun c => by
      refine h21 f ?_
      have : M1 = M := by
        rw [hM1]
        by_cases e4 : n = 4
        · rw [if_pos e4]
          exact pMany_no (fun w => c ⟨by omega, by rw [p4]; exact w⟩) _
        · rw [if_neg e4]
      rw [this]; exact hps)
    have h5 : ¬ (500 : Int32) < nI n := by
      have : (500 : Int32) < nI n ↔ 500 < n := nI_ltI (a := 500) (by decide) (by omega)
      rw [this]; omega
    have c1 := b1 f
    have c2 := b2 f
    have e4 : (4 : Int32) = nI 4 := rfl
    rw [← e4] at hnote
    refine s_X2_readTests_4 Q _ _ _ ?_
    generalize wI h f = H at c1 c2 hnote ⊢
    simp only [b_X2_readTests_4, i_push, i_ild, i_ald, i_ist, i_ast, i_inc, i_bin, i_un, i_divs, i_i2l, i_lshl, i_lor, i_dup, i_dup2, i_pop, i_if, i_cmp, i_nul, i_vret, i_iret, i_zret, i_aret, i_keep, keep, lget, lset, ent, i_getI, i_getJ, i_getR, i_getN, i_putI, i_putZ, i_putJ, i_putR, i_iald, i_bald, i_alen, i_aald, i_iast, i_bast, i_aast, i_new, i_newa, i_anew, i_oini, i_callS, i_callV, i_callI, popn, sh4, i_sw, swP, i_copy, i_binS, List.map, Option.toList_none, Option.toList_some, List.append, List.nil_append, List.cons_append, List.length_cons, List.length_nil, List.replicate, Nat.sub_self, Nat.reduceSub, Nat.reduceAdd, hK_pI, hL_pI, hI_pI, hR_pI, hJ_pI, hT_pI, hS_pI, hK_pR, hL_pR, hI_pR, hR_pR, hJ_pR, hT_pR, hS_pR, hK_pJ, hL_pJ, hI_pJ, hR_pJ, hJ_pJ, hT_pJ, hS_pJ, hK_wI, hL_wI, hI_wI, hR_wI, hJ_wI, hT_wI, hS_wI, eq_self, and_true, true_and, and_false, false_and, or_true, true_or, or_false, false_or, if_true, if_false, not_true_eq_false, not_false_eq_true, forall_const, implies_true, false_implies, true_implies, Option.some.injEq, forall_eq', exists_eq_left', reduceCtorEq, Nat.reduceEqDiff, c1, T_X12_in, T_X12_ones, T_X11_within, T_X11_bit, T_X11_isIn, T_X11_oneIfIn, T_J6_bitCount_0f7a4, c1, c2, h5, show ¬ (1 : Int32) = 0 by decide]
    exact hnote
set_option maxRecDepth 100000 in
set_option maxHeartbeats 4000000 in
theorem ok_X2_readTests : ctr 3 MX2_readTests T_X2_readTests := by
  refine ctr_of pn_X2 wc_X2_readTests (fun av h Q hT => ?_)
  unfold T_X2_readTests at hT
  split at hT
  · rename_i y x
    refine ⟨⟨by simp [Value.category], Nat.le_of_ble_eq_true rfl⟩, s_X2_readTests_0 Q _ _ _ ?_⟩
    obtain ⟨q, z, B, L, N, f0, M, k, s, he, rfl, hk, hps, hq1, hq0⟩ := hT
    have := xts_4 Q h y q z B L N f0 k he hk 501 0 (hI h) M s rfl hps (fun c => by omega) hq1 hq0
    have e : wI h (hI h) = h := rfl
    rw [e] at this
    simp only [MX2_readTests, b_X2_readTests_0, i_push, i_ild, i_ald, i_ist, i_ast, i_inc, i_bin, i_un, i_divs, i_i2l, i_lshl, i_lor, i_dup, i_dup2, i_pop, i_if, i_cmp, i_nul, i_vret, i_iret, i_zret, i_aret, i_keep, keep, lget, lset, ent, i_getI, i_getJ, i_getR, i_getN, i_putI, i_putZ, i_putJ, i_putR, i_iald, i_bald, i_alen, i_aald, i_iast, i_bast, i_aast, i_new, i_newa, i_anew, i_oini, i_callS, i_callV, i_callI, popn, sh4, i_sw, swP, i_copy, i_binS, List.map, Option.toList_none, Option.toList_some, List.append, List.nil_append, List.cons_append, List.length_cons, List.length_nil, List.replicate, Nat.sub_self, Nat.reduceSub, Nat.reduceAdd, hK_pI, hL_pI, hI_pI, hR_pI, hJ_pI, hT_pI, hS_pI, hK_pR, hL_pR, hI_pR, hR_pR, hJ_pR, hT_pR, hS_pR, hK_pJ, hL_pJ, hI_pJ, hR_pJ, hJ_pJ, hT_pJ, hS_pJ, hK_wI, hL_wI, hI_wI, hR_wI, hJ_wI, hT_wI, hS_wI, eq_self, and_true, true_and, and_false, false_and, or_true, true_or, or_false, false_or, if_true, if_false, not_true_eq_false, not_false_eq_true, forall_const, implies_true, false_implies, true_implies, Option.some.injEq, forall_eq', exists_eq_left', reduceCtorEq, Nat.reduceEqDiff, c1, T_X12_in, T_X12_ones, T_X11_within, T_X11_bit, T_X11_isIn, T_X11_oneIfIn, T_J6_bitCount_0f7a4]
    exact this
  · exact hT.elim
