set_option maxRecDepth 100000 in
set_option maxHeartbeats 4000000 in
theorem ord_7 (Q : Option Value → Hp → Prop) (h : Hp) (hl0 : LayM h) (E Ln P : Nat) (door cold : Int32) (hE : E ≤ 400) (he : hI h 76 0 = nI E) (hLn : Ln ≤ 16) (hln : hI h 69 0 = nI Ln) (hok : linOk (hI h) Ln) (hP : P ≤ 24) (h52 : hI h 52 0 = nI P)
    (hout : ∀ f, MO (hI h) f E Ln door cold P → wp 4 MX12_makeOrder Q 176 [some (.ref 44), none, none, some (.int (nI 0)), none] [] (wI h f)) :
    ∀ (m p : Nat) (f : Nat → Nat → Int32), m = P - p → p ≤ P → MO (hI h) f E Ln door cold p → wp 4 MX12_makeOrder Q 7 [some (.ref 44), some (.int door), some (.int cold), some (.int (nI p)), none] [] (wI h f) := by
  intro m
  induction m with
  | zero =>
    intro p f hm hp hmo
    have e : p = P := by omega
    subst e
    have hl : LayM (wI h f) := hl0.wI _
    have e52 : hI (wI h f) 52 0 = nI p := (hmo.2.2.2.2.2 52 0 (by decide) (by decide) (by decide) (by decide) (by decide)).trans h52
    have ho := hout f hmo
    generalize wI h f = g at hl e52 ho ⊢
    refine s_X12_makeOrder_7 Q _ _ _ ?_
    simp only [b_X12_makeOrder_7, hl, lay_pI, lay_wI, lay_pJ, lm_t hl, lm_k hl, lm_r hl, lm_l hl, i_push, i_ild, i_ald, i_ist, i_ast, i_inc, i_bin, i_un, i_divs, i_i2l, i_lshl, i_lor, i_dup, i_dup2, i_pop, i_if, i_cmp, i_nul, i_vret, i_iret, i_zret, i_aret, i_keep, keep, lget, lset, ent, i_getI, i_getJ, i_getR, i_getN, i_putI, i_putZ, i_putJ, i_putR, i_iald, i_bald, i_alen, i_aald, i_iast, i_bast, i_aast, i_new, i_newa, i_anew, i_oini, i_callS, i_callV, i_callI, popn, sh4, i_sw, swP, i_copy, i_binS, List.map, Option.toList_none, Option.toList_some, List.append, List.nil_append, List.cons_append, List.length_cons, List.length_nil, List.replicate, Nat.sub_self, Nat.reduceSub, Nat.reduceAdd, hK_pI, hL_pI, hI_pI, hR_pI, hJ_pI, hT_pI, hS_pI, hK_pR, hL_pR, hI_pR, hR_pR, hJ_pR, hT_pR, hS_pR, hK_pJ, hL_pJ, hI_pJ, hR_pJ, hJ_pJ, hT_pJ, hS_pJ, hK_wI, hL_wI, hI_wI, hR_wI, hJ_wI, hT_wI, hS_wI, eq_self, and_true, true_and, and_false, false_and, or_true, true_or, or_false, false_or, if_true, if_false, not_true_eq_false, not_false_eq_true, forall_const, implies_true, false_implies, true_implies, Option.some.injEq, forall_eq', exists_eq_left', reduceCtorEq, Nat.reduceEqDiff, c1, T_X12_in, T_X12_ones, T_X11_within, T_X11_bit, T_X11_isIn, T_X11_oneIfIn, T_J6_bitCount_0f7a4, in0 4 (by decide) (by decide), cl0, e52]
    exact ⟨fun _ => ho, fun c => absurd (nI_le (Nat.le_refl _) (by omega)) c⟩
  | succ m ih =>
    intro p f hm hp hmo
    obtain ⟨m1, m2, m3, m4', m5, m6⟩ := id hmo
    obtain ⟨on, oj⟩ := ordS_ok (hI h) E Ln door cold p
    have h168 : ∀ g, MO (hI h) g E Ln door cold (p + 1) → wp 4 MX12_makeOrder Q 168 [some (.ref 44), some (.int door), some (.int cold), some (.int (nI p)), none] [] (wI h g) := by
      intro g hg
      refine s_X12_makeOrder_168 Q _ _ _ ?_
      simp only [b_X12_makeOrder_168, i_push, i_ild, i_ald, i_ist, i_ast, i_inc, i_bin, i_un, i_divs, i_i2l, i_lshl, i_lor, i_dup, i_dup2, i_pop, i_if, i_cmp, i_nul, i_vret, i_iret, i_zret, i_aret, i_keep, keep, lget, lset, ent, i_getI, i_getJ, i_getR, i_getN, i_putI, i_putZ, i_putJ, i_putR, i_iald, i_bald, i_alen, i_aald, i_iast, i_bast, i_aast, i_new, i_newa, i_anew, i_oini, i_callS, i_callV, i_callI, popn, sh4, i_sw, swP, i_copy, i_binS, List.map, Option.toList_none, Option.toList_some, List.append, List.nil_append, List.cons_append, List.length_cons, List.length_nil, List.replicate, Nat.sub_self, Nat.reduceSub, Nat.reduceAdd, hK_pI, hL_pI, hI_pI, hR_pI, hJ_pI, hT_pI, hS_pI, hK_pR, hL_pR, hI_pR, hR_pR, hJ_pR, hT_pR, hS_pR, hK_pJ, hL_pJ, hI_pJ, hR_pJ, hJ_pJ, hT_pJ, hS_pJ, hK_wI, hL_wI, hI_wI, hR_wI, hJ_wI, hT_wI, hS_wI, eq_self, and_true, true_and, and_false, false_and, or_true, true_or, or_false, false_or, if_true, if_false, not_true_eq_false, not_false_eq_true, forall_const, implies_true, false_implies, true_implies, Option.some.injEq, forall_eq', exists_eq_left', reduceCtorEq, Nat.reduceEqDiff, c1, T_X12_in, T_X12_ones, T_X11_within, T_X11_bit, T_X11_isIn, T_X11_oneIfIn, T_J6_bitCount_0f7a4, nI_1]
      exact ih (p + 1) g (by omega) (by omega) hg
    -- rows 78 and 79 are cleared
    obtain ⟨f1, hf1⟩ : ∃ f1, f1 = u2 (u2 f 78 p (-1)) 79 p (-1) := ⟨_, rfl⟩
    have hH1 : pI (pI (wI h f) 78 p (-1)) 79 p (-1) = wI h f1 := by rw [hf1]; rfl
    have hl : LayM (wI h f) := hl0.wI _
    have hl1 : LayM (wI h f1) := hl0.wI _
    have f1o : ∀ a i, a ≠ 78 → a ≠ 79 → f1 a i = f a i := fun a i a1 a2 => by rw [hf1, u2_ne (fun q => a2 q.1), u2_ne (fun q => a1 q.1)]
    have f178 : f1 78 p = -1 := by rw [hf1, u2_ne (fun q => by cases q.1), u2_eq]
    have f179 : f1 79 p = -1 := by rw [hf1, u2_eq]
    have f178o : ∀ q, q ≠ p → f1 78 q = f 78 q ∧ f1 79 q = f 79 q := fun q hq => ⟨by rw [hf1, u2_ne (fun z => by cases z.1), u2_ne (fun z => hq z.2)], by rw [hf1, u2_ne (fun z => hq z.2), u2_ne (fun z => by cases z.1)]⟩
    have hsame : sameP f1 (hI h) := fun a a1 a2 => by
      funext i
      rw [f1o a i (by omega) (by omega)]
      exact m6 a i (by omega) (by omega) (by omega) (by omega) (by omega)
    have e52 : hI (wI h f) 52 0 = nI P := (m6 52 0 (by decide) (by decide) (by decide) (by decide) (by decide)).trans h52
    refine s_X12_makeOrder_7 Q _ _ _ ?_
    generalize hgf : wI h f = gf at hl e52 hH1 ⊢
    simp only [b_X12_makeOrder_7, hl, lay_pI, lay_wI, lay_pJ, lm_t hl, lm_k hl, lm_r hl, lm_l hl, i_push, i_ild, i_ald, i_ist, i_ast, i_inc, i_bin, i_un, i_divs, i_i2l, i_lshl, i_lor, i_dup, i_dup2, i_pop, i_if, i_cmp, i_nul, i_vret, i_iret, i_zret, i_aret, i_keep, keep, lget, lset, ent, i_getI, i_getJ, i_getR, i_getN, i_putI, i_putZ, i_putJ, i_putR, i_iald, i_bald, i_alen, i_aald, i_iast, i_bast, i_aast, i_new, i_newa, i_anew, i_oini, i_callS, i_callV, i_callI, popn, sh4, i_sw, swP, i_copy, i_binS, List.map, Option.toList_none, Option.toList_some, List.append, List.nil_append, List.cons_append, List.length_cons, List.length_nil, List.replicate, Nat.sub_self, Nat.reduceSub, Nat.reduceAdd, hK_pI, hL_pI, hI_pI, hR_pI, hJ_pI, hT_pI, hS_pI, hK_pR, hL_pR, hI_pR, hR_pR, hJ_pR, hT_pR, hS_pR, hK_pJ, hL_pJ, hI_pJ, hR_pJ, hJ_pJ, hT_pJ, hS_pJ, hK_wI, hL_wI, hI_wI, hR_wI, hJ_wI, hT_wI, hS_wI, eq_self, and_true, true_and, and_false, false_and, or_true, true_or, or_false, false_or, if_true, if_false, not_true_eq_false, not_false_eq_true, forall_const, implies_true, false_implies, true_implies, Option.some.injEq, forall_eq', exists_eq_left', reduceCtorEq, Nat.reduceEqDiff, c1, T_X12_in, T_X12_ones, T_X11_within, T_X11_bit, T_X11_isIn, T_X11_oneIfIn, T_J6_bitCount_0f7a4, in0 4 (by decide) (by decide), cl0, e52, cl_nI (show p < 2147483648 by omega), in_nI (show p < 96 by omega) (by decide), sh_bt door (show p < 32 by omega), hH1]
    refine ⟨fun c => absurd c (nI_ge (by omega) (by omega)), fun _ => ⟨fun c => h168 f1 ?_, fun c => ?_⟩⟩
    · have hno : ¬ inO (hI h) E Ln door cold p := fun z => by have := z.1; rw [c] at this; cases this
      have eo : ordS (hI h) E Ln door cold (p + 1) = ordS (hI h) E Ln door cold p := cif_f hno
      refine MO_step hmo ?_ ?_ (fun z => by rw [c] at z; cases z) (fun q _ => f1o 87 q (by decide) (by decide)) ?_ f179 f178o (fun a i a1 a2 _ _ _ => f1o a i a1 a2)
      · rw [eo, f1o 44 53 (by decide) (by decide)]; exact m1
      · intro j hj; rw [eo] at hj ⊢; rw [f1o 86 j (by decide) (by decide)]; exact m2 j hj
      · rw [f178]; unfold whyF; rw [if_neg (by rw [c]; decide)]
    · have hb : bt door p = true := by simpa using c
      refine ⟨rfl, hl1, E, p, Ln, hE, ?_, rfl, by omega, hLn, ?_, ?_, ?_⟩
      · rw [show hI (wI h f1) 76 0 = f1 76 0 from rfl, hsame 76 (by decide) (by decide)]; exact he
      · rw [show hI (wI h f1) 69 0 = f1 69 0 from rfl, hsame 69 (by decide) (by decide)]; exact hln
      · intro l hlt
        obtain ⟨T, a, b⟩ := hok l hlt
        exact ⟨T, a, by rw [show hI (wI h f1) 70 l = f1 70 l from rfl, hsame 70 (by decide) (by decide)]; exact b⟩
      · have epts : ptsF (hI (wI h f1)) E p Ln cold = ptsF (hI h) E p Ln cold := ptsF_congr hsame E p Ln cold
        rw [epts]
        generalize hs : ptsF (hI h) E p Ln cold = s
        obtain ⟨f2, hf2⟩ : ∃ f2, f2 = u2 f1 87 p s := ⟨_, rfl⟩
        have hH2 : pI (wI h f1) 87 p s = wI h f2 := by rw [hf2]; rfl
        have hl2 : LayM (wI h f2) := hl0.wI _
        have f2o : ∀ a i, a ≠ 87 → f2 a i = f1 a i := fun a i a1 => by rw [hf2, u2_ne (fun q => a1 q.1)]
        have f287 : f2 87 p = s := by rw [hf2, u2_eq]
        have f287o : ∀ q, q ≠ p → f2 87 q = f 87 q := fun q hq => by rw [hf2, u2_ne (fun z => hq z.2), f1o 87 q (by decide) (by decide)]
        have e61 : f2 61 p = hI h 61 p := by rw [f2o 61 p (by decide), hsame 61 (by decide) (by decide)]
        have e53 : f2 44 53 = nI (ordS (hI h) E Ln door cold p).1 := by rw [f2o 44 53 (by decide), f1o 44 53 (by decide) (by decide)]; exact m1
        have h76 : hI h 61 p = 1 ∨ s = -2000000000 → wp 4 MX12_makeOrder Q 76 [some (.ref 44), some (.int door), some (.int cold), some (.int (nI p)), none] [] (wI h f2) := by
          intro hor
          have hno : ¬ inO (hI h) E Ln door cold p := fun z => by
            rcases hor with q | q
            · exact z.2.1 q
            · exact z.2.2 (hs.trans q)
          have eo : ordS (hI h) E Ln door cold (p + 1) = ordS (hI h) E Ln door cold p := cif_f hno
          have h96 : ∀ v : Int32, v = whyF (hI h) E Ln door cold p → wp 4 MX12_makeOrder Q 96 [some (.ref 44), some (.int door), some (.int cold), some (.int (nI p)), none] [.int v, .int (nI p), .ref 78] (wI h f2) := by
            intro v hv
            have hfin := h168 (u2 f2 78 p v) (MO_step hmo (by rw [eo, u2_ne (fun q => by cases q.1)]; exact e53) (fun j hj => by
              rw [eo] at hj ⊢
              rw [u2_ne (fun q => by cases q.1), f2o 86 j (by decide), f1o 86 j (by decide) (by decide)]
              exact m2 j hj) (fun _ => by rw [u2_ne (fun q => by cases q.1), f287]; exact hs.symm) (fun q hq => by rw [u2_ne (fun z => by cases z.1)]; exact f287o q hq) (by rw [u2_eq]; exact hv) (by rw [u2_ne (fun q => by cases q.1), f2o 79 p (by decide)]; exact f179) (fun q hq => ⟨by rw [u2_ne (fun z => hq z.2), f2o 78 q (by decide)]; exact (f178o q hq).1, by rw [u2_ne (fun z => by cases z.1), f2o 79 q (by decide)]; exact (f178o q hq).2⟩) (fun a i a1 a2 a3 a4 a5 => by rw [u2_ne (fun q => a1 q.1), f2o a i a4, f1o a i a1 a2]))
            have hl := hl2
            have hH3 : pI (wI h f2) 78 p v = wI h (u2 f2 78 p v) := rfl
            refine s_X12_makeOrder_96 Q _ _ _ ?_
            generalize wI h f2 = g2 at hl hH3 ⊢
            simp only [b_X12_makeOrder_96, hl, lay_pI, lay_wI, lay_pJ, lm_t hl, lm_k hl, lm_r hl, lm_l hl, i_push, i_ild, i_ald, i_ist, i_ast, i_inc, i_bin, i_un, i_divs, i_i2l, i_lshl, i_lor, i_dup, i_dup2, i_pop, i_if, i_cmp, i_nul, i_vret, i_iret, i_zret, i_aret, i_keep, keep, lget, lset, ent, i_getI, i_getJ, i_getR, i_getN, i_putI, i_putZ, i_putJ, i_putR, i_iald, i_bald, i_alen, i_aald, i_iast, i_bast, i_aast, i_new, i_newa, i_anew, i_oini, i_callS, i_callV, i_callI, popn, sh4, i_sw, swP, i_copy, i_binS, List.map, Option.toList_none, Option.toList_some, List.append, List.nil_append, List.cons_append, List.length_cons, List.length_nil, List.replicate, Nat.sub_self, Nat.reduceSub, Nat.reduceAdd, hK_pI, hL_pI, hI_pI, hR_pI, hJ_pI, hT_pI, hS_pI, hK_pR, hL_pR, hI_pR, hR_pR, hJ_pR, hT_pR, hS_pR, hK_pJ, hL_pJ, hI_pJ, hR_pJ, hJ_pJ, hT_pJ, hS_pJ, hK_wI, hL_wI, hI_wI, hR_wI, hJ_wI, hT_wI, hS_wI, eq_self, and_true, true_and, and_false, false_and, or_true, true_or, or_false, false_or, if_true, if_false, not_true_eq_false, not_false_eq_true, forall_const, implies_true, false_implies, true_implies, Option.some.injEq, forall_eq', exists_eq_left', reduceCtorEq, Nat.reduceEqDiff, c1, T_X12_in, T_X12_ones, T_X11_within, T_X11_bit, T_X11_isIn, T_X11_oneIfIn, T_J6_bitCount_0f7a4, cl_nI (show p < 2147483648 by omega), in_nI (show p < 96 by omega) (by decide), hH3]
            exact hfin
          have hl := hl2
          have e61' : hI (wI h f2) 61 p = hI h 61 p := e61
          refine s_X12_makeOrder_76 Q _ _ _ ?_
          generalize wI h f2 = g2 at hl e61' h96 ⊢
          simp only [b_X12_makeOrder_76, hl, lay_pI, lay_wI, lay_pJ, lm_t hl, lm_k hl, lm_r hl, lm_l hl, i_push, i_ild, i_ald, i_ist, i_ast, i_inc, i_bin, i_un, i_divs, i_i2l, i_lshl, i_lor, i_dup, i_dup2, i_pop, i_if, i_cmp, i_nul, i_vret, i_iret, i_zret, i_aret, i_keep, keep, lget, lset, ent, i_getI, i_getJ, i_getR, i_getN, i_putI, i_putZ, i_putJ, i_putR, i_iald, i_bald, i_alen, i_aald, i_iast, i_bast, i_aast, i_new, i_newa, i_anew, i_oini, i_callS, i_callV, i_callI, popn, sh4, i_sw, swP, i_copy, i_binS, List.map, Option.toList_none, Option.toList_some, List.append, List.nil_append, List.cons_append, List.length_cons, List.length_nil, List.replicate, Nat.sub_self, Nat.reduceSub, Nat.reduceAdd, hK_pI, hL_pI, hI_pI, hR_pI, hJ_pI, hT_pI, hS_pI, hK_pR, hL_pR, hI_pR, hR_pR, hJ_pR, hT_pR, hS_pR, hK_pJ, hL_pJ, hI_pJ, hR_pJ, hJ_pJ, hT_pJ, hS_pJ, hK_wI, hL_wI, hI_wI, hR_wI, hJ_wI, hT_wI, hS_wI, eq_self, and_true, true_and, and_false, false_and, or_true, true_or, or_false, false_or, if_true, if_false, not_true_eq_false, not_false_eq_true, forall_const, implies_true, false_implies, true_implies, Option.some.injEq, forall_eq', exists_eq_left', reduceCtorEq, Nat.reduceEqDiff, c1, T_X12_in, T_X12_ones, T_X11_within, T_X11_bit, T_X11_isIn, T_X11_oneIfIn, T_J6_bitCount_0f7a4, cl_nI (show p < 2147483648 by omega), in_nI (show p < 96 by omega) (by decide), e61']
          refine ⟨fun z => h96 1 ?_, fun z => h96 2 ?_⟩
          · unfold whyF; rw [if_pos hb, if_pos z]
          · unfold whyF
            rcases hor with q | q
            · exact absurd q z
            · rw [if_pos hb, if_neg z, if_pos (hs.trans q)]
        have h106 : ¬ hI h 61 p = 1 → ¬ s = -2000000000 → wp 4 MX12_makeOrder Q 106 [some (.ref 44), some (.int door), some (.int cold), some (.int (nI p)), some (.int (nI (ordS (hI h) E Ln door cold p).1))] [] (wI h f2) := by
          intro hn61 hns
          have hin : inO (hI h) E Ln door cold p := ⟨hb, hn61, fun z => hns (hs.symm.trans z)⟩
          have eo : ordS (hI h) E Ln door cold (p + 1) = ((ordS (hI h) E Ln door cold p).1 + 1, insO (ordS (hI h) E Ln door cold p).2 (posF (fun j => ahd (fun q => ptsF (hI h) E q Ln cold) (hI h 59) p ((ordS (hI h) E Ln door cold p).2 j)) (ordS (hI h) E Ln door cold p).1) p) := cif_t hin
          have f259 : f2 59 = hI h 59 := by
            funext i
            rw [f2o 59 i (by decide), hsame 59 (by decide) (by decide)]
          have epos : posF (fun j => ahd (f2 87) (f2 59) p ((ordS (hI h) E Ln door cold p).2 j)) (ordS (hI h) E Ln door cold p).1 = posF (fun j => ahd (fun q => ptsF (hI h) E q Ln cold) (hI h 59) p ((ordS (hI h) E Ln door cold p).2 j)) (ordS (hI h) E Ln door cold p).1 := posF_congr (fun j hj => by
            obtain ⟨a, b⟩ := oj j hj
            have e1 : f2 87 ((ordS (hI h) E Ln door cold p).2 j) = ptsF (hI h) E ((ordS (hI h) E Ln door cold p).2 j) Ln cold := by
              rw [f287o _ (by omega)]
              exact m3 _ a b.1
            unfold ahd
            simp only [e1, f287, f259, hs])
          generalize hn0 : (ordS (hI h) E Ln door cold p).1 = n at *
          generalize ho0 : (ordS (hI h) E Ln door cold p).2 = o at *
          have hk := posF_le (fun j => ahd (fun q => ptsF (hI h) E q Ln cold) (hI h 59) p (o j)) n
          have hw := ord_106 Q h hl0 f2 o door cold p n (by omega) (by omega) (fun j hj => ⟨by have := (oj j hj).1; omega, by rw [f2o 86 j (by decide), f1o 86 j (by decide) (by decide)]; exact m2 j hj⟩)
          rw [epos] at hw
          generalize posF (fun j => ahd (fun q => ptsF (hI h) E q Ln cold) (hI h 59) p (o j)) n = k at hw eo hk epos
          have sh : ∀ a i, a ≠ 86 → shf f2 n k a i = f2 a i := fun a i ha => if_neg (fun q => ha q.1)
          have hfin := h168 (u2 (u2 (shf f2 n k) 86 k (nI p)) 44 53 (nI (n + 1))) (MO_step hmo (by rw [eo, u2_eq]) (fun j hj => by
              rw [eo] at hj ⊢
              simp only at hj ⊢
              rw [u2_ne (fun q => by cases q.1)]
              unfold insO
              by_cases c1 : j < k
              · rw [if_pos c1, u2_ne (fun q => by omega)]
                rw [show shf f2 n k 86 j = f2 86 j from if_neg (by omega), f2o 86 j (by decide), f1o 86 j (by decide) (by decide)]
                exact m2 j (by omega)
              · rw [if_neg c1]
                by_cases c2 : j = k
                · rw [if_pos c2, c2, u2_eq]
                · rw [if_neg c2, u2_ne (fun q => c2 q.2)]
                  rw [show shf f2 n k 86 j = f2 86 (j - 1) from if_pos (by omega), f2o 86 _ (by decide), f1o 86 _ (by decide) (by decide)]
                  exact m2 (j - 1) (by omega)) (fun _ => by rw [u2_ne (fun q => by cases q.1), u2_ne (fun q => by cases q.1), sh 87 p (by decide), f287]; exact hs.symm) (fun q hq => by rw [u2_ne (fun z => by cases z.1), u2_ne (fun z => by cases z.1), sh 87 q (by decide)]; exact f287o q hq) (by
              rw [u2_ne (fun q => by cases q.1), u2_ne (fun q => by cases q.1), sh 78 p (by decide), f2o 78 p (by decide), f178]
              unfold whyF
              rw [if_pos hb, if_neg hn61, if_neg (fun z => hns (hs.symm.trans z))]) (by rw [u2_ne (fun q => by cases q.1), u2_ne (fun q => by cases q.1), sh 79 p (by decide), f2o 79 p (by decide)]; exact f179) (fun q hq => ⟨by rw [u2_ne (fun z => by cases z.1), u2_ne (fun z => by cases z.1), sh 78 q (by decide), f2o 78 q (by decide)]; exact (f178o q hq).1, by rw [u2_ne (fun z => by cases z.1), u2_ne (fun z => by cases z.1), sh 79 q (by decide), f2o 79 q (by decide)]; exact (f178o q hq).2⟩) (fun a i a1 a2 a3 a4 a5 => by rw [u2_ne a5, u2_ne (fun q => a3 q.1), sh a i a3, f2o a i a4, f1o a i a1 a2]))
          have hgo := hw (by
            have hl : LayM (wI h (shf f2 n k)) := hl0.wI _
            have e53s : hI (wI h (shf f2 n k)) 44 53 = nI n := (sh 44 53 (by decide)).trans e53
            have hH4 : pI (pI (wI h (shf f2 n k)) 86 k (nI p)) 44 53 (nI (n + 1)) = wI h (u2 (u2 (shf f2 n k) 86 k (nI p)) 44 53 (nI (n + 1))) := rfl
            refine s_X12_makeOrder_150 Q _ _ _ ?_
            generalize wI h (shf f2 n k) = g4 at hl e53s hH4 ⊢
            simp only [b_X12_makeOrder_150, hl, lay_pI, lay_wI, lay_pJ, lm_t hl, lm_k hl, lm_r hl, lm_l hl, i_push, i_ild, i_ald, i_ist, i_ast, i_inc, i_bin, i_un, i_divs, i_i2l, i_lshl, i_lor, i_dup, i_dup2, i_pop, i_if, i_cmp, i_nul, i_vret, i_iret, i_zret, i_aret, i_keep, keep, lget, lset, ent, i_getI, i_getJ, i_getR, i_getN, i_putI, i_putZ, i_putJ, i_putR, i_iald, i_bald, i_alen, i_aald, i_iast, i_bast, i_aast, i_new, i_newa, i_anew, i_oini, i_callS, i_callV, i_callI, popn, sh4, i_sw, swP, i_copy, i_binS, List.map, Option.toList_none, Option.toList_some, List.append, List.nil_append, List.cons_append, List.length_cons, List.length_nil, List.replicate, Nat.sub_self, Nat.reduceSub, Nat.reduceAdd, hK_pI, hL_pI, hI_pI, hR_pI, hJ_pI, hT_pI, hS_pI, hK_pR, hL_pR, hI_pR, hR_pR, hJ_pR, hT_pR, hS_pR, hK_pJ, hL_pJ, hI_pJ, hR_pJ, hJ_pJ, hT_pJ, hS_pJ, hK_wI, hL_wI, hI_wI, hR_wI, hJ_wI, hT_wI, hS_wI, eq_self, and_true, true_and, and_false, false_and, or_true, true_or, or_false, false_or, if_true, if_false, not_true_eq_false, not_false_eq_true, forall_const, implies_true, false_implies, true_implies, Option.some.injEq, forall_eq', exists_eq_left', reduceCtorEq, Nat.reduceEqDiff, c1, T_X12_in, T_X12_ones, T_X11_within, T_X11_bit, T_X11_isIn, T_X11_oneIfIn, T_J6_bitCount_0f7a4, cl_nI (show k < 2147483648 by omega), in_nI (show k < 24 by omega) (by decide), e53s, nI_1, hH4]
            exact hfin) n (Nat.le_refl n) epos.symm
          rw [shf_0] at hgo
          exact hgo
        have hl := hl1
        generalize hg1 : wI h f1 = g1 at hl hH2 ⊢
        have hl2' := hl2
        have e61' : hI (wI h f2) 61 p = hI h 61 p := e61
        have e53' : hI (wI h f2) 44 53 = nI (ordS (hI h) E Ln door cold p).1 := e53
        have e87' : hI (wI h f2) 87 p = s := f287
        generalize wI h f2 = g2 at hH2 hl2' e61' e53' e87' h76 h106 ⊢
        simp only [c_X12_makeOrder_53, hl, lay_pI, lay_wI, lay_pJ, lm_t hl, lm_k hl, lm_r hl, lm_l hl, i_push, i_ild, i_ald, i_ist, i_ast, i_inc, i_bin, i_un, i_divs, i_i2l, i_lshl, i_lor, i_dup, i_dup2, i_pop, i_if, i_cmp, i_nul, i_vret, i_iret, i_zret, i_aret, i_keep, keep, lget, lset, ent, i_getI, i_getJ, i_getR, i_getN, i_putI, i_putZ, i_putJ, i_putR, i_iald, i_bald, i_alen, i_aald, i_iast, i_bast, i_aast, i_new, i_newa, i_anew, i_oini, i_callS, i_callV, i_callI, popn, sh4, i_sw, swP, i_copy, i_binS, List.map, Option.toList_none, Option.toList_some, List.append, List.nil_append, List.cons_append, List.length_cons, List.length_nil, List.replicate, Nat.sub_self, Nat.reduceSub, Nat.reduceAdd, hK_pI, hL_pI, hI_pI, hR_pI, hJ_pI, hT_pI, hS_pI, hK_pR, hL_pR, hI_pR, hR_pR, hJ_pR, hT_pR, hS_pR, hK_pJ, hL_pJ, hI_pJ, hR_pJ, hJ_pJ, hT_pJ, hS_pJ, hK_wI, hL_wI, hI_wI, hR_wI, hJ_wI, hT_wI, hS_wI, eq_self, and_true, true_and, and_false, false_and, or_true, true_or, or_false, false_or, if_true, if_false, not_true_eq_false, not_false_eq_true, forall_const, implies_true, false_implies, true_implies, Option.some.injEq, forall_eq', exists_eq_left', reduceCtorEq, Nat.reduceEqDiff, c1, T_X12_in, T_X12_ones, T_X11_within, T_X11_bit, T_X11_isIn, T_X11_oneIfIn, T_J6_bitCount_0f7a4, cl_nI (show p < 2147483648 by omega), in_nI (show p < 24 by omega) (by decide), hH2]
        simp only [i_push, i_ild, i_ald, i_ist, i_ast, i_inc, i_bin, i_un, i_divs, i_i2l, i_lshl, i_lor, i_dup, i_dup2, i_pop, i_if, i_cmp, i_nul, i_vret, i_iret, i_zret, i_aret, i_keep, keep, lget, lset, ent, i_getI, i_getJ, i_getR, i_getN, i_putI, i_putZ, i_putJ, i_putR, i_iald, i_bald, i_alen, i_aald, i_iast, i_bast, i_aast, i_new, i_newa, i_anew, i_oini, i_callS, i_callV, i_callI, popn, sh4, i_sw, swP, i_copy, i_binS, List.map, Option.toList_none, Option.toList_some, List.append, List.nil_append, List.cons_append, List.length_cons, List.length_nil, List.replicate, Nat.sub_self, Nat.reduceSub, Nat.reduceAdd, hK_pI, hL_pI, hI_pI, hR_pI, hJ_pI, hT_pI, hS_pI, hK_pR, hL_pR, hI_pR, hR_pR, hJ_pR, hT_pR, hS_pR, hK_pJ, hL_pJ, hI_pJ, hR_pJ, hJ_pJ, hT_pJ, hS_pJ, hK_wI, hL_wI, hI_wI, hR_wI, hJ_wI, hT_wI, hS_wI, eq_self, and_true, true_and, and_false, false_and, or_true, true_or, or_false, false_or, if_true, if_false, not_true_eq_false, not_false_eq_true, forall_const, implies_true, false_implies, true_implies, Option.some.injEq, forall_eq', exists_eq_left', reduceCtorEq, Nat.reduceEqDiff, c1, T_X12_in, T_X12_ones, T_X11_within, T_X11_bit, T_X11_isIn, T_X11_oneIfIn, T_J6_bitCount_0f7a4, hl2', lm_t hl2', lm_k hl2', lm_r hl2', lm_l hl2', cl_nI (show p < 2147483648 by omega), in_nI (show p < 24 by omega) (by decide), in_nI (show p < 96 by omega) (by decide), e61', e53', e87']
        exact ⟨fun z => h76 (Or.inl z), fun z => ⟨fun z2 => h76 (Or.inr z2), fun z2 => h106 z z2⟩⟩
