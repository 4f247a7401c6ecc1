/-! ===== the class: text, its steps put together ===== -/
def L_X11_text : List UInt8 := [187, 0, 55, 89, 42, 180, 0, 10, 183, 0, 57, 76, 43, 182, 0, 60, 187, 0, 63, 89, 43, 183, 0, 65, 77, 44, 182, 0, 68, 42, 180, 0, 10, 3, 181, 0, 48, 42, 44, 180, 0, 71, 181, 0, 41, 42, 44, 180, 0, 74, 181, 0, 45, 42, 180, 0, 41, 153, 0, 5, 2, 172, 42, 180, 0, 24, 44, 180, 0, 77, 181, 0, 81, 42, 180, 0, 24, 180, 0, 81, 180, 0, 82, 172]
theorem Lc_X11_text : MX11_text.2.1 = ⟨L_X11_text.toArray⟩ := rfl
theorem D_X11_text_0 : dseq MX11_text.2.1 0 [(.new 55, 3), (.dup, 1), (.aload_n 0, 1), (.getfield 10, 3), (.invokespecial 57, 3), (.astore_n 1, 1), (.aload_n 1, 1), (.invokevirtual 60, 3), (.new 63, 3), (.dup, 1), (.aload_n 1, 1), (.invokespecial 65, 3), (.astore_n 2, 1), (.aload_n 2, 1), (.invokevirtual 68, 3), (.aload_n 0, 1), (.getfield 10, 3), (.iconst 0, 1), (.putfield 48, 3), (.aload_n 0, 1), (.aload_n 2, 1), (.getfield 71, 3), (.putfield 41, 3), (.aload_n 0, 1), (.aload_n 2, 1), (.getfield 74, 3), (.putfield 45, 3), (.aload_n 0, 1), (.getfield 41, 3), (.ifCond .eq 5, 3), (.iconst (-1), 1), (.ireturn, 1)] := dq Lc_X11_text 0 _ (by decide +kernel)
theorem D_X11_text_62 : dseq MX11_text.2.1 62 [(.aload_n 0, 1), (.getfield 24, 3), (.aload_n 2, 1), (.getfield 77, 3), (.putfield 81, 3), (.aload_n 0, 1), (.getfield 24, 3), (.getfield 81, 3), (.getfield 82, 3), (.ireturn, 1)] := dq Lc_X11_text 62 _ (by decide +kernel)
def c_X11_text_29 (Q : Option Value → Hp → Prop) : Kt := i_ald 0 (i_getR 11 0 (i_push (.int 0) (i_putI 9 1 (i_ald 0 (i_ald 2 (i_getI 2 4 (i_putI 11 4 (i_ald 0 (i_ald 2 (i_getI 2 5 (i_putI 11 5 (i_ald 0 (i_getI 11 4 (i_if (fun x => x = 0) (i_ald 0 (i_getR 11 1 (i_ald 2 (i_getR 2 3 (i_putR 8 3 (i_ald 0 (i_getR 11 1 (i_getR 8 3 (i_getI 7 0 (i_iret Q)))))))))) (i_push (.int (-1)) (i_iret Q))))))))))))))))
def c_X11_text_24 (Q : Option Value → Hp → Prop) : Kt := i_ast 2 (i_ald 2 (i_callV 2 0 T_X2_parse (c_X11_text_29 Q)))
def c_X11_text_16 (Q : Option Value → Hp → Prop) : Kt := i_new 2 (i_dup (i_ald 1 (i_callI 1 T_X2_init (c_X11_text_24 Q))))
def c_X11_text_11 (Q : Option Value → Hp → Prop) : Kt := i_ast 1 (i_ald 1 (i_callV 10 0 T_X10_readAll (c_X11_text_16 Q)))
def b_X11_text_0 (Q : Option Value → Hp → Prop) : Kt := i_new 10 (i_dup (i_ald 0 (i_getR 11 0 (i_callI 1 T_X10_init (c_X11_text_11 Q)))))
set_option maxRecDepth 100000 in
theorem s_X11_text_0 (Q : Option Value → Hp → Prop) : ∀ A st h, b_X11_text_0 Q A st h → wp 9 MX11_text Q 0 A st h := (qC (s_new kX10 ot_X10 (ch_2_6_ok.2.2.2.2.2.2.2.2.2.2.2.2.1.1 rfl) (ch_2_6_ok.2.2.2.2.2.2.2.2.2.2.2.2.2.1.1 rfl) (ch_1_0_ok.2.2.2.2.2.2.2.2.2.2.2.1.1 rfl)) rfl D_X11_text_0 fun D => (q1 s_dup D fun D => (q1 (s_aldn (n := 0) (i := 0) rfl) D fun D => (qC fl_X11_10 rfl D fun D => (qX (s_callI ok_X10_init mo_X10_init rfl rfl (ch_2_6_ok.2.2.2.2.2.2.2.2.2.2.2.2.2.2.1.1 rfl) (ch_2_6_ok.2.2.2.2.2.2.2.2.2.2.2.2.2.2.2.1.1 rfl)) rfl (by decide) D fun D => (qL (s_astn (n := 1) (i := 1) rfl) (by decide) D fun D => (q1 (s_aldn (n := 1) (i := 1) rfl) D fun D => (qX (s_callV kX10 rfl ok_X10_readAll mo_X10_readAll (ch_2_8_ok.2.2.2.2.2.2.2.2.2.1.1 rfl) (ch_2_8_ok.2.2.2.2.2.2.2.2.2.2.1.1 rfl) (ch_2_8_ok.2.2.2.2.2.2.2.2.2.2.2.1.1 rfl)) rfl (by decide) D fun D => (qC (s_new kX2 ot_X2 (ch_3_0_ok.2.2.2.2.2.2.1.1 rfl) (ch_3_0_ok.2.2.2.2.2.2.2.1.1 rfl) (ch_1_1_ok.1.1 rfl)) rfl D fun D => (q1 s_dup D fun D => (q1 (s_aldn (n := 1) (i := 1) rfl) D fun D => (qX (s_callI ok_X2_init mo_X2_init rfl rfl (ch_3_0_ok.2.2.2.2.2.2.2.2.1.1 rfl) (ch_3_0_ok.2.2.2.2.2.2.2.2.2.1.1 rfl)) rfl (by decide) D fun D => (qL (s_astn (n := 2) (i := 2) rfl) (by decide) D fun D => (q1 (s_aldn (n := 2) (i := 2) rfl) D fun D => (qX (s_callV kX2 rfl ok_X2_parse mo_X2_parse (ch_3_2_ok.2.2.2.2.1.1 rfl) (ch_3_2_ok.2.2.2.2.2.1.1 rfl) (ch_3_2_ok.2.2.2.2.2.2.1.1 rfl)) rfl (by decide) D fun D => (q1 (s_aldn (n := 0) (i := 0) rfl) D fun D => (qC fl_X11_10 rfl D fun D => (q1 (s_iconst (n := 0) (v := 0) (by decide)) D fun D => (qP pl_X11_48 rfl (Or.inl rfl) D fun D => (q1 (s_aldn (n := 0) (i := 0) rfl) D fun D => (q1 (s_aldn (n := 2) (i := 2) rfl) D fun D => (qC fl_X11_71 rfl D fun D => (qP pl_X11_41 rfl (Or.inl rfl) D fun D => (q1 (s_aldn (n := 0) (i := 0) rfl) D fun D => (q1 (s_aldn (n := 2) (i := 2) rfl) D fun D => (qC fl_X11_74 rfl D fun D => (qP pl_X11_45 rfl (Or.inl rfl) D fun D => (q1 (s_aldn (n := 0) (i := 0) rfl) D fun D => (qC fl_X11_41 rfl D fun D => (qB s_ifeq 62 (by decide) D (q1 (s_aldn (n := 0) (i := 0) rfl) D_X11_text_62 fun D => (qC fl_X11_24 rfl D fun D => (q1 (s_aldn (n := 2) (i := 2) rfl) D fun D => (qC fl_X11_77 rfl D fun D => (qP pl_X11_81 rfl (Or.inl rfl) D fun D => (q1 (s_aldn (n := 0) (i := 0) rfl) D fun D => (qC fl_X11_24 rfl D fun D => (qC fl_X11_81 rfl D fun D => (qC fl_X11_82 rfl D fun D => (qI rfl D)))))))))) fun D => (q1 (s_iconst (n := (-1)) (v := (-1)) (by decide)) D fun D => (qI rfl D))))))))))))))))))))))))))))))))

set_option maxRecDepth 100000 in
set_option maxHeartbeats 1000000 in
theorem xtx_29 (Q : Option Value → Hp → Prop) (h X : Hp) (h90 : 90 ≤ hT h) (L N : Nat) (B : Nat → Int32) (M : Mem) (hinv : INV 0 M) (ry : hR X (hT h + 4) 0 = some (hT h) ∧ hR X (hT h + 4) 3 = some (hT h + 5)) (hlr : LayR X (hT h + 5)) (hky : hK X (hT h + 4) = 2) (hTX : hT X = hT h + 13) (hSX : hS X = hS h + (3 * L + 327)) (oK : ∀ a, a < hT h → hK X a = hK h a ∧ hL X a = hL h a ∧ hJ X a = hJ h a) (oR : ∀ a i, a < hT h → hR X a i = hR h a i) (oI : ∀ a i, a < hT h → hI X a i = hI h a i) (hlX : LayX X) (f4 : hI X (hT h + 4) 4 = 0) (f5 : hI X (hT h + 4) 5 = -1) (he : PEn X (hT h + 4) (hT h + 5) (hT h) B L N (hI X)) (hpe : PEd (hI X) (hI X) M (hT h + 4) (hT h + 5) N 0 0)
    (hq0 : (pX B L 501 0 M 0).1 = false → ∀ h', TxF h h' L 1 (nI (bgT B L (pX B L 501 0 M 0).2.2)) → hR h' 3 3 = hR h 3 3 → Q (some (.int (-1))) h')
    (hq3 : (pX B L 501 0 M 0).1 = true → ¬ (pX B L 501 0 M 0).2.1 44 45 = -1 → ∀ h', TxF h h' L 3 ((pX B L 501 0 M 0).2.1 44 45) → hR h' 3 3 = hR h 3 3 → Q (some (.int (-1))) h')
    (hq1 : (pX B L 501 0 M 0).1 = true → (pX B L 501 0 M 0).2.1 44 45 = -1 → ∀ h' k, k ≤ 16 → INV k (pX B L 501 0 M 0).2.1 → TxF h h' L 0 (-1) → hR h' 3 3 = some (hT h + 5) → LayR h' (hT h + 5) → (∀ l, l < k → LnC (hI h') (pX B L 501 0 M 0).2.1 (hT h + 5) l) → hI h' (hT h + 5) 0 = nI k → Q (some (.int (nI k))) h') : c_X11_text_24 Q [some (.ref 0), some (.ref (hT h)), none] [.ref (hT h + 4)] X := by
  -- behind the parser: ints g, all below hT h as in h
  have hend : ∀ (g : Mem) (fa pl : Int32), g (hT h + 4) 4 = fa → g (hT h + 4) 5 = pl → (∀ a j, a < hT h → g a j = hI h a j) → (¬ fa = 0 → ∀ h', TxF h h' L fa pl → hR h' 3 3 = hR h 3 3 → Q (some (.int (-1))) h') → (fa = 0 → ∀ h', TxF h h' L fa pl → hR h' 3 3 = some (hT h + 5) → LayR h' (hT h + 5) → (∀ a j, hT h + 5 ≤ a → hI h' a j = g a j) → Q (some (.int (g (hT h + 5) 0))) h') → c_X11_text_29 Q [some (.ref 0), some (.ref (hT h)), some (.ref (hT h + 4))] [] (wI X g) := by
    intro g fa pl h4 h5 hg hbad hok
    have hl2 : LayX (wI X g) := hlX.wI g
    have e4 : hI (wI X g) (hT h + 4) 4 = fa := h4
    have e5 : hI (wI X g) (hT h + 4) 5 = pl := h5
    have c1 : hT h + 4 < hT (wI X g) := by show hT h + 4 < hT X; omega
    have c1' : hT h + 5 < hT (wI X g) := by show hT h + 5 < hT X; omega
    have c2 : hK (wI X g) (hT h + 4) = 2 := hky
    have c3 : hR (wI X g) (hT h + 4) 3 = some (hT h + 5) := ry.2
    have c4 : hK (wI X g) (hT h + 5) = 7 := hlr.f.2.2.2.2.2.2.2.2.1
    have n1 : ¬ hT h + 4 = 1 := by omega
    have n0 : ¬ hT h + 4 = 0 := by omega
    have n5 : ¬ hT h + 5 = 1 := by omega
    have n50 : ¬ hT h + 5 = 0 := by omega
    have hTF : TxF h (pI (pI (pI (wI X g) 1 1 0) 0 4 fa) 0 5 pl) L fa pl := by
      refine ⟨hTX, hSX, oK, fun a i ha _ => oR a i ha, fun a i ha m1 m2 m3 => ?_, ?_, ?_, ?_⟩
      · rw [hI_pI, if_neg m3, hI_pI, if_neg m2, hI_pI, if_neg m1]; exact hg a i ha
      · rw [hI_pI, if_neg (by omega), hI_pI, if_neg (by omega), hI_pI, if_pos ⟨rfl, rfl⟩]
      · rw [hI_pI, if_neg (by omega), hI_pI, if_pos ⟨rfl, rfl⟩]
      · rw [hI_pI, if_pos ⟨rfl, rfl⟩]
    have g1 : ¬ fa = 0 → Q (some (.int (-1))) (pI (pI (pI (wI X g) 1 1 0) 0 4 fa) 0 5 pl) := fun z => hbad z _ hTF (oR 3 3 (by omega))
    have g0 : fa = 0 → Q (some (.int (g (hT h + 5) 0))) (pR (pI (pI (pI (wI X g) 1 1 0) 0 4 fa) 0 5 pl) 3 3 (some (hT h + 5))) := fun z => by
      refine hok z _ ?_ ?_ ?_ (fun a j ha => ?_)
      · obtain ⟨t1, t2, t3, t4, t5⟩ := hTF
        exact ⟨t1, t2, t3, fun a i ha m => by rw [hR_pR, if_neg m]; exact t4 a i ha m, t5⟩
      · rw [hR_pR, if_pos ⟨rfl, rfl⟩]
      · exact LayR_w hlr (Nat.le_refl _) (fun a _ => ⟨rfl, rfl⟩) (fun i => by rw [hR_pR, if_neg (by omega)]; rfl)
      · show hI (pI (pI (pI (wI X g) 1 1 0) 0 4 fa) 0 5 pl) a j = _
        rw [hI_pI, if_neg (by omega), hI_pI, if_neg (by omega), hI_pI, if_neg (by omega)]; rfl
    have eg : hI (wI X g) (hT h + 5) 0 = g (hT h + 5) 0 := rfl
    generalize wI X g = H at hl2 e4 e5 c1 c1' c2 c3 c4 eg g1 g0 ⊢
    generalize g (hT h + 5) 0 = X at eg g0
    have hl := hl2
    simp only [c_X11_text_29, lx_pI, lx_wI, lx_t hl, lx_k hl, lx_r hl, lx_l hl, i_push, i_ild, i_ald, i_ist, i_ast, i_inc, i_bin, i_un, i_divs, i_i2l, i_lshl, i_lor, i_dup, i_dup2, i_pop, i_if, i_cmp, i_nul, i_vret, i_iret, i_zret, i_aret, i_keep, keep, lget, lset, ent, i_getI, i_getJ, i_getR, i_getN, i_putI, i_putZ, i_putJ, i_putR, i_iald, i_bald, i_alen, i_aald, i_iast, i_bast, i_aast, i_new, i_newa, i_anew, i_oini, i_callS, i_callV, i_callI, popn, sh4, i_sw, swP, i_copy, i_binS, List.map, Option.toList_none, Option.toList_some, List.append, List.nil_append, List.cons_append, List.length_cons, List.length_nil, List.replicate, Nat.sub_self, Nat.reduceSub, Nat.reduceAdd, hK_pI, hL_pI, hI_pI, hR_pI, hJ_pI, hT_pI, hS_pI, hK_pR, hL_pR, hI_pR, hR_pR, hJ_pR, hT_pR, hS_pR, hK_pJ, hL_pJ, hI_pJ, hR_pJ, hJ_pJ, hT_pJ, hS_pJ, hK_wI, hL_wI, hI_wI, hR_wI, hJ_wI, hT_wI, hS_wI, eq_self, and_true, true_and, and_false, false_and, or_true, true_or, or_false, false_or, if_true, if_false, not_true_eq_false, not_false_eq_true, forall_const, implies_true, false_implies, true_implies, Option.some.injEq, forall_eq', exists_eq_left', reduceCtorEq, Nat.reduceEqDiff, c1, T_X12_in, T_X12_ones, T_X11_within, T_X11_bit, T_X11_isIn, T_X11_oneIfIn, T_J6_bitCount_0f7a4, c1, c1', c2, c3, c4, e4, e5, eg, n1, n0, n5, n50, Nat.reduceEqDiff]
    exact ⟨fun z => g0 z, fun z => g1 z⟩
  have hparse : T_X2_parse [.ref (hT h + 4)] X (fun r h' => c_X11_text_29 Q [some (.ref 0), some (.ref (hT h)), some (.ref (hT h + 4))] (r.toList ++ []) h') := by
    refine ⟨hT h + 5, hT h, B, L, N, hI X, M, he, hpe, hinv, fun r1 f' ho => ?_, fun r1 r2 f' ho => ?_, fun r1 r2 f' k s hk hpe' => ?_⟩
    · refine hend _ 1 (nI (bgT B L (pX B L 501 0 M 0).2.2)) (by rw [u2_ne (by omega), u2_eq]) u2_eq (fun a j ha => ?_) (fun _ => hq0 r1) (fun z => absurd z (by decide))
      rw [u2_ne (by omega), u2_ne (by omega), ho.1 a j (by omega) (by omega)]; exact oI a j ha
    · refine hend _ 3 ((pX B L 501 0 M 0).2.1 44 45) (by rw [u2_ne (by omega), u2_eq]) u2_eq (fun a j ha => ?_) (fun _ => hq3 r1 r2) (fun z => absurd z (by decide))
      rw [u2_ne (by omega), u2_ne (by omega), ho.1 a j (by omega) (by omega)]; exact oI a j ha
    · have hk16 : k ≤ 16 := by
        apply Classical.byContradiction
        intro c
        exact hk.2.2.2.1 (by omega) r2
      have ho := hpe'.1
      refine hend f' 0 (-1) ((ho.2 4 (by decide) (by decide)).trans f4) ((ho.2 5 (by decide) (by decide)).trans f5) (fun a j ha => (ho.1 a j (by omega) (by omega)).trans (oI a j ha)) (fun z => absurd rfl z) (fun _ h' hT1 hR1 hL1 hI1 => ?_)
      have eq0 : f' (hT h + 5) 0 = nI k := by
        have := hpe'.2.2.2.2.2.2
        rw [this]
        unfold lI
        split
        · rfl
        · rw [show k = 16 by omega]
      rw [eq0]
      refine hq1 r1 r2 h' k hk16 hk hT1 hR1 hL1 (fun l hl => ?_) ((hI1 _ _ (Nat.le_refl _)).trans eq0)
      exact LnC_c (hI1 _ _ (by omega)) (hI1 _ _ (by omega)) (hI1 _ _ (by omega)) (fun i t _ _ _ => hI1 _ _ (by omega)) rfl rfl rfl (fun _ _ _ _ _ => rfl) (hpe'.2.2.2.2.1 l hl (by omega))
  have c1 : hT h + 4 < hT X := by omega
  simp only [c_X11_text_24, i_push, i_ild, i_ald, i_ist, i_ast, i_inc, i_bin, i_un, i_divs, i_i2l, i_lshl, i_lor, i_dup, i_dup2, i_pop, i_if, i_cmp, i_nul, i_vret, i_iret, i_zret, i_aret, i_keep, keep, lget, lset, ent, i_getI, i_getJ, i_getR, i_getN, i_putI, i_putZ, i_putJ, i_putR, i_iald, i_bald, i_alen, i_aald, i_iast, i_bast, i_aast, i_new, i_newa, i_anew, i_oini, i_callS, i_callV, i_callI, popn, sh4, i_sw, swP, i_copy, i_binS, List.map, Option.toList_none, Option.toList_some, List.append, List.nil_append, List.cons_append, List.length_cons, List.length_nil, List.replicate, Nat.sub_self, Nat.reduceSub, Nat.reduceAdd, hK_pI, hL_pI, hI_pI, hR_pI, hJ_pI, hT_pI, hS_pI, hK_pR, hL_pR, hI_pR, hR_pR, hJ_pR, hT_pR, hS_pR, hK_pJ, hL_pJ, hI_pJ, hR_pJ, hJ_pJ, hT_pJ, hS_pJ, hK_wI, hL_wI, hI_wI, hR_wI, hJ_wI, hT_wI, hS_wI, eq_self, and_true, true_and, and_false, false_and, or_true, true_or, or_false, false_or, if_true, if_false, not_true_eq_false, not_false_eq_true, forall_const, implies_true, false_implies, true_implies, Option.some.injEq, forall_eq', exists_eq_left', reduceCtorEq, Nat.reduceEqDiff, c1, T_X12_in, T_X12_ones, T_X11_within, T_X11_bit, T_X11_isIn, T_X11_oneIfIn, T_J6_bitCount_0f7a4, hky, c1]
  exact hparse
set_option maxRecDepth 100000 in
set_option maxHeartbeats 1000000 in
theorem xtx_24 (Q : Option Value → Hp → Prop) (h : Hp) (hl : LayX h) (L N : Nat) (B : Nat → Int32) (M f : Mem) (hL5 : L ≤ 500) (hinv : INV 0 M) (h45 : M 44 45 = -1) (htk : TkD f (hT h) B L N) (hfo : ∀ a j, a < hT h → f a j = hI h a j)
    (hq0 : (pX B L 501 0 M 0).1 = false → ∀ h', TxF h h' L 1 (nI (bgT B L (pX B L 501 0 M 0).2.2)) → hR h' 3 3 = hR h 3 3 → Q (some (.int (-1))) h')
    (hq3 : (pX B L 501 0 M 0).1 = true → ¬ (pX B L 501 0 M 0).2.1 44 45 = -1 → ∀ h', TxF h h' L 3 ((pX B L 501 0 M 0).2.1 44 45) → hR h' 3 3 = hR h 3 3 → Q (some (.int (-1))) h')
    (hq1 : (pX B L 501 0 M 0).1 = true → (pX B L 501 0 M 0).2.1 44 45 = -1 → ∀ h' k, k ≤ 16 → INV k (pX B L 501 0 M 0).2.1 → TxF h h' L 0 (-1) → hR h' 3 3 = some (hT h + 5) → LayR h' (hT h + 5) → (∀ l, l < k → LnC (hI h') (pX B L 501 0 M 0).2.1 (hT h + 5) l) → hI h' (hT h + 5) 0 = nI k → Q (some (.int (nI k))) h') :
    c_X11_text_24 Q [some (.ref 0), some (.ref (hT h)), none] [.ref (hT h + 4)] (txH h L f) := by
  have h90 := hl.1
  obtain ⟨n, hn⟩ : ∃ n, n = hT h := ⟨_, rfl⟩
  have ry := txH_Ry h L f
  have hlr := txH_LR h L f h90
  have hlt := txH_LT h L f h90
  have hky : hK (txH h L f) (hT h + 4) = 2 := by rw [txH_K h L f _ (by omega), if_pos rfl]
  have hTX := txH_T h L f
  have hSX := txH_S h L f
  have oK : ∀ a, a < hT h → hK (txH h L f) a = hK h a ∧ hL (txH h L f) a = hL h a ∧ hJ (txH h L f) a = hJ h a := fun a ha => by
    rw [txH_K h L f a (by omega), txH_L h L f a (by omega), if_neg (by omega), if_neg (by omega), if_neg (by omega), if_neg (by omega), if_neg (by omega), if_neg (by omega), if_neg (by omega), if_neg (by omega), if_neg (by omega), if_neg (by omega)]
    exact ⟨rfl, rfl, txH_J h L f a ha⟩
  have oR := txH_R h L f
  have oI : ∀ a i, a < hT h → hI (txH h L f) a i = hI h a i := fun a i ha => by rw [txH_I h L f a i (by omega), if_neg (by omega)]; exact hfo a i ha
  have hlX : LayX (txH h L f) := LayX_of hl (by omega) (fun a ha => (oK a (by omega)).1) (fun a ha => (oK a (by omega)).2.1) (fun a i ha _ _ => oR a i (by omega))
  have f0 : ∀ j, hI (txH h L f) (hT h + 4) j = if j = 5 then -1 else if j = 4 then 0 else if j = 2 then -1 else 0 := fun j => by rw [txH_I h L f _ j (by omega), if_pos rfl]
  have f0z : ∀ i, i ≤ 3 → ∀ j, hI (txH h L f) (hT h + i) j = f (hT h + i) j := fun i hi j => by rw [txH_I h L f _ j (by omega), if_neg (by omega)]
  have htk0 : TkD (hI (txH h L f)) (hT h) B L N := by
    obtain ⟨t1, t2, t3, t4, t5⟩ := htk
    refine ⟨t1, t2, t3, (f0z 0 (by decide) 5).trans t4, fun t ht => ?_⟩
    rw [f0z 1 (by decide), f0z 2 (by decide), f0z 3 (by decide)]
    exact t5 t ht
  have he : PEn (txH h L f) (hT h + 4) (hT h + 5) (hT h) B L N (hI (txH h L f)) := ⟨hlX, hlt, hlr, rfl, rfl, hky, ry.1, ry.2, hL5, htk0⟩
  have hrow : ∀ l, hI (txH h L f) (hT h + 5 + 1) l = 0 := fun l => (txH_q h L f 0 1 14 16 rfl).2.2.1 l
  have hpe : PEd (hI (txH h L f)) (hI (txH h L f)) M (hT h + 4) (hT h + 5) N 0 0 := ⟨⟨fun _ _ _ _ => rfl, fun _ _ _ => rfl⟩, f0 1, Nat.zero_le _, (f0 2).trans h45.symm, fun l hl => absurd hl (Nat.not_lt_zero _), fun l _ _ => hrow l, (txH_q0 h L f).2 0⟩
  have f0' : ∀ j v, (if j = 5 then (-1 : Int32) else if j = 4 then 0 else if j = 2 then -1 else 0) = v → hI (txH h L f) (hT h + 4) j = v := fun j v e => (f0 j).trans e
  exact xtx_29 Q h (txH h L f) h90 L N B M hinv ry hlr hky hTX hSX oK oR oI hlX (f0' 4 0 rfl) (f0' 5 (-1) rfl) he hpe hq0 hq3 hq1
set_option maxRecDepth 100000 in
set_option maxHeartbeats 1000000 in
theorem xtx_0 (Q : Option Value → Hp → Prop) (h : Hp) (hl : LayX h) (L : Nat) (B : Nat → Int32) (M : Mem) (hL5 : L ≤ 500) (htp : TpC (hI h) B L) (hinv : INV 0 M) (h45 : M 44 45 = -1)
    (hq0 : (pX B L 501 0 M 0).1 = false → ∀ h', TxF h h' L 1 (nI (bgT B L (pX B L 501 0 M 0).2.2)) → hR h' 3 3 = hR h 3 3 → Q (some (.int (-1))) h')
    (hq3 : (pX B L 501 0 M 0).1 = true → ¬ (pX B L 501 0 M 0).2.1 44 45 = -1 → ∀ h', TxF h h' L 3 ((pX B L 501 0 M 0).2.1 44 45) → hR h' 3 3 = hR h 3 3 → Q (some (.int (-1))) h')
    (hq1 : (pX B L 501 0 M 0).1 = true → (pX B L 501 0 M 0).2.1 44 45 = -1 → ∀ h' k, k ≤ 16 → INV k (pX B L 501 0 M 0).2.1 → TxF h h' L 0 (-1) → hR h' 3 3 = some (hT h + 5) → LayR h' (hT h + 5) → (∀ l, l < k → LnC (hI h') (pX B L 501 0 M 0).2.1 (hT h + 5) l) → hI h' (hT h + 5) 0 = nI k → Q (some (.int (nI k))) h') :
    b_X11_text_0 Q [some (.ref 0), none, none] [] h := by
  have h90 := hl.1
  have hlN : LayX (nC h 10 6) := hl.nC _ _
  have h11 : hI (nC h 10 6) 1 1 = nI L := by rw [hI_nC, if_neg (by omega)]; exact htp.2.1
  -- behind Tokens.<init>
  have hlK : LayX (tkH (nC h 10 6) (hT h) L) := by
    unfold tkH
    exact ((((((hlN.pRb h90 _ _).nC _ _).pRb h90 _ _).nC _ _).pRb h90 _ _).nC _ _).pRb h90 _ _
  have kT : hT (tkH (nC h 10 6) (hT h) L) = hT h + 4 := rfl
  have e1 : ¬ hT h = hT h + 1 := by omega
  have e2 : ¬ hT h = hT h + 1 + 1 := by omega
  have e3 : ¬ hT h = hT h + 1 + 1 + 1 := by omega
  have kK : ∀ a, hK (tkH (nC h 10 6) (hT h) L) a = if a = hT h + 3 then 14 else if a = hT h + 2 then 14 else if a = hT h + 1 then 14 else if a = hT h then 10 else hK h a := fun _ => rfl
  have kL : ∀ a, hL (tkH (nC h 10 6) (hT h) L) a = if a = hT h + 3 then L + 1 else if a = hT h + 2 then L + 1 else if a = hT h + 1 then L + 1 else if a = hT h then 6 else hL h a := fun _ => rfl
  have kI : ∀ a i, hI (tkH (nC h 10 6) (hT h) L) a i = if a = hT h + 3 then 0 else if a = hT h + 2 then 0 else if a = hT h + 1 then 0 else if a = hT h then 0 else hI h a i := fun a i => by
    unfold tkH
    rw [hI_pR, hI_nC, hI_pR, hI_nC, hI_pR, hI_nC, hI_pR, hI_nC]; rfl
  have hltK : LayT (tkH (nC h 10 6) (hT h) L) (hT h) L := by
    refine ⟨h90, by rw [kT]; omega, ?_, ?_, ?_, ?_, ?_, ?_, ?_, ?_, ?_, ?_, ?_⟩
    · rw [kK, if_neg (by omega), if_neg (by omega), if_neg (by omega), if_pos rfl]
    · rw [kK, if_neg (by omega), if_neg (by omega), if_pos rfl]
    · rw [kK, if_neg (by omega), if_pos rfl]
    · rw [kK, if_pos rfl]
    · simp only [tkH, hR_pR, hR_nC, hT_pR, hT_nC, e1, e2, e3, true_and, Nat.reduceEqDiff, if_true, if_false, eq_self]
    · simp only [tkH, hR_pR, hR_nC, hT_pR, hT_nC, e1, e2, e3, true_and, Nat.reduceEqDiff, if_true, if_false, eq_self]
    · simp only [tkH, hR_pR, hR_nC, hT_pR, hT_nC, e1, e2, e3, true_and, Nat.reduceEqDiff, if_true, if_false, eq_self]
    · simp only [tkH, hR_pR, hR_nC, hT_pR, hT_nC, e1, e2, e3, true_and, Nat.reduceEqDiff, if_true, if_false, eq_self]
    · rw [kL, if_neg (by omega), if_neg (by omega), if_pos rfl]
    · rw [kL, if_neg (by omega), if_pos rfl]
    · rw [kL, if_pos rfl]
  have kold : ∀ a i, a < hT h → hI (tkH (nC h 10 6) (hT h) L) a i = hI h a i := fun a i ha => by rw [kI, if_neg (by omega), if_neg (by omega), if_neg (by omega), if_neg (by omega)]
  have htpK : TpC (hI (tkH (nC h 10 6) (hT h) L)) B L := TpC_c (funext fun j => kold 1 j (by omega)) (funext fun j => kold 2 j (by omega)) htp
  -- behind readAll
  have h16 : ∀ f N, TkD f (hT h) B L N → (∀ a j, a ≠ hT h → a ≠ hT h + 1 → a ≠ hT h + 2 → a ≠ hT h + 3 → f a j = hI (tkH (nC h 10 6) (hT h) L) a j) → c_X11_text_16 Q [some (.ref 0), some (.ref (hT h)), none] [] (wI (tkH (nC h 10 6) (hT h) L) f) := by
    intro f N htk hfo
    have hfo' : ∀ a j, a < hT h → f a j = hI h a j := fun a j ha => (hfo a j (by omega) (by omega) (by omega) (by omega)).trans (kold a j ha)
    have h24 := xtx_24 Q h hl L N B M f hL5 hinv h45 htk hfo' hq0 hq3 hq1
    have hTt : hT (wI (tkH (nC h 10 6) (hT h) L) f) = hT h + 4 := rfl
    have hcall : T_X2_init [.ref (hT h + 4), .ref (hT h)] (nC (wI (tkH (nC h 10 6) (hT h) L) f) 2 6) (fun r h' => c_X11_text_24 Q [some (.ref 0), some (.ref (hT h)), none] (r.toList ++ [.ref (hT h + 4)]) h') := ⟨Nat.lt_succ_self (hT h + 4), by rw [hK_nC, hTt, if_pos rfl], h24⟩
    generalize wI (tkH (nC h 10 6) (hT h) L) f = X at hTt hcall ⊢
    simp only [c_X11_text_16, i_push, i_ild, i_ald, i_ist, i_ast, i_inc, i_bin, i_un, i_divs, i_i2l, i_lshl, i_lor, i_dup, i_dup2, i_pop, i_if, i_cmp, i_nul, i_vret, i_iret, i_zret, i_aret, i_keep, keep, lget, lset, ent, i_getI, i_getJ, i_getR, i_getN, i_putI, i_putZ, i_putJ, i_putR, i_iald, i_bald, i_alen, i_aald, i_iast, i_bast, i_aast, i_new, i_newa, i_anew, i_oini, i_callS, i_callV, i_callI, popn, sh4, i_sw, swP, i_copy, i_binS, List.map, Option.toList_none, Option.toList_some, List.append, List.nil_append, List.cons_append, List.length_cons, List.length_nil, List.replicate, Nat.sub_self, Nat.reduceSub, Nat.reduceAdd, hK_pI, hL_pI, hI_pI, hR_pI, hJ_pI, hT_pI, hS_pI, hK_pR, hL_pR, hI_pR, hR_pR, hJ_pR, hT_pR, hS_pR, hK_pJ, hL_pJ, hI_pJ, hR_pJ, hJ_pJ, hT_pJ, hS_pJ, hK_wI, hL_wI, hI_wI, hR_wI, hJ_wI, hT_wI, hS_wI, eq_self, and_true, true_and, and_false, false_and, or_true, true_or, or_false, false_or, if_true, if_false, not_true_eq_false, not_false_eq_true, forall_const, implies_true, false_implies, true_implies, Option.some.injEq, forall_eq', exists_eq_left', reduceCtorEq, Nat.reduceEqDiff, c1, T_X12_in, T_X12_ones, T_X11_within, T_X11_bit, T_X11_isIn, T_X11_oneIfIn, T_J6_bitCount_0f7a4, show fN 2 = 6 from rfl, hTt]
    exact hcall
  have h11' : c_X11_text_11 Q [some (.ref 0), none, none] [.ref (hT h)] (tkH (nC h 10 6) (hT h) L) := by
    have hcall : T_X10_readAll [.ref (hT h)] (tkH (nC h 10 6) (hT h) L) (fun r h' => c_X11_text_16 Q [some (.ref 0), some (.ref (hT h)), none] (r.toList ++ []) h') := by
      refine ⟨hlK, B, L, hltK, htpK, ?_, fun i _ => ?_, fun f N htk hfo => h16 f N htk hfo⟩
      · rw [kI, if_neg (by omega), if_neg (by omega), if_neg (by omega), if_pos rfl]
      · rw [kI, if_pos rfl]
    have hf := hltK.f
    generalize tkH (nC h 10 6) (hT h) L = X at hf hcall ⊢
    simp only [c_X11_text_11, i_push, i_ild, i_ald, i_ist, i_ast, i_inc, i_bin, i_un, i_divs, i_i2l, i_lshl, i_lor, i_dup, i_dup2, i_pop, i_if, i_cmp, i_nul, i_vret, i_iret, i_zret, i_aret, i_keep, keep, lget, lset, ent, i_getI, i_getJ, i_getR, i_getN, i_putI, i_putZ, i_putJ, i_putR, i_iald, i_bald, i_alen, i_aald, i_iast, i_bast, i_aast, i_new, i_newa, i_anew, i_oini, i_callS, i_callV, i_callI, popn, sh4, i_sw, swP, i_copy, i_binS, List.map, Option.toList_none, Option.toList_some, List.append, List.nil_append, List.cons_append, List.length_cons, List.length_nil, List.replicate, Nat.sub_self, Nat.reduceSub, Nat.reduceAdd, hK_pI, hL_pI, hI_pI, hR_pI, hJ_pI, hT_pI, hS_pI, hK_pR, hL_pR, hI_pR, hR_pR, hJ_pR, hT_pR, hS_pR, hK_pJ, hL_pJ, hI_pJ, hR_pJ, hJ_pJ, hT_pJ, hS_pJ, hK_wI, hL_wI, hI_wI, hR_wI, hJ_wI, hT_wI, hS_wI, eq_self, and_true, true_and, and_false, false_and, or_true, true_or, or_false, false_or, if_true, if_false, not_true_eq_false, not_false_eq_true, forall_const, implies_true, false_implies, true_implies, Option.some.injEq, forall_eq', exists_eq_left', reduceCtorEq, Nat.reduceEqDiff, c1, T_X12_in, T_X12_ones, T_X11_within, T_X11_bit, T_X11_isIn, T_X11_oneIfIn, T_J6_bitCount_0f7a4, hf]
    exact hcall
  have hcall : T_X10_init [.ref (hT h), .ref 1] (nC h 10 6) (fun r h' => c_X11_text_11 Q [some (.ref 0), none, none] (r.toList ++ [.ref (hT h)]) h') := ⟨rfl, hlN, rfl, h90, by rw [hK_nC, if_pos rfl], L, hL5, h11, h11'⟩
  have z0 : ¬ 0 = hT h := by omega
  have z1 : 0 < hT h + 1 := by omega
  simp only [b_X11_text_0, lx_pI, lx_wI, lx_t hl, lx_k hl, lx_r hl, lx_l hl, i_push, i_ild, i_ald, i_ist, i_ast, i_inc, i_bin, i_un, i_divs, i_i2l, i_lshl, i_lor, i_dup, i_dup2, i_pop, i_if, i_cmp, i_nul, i_vret, i_iret, i_zret, i_aret, i_keep, keep, lget, lset, ent, i_getI, i_getJ, i_getR, i_getN, i_putI, i_putZ, i_putJ, i_putR, i_iald, i_bald, i_alen, i_aald, i_iast, i_bast, i_aast, i_new, i_newa, i_anew, i_oini, i_callS, i_callV, i_callI, popn, sh4, i_sw, swP, i_copy, i_binS, List.map, Option.toList_none, Option.toList_some, List.append, List.nil_append, List.cons_append, List.length_cons, List.length_nil, List.replicate, Nat.sub_self, Nat.reduceSub, Nat.reduceAdd, hK_pI, hL_pI, hI_pI, hR_pI, hJ_pI, hT_pI, hS_pI, hK_pR, hL_pR, hI_pR, hR_pR, hJ_pR, hT_pR, hS_pR, hK_pJ, hL_pJ, hI_pJ, hR_pJ, hJ_pJ, hT_pJ, hS_pJ, hK_wI, hL_wI, hI_wI, hR_wI, hJ_wI, hT_wI, hS_wI, eq_self, and_true, true_and, and_false, false_and, or_true, true_or, or_false, false_or, if_true, if_false, not_true_eq_false, not_false_eq_true, forall_const, implies_true, false_implies, true_implies, Option.some.injEq, forall_eq', exists_eq_left', reduceCtorEq, Nat.reduceEqDiff, c1, T_X12_in, T_X12_ones, T_X11_within, T_X11_bit, T_X11_isIn, T_X11_oneIfIn, T_J6_bitCount_0f7a4, show fN 10 = 6 from rfl, hT_nC, hK_nC, hR_nC, z0, z1]
  exact hcall
set_option maxRecDepth 100000 in
set_option maxHeartbeats 4000000 in
theorem ok_X11_text : ctr 9 MX11_text T_X11_text := by
  refine ctr_of pn_X11 wc_X11_text (fun av h Q hT => ?_)
  unfold T_X11_text at hT
  split at hT
  · rename_i o
    refine ⟨⟨by simp [Value.category], Nat.le_of_ble_eq_true rfl⟩, s_X11_text_0 Q _ _ _ ?_⟩
    obtain ⟨rfl, hl, L, B, M, hL, htp, hinv, h45, hq0, hq3, hq1⟩ := hT
    exact xtx_0 Q h hl L B M hL htp hinv h45 hq0 hq3 hq1
  · exact hT.elim
