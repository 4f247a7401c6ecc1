/-! ===== the reference: an evening, from the placing on ===== -/
theorem k5 : (5 : Int32) = nI 5 := rfl
theorem k9 : (9 : Int32) = nI 9 := rfl
theorem k1' : (1 : Int32) = nI 1 := rfl
theorem k2' : (2 : Int32) = nI 2 := rfl
theorem k3' : (3 : Int32) = nI 3 := rfl
theorem k4' : (4 : Int32) = nI 4 := rfl
set_option maxRecDepth 100000 in
set_option maxHeartbeats 400000 in
theorem ev_313 (Q : Option Value → Hp → Prop) (h : Hp) (hl0 : LayM h) (f : Nat → Nat → Int32) (T those : Int32) (R E : Nat) (hR : R ≤ 4) (hE : E < 400) (h46 : f 46 0 = nI R)
    (hout : wp 23 MX12_evening Q 362 [some (.ref 44), none, none, some (.int those), some (.int T), none, none, none, none, some (.int 0), none] [] (wI h (bkL f R E 4))) :
    ∀ (m j : Nat), m = 4 - j → j ≤ 4 → wp 23 MX12_evening Q 313 [some (.ref 44), none, none, some (.int those), some (.int T), none, none, none, some (.int (nI (10 * E))), some (.int (nI j)), none] [] (wI h (bkL f R E j)) := by
  intro m
  induction m with
  | zero =>
    intro j hm hj
    have e : j = 4 := by omega
    subst e
    refine s_X12_evening_313 Q _ _ _ ?_
    generalize wI h (bkL f R E 4) = H at hout ⊢
    simp only [b_X12_evening_313, i_push, i_ild, i_ald, i_ist, i_ast, i_inc, i_bin, i_un, i_divs, i_i2l, i_lshl, i_lor, i_dup, i_dup2, i_pop, i_if, i_cmp, i_nul, i_vret, i_iret, i_zret, i_aret, i_keep, keep, lget, lset, ent, i_getI, i_getJ, i_getR, i_getN, i_putI, i_putZ, i_putJ, i_putR, i_iald, i_bald, i_alen, i_aald, i_iast, i_bast, i_aast, i_new, i_newa, i_anew, i_oini, i_callS, i_callV, i_callI, popn, sh4, i_sw, swP, i_copy, i_binS, List.map, Option.toList_none, Option.toList_some, List.append, List.nil_append, List.cons_append, List.length_cons, List.length_nil, List.replicate, Nat.sub_self, Nat.reduceSub, Nat.reduceAdd, hK_pI, hL_pI, hI_pI, hR_pI, hJ_pI, hT_pI, hS_pI, hK_pR, hL_pR, hI_pR, hR_pR, hJ_pR, hT_pR, hS_pR, hK_pJ, hL_pJ, hI_pJ, hR_pJ, hJ_pJ, hT_pJ, hS_pJ, hK_wI, hL_wI, hI_wI, hR_wI, hJ_wI, hT_wI, hS_wI, eq_self, and_true, true_and, and_false, false_and, or_true, true_or, or_false, false_or, if_true, if_false, not_true_eq_false, not_false_eq_true, forall_const, implies_true, false_implies, true_implies, Option.some.injEq, forall_eq', exists_eq_left', reduceCtorEq, Nat.reduceEqDiff, c1, T_X12_in, T_X12_ones, T_X11_within, T_X11_bit, T_X11_isIn, T_X11_oneIfIn, T_J6_bitCount_0f7a4]
    exact ⟨fun _ => hout, fun z => absurd (by decide) z⟩
  | succ m ih =>
    intro j hm hj
    have hl : LayM (wI h (bkL f R E j)) := hl0.wI _
    have e46 : hI (wI h (bkL f R E j)) 46 0 = nI R := (bkL_o f R E j (by decide) 0).trans h46
    have e88 : hI (wI h (bkL f R E j)) 88 j = f 88 j := bkL_o f R E j (show 88 ≠ 77 by decide) j
    have h352 : ∀ v, (v = if j < R then f 88 j else 0) → wp 23 MX12_evening Q 352 [some (.ref 44), none, none, some (.int those), some (.int T), none, none, none, some (.int (nI (10 * E))), some (.int (nI j)), none] [.int v, .int (nI (10 * E + 5 + j)), .ref 77] (wI h (bkL f R E j)) := by
      intro v hv
      have hgo := ih (j + 1) (by omega) (by omega)
      rw [← bkL_s f R E j v hv] at hgo
      have hH : pI (wI h (bkL f R E j)) 77 (10 * E + 5 + j) v = wI h (u2 (bkL f R E j) 77 (10 * E + 5 + j) v) := rfl
      rw [← hH] at hgo
      refine s_X12_evening_352 Q _ _ _ ?_
      generalize wI h (bkL f R E j) = H at hl hgo ⊢
      simp only [b_X12_evening_352, hl, lay_pI, lay_wI, lay_pJ, lm_t hl, lm_k hl, lm_r hl, lm_l hl, i_push, i_ild, i_ald, i_ist, i_ast, i_inc, i_bin, i_un, i_divs, i_i2l, i_lshl, i_lor, i_dup, i_dup2, i_pop, i_if, i_cmp, i_nul, i_vret, i_iret, i_zret, i_aret, i_keep, keep, lget, lset, ent, i_getI, i_getJ, i_getR, i_getN, i_putI, i_putZ, i_putJ, i_putR, i_iald, i_bald, i_alen, i_aald, i_iast, i_bast, i_aast, i_new, i_newa, i_anew, i_oini, i_callS, i_callV, i_callI, popn, sh4, i_sw, swP, i_copy, i_binS, List.map, Option.toList_none, Option.toList_some, List.append, List.nil_append, List.cons_append, List.length_cons, List.length_nil, List.replicate, Nat.sub_self, Nat.reduceSub, Nat.reduceAdd, hK_pI, hL_pI, hI_pI, hR_pI, hJ_pI, hT_pI, hS_pI, hK_pR, hL_pR, hI_pR, hR_pR, hJ_pR, hT_pR, hS_pR, hK_pJ, hL_pJ, hI_pJ, hR_pJ, hJ_pJ, hT_pJ, hS_pJ, hK_wI, hL_wI, hI_wI, hR_wI, hJ_wI, hT_wI, hS_wI, eq_self, and_true, true_and, and_false, false_and, or_true, true_or, or_false, false_or, if_true, if_false, not_true_eq_false, not_false_eq_true, forall_const, implies_true, false_implies, true_implies, Option.some.injEq, forall_eq', exists_eq_left', reduceCtorEq, Nat.reduceEqDiff, c1, T_X12_in, T_X12_ones, T_X11_within, T_X11_bit, T_X11_isIn, T_X11_oneIfIn, T_J6_bitCount_0f7a4, cl_nI (show 10 * E + 5 + j < 2147483648 by omega), in_nI (show 10 * E + 5 + j < 16000 by omega) (by decide), nI_1]
      exact hgo
    refine s_X12_evening_313 Q _ _ _ ?_
    generalize wI h (bkL f R E j) = H at hl e46 e88 h352 ⊢
    simp only [b_X12_evening_313, hl, lay_pI, lay_wI, lay_pJ, lm_t hl, lm_k hl, lm_r hl, lm_l hl, i_push, i_ild, i_ald, i_ist, i_ast, i_inc, i_bin, i_un, i_divs, i_i2l, i_lshl, i_lor, i_dup, i_dup2, i_pop, i_if, i_cmp, i_nul, i_vret, i_iret, i_zret, i_aret, i_keep, keep, lget, lset, ent, i_getI, i_getJ, i_getR, i_getN, i_putI, i_putZ, i_putJ, i_putR, i_iald, i_bald, i_alen, i_aald, i_iast, i_bast, i_aast, i_new, i_newa, i_anew, i_oini, i_callS, i_callV, i_callI, popn, sh4, i_sw, swP, i_copy, i_binS, List.map, Option.toList_none, Option.toList_some, List.append, List.nil_append, List.cons_append, List.length_cons, List.length_nil, List.replicate, Nat.sub_self, Nat.reduceSub, Nat.reduceAdd, hK_pI, hL_pI, hI_pI, hR_pI, hJ_pI, hT_pI, hS_pI, hK_pR, hL_pR, hI_pR, hR_pR, hJ_pR, hT_pR, hS_pR, hK_pJ, hL_pJ, hI_pJ, hR_pJ, hJ_pJ, hT_pJ, hS_pJ, hK_wI, hL_wI, hI_wI, hR_wI, hJ_wI, hT_wI, hS_wI, eq_self, and_true, true_and, and_false, false_and, or_true, true_or, or_false, false_or, if_true, if_false, not_true_eq_false, not_false_eq_true, forall_const, implies_true, false_implies, true_implies, Option.some.injEq, forall_eq', exists_eq_left', reduceCtorEq, Nat.reduceEqDiff, c1, T_X12_in, T_X12_ones, T_X11_within, T_X11_bit, T_X11_isIn, T_X11_oneIfIn, T_J6_bitCount_0f7a4, in0 4 (by decide) (by decide), cl0, e46, cl_nI (show j < 2147483648 by omega), in_nI (show j < 4 by omega) (by decide), e88, k5, nI_add]
    refine ⟨fun z => absurd z (nI_ge (by omega) (by omega) : ¬ nI 4 ≤ nI j), fun _ => ⟨fun z => h352 _ ?_, fun z => h352 _ ?_⟩⟩
    · rw [if_neg (fun c => absurd z (nI_ge c (by omega)))]
    · rw [if_pos (Nat.lt_of_not_le (fun c => z (nI_le c (by omega))))]
theorem hlM_at68 (f : Nat → Nat → Int32) (C : Int32) (d k : Nat) (v : Int32) (i : Nat) (h : k ≤ i) : u2 (hlM f C d k) 67 k v 68 i = f 68 i := by
  rw [u2_ne (fun z => by cases z.1), hlM_68 f C d k i h]
set_option maxRecDepth 100000 in
set_option maxHeartbeats 400000 in
theorem ev_156 (Q : Option Value → Hp → Prop) (h : Hp) (hl0 : LayM h) (f : Nat → Nat → Int32) (T those C : Int32) (R H E w d : Nat) (K : Int32) (hR : R ≤ 4) (hH8 : H ≤ 8) (hE : E < 400) (hd : d < 7) (h46 : f 46 0 = nI R) (h64 : f 64 0 = nI H) (h76 : f 76 0 = nI E) (h56 : f 44 56 = K)
    (hout : wp 23 MX12_evening Q 362 [some (.ref 44), none, none, some (.int those), some (.int T), none, none, none, none, some (.int 0), none] [] (wI h (bkL (bk0 (hlM f C d H) R E T those C w K) R E 4))) :
    ∀ (m k : Nat), m = H - k → k ≤ H → wp 23 MX12_evening Q 156 [some (.ref 44), none, none, some (.int those), some (.int T), some (.int (nI d)), some (.int (nI w)), some (.int C), some (.int (nI k)), none, none] [] (wI h (hlM f C d k)) := by
  intro m
  induction m with
  | zero =>
    intro k hm hk
    have e : k = H := by omega
    subst e
    have hl : LayM (wI h (hlM f C d k)) := hl0.wI _
    have e64 : hI (wI h (hlM f C d k)) 64 0 = nI k := (hlM_o f C d k (by decide) (by decide) 0).trans h64
    have e46 : hI (wI h (hlM f C d k)) 46 0 = nI R := (hlM_o f C d k (by decide) (by decide) 0).trans h46
    have e76 : hI (wI h (hlM f C d k)) 76 0 = nI E := (hlM_o f C d k (by decide) (by decide) 0).trans h76
    have e56 : hI (wI h (hlM f C d k)) 44 56 = K := (hlM_o f C d k (by decide) (by decide) 56).trans h56
    have hgo := ev_313 Q h hl0 (bk0 (hlM f C d k) R E T those C w K) T those R E hR hE ((bk0_o _ _ _ _ _ _ _ _ (by decide) 0).trans e46) hout 4 0 (by omega) (by omega)
    rw [bkL_0] at hgo
    have hH : wI h (bk0 (hlM f C d k) R E T those C w K) = pI (pI (pI (pI (pI (pI (wI h (hlM f C d k)) 77 (10 * E + 9) (nI R)) 77 (10 * E) those) 77 (10 * E + 1) T) 77 (10 * E + 2) C) 77 (10 * E + 3) (nI w - nI (pct C))) 77 (10 * E + 4) K := rfl
    rw [hH] at hgo
    have e10 : (10 : Int32) * nI E = nI (10 * E) := nI_mul 10 E
    refine s_X12_evening_156 Q _ _ _ ?_
    generalize wI h (hlM f C d k) = H at hl e64 e46 e76 e56 hgo ⊢
    simp only [b_X12_evening_156, hl, lay_pI, lay_wI, lay_pJ, lm_t hl, lm_k hl, lm_r hl, lm_l hl, i_push, i_ild, i_ald, i_ist, i_ast, i_inc, i_bin, i_un, i_divs, i_i2l, i_lshl, i_lor, i_dup, i_dup2, i_pop, i_if, i_cmp, i_nul, i_vret, i_iret, i_zret, i_aret, i_keep, keep, lget, lset, ent, i_getI, i_getJ, i_getR, i_getN, i_putI, i_putZ, i_putJ, i_putR, i_iald, i_bald, i_alen, i_aald, i_iast, i_bast, i_aast, i_new, i_newa, i_anew, i_oini, i_callS, i_callV, i_callI, popn, sh4, i_sw, swP, i_copy, i_binS, List.map, Option.toList_none, Option.toList_some, List.append, List.nil_append, List.cons_append, List.length_cons, List.length_nil, List.replicate, Nat.sub_self, Nat.reduceSub, Nat.reduceAdd, hK_pI, hL_pI, hI_pI, hR_pI, hJ_pI, hT_pI, hS_pI, hK_pR, hL_pR, hI_pR, hR_pR, hJ_pR, hT_pR, hS_pR, hK_pJ, hL_pJ, hI_pJ, hR_pJ, hJ_pJ, hT_pJ, hS_pJ, hK_wI, hL_wI, hI_wI, hR_wI, hJ_wI, hT_wI, hS_wI, eq_self, and_true, true_and, and_false, false_and, or_true, true_or, or_false, false_or, if_true, if_false, not_true_eq_false, not_false_eq_true, forall_const, implies_true, false_implies, true_implies, Option.some.injEq, forall_eq', exists_eq_left', reduceCtorEq, Nat.reduceEqDiff, c1, T_X12_in, T_X12_ones, T_X11_within, T_X11_bit, T_X11_isIn, T_X11_oneIfIn, T_J6_bitCount_0f7a4, in0 4 (by decide) (by decide), cl0, e64, e46, e76, e56, e10, k9, k1', k2', k3', k4', nI_add, cl_nI (show 10 * E < 2147483648 by omega), cl_nI (show 10 * E + 9 < 2147483648 by omega), cl_nI (show 10 * E + 1 < 2147483648 by omega), cl_nI (show 10 * E + 2 < 2147483648 by omega), cl_nI (show 10 * E + 3 < 2147483648 by omega), cl_nI (show 10 * E + 4 < 2147483648 by omega), in_nI (show 10 * E < 16000 by omega) (by decide), in_nI (show 10 * E + 9 < 16000 by omega) (by decide), in_nI (show 10 * E + 1 < 16000 by omega) (by decide), in_nI (show 10 * E + 2 < 16000 by omega) (by decide), in_nI (show 10 * E + 3 < 16000 by omega) (by decide), in_nI (show 10 * E + 4 < 16000 by omega) (by decide)]
    exact ⟨fun _ => hgo, fun z => absurd (nI_le (Nat.le_refl _) (by omega)) z⟩
  | succ m ih =>
    intro k hm hk
    have hl : LayM (wI h (hlM f C d k)) := hl0.wI _
    have e64 : hI (wI h (hlM f C d k)) 64 0 = nI H := (hlM_o f C d k (by decide) (by decide) 0).trans h64
    have e67 : hI (wI h (hlM f C d k)) 67 k = f 67 k := hlM_67 f C d k k (Nat.le_refl _)
    have e68 : hI (wI h (hlM f C d k)) 68 k = f 68 k := hlM_68 f C d k k (Nat.le_refl _)
    have hgo := ih (k + 1) (by omega) (by omega)
    rw [← hlM_s f C d k] at hgo
    have hH : wI h (u2 (u2 (hlM f C d k) 67 k (f 67 k + b2i (bt C k = true))) 68 k (if d = 6 then 0 else f 68 k + b2i (bt C k = true))) = pI (pI (wI h (hlM f C d k)) 67 k (f 67 k + b2i (bt C k = true))) 68 k (if d = 6 then 0 else f 68 k + b2i (bt C k = true)) := rfl
    rw [hH] at hgo
    have h216 : ∀ v, (v = if d = 6 then 0 else f 68 k + b2i (bt C k = true)) → wp 23 MX12_evening Q 216 [some (.ref 44), none, none, some (.int those), some (.int T), some (.int (nI d)), some (.int (nI w)), some (.int C), some (.int (nI k)), none, none] [.int v, .int (nI k), .ref 68] (pI (wI h (hlM f C d k)) 67 k (f 67 k + b2i (bt C k = true))) := by
      intro v hv
      subst hv
      refine s_X12_evening_216 Q _ _ _ ?_
      generalize wI h (hlM f C d k) = H' at hl hgo ⊢
      simp only [b_X12_evening_216, hl, lay_pI, lay_wI, lay_pJ, lm_t hl, lm_k hl, lm_r hl, lm_l hl, i_push, i_ild, i_ald, i_ist, i_ast, i_inc, i_bin, i_un, i_divs, i_i2l, i_lshl, i_lor, i_dup, i_dup2, i_pop, i_if, i_cmp, i_nul, i_vret, i_iret, i_zret, i_aret, i_keep, keep, lget, lset, ent, i_getI, i_getJ, i_getR, i_getN, i_putI, i_putZ, i_putJ, i_putR, i_iald, i_bald, i_alen, i_aald, i_iast, i_bast, i_aast, i_new, i_newa, i_anew, i_oini, i_callS, i_callV, i_callI, popn, sh4, i_sw, swP, i_copy, i_binS, List.map, Option.toList_none, Option.toList_some, List.append, List.nil_append, List.cons_append, List.length_cons, List.length_nil, List.replicate, Nat.sub_self, Nat.reduceSub, Nat.reduceAdd, hK_pI, hL_pI, hI_pI, hR_pI, hJ_pI, hT_pI, hS_pI, hK_pR, hL_pR, hI_pR, hR_pR, hJ_pR, hT_pR, hS_pR, hK_pJ, hL_pJ, hI_pJ, hR_pJ, hJ_pJ, hT_pJ, hS_pJ, hK_wI, hL_wI, hI_wI, hR_wI, hJ_wI, hT_wI, hS_wI, eq_self, and_true, true_and, and_false, false_and, or_true, true_or, or_false, false_or, if_true, if_false, not_true_eq_false, not_false_eq_true, forall_const, implies_true, false_implies, true_implies, Option.some.injEq, forall_eq', exists_eq_left', reduceCtorEq, Nat.reduceEqDiff, c1, T_X12_in, T_X12_ones, T_X11_within, T_X11_bit, T_X11_isIn, T_X11_oneIfIn, T_J6_bitCount_0f7a4, cl_nI (show k < 2147483648 by omega), in_nI (show k < 32 by omega) (by decide), nI_1]
      exact hgo
    refine s_X12_evening_156 Q _ _ _ ?_
    generalize wI h (hlM f C d k) = H' at hl e64 e67 e68 h216 ⊢
    simp only [b_X12_evening_156, hl, lay_pI, lay_wI, lay_pJ, lm_t hl, lm_k hl, lm_r hl, lm_l hl, i_push, i_ild, i_ald, i_ist, i_ast, i_inc, i_bin, i_un, i_divs, i_i2l, i_lshl, i_lor, i_dup, i_dup2, i_pop, i_if, i_cmp, i_nul, i_vret, i_iret, i_zret, i_aret, i_keep, keep, lget, lset, ent, i_getI, i_getJ, i_getR, i_getN, i_putI, i_putZ, i_putJ, i_putR, i_iald, i_bald, i_alen, i_aald, i_iast, i_bast, i_aast, i_new, i_newa, i_anew, i_oini, i_callS, i_callV, i_callI, popn, sh4, i_sw, swP, i_copy, i_binS, List.map, Option.toList_none, Option.toList_some, List.append, List.nil_append, List.cons_append, List.length_cons, List.length_nil, List.replicate, Nat.sub_self, Nat.reduceSub, Nat.reduceAdd, hK_pI, hL_pI, hI_pI, hR_pI, hJ_pI, hT_pI, hS_pI, hK_pR, hL_pR, hI_pR, hR_pR, hJ_pR, hT_pR, hS_pR, hK_pJ, hL_pJ, hI_pJ, hR_pJ, hJ_pJ, hT_pJ, hS_pJ, hK_wI, hL_wI, hI_wI, hR_wI, hJ_wI, hT_wI, hS_wI, eq_self, and_true, true_and, and_false, false_and, or_true, true_or, or_false, false_or, if_true, if_false, not_true_eq_false, not_false_eq_true, forall_const, implies_true, false_implies, true_implies, Option.some.injEq, forall_eq', exists_eq_left', reduceCtorEq, Nat.reduceEqDiff, c1, T_X12_in, T_X12_ones, T_X11_within, T_X11_bit, T_X11_isIn, T_X11_oneIfIn, T_J6_bitCount_0f7a4, in0 4 (by decide) (by decide), cl0, e64, e67, e68, cl_nI (show k < 2147483648 by omega), in_nI (show k < 32 by omega) (by decide), sh_1 C (show k < 32 by omega)]
    refine ⟨fun z => absurd z (nI_ge (by omega) (by omega)), fun _ => ⟨fun z => h216 _ ?_, fun z => h216 _ ?_⟩⟩
    · rw [if_pos ((nI_eq (show d < 2 ^ 31 by omega) (show 6 < 2 ^ 31 by decide)).mp z)]
    · rw [if_neg (fun c => z (by rw [c]; rfl))]
theorem wnF_s (f : Nat → Nat → Int32) (T : Int32) (r : Nat) : wnF f T (r + 1) = wnF f T r + (if f 88 r = 0 then 0 else 1) := by
  unfold wnF
  rw [fb_sm, Nat.add_assoc]
theorem wnF_le (f : Nat → Nat → Int32) (T : Int32) : ∀ r, wnF f T r ≤ r + 1
  | 0 => by
    unfold wnF
    rw [fb_sm]
    split <;> omega
  | r + 1 => by
    have := wnF_le f T r
    rw [wnF_s]
    split <;> omega
set_option maxRecDepth 100000 in
set_option maxHeartbeats 400000 in
theorem ev_106 (Q : Option Value → Hp → Prop) (h : Hp) (hl : LayM h) (T those : Int32) (R d : Nat) (hR : R ≤ 4) (h46 : hI h 46 0 = nI R)
    (hout : wp 23 MX12_evening Q 106 [some (.ref 44), none, none, some (.int those), some (.int T), some (.int (nI d)), some (.int (nI (wnF (hI h) T R))), some (.int (nI R)), none, none, none] [] h) :
    ∀ (m r : Nat), m = R - r → r ≤ R → wp 23 MX12_evening Q 106 [some (.ref 44), none, none, some (.int those), some (.int T), some (.int (nI d)), some (.int (nI (wnF (hI h) T r))), some (.int (nI r)), none, none, none] [] h := by
  intro m
  induction m with
  | zero =>
    intro r hm hr
    have e : r = R := by omega
    subst e
    exact hout
  | succ m ih =>
    intro r hm hr
    have hgo := ih (r + 1) (by omega) (by omega)
    have h134 : ∀ v, (v = if hI h 88 r = 0 then 0 else 1) → wp 23 MX12_evening Q 134 [some (.ref 44), none, none, some (.int those), some (.int T), some (.int (nI d)), none, some (.int (nI r)), none, none, none] [.int (nI v), .int (nI (wnF (hI h) T r))] h := by
      intro v hv
      refine s_X12_evening_134 Q _ _ _ ?_
      rw [wnF_s, ← hv] at hgo
      generalize wnF (hI h) T r = W at hgo ⊢
      simp only [b_X12_evening_134, i_push, i_ild, i_ald, i_ist, i_ast, i_inc, i_bin, i_un, i_divs, i_i2l, i_lshl, i_lor, i_dup, i_dup2, i_pop, i_if, i_cmp, i_nul, i_vret, i_iret, i_zret, i_aret, i_keep, keep, lget, lset, ent, i_getI, i_getJ, i_getR, i_getN, i_putI, i_putZ, i_putJ, i_putR, i_iald, i_bald, i_alen, i_aald, i_iast, i_bast, i_aast, i_new, i_newa, i_anew, i_oini, i_callS, i_callV, i_callI, popn, sh4, i_sw, swP, i_copy, i_binS, List.map, Option.toList_none, Option.toList_some, List.append, List.nil_append, List.cons_append, List.length_cons, List.length_nil, List.replicate, Nat.sub_self, Nat.reduceSub, Nat.reduceAdd, hK_pI, hL_pI, hI_pI, hR_pI, hJ_pI, hT_pI, hS_pI, hK_pR, hL_pR, hI_pR, hR_pR, hJ_pR, hT_pR, hS_pR, hK_pJ, hL_pJ, hI_pJ, hR_pJ, hJ_pJ, hT_pJ, hS_pJ, hK_wI, hL_wI, hI_wI, hR_wI, hJ_wI, hT_wI, hS_wI, eq_self, and_true, true_and, and_false, false_and, or_true, true_or, or_false, false_or, if_true, if_false, not_true_eq_false, not_false_eq_true, forall_const, implies_true, false_implies, true_implies, Option.some.injEq, forall_eq', exists_eq_left', reduceCtorEq, Nat.reduceEqDiff, c1, T_X12_in, T_X12_ones, T_X11_within, T_X11_bit, T_X11_isIn, T_X11_oneIfIn, T_J6_bitCount_0f7a4, nI_1, nI_add]
      exact hgo
    refine s_X12_evening_106 Q _ _ _ ?_
    generalize wnF (hI h) T r = W at h134 ⊢
    simp only [b_X12_evening_106, hl, lay_pI, lay_wI, lay_pJ, lm_t hl, lm_k hl, lm_r hl, lm_l hl, i_push, i_ild, i_ald, i_ist, i_ast, i_inc, i_bin, i_un, i_divs, i_i2l, i_lshl, i_lor, i_dup, i_dup2, i_pop, i_if, i_cmp, i_nul, i_vret, i_iret, i_zret, i_aret, i_keep, keep, lget, lset, ent, i_getI, i_getJ, i_getR, i_getN, i_putI, i_putZ, i_putJ, i_putR, i_iald, i_bald, i_alen, i_aald, i_iast, i_bast, i_aast, i_new, i_newa, i_anew, i_oini, i_callS, i_callV, i_callI, popn, sh4, i_sw, swP, i_copy, i_binS, List.map, Option.toList_none, Option.toList_some, List.append, List.nil_append, List.cons_append, List.length_cons, List.length_nil, List.replicate, Nat.sub_self, Nat.reduceSub, Nat.reduceAdd, hK_pI, hL_pI, hI_pI, hR_pI, hJ_pI, hT_pI, hS_pI, hK_pR, hL_pR, hI_pR, hR_pR, hJ_pR, hT_pR, hS_pR, hK_pJ, hL_pJ, hI_pJ, hR_pJ, hJ_pJ, hT_pJ, hS_pJ, hK_wI, hL_wI, hI_wI, hR_wI, hJ_wI, hT_wI, hS_wI, eq_self, and_true, true_and, and_false, false_and, or_true, true_or, or_false, false_or, if_true, if_false, not_true_eq_false, not_false_eq_true, forall_const, implies_true, false_implies, true_implies, Option.some.injEq, forall_eq', exists_eq_left', reduceCtorEq, Nat.reduceEqDiff, c1, T_X12_in, T_X12_ones, T_X11_within, T_X11_bit, T_X11_isIn, T_X11_oneIfIn, T_J6_bitCount_0f7a4, in0 4 (by decide) (by decide), cl0, h46, cl_nI (show r < 2147483648 by omega), in_nI (show r < 4 by omega) (by decide)]
    refine ⟨fun z => absurd z (nI_ge (by omega) (by omega)), fun _ => ⟨fun z => h134 0 ?_, fun z => h134 1 ?_⟩⟩
    · rw [if_pos z]
    · rw [if_neg z]
noncomputable def evC (I : Nat → Nat → Int32) (R H E : Nat) (T : Int32) : Int32 := calF I H (E % 7) (wnF I T R)
noncomputable def evD (I : Nat → Nat → Int32) (R P H E : Nat) (T those : Int32) (F : Nat → Nat) : Nat → Nat → Int32 :=
  u2 (ppM (bkL (bk0 (hlM I (evC I R H E T) (E % 7) H) R E T those (evC I R H E T) (wnF I T R) (I 44 56)) R E 4) T those F P) 76 0 (nI (E + 1))
theorem bb_o (f : Nat → Nat → Int32) (C : Int32) (R H E d w : Nat) (T those K : Int32) (a i : Nat) (h1 : a ≠ 67) (h2 : a ≠ 68) (h3 : a ≠ 77) : bkL (bk0 (hlM f C d H) R E T those C w K) R E 4 a i = f a i := by
  rw [bkL_o _ _ _ _ h3, bk0_o _ _ _ _ _ _ _ _ h3, hlM_o _ _ _ _ h1 h2]
set_option maxRecDepth 100000 in
set_option maxHeartbeats 400000 in
theorem ev_75 (Q : Option Value → Hp → Prop) (h : Hp) (hl : LayM h) (T those : Int32) (F : Nat → Nat) (R P H E : Nat) (hR : R ≤ 4) (hP : P ≤ 24) (hH : H ≤ 8) (hE : E < 400)
    (h46 : hI h 46 0 = nI R) (h52 : hI h 52 0 = nI P) (h64 : hI h 64 0 = nI H) (h76 : hI h 76 0 = nI E)
    (h88 : ∀ r p, r < R → p < P → bt T p = true → (bt (hI h 88 r) p = true ↔ F p = r)) (hF : ∀ p, p < P → bt T p = true → F p < R)
    (hq : Q (some (.int (nI (pct T)))) (wI h (evD (hI h) R P H E T those F))) :
    c_X12_evening_75 Q [some (.ref 44), none, none, some (.int those), some (.int T), none, none, none, none, none, none] [] h := by
  have hd : E % 7 < 7 := Nat.mod_lt _ (by decide)
  have h362 := ev_362 Q h hl (bkL (bk0 (hlM (hI h) (evC (hI h) R H E T) (E % 7) H) R E T those (evC (hI h) R H E T) (wnF (hI h) T R) (hI h 44 56)) R E 4) T those F R P E hR hP (by omega)
    (by rw [bb_o _ _ _ _ _ _ _ _ _ _ _ _ (by decide) (by decide) (by decide)]; exact h46) (by rw [bb_o _ _ _ _ _ _ _ _ _ _ _ _ (by decide) (by decide) (by decide)]; exact h52) (by rw [bb_o _ _ _ _ _ _ _ _ _ _ _ _ (by decide) (by decide) (by decide)]; exact h76)
    (fun r p hr hp hb => by rw [bb_o _ _ _ _ _ _ _ _ _ _ _ _ (by decide) (by decide) (by decide)]; exact h88 r p hr hp hb) hF hq P 0 (by omega) (by omega)
  rw [ppM_0] at h362
  have h156 := ev_156 Q h hl (hI h) T those (evC (hI h) R H E T) R H E (wnF (hI h) T R) (E % 7) (hI h 44 56) hR hH hE hd h46 h64 h76 rfl h362 H 0 (by omega) (by omega)
  rw [hlM_0, show wI h (hI h) = h from rfl] at h156
  have hw := wnF_le (hI h) T R
  have hc : T_X12_call [.ref 44, .int (nI (wnF (hI h) T R)), .int (nI (E % 7))] h (fun r h' => c_X12_evening_151 Q [some (.ref 44), none, none, some (.int those), some (.int T), some (.int (nI (E % 7))), some (.int (nI (wnF (hI h) T R))), some (.int (nI R)), none, none, none] (r.toList ++ []) h') := by
    refine ⟨rfl, hl, H, wnF (hI h) T R, E % 7, hH, h64, rfl, by omega, rfl, hd, ?_⟩
    show c_X12_evening_151 Q _ [.int (evC (hI h) R H E T)] h
    generalize evC (hI h) R H E T = C at h156 ⊢
    generalize wnF (hI h) T R = W at h156 ⊢
    generalize E % 7 = D at h156 ⊢
    simp only [c_X12_evening_151, i_push, i_ild, i_ald, i_ist, i_ast, i_inc, i_bin, i_un, i_divs, i_i2l, i_lshl, i_lor, i_dup, i_dup2, i_pop, i_if, i_cmp, i_nul, i_vret, i_iret, i_zret, i_aret, i_keep, keep, lget, lset, ent, i_getI, i_getJ, i_getR, i_getN, i_putI, i_putZ, i_putJ, i_putR, i_iald, i_bald, i_alen, i_aald, i_iast, i_bast, i_aast, i_new, i_newa, i_anew, i_oini, i_callS, i_callV, i_callI, popn, sh4, i_sw, swP, i_copy, i_binS, List.map, Option.toList_none, Option.toList_some, List.append, List.nil_append, List.cons_append, List.length_cons, List.length_nil, List.replicate, Nat.sub_self, Nat.reduceSub, Nat.reduceAdd, hK_pI, hL_pI, hI_pI, hR_pI, hJ_pI, hT_pI, hS_pI, hK_pR, hL_pR, hI_pR, hR_pR, hJ_pR, hT_pR, hS_pR, hK_pJ, hL_pJ, hI_pJ, hR_pJ, hJ_pJ, hT_pJ, hS_pJ, hK_wI, hL_wI, hI_wI, hR_wI, hJ_wI, hT_wI, hS_wI, eq_self, and_true, true_and, and_false, false_and, or_true, true_or, or_false, false_or, if_true, if_false, not_true_eq_false, not_false_eq_true, forall_const, implies_true, false_implies, true_implies, Option.some.injEq, forall_eq', exists_eq_left', reduceCtorEq, Nat.reduceEqDiff, c1, T_X12_in, T_X12_ones, T_X11_within, T_X11_bit, T_X11_isIn, T_X11_oneIfIn, T_J6_bitCount_0f7a4]
    exact h156
  have h106 := ev_106 Q h hl T those R (E % 7) hR h46 (by
    refine s_X12_evening_106 Q _ _ _ ?_
    generalize wnF (hI h) T R = W at hc ⊢
    generalize E % 7 = D at hc ⊢
    simp only [b_X12_evening_106, hl, lay_pI, lay_wI, lay_pJ, lm_t hl, lm_k hl, lm_r hl, lm_l hl, i_push, i_ild, i_ald, i_ist, i_ast, i_inc, i_bin, i_un, i_divs, i_i2l, i_lshl, i_lor, i_dup, i_dup2, i_pop, i_if, i_cmp, i_nul, i_vret, i_iret, i_zret, i_aret, i_keep, keep, lget, lset, ent, i_getI, i_getJ, i_getR, i_getN, i_putI, i_putZ, i_putJ, i_putR, i_iald, i_bald, i_alen, i_aald, i_iast, i_bast, i_aast, i_new, i_newa, i_anew, i_oini, i_callS, i_callV, i_callI, popn, sh4, i_sw, swP, i_copy, i_binS, List.map, Option.toList_none, Option.toList_some, List.append, List.nil_append, List.cons_append, List.length_cons, List.length_nil, List.replicate, Nat.sub_self, Nat.reduceSub, Nat.reduceAdd, hK_pI, hL_pI, hI_pI, hR_pI, hJ_pI, hT_pI, hS_pI, hK_pR, hL_pR, hI_pR, hR_pR, hJ_pR, hT_pR, hS_pR, hK_pJ, hL_pJ, hI_pJ, hR_pJ, hJ_pJ, hT_pJ, hS_pJ, hK_wI, hL_wI, hI_wI, hR_wI, hJ_wI, hT_wI, hS_wI, eq_self, and_true, true_and, and_false, false_and, or_true, true_or, or_false, false_or, if_true, if_false, not_true_eq_false, not_false_eq_true, forall_const, implies_true, false_implies, true_implies, Option.some.injEq, forall_eq', exists_eq_left', reduceCtorEq, Nat.reduceEqDiff, c1, T_X12_in, T_X12_ones, T_X11_within, T_X11_bit, T_X11_isIn, T_X11_oneIfIn, T_J6_bitCount_0f7a4, in0 4 (by decide) (by decide), cl0, h46]
    exact ⟨fun _ => hc, fun z => absurd (nI_le (Nat.le_refl _) (by omega)) z⟩) R 0 (by omega) (by omega)
  have h101 : ∀ v, v = (if 8 < pct T then 1 else 0) → wp 23 MX12_evening Q 101 [some (.ref 44), none, none, some (.int those), some (.int T), some (.int (nI (E % 7))), none, none, none, none, none] [.int (nI v)] h := by
    intro v hv
    have e0 : wnF (hI h) T 0 = v := by unfold wnF; rw [fb_sm, Nat.add_zero, hv]
    rw [e0] at h106
    refine s_X12_evening_101 Q _ _ _ ?_
    generalize E % 7 = D at h106 ⊢
    simp only [b_X12_evening_101, i_push, i_ild, i_ald, i_ist, i_ast, i_inc, i_bin, i_un, i_divs, i_i2l, i_lshl, i_lor, i_dup, i_dup2, i_pop, i_if, i_cmp, i_nul, i_vret, i_iret, i_zret, i_aret, i_keep, keep, lget, lset, ent, i_getI, i_getJ, i_getR, i_getN, i_putI, i_putZ, i_putJ, i_putR, i_iald, i_bald, i_alen, i_aald, i_iast, i_bast, i_aast, i_new, i_newa, i_anew, i_oini, i_callS, i_callV, i_callI, popn, sh4, i_sw, swP, i_copy, i_binS, List.map, Option.toList_none, Option.toList_some, List.append, List.nil_append, List.cons_append, List.length_cons, List.length_nil, List.replicate, Nat.sub_self, Nat.reduceSub, Nat.reduceAdd, hK_pI, hL_pI, hI_pI, hR_pI, hJ_pI, hT_pI, hS_pI, hK_pR, hL_pR, hI_pR, hR_pR, hJ_pR, hT_pR, hS_pR, hK_pJ, hL_pJ, hI_pJ, hR_pJ, hJ_pJ, hT_pJ, hS_pJ, hK_wI, hL_wI, hI_wI, hR_wI, hJ_wI, hT_wI, hS_wI, eq_self, and_true, true_and, and_false, false_and, or_true, true_or, or_false, false_or, if_true, if_false, not_true_eq_false, not_false_eq_true, forall_const, implies_true, false_implies, true_implies, Option.some.injEq, forall_eq', exists_eq_left', reduceCtorEq, Nat.reduceEqDiff, c1, T_X12_in, T_X12_ones, T_X11_within, T_X11_bit, T_X11_isIn, T_X11_oneIfIn, T_J6_bitCount_0f7a4]
    exact h106
  have e7 : nI E - nI E / 7 * 7 = nI (E % 7) := pk_rem (by omega) (by decide) (by decide)
  have hpt : pct T ≤ 32 := pct_le T
  simp only [c_X12_evening_75, hl, lay_pI, lay_wI, lay_pJ, lm_t hl, lm_k hl, lm_r hl, lm_l hl, i_push, i_ild, i_ald, i_ist, i_ast, i_inc, i_bin, i_un, i_divs, i_i2l, i_lshl, i_lor, i_dup, i_dup2, i_pop, i_if, i_cmp, i_nul, i_vret, i_iret, i_zret, i_aret, i_keep, keep, lget, lset, ent, i_getI, i_getJ, i_getR, i_getN, i_putI, i_putZ, i_putJ, i_putR, i_iald, i_bald, i_alen, i_aald, i_iast, i_bast, i_aast, i_new, i_newa, i_anew, i_oini, i_callS, i_callV, i_callI, popn, sh4, i_sw, swP, i_copy, i_binS, List.map, Option.toList_none, Option.toList_some, List.append, List.nil_append, List.cons_append, List.length_cons, List.length_nil, List.replicate, Nat.sub_self, Nat.reduceSub, Nat.reduceAdd, hK_pI, hL_pI, hI_pI, hR_pI, hJ_pI, hT_pI, hS_pI, hK_pR, hL_pR, hI_pR, hR_pR, hJ_pR, hT_pR, hS_pR, hK_pJ, hL_pJ, hI_pJ, hR_pJ, hJ_pJ, hT_pJ, hS_pJ, hK_wI, hL_wI, hI_wI, hR_wI, hJ_wI, hT_wI, hS_wI, eq_self, and_true, true_and, and_false, false_and, or_true, true_or, or_false, false_or, if_true, if_false, not_true_eq_false, not_false_eq_true, forall_const, implies_true, false_implies, true_implies, Option.some.injEq, forall_eq', exists_eq_left', reduceCtorEq, Nat.reduceEqDiff, c1, T_X12_in, T_X12_ones, T_X11_within, T_X11_bit, T_X11_isIn, T_X11_oneIfIn, T_J6_bitCount_0f7a4, in0 4 (by decide) (by decide), cl0, h76, e7]
  refine ⟨by decide, fun z => h101 0 ?_, fun z => h101 1 ?_⟩
  · rw [if_neg (fun c => absurd z (nI_ge c (by omega)))]
  · rw [if_pos (Nat.lt_of_not_le (fun c => z (nI_le (show pct T ≤ 8 from c) (by decide))))]
