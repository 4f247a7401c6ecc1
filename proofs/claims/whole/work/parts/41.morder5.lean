/-- the places of the first k of THE ORDER are written -/
def plS (f : Nat → Nat → Int32) (o : Nat → Nat) : Nat → Nat → Nat → Int32
  | 0 => f
  | k + 1 => u2 (plS f o k) 79 (o k) (nI k)
theorem plS_o (f : Nat → Nat → Int32) (o : Nat → Nat) : ∀ (k a i : Nat), a ≠ 79 → plS f o k a i = f a i
  | 0, _, _, _ => rfl
  | k + 1, a, i, ha => by
    show u2 (plS f o k) 79 (o k) (nI k) a i = _
    rw [u2_ne (fun q => ha q.1)]
    exact plS_o f o k a i ha
def T_X12_makeOrder : Tr := fun av h Q => match av with
  | [.ref q, .int door, .int cold] => q = 44 ∧ LayM h ∧ ∃ E Ln P, E ≤ 400 ∧ hI h 76 0 = nI E ∧ Ln ≤ 16 ∧ hI h 69 0 = nI Ln ∧ linOk (hI h) Ln ∧ P ≤ 24 ∧ hI h 52 0 = nI P ∧ ∀ f, MO (hI h) f E Ln door cold P → Q none (wI h (plS f (ordS (hI h) E Ln door cold P).2 (ordS (hI h) E Ln door cold P).1))
  | _ => False
set_option maxRecDepth 100000 in
theorem ord_176 (Q : Option Value → Hp → Prop) (h : Hp) (hl0 : LayM h) (f : Nat → Nat → Int32) (o : Nat → Nat) (n : Nat) (hn : n ≤ 24) (hf : f 44 53 = nI n) (ho : ∀ j, j < n → o j < 24 ∧ f 86 j = nI (o j)) (hq : Q none (wI h (plS f o n))) :
    ∀ (m k : Nat), m = n - k → k ≤ n → wp 4 MX12_makeOrder Q 176 [some (.ref 44), none, none, some (.int (nI k)), none] [] (wI h (plS f o k)) := by
  intro m
  induction m with
  | zero =>
    intro k hm hk
    have e : k = n := by omega
    subst e
    have hl : LayM (wI h (plS f o k)) := hl0.wI _
    have e53 : hI (wI h (plS f o k)) 44 53 = nI k := (plS_o f o k 44 53 (by decide)).trans hf
    refine s_X12_makeOrder_176 Q _ _ _ ?_
    generalize wI h (plS f o k) = g at hl e53 hq ⊢
    simp only [b_X12_makeOrder_176, hl, lay_pI, lay_wI, lay_pJ, lm_t hl, lm_k hl, lm_r hl, lm_l hl, i_push, i_ild, i_ald, i_ist, i_ast, i_inc, i_bin, i_un, i_divs, i_i2l, i_lshl, i_lor, i_dup, i_dup2, i_pop, i_if, i_cmp, i_nul, i_vret, i_iret, i_zret, i_aret, i_keep, keep, lget, lset, ent, i_getI, i_getJ, i_getR, i_getN, i_putI, i_putZ, i_putJ, i_putR, i_iald, i_bald, i_alen, i_aald, i_iast, i_bast, i_aast, i_new, i_newa, i_anew, i_oini, i_callS, i_callV, i_callI, popn, sh4, i_sw, swP, i_copy, i_binS, List.map, Option.toList_none, Option.toList_some, List.append, List.nil_append, List.cons_append, List.length_cons, List.length_nil, List.replicate, Nat.sub_self, Nat.reduceSub, Nat.reduceAdd, hK_pI, hL_pI, hI_pI, hR_pI, hJ_pI, hT_pI, hS_pI, hK_pR, hL_pR, hI_pR, hR_pR, hJ_pR, hT_pR, hS_pR, hK_pJ, hL_pJ, hI_pJ, hR_pJ, hJ_pJ, hT_pJ, hS_pJ, hK_wI, hL_wI, hI_wI, hR_wI, hJ_wI, hT_wI, hS_wI, eq_self, and_true, true_and, and_false, false_and, or_true, true_or, or_false, false_or, if_true, if_false, not_true_eq_false, not_false_eq_true, forall_const, implies_true, false_implies, true_implies, Option.some.injEq, forall_eq', exists_eq_left', reduceCtorEq, Nat.reduceEqDiff, c1, T_X12_in, T_X12_ones, T_X11_within, T_X11_bit, T_X11_isIn, T_X11_oneIfIn, T_J6_bitCount_0f7a4, e53]
    exact ⟨fun _ => hq, fun c => absurd (nI_le (Nat.le_refl _) (by omega)) c⟩
  | succ m ih =>
    intro k hm hk
    obtain ⟨ok, fk⟩ := ho k (by omega)
    have hl : LayM (wI h (plS f o k)) := hl0.wI _
    have e53 : hI (wI h (plS f o k)) 44 53 = nI n := (plS_o f o k 44 53 (by decide)).trans hf
    have e86 : hI (wI h (plS f o k)) 86 k = nI (o k) := (plS_o f o k 86 k (by decide)).trans fk
    have hH : pI (wI h (plS f o k)) 79 (o k) (nI k) = wI h (plS f o (k + 1)) := rfl
    have hgo := ih (k + 1) (by omega) (by omega)
    refine s_X12_makeOrder_176 Q _ _ _ ?_
    generalize wI h (plS f o k) = g at hl e53 e86 hH ⊢
    simp only [b_X12_makeOrder_176, hl, lay_pI, lay_wI, lay_pJ, lm_t hl, lm_k hl, lm_r hl, lm_l hl, i_push, i_ild, i_ald, i_ist, i_ast, i_inc, i_bin, i_un, i_divs, i_i2l, i_lshl, i_lor, i_dup, i_dup2, i_pop, i_if, i_cmp, i_nul, i_vret, i_iret, i_zret, i_aret, i_keep, keep, lget, lset, ent, i_getI, i_getJ, i_getR, i_getN, i_putI, i_putZ, i_putJ, i_putR, i_iald, i_bald, i_alen, i_aald, i_iast, i_bast, i_aast, i_new, i_newa, i_anew, i_oini, i_callS, i_callV, i_callI, popn, sh4, i_sw, swP, i_copy, i_binS, List.map, Option.toList_none, Option.toList_some, List.append, List.nil_append, List.cons_append, List.length_cons, List.length_nil, List.replicate, Nat.sub_self, Nat.reduceSub, Nat.reduceAdd, hK_pI, hL_pI, hI_pI, hR_pI, hJ_pI, hT_pI, hS_pI, hK_pR, hL_pR, hI_pR, hR_pR, hJ_pR, hT_pR, hS_pR, hK_pJ, hL_pJ, hI_pJ, hR_pJ, hJ_pJ, hT_pJ, hS_pJ, hK_wI, hL_wI, hI_wI, hR_wI, hJ_wI, hT_wI, hS_wI, eq_self, and_true, true_and, and_false, false_and, or_true, true_or, or_false, false_or, if_true, if_false, not_true_eq_false, not_false_eq_true, forall_const, implies_true, false_implies, true_implies, Option.some.injEq, forall_eq', exists_eq_left', reduceCtorEq, Nat.reduceEqDiff, c1, T_X12_in, T_X12_ones, T_X11_within, T_X11_bit, T_X11_isIn, T_X11_oneIfIn, T_J6_bitCount_0f7a4, e53, cl_nI (show k < 2147483648 by omega), in_nI (show k < 24 by omega) (by decide), e86, cl_nI (show o k < 2147483648 by omega), in_nI (show o k < 96 by omega) (by decide), hH, nI_1]
    exact ⟨fun c => absurd c (nI_ge (by omega) (by omega)), fun _ => hgo⟩
set_option maxRecDepth 100000 in
set_option maxHeartbeats 4000000 in
theorem ok_X12_makeOrder : ctr 4 MX12_makeOrder T_X12_makeOrder := by
  refine ctr_of pn_X12 wc_X12_makeOrder (fun av h Q hT => ?_)
  unfold T_X12_makeOrder at hT
  split at hT
  · rename_i q door cold
    refine ⟨⟨by simp [Value.category], Nat.le_of_ble_eq_true rfl⟩, s_X12_makeOrder_0 Q _ _ _ ?_⟩
    obtain ⟨rfl, hl, E, Ln, P, hE, he, hLn, hln, hok, hP, h52, hq⟩ := hT
    have hH : pI h 44 53 0 = wI h (u2 (hI h) 44 53 0) := rfl
    have hw := ord_7 Q h hl E Ln P door cold hE he hLn hln hok hP h52 (fun f hf => by
      obtain ⟨on, oj⟩ := ordS_ok (hI h) E Ln door cold P
      exact ord_176 Q h hl f _ _ (by omega) hf.1 (fun j hj => ⟨by have := (oj j hj).1; omega, hf.2.1 j hj⟩) (hq f hf) _ 0 rfl (by omega)) P 0 (u2 (hI h) 44 53 0) (by omega) (by omega) ⟨u2_eq, fun j hj => absurd hj (Nat.not_lt_zero _), fun q hq => absurd hq (by omega), fun q hq => absurd hq (by omega), fun q _ => ⟨u2_ne (fun z => by cases z.1), u2_ne (fun z => by cases z.1)⟩, fun a i _ _ _ _ a5 => u2_ne a5⟩
    simp only [MX12_makeOrder, b_X12_makeOrder_0, hl, lay_pI, lay_wI, lay_pJ, lm_t hl, lm_k hl, lm_r hl, lm_l hl, i_push, i_ild, i_ald, i_ist, i_ast, i_inc, i_bin, i_un, i_divs, i_i2l, i_lshl, i_lor, i_dup, i_dup2, i_pop, i_if, i_cmp, i_nul, i_vret, i_iret, i_zret, i_aret, i_keep, keep, lget, lset, ent, i_getI, i_getJ, i_getR, i_getN, i_putI, i_putZ, i_putJ, i_putR, i_iald, i_bald, i_alen, i_aald, i_iast, i_bast, i_aast, i_new, i_newa, i_anew, i_oini, i_callS, i_callV, i_callI, popn, sh4, i_sw, swP, i_copy, i_binS, List.map, Option.toList_none, Option.toList_some, List.append, List.nil_append, List.cons_append, List.length_cons, List.length_nil, List.replicate, Nat.sub_self, Nat.reduceSub, Nat.reduceAdd, hK_pI, hL_pI, hI_pI, hR_pI, hJ_pI, hT_pI, hS_pI, hK_pR, hL_pR, hI_pR, hR_pR, hJ_pR, hT_pR, hS_pR, hK_pJ, hL_pJ, hI_pJ, hR_pJ, hJ_pJ, hT_pJ, hS_pJ, hK_wI, hL_wI, hI_wI, hR_wI, hJ_wI, hT_wI, hS_wI, eq_self, and_true, true_and, and_false, false_and, or_true, true_or, or_false, false_or, if_true, if_false, not_true_eq_false, not_false_eq_true, forall_const, implies_true, false_implies, true_implies, Option.some.injEq, forall_eq', exists_eq_left', reduceCtorEq, Nat.reduceEqDiff, c1, T_X12_in, T_X12_ones, T_X11_within, T_X11_bit, T_X11_isIn, T_X11_oneIfIn, T_J6_bitCount_0f7a4, hH]
    exact hw
  · exact hT.elim
