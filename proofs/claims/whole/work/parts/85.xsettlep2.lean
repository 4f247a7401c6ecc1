/-! ===== the class: settleParties ===== -/
def SPost (f0 J : Mem) (n R P : Nat) (T : Int32) (f : Mem) : Prop := sx f f0 ∧ (∀ a i, 44 ≤ a → a ≠ n + 3 → f a i = f0 a i) ∧ (∀ i, f 33 i = f0 33 i) ∧ (∀ i, R ≤ i → f (n + 3) i = f0 (n + 3) i) ∧ ∀ r, r < R → ∀ x, bt (f (n + 3) r) x = true ↔ bt T x = true ∧ plF (rmI J 4 0) R T P x = r
def T_X5_settleParties : Tr := fun av h Q => match av with
  | [.ref a, .ref b] => a = 31 ∧ LayX h ∧ hR h 33 0 = some 3 ∧ hR h 31 0 = some 3 ∧ ∃ (n : Nat) (J : Mem) (R P m : Nat) (sz cp w : Nat → Nat) (T : Int32), n = b ∧ LayN h n R ∧ SPre (hI h) J n R P T ∧ FAM (hI h) J R P m sz cp ∧ PD (hI h) R m sz cp (fun i => some (w i)) ∧ (∀ i, i < m → hI h 40 i = 0) ∧ TU (hI h) m = T ∧ ∀ f, SPost (hI h) J n R P T f → Q none (wI h f)
  | _ => False
set_option maxRecDepth 100000 in
set_option maxHeartbeats 400000 in
theorem sp_2 (Q : Option Value → Hp → Prop) (h : Hp) (hl : LayX h) (hst : hR h 33 0 = some 3) (hs31 : hR h 31 0 = some 3) (n : Nat) (J : Mem) (R P m : Nat) (sz cp : Nat → Nat) (T : Int32) (hn : LayN h n R) (hpre : SPre (hI h) J n R P T) (hfit : Fit (rmI J 4 0) R T) (hT : TU (hI h) m = T) (hq : ∀ f, SPost (hI h) J n R P T f → Q none (wI h f)) :
    ∀ (m' p : Nat) (f : Mem) (wh : Nat → Option Nat), m' = P - p → p ≤ P → SV (hI h) J R P m sz cp p f wh → wp 22 MX5_settleParties Q 2 [some (.ref 31), some (.ref n), some (.int (nI p)), none, none, none] [] (wI h f) := by
  have hpre' := hpre
  obtain ⟨hR4, hP, h12, h16, hec, hsy, hTg, hns, hil, h22, h4⟩ := hpre'
  have hn90 := hn.1
  intro m'
  induction m' with
  | zero =>
    intro p f wh hm hp hsv
    have e : p = P := by omega
    subst e
    obtain ⟨c1, c2, c3, c4, c5, c6, c7, c8, c9⟩ := hsv
    have hTf : TU f m = T := by rw [TU_c c4]; exact hT
    rw [hTf] at c9
    have h114 := sp_114 Q h hl n R hR4 hn f (hq _ (by
      refine ⟨⟨fun a ha => ?_, ?_⟩, fun a i ha hne => ?_, fun i => ?_, fun i hi => ?_, fun r hr x => ?_⟩
      · rw [← c1.1 a ha]; funext i; exact if_neg (fun z => by omega)
      · rw [← c1.2]; exact if_neg (fun z => by omega)
      · rw [← c2 a i ha]; exact if_neg (fun z => hne z.1)
      · rw [← c3 i]; exact if_neg (fun z => by omega)
      · rw [← c2 (n + 3) i (by omega)]; exact if_neg (fun z => by omega)
      · have e40 : inM f (n + 3) R (n + 3) r = f 41 r := if_pos ⟨rfl, hr⟩
        rw [e40, c6.2.2.1 r hr x]
        constructor
        · rintro ⟨i, hi, hw, hb⟩
          have hxP := (c5.2.1 i hi).1 x hb
          refine ⟨by rw [← hTf]; exact (b_TU f x m).mpr ⟨i, hi, hb⟩, ?_⟩
          have := c9.2 i hi x hxP hb
          rw [hw] at this
          exact (Option.some.inj this).symm
        · rintro ⟨hb, e⟩
          rw [← hTf] at hb
          obtain ⟨i, hi, hbi⟩ := (b_TU f x m).mp hb
          refine ⟨i, hi, ?_, hbi⟩
          rw [c9.2 i hi x ((c5.2.1 i hi).1 x hbi) hbi, e])) R 0 (by omega) (by omega)
    rw [inM_0] at h114
    have hl2 : LayX (wI h f) := hl
    have h312 : hR (wI h f) 31 0 = some 3 := hs31
    have e16 : hI (wI h f) 16 0 = nI p := by show f 16 0 = _; rw [c1.1 16 (by decide)]; exact h16
    refine s_X5_settleParties_2 Q _ _ _ ?_
    generalize wI h f = H at hl2 h312 e16 h114 ⊢
    have hl := hl2
    simp only [b_X5_settleParties_2, lx_pI, lx_wI, lx_t hl, lx_k hl, lx_r hl, lx_l hl, i_push, i_ild, i_ald, i_ist, i_ast, i_inc, i_bin, i_un, i_divs, i_i2l, i_lshl, i_lor, i_dup, i_dup2, i_pop, i_if, i_cmp, i_nul, i_vret, i_iret, i_zret, i_aret, i_keep, keep, lget, lset, ent, i_getI, i_getJ, i_getR, i_getN, i_putI, i_putZ, i_putJ, i_putR, i_iald, i_bald, i_alen, i_aald, i_iast, i_bast, i_aast, i_new, i_newa, i_anew, i_oini, i_callS, i_callV, i_callI, popn, sh4, i_sw, swP, i_copy, i_binS, List.map, Option.toList_none, Option.toList_some, List.append, List.nil_append, List.cons_append, List.length_cons, List.length_nil, List.replicate, Nat.sub_self, Nat.reduceSub, Nat.reduceAdd, hK_pI, hL_pI, hI_pI, hR_pI, hJ_pI, hT_pI, hS_pI, hK_pR, hL_pR, hI_pR, hR_pR, hJ_pR, hT_pR, hS_pR, hK_pJ, hL_pJ, hI_pJ, hR_pJ, hJ_pJ, hT_pJ, hS_pJ, hK_wI, hL_wI, hI_wI, hR_wI, hJ_wI, hT_wI, hS_wI, eq_self, and_true, true_and, and_false, false_and, or_true, true_or, or_false, false_or, if_true, if_false, not_true_eq_false, not_false_eq_true, forall_const, implies_true, false_implies, true_implies, Option.some.injEq, forall_eq', exists_eq_left', reduceCtorEq, Nat.reduceEqDiff, c1, T_X12_in, T_X12_ones, T_X11_within, T_X11_bit, T_X11_isIn, T_X11_oneIfIn, T_J6_bitCount_0f7a4, h312, e16]
    exact ⟨fun _ => h114, fun z => absurd (nI_le (Nat.le_refl _) (by omega)) z⟩
  | succ m' ih =>
    intro p f wh hm hp hsv
    have hpP : p < P := by omega
    have hsv' := hsv
    obtain ⟨c1, c2, c3, c4, c5, c6, c7, c8, c9⟩ := hsv
    have hTf : TU f m = T := by rw [TU_c c4]; exact hT
    have hm10 : m ≤ 10 := c5.1.2.1
    have h106 : ∀ f' wh', SV (hI h) J R P m sz cp (p + 1) f' wh' → wp 22 MX5_settleParties Q 104 [some (.ref 31), some (.ref n), some (.int (nI p)), none, none, none] [] (wI h f') := by
      intro f' wh' hsv2
      have := ih (p + 1) f' wh' (by omega) (by omega) hsv2
      refine s_X5_settleParties_104 Q _ _ _ ?_
      generalize wI h f' = H at this ⊢
      simp only [b_X5_settleParties_104, i_push, i_ild, i_ald, i_ist, i_ast, i_inc, i_bin, i_un, i_divs, i_i2l, i_lshl, i_lor, i_dup, i_dup2, i_pop, i_if, i_cmp, i_nul, i_vret, i_iret, i_zret, i_aret, i_keep, keep, lget, lset, ent, i_getI, i_getJ, i_getR, i_getN, i_putI, i_putZ, i_putJ, i_putR, i_iald, i_bald, i_alen, i_aald, i_iast, i_bast, i_aast, i_new, i_newa, i_anew, i_oini, i_callS, i_callV, i_callI, popn, sh4, i_sw, swP, i_copy, i_binS, List.map, Option.toList_none, Option.toList_some, List.append, List.nil_append, List.cons_append, List.length_cons, List.length_nil, List.replicate, Nat.sub_self, Nat.reduceSub, Nat.reduceAdd, hK_pI, hL_pI, hI_pI, hR_pI, hJ_pI, hT_pI, hS_pI, hK_pR, hL_pR, hI_pR, hR_pR, hJ_pR, hT_pR, hS_pR, hK_pJ, hL_pJ, hI_pJ, hR_pJ, hJ_pJ, hT_pJ, hS_pJ, hK_wI, hL_wI, hI_wI, hR_wI, hJ_wI, hT_wI, hS_wI, eq_self, and_true, true_and, and_false, false_and, or_true, true_or, or_false, false_or, if_true, if_false, not_true_eq_false, not_false_eq_true, forall_const, implies_true, false_implies, true_implies, Option.some.injEq, forall_eq', exists_eq_left', reduceCtorEq, Nat.reduceEqDiff, c1, T_X12_in, T_X12_ones, T_X11_within, T_X11_bit, T_X11_isIn, T_X11_oneIfIn, T_J6_bitCount_0f7a4, nI_1]
      exact this
    have hl2 : LayX (wI h f) := hl
    have hf := LayN.f (h := wI h f) (show LayN (wI h f) n R from hn)
    have h312 : hR (wI h f) 31 0 = some 3 := hs31
    have hdone : wp 22 MX5_settleParties Q 104 [some (.ref 31), some (.ref n), some (.int (nI p)), none, none, none] [] (wI h f) → wp 22 MX5_settleParties Q 38 [some (.ref 31), some (.ref n), some (.int (nI p)), none, none, none] [] (wI h f) := by
      intro hgo
      have h49 : wp 22 MX5_settleParties Q 47 [some (.ref 31), some (.ref n), some (.int (nI p)), some (.int 1), some (.int 0), none] [] (wI h f) := by
        refine s_X5_settleParties_47 Q _ _ _ ?_
        generalize wI h f = H at hl2 hf hgo ⊢
        have hl := hl2
        simp only [b_X5_settleParties_47, lx_pI, lx_wI, lx_t hl, lx_k hl, lx_r hl, lx_l hl, i_push, i_ild, i_ald, i_ist, i_ast, i_inc, i_bin, i_un, i_divs, i_i2l, i_lshl, i_lor, i_dup, i_dup2, i_pop, i_if, i_cmp, i_nul, i_vret, i_iret, i_zret, i_aret, i_keep, keep, lget, lset, ent, i_getI, i_getJ, i_getR, i_getN, i_putI, i_putZ, i_putJ, i_putR, i_iald, i_bald, i_alen, i_aald, i_iast, i_bast, i_aast, i_new, i_newa, i_anew, i_oini, i_callS, i_callV, i_callI, popn, sh4, i_sw, swP, i_copy, i_binS, List.map, Option.toList_none, Option.toList_some, List.append, List.nil_append, List.cons_append, List.length_cons, List.length_nil, List.replicate, Nat.sub_self, Nat.reduceSub, Nat.reduceAdd, hK_pI, hL_pI, hI_pI, hR_pI, hJ_pI, hT_pI, hS_pI, hK_pR, hL_pR, hI_pR, hR_pR, hJ_pR, hT_pR, hS_pR, hK_pJ, hL_pJ, hI_pJ, hR_pJ, hJ_pJ, hT_pJ, hS_pJ, hK_wI, hL_wI, hI_wI, hR_wI, hJ_wI, hT_wI, hS_wI, eq_self, and_true, true_and, and_false, false_and, or_true, true_or, or_false, false_or, if_true, if_false, not_true_eq_false, not_false_eq_true, forall_const, implies_true, false_implies, true_implies, Option.some.injEq, forall_eq', exists_eq_left', reduceCtorEq, Nat.reduceEqDiff, c1, T_X12_in, T_X12_ones, T_X11_within, T_X11_bit, T_X11_isIn, T_X11_oneIfIn, T_J6_bitCount_0f7a4, hf, show ¬ (1 : Int32) = 0 by decide]
        exact ⟨by decide, by decide, fun _ => hgo, fun _ => hgo⟩
      have h46 : wp 22 MX5_settleParties Q 43 [some (.ref 31), some (.ref n), some (.int (nI p)), none, none, none] [.int 1] (wI h f) := by
        refine s_X5_settleParties_43 Q _ _ _ ?_
        generalize wI h f = H at h49 ⊢
        simp only [b_X5_settleParties_43, i_push, i_ild, i_ald, i_ist, i_ast, i_inc, i_bin, i_un, i_divs, i_i2l, i_lshl, i_lor, i_dup, i_dup2, i_pop, i_if, i_cmp, i_nul, i_vret, i_iret, i_zret, i_aret, i_keep, keep, lget, lset, ent, i_getI, i_getJ, i_getR, i_getN, i_putI, i_putZ, i_putJ, i_putR, i_iald, i_bald, i_alen, i_aald, i_iast, i_bast, i_aast, i_new, i_newa, i_anew, i_oini, i_callS, i_callV, i_callI, popn, sh4, i_sw, swP, i_copy, i_binS, List.map, Option.toList_none, Option.toList_some, List.append, List.nil_append, List.cons_append, List.length_cons, List.length_nil, List.replicate, Nat.sub_self, Nat.reduceSub, Nat.reduceAdd, hK_pI, hL_pI, hI_pI, hR_pI, hJ_pI, hT_pI, hS_pI, hK_pR, hL_pR, hI_pR, hR_pR, hJ_pR, hT_pR, hS_pR, hK_pJ, hL_pJ, hI_pJ, hR_pJ, hJ_pJ, hT_pJ, hS_pJ, hK_wI, hL_wI, hI_wI, hR_wI, hJ_wI, hT_wI, hS_wI, eq_self, and_true, true_and, and_false, false_and, or_true, true_or, or_false, false_or, if_true, if_false, not_true_eq_false, not_false_eq_true, forall_const, implies_true, false_implies, true_implies, Option.some.injEq, forall_eq', exists_eq_left', reduceCtorEq, Nat.reduceEqDiff, c1, T_X12_in, T_X12_ones, T_X11_within, T_X11_bit, T_X11_isIn, T_X11_oneIfIn, T_J6_bitCount_0f7a4]
        exact h49
      refine s_X5_settleParties_38 Q _ _ _ ?_
      generalize wI h f = H at h46 ⊢
      simp only [b_X5_settleParties_38, i_push, i_ild, i_ald, i_ist, i_ast, i_inc, i_bin, i_un, i_divs, i_i2l, i_lshl, i_lor, i_dup, i_dup2, i_pop, i_if, i_cmp, i_nul, i_vret, i_iret, i_zret, i_aret, i_keep, keep, lget, lset, ent, i_getI, i_getJ, i_getR, i_getN, i_putI, i_putZ, i_putJ, i_putR, i_iald, i_bald, i_alen, i_aald, i_iast, i_bast, i_aast, i_new, i_newa, i_anew, i_oini, i_callS, i_callV, i_callI, popn, sh4, i_sw, swP, i_copy, i_binS, List.map, Option.toList_none, Option.toList_some, List.append, List.nil_append, List.cons_append, List.length_cons, List.length_nil, List.replicate, Nat.sub_self, Nat.reduceSub, Nat.reduceAdd, hK_pI, hL_pI, hI_pI, hR_pI, hJ_pI, hT_pI, hS_pI, hK_pR, hL_pR, hI_pR, hR_pR, hJ_pR, hT_pR, hS_pR, hK_pJ, hL_pJ, hI_pJ, hR_pJ, hJ_pJ, hT_pJ, hS_pJ, hK_wI, hL_wI, hI_wI, hR_wI, hJ_wI, hT_wI, hS_wI, eq_self, and_true, true_and, and_false, false_and, or_true, true_or, or_false, false_or, if_true, if_false, not_true_eq_false, not_false_eq_true, forall_const, implies_true, false_implies, true_implies, Option.some.injEq, forall_eq', exists_eq_left', reduceCtorEq, Nat.reduceEqDiff, c1, T_X12_in, T_X12_ones, T_X11_within, T_X11_bit, T_X11_isIn, T_X11_oneIfIn, T_J6_bitCount_0f7a4]
      exact h46
    have hno : bt T p = false → wp 22 MX5_settleParties Q 38 [some (.ref 31), some (.ref n), some (.int (nI p)), none, none, none] [] (wI h f) := fun hb => hdone (h106 f wh ⟨c1, c2, c3, c4, c5, c6, c7, c8, stP_skip c9 (fun i hi => by
      cases hx : bt (f 34 i) p with
      | false => rfl
      | true =>
        have := (b_TU f p m).mpr ⟨i, hi, hx⟩
        rw [hTf, hb] at this; cases this)⟩)
    have hyes : bt T p = true → T_X4_hasSettled [.ref 33, .int (nI p)] (wI h f) (fun x h' => c_X5_settleParties_35 Q [some (.ref 31), some (.ref n), some (.int (nI p)), none, none, none] (x.toList ++ []) h') := by
      intro hb
      rw [← hTf] at hb
      obtain ⟨i, hi, hbi⟩ := (b_TU f p m).mp hb
      refine ⟨rfl, hl, m, p, i, hm10, c5.1.2.2.2.1, rfl, by omega, hi, hbi, fun j hj hbj => disj c5.1 hj hi hbj hbi, fun hs => ?_, fun hs => ?_⟩
      · have hgo := hdone (h106 f wh ⟨c1, c2, c3, c4, c5, c6, c7, c8, stP_old c5 hR4 (by rw [hTf]; exact hfit) c9 hi hbi hs⟩)
        show c_X5_settleParties_35 Q _ [.int 1] (wI h f)
        generalize wI h f = H at hgo ⊢
        simp only [c_X5_settleParties_35, i_push, i_ild, i_ald, i_ist, i_ast, i_inc, i_bin, i_un, i_divs, i_i2l, i_lshl, i_lor, i_dup, i_dup2, i_pop, i_if, i_cmp, i_nul, i_vret, i_iret, i_zret, i_aret, i_keep, keep, lget, lset, ent, i_getI, i_getJ, i_getR, i_getN, i_putI, i_putZ, i_putJ, i_putR, i_iald, i_bald, i_alen, i_aald, i_iast, i_bast, i_aast, i_new, i_newa, i_anew, i_oini, i_callS, i_callV, i_callI, popn, sh4, i_sw, swP, i_copy, i_binS, List.map, Option.toList_none, Option.toList_some, List.append, List.nil_append, List.cons_append, List.length_cons, List.length_nil, List.replicate, Nat.sub_self, Nat.reduceSub, Nat.reduceAdd, hK_pI, hL_pI, hI_pI, hR_pI, hJ_pI, hT_pI, hS_pI, hK_pR, hL_pR, hI_pR, hR_pR, hJ_pR, hT_pR, hS_pR, hK_pJ, hL_pJ, hI_pJ, hR_pJ, hJ_pJ, hT_pJ, hS_pJ, hK_wI, hL_wI, hI_wI, hR_wI, hJ_wI, hT_wI, hS_wI, eq_self, and_true, true_and, and_false, false_and, or_true, true_or, or_false, false_or, if_true, if_false, not_true_eq_false, not_false_eq_true, forall_const, implies_true, false_implies, true_implies, Option.some.injEq, forall_eq', exists_eq_left', reduceCtorEq, Nat.reduceEqDiff, c1, T_X12_in, T_X12_ones, T_X11_within, T_X11_bit, T_X11_isIn, T_X11_oneIfIn, T_J6_bitCount_0f7a4, show ¬ (1 : Int32) = 0 by decide]
        exact hgo
      · have h49 := sp_49 Q h hl hst hs31 n J R P m sz cp T hn hpre hfit hT p i hpP hi (by rw [← c4]; exact hbi) h106 (R + 1) 0 f wh (by omega) (by omega) hsv' hs (fun z => by omega) (fun r hr => by omega)
        have h46 : wp 22 MX5_settleParties Q 43 [some (.ref 31), some (.ref n), some (.int (nI p)), none, none, none] [.int 0] (wI h f) := by
          refine s_X5_settleParties_43 Q _ _ _ ?_
          generalize wI h f = H at h49 ⊢
          simp only [b_X5_settleParties_43, i_push, i_ild, i_ald, i_ist, i_ast, i_inc, i_bin, i_un, i_divs, i_i2l, i_lshl, i_lor, i_dup, i_dup2, i_pop, i_if, i_cmp, i_nul, i_vret, i_iret, i_zret, i_aret, i_keep, keep, lget, lset, ent, i_getI, i_getJ, i_getR, i_getN, i_putI, i_putZ, i_putJ, i_putR, i_iald, i_bald, i_alen, i_aald, i_iast, i_bast, i_aast, i_new, i_newa, i_anew, i_oini, i_callS, i_callV, i_callI, popn, sh4, i_sw, swP, i_copy, i_binS, List.map, Option.toList_none, Option.toList_some, List.append, List.nil_append, List.cons_append, List.length_cons, List.length_nil, List.replicate, Nat.sub_self, Nat.reduceSub, Nat.reduceAdd, hK_pI, hL_pI, hI_pI, hR_pI, hJ_pI, hT_pI, hS_pI, hK_pR, hL_pR, hI_pR, hR_pR, hJ_pR, hT_pR, hS_pR, hK_pJ, hL_pJ, hI_pJ, hR_pJ, hJ_pJ, hT_pJ, hS_pJ, hK_wI, hL_wI, hI_wI, hR_wI, hJ_wI, hT_wI, hS_wI, eq_self, and_true, true_and, and_false, false_and, or_true, true_or, or_false, false_or, if_true, if_false, not_true_eq_false, not_false_eq_true, forall_const, implies_true, false_implies, true_implies, Option.some.injEq, forall_eq', exists_eq_left', reduceCtorEq, Nat.reduceEqDiff, c1, T_X12_in, T_X12_ones, T_X11_within, T_X11_bit, T_X11_isIn, T_X11_oneIfIn, T_J6_bitCount_0f7a4]
          exact h49
        show c_X5_settleParties_35 Q _ [.int 0] (wI h f)
        generalize wI h f = H at h46 ⊢
        simp only [c_X5_settleParties_35, i_push, i_ild, i_ald, i_ist, i_ast, i_inc, i_bin, i_un, i_divs, i_i2l, i_lshl, i_lor, i_dup, i_dup2, i_pop, i_if, i_cmp, i_nul, i_vret, i_iret, i_zret, i_aret, i_keep, keep, lget, lset, ent, i_getI, i_getJ, i_getR, i_getN, i_putI, i_putZ, i_putJ, i_putR, i_iald, i_bald, i_alen, i_aald, i_iast, i_bast, i_aast, i_new, i_newa, i_anew, i_oini, i_callS, i_callV, i_callI, popn, sh4, i_sw, swP, i_copy, i_binS, List.map, Option.toList_none, Option.toList_some, List.append, List.nil_append, List.cons_append, List.length_cons, List.length_nil, List.replicate, Nat.sub_self, Nat.reduceSub, Nat.reduceAdd, hK_pI, hL_pI, hI_pI, hR_pI, hJ_pI, hT_pI, hS_pI, hK_pR, hL_pR, hI_pR, hR_pR, hJ_pR, hT_pR, hS_pR, hK_pJ, hL_pJ, hI_pJ, hR_pJ, hJ_pJ, hT_pJ, hS_pJ, hK_wI, hL_wI, hI_wI, hR_wI, hJ_wI, hT_wI, hS_wI, eq_self, and_true, true_and, and_false, false_and, or_true, true_or, or_false, false_or, if_true, if_false, not_true_eq_false, not_false_eq_true, forall_const, implies_true, false_implies, true_implies, Option.some.injEq, forall_eq', exists_eq_left', reduceCtorEq, Nat.reduceEqDiff, c1, T_X12_in, T_X12_ones, T_X11_within, T_X11_bit, T_X11_isIn, T_X11_oneIfIn, T_J6_bitCount_0f7a4]
        exact h46
    have e16 : hI (wI h f) 16 0 = nI P := by show f 16 0 = _; rw [c1.1 16 (by decide)]; exact h16
    have e4 : hI (wI h f) n 4 = T := (c2 n 4 (by omega)).trans h4
    refine s_X5_settleParties_2 Q _ _ _ ?_
    generalize wI h f = H at hl2 hf h312 e16 e4 hno hyes ⊢
    have hl := hl2
    simp only [b_X5_settleParties_2, lx_pI, lx_wI, lx_t hl, lx_k hl, lx_r hl, lx_l hl, i_push, i_ild, i_ald, i_ist, i_ast, i_inc, i_bin, i_un, i_divs, i_i2l, i_lshl, i_lor, i_dup, i_dup2, i_pop, i_if, i_cmp, i_nul, i_vret, i_iret, i_zret, i_aret, i_keep, keep, lget, lset, ent, i_getI, i_getJ, i_getR, i_getN, i_putI, i_putZ, i_putJ, i_putR, i_iald, i_bald, i_alen, i_aald, i_iast, i_bast, i_aast, i_new, i_newa, i_anew, i_oini, i_callS, i_callV, i_callI, popn, sh4, i_sw, swP, i_copy, i_binS, List.map, Option.toList_none, Option.toList_some, List.append, List.nil_append, List.cons_append, List.length_cons, List.length_nil, List.replicate, Nat.sub_self, Nat.reduceSub, Nat.reduceAdd, hK_pI, hL_pI, hI_pI, hR_pI, hJ_pI, hT_pI, hS_pI, hK_pR, hL_pR, hI_pR, hR_pR, hJ_pR, hT_pR, hS_pR, hK_pJ, hL_pJ, hI_pJ, hR_pJ, hJ_pJ, hT_pJ, hS_pJ, hK_wI, hL_wI, hI_wI, hR_wI, hJ_wI, hT_wI, hS_wI, eq_self, and_true, true_and, and_false, false_and, or_true, true_or, or_false, false_or, if_true, if_false, not_true_eq_false, not_false_eq_true, forall_const, implies_true, false_implies, true_implies, Option.some.injEq, forall_eq', exists_eq_left', reduceCtorEq, Nat.reduceEqDiff, c1, T_X12_in, T_X12_ones, T_X11_within, T_X11_bit, T_X11_isIn, T_X11_oneIfIn, T_J6_bitCount_0f7a4, h312, hf, e16, e4, sh_bt T (show p < 32 by omega), b2i_0, Classical.not_not]
    exact ⟨fun z => absurd z (nI_ge (by omega) (by omega)), fun _ => ⟨hno, fun z => hyes (by simpa using z)⟩⟩
set_option maxRecDepth 100000 in
set_option maxHeartbeats 4000000 in
theorem ok_X5_settleParties : ctr 22 MX5_settleParties T_X5_settleParties := by
  refine ctr_of pn_X5 wc_X5_settleParties (fun av h Q hT => ?_)
  unfold T_X5_settleParties at hT
  split at hT
  · rename_i a b
    refine ⟨⟨by simp [Value.category], Nat.le_of_ble_eq_true rfl⟩, s_X5_settleParties_0 Q _ _ _ ?_⟩
    obtain ⟨rfl, hl, hst, hs31, n, J, R, P, m, sz, cp, w, T, rfl, hn, hpre, hfam, hd, h39, hT', hq⟩ := hT
    have hpre' := hpre
    obtain ⟨hR4, hP, h12, h16, hec, hsy, hTg, hns, hil, h22, h4⟩ := hpre'
    have hfit : Fit (rmI J 4 0) R T := by
      rw [← hT']
      exact (fam_fit hfam hec hR4 hP hsy hns hil).mp ⟨w, PD_VF hd⟩
    have hsv : SV (hI h) J R P m sz cp 0 (hI h) (fun i => some (w i)) := by
      refine ⟨⟨fun _ _ => rfl, rfl⟩, fun _ _ _ => rfl, fun _ => rfl, rfl, hfam, hd, Or.inl (fun _ _ => by simp), fun _ _ _ => by simp, fun i hi => ⟨fun z => absurd (h39 i hi) z, fun ⟨q, hq0, _⟩ => absurd hq0 (Nat.not_lt_zero _)⟩, fun i hi q hq0 => absurd hq0 (Nat.not_lt_zero _)⟩
    have := sp_2 Q h hl hst hs31 n J R P m sz cp T hn hpre hfit hT' hq P 0 (hI h) (fun i => some (w i)) (by omega) (by omega) hsv
    have e : wI h (hI h) = h := rfl
    rw [e] at this
    simp only [MX5_settleParties, b_X5_settleParties_0, i_push, i_ild, i_ald, i_ist, i_ast, i_inc, i_bin, i_un, i_divs, i_i2l, i_lshl, i_lor, i_dup, i_dup2, i_pop, i_if, i_cmp, i_nul, i_vret, i_iret, i_zret, i_aret, i_keep, keep, lget, lset, ent, i_getI, i_getJ, i_getR, i_getN, i_putI, i_putZ, i_putJ, i_putR, i_iald, i_bald, i_alen, i_aald, i_iast, i_bast, i_aast, i_new, i_newa, i_anew, i_oini, i_callS, i_callV, i_callI, popn, sh4, i_sw, swP, i_copy, i_binS, List.map, Option.toList_none, Option.toList_some, List.append, List.nil_append, List.cons_append, List.length_cons, List.length_nil, List.replicate, Nat.sub_self, Nat.reduceSub, Nat.reduceAdd, hK_pI, hL_pI, hI_pI, hR_pI, hJ_pI, hT_pI, hS_pI, hK_pR, hL_pR, hI_pR, hR_pR, hJ_pR, hT_pR, hS_pR, hK_pJ, hL_pJ, hI_pJ, hR_pJ, hJ_pJ, hT_pJ, hS_pJ, hK_wI, hL_wI, hI_wI, hR_wI, hJ_wI, hT_wI, hS_wI, eq_self, and_true, true_and, and_false, false_and, or_true, true_or, or_false, false_or, if_true, if_false, not_true_eq_false, not_false_eq_true, forall_const, implies_true, false_implies, true_implies, Option.some.injEq, forall_eq', exists_eq_left', reduceCtorEq, Nat.reduceEqDiff, c1, T_X12_in, T_X12_ones, T_X11_within, T_X11_bit, T_X11_isIn, T_X11_oneIfIn, T_J6_bitCount_0f7a4]
    exact this
  · exact hT.elim
