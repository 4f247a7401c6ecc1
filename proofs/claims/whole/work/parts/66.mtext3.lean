/-! ===== the reference: text ===== -/
def txM0 (I : Mem) (L : Nat) : Mem := u2 (u2 (u2 (u2 (u2 (u2 (u2 (u2 I 44 0 0) 44 38 (nI L)) 44 2 0) 44 37 0) 44 43 0) 44 44 (-1)) 44 45 (-1)) 44 46 0
def AG (f M : Mem) : Prop := ∀ x i, ¬ (x = 44 ∧ (i = 37 ∨ i = 39 ∨ i = 40 ∨ i = 41)) → f x i = M x i
def AJ (g J : Nat → Nat → Int64) : Prop := ∀ x i, ¬ (x = 44 ∧ i = 42) → g x i = J x i
noncomputable def txR (I : Mem) (L : Nat) : Bool × Mem × Nat := pX (fun k => I 45 k &&& 255) L 501 0 (txM0 I L) 0
def T_X12_text : Tr := fun av h Q => match av with
  | [.ref o] => o = 44 ∧ LayM h ∧ ∃ L, L ≤ 500 ∧ hI h 44 2 = nI L ∧ ((txR (hI h) L).1 = false → ∀ f g, AG f (txR (hI h) L).2.1 → AJ g (hJ h) → Q (some (.int (-1))) (wIJ h f g)) ∧ ((txR (hI h) L).1 = true → ¬ (txR (hI h) L).2.1 44 45 = -1 → ∀ f g, AG f (u2 (u2 (txR (hI h) L).2.1 44 43 3) 44 44 ((txR (hI h) L).2.1 44 45)) → AJ g (hJ h) → Q (some (.int (-1))) (wIJ h f g)) ∧ ((txR (hI h) L).1 = true → (txR (hI h) L).2.1 44 45 = -1 → ∀ k, k ≤ 16 → INV k (txR (hI h) L).2.1 → ∀ f g, AG f (cpM (txR (hI h) L).2.1 k k (tC (txR (hI h) L).2.1 k 0)) → AJ g (hJ h) → Q (some (.int (nI k))) (wIJ h f g))
  | _ => False
theorem cpM_ag {f M : Mem} (h : AG f M) (k : Nat) : AG (cpM f k k (tC f k 0)) (cpM M k k (tC M k 0)) := by
  have h8 : ∀ a i, a ≠ 44 → f a i = M a i := fun a i ha => h a i (fun z => ha z.1)
  have hT : tC f k 0 = tC M k 0 := by
    funext i
    unfold tC
    rw [h8 80 _ (by decide)]
  rw [hT]
  intro x i hx
  unfold cpM
  rw [h8 80 i (by decide), h8 84 i (by decide), h8 85 i (by decide), h x i hx]
  have e : cif (71 ≤ x ∧ x ≤ 73 ∧ tC M k 0 i) (f (x + 10) i) (M x i) = cif (71 ≤ x ∧ x ≤ 73 ∧ tC M k 0 i) (M (x + 10) i) (M x i) := by
    rcases Classical.em (71 ≤ x ∧ x ≤ 73 ∧ tC M k 0 i) with c | c
    · rw [cif_t c, cif_t c, h8 _ _ (by omega)]
    · rw [cif_f c, cif_f c]
  rw [e]
set_option maxRecDepth 100000 in
set_option maxHeartbeats 400000 in
theorem tx_68 (Q : Option Value → Hp → Prop) (h : Hp) (hl0 : LayM h) (B : Nat → Int32) (L : Nat) (J : Nat → Nat → Int64) (R : Bool × Mem × Nat) (f : Mem) (g : Nat → Nat → Int64) (hs : SIM B L J f g R.2.1 R.2.2)
    (hi : R.1 = true → ∃ k, k ≤ 501 ∧ INV k R.2.1) (hf : R.1 = false → FL B L R.2.1 R.2.2)
    (hq0 : R.1 = false → ∀ f g, AG f R.2.1 → AJ g J → Q (some (.int (-1))) (wIJ h f g)) (hq1 : R.1 = true → ¬ R.2.1 44 45 = -1 → ∀ f g, AG f (u2 (u2 R.2.1 44 43 3) 44 44 (R.2.1 44 45)) → AJ g J → Q (some (.int (-1))) (wIJ h f g)) (hq2 : R.1 = true → R.2.1 44 45 = -1 → ∀ k, k ≤ 16 → INV k R.2.1 → ∀ f g, AG f (cpM R.2.1 k k (tC R.2.1 k 0)) → AJ g J → Q (some (.int (nI k))) (wIJ h f g)) :
    wp 4 MX12_text Q 68 [some (.ref 44), none, none, none] [] (wIJ h f g) := by
  have hl : LayM (wIJ h f g) := hl0
  have hag : AG f R.2.1 := hs.2.2.2.2.2.2.2.2.1
  have haj : AJ g J := hs.2.2.2.2.2.2.2.2.2
  have hkk := (lm_k hl).1
  have htt := (lm_t hl).1
  have e43 : f 44 43 = R.2.1 44 43 := hs.M (Or.inr (by decide))
  have e45 : f 44 45 = R.2.1 44 45 := hs.M (Or.inr (by decide))
  have e46 : f 44 46 = R.2.1 44 46 := hs.M (Or.inr (by decide))
  cases ok : R.1 with
  | false =>
    obtain ⟨f1, f2⟩ := hf ok
    have hgo := hq0 ok f g hag haj
    have e43' : hI (wIJ h f g) 44 43 = 1 := e43.trans f1
    have h96 : wp 4 MX12_text Q 96 [some (.ref 44), none, none, none] [] (wIJ h f g) := by
      refine s_X12_text_96 Q _ _ _ ?_
      generalize wIJ h f g = H at hkk htt e43' hgo ⊢
      simp only [b_X12_text_96, i_push, i_ild, i_ald, i_ist, i_ast, i_inc, i_bin, i_un, i_divs, i_i2l, i_lshl, i_lor, i_dup, i_dup2, i_pop, i_if, i_cmp, i_nul, i_vret, i_iret, i_zret, i_aret, i_keep, keep, lget, lset, ent, i_getI, i_getJ, i_getR, i_getN, i_putI, i_putZ, i_putJ, i_putR, i_iald, i_bald, i_alen, i_aald, i_iast, i_bast, i_aast, i_new, i_newa, i_anew, i_oini, i_callS, i_callV, i_callI, popn, sh4, i_sw, swP, i_copy, i_binS, List.map, Option.toList_none, Option.toList_some, List.append, List.nil_append, List.cons_append, List.length_cons, List.length_nil, List.replicate, Nat.sub_self, Nat.reduceSub, Nat.reduceAdd, hK_pI, hL_pI, hI_pI, hR_pI, hJ_pI, hT_pI, hS_pI, hK_pR, hL_pR, hI_pR, hR_pR, hJ_pR, hT_pR, hS_pR, hK_pJ, hL_pJ, hI_pJ, hR_pJ, hJ_pJ, hT_pJ, hS_pJ, hK_wI, hL_wI, hI_wI, hR_wI, hJ_wI, hT_wI, hS_wI, eq_self, and_true, true_and, and_false, false_and, or_true, true_or, or_false, false_or, if_true, if_false, not_true_eq_false, not_false_eq_true, forall_const, implies_true, false_implies, true_implies, Option.some.injEq, forall_eq', exists_eq_left', reduceCtorEq, Nat.reduceEqDiff, c1, T_X12_in, T_X12_ones, T_X11_within, T_X11_bit, T_X11_isIn, T_X11_oneIfIn, T_J6_bitCount_0f7a4, hkk, htt, e43', show ¬ (1 : Int32) ≤ 0 by decide]
      exact hgo
    refine s_X12_text_68 Q _ _ _ ?_
    generalize wIJ h f g = H at hkk htt e43' h96 ⊢
    simp only [b_X12_text_68, i_push, i_ild, i_ald, i_ist, i_ast, i_inc, i_bin, i_un, i_divs, i_i2l, i_lshl, i_lor, i_dup, i_dup2, i_pop, i_if, i_cmp, i_nul, i_vret, i_iret, i_zret, i_aret, i_keep, keep, lget, lset, ent, i_getI, i_getJ, i_getR, i_getN, i_putI, i_putZ, i_putJ, i_putR, i_iald, i_bald, i_alen, i_aald, i_iast, i_bast, i_aast, i_new, i_newa, i_anew, i_oini, i_callS, i_callV, i_callI, popn, sh4, i_sw, swP, i_copy, i_binS, List.map, Option.toList_none, Option.toList_some, List.append, List.nil_append, List.cons_append, List.length_cons, List.length_nil, List.replicate, Nat.sub_self, Nat.reduceSub, Nat.reduceAdd, hK_pI, hL_pI, hI_pI, hR_pI, hJ_pI, hT_pI, hS_pI, hK_pR, hL_pR, hI_pR, hR_pR, hJ_pR, hT_pR, hS_pR, hK_pJ, hL_pJ, hI_pJ, hR_pJ, hJ_pJ, hT_pJ, hS_pJ, hK_wI, hL_wI, hI_wI, hR_wI, hJ_wI, hT_wI, hS_wI, eq_self, and_true, true_and, and_false, false_and, or_true, true_or, or_false, false_or, if_true, if_false, not_true_eq_false, not_false_eq_true, forall_const, implies_true, false_implies, true_implies, Option.some.injEq, forall_eq', exists_eq_left', reduceCtorEq, Nat.reduceEqDiff, c1, T_X12_in, T_X12_ones, T_X11_within, T_X11_bit, T_X11_isIn, T_X11_oneIfIn, T_J6_bitCount_0f7a4, hkk, htt, e43', show ¬ (1 : Int32) = 0 by decide]
    exact h96
  | true =>
    obtain ⟨k, hk5, iv⟩ := hi ok
    have e43' : hI (wIJ h f g) 44 43 = 0 := e43.trans iv.2.1
    have e45' : hI (wIJ h f g) 44 45 = R.2.1 44 45 := e45
    by_cases c : R.2.1 44 45 = -1
    · have hk16 : k ≤ 16 := Nat.le_of_not_lt (fun z => iv.2.2.2.1 z c)
      have h80 : ∀ l, f 80 l = R.2.1 80 l := fun l => hs.M (Or.inl (by decide))
      have h117 := tx_117 Q h hl0 f g k (e46.trans iv.1) ⟨hk16, fun l hlk => by
        obtain ⟨T, a, b⟩ := iv.2.2.2.2 l hlk (by omega)
        exact ⟨T, a, (h80 l).trans b⟩⟩ (hq2 ok c k hk16 iv _ g (cpM_ag hag k) haj) k 0 (by omega) (by omega)
      rw [← cpM_0 f k (tC f 0 0) (fun i z => by have := z.1; omega)] at h117
      have hH : wIJ h (u2 f 69 0 (nI k)) g = pI (wIJ h f g) 69 0 (nI k) := rfl
      rw [hH] at h117
      have e46' : hI (wIJ h f g) 44 46 = nI k := e46.trans iv.1
      have h96 : wp 4 MX12_text Q 96 [some (.ref 44), none, none, none] [] (wIJ h f g) := by
        refine s_X12_text_96 Q _ _ _ ?_
        generalize wIJ h f g = H at hl e43' e46' h117 ⊢
        simp only [b_X12_text_96, hl, lay_pI, lay_wI, lay_pJ, lm_t hl, lm_k hl, lm_r hl, lm_l hl, i_push, i_ild, i_ald, i_ist, i_ast, i_inc, i_bin, i_un, i_divs, i_i2l, i_lshl, i_lor, i_dup, i_dup2, i_pop, i_if, i_cmp, i_nul, i_vret, i_iret, i_zret, i_aret, i_keep, keep, lget, lset, ent, i_getI, i_getJ, i_getR, i_getN, i_putI, i_putZ, i_putJ, i_putR, i_iald, i_bald, i_alen, i_aald, i_iast, i_bast, i_aast, i_new, i_newa, i_anew, i_oini, i_callS, i_callV, i_callI, popn, sh4, i_sw, swP, i_copy, i_binS, List.map, Option.toList_none, Option.toList_some, List.append, List.nil_append, List.cons_append, List.length_cons, List.length_nil, List.replicate, Nat.sub_self, Nat.reduceSub, Nat.reduceAdd, hK_pI, hL_pI, hI_pI, hR_pI, hJ_pI, hT_pI, hS_pI, hK_pR, hL_pR, hI_pR, hR_pR, hJ_pR, hT_pR, hS_pR, hK_pJ, hL_pJ, hI_pJ, hR_pJ, hJ_pJ, hT_pJ, hS_pJ, hK_wI, hL_wI, hI_wI, hR_wI, hJ_wI, hT_wI, hS_wI, eq_self, and_true, true_and, and_false, false_and, or_true, true_or, or_false, false_or, if_true, if_false, not_true_eq_false, not_false_eq_true, forall_const, implies_true, false_implies, true_implies, Option.some.injEq, forall_eq', exists_eq_left', reduceCtorEq, Nat.reduceEqDiff, c1, T_X12_in, T_X12_ones, T_X11_within, T_X11_bit, T_X11_isIn, T_X11_oneIfIn, T_J6_bitCount_0f7a4, e43', e46', show (0 : Int32) ≤ 0 by decide, in0 4 (by decide) (by decide), cl0]
        exact h117
      refine s_X12_text_68 Q _ _ _ ?_
      rw [c] at e45'
      generalize wIJ h f g = H at hkk htt e43' e45' h96 ⊢
      simp only [b_X12_text_68, i_push, i_ild, i_ald, i_ist, i_ast, i_inc, i_bin, i_un, i_divs, i_i2l, i_lshl, i_lor, i_dup, i_dup2, i_pop, i_if, i_cmp, i_nul, i_vret, i_iret, i_zret, i_aret, i_keep, keep, lget, lset, ent, i_getI, i_getJ, i_getR, i_getN, i_putI, i_putZ, i_putJ, i_putR, i_iald, i_bald, i_alen, i_aald, i_iast, i_bast, i_aast, i_new, i_newa, i_anew, i_oini, i_callS, i_callV, i_callI, popn, sh4, i_sw, swP, i_copy, i_binS, List.map, Option.toList_none, Option.toList_some, List.append, List.nil_append, List.cons_append, List.length_cons, List.length_nil, List.replicate, Nat.sub_self, Nat.reduceSub, Nat.reduceAdd, hK_pI, hL_pI, hI_pI, hR_pI, hJ_pI, hT_pI, hS_pI, hK_pR, hL_pR, hI_pR, hR_pR, hJ_pR, hT_pR, hS_pR, hK_pJ, hL_pJ, hI_pJ, hR_pJ, hJ_pJ, hT_pJ, hS_pJ, hK_wI, hL_wI, hI_wI, hR_wI, hJ_wI, hT_wI, hS_wI, eq_self, and_true, true_and, and_false, false_and, or_true, true_or, or_false, false_or, if_true, if_false, not_true_eq_false, not_false_eq_true, forall_const, implies_true, false_implies, true_implies, Option.some.injEq, forall_eq', exists_eq_left', reduceCtorEq, Nat.reduceEqDiff, c1, T_X12_in, T_X12_ones, T_X11_within, T_X11_bit, T_X11_isIn, T_X11_oneIfIn, T_J6_bitCount_0f7a4, hkk, htt, e43', e45']
      exact h96
    · have hgo := hq1 ok c (u2 (u2 f 44 43 3) 44 44 (R.2.1 44 45)) g (fun x i hx => by
        have := hag x i hx
        unfold u2
        rw [this]) haj
      have hH : wIJ h (u2 (u2 f 44 43 3) 44 44 (R.2.1 44 45)) g = pI (pI (wIJ h f g) 44 43 3) 44 44 (R.2.1 44 45) := rfl
      rw [hH] at hgo
      have h96 : wp 4 MX12_text Q 96 [some (.ref 44), none, none, none] [] (pI (pI (wIJ h f g) 44 43 3) 44 44 (R.2.1 44 45)) := by
        have e : hI (pI (pI (wIJ h f g) 44 43 3) 44 44 (R.2.1 44 45)) 44 43 = 3 := by rw [hI_pI, if_neg (by decide), hI_pI, if_pos ⟨rfl, rfl⟩]
        have hl2 : LayM (pI (pI (wIJ h f g) 44 43 3) 44 44 (R.2.1 44 45)) := hl0
        refine s_X12_text_96 Q _ _ _ ?_
        generalize pI (pI (wIJ h f g) 44 43 3) 44 44 (R.2.1 44 45) = H at hl2 e hgo ⊢
        have hkk := (lm_k hl2).1
        have htt := (lm_t hl2).1
        simp only [b_X12_text_96, i_push, i_ild, i_ald, i_ist, i_ast, i_inc, i_bin, i_un, i_divs, i_i2l, i_lshl, i_lor, i_dup, i_dup2, i_pop, i_if, i_cmp, i_nul, i_vret, i_iret, i_zret, i_aret, i_keep, keep, lget, lset, ent, i_getI, i_getJ, i_getR, i_getN, i_putI, i_putZ, i_putJ, i_putR, i_iald, i_bald, i_alen, i_aald, i_iast, i_bast, i_aast, i_new, i_newa, i_anew, i_oini, i_callS, i_callV, i_callI, popn, sh4, i_sw, swP, i_copy, i_binS, List.map, Option.toList_none, Option.toList_some, List.append, List.nil_append, List.cons_append, List.length_cons, List.length_nil, List.replicate, Nat.sub_self, Nat.reduceSub, Nat.reduceAdd, hK_pI, hL_pI, hI_pI, hR_pI, hJ_pI, hT_pI, hS_pI, hK_pR, hL_pR, hI_pR, hR_pR, hJ_pR, hT_pR, hS_pR, hK_pJ, hL_pJ, hI_pJ, hR_pJ, hJ_pJ, hT_pJ, hS_pJ, hK_wI, hL_wI, hI_wI, hR_wI, hJ_wI, hT_wI, hS_wI, eq_self, and_true, true_and, and_false, false_and, or_true, true_or, or_false, false_or, if_true, if_false, not_true_eq_false, not_false_eq_true, forall_const, implies_true, false_implies, true_implies, Option.some.injEq, forall_eq', exists_eq_left', reduceCtorEq, Nat.reduceEqDiff, c1, T_X12_in, T_X12_ones, T_X11_within, T_X11_bit, T_X11_isIn, T_X11_oneIfIn, T_J6_bitCount_0f7a4, hkk, htt, e, show ¬ (3 : Int32) ≤ 0 by decide]
        exact hgo
      refine s_X12_text_68 Q _ _ _ ?_
      have hkk := (lm_k hl).1
      have htt := (lm_t hl).1
      generalize wIJ h f g = H at hkk htt e43' e45' h96 ⊢
      simp only [b_X12_text_68, i_push, i_ild, i_ald, i_ist, i_ast, i_inc, i_bin, i_un, i_divs, i_i2l, i_lshl, i_lor, i_dup, i_dup2, i_pop, i_if, i_cmp, i_nul, i_vret, i_iret, i_zret, i_aret, i_keep, keep, lget, lset, ent, i_getI, i_getJ, i_getR, i_getN, i_putI, i_putZ, i_putJ, i_putR, i_iald, i_bald, i_alen, i_aald, i_iast, i_bast, i_aast, i_new, i_newa, i_anew, i_oini, i_callS, i_callV, i_callI, popn, sh4, i_sw, swP, i_copy, i_binS, List.map, Option.toList_none, Option.toList_some, List.append, List.nil_append, List.cons_append, List.length_cons, List.length_nil, List.replicate, Nat.sub_self, Nat.reduceSub, Nat.reduceAdd, hK_pI, hL_pI, hI_pI, hR_pI, hJ_pI, hT_pI, hS_pI, hK_pR, hL_pR, hI_pR, hR_pR, hJ_pR, hT_pR, hS_pR, hK_pJ, hL_pJ, hI_pJ, hR_pJ, hJ_pJ, hT_pJ, hS_pJ, hK_wI, hL_wI, hI_wI, hR_wI, hJ_wI, hT_wI, hS_wI, eq_self, and_true, true_and, and_false, false_and, or_true, true_or, or_false, false_or, if_true, if_false, not_true_eq_false, not_false_eq_true, forall_const, implies_true, false_implies, true_implies, Option.some.injEq, forall_eq', exists_eq_left', reduceCtorEq, Nat.reduceEqDiff, c1, T_X12_in, T_X12_ones, T_X11_within, T_X11_bit, T_X11_isIn, T_X11_oneIfIn, T_J6_bitCount_0f7a4, hkk, htt, e43', e45', c]
      exact h96
set_option maxRecDepth 100000 in
set_option maxHeartbeats 400000 in
theorem tx_49 (Q : Option Value → Hp → Prop) (h : Hp) (hl0 : LayM h) (B : Nat → Int32) (L : Nat) (hL : L ≤ 500) (J : Nat → Nat → Int64) :
    ∀ (m k : Nat) (M : Mem) (t : Nat) (f : Mem) (g : Nat → Nat → Int64), SIM B L J f g M t → INV k M → L ≤ t + m → k + m ≤ 501 →
      (∀ f g, SIM B L J f g (pX B L m k M t).2.1 (pX B L m k M t).2.2 → wp 4 MX12_text Q 68 [some (.ref 44), none, none, none] [] (wIJ h f g)) →
      wp 4 MX12_text Q 49 [some (.ref 44), some (.int 1), none, none] [] (wIJ h f g) := by
  have one : ¬ (1 : Int32) = 0 := by decide
  have hend : ∀ (M : Mem) (t : Nat) (f : Mem) (g : Nat → Nat → Int64), SIM B L J f g M t → K B L t = 1 → wp 4 MX12_text Q 68 [some (.ref 44), none, none, none] [] (wIJ h f g) → wp 4 MX12_text Q 49 [some (.ref 44), some (.int 1), none, none] [] (wIJ h f g) := by
    intro M t f g hs hK h68
    have hl : LayM (wIJ h f g) := hl0
    have hkk := (lm_k hl).1
    have htt := (lm_t hl).1
    have e40 : hI (wIJ h f g) 44 40 = 0 := hs.2.2.2.1.trans ((Kd_end B L _).1.mpr hK)
    refine s_X12_text_49 Q _ _ _ ?_
    generalize wIJ h f g = H at hkk htt e40 h68 ⊢
    simp only [b_X12_text_49, i_push, i_ild, i_ald, i_ist, i_ast, i_inc, i_bin, i_un, i_divs, i_i2l, i_lshl, i_lor, i_dup, i_dup2, i_pop, i_if, i_cmp, i_nul, i_vret, i_iret, i_zret, i_aret, i_keep, keep, lget, lset, ent, i_getI, i_getJ, i_getR, i_getN, i_putI, i_putZ, i_putJ, i_putR, i_iald, i_bald, i_alen, i_aald, i_iast, i_bast, i_aast, i_new, i_newa, i_anew, i_oini, i_callS, i_callV, i_callI, popn, sh4, i_sw, swP, i_copy, i_binS, List.map, Option.toList_none, Option.toList_some, List.append, List.nil_append, List.cons_append, List.length_cons, List.length_nil, List.replicate, Nat.sub_self, Nat.reduceSub, Nat.reduceAdd, hK_pI, hL_pI, hI_pI, hR_pI, hJ_pI, hT_pI, hS_pI, hK_pR, hL_pR, hI_pR, hR_pR, hJ_pR, hT_pR, hS_pR, hK_pJ, hL_pJ, hI_pJ, hR_pJ, hJ_pJ, hT_pJ, hS_pJ, hK_wI, hL_wI, hI_wI, hR_wI, hJ_wI, hT_wI, hS_wI, eq_self, and_true, true_and, and_false, false_and, or_true, true_or, or_false, false_or, if_true, if_false, not_true_eq_false, not_false_eq_true, forall_const, implies_true, false_implies, true_implies, Option.some.injEq, forall_eq', exists_eq_left', reduceCtorEq, Nat.reduceEqDiff, c1, T_X12_in, T_X12_ones, T_X11_within, T_X11_bit, T_X11_isIn, T_X11_oneIfIn, T_J6_bitCount_0f7a4, hkk, htt, e40, one]
    exact h68
  intro m
  induction m with
  | zero =>
    intro k M t f g hs hi hLt hk hq
    by_cases hK : K B L t = 1
    · exact hend M t f g hs hK (hq f g hs)
    · have := K_bound B L t hK; omega
  | succ m ih =>
    intro k M t f g hs hi hLt hk hq
    unfold pX at hq
    by_cases hK : K B L t = 1
    · rw [if_pos hK] at hq
      exact hend M t f g hs hK (hq f g hs)
    · rw [if_neg hK] at hq
      have hl : LayM (wIJ h f g) := hl0
      have hkk := (lm_k hl).1
      have htt := (lm_t hl).1
      have e40 : ¬ hI (wIJ h f g) 44 40 = 0 := fun z => hK ((Kd_end B L _).1.mp (hs.2.2.2.1.symm.trans z))
      have hc : T_X12_oneLine [.ref 44] (wIJ h f g) (fun r h' => c_X12_text_64 Q [some (.ref 44), some (.int 1), none, none] (r.toList ++ []) h') := by
        refine ⟨rfl, hl0, B, L, J, M, t, k, hs, hi.1, by omega, fun f1 g1 hs1 => ?_⟩
        show c_X12_text_64 Q _ [.int (if (pL B L k M t).1 = true then 1 else 0)] (wIJ h f1 g1)
        have hpl := pL_inv B L k M t hL hi
        by_cases ok : (pL B L k M t).1 = true
        · rw [if_pos ok] at hq ⊢
          obtain ⟨iv, gt⟩ := hpl.1 ok
          have hgo := ih (k + 1) _ _ f1 g1 hs1 iv (by omega) (by omega) hq
          generalize wIJ h f1 g1 = H at hgo ⊢
          simp only [c_X12_text_64, i_push, i_ild, i_ald, i_ist, i_ast, i_inc, i_bin, i_un, i_divs, i_i2l, i_lshl, i_lor, i_dup, i_dup2, i_pop, i_if, i_cmp, i_nul, i_vret, i_iret, i_zret, i_aret, i_keep, keep, lget, lset, ent, i_getI, i_getJ, i_getR, i_getN, i_putI, i_putZ, i_putJ, i_putR, i_iald, i_bald, i_alen, i_aald, i_iast, i_bast, i_aast, i_new, i_newa, i_anew, i_oini, i_callS, i_callV, i_callI, popn, sh4, i_sw, swP, i_copy, i_binS, List.map, Option.toList_none, Option.toList_some, List.append, List.nil_append, List.cons_append, List.length_cons, List.length_nil, List.replicate, Nat.sub_self, Nat.reduceSub, Nat.reduceAdd, hK_pI, hL_pI, hI_pI, hR_pI, hJ_pI, hT_pI, hS_pI, hK_pR, hL_pR, hI_pR, hR_pR, hJ_pR, hT_pR, hS_pR, hK_pJ, hL_pJ, hI_pJ, hR_pJ, hJ_pJ, hT_pJ, hS_pJ, hK_wI, hL_wI, hI_wI, hR_wI, hJ_wI, hT_wI, hS_wI, eq_self, and_true, true_and, and_false, false_and, or_true, true_or, or_false, false_or, if_true, if_false, not_true_eq_false, not_false_eq_true, forall_const, implies_true, false_implies, true_implies, Option.some.injEq, forall_eq', exists_eq_left', reduceCtorEq, Nat.reduceEqDiff, c1, T_X12_in, T_X12_ones, T_X11_within, T_X11_bit, T_X11_isIn, T_X11_oneIfIn, T_J6_bitCount_0f7a4]
          exact hgo
        · rw [if_neg ok] at hq ⊢
          have hgo := hq f1 g1 hs1
          have h49 : wp 4 MX12_text Q 49 [some (.ref 44), some (.int 0), none, none] [] (wIJ h f1 g1) := by
            refine s_X12_text_49 Q _ _ _ ?_
            generalize wIJ h f1 g1 = H at hgo ⊢
            simp only [b_X12_text_49, i_push, i_ild, i_ald, i_ist, i_ast, i_inc, i_bin, i_un, i_divs, i_i2l, i_lshl, i_lor, i_dup, i_dup2, i_pop, i_if, i_cmp, i_nul, i_vret, i_iret, i_zret, i_aret, i_keep, keep, lget, lset, ent, i_getI, i_getJ, i_getR, i_getN, i_putI, i_putZ, i_putJ, i_putR, i_iald, i_bald, i_alen, i_aald, i_iast, i_bast, i_aast, i_new, i_newa, i_anew, i_oini, i_callS, i_callV, i_callI, popn, sh4, i_sw, swP, i_copy, i_binS, List.map, Option.toList_none, Option.toList_some, List.append, List.nil_append, List.cons_append, List.length_cons, List.length_nil, List.replicate, Nat.sub_self, Nat.reduceSub, Nat.reduceAdd, hK_pI, hL_pI, hI_pI, hR_pI, hJ_pI, hT_pI, hS_pI, hK_pR, hL_pR, hI_pR, hR_pR, hJ_pR, hT_pR, hS_pR, hK_pJ, hL_pJ, hI_pJ, hR_pJ, hJ_pJ, hT_pJ, hS_pJ, hK_wI, hL_wI, hI_wI, hR_wI, hJ_wI, hT_wI, hS_wI, eq_self, and_true, true_and, and_false, false_and, or_true, true_or, or_false, false_or, if_true, if_false, not_true_eq_false, not_false_eq_true, forall_const, implies_true, false_implies, true_implies, Option.some.injEq, forall_eq', exists_eq_left', reduceCtorEq, Nat.reduceEqDiff, c1, T_X12_in, T_X12_ones, T_X11_within, T_X11_bit, T_X11_isIn, T_X11_oneIfIn, T_J6_bitCount_0f7a4]
            exact hgo
          generalize wIJ h f1 g1 = H at h49 ⊢
          simp only [c_X12_text_64, i_push, i_ild, i_ald, i_ist, i_ast, i_inc, i_bin, i_un, i_divs, i_i2l, i_lshl, i_lor, i_dup, i_dup2, i_pop, i_if, i_cmp, i_nul, i_vret, i_iret, i_zret, i_aret, i_keep, keep, lget, lset, ent, i_getI, i_getJ, i_getR, i_getN, i_putI, i_putZ, i_putJ, i_putR, i_iald, i_bald, i_alen, i_aald, i_iast, i_bast, i_aast, i_new, i_newa, i_anew, i_oini, i_callS, i_callV, i_callI, popn, sh4, i_sw, swP, i_copy, i_binS, List.map, Option.toList_none, Option.toList_some, List.append, List.nil_append, List.cons_append, List.length_cons, List.length_nil, List.replicate, Nat.sub_self, Nat.reduceSub, Nat.reduceAdd, hK_pI, hL_pI, hI_pI, hR_pI, hJ_pI, hT_pI, hS_pI, hK_pR, hL_pR, hI_pR, hR_pR, hJ_pR, hT_pR, hS_pR, hK_pJ, hL_pJ, hI_pJ, hR_pJ, hJ_pJ, hT_pJ, hS_pJ, hK_wI, hL_wI, hI_wI, hR_wI, hJ_wI, hT_wI, hS_wI, eq_self, and_true, true_and, and_false, false_and, or_true, true_or, or_false, false_or, if_true, if_false, not_true_eq_false, not_false_eq_true, forall_const, implies_true, false_implies, true_implies, Option.some.injEq, forall_eq', exists_eq_left', reduceCtorEq, Nat.reduceEqDiff, c1, T_X12_in, T_X12_ones, T_X11_within, T_X11_bit, T_X11_isIn, T_X11_oneIfIn, T_J6_bitCount_0f7a4]
          exact h49
      refine s_X12_text_49 Q _ _ _ ?_
      generalize wIJ h f g = H at hkk htt e40 hc ⊢
      simp only [b_X12_text_49, i_push, i_ild, i_ald, i_ist, i_ast, i_inc, i_bin, i_un, i_divs, i_i2l, i_lshl, i_lor, i_dup, i_dup2, i_pop, i_if, i_cmp, i_nul, i_vret, i_iret, i_zret, i_aret, i_keep, keep, lget, lset, ent, i_getI, i_getJ, i_getR, i_getN, i_putI, i_putZ, i_putJ, i_putR, i_iald, i_bald, i_alen, i_aald, i_iast, i_bast, i_aast, i_new, i_newa, i_anew, i_oini, i_callS, i_callV, i_callI, popn, sh4, i_sw, swP, i_copy, i_binS, List.map, Option.toList_none, Option.toList_some, List.append, List.nil_append, List.cons_append, List.length_cons, List.length_nil, List.replicate, Nat.sub_self, Nat.reduceSub, Nat.reduceAdd, hK_pI, hL_pI, hI_pI, hR_pI, hJ_pI, hT_pI, hS_pI, hK_pR, hL_pR, hI_pR, hR_pR, hJ_pR, hT_pR, hS_pR, hK_pJ, hL_pJ, hI_pJ, hR_pJ, hJ_pJ, hT_pJ, hS_pJ, hK_wI, hL_wI, hI_wI, hR_wI, hJ_wI, hT_wI, hS_wI, eq_self, and_true, true_and, and_false, false_and, or_true, true_or, or_false, false_or, if_true, if_false, not_true_eq_false, not_false_eq_true, forall_const, implies_true, false_implies, true_implies, Option.some.injEq, forall_eq', exists_eq_left', reduceCtorEq, Nat.reduceEqDiff, c1, T_X12_in, T_X12_ones, T_X11_within, T_X11_bit, T_X11_isIn, T_X11_oneIfIn, T_J6_bitCount_0f7a4, hkk, htt, e40, one]
      exact hc
theorem txM0_o (I : Mem) (L : Nat) {a : Nat} (h : a ≠ 44) (i : Nat) : txM0 I L a i = I a i := by
  unfold txM0
  rw [u2_ne (fun z => h z.1), u2_ne (fun z => h z.1), u2_ne (fun z => h z.1), u2_ne (fun z => h z.1), u2_ne (fun z => h z.1), u2_ne (fun z => h z.1), u2_ne (fun z => h z.1), u2_ne (fun z => h z.1)]
theorem txM0_38 (I : Mem) (L : Nat) : txM0 I L 44 38 = nI L := by
  unfold txM0
  rw [u2_ne (by decide), u2_ne (by decide), u2_ne (by decide), u2_ne (by decide), u2_ne (by decide), u2_ne (by decide), u2_eq]
theorem txM0_37 (I : Mem) (L : Nat) : txM0 I L 44 37 = nI 0 := by
  unfold txM0
  rw [u2_ne (by decide), u2_ne (by decide), u2_ne (by decide), u2_ne (by decide), u2_eq]; rfl
theorem txM0_inv (I : Mem) (L : Nat) : INV 0 (txM0 I L) := by
  refine ⟨u2_eq, ?_, ?_, fun z => by omega, fun l hl => absurd hl (Nat.not_lt_zero _)⟩
  · unfold txM0
    rw [u2_ne (by decide), u2_ne (by decide), u2_ne (by decide), u2_eq]
  · unfold txM0
    rw [u2_ne (by decide), u2_ne (by decide), u2_eq]
set_option maxRecDepth 100000 in
set_option maxHeartbeats 4000000 in
theorem ok_X12_text : ctr 4 MX12_text T_X12_text := by
  refine ctr_of pn_X12 wc_X12_text (fun av h Q hT => ?_)
  unfold T_X12_text at hT
  split at hT
  · rename_i o
    refine ⟨⟨by simp [Value.category], Nat.le_of_ble_eq_true rfl⟩, s_X12_text_0 Q _ _ _ ?_⟩
    obtain ⟨rfl, hl, L, hL, h2, hq0, hq1, hq2⟩ := hT
    have hinv := pX_inv (fun k => hI h 45 k &&& 255) L hL 501 0 (txM0 (hI h) L) 0 (txM0_inv _ _)
    have hnx : T_X12_next [.ref 44] (wI h (txM0 (hI h) L)) (fun r h' => wp 4 MX12_text Q 49 [some (.ref 44), some (.int 1), none, none] (r.toList ++ []) h') := by
      refine ⟨rfl, hl.wI _, 0, L, Nat.zero_le _, hL, txM0_37 (hI h) L, txM0_38 (hI h) L, fun f g hn => ?_⟩
      show wp 4 MX12_text Q 49 _ [] (wIJ h f g)
      obtain ⟨n1, n2, n3, n4, n5, n6, n7⟩ := hn
      have hI' : hI (wI h (txM0 (hI h) L)) = txM0 (hI h) L := rfl
      have hJ' : hJ (wI h (txM0 (hI h) L)) = hJ h := rfl
      have eB : (fun k => txM0 (hI h) L 45 k &&& 255) = fun k => hI h 45 k &&& 255 := funext fun k => by rw [txM0_o _ _ (by decide)]
      rw [hI', eB] at n1 n2 n3 n4 n5
      rw [hI'] at n6
      rw [hJ'] at n7
      have hs : SIM (fun k => hI h 45 k &&& 255) L (hJ h) f g (txM0 (hI h) L) 0 := by
        refine ⟨hL, n1, n2, n3, n4, n5, ?_, fun i => ?_, n6, n7⟩
        · rw [n6 44 38 (by decide)]; exact txM0_38 _ _
        · rw [n6 45 i (fun z => absurd z.1 (by decide)), txM0_o _ _ (by decide)]
      exact tx_49 Q h hl _ L hL (hJ h) 501 0 _ 0 f g hs (txM0_inv _ _) (by omega) (by omega) (fun f1 g1 hs1 => tx_68 Q h hl _ L (hJ h) (txR (hI h) L) f1 g1 hs1 (fun z => by obtain ⟨k2, _, a, b⟩ := hinv.1 z; exact ⟨k2, by omega, b⟩) hinv.2 hq0 hq1 hq2)
    have hH : wI h (txM0 (hI h) L) = pI (pI (pI (pI (pI (pI (pI (pI h 44 0 0) 44 38 (nI L)) 44 2 0) 44 37 0) 44 43 0) 44 44 (-1)) 44 45 (-1)) 44 46 0 := rfl
    rw [hH] at hnx
    have hkk := (lm_k hl).1
    have htt := (lm_t hl).1
    simp only [MX12_text, b_X12_text_0, i_push, i_ild, i_ald, i_ist, i_ast, i_inc, i_bin, i_un, i_divs, i_i2l, i_lshl, i_lor, i_dup, i_dup2, i_pop, i_if, i_cmp, i_nul, i_vret, i_iret, i_zret, i_aret, i_keep, keep, lget, lset, ent, i_getI, i_getJ, i_getR, i_getN, i_putI, i_putZ, i_putJ, i_putR, i_iald, i_bald, i_alen, i_aald, i_iast, i_bast, i_aast, i_new, i_newa, i_anew, i_oini, i_callS, i_callV, i_callI, popn, sh4, i_sw, swP, i_copy, i_binS, List.map, Option.toList_none, Option.toList_some, List.append, List.nil_append, List.cons_append, List.length_cons, List.length_nil, List.replicate, Nat.sub_self, Nat.reduceSub, Nat.reduceAdd, hK_pI, hL_pI, hI_pI, hR_pI, hJ_pI, hT_pI, hS_pI, hK_pR, hL_pR, hI_pR, hR_pR, hJ_pR, hT_pR, hS_pR, hK_pJ, hL_pJ, hI_pJ, hR_pJ, hJ_pJ, hT_pJ, hS_pJ, hK_wI, hL_wI, hI_wI, hR_wI, hJ_wI, hT_wI, hS_wI, eq_self, and_true, true_and, and_false, false_and, or_true, true_or, or_false, false_or, if_true, if_false, not_true_eq_false, not_false_eq_true, forall_const, implies_true, false_implies, true_implies, Option.some.injEq, forall_eq', exists_eq_left', reduceCtorEq, Nat.reduceEqDiff, c1, T_X12_in, T_X12_ones, T_X11_within, T_X11_bit, T_X11_isIn, T_X11_oneIfIn, T_J6_bitCount_0f7a4, hkk, htt]
    rw [h2]
    exact hnx
  · exact hT.elim
