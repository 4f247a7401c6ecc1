/-! ===== the reference: oneLine, its tests ===== -/
theorem u2_46 {M : Mem} {a j : Nat} {v : Int32} (h : a ≠ 44 ∨ j ≠ 46) : u2 M a j v 44 46 = M 44 46 := u2_ne (fun z => by omega)
theorem pMany_46 (M : Mem) (p : Int32) : pMany M p 44 46 = M 44 46 := by
  unfold pMany
  split
  · exact u2_46 (Or.inr (by decide))
  · rfl
theorem pWr_46 (M : Mem) (l n : Nat) (w s v : Int32) : pWr M l n w s v 44 46 = M 44 46 := by
  unfold pWr
  split
  · rw [u2_46 (Or.inl (by decide)), u2_46 (Or.inl (by decide)), u2_46 (Or.inl (by decide)), u2_46 (Or.inl (by decide))]
  · rfl
theorem pFail_46 (M : Mem) (p : Int32) : pFail M p 44 46 = M 44 46 := by
  unfold pFail
  rw [u2_46 (Or.inr (by decide)), u2_46 (Or.inr (by decide))]
theorem pM0_46 (M : Mem) (k : Nat) (p : Int32) : pM0 M k p 44 46 = M 44 46 := by
  unfold pM0
  rw [u2_46 (Or.inl (by decide))]
  split
  · exact pMany_46 _ _
  · rfl
theorem pT_46 (B : Nat → Int32) (L l n : Nat) (M : Mem) (t : Nat) : (pT B L l n M t).2.1 44 46 = M 44 46 := by
  have h0 : (if n = 4 then pMany M (nI (bgT B L t)) else M) 44 46 = M 44 46 := by
    split
    · exact pMany_46 _ _
    · rfl
  unfold pT
  split
  · split
    · split
      · simp only [pWr_46]; exact h0
      · simp only [pFail_46]; exact h0
    · simp only [pFail_46]; exact h0
  · split
    · simp only [pWr_46]; exact h0
    · simp only [pFail_46]; exact h0
theorem pTs_46 (B : Nat → Int32) (L l : Nat) : ∀ (m n : Nat) (M : Mem) (t : Nat), (pTs B L l m n M t).2.1 44 46 = M 44 46
  | 0, _, _, _ => rfl
  | m + 1, n, M, t => by
    show (if _ then _ else _ : Bool × Mem × Nat).2.1 44 46 = _
    split
    · split
      · rw [pTs_46 B L l m (n + 1)]; exact pT_46 _ _ _ _ _ _
      · exact pT_46 _ _ _ _ _ _
    · exact pT_46 _ _ _ _ _ _
set_option maxRecDepth 100000 in
set_option maxHeartbeats 400000 in
theorem ol_57 (Q : Option Value → Hp → Prop) (h : Hp) (hl0 : LayM h) (B : Nat → Int32) (L : Nat) (J : Nat → Nat → Int64) (l : Nat) (hl16 : l ≤ 16) :
    ∀ (m n : Nat) (M : Mem) (t : Nat) (f : Mem) (g : Nat → Nat → Int64), SIM B L J f g M t → ¬ K B L t = 1 → L ≤ t + m → n + m ≤ 501 →
      ((pTs B L l m n M (t + 1)).1 = false → ∀ f g, SIM B L J f g (pTs B L l m n M (t + 1)).2.1 (pTs B L l m n M (t + 1)).2.2 → Q (some (.int 0)) (wIJ h f g)) →
      ((pTs B L l m n M (t + 1)).1 = true → ∀ (f : Mem) (g : Nat → Nat → Int64) (v : Int32), SIM B L J f g (pTs B L l m n M (t + 1)).2.1 (pTs B L l m n M (t + 1)).2.2 → wp 3 MX12_oneLine Q 57 [some (.ref 44), some (.int (nI l)), some (.int 0), some (.int v)] [] (wIJ h f g)) →
      wp 3 MX12_oneLine Q 57 [some (.ref 44), some (.int (nI l)), some (.int 1), some (.int (nI n))] [] (wIJ h f g) := by
  intro m
  induction m with
  | zero =>
    intro n M t f g hs hK hL hn hq0 hq1
    have := K_bound B L t hK
    omega
  | succ m ih =>
    intro n M t f g hs hK hL hn hq0 hq1
    have one : ¬ (1 : Int32) = 0 := by decide
    have eP : pTs B L l (m + 1) n M (t + 1) = if (pT B L l n M (t + 1)).1 = true then (if K B L (pT B L l n M (t + 1)).2.2 = 257 then pTs B L l m (n + 1) (pT B L l n M (t + 1)).2.1 ((pT B L l n M (t + 1)).2.2 + 1) else pT B L l n M (t + 1)) else pT B L l n M (t + 1) := rfl
    rw [eP] at hq0 hq1
    have hnx : T_X12_next [.ref 44] (wIJ h f g) (fun r h' => c_X12_oneLine_65 Q [some (.ref 44), some (.int (nI l)), some (.int 1), some (.int (nI n))] (r.toList ++ []) h') := by
      refine sim_next hl0 hs (fun f1 g1 hs1 => ?_)
      show c_X12_oneLine_65 Q _ [] _
      have hl1 : LayM (wIJ h f1 g1) := hl0
      have hts : T_X12_test [.ref 44, .int (nI l), .int (nI n)] (wIJ h f1 g1) (fun r h' => c_X12_oneLine_71 Q [some (.ref 44), some (.int (nI l)), some (.int 1), some (.int (nI n))] (r.toList ++ []) h') := by
        refine ⟨rfl, hl0, B, L, J, M, t + 1, l, n, rfl, hl16, rfl, by omega, hs1, fun f2 g2 hs2 => ?_⟩
        show c_X12_oneLine_71 Q _ [.int (if (pT B L l n M (t + 1)).1 = true then 1 else 0)] (wIJ h f2 g2)
        have hl2 : LayM (wIJ h f2 g2) := hl0
        by_cases ok : (pT B L l n M (t + 1)).1 = true
        · rw [if_pos ok] at hq0 hq1 ⊢
          have hgt := pT_gt ok
          have hw : T_X12_isWord [.ref 44, .long 6385252] (wIJ h f2 g2) (fun r h' => c_X12_oneLine_83 Q [some (.ref 44), some (.int (nI l)), some (.int 1), some (.int (nI n))] (r.toList ++ []) h') := by
            refine sim_word hl0 hs2 1 (by decide) (by decide +kernel) (fun e => ?_) (fun e => ?_)
            · have e' : K B L (pT B L l n M (t + 1)).2.2 = 257 := e
              rw [if_pos e'] at hq0 hq1
              have hgo := ih (n + 1) _ _ f2 g2 hs2 (by rw [e']; decide) (by omega) (by omega) hq0 hq1
              show c_X12_oneLine_83 Q _ [.int 1] _
              generalize wIJ h f2 g2 = H at hgo ⊢
              simp only [c_X12_oneLine_83, i_push, i_ild, i_ald, i_ist, i_ast, i_inc, i_bin, i_un, i_divs, i_i2l, i_lshl, i_lor, i_dup, i_dup2, i_pop, i_if, i_cmp, i_nul, i_vret, i_iret, i_zret, i_aret, i_keep, keep, lget, lset, ent, i_getI, i_getJ, i_getR, i_getN, i_putI, i_putZ, i_putJ, i_putR, i_iald, i_bald, i_alen, i_aald, i_iast, i_bast, i_aast, i_new, i_newa, i_anew, i_oini, i_callS, i_callV, i_callI, popn, sh4, i_sw, swP, i_copy, i_binS, List.map, Option.toList_none, Option.toList_some, List.append, List.nil_append, List.cons_append, List.length_cons, List.length_nil, List.replicate, Nat.sub_self, Nat.reduceSub, Nat.reduceAdd, hK_pI, hL_pI, hI_pI, hR_pI, hJ_pI, hT_pI, hS_pI, hK_pR, hL_pR, hI_pR, hR_pR, hJ_pR, hT_pR, hS_pR, hK_pJ, hL_pJ, hI_pJ, hR_pJ, hJ_pJ, hT_pJ, hS_pJ, hK_wI, hL_wI, hI_wI, hR_wI, hJ_wI, hT_wI, hS_wI, eq_self, and_true, true_and, and_false, false_and, or_true, true_or, or_false, false_or, if_true, if_false, not_true_eq_false, not_false_eq_true, forall_const, implies_true, false_implies, true_implies, Option.some.injEq, forall_eq', exists_eq_left', reduceCtorEq, Nat.reduceEqDiff, c1, T_X12_in, T_X12_ones, T_X11_within, T_X11_bit, T_X11_isIn, T_X11_oneIfIn, T_J6_bitCount_0f7a4, nI_1]
              exact hgo
            · have e' : ¬ K B L (pT B L l n M (t + 1)).2.2 = 257 := e
              rw [if_neg e'] at hq0 hq1
              have hgo := hq1 ok f2 g2 (nI (n + 1)) hs2
              show c_X12_oneLine_83 Q _ [.int 0] _
              generalize wIJ h f2 g2 = H at hgo ⊢
              simp only [c_X12_oneLine_83, i_push, i_ild, i_ald, i_ist, i_ast, i_inc, i_bin, i_un, i_divs, i_i2l, i_lshl, i_lor, i_dup, i_dup2, i_pop, i_if, i_cmp, i_nul, i_vret, i_iret, i_zret, i_aret, i_keep, keep, lget, lset, ent, i_getI, i_getJ, i_getR, i_getN, i_putI, i_putZ, i_putJ, i_putR, i_iald, i_bald, i_alen, i_aald, i_iast, i_bast, i_aast, i_new, i_newa, i_anew, i_oini, i_callS, i_callV, i_callI, popn, sh4, i_sw, swP, i_copy, i_binS, List.map, Option.toList_none, Option.toList_some, List.append, List.nil_append, List.cons_append, List.length_cons, List.length_nil, List.replicate, Nat.sub_self, Nat.reduceSub, Nat.reduceAdd, hK_pI, hL_pI, hI_pI, hR_pI, hJ_pI, hT_pI, hS_pI, hK_pR, hL_pR, hI_pR, hR_pR, hJ_pR, hT_pR, hS_pR, hK_pJ, hL_pJ, hI_pJ, hR_pJ, hJ_pJ, hT_pJ, hS_pJ, hK_wI, hL_wI, hI_wI, hR_wI, hJ_wI, hT_wI, hS_wI, eq_self, and_true, true_and, and_false, false_and, or_true, true_or, or_false, false_or, if_true, if_false, not_true_eq_false, not_false_eq_true, forall_const, implies_true, false_implies, true_implies, Option.some.injEq, forall_eq', exists_eq_left', reduceCtorEq, Nat.reduceEqDiff, c1, T_X12_in, T_X12_ones, T_X11_within, T_X11_bit, T_X11_isIn, T_X11_oneIfIn, T_J6_bitCount_0f7a4, nI_1]
              exact hgo
          generalize wIJ h f2 g2 = H at hl2 hw ⊢
          have hkk := (lm_k hl2).1
          have htt := (lm_t hl2).1
          simp only [c_X12_oneLine_71, i_push, i_ild, i_ald, i_ist, i_ast, i_inc, i_bin, i_un, i_divs, i_i2l, i_lshl, i_lor, i_dup, i_dup2, i_pop, i_if, i_cmp, i_nul, i_vret, i_iret, i_zret, i_aret, i_keep, keep, lget, lset, ent, i_getI, i_getJ, i_getR, i_getN, i_putI, i_putZ, i_putJ, i_putR, i_iald, i_bald, i_alen, i_aald, i_iast, i_bast, i_aast, i_new, i_newa, i_anew, i_oini, i_callS, i_callV, i_callI, popn, sh4, i_sw, swP, i_copy, i_binS, List.map, Option.toList_none, Option.toList_some, List.append, List.nil_append, List.cons_append, List.length_cons, List.length_nil, List.replicate, Nat.sub_self, Nat.reduceSub, Nat.reduceAdd, hK_pI, hL_pI, hI_pI, hR_pI, hJ_pI, hT_pI, hS_pI, hK_pR, hL_pR, hI_pR, hR_pR, hJ_pR, hT_pR, hS_pR, hK_pJ, hL_pJ, hI_pJ, hR_pJ, hJ_pJ, hT_pJ, hS_pJ, hK_wI, hL_wI, hI_wI, hR_wI, hJ_wI, hT_wI, hS_wI, eq_self, and_true, true_and, and_false, false_and, or_true, true_or, or_false, false_or, if_true, if_false, not_true_eq_false, not_false_eq_true, forall_const, implies_true, false_implies, true_implies, Option.some.injEq, forall_eq', exists_eq_left', reduceCtorEq, Nat.reduceEqDiff, c1, T_X12_in, T_X12_ones, T_X11_within, T_X11_bit, T_X11_isIn, T_X11_oneIfIn, T_J6_bitCount_0f7a4, hkk, htt, one]
          exact hw
        · rw [if_neg ok] at hq0 hq1 ⊢
          have hgo := hq0 (by simpa using ok) f2 g2 hs2
          generalize wIJ h f2 g2 = H at hgo ⊢
          simp only [c_X12_oneLine_71, i_push, i_ild, i_ald, i_ist, i_ast, i_inc, i_bin, i_un, i_divs, i_i2l, i_lshl, i_lor, i_dup, i_dup2, i_pop, i_if, i_cmp, i_nul, i_vret, i_iret, i_zret, i_aret, i_keep, keep, lget, lset, ent, i_getI, i_getJ, i_getR, i_getN, i_putI, i_putZ, i_putJ, i_putR, i_iald, i_bald, i_alen, i_aald, i_iast, i_bast, i_aast, i_new, i_newa, i_anew, i_oini, i_callS, i_callV, i_callI, popn, sh4, i_sw, swP, i_copy, i_binS, List.map, Option.toList_none, Option.toList_some, List.append, List.nil_append, List.cons_append, List.length_cons, List.length_nil, List.replicate, Nat.sub_self, Nat.reduceSub, Nat.reduceAdd, hK_pI, hL_pI, hI_pI, hR_pI, hJ_pI, hT_pI, hS_pI, hK_pR, hL_pR, hI_pR, hR_pR, hJ_pR, hT_pR, hS_pR, hK_pJ, hL_pJ, hI_pJ, hR_pJ, hJ_pJ, hT_pJ, hS_pJ, hK_wI, hL_wI, hI_wI, hR_wI, hJ_wI, hT_wI, hS_wI, eq_self, and_true, true_and, and_false, false_and, or_true, true_or, or_false, false_or, if_true, if_false, not_true_eq_false, not_false_eq_true, forall_const, implies_true, false_implies, true_implies, Option.some.injEq, forall_eq', exists_eq_left', reduceCtorEq, Nat.reduceEqDiff, c1, T_X12_in, T_X12_ones, T_X11_within, T_X11_bit, T_X11_isIn, T_X11_oneIfIn, T_J6_bitCount_0f7a4]
          exact hgo
      generalize wIJ h f1 g1 = H at hl1 hts ⊢
      have hkk := (lm_k hl1).1
      have htt := (lm_t hl1).1
      simp only [c_X12_oneLine_65, i_push, i_ild, i_ald, i_ist, i_ast, i_inc, i_bin, i_un, i_divs, i_i2l, i_lshl, i_lor, i_dup, i_dup2, i_pop, i_if, i_cmp, i_nul, i_vret, i_iret, i_zret, i_aret, i_keep, keep, lget, lset, ent, i_getI, i_getJ, i_getR, i_getN, i_putI, i_putZ, i_putJ, i_putR, i_iald, i_bald, i_alen, i_aald, i_iast, i_bast, i_aast, i_new, i_newa, i_anew, i_oini, i_callS, i_callV, i_callI, popn, sh4, i_sw, swP, i_copy, i_binS, List.map, Option.toList_none, Option.toList_some, List.append, List.nil_append, List.cons_append, List.length_cons, List.length_nil, List.replicate, Nat.sub_self, Nat.reduceSub, Nat.reduceAdd, hK_pI, hL_pI, hI_pI, hR_pI, hJ_pI, hT_pI, hS_pI, hK_pR, hL_pR, hI_pR, hR_pR, hJ_pR, hT_pR, hS_pR, hK_pJ, hL_pJ, hI_pJ, hR_pJ, hJ_pJ, hT_pJ, hS_pJ, hK_wI, hL_wI, hI_wI, hR_wI, hJ_wI, hT_wI, hS_wI, eq_self, and_true, true_and, and_false, false_and, or_true, true_or, or_false, false_or, if_true, if_false, not_true_eq_false, not_false_eq_true, forall_const, implies_true, false_implies, true_implies, Option.some.injEq, forall_eq', exists_eq_left', reduceCtorEq, Nat.reduceEqDiff, c1, T_X12_in, T_X12_ones, T_X11_within, T_X11_bit, T_X11_isIn, T_X11_oneIfIn, T_J6_bitCount_0f7a4, hkk, htt]
      exact hts
    have hl : LayM (wIJ h f g) := hl0
    refine s_X12_oneLine_57 Q _ _ _ ?_
    generalize wIJ h f g = H at hl hnx ⊢
    have hkk := (lm_k hl).1
    have htt := (lm_t hl).1
    simp only [b_X12_oneLine_57, i_push, i_ild, i_ald, i_ist, i_ast, i_inc, i_bin, i_un, i_divs, i_i2l, i_lshl, i_lor, i_dup, i_dup2, i_pop, i_if, i_cmp, i_nul, i_vret, i_iret, i_zret, i_aret, i_keep, keep, lget, lset, ent, i_getI, i_getJ, i_getR, i_getN, i_putI, i_putZ, i_putJ, i_putR, i_iald, i_bald, i_alen, i_aald, i_iast, i_bast, i_aast, i_new, i_newa, i_anew, i_oini, i_callS, i_callV, i_callI, popn, sh4, i_sw, swP, i_copy, i_binS, List.map, Option.toList_none, Option.toList_some, List.append, List.nil_append, List.cons_append, List.length_cons, List.length_nil, List.replicate, Nat.sub_self, Nat.reduceSub, Nat.reduceAdd, hK_pI, hL_pI, hI_pI, hR_pI, hJ_pI, hT_pI, hS_pI, hK_pR, hL_pR, hI_pR, hR_pR, hJ_pR, hT_pR, hS_pR, hK_pJ, hL_pJ, hI_pJ, hR_pJ, hJ_pJ, hT_pJ, hS_pJ, hK_wI, hL_wI, hI_wI, hR_wI, hJ_wI, hT_wI, hS_wI, eq_self, and_true, true_and, and_false, false_and, or_true, true_or, or_false, false_or, if_true, if_false, not_true_eq_false, not_false_eq_true, forall_const, implies_true, false_implies, true_implies, Option.some.injEq, forall_eq', exists_eq_left', reduceCtorEq, Nat.reduceEqDiff, c1, T_X12_in, T_X12_ones, T_X11_within, T_X11_bit, T_X11_isIn, T_X11_oneIfIn, T_J6_bitCount_0f7a4, hkk, htt, one]
    exact hnx
set_option maxRecDepth 100000 in
set_option maxHeartbeats 400000 in
theorem ol_36 (Q : Option Value → Hp → Prop) (h : Hp) (hl0 : LayM h) (B : Nat → Int32) (L : Nat) (J : Nat → Nat → Int64) (M0 M : Mem) (t k l : Nat) (hl16 : l = if k < 16 then k else 16) (f : Mem) (g : Nat → Nat → Int64) (hs : SIM B L J f g M0 t) (hM : u2 M0 80 l 0 = pM0 M k (nI (bgT B L t))) (hk : M 44 46 = nI k)
    (hq : ∀ f g, SIM B L J f g (pL B L k M t).2.1 (pL B L k M t).2.2 → Q (some (.int (if (pL B L k M t).1 = true then 1 else 0))) (wIJ h f g)) :
    wp 3 MX12_oneLine Q 36 [some (.ref 44), some (.int (nI l)), none, none] [] (wIJ h f g) := by
  have hl' : l ≤ 16 := by rw [hl16]; split <;> omega
  have one : ¬ (1 : Int32) = 0 := by decide
  unfold pL at hq
  rw [← hl16, ← hM] at hq
  have hk0 : u2 M0 80 l 0 44 46 = nI k := by rw [hM, pM0_46]; exact hk
  have hs1 : SIM B L J (u2 f 80 l 0) g (u2 M0 80 l 0) t := sim_u2 hs (Or.inl (by decide)) 0
  have hl1 : LayM (wIJ h (u2 f 80 l 0) g) := hl0
  have hw : T_X12_isWord [.ref 44, .long 2003330414] (wIJ h (u2 f 80 l 0) g) (fun r h' => c_X12_oneLine_50 Q [some (.ref 44), some (.int (nI l)), none, none] (r.toList ++ []) h') := by
    have hkk := (lm_k hl1).1
    have htt := (lm_t hl1).1
    refine sim_word hl0 hs1 0 (by decide) (by decide +kernel) (fun e => ?_) (fun e => ?_)
    · have e' : K B L t = 256 := e
      rw [if_pos e'] at hq
      have hgo := ol_57 Q h hl0 B L J l hl' 501 0 (u2 M0 80 l 0) t (u2 f 80 l 0) g hs1 (by rw [e']; decide) (by have := hs.1; omega) (by omega) (fun ok f1 g1 hs2 => by
          rw [if_neg (by rw [ok]; decide)] at hq
          have := hq f1 g1 hs2
          rw [if_neg (by rw [ok]; decide)] at this
          exact this) (fun ok f1 g1 v hs2 => by
          rw [if_pos ok] at hq
          have hk1 : (pTs B L l 501 0 (u2 M0 80 l 0) (t + 1)).2.1 44 46 = nI k := (pTs_46 _ _ _ _ _ _ _).trans hk0
          generalize pTs B L l 501 0 (u2 M0 80 l 0) (t + 1) = R at hq hs2 hk1
          have hl2 : LayM (wIJ h f1 g1) := hl0
          have hn : T_X12_need [.ref 44, .int 58] (wIJ h f1 g1) (fun r h' => c_X12_oneLine_96 Q [some (.ref 44), some (.int (nI l)), some (.int 0), some (.int v)] (r.toList ++ []) h') := by
            refine ⟨rfl, hl0, by unfold isSg; decide, B, L, J, R.2.1, R.2.2, hs2, fun e2 f2 g2 hs3 => ?_, fun e2 f2 g2 hs3 => ?_⟩
            · rw [if_pos e2] at hq
              have hgo := ol_101 Q h hl0 B L J _ _ k l hl' f2 g2 hs3 hk1 hq
              show c_X12_oneLine_96 Q _ [.int 1] (wIJ h f2 g2)
              generalize wIJ h f2 g2 = H at hgo ⊢
              simp only [c_X12_oneLine_96, i_push, i_ild, i_ald, i_ist, i_ast, i_inc, i_bin, i_un, i_divs, i_i2l, i_lshl, i_lor, i_dup, i_dup2, i_pop, i_if, i_cmp, i_nul, i_vret, i_iret, i_zret, i_aret, i_keep, keep, lget, lset, ent, i_getI, i_getJ, i_getR, i_getN, i_putI, i_putZ, i_putJ, i_putR, i_iald, i_bald, i_alen, i_aald, i_iast, i_bast, i_aast, i_new, i_newa, i_anew, i_oini, i_callS, i_callV, i_callI, popn, sh4, i_sw, swP, i_copy, i_binS, List.map, Option.toList_none, Option.toList_some, List.append, List.nil_append, List.cons_append, List.length_cons, List.length_nil, List.replicate, Nat.sub_self, Nat.reduceSub, Nat.reduceAdd, hK_pI, hL_pI, hI_pI, hR_pI, hJ_pI, hT_pI, hS_pI, hK_pR, hL_pR, hI_pR, hR_pR, hJ_pR, hT_pR, hS_pR, hK_pJ, hL_pJ, hI_pJ, hR_pJ, hJ_pJ, hT_pJ, hS_pJ, hK_wI, hL_wI, hI_wI, hR_wI, hJ_wI, hT_wI, hS_wI, eq_self, and_true, true_and, and_false, false_and, or_true, true_or, or_false, false_or, if_true, if_false, not_true_eq_false, not_false_eq_true, forall_const, implies_true, false_implies, true_implies, Option.some.injEq, forall_eq', exists_eq_left', reduceCtorEq, Nat.reduceEqDiff, c1, T_X12_in, T_X12_ones, T_X11_within, T_X11_bit, T_X11_isIn, T_X11_oneIfIn, T_J6_bitCount_0f7a4, one]
              exact hgo
            · rw [if_neg e2] at hq
              have hgo := hq f2 g2 hs3
              show c_X12_oneLine_96 Q _ [.int 0] (wIJ h f2 g2)
              generalize wIJ h f2 g2 = H at hgo ⊢
              simp only [c_X12_oneLine_96, i_push, i_ild, i_ald, i_ist, i_ast, i_inc, i_bin, i_un, i_divs, i_i2l, i_lshl, i_lor, i_dup, i_dup2, i_pop, i_if, i_cmp, i_nul, i_vret, i_iret, i_zret, i_aret, i_keep, keep, lget, lset, ent, i_getI, i_getJ, i_getR, i_getN, i_putI, i_putZ, i_putJ, i_putR, i_iald, i_bald, i_alen, i_aald, i_iast, i_bast, i_aast, i_new, i_newa, i_anew, i_oini, i_callS, i_callV, i_callI, popn, sh4, i_sw, swP, i_copy, i_binS, List.map, Option.toList_none, Option.toList_some, List.append, List.nil_append, List.cons_append, List.length_cons, List.length_nil, List.replicate, Nat.sub_self, Nat.reduceSub, Nat.reduceAdd, hK_pI, hL_pI, hI_pI, hR_pI, hJ_pI, hT_pI, hS_pI, hK_pR, hL_pR, hI_pR, hR_pR, hJ_pR, hT_pR, hS_pR, hK_pJ, hL_pJ, hI_pJ, hR_pJ, hJ_pJ, hT_pJ, hS_pJ, hK_wI, hL_wI, hI_wI, hR_wI, hJ_wI, hT_wI, hS_wI, eq_self, and_true, true_and, and_false, false_and, or_true, true_or, or_false, false_or, if_true, if_false, not_true_eq_false, not_false_eq_true, forall_const, implies_true, false_implies, true_implies, Option.some.injEq, forall_eq', exists_eq_left', reduceCtorEq, Nat.reduceEqDiff, c1, T_X12_in, T_X12_ones, T_X11_within, T_X11_bit, T_X11_isIn, T_X11_oneIfIn, T_J6_bitCount_0f7a4]
              exact hgo
          refine s_X12_oneLine_57 Q _ _ _ ?_
          generalize wIJ h f1 g1 = H at hl2 hn ⊢
          have hkk := (lm_k hl2).1
          have htt := (lm_t hl2).1
          simp only [b_X12_oneLine_57, i_push, i_ild, i_ald, i_ist, i_ast, i_inc, i_bin, i_un, i_divs, i_i2l, i_lshl, i_lor, i_dup, i_dup2, i_pop, i_if, i_cmp, i_nul, i_vret, i_iret, i_zret, i_aret, i_keep, keep, lget, lset, ent, i_getI, i_getJ, i_getR, i_getN, i_putI, i_putZ, i_putJ, i_putR, i_iald, i_bald, i_alen, i_aald, i_iast, i_bast, i_aast, i_new, i_newa, i_anew, i_oini, i_callS, i_callV, i_callI, popn, sh4, i_sw, swP, i_copy, i_binS, List.map, Option.toList_none, Option.toList_some, List.append, List.nil_append, List.cons_append, List.length_cons, List.length_nil, List.replicate, Nat.sub_self, Nat.reduceSub, Nat.reduceAdd, hK_pI, hL_pI, hI_pI, hR_pI, hJ_pI, hT_pI, hS_pI, hK_pR, hL_pR, hI_pR, hR_pR, hJ_pR, hT_pR, hS_pR, hK_pJ, hL_pJ, hI_pJ, hR_pJ, hJ_pJ, hT_pJ, hS_pJ, hK_wI, hL_wI, hI_wI, hR_wI, hJ_wI, hT_wI, hS_wI, eq_self, and_true, true_and, and_false, false_and, or_true, true_or, or_false, false_or, if_true, if_false, not_true_eq_false, not_false_eq_true, forall_const, implies_true, false_implies, true_implies, Option.some.injEq, forall_eq', exists_eq_left', reduceCtorEq, Nat.reduceEqDiff, c1, T_X12_in, T_X12_ones, T_X11_within, T_X11_bit, T_X11_isIn, T_X11_oneIfIn, T_J6_bitCount_0f7a4, hkk, htt]
          exact hn)
      show c_X12_oneLine_50 Q _ [.int 1] _
      generalize wIJ h (u2 f 80 l 0) g = H at hgo ⊢
      simp only [c_X12_oneLine_50, i_push, i_ild, i_ald, i_ist, i_ast, i_inc, i_bin, i_un, i_divs, i_i2l, i_lshl, i_lor, i_dup, i_dup2, i_pop, i_if, i_cmp, i_nul, i_vret, i_iret, i_zret, i_aret, i_keep, keep, lget, lset, ent, i_getI, i_getJ, i_getR, i_getN, i_putI, i_putZ, i_putJ, i_putR, i_iald, i_bald, i_alen, i_aald, i_iast, i_bast, i_aast, i_new, i_newa, i_anew, i_oini, i_callS, i_callV, i_callI, popn, sh4, i_sw, swP, i_copy, i_binS, List.map, Option.toList_none, Option.toList_some, List.append, List.nil_append, List.cons_append, List.length_cons, List.length_nil, List.replicate, Nat.sub_self, Nat.reduceSub, Nat.reduceAdd, hK_pI, hL_pI, hI_pI, hR_pI, hJ_pI, hT_pI, hS_pI, hK_pR, hL_pR, hI_pR, hR_pR, hJ_pR, hT_pR, hS_pR, hK_pJ, hL_pJ, hI_pJ, hR_pJ, hJ_pJ, hT_pJ, hS_pJ, hK_wI, hL_wI, hI_wI, hR_wI, hJ_wI, hT_wI, hS_wI, eq_self, and_true, true_and, and_false, false_and, or_true, true_or, or_false, false_or, if_true, if_false, not_true_eq_false, not_false_eq_true, forall_const, implies_true, false_implies, true_implies, Option.some.injEq, forall_eq', exists_eq_left', reduceCtorEq, Nat.reduceEqDiff, c1, T_X12_in, T_X12_ones, T_X11_within, T_X11_bit, T_X11_isIn, T_X11_oneIfIn, T_J6_bitCount_0f7a4, one]
      exact hgo
    · have e' : ¬ K B L t = 256 := e
      rw [if_neg e'] at hq
      have hgo := ol_101 Q h hl0 B L J _ t k l hl' (u2 f 80 l 0) g hs1 hk0 hq
      show c_X12_oneLine_50 Q _ [.int 0] _
      generalize wIJ h (u2 f 80 l 0) g = H at hgo ⊢
      simp only [c_X12_oneLine_50, i_push, i_ild, i_ald, i_ist, i_ast, i_inc, i_bin, i_un, i_divs, i_i2l, i_lshl, i_lor, i_dup, i_dup2, i_pop, i_if, i_cmp, i_nul, i_vret, i_iret, i_zret, i_aret, i_keep, keep, lget, lset, ent, i_getI, i_getJ, i_getR, i_getN, i_putI, i_putZ, i_putJ, i_putR, i_iald, i_bald, i_alen, i_aald, i_iast, i_bast, i_aast, i_new, i_newa, i_anew, i_oini, i_callS, i_callV, i_callI, popn, sh4, i_sw, swP, i_copy, i_binS, List.map, Option.toList_none, Option.toList_some, List.append, List.nil_append, List.cons_append, List.length_cons, List.length_nil, List.replicate, Nat.sub_self, Nat.reduceSub, Nat.reduceAdd, hK_pI, hL_pI, hI_pI, hR_pI, hJ_pI, hT_pI, hS_pI, hK_pR, hL_pR, hI_pR, hR_pR, hJ_pR, hT_pR, hS_pR, hK_pJ, hL_pJ, hI_pJ, hR_pJ, hJ_pJ, hT_pJ, hS_pJ, hK_wI, hL_wI, hI_wI, hR_wI, hJ_wI, hT_wI, hS_wI, eq_self, and_true, true_and, and_false, false_and, or_true, true_or, or_false, false_or, if_true, if_false, not_true_eq_false, not_false_eq_true, forall_const, implies_true, false_implies, true_implies, Option.some.injEq, forall_eq', exists_eq_left', reduceCtorEq, Nat.reduceEqDiff, c1, T_X12_in, T_X12_ones, T_X11_within, T_X11_bit, T_X11_isIn, T_X11_oneIfIn, T_J6_bitCount_0f7a4]
      exact hgo
  have hH : wIJ h (u2 f 80 l 0) g = pI (wIJ h f g) 80 l 0 := rfl
  rw [hH] at hw
  have hl2 : LayM (wIJ h f g) := hl0
  refine s_X12_oneLine_36 Q _ _ _ ?_
  generalize wIJ h f g = H at hl2 hw ⊢
  simp only [b_X12_oneLine_36, lm_t hl2, lm_k hl2, lm_r hl2, lm_l hl2, i_push, i_ild, i_ald, i_ist, i_ast, i_inc, i_bin, i_un, i_divs, i_i2l, i_lshl, i_lor, i_dup, i_dup2, i_pop, i_if, i_cmp, i_nul, i_vret, i_iret, i_zret, i_aret, i_keep, keep, lget, lset, ent, i_getI, i_getJ, i_getR, i_getN, i_putI, i_putZ, i_putJ, i_putR, i_iald, i_bald, i_alen, i_aald, i_iast, i_bast, i_aast, i_new, i_newa, i_anew, i_oini, i_callS, i_callV, i_callI, popn, sh4, i_sw, swP, i_copy, i_binS, List.map, Option.toList_none, Option.toList_some, List.append, List.nil_append, List.cons_append, List.length_cons, List.length_nil, List.replicate, Nat.sub_self, Nat.reduceSub, Nat.reduceAdd, hK_pI, hL_pI, hI_pI, hR_pI, hJ_pI, hT_pI, hS_pI, hK_pR, hL_pR, hI_pR, hR_pR, hJ_pR, hT_pR, hS_pR, hK_pJ, hL_pJ, hI_pJ, hR_pJ, hJ_pJ, hT_pJ, hS_pJ, hK_wI, hL_wI, hI_wI, hR_wI, hJ_wI, hT_wI, hS_wI, eq_self, and_true, true_and, and_false, false_and, or_true, true_or, or_false, false_or, if_true, if_false, not_true_eq_false, not_false_eq_true, forall_const, implies_true, false_implies, true_implies, Option.some.injEq, forall_eq', exists_eq_left', reduceCtorEq, Nat.reduceEqDiff, c1, T_X12_in, T_X12_ones, T_X11_within, T_X11_bit, T_X11_isIn, T_X11_oneIfIn, T_J6_bitCount_0f7a4, cl_nI (show l < 2147483648 by omega), in_nI (show l < 17 by omega) (by decide)]
  exact hw
set_option maxRecDepth 100000 in
set_option maxHeartbeats 4000000 in
theorem ok_X12_oneLine : ctr 3 MX12_oneLine T_X12_oneLine := by
  refine ctr_of pn_X12 wc_X12_oneLine (fun av h Q hT => ?_)
  unfold T_X12_oneLine at hT
  split at hT
  · rename_i o
    refine ⟨⟨by simp [Value.category], Nat.le_of_ble_eq_true rfl⟩, s_X12_oneLine_0 Q _ _ _ ?_⟩
    obtain ⟨rfl, hl, B, L, J, M, t, k, hs, hk, hk5, hq⟩ := hT
    have e46 : hI h 44 46 = nI k := (hs.M (a := 44) (i := 46) (Or.inr (by decide))).trans hk
    have e39 : hI h 44 39 = nI (bgT B L t) := hs.2.2.1
    have k16 : (16 : Int32) = nI 16 := rfl
    have hkk := (lm_k hl).1
    have htt := (lm_t hl).1
    have h18 : ∀ v l, (l = if k < 16 then k else 16) → v = nI l → wp 3 MX12_oneLine Q 18 [some (.ref 44), none, none, none] [.int v] h := by
      intro v l hl16 hv
      subst hv
      have hmm : k = 16 → T_X12_tooMany [.ref 44, .int (nI (bgT B L t))] h (fun r h' => wp 3 MX12_oneLine Q 36 [some (.ref 44), some (.int (nI l)), none, none] (r.toList ++ []) h') := fun e => sim_many (h := h) hl hs (fun f' hs' => ol_36 Q h hl B L J (pMany M (nI (bgT B L t))) M t k l hl16 f' _ hs' (by unfold pM0; rw [if_pos e, ← hl16]) hk hq)
      have hno : ¬ k = 16 → wp 3 MX12_oneLine Q 36 [some (.ref 44), some (.int (nI l)), none, none] [] h := fun e => ol_36 Q h hl B L J M M t k l hl16 (hI h) (hJ h) hs (by unfold pM0; rw [if_neg e, ← hl16]) hk hq
      refine s_X12_oneLine_18 Q _ _ _ ?_
      simp only [b_X12_oneLine_18, i_push, i_ild, i_ald, i_ist, i_ast, i_inc, i_bin, i_un, i_divs, i_i2l, i_lshl, i_lor, i_dup, i_dup2, i_pop, i_if, i_cmp, i_nul, i_vret, i_iret, i_zret, i_aret, i_keep, keep, lget, lset, ent, i_getI, i_getJ, i_getR, i_getN, i_putI, i_putZ, i_putJ, i_putR, i_iald, i_bald, i_alen, i_aald, i_iast, i_bast, i_aast, i_new, i_newa, i_anew, i_oini, i_callS, i_callV, i_callI, popn, sh4, i_sw, swP, i_copy, i_binS, List.map, Option.toList_none, Option.toList_some, List.append, List.nil_append, List.cons_append, List.length_cons, List.length_nil, List.replicate, Nat.sub_self, Nat.reduceSub, Nat.reduceAdd, hK_pI, hL_pI, hI_pI, hR_pI, hJ_pI, hT_pI, hS_pI, hK_pR, hL_pR, hI_pR, hR_pR, hJ_pR, hT_pR, hS_pR, hK_pJ, hL_pJ, hI_pJ, hR_pJ, hJ_pJ, hT_pJ, hS_pJ, hK_wI, hL_wI, hI_wI, hR_wI, hJ_wI, hT_wI, hS_wI, eq_self, and_true, true_and, and_false, false_and, or_true, true_or, or_false, false_or, if_true, if_false, not_true_eq_false, not_false_eq_true, forall_const, implies_true, false_implies, true_implies, Option.some.injEq, forall_eq', exists_eq_left', reduceCtorEq, Nat.reduceEqDiff, c1, T_X12_in, T_X12_ones, T_X11_within, T_X11_bit, T_X11_isIn, T_X11_oneIfIn, T_J6_bitCount_0f7a4, hkk, htt, e46, e39]
      rw [k16, nI_eq (by omega) (by decide)]
      exact ⟨hmm, hno⟩
    simp only [MX12_oneLine, b_X12_oneLine_0, i_push, i_ild, i_ald, i_ist, i_ast, i_inc, i_bin, i_un, i_divs, i_i2l, i_lshl, i_lor, i_dup, i_dup2, i_pop, i_if, i_cmp, i_nul, i_vret, i_iret, i_zret, i_aret, i_keep, keep, lget, lset, ent, i_getI, i_getJ, i_getR, i_getN, i_putI, i_putZ, i_putJ, i_putR, i_iald, i_bald, i_alen, i_aald, i_iast, i_bast, i_aast, i_new, i_newa, i_anew, i_oini, i_callS, i_callV, i_callI, popn, sh4, i_sw, swP, i_copy, i_binS, List.map, Option.toList_none, Option.toList_some, List.append, List.nil_append, List.cons_append, List.length_cons, List.length_nil, List.replicate, Nat.sub_self, Nat.reduceSub, Nat.reduceAdd, hK_pI, hL_pI, hI_pI, hR_pI, hJ_pI, hT_pI, hS_pI, hK_pR, hL_pR, hI_pR, hR_pR, hJ_pR, hT_pR, hS_pR, hK_pJ, hL_pJ, hI_pJ, hR_pJ, hJ_pJ, hT_pJ, hS_pJ, hK_wI, hL_wI, hI_wI, hR_wI, hJ_wI, hT_wI, hS_wI, eq_self, and_true, true_and, and_false, false_and, or_true, true_or, or_false, false_or, if_true, if_false, not_true_eq_false, not_false_eq_true, forall_const, implies_true, false_implies, true_implies, Option.some.injEq, forall_eq', exists_eq_left', reduceCtorEq, Nat.reduceEqDiff, c1, T_X12_in, T_X12_ones, T_X11_within, T_X11_bit, T_X11_isIn, T_X11_oneIfIn, T_J6_bitCount_0f7a4, hkk, htt, e46]
    rw [k16, nI_leI (by decide) (by omega)]
    refine ⟨fun c => h18 _ 16 (by rw [if_neg (by omega)]) rfl, fun c => h18 _ k (by rw [if_pos (by omega)]) rfl⟩
  · exact hT.elim
