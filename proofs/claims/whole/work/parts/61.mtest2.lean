/-! ===== the reference: test ===== -/
noncomputable def pT2 (B : Nat → Int32) (L l n : Nat) (M : Mem) (nt : Int32) (t1 : Nat) : Bool × Mem × Nat :=
  if 262 ≤ K B L t1 ∧ K B L t1 ≤ 268 then
    if K B L (t1 + 1) = 60 ∨ K B L (t1 + 1) = 62 ∨ K B L (t1 + 1) = 61 then
      if K B L (t1 + 2) = 2 then (true, pWr M l n (if nt = 0 then K B L t1 - 262 else K B L t1 - 262 + 16) (K B L (t1 + 1)) (V B L (t1 + 2)), t1 + 3)
      else (false, pFail M (nI (bgT B L (t1 + 2))), t1 + 2)
    else (false, pFail M (nI (bgT B L (t1 + 1))), t1 + 1)
  else if 269 ≤ K B L t1 ∧ K B L t1 ≤ 271 then (true, pWr M l n (if nt = 0 then K B L t1 - 262 else K B L t1 - 262 + 16) 61 1, t1 + 1)
  else (false, pFail M (nI (bgT B L t1)), t1)
theorem pT_eq (B : Nat → Int32) (L l n : Nat) (M : Mem) (t : Nat) : pT B L l n M t = pT2 B L l n (if n = 4 then pMany M (nI (bgT B L t)) else M) (if K B L t = 258 then 1 else 0) (t1T B L t) := by
  unfold pT pT2 wT
  by_cases c : K B L t = 258
  · simp only [if_pos c, show ¬ (1 : Int32) = 0 by decide, if_false]
  · simp only [if_neg c, if_true]
theorem i_rng {x : Int32} {a b : Nat} (ha : b < 1000) (h1 : nI a ≤ x) (h2 : x ≤ nI b) (hab : a < 1000) : ∃ m, a ≤ m ∧ m ≤ b ∧ x = nI m := by
  have h0 : ¬ x < 0 := fun z => by
    have h3 := Int32.le_iff_toInt_le.mp h1
    have h4 := Int32.lt_iff_toInt_lt.mp z
    rw [nI_toInt (by omega)] at h3
    have h5 : (0 : Int32).toInt = 0 := by decide
    omega
  obtain ⟨m, hm, rfl⟩ := nI_of h0
  rw [nI_leI (by omega) (by omega)] at h1 h2
  exact ⟨m, h1, h2, rfl⟩
theorem nI_sub {a b : Nat} (h : b ≤ a) : nI a - nI b = nI (a - b) := by
  have : nI a = nI (a - b) + nI b := by rw [nI_add, Nat.sub_add_cancel h]
  rw [this, Int32.add_sub_cancel]
set_option maxRecDepth 100000 in
set_option maxHeartbeats 400000 in
theorem ts_174 (Q : Option Value → Hp → Prop) (h : Hp) (hl0 : LayM h) (B : Nat → Int32) (L : Nat) (J : Nat → Nat → Int64) (M : Mem) (t l n : Nat) (hl16 : l ≤ 16) (hn : n ≤ 501) (nt v : Int32) (f : Mem) (g : Nat → Nat → Int64) (hs : SIM B L J f g M t)
    (hv : (∃ j, j < 10 ∧ K B L t = nI (262 + j) ∧ v = nI j) ∨ ((∀ j, j < 10 → ¬ K B L t = nI (262 + j)) ∧ v = -1))
    (hq : ∀ f g, SIM B L J f g (pT2 B L l n M nt t).2.1 (pT2 B L l n M nt t).2.2 → Q (some (.int (if (pT2 B L l n M nt t).1 = true then 1 else 0))) (wIJ h f g)) :
    wp 2 MX12_test Q 174 [some (.ref 44), some (.int (nI l)), some (.int (nI n)), some (.int nt), none, none, none, none] [.int v] (wIJ h f g) := by
  have hl : LayM (wIJ h f g) := hl0
  have k262 : (262 : Int32) = nI 262 := rfl
  have k268 : (268 : Int32) = nI 268 := rfl
  have k269 : (269 : Int32) = nI 269 := rfl
  have k271 : (271 : Int32) = nI 271 := rfl
  rcases hv with ⟨j, hj, hK, rfl⟩ | ⟨hno, rfl⟩
  · have eK : K B L t - 262 = nI j := by rw [hK, k262, nI_sub (by omega), show 262 + j - 262 = j by omega]
    by_cases j7 : j < 7
    · have c1 : 262 ≤ K B L t ∧ K B L t ≤ 268 := by rw [hK, k262, k268, nI_leI (by omega) (by omega), nI_leI (by omega) (by omega)]; omega
      unfold pT2 at hq
      rw [if_pos c1, eK] at hq
      have hnx : T_X12_next [.ref 44] (wIJ h f g) (fun r h' => c_X12_test_191 Q [some (.ref 44), some (.int (nI l)), some (.int (nI n)), some (.int nt), some (.int (nI j)), none, none, none] (r.toList ++ []) h') := by
        refine sim_next hl0 hs (fun f' g' hs' => ?_)
        show c_X12_test_191 Q _ [] _
        have hl' : LayM (wIJ h f' g') := hl0
        have h40 : hI (wIJ h f' g') 44 40 = tkO B L (bgT B L (t + 1)) := hs'.2.2.2.1
        have h41 : hI (wIJ h f' g') 44 41 = tkV B L (bgT B L (t + 1)) := hs'.2.2.2.2.1
        have hsg : ∀ c, isSg c → ((tkO B L (bgT B L (t + 1)) = 4 ∧ tkV B L (bgT B L (t + 1)) = c) ↔ K B L (t + 1) = c) := fun c hc => Kd_sign B L _ hc
        have h240 : ¬ (K B L (t + 1) = 60 ∨ K B L (t + 1) = 62 ∨ K B L (t + 1) = 61) → wp 2 MX12_test Q 240 [some (.ref 44), none, none, none, none, none, none, none] [] (wIJ h f' g') := by
          intro c2
          rw [if_neg c2] at hq
          have hw := sim_wrong (h := h) hl0 hs' (Q := fun r h' => match r.toList ++ [] with | [.int x] => (x = 0 ∨ x = 1) ∧ Q (some (.int x)) h' | _ => False) (fun f'' hs'' => ⟨Or.inl rfl, hq f'' g' hs''⟩)
          refine s_X12_test_240 Q _ _ _ ?_
          generalize wIJ h f' g' = H at hl' hw ⊢
          have hkk := (lm_k hl').1
          have htt := (lm_t hl').1
          simp only [b_X12_test_240, i_push, i_ild, i_ald, i_ist, i_ast, i_inc, i_bin, i_un, i_divs, i_i2l, i_lshl, i_lor, i_dup, i_dup2, i_pop, i_if, i_cmp, i_nul, i_vret, i_iret, i_zret, i_aret, i_keep, keep, lget, lset, ent, i_getI, i_getJ, i_getR, i_getN, i_putI, i_putZ, i_putJ, i_putR, i_iald, i_bald, i_alen, i_aald, i_iast, i_bast, i_aast, i_new, i_newa, i_anew, i_oini, i_callS, i_callV, i_callI, popn, sh4, i_sw, swP, i_copy, i_binS, List.map, Option.toList_none, Option.toList_some, List.append, List.nil_append, List.cons_append, List.length_cons, List.length_nil, List.replicate, Nat.sub_self, Nat.reduceSub, Nat.reduceAdd, hK_pI, hL_pI, hI_pI, hR_pI, hJ_pI, hT_pI, hS_pI, hK_pR, hL_pR, hI_pR, hR_pR, hJ_pR, hT_pR, hS_pR, hK_pJ, hL_pJ, hI_pJ, hR_pJ, hJ_pJ, hT_pJ, hS_pJ, hK_wI, hL_wI, hI_wI, hR_wI, hJ_wI, hT_wI, hS_wI, eq_self, and_true, true_and, and_false, false_and, or_true, true_or, or_false, false_or, if_true, if_false, not_true_eq_false, not_false_eq_true, forall_const, implies_true, false_implies, true_implies, Option.some.injEq, forall_eq', exists_eq_left', reduceCtorEq, Nat.reduceEqDiff, c1, T_X12_in, T_X12_ones, T_X11_within, T_X11_bit, T_X11_isIn, T_X11_oneIfIn, T_J6_bitCount_0f7a4, hkk, htt]
          exact hw
        have h245 : ∀ sv, (sv = K B L (t + 1)) → (K B L (t + 1) = 60 ∨ K B L (t + 1) = 62 ∨ K B L (t + 1) = 61) → wp 2 MX12_test Q 245 [some (.ref 44), some (.int (nI l)), some (.int (nI n)), some (.int nt), some (.int (nI j)), some (.int sv), none, none] [] (wIJ h f' g') := by
          intro sv hsv c2
          rw [if_pos c2] at hq
          have hnx2 : T_X12_next [.ref 44] (wIJ h f' g') (fun r h' => c_X12_test_249 Q [some (.ref 44), some (.int (nI l)), some (.int (nI n)), some (.int nt), some (.int (nI j)), some (.int sv), none, none] (r.toList ++ []) h') := by
            refine sim_next hl0 hs' (fun f2 g2 hs2 => ?_)
            show c_X12_test_249 Q _ [] _
            have hl2 : LayM (wIJ h f2 g2) := hl0
            have h40 : hI (wIJ h f2 g2) 44 40 = tkO B L (bgT B L (t + 1 + 1)) := hs2.2.2.2.1
            have h41 : hI (wIJ h f2 g2) 44 41 = V B L (t + 2) := hs2.2.2.2.2.1
            have hnum : tkO B L (bgT B L (t + 1 + 1)) = 3 ↔ K B L (t + 2) = 2 := Kd_num B L _
            have hnx3 : K B L (t + 2) = 2 → T_X12_next [.ref 44] (wIJ h f2 g2) (fun r h' => wp 2 MX12_test Q 272 [some (.ref 44), some (.int (nI l)), some (.int (nI n)), some (.int nt), some (.int (nI j)), some (.int sv), some (.int (V B L (t + 2))), none] (r.toList ++ []) h') := by
              intro c3
              rw [if_pos c3] at hq
              refine sim_next hl0 hs2 (fun f3 g3 hs3 => ?_)
              show wp 2 MX12_test Q 272 _ [] _
              refine ts_272 Q h hl0 B L J M (t + 3) l n hl16 hn nt (nI j) sv (V B L (t + 2)) f3 g3 hs3 (fun f4 g4 hs4 => ?_)
              rw [hsv] at hs4
              exact hq f4 g4 hs4
            have hw : ¬ K B L (t + 2) = 2 → _ := fun c3 => sim_wrong (h := h) hl0 hs2 (Q := fun r h' => match r.toList ++ [] with | [.int x] => (x = 0 ∨ x = 1) ∧ Q (some (.int x)) h' | _ => False) (fun f3 hs3 => ⟨Or.inl rfl, by rw [if_neg c3] at hq; exact hq f3 g2 hs3⟩)
            generalize wIJ h f2 g2 = H at hl2 h40 h41 hnx3 hw ⊢
            have hkk := (lm_k hl2).1
            have htt := (lm_t hl2).1
            simp only [c_X12_test_249, i_push, i_ild, i_ald, i_ist, i_ast, i_inc, i_bin, i_un, i_divs, i_i2l, i_lshl, i_lor, i_dup, i_dup2, i_pop, i_if, i_cmp, i_nul, i_vret, i_iret, i_zret, i_aret, i_keep, keep, lget, lset, ent, i_getI, i_getJ, i_getR, i_getN, i_putI, i_putZ, i_putJ, i_putR, i_iald, i_bald, i_alen, i_aald, i_iast, i_bast, i_aast, i_new, i_newa, i_anew, i_oini, i_callS, i_callV, i_callI, popn, sh4, i_sw, swP, i_copy, i_binS, List.map, Option.toList_none, Option.toList_some, List.append, List.nil_append, List.cons_append, List.length_cons, List.length_nil, List.replicate, Nat.sub_self, Nat.reduceSub, Nat.reduceAdd, hK_pI, hL_pI, hI_pI, hR_pI, hJ_pI, hT_pI, hS_pI, hK_pR, hL_pR, hI_pR, hR_pR, hJ_pR, hT_pR, hS_pR, hK_pJ, hL_pJ, hI_pJ, hR_pJ, hJ_pJ, hT_pJ, hS_pJ, hK_wI, hL_wI, hI_wI, hR_wI, hJ_wI, hT_wI, hS_wI, eq_self, and_true, true_and, and_false, false_and, or_true, true_or, or_false, false_or, if_true, if_false, not_true_eq_false, not_false_eq_true, forall_const, implies_true, false_implies, true_implies, Option.some.injEq, forall_eq', exists_eq_left', reduceCtorEq, Nat.reduceEqDiff, c1, T_X12_in, T_X12_ones, T_X11_within, T_X11_bit, T_X11_isIn, T_X11_oneIfIn, T_J6_bitCount_0f7a4, hkk, htt, h40, h41]
            exact ⟨fun c3 => hnx3 (hnum.mp c3), fun c3 => hw (fun z => c3 (hnum.mpr z))⟩
          refine s_X12_test_245 Q _ _ _ ?_
          generalize wIJ h f' g' = H at hl' hnx2 ⊢
          have hkk := (lm_k hl').1
          have htt := (lm_t hl').1
          simp only [b_X12_test_245, i_push, i_ild, i_ald, i_ist, i_ast, i_inc, i_bin, i_un, i_divs, i_i2l, i_lshl, i_lor, i_dup, i_dup2, i_pop, i_if, i_cmp, i_nul, i_vret, i_iret, i_zret, i_aret, i_keep, keep, lget, lset, ent, i_getI, i_getJ, i_getR, i_getN, i_putI, i_putZ, i_putJ, i_putR, i_iald, i_bald, i_alen, i_aald, i_iast, i_bast, i_aast, i_new, i_newa, i_anew, i_oini, i_callS, i_callV, i_callI, popn, sh4, i_sw, swP, i_copy, i_binS, List.map, Option.toList_none, Option.toList_some, List.append, List.nil_append, List.cons_append, List.length_cons, List.length_nil, List.replicate, Nat.sub_self, Nat.reduceSub, Nat.reduceAdd, hK_pI, hL_pI, hI_pI, hR_pI, hJ_pI, hT_pI, hS_pI, hK_pR, hL_pR, hI_pR, hR_pR, hJ_pR, hT_pR, hS_pR, hK_pJ, hL_pJ, hI_pJ, hR_pJ, hJ_pJ, hT_pJ, hS_pJ, hK_wI, hL_wI, hI_wI, hR_wI, hJ_wI, hT_wI, hS_wI, eq_self, and_true, true_and, and_false, false_and, or_true, true_or, or_false, false_or, if_true, if_false, not_true_eq_false, not_false_eq_true, forall_const, implies_true, false_implies, true_implies, Option.some.injEq, forall_eq', exists_eq_left', reduceCtorEq, Nat.reduceEqDiff, c1, T_X12_in, T_X12_ones, T_X11_within, T_X11_bit, T_X11_isIn, T_X11_oneIfIn, T_J6_bitCount_0f7a4, hkk, htt]
          exact hnx2
        have j7' : ¬ (7 : Int32) ≤ nI j := nI_ge (b := 7) j7 (by decide)
        generalize wIJ h f' g' = H at hl' h40 h41 h240 h245 ⊢
        have hkk := (lm_k hl').1
        have htt := (lm_t hl').1
        simp only [c_X12_test_191, i_push, i_ild, i_ald, i_ist, i_ast, i_inc, i_bin, i_un, i_divs, i_i2l, i_lshl, i_lor, i_dup, i_dup2, i_pop, i_if, i_cmp, i_nul, i_vret, i_iret, i_zret, i_aret, i_keep, keep, lget, lset, ent, i_getI, i_getJ, i_getR, i_getN, i_putI, i_putZ, i_putJ, i_putR, i_iald, i_bald, i_alen, i_aald, i_iast, i_bast, i_aast, i_new, i_newa, i_anew, i_oini, i_callS, i_callV, i_callI, popn, sh4, i_sw, swP, i_copy, i_binS, List.map, Option.toList_none, Option.toList_some, List.append, List.nil_append, List.cons_append, List.length_cons, List.length_nil, List.replicate, Nat.sub_self, Nat.reduceSub, Nat.reduceAdd, hK_pI, hL_pI, hI_pI, hR_pI, hJ_pI, hT_pI, hS_pI, hK_pR, hL_pR, hI_pR, hR_pR, hJ_pR, hT_pR, hS_pR, hK_pJ, hL_pJ, hI_pJ, hR_pJ, hJ_pJ, hT_pJ, hS_pJ, hK_wI, hL_wI, hI_wI, hR_wI, hJ_wI, hT_wI, hS_wI, eq_self, and_true, true_and, and_false, false_and, or_true, true_or, or_false, false_or, if_true, if_false, not_true_eq_false, not_false_eq_true, forall_const, implies_true, false_implies, true_implies, Option.some.injEq, forall_eq', exists_eq_left', reduceCtorEq, Nat.reduceEqDiff, c1, T_X12_in, T_X12_ones, T_X11_within, T_X11_bit, T_X11_isIn, T_X11_oneIfIn, T_J6_bitCount_0f7a4, hkk, htt, h40, h41, j7']
        refine ⟨fun c4 => ⟨fun c => ?_, fun n1 => ⟨fun c => ?_, fun n2 => ⟨fun c => ?_, fun n3 => ?_⟩⟩⟩, fun c4 => ?_⟩
        · have e := (hsg 60 (by unfold isSg; decide)).mp ⟨c4, c⟩
          exact h245 _ (c.trans e.symm) (Or.inl e)
        · have e := (hsg 62 (by unfold isSg; decide)).mp ⟨c4, c⟩
          exact h245 _ (c.trans e.symm) (Or.inr (Or.inl e))
        · have e := (hsg 61 (by unfold isSg; decide)).mp ⟨c4, c⟩
          exact h245 _ (c.trans e.symm) (Or.inr (Or.inr e))
        · refine h240 ?_
          rintro (e | e | e)
          · exact n1 ((hsg 60 (by unfold isSg; decide)).mpr e).2
          · exact n2 ((hsg 62 (by unfold isSg; decide)).mpr e).2
          · exact n3 ((hsg 61 (by unfold isSg; decide)).mpr e).2
        · refine h240 ?_
          rintro (e | e | e)
          · exact c4 ((hsg 60 (by unfold isSg; decide)).mpr e).1
          · exact c4 ((hsg 62 (by unfold isSg; decide)).mpr e).1
          · exact c4 ((hsg 61 (by unfold isSg; decide)).mpr e).1
      have jm : ¬ nI j = -1 := nI_m1 j (by omega)
      refine s_X12_test_174 Q _ _ _ ?_
      generalize wIJ h f g = H at hl hnx ⊢
      have hkk := (lm_k hl).1
      have htt := (lm_t hl).1
      simp only [b_X12_test_174, i_push, i_ild, i_ald, i_ist, i_ast, i_inc, i_bin, i_un, i_divs, i_i2l, i_lshl, i_lor, i_dup, i_dup2, i_pop, i_if, i_cmp, i_nul, i_vret, i_iret, i_zret, i_aret, i_keep, keep, lget, lset, ent, i_getI, i_getJ, i_getR, i_getN, i_putI, i_putZ, i_putJ, i_putR, i_iald, i_bald, i_alen, i_aald, i_iast, i_bast, i_aast, i_new, i_newa, i_anew, i_oini, i_callS, i_callV, i_callI, popn, sh4, i_sw, swP, i_copy, i_binS, List.map, Option.toList_none, Option.toList_some, List.append, List.nil_append, List.cons_append, List.length_cons, List.length_nil, List.replicate, Nat.sub_self, Nat.reduceSub, Nat.reduceAdd, hK_pI, hL_pI, hI_pI, hR_pI, hJ_pI, hT_pI, hS_pI, hK_pR, hL_pR, hI_pR, hR_pR, hJ_pR, hT_pR, hS_pR, hK_pJ, hL_pJ, hI_pJ, hR_pJ, hJ_pJ, hT_pJ, hS_pJ, hK_wI, hL_wI, hI_wI, hR_wI, hJ_wI, hT_wI, hS_wI, eq_self, and_true, true_and, and_false, false_and, or_true, true_or, or_false, false_or, if_true, if_false, not_true_eq_false, not_false_eq_true, forall_const, implies_true, false_implies, true_implies, Option.some.injEq, forall_eq', exists_eq_left', reduceCtorEq, Nat.reduceEqDiff, c1, T_X12_in, T_X12_ones, T_X11_within, T_X11_bit, T_X11_isIn, T_X11_oneIfIn, T_J6_bitCount_0f7a4, hkk, htt, jm]
      exact hnx
    · have c1 : ¬ (262 ≤ K B L t ∧ K B L t ≤ 268) := by rw [hK, k262, k268, nI_leI (by omega) (by omega), nI_leI (by omega) (by omega)]; omega
      have c2 : 269 ≤ K B L t ∧ K B L t ≤ 271 := by rw [hK, k269, k271, nI_leI (by omega) (by omega), nI_leI (by omega) (by omega)]; omega
      unfold pT2 at hq
      rw [if_neg c1, if_pos c2, eK] at hq
      have hnx : T_X12_next [.ref 44] (wIJ h f g) (fun r h' => c_X12_test_191 Q [some (.ref 44), some (.int (nI l)), some (.int (nI n)), some (.int nt), some (.int (nI j)), none, none, none] (r.toList ++ []) h') := by
        refine sim_next hl0 hs (fun f' g' hs' => ?_)
        show c_X12_test_191 Q _ [] _
        have h272 := ts_272 Q h hl0 B L J M (t + 1) l n hl16 hn nt (nI j) 61 1 f' g' hs' hq
        have j7' : (7 : Int32) ≤ nI j := nI_le (a := 7) (by omega) (by omega)
        generalize wIJ h f' g' = H at h272 ⊢
        simp only [c_X12_test_191, i_push, i_ild, i_ald, i_ist, i_ast, i_inc, i_bin, i_un, i_divs, i_i2l, i_lshl, i_lor, i_dup, i_dup2, i_pop, i_if, i_cmp, i_nul, i_vret, i_iret, i_zret, i_aret, i_keep, keep, lget, lset, ent, i_getI, i_getJ, i_getR, i_getN, i_putI, i_putZ, i_putJ, i_putR, i_iald, i_bald, i_alen, i_aald, i_iast, i_bast, i_aast, i_new, i_newa, i_anew, i_oini, i_callS, i_callV, i_callI, popn, sh4, i_sw, swP, i_copy, i_binS, List.map, Option.toList_none, Option.toList_some, List.append, List.nil_append, List.cons_append, List.length_cons, List.length_nil, List.replicate, Nat.sub_self, Nat.reduceSub, Nat.reduceAdd, hK_pI, hL_pI, hI_pI, hR_pI, hJ_pI, hT_pI, hS_pI, hK_pR, hL_pR, hI_pR, hR_pR, hJ_pR, hT_pR, hS_pR, hK_pJ, hL_pJ, hI_pJ, hR_pJ, hJ_pJ, hT_pJ, hS_pJ, hK_wI, hL_wI, hI_wI, hR_wI, hJ_wI, hT_wI, hS_wI, eq_self, and_true, true_and, and_false, false_and, or_true, true_or, or_false, false_or, if_true, if_false, not_true_eq_false, not_false_eq_true, forall_const, implies_true, false_implies, true_implies, Option.some.injEq, forall_eq', exists_eq_left', reduceCtorEq, Nat.reduceEqDiff, c1, T_X12_in, T_X12_ones, T_X11_within, T_X11_bit, T_X11_isIn, T_X11_oneIfIn, T_J6_bitCount_0f7a4, j7']
        exact h272
      have jm : ¬ nI j = -1 := nI_m1 j (by omega)
      refine s_X12_test_174 Q _ _ _ ?_
      generalize wIJ h f g = H at hl hnx ⊢
      have hkk := (lm_k hl).1
      have htt := (lm_t hl).1
      simp only [b_X12_test_174, i_push, i_ild, i_ald, i_ist, i_ast, i_inc, i_bin, i_un, i_divs, i_i2l, i_lshl, i_lor, i_dup, i_dup2, i_pop, i_if, i_cmp, i_nul, i_vret, i_iret, i_zret, i_aret, i_keep, keep, lget, lset, ent, i_getI, i_getJ, i_getR, i_getN, i_putI, i_putZ, i_putJ, i_putR, i_iald, i_bald, i_alen, i_aald, i_iast, i_bast, i_aast, i_new, i_newa, i_anew, i_oini, i_callS, i_callV, i_callI, popn, sh4, i_sw, swP, i_copy, i_binS, List.map, Option.toList_none, Option.toList_some, List.append, List.nil_append, List.cons_append, List.length_cons, List.length_nil, List.replicate, Nat.sub_self, Nat.reduceSub, Nat.reduceAdd, hK_pI, hL_pI, hI_pI, hR_pI, hJ_pI, hT_pI, hS_pI, hK_pR, hL_pR, hI_pR, hR_pR, hJ_pR, hT_pR, hS_pR, hK_pJ, hL_pJ, hI_pJ, hR_pJ, hJ_pJ, hT_pJ, hS_pJ, hK_wI, hL_wI, hI_wI, hR_wI, hJ_wI, hT_wI, hS_wI, eq_self, and_true, true_and, and_false, false_and, or_true, true_or, or_false, false_or, if_true, if_false, not_true_eq_false, not_false_eq_true, forall_const, implies_true, false_implies, true_implies, Option.some.injEq, forall_eq', exists_eq_left', reduceCtorEq, Nat.reduceEqDiff, c1, T_X12_in, T_X12_ones, T_X11_within, T_X11_bit, T_X11_isIn, T_X11_oneIfIn, T_J6_bitCount_0f7a4, hkk, htt, jm]
      exact hnx
  · have c1 : ¬ (262 ≤ K B L t ∧ K B L t ≤ 268) := fun z => by
      obtain ⟨m, h1, h2, e⟩ := i_rng (a := 262) (b := 268) (by decide) z.1 z.2 (by decide)
      exact hno (m - 262) (by omega) (by rw [show 262 + (m - 262) = m by omega]; exact e)
    have c2 : ¬ (269 ≤ K B L t ∧ K B L t ≤ 271) := fun z => by
      obtain ⟨m, h1, h2, e⟩ := i_rng (a := 269) (b := 271) (by decide) z.1 z.2 (by decide)
      exact hno (m - 262) (by omega) (by rw [show 262 + (m - 262) = m by omega]; exact e)
    unfold pT2 at hq
    rw [if_neg c1, if_neg c2] at hq
    have hw := sim_wrong (h := h) hl0 hs (Q := fun r h' => match r.toList ++ [] with | [.int x] => (x = 0 ∨ x = 1) ∧ Q (some (.int x)) h' | _ => False) (fun f'' hs'' => ⟨Or.inl rfl, hq f'' g hs''⟩)
    refine s_X12_test_174 Q _ _ _ ?_
    generalize wIJ h f g = H at hl hw ⊢
    have hkk := (lm_k hl).1
    have htt := (lm_t hl).1
    simp only [b_X12_test_174, i_push, i_ild, i_ald, i_ist, i_ast, i_inc, i_bin, i_un, i_divs, i_i2l, i_lshl, i_lor, i_dup, i_dup2, i_pop, i_if, i_cmp, i_nul, i_vret, i_iret, i_zret, i_aret, i_keep, keep, lget, lset, ent, i_getI, i_getJ, i_getR, i_getN, i_putI, i_putZ, i_putJ, i_putR, i_iald, i_bald, i_alen, i_aald, i_iast, i_bast, i_aast, i_new, i_newa, i_anew, i_oini, i_callS, i_callV, i_callI, popn, sh4, i_sw, swP, i_copy, i_binS, List.map, Option.toList_none, Option.toList_some, List.append, List.nil_append, List.cons_append, List.length_cons, List.length_nil, List.replicate, Nat.sub_self, Nat.reduceSub, Nat.reduceAdd, hK_pI, hL_pI, hI_pI, hR_pI, hJ_pI, hT_pI, hS_pI, hK_pR, hL_pR, hI_pR, hR_pR, hJ_pR, hT_pR, hS_pR, hK_pJ, hL_pJ, hI_pJ, hR_pJ, hJ_pJ, hT_pJ, hS_pJ, hK_wI, hL_wI, hI_wI, hR_wI, hJ_wI, hT_wI, hS_wI, eq_self, and_true, true_and, and_false, false_and, or_true, true_or, or_false, false_or, if_true, if_false, not_true_eq_false, not_false_eq_true, forall_const, implies_true, false_implies, true_implies, Option.some.injEq, forall_eq', exists_eq_left', reduceCtorEq, Nat.reduceEqDiff, c1, T_X12_in, T_X12_ones, T_X11_within, T_X11_bit, T_X11_isIn, T_X11_oneIfIn, T_J6_bitCount_0f7a4, hkk, htt]
    exact hw
set_option maxRecDepth 100000 in
set_option maxHeartbeats 400000 in
theorem ts_29 (Q : Option Value → Hp → Prop) (h : Hp) (hl0 : LayM h) (B : Nat → Int32) (L : Nat) (J : Nat → Nat → Int64) (M : Mem) (t l n : Nat) (hl16 : l ≤ 16) (hn : n ≤ 501) (nt : Int32) (f : Mem) (g : Nat → Nat → Int64) (hs : SIM B L J f g M t)
    (hq : ∀ f g, SIM B L J f g (pT2 B L l n M nt t).2.1 (pT2 B L l n M nt t).2.2 → Q (some (.int (if (pT2 B L l n M nt t).1 = true then 1 else 0))) (wIJ h f g)) :
    wp 2 MX12_test Q 29 [some (.ref 44), some (.int (nI l)), some (.int (nI n)), some (.int nt), none, none, none, none] [] (wIJ h f g) := by
  have hl : LayM (wIJ h f g) := hl0
  have h174 := fun v hv => ts_174 Q h hl0 B L J M t l n hl16 hn nt v f g hs hv hq
  have hkk := (lm_k hl).1
  have htt := (lm_t hl).1
  have one : ¬ (1 : Int32) = 0 := by decide
  have hc9 : ¬ K B L t = nI 262 → ¬ K B L t = nI 263 → ¬ K B L t = nI 264 → ¬ K B L t = nI 265 → ¬ K B L t = nI 266 → ¬ K B L t = nI 267 → ¬ K B L t = nI 268 → ¬ K B L t = nI 269 → ¬ K B L t = nI 270 → T_X12_isWord [.ref 44, .long 1751478885] (wIJ h f g) (fun r h' => c_X12_test_165 Q [some (.ref 44), some (.int (nI l)), some (.int (nI n)), some (.int nt), none, none, none, none] (r.toList ++ []) h') := by
    intro n0 n1 n2 n3 n4 n5 n6 n7 n8
    refine sim_word hl0 hs 15 (by decide) (by decide +kernel) (fun e => ?_) (fun e => ?_)
    · have hgo := h174 (nI 9) (Or.inl ⟨9, by decide, e, rfl⟩)
      show c_X12_test_165 Q _ [.int 1] _
      generalize wIJ h f g = H at hkk htt hgo ⊢
      simp only [c_X12_test_165, i_push, i_ild, i_ald, i_ist, i_ast, i_inc, i_bin, i_un, i_divs, i_i2l, i_lshl, i_lor, i_dup, i_dup2, i_pop, i_if, i_cmp, i_nul, i_vret, i_iret, i_zret, i_aret, i_keep, keep, lget, lset, ent, i_getI, i_getJ, i_getR, i_getN, i_putI, i_putZ, i_putJ, i_putR, i_iald, i_bald, i_alen, i_aald, i_iast, i_bast, i_aast, i_new, i_newa, i_anew, i_oini, i_callS, i_callV, i_callI, popn, sh4, i_sw, swP, i_copy, i_binS, List.map, Option.toList_none, Option.toList_some, List.append, List.nil_append, List.cons_append, List.length_cons, List.length_nil, List.replicate, Nat.sub_self, Nat.reduceSub, Nat.reduceAdd, hK_pI, hL_pI, hI_pI, hR_pI, hJ_pI, hT_pI, hS_pI, hK_pR, hL_pR, hI_pR, hR_pR, hJ_pR, hT_pR, hS_pR, hK_pJ, hL_pJ, hI_pJ, hR_pJ, hJ_pJ, hT_pJ, hS_pJ, hK_wI, hL_wI, hI_wI, hR_wI, hJ_wI, hT_wI, hS_wI, eq_self, and_true, true_and, and_false, false_and, or_true, true_or, or_false, false_or, if_true, if_false, not_true_eq_false, not_false_eq_true, forall_const, implies_true, false_implies, true_implies, Option.some.injEq, forall_eq', exists_eq_left', reduceCtorEq, Nat.reduceEqDiff, c1, T_X12_in, T_X12_ones, T_X11_within, T_X11_bit, T_X11_isIn, T_X11_oneIfIn, T_J6_bitCount_0f7a4, hkk, htt, one]
      exact hgo
    · have hgo := h174 (-1) (Or.inr ⟨fun i hi => ?_, rfl⟩)
      · show c_X12_test_165 Q _ [.int 0] _
        generalize wIJ h f g = H at hkk htt hgo ⊢
        simp only [c_X12_test_165, i_push, i_ild, i_ald, i_ist, i_ast, i_inc, i_bin, i_un, i_divs, i_i2l, i_lshl, i_lor, i_dup, i_dup2, i_pop, i_if, i_cmp, i_nul, i_vret, i_iret, i_zret, i_aret, i_keep, keep, lget, lset, ent, i_getI, i_getJ, i_getR, i_getN, i_putI, i_putZ, i_putJ, i_putR, i_iald, i_bald, i_alen, i_aald, i_iast, i_bast, i_aast, i_new, i_newa, i_anew, i_oini, i_callS, i_callV, i_callI, popn, sh4, i_sw, swP, i_copy, i_binS, List.map, Option.toList_none, Option.toList_some, List.append, List.nil_append, List.cons_append, List.length_cons, List.length_nil, List.replicate, Nat.sub_self, Nat.reduceSub, Nat.reduceAdd, hK_pI, hL_pI, hI_pI, hR_pI, hJ_pI, hT_pI, hS_pI, hK_pR, hL_pR, hI_pR, hR_pR, hJ_pR, hT_pR, hS_pR, hK_pJ, hL_pJ, hI_pJ, hR_pJ, hJ_pJ, hT_pJ, hS_pJ, hK_wI, hL_wI, hI_wI, hR_wI, hJ_wI, hT_wI, hS_wI, eq_self, and_true, true_and, and_false, false_and, or_true, true_or, or_false, false_or, if_true, if_false, not_true_eq_false, not_false_eq_true, forall_const, implies_true, false_implies, true_implies, Option.some.injEq, forall_eq', exists_eq_left', reduceCtorEq, Nat.reduceEqDiff, c1, T_X12_in, T_X12_ones, T_X11_within, T_X11_bit, T_X11_isIn, T_X11_oneIfIn, T_J6_bitCount_0f7a4, hkk, htt]
        exact hgo
      · have : i = 0 ∨ i = 1 ∨ i = 2 ∨ i = 3 ∨ i = 4 ∨ i = 5 ∨ i = 6 ∨ i = 7 ∨ i = 8 ∨ i = 9 := by omega
        rcases this with rfl | rfl | rfl | rfl | rfl | rfl | rfl | rfl | rfl | rfl
        · exact n0
        · exact n1
        · exact n2
        · exact n3
        · exact n4
        · exact n5
        · exact n6
        · exact n7
        · exact n8
        · exact e
  have hc8 : ¬ K B L t = nI 262 → ¬ K B L t = nI 263 → ¬ K B L t = nI 264 → ¬ K B L t = nI 265 → ¬ K B L t = nI 266 → ¬ K B L t = nI 267 → ¬ K B L t = nI 268 → ¬ K B L t = nI 269 → T_X12_isWord [.ref 44, .long 109317276394099] (wIJ h f g) (fun r h' => c_X12_test_150 Q [some (.ref 44), some (.int (nI l)), some (.int (nI n)), some (.int nt), none, none, none, none] (r.toList ++ []) h') := by
    intro n0 n1 n2 n3 n4 n5 n6 n7
    refine sim_word hl0 hs 14 (by decide) (by decide +kernel) (fun e => ?_) (fun e => ?_)
    · have hgo := h174 (nI 8) (Or.inl ⟨8, by decide, e, rfl⟩)
      show c_X12_test_150 Q _ [.int 1] _
      generalize wIJ h f g = H at hkk htt hgo ⊢
      simp only [c_X12_test_150, i_push, i_ild, i_ald, i_ist, i_ast, i_inc, i_bin, i_un, i_divs, i_i2l, i_lshl, i_lor, i_dup, i_dup2, i_pop, i_if, i_cmp, i_nul, i_vret, i_iret, i_zret, i_aret, i_keep, keep, lget, lset, ent, i_getI, i_getJ, i_getR, i_getN, i_putI, i_putZ, i_putJ, i_putR, i_iald, i_bald, i_alen, i_aald, i_iast, i_bast, i_aast, i_new, i_newa, i_anew, i_oini, i_callS, i_callV, i_callI, popn, sh4, i_sw, swP, i_copy, i_binS, List.map, Option.toList_none, Option.toList_some, List.append, List.nil_append, List.cons_append, List.length_cons, List.length_nil, List.replicate, Nat.sub_self, Nat.reduceSub, Nat.reduceAdd, hK_pI, hL_pI, hI_pI, hR_pI, hJ_pI, hT_pI, hS_pI, hK_pR, hL_pR, hI_pR, hR_pR, hJ_pR, hT_pR, hS_pR, hK_pJ, hL_pJ, hI_pJ, hR_pJ, hJ_pJ, hT_pJ, hS_pJ, hK_wI, hL_wI, hI_wI, hR_wI, hJ_wI, hT_wI, hS_wI, eq_self, and_true, true_and, and_false, false_and, or_true, true_or, or_false, false_or, if_true, if_false, not_true_eq_false, not_false_eq_true, forall_const, implies_true, false_implies, true_implies, Option.some.injEq, forall_eq', exists_eq_left', reduceCtorEq, Nat.reduceEqDiff, c1, T_X12_in, T_X12_ones, T_X11_within, T_X11_bit, T_X11_isIn, T_X11_oneIfIn, T_J6_bitCount_0f7a4, hkk, htt, one]
      exact hgo
    · have hgo := hc9 n0 n1 n2 n3 n4 n5 n6 n7 e
      show c_X12_test_150 Q _ [.int 0] _
      generalize wIJ h f g = H at hkk htt hgo ⊢
      simp only [c_X12_test_150, i_push, i_ild, i_ald, i_ist, i_ast, i_inc, i_bin, i_un, i_divs, i_i2l, i_lshl, i_lor, i_dup, i_dup2, i_pop, i_if, i_cmp, i_nul, i_vret, i_iret, i_zret, i_aret, i_keep, keep, lget, lset, ent, i_getI, i_getJ, i_getR, i_getN, i_putI, i_putZ, i_putJ, i_putR, i_iald, i_bald, i_alen, i_aald, i_iast, i_bast, i_aast, i_new, i_newa, i_anew, i_oini, i_callS, i_callV, i_callI, popn, sh4, i_sw, swP, i_copy, i_binS, List.map, Option.toList_none, Option.toList_some, List.append, List.nil_append, List.cons_append, List.length_cons, List.length_nil, List.replicate, Nat.sub_self, Nat.reduceSub, Nat.reduceAdd, hK_pI, hL_pI, hI_pI, hR_pI, hJ_pI, hT_pI, hS_pI, hK_pR, hL_pR, hI_pR, hR_pR, hJ_pR, hT_pR, hS_pR, hK_pJ, hL_pJ, hI_pJ, hR_pJ, hJ_pJ, hT_pJ, hS_pJ, hK_wI, hL_wI, hI_wI, hR_wI, hJ_wI, hT_wI, hS_wI, eq_self, and_true, true_and, and_false, false_and, or_true, true_or, or_false, false_or, if_true, if_false, not_true_eq_false, not_false_eq_true, forall_const, implies_true, false_implies, true_implies, Option.some.injEq, forall_eq', exists_eq_left', reduceCtorEq, Nat.reduceEqDiff, c1, T_X12_in, T_X12_ones, T_X11_within, T_X11_bit, T_X11_isIn, T_X11_oneIfIn, T_J6_bitCount_0f7a4, hkk, htt]
      exact hgo
  have hc7 : ¬ K B L t = nI 262 → ¬ K B L t = nI 263 → ¬ K B L t = nI 264 → ¬ K B L t = nI 265 → ¬ K B L t = nI 266 → ¬ K B L t = nI 267 → ¬ K B L t = nI 268 → T_X12_isWord [.ref 44, .long 6582119] (wIJ h f g) (fun r h' => c_X12_test_135 Q [some (.ref 44), some (.int (nI l)), some (.int (nI n)), some (.int nt), none, none, none, none] (r.toList ++ []) h') := by
    intro n0 n1 n2 n3 n4 n5 n6
    refine sim_word hl0 hs 13 (by decide) (by decide +kernel) (fun e => ?_) (fun e => ?_)
    · have hgo := h174 (nI 7) (Or.inl ⟨7, by decide, e, rfl⟩)
      show c_X12_test_135 Q _ [.int 1] _
      generalize wIJ h f g = H at hkk htt hgo ⊢
      simp only [c_X12_test_135, i_push, i_ild, i_ald, i_ist, i_ast, i_inc, i_bin, i_un, i_divs, i_i2l, i_lshl, i_lor, i_dup, i_dup2, i_pop, i_if, i_cmp, i_nul, i_vret, i_iret, i_zret, i_aret, i_keep, keep, lget, lset, ent, i_getI, i_getJ, i_getR, i_getN, i_putI, i_putZ, i_putJ, i_putR, i_iald, i_bald, i_alen, i_aald, i_iast, i_bast, i_aast, i_new, i_newa, i_anew, i_oini, i_callS, i_callV, i_callI, popn, sh4, i_sw, swP, i_copy, i_binS, List.map, Option.toList_none, Option.toList_some, List.append, List.nil_append, List.cons_append, List.length_cons, List.length_nil, List.replicate, Nat.sub_self, Nat.reduceSub, Nat.reduceAdd, hK_pI, hL_pI, hI_pI, hR_pI, hJ_pI, hT_pI, hS_pI, hK_pR, hL_pR, hI_pR, hR_pR, hJ_pR, hT_pR, hS_pR, hK_pJ, hL_pJ, hI_pJ, hR_pJ, hJ_pJ, hT_pJ, hS_pJ, hK_wI, hL_wI, hI_wI, hR_wI, hJ_wI, hT_wI, hS_wI, eq_self, and_true, true_and, and_false, false_and, or_true, true_or, or_false, false_or, if_true, if_false, not_true_eq_false, not_false_eq_true, forall_const, implies_true, false_implies, true_implies, Option.some.injEq, forall_eq', exists_eq_left', reduceCtorEq, Nat.reduceEqDiff, c1, T_X12_in, T_X12_ones, T_X11_within, T_X11_bit, T_X11_isIn, T_X11_oneIfIn, T_J6_bitCount_0f7a4, hkk, htt, one]
      exact hgo
    · have hgo := hc8 n0 n1 n2 n3 n4 n5 n6 e
      show c_X12_test_135 Q _ [.int 0] _
      generalize wIJ h f g = H at hkk htt hgo ⊢
      simp only [c_X12_test_135, i_push, i_ild, i_ald, i_ist, i_ast, i_inc, i_bin, i_un, i_divs, i_i2l, i_lshl, i_lor, i_dup, i_dup2, i_pop, i_if, i_cmp, i_nul, i_vret, i_iret, i_zret, i_aret, i_keep, keep, lget, lset, ent, i_getI, i_getJ, i_getR, i_getN, i_putI, i_putZ, i_putJ, i_putR, i_iald, i_bald, i_alen, i_aald, i_iast, i_bast, i_aast, i_new, i_newa, i_anew, i_oini, i_callS, i_callV, i_callI, popn, sh4, i_sw, swP, i_copy, i_binS, List.map, Option.toList_none, Option.toList_some, List.append, List.nil_append, List.cons_append, List.length_cons, List.length_nil, List.replicate, Nat.sub_self, Nat.reduceSub, Nat.reduceAdd, hK_pI, hL_pI, hI_pI, hR_pI, hJ_pI, hT_pI, hS_pI, hK_pR, hL_pR, hI_pR, hR_pR, hJ_pR, hT_pR, hS_pR, hK_pJ, hL_pJ, hI_pJ, hR_pJ, hJ_pJ, hT_pJ, hS_pJ, hK_wI, hL_wI, hI_wI, hR_wI, hJ_wI, hT_wI, hS_wI, eq_self, and_true, true_and, and_false, false_and, or_true, true_or, or_false, false_or, if_true, if_false, not_true_eq_false, not_false_eq_true, forall_const, implies_true, false_implies, true_implies, Option.some.injEq, forall_eq', exists_eq_left', reduceCtorEq, Nat.reduceEqDiff, c1, T_X12_in, T_X12_ones, T_X11_within, T_X11_bit, T_X11_isIn, T_X11_oneIfIn, T_J6_bitCount_0f7a4, hkk, htt]
      exact hgo
  have hc6 : ¬ K B L t = nI 262 → ¬ K B L t = nI 263 → ¬ K B L t = nI 264 → ¬ K B L t = nI 265 → ¬ K B L t = nI 266 → ¬ K B L t = nI 267 → T_X12_isWord [.ref 44, .long 6578553] (wIJ h f g) (fun r h' => c_X12_test_120 Q [some (.ref 44), some (.int (nI l)), some (.int (nI n)), some (.int nt), none, none, none, none] (r.toList ++ []) h') := by
    intro n0 n1 n2 n3 n4 n5
    refine sim_word hl0 hs 12 (by decide) (by decide +kernel) (fun e => ?_) (fun e => ?_)
    · have hgo := h174 (nI 6) (Or.inl ⟨6, by decide, e, rfl⟩)
      show c_X12_test_120 Q _ [.int 1] _
      generalize wIJ h f g = H at hkk htt hgo ⊢
      simp only [c_X12_test_120, i_push, i_ild, i_ald, i_ist, i_ast, i_inc, i_bin, i_un, i_divs, i_i2l, i_lshl, i_lor, i_dup, i_dup2, i_pop, i_if, i_cmp, i_nul, i_vret, i_iret, i_zret, i_aret, i_keep, keep, lget, lset, ent, i_getI, i_getJ, i_getR, i_getN, i_putI, i_putZ, i_putJ, i_putR, i_iald, i_bald, i_alen, i_aald, i_iast, i_bast, i_aast, i_new, i_newa, i_anew, i_oini, i_callS, i_callV, i_callI, popn, sh4, i_sw, swP, i_copy, i_binS, List.map, Option.toList_none, Option.toList_some, List.append, List.nil_append, List.cons_append, List.length_cons, List.length_nil, List.replicate, Nat.sub_self, Nat.reduceSub, Nat.reduceAdd, hK_pI, hL_pI, hI_pI, hR_pI, hJ_pI, hT_pI, hS_pI, hK_pR, hL_pR, hI_pR, hR_pR, hJ_pR, hT_pR, hS_pR, hK_pJ, hL_pJ, hI_pJ, hR_pJ, hJ_pJ, hT_pJ, hS_pJ, hK_wI, hL_wI, hI_wI, hR_wI, hJ_wI, hT_wI, hS_wI, eq_self, and_true, true_and, and_false, false_and, or_true, true_or, or_false, false_or, if_true, if_false, not_true_eq_false, not_false_eq_true, forall_const, implies_true, false_implies, true_implies, Option.some.injEq, forall_eq', exists_eq_left', reduceCtorEq, Nat.reduceEqDiff, c1, T_X12_in, T_X12_ones, T_X11_within, T_X11_bit, T_X11_isIn, T_X11_oneIfIn, T_J6_bitCount_0f7a4, hkk, htt, one]
      exact hgo
    · have hgo := hc7 n0 n1 n2 n3 n4 n5 e
      show c_X12_test_120 Q _ [.int 0] _
      generalize wIJ h f g = H at hkk htt hgo ⊢
      simp only [c_X12_test_120, i_push, i_ild, i_ald, i_ist, i_ast, i_inc, i_bin, i_un, i_divs, i_i2l, i_lshl, i_lor, i_dup, i_dup2, i_pop, i_if, i_cmp, i_nul, i_vret, i_iret, i_zret, i_aret, i_keep, keep, lget, lset, ent, i_getI, i_getJ, i_getR, i_getN, i_putI, i_putZ, i_putJ, i_putR, i_iald, i_bald, i_alen, i_aald, i_iast, i_bast, i_aast, i_new, i_newa, i_anew, i_oini, i_callS, i_callV, i_callI, popn, sh4, i_sw, swP, i_copy, i_binS, List.map, Option.toList_none, Option.toList_some, List.append, List.nil_append, List.cons_append, List.length_cons, List.length_nil, List.replicate, Nat.sub_self, Nat.reduceSub, Nat.reduceAdd, hK_pI, hL_pI, hI_pI, hR_pI, hJ_pI, hT_pI, hS_pI, hK_pR, hL_pR, hI_pR, hR_pR, hJ_pR, hT_pR, hS_pR, hK_pJ, hL_pJ, hI_pJ, hR_pJ, hJ_pJ, hT_pJ, hS_pJ, hK_wI, hL_wI, hI_wI, hR_wI, hJ_wI, hT_wI, hS_wI, eq_self, and_true, true_and, and_false, false_and, or_true, true_or, or_false, false_or, if_true, if_false, not_true_eq_false, not_false_eq_true, forall_const, implies_true, false_implies, true_implies, Option.some.injEq, forall_eq', exists_eq_left', reduceCtorEq, Nat.reduceEqDiff, c1, T_X12_in, T_X12_ones, T_X11_within, T_X11_bit, T_X11_isIn, T_X11_oneIfIn, T_J6_bitCount_0f7a4, hkk, htt]
      exact hgo
  have hc5 : ¬ K B L t = nI 262 → ¬ K B L t = nI 263 → ¬ K B L t = nI 264 → ¬ K B L t = nI 265 → ¬ K B L t = nI 266 → T_X12_isWord [.ref 44, .long 1668246628] (wIJ h f g) (fun r h' => c_X12_test_106 Q [some (.ref 44), some (.int (nI l)), some (.int (nI n)), some (.int nt), none, none, none, none] (r.toList ++ []) h') := by
    intro n0 n1 n2 n3 n4
    refine sim_word hl0 hs 11 (by decide) (by decide +kernel) (fun e => ?_) (fun e => ?_)
    · have hgo := h174 (nI 5) (Or.inl ⟨5, by decide, e, rfl⟩)
      show c_X12_test_106 Q _ [.int 1] _
      generalize wIJ h f g = H at hkk htt hgo ⊢
      simp only [c_X12_test_106, i_push, i_ild, i_ald, i_ist, i_ast, i_inc, i_bin, i_un, i_divs, i_i2l, i_lshl, i_lor, i_dup, i_dup2, i_pop, i_if, i_cmp, i_nul, i_vret, i_iret, i_zret, i_aret, i_keep, keep, lget, lset, ent, i_getI, i_getJ, i_getR, i_getN, i_putI, i_putZ, i_putJ, i_putR, i_iald, i_bald, i_alen, i_aald, i_iast, i_bast, i_aast, i_new, i_newa, i_anew, i_oini, i_callS, i_callV, i_callI, popn, sh4, i_sw, swP, i_copy, i_binS, List.map, Option.toList_none, Option.toList_some, List.append, List.nil_append, List.cons_append, List.length_cons, List.length_nil, List.replicate, Nat.sub_self, Nat.reduceSub, Nat.reduceAdd, hK_pI, hL_pI, hI_pI, hR_pI, hJ_pI, hT_pI, hS_pI, hK_pR, hL_pR, hI_pR, hR_pR, hJ_pR, hT_pR, hS_pR, hK_pJ, hL_pJ, hI_pJ, hR_pJ, hJ_pJ, hT_pJ, hS_pJ, hK_wI, hL_wI, hI_wI, hR_wI, hJ_wI, hT_wI, hS_wI, eq_self, and_true, true_and, and_false, false_and, or_true, true_or, or_false, false_or, if_true, if_false, not_true_eq_false, not_false_eq_true, forall_const, implies_true, false_implies, true_implies, Option.some.injEq, forall_eq', exists_eq_left', reduceCtorEq, Nat.reduceEqDiff, c1, T_X12_in, T_X12_ones, T_X11_within, T_X11_bit, T_X11_isIn, T_X11_oneIfIn, T_J6_bitCount_0f7a4, hkk, htt, one]
      exact hgo
    · have hgo := hc6 n0 n1 n2 n3 n4 e
      show c_X12_test_106 Q _ [.int 0] _
      generalize wIJ h f g = H at hkk htt hgo ⊢
      simp only [c_X12_test_106, i_push, i_ild, i_ald, i_ist, i_ast, i_inc, i_bin, i_un, i_divs, i_i2l, i_lshl, i_lor, i_dup, i_dup2, i_pop, i_if, i_cmp, i_nul, i_vret, i_iret, i_zret, i_aret, i_keep, keep, lget, lset, ent, i_getI, i_getJ, i_getR, i_getN, i_putI, i_putZ, i_putJ, i_putR, i_iald, i_bald, i_alen, i_aald, i_iast, i_bast, i_aast, i_new, i_newa, i_anew, i_oini, i_callS, i_callV, i_callI, popn, sh4, i_sw, swP, i_copy, i_binS, List.map, Option.toList_none, Option.toList_some, List.append, List.nil_append, List.cons_append, List.length_cons, List.length_nil, List.replicate, Nat.sub_self, Nat.reduceSub, Nat.reduceAdd, hK_pI, hL_pI, hI_pI, hR_pI, hJ_pI, hT_pI, hS_pI, hK_pR, hL_pR, hI_pR, hR_pR, hJ_pR, hT_pR, hS_pR, hK_pJ, hL_pJ, hI_pJ, hR_pJ, hJ_pJ, hT_pJ, hS_pJ, hK_wI, hL_wI, hI_wI, hR_wI, hJ_wI, hT_wI, hS_wI, eq_self, and_true, true_and, and_false, false_and, or_true, true_or, or_false, false_or, if_true, if_false, not_true_eq_false, not_false_eq_true, forall_const, implies_true, false_implies, true_implies, Option.some.injEq, forall_eq', exists_eq_left', reduceCtorEq, Nat.reduceEqDiff, c1, T_X12_in, T_X12_ones, T_X11_within, T_X11_bit, T_X11_isIn, T_X11_oneIfIn, T_J6_bitCount_0f7a4, hkk, htt]
      exact hgo
  have hc4 : ¬ K B L t = nI 262 → ¬ K B L t = nI 263 → ¬ K B L t = nI 264 → ¬ K B L t = nI 265 → T_X12_isWord [.ref 44, .long 128047779833188] (wIJ h f g) (fun r h' => c_X12_test_92 Q [some (.ref 44), some (.int (nI l)), some (.int (nI n)), some (.int nt), none, none, none, none] (r.toList ++ []) h') := by
    intro n0 n1 n2 n3
    refine sim_word hl0 hs 10 (by decide) (by decide +kernel) (fun e => ?_) (fun e => ?_)
    · have hgo := h174 (nI 4) (Or.inl ⟨4, by decide, e, rfl⟩)
      show c_X12_test_92 Q _ [.int 1] _
      generalize wIJ h f g = H at hkk htt hgo ⊢
      simp only [c_X12_test_92, i_push, i_ild, i_ald, i_ist, i_ast, i_inc, i_bin, i_un, i_divs, i_i2l, i_lshl, i_lor, i_dup, i_dup2, i_pop, i_if, i_cmp, i_nul, i_vret, i_iret, i_zret, i_aret, i_keep, keep, lget, lset, ent, i_getI, i_getJ, i_getR, i_getN, i_putI, i_putZ, i_putJ, i_putR, i_iald, i_bald, i_alen, i_aald, i_iast, i_bast, i_aast, i_new, i_newa, i_anew, i_oini, i_callS, i_callV, i_callI, popn, sh4, i_sw, swP, i_copy, i_binS, List.map, Option.toList_none, Option.toList_some, List.append, List.nil_append, List.cons_append, List.length_cons, List.length_nil, List.replicate, Nat.sub_self, Nat.reduceSub, Nat.reduceAdd, hK_pI, hL_pI, hI_pI, hR_pI, hJ_pI, hT_pI, hS_pI, hK_pR, hL_pR, hI_pR, hR_pR, hJ_pR, hT_pR, hS_pR, hK_pJ, hL_pJ, hI_pJ, hR_pJ, hJ_pJ, hT_pJ, hS_pJ, hK_wI, hL_wI, hI_wI, hR_wI, hJ_wI, hT_wI, hS_wI, eq_self, and_true, true_and, and_false, false_and, or_true, true_or, or_false, false_or, if_true, if_false, not_true_eq_false, not_false_eq_true, forall_const, implies_true, false_implies, true_implies, Option.some.injEq, forall_eq', exists_eq_left', reduceCtorEq, Nat.reduceEqDiff, c1, T_X12_in, T_X12_ones, T_X11_within, T_X11_bit, T_X11_isIn, T_X11_oneIfIn, T_J6_bitCount_0f7a4, hkk, htt, one]
      exact hgo
    · have hgo := hc5 n0 n1 n2 n3 e
      show c_X12_test_92 Q _ [.int 0] _
      generalize wIJ h f g = H at hkk htt hgo ⊢
      simp only [c_X12_test_92, i_push, i_ild, i_ald, i_ist, i_ast, i_inc, i_bin, i_un, i_divs, i_i2l, i_lshl, i_lor, i_dup, i_dup2, i_pop, i_if, i_cmp, i_nul, i_vret, i_iret, i_zret, i_aret, i_keep, keep, lget, lset, ent, i_getI, i_getJ, i_getR, i_getN, i_putI, i_putZ, i_putJ, i_putR, i_iald, i_bald, i_alen, i_aald, i_iast, i_bast, i_aast, i_new, i_newa, i_anew, i_oini, i_callS, i_callV, i_callI, popn, sh4, i_sw, swP, i_copy, i_binS, List.map, Option.toList_none, Option.toList_some, List.append, List.nil_append, List.cons_append, List.length_cons, List.length_nil, List.replicate, Nat.sub_self, Nat.reduceSub, Nat.reduceAdd, hK_pI, hL_pI, hI_pI, hR_pI, hJ_pI, hT_pI, hS_pI, hK_pR, hL_pR, hI_pR, hR_pR, hJ_pR, hT_pR, hS_pR, hK_pJ, hL_pJ, hI_pJ, hR_pJ, hJ_pJ, hT_pJ, hS_pJ, hK_wI, hL_wI, hI_wI, hR_wI, hJ_wI, hT_wI, hS_wI, eq_self, and_true, true_and, and_false, false_and, or_true, true_or, or_false, false_or, if_true, if_false, not_true_eq_false, not_false_eq_true, forall_const, implies_true, false_implies, true_implies, Option.some.injEq, forall_eq', exists_eq_left', reduceCtorEq, Nat.reduceEqDiff, c1, T_X12_in, T_X12_ones, T_X11_within, T_X11_bit, T_X11_isIn, T_X11_oneIfIn, T_J6_bitCount_0f7a4, hkk, htt]
      exact hgo
  have hc3 : ¬ K B L t = nI 262 → ¬ K B L t = nI 263 → ¬ K B L t = nI 264 → T_X12_isWord [.ref 44, .long 121398985520243] (wIJ h f g) (fun r h' => c_X12_test_78 Q [some (.ref 44), some (.int (nI l)), some (.int (nI n)), some (.int nt), none, none, none, none] (r.toList ++ []) h') := by
    intro n0 n1 n2
    refine sim_word hl0 hs 9 (by decide) (by decide +kernel) (fun e => ?_) (fun e => ?_)
    · have hgo := h174 (nI 3) (Or.inl ⟨3, by decide, e, rfl⟩)
      show c_X12_test_78 Q _ [.int 1] _
      generalize wIJ h f g = H at hkk htt hgo ⊢
      simp only [c_X12_test_78, i_push, i_ild, i_ald, i_ist, i_ast, i_inc, i_bin, i_un, i_divs, i_i2l, i_lshl, i_lor, i_dup, i_dup2, i_pop, i_if, i_cmp, i_nul, i_vret, i_iret, i_zret, i_aret, i_keep, keep, lget, lset, ent, i_getI, i_getJ, i_getR, i_getN, i_putI, i_putZ, i_putJ, i_putR, i_iald, i_bald, i_alen, i_aald, i_iast, i_bast, i_aast, i_new, i_newa, i_anew, i_oini, i_callS, i_callV, i_callI, popn, sh4, i_sw, swP, i_copy, i_binS, List.map, Option.toList_none, Option.toList_some, List.append, List.nil_append, List.cons_append, List.length_cons, List.length_nil, List.replicate, Nat.sub_self, Nat.reduceSub, Nat.reduceAdd, hK_pI, hL_pI, hI_pI, hR_pI, hJ_pI, hT_pI, hS_pI, hK_pR, hL_pR, hI_pR, hR_pR, hJ_pR, hT_pR, hS_pR, hK_pJ, hL_pJ, hI_pJ, hR_pJ, hJ_pJ, hT_pJ, hS_pJ, hK_wI, hL_wI, hI_wI, hR_wI, hJ_wI, hT_wI, hS_wI, eq_self, and_true, true_and, and_false, false_and, or_true, true_or, or_false, false_or, if_true, if_false, not_true_eq_false, not_false_eq_true, forall_const, implies_true, false_implies, true_implies, Option.some.injEq, forall_eq', exists_eq_left', reduceCtorEq, Nat.reduceEqDiff, c1, T_X12_in, T_X12_ones, T_X11_within, T_X11_bit, T_X11_isIn, T_X11_oneIfIn, T_J6_bitCount_0f7a4, hkk, htt, one]
      exact hgo
    · have hgo := hc4 n0 n1 n2 e
      show c_X12_test_78 Q _ [.int 0] _
      generalize wIJ h f g = H at hkk htt hgo ⊢
      simp only [c_X12_test_78, i_push, i_ild, i_ald, i_ist, i_ast, i_inc, i_bin, i_un, i_divs, i_i2l, i_lshl, i_lor, i_dup, i_dup2, i_pop, i_if, i_cmp, i_nul, i_vret, i_iret, i_zret, i_aret, i_keep, keep, lget, lset, ent, i_getI, i_getJ, i_getR, i_getN, i_putI, i_putZ, i_putJ, i_putR, i_iald, i_bald, i_alen, i_aald, i_iast, i_bast, i_aast, i_new, i_newa, i_anew, i_oini, i_callS, i_callV, i_callI, popn, sh4, i_sw, swP, i_copy, i_binS, List.map, Option.toList_none, Option.toList_some, List.append, List.nil_append, List.cons_append, List.length_cons, List.length_nil, List.replicate, Nat.sub_self, Nat.reduceSub, Nat.reduceAdd, hK_pI, hL_pI, hI_pI, hR_pI, hJ_pI, hT_pI, hS_pI, hK_pR, hL_pR, hI_pR, hR_pR, hJ_pR, hT_pR, hS_pR, hK_pJ, hL_pJ, hI_pJ, hR_pJ, hJ_pJ, hT_pJ, hS_pJ, hK_wI, hL_wI, hI_wI, hR_wI, hJ_wI, hT_wI, hS_wI, eq_self, and_true, true_and, and_false, false_and, or_true, true_or, or_false, false_or, if_true, if_false, not_true_eq_false, not_false_eq_true, forall_const, implies_true, false_implies, true_implies, Option.some.injEq, forall_eq', exists_eq_left', reduceCtorEq, Nat.reduceEqDiff, c1, T_X12_in, T_X12_ones, T_X11_within, T_X11_bit, T_X11_isIn, T_X11_oneIfIn, T_J6_bitCount_0f7a4, hkk, htt]
      exact hgo
  have hc2 : ¬ K B L t = nI 262 → ¬ K B L t = nI 263 → T_X12_isWord [.ref 44, .long 6909036] (wIJ h f g) (fun r h' => c_X12_test_64 Q [some (.ref 44), some (.int (nI l)), some (.int (nI n)), some (.int nt), none, none, none, none] (r.toList ++ []) h') := by
    intro n0 n1
    refine sim_word hl0 hs 8 (by decide) (by decide +kernel) (fun e => ?_) (fun e => ?_)
    · have hgo := h174 (nI 2) (Or.inl ⟨2, by decide, e, rfl⟩)
      show c_X12_test_64 Q _ [.int 1] _
      generalize wIJ h f g = H at hkk htt hgo ⊢
      simp only [c_X12_test_64, i_push, i_ild, i_ald, i_ist, i_ast, i_inc, i_bin, i_un, i_divs, i_i2l, i_lshl, i_lor, i_dup, i_dup2, i_pop, i_if, i_cmp, i_nul, i_vret, i_iret, i_zret, i_aret, i_keep, keep, lget, lset, ent, i_getI, i_getJ, i_getR, i_getN, i_putI, i_putZ, i_putJ, i_putR, i_iald, i_bald, i_alen, i_aald, i_iast, i_bast, i_aast, i_new, i_newa, i_anew, i_oini, i_callS, i_callV, i_callI, popn, sh4, i_sw, swP, i_copy, i_binS, List.map, Option.toList_none, Option.toList_some, List.append, List.nil_append, List.cons_append, List.length_cons, List.length_nil, List.replicate, Nat.sub_self, Nat.reduceSub, Nat.reduceAdd, hK_pI, hL_pI, hI_pI, hR_pI, hJ_pI, hT_pI, hS_pI, hK_pR, hL_pR, hI_pR, hR_pR, hJ_pR, hT_pR, hS_pR, hK_pJ, hL_pJ, hI_pJ, hR_pJ, hJ_pJ, hT_pJ, hS_pJ, hK_wI, hL_wI, hI_wI, hR_wI, hJ_wI, hT_wI, hS_wI, eq_self, and_true, true_and, and_false, false_and, or_true, true_or, or_false, false_or, if_true, if_false, not_true_eq_false, not_false_eq_true, forall_const, implies_true, false_implies, true_implies, Option.some.injEq, forall_eq', exists_eq_left', reduceCtorEq, Nat.reduceEqDiff, c1, T_X12_in, T_X12_ones, T_X11_within, T_X11_bit, T_X11_isIn, T_X11_oneIfIn, T_J6_bitCount_0f7a4, hkk, htt, one]
      exact hgo
    · have hgo := hc3 n0 n1 e
      show c_X12_test_64 Q _ [.int 0] _
      generalize wIJ h f g = H at hkk htt hgo ⊢
      simp only [c_X12_test_64, i_push, i_ild, i_ald, i_ist, i_ast, i_inc, i_bin, i_un, i_divs, i_i2l, i_lshl, i_lor, i_dup, i_dup2, i_pop, i_if, i_cmp, i_nul, i_vret, i_iret, i_zret, i_aret, i_keep, keep, lget, lset, ent, i_getI, i_getJ, i_getR, i_getN, i_putI, i_putZ, i_putJ, i_putR, i_iald, i_bald, i_alen, i_aald, i_iast, i_bast, i_aast, i_new, i_newa, i_anew, i_oini, i_callS, i_callV, i_callI, popn, sh4, i_sw, swP, i_copy, i_binS, List.map, Option.toList_none, Option.toList_some, List.append, List.nil_append, List.cons_append, List.length_cons, List.length_nil, List.replicate, Nat.sub_self, Nat.reduceSub, Nat.reduceAdd, hK_pI, hL_pI, hI_pI, hR_pI, hJ_pI, hT_pI, hS_pI, hK_pR, hL_pR, hI_pR, hR_pR, hJ_pR, hT_pR, hS_pR, hK_pJ, hL_pJ, hI_pJ, hR_pJ, hJ_pJ, hT_pJ, hS_pJ, hK_wI, hL_wI, hI_wI, hR_wI, hJ_wI, hT_wI, hS_wI, eq_self, and_true, true_and, and_false, false_and, or_true, true_or, or_false, false_or, if_true, if_false, not_true_eq_false, not_false_eq_true, forall_const, implies_true, false_implies, true_implies, Option.some.injEq, forall_eq', exists_eq_left', reduceCtorEq, Nat.reduceEqDiff, c1, T_X12_in, T_X12_ones, T_X11_within, T_X11_bit, T_X11_isIn, T_X11_oneIfIn, T_J6_bitCount_0f7a4, hkk, htt]
      exact hgo
  have hc1 : ¬ K B L t = nI 262 → T_X12_isWord [.ref 44, .long 1802071652] (wIJ h f g) (fun r h' => c_X12_test_50 Q [some (.ref 44), some (.int (nI l)), some (.int (nI n)), some (.int nt), none, none, none, none] (r.toList ++ []) h') := by
    intro n0
    refine sim_word hl0 hs 7 (by decide) (by decide +kernel) (fun e => ?_) (fun e => ?_)
    · have hgo := h174 (nI 1) (Or.inl ⟨1, by decide, e, rfl⟩)
      show c_X12_test_50 Q _ [.int 1] _
      generalize wIJ h f g = H at hkk htt hgo ⊢
      simp only [c_X12_test_50, i_push, i_ild, i_ald, i_ist, i_ast, i_inc, i_bin, i_un, i_divs, i_i2l, i_lshl, i_lor, i_dup, i_dup2, i_pop, i_if, i_cmp, i_nul, i_vret, i_iret, i_zret, i_aret, i_keep, keep, lget, lset, ent, i_getI, i_getJ, i_getR, i_getN, i_putI, i_putZ, i_putJ, i_putR, i_iald, i_bald, i_alen, i_aald, i_iast, i_bast, i_aast, i_new, i_newa, i_anew, i_oini, i_callS, i_callV, i_callI, popn, sh4, i_sw, swP, i_copy, i_binS, List.map, Option.toList_none, Option.toList_some, List.append, List.nil_append, List.cons_append, List.length_cons, List.length_nil, List.replicate, Nat.sub_self, Nat.reduceSub, Nat.reduceAdd, hK_pI, hL_pI, hI_pI, hR_pI, hJ_pI, hT_pI, hS_pI, hK_pR, hL_pR, hI_pR, hR_pR, hJ_pR, hT_pR, hS_pR, hK_pJ, hL_pJ, hI_pJ, hR_pJ, hJ_pJ, hT_pJ, hS_pJ, hK_wI, hL_wI, hI_wI, hR_wI, hJ_wI, hT_wI, hS_wI, eq_self, and_true, true_and, and_false, false_and, or_true, true_or, or_false, false_or, if_true, if_false, not_true_eq_false, not_false_eq_true, forall_const, implies_true, false_implies, true_implies, Option.some.injEq, forall_eq', exists_eq_left', reduceCtorEq, Nat.reduceEqDiff, c1, T_X12_in, T_X12_ones, T_X11_within, T_X11_bit, T_X11_isIn, T_X11_oneIfIn, T_J6_bitCount_0f7a4, hkk, htt, one]
      exact hgo
    · have hgo := hc2 n0 e
      show c_X12_test_50 Q _ [.int 0] _
      generalize wIJ h f g = H at hkk htt hgo ⊢
      simp only [c_X12_test_50, i_push, i_ild, i_ald, i_ist, i_ast, i_inc, i_bin, i_un, i_divs, i_i2l, i_lshl, i_lor, i_dup, i_dup2, i_pop, i_if, i_cmp, i_nul, i_vret, i_iret, i_zret, i_aret, i_keep, keep, lget, lset, ent, i_getI, i_getJ, i_getR, i_getN, i_putI, i_putZ, i_putJ, i_putR, i_iald, i_bald, i_alen, i_aald, i_iast, i_bast, i_aast, i_new, i_newa, i_anew, i_oini, i_callS, i_callV, i_callI, popn, sh4, i_sw, swP, i_copy, i_binS, List.map, Option.toList_none, Option.toList_some, List.append, List.nil_append, List.cons_append, List.length_cons, List.length_nil, List.replicate, Nat.sub_self, Nat.reduceSub, Nat.reduceAdd, hK_pI, hL_pI, hI_pI, hR_pI, hJ_pI, hT_pI, hS_pI, hK_pR, hL_pR, hI_pR, hR_pR, hJ_pR, hT_pR, hS_pR, hK_pJ, hL_pJ, hI_pJ, hR_pJ, hJ_pJ, hT_pJ, hS_pJ, hK_wI, hL_wI, hI_wI, hR_wI, hJ_wI, hT_wI, hS_wI, eq_self, and_true, true_and, and_false, false_and, or_true, true_or, or_false, false_or, if_true, if_false, not_true_eq_false, not_false_eq_true, forall_const, implies_true, false_implies, true_implies, Option.some.injEq, forall_eq', exists_eq_left', reduceCtorEq, Nat.reduceEqDiff, c1, T_X12_in, T_X12_ones, T_X11_within, T_X11_bit, T_X11_isIn, T_X11_oneIfIn, T_J6_bitCount_0f7a4, hkk, htt]
      exact hgo
  have hc0 : T_X12_isWord [.ref 44, .long 6383461] (wIJ h f g) (fun r h' => c_X12_test_36 Q [some (.ref 44), some (.int (nI l)), some (.int (nI n)), some (.int nt), none, none, none, none] (r.toList ++ []) h') := by
    skip
    refine sim_word hl0 hs 6 (by decide) (by decide +kernel) (fun e => ?_) (fun e => ?_)
    · have hgo := h174 (nI 0) (Or.inl ⟨0, by decide, e, rfl⟩)
      show c_X12_test_36 Q _ [.int 1] _
      generalize wIJ h f g = H at hkk htt hgo ⊢
      simp only [c_X12_test_36, i_push, i_ild, i_ald, i_ist, i_ast, i_inc, i_bin, i_un, i_divs, i_i2l, i_lshl, i_lor, i_dup, i_dup2, i_pop, i_if, i_cmp, i_nul, i_vret, i_iret, i_zret, i_aret, i_keep, keep, lget, lset, ent, i_getI, i_getJ, i_getR, i_getN, i_putI, i_putZ, i_putJ, i_putR, i_iald, i_bald, i_alen, i_aald, i_iast, i_bast, i_aast, i_new, i_newa, i_anew, i_oini, i_callS, i_callV, i_callI, popn, sh4, i_sw, swP, i_copy, i_binS, List.map, Option.toList_none, Option.toList_some, List.append, List.nil_append, List.cons_append, List.length_cons, List.length_nil, List.replicate, Nat.sub_self, Nat.reduceSub, Nat.reduceAdd, hK_pI, hL_pI, hI_pI, hR_pI, hJ_pI, hT_pI, hS_pI, hK_pR, hL_pR, hI_pR, hR_pR, hJ_pR, hT_pR, hS_pR, hK_pJ, hL_pJ, hI_pJ, hR_pJ, hJ_pJ, hT_pJ, hS_pJ, hK_wI, hL_wI, hI_wI, hR_wI, hJ_wI, hT_wI, hS_wI, eq_self, and_true, true_and, and_false, false_and, or_true, true_or, or_false, false_or, if_true, if_false, not_true_eq_false, not_false_eq_true, forall_const, implies_true, false_implies, true_implies, Option.some.injEq, forall_eq', exists_eq_left', reduceCtorEq, Nat.reduceEqDiff, c1, T_X12_in, T_X12_ones, T_X11_within, T_X11_bit, T_X11_isIn, T_X11_oneIfIn, T_J6_bitCount_0f7a4, hkk, htt, one]
      exact hgo
    · have hgo := hc1  e
      show c_X12_test_36 Q _ [.int 0] _
      generalize wIJ h f g = H at hkk htt hgo ⊢
      simp only [c_X12_test_36, i_push, i_ild, i_ald, i_ist, i_ast, i_inc, i_bin, i_un, i_divs, i_i2l, i_lshl, i_lor, i_dup, i_dup2, i_pop, i_if, i_cmp, i_nul, i_vret, i_iret, i_zret, i_aret, i_keep, keep, lget, lset, ent, i_getI, i_getJ, i_getR, i_getN, i_putI, i_putZ, i_putJ, i_putR, i_iald, i_bald, i_alen, i_aald, i_iast, i_bast, i_aast, i_new, i_newa, i_anew, i_oini, i_callS, i_callV, i_callI, popn, sh4, i_sw, swP, i_copy, i_binS, List.map, Option.toList_none, Option.toList_some, List.append, List.nil_append, List.cons_append, List.length_cons, List.length_nil, List.replicate, Nat.sub_self, Nat.reduceSub, Nat.reduceAdd, hK_pI, hL_pI, hI_pI, hR_pI, hJ_pI, hT_pI, hS_pI, hK_pR, hL_pR, hI_pR, hR_pR, hJ_pR, hT_pR, hS_pR, hK_pJ, hL_pJ, hI_pJ, hR_pJ, hJ_pJ, hT_pJ, hS_pJ, hK_wI, hL_wI, hI_wI, hR_wI, hJ_wI, hT_wI, hS_wI, eq_self, and_true, true_and, and_false, false_and, or_true, true_or, or_false, false_or, if_true, if_false, not_true_eq_false, not_false_eq_true, forall_const, implies_true, false_implies, true_implies, Option.some.injEq, forall_eq', exists_eq_left', reduceCtorEq, Nat.reduceEqDiff, c1, T_X12_in, T_X12_ones, T_X11_within, T_X11_bit, T_X11_isIn, T_X11_oneIfIn, T_J6_bitCount_0f7a4, hkk, htt]
      exact hgo
  refine s_X12_test_29 Q _ _ _ ?_
  generalize wIJ h f g = H at hkk htt hc0 ⊢
  simp only [b_X12_test_29, i_push, i_ild, i_ald, i_ist, i_ast, i_inc, i_bin, i_un, i_divs, i_i2l, i_lshl, i_lor, i_dup, i_dup2, i_pop, i_if, i_cmp, i_nul, i_vret, i_iret, i_zret, i_aret, i_keep, keep, lget, lset, ent, i_getI, i_getJ, i_getR, i_getN, i_putI, i_putZ, i_putJ, i_putR, i_iald, i_bald, i_alen, i_aald, i_iast, i_bast, i_aast, i_new, i_newa, i_anew, i_oini, i_callS, i_callV, i_callI, popn, sh4, i_sw, swP, i_copy, i_binS, List.map, Option.toList_none, Option.toList_some, List.append, List.nil_append, List.cons_append, List.length_cons, List.length_nil, List.replicate, Nat.sub_self, Nat.reduceSub, Nat.reduceAdd, hK_pI, hL_pI, hI_pI, hR_pI, hJ_pI, hT_pI, hS_pI, hK_pR, hL_pR, hI_pR, hR_pR, hJ_pR, hT_pR, hS_pR, hK_pJ, hL_pJ, hI_pJ, hR_pJ, hJ_pJ, hT_pJ, hS_pJ, hK_wI, hL_wI, hI_wI, hR_wI, hJ_wI, hT_wI, hS_wI, eq_self, and_true, true_and, and_false, false_and, or_true, true_or, or_false, false_or, if_true, if_false, not_true_eq_false, not_false_eq_true, forall_const, implies_true, false_implies, true_implies, Option.some.injEq, forall_eq', exists_eq_left', reduceCtorEq, Nat.reduceEqDiff, c1, T_X12_in, T_X12_ones, T_X11_within, T_X11_bit, T_X11_isIn, T_X11_oneIfIn, T_J6_bitCount_0f7a4, hkk, htt]
  exact hc0
set_option maxRecDepth 100000 in
set_option maxHeartbeats 4000000 in
theorem ok_X12_test : ctr 2 MX12_test T_X12_test := by
  refine ctr_of pn_X12 wc_X12_test (fun av h Q hT => ?_)
  unfold T_X12_test at hT
  split at hT
  · rename_i o l n
    refine ⟨⟨by simp [Value.category], Nat.le_of_ble_eq_true rfl⟩, s_X12_test_0 Q _ _ _ ?_⟩
    obtain ⟨rfl, hl, B, L, J, M, t, l', n', rfl, hl16, rfl, hn, hs, hq⟩ := hT
    rw [pT_eq] at hq
    have not0 : ¬ (1 : Int32) = 0 := by decide
    have h29 : ∀ (f : Mem) (g : Nat → Nat → Int64) nt, (nt = if K B L t = 258 then 1 else 0) → SIM B L J f g (if n' = 4 then pMany M (nI (bgT B L t)) else M) (t1T B L t) → wp 2 MX12_test Q 29 [some (.ref 44), some (.int (nI l')), some (.int (nI n')), some (.int nt), none, none, none, none] [] (wIJ h f g) := by
      intro f g nt hnt hs'
      rw [← hnt] at hq
      exact ts_29 Q h hl B L J _ (t1T B L t) l' n' hl16 hn nt f g hs' hq
    have h13 : ∀ (f : Mem) (g : Nat → Nat → Int64), SIM B L J f g (if n' = 4 then pMany M (nI (bgT B L t)) else M) t → wp 2 MX12_test Q 13 [some (.ref 44), some (.int (nI l')), some (.int (nI n')), none, none, none, none, none] [] (wIJ h f g) := by
      intro f g hs'
      have hl' : LayM (wIJ h f g) := hl
      have hkk := (lm_k hl').1
      have htt := (lm_t hl').1
      have hc : T_X12_isWord [.ref 44, .long 7237492] (wIJ h f g) (fun r h' => c_X12_test_20 Q [some (.ref 44), some (.int (nI l')), some (.int (nI n')), none, none, none, none, none] (r.toList ++ []) h') := by
        refine sim_word hl hs' 2 (by decide) (by decide +kernel) (fun e => ?_) (fun e => ?_)
        · have hnx : T_X12_next [.ref 44] (wIJ h f g) (fun r h' => wp 2 MX12_test Q 29 [some (.ref 44), some (.int (nI l')), some (.int (nI n')), some (.int 1), none, none, none, none] (r.toList ++ []) h') := by
            refine sim_next hl hs' (fun f2 g2 hs2 => h29 f2 g2 1 (by rw [if_pos (show K B L t = 258 from e)]) ?_)
            unfold t1T
            rw [if_pos (show K B L t = 258 from e)]
            exact hs2
          show c_X12_test_20 Q _ [.int 1] _
          generalize wIJ h f g = H at hkk htt hnx ⊢
          simp only [c_X12_test_20, i_push, i_ild, i_ald, i_ist, i_ast, i_inc, i_bin, i_un, i_divs, i_i2l, i_lshl, i_lor, i_dup, i_dup2, i_pop, i_if, i_cmp, i_nul, i_vret, i_iret, i_zret, i_aret, i_keep, keep, lget, lset, ent, i_getI, i_getJ, i_getR, i_getN, i_putI, i_putZ, i_putJ, i_putR, i_iald, i_bald, i_alen, i_aald, i_iast, i_bast, i_aast, i_new, i_newa, i_anew, i_oini, i_callS, i_callV, i_callI, popn, sh4, i_sw, swP, i_copy, i_binS, List.map, Option.toList_none, Option.toList_some, List.append, List.nil_append, List.cons_append, List.length_cons, List.length_nil, List.replicate, Nat.sub_self, Nat.reduceSub, Nat.reduceAdd, hK_pI, hL_pI, hI_pI, hR_pI, hJ_pI, hT_pI, hS_pI, hK_pR, hL_pR, hI_pR, hR_pR, hJ_pR, hT_pR, hS_pR, hK_pJ, hL_pJ, hI_pJ, hR_pJ, hJ_pJ, hT_pJ, hS_pJ, hK_wI, hL_wI, hI_wI, hR_wI, hJ_wI, hT_wI, hS_wI, eq_self, and_true, true_and, and_false, false_and, or_true, true_or, or_false, false_or, if_true, if_false, not_true_eq_false, not_false_eq_true, forall_const, implies_true, false_implies, true_implies, Option.some.injEq, forall_eq', exists_eq_left', reduceCtorEq, Nat.reduceEqDiff, c1, T_X12_in, T_X12_ones, T_X11_within, T_X11_bit, T_X11_isIn, T_X11_oneIfIn, T_J6_bitCount_0f7a4, hkk, htt, not0]
          exact hnx
        · have hgo := h29 f g 0 (by rw [if_neg (show ¬ K B L t = 258 from e)]) (by unfold t1T; rw [if_neg (show ¬ K B L t = 258 from e)]; exact hs')
          show c_X12_test_20 Q _ [.int 0] _
          generalize wIJ h f g = H at hkk htt hgo ⊢
          simp only [c_X12_test_20, i_push, i_ild, i_ald, i_ist, i_ast, i_inc, i_bin, i_un, i_divs, i_i2l, i_lshl, i_lor, i_dup, i_dup2, i_pop, i_if, i_cmp, i_nul, i_vret, i_iret, i_zret, i_aret, i_keep, keep, lget, lset, ent, i_getI, i_getJ, i_getR, i_getN, i_putI, i_putZ, i_putJ, i_putR, i_iald, i_bald, i_alen, i_aald, i_iast, i_bast, i_aast, i_new, i_newa, i_anew, i_oini, i_callS, i_callV, i_callI, popn, sh4, i_sw, swP, i_copy, i_binS, List.map, Option.toList_none, Option.toList_some, List.append, List.nil_append, List.cons_append, List.length_cons, List.length_nil, List.replicate, Nat.sub_self, Nat.reduceSub, Nat.reduceAdd, hK_pI, hL_pI, hI_pI, hR_pI, hJ_pI, hT_pI, hS_pI, hK_pR, hL_pR, hI_pR, hR_pR, hJ_pR, hT_pR, hS_pR, hK_pJ, hL_pJ, hI_pJ, hR_pJ, hJ_pJ, hT_pJ, hS_pJ, hK_wI, hL_wI, hI_wI, hR_wI, hJ_wI, hT_wI, hS_wI, eq_self, and_true, true_and, and_false, false_and, or_true, true_or, or_false, false_or, if_true, if_false, not_true_eq_false, not_false_eq_true, forall_const, implies_true, false_implies, true_implies, Option.some.injEq, forall_eq', exists_eq_left', reduceCtorEq, Nat.reduceEqDiff, c1, T_X12_in, T_X12_ones, T_X11_within, T_X11_bit, T_X11_isIn, T_X11_oneIfIn, T_J6_bitCount_0f7a4, hkk, htt]
          exact hgo
      refine s_X12_test_13 Q _ _ _ ?_
      generalize wIJ h f g = H at hkk htt hc ⊢
      simp only [b_X12_test_13, i_push, i_ild, i_ald, i_ist, i_ast, i_inc, i_bin, i_un, i_divs, i_i2l, i_lshl, i_lor, i_dup, i_dup2, i_pop, i_if, i_cmp, i_nul, i_vret, i_iret, i_zret, i_aret, i_keep, keep, lget, lset, ent, i_getI, i_getJ, i_getR, i_getN, i_putI, i_putZ, i_putJ, i_putR, i_iald, i_bald, i_alen, i_aald, i_iast, i_bast, i_aast, i_new, i_newa, i_anew, i_oini, i_callS, i_callV, i_callI, popn, sh4, i_sw, swP, i_copy, i_binS, List.map, Option.toList_none, Option.toList_some, List.append, List.nil_append, List.cons_append, List.length_cons, List.length_nil, List.replicate, Nat.sub_self, Nat.reduceSub, Nat.reduceAdd, hK_pI, hL_pI, hI_pI, hR_pI, hJ_pI, hT_pI, hS_pI, hK_pR, hL_pR, hI_pR, hR_pR, hJ_pR, hT_pR, hS_pR, hK_pJ, hL_pJ, hI_pJ, hR_pJ, hJ_pJ, hT_pJ, hS_pJ, hK_wI, hL_wI, hI_wI, hR_wI, hJ_wI, hT_wI, hS_wI, eq_self, and_true, true_and, and_false, false_and, or_true, true_or, or_false, false_or, if_true, if_false, not_true_eq_false, not_false_eq_true, forall_const, implies_true, false_implies, true_implies, Option.some.injEq, forall_eq', exists_eq_left', reduceCtorEq, Nat.reduceEqDiff, c1, T_X12_in, T_X12_ones, T_X11_within, T_X11_bit, T_X11_isIn, T_X11_oneIfIn, T_J6_bitCount_0f7a4, hkk, htt]
      exact hc
    have hkk := (lm_k hl).1
    have htt := (lm_t hl).1
    have e39 : hI h 44 39 = nI (bgT B L t) := hs.2.2.1
    have h4 : n' = 4 → T_X12_tooMany [.ref 44, .int (nI (bgT B L t))] h (fun r h' => wp 2 MX12_test Q 13 [some (.ref 44), some (.int (nI l')), some (.int (nI n')), none, none, none, none, none] (r.toList ++ []) h') := fun e => sim_many (h := h) hl hs (fun f' hs' => h13 f' _ (by rw [if_pos e]; exact hs'))
    have h4n : ¬ n' = 4 → wp 2 MX12_test Q 13 [some (.ref 44), some (.int (nI l')), some (.int (nI n')), none, none, none, none, none] [] h := fun e => h13 (hI h) (hJ h) (by rw [if_neg e]; exact hs)
    simp only [MX12_test, b_X12_test_0, i_push, i_ild, i_ald, i_ist, i_ast, i_inc, i_bin, i_un, i_divs, i_i2l, i_lshl, i_lor, i_dup, i_dup2, i_pop, i_if, i_cmp, i_nul, i_vret, i_iret, i_zret, i_aret, i_keep, keep, lget, lset, ent, i_getI, i_getJ, i_getR, i_getN, i_putI, i_putZ, i_putJ, i_putR, i_iald, i_bald, i_alen, i_aald, i_iast, i_bast, i_aast, i_new, i_newa, i_anew, i_oini, i_callS, i_callV, i_callI, popn, sh4, i_sw, swP, i_copy, i_binS, List.map, Option.toList_none, Option.toList_some, List.append, List.nil_append, List.cons_append, List.length_cons, List.length_nil, List.replicate, Nat.sub_self, Nat.reduceSub, Nat.reduceAdd, hK_pI, hL_pI, hI_pI, hR_pI, hJ_pI, hT_pI, hS_pI, hK_pR, hL_pR, hI_pR, hR_pR, hJ_pR, hT_pR, hS_pR, hK_pJ, hL_pJ, hI_pJ, hR_pJ, hJ_pJ, hT_pJ, hS_pJ, hK_wI, hL_wI, hI_wI, hR_wI, hJ_wI, hT_wI, hS_wI, eq_self, and_true, true_and, and_false, false_and, or_true, true_or, or_false, false_or, if_true, if_false, not_true_eq_false, not_false_eq_true, forall_const, implies_true, false_implies, true_implies, Option.some.injEq, forall_eq', exists_eq_left', reduceCtorEq, Nat.reduceEqDiff, c1, T_X12_in, T_X12_ones, T_X11_within, T_X11_bit, T_X11_isIn, T_X11_oneIfIn, T_J6_bitCount_0f7a4, hkk, htt, e39]
    rw [k4', nI_eq (by omega) (by decide)]
    exact ⟨h4, h4n⟩
  · exact hT.elim
