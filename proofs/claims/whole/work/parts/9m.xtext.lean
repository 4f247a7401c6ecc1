/-! ===== the class: text ===== -/
def psH (h : Hp) (y z : Nat) : Hp := pR (pI (pI (pR (mkA (nC (pI h y 2 (-1)) 7 8) (hT h) li_X7) y 3 (some (hT h))) y 4 0) y 5 (-1)) y 0 (some z)
def T_X2_init : Tr := fun av h Q => match av with
  | [.ref y, .ref z] => y < hT h ∧ hK h y = 2 ∧ Q none (psH h y z)
  | _ => False
def L_X2_init : List UInt8 := [42, 183, 0, 3, 42, 2, 181, 0, 9, 42, 187, 0, 15, 89, 183, 0, 17, 181, 0, 18, 42, 3, 181, 0, 22, 42, 2, 181, 0, 25, 42, 43, 181, 0, 28, 177]
theorem Lc_X2_init : MX2_init.2.1 = ⟨L_X2_init.toArray⟩ := rfl
theorem D_X2_init_0 : dseq MX2_init.2.1 0 [(.aload_n 0, 1), (.invokespecial 3, 3), (.aload_n 0, 1), (.iconst (-1), 1), (.putfield 9, 3), (.aload_n 0, 1), (.new 15, 3), (.dup, 1), (.invokespecial 17, 3), (.putfield 18, 3), (.aload_n 0, 1), (.iconst 0, 1), (.putfield 22, 3), (.aload_n 0, 1), (.iconst (-1), 1), (.putfield 25, 3), (.aload_n 0, 1), (.aload_n 1, 1), (.putfield 28, 3), (.return_, 1)] := dq Lc_X2_init 0 _ (by decide +kernel)
def c_X2_init_17 (Q : Option Value → Hp → Prop) : Kt := i_putR 2 3 (i_ald 0 (i_push (.int 0) (i_putI 2 4 (i_ald 0 (i_push (.int (-1)) (i_putI 2 5 (i_ald 0 (i_ald 1 (i_putR 2 0 (i_vret Q))))))))))
def b_X2_init_0 (Q : Option Value → Hp → Prop) : Kt := i_ald 0 (i_oini (i_ald 0 (i_push (.int (-1)) (i_putI 2 2 (i_ald 0 (i_new 7 (i_dup (i_callI 0 T_X7_init (c_X2_init_17 Q)))))))))
set_option maxRecDepth 100000 in
theorem s_X2_init_0 (Q : Option Value → Hp → Prop) : ∀ A st h, b_X2_init_0 Q A st h → wp 2 MX2_init Q 0 A st h := (q1 (s_aldn (n := 0) (i := 0) rfl) D_X2_init_0 fun D => (qO (s_oini (ch_3_0_ok.2.2.2.2.2.2.2.2.2.2.2.1.1 rfl) w_oi2 w_oi3) rfl (by decide) D fun D => (q1 (s_aldn (n := 0) (i := 0) rfl) D fun D => (q1 (s_iconst (n := (-1)) (v := (-1)) (by decide)) D fun D => (qP pl_X2_9 rfl (Or.inl rfl) D fun D => (q1 (s_aldn (n := 0) (i := 0) rfl) D fun D => (qC (s_new kX7 ot_X7 (ch_3_0_ok.2.2.2.2.2.2.2.2.2.2.2.2.1.1 rfl) (ch_1_3_ok.2.2.1.1 rfl) (ch_1_0_ok.2.2.2.2.1.1 rfl)) rfl D fun D => (q1 s_dup D fun D => (qX (s_callIN ok_X7_init mo_X7_init rfl rfl (ch_3_0_ok.2.2.2.2.2.2.2.2.2.2.2.2.2.1.2 rfl) (ch_1_3_ok.2.2.2.2.1.1 rfl)) rfl (by decide) D fun D => (qP pl_X2_18 rfl (Or.inr rfl) D fun D => (q1 (s_aldn (n := 0) (i := 0) rfl) D fun D => (q1 (s_iconst (n := 0) (v := 0) (by decide)) D fun D => (qP pl_X2_22 rfl (Or.inl rfl) D fun D => (q1 (s_aldn (n := 0) (i := 0) rfl) D fun D => (q1 (s_iconst (n := (-1)) (v := (-1)) (by decide)) D fun D => (qP pl_X2_25 rfl (Or.inl rfl) D fun D => (q1 (s_aldn (n := 0) (i := 0) rfl) D fun D => (q1 (s_aldn (n := 1) (i := 1) rfl) D fun D => (qP pl_X2_28 rfl (Or.inr rfl) D fun D => (qV rfl D))))))))))))))))))))

set_option maxRecDepth 100000 in
set_option maxHeartbeats 400000 in
theorem xin_X2 (Q : Option Value → Hp → Prop) (h : Hp) (y z : Nat) (hy : y < hT h) (hk : hK h y = 2) (hq : Q none (psH h y z)) : b_X2_init_0 Q [some (.ref y), some (.ref z)] [] h := by
  have p1 : y < hT h + 1 := by omega
  have q0 : ¬ y = hT h := by omega
  obtain ⟨o1, _, _, _, _⟩ := mkA_old li_X7 (nC (pI h y 2 (-1)) 7 8) (hT h) y (by rw [hT_nC, hT_pI]; omega)
  have kk : hK (mkA (nC (pI h y 2 (-1)) 7 8) (hT h) li_X7) y = 2 := by rw [o1, hK_nC, hT_pI, if_neg q0, hK_pI]; exact hk
  have tt : y < hT (mkA (nC (pI h y 2 (-1)) 7 8) (hT h) li_X7) := by rw [mkA_T, hT_nC, hT_pI]; omega
  have h17 : c_X2_init_17 Q [some (.ref y), some (.ref z)] [.ref (hT h), .ref y] (mkA (nC (pI h y 2 (-1)) 7 8) (hT h) li_X7) := by
    unfold psH at hq
    generalize mkA (nC (pI h y 2 (-1)) 7 8) (hT h) li_X7 = X at kk tt hq ⊢
    simp only [c_X2_init_17, i_push, i_ild, i_ald, i_ist, i_ast, i_inc, i_bin, i_un, i_divs, i_i2l, i_lshl, i_lor, i_dup, i_dup2, i_pop, i_if, i_cmp, i_nul, i_vret, i_iret, i_zret, i_aret, i_keep, keep, lget, lset, ent, i_getI, i_getJ, i_getR, i_getN, i_putI, i_putZ, i_putJ, i_putR, i_iald, i_bald, i_alen, i_aald, i_iast, i_bast, i_aast, i_new, i_newa, i_anew, i_oini, i_callS, i_callV, i_callI, popn, sh4, i_sw, swP, i_copy, i_binS, List.map, Option.toList_none, Option.toList_some, List.append, List.nil_append, List.cons_append, List.length_cons, List.length_nil, List.replicate, Nat.sub_self, Nat.reduceSub, Nat.reduceAdd, hK_pI, hL_pI, hI_pI, hR_pI, hJ_pI, hT_pI, hS_pI, hK_pR, hL_pR, hI_pR, hR_pR, hJ_pR, hT_pR, hS_pR, hK_pJ, hL_pJ, hI_pJ, hR_pJ, hJ_pJ, hT_pJ, hS_pJ, hK_wI, hL_wI, hI_wI, hR_wI, hJ_wI, hT_wI, hS_wI, eq_self, and_true, true_and, and_false, false_and, or_true, true_or, or_false, false_or, if_true, if_false, not_true_eq_false, not_false_eq_true, forall_const, implies_true, false_implies, true_implies, Option.some.injEq, forall_eq', exists_eq_left', reduceCtorEq, Nat.reduceEqDiff, c1, T_X12_in, T_X12_ones, T_X11_within, T_X11_bit, T_X11_isIn, T_X11_oneIfIn, T_J6_bitCount_0f7a4, kk, tt]
    exact hq
  have hcall : T_X7_init [.ref (hT h)] (nC (pI h y 2 (-1)) 7 8) (fun r h' => c_X2_init_17 Q [some (.ref y), some (.ref z)] (r.toList ++ [.ref (hT h), .ref y]) h') := ⟨Nat.lt_succ_self (hT h), by rw [hK_nC, hT_pI, if_pos rfl], h17⟩
  simp only [b_X2_init_0, i_push, i_ild, i_ald, i_ist, i_ast, i_inc, i_bin, i_un, i_divs, i_i2l, i_lshl, i_lor, i_dup, i_dup2, i_pop, i_if, i_cmp, i_nul, i_vret, i_iret, i_zret, i_aret, i_keep, keep, lget, lset, ent, i_getI, i_getJ, i_getR, i_getN, i_putI, i_putZ, i_putJ, i_putR, i_iald, i_bald, i_alen, i_aald, i_iast, i_bast, i_aast, i_new, i_newa, i_anew, i_oini, i_callS, i_callV, i_callI, popn, sh4, i_sw, swP, i_copy, i_binS, List.map, Option.toList_none, Option.toList_some, List.append, List.nil_append, List.cons_append, List.length_cons, List.length_nil, List.replicate, Nat.sub_self, Nat.reduceSub, Nat.reduceAdd, hK_pI, hL_pI, hI_pI, hR_pI, hJ_pI, hT_pI, hS_pI, hK_pR, hL_pR, hI_pR, hR_pR, hJ_pR, hT_pR, hS_pR, hK_pJ, hL_pJ, hI_pJ, hR_pJ, hJ_pJ, hT_pJ, hS_pJ, hK_wI, hL_wI, hI_wI, hR_wI, hJ_wI, hT_wI, hS_wI, eq_self, and_true, true_and, and_false, false_and, or_true, true_or, or_false, false_or, if_true, if_false, not_true_eq_false, not_false_eq_true, forall_const, implies_true, false_implies, true_implies, Option.some.injEq, forall_eq', exists_eq_left', reduceCtorEq, Nat.reduceEqDiff, c1, T_X12_in, T_X12_ones, T_X11_within, T_X11_bit, T_X11_isIn, T_X11_oneIfIn, T_J6_bitCount_0f7a4, hy, hk, show fN 7 = 8 from rfl]
  first | exact hcall | exact ⟨by decide, hcall⟩
set_option maxRecDepth 100000 in
set_option maxHeartbeats 4000000 in
theorem ok_X2_init : ctr 2 MX2_init T_X2_init := by
  refine ctr_of pn_X2 wc_X2_init (fun av h Q hT => ?_)
  unfold T_X2_init at hT
  split at hT
  · rename_i y z
    refine ⟨⟨by simp [Value.category], Nat.le_of_ble_eq_true rfl⟩, s_X2_init_0 Q _ _ _ ?_⟩
    exact xin_X2 Q h y z hT.1 hT.2.1 hT.2.2
  · exact hT.elim
/-- what a text leaves in the class's heap, but for tape, fault and rules -/
def TxF (h h' : Hp) (L : Nat) (fa pl : Int32) : Prop := hT h' = hT h + 13 ∧ hS h' = hS h + (3 * L + 327) ∧ (∀ a, a < hT h → hK h' a = hK h a ∧ hL h' a = hL h a ∧ hJ h' a = hJ h a) ∧ (∀ a i, a < hT h → ¬ (a = 3 ∧ i = 3) → hR h' a i = hR h a i) ∧ (∀ a i, a < hT h → ¬ (a = 1 ∧ i = 1) → ¬ (a = 0 ∧ i = 4) → ¬ (a = 0 ∧ i = 5) → hI h' a i = hI h a i) ∧ hI h' 1 1 = 0 ∧ hI h' 0 4 = fa ∧ hI h' 0 5 = pl
def T_X11_text : Tr := fun av h Q => match av with
  | [.ref o] => o = 0 ∧ LayX h ∧ ∃ L B M, L ≤ 500 ∧ TpC (hI h) B L ∧ INV 0 M ∧ M 44 45 = -1 ∧
      ((pX B L 501 0 M 0).1 = false → ∀ h', TxF h h' L 1 (nI (bgT B L (pX B L 501 0 M 0).2.2)) → hR h' 3 3 = hR h 3 3 → Q (some (.int (-1))) h') ∧
      ((pX B L 501 0 M 0).1 = true → ¬ (pX B L 501 0 M 0).2.1 44 45 = -1 → ∀ h', TxF h h' L 3 ((pX B L 501 0 M 0).2.1 44 45) → hR h' 3 3 = hR h 3 3 → Q (some (.int (-1))) h') ∧
      ((pX B L 501 0 M 0).1 = true → (pX B L 501 0 M 0).2.1 44 45 = -1 → ∀ h' k, k ≤ 16 → INV k (pX B L 501 0 M 0).2.1 → TxF h h' L 0 (-1) → hR h' 3 3 = some (hT h + 5) → LayR h' (hT h + 5) → (∀ l, l < k → LnC (hI h') (pX B L 501 0 M 0).2.1 (hT h + 5) l) → hI h' (hT h + 5) 0 = nI k → Q (some (.int (nI k))) h')
  | _ => False
/-- the heap when the parser begins: f are the ints behind the tokens -/
def txH (h : Hp) (L : Nat) (f : Mem) : Hp := psH (nC (wI (tkH (nC h 10 6) (hT h) L) f) 2 6) (hT h + 4) (hT h)
section
variable (h : Hp) (L : Nat) (f : Mem)
theorem tkH_T (k : Nat) : hT (tkH h k L) = hT h + 3 := rfl
theorem txB_T : hT (nC (wI (tkH (nC h 10 6) (hT h) L) f) 2 6) = hT h + 5 := rfl
theorem txH_T : hT (txH h L f) = hT h + 13 := by
  show hT (mkA (nC (pI (nC (wI (tkH (nC h 10 6) (hT h) L) f) 2 6) (hT h + 4) 2 (-1)) 7 8) (hT h + 5) li_X7) = _
  rw [mkA_T]; rfl
theorem txH_S : hS (txH h L f) = hS h + (3 * L + 327) := by
  show hS (mkA (nC (pI (nC (wI (tkH (nC h 10 6) (hT h) L) f) 2 6) (hT h + 4) 2 (-1)) 7 8) (hT h + 5) li_X7) = _
  rw [mkA_S]
  show hS h + 6 + (L + 1) + (L + 1) + (L + 1) + 6 + 8 + 304 = _
  omega
/-- cells below the rules -/
theorem txH_K (a : Nat) (ha : a < hT h + 5) : hK (txH h L f) a = if a = hT h + 4 then 2 else if a = hT h + 3 then 14 else if a = hT h + 2 then 14 else if a = hT h + 1 then 14 else if a = hT h then 10 else hK h a := by
  show hK (mkA (nC (pI (nC (wI (tkH (nC h 10 6) (hT h) L) f) 2 6) (hT h + 4) 2 (-1)) 7 8) (hT h + 5) li_X7) a = _
  rw [(mkA_old li_X7 _ (hT h + 5) a (by rw [hT_nC, hT_pI, txB_T]; omega)).1, hK_nC, hT_pI, txB_T, if_neg (by omega)]
  rfl
theorem txH_L (a : Nat) (ha : a < hT h + 5) : hL (txH h L f) a = if a = hT h + 4 then 6 else if a = hT h + 3 then L + 1 else if a = hT h + 2 then L + 1 else if a = hT h + 1 then L + 1 else if a = hT h then 6 else hL h a := by
  show hL (mkA (nC (pI (nC (wI (tkH (nC h 10 6) (hT h) L) f) 2 6) (hT h + 4) 2 (-1)) 7 8) (hT h + 5) li_X7) a = _
  rw [(mkA_old li_X7 _ (hT h + 5) a (by rw [hT_nC, hT_pI, txB_T]; omega)).2.1, hL_nC, hT_pI, txB_T, if_neg (by omega)]
  rfl
theorem txH_J (a : Nat) (ha : a < hT h) : hJ (txH h L f) a = hJ h a := by
  funext i
  show hJ (mkA (nC (pI (nC (wI (tkH (nC h 10 6) (hT h) L) f) 2 6) (hT h + 4) 2 (-1)) 7 8) (hT h + 5) li_X7) a i = _
  rw [(mkA_old li_X7 _ (hT h + 5) a (by rw [hT_nC, hT_pI, txB_T]; omega)).2.2.2.1 i, hJ_nC, hT_pI, txB_T, if_neg (by omega), hJ_pI, hJ_nC, if_neg (by show ¬ a = hT h + 4; omega), hJ_wI]
  simp only [tkH, hJ_pR, hJ_nC, hT_pR, hT_nC]
  rw [if_neg (by omega), if_neg (by omega), if_neg (by omega), if_neg (by omega)]
theorem txH_I (a i : Nat) (ha : a < hT h + 5) : hI (txH h L f) a i = if a = hT h + 4 then (if i = 5 then -1 else if i = 4 then 0 else if i = 2 then -1 else 0) else f a i := by
  show (if a = hT h + 4 ∧ i = 5 then -1 else if a = hT h + 4 ∧ i = 4 then 0 else hI (mkA (nC (pI (nC (wI (tkH (nC h 10 6) (hT h) L) f) 2 6) (hT h + 4) 2 (-1)) 7 8) (hT h + 5) li_X7) a i) = _
  rw [(mkA_old li_X7 _ (hT h + 5) a (by rw [hT_nC, hT_pI, txB_T]; omega)).2.2.1 i, hI_nC, hT_pI, txB_T, if_neg (c := a = hT h + 5) (by omega), hI_pI, hI_nC]
  by_cases c : a = hT h + 4
  · rw [if_pos c]
    by_cases c5 : i = 5
    · rw [if_pos ⟨c, c5⟩, if_pos c5]
    · rw [if_neg (fun z => c5 z.2), if_neg c5]
      by_cases c4 : i = 4
      · rw [if_pos ⟨c, c4⟩, if_pos c4]
      · rw [if_neg (fun z => c4 z.2), if_neg c4]
        by_cases c2 : i = 2
        · rw [if_pos ⟨c, c2⟩, if_pos c2]
        · rw [if_neg (fun z => c2 z.2), if_neg c2]
          exact if_pos c
  · rw [if_neg (fun z => c z.1), if_neg (fun z => c z.1), if_neg (fun z => c z.1), if_neg c]
    exact if_neg c
theorem txH_R (a i : Nat) (ha : a < hT h) : hR (txH h L f) a i = hR h a i := by
  have e4 : ¬ a = hT h + 4 := by omega
  show (if a = hT h + 4 ∧ i = 0 then some (hT h) else if a = hT h + 4 ∧ i = 3 then some (hT h + 5) else hR (mkA (nC (pI (nC (wI (tkH (nC h 10 6) (hT h) L) f) 2 6) (hT h + 4) 2 (-1)) 7 8) (hT h + 5) li_X7) a i) = _
  rw [if_neg (fun z => e4 z.1), if_neg (fun z => e4 z.1), (mkA_old li_X7 _ (hT h + 5) a (by rw [hT_nC, hT_pI, txB_T]; omega)).2.2.2.2 i (Or.inl (by omega)), hR_nC, hT_pI, txB_T, if_neg (by omega), hR_pI, hR_nC, if_neg (by show ¬ a = hT h + 4; omega), hR_wI]
  have e0 : ¬ a = hT h := by omega
  have e1 : ¬ a = hT h + 1 := by omega
  have e2 : ¬ a = hT h + 1 + 1 := by omega
  have e3 : ¬ a = hT h + 1 + 1 + 1 := by omega
  simp only [tkH, hR_pR, hR_nC, hT_pR, hT_nC, e0, e1, e2, e3, false_and, if_false]
theorem txH_Rz : hR (txH h L f) (hT h) 0 = some 1 ∧ hR (txH h L f) (hT h) 2 = some (hT h + 1) ∧ hR (txH h L f) (hT h) 3 = some (hT h + 2) ∧ hR (txH h L f) (hT h) 4 = some (hT h + 3) := by
  have e4 : ¬ hT h = hT h + 4 := by omega
  have g : ∀ i, hR (txH h L f) (hT h) i = hR (tkH (nC h 10 6) (hT h) L) (hT h) i := fun i => by
    show (if hT h = hT h + 4 ∧ i = 0 then some (hT h) else if hT h = hT h + 4 ∧ i = 3 then some (hT h + 5) else hR (mkA (nC (pI (nC (wI (tkH (nC h 10 6) (hT h) L) f) 2 6) (hT h + 4) 2 (-1)) 7 8) (hT h + 5) li_X7) (hT h) i) = _
    rw [if_neg (fun z => e4 z.1), if_neg (fun z => e4 z.1), (mkA_old li_X7 _ (hT h + 5) (hT h) (by rw [hT_nC, hT_pI, txB_T]; omega)).2.2.2.2 i (Or.inl (by omega)), hR_nC, hT_pI, txB_T, if_neg (by omega), hR_pI, hR_nC, if_neg (by show ¬ hT h = hT h + 4; omega), hR_wI]
  have e1 : ¬ hT h = hT h + 1 := by omega
  have e2 : ¬ hT h = hT h + 1 + 1 := by omega
  have e3 : ¬ hT h = hT h + 1 + 1 + 1 := by omega
  rw [g, g, g, g]
  refine ⟨?_, ?_, ?_, ?_⟩ <;> simp only [tkH, hR_pR, hR_nC, hT_pR, hT_nC, e1, e2, e3, true_and, Nat.reduceEqDiff, if_true, if_false, eq_self]
theorem txH_Ry : hR (txH h L f) (hT h + 4) 0 = some (hT h) ∧ hR (txH h L f) (hT h + 4) 3 = some (hT h + 5) := by
  refine ⟨?_, ?_⟩
  · show (if hT h + 4 = hT h + 4 ∧ 0 = 0 then some (hT h) else _) = _
    rw [if_pos ⟨rfl, rfl⟩]
  · show (if hT h + 4 = hT h + 4 ∧ 3 = 0 then some (hT h) else if hT h + 4 = hT h + 4 ∧ 3 = 3 then some (hT h + 5) else _) = _
    rw [if_neg (by omega), if_pos ⟨rfl, rfl⟩]
/-- the rules' cells -/
theorem txH_q (t j k n : Nat) (hl : li_X7[t]? = some (j, k, n)) : hK (txH h L f) (hT h + 6 + t) = k ∧ hL (txH h L f) (hT h + 6 + t) = n ∧ (∀ i, hI (txH h L f) (hT h + 6 + t) i = 0) ∧ hR (txH h L f) (hT h + 5) j = some (hT h + 6 + t) := by
  obtain ⟨m1, m2, m3, m4'⟩ := mkA_new li_X7 (nC (pI (nC (wI (tkH (nC h 10 6) (hT h) L) f) 2 6) (hT h + 4) 2 (-1)) 7 8) (hT h + 5) t j k n (by rw [hT_nC, hT_pI, txB_T]; omega) (by decide) hl
  rw [hT_nC, hT_pI, txB_T] at m1 m2 m3 m4'
  refine ⟨m1, m2, fun i => ?_, ?_⟩
  · show (if hT h + 6 + t = hT h + 4 ∧ i = 5 then -1 else if hT h + 6 + t = hT h + 4 ∧ i = 4 then 0 else hI (mkA (nC (pI (nC (wI (tkH (nC h 10 6) (hT h) L) f) 2 6) (hT h + 4) 2 (-1)) 7 8) (hT h + 5) li_X7) (hT h + 6 + t) i) = _
    rw [if_neg (by omega), if_neg (by omega)]; exact m3 i
  · show (if hT h + 5 = hT h + 4 ∧ j = 0 then some (hT h) else if hT h + 5 = hT h + 4 ∧ j = 3 then some (hT h + 5) else hR (mkA (nC (pI (nC (wI (tkH (nC h 10 6) (hT h) L) f) 2 6) (hT h + 4) 2 (-1)) 7 8) (hT h + 5) li_X7) (hT h + 5) j) = _
    rw [if_neg (by omega), if_neg (by omega)]; exact m4'
theorem txH_q0 : hK (txH h L f) (hT h + 5) = 7 ∧ ∀ i, hI (txH h L f) (hT h + 5) i = 0 := by
  obtain ⟨o1, _, o3, _⟩ := mkA_old li_X7 (nC (pI (nC (wI (tkH (nC h 10 6) (hT h) L) f) 2 6) (hT h + 4) 2 (-1)) 7 8) (hT h + 5) (hT h + 5) (by rw [hT_nC, hT_pI, txB_T]; omega)
  refine ⟨o1.trans (by rw [hK_nC, hT_pI, txB_T, if_pos rfl]), fun i => ?_⟩
  show (if hT h + 5 = hT h + 4 ∧ i = 5 then -1 else if hT h + 5 = hT h + 4 ∧ i = 4 then 0 else hI (mkA (nC (pI (nC (wI (tkH (nC h 10 6) (hT h) L) f) 2 6) (hT h + 4) 2 (-1)) 7 8) (hT h + 5) li_X7) (hT h + 5) i) = _
  rw [if_neg (by omega), if_neg (by omega), o3 i, hI_nC, hT_pI, txB_T, if_pos rfl]
end
theorem txH_LR (h : Hp) (L : Nat) (f : Mem) (h90 : 90 ≤ hT h) : LayR (txH h L f) (hT h + 5) := by
  obtain ⟨a1, a2, _, a4⟩ := txH_q h L f 0 1 14 16 rfl
  obtain ⟨b1, b2, _, b4⟩ := txH_q h L f 1 2 14 64 rfl
  obtain ⟨c1, c2, _, c4⟩ := txH_q h L f 2 3 14 64 rfl
  obtain ⟨d1, d2, _, d4⟩ := txH_q h L f 3 4 14 64 rfl
  obtain ⟨e1, e2, _, e4⟩ := txH_q h L f 4 5 15 64 rfl
  obtain ⟨f1, f2, _, f4⟩ := txH_q h L f 5 6 14 16 rfl
  obtain ⟨g1, g2, _, g4⟩ := txH_q h L f 6 7 14 16 rfl
  exact ⟨Or.inr (by omega), by rw [txH_T]; omega, (txH_q0 h L f).1, a1, b1, c1, d1, e1, f1, g1, a4, b4, c4, d4, e4, f4, g4, a2, b2, c2, d2, e2, f2, g2⟩
theorem txH_LT (h : Hp) (L : Nat) (f : Mem) (h90 : 90 ≤ hT h) : LayT (txH h L f) (hT h) L := by
  obtain ⟨r0, r2, r3, r4⟩ := txH_Rz h L f
  refine ⟨h90, by rw [txH_T]; omega, ?_, ?_, ?_, ?_, r0, r2, r3, r4, ?_, ?_, ?_⟩
  · rw [txH_K h L f _ (by omega), if_neg (by omega), if_neg (by omega), if_neg (by omega), if_neg (by omega), if_pos rfl]
  · rw [txH_K h L f _ (by omega), if_neg (by omega), if_neg (by omega), if_neg (by omega), if_pos rfl]
  · rw [txH_K h L f _ (by omega), if_neg (by omega), if_neg (by omega), if_pos rfl]
  · rw [txH_K h L f _ (by omega), if_neg (by omega), if_pos rfl]
  · rw [txH_L h L f _ (by omega), if_neg (by omega), if_neg (by omega), if_neg (by omega), if_pos rfl]
  · rw [txH_L h L f _ (by omega), if_neg (by omega), if_neg (by omega), if_pos rfl]
  · rw [txH_L h L f _ (by omega), if_neg (by omega), if_pos rfl]
