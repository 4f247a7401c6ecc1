/-! ===== the class: Placer.begin ===== -/
def bgM (f : Mem) (k : Nat) : Mem := fun x i => if x = 41 ∧ i < k then 0 else if x = 43 ∧ i < k then cpX f i else f x i
theorem bgM_0 (f : Mem) : bgM f 0 = f := by
  funext x i
  unfold bgM
  rw [if_neg (fun z => by omega), if_neg (fun z => by omega)]
theorem bgM_o (f : Mem) (k : Nat) {a : Nat} (h : a ≠ 41 ∧ a ≠ 43) (i : Nat) : bgM f k a i = f a i := by
  unfold bgM
  rw [if_neg (fun z => h.1 z.1), if_neg (fun z => h.2 z.1)]
theorem bgM_s (f : Mem) (k : Nat) : u2 (u2 (bgM f k) 41 k 0) 43 k (cpX f k) = bgM f (k + 1) := by
  funext x i
  unfold u2 bgM
  by_cases x42 : x = 43
  · subst x42
    have n40 : ∀ z, ¬ (43 = 41 ∧ z) := fun _ y => absurd y.1 (by decide)
    rw [if_neg (n40 _), if_neg (n40 _), if_neg (n40 _)]
    by_cases e : i = k
    · rw [if_pos ⟨rfl, e⟩, if_pos ⟨rfl, by omega⟩, e]
    · rw [if_neg (fun z => e z.2)]
      by_cases e2 : i < k
      · rw [if_pos ⟨rfl, e2⟩, if_pos ⟨rfl, by omega⟩]
      · rw [if_neg (fun z => e2 z.2), if_neg (fun z => by omega)]
  · have n42 : ∀ z, ¬ (x = 43 ∧ z) := fun _ y => x42 y.1
    rw [if_neg (n42 _), if_neg (n42 _), if_neg (n42 _)]
    by_cases x40 : x = 41
    · subst x40
      by_cases e : i = k
      · rw [if_pos ⟨rfl, e⟩, if_pos ⟨rfl, by omega⟩]
      · rw [if_neg (fun z => e z.2)]
        by_cases e2 : i < k
        · rw [if_pos ⟨rfl, e2⟩, if_pos ⟨rfl, by omega⟩]
        · rw [if_neg (fun z => e2 z.2), if_neg (fun z => by omega)]
    · rw [if_neg (fun z => x40 z.1), if_neg (fun z => x40 z.1), if_neg (fun z => x40 z.1)]
def L_X4_begin : List UInt8 := [42, 27, 181, 0, 47, 42, 3, 181, 0, 51, 3, 61, 28, 42, 180, 0, 43, 180, 0, 55, 180, 0, 61, 162, 0, 34, 42, 180, 0, 34, 28, 3, 79, 42, 180, 0, 40, 28, 42, 180, 0, 43, 180, 0, 55, 28, 27, 182, 0, 65, 79, 132, 2, 1, 167, 255, 214, 177]
theorem Lc_X4_begin : MX4_begin.2.1 = ⟨L_X4_begin.toArray⟩ := rfl
theorem D_X4_begin_0 : dseq MX4_begin.2.1 0 [(.aload_n 0, 1), (.iload_n 1, 1), (.putfield 47, 3), (.aload_n 0, 1), (.iconst 0, 1), (.putfield 51, 3), (.iconst 0, 1), (.istore_n 2, 1)] := dq Lc_X4_begin 0 _ (by decide +kernel)
theorem D_X4_begin_12 : dseq MX4_begin.2.1 12 [(.iload_n 2, 1), (.aload_n 0, 1), (.getfield 43, 3), (.getfield 55, 3), (.getfield 61, 3), (.if_icmp .ge 34, 3), (.aload_n 0, 1), (.getfield 34, 3), (.iload_n 2, 1), (.iconst 0, 1), (.iastore, 1), (.aload_n 0, 1), (.getfield 40, 3), (.iload_n 2, 1), (.aload_n 0, 1), (.getfield 43, 3), (.getfield 55, 3), (.iload_n 2, 1), (.iload_n 1, 1), (.invokevirtual 65, 3), (.iastore, 1), (.iinc 2 1, 3), (.goto (-42), 3)] := dq Lc_X4_begin 12 _ (by decide +kernel)
theorem D_X4_begin_57 : dseq MX4_begin.2.1 57 [(.return_, 1)] := dq Lc_X4_begin 57 _ (by decide +kernel)
def c_X4_begin_50 (Q : Option Value → Hp → Prop) : Kt := i_iast (i_inc 2 1 (i_keep [true, true, true] (wp 1 MX4_begin Q 12)))
def b_X4_begin_0 (Q : Option Value → Hp → Prop) : Kt := i_ald 0 (i_ild 1 (i_putZ 4 1 (i_ald 0 (i_push (.int 0) (i_putI 4 2 (i_push (.int 0) (i_ist 2 (i_keep [true, true, true] (wp 1 MX4_begin Q 12)))))))))
set_option maxRecDepth 100000 in
theorem s_X4_begin_0 (Q : Option Value → Hp → Prop) : ∀ A st h, b_X4_begin_0 Q A st h → wp 1 MX4_begin Q 0 A st h := (q1 (s_aldn (n := 0) (i := 0) rfl) D_X4_begin_0 fun D => (q1 (s_ildn (n := 1) (i := 1) rfl) D fun D => (qP pl_X4_47 rfl (Or.inl rfl) D fun D => (q1 (s_aldn (n := 0) (i := 0) rfl) D fun D => (q1 (s_iconst (n := 0) (v := 0) (by decide)) D fun D => (qP pl_X4_51 rfl (Or.inl rfl) D fun D => (q1 (s_iconst (n := 0) (v := 0) (by decide)) D fun D => (qL (s_istn (n := 2) (i := 2) rfl) (by decide) D fun D => (s_keep [true, true, true] fun _ _ _ h => h)))))))))
def b_X4_begin_12 (Q : Option Value → Hp → Prop) : Kt := i_ild 2 (i_ald 0 (i_getR 4 0 (i_getR 8 0 (i_getI 6 0 (i_cmp (fun x y => y ≤ x) (i_vret Q) (i_ald 0 (i_getR 4 10 (i_ild 2 (i_push (.int 0) (i_iast (i_ald 0 (i_getR 4 12 (i_ild 2 (i_ald 0 (i_getR 4 0 (i_getR 8 0 (i_ild 2 (i_ild 1 (i_callV 6 2 T_X6_places (c_X4_begin_50 Q))))))))))))))))))))
set_option maxRecDepth 100000 in
theorem s_X4_begin_12 (Q : Option Value → Hp → Prop) : ∀ A st h, b_X4_begin_12 Q A st h → wp 1 MX4_begin Q 12 A st h := (q1 (s_ildn (n := 2) (i := 2) rfl) D_X4_begin_12 fun D => (q1 (s_aldn (n := 0) (i := 0) rfl) D fun D => (qC fl_X4_43 rfl D fun D => (qC fl_X4_55 rfl D fun D => (qC fl_X4_61 rfl D fun D => (qB s_cmpge 57 (by decide) D (qV rfl D_X4_begin_57) fun D => (q1 (s_aldn (n := 0) (i := 0) rfl) D fun D => (qC fl_X4_34 rfl D fun D => (q1 (s_ildn (n := 2) (i := 2) rfl) D fun D => (q1 (s_iconst (n := 0) (v := 0) (by decide)) D fun D => (q1 s_iast D fun D => (q1 (s_aldn (n := 0) (i := 0) rfl) D fun D => (qC fl_X4_40 rfl D fun D => (q1 (s_ildn (n := 2) (i := 2) rfl) D fun D => (q1 (s_aldn (n := 0) (i := 0) rfl) D fun D => (qC fl_X4_43 rfl D fun D => (qC fl_X4_55 rfl D fun D => (q1 (s_ildn (n := 2) (i := 2) rfl) D fun D => (q1 (s_ildn (n := 1) (i := 1) rfl) D fun D => (qX (s_callV kX6 rfl ok_X6_places mo_X6_places (ch_4_1_ok.2.2.2.2.2.2.2.2.2.2.2.2.2.2.1.1 rfl) (ch_4_1_ok.2.2.2.2.2.2.2.2.2.2.2.2.2.2.2.1.1 rfl) (ch_4_2_ok.1.1 rfl)) rfl (by decide) D fun D => (q1 s_iast D fun D => (qL (s_inc (i := 2) (n := 1) (v := 1) (by decide)) (by decide) D fun D => (qG 12 (by decide) D (s_keep [true, true, true] fun _ _ _ h => h))))))))))))))))))))))))

set_option maxRecDepth 100000 in
set_option maxHeartbeats 400000 in
theorem bg_17 (Q : Option Value → Hp → Prop) (h : Hp) (hl : LayX h) (f : Mem) (R : Nat) (cold : Int32) (hR : R ≤ 4) (h12 : f 12 0 = nI R) (hc : f 33 1 = cold) (hq : Q none (wI h (bgM f R))) :
    ∀ (m k : Nat), m = R - k → k ≤ R → wp 1 MX4_begin Q 12 [some (.ref 33), some (.int cold), some (.int (nI k))] [] (wI h (bgM f k)) := by
  intro m
  induction m with
  | zero =>
    intro k hm hk
    have e : k = R := by omega
    subst e
    have hl2 : LayX (wI h (bgM f k)) := hl
    have e12 : hI (wI h (bgM f k)) 12 0 = nI k := (bgM_o f k (by decide) 0).trans h12
    refine s_X4_begin_12 Q _ _ _ ?_
    generalize wI h (bgM f k) = H at hl2 e12 hq ⊢
    have hl := hl2
    simp only [b_X4_begin_12, lx_pI, lx_wI, lx_t hl, lx_k hl, lx_r hl, lx_l hl, i_push, i_ild, i_ald, i_ist, i_ast, i_inc, i_bin, i_un, i_divs, i_i2l, i_lshl, i_lor, i_dup, i_dup2, i_pop, i_if, i_cmp, i_nul, i_vret, i_iret, i_zret, i_aret, i_keep, keep, lget, lset, ent, i_getI, i_getJ, i_getR, i_getN, i_putI, i_putZ, i_putJ, i_putR, i_iald, i_bald, i_alen, i_aald, i_iast, i_bast, i_aast, i_new, i_newa, i_anew, i_oini, i_callS, i_callV, i_callI, popn, sh4, i_sw, swP, i_copy, i_binS, List.map, Option.toList_none, Option.toList_some, List.append, List.nil_append, List.cons_append, List.length_cons, List.length_nil, List.replicate, Nat.sub_self, Nat.reduceSub, Nat.reduceAdd, hK_pI, hL_pI, hI_pI, hR_pI, hJ_pI, hT_pI, hS_pI, hK_pR, hL_pR, hI_pR, hR_pR, hJ_pR, hT_pR, hS_pR, hK_pJ, hL_pJ, hI_pJ, hR_pJ, hJ_pJ, hT_pJ, hS_pJ, hK_wI, hL_wI, hI_wI, hR_wI, hJ_wI, hT_wI, hS_wI, eq_self, and_true, true_and, and_false, false_and, or_true, true_or, or_false, false_or, if_true, if_false, not_true_eq_false, not_false_eq_true, forall_const, implies_true, false_implies, true_implies, Option.some.injEq, forall_eq', exists_eq_left', reduceCtorEq, Nat.reduceEqDiff, c1, T_X12_in, T_X12_ones, T_X11_within, T_X11_bit, T_X11_isIn, T_X11_oneIfIn, T_J6_bitCount_0f7a4, e12]
    exact ⟨fun _ => hq, fun z => absurd (nI_le (Nat.le_refl _) (by omega)) z⟩
  | succ m ih =>
    intro k hm hk
    have hgo := ih (k + 1) (by omega) (by omega)
    rw [← bgM_s] at hgo
    have hH : wI h (u2 (u2 (bgM f k) 41 k 0) 43 k (cpX f k)) = pI (pI (wI h (bgM f k)) 41 k 0) 43 k (cpX f k) := rfl
    rw [hH] at hgo
    have hl2 : LayX (wI h (bgM f k)) := hl
    have e12 : hI (wI h (bgM f k)) 12 0 = nI R := (bgM_o f k (by decide) 0).trans h12
    have e13 : hI (wI h (bgM f k)) 13 k = f 13 k := bgM_o f k (a := 13) (by decide) k
    have e14 : hI (wI h (bgM f k)) 14 k = f 14 k := bgM_o f k (a := 14) (by decide) k
    have hcp : cpX f k = if cold = 0 then f 13 k else f 13 k + f 14 k := by unfold cpX; rw [hc]
    have hpl : T_X6_places [.ref 12, .int (nI k), .int cold] (pI (wI h (bgM f k)) 41 k 0) (fun x h' => c_X4_begin_50 Q [some (.ref 33), some (.int cold), some (.int (nI k))] (x.toList ++ [.int (nI k), .ref 43]) h') := by
      have h49 : ∀ v, v = cpX f k → c_X4_begin_50 Q [some (.ref 33), some (.int cold), some (.int (nI k))] [.int v, .int (nI k), .ref 43] (pI (wI h (bgM f k)) 41 k 0) := by
        intro v hv
        subst hv
        generalize wI h (bgM f k) = H at hl2 hgo ⊢
        generalize cpX f k = X at hgo ⊢
        have hl := hl2
        simp only [c_X4_begin_50, lx_pI, lx_wI, lx_t hl, lx_k hl, lx_r hl, lx_l hl, i_push, i_ild, i_ald, i_ist, i_ast, i_inc, i_bin, i_un, i_divs, i_i2l, i_lshl, i_lor, i_dup, i_dup2, i_pop, i_if, i_cmp, i_nul, i_vret, i_iret, i_zret, i_aret, i_keep, keep, lget, lset, ent, i_getI, i_getJ, i_getR, i_getN, i_putI, i_putZ, i_putJ, i_putR, i_iald, i_bald, i_alen, i_aald, i_iast, i_bast, i_aast, i_new, i_newa, i_anew, i_oini, i_callS, i_callV, i_callI, popn, sh4, i_sw, swP, i_copy, i_binS, List.map, Option.toList_none, Option.toList_some, List.append, List.nil_append, List.cons_append, List.length_cons, List.length_nil, List.replicate, Nat.sub_self, Nat.reduceSub, Nat.reduceAdd, hK_pI, hL_pI, hI_pI, hR_pI, hJ_pI, hT_pI, hS_pI, hK_pR, hL_pR, hI_pR, hR_pR, hJ_pR, hT_pR, hS_pR, hK_pJ, hL_pJ, hI_pJ, hR_pJ, hJ_pJ, hT_pJ, hS_pJ, hK_wI, hL_wI, hI_wI, hR_wI, hJ_wI, hT_wI, hS_wI, eq_self, and_true, true_and, and_false, false_and, or_true, true_or, or_false, false_or, if_true, if_false, not_true_eq_false, not_false_eq_true, forall_const, implies_true, false_implies, true_implies, Option.some.injEq, forall_eq', exists_eq_left', reduceCtorEq, Nat.reduceEqDiff, c1, T_X12_in, T_X12_ones, T_X11_within, T_X11_bit, T_X11_isIn, T_X11_oneIfIn, T_J6_bitCount_0f7a4, cl_nI (show k < 2147483648 by omega), in_nI (show k < 4 by omega) (by decide), nI_1]
        exact hgo
      unfold T_X6_places
      generalize wI h (bgM f k) = H at hl2 e13 e14 h49 ⊢
      have hl := hl2
      simp only [b_X6_places_0, lx_pI, lx_wI, lx_t hl, lx_k hl, lx_r hl, lx_l hl, i_push, i_ild, i_ald, i_ist, i_ast, i_inc, i_bin, i_un, i_divs, i_i2l, i_lshl, i_lor, i_dup, i_dup2, i_pop, i_if, i_cmp, i_nul, i_vret, i_iret, i_zret, i_aret, i_keep, keep, lget, lset, ent, i_getI, i_getJ, i_getR, i_getN, i_putI, i_putZ, i_putJ, i_putR, i_iald, i_bald, i_alen, i_aald, i_iast, i_bast, i_aast, i_new, i_newa, i_anew, i_oini, i_callS, i_callV, i_callI, popn, sh4, i_sw, swP, i_copy, i_binS, List.map, Option.toList_none, Option.toList_some, List.append, List.nil_append, List.cons_append, List.length_cons, List.length_nil, List.replicate, Nat.sub_self, Nat.reduceSub, Nat.reduceAdd, hK_pI, hL_pI, hI_pI, hR_pI, hJ_pI, hT_pI, hS_pI, hK_pR, hL_pR, hI_pR, hR_pR, hJ_pR, hT_pR, hS_pR, hK_pJ, hL_pJ, hI_pJ, hR_pJ, hJ_pJ, hT_pJ, hS_pJ, hK_wI, hL_wI, hI_wI, hR_wI, hJ_wI, hT_wI, hS_wI, eq_self, and_true, true_and, and_false, false_and, or_true, true_or, or_false, false_or, if_true, if_false, not_true_eq_false, not_false_eq_true, forall_const, implies_true, false_implies, true_implies, Option.some.injEq, forall_eq', exists_eq_left', reduceCtorEq, Nat.reduceEqDiff, c1, T_X12_in, T_X12_ones, T_X11_within, T_X11_bit, T_X11_isIn, T_X11_oneIfIn, T_J6_bitCount_0f7a4, cl_nI (show k < 2147483648 by omega), in_nI (show k < 4 by omega) (by decide), e13, e14]
      exact ⟨fun z => h49 _ (by rw [hcp, if_pos z]), fun z => h49 _ (by rw [hcp, if_neg z])⟩
    refine s_X4_begin_12 Q _ _ _ ?_
    generalize wI h (bgM f k) = H at hl2 e12 hpl ⊢
    have hl := hl2
    simp only [b_X4_begin_12, lx_pI, lx_wI, lx_t hl, lx_k hl, lx_r hl, lx_l hl, i_push, i_ild, i_ald, i_ist, i_ast, i_inc, i_bin, i_un, i_divs, i_i2l, i_lshl, i_lor, i_dup, i_dup2, i_pop, i_if, i_cmp, i_nul, i_vret, i_iret, i_zret, i_aret, i_keep, keep, lget, lset, ent, i_getI, i_getJ, i_getR, i_getN, i_putI, i_putZ, i_putJ, i_putR, i_iald, i_bald, i_alen, i_aald, i_iast, i_bast, i_aast, i_new, i_newa, i_anew, i_oini, i_callS, i_callV, i_callI, popn, sh4, i_sw, swP, i_copy, i_binS, List.map, Option.toList_none, Option.toList_some, List.append, List.nil_append, List.cons_append, List.length_cons, List.length_nil, List.replicate, Nat.sub_self, Nat.reduceSub, Nat.reduceAdd, hK_pI, hL_pI, hI_pI, hR_pI, hJ_pI, hT_pI, hS_pI, hK_pR, hL_pR, hI_pR, hR_pR, hJ_pR, hT_pR, hS_pR, hK_pJ, hL_pJ, hI_pJ, hR_pJ, hJ_pJ, hT_pJ, hS_pJ, hK_wI, hL_wI, hI_wI, hR_wI, hJ_wI, hT_wI, hS_wI, eq_self, and_true, true_and, and_false, false_and, or_true, true_or, or_false, false_or, if_true, if_false, not_true_eq_false, not_false_eq_true, forall_const, implies_true, false_implies, true_implies, Option.some.injEq, forall_eq', exists_eq_left', reduceCtorEq, Nat.reduceEqDiff, c1, T_X12_in, T_X12_ones, T_X11_within, T_X11_bit, T_X11_isIn, T_X11_oneIfIn, T_J6_bitCount_0f7a4, e12, cl_nI (show k < 2147483648 by omega), in_nI (show k < 4 by omega) (by decide)]
    exact ⟨fun z => absurd z (nI_ge (by omega) (by omega)), fun _ => hpl⟩
def T_X4_begin : Tr := fun av h Q => match av with
  | [.ref o, .int cold] => o = 33 ∧ LayX h ∧ (cold = 0 ∨ cold = 1) ∧ ∃ R, R ≤ 4 ∧ hI h 12 0 = nI R ∧ Q none (wI h (bgM (u2 (u2 (hI h) 33 1 cold) 33 2 0) R))
  | _ => False
set_option maxRecDepth 100000 in
set_option maxHeartbeats 4000000 in
theorem ok_X4_begin : ctr 1 MX4_begin T_X4_begin := by
  refine ctr_of pn_X4 wc_X4_begin (fun av h Q hT => ?_)
  unfold T_X4_begin at hT
  split at hT
  · rename_i o cold
    refine ⟨⟨by simp [Value.category], Nat.le_of_ble_eq_true rfl⟩, s_X4_begin_0 Q _ _ _ ?_⟩
    obtain ⟨rfl, hl, hcold, R, hR, h12, hq⟩ := hT
    have h17 := bg_17 Q h hl (u2 (u2 (hI h) 33 1 cold) 33 2 0) R cold hR (by rw [u2_ne (by omega), u2_ne (by omega)]; exact h12) (by rw [u2_ne (by omega), u2_eq]) hq R 0 (by omega) (by omega)
    rw [bgM_0] at h17
    have hH : wI h (u2 (u2 (hI h) 33 1 cold) 33 2 0) = pI (pI h 33 1 cold) 33 2 0 := rfl
    rw [hH] at h17
    simp only [MX4_begin, b_X4_begin_0, lx_pI, lx_wI, lx_t hl, lx_k hl, lx_r hl, lx_l hl, i_push, i_ild, i_ald, i_ist, i_ast, i_inc, i_bin, i_un, i_divs, i_i2l, i_lshl, i_lor, i_dup, i_dup2, i_pop, i_if, i_cmp, i_nul, i_vret, i_iret, i_zret, i_aret, i_keep, keep, lget, lset, ent, i_getI, i_getJ, i_getR, i_getN, i_putI, i_putZ, i_putJ, i_putR, i_iald, i_bald, i_alen, i_aald, i_iast, i_bast, i_aast, i_new, i_newa, i_anew, i_oini, i_callS, i_callV, i_callI, popn, sh4, i_sw, swP, i_copy, i_binS, List.map, Option.toList_none, Option.toList_some, List.append, List.nil_append, List.cons_append, List.length_cons, List.length_nil, List.replicate, Nat.sub_self, Nat.reduceSub, Nat.reduceAdd, hK_pI, hL_pI, hI_pI, hR_pI, hJ_pI, hT_pI, hS_pI, hK_pR, hL_pR, hI_pR, hR_pR, hJ_pR, hT_pR, hS_pR, hK_pJ, hL_pJ, hI_pJ, hR_pJ, hJ_pJ, hT_pJ, hS_pJ, hK_wI, hL_wI, hI_wI, hR_wI, hJ_wI, hT_wI, hS_wI, eq_self, and_true, true_and, and_false, false_and, or_true, true_or, or_false, false_or, if_true, if_false, not_true_eq_false, not_false_eq_true, forall_const, implies_true, false_implies, true_implies, Option.some.injEq, forall_eq', exists_eq_left', reduceCtorEq, Nat.reduceEqDiff, c1, T_X12_in, T_X12_ones, T_X11_within, T_X11_bit, T_X11_isIn, T_X11_oneIfIn, T_J6_bitCount_0f7a4, hcold]
    exact h17
  · exact hT.elim
