/-! ===== the reference: move, copy ===== -/
theorem nI_mul (a b : Nat) : nI a * nI b = nI (a * b) := pk_mul a b
def T_X12_move : Tr := fun av h Q => match av with
  | [.ref a, .int n, .int f, .int t] => ∃ N F T : Nat, n = nI N ∧ f = nI F ∧ t = nI T ∧ a < hT h ∧ hK h a = 14 ∧ F ≠ T ∧ N * F + N ≤ hL h a ∧ N * T + N ≤ hL h a ∧ hL h a < 100000 ∧ Q none (cpI h a a (N * F) (N * T) N)
  | _ => False
def L_X12_move : List UInt8 := [3, 54, 4, 21, 4, 27, 162, 0, 25, 42, 27, 29, 104, 21, 4, 96, 42, 27, 28, 104, 21, 4, 96, 46, 79, 132, 4, 1, 167, 255, 231, 177]
theorem Lc_X12_move : MX12_move.2.1 = ⟨L_X12_move.toArray⟩ := rfl
theorem D_X12_move_0 : dseq MX12_move.2.1 0 [(.iconst 0, 1), (.istore 4, 2)] := dq Lc_X12_move 0 _ (by decide +kernel)
theorem D_X12_move_3 : dseq MX12_move.2.1 3 [(.iload 4, 2), (.iload_n 1, 1), (.if_icmp .ge 25, 3), (.aload_n 0, 1), (.iload_n 1, 1), (.iload_n 3, 1), (.imul, 1), (.iload 4, 2), (.iadd, 1), (.aload_n 0, 1), (.iload_n 1, 1), (.iload_n 2, 1), (.imul, 1), (.iload 4, 2), (.iadd, 1), (.iaload, 1), (.iastore, 1), (.iinc 4 1, 3), (.goto (-25), 3)] := dq Lc_X12_move 3 _ (by decide +kernel)
theorem D_X12_move_31 : dseq MX12_move.2.1 31 [(.return_, 1)] := dq Lc_X12_move 31 _ (by decide +kernel)
def b_X12_move_0 (Q : Option Value → Hp → Prop) : Kt := i_push (.int 0) (i_ist 4 (i_keep [true, true, true, true, true] (wp 0 MX12_move Q 3)))
set_option maxRecDepth 100000 in
theorem s_X12_move_0 (Q : Option Value → Hp → Prop) : ∀ A st h, b_X12_move_0 Q A st h → wp 0 MX12_move Q 0 A st h := (q1 (s_iconst (n := 0) (v := 0) (by decide)) D_X12_move_0 fun D => (qL s_ist (by decide) D fun D => (s_keep [true, true, true, true, true] fun _ _ _ h => h)))
def b_X12_move_3 (Q : Option Value → Hp → Prop) : Kt := i_ild 4 (i_ild 1 (i_cmp (fun x y => y ≤ x) (i_vret Q) (i_ald 0 (i_ild 1 (i_ild 3 (i_bin (fun x y => x * y) (i_ild 4 (i_bin (fun x y => x + y) (i_ald 0 (i_ild 1 (i_ild 2 (i_bin (fun x y => x * y) (i_ild 4 (i_bin (fun x y => x + y) (i_iald (i_iast (i_inc 4 1 (i_keep [true, true, true, true, true] (wp 0 MX12_move Q 3)))))))))))))))))))
set_option maxRecDepth 100000 in
theorem s_X12_move_3 (Q : Option Value → Hp → Prop) : ∀ A st h, b_X12_move_3 Q A st h → wp 0 MX12_move Q 3 A st h := (q1 s_ild D_X12_move_3 fun D => (q1 (s_ildn (n := 1) (i := 1) rfl) D fun D => (qB s_cmpge 31 (by decide) D (qV rfl D_X12_move_31) fun D => (q1 (s_aldn (n := 0) (i := 0) rfl) D fun D => (q1 (s_ildn (n := 1) (i := 1) rfl) D fun D => (q1 (s_ildn (n := 3) (i := 3) rfl) D fun D => (q1 s_mul D fun D => (q1 s_ild D fun D => (q1 s_add D fun D => (q1 (s_aldn (n := 0) (i := 0) rfl) D fun D => (q1 (s_ildn (n := 1) (i := 1) rfl) D fun D => (q1 (s_ildn (n := 2) (i := 2) rfl) D fun D => (q1 s_mul D fun D => (q1 s_ild D fun D => (q1 s_add D fun D => (q1 s_iald D fun D => (q1 s_iast D fun D => (qL (s_inc (i := 4) (n := 1) (v := 1) (by decide)) (by decide) D fun D => (qG 3 (by decide) D (s_keep [true, true, true, true, true] fun _ _ _ h => h))))))))))))))))))))

theorem cpI_step (h : Hp) (a sp dp k : Nat) (hd : sp + k < dp ∨ dp + k ≤ sp + k) (hne : ¬ sp = dp) (hd2 : dp + k < sp ∨ sp + k < dp + k) : True := trivial
theorem cpI_0 (h : Hp) (a b sp dp : Nat) : cpI h a b sp dp 0 = h := by
  unfold cpI
  have : (fun x i => if x = b ∧ dp ≤ i ∧ i < dp + 0 then hI h a (sp + (i - dp)) else hI h x i) = hI h := by
    funext x i
    rw [if_neg (by omega)]
  rw [this]
  rfl
theorem cpI_succ (h : Hp) (a sp dp k N : Nat) (hk : k < N) (hne : sp + N ≤ dp ∨ dp + N ≤ sp) : pI (cpI h a a sp dp k) a (dp + k) (hI (cpI h a a sp dp k) a (sp + k)) = cpI h a a sp dp (k + 1) := by
  have hv : hI (cpI h a a sp dp k) a (sp + k) = hI h a (sp + k) := by
    show (if a = a ∧ dp ≤ sp + k ∧ sp + k < dp + k then _ else _) = _
    rw [if_neg (by omega)]
  rw [hv]
  unfold pI
  show wI h _ = wI h _
  congr 1
  funext x i
  show (if x = a ∧ i = dp + k then hI h a (sp + k) else if x = a ∧ dp ≤ i ∧ i < dp + k then hI h a (sp + (i - dp)) else hI h x i) = (if x = a ∧ dp ≤ i ∧ i < dp + (k + 1) then hI h a (sp + (i - dp)) else hI h x i)
  by_cases hx : x = a
  · by_cases hi : i = dp + k
    · rw [if_pos ⟨hx, hi⟩, if_pos (by omega), show sp + (i - dp) = sp + k by omega]
    · rw [if_neg (by omega)]
      by_cases h2 : dp ≤ i ∧ i < dp + k
      · rw [if_pos ⟨hx, h2⟩, if_pos (by omega)]
      · rw [if_neg (by omega), if_neg (by omega)]
  · rw [if_neg (by omega), if_neg (by omega), if_neg (by omega)]
theorem lp_X12_move (Q : Option Value → Hp → Prop) (h : Hp) (a N F T : Nat) (ha : a < hT h) (hka : hK h a = 14) (hft : F ≠ T) (h1 : N * F + N ≤ hL h a) (h2 : N * T + N ≤ hL h a) (hb : hL h a < 100000) (hq : Q none (cpI h a a (N * F) (N * T) N)) :
    ∀ (m k : Nat), m = N - k → k ≤ N → wp 0 MX12_move Q 3 [some (.ref a), some (.int (nI N)), some (.int (nI F)), some (.int (nI T)), some (.int (nI k))] [] (cpI h a a (N * F) (N * T) k) := by
  have hov : N * F + N ≤ N * T ∨ N * T + N ≤ N * F := by
    rcases Nat.lt_or_gt_of_ne hft with q | q
    · left
      have := Nat.mul_le_mul_left N (show F + 1 ≤ T from q)
      rw [Nat.mul_add, Nat.mul_one] at this
      exact this
    · right
      have := Nat.mul_le_mul_left N (show T + 1 ≤ F from q)
      rw [Nat.mul_add, Nat.mul_one] at this
      exact this
  intro m
  induction m with
  | zero =>
    intro k hm hk
    have e : k = N := by omega
    subst e
    refine s_X12_move_3 Q _ _ _ ?_
    simp only [b_X12_move_3, i_push, i_ild, i_ald, i_ist, i_ast, i_inc, i_bin, i_un, i_divs, i_i2l, i_lshl, i_lor, i_dup, i_dup2, i_pop, i_if, i_cmp, i_nul, i_vret, i_iret, i_zret, i_aret, i_keep, keep, lget, lset, ent, i_getI, i_getJ, i_getR, i_getN, i_putI, i_putZ, i_putJ, i_putR, i_iald, i_bald, i_alen, i_aald, i_iast, i_bast, i_aast, i_new, i_newa, i_anew, i_oini, i_callS, i_callV, i_callI, popn, sh4, i_sw, swP, i_copy, i_binS, List.map, Option.toList_none, Option.toList_some, List.append, List.nil_append, List.cons_append, List.length_cons, List.length_nil, List.replicate, Nat.sub_self, Nat.reduceSub, Nat.reduceAdd, hK_pI, hL_pI, hI_pI, hR_pI, hJ_pI, hT_pI, hS_pI, hK_pR, hL_pR, hI_pR, hR_pR, hJ_pR, hT_pR, hS_pR, hK_pJ, hL_pJ, hI_pJ, hR_pJ, hJ_pJ, hT_pJ, hS_pJ, hK_wI, hL_wI, hI_wI, hR_wI, hJ_wI, hT_wI, hS_wI, eq_self, and_true, true_and, and_false, false_and, or_true, true_or, or_false, false_or, if_true, if_false, not_true_eq_false, not_false_eq_true, forall_const, implies_true, false_implies, true_implies, Option.some.injEq, forall_eq', exists_eq_left', reduceCtorEq, Nat.reduceEqDiff, c1, T_X12_in, T_X12_ones, T_X11_within, T_X11_bit, T_X11_isIn, T_X11_oneIfIn, T_J6_bitCount_0f7a4]
    exact ⟨fun _ => hq, fun c => absurd (nI_le (Nat.le_refl k) (by omega)) c⟩
  | succ m ih =>
    intro k hm hk
    refine s_X12_move_3 Q _ _ _ ?_
    simp only [b_X12_move_3, i_push, i_ild, i_ald, i_ist, i_ast, i_inc, i_bin, i_un, i_divs, i_i2l, i_lshl, i_lor, i_dup, i_dup2, i_pop, i_if, i_cmp, i_nul, i_vret, i_iret, i_zret, i_aret, i_keep, keep, lget, lset, ent, i_getI, i_getJ, i_getR, i_getN, i_putI, i_putZ, i_putJ, i_putR, i_iald, i_bald, i_alen, i_aald, i_iast, i_bast, i_aast, i_new, i_newa, i_anew, i_oini, i_callS, i_callV, i_callI, popn, sh4, i_sw, swP, i_copy, i_binS, List.map, Option.toList_none, Option.toList_some, List.append, List.nil_append, List.cons_append, List.length_cons, List.length_nil, List.replicate, Nat.sub_self, Nat.reduceSub, Nat.reduceAdd, hK_pI, hL_pI, hI_pI, hR_pI, hJ_pI, hT_pI, hS_pI, hK_pR, hL_pR, hI_pR, hR_pR, hJ_pR, hT_pR, hS_pR, hK_pJ, hL_pJ, hI_pJ, hR_pJ, hJ_pJ, hT_pJ, hS_pJ, hK_wI, hL_wI, hI_wI, hR_wI, hJ_wI, hT_wI, hS_wI, eq_self, and_true, true_and, and_false, false_and, or_true, true_or, or_false, false_or, if_true, if_false, not_true_eq_false, not_false_eq_true, forall_const, implies_true, false_implies, true_implies, Option.some.injEq, forall_eq', exists_eq_left', reduceCtorEq, Nat.reduceEqDiff, c1, T_X12_in, T_X12_ones, T_X11_within, T_X11_bit, T_X11_isIn, T_X11_oneIfIn, T_J6_bitCount_0f7a4]
    refine ⟨fun c => absurd c (nI_ge (by omega) (by omega)), fun _ => ?_⟩
    simp only [nI_mul, nI_add, nI_1, show hT (cpI h a a (N * F) (N * T) k) = hT h from rfl, show hK (cpI h a a (N * F) (N * T) k) = hK h from rfl, show hL (cpI h a a (N * F) (N * T) k) = hL h from rfl, ha, hka, true_and]
    refine ⟨in_nI (by omega) (by omega), in_nI (by omega) (by omega), ?_⟩
    rw [cl_nI (show N * T + k < 2147483648 by omega), cl_nI (show N * F + k < 2147483648 by omega), cpI_succ h a (N * F) (N * T) k N (by omega) hov]
    exact ih (k + 1) (by omega) (by omega)
set_option maxRecDepth 100000 in
set_option maxHeartbeats 4000000 in
theorem ok_X12_move : ctr 0 MX12_move T_X12_move := by
  refine ctr_of pn_X12 wc_X12_move (fun av h Q hT => ?_)
  unfold T_X12_move at hT
  split at hT
  · rename_i a n f t
    refine ⟨⟨by simp [Value.category], Nat.le_of_ble_eq_true rfl⟩, s_X12_move_0 Q _ _ _ ?_⟩
    simp only [MX12_move, b_X12_move_0, i_push, i_ild, i_ald, i_ist, i_ast, i_inc, i_bin, i_un, i_divs, i_i2l, i_lshl, i_lor, i_dup, i_dup2, i_pop, i_if, i_cmp, i_nul, i_vret, i_iret, i_zret, i_aret, i_keep, keep, lget, lset, ent, i_getI, i_getJ, i_getR, i_getN, i_putI, i_putZ, i_putJ, i_putR, i_iald, i_bald, i_alen, i_aald, i_iast, i_bast, i_aast, i_new, i_newa, i_anew, i_oini, i_callS, i_callV, i_callI, popn, sh4, i_sw, swP, i_copy, i_binS, List.map, Option.toList_none, Option.toList_some, List.append, List.nil_append, List.cons_append, List.length_cons, List.length_nil, List.replicate, Nat.sub_self, Nat.reduceSub, Nat.reduceAdd, hK_pI, hL_pI, hI_pI, hR_pI, hJ_pI, hT_pI, hS_pI, hK_pR, hL_pR, hI_pR, hR_pR, hJ_pR, hT_pR, hS_pR, hK_pJ, hL_pJ, hI_pJ, hR_pJ, hJ_pJ, hT_pJ, hS_pJ, hK_wI, hL_wI, hI_wI, hR_wI, hJ_wI, hT_wI, hS_wI, eq_self, and_true, true_and, and_false, false_and, or_true, true_or, or_false, false_or, if_true, if_false, not_true_eq_false, not_false_eq_true, forall_const, implies_true, false_implies, true_implies, Option.some.injEq, forall_eq', exists_eq_left', reduceCtorEq, Nat.reduceEqDiff, c1, T_X12_in, T_X12_ones, T_X11_within, T_X11_bit, T_X11_isIn, T_X11_oneIfIn, T_J6_bitCount_0f7a4]
    obtain ⟨N, F, T, rfl, rfl, rfl, ha, hka, hft, h1, h2, hb, hq⟩ := hT
    have hw := lp_X12_move Q h a N F T ha hka hft h1 h2 hb hq N 0 (by omega) (by omega)
    rw [cpI_0] at hw
    exact hw
  · exact hT.elim
