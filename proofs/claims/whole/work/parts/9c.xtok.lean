/-! ===== the class: TOKENS ===== -/
def LayT (h : Hp) (k L : Nat) : Prop := 90 ≤ k ∧ k + 3 < hT h ∧ hK h k = 10 ∧ hK h (k + 1) = 14 ∧ hK h (k + 2) = 14 ∧ hK h (k + 3) = 14 ∧ hR h k 0 = some 1 ∧ hR h k 2 = some (k + 1) ∧ hR h k 3 = some (k + 2) ∧ hR h k 4 = some (k + 3) ∧ hL h (k + 1) = L + 1 ∧ hL h (k + 2) = L + 1 ∧ hL h (k + 3) = L + 1
theorem LayT.f {h : Hp} {k L : Nat} (hn : LayT h k L) : k < hT h ∧ k + 1 < hT h ∧ k + 2 < hT h ∧ k + 3 < hT h ∧ hK h k = 10 ∧ hK h (k + 1) = 14 ∧ hK h (k + 2) = 14 ∧ hK h (k + 3) = 14 ∧ hR h k 0 = some 1 ∧ hR h k 2 = some (k + 1) ∧ hR h k 3 = some (k + 2) ∧ hR h k 4 = some (k + 3) ∧ hL h (k + 1) = L + 1 ∧ hL h (k + 2) = L + 1 ∧ hL h (k + 3) = L + 1 := by
  obtain ⟨_, a, c⟩ := hn
  exact ⟨by omega, by omega, by omega, by omega, c⟩
/-- the tape as the class has it -/
def TpC (f : Mem) (B : Nat → Int32) (L : Nat) : Prop := L ≤ 500 ∧ f 1 1 = nI L ∧ ∀ k, k < L → f 2 k &&& 255 = B k
theorem pI_same {h : Hp} {a j : Nat} {v : Int32} (e : hI h a j = v) : pI h a j v = h := by
  have : u2 (hI h) a j v = hI h := by
    funext b i
    by_cases c : b = a ∧ i = j
    · rw [c.1, c.2, u2_eq, e]
    · rw [u2_ne c]
  unfold pI
  rw [this]
  rfl
theorem pI_pI2 (h : Hp) (a j : Nat) (v w : Int32) : pI (pI h a j v) a j w = pI h a j w := by
  have : u2 (hI (pI h a j v)) a j w = u2 (hI h) a j w := by
    funext b i
    by_cases c : b = a ∧ i = j
    · rw [c.1, c.2, u2_eq, u2_eq]
    · rw [u2_ne c, u2_ne c]; exact u2_ne c
  show (hK h, hL h, u2 (hI (pI h a j v)) a j w, hR h, hJ h, hT h, hS h) = _
  rw [this]
  rfl
theorem TpC_pI {h : Hp} {B : Nat → Int32} {L : Nat} (ht : TpC (hI h) B L) {a : Nat} (ha : 3 ≤ a) (j : Nat) (v : Int32) : TpC (hI (pI h a j v)) B L := by
  obtain ⟨t1, t2, t3⟩ := ht
  refine ⟨t1, ?_, fun k hk => ?_⟩
  · rw [hI_pI, if_neg (by omega)]; exact t2
  · rw [hI_pI, if_neg (by omega)]; exact t3 k hk
theorem TpC_c {f g : Mem} {B : Nat → Int32} {L : Nat} (h1 : g 1 = f 1) (h2 : g 2 = f 2) (ht : TpC f B L) : TpC g B L := by
  unfold TpC at ht ⊢
  rw [h1, h2]; exact ht
theorem bat_go {h : Hp} (hl : LayX h) {k L : Nat} (hk : LayT h k L) {B : Nat → Int32} (ht : TpC (hI h) B L) {x : Nat} (hx : x ≤ 500) {Q : Option Value → Hp → Prop} (hq : Q (some (.int (sB B L x))) h) : T_X10_byteAt [.ref k, .int (nI x)] h Q := by
  obtain ⟨t1, t2, t3⟩ := ht
  have hf := hk.f
  unfold sB at hq
  unfold T_X10_byteAt
  simp only [b_X10_byteAt_0, lx_pI, lx_wI, lx_t hl, lx_k hl, lx_r hl, lx_l hl, i_push, i_ild, i_ald, i_ist, i_ast, i_inc, i_bin, i_un, i_divs, i_i2l, i_lshl, i_lor, i_dup, i_dup2, i_pop, i_if, i_cmp, i_nul, i_vret, i_iret, i_zret, i_aret, i_keep, keep, lget, lset, ent, i_getI, i_getJ, i_getR, i_getN, i_putI, i_putZ, i_putJ, i_putR, i_iald, i_bald, i_alen, i_aald, i_iast, i_bast, i_aast, i_new, i_newa, i_anew, i_oini, i_callS, i_callV, i_callI, popn, sh4, i_sw, swP, i_copy, i_binS, List.map, Option.toList_none, Option.toList_some, List.append, List.nil_append, List.cons_append, List.length_cons, List.length_nil, List.replicate, Nat.sub_self, Nat.reduceSub, Nat.reduceAdd, hK_pI, hL_pI, hI_pI, hR_pI, hJ_pI, hT_pI, hS_pI, hK_pR, hL_pR, hI_pR, hR_pR, hJ_pR, hT_pR, hS_pR, hK_pJ, hL_pJ, hI_pJ, hR_pJ, hJ_pJ, hT_pJ, hS_pJ, hK_wI, hL_wI, hI_wI, hR_wI, hJ_wI, hT_wI, hS_wI, eq_self, and_true, true_and, and_false, false_and, or_true, true_or, or_false, false_or, if_true, if_false, not_true_eq_false, not_false_eq_true, forall_const, implies_true, false_implies, true_implies, Option.some.injEq, forall_eq', exists_eq_left', reduceCtorEq, Nat.reduceEqDiff, c1, T_X12_in, T_X12_ones, T_X11_within, T_X11_bit, T_X11_isIn, T_X11_oneIfIn, T_J6_bitCount_0f7a4, hf, t2, cl_nI (show x < 2147483648 by omega)]
  refine ⟨fun z => absurd z (nI_pos (by omega)), fun _ => ⟨fun z => ?_, fun z => ?_⟩⟩
  · rw [if_neg (fun c => absurd z (nI_ge c (by omega)))] at hq; exact hq
  · have c : x < L := Nat.lt_of_not_le (fun c => z (nI_le c (by omega)))
    rw [if_pos c, ← t3 x c] at hq
    exact ⟨in_nI (by omega) (by decide), hq⟩
def T_X10_skipBlanks : Tr := fun av h Q => match av with
  | [.ref k] => LayX h ∧ ∃ B L a, LayT h k L ∧ TpC (hI h) B L ∧ a ≤ L ∧ hI h k 1 = nI a ∧ Q none (pI h k 1 (nI (kB B L a)))
  | _ => False
def L_X10_skipBlanks : List UInt8 := [42, 180, 0, 34, 42, 180, 0, 9, 180, 0, 15, 162, 0, 42, 42, 42, 180, 0, 34, 182, 0, 48, 16, 32, 159, 0, 16, 42, 42, 180, 0, 34, 182, 0, 48, 16, 10, 160, 0, 16, 42, 89, 180, 0, 34, 4, 96, 181, 0, 34, 167, 255, 206, 177]
theorem Lc_X10_skipBlanks : MX10_skipBlanks.2.1 = ⟨L_X10_skipBlanks.toArray⟩ := rfl
theorem D_X10_skipBlanks_0 : dseq MX10_skipBlanks.2.1 0 [(.aload_n 0, 1), (.getfield 34, 3), (.aload_n 0, 1), (.getfield 9, 3), (.getfield 15, 3), (.if_icmp .ge 42, 3), (.aload_n 0, 1), (.aload_n 0, 1), (.getfield 34, 3), (.invokevirtual 48, 3), (.bipush 32, 2), (.if_icmp .eq 16, 3), (.aload_n 0, 1), (.aload_n 0, 1), (.getfield 34, 3), (.invokevirtual 48, 3), (.bipush 10, 2), (.if_icmp .ne 16, 3)] := dq Lc_X10_skipBlanks 0 _ (by decide +kernel)
theorem D_X10_skipBlanks_53 : dseq MX10_skipBlanks.2.1 53 [(.return_, 1)] := dq Lc_X10_skipBlanks 53 _ (by decide +kernel)
theorem D_X10_skipBlanks_40 : dseq MX10_skipBlanks.2.1 40 [(.aload_n 0, 1), (.dup, 1), (.getfield 34, 3), (.iconst 1, 1), (.iadd, 1), (.putfield 34, 3), (.goto (-50), 3)] := dq Lc_X10_skipBlanks 40 _ (by decide +kernel)
def c_X10_skipBlanks_35 (Q : Option Value → Hp → Prop) : Kt := i_push (.int 10) (i_cmp (fun x y => x = y) (i_keep [true] (wp 1 MX10_skipBlanks Q 40)) (i_vret Q))
def c_X10_skipBlanks_22 (Q : Option Value → Hp → Prop) : Kt := i_push (.int 32) (i_cmp (fun x y => x = y) (i_keep [true] (wp 1 MX10_skipBlanks Q 40)) (i_ald 0 (i_ald 0 (i_getI 10 1 (i_callV 10 1 T_X10_byteAt (c_X10_skipBlanks_35 Q))))))
def b_X10_skipBlanks_0 (Q : Option Value → Hp → Prop) : Kt := i_ald 0 (i_getI 10 1 (i_ald 0 (i_getR 10 0 (i_getI 9 1 (i_cmp (fun x y => y ≤ x) (i_vret Q) (i_ald 0 (i_ald 0 (i_getI 10 1 (i_callV 10 1 T_X10_byteAt (c_X10_skipBlanks_22 Q))))))))))
set_option maxRecDepth 100000 in
theorem s_X10_skipBlanks_0 (Q : Option Value → Hp → Prop) : ∀ A st h, b_X10_skipBlanks_0 Q A st h → wp 1 MX10_skipBlanks Q 0 A st h := (q1 (s_aldn (n := 0) (i := 0) rfl) D_X10_skipBlanks_0 fun D => (qC fl_X10_34 rfl D fun D => (q1 (s_aldn (n := 0) (i := 0) rfl) D fun D => (qC fl_X10_9 rfl D fun D => (qC fl_X10_15 rfl D fun D => (qB s_cmpge 53 (by decide) D (qV rfl D_X10_skipBlanks_53) fun D => (q1 (s_aldn (n := 0) (i := 0) rfl) D fun D => (q1 (s_aldn (n := 0) (i := 0) rfl) D fun D => (qC fl_X10_34 rfl D fun D => (qX (s_callV kX10 rfl ok_X10_byteAt mo_X10_byteAt (ch_2_9_ok.2.1.1 rfl) (ch_2_9_ok.2.2.2.1.1 rfl) (pv_0.2.1)) rfl (by decide) D fun D => (q1 (s_bipush (n := 32) (v := 32) (by decide)) D fun D => (qB s_cmpeq 40 (by decide) D (s_keep [true] fun _ _ _ h => h) fun D => (q1 (s_aldn (n := 0) (i := 0) rfl) D fun D => (q1 (s_aldn (n := 0) (i := 0) rfl) D fun D => (qC fl_X10_34 rfl D fun D => (qX (s_callV kX10 rfl ok_X10_byteAt mo_X10_byteAt (ch_2_9_ok.2.1.1 rfl) (ch_2_9_ok.2.2.2.1.1 rfl) (pv_0.2.1)) rfl (by decide) D fun D => (q1 (s_bipush (n := 10) (v := 10) (by decide)) D fun D => (qBn s_cmpne2 53 (by decide) D (qV rfl D_X10_skipBlanks_53) fun D => (s_keep [true] fun _ _ _ h => h)))))))))))))))))))
def b_X10_skipBlanks_40 (Q : Option Value → Hp → Prop) : Kt := i_ald 0 (i_dup (i_getI 10 1 (i_push (.int 1) (i_bin (fun x y => x + y) (i_putI 10 1 (i_keep [true] (wp 1 MX10_skipBlanks Q 0)))))))
set_option maxRecDepth 100000 in
theorem s_X10_skipBlanks_40 (Q : Option Value → Hp → Prop) : ∀ A st h, b_X10_skipBlanks_40 Q A st h → wp 1 MX10_skipBlanks Q 40 A st h := (q1 (s_aldn (n := 0) (i := 0) rfl) D_X10_skipBlanks_40 fun D => (q1 s_dup D fun D => (qC fl_X10_34 rfl D fun D => (q1 (s_iconst (n := 1) (v := 1) (by decide)) D fun D => (q1 s_add D fun D => (qP pl_X10_34 rfl (Or.inl rfl) D fun D => (qG 0 (by decide) D (s_keep [true] fun _ _ _ h => h))))))))

set_option maxRecDepth 100000 in
set_option maxHeartbeats 400000 in
theorem sk_0 (Q : Option Value → Hp → Prop) (h : Hp) (hl : LayX h) (k L : Nat) (hk : LayT h k L) (B : Nat → Int32) (ht : TpC (hI h) B L) :
    ∀ (m a : Nat), m = L - a → a ≤ L → Q none (pI h k 1 (nI (kB B L a))) → wp 1 MX10_skipBlanks Q 0 [some (.ref k)] [] (pI h k 1 (nI a)) := by
  have hk90 := hk.1
  have hL := ht.1
  intro m
  induction m with
  | zero =>
    intro a hm ha hq
    have e : a = L := by omega
    subst e
    have hkB : kB B a a = a := nxN_stop (fun z => by have := z.1; omega)
    rw [hkB] at hq
    have hl2 : LayX (pI h k 1 (nI a)) := hl
    have hk2 : LayT (pI h k 1 (nI a)) k a := hk
    have e1 : hI (pI h k 1 (nI a)) k 1 = nI a := by rw [hI_pI, if_pos ⟨rfl, rfl⟩]
    have e2 := (TpC_pI ht (show 3 ≤ k by omega) 1 (nI a)).2.1
    refine s_X10_skipBlanks_0 Q _ _ _ ?_
    generalize pI h k 1 (nI a) = H at hl2 hk2 e1 e2 hq ⊢
    have hl := hl2
    have hf := hk2.f
    simp only [b_X10_skipBlanks_0, lx_pI, lx_wI, lx_t hl, lx_k hl, lx_r hl, lx_l hl, i_push, i_ild, i_ald, i_ist, i_ast, i_inc, i_bin, i_un, i_divs, i_i2l, i_lshl, i_lor, i_dup, i_dup2, i_pop, i_if, i_cmp, i_nul, i_vret, i_iret, i_zret, i_aret, i_keep, keep, lget, lset, ent, i_getI, i_getJ, i_getR, i_getN, i_putI, i_putZ, i_putJ, i_putR, i_iald, i_bald, i_alen, i_aald, i_iast, i_bast, i_aast, i_new, i_newa, i_anew, i_oini, i_callS, i_callV, i_callI, popn, sh4, i_sw, swP, i_copy, i_binS, List.map, Option.toList_none, Option.toList_some, List.append, List.nil_append, List.cons_append, List.length_cons, List.length_nil, List.replicate, Nat.sub_self, Nat.reduceSub, Nat.reduceAdd, hK_pI, hL_pI, hI_pI, hR_pI, hJ_pI, hT_pI, hS_pI, hK_pR, hL_pR, hI_pR, hR_pR, hJ_pR, hT_pR, hS_pR, hK_pJ, hL_pJ, hI_pJ, hR_pJ, hJ_pJ, hT_pJ, hS_pJ, hK_wI, hL_wI, hI_wI, hR_wI, hJ_wI, hT_wI, hS_wI, eq_self, and_true, true_and, and_false, false_and, or_true, true_or, or_false, false_or, if_true, if_false, not_true_eq_false, not_false_eq_true, forall_const, implies_true, false_implies, true_implies, Option.some.injEq, forall_eq', exists_eq_left', reduceCtorEq, Nat.reduceEqDiff, c1, T_X12_in, T_X12_ones, T_X11_within, T_X11_bit, T_X11_isIn, T_X11_oneIfIn, T_J6_bitCount_0f7a4, hf, e1, e2]
    exact ⟨fun _ => hq, fun z => absurd (nI_le (Nat.le_refl _) (by omega)) z⟩
  | succ m ih =>
    intro a hm ha hq
    have hl2 : LayX (pI h k 1 (nI a)) := hl
    have hk2 : LayT (pI h k 1 (nI a)) k L := hk
    have e1 : hI (pI h k 1 (nI a)) k 1 = nI a := by rw [hI_pI, if_pos ⟨rfl, rfl⟩]
    have ht2 := TpC_pI ht (show 3 ≤ k by omega) 1 (nI a)
    have e2 := ht2.2.1
    have hsb : sB B L a = B a := if_pos (by omega)
    have h40 : isBl (B a) → wp 1 MX10_skipBlanks Q 40 [some (.ref k)] [] (pI h k 1 (nI a)) := fun z => by
      have hgo := ih (a + 1) (by omega) (by omega) (by
        have : kB B L a = kB B L (a + 1) := nxN_go sBl_lt ⟨by omega, z⟩
        rw [← this]; exact hq)
      rw [← pI_pI2 h k 1 (nI a)] at hgo
      refine s_X10_skipBlanks_40 Q _ _ _ ?_
      generalize pI h k 1 (nI a) = H at hl2 hk2 e1 hgo ⊢
      have hl := hl2
      have hf := hk2.f
      simp only [b_X10_skipBlanks_40, lx_pI, lx_wI, lx_t hl, lx_k hl, lx_r hl, lx_l hl, i_push, i_ild, i_ald, i_ist, i_ast, i_inc, i_bin, i_un, i_divs, i_i2l, i_lshl, i_lor, i_dup, i_dup2, i_pop, i_if, i_cmp, i_nul, i_vret, i_iret, i_zret, i_aret, i_keep, keep, lget, lset, ent, i_getI, i_getJ, i_getR, i_getN, i_putI, i_putZ, i_putJ, i_putR, i_iald, i_bald, i_alen, i_aald, i_iast, i_bast, i_aast, i_new, i_newa, i_anew, i_oini, i_callS, i_callV, i_callI, popn, sh4, i_sw, swP, i_copy, i_binS, List.map, Option.toList_none, Option.toList_some, List.append, List.nil_append, List.cons_append, List.length_cons, List.length_nil, List.replicate, Nat.sub_self, Nat.reduceSub, Nat.reduceAdd, hK_pI, hL_pI, hI_pI, hR_pI, hJ_pI, hT_pI, hS_pI, hK_pR, hL_pR, hI_pR, hR_pR, hJ_pR, hT_pR, hS_pR, hK_pJ, hL_pJ, hI_pJ, hR_pJ, hJ_pJ, hT_pJ, hS_pJ, hK_wI, hL_wI, hI_wI, hR_wI, hJ_wI, hT_wI, hS_wI, eq_self, and_true, true_and, and_false, false_and, or_true, true_or, or_false, false_or, if_true, if_false, not_true_eq_false, not_false_eq_true, forall_const, implies_true, false_implies, true_implies, Option.some.injEq, forall_eq', exists_eq_left', reduceCtorEq, Nat.reduceEqDiff, c1, T_X12_in, T_X12_ones, T_X11_within, T_X11_bit, T_X11_isIn, T_X11_oneIfIn, T_J6_bitCount_0f7a4, hf, e1, nI_1]
      exact hgo
    have hst : ¬ isBl (B a) → Q none (pI h k 1 (nI a)) := fun z => by
      have hkB : kB B L a = a := nxN_stop (fun y => z y.2)
      rw [hkB] at hq; exact hq
    have h35 : ¬ B a = 32 → c_X10_skipBlanks_35 Q [some (.ref k)] [.int (B a)] (pI h k 1 (nI a)) := fun z => by
      generalize pI h k 1 (nI a) = H at h40 hst ⊢
      simp only [c_X10_skipBlanks_35, i_push, i_ild, i_ald, i_ist, i_ast, i_inc, i_bin, i_un, i_divs, i_i2l, i_lshl, i_lor, i_dup, i_dup2, i_pop, i_if, i_cmp, i_nul, i_vret, i_iret, i_zret, i_aret, i_keep, keep, lget, lset, ent, i_getI, i_getJ, i_getR, i_getN, i_putI, i_putZ, i_putJ, i_putR, i_iald, i_bald, i_alen, i_aald, i_iast, i_bast, i_aast, i_new, i_newa, i_anew, i_oini, i_callS, i_callV, i_callI, popn, sh4, i_sw, swP, i_copy, i_binS, List.map, Option.toList_none, Option.toList_some, List.append, List.nil_append, List.cons_append, List.length_cons, List.length_nil, List.replicate, Nat.sub_self, Nat.reduceSub, Nat.reduceAdd, hK_pI, hL_pI, hI_pI, hR_pI, hJ_pI, hT_pI, hS_pI, hK_pR, hL_pR, hI_pR, hR_pR, hJ_pR, hT_pR, hS_pR, hK_pJ, hL_pJ, hI_pJ, hR_pJ, hJ_pJ, hT_pJ, hS_pJ, hK_wI, hL_wI, hI_wI, hR_wI, hJ_wI, hT_wI, hS_wI, eq_self, and_true, true_and, and_false, false_and, or_true, true_or, or_false, false_or, if_true, if_false, not_true_eq_false, not_false_eq_true, forall_const, implies_true, false_implies, true_implies, Option.some.injEq, forall_eq', exists_eq_left', reduceCtorEq, Nat.reduceEqDiff, c1, T_X12_in, T_X12_ones, T_X11_within, T_X11_bit, T_X11_isIn, T_X11_oneIfIn, T_J6_bitCount_0f7a4]
      exact ⟨fun y => h40 (Or.inl y), fun y => hst (fun w => w.elim y z)⟩
    have h22 : c_X10_skipBlanks_22 Q [some (.ref k)] [.int (B a)] (pI h k 1 (nI a)) := by
      have hb2 : ¬ B a = 32 → T_X10_byteAt [.ref k, .int (nI a)] (pI h k 1 (nI a)) (fun r h' => c_X10_skipBlanks_35 Q [some (.ref k)] (r.toList ++ []) h') := fun z => bat_go hl2 hk2 ht2 (by omega) (by rw [hsb]; exact h35 z)
      generalize pI h k 1 (nI a) = H at hl2 hk2 e1 h40 hb2 ⊢
      have hl := hl2
      have hf := hk2.f
      simp only [c_X10_skipBlanks_22, lx_pI, lx_wI, lx_t hl, lx_k hl, lx_r hl, lx_l hl, i_push, i_ild, i_ald, i_ist, i_ast, i_inc, i_bin, i_un, i_divs, i_i2l, i_lshl, i_lor, i_dup, i_dup2, i_pop, i_if, i_cmp, i_nul, i_vret, i_iret, i_zret, i_aret, i_keep, keep, lget, lset, ent, i_getI, i_getJ, i_getR, i_getN, i_putI, i_putZ, i_putJ, i_putR, i_iald, i_bald, i_alen, i_aald, i_iast, i_bast, i_aast, i_new, i_newa, i_anew, i_oini, i_callS, i_callV, i_callI, popn, sh4, i_sw, swP, i_copy, i_binS, List.map, Option.toList_none, Option.toList_some, List.append, List.nil_append, List.cons_append, List.length_cons, List.length_nil, List.replicate, Nat.sub_self, Nat.reduceSub, Nat.reduceAdd, hK_pI, hL_pI, hI_pI, hR_pI, hJ_pI, hT_pI, hS_pI, hK_pR, hL_pR, hI_pR, hR_pR, hJ_pR, hT_pR, hS_pR, hK_pJ, hL_pJ, hI_pJ, hR_pJ, hJ_pJ, hT_pJ, hS_pJ, hK_wI, hL_wI, hI_wI, hR_wI, hJ_wI, hT_wI, hS_wI, eq_self, and_true, true_and, and_false, false_and, or_true, true_or, or_false, false_or, if_true, if_false, not_true_eq_false, not_false_eq_true, forall_const, implies_true, false_implies, true_implies, Option.some.injEq, forall_eq', exists_eq_left', reduceCtorEq, Nat.reduceEqDiff, c1, T_X12_in, T_X12_ones, T_X11_within, T_X11_bit, T_X11_isIn, T_X11_oneIfIn, T_J6_bitCount_0f7a4, hf, e1]
      exact ⟨fun y => h40 (Or.inr y), fun y => hb2 y⟩
    have hb1 : T_X10_byteAt [.ref k, .int (nI a)] (pI h k 1 (nI a)) (fun r h' => c_X10_skipBlanks_22 Q [some (.ref k)] (r.toList ++ []) h') := bat_go hl2 hk2 ht2 (by omega) (by rw [hsb]; exact h22)
    refine s_X10_skipBlanks_0 Q _ _ _ ?_
    generalize pI h k 1 (nI a) = H at hl2 hk2 e1 e2 hb1 ⊢
    have hl := hl2
    have hf := hk2.f
    simp only [b_X10_skipBlanks_0, lx_pI, lx_wI, lx_t hl, lx_k hl, lx_r hl, lx_l hl, i_push, i_ild, i_ald, i_ist, i_ast, i_inc, i_bin, i_un, i_divs, i_i2l, i_lshl, i_lor, i_dup, i_dup2, i_pop, i_if, i_cmp, i_nul, i_vret, i_iret, i_zret, i_aret, i_keep, keep, lget, lset, ent, i_getI, i_getJ, i_getR, i_getN, i_putI, i_putZ, i_putJ, i_putR, i_iald, i_bald, i_alen, i_aald, i_iast, i_bast, i_aast, i_new, i_newa, i_anew, i_oini, i_callS, i_callV, i_callI, popn, sh4, i_sw, swP, i_copy, i_binS, List.map, Option.toList_none, Option.toList_some, List.append, List.nil_append, List.cons_append, List.length_cons, List.length_nil, List.replicate, Nat.sub_self, Nat.reduceSub, Nat.reduceAdd, hK_pI, hL_pI, hI_pI, hR_pI, hJ_pI, hT_pI, hS_pI, hK_pR, hL_pR, hI_pR, hR_pR, hJ_pR, hT_pR, hS_pR, hK_pJ, hL_pJ, hI_pJ, hR_pJ, hJ_pJ, hT_pJ, hS_pJ, hK_wI, hL_wI, hI_wI, hR_wI, hJ_wI, hT_wI, hS_wI, eq_self, and_true, true_and, and_false, false_and, or_true, true_or, or_false, false_or, if_true, if_false, not_true_eq_false, not_false_eq_true, forall_const, implies_true, false_implies, true_implies, Option.some.injEq, forall_eq', exists_eq_left', reduceCtorEq, Nat.reduceEqDiff, c1, T_X12_in, T_X12_ones, T_X11_within, T_X11_bit, T_X11_isIn, T_X11_oneIfIn, T_J6_bitCount_0f7a4, hf, e1, e2]
    exact ⟨fun z => absurd z (nI_ge (by omega) (by omega)), fun _ => hb1⟩
set_option maxRecDepth 100000 in
set_option maxHeartbeats 4000000 in
theorem ok_X10_skipBlanks : ctr 1 MX10_skipBlanks T_X10_skipBlanks := by
  refine ctr_of pn_X10 wc_X10_skipBlanks (fun av h Q hT => ?_)
  unfold T_X10_skipBlanks at hT
  split at hT
  · rename_i k
    refine ⟨⟨by simp [Value.category], Nat.le_of_ble_eq_true rfl⟩, ?_⟩
    obtain ⟨hl, B, L, a, hk, ht, ha, hk1, hq⟩ := hT
    have := sk_0 Q h hl k L hk B ht (L - a) a rfl ha hq
    rw [pI_same hk1] at this
    exact this
  · exact hT.elim
/-- from b to e the tape spells word j -/
def SP (B : Nat → Int32) (b e j : Nat) : Prop := e - b = sLen.getD j 0 ∧ ∀ x, x < sLen.getD j 0 → B (b + x) = (sByt.getD j []).getD x 0
def T_X10_spells : Tr := fun av h Q => match av with
  | [.ref k, .int first, .retAddr j] => j < 16 ∧ LayX h ∧ ∃ B L b e, LayT h k L ∧ TpC (hI h) B L ∧ b ≤ e ∧ e ≤ L ∧ hI h k 1 = nI e ∧ first = nI b ∧ (SP B b e j → Q (some (.int 1)) h) ∧ (¬ SP B b e j → Q (some (.int 0)) h)
  | _ => False
def L_X10_spells : List UInt8 := [42, 180, 0, 34, 27, 100, 44, 182, 0, 110, 159, 0, 5, 3, 172, 3, 62, 29, 44, 182, 0, 110, 162, 0, 26, 42, 27, 29, 96, 182, 0, 48, 44, 29, 182, 0, 114, 159, 0, 5, 3, 172, 132, 3, 1, 167, 255, 228, 4, 172]
theorem Lc_X10_spells : MX10_spells.2.1 = ⟨L_X10_spells.toArray⟩ := rfl
theorem D_X10_spells_0 : dseq MX10_spells.2.1 0 [(.aload_n 0, 1), (.getfield 34, 3), (.iload_n 1, 1), (.isub, 1), (.aload_n 2, 1), (.invokevirtual 110, 3), (.if_icmp .eq 5, 3), (.iconst 0, 1), (.ireturn, 1)] := dq Lc_X10_spells 0 _ (by decide +kernel)
theorem D_X10_spells_15 : dseq MX10_spells.2.1 15 [(.iconst 0, 1), (.istore_n 3, 1)] := dq Lc_X10_spells 15 _ (by decide +kernel)
theorem D_X10_spells_17 : dseq MX10_spells.2.1 17 [(.iload_n 3, 1), (.aload_n 2, 1), (.invokevirtual 110, 3), (.if_icmp .ge 26, 3), (.aload_n 0, 1), (.iload_n 1, 1), (.iload_n 3, 1), (.iadd, 1), (.invokevirtual 48, 3), (.aload_n 2, 1), (.iload_n 3, 1), (.invokevirtual 114, 3), (.if_icmp .eq 5, 3), (.iconst 0, 1), (.ireturn, 1)] := dq Lc_X10_spells 17 _ (by decide +kernel)
theorem D_X10_spells_48 : dseq MX10_spells.2.1 48 [(.iconst 1, 1), (.ireturn, 1)] := dq Lc_X10_spells 48 _ (by decide +kernel)
theorem D_X10_spells_42 : dseq MX10_spells.2.1 42 [(.iinc 3 1, 3), (.goto (-28), 3)] := dq Lc_X10_spells 42 _ (by decide +kernel)
def c_X10_spells_32 (Q : Option Value → Hp → Prop) : Kt := i_ald 2 (i_ild 3 (i_callW 1 T_J0_charAt_5068e (i_cmp (fun x y => x = y) (i_inc 3 1 (i_keep [true, true, true, true] (wp 4 MX10_spells Q 17))) (i_push (.int 0) (i_zret Q)))))
def b_X10_spells_0 (Q : Option Value → Hp → Prop) : Kt := i_ald 0 (i_getI 10 1 (i_ild 1 (i_bin (fun x y => x - y) (i_ald 2 (i_callW 0 T_J0_length_8abf5 (i_cmp (fun x y => x = y) (i_push (.int 0) (i_ist 3 (i_keep [true, true, true, true] (wp 4 MX10_spells Q 17)))) (i_push (.int 0) (i_zret Q))))))))
set_option maxRecDepth 100000 in
theorem s_X10_spells_0 (Q : Option Value → Hp → Prop) : ∀ A st h, b_X10_spells_0 Q A st h → wp 4 MX10_spells Q 0 A st h := (q1 (s_aldn (n := 0) (i := 0) rfl) D_X10_spells_0 fun D => (qC fl_X10_34 rfl D fun D => (q1 (s_ildn (n := 1) (i := 1) rfl) D fun D => (q1 s_sub D fun D => (q1 (s_aldn (n := 2) (i := 2) rfl) D fun D => (qX (s_callW ok_J0_length_8abf5 mo_J0_length_8abf5 rfl (ch_2_10_ok.2.2.2.2.2.2.2.2.2.1.1 rfl) (ch_2_10_ok.2.2.2.2.2.2.2.2.2.2.1.1 rfl) (ch_2_10_ok.2.2.2.2.2.2.2.2.2.2.2.1.1 rfl)) rfl (by decide) D fun D => (qB s_cmpeq 15 (by decide) D (q1 (s_iconst (n := 0) (v := 0) (by decide)) D_X10_spells_15 fun D => (qL (s_istn (n := 3) (i := 3) rfl) (by decide) D fun D => (s_keep [true, true, true, true] fun _ _ _ h => h))) fun D => (q1 (s_iconst (n := 0) (v := 0) (by decide)) D fun D => (qZ rfl D)))))))))
def b_X10_spells_17 (Q : Option Value → Hp → Prop) : Kt := i_ild 3 (i_ald 2 (i_callW 0 T_J0_length_8abf5 (i_cmp (fun x y => y ≤ x) (i_push (.int 1) (i_zret Q)) (i_ald 0 (i_ild 1 (i_ild 3 (i_bin (fun x y => x + y) (i_callV 10 1 T_X10_byteAt (c_X10_spells_32 Q)))))))))
set_option maxRecDepth 100000 in
theorem s_X10_spells_17 (Q : Option Value → Hp → Prop) : ∀ A st h, b_X10_spells_17 Q A st h → wp 4 MX10_spells Q 17 A st h := (q1 (s_ildn (n := 3) (i := 3) rfl) D_X10_spells_17 fun D => (q1 (s_aldn (n := 2) (i := 2) rfl) D fun D => (qX (s_callW ok_J0_length_8abf5 mo_J0_length_8abf5 rfl (ch_2_10_ok.2.2.2.2.2.2.2.2.2.1.1 rfl) (ch_2_10_ok.2.2.2.2.2.2.2.2.2.2.1.1 rfl) (ch_2_10_ok.2.2.2.2.2.2.2.2.2.2.2.1.1 rfl)) rfl (by decide) D fun D => (qB s_cmpge 48 (by decide) D (q1 (s_iconst (n := 1) (v := 1) (by decide)) D_X10_spells_48 fun D => (qZ rfl D)) fun D => (q1 (s_aldn (n := 0) (i := 0) rfl) D fun D => (q1 (s_ildn (n := 1) (i := 1) rfl) D fun D => (q1 (s_ildn (n := 3) (i := 3) rfl) D fun D => (q1 s_add D fun D => (qX (s_callV kX10 rfl ok_X10_byteAt mo_X10_byteAt (ch_2_9_ok.2.1.1 rfl) (ch_2_9_ok.2.2.2.1.1 rfl) (pv_0.2.1)) rfl (by decide) D fun D => (q1 (s_aldn (n := 2) (i := 2) rfl) D fun D => (q1 (s_ildn (n := 3) (i := 3) rfl) D fun D => (qX (s_callW ok_J0_charAt_5068e mo_J0_charAt_5068e rfl (ch_2_11_ok.2.2.2.1.1 rfl) (ch_2_11_ok.2.2.2.2.1.1 rfl) (ch_2_11_ok.2.2.2.2.2.1.1 rfl)) rfl (by decide) D fun D => (qB s_cmpeq 42 (by decide) D (qL (s_inc (i := 3) (n := 1) (v := 1) (by decide)) (by decide) D_X10_spells_42 fun D => (qG 17 (by decide) D (s_keep [true, true, true, true] fun _ _ _ h => h))) fun D => (q1 (s_iconst (n := 0) (v := 0) (by decide)) D fun D => (qZ rfl D)))))))))))))))

set_option maxRecDepth 100000 in
set_option maxHeartbeats 400000 in
theorem spl_17 (Q : Option Value → Hp → Prop) (h : Hp) (hl : LayX h) (k L : Nat) (hk : LayT h k L) (B : Nat → Int32) (ht : TpC (hI h) B L) (b e j : Nat) (hj : j < 16) (hbe : b ≤ e) (heL : e ≤ L) (hlen : e - b = sLen.getD j 0) (hq1 : SP B b e j → Q (some (.int 1)) h) (hq0 : ¬ SP B b e j → Q (some (.int 0)) h) :
    ∀ (m x : Nat), m = sLen.getD j 0 - x → x ≤ sLen.getD j 0 → (∀ y, y < x → B (b + y) = (sByt.getD j []).getD y 0) → wp 4 MX10_spells Q 17 [some (.ref k), some (.int (nI b)), some (.retAddr j), some (.int (nI x))] [] h := by
  have hL := ht.1
  have h6 := sLen_6 j hj
  have hf := hk.f
  intro m
  induction m with
  | zero =>
    intro x hm hx hall
    have ex : x = sLen.getD j 0 := by omega
    have hgo := hq1 ⟨hlen, fun y hy => hall y (by omega)⟩
    have hle : nI (sLen.getD j 0) ≤ nI x := by rw [ex]; exact nI_le (Nat.le_refl _) (by omega)
    refine s_X10_spells_17 Q _ _ _ ?_
    simp only [b_X10_spells_17, T_J0_length_8abf5, i_push, i_ild, i_ald, i_ist, i_ast, i_inc, i_bin, i_un, i_divs, i_i2l, i_lshl, i_lor, i_dup, i_dup2, i_pop, i_if, i_cmp, i_nul, i_vret, i_iret, i_zret, i_aret, i_keep, keep, lget, lset, ent, i_getI, i_getJ, i_getR, i_getN, i_putI, i_putZ, i_putJ, i_putR, i_iald, i_bald, i_alen, i_aald, i_iast, i_bast, i_aast, i_new, i_newa, i_anew, i_oini, i_callS, i_callV, i_callI, popn, sh4, i_sw, swP, i_copy, i_binS, List.map, Option.toList_none, Option.toList_some, List.append, List.nil_append, List.cons_append, List.length_cons, List.length_nil, List.replicate, Nat.sub_self, Nat.reduceSub, Nat.reduceAdd, hK_pI, hL_pI, hI_pI, hR_pI, hJ_pI, hT_pI, hS_pI, hK_pR, hL_pR, hI_pR, hR_pR, hJ_pR, hT_pR, hS_pR, hK_pJ, hL_pJ, hI_pJ, hR_pJ, hJ_pJ, hT_pJ, hS_pJ, hK_wI, hL_wI, hI_wI, hR_wI, hJ_wI, hT_wI, hS_wI, eq_self, and_true, true_and, and_false, false_and, or_true, true_or, or_false, false_or, if_true, if_false, not_true_eq_false, not_false_eq_true, forall_const, implies_true, false_implies, true_implies, Option.some.injEq, forall_eq', exists_eq_left', reduceCtorEq, Nat.reduceEqDiff, c1, T_X12_in, T_X12_ones, T_X11_within, T_X11_bit, T_X11_isIn, T_X11_oneIfIn, T_J6_bitCount_0f7a4, i_sval, i_scod, i_slen, i_sbald, i_tret, i_callW, i_no, hj, hle]
    exact hgo
  | succ m ih =>
    intro x hm hx hall
    have hlt : ¬ nI (sLen.getD j 0) ≤ nI x := nI_ge (by omega) (by omega)
    have hsb : sB B L (b + x) = B (b + x) := if_pos (by omega)
    have h32 : c_X10_spells_32 Q [some (.ref k), some (.int (nI b)), some (.retAddr j), some (.int (nI x))] [.int (B (b + x))] h := by
      have hgo := fun z => ih (x + 1) (by omega) (by omega) z
      simp only [c_X10_spells_32, T_J0_charAt_5068e, i_push, i_ild, i_ald, i_ist, i_ast, i_inc, i_bin, i_un, i_divs, i_i2l, i_lshl, i_lor, i_dup, i_dup2, i_pop, i_if, i_cmp, i_nul, i_vret, i_iret, i_zret, i_aret, i_keep, keep, lget, lset, ent, i_getI, i_getJ, i_getR, i_getN, i_putI, i_putZ, i_putJ, i_putR, i_iald, i_bald, i_alen, i_aald, i_iast, i_bast, i_aast, i_new, i_newa, i_anew, i_oini, i_callS, i_callV, i_callI, popn, sh4, i_sw, swP, i_copy, i_binS, List.map, Option.toList_none, Option.toList_some, List.append, List.nil_append, List.cons_append, List.length_cons, List.length_nil, List.replicate, Nat.sub_self, Nat.reduceSub, Nat.reduceAdd, hK_pI, hL_pI, hI_pI, hR_pI, hJ_pI, hT_pI, hS_pI, hK_pR, hL_pR, hI_pR, hR_pR, hJ_pR, hT_pR, hS_pR, hK_pJ, hL_pJ, hI_pJ, hR_pJ, hJ_pJ, hT_pJ, hS_pJ, hK_wI, hL_wI, hI_wI, hR_wI, hJ_wI, hT_wI, hS_wI, eq_self, and_true, true_and, and_false, false_and, or_true, true_or, or_false, false_or, if_true, if_false, not_true_eq_false, not_false_eq_true, forall_const, implies_true, false_implies, true_implies, Option.some.injEq, forall_eq', exists_eq_left', reduceCtorEq, Nat.reduceEqDiff, c1, T_X12_in, T_X12_ones, T_X11_within, T_X11_bit, T_X11_isIn, T_X11_oneIfIn, T_J6_bitCount_0f7a4, i_sval, i_scod, i_slen, i_sbald, i_tret, i_callW, i_no, hj]
      refine ⟨x, rfl, by omega, ?_⟩
      simp only [i_push, i_ild, i_ald, i_ist, i_ast, i_inc, i_bin, i_un, i_divs, i_i2l, i_lshl, i_lor, i_dup, i_dup2, i_pop, i_if, i_cmp, i_nul, i_vret, i_iret, i_zret, i_aret, i_keep, keep, lget, lset, ent, i_getI, i_getJ, i_getR, i_getN, i_putI, i_putZ, i_putJ, i_putR, i_iald, i_bald, i_alen, i_aald, i_iast, i_bast, i_aast, i_new, i_newa, i_anew, i_oini, i_callS, i_callV, i_callI, popn, sh4, i_sw, swP, i_copy, i_binS, List.map, Option.toList_none, Option.toList_some, List.append, List.nil_append, List.cons_append, List.length_cons, List.length_nil, List.replicate, Nat.sub_self, Nat.reduceSub, Nat.reduceAdd, hK_pI, hL_pI, hI_pI, hR_pI, hJ_pI, hT_pI, hS_pI, hK_pR, hL_pR, hI_pR, hR_pR, hJ_pR, hT_pR, hS_pR, hK_pJ, hL_pJ, hI_pJ, hR_pJ, hJ_pJ, hT_pJ, hS_pJ, hK_wI, hL_wI, hI_wI, hR_wI, hJ_wI, hT_wI, hS_wI, eq_self, and_true, true_and, and_false, false_and, or_true, true_or, or_false, false_or, if_true, if_false, not_true_eq_false, not_false_eq_true, forall_const, implies_true, false_implies, true_implies, Option.some.injEq, forall_eq', exists_eq_left', reduceCtorEq, Nat.reduceEqDiff, c1, T_X12_in, T_X12_ones, T_X11_within, T_X11_bit, T_X11_isIn, T_X11_oneIfIn, T_J6_bitCount_0f7a4, i_sval, i_scod, i_slen, i_sbald, i_tret, i_callW, i_no, nI_1]
      refine ⟨fun z => hgo (fun y hy => ?_), fun z => hq0 (fun w => z (w.2 x (by omega)))⟩
      by_cases ey : y = x
      · rw [ey]; exact z
      · exact hall y (by omega)
    have hb := bat_go hl hk ht (x := b + x) (by omega) (Q := fun r h' => c_X10_spells_32 Q [some (.ref k), some (.int (nI b)), some (.retAddr j), some (.int (nI x))] (r.toList ++ []) h') (by rw [hsb]; exact h32)
    refine s_X10_spells_17 Q _ _ _ ?_
    simp only [b_X10_spells_17, T_J0_length_8abf5, lx_pI, lx_wI, lx_t hl, lx_k hl, lx_r hl, lx_l hl, i_push, i_ild, i_ald, i_ist, i_ast, i_inc, i_bin, i_un, i_divs, i_i2l, i_lshl, i_lor, i_dup, i_dup2, i_pop, i_if, i_cmp, i_nul, i_vret, i_iret, i_zret, i_aret, i_keep, keep, lget, lset, ent, i_getI, i_getJ, i_getR, i_getN, i_putI, i_putZ, i_putJ, i_putR, i_iald, i_bald, i_alen, i_aald, i_iast, i_bast, i_aast, i_new, i_newa, i_anew, i_oini, i_callS, i_callV, i_callI, popn, sh4, i_sw, swP, i_copy, i_binS, List.map, Option.toList_none, Option.toList_some, List.append, List.nil_append, List.cons_append, List.length_cons, List.length_nil, List.replicate, Nat.sub_self, Nat.reduceSub, Nat.reduceAdd, hK_pI, hL_pI, hI_pI, hR_pI, hJ_pI, hT_pI, hS_pI, hK_pR, hL_pR, hI_pR, hR_pR, hJ_pR, hT_pR, hS_pR, hK_pJ, hL_pJ, hI_pJ, hR_pJ, hJ_pJ, hT_pJ, hS_pJ, hK_wI, hL_wI, hI_wI, hR_wI, hJ_wI, hT_wI, hS_wI, eq_self, and_true, true_and, and_false, false_and, or_true, true_or, or_false, false_or, if_true, if_false, not_true_eq_false, not_false_eq_true, forall_const, implies_true, false_implies, true_implies, Option.some.injEq, forall_eq', exists_eq_left', reduceCtorEq, Nat.reduceEqDiff, c1, T_X12_in, T_X12_ones, T_X11_within, T_X11_bit, T_X11_isIn, T_X11_oneIfIn, T_J6_bitCount_0f7a4, i_sval, i_scod, i_slen, i_sbald, i_tret, i_callW, i_no, hf, hj, hlt, nI_add]
    exact hb
set_option maxRecDepth 100000 in
set_option maxHeartbeats 4000000 in
theorem ok_X10_spells : ctr 4 MX10_spells T_X10_spells := by
  refine ctr_of pn_X10 wc_X10_spells (fun av h Q hT => ?_)
  unfold T_X10_spells at hT
  split at hT
  · rename_i k first j
    refine ⟨⟨by simp [Value.category], Nat.le_of_ble_eq_true rfl⟩, s_X10_spells_0 Q _ _ _ ?_⟩
    obtain ⟨hj, hl, B, L, b, e, hk, ht, hbe, heL, hk1, rfl, hq1, hq0⟩ := hT
    have hL := ht.1
    have hf := hk.f
    have h6 := sLen_6 j hj
    have hs : nI e - nI b = nI (e - b) := nI_sub hbe
    have heq : nI (e - b) = nI (sLen.getD j 0) ↔ e - b = sLen.getD j 0 := nI_inj (by omega) (by omega)
    have h17 := fun z => spl_17 Q h hl k L hk B ht b e j hj hbe heL z hq1 hq0 (sLen.getD j 0) 0 (by omega) (by omega) (fun y hy => absurd hy (Nat.not_lt_zero _))
    simp only [MX10_spells, b_X10_spells_0, T_J0_length_8abf5, lx_pI, lx_wI, lx_t hl, lx_k hl, lx_r hl, lx_l hl, i_push, i_ild, i_ald, i_ist, i_ast, i_inc, i_bin, i_un, i_divs, i_i2l, i_lshl, i_lor, i_dup, i_dup2, i_pop, i_if, i_cmp, i_nul, i_vret, i_iret, i_zret, i_aret, i_keep, keep, lget, lset, ent, i_getI, i_getJ, i_getR, i_getN, i_putI, i_putZ, i_putJ, i_putR, i_iald, i_bald, i_alen, i_aald, i_iast, i_bast, i_aast, i_new, i_newa, i_anew, i_oini, i_callS, i_callV, i_callI, popn, sh4, i_sw, swP, i_copy, i_binS, List.map, Option.toList_none, Option.toList_some, List.append, List.nil_append, List.cons_append, List.length_cons, List.length_nil, List.replicate, Nat.sub_self, Nat.reduceSub, Nat.reduceAdd, hK_pI, hL_pI, hI_pI, hR_pI, hJ_pI, hT_pI, hS_pI, hK_pR, hL_pR, hI_pR, hR_pR, hJ_pR, hT_pR, hS_pR, hK_pJ, hL_pJ, hI_pJ, hR_pJ, hJ_pJ, hT_pJ, hS_pJ, hK_wI, hL_wI, hI_wI, hR_wI, hJ_wI, hT_wI, hS_wI, eq_self, and_true, true_and, and_false, false_and, or_true, true_or, or_false, false_or, if_true, if_false, not_true_eq_false, not_false_eq_true, forall_const, implies_true, false_implies, true_implies, Option.some.injEq, forall_eq', exists_eq_left', reduceCtorEq, Nat.reduceEqDiff, c1, T_X12_in, T_X12_ones, T_X11_within, T_X11_bit, T_X11_isIn, T_X11_oneIfIn, T_J6_bitCount_0f7a4, i_sval, i_scod, i_slen, i_sbald, i_tret, i_callW, i_no, hf, hk1, hj, hs, heq]
    exact ⟨fun z => h17 z, fun z => hq0 (fun w => z w.1)⟩
  · exact hT.elim
