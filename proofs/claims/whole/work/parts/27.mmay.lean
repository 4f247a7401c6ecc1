/-! ===== the reference: may one go into a room ===== -/
def lowAt (b : Int32) (k : Nat) : Prop := bt b k = true ∧ ∀ j, j < k → bt b j = false
theorem low_ex {b : Int32} (h : ¬ b = 0) : ∃ k, k < 32 ∧ lowAt b k := by
  have hex : ∃ k, bt b k = true := by
    refine Classical.byContradiction fun hn => h (b_ext fun i hi => ?_)
    rw [b_0]
    cases hb : bt b i with
    | false => rfl
    | true => exact absurd ⟨i, hb⟩ hn
  obtain ⟨k, h1, h2⟩ := pk_least (fun k => bt b k = true) hex
  refine ⟨k, ?_, h1, fun j hj => ?_⟩
  · rcases Nat.lt_or_ge k 32 with q | q
    · exact q
    · have := b_big (x := b) q
      simp only [this] at h1
      cases h1
  · cases hb : bt b j with
    | false => rfl
    | true => exact absurd hb (h2 j hj)
def T_X12_lowest : Tr := fun av h Q => match av with
  | [.ref o, .int b] => o = 44 ∧ ∃ k, k < 32 ∧ lowAt b k ∧ Q (some (.int (nI k))) h
  | _ => False
def L_X12_lowest : List UInt8 := [3, 61, 27, 28, 122, 4, 126, 154, 0, 9, 132, 2, 1, 167, 255, 245, 28, 172]
theorem Lc_X12_lowest : MX12_lowest.2.1 = ⟨L_X12_lowest.toArray⟩ := rfl
theorem D_X12_lowest_0 : dseq MX12_lowest.2.1 0 [(.iconst 0, 1), (.istore_n 2, 1)] := dq Lc_X12_lowest 0 _ (by decide +kernel)
theorem D_X12_lowest_2 : dseq MX12_lowest.2.1 2 [(.iload_n 1, 1), (.iload_n 2, 1), (.ishr, 1), (.iconst 1, 1), (.iand, 1), (.ifCond .ne 9, 3), (.iinc 2 1, 3), (.goto (-11), 3)] := dq Lc_X12_lowest 2 _ (by decide +kernel)
theorem D_X12_lowest_16 : dseq MX12_lowest.2.1 16 [(.iload_n 2, 1), (.ireturn, 1)] := dq Lc_X12_lowest 16 _ (by decide +kernel)
def b_X12_lowest_0 (Q : Option Value → Hp → Prop) : Kt := i_push (.int 0) (i_ist 2 (i_keep [false, true, true] (wp 0 MX12_lowest Q 2)))
set_option maxRecDepth 100000 in
theorem s_X12_lowest_0 (Q : Option Value → Hp → Prop) : ∀ A st h, b_X12_lowest_0 Q A st h → wp 0 MX12_lowest Q 0 A st h := (q1 (s_iconst (n := 0) (v := 0) (by decide)) D_X12_lowest_0 fun D => (qL (s_istn (n := 2) (i := 2) rfl) (by decide) D fun D => (s_keep [false, true, true] fun _ _ _ h => h)))
def b_X12_lowest_2 (Q : Option Value → Hp → Prop) : Kt := i_ild 1 (i_ild 2 (i_bin (fun x y => x >>> (y &&& 31)) (i_push (.int 1) (i_bin (fun x y => x &&& y) (i_if (fun x => x = 0) (i_inc 2 1 (i_keep [false, true, true] (wp 0 MX12_lowest Q 2))) (i_ild 2 (i_iret Q)))))))
set_option maxRecDepth 100000 in
theorem s_X12_lowest_2 (Q : Option Value → Hp → Prop) : ∀ A st h, b_X12_lowest_2 Q A st h → wp 0 MX12_lowest Q 2 A st h := (q1 (s_ildn (n := 1) (i := 1) rfl) D_X12_lowest_2 fun D => (q1 (s_ildn (n := 2) (i := 2) rfl) D fun D => (q1 s_shr D fun D => (q1 (s_iconst (n := 1) (v := 1) (by decide)) D fun D => (q1 s_and D fun D => (qBn s_ifne2 16 (by decide) D (q1 (s_ildn (n := 2) (i := 2) rfl) D_X12_lowest_16 fun D => (qI rfl D)) fun D => (qL (s_inc (i := 2) (n := 1) (v := 1) (by decide)) (by decide) D fun D => (qG 2 (by decide) D (s_keep [false, true, true] fun _ _ _ h => h)))))))))

theorem lp_X12_lowest (Q : Option Value → Hp → Prop) (h : Hp) (b : Int32) (k : Nat) (hk : k < 32) (hb : lowAt b k) (hq : Q (some (.int (nI k))) h) : ∀ (m j : Nat), m = k - j → j ≤ k → wp 0 MX12_lowest Q 2 [none, some (.int b), some (.int (nI j))] [] h := by
  intro m
  induction m with
  | zero =>
    intro j hm hj
    have e : j = k := by omega
    subst e
    refine s_X12_lowest_2 Q _ _ _ ?_
    simp only [b_X12_lowest_2, i_push, i_ild, i_ald, i_ist, i_ast, i_inc, i_bin, i_un, i_divs, i_i2l, i_lshl, i_lor, i_dup, i_dup2, i_pop, i_if, i_cmp, i_nul, i_vret, i_iret, i_zret, i_aret, i_keep, keep, lget, lset, ent, i_getI, i_getJ, i_getR, i_getN, i_putI, i_putZ, i_putJ, i_putR, i_iald, i_bald, i_alen, i_aald, i_iast, i_bast, i_aast, i_new, i_newa, i_anew, i_oini, i_callS, i_callV, i_callI, popn, sh4, i_sw, swP, i_copy, i_binS, List.map, Option.toList_none, Option.toList_some, List.append, List.nil_append, List.cons_append, List.length_cons, List.length_nil, List.replicate, Nat.sub_self, Nat.reduceSub, Nat.reduceAdd, hK_pI, hL_pI, hI_pI, hR_pI, hJ_pI, hT_pI, hS_pI, hK_pR, hL_pR, hI_pR, hR_pR, hJ_pR, hT_pR, hS_pR, hK_pJ, hL_pJ, hI_pJ, hR_pJ, hJ_pJ, hT_pJ, hS_pJ, hK_wI, hL_wI, hI_wI, hR_wI, hJ_wI, hT_wI, hS_wI, eq_self, and_true, true_and, and_false, false_and, or_true, true_or, or_false, false_or, if_true, if_false, not_true_eq_false, not_false_eq_true, forall_const, implies_true, false_implies, true_implies, Option.some.injEq, forall_eq', exists_eq_left', reduceCtorEq, Nat.reduceEqDiff, c1, T_X12_in, T_X12_ones, T_X11_within, T_X11_bit, T_X11_isIn, T_X11_oneIfIn, T_J6_bitCount_0f7a4, sh_bt b hk]
    refine ⟨fun c => ?_, fun _ => hq⟩
    have := hb.1
    rw [c] at this
    cases this
  | succ m ih =>
    intro j hm hj
    refine s_X12_lowest_2 Q _ _ _ ?_
    simp only [b_X12_lowest_2, i_push, i_ild, i_ald, i_ist, i_ast, i_inc, i_bin, i_un, i_divs, i_i2l, i_lshl, i_lor, i_dup, i_dup2, i_pop, i_if, i_cmp, i_nul, i_vret, i_iret, i_zret, i_aret, i_keep, keep, lget, lset, ent, i_getI, i_getJ, i_getR, i_getN, i_putI, i_putZ, i_putJ, i_putR, i_iald, i_bald, i_alen, i_aald, i_iast, i_bast, i_aast, i_new, i_newa, i_anew, i_oini, i_callS, i_callV, i_callI, popn, sh4, i_sw, swP, i_copy, i_binS, List.map, Option.toList_none, Option.toList_some, List.append, List.nil_append, List.cons_append, List.length_cons, List.length_nil, List.replicate, Nat.sub_self, Nat.reduceSub, Nat.reduceAdd, hK_pI, hL_pI, hI_pI, hR_pI, hJ_pI, hT_pI, hS_pI, hK_pR, hL_pR, hI_pR, hR_pR, hJ_pR, hT_pR, hS_pR, hK_pJ, hL_pJ, hI_pJ, hR_pJ, hJ_pJ, hT_pJ, hS_pJ, hK_wI, hL_wI, hI_wI, hR_wI, hJ_wI, hT_wI, hS_wI, eq_self, and_true, true_and, and_false, false_and, or_true, true_or, or_false, false_or, if_true, if_false, not_true_eq_false, not_false_eq_true, forall_const, implies_true, false_implies, true_implies, Option.some.injEq, forall_eq', exists_eq_left', reduceCtorEq, Nat.reduceEqDiff, c1, T_X12_in, T_X12_ones, T_X11_within, T_X11_bit, T_X11_isIn, T_X11_oneIfIn, T_J6_bitCount_0f7a4, sh_bt b (show j < 32 by omega), nI_1]
    exact ⟨fun _ => ih (j + 1) (by omega) (by omega), fun c => absurd (hb.2 j (by omega)) c⟩
set_option maxRecDepth 100000 in
set_option maxHeartbeats 4000000 in
theorem ok_X12_lowest : ctr 0 MX12_lowest T_X12_lowest := by
  refine ctr_of pn_X12 wc_X12_lowest (fun av h Q hT => ?_)
  unfold T_X12_lowest at hT
  split at hT
  · rename_i o b
    refine ⟨⟨by simp [Value.category], Nat.le_of_ble_eq_true rfl⟩, s_X12_lowest_0 Q _ _ _ ?_⟩
    obtain ⟨rfl, k, hk, hb, hq⟩ := hT
    simp only [MX12_lowest, b_X12_lowest_0, i_push, i_ild, i_ald, i_ist, i_ast, i_inc, i_bin, i_un, i_divs, i_i2l, i_lshl, i_lor, i_dup, i_dup2, i_pop, i_if, i_cmp, i_nul, i_vret, i_iret, i_zret, i_aret, i_keep, keep, lget, lset, ent, i_getI, i_getJ, i_getR, i_getN, i_putI, i_putZ, i_putJ, i_putR, i_iald, i_bald, i_alen, i_aald, i_iast, i_bast, i_aast, i_new, i_newa, i_anew, i_oini, i_callS, i_callV, i_callI, popn, sh4, i_sw, swP, i_copy, i_binS, List.map, Option.toList_none, Option.toList_some, List.append, List.nil_append, List.cons_append, List.length_cons, List.length_nil, List.replicate, Nat.sub_self, Nat.reduceSub, Nat.reduceAdd, hK_pI, hL_pI, hI_pI, hR_pI, hJ_pI, hT_pI, hS_pI, hK_pR, hL_pR, hI_pR, hR_pR, hJ_pR, hT_pR, hS_pR, hK_pJ, hL_pJ, hI_pJ, hR_pJ, hJ_pJ, hT_pJ, hS_pJ, hK_wI, hL_wI, hI_wI, hR_wI, hJ_wI, hT_wI, hS_wI, eq_self, and_true, true_and, and_false, false_and, or_true, true_or, or_false, false_or, if_true, if_false, not_true_eq_false, not_false_eq_true, forall_const, implies_true, false_implies, true_implies, Option.some.injEq, forall_eq', exists_eq_left', reduceCtorEq, Nat.reduceEqDiff, c1, T_X12_in, T_X12_ones, T_X11_within, T_X11_bit, T_X11_isIn, T_X11_oneIfIn, T_J6_bitCount_0f7a4]
    exact lp_X12_lowest Q h b k hk hb hq k 0 (by omega) (by omega)
  · exact hT.elim
/-- the rooms are empty -/
def eR (h : Hp) (n : Nat) : Hp := wI h (fun a i => if a = 88 ∧ i < n then 0 else hI h a i)
theorem eR_0 (h : Hp) : eR h 0 = h := by
  unfold eR
  have : (fun a i => if a = 88 ∧ i < 0 then 0 else hI h a i) = hI h := by
    funext a i
    rw [if_neg (by omega)]
  rw [this]
  rfl
theorem eR_succ (h : Hp) (n : Nat) : pI (eR h n) 88 n 0 = eR h (n + 1) := by
  unfold pI
  show wI h _ = wI h _
  congr 1
  funext a i
  show (if a = 88 ∧ i = n then 0 else if a = 88 ∧ i < n then 0 else hI h a i) = (if a = 88 ∧ i < n + 1 then 0 else hI h a i)
  by_cases ha : a = 88
  · by_cases hi : i = n
    · rw [if_pos ⟨ha, hi⟩, if_pos ⟨ha, by omega⟩]
    · rw [if_neg (fun q => hi q.2)]
      by_cases h2 : i < n
      · rw [if_pos ⟨ha, h2⟩, if_pos ⟨ha, by omega⟩]
      · rw [if_neg (fun q => h2 q.2), if_neg (fun q => by have := q.2; omega)]
  · rw [if_neg (fun q => ha q.1), if_neg (fun q => ha q.1), if_neg (fun q => ha q.1)]
def T_X12_emptyRooms : Tr := fun av h Q => match av with
  | [.ref o] => o = 44 ∧ LayM h ∧ Q none (eR h 4)
  | _ => False
def L_X12_emptyRooms : List UInt8 := [3, 60, 27, 7, 162, 0, 16, 42, 180, 0, 144, 27, 3, 79, 132, 1, 1, 167, 255, 241, 177]
theorem Lc_X12_emptyRooms : MX12_emptyRooms.2.1 = ⟨L_X12_emptyRooms.toArray⟩ := rfl
theorem D_X12_emptyRooms_0 : dseq MX12_emptyRooms.2.1 0 [(.iconst 0, 1), (.istore_n 1, 1)] := dq Lc_X12_emptyRooms 0 _ (by decide +kernel)
theorem D_X12_emptyRooms_2 : dseq MX12_emptyRooms.2.1 2 [(.iload_n 1, 1), (.iconst 4, 1), (.if_icmp .ge 16, 3), (.aload_n 0, 1), (.getfield 144, 3), (.iload_n 1, 1), (.iconst 0, 1), (.iastore, 1), (.iinc 1 1, 3), (.goto (-15), 3)] := dq Lc_X12_emptyRooms 2 _ (by decide +kernel)
theorem D_X12_emptyRooms_20 : dseq MX12_emptyRooms.2.1 20 [(.return_, 1)] := dq Lc_X12_emptyRooms 20 _ (by decide +kernel)
def b_X12_emptyRooms_0 (Q : Option Value → Hp → Prop) : Kt := i_push (.int 0) (i_ist 1 (i_keep [true, true] (wp 0 MX12_emptyRooms Q 2)))
set_option maxRecDepth 100000 in
theorem s_X12_emptyRooms_0 (Q : Option Value → Hp → Prop) : ∀ A st h, b_X12_emptyRooms_0 Q A st h → wp 0 MX12_emptyRooms Q 0 A st h := (q1 (s_iconst (n := 0) (v := 0) (by decide)) D_X12_emptyRooms_0 fun D => (qL (s_istn (n := 1) (i := 1) rfl) (by decide) D fun D => (s_keep [true, true] fun _ _ _ h => h)))
def b_X12_emptyRooms_2 (Q : Option Value → Hp → Prop) : Kt := i_ild 1 (i_push (.int 4) (i_cmp (fun x y => y ≤ x) (i_vret Q) (i_ald 0 (i_getR 12 57 (i_ild 1 (i_push (.int 0) (i_iast (i_inc 1 1 (i_keep [true, true] (wp 0 MX12_emptyRooms Q 2))))))))))
set_option maxRecDepth 100000 in
theorem s_X12_emptyRooms_2 (Q : Option Value → Hp → Prop) : ∀ A st h, b_X12_emptyRooms_2 Q A st h → wp 0 MX12_emptyRooms Q 2 A st h := (q1 (s_ildn (n := 1) (i := 1) rfl) D_X12_emptyRooms_2 fun D => (q1 (s_iconst (n := 4) (v := 4) (by decide)) D fun D => (qB s_cmpge 20 (by decide) D (qV rfl D_X12_emptyRooms_20) fun D => (q1 (s_aldn (n := 0) (i := 0) rfl) D fun D => (qC fl_X12_144 rfl D fun D => (q1 (s_ildn (n := 1) (i := 1) rfl) D fun D => (q1 (s_iconst (n := 0) (v := 0) (by decide)) D fun D => (q1 s_iast D fun D => (qL (s_inc (i := 1) (n := 1) (v := 1) (by decide)) (by decide) D fun D => (qG 2 (by decide) D (s_keep [true, true] fun _ _ _ h => h)))))))))))

theorem lp_X12_emptyRooms (Q : Option Value → Hp → Prop) (h : Hp) (hl0 : LayM h) (hq : Q none (eR h 4)) : ∀ (m r : Nat), m = 4 - r → r ≤ 4 → wp 0 MX12_emptyRooms Q 2 [some (.ref 44), some (.int (nI r))] [] (eR h r) := by
  have e4 : (4 : Int32) = nI 4 := rfl
  intro m
  induction m with
  | zero =>
    intro r hm hr
    have e : r = 4 := by omega
    subst e
    refine s_X12_emptyRooms_2 Q _ _ _ ?_
    simp only [b_X12_emptyRooms_2, i_push, i_ild, i_ald, i_ist, i_ast, i_inc, i_bin, i_un, i_divs, i_i2l, i_lshl, i_lor, i_dup, i_dup2, i_pop, i_if, i_cmp, i_nul, i_vret, i_iret, i_zret, i_aret, i_keep, keep, lget, lset, ent, i_getI, i_getJ, i_getR, i_getN, i_putI, i_putZ, i_putJ, i_putR, i_iald, i_bald, i_alen, i_aald, i_iast, i_bast, i_aast, i_new, i_newa, i_anew, i_oini, i_callS, i_callV, i_callI, popn, sh4, i_sw, swP, i_copy, i_binS, List.map, Option.toList_none, Option.toList_some, List.append, List.nil_append, List.cons_append, List.length_cons, List.length_nil, List.replicate, Nat.sub_self, Nat.reduceSub, Nat.reduceAdd, hK_pI, hL_pI, hI_pI, hR_pI, hJ_pI, hT_pI, hS_pI, hK_pR, hL_pR, hI_pR, hR_pR, hJ_pR, hT_pR, hS_pR, hK_pJ, hL_pJ, hI_pJ, hR_pJ, hJ_pJ, hT_pJ, hS_pJ, hK_wI, hL_wI, hI_wI, hR_wI, hJ_wI, hT_wI, hS_wI, eq_self, and_true, true_and, and_false, false_and, or_true, true_or, or_false, false_or, if_true, if_false, not_true_eq_false, not_false_eq_true, forall_const, implies_true, false_implies, true_implies, Option.some.injEq, forall_eq', exists_eq_left', reduceCtorEq, Nat.reduceEqDiff, c1, T_X12_in, T_X12_ones, T_X11_within, T_X11_bit, T_X11_isIn, T_X11_oneIfIn, T_J6_bitCount_0f7a4]
    exact ⟨fun _ => hq, fun c => absurd (nI_le (Nat.le_refl 4) (by omega)) c⟩
  | succ m ih =>
    intro r hm hr
    have hl : LayM (eR h r) := hl0.wI _
    refine s_X12_emptyRooms_2 Q _ _ _ ?_
    simp only [b_X12_emptyRooms_2, hl, lay_pI, lay_wI, lay_pJ, lm_t hl, lm_k hl, lm_r hl, lm_l hl, i_push, i_ild, i_ald, i_ist, i_ast, i_inc, i_bin, i_un, i_divs, i_i2l, i_lshl, i_lor, i_dup, i_dup2, i_pop, i_if, i_cmp, i_nul, i_vret, i_iret, i_zret, i_aret, i_keep, keep, lget, lset, ent, i_getI, i_getJ, i_getR, i_getN, i_putI, i_putZ, i_putJ, i_putR, i_iald, i_bald, i_alen, i_aald, i_iast, i_bast, i_aast, i_new, i_newa, i_anew, i_oini, i_callS, i_callV, i_callI, popn, sh4, i_sw, swP, i_copy, i_binS, List.map, Option.toList_none, Option.toList_some, List.append, List.nil_append, List.cons_append, List.length_cons, List.length_nil, List.replicate, Nat.sub_self, Nat.reduceSub, Nat.reduceAdd, hK_pI, hL_pI, hI_pI, hR_pI, hJ_pI, hT_pI, hS_pI, hK_pR, hL_pR, hI_pR, hR_pR, hJ_pR, hT_pR, hS_pR, hK_pJ, hL_pJ, hI_pJ, hR_pJ, hJ_pJ, hT_pJ, hS_pJ, hK_wI, hL_wI, hI_wI, hR_wI, hJ_wI, hT_wI, hS_wI, eq_self, and_true, true_and, and_false, false_and, or_true, true_or, or_false, false_or, if_true, if_false, not_true_eq_false, not_false_eq_true, forall_const, implies_true, false_implies, true_implies, Option.some.injEq, forall_eq', exists_eq_left', reduceCtorEq, Nat.reduceEqDiff, c1, T_X12_in, T_X12_ones, T_X11_within, T_X11_bit, T_X11_isIn, T_X11_oneIfIn, T_J6_bitCount_0f7a4, cl_nI (show r < 2147483648 by omega), in_nI (show r < 4 by omega) (by decide), eR_succ, nI_1]
    exact ⟨fun c => by rw [e4] at c; exact absurd c (nI_ge (show r < 4 by omega) (by omega)), fun _ => ih (r + 1) (by omega) (by omega)⟩
set_option maxRecDepth 100000 in
set_option maxHeartbeats 4000000 in
theorem ok_X12_emptyRooms : ctr 0 MX12_emptyRooms T_X12_emptyRooms := by
  refine ctr_of pn_X12 wc_X12_emptyRooms (fun av h Q hT => ?_)
  unfold T_X12_emptyRooms at hT
  split at hT
  · rename_i o
    refine ⟨⟨by simp [Value.category], Nat.le_of_ble_eq_true rfl⟩, s_X12_emptyRooms_0 Q _ _ _ ?_⟩
    obtain ⟨rfl, hl, hq⟩ := hT
    simp only [MX12_emptyRooms, b_X12_emptyRooms_0, i_push, i_ild, i_ald, i_ist, i_ast, i_inc, i_bin, i_un, i_divs, i_i2l, i_lshl, i_lor, i_dup, i_dup2, i_pop, i_if, i_cmp, i_nul, i_vret, i_iret, i_zret, i_aret, i_keep, keep, lget, lset, ent, i_getI, i_getJ, i_getR, i_getN, i_putI, i_putZ, i_putJ, i_putR, i_iald, i_bald, i_alen, i_aald, i_iast, i_bast, i_aast, i_new, i_newa, i_anew, i_oini, i_callS, i_callV, i_callI, popn, sh4, i_sw, swP, i_copy, i_binS, List.map, Option.toList_none, Option.toList_some, List.append, List.nil_append, List.cons_append, List.length_cons, List.length_nil, List.replicate, Nat.sub_self, Nat.reduceSub, Nat.reduceAdd, hK_pI, hL_pI, hI_pI, hR_pI, hJ_pI, hT_pI, hS_pI, hK_pR, hL_pR, hI_pR, hR_pR, hJ_pR, hT_pR, hS_pR, hK_pJ, hL_pJ, hI_pJ, hR_pJ, hJ_pJ, hT_pJ, hS_pJ, hK_wI, hL_wI, hI_wI, hR_wI, hJ_wI, hT_wI, hS_wI, eq_self, and_true, true_and, and_false, false_and, or_true, true_or, or_false, false_or, if_true, if_false, not_true_eq_false, not_false_eq_true, forall_const, implies_true, false_implies, true_implies, Option.some.injEq, forall_eq', exists_eq_left', reduceCtorEq, Nat.reduceEqDiff, c1, T_X12_in, T_X12_ones, T_X11_within, T_X11_bit, T_X11_isIn, T_X11_oneIfIn, T_J6_bitCount_0f7a4]
    have hw := lp_X12_emptyRooms Q h hl hq 4 0 (by omega) (by omega)
    rw [eR_0] at hw
    exact hw
  · exact hT.elim
def capF (I : Nat → Nat → Int32) (r : Nat) : Int32 := if I 44 56 = 1 then I 47 r + I 48 r else I 47 r
def my5 (I : Nat → Nat → Int32) (R k r : Nat) : Prop := ∀ q, q < R → q ≠ r → I 88 q &&& I 63 k = 0
def my4 (I : Nat → Nat → Int32) (k r : Nat) : Prop := ∀ j, lowAt (I 88 r) j → I 57 j = I 57 k
def my3 (I : Nat → Nat → Int32) (k r : Nat) : Prop := ¬ (I 50 r = 0 ∧ I 56 k = 1)
def my2 (I : Nat → Nat → Int32) (k r : Nat) : Prop := ¬ (I 49 r = 1 ∧ I 55 k = 0)
def my1 (I : Nat → Nat → Int32) (k r : Nat) : Prop := I 51 r = 0 ∨ I 51 r = I 54 k
def my0 (I : Nat → Nat → Int32) (k r : Nat) : Prop := ¬ capF I r ≤ nI (pct (I 88 r)) ∧ I 88 r &&& I 62 k = 0
def mayF (I : Nat → Nat → Int32) (R k r : Nat) : Prop := my0 I k r ∧ my1 I k r ∧ my2 I k r ∧ my3 I k r ∧ my4 I k r ∧ my5 I R k r
def T_X12_may : Tr := fun av h Q => match av with
  | [.ref o, .int p, .int r] => o = 44 ∧ LayM h ∧ ∃ R k s, R ≤ 4 ∧ hI h 46 0 = nI R ∧ p = nI k ∧ k < 24 ∧ r = nI s ∧ s < 4 ∧ (mayF (hI h) R k s → Q (some (.int 1)) h) ∧ (¬ mayF (hI h) R k s → Q (some (.int 0)) h)
  | _ => False
def L_X12_may : List UInt8 := [42, 180, 0, 144, 28, 46, 62, 29, 184, 1, 8, 42, 28, 182, 1, 39, 162, 0, 76, 29, 42, 180, 0, 62, 27, 46, 126, 154, 0, 65, 42, 180, 0, 29, 28, 46, 153, 0, 18, 42, 180, 0, 29, 28, 46, 42, 180, 0, 38, 27, 46, 160, 0, 41, 42, 180, 0, 23, 28, 46, 4, 160, 0, 12, 42, 180, 0, 41, 27, 46, 153, 0, 22, 42, 180, 0, 26, 28, 46, 154, 0, 15, 42, 180, 0, 44, 27, 46, 4, 160, 0, 5, 3, 172, 29, 153, 0, 24, 42, 180, 0, 47, 42, 29, 182, 1, 42, 46, 42, 180, 0, 47, 27, 46, 159, 0, 5, 3, 172, 3, 54, 4, 21, 4, 42, 180, 0, 13, 3, 46, 162, 0, 34, 21, 4, 28, 159, 0, 22, 42, 180, 0, 144, 21, 4, 46, 42, 180, 0, 65, 27, 46, 126, 153, 0, 5, 3, 172, 132, 4, 1, 167, 255, 217, 4, 172]
theorem Lc_X12_may : MX12_may.2.1 = ⟨L_X12_may.toArray⟩ := rfl
theorem D_X12_may_0 : dseq MX12_may.2.1 0 [(.aload_n 0, 1), (.getfield 144, 3), (.iload_n 2, 1), (.iaload, 1), (.istore_n 3, 1), (.iload_n 3, 1), (.invokestatic 264, 3), (.aload_n 0, 1), (.iload_n 2, 1), (.invokevirtual 295, 3), (.if_icmp .ge 76, 3), (.iload_n 3, 1), (.aload_n 0, 1), (.getfield 62, 3), (.iload_n 1, 1), (.iaload, 1), (.iand, 1), (.ifCond .ne 65, 3), (.aload_n 0, 1), (.getfield 29, 3), (.iload_n 2, 1), (.iaload, 1), (.ifCond .eq 18, 3), (.aload_n 0, 1), (.getfield 29, 3), (.iload_n 2, 1), (.iaload, 1), (.aload_n 0, 1), (.getfield 38, 3), (.iload_n 1, 1), (.iaload, 1), (.if_icmp .ne 41, 3)] := dq Lc_X12_may 0 _ (by decide +kernel)
theorem D_X12_may_92 : dseq MX12_may.2.1 92 [(.iconst 0, 1), (.ireturn, 1)] := dq Lc_X12_may 92 _ (by decide +kernel)
theorem D_X12_may_54 : dseq MX12_may.2.1 54 [(.aload_n 0, 1), (.getfield 23, 3), (.iload_n 2, 1), (.iaload, 1), (.iconst 1, 1), (.if_icmp .ne 12, 3), (.aload_n 0, 1), (.getfield 41, 3), (.iload_n 1, 1), (.iaload, 1), (.ifCond .eq 22, 3)] := dq Lc_X12_may 54 _ (by decide +kernel)
theorem D_X12_may_73 : dseq MX12_may.2.1 73 [(.aload_n 0, 1), (.getfield 26, 3), (.iload_n 2, 1), (.iaload, 1), (.ifCond .ne 15, 3), (.aload_n 0, 1), (.getfield 44, 3), (.iload_n 1, 1), (.iaload, 1), (.iconst 1, 1), (.if_icmp .ne 5, 3), (.iconst 0, 1), (.ireturn, 1)] := dq Lc_X12_may 73 _ (by decide +kernel)
theorem D_X12_may_94 : dseq MX12_may.2.1 94 [(.iload_n 3, 1), (.ifCond .eq 24, 3), (.aload_n 0, 1), (.getfield 47, 3), (.aload_n 0, 1), (.iload_n 3, 1), (.invokevirtual 298, 3), (.iaload, 1), (.aload_n 0, 1), (.getfield 47, 3), (.iload_n 1, 1), (.iaload, 1), (.if_icmp .eq 5, 3), (.iconst 0, 1), (.ireturn, 1)] := dq Lc_X12_may 94 _ (by decide +kernel)
theorem D_X12_may_119 : dseq MX12_may.2.1 119 [(.iconst 0, 1), (.istore 4, 2)] := dq Lc_X12_may 119 _ (by decide +kernel)
theorem D_X12_may_122 : dseq MX12_may.2.1 122 [(.iload 4, 2), (.aload_n 0, 1), (.getfield 13, 3), (.iconst 0, 1), (.iaload, 1), (.if_icmp .ge 34, 3), (.iload 4, 2), (.iload_n 2, 1), (.if_icmp .eq 22, 3), (.aload_n 0, 1), (.getfield 144, 3), (.iload 4, 2), (.iaload, 1), (.aload_n 0, 1), (.getfield 65, 3), (.iload_n 1, 1), (.iaload, 1), (.iand, 1), (.ifCond .eq 5, 3), (.iconst 0, 1), (.ireturn, 1)] := dq Lc_X12_may 122 _ (by decide +kernel)
theorem D_X12_may_164 : dseq MX12_may.2.1 164 [(.iconst 1, 1), (.ireturn, 1)] := dq Lc_X12_may 164 _ (by decide +kernel)
theorem D_X12_may_158 : dseq MX12_may.2.1 158 [(.iinc 4 1, 3), (.goto (-39), 3)] := dq Lc_X12_may 158 _ (by decide +kernel)
def c_X12_may_107 (Q : Option Value → Hp → Prop) : Kt := i_iald (i_ald 0 (i_getR 12 14 (i_ild 1 (i_iald (i_cmp (fun x y => x = y) (i_keep [true, true, true, false, false] (wp 1 MX12_may Q 119)) (i_push (.int 0) (i_zret Q)))))))
def b_X12_may_0 (Q : Option Value → Hp → Prop) : Kt := i_ald 0 (i_getR 12 57 (i_ild 2 (i_iald (i_ist 3 (i_ild 3 (i_callS 1 T_X12_ones (i_ald 0 (i_ild 2 (i_callV 12 1 T_X12_capacity (i_cmp (fun x y => y ≤ x) (i_push (.int 0) (i_zret Q)) (i_ild 3 (i_ald 0 (i_getR 12 19 (i_ild 1 (i_iald (i_bin (fun x y => x &&& y) (i_if (fun x => x = 0) (i_ald 0 (i_getR 12 8 (i_ild 2 (i_iald (i_if (fun x => x = 0) (i_keep [true, true, true, true, false] (wp 1 MX12_may Q 54)) (i_ald 0 (i_getR 12 8 (i_ild 2 (i_iald (i_ald 0 (i_getR 12 11 (i_ild 1 (i_iald (i_cmp (fun x y => x = y) (i_keep [true, true, true, true, false] (wp 1 MX12_may Q 54)) (i_push (.int 0) (i_zret Q)))))))))))))))) (i_push (.int 0) (i_zret Q)))))))))))))))))))
set_option maxRecDepth 100000 in
theorem s_X12_may_0 (Q : Option Value → Hp → Prop) : ∀ A st h, b_X12_may_0 Q A st h → wp 1 MX12_may Q 0 A st h := (q1 (s_aldn (n := 0) (i := 0) rfl) D_X12_may_0 fun D => (qC fl_X12_144 rfl D fun D => (q1 (s_ildn (n := 2) (i := 2) rfl) D fun D => (q1 s_iald D fun D => (qL (s_istn (n := 3) (i := 3) rfl) (by decide) D fun D => (q1 (s_ildn (n := 3) (i := 3) rfl) D fun D => (qX (s_callS ok_X12_ones mo_X12_ones (ch_6_4_ok.2.2.2.1.1 rfl) (ch_6_4_ok.2.2.2.2.1.1 rfl)) rfl (by decide) D fun D => (q1 (s_aldn (n := 0) (i := 0) rfl) D fun D => (q1 (s_ildn (n := 2) (i := 2) rfl) D fun D => (qX (s_callV kX12 rfl ok_X12_capacity mo_X12_capacity (ch_6_7_ok.2.2.2.2.2.2.2.2.2.2.2.2.2.2.2.1.1 rfl) (ch_6_8_ok.2.1.1 rfl) (pv_3.2.2.2.2.2.2.2.2.2.2.2.2.1)) rfl (by decide) D fun D => (qB s_cmpge 92 (by decide) D (q1 (s_iconst (n := 0) (v := 0) (by decide)) D_X12_may_92 fun D => (qZ rfl D)) fun D => (q1 (s_ildn (n := 3) (i := 3) rfl) D fun D => (q1 (s_aldn (n := 0) (i := 0) rfl) D fun D => (qC fl_X12_62 rfl D fun D => (q1 (s_ildn (n := 1) (i := 1) rfl) D fun D => (q1 s_iald D fun D => (q1 s_and D fun D => (qBn s_ifne2 92 (by decide) D (q1 (s_iconst (n := 0) (v := 0) (by decide)) D_X12_may_92 fun D => (qZ rfl D)) fun D => (q1 (s_aldn (n := 0) (i := 0) rfl) D fun D => (qC fl_X12_29 rfl D fun D => (q1 (s_ildn (n := 2) (i := 2) rfl) D fun D => (q1 s_iald D fun D => (qB s_ifeq 54 (by decide) D (s_keep [true, true, true, true, false] fun _ _ _ h => h) fun D => (q1 (s_aldn (n := 0) (i := 0) rfl) D fun D => (qC fl_X12_29 rfl D fun D => (q1 (s_ildn (n := 2) (i := 2) rfl) D fun D => (q1 s_iald D fun D => (q1 (s_aldn (n := 0) (i := 0) rfl) D fun D => (qC fl_X12_38 rfl D fun D => (q1 (s_ildn (n := 1) (i := 1) rfl) D fun D => (q1 s_iald D fun D => (qBn s_cmpne2 92 (by decide) D (q1 (s_iconst (n := 0) (v := 0) (by decide)) D_X12_may_92 fun D => (qZ rfl D)) fun D => (s_keep [true, true, true, true, false] fun _ _ _ h => h)))))))))))))))))))))))))))))))))
def b_X12_may_54 (Q : Option Value → Hp → Prop) : Kt := i_ald 0 (i_getR 12 6 (i_ild 2 (i_iald (i_push (.int 1) (i_cmp (fun x y => x = y) (i_ald 0 (i_getR 12 12 (i_ild 1 (i_iald (i_if (fun x => x = 0) (i_push (.int 0) (i_zret Q)) (i_keep [true, true, true, true, false] (wp 1 MX12_may Q 73))))))) (i_keep [true, true, true, true, false] (wp 1 MX12_may Q 73)))))))
set_option maxRecDepth 100000 in
theorem s_X12_may_54 (Q : Option Value → Hp → Prop) : ∀ A st h, b_X12_may_54 Q A st h → wp 1 MX12_may Q 54 A st h := (q1 (s_aldn (n := 0) (i := 0) rfl) D_X12_may_54 fun D => (qC fl_X12_23 rfl D fun D => (q1 (s_ildn (n := 2) (i := 2) rfl) D fun D => (q1 s_iald D fun D => (q1 (s_iconst (n := 1) (v := 1) (by decide)) D fun D => (qBn s_cmpne2 73 (by decide) D (s_keep [true, true, true, true, false] fun _ _ _ h => h) fun D => (q1 (s_aldn (n := 0) (i := 0) rfl) D fun D => (qC fl_X12_41 rfl D fun D => (q1 (s_ildn (n := 1) (i := 1) rfl) D fun D => (q1 s_iald D fun D => (qB s_ifeq 92 (by decide) D (q1 (s_iconst (n := 0) (v := 0) (by decide)) D_X12_may_92 fun D => (qZ rfl D)) fun D => (s_keep [true, true, true, true, false] fun _ _ _ h => h))))))))))))
def b_X12_may_73 (Q : Option Value → Hp → Prop) : Kt := i_ald 0 (i_getR 12 7 (i_ild 2 (i_iald (i_if (fun x => x = 0) (i_ald 0 (i_getR 12 13 (i_ild 1 (i_iald (i_push (.int 1) (i_cmp (fun x y => x = y) (i_push (.int 0) (i_zret Q)) (i_keep [true, true, true, true, false] (wp 1 MX12_may Q 94)))))))) (i_keep [true, true, true, true, false] (wp 1 MX12_may Q 94))))))
set_option maxRecDepth 100000 in
theorem s_X12_may_73 (Q : Option Value → Hp → Prop) : ∀ A st h, b_X12_may_73 Q A st h → wp 1 MX12_may Q 73 A st h := (q1 (s_aldn (n := 0) (i := 0) rfl) D_X12_may_73 fun D => (qC fl_X12_26 rfl D fun D => (q1 (s_ildn (n := 2) (i := 2) rfl) D fun D => (q1 s_iald D fun D => (qBn s_ifne2 94 (by decide) D (s_keep [true, true, true, true, false] fun _ _ _ h => h) fun D => (q1 (s_aldn (n := 0) (i := 0) rfl) D fun D => (qC fl_X12_44 rfl D fun D => (q1 (s_ildn (n := 1) (i := 1) rfl) D fun D => (q1 s_iald D fun D => (q1 (s_iconst (n := 1) (v := 1) (by decide)) D fun D => (qBn s_cmpne2 94 (by decide) D (s_keep [true, true, true, true, false] fun _ _ _ h => h) fun D => (q1 (s_iconst (n := 0) (v := 0) (by decide)) D fun D => (qZ rfl D)))))))))))))
def b_X12_may_94 (Q : Option Value → Hp → Prop) : Kt := i_ild 3 (i_if (fun x => x = 0) (i_keep [true, true, true, false, false] (wp 1 MX12_may Q 119)) (i_ald 0 (i_getR 12 14 (i_ald 0 (i_ild 3 (i_callV 12 1 T_X12_lowest (c_X12_may_107 Q)))))))
set_option maxRecDepth 100000 in
theorem s_X12_may_94 (Q : Option Value → Hp → Prop) : ∀ A st h, b_X12_may_94 Q A st h → wp 1 MX12_may Q 94 A st h := (q1 (s_ildn (n := 3) (i := 3) rfl) D_X12_may_94 fun D => (qB s_ifeq 119 (by decide) D (s_keep [true, true, true, false, false] fun _ _ _ h => h) fun D => (q1 (s_aldn (n := 0) (i := 0) rfl) D fun D => (qC fl_X12_47 rfl D fun D => (q1 (s_aldn (n := 0) (i := 0) rfl) D fun D => (q1 (s_ildn (n := 3) (i := 3) rfl) D fun D => (qX (s_callV kX12 rfl ok_X12_lowest mo_X12_lowest (ch_6_8_ok.2.2.2.1.1 rfl) (ch_6_8_ok.2.2.2.2.2.1.1 rfl) (pv_3.2.2.2.2.2.2.2.2.2.2.2.2.2.1)) rfl (by decide) D fun D => (q1 s_iald D fun D => (q1 (s_aldn (n := 0) (i := 0) rfl) D fun D => (qC fl_X12_47 rfl D fun D => (q1 (s_ildn (n := 1) (i := 1) rfl) D fun D => (q1 s_iald D fun D => (qB s_cmpeq 119 (by decide) D (s_keep [true, true, true, false, false] fun _ _ _ h => h) fun D => (q1 (s_iconst (n := 0) (v := 0) (by decide)) D fun D => (qZ rfl D)))))))))))))))
def b_X12_may_119 (Q : Option Value → Hp → Prop) : Kt := i_push (.int 0) (i_ist 4 (i_keep [true, true, true, false, true] (wp 1 MX12_may Q 122)))
set_option maxRecDepth 100000 in
theorem s_X12_may_119 (Q : Option Value → Hp → Prop) : ∀ A st h, b_X12_may_119 Q A st h → wp 1 MX12_may Q 119 A st h := (q1 (s_iconst (n := 0) (v := 0) (by decide)) D_X12_may_119 fun D => (qL s_ist (by decide) D fun D => (s_keep [true, true, true, false, true] fun _ _ _ h => h)))
def b_X12_may_122 (Q : Option Value → Hp → Prop) : Kt := i_ild 4 (i_ald 0 (i_getR 12 3 (i_push (.int 0) (i_iald (i_cmp (fun x y => y ≤ x) (i_push (.int 1) (i_zret Q)) (i_ild 4 (i_ild 2 (i_cmp (fun x y => x = y) (i_keep [true, true, true, false, true] (wp 1 MX12_may Q 158)) (i_ald 0 (i_getR 12 57 (i_ild 4 (i_iald (i_ald 0 (i_getR 12 20 (i_ild 1 (i_iald (i_bin (fun x y => x &&& y) (i_if (fun x => x = 0) (i_keep [true, true, true, false, true] (wp 1 MX12_may Q 158)) (i_push (.int 0) (i_zret Q))))))))))))))))))))
set_option maxRecDepth 100000 in
theorem s_X12_may_122 (Q : Option Value → Hp → Prop) : ∀ A st h, b_X12_may_122 Q A st h → wp 1 MX12_may Q 122 A st h := (q1 s_ild D_X12_may_122 fun D => (q1 (s_aldn (n := 0) (i := 0) rfl) D fun D => (qC fl_X12_13 rfl D fun D => (q1 (s_iconst (n := 0) (v := 0) (by decide)) D fun D => (q1 s_iald D fun D => (qB s_cmpge 164 (by decide) D (q1 (s_iconst (n := 1) (v := 1) (by decide)) D_X12_may_164 fun D => (qZ rfl D)) fun D => (q1 s_ild D fun D => (q1 (s_ildn (n := 2) (i := 2) rfl) D fun D => (qB s_cmpeq 158 (by decide) D (s_keep [true, true, true, false, true] fun _ _ _ h => h) fun D => (q1 (s_aldn (n := 0) (i := 0) rfl) D fun D => (qC fl_X12_144 rfl D fun D => (q1 s_ild D fun D => (q1 s_iald D fun D => (q1 (s_aldn (n := 0) (i := 0) rfl) D fun D => (qC fl_X12_65 rfl D fun D => (q1 (s_ildn (n := 1) (i := 1) rfl) D fun D => (q1 s_iald D fun D => (q1 s_and D fun D => (qB s_ifeq 158 (by decide) D (s_keep [true, true, true, false, true] fun _ _ _ h => h) fun D => (q1 (s_iconst (n := 0) (v := 0) (by decide)) D fun D => (qZ rfl D)))))))))))))))))))))
def b_X12_may_158 (Q : Option Value → Hp → Prop) : Kt := i_inc 4 1 (i_keep [true, true, true, false, true] (wp 1 MX12_may Q 122))
set_option maxRecDepth 100000 in
theorem s_X12_may_158 (Q : Option Value → Hp → Prop) : ∀ A st h, b_X12_may_158 Q A st h → wp 1 MX12_may Q 158 A st h := (qL (s_inc (i := 4) (n := 1) (v := 1) (by decide)) (by decide) D_X12_may_158 fun D => (qG 122 (by decide) D (s_keep [true, true, true, false, true] fun _ _ _ h => h)))

theorem may_122 (Q : Option Value → Hp → Prop) (h : Hp) (hl : LayM h) (R k s : Nat) (hR : R ≤ 4) (hr : hI h 46 0 = nI R) (hk : k < 24) (hs : s < 4) (hq1 : my5 (hI h) R k s → Q (some (.int 1)) h) (hq2 : ¬ my5 (hI h) R k s → Q (some (.int 0)) h) :
    ∀ (m q : Nat), m = R - q → q ≤ R → (∀ j, j < q → j ≠ s → hI h 88 j &&& hI h 63 k = 0) → wp 1 MX12_may Q 122 [some (.ref 44), some (.int (nI k)), some (.int (nI s)), none, some (.int (nI q))] [] h := by
  intro m
  induction m with
  | zero =>
    intro q hm hq hall
    have e : q = R := by omega
    subst e
    refine s_X12_may_122 Q _ _ _ ?_
    simp only [b_X12_may_122, hl, lay_pI, lay_wI, lay_pJ, lm_t hl, lm_k hl, lm_r hl, lm_l hl, i_push, i_ild, i_ald, i_ist, i_ast, i_inc, i_bin, i_un, i_divs, i_i2l, i_lshl, i_lor, i_dup, i_dup2, i_pop, i_if, i_cmp, i_nul, i_vret, i_iret, i_zret, i_aret, i_keep, keep, lget, lset, ent, i_getI, i_getJ, i_getR, i_getN, i_putI, i_putZ, i_putJ, i_putR, i_iald, i_bald, i_alen, i_aald, i_iast, i_bast, i_aast, i_new, i_newa, i_anew, i_oini, i_callS, i_callV, i_callI, popn, sh4, i_sw, swP, i_copy, i_binS, List.map, Option.toList_none, Option.toList_some, List.append, List.nil_append, List.cons_append, List.length_cons, List.length_nil, List.replicate, Nat.sub_self, Nat.reduceSub, Nat.reduceAdd, hK_pI, hL_pI, hI_pI, hR_pI, hJ_pI, hT_pI, hS_pI, hK_pR, hL_pR, hI_pR, hR_pR, hJ_pR, hT_pR, hS_pR, hK_pJ, hL_pJ, hI_pJ, hR_pJ, hJ_pJ, hT_pJ, hS_pJ, hK_wI, hL_wI, hI_wI, hR_wI, hJ_wI, hT_wI, hS_wI, eq_self, and_true, true_and, and_false, false_and, or_true, true_or, or_false, false_or, if_true, if_false, not_true_eq_false, not_false_eq_true, forall_const, implies_true, false_implies, true_implies, Option.some.injEq, forall_eq', exists_eq_left', reduceCtorEq, Nat.reduceEqDiff, c1, T_X12_in, T_X12_ones, T_X11_within, T_X11_bit, T_X11_isIn, T_X11_oneIfIn, T_J6_bitCount_0f7a4, in0 4 (by decide) (by decide), cl0, hr]
    exact ⟨fun _ => hq1 (fun j hj hne => hall j hj hne), fun c => absurd (nI_le (Nat.le_refl _) (by omega)) c⟩
  | succ m ih =>
    intro q hm hq hall
    have h158 : (q ≠ s → hI h 88 q &&& hI h 63 k = 0) → wp 1 MX12_may Q 158 [some (.ref 44), some (.int (nI k)), some (.int (nI s)), none, some (.int (nI q))] [] h := by
      intro hz
      refine s_X12_may_158 Q _ _ _ ?_
      simp only [b_X12_may_158, i_push, i_ild, i_ald, i_ist, i_ast, i_inc, i_bin, i_un, i_divs, i_i2l, i_lshl, i_lor, i_dup, i_dup2, i_pop, i_if, i_cmp, i_nul, i_vret, i_iret, i_zret, i_aret, i_keep, keep, lget, lset, ent, i_getI, i_getJ, i_getR, i_getN, i_putI, i_putZ, i_putJ, i_putR, i_iald, i_bald, i_alen, i_aald, i_iast, i_bast, i_aast, i_new, i_newa, i_anew, i_oini, i_callS, i_callV, i_callI, popn, sh4, i_sw, swP, i_copy, i_binS, List.map, Option.toList_none, Option.toList_some, List.append, List.nil_append, List.cons_append, List.length_cons, List.length_nil, List.replicate, Nat.sub_self, Nat.reduceSub, Nat.reduceAdd, hK_pI, hL_pI, hI_pI, hR_pI, hJ_pI, hT_pI, hS_pI, hK_pR, hL_pR, hI_pR, hR_pR, hJ_pR, hT_pR, hS_pR, hK_pJ, hL_pJ, hI_pJ, hR_pJ, hJ_pJ, hT_pJ, hS_pJ, hK_wI, hL_wI, hI_wI, hR_wI, hJ_wI, hT_wI, hS_wI, eq_self, and_true, true_and, and_false, false_and, or_true, true_or, or_false, false_or, if_true, if_false, not_true_eq_false, not_false_eq_true, forall_const, implies_true, false_implies, true_implies, Option.some.injEq, forall_eq', exists_eq_left', reduceCtorEq, Nat.reduceEqDiff, c1, T_X12_in, T_X12_ones, T_X11_within, T_X11_bit, T_X11_isIn, T_X11_oneIfIn, T_J6_bitCount_0f7a4, nI_1]
      refine ih (q + 1) (by omega) (by omega) (fun j hj hne => ?_)
      rcases Nat.lt_or_ge j q with r | r
      · exact hall j r hne
      · have ej : j = q := by omega
        subst ej
        exact hz hne
    refine s_X12_may_122 Q _ _ _ ?_
    simp only [b_X12_may_122, hl, lay_pI, lay_wI, lay_pJ, lm_t hl, lm_k hl, lm_r hl, lm_l hl, i_push, i_ild, i_ald, i_ist, i_ast, i_inc, i_bin, i_un, i_divs, i_i2l, i_lshl, i_lor, i_dup, i_dup2, i_pop, i_if, i_cmp, i_nul, i_vret, i_iret, i_zret, i_aret, i_keep, keep, lget, lset, ent, i_getI, i_getJ, i_getR, i_getN, i_putI, i_putZ, i_putJ, i_putR, i_iald, i_bald, i_alen, i_aald, i_iast, i_bast, i_aast, i_new, i_newa, i_anew, i_oini, i_callS, i_callV, i_callI, popn, sh4, i_sw, swP, i_copy, i_binS, List.map, Option.toList_none, Option.toList_some, List.append, List.nil_append, List.cons_append, List.length_cons, List.length_nil, List.replicate, Nat.sub_self, Nat.reduceSub, Nat.reduceAdd, hK_pI, hL_pI, hI_pI, hR_pI, hJ_pI, hT_pI, hS_pI, hK_pR, hL_pR, hI_pR, hR_pR, hJ_pR, hT_pR, hS_pR, hK_pJ, hL_pJ, hI_pJ, hR_pJ, hJ_pJ, hT_pJ, hS_pJ, hK_wI, hL_wI, hI_wI, hR_wI, hJ_wI, hT_wI, hS_wI, eq_self, and_true, true_and, and_false, false_and, or_true, true_or, or_false, false_or, if_true, if_false, not_true_eq_false, not_false_eq_true, forall_const, implies_true, false_implies, true_implies, Option.some.injEq, forall_eq', exists_eq_left', reduceCtorEq, Nat.reduceEqDiff, c1, T_X12_in, T_X12_ones, T_X11_within, T_X11_bit, T_X11_isIn, T_X11_oneIfIn, T_J6_bitCount_0f7a4, in0 4 (by decide) (by decide), cl0, hr, cl_nI (show q < 2147483648 by omega), in_nI (show q < 4 by omega) (by decide), cl_nI (show k < 2147483648 by omega), in_nI (show k < 96 by omega) (by decide), nI_eq (show q < 2 ^ 31 by omega) (show s < 2 ^ 31 by omega)]
    refine ⟨fun c => absurd c (nI_ge (by omega) (by omega)), fun _ => ⟨fun c => h158 (fun z => absurd c z), fun c => ⟨fun z => h158 (fun _ => z), fun z => hq2 (fun w => z (w q (by omega) c))⟩⟩⟩
theorem may_94 (Q : Option Value → Hp → Prop) (h : Hp) (hl : LayM h) (R k s : Nat) (hR : R ≤ 4) (hr : hI h 46 0 = nI R) (hk : k < 24) (hs : s < 4) (hq1 : my4 (hI h) k s ∧ my5 (hI h) R k s → Q (some (.int 1)) h) (hq2 : ¬ (my4 (hI h) k s ∧ my5 (hI h) R k s) → Q (some (.int 0)) h) :
    wp 1 MX12_may Q 94 [some (.ref 44), some (.int (nI k)), some (.int (nI s)), some (.int (hI h 88 s)), none] [] h := by
  have h119 : my4 (hI h) k s → wp 1 MX12_may Q 119 [some (.ref 44), some (.int (nI k)), some (.int (nI s)), none, none] [] h := by
    intro hm
    refine s_X12_may_119 Q _ _ _ ?_
    simp only [b_X12_may_119, i_push, i_ild, i_ald, i_ist, i_ast, i_inc, i_bin, i_un, i_divs, i_i2l, i_lshl, i_lor, i_dup, i_dup2, i_pop, i_if, i_cmp, i_nul, i_vret, i_iret, i_zret, i_aret, i_keep, keep, lget, lset, ent, i_getI, i_getJ, i_getR, i_getN, i_putI, i_putZ, i_putJ, i_putR, i_iald, i_bald, i_alen, i_aald, i_iast, i_bast, i_aast, i_new, i_newa, i_anew, i_oini, i_callS, i_callV, i_callI, popn, sh4, i_sw, swP, i_copy, i_binS, List.map, Option.toList_none, Option.toList_some, List.append, List.nil_append, List.cons_append, List.length_cons, List.length_nil, List.replicate, Nat.sub_self, Nat.reduceSub, Nat.reduceAdd, hK_pI, hL_pI, hI_pI, hR_pI, hJ_pI, hT_pI, hS_pI, hK_pR, hL_pR, hI_pR, hR_pR, hJ_pR, hT_pR, hS_pR, hK_pJ, hL_pJ, hI_pJ, hR_pJ, hJ_pJ, hT_pJ, hS_pJ, hK_wI, hL_wI, hI_wI, hR_wI, hJ_wI, hT_wI, hS_wI, eq_self, and_true, true_and, and_false, false_and, or_true, true_or, or_false, false_or, if_true, if_false, not_true_eq_false, not_false_eq_true, forall_const, implies_true, false_implies, true_implies, Option.some.injEq, forall_eq', exists_eq_left', reduceCtorEq, Nat.reduceEqDiff, c1, T_X12_in, T_X12_ones, T_X11_within, T_X11_bit, T_X11_isIn, T_X11_oneIfIn, T_J6_bitCount_0f7a4]
    exact may_122 Q h hl R k s hR hr hk hs (fun z => hq1 ⟨hm, z⟩) (fun z => hq2 (fun w => z w.2)) R 0 (by omega) (by omega) (fun j hj => absurd hj (by omega))
  refine s_X12_may_94 Q _ _ _ ?_
  simp only [b_X12_may_94, hl, lay_pI, lay_wI, lay_pJ, lm_t hl, lm_k hl, lm_r hl, lm_l hl, i_push, i_ild, i_ald, i_ist, i_ast, i_inc, i_bin, i_un, i_divs, i_i2l, i_lshl, i_lor, i_dup, i_dup2, i_pop, i_if, i_cmp, i_nul, i_vret, i_iret, i_zret, i_aret, i_keep, keep, lget, lset, ent, i_getI, i_getJ, i_getR, i_getN, i_putI, i_putZ, i_putJ, i_putR, i_iald, i_bald, i_alen, i_aald, i_iast, i_bast, i_aast, i_new, i_newa, i_anew, i_oini, i_callS, i_callV, i_callI, popn, sh4, i_sw, swP, i_copy, i_binS, List.map, Option.toList_none, Option.toList_some, List.append, List.nil_append, List.cons_append, List.length_cons, List.length_nil, List.replicate, Nat.sub_self, Nat.reduceSub, Nat.reduceAdd, hK_pI, hL_pI, hI_pI, hR_pI, hJ_pI, hT_pI, hS_pI, hK_pR, hL_pR, hI_pR, hR_pR, hJ_pR, hT_pR, hS_pR, hK_pJ, hL_pJ, hI_pJ, hR_pJ, hJ_pJ, hT_pJ, hS_pJ, hK_wI, hL_wI, hI_wI, hR_wI, hJ_wI, hT_wI, hS_wI, eq_self, and_true, true_and, and_false, false_and, or_true, true_or, or_false, false_or, if_true, if_false, not_true_eq_false, not_false_eq_true, forall_const, implies_true, false_implies, true_implies, Option.some.injEq, forall_eq', exists_eq_left', reduceCtorEq, Nat.reduceEqDiff, c1, T_X12_in, T_X12_ones, T_X11_within, T_X11_bit, T_X11_isIn, T_X11_oneIfIn, T_J6_bitCount_0f7a4]
  refine ⟨fun c => h119 (fun j hj => ?_), fun c => ?_⟩
  · have := hj.1
    rw [c, b_0] at this
    cases this
  · obtain ⟨j, hj, hlow⟩ := low_ex c
    refine ⟨rfl, j, hj, hlow, ?_⟩
    simp only [c_X12_may_107, hl, lay_pI, lay_wI, lay_pJ, lm_t hl, lm_k hl, lm_r hl, lm_l hl, i_push, i_ild, i_ald, i_ist, i_ast, i_inc, i_bin, i_un, i_divs, i_i2l, i_lshl, i_lor, i_dup, i_dup2, i_pop, i_if, i_cmp, i_nul, i_vret, i_iret, i_zret, i_aret, i_keep, keep, lget, lset, ent, i_getI, i_getJ, i_getR, i_getN, i_putI, i_putZ, i_putJ, i_putR, i_iald, i_bald, i_alen, i_aald, i_iast, i_bast, i_aast, i_new, i_newa, i_anew, i_oini, i_callS, i_callV, i_callI, popn, sh4, i_sw, swP, i_copy, i_binS, List.map, Option.toList_none, Option.toList_some, List.append, List.nil_append, List.cons_append, List.length_cons, List.length_nil, List.replicate, Nat.sub_self, Nat.reduceSub, Nat.reduceAdd, hK_pI, hL_pI, hI_pI, hR_pI, hJ_pI, hT_pI, hS_pI, hK_pR, hL_pR, hI_pR, hR_pR, hJ_pR, hT_pR, hS_pR, hK_pJ, hL_pJ, hI_pJ, hR_pJ, hJ_pJ, hT_pJ, hS_pJ, hK_wI, hL_wI, hI_wI, hR_wI, hJ_wI, hT_wI, hS_wI, eq_self, and_true, true_and, and_false, false_and, or_true, true_or, or_false, false_or, if_true, if_false, not_true_eq_false, not_false_eq_true, forall_const, implies_true, false_implies, true_implies, Option.some.injEq, forall_eq', exists_eq_left', reduceCtorEq, Nat.reduceEqDiff, c1, T_X12_in, T_X12_ones, T_X11_within, T_X11_bit, T_X11_isIn, T_X11_oneIfIn, T_J6_bitCount_0f7a4, cl_nI (show j < 2147483648 by omega), in_nI (show j < 96 by omega) (by decide), cl_nI (show k < 2147483648 by omega), in_nI (show k < 96 by omega) (by decide)]
    refine ⟨fun z => h119 (fun i hi => ?_), fun z => hq2 (fun w => z (w.1 j hlow))⟩
    have ei : i = j := by
      rcases Nat.lt_trichotomy i j with q | q | q
      · have := hi.1; rw [hlow.2 i q] at this; cases this
      · exact q
      · have := hlow.1; rw [hi.2 j q] at this; cases this
    subst ei
    exact z
theorem may_73 (Q : Option Value → Hp → Prop) (h : Hp) (hl : LayM h) (R k s : Nat) (hR : R ≤ 4) (hr : hI h 46 0 = nI R) (hk : k < 24) (hs : s < 4) (hq1 : my3 (hI h) k s ∧ my4 (hI h) k s ∧ my5 (hI h) R k s → Q (some (.int 1)) h) (hq2 : ¬ (my3 (hI h) k s ∧ my4 (hI h) k s ∧ my5 (hI h) R k s) → Q (some (.int 0)) h) :
    wp 1 MX12_may Q 73 [some (.ref 44), some (.int (nI k)), some (.int (nI s)), some (.int (hI h 88 s)), none] [] h := by
  have hgo : my3 (hI h) k s → wp 1 MX12_may Q 94 [some (.ref 44), some (.int (nI k)), some (.int (nI s)), some (.int (hI h 88 s)), none] [] h := fun hm => may_94 Q h hl R k s hR hr hk hs (fun z => hq1 ⟨hm, z⟩) (fun z => hq2 (fun w => z w.2))
  refine s_X12_may_73 Q _ _ _ ?_
  simp only [b_X12_may_73, hl, lay_pI, lay_wI, lay_pJ, lm_t hl, lm_k hl, lm_r hl, lm_l hl, i_push, i_ild, i_ald, i_ist, i_ast, i_inc, i_bin, i_un, i_divs, i_i2l, i_lshl, i_lor, i_dup, i_dup2, i_pop, i_if, i_cmp, i_nul, i_vret, i_iret, i_zret, i_aret, i_keep, keep, lget, lset, ent, i_getI, i_getJ, i_getR, i_getN, i_putI, i_putZ, i_putJ, i_putR, i_iald, i_bald, i_alen, i_aald, i_iast, i_bast, i_aast, i_new, i_newa, i_anew, i_oini, i_callS, i_callV, i_callI, popn, sh4, i_sw, swP, i_copy, i_binS, List.map, Option.toList_none, Option.toList_some, List.append, List.nil_append, List.cons_append, List.length_cons, List.length_nil, List.replicate, Nat.sub_self, Nat.reduceSub, Nat.reduceAdd, hK_pI, hL_pI, hI_pI, hR_pI, hJ_pI, hT_pI, hS_pI, hK_pR, hL_pR, hI_pR, hR_pR, hJ_pR, hT_pR, hS_pR, hK_pJ, hL_pJ, hI_pJ, hR_pJ, hJ_pJ, hT_pJ, hS_pJ, hK_wI, hL_wI, hI_wI, hR_wI, hJ_wI, hT_wI, hS_wI, eq_self, and_true, true_and, and_false, false_and, or_true, true_or, or_false, false_or, if_true, if_false, not_true_eq_false, not_false_eq_true, forall_const, implies_true, false_implies, true_implies, Option.some.injEq, forall_eq', exists_eq_left', reduceCtorEq, Nat.reduceEqDiff, c1, T_X12_in, T_X12_ones, T_X11_within, T_X11_bit, T_X11_isIn, T_X11_oneIfIn, T_J6_bitCount_0f7a4, cl_nI (show s < 2147483648 by omega), in_nI (show s < 16 by omega) (by decide), cl_nI (show k < 2147483648 by omega), in_nI (show k < 96 by omega) (by decide)]
  exact ⟨fun c => ⟨fun c2 => hq2 (fun w => w.1 ⟨c, c2⟩), fun c2 => hgo (fun w => c2 w.2)⟩, fun c => hgo (fun w => c w.1)⟩
theorem may_54 (Q : Option Value → Hp → Prop) (h : Hp) (hl : LayM h) (R k s : Nat) (hR : R ≤ 4) (hr : hI h 46 0 = nI R) (hk : k < 24) (hs : s < 4) (hq1 : my2 (hI h) k s ∧ my3 (hI h) k s ∧ my4 (hI h) k s ∧ my5 (hI h) R k s → Q (some (.int 1)) h) (hq2 : ¬ (my2 (hI h) k s ∧ my3 (hI h) k s ∧ my4 (hI h) k s ∧ my5 (hI h) R k s) → Q (some (.int 0)) h) :
    wp 1 MX12_may Q 54 [some (.ref 44), some (.int (nI k)), some (.int (nI s)), some (.int (hI h 88 s)), none] [] h := by
  have hgo : my2 (hI h) k s → wp 1 MX12_may Q 73 [some (.ref 44), some (.int (nI k)), some (.int (nI s)), some (.int (hI h 88 s)), none] [] h := fun hm => may_73 Q h hl R k s hR hr hk hs (fun z => hq1 ⟨hm, z⟩) (fun z => hq2 (fun w => z w.2))
  refine s_X12_may_54 Q _ _ _ ?_
  simp only [b_X12_may_54, hl, lay_pI, lay_wI, lay_pJ, lm_t hl, lm_k hl, lm_r hl, lm_l hl, i_push, i_ild, i_ald, i_ist, i_ast, i_inc, i_bin, i_un, i_divs, i_i2l, i_lshl, i_lor, i_dup, i_dup2, i_pop, i_if, i_cmp, i_nul, i_vret, i_iret, i_zret, i_aret, i_keep, keep, lget, lset, ent, i_getI, i_getJ, i_getR, i_getN, i_putI, i_putZ, i_putJ, i_putR, i_iald, i_bald, i_alen, i_aald, i_iast, i_bast, i_aast, i_new, i_newa, i_anew, i_oini, i_callS, i_callV, i_callI, popn, sh4, i_sw, swP, i_copy, i_binS, List.map, Option.toList_none, Option.toList_some, List.append, List.nil_append, List.cons_append, List.length_cons, List.length_nil, List.replicate, Nat.sub_self, Nat.reduceSub, Nat.reduceAdd, hK_pI, hL_pI, hI_pI, hR_pI, hJ_pI, hT_pI, hS_pI, hK_pR, hL_pR, hI_pR, hR_pR, hJ_pR, hT_pR, hS_pR, hK_pJ, hL_pJ, hI_pJ, hR_pJ, hJ_pJ, hT_pJ, hS_pJ, hK_wI, hL_wI, hI_wI, hR_wI, hJ_wI, hT_wI, hS_wI, eq_self, and_true, true_and, and_false, false_and, or_true, true_or, or_false, false_or, if_true, if_false, not_true_eq_false, not_false_eq_true, forall_const, implies_true, false_implies, true_implies, Option.some.injEq, forall_eq', exists_eq_left', reduceCtorEq, Nat.reduceEqDiff, c1, T_X12_in, T_X12_ones, T_X11_within, T_X11_bit, T_X11_isIn, T_X11_oneIfIn, T_J6_bitCount_0f7a4, cl_nI (show s < 2147483648 by omega), in_nI (show s < 16 by omega) (by decide), cl_nI (show k < 2147483648 by omega), in_nI (show k < 96 by omega) (by decide)]
  exact ⟨fun c => ⟨fun c2 => hq2 (fun w => w.1 ⟨c, c2⟩), fun c2 => hgo (fun w => c2 w.2)⟩, fun c => hgo (fun w => c w.1)⟩
set_option maxRecDepth 100000 in
set_option maxHeartbeats 4000000 in
theorem ok_X12_may : ctr 1 MX12_may T_X12_may := by
  refine ctr_of pn_X12 wc_X12_may (fun av h Q hT => ?_)
  unfold T_X12_may at hT
  split at hT
  · rename_i o p r
    refine ⟨⟨by simp [Value.category], Nat.le_of_ble_eq_true rfl⟩, s_X12_may_0 Q _ _ _ ?_⟩
    obtain ⟨rfl, hl, R, k, s, hR, hr, rfl, hk, rfl, hs, hq1, hq2⟩ := hT
    have hgo : my0 (hI h) k s → my1 (hI h) k s → wp 1 MX12_may Q 54 [some (.ref 44), some (.int (nI k)), some (.int (nI s)), some (.int (hI h 88 s)), none] [] h := fun a b => may_54 Q h hl R k s hR hr hk hs (fun z => hq1 ⟨a, b, z⟩) (fun z => hq2 (fun w => z w.2.2))
    simp only [MX12_may, b_X12_may_0, T_X12_capacity, b_X12_capacity_0, hl, lay_pI, lay_wI, lay_pJ, lm_t hl, lm_k hl, lm_r hl, lm_l hl, i_push, i_ild, i_ald, i_ist, i_ast, i_inc, i_bin, i_un, i_divs, i_i2l, i_lshl, i_lor, i_dup, i_dup2, i_pop, i_if, i_cmp, i_nul, i_vret, i_iret, i_zret, i_aret, i_keep, keep, lget, lset, ent, i_getI, i_getJ, i_getR, i_getN, i_putI, i_putZ, i_putJ, i_putR, i_iald, i_bald, i_alen, i_aald, i_iast, i_bast, i_aast, i_new, i_newa, i_anew, i_oini, i_callS, i_callV, i_callI, popn, sh4, i_sw, swP, i_copy, i_binS, List.map, Option.toList_none, Option.toList_some, List.append, List.nil_append, List.cons_append, List.length_cons, List.length_nil, List.replicate, Nat.sub_self, Nat.reduceSub, Nat.reduceAdd, hK_pI, hL_pI, hI_pI, hR_pI, hJ_pI, hT_pI, hS_pI, hK_pR, hL_pR, hI_pR, hR_pR, hJ_pR, hT_pR, hS_pR, hK_pJ, hL_pJ, hI_pJ, hR_pJ, hJ_pJ, hT_pJ, hS_pJ, hK_wI, hL_wI, hI_wI, hR_wI, hJ_wI, hT_wI, hS_wI, eq_self, and_true, true_and, and_false, false_and, or_true, true_or, or_false, false_or, if_true, if_false, not_true_eq_false, not_false_eq_true, forall_const, implies_true, false_implies, true_implies, Option.some.injEq, forall_eq', exists_eq_left', reduceCtorEq, Nat.reduceEqDiff, c1, T_X12_in, T_X12_ones, T_X11_within, T_X11_bit, T_X11_isIn, T_X11_oneIfIn, T_J6_bitCount_0f7a4, cl_nI (show s < 2147483648 by omega), in_nI (show s < 16 by omega) (by decide), in_nI (show s < 4 by omega) (by decide), cl_nI (show k < 2147483648 by omega), in_nI (show k < 96 by omega) (by decide), Int32.add_zero]
    have hcap : ∀ c : Int32, c = capF (hI h) s → (c ≤ nI (pct (hI h 88 s)) → Q (some (.int 0)) h) ∧ (¬ c ≤ nI (pct (hI h 88 s)) → (hI h 88 s &&& hI h 62 k = 0 → (hI h 51 s = 0 → wp 1 MX12_may Q 54 [some (.ref 44), some (.int (nI k)), some (.int (nI s)), some (.int (hI h 88 s)), none] [] h) ∧ (¬ hI h 51 s = 0 → (hI h 51 s = hI h 54 k → wp 1 MX12_may Q 54 [some (.ref 44), some (.int (nI k)), some (.int (nI s)), some (.int (hI h 88 s)), none] [] h) ∧ (¬ hI h 51 s = hI h 54 k → Q (some (.int 0)) h))) ∧ (¬ hI h 88 s &&& hI h 62 k = 0 → Q (some (.int 0)) h)) := by
      intro c hc
      subst hc
      refine ⟨fun z => hq2 (fun w => w.1.1 z), fun z => ⟨fun z2 => ⟨fun z3 => hgo ⟨z, z2⟩ (Or.inl z3), fun z3 => ⟨fun z4 => hgo ⟨z, z2⟩ (Or.inr z4), fun z4 => hq2 (fun w => ?_)⟩⟩, fun z2 => hq2 (fun w => z2 w.1.2)⟩⟩
      rcases w.2.1 with q | q
      · exact z3 q
      · exact z4 q
    unfold capF at hcap
    refine ⟨fun c => ?_, fun c => ?_⟩
    · rw [if_pos c] at hcap; exact hcap _ rfl
    · rw [if_neg c] at hcap; exact hcap _ rfl
  · exact hT.elim
