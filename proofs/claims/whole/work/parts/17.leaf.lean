/-! ===== truths as numbers ===== -/
def b2i (p : Prop) [Decidable p] : Int32 := if p then 1 else 0
theorem b2i_t {p : Prop} [Decidable p] (h : p) : b2i p = 1 := if_pos h
theorem b2i_f {p : Prop} [Decidable p] (h : ¬ p) : b2i p = 0 := if_neg h
theorem b2i_0 {p : Prop} [Decidable p] : b2i p = 0 ↔ ¬ p := by unfold b2i; split <;> simp_all
theorem b2i_01 (p : Prop) [Decidable p] : b2i p = 0 ∨ b2i p = 1 := by unfold b2i; split <;> simp
theorem qY {d : Nat} {M : Mt} {Q : Option Value → Hp → Prop} {pc : Nat} {K : Kt} {L : List (Instr × Nat)} {tr : Kt → Kt} {own : String} {idx : Nat} (s : ∀ (d : Nat) (M : Mt) (Q : Option Value → Hp → Prop) (pc : Nat) (K : Kt), M.1.cls = own → 1 ≤ d → decode M.2.1 pc = .ok (.invokestatic idx, 3) → (∀ A st h, K A st h → wp d M Q (pc + 3) A st h) → ∀ A st h, tr K A st h → wp d M Q pc A st h) (ho : M.1.cls = own) (hd : 1 ≤ d) (D : dseq M.2.1 pc ((.invokestatic idx, 3) :: L)) (k : dseq M.2.1 (pc + 3) L → ∀ A st h, K A st h → wp d M Q (pc + 3) A st h) : ∀ A st h, tr K A st h → wp d M Q pc A st h := s d M Q pc K ho hd D.1 (k D.2)
/-! ===== leaves ===== -/
def T_X12_in : Tr := fun av h Q => match av with
  | [.int v, .int lo, .int hi] => Q (some (.int (b2i (lo ≤ v ∧ v ≤ hi)))) h
  | _ => False
def L_X12_in : List UInt8 := [26, 27, 161, 0, 12, 26, 28, 163, 0, 7, 4, 167, 0, 4, 3, 172]
theorem Lc_X12_in : MX12_in.2.1 = ⟨L_X12_in.toArray⟩ := rfl
theorem D_X12_in_0 : dseq MX12_in.2.1 0 [(.iload_n 0, 1), (.iload_n 1, 1), (.if_icmp .lt 12, 3), (.iload_n 0, 1), (.iload_n 2, 1), (.if_icmp .gt 7, 3), (.iconst 1, 1), (.goto 4, 3)] := dq Lc_X12_in 0 _ (by decide +kernel)
theorem D_X12_in_14 : dseq MX12_in.2.1 14 [(.iconst 0, 1), (.ireturn, 1)] := dq Lc_X12_in 14 _ (by decide +kernel)
theorem D_X12_in_15 : dseq MX12_in.2.1 15 [(.ireturn, 1)] := dq Lc_X12_in 15 _ (by decide +kernel)
def b_X12_in_0 (Q : Option Value → Hp → Prop) : Kt := i_ild 0 (i_ild 1 (i_cmp (fun x y => x < y) (i_push (.int 0) (i_zret Q)) (i_ild 0 (i_ild 2 (i_cmp (fun x y => y < x) (i_push (.int 0) (i_zret Q)) (i_push (.int 1) (i_zret Q)))))))
set_option maxRecDepth 100000 in
theorem s_X12_in_0 (Q : Option Value → Hp → Prop) : ∀ A st h, b_X12_in_0 Q A st h → wp 0 MX12_in Q 0 A st h := (q1 (s_ildn (n := 0) (i := 0) rfl) D_X12_in_0 fun D => (q1 (s_ildn (n := 1) (i := 1) rfl) D fun D => (qB s_cmplt 14 (by decide) D (q1 (s_iconst (n := 0) (v := 0) (by decide)) D_X12_in_14 fun D => (qZ rfl D)) fun D => (q1 (s_ildn (n := 0) (i := 0) rfl) D fun D => (q1 (s_ildn (n := 2) (i := 2) rfl) D fun D => (qB s_cmpgt 14 (by decide) D (q1 (s_iconst (n := 0) (v := 0) (by decide)) D_X12_in_14 fun D => (qZ rfl D)) fun D => (q1 (s_iconst (n := 1) (v := 1) (by decide)) D fun D => (qG 15 (by decide) D (qZ rfl D_X12_in_15)))))))))

set_option maxRecDepth 100000 in
set_option maxHeartbeats 4000000 in
theorem ok_X12_in : ctr 0 MX12_in T_X12_in := by
  refine ctr_of pn_X12 wc_X12_in (fun av h Q hT => ?_)
  unfold T_X12_in at hT
  split at hT
  · rename_i v lo hi
    refine ⟨⟨by simp [Value.category], Nat.le_of_ble_eq_true rfl⟩, s_X12_in_0 Q _ _ _ ?_⟩
    simp only [MX12_in, b_X12_in_0, i_push, i_ild, i_ald, i_ist, i_ast, i_inc, i_bin, i_un, i_divs, i_i2l, i_lshl, i_lor, i_dup, i_dup2, i_pop, i_if, i_cmp, i_nul, i_vret, i_iret, i_zret, i_aret, i_keep, keep, lget, lset, ent, i_getI, i_getJ, i_getR, i_getN, i_putI, i_putZ, i_putJ, i_putR, i_iald, i_bald, i_alen, i_aald, i_iast, i_bast, i_aast, i_new, i_newa, i_anew, i_oini, i_callS, i_callV, i_callI, popn, sh4, i_sw, swP, i_copy, i_binS, List.map, Option.toList_none, Option.toList_some, List.append, List.nil_append, List.cons_append, List.length_cons, List.length_nil, List.replicate, Nat.sub_self, Nat.reduceSub, Nat.reduceAdd, hK_pI, hL_pI, hI_pI, hR_pI, hJ_pI, hT_pI, hS_pI, hK_pR, hL_pR, hI_pR, hR_pR, hJ_pR, hT_pR, hS_pR, hK_pJ, hL_pJ, hI_pJ, hR_pJ, hJ_pJ, hT_pJ, hS_pJ, hK_wI, hL_wI, hI_wI, hR_wI, hJ_wI, hT_wI, hS_wI, eq_self, and_true, true_and, and_false, false_and, or_true, true_or, or_false, false_or, if_true, if_false, not_true_eq_false, not_false_eq_true, forall_const, implies_true, false_implies, true_implies, Option.some.injEq, forall_eq', exists_eq_left', reduceCtorEq, Nat.reduceEqDiff, c1]
    refine ⟨fun h1 => ?_, fun h1 => ⟨fun h2 => ?_, fun h2 => ?_⟩⟩
    · rwa [b2i_f (fun q => absurd q.1 (Int32.not_le.mpr h1))] at hT
    · rwa [b2i_f (fun q => absurd q.2 (Int32.not_le.mpr h2))] at hT
    · rwa [b2i_t ⟨Int32.not_lt.mp h1, Int32.not_lt.mp h2⟩] at hT
  · exact hT.elim
def T_X11_within : Tr := fun av h Q => match av with
  | [.int v, .int lo, .int hi] => Q (some (.int (b2i (lo ≤ v ∧ v ≤ hi)))) h
  | _ => False
def L_X11_within : List UInt8 := [26, 27, 161, 0, 12, 26, 28, 163, 0, 7, 4, 167, 0, 4, 3, 172]
theorem Lc_X11_within : MX11_within.2.1 = ⟨L_X11_within.toArray⟩ := rfl
theorem D_X11_within_0 : dseq MX11_within.2.1 0 [(.iload_n 0, 1), (.iload_n 1, 1), (.if_icmp .lt 12, 3), (.iload_n 0, 1), (.iload_n 2, 1), (.if_icmp .gt 7, 3), (.iconst 1, 1), (.goto 4, 3)] := dq Lc_X11_within 0 _ (by decide +kernel)
theorem D_X11_within_14 : dseq MX11_within.2.1 14 [(.iconst 0, 1), (.ireturn, 1)] := dq Lc_X11_within 14 _ (by decide +kernel)
theorem D_X11_within_15 : dseq MX11_within.2.1 15 [(.ireturn, 1)] := dq Lc_X11_within 15 _ (by decide +kernel)
def b_X11_within_0 (Q : Option Value → Hp → Prop) : Kt := i_ild 0 (i_ild 1 (i_cmp (fun x y => x < y) (i_push (.int 0) (i_zret Q)) (i_ild 0 (i_ild 2 (i_cmp (fun x y => y < x) (i_push (.int 0) (i_zret Q)) (i_push (.int 1) (i_zret Q)))))))
set_option maxRecDepth 100000 in
theorem s_X11_within_0 (Q : Option Value → Hp → Prop) : ∀ A st h, b_X11_within_0 Q A st h → wp 0 MX11_within Q 0 A st h := (q1 (s_ildn (n := 0) (i := 0) rfl) D_X11_within_0 fun D => (q1 (s_ildn (n := 1) (i := 1) rfl) D fun D => (qB s_cmplt 14 (by decide) D (q1 (s_iconst (n := 0) (v := 0) (by decide)) D_X11_within_14 fun D => (qZ rfl D)) fun D => (q1 (s_ildn (n := 0) (i := 0) rfl) D fun D => (q1 (s_ildn (n := 2) (i := 2) rfl) D fun D => (qB s_cmpgt 14 (by decide) D (q1 (s_iconst (n := 0) (v := 0) (by decide)) D_X11_within_14 fun D => (qZ rfl D)) fun D => (q1 (s_iconst (n := 1) (v := 1) (by decide)) D fun D => (qG 15 (by decide) D (qZ rfl D_X11_within_15)))))))))

set_option maxRecDepth 100000 in
set_option maxHeartbeats 4000000 in
theorem ok_X11_within : ctr 0 MX11_within T_X11_within := by
  refine ctr_of pn_X11 wc_X11_within (fun av h Q hT => ?_)
  unfold T_X11_within at hT
  split at hT
  · rename_i v lo hi
    refine ⟨⟨by simp [Value.category], Nat.le_of_ble_eq_true rfl⟩, s_X11_within_0 Q _ _ _ ?_⟩
    simp only [MX11_within, b_X11_within_0, i_push, i_ild, i_ald, i_ist, i_ast, i_inc, i_bin, i_un, i_divs, i_i2l, i_lshl, i_lor, i_dup, i_dup2, i_pop, i_if, i_cmp, i_nul, i_vret, i_iret, i_zret, i_aret, i_keep, keep, lget, lset, ent, i_getI, i_getJ, i_getR, i_getN, i_putI, i_putZ, i_putJ, i_putR, i_iald, i_bald, i_alen, i_aald, i_iast, i_bast, i_aast, i_new, i_newa, i_anew, i_oini, i_callS, i_callV, i_callI, popn, sh4, i_sw, swP, i_copy, i_binS, List.map, Option.toList_none, Option.toList_some, List.append, List.nil_append, List.cons_append, List.length_cons, List.length_nil, List.replicate, Nat.sub_self, Nat.reduceSub, Nat.reduceAdd, hK_pI, hL_pI, hI_pI, hR_pI, hJ_pI, hT_pI, hS_pI, hK_pR, hL_pR, hI_pR, hR_pR, hJ_pR, hT_pR, hS_pR, hK_pJ, hL_pJ, hI_pJ, hR_pJ, hJ_pJ, hT_pJ, hS_pJ, hK_wI, hL_wI, hI_wI, hR_wI, hJ_wI, hT_wI, hS_wI, eq_self, and_true, true_and, and_false, false_and, or_true, true_or, or_false, false_or, if_true, if_false, not_true_eq_false, not_false_eq_true, forall_const, implies_true, false_implies, true_implies, Option.some.injEq, forall_eq', exists_eq_left', reduceCtorEq, Nat.reduceEqDiff, c1]
    refine ⟨fun h1 => ?_, fun h1 => ⟨fun h2 => ?_, fun h2 => ?_⟩⟩
    · rwa [b2i_f (fun q => absurd q.1 (Int32.not_le.mpr h1))] at hT
    · rwa [b2i_f (fun q => absurd q.2 (Int32.not_le.mpr h2))] at hT
    · rwa [b2i_t ⟨Int32.not_lt.mp h1, Int32.not_lt.mp h2⟩] at hT
  · exact hT.elim
def T_X11_bit : Tr := fun av h Q => match av with
  | [.int n] => Q (some (.int (1 <<< (n &&& 31)))) h
  | _ => False
def L_X11_bit : List UInt8 := [4, 26, 120, 172]
theorem Lc_X11_bit : MX11_bit.2.1 = ⟨L_X11_bit.toArray⟩ := rfl
theorem D_X11_bit_0 : dseq MX11_bit.2.1 0 [(.iconst 1, 1), (.iload_n 0, 1), (.ishl, 1), (.ireturn, 1)] := dq Lc_X11_bit 0 _ (by decide +kernel)
def b_X11_bit_0 (Q : Option Value → Hp → Prop) : Kt := i_push (.int 1) (i_ild 0 (i_bin (fun x y => x <<< (y &&& 31)) (i_iret Q)))
set_option maxRecDepth 100000 in
theorem s_X11_bit_0 (Q : Option Value → Hp → Prop) : ∀ A st h, b_X11_bit_0 Q A st h → wp 0 MX11_bit Q 0 A st h := (q1 (s_iconst (n := 1) (v := 1) (by decide)) D_X11_bit_0 fun D => (q1 (s_ildn (n := 0) (i := 0) rfl) D fun D => (q1 s_shl D fun D => (qI rfl D))))

set_option maxRecDepth 100000 in
set_option maxHeartbeats 4000000 in
theorem ok_X11_bit : ctr 0 MX11_bit T_X11_bit := by
  refine ctr_of pn_X11 wc_X11_bit (fun av h Q hT => ?_)
  unfold T_X11_bit at hT
  split at hT
  · rename_i n
    refine ⟨⟨by simp [Value.category], Nat.le_of_ble_eq_true rfl⟩, s_X11_bit_0 Q _ _ _ ?_⟩
    simp only [MX11_bit, b_X11_bit_0, i_push, i_ild, i_ald, i_ist, i_ast, i_inc, i_bin, i_un, i_divs, i_i2l, i_lshl, i_lor, i_dup, i_dup2, i_pop, i_if, i_cmp, i_nul, i_vret, i_iret, i_zret, i_aret, i_keep, keep, lget, lset, ent, i_getI, i_getJ, i_getR, i_getN, i_putI, i_putZ, i_putJ, i_putR, i_iald, i_bald, i_alen, i_aald, i_iast, i_bast, i_aast, i_new, i_newa, i_anew, i_oini, i_callS, i_callV, i_callI, popn, sh4, i_sw, swP, i_copy, i_binS, List.map, Option.toList_none, Option.toList_some, List.append, List.nil_append, List.cons_append, List.length_cons, List.length_nil, List.replicate, Nat.sub_self, Nat.reduceSub, Nat.reduceAdd, hK_pI, hL_pI, hI_pI, hR_pI, hJ_pI, hT_pI, hS_pI, hK_pR, hL_pR, hI_pR, hR_pR, hJ_pR, hT_pR, hS_pR, hK_pJ, hL_pJ, hI_pJ, hR_pJ, hJ_pJ, hT_pJ, hS_pJ, hK_wI, hL_wI, hI_wI, hR_wI, hJ_wI, hT_wI, hS_wI, eq_self, and_true, true_and, and_false, false_and, or_true, true_or, or_false, false_or, if_true, if_false, not_true_eq_false, not_false_eq_true, forall_const, implies_true, false_implies, true_implies, Option.some.injEq, forall_eq', exists_eq_left', reduceCtorEq, Nat.reduceEqDiff, c1]
    exact hT
  · exact hT.elim
def T_X11_isIn : Tr := fun av h Q => match av with
  | [.int b, .int n] => Q (some (.int (b2i (¬ (b >>> (n &&& 31)) &&& 1 = 0)))) h
  | _ => False
def L_X11_isIn : List UInt8 := [26, 27, 122, 4, 126, 153, 0, 7, 4, 167, 0, 4, 3, 172]
theorem Lc_X11_isIn : MX11_isIn.2.1 = ⟨L_X11_isIn.toArray⟩ := rfl
theorem D_X11_isIn_0 : dseq MX11_isIn.2.1 0 [(.iload_n 0, 1), (.iload_n 1, 1), (.ishr, 1), (.iconst 1, 1), (.iand, 1), (.ifCond .eq 7, 3), (.iconst 1, 1), (.goto 4, 3)] := dq Lc_X11_isIn 0 _ (by decide +kernel)
theorem D_X11_isIn_12 : dseq MX11_isIn.2.1 12 [(.iconst 0, 1), (.ireturn, 1)] := dq Lc_X11_isIn 12 _ (by decide +kernel)
theorem D_X11_isIn_13 : dseq MX11_isIn.2.1 13 [(.ireturn, 1)] := dq Lc_X11_isIn 13 _ (by decide +kernel)
def b_X11_isIn_0 (Q : Option Value → Hp → Prop) : Kt := i_ild 0 (i_ild 1 (i_bin (fun x y => x >>> (y &&& 31)) (i_push (.int 1) (i_bin (fun x y => x &&& y) (i_if (fun x => x = 0) (i_push (.int 0) (i_zret Q)) (i_push (.int 1) (i_zret Q)))))))
set_option maxRecDepth 100000 in
theorem s_X11_isIn_0 (Q : Option Value → Hp → Prop) : ∀ A st h, b_X11_isIn_0 Q A st h → wp 0 MX11_isIn Q 0 A st h := (q1 (s_ildn (n := 0) (i := 0) rfl) D_X11_isIn_0 fun D => (q1 (s_ildn (n := 1) (i := 1) rfl) D fun D => (q1 s_shr D fun D => (q1 (s_iconst (n := 1) (v := 1) (by decide)) D fun D => (q1 s_and D fun D => (qB s_ifeq 12 (by decide) D (q1 (s_iconst (n := 0) (v := 0) (by decide)) D_X11_isIn_12 fun D => (qZ rfl D)) fun D => (q1 (s_iconst (n := 1) (v := 1) (by decide)) D fun D => (qG 13 (by decide) D (qZ rfl D_X11_isIn_13)))))))))

set_option maxRecDepth 100000 in
set_option maxHeartbeats 4000000 in
theorem ok_X11_isIn : ctr 0 MX11_isIn T_X11_isIn := by
  refine ctr_of pn_X11 wc_X11_isIn (fun av h Q hT => ?_)
  unfold T_X11_isIn at hT
  split at hT
  · rename_i b n
    refine ⟨⟨by simp [Value.category], Nat.le_of_ble_eq_true rfl⟩, s_X11_isIn_0 Q _ _ _ ?_⟩
    simp only [MX11_isIn, b_X11_isIn_0, i_push, i_ild, i_ald, i_ist, i_ast, i_inc, i_bin, i_un, i_divs, i_i2l, i_lshl, i_lor, i_dup, i_dup2, i_pop, i_if, i_cmp, i_nul, i_vret, i_iret, i_zret, i_aret, i_keep, keep, lget, lset, ent, i_getI, i_getJ, i_getR, i_getN, i_putI, i_putZ, i_putJ, i_putR, i_iald, i_bald, i_alen, i_aald, i_iast, i_bast, i_aast, i_new, i_newa, i_anew, i_oini, i_callS, i_callV, i_callI, popn, sh4, i_sw, swP, i_copy, i_binS, List.map, Option.toList_none, Option.toList_some, List.append, List.nil_append, List.cons_append, List.length_cons, List.length_nil, List.replicate, Nat.sub_self, Nat.reduceSub, Nat.reduceAdd, hK_pI, hL_pI, hI_pI, hR_pI, hJ_pI, hT_pI, hS_pI, hK_pR, hL_pR, hI_pR, hR_pR, hJ_pR, hT_pR, hS_pR, hK_pJ, hL_pJ, hI_pJ, hR_pJ, hJ_pJ, hT_pJ, hS_pJ, hK_wI, hL_wI, hI_wI, hR_wI, hJ_wI, hT_wI, hS_wI, eq_self, and_true, true_and, and_false, false_and, or_true, true_or, or_false, false_or, if_true, if_false, not_true_eq_false, not_false_eq_true, forall_const, implies_true, false_implies, true_implies, Option.some.injEq, forall_eq', exists_eq_left', reduceCtorEq, Nat.reduceEqDiff, c1]
    refine ⟨fun h1 => ?_, fun h1 => ?_⟩
    · rwa [b2i_f (fun q => q h1)] at hT
    · rwa [b2i_t h1] at hT
  · exact hT.elim
def T_X11_oneIfIn : Tr := fun av h Q => match av with
  | [.int b, .int n] => Q (some (.int ((b >>> (n &&& 31)) &&& 1))) h
  | _ => False
def L_X11_oneIfIn : List UInt8 := [26, 27, 122, 4, 126, 172]
theorem Lc_X11_oneIfIn : MX11_oneIfIn.2.1 = ⟨L_X11_oneIfIn.toArray⟩ := rfl
theorem D_X11_oneIfIn_0 : dseq MX11_oneIfIn.2.1 0 [(.iload_n 0, 1), (.iload_n 1, 1), (.ishr, 1), (.iconst 1, 1), (.iand, 1), (.ireturn, 1)] := dq Lc_X11_oneIfIn 0 _ (by decide +kernel)
def b_X11_oneIfIn_0 (Q : Option Value → Hp → Prop) : Kt := i_ild 0 (i_ild 1 (i_bin (fun x y => x >>> (y &&& 31)) (i_push (.int 1) (i_bin (fun x y => x &&& y) (i_iret Q)))))
set_option maxRecDepth 100000 in
theorem s_X11_oneIfIn_0 (Q : Option Value → Hp → Prop) : ∀ A st h, b_X11_oneIfIn_0 Q A st h → wp 0 MX11_oneIfIn Q 0 A st h := (q1 (s_ildn (n := 0) (i := 0) rfl) D_X11_oneIfIn_0 fun D => (q1 (s_ildn (n := 1) (i := 1) rfl) D fun D => (q1 s_shr D fun D => (q1 (s_iconst (n := 1) (v := 1) (by decide)) D fun D => (q1 s_and D fun D => (qI rfl D))))))

set_option maxRecDepth 100000 in
set_option maxHeartbeats 4000000 in
theorem ok_X11_oneIfIn : ctr 0 MX11_oneIfIn T_X11_oneIfIn := by
  refine ctr_of pn_X11 wc_X11_oneIfIn (fun av h Q hT => ?_)
  unfold T_X11_oneIfIn at hT
  split at hT
  · rename_i b n
    refine ⟨⟨by simp [Value.category], Nat.le_of_ble_eq_true rfl⟩, s_X11_oneIfIn_0 Q _ _ _ ?_⟩
    simp only [MX11_oneIfIn, b_X11_oneIfIn_0, i_push, i_ild, i_ald, i_ist, i_ast, i_inc, i_bin, i_un, i_divs, i_i2l, i_lshl, i_lor, i_dup, i_dup2, i_pop, i_if, i_cmp, i_nul, i_vret, i_iret, i_zret, i_aret, i_keep, keep, lget, lset, ent, i_getI, i_getJ, i_getR, i_getN, i_putI, i_putZ, i_putJ, i_putR, i_iald, i_bald, i_alen, i_aald, i_iast, i_bast, i_aast, i_new, i_newa, i_anew, i_oini, i_callS, i_callV, i_callI, popn, sh4, i_sw, swP, i_copy, i_binS, List.map, Option.toList_none, Option.toList_some, List.append, List.nil_append, List.cons_append, List.length_cons, List.length_nil, List.replicate, Nat.sub_self, Nat.reduceSub, Nat.reduceAdd, hK_pI, hL_pI, hI_pI, hR_pI, hJ_pI, hT_pI, hS_pI, hK_pR, hL_pR, hI_pR, hR_pR, hJ_pR, hT_pR, hS_pR, hK_pJ, hL_pJ, hI_pJ, hR_pJ, hJ_pJ, hT_pJ, hS_pJ, hK_wI, hL_wI, hI_wI, hR_wI, hJ_wI, hT_wI, hS_wI, eq_self, and_true, true_and, and_false, false_and, or_true, true_or, or_false, false_or, if_true, if_false, not_true_eq_false, not_false_eq_true, forall_const, implies_true, false_implies, true_implies, Option.some.injEq, forall_eq', exists_eq_left', reduceCtorEq, Nat.reduceEqDiff, c1]
    exact hT
  · exact hT.elim
def T_X12_ones : Tr := fun av h Q => match av with
  | [.int b] => Q (some (.int (nI (pct b)))) h
  | _ => False
def L_X12_ones : List UInt8 := [3, 60, 26, 61, 28, 153, 0, 15, 132, 1, 1, 28, 28, 4, 100, 126, 61, 167, 255, 243, 27, 172]
theorem Lc_X12_ones : MX12_ones.2.1 = ⟨L_X12_ones.toArray⟩ := rfl
theorem D_X12_ones_0 : dseq MX12_ones.2.1 0 [(.iconst 0, 1), (.istore_n 1, 1), (.iload_n 0, 1), (.istore_n 2, 1)] := dq Lc_X12_ones 0 _ (by decide +kernel)
theorem D_X12_ones_4 : dseq MX12_ones.2.1 4 [(.iload_n 2, 1), (.ifCond .eq 15, 3), (.iinc 1 1, 3), (.iload_n 2, 1), (.iload_n 2, 1), (.iconst 1, 1), (.isub, 1), (.iand, 1), (.istore_n 2, 1), (.goto (-13), 3)] := dq Lc_X12_ones 4 _ (by decide +kernel)
theorem D_X12_ones_20 : dseq MX12_ones.2.1 20 [(.iload_n 1, 1), (.ireturn, 1)] := dq Lc_X12_ones 20 _ (by decide +kernel)
def b_X12_ones_0 (Q : Option Value → Hp → Prop) : Kt := i_push (.int 0) (i_ist 1 (i_ild 0 (i_ist 2 (i_keep [false, true, true] (wp 0 MX12_ones Q 4)))))
set_option maxRecDepth 100000 in
theorem s_X12_ones_0 (Q : Option Value → Hp → Prop) : ∀ A st h, b_X12_ones_0 Q A st h → wp 0 MX12_ones Q 0 A st h := (q1 (s_iconst (n := 0) (v := 0) (by decide)) D_X12_ones_0 fun D => (qL (s_istn (n := 1) (i := 1) rfl) (by decide) D fun D => (q1 (s_ildn (n := 0) (i := 0) rfl) D fun D => (qL (s_istn (n := 2) (i := 2) rfl) (by decide) D fun D => (s_keep [false, true, true] fun _ _ _ h => h)))))
def b_X12_ones_4 (Q : Option Value → Hp → Prop) : Kt := i_ild 2 (i_if (fun x => x = 0) (i_ild 1 (i_iret Q)) (i_inc 1 1 (i_ild 2 (i_ild 2 (i_push (.int 1) (i_bin (fun x y => x - y) (i_bin (fun x y => x &&& y) (i_ist 2 (i_keep [false, true, true] (wp 0 MX12_ones Q 4))))))))))
set_option maxRecDepth 100000 in
theorem s_X12_ones_4 (Q : Option Value → Hp → Prop) : ∀ A st h, b_X12_ones_4 Q A st h → wp 0 MX12_ones Q 4 A st h := (q1 (s_ildn (n := 2) (i := 2) rfl) D_X12_ones_4 fun D => (qB s_ifeq 20 (by decide) D (q1 (s_ildn (n := 1) (i := 1) rfl) D_X12_ones_20 fun D => (qI rfl D)) fun D => (qL (s_inc (i := 1) (n := 1) (v := 1) (by decide)) (by decide) D fun D => (q1 (s_ildn (n := 2) (i := 2) rfl) D fun D => (q1 (s_ildn (n := 2) (i := 2) rfl) D fun D => (q1 (s_iconst (n := 1) (v := 1) (by decide)) D fun D => (q1 s_sub D fun D => (q1 s_and D fun D => (qL (s_istn (n := 2) (i := 2) rfl) (by decide) D fun D => (qG 4 (by decide) D (s_keep [false, true, true] fun _ _ _ h => h)))))))))))

theorem lp_X12_ones (Q : Option Value → Hp → Prop) (h : Hp) : ∀ (n : Nat) (b c : Int32), pct b = n → Q (some (.int (c + nI (pct b)))) h → wp 0 MX12_ones Q 4 [none, some (.int c), some (.int b)] [] h := by
  intro n
  induction n with
  | zero =>
    intro b c hn hq
    refine s_X12_ones_4 Q _ _ _ ?_
    simp only [b_X12_ones_4, i_push, i_ild, i_ald, i_ist, i_ast, i_inc, i_bin, i_un, i_divs, i_i2l, i_lshl, i_lor, i_dup, i_dup2, i_pop, i_if, i_cmp, i_nul, i_vret, i_iret, i_zret, i_aret, i_keep, keep, lget, lset, ent, i_getI, i_getJ, i_getR, i_getN, i_putI, i_putZ, i_putJ, i_putR, i_iald, i_bald, i_alen, i_aald, i_iast, i_bast, i_aast, i_new, i_newa, i_anew, i_oini, i_callS, i_callV, i_callI, popn, sh4, i_sw, swP, i_copy, i_binS, List.map, Option.toList_none, Option.toList_some, List.append, List.nil_append, List.cons_append, List.length_cons, List.length_nil, List.replicate, Nat.sub_self, Nat.reduceSub, Nat.reduceAdd, hK_pI, hL_pI, hI_pI, hR_pI, hJ_pI, hT_pI, hS_pI, hK_pR, hL_pR, hI_pR, hR_pR, hJ_pR, hT_pR, hS_pR, hK_pJ, hL_pJ, hI_pJ, hR_pJ, hJ_pJ, hT_pJ, hS_pJ, hK_wI, hL_wI, hI_wI, hR_wI, hJ_wI, hT_wI, hS_wI, eq_self, and_true, true_and, and_false, false_and, or_true, true_or, or_false, false_or, if_true, if_false, not_true_eq_false, not_false_eq_true, forall_const, implies_true, false_implies, true_implies, Option.some.injEq, forall_eq', exists_eq_left', reduceCtorEq, Nat.reduceEqDiff, c1]
    refine ⟨fun _ => ?_, fun h1 => absurd (pct_low h1) (by omega)⟩
    rw [hn, nI_0, Int32.add_zero] at hq
    exact hq
  | succ n ih =>
    intro b c hn hq
    refine s_X12_ones_4 Q _ _ _ ?_
    simp only [b_X12_ones_4, i_push, i_ild, i_ald, i_ist, i_ast, i_inc, i_bin, i_un, i_divs, i_i2l, i_lshl, i_lor, i_dup, i_dup2, i_pop, i_if, i_cmp, i_nul, i_vret, i_iret, i_zret, i_aret, i_keep, keep, lget, lset, ent, i_getI, i_getJ, i_getR, i_getN, i_putI, i_putZ, i_putJ, i_putR, i_iald, i_bald, i_alen, i_aald, i_iast, i_bast, i_aast, i_new, i_newa, i_anew, i_oini, i_callS, i_callV, i_callI, popn, sh4, i_sw, swP, i_copy, i_binS, List.map, Option.toList_none, Option.toList_some, List.append, List.nil_append, List.cons_append, List.length_cons, List.length_nil, List.replicate, Nat.sub_self, Nat.reduceSub, Nat.reduceAdd, hK_pI, hL_pI, hI_pI, hR_pI, hJ_pI, hT_pI, hS_pI, hK_pR, hL_pR, hI_pR, hR_pR, hJ_pR, hT_pR, hS_pR, hK_pJ, hL_pJ, hI_pJ, hR_pJ, hJ_pJ, hT_pJ, hS_pJ, hK_wI, hL_wI, hI_wI, hR_wI, hJ_wI, hT_wI, hS_wI, eq_self, and_true, true_and, and_false, false_and, or_true, true_or, or_false, false_or, if_true, if_false, not_true_eq_false, not_false_eq_true, forall_const, implies_true, false_implies, true_implies, Option.some.injEq, forall_eq', exists_eq_left', reduceCtorEq, Nat.reduceEqDiff, c1]
    refine ⟨fun h1 => ?_, fun h1 => ?_⟩
    · rw [h1, pct_0] at hn; omega
    · have hl := pct_low h1
      refine ih _ _ (by omega) ?_
      rw [← hl, nI_succ] at hq
      rw [Int32.add_assoc, Int32.add_comm 1]
      exact hq
set_option maxRecDepth 100000 in
set_option maxHeartbeats 4000000 in
theorem ok_X12_ones : ctr 0 MX12_ones T_X12_ones := by
  refine ctr_of pn_X12 wc_X12_ones (fun av h Q hT => ?_)
  unfold T_X12_ones at hT
  split at hT
  · rename_i b
    refine ⟨⟨by simp [Value.category], Nat.le_of_ble_eq_true rfl⟩, s_X12_ones_0 Q _ _ _ ?_⟩
    simp only [MX12_ones, b_X12_ones_0, i_push, i_ild, i_ald, i_ist, i_ast, i_inc, i_bin, i_un, i_divs, i_i2l, i_lshl, i_lor, i_dup, i_dup2, i_pop, i_if, i_cmp, i_nul, i_vret, i_iret, i_zret, i_aret, i_keep, keep, lget, lset, ent, i_getI, i_getJ, i_getR, i_getN, i_putI, i_putZ, i_putJ, i_putR, i_iald, i_bald, i_alen, i_aald, i_iast, i_bast, i_aast, i_new, i_newa, i_anew, i_oini, i_callS, i_callV, i_callI, popn, sh4, i_sw, swP, i_copy, i_binS, List.map, Option.toList_none, Option.toList_some, List.append, List.nil_append, List.cons_append, List.length_cons, List.length_nil, List.replicate, Nat.sub_self, Nat.reduceSub, Nat.reduceAdd, hK_pI, hL_pI, hI_pI, hR_pI, hJ_pI, hT_pI, hS_pI, hK_pR, hL_pR, hI_pR, hR_pR, hJ_pR, hT_pR, hS_pR, hK_pJ, hL_pJ, hI_pJ, hR_pJ, hJ_pJ, hT_pJ, hS_pJ, hK_wI, hL_wI, hI_wI, hR_wI, hJ_wI, hT_wI, hS_wI, eq_self, and_true, true_and, and_false, false_and, or_true, true_or, or_false, false_or, if_true, if_false, not_true_eq_false, not_false_eq_true, forall_const, implies_true, false_implies, true_implies, Option.some.injEq, forall_eq', exists_eq_left', reduceCtorEq, Nat.reduceEqDiff, c1]
    refine lp_X12_ones Q h _ b 0 rfl ?_
    rw [Int32.zero_add]
    exact hT
  · exact hT.elim
