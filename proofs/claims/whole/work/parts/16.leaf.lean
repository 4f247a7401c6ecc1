/-! ===== leaves ===== -/
def T_X12_in : Tr := fun av h Q => match av with
  | [.int v, .int lo, .int hi] => Q (some (.int (b2i (lo ≤ v ∧ v ≤ hi)))) h
  | _ => False
def L_X12_in : List UInt8 := [26, 27, 161, 0, 12, 26, 28, 163, 0, 7, 4, 167, 0, 4, 3, 172]
theorem Lc_X12_in : MX12_in.2.1 = ⟨L_X12_in.toArray⟩ := rfl
theorem D_X12_in_0 : dseq MX12_in.2.1 0 [(.iload_n 0, 1), (.iload_n 1, 1), (.if_icmp .lt 12, 3), (.iload_n 0, 1), (.iload_n 2, 1), (.if_icmp .gt 7, 3), (.iconst 1, 1), (.goto 4, 3)] := dq Lc_X12_in 0 _ (by decide +kernel)
theorem D_X12_in_14 : dseq MX12_in.2.1 14 [(.iconst 0, 1), (.ireturn, 1)] := dq Lc_X12_in 14 _ (by decide +kernel)
theorem D_X12_in_15 : dseq MX12_in.2.1 15 [(.ireturn, 1)] := dq Lc_X12_in 15 _ (by decide +kernel)
def b_X12_in_0 (Q : Option Value → Hp → Prop) : Kt := i_ild 0 (i_ild 1 (i_cmp (fun x y => x < y) (i_push (.int 0) (i_zret Q)) (i_ild 0 (i_ild 2 (i_cmp (fun x y => y < x) (i_push (.int 0) (i_zret Q)) (i_push (.int 1) (i_zret Q)))))))
set_option maxRecDepth 100000 in
theorem s_X12_in_0 (Q : Option Value → Hp → Prop) : ∀ A st h, b_X12_in_0 Q A st h → wp 0 MX12_in Q 0 A st h := (q1 (s_ildn (n := 0) (i := 0) rfl) D_X12_in_0 fun D => (q1 (s_ildn (n := 1) (i := 1) rfl) D fun D => (qB s_cmplt 14 (by decide) D (q1 (s_iconst (n := 0) (v := 0) (by decide)) D_X12_in_14 fun D => (qZ rfl D)) fun D => (q1 (s_ildn (n := 0) (i := 0) rfl) D fun D => (q1 (s_ildn (n := 2) (i := 2) rfl) D fun D => (qB s_cmpgt 14 (by decide) D (q1 (s_iconst (n := 0) (v := 0) (by decide)) D_X12_in_14 fun D => (qZ rfl D)) fun D => (q1 (s_iconst (n := 1) (v := 1) (by decide)) D fun D => (qG 15 (by decide) D (qZ rfl D_X12_in_15)))))))))

theorem ok_X12_in : ctr 0 MX12_in T_X12_in := by
  refine ctr_of pn_X12 wc_X12_in (fun av h Q hT => ?_)
  unfold T_X12_in at hT
  split at hT
  · rename_i v lo hi
    refine ⟨⟨by simp [Value.category], by decide⟩, s_X12_in_0 Q _ _ _ ?_⟩
    simp only [MX12_in, b_X12_in_0, i_push, i_ild, i_ald, i_ist, i_ast, i_inc, i_bin, i_un, i_divs, i_i2l, i_lshl, i_lor, i_dup, i_dup2, i_pop, i_if, i_cmp, i_nul, i_vret, i_iret, i_zret, i_aret, i_keep, keep, lget, lset, ent, i_getI, i_getJ, i_getR, i_putI, i_putZ, i_putJ, i_putR, i_iald, i_bald, i_alen, i_aald, i_iast, i_bast, i_aast, i_new, i_newa, i_anew, i_oini, i_callS, i_callV, i_callI, popn, sh4, i_sw, swP, i_copy, i_binS, List.map, Option.toList, List.append, List.nil_append, List.cons_append, List.length_cons, List.length_nil, List.replicate, Nat.sub_self, Nat.reduceSub, Nat.reduceAdd]
    trace_state
    sorry
  · exact hT.elim
