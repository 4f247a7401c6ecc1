/-! ===== the class: what Placer asks of a party ===== -/
def ilOk (I : Mem) (P : Nat) : Prop := ∀ p, p < P → ¬ I 19 p = -1
noncomputable def ilF (I : Mem) (g : Int32) (P : Nat) : Int32 := cif (∃ x, (∃ p, p < P ∧ bt g p = true) ∧ ∀ p, p < P → bt g p = true → I 19 p = x) (I 19 (lst (fun p => bt g p = true))) (-1)
theorem ilF_is {I : Mem} {g : Int32} {P : Nat} {p : Nat} (hp : p < P) (hb : bt g p = true) (h : ∀ q, q < P → bt g q = true → I 19 q = I 19 p) : ilF I g P = I 19 p := by
  unfold ilF
  rw [cif_t ⟨I 19 p, ⟨p, hp, hb⟩, h⟩]
  obtain ⟨a, b⟩ := lst_ok (S := fun p => bt g p = true) ⟨p, hb⟩
  have hle : lst (fun p => bt g p = true) ≤ p := Nat.le_of_not_lt (fun z => b p z hb)
  exact h _ (by omega) a
theorem ilF_no {I : Mem} {g : Int32} {P : Nat} (h : ¬ ∃ x, (∃ p, p < P ∧ bt g p = true) ∧ ∀ p, p < P → bt g p = true → I 19 p = x) : ilF I g P = -1 := cif_f h
def T_X4_illOf : Tr := fun av h Q => match av with
  | [.ref o, .int g] => o = 33 ∧ LayX h ∧ hR h 33 0 = some 3 ∧ ∃ P, P ≤ 24 ∧ hI h 16 0 = nI P ∧ ilOk (hI h) P ∧ Q (some (.int (ilF (hI h) g P))) h
  | _ => False
def L_X4_illOf : List UInt8 := [2, 61, 3, 62, 29, 42, 180, 0, 43, 180, 0, 83, 180, 0, 87, 162, 0, 53, 27, 29, 184, 0, 90, 153, 0, 39, 28, 2, 159, 0, 21, 28, 42, 180, 0, 43, 180, 0, 83, 180, 0, 93, 29, 46, 159, 0, 5, 2, 172, 42, 180, 0, 43, 180, 0, 83, 180, 0, 93, 29, 46, 61, 132, 3, 1, 167, 255, 195, 28, 172]
theorem Lc_X4_illOf : MX4_illOf.2.1 = ⟨L_X4_illOf.toArray⟩ := rfl
theorem D_X4_illOf_0 : dseq MX4_illOf.2.1 0 [(.iconst (-1), 1), (.istore_n 2, 1), (.iconst 0, 1), (.istore_n 3, 1)] := dq Lc_X4_illOf 0 _ (by decide +kernel)
theorem D_X4_illOf_4 : dseq MX4_illOf.2.1 4 [(.iload_n 3, 1), (.aload_n 0, 1), (.getfield 43, 3), (.getfield 83, 3), (.getfield 87, 3), (.if_icmp .ge 53, 3), (.iload_n 1, 1), (.iload_n 3, 1), (.invokestatic 90, 3), (.ifCond .eq 39, 3), (.iload_n 2, 1), (.iconst (-1), 1), (.if_icmp .eq 21, 3), (.iload_n 2, 1), (.aload_n 0, 1), (.getfield 43, 3), (.getfield 83, 3), (.getfield 93, 3), (.iload_n 3, 1), (.iaload, 1), (.if_icmp .eq 5, 3), (.iconst (-1), 1), (.ireturn, 1)] := dq Lc_X4_illOf 4 _ (by decide +kernel)
theorem D_X4_illOf_68 : dseq MX4_illOf.2.1 68 [(.iload_n 2, 1), (.ireturn, 1)] := dq Lc_X4_illOf 68 _ (by decide +kernel)
theorem D_X4_illOf_49 : dseq MX4_illOf.2.1 49 [(.aload_n 0, 1), (.getfield 43, 3), (.getfield 83, 3), (.getfield 93, 3), (.iload_n 3, 1), (.iaload, 1), (.istore_n 2, 1)] := dq Lc_X4_illOf 49 _ (by decide +kernel)
theorem D_X4_illOf_62 : dseq MX4_illOf.2.1 62 [(.iinc 3 1, 3), (.goto (-61), 3)] := dq Lc_X4_illOf 62 _ (by decide +kernel)
def b_X4_illOf_0 (Q : Option Value → Hp → Prop) : Kt := i_push (.int (-1)) (i_ist 2 (i_push (.int 0) (i_ist 3 (i_keep [true, true, true, true] (wp 1 MX4_illOf Q 4)))))
set_option maxRecDepth 100000 in
theorem s_X4_illOf_0 (Q : Option Value → Hp → Prop) : ∀ A st h, b_X4_illOf_0 Q A st h → wp 1 MX4_illOf Q 0 A st h := (q1 (s_iconst (n := (-1)) (v := (-1)) (by decide)) D_X4_illOf_0 fun D => (qL (s_istn (n := 2) (i := 2) rfl) (by decide) D fun D => (q1 (s_iconst (n := 0) (v := 0) (by decide)) D fun D => (qL (s_istn (n := 3) (i := 3) rfl) (by decide) D fun D => (s_keep [true, true, true, true] fun _ _ _ h => h)))))
def b_X4_illOf_4 (Q : Option Value → Hp → Prop) : Kt := i_ild 3 (i_ald 0 (i_getR 4 0 (i_getR 8 1 (i_getI 3 0 (i_cmp (fun x y => y ≤ x) (i_ild 2 (i_iret Q)) (i_ild 1 (i_ild 3 (i_callS 2 T_X11_isIn (i_if (fun x => x = 0) (i_keep [true, true, true, true] (wp 1 MX4_illOf Q 62)) (i_ild 2 (i_push (.int (-1)) (i_cmp (fun x y => x = y) (i_keep [true, true, false, true] (wp 1 MX4_illOf Q 49)) (i_ild 2 (i_ald 0 (i_getR 4 0 (i_getR 8 1 (i_getR 3 4 (i_ild 3 (i_iald (i_cmp (fun x y => x = y) (i_keep [true, true, false, true] (wp 1 MX4_illOf Q 49)) (i_push (.int (-1)) (i_iret Q))))))))))))))))))))))
set_option maxRecDepth 100000 in
theorem s_X4_illOf_4 (Q : Option Value → Hp → Prop) : ∀ A st h, b_X4_illOf_4 Q A st h → wp 1 MX4_illOf Q 4 A st h := (q1 (s_ildn (n := 3) (i := 3) rfl) D_X4_illOf_4 fun D => (q1 (s_aldn (n := 0) (i := 0) rfl) D fun D => (qC fl_X4_43 rfl D fun D => (qC fl_X4_83 rfl D fun D => (qC fl_X4_87 rfl D fun D => (qB s_cmpge 68 (by decide) D (q1 (s_ildn (n := 2) (i := 2) rfl) D_X4_illOf_68 fun D => (qI rfl D)) fun D => (q1 (s_ildn (n := 1) (i := 1) rfl) D fun D => (q1 (s_ildn (n := 3) (i := 3) rfl) D fun D => (qX (s_callSN ok_X11_isIn mo_X11_isIn (ch_4_3_ok.2.2.1.2 rfl) (ch_3_7_ok.2.2.2.2.1.1 rfl)) rfl (by decide) D fun D => (qB s_ifeq 62 (by decide) D (s_keep [true, true, true, true] fun _ _ _ h => h) fun D => (q1 (s_ildn (n := 2) (i := 2) rfl) D fun D => (q1 (s_iconst (n := (-1)) (v := (-1)) (by decide)) D fun D => (qB s_cmpeq 49 (by decide) D (s_keep [true, true, false, true] fun _ _ _ h => h) fun D => (q1 (s_ildn (n := 2) (i := 2) rfl) D fun D => (q1 (s_aldn (n := 0) (i := 0) rfl) D fun D => (qC fl_X4_43 rfl D fun D => (qC fl_X4_83 rfl D fun D => (qC fl_X4_93 rfl D fun D => (q1 (s_ildn (n := 3) (i := 3) rfl) D fun D => (q1 s_iald D fun D => (qB s_cmpeq 49 (by decide) D (s_keep [true, true, false, true] fun _ _ _ h => h) fun D => (q1 (s_iconst (n := (-1)) (v := (-1)) (by decide)) D fun D => (qI rfl D)))))))))))))))))))))))
def b_X4_illOf_49 (Q : Option Value → Hp → Prop) : Kt := i_ald 0 (i_getR 4 0 (i_getR 8 1 (i_getR 3 4 (i_ild 3 (i_iald (i_ist 2 (i_keep [true, true, true, true] (wp 1 MX4_illOf Q 62))))))))
set_option maxRecDepth 100000 in
theorem s_X4_illOf_49 (Q : Option Value → Hp → Prop) : ∀ A st h, b_X4_illOf_49 Q A st h → wp 1 MX4_illOf Q 49 A st h := (q1 (s_aldn (n := 0) (i := 0) rfl) D_X4_illOf_49 fun D => (qC fl_X4_43 rfl D fun D => (qC fl_X4_83 rfl D fun D => (qC fl_X4_93 rfl D fun D => (q1 (s_ildn (n := 3) (i := 3) rfl) D fun D => (q1 s_iald D fun D => (qL (s_istn (n := 2) (i := 2) rfl) (by decide) D fun D => (s_keep [true, true, true, true] fun _ _ _ h => h))))))))
def b_X4_illOf_62 (Q : Option Value → Hp → Prop) : Kt := i_inc 3 1 (i_keep [true, true, true, true] (wp 1 MX4_illOf Q 4))
set_option maxRecDepth 100000 in
theorem s_X4_illOf_62 (Q : Option Value → Hp → Prop) : ∀ A st h, b_X4_illOf_62 Q A st h → wp 1 MX4_illOf Q 62 A st h := (qL (s_inc (i := 3) (n := 1) (v := 1) (by decide)) (by decide) D_X4_illOf_62 fun D => (qG 4 (by decide) D (s_keep [true, true, true, true] fun _ _ _ h => h)))

set_option maxRecDepth 100000 in
set_option maxHeartbeats 400000 in
theorem il_4 (Q : Option Value → Hp → Prop) (h : Hp) (hl : LayX h) (hst : hR h 33 0 = some 3) (g : Int32) (P : Nat) (hP : P ≤ 24) (h16 : hI h 16 0 = nI P) (hk : ilOk (hI h) P) (hq : Q (some (.int (ilF (hI h) g P))) h) :
    ∀ (m k : Nat) (v : Int32), m = P - k → k ≤ P → ((v = -1 ∧ ∀ p, p < k → bt g p = false) ∨ ((∃ p, p < k ∧ bt g p = true ∧ v = hI h 19 p) ∧ ∀ p, p < k → bt g p = true → hI h 19 p = v)) → wp 1 MX4_illOf Q 4 [some (.ref 33), some (.int g), some (.int v), some (.int (nI k))] [] h := by
  intro m
  induction m with
  | zero =>
    intro k v hm hkP hv
    have e : k = P := by omega
    subst e
    have ev : v = ilF (hI h) g k := by
      rcases hv with ⟨a, b⟩ | ⟨⟨p, p1, p2, p3⟩, b⟩
      · rw [ilF_no, a]
        rintro ⟨x, ⟨p, p1, p2⟩, _⟩
        rw [b p p1] at p2; cases p2
      · rw [ilF_is p1 p2 (fun q q1 q2 => by rw [b q q1 q2, p3]), p3]
    rw [← ev] at hq
    refine s_X4_illOf_4 Q _ _ _ ?_
    simp only [b_X4_illOf_4, lx_pI, lx_wI, lx_t hl, lx_k hl, lx_r hl, lx_l hl, i_push, i_ild, i_ald, i_ist, i_ast, i_inc, i_bin, i_un, i_divs, i_i2l, i_lshl, i_lor, i_dup, i_dup2, i_pop, i_if, i_cmp, i_nul, i_vret, i_iret, i_zret, i_aret, i_keep, keep, lget, lset, ent, i_getI, i_getJ, i_getR, i_getN, i_putI, i_putZ, i_putJ, i_putR, i_iald, i_bald, i_alen, i_aald, i_iast, i_bast, i_aast, i_new, i_newa, i_anew, i_oini, i_callS, i_callV, i_callI, popn, sh4, i_sw, swP, i_copy, i_binS, List.map, Option.toList_none, Option.toList_some, List.append, List.nil_append, List.cons_append, List.length_cons, List.length_nil, List.replicate, Nat.sub_self, Nat.reduceSub, Nat.reduceAdd, hK_pI, hL_pI, hI_pI, hR_pI, hJ_pI, hT_pI, hS_pI, hK_pR, hL_pR, hI_pR, hR_pR, hJ_pR, hT_pR, hS_pR, hK_pJ, hL_pJ, hI_pJ, hR_pJ, hJ_pJ, hT_pJ, hS_pJ, hK_wI, hL_wI, hI_wI, hR_wI, hJ_wI, hT_wI, hS_wI, eq_self, and_true, true_and, and_false, false_and, or_true, true_or, or_false, false_or, if_true, if_false, not_true_eq_false, not_false_eq_true, forall_const, implies_true, false_implies, true_implies, Option.some.injEq, forall_eq', exists_eq_left', reduceCtorEq, Nat.reduceEqDiff, c1, T_X12_in, T_X12_ones, T_X11_within, T_X11_bit, T_X11_isIn, T_X11_oneIfIn, T_J6_bitCount_0f7a4, hst, h16]
    exact ⟨fun _ => hq, fun c => absurd (nI_le (Nat.le_refl _) (by omega)) c⟩
  | succ m ih =>
    intro k v hm hkP hv
    have h62 : ∀ v', ((v' = -1 ∧ ∀ p, p < k + 1 → bt g p = false) ∨ ((∃ p, p < k + 1 ∧ bt g p = true ∧ v' = hI h 19 p) ∧ ∀ p, p < k + 1 → bt g p = true → hI h 19 p = v')) → wp 1 MX4_illOf Q 62 [some (.ref 33), some (.int g), some (.int v'), some (.int (nI k))] [] h := by
      intro v' hv'
      refine s_X4_illOf_62 Q _ _ _ ?_
      simp only [b_X4_illOf_62, i_push, i_ild, i_ald, i_ist, i_ast, i_inc, i_bin, i_un, i_divs, i_i2l, i_lshl, i_lor, i_dup, i_dup2, i_pop, i_if, i_cmp, i_nul, i_vret, i_iret, i_zret, i_aret, i_keep, keep, lget, lset, ent, i_getI, i_getJ, i_getR, i_getN, i_putI, i_putZ, i_putJ, i_putR, i_iald, i_bald, i_alen, i_aald, i_iast, i_bast, i_aast, i_new, i_newa, i_anew, i_oini, i_callS, i_callV, i_callI, popn, sh4, i_sw, swP, i_copy, i_binS, List.map, Option.toList_none, Option.toList_some, List.append, List.nil_append, List.cons_append, List.length_cons, List.length_nil, List.replicate, Nat.sub_self, Nat.reduceSub, Nat.reduceAdd, hK_pI, hL_pI, hI_pI, hR_pI, hJ_pI, hT_pI, hS_pI, hK_pR, hL_pR, hI_pR, hR_pR, hJ_pR, hT_pR, hS_pR, hK_pJ, hL_pJ, hI_pJ, hR_pJ, hJ_pJ, hT_pJ, hS_pJ, hK_wI, hL_wI, hI_wI, hR_wI, hJ_wI, hT_wI, hS_wI, eq_self, and_true, true_and, and_false, false_and, or_true, true_or, or_false, false_or, if_true, if_false, not_true_eq_false, not_false_eq_true, forall_const, implies_true, false_implies, true_implies, Option.some.injEq, forall_eq', exists_eq_left', reduceCtorEq, Nat.reduceEqDiff, c1, T_X12_in, T_X12_ones, T_X11_within, T_X11_bit, T_X11_isIn, T_X11_oneIfIn, T_J6_bitCount_0f7a4, nI_1]
      exact ih (k + 1) v' (by omega) (by omega) hv'
    have h49 : bt g k = true → (v = -1 ∨ v = hI h 19 k) → wp 1 MX4_illOf Q 49 [some (.ref 33), some (.int g), none, some (.int (nI k))] [] h := by
      intro hb hv'
      have := h62 (hI h 19 k) (Or.inr ⟨⟨k, by omega, hb, rfl⟩, fun p p1 p2 => by
        by_cases e : p = k
        · rw [e]
        · rcases hv with ⟨a, b⟩ | ⟨⟨q, q1, q2, q3⟩, b⟩
          · rw [b p (by omega)] at p2; cases p2
          · rw [b p (by omega) p2]
            rcases hv' with z | z
            · exact absurd (q3.symm.trans z) (hk q (by omega))
            · exact z⟩)
      refine s_X4_illOf_49 Q _ _ _ ?_
      simp only [b_X4_illOf_49, lx_pI, lx_wI, lx_t hl, lx_k hl, lx_r hl, lx_l hl, i_push, i_ild, i_ald, i_ist, i_ast, i_inc, i_bin, i_un, i_divs, i_i2l, i_lshl, i_lor, i_dup, i_dup2, i_pop, i_if, i_cmp, i_nul, i_vret, i_iret, i_zret, i_aret, i_keep, keep, lget, lset, ent, i_getI, i_getJ, i_getR, i_getN, i_putI, i_putZ, i_putJ, i_putR, i_iald, i_bald, i_alen, i_aald, i_iast, i_bast, i_aast, i_new, i_newa, i_anew, i_oini, i_callS, i_callV, i_callI, popn, sh4, i_sw, swP, i_copy, i_binS, List.map, Option.toList_none, Option.toList_some, List.append, List.nil_append, List.cons_append, List.length_cons, List.length_nil, List.replicate, Nat.sub_self, Nat.reduceSub, Nat.reduceAdd, hK_pI, hL_pI, hI_pI, hR_pI, hJ_pI, hT_pI, hS_pI, hK_pR, hL_pR, hI_pR, hR_pR, hJ_pR, hT_pR, hS_pR, hK_pJ, hL_pJ, hI_pJ, hR_pJ, hJ_pJ, hT_pJ, hS_pJ, hK_wI, hL_wI, hI_wI, hR_wI, hJ_wI, hT_wI, hS_wI, eq_self, and_true, true_and, and_false, false_and, or_true, true_or, or_false, false_or, if_true, if_false, not_true_eq_false, not_false_eq_true, forall_const, implies_true, false_implies, true_implies, Option.some.injEq, forall_eq', exists_eq_left', reduceCtorEq, Nat.reduceEqDiff, c1, T_X12_in, T_X12_ones, T_X11_within, T_X11_bit, T_X11_isIn, T_X11_oneIfIn, T_J6_bitCount_0f7a4, hst, cl_nI (show k < 2147483648 by omega), in_nI (show k < 24 by omega) (by decide)]
      exact this
    have hno : bt g k = true → ¬ v = -1 → ¬ v = hI h 19 k → Q (some (.int (-1))) h := by
      intro hb v1 v2
      rw [ilF_no] at hq
      · exact hq
      · rintro ⟨x, _, hx⟩
        rcases hv with ⟨a, _⟩ | ⟨⟨p, p1, p2, p3⟩, _⟩
        · exact v1 a
        · exact v2 (by rw [p3, hx p (by omega) p2, hx k (by omega) hb])
    refine s_X4_illOf_4 Q _ _ _ ?_
    simp only [b_X4_illOf_4, lx_pI, lx_wI, lx_t hl, lx_k hl, lx_r hl, lx_l hl, i_push, i_ild, i_ald, i_ist, i_ast, i_inc, i_bin, i_un, i_divs, i_i2l, i_lshl, i_lor, i_dup, i_dup2, i_pop, i_if, i_cmp, i_nul, i_vret, i_iret, i_zret, i_aret, i_keep, keep, lget, lset, ent, i_getI, i_getJ, i_getR, i_getN, i_putI, i_putZ, i_putJ, i_putR, i_iald, i_bald, i_alen, i_aald, i_iast, i_bast, i_aast, i_new, i_newa, i_anew, i_oini, i_callS, i_callV, i_callI, popn, sh4, i_sw, swP, i_copy, i_binS, List.map, Option.toList_none, Option.toList_some, List.append, List.nil_append, List.cons_append, List.length_cons, List.length_nil, List.replicate, Nat.sub_self, Nat.reduceSub, Nat.reduceAdd, hK_pI, hL_pI, hI_pI, hR_pI, hJ_pI, hT_pI, hS_pI, hK_pR, hL_pR, hI_pR, hR_pR, hJ_pR, hT_pR, hS_pR, hK_pJ, hL_pJ, hI_pJ, hR_pJ, hJ_pJ, hT_pJ, hS_pJ, hK_wI, hL_wI, hI_wI, hR_wI, hJ_wI, hT_wI, hS_wI, eq_self, and_true, true_and, and_false, false_and, or_true, true_or, or_false, false_or, if_true, if_false, not_true_eq_false, not_false_eq_true, forall_const, implies_true, false_implies, true_implies, Option.some.injEq, forall_eq', exists_eq_left', reduceCtorEq, Nat.reduceEqDiff, c1, T_X12_in, T_X12_ones, T_X11_within, T_X11_bit, T_X11_isIn, T_X11_oneIfIn, T_J6_bitCount_0f7a4, hst, h16, sh_bt g (show k < 32 by omega), b2i_0, Classical.not_not, cl_nI (show k < 2147483648 by omega), in_nI (show k < 24 by omega) (by decide)]
    refine ⟨fun c => absurd c (nI_ge (by omega) (by omega)), fun _ => ⟨fun c => h62 v ?_, fun c => ?_⟩⟩
    · rcases hv with ⟨a, b⟩ | ⟨⟨p, p1, p2, p3⟩, b⟩
      · exact Or.inl ⟨a, fun p hp => by
          by_cases e : p = k
          · rw [e]; exact c
          · exact b p (by omega)⟩
      · exact Or.inr ⟨⟨p, by omega, p2, p3⟩, fun q q1 q2 => by
          by_cases e : q = k
          · rw [e, c] at q2; cases q2
          · exact b q (by omega) q2⟩
    · have hb : bt g k = true := by simpa using c
      exact ⟨fun z => h49 hb (Or.inl z), fun z => ⟨fun z2 => h49 hb (Or.inr z2), fun z2 => hno hb z z2⟩⟩
set_option maxRecDepth 100000 in
set_option maxHeartbeats 4000000 in
theorem ok_X4_illOf : ctr 1 MX4_illOf T_X4_illOf := by
  refine ctr_of pn_X4 wc_X4_illOf (fun av h Q hT => ?_)
  unfold T_X4_illOf at hT
  split at hT
  · rename_i o g
    refine ⟨⟨by simp [Value.category], Nat.le_of_ble_eq_true rfl⟩, s_X4_illOf_0 Q _ _ _ ?_⟩
    obtain ⟨rfl, hl, hst, P, hP, h16, hk, hq⟩ := hT
    simp only [MX4_illOf, b_X4_illOf_0, i_push, i_ild, i_ald, i_ist, i_ast, i_inc, i_bin, i_un, i_divs, i_i2l, i_lshl, i_lor, i_dup, i_dup2, i_pop, i_if, i_cmp, i_nul, i_vret, i_iret, i_zret, i_aret, i_keep, keep, lget, lset, ent, i_getI, i_getJ, i_getR, i_getN, i_putI, i_putZ, i_putJ, i_putR, i_iald, i_bald, i_alen, i_aald, i_iast, i_bast, i_aast, i_new, i_newa, i_anew, i_oini, i_callS, i_callV, i_callI, popn, sh4, i_sw, swP, i_copy, i_binS, List.map, Option.toList_none, Option.toList_some, List.append, List.nil_append, List.cons_append, List.length_cons, List.length_nil, List.replicate, Nat.sub_self, Nat.reduceSub, Nat.reduceAdd, hK_pI, hL_pI, hI_pI, hR_pI, hJ_pI, hT_pI, hS_pI, hK_pR, hL_pR, hI_pR, hR_pR, hJ_pR, hT_pR, hS_pR, hK_pJ, hL_pJ, hI_pJ, hR_pJ, hJ_pJ, hT_pJ, hS_pJ, hK_wI, hL_wI, hI_wI, hR_wI, hJ_wI, hT_wI, hS_wI, eq_self, and_true, true_and, and_false, false_and, or_true, true_or, or_false, false_or, if_true, if_false, not_true_eq_false, not_false_eq_true, forall_const, implies_true, false_implies, true_implies, Option.some.injEq, forall_eq', exists_eq_left', reduceCtorEq, Nat.reduceEqDiff, c1, T_X12_in, T_X12_ones, T_X11_within, T_X11_bit, T_X11_isIn, T_X11_oneIfIn, T_J6_bitCount_0f7a4]
    exact il_4 Q h hl hst g P hP h16 hk hq P 0 (-1) (by omega) (by omega) (Or.inl ⟨rfl, fun p hp => absurd hp (Nat.not_lt_zero _)⟩)
  · exact hT.elim
/-- those whom a party may not be near -/
def foS (I : Mem) (g : Int32) : Nat → Int32
  | 0 => 0
  | k + 1 => foS I g k ||| (if bt g k = true then I 23 k else 0)
theorem b_foS (I : Mem) (g : Int32) (i : Nat) : ∀ k, bt (foS I g k) i = true ↔ ∃ p, p < k ∧ bt g p = true ∧ bt (I 23 p) i = true
  | 0 => by
    rw [foS, b_0]
    exact ⟨fun z => (by cases z), fun ⟨p, hp, _⟩ => absurd hp (Nat.not_lt_zero _)⟩
  | k + 1 => by
    rw [foS, b_or, Bool.or_eq_true, b_foS I g i k]
    constructor
    · rintro (⟨p, a, b⟩ | z)
      · exact ⟨p, by omega, b⟩
      · by_cases c : bt g k = true
        · rw [if_pos c] at z; exact ⟨k, by omega, c, z⟩
        · rw [if_neg c, b_0] at z; cases z
    · rintro ⟨p, a, b, c⟩
      by_cases e : p = k
      · subst e; right; rw [if_pos b]; exact c
      · exact Or.inl ⟨p, by omega, b, c⟩
def T_X4_foesOf : Tr := fun av h Q => match av with
  | [.ref o, .int g] => o = 33 ∧ LayX h ∧ hR h 33 0 = some 3 ∧ ∃ P, P ≤ 24 ∧ hI h 16 0 = nI P ∧ Q (some (.int (foS (hI h) g P))) h
  | _ => False
def L_X4_foesOf : List UInt8 := [3, 61, 3, 62, 29, 42, 180, 0, 43, 180, 0, 83, 180, 0, 87, 162, 0, 36, 28, 27, 29, 184, 0, 90, 153, 0, 18, 42, 180, 0, 43, 180, 0, 83, 180, 0, 94, 29, 46, 167, 0, 4, 3, 128, 61, 132, 3, 1, 167, 255, 212, 28, 172]
theorem Lc_X4_foesOf : MX4_foesOf.2.1 = ⟨L_X4_foesOf.toArray⟩ := rfl
theorem D_X4_foesOf_0 : dseq MX4_foesOf.2.1 0 [(.iconst 0, 1), (.istore_n 2, 1), (.iconst 0, 1), (.istore_n 3, 1)] := dq Lc_X4_foesOf 0 _ (by decide +kernel)
theorem D_X4_foesOf_4 : dseq MX4_foesOf.2.1 4 [(.iload_n 3, 1), (.aload_n 0, 1), (.getfield 43, 3), (.getfield 83, 3), (.getfield 87, 3), (.if_icmp .ge 36, 3), (.iload_n 2, 1), (.iload_n 1, 1), (.iload_n 3, 1), (.invokestatic 90, 3), (.ifCond .eq 18, 3), (.aload_n 0, 1), (.getfield 43, 3), (.getfield 83, 3), (.getfield 94, 3), (.iload_n 3, 1), (.iaload, 1), (.goto 4, 3)] := dq Lc_X4_foesOf 4 _ (by decide +kernel)
theorem D_X4_foesOf_51 : dseq MX4_foesOf.2.1 51 [(.iload_n 2, 1), (.ireturn, 1)] := dq Lc_X4_foesOf 51 _ (by decide +kernel)
theorem D_X4_foesOf_42 : dseq MX4_foesOf.2.1 42 [(.iconst 0, 1)] := dq Lc_X4_foesOf 42 _ (by decide +kernel)
theorem D_X4_foesOf_43 : dseq MX4_foesOf.2.1 43 [(.ior, 1), (.istore_n 2, 1), (.iinc 3 1, 3), (.goto (-44), 3)] := dq Lc_X4_foesOf 43 _ (by decide +kernel)
def b_X4_foesOf_0 (Q : Option Value → Hp → Prop) : Kt := i_push (.int 0) (i_ist 2 (i_push (.int 0) (i_ist 3 (i_keep [true, true, true, true] (wp 1 MX4_foesOf Q 4)))))
set_option maxRecDepth 100000 in
theorem s_X4_foesOf_0 (Q : Option Value → Hp → Prop) : ∀ A st h, b_X4_foesOf_0 Q A st h → wp 1 MX4_foesOf Q 0 A st h := (q1 (s_iconst (n := 0) (v := 0) (by decide)) D_X4_foesOf_0 fun D => (qL (s_istn (n := 2) (i := 2) rfl) (by decide) D fun D => (q1 (s_iconst (n := 0) (v := 0) (by decide)) D fun D => (qL (s_istn (n := 3) (i := 3) rfl) (by decide) D fun D => (s_keep [true, true, true, true] fun _ _ _ h => h)))))
def b_X4_foesOf_4 (Q : Option Value → Hp → Prop) : Kt := i_ild 3 (i_ald 0 (i_getR 4 0 (i_getR 8 1 (i_getI 3 0 (i_cmp (fun x y => y ≤ x) (i_ild 2 (i_iret Q)) (i_ild 2 (i_ild 1 (i_ild 3 (i_callS 2 T_X11_isIn (i_if (fun x => x = 0) (i_push (.int 0) (i_keep [true, true, false, true] (wp 1 MX4_foesOf Q 43))) (i_ald 0 (i_getR 4 0 (i_getR 8 1 (i_getR 3 8 (i_ild 3 (i_iald (i_keep [true, true, false, true] (wp 1 MX4_foesOf Q 43))))))))))))))))))
set_option maxRecDepth 100000 in
theorem s_X4_foesOf_4 (Q : Option Value → Hp → Prop) : ∀ A st h, b_X4_foesOf_4 Q A st h → wp 1 MX4_foesOf Q 4 A st h := (q1 (s_ildn (n := 3) (i := 3) rfl) D_X4_foesOf_4 fun D => (q1 (s_aldn (n := 0) (i := 0) rfl) D fun D => (qC fl_X4_43 rfl D fun D => (qC fl_X4_83 rfl D fun D => (qC fl_X4_87 rfl D fun D => (qB s_cmpge 51 (by decide) D (q1 (s_ildn (n := 2) (i := 2) rfl) D_X4_foesOf_51 fun D => (qI rfl D)) fun D => (q1 (s_ildn (n := 2) (i := 2) rfl) D fun D => (q1 (s_ildn (n := 1) (i := 1) rfl) D fun D => (q1 (s_ildn (n := 3) (i := 3) rfl) D fun D => (qX (s_callSN ok_X11_isIn mo_X11_isIn (ch_4_3_ok.2.2.1.2 rfl) (ch_3_7_ok.2.2.2.2.1.1 rfl)) rfl (by decide) D fun D => (qB s_ifeq 42 (by decide) D (q1 (s_iconst (n := 0) (v := 0) (by decide)) D_X4_foesOf_42 fun D => (s_keep [true, true, false, true] fun _ _ _ h => h)) fun D => (q1 (s_aldn (n := 0) (i := 0) rfl) D fun D => (qC fl_X4_43 rfl D fun D => (qC fl_X4_83 rfl D fun D => (qC fl_X4_94 rfl D fun D => (q1 (s_ildn (n := 3) (i := 3) rfl) D fun D => (q1 s_iald D fun D => (qG 43 (by decide) D (s_keep [true, true, false, true] fun _ _ _ h => h)))))))))))))))))))
def b_X4_foesOf_43 (Q : Option Value → Hp → Prop) : Kt := i_bin (fun x y => x ||| y) (i_ist 2 (i_inc 3 1 (i_keep [true, true, true, true] (wp 1 MX4_foesOf Q 4))))
set_option maxRecDepth 100000 in
theorem s_X4_foesOf_43 (Q : Option Value → Hp → Prop) : ∀ A st h, b_X4_foesOf_43 Q A st h → wp 1 MX4_foesOf Q 43 A st h := (q1 s_or D_X4_foesOf_43 fun D => (qL (s_istn (n := 2) (i := 2) rfl) (by decide) D fun D => (qL (s_inc (i := 3) (n := 1) (v := 1) (by decide)) (by decide) D fun D => (qG 4 (by decide) D (s_keep [true, true, true, true] fun _ _ _ h => h)))))

set_option maxRecDepth 100000 in
set_option maxHeartbeats 400000 in
theorem fo_4 (Q : Option Value → Hp → Prop) (h : Hp) (hl : LayX h) (hst : hR h 33 0 = some 3) (g : Int32) (P : Nat) (hP : P ≤ 24) (h16 : hI h 16 0 = nI P) (hq : Q (some (.int (foS (hI h) g P))) h) :
    ∀ (m k : Nat), m = P - k → k ≤ P → wp 1 MX4_foesOf Q 4 [some (.ref 33), some (.int g), some (.int (foS (hI h) g k)), some (.int (nI k))] [] h := by
  intro m
  induction m with
  | zero =>
    intro k hm hkP
    have e : k = P := by omega
    subst e
    refine s_X4_foesOf_4 Q _ _ _ ?_
    simp only [b_X4_foesOf_4, lx_pI, lx_wI, lx_t hl, lx_k hl, lx_r hl, lx_l hl, i_push, i_ild, i_ald, i_ist, i_ast, i_inc, i_bin, i_un, i_divs, i_i2l, i_lshl, i_lor, i_dup, i_dup2, i_pop, i_if, i_cmp, i_nul, i_vret, i_iret, i_zret, i_aret, i_keep, keep, lget, lset, ent, i_getI, i_getJ, i_getR, i_getN, i_putI, i_putZ, i_putJ, i_putR, i_iald, i_bald, i_alen, i_aald, i_iast, i_bast, i_aast, i_new, i_newa, i_anew, i_oini, i_callS, i_callV, i_callI, popn, sh4, i_sw, swP, i_copy, i_binS, List.map, Option.toList_none, Option.toList_some, List.append, List.nil_append, List.cons_append, List.length_cons, List.length_nil, List.replicate, Nat.sub_self, Nat.reduceSub, Nat.reduceAdd, hK_pI, hL_pI, hI_pI, hR_pI, hJ_pI, hT_pI, hS_pI, hK_pR, hL_pR, hI_pR, hR_pR, hJ_pR, hT_pR, hS_pR, hK_pJ, hL_pJ, hI_pJ, hR_pJ, hJ_pJ, hT_pJ, hS_pJ, hK_wI, hL_wI, hI_wI, hR_wI, hJ_wI, hT_wI, hS_wI, eq_self, and_true, true_and, and_false, false_and, or_true, true_or, or_false, false_or, if_true, if_false, not_true_eq_false, not_false_eq_true, forall_const, implies_true, false_implies, true_implies, Option.some.injEq, forall_eq', exists_eq_left', reduceCtorEq, Nat.reduceEqDiff, c1, T_X12_in, T_X12_ones, T_X11_within, T_X11_bit, T_X11_isIn, T_X11_oneIfIn, T_J6_bitCount_0f7a4, hst, h16]
    exact ⟨fun _ => hq, fun c => absurd (nI_le (Nat.le_refl _) (by omega)) c⟩
  | succ m ih =>
    intro k hm hkP
    have hgo := ih (k + 1) (by omega) (by omega)
    have h43 : ∀ v, v = (if bt g k = true then hI h 23 k else 0) → wp 1 MX4_foesOf Q 43 [some (.ref 33), some (.int g), none, some (.int (nI k))] [.int v, .int (foS (hI h) g k)] h := by
      intro v hv
      rw [foS, ← hv] at hgo
      refine s_X4_foesOf_43 Q _ _ _ ?_
      simp only [b_X4_foesOf_43, i_push, i_ild, i_ald, i_ist, i_ast, i_inc, i_bin, i_un, i_divs, i_i2l, i_lshl, i_lor, i_dup, i_dup2, i_pop, i_if, i_cmp, i_nul, i_vret, i_iret, i_zret, i_aret, i_keep, keep, lget, lset, ent, i_getI, i_getJ, i_getR, i_getN, i_putI, i_putZ, i_putJ, i_putR, i_iald, i_bald, i_alen, i_aald, i_iast, i_bast, i_aast, i_new, i_newa, i_anew, i_oini, i_callS, i_callV, i_callI, popn, sh4, i_sw, swP, i_copy, i_binS, List.map, Option.toList_none, Option.toList_some, List.append, List.nil_append, List.cons_append, List.length_cons, List.length_nil, List.replicate, Nat.sub_self, Nat.reduceSub, Nat.reduceAdd, hK_pI, hL_pI, hI_pI, hR_pI, hJ_pI, hT_pI, hS_pI, hK_pR, hL_pR, hI_pR, hR_pR, hJ_pR, hT_pR, hS_pR, hK_pJ, hL_pJ, hI_pJ, hR_pJ, hJ_pJ, hT_pJ, hS_pJ, hK_wI, hL_wI, hI_wI, hR_wI, hJ_wI, hT_wI, hS_wI, eq_self, and_true, true_and, and_false, false_and, or_true, true_or, or_false, false_or, if_true, if_false, not_true_eq_false, not_false_eq_true, forall_const, implies_true, false_implies, true_implies, Option.some.injEq, forall_eq', exists_eq_left', reduceCtorEq, Nat.reduceEqDiff, c1, T_X12_in, T_X12_ones, T_X11_within, T_X11_bit, T_X11_isIn, T_X11_oneIfIn, T_J6_bitCount_0f7a4, nI_1]
      exact hgo
    refine s_X4_foesOf_4 Q _ _ _ ?_
    simp only [b_X4_foesOf_4, lx_pI, lx_wI, lx_t hl, lx_k hl, lx_r hl, lx_l hl, i_push, i_ild, i_ald, i_ist, i_ast, i_inc, i_bin, i_un, i_divs, i_i2l, i_lshl, i_lor, i_dup, i_dup2, i_pop, i_if, i_cmp, i_nul, i_vret, i_iret, i_zret, i_aret, i_keep, keep, lget, lset, ent, i_getI, i_getJ, i_getR, i_getN, i_putI, i_putZ, i_putJ, i_putR, i_iald, i_bald, i_alen, i_aald, i_iast, i_bast, i_aast, i_new, i_newa, i_anew, i_oini, i_callS, i_callV, i_callI, popn, sh4, i_sw, swP, i_copy, i_binS, List.map, Option.toList_none, Option.toList_some, List.append, List.nil_append, List.cons_append, List.length_cons, List.length_nil, List.replicate, Nat.sub_self, Nat.reduceSub, Nat.reduceAdd, hK_pI, hL_pI, hI_pI, hR_pI, hJ_pI, hT_pI, hS_pI, hK_pR, hL_pR, hI_pR, hR_pR, hJ_pR, hT_pR, hS_pR, hK_pJ, hL_pJ, hI_pJ, hR_pJ, hJ_pJ, hT_pJ, hS_pJ, hK_wI, hL_wI, hI_wI, hR_wI, hJ_wI, hT_wI, hS_wI, eq_self, and_true, true_and, and_false, false_and, or_true, true_or, or_false, false_or, if_true, if_false, not_true_eq_false, not_false_eq_true, forall_const, implies_true, false_implies, true_implies, Option.some.injEq, forall_eq', exists_eq_left', reduceCtorEq, Nat.reduceEqDiff, c1, T_X12_in, T_X12_ones, T_X11_within, T_X11_bit, T_X11_isIn, T_X11_oneIfIn, T_J6_bitCount_0f7a4, hst, h16, sh_bt g (show k < 32 by omega), b2i_0, Classical.not_not, cl_nI (show k < 2147483648 by omega), in_nI (show k < 24 by omega) (by decide)]
    refine ⟨fun c => absurd c (nI_ge (by omega) (by omega)), fun _ => ⟨fun c => h43 _ ?_, fun c => h43 _ ?_⟩⟩
    · rw [if_neg (by rw [c]; decide)]
    · rw [if_pos (by simpa using c)]
set_option maxRecDepth 100000 in
set_option maxHeartbeats 4000000 in
theorem ok_X4_foesOf : ctr 1 MX4_foesOf T_X4_foesOf := by
  refine ctr_of pn_X4 wc_X4_foesOf (fun av h Q hT => ?_)
  unfold T_X4_foesOf at hT
  split at hT
  · rename_i o g
    refine ⟨⟨by simp [Value.category], Nat.le_of_ble_eq_true rfl⟩, s_X4_foesOf_0 Q _ _ _ ?_⟩
    obtain ⟨rfl, hl, hst, P, hP, h16, hq⟩ := hT
    simp only [MX4_foesOf, b_X4_foesOf_0, i_push, i_ild, i_ald, i_ist, i_ast, i_inc, i_bin, i_un, i_divs, i_i2l, i_lshl, i_lor, i_dup, i_dup2, i_pop, i_if, i_cmp, i_nul, i_vret, i_iret, i_zret, i_aret, i_keep, keep, lget, lset, ent, i_getI, i_getJ, i_getR, i_getN, i_putI, i_putZ, i_putJ, i_putR, i_iald, i_bald, i_alen, i_aald, i_iast, i_bast, i_aast, i_new, i_newa, i_anew, i_oini, i_callS, i_callV, i_callI, popn, sh4, i_sw, swP, i_copy, i_binS, List.map, Option.toList_none, Option.toList_some, List.append, List.nil_append, List.cons_append, List.length_cons, List.length_nil, List.replicate, Nat.sub_self, Nat.reduceSub, Nat.reduceAdd, hK_pI, hL_pI, hI_pI, hR_pI, hJ_pI, hT_pI, hS_pI, hK_pR, hL_pR, hI_pR, hR_pR, hJ_pR, hT_pR, hS_pR, hK_pJ, hL_pJ, hI_pJ, hR_pJ, hJ_pJ, hT_pJ, hS_pJ, hK_wI, hL_wI, hI_wI, hR_wI, hJ_wI, hT_wI, hS_wI, eq_self, and_true, true_and, and_false, false_and, or_true, true_or, or_false, false_or, if_true, if_false, not_true_eq_false, not_false_eq_true, forall_const, implies_true, false_implies, true_implies, Option.some.injEq, forall_eq', exists_eq_left', reduceCtorEq, Nat.reduceEqDiff, c1, T_X12_in, T_X12_ones, T_X11_within, T_X11_bit, T_X11_isIn, T_X11_oneIfIn, T_J6_bitCount_0f7a4]
    exact fo_4 Q h hl hst g P hP h16 hq P 0 (by omega) (by omega)
  · exact hT.elim
def aok (I : Mem) (g k : Int32) (P : Nat) : Prop := ∀ p, p < P → bt g p = true → I 18 p = k
def T_X4_areAllOfKind : Tr := fun av h Q => match av with
  | [.ref o, .int g, .int k] => o = 33 ∧ LayX h ∧ hR h 33 0 = some 3 ∧ ∃ P, P ≤ 24 ∧ hI h 16 0 = nI P ∧ (aok (hI h) g k P → Q (some (.int 1)) h) ∧ (¬ aok (hI h) g k P → Q (some (.int 0)) h)
  | _ => False
def L_X4_areAllOfKind : List UInt8 := [3, 62, 29, 42, 180, 0, 43, 180, 0, 83, 180, 0, 87, 162, 0, 35, 27, 29, 184, 0, 90, 153, 0, 21, 42, 180, 0, 43, 180, 0, 83, 180, 0, 120, 29, 46, 28, 159, 0, 5, 3, 172, 132, 3, 1, 167, 255, 213, 4, 172]
theorem Lc_X4_areAllOfKind : MX4_areAllOfKind.2.1 = ⟨L_X4_areAllOfKind.toArray⟩ := rfl
theorem D_X4_areAllOfKind_0 : dseq MX4_areAllOfKind.2.1 0 [(.iconst 0, 1), (.istore_n 3, 1)] := dq Lc_X4_areAllOfKind 0 _ (by decide +kernel)
theorem D_X4_areAllOfKind_2 : dseq MX4_areAllOfKind.2.1 2 [(.iload_n 3, 1), (.aload_n 0, 1), (.getfield 43, 3), (.getfield 83, 3), (.getfield 87, 3), (.if_icmp .ge 35, 3), (.iload_n 1, 1), (.iload_n 3, 1), (.invokestatic 90, 3), (.ifCond .eq 21, 3), (.aload_n 0, 1), (.getfield 43, 3), (.getfield 83, 3), (.getfield 120, 3), (.iload_n 3, 1), (.iaload, 1), (.iload_n 2, 1), (.if_icmp .eq 5, 3), (.iconst 0, 1), (.ireturn, 1)] := dq Lc_X4_areAllOfKind 2 _ (by decide +kernel)
theorem D_X4_areAllOfKind_48 : dseq MX4_areAllOfKind.2.1 48 [(.iconst 1, 1), (.ireturn, 1)] := dq Lc_X4_areAllOfKind 48 _ (by decide +kernel)
theorem D_X4_areAllOfKind_42 : dseq MX4_areAllOfKind.2.1 42 [(.iinc 3 1, 3), (.goto (-43), 3)] := dq Lc_X4_areAllOfKind 42 _ (by decide +kernel)
def b_X4_areAllOfKind_0 (Q : Option Value → Hp → Prop) : Kt := i_push (.int 0) (i_ist 3 (i_keep [true, true, true, true] (wp 1 MX4_areAllOfKind Q 2)))
set_option maxRecDepth 100000 in
theorem s_X4_areAllOfKind_0 (Q : Option Value → Hp → Prop) : ∀ A st h, b_X4_areAllOfKind_0 Q A st h → wp 1 MX4_areAllOfKind Q 0 A st h := (q1 (s_iconst (n := 0) (v := 0) (by decide)) D_X4_areAllOfKind_0 fun D => (qL (s_istn (n := 3) (i := 3) rfl) (by decide) D fun D => (s_keep [true, true, true, true] fun _ _ _ h => h)))
def b_X4_areAllOfKind_2 (Q : Option Value → Hp → Prop) : Kt := i_ild 3 (i_ald 0 (i_getR 4 0 (i_getR 8 1 (i_getI 3 0 (i_cmp (fun x y => y ≤ x) (i_push (.int 1) (i_zret Q)) (i_ild 1 (i_ild 3 (i_callS 2 T_X11_isIn (i_if (fun x => x = 0) (i_keep [true, true, true, true] (wp 1 MX4_areAllOfKind Q 42)) (i_ald 0 (i_getR 4 0 (i_getR 8 1 (i_getR 3 3 (i_ild 3 (i_iald (i_ild 2 (i_cmp (fun x y => x = y) (i_keep [true, true, true, true] (wp 1 MX4_areAllOfKind Q 42)) (i_push (.int 0) (i_zret Q)))))))))))))))))))
set_option maxRecDepth 100000 in
theorem s_X4_areAllOfKind_2 (Q : Option Value → Hp → Prop) : ∀ A st h, b_X4_areAllOfKind_2 Q A st h → wp 1 MX4_areAllOfKind Q 2 A st h := (q1 (s_ildn (n := 3) (i := 3) rfl) D_X4_areAllOfKind_2 fun D => (q1 (s_aldn (n := 0) (i := 0) rfl) D fun D => (qC fl_X4_43 rfl D fun D => (qC fl_X4_83 rfl D fun D => (qC fl_X4_87 rfl D fun D => (qB s_cmpge 48 (by decide) D (q1 (s_iconst (n := 1) (v := 1) (by decide)) D_X4_areAllOfKind_48 fun D => (qZ rfl D)) fun D => (q1 (s_ildn (n := 1) (i := 1) rfl) D fun D => (q1 (s_ildn (n := 3) (i := 3) rfl) D fun D => (qX (s_callSN ok_X11_isIn mo_X11_isIn (ch_4_3_ok.2.2.1.2 rfl) (ch_3_7_ok.2.2.2.2.1.1 rfl)) rfl (by decide) D fun D => (qB s_ifeq 42 (by decide) D (s_keep [true, true, true, true] fun _ _ _ h => h) fun D => (q1 (s_aldn (n := 0) (i := 0) rfl) D fun D => (qC fl_X4_43 rfl D fun D => (qC fl_X4_83 rfl D fun D => (qC fl_X4_120 rfl D fun D => (q1 (s_ildn (n := 3) (i := 3) rfl) D fun D => (q1 s_iald D fun D => (q1 (s_ildn (n := 2) (i := 2) rfl) D fun D => (qB s_cmpeq 42 (by decide) D (s_keep [true, true, true, true] fun _ _ _ h => h) fun D => (q1 (s_iconst (n := 0) (v := 0) (by decide)) D fun D => (qZ rfl D))))))))))))))))))))
def b_X4_areAllOfKind_42 (Q : Option Value → Hp → Prop) : Kt := i_inc 3 1 (i_keep [true, true, true, true] (wp 1 MX4_areAllOfKind Q 2))
set_option maxRecDepth 100000 in
theorem s_X4_areAllOfKind_42 (Q : Option Value → Hp → Prop) : ∀ A st h, b_X4_areAllOfKind_42 Q A st h → wp 1 MX4_areAllOfKind Q 42 A st h := (qL (s_inc (i := 3) (n := 1) (v := 1) (by decide)) (by decide) D_X4_areAllOfKind_42 fun D => (qG 2 (by decide) D (s_keep [true, true, true, true] fun _ _ _ h => h)))

set_option maxRecDepth 100000 in
set_option maxHeartbeats 400000 in
theorem ak_2 (Q : Option Value → Hp → Prop) (h : Hp) (hl : LayX h) (hst : hR h 33 0 = some 3) (g kd : Int32) (P : Nat) (hP : P ≤ 24) (h16 : hI h 16 0 = nI P) (hq1 : aok (hI h) g kd P → Q (some (.int 1)) h) (hq0 : ¬ aok (hI h) g kd P → Q (some (.int 0)) h) :
    ∀ (m k : Nat), m = P - k → k ≤ P → aok (hI h) g kd k → wp 1 MX4_areAllOfKind Q 2 [some (.ref 33), some (.int g), some (.int kd), some (.int (nI k))] [] h := by
  intro m
  induction m with
  | zero =>
    intro k hm hkP ha
    have e : k = P := by omega
    subst e
    refine s_X4_areAllOfKind_2 Q _ _ _ ?_
    simp only [b_X4_areAllOfKind_2, lx_pI, lx_wI, lx_t hl, lx_k hl, lx_r hl, lx_l hl, i_push, i_ild, i_ald, i_ist, i_ast, i_inc, i_bin, i_un, i_divs, i_i2l, i_lshl, i_lor, i_dup, i_dup2, i_pop, i_if, i_cmp, i_nul, i_vret, i_iret, i_zret, i_aret, i_keep, keep, lget, lset, ent, i_getI, i_getJ, i_getR, i_getN, i_putI, i_putZ, i_putJ, i_putR, i_iald, i_bald, i_alen, i_aald, i_iast, i_bast, i_aast, i_new, i_newa, i_anew, i_oini, i_callS, i_callV, i_callI, popn, sh4, i_sw, swP, i_copy, i_binS, List.map, Option.toList_none, Option.toList_some, List.append, List.nil_append, List.cons_append, List.length_cons, List.length_nil, List.replicate, Nat.sub_self, Nat.reduceSub, Nat.reduceAdd, hK_pI, hL_pI, hI_pI, hR_pI, hJ_pI, hT_pI, hS_pI, hK_pR, hL_pR, hI_pR, hR_pR, hJ_pR, hT_pR, hS_pR, hK_pJ, hL_pJ, hI_pJ, hR_pJ, hJ_pJ, hT_pJ, hS_pJ, hK_wI, hL_wI, hI_wI, hR_wI, hJ_wI, hT_wI, hS_wI, eq_self, and_true, true_and, and_false, false_and, or_true, true_or, or_false, false_or, if_true, if_false, not_true_eq_false, not_false_eq_true, forall_const, implies_true, false_implies, true_implies, Option.some.injEq, forall_eq', exists_eq_left', reduceCtorEq, Nat.reduceEqDiff, c1, T_X12_in, T_X12_ones, T_X11_within, T_X11_bit, T_X11_isIn, T_X11_oneIfIn, T_J6_bitCount_0f7a4, hst, h16]
    exact ⟨fun _ => hq1 ha, fun c => absurd (nI_le (Nat.le_refl _) (by omega)) c⟩
  | succ m ih =>
    intro k hm hkP ha
    have h42 : (bt g k = true → hI h 18 k = kd) → wp 1 MX4_areAllOfKind Q 42 [some (.ref 33), some (.int g), some (.int kd), some (.int (nI k))] [] h := by
      intro hk
      refine s_X4_areAllOfKind_42 Q _ _ _ ?_
      simp only [b_X4_areAllOfKind_42, i_push, i_ild, i_ald, i_ist, i_ast, i_inc, i_bin, i_un, i_divs, i_i2l, i_lshl, i_lor, i_dup, i_dup2, i_pop, i_if, i_cmp, i_nul, i_vret, i_iret, i_zret, i_aret, i_keep, keep, lget, lset, ent, i_getI, i_getJ, i_getR, i_getN, i_putI, i_putZ, i_putJ, i_putR, i_iald, i_bald, i_alen, i_aald, i_iast, i_bast, i_aast, i_new, i_newa, i_anew, i_oini, i_callS, i_callV, i_callI, popn, sh4, i_sw, swP, i_copy, i_binS, List.map, Option.toList_none, Option.toList_some, List.append, List.nil_append, List.cons_append, List.length_cons, List.length_nil, List.replicate, Nat.sub_self, Nat.reduceSub, Nat.reduceAdd, hK_pI, hL_pI, hI_pI, hR_pI, hJ_pI, hT_pI, hS_pI, hK_pR, hL_pR, hI_pR, hR_pR, hJ_pR, hT_pR, hS_pR, hK_pJ, hL_pJ, hI_pJ, hR_pJ, hJ_pJ, hT_pJ, hS_pJ, hK_wI, hL_wI, hI_wI, hR_wI, hJ_wI, hT_wI, hS_wI, eq_self, and_true, true_and, and_false, false_and, or_true, true_or, or_false, false_or, if_true, if_false, not_true_eq_false, not_false_eq_true, forall_const, implies_true, false_implies, true_implies, Option.some.injEq, forall_eq', exists_eq_left', reduceCtorEq, Nat.reduceEqDiff, c1, T_X12_in, T_X12_ones, T_X11_within, T_X11_bit, T_X11_isIn, T_X11_oneIfIn, T_J6_bitCount_0f7a4, nI_1]
      refine ih (k + 1) (by omega) (by omega) (fun p p1 p2 => ?_)
      by_cases e : p = k
      · rw [e] at p2 ⊢; exact hk p2
      · exact ha p (by omega) p2
    refine s_X4_areAllOfKind_2 Q _ _ _ ?_
    simp only [b_X4_areAllOfKind_2, lx_pI, lx_wI, lx_t hl, lx_k hl, lx_r hl, lx_l hl, i_push, i_ild, i_ald, i_ist, i_ast, i_inc, i_bin, i_un, i_divs, i_i2l, i_lshl, i_lor, i_dup, i_dup2, i_pop, i_if, i_cmp, i_nul, i_vret, i_iret, i_zret, i_aret, i_keep, keep, lget, lset, ent, i_getI, i_getJ, i_getR, i_getN, i_putI, i_putZ, i_putJ, i_putR, i_iald, i_bald, i_alen, i_aald, i_iast, i_bast, i_aast, i_new, i_newa, i_anew, i_oini, i_callS, i_callV, i_callI, popn, sh4, i_sw, swP, i_copy, i_binS, List.map, Option.toList_none, Option.toList_some, List.append, List.nil_append, List.cons_append, List.length_cons, List.length_nil, List.replicate, Nat.sub_self, Nat.reduceSub, Nat.reduceAdd, hK_pI, hL_pI, hI_pI, hR_pI, hJ_pI, hT_pI, hS_pI, hK_pR, hL_pR, hI_pR, hR_pR, hJ_pR, hT_pR, hS_pR, hK_pJ, hL_pJ, hI_pJ, hR_pJ, hJ_pJ, hT_pJ, hS_pJ, hK_wI, hL_wI, hI_wI, hR_wI, hJ_wI, hT_wI, hS_wI, eq_self, and_true, true_and, and_false, false_and, or_true, true_or, or_false, false_or, if_true, if_false, not_true_eq_false, not_false_eq_true, forall_const, implies_true, false_implies, true_implies, Option.some.injEq, forall_eq', exists_eq_left', reduceCtorEq, Nat.reduceEqDiff, c1, T_X12_in, T_X12_ones, T_X11_within, T_X11_bit, T_X11_isIn, T_X11_oneIfIn, T_J6_bitCount_0f7a4, hst, h16, sh_bt g (show k < 32 by omega), b2i_0, Classical.not_not, cl_nI (show k < 2147483648 by omega), in_nI (show k < 24 by omega) (by decide)]
    refine ⟨fun c => absurd c (nI_ge (by omega) (by omega)), fun _ => ⟨fun c => h42 (fun z => by rw [c] at z; cases z), fun c => ⟨fun c2 => h42 (fun _ => c2), fun c2 => hq0 (fun z => c2 (z k (by omega) (by simpa using c)))⟩⟩⟩
set_option maxRecDepth 100000 in
set_option maxHeartbeats 4000000 in
theorem ok_X4_areAllOfKind : ctr 1 MX4_areAllOfKind T_X4_areAllOfKind := by
  refine ctr_of pn_X4 wc_X4_areAllOfKind (fun av h Q hT => ?_)
  unfold T_X4_areAllOfKind at hT
  split at hT
  · rename_i o g k
    refine ⟨⟨by simp [Value.category], Nat.le_of_ble_eq_true rfl⟩, s_X4_areAllOfKind_0 Q _ _ _ ?_⟩
    obtain ⟨rfl, hl, hst, P, hP, h16, hq1, hq0⟩ := hT
    simp only [MX4_areAllOfKind, b_X4_areAllOfKind_0, i_push, i_ild, i_ald, i_ist, i_ast, i_inc, i_bin, i_un, i_divs, i_i2l, i_lshl, i_lor, i_dup, i_dup2, i_pop, i_if, i_cmp, i_nul, i_vret, i_iret, i_zret, i_aret, i_keep, keep, lget, lset, ent, i_getI, i_getJ, i_getR, i_getN, i_putI, i_putZ, i_putJ, i_putR, i_iald, i_bald, i_alen, i_aald, i_iast, i_bast, i_aast, i_new, i_newa, i_anew, i_oini, i_callS, i_callV, i_callI, popn, sh4, i_sw, swP, i_copy, i_binS, List.map, Option.toList_none, Option.toList_some, List.append, List.nil_append, List.cons_append, List.length_cons, List.length_nil, List.replicate, Nat.sub_self, Nat.reduceSub, Nat.reduceAdd, hK_pI, hL_pI, hI_pI, hR_pI, hJ_pI, hT_pI, hS_pI, hK_pR, hL_pR, hI_pR, hR_pR, hJ_pR, hT_pR, hS_pR, hK_pJ, hL_pJ, hI_pJ, hR_pJ, hJ_pJ, hT_pJ, hS_pJ, hK_wI, hL_wI, hI_wI, hR_wI, hJ_wI, hT_wI, hS_wI, eq_self, and_true, true_and, and_false, false_and, or_true, true_or, or_false, false_or, if_true, if_false, not_true_eq_false, not_false_eq_true, forall_const, implies_true, false_implies, true_implies, Option.some.injEq, forall_eq', exists_eq_left', reduceCtorEq, Nat.reduceEqDiff, c1, T_X12_in, T_X12_ones, T_X11_within, T_X11_bit, T_X11_isIn, T_X11_oneIfIn, T_J6_bitCount_0f7a4]
    exact ak_2 Q h hl hst g k P hP h16 hq1 hq0 P 0 (by omega) (by omega) (fun p hp => absurd hp (Nat.not_lt_zero _))
  · exact hT.elim
/-- the places of a room tonight -/
def cpX (I : Mem) (r : Nat) : Int32 := if I 33 1 = 0 then I 13 r else I 13 r + I 14 r
def suF (I : Mem) (r : Nat) (g : Int32) (P : Nat) : Prop := nI (pct g) ≤ cpX I r ∧ (bt (I 12 4) r = true → g &&& (I 16 10 ^^^ (-1)) = 0) ∧ (bt (I 12 5) r = true ∨ g &&& I 16 11 = 0) ∧ (I 15 r = 0 ∨ aok I g (I 15 r) P)
def T_X4_suits : Tr := fun av h Q => match av with
  | [.ref o, .int r, .int g] => o = 33 ∧ LayX h ∧ hR h 33 0 = some 3 ∧ ∃ P r', P ≤ 24 ∧ hI h 16 0 = nI P ∧ r = nI r' ∧ r' < 4 ∧ (suF (hI h) r' g P → Q (some (.int 1)) h) ∧ (¬ suF (hI h) r' g P → Q (some (.int 0)) h)
  | _ => False
def L_X4_suits : List UInt8 := [42, 180, 0, 43, 180, 0, 55, 78, 42, 180, 0, 43, 180, 0, 83, 58, 4, 28, 184, 0, 97, 45, 27, 42, 180, 0, 47, 182, 0, 65, 163, 0, 74, 45, 180, 0, 102, 27, 184, 0, 90, 153, 0, 15, 28, 25, 4, 180, 0, 105, 2, 130, 126, 154, 0, 51, 45, 180, 0, 108, 27, 184, 0, 90, 154, 0, 13, 28, 25, 4, 180, 0, 111, 126, 154, 0, 30, 45, 180, 0, 114, 27, 46, 153, 0, 17, 42, 28, 45, 180, 0, 114, 27, 46, 182, 0, 117, 153, 0, 7, 4, 167, 0, 4, 3, 172]
theorem Lc_X4_suits : MX4_suits.2.1 = ⟨L_X4_suits.toArray⟩ := rfl
theorem D_X4_suits_0 : dseq MX4_suits.2.1 0 [(.aload_n 0, 1), (.getfield 43, 3), (.getfield 55, 3), (.astore_n 3, 1), (.aload_n 0, 1), (.getfield 43, 3), (.getfield 83, 3), (.astore 4, 2), (.iload_n 2, 1), (.invokestatic 97, 3), (.aload_n 3, 1), (.iload_n 1, 1), (.aload_n 0, 1), (.getfield 47, 3), (.invokevirtual 65, 3), (.if_icmp .gt 74, 3), (.aload_n 3, 1), (.getfield 102, 3), (.iload_n 1, 1), (.invokestatic 90, 3), (.ifCond .eq 15, 3), (.iload_n 2, 1), (.aload 4, 2), (.getfield 105, 3), (.iconst (-1), 1), (.ixor, 1), (.iand, 1), (.ifCond .ne 51, 3)] := dq Lc_X4_suits 0 _ (by decide +kernel)
theorem D_X4_suits_104 : dseq MX4_suits.2.1 104 [(.iconst 0, 1), (.ireturn, 1)] := dq Lc_X4_suits 104 _ (by decide +kernel)
theorem D_X4_suits_56 : dseq MX4_suits.2.1 56 [(.aload_n 3, 1), (.getfield 108, 3), (.iload_n 1, 1), (.invokestatic 90, 3), (.ifCond .ne 13, 3), (.iload_n 2, 1), (.aload 4, 2), (.getfield 111, 3), (.iand, 1), (.ifCond .ne 30, 3)] := dq Lc_X4_suits 56 _ (by decide +kernel)
theorem D_X4_suits_77 : dseq MX4_suits.2.1 77 [(.aload_n 3, 1), (.getfield 114, 3), (.iload_n 1, 1), (.iaload, 1), (.ifCond .eq 17, 3), (.aload_n 0, 1), (.iload_n 2, 1), (.aload_n 3, 1), (.getfield 114, 3), (.iload_n 1, 1), (.iaload, 1), (.invokevirtual 117, 3), (.ifCond .eq 7, 3)] := dq Lc_X4_suits 77 _ (by decide +kernel)
theorem D_X4_suits_100 : dseq MX4_suits.2.1 100 [(.iconst 1, 1), (.goto 4, 3)] := dq Lc_X4_suits 100 _ (by decide +kernel)
theorem D_X4_suits_105 : dseq MX4_suits.2.1 105 [(.ireturn, 1)] := dq Lc_X4_suits 105 _ (by decide +kernel)
def c_X4_suits_30 (Q : Option Value → Hp → Prop) : Kt := i_cmp (fun x y => y < x) (i_push (.int 0) (i_zret Q)) (i_ald 3 (i_getI 6 4 (i_ild 1 (i_callS 2 T_X11_isIn (i_if (fun x => x = 0) (i_keep [true, true, true, true, true] (wp 2 MX4_suits Q 56)) (i_ild 2 (i_ald 4 (i_getI 3 10 (i_push (.int (-1)) (i_bin (fun x y => x ^^^ y) (i_bin (fun x y => x &&& y) (i_if (fun x => x = 0) (i_keep [true, true, true, true, true] (wp 2 MX4_suits Q 56)) (i_push (.int 0) (i_zret Q))))))))))))))
def c_X4_suits_97 (Q : Option Value → Hp → Prop) : Kt := i_if (fun x => x = 0) (i_push (.int 0) (i_zret Q)) (i_keep [false, false, false, false, false] (wp 2 MX4_suits Q 100))
def b_X4_suits_0 (Q : Option Value → Hp → Prop) : Kt := i_ald 0 (i_getR 4 0 (i_getR 8 0 (i_ast 3 (i_ald 0 (i_getR 4 0 (i_getR 8 1 (i_ast 4 (i_ild 2 (i_callS 1 T_J6_bitCount_0f7a4 (i_ald 3 (i_ild 1 (i_ald 0 (i_getI 4 1 (i_callV 6 2 T_X6_places (c_X4_suits_30 Q)))))))))))))))
set_option maxRecDepth 100000 in
theorem s_X4_suits_0 (Q : Option Value → Hp → Prop) : ∀ A st h, b_X4_suits_0 Q A st h → wp 2 MX4_suits Q 0 A st h := (q1 (s_aldn (n := 0) (i := 0) rfl) D_X4_suits_0 fun D => (qC fl_X4_43 rfl D fun D => (qC fl_X4_55 rfl D fun D => (qL (s_astn (n := 3) (i := 3) rfl) (by decide) D fun D => (q1 (s_aldn (n := 0) (i := 0) rfl) D fun D => (qC fl_X4_43 rfl D fun D => (qC fl_X4_83 rfl D fun D => (qL s_ast (by decide) D fun D => (q1 (s_ildn (n := 2) (i := 2) rfl) D fun D => (qX (s_callS ok_J6_bitCount_0f7a4 mo_J6_bitCount_0f7a4 (ch_4_3_ok.2.2.2.2.2.2.2.2.2.2.2.1.1 rfl) (ch_3_9_ok.2.2.2.2.1.1 rfl)) rfl (by decide) D fun D => (q1 (s_aldn (n := 3) (i := 3) rfl) D fun D => (q1 (s_ildn (n := 1) (i := 1) rfl) D fun D => (q1 (s_aldn (n := 0) (i := 0) rfl) D fun D => (qC fl_X4_47 rfl D fun D => (qX (s_callV kX6 rfl ok_X6_places mo_X6_places (ch_4_1_ok.2.2.2.2.2.2.2.2.2.2.2.2.2.2.1.1 rfl) (ch_4_1_ok.2.2.2.2.2.2.2.2.2.2.2.2.2.2.2.1.1 rfl) (ch_4_2_ok.1.1 rfl)) rfl (by decide) D fun D => (qB s_cmpgt 104 (by decide) D (q1 (s_iconst (n := 0) (v := 0) (by decide)) D_X4_suits_104 fun D => (qZ rfl D)) fun D => (q1 (s_aldn (n := 3) (i := 3) rfl) D fun D => (qC fl_X4_102 rfl D fun D => (q1 (s_ildn (n := 1) (i := 1) rfl) D fun D => (qX (s_callSN ok_X11_isIn mo_X11_isIn (ch_4_3_ok.2.2.1.2 rfl) (ch_3_7_ok.2.2.2.2.1.1 rfl)) rfl (by decide) D fun D => (qB s_ifeq 56 (by decide) D (s_keep [true, true, true, true, true] fun _ _ _ h => h) fun D => (q1 (s_ildn (n := 2) (i := 2) rfl) D fun D => (q1 s_ald D fun D => (qC fl_X4_105 rfl D fun D => (q1 (s_iconst (n := (-1)) (v := (-1)) (by decide)) D fun D => (q1 s_xor D fun D => (q1 s_and D fun D => (qBn s_ifne2 104 (by decide) D (q1 (s_iconst (n := 0) (v := 0) (by decide)) D_X4_suits_104 fun D => (qZ rfl D)) fun D => (s_keep [true, true, true, true, true] fun _ _ _ h => h)))))))))))))))))))))))))))))
def b_X4_suits_56 (Q : Option Value → Hp → Prop) : Kt := i_ald 3 (i_getI 6 5 (i_ild 1 (i_callS 2 T_X11_isIn (i_if (fun x => x = 0) (i_ild 2 (i_ald 4 (i_getI 3 11 (i_bin (fun x y => x &&& y) (i_if (fun x => x = 0) (i_keep [true, true, true, true, false] (wp 2 MX4_suits Q 77)) (i_push (.int 0) (i_zret Q))))))) (i_keep [true, true, true, true, false] (wp 2 MX4_suits Q 77))))))
set_option maxRecDepth 100000 in
theorem s_X4_suits_56 (Q : Option Value → Hp → Prop) : ∀ A st h, b_X4_suits_56 Q A st h → wp 2 MX4_suits Q 56 A st h := (q1 (s_aldn (n := 3) (i := 3) rfl) D_X4_suits_56 fun D => (qC fl_X4_108 rfl D fun D => (q1 (s_ildn (n := 1) (i := 1) rfl) D fun D => (qX (s_callSN ok_X11_isIn mo_X11_isIn (ch_4_3_ok.2.2.1.2 rfl) (ch_3_7_ok.2.2.2.2.1.1 rfl)) rfl (by decide) D fun D => (qBn s_ifne2 77 (by decide) D (s_keep [true, true, true, true, false] fun _ _ _ h => h) fun D => (q1 (s_ildn (n := 2) (i := 2) rfl) D fun D => (q1 s_ald D fun D => (qC fl_X4_111 rfl D fun D => (q1 s_and D fun D => (qBn s_ifne2 104 (by decide) D (q1 (s_iconst (n := 0) (v := 0) (by decide)) D_X4_suits_104 fun D => (qZ rfl D)) fun D => (s_keep [true, true, true, true, false] fun _ _ _ h => h)))))))))))
def b_X4_suits_77 (Q : Option Value → Hp → Prop) : Kt := i_ald 3 (i_getR 6 3 (i_ild 1 (i_iald (i_if (fun x => x = 0) (i_keep [false, false, false, false, false] (wp 2 MX4_suits Q 100)) (i_ald 0 (i_ild 2 (i_ald 3 (i_getR 6 3 (i_ild 1 (i_iald (i_callV 4 2 T_X4_areAllOfKind (c_X4_suits_97 Q))))))))))))
set_option maxRecDepth 100000 in
theorem s_X4_suits_77 (Q : Option Value → Hp → Prop) : ∀ A st h, b_X4_suits_77 Q A st h → wp 2 MX4_suits Q 77 A st h := (q1 (s_aldn (n := 3) (i := 3) rfl) D_X4_suits_77 fun D => (qC fl_X4_114 rfl D fun D => (q1 (s_ildn (n := 1) (i := 1) rfl) D fun D => (q1 s_iald D fun D => (qB s_ifeq 100 (by decide) D (s_keep [false, false, false, false, false] fun _ _ _ h => h) fun D => (q1 (s_aldn (n := 0) (i := 0) rfl) D fun D => (q1 (s_ildn (n := 2) (i := 2) rfl) D fun D => (q1 (s_aldn (n := 3) (i := 3) rfl) D fun D => (qC fl_X4_114 rfl D fun D => (q1 (s_ildn (n := 1) (i := 1) rfl) D fun D => (q1 s_iald D fun D => (qX (s_callV kX4 rfl ok_X4_areAllOfKind mo_X4_areAllOfKind (ch_4_3_ok.2.2.2.2.2.2.2.2.2.2.2.2.1.1 rfl) (ch_4_3_ok.2.2.2.2.2.2.2.2.2.2.2.2.2.2.1.1 rfl) (pv_1.2.2.2.2.2.2.2.1)) rfl (by decide) D fun D => (qB s_ifeq 104 (by decide) D (q1 (s_iconst (n := 0) (v := 0) (by decide)) D_X4_suits_104 fun D => (qZ rfl D)) fun D => (s_keep [false, false, false, false, false] fun _ _ _ h => h))))))))))))))
def b_X4_suits_100 (Q : Option Value → Hp → Prop) : Kt := i_push (.int 1) (i_zret Q)
set_option maxRecDepth 100000 in
theorem s_X4_suits_100 (Q : Option Value → Hp → Prop) : ∀ A st h, b_X4_suits_100 Q A st h → wp 2 MX4_suits Q 100 A st h := (q1 (s_iconst (n := 1) (v := 1) (by decide)) D_X4_suits_100 fun D => (qG 105 (by decide) D (qZ rfl D_X4_suits_105)))

set_option maxRecDepth 100000 in
set_option maxHeartbeats 4000000 in
theorem ok_X4_suits : ctr 2 MX4_suits T_X4_suits := by
  refine ctr_of pn_X4 wc_X4_suits (fun av h Q hT => ?_)
  unfold T_X4_suits at hT
  split at hT
  · rename_i o r g
    refine ⟨⟨by simp [Value.category], Nat.le_of_ble_eq_true rfl⟩, s_X4_suits_0 Q _ _ _ ?_⟩
    obtain ⟨rfl, hl, hst, P, r', hP, h16, rfl, hr, hq1, hq0⟩ := hT
    have h100 : suF (hI h) r' g P → wp 2 MX4_suits Q 100 [none, none, none, none, none] [] h := fun z => by
      refine s_X4_suits_100 Q _ _ _ ?_
      simp only [b_X4_suits_100, i_push, i_ild, i_ald, i_ist, i_ast, i_inc, i_bin, i_un, i_divs, i_i2l, i_lshl, i_lor, i_dup, i_dup2, i_pop, i_if, i_cmp, i_nul, i_vret, i_iret, i_zret, i_aret, i_keep, keep, lget, lset, ent, i_getI, i_getJ, i_getR, i_getN, i_putI, i_putZ, i_putJ, i_putR, i_iald, i_bald, i_alen, i_aald, i_iast, i_bast, i_aast, i_new, i_newa, i_anew, i_oini, i_callS, i_callV, i_callI, popn, sh4, i_sw, swP, i_copy, i_binS, List.map, Option.toList_none, Option.toList_some, List.append, List.nil_append, List.cons_append, List.length_cons, List.length_nil, List.replicate, Nat.sub_self, Nat.reduceSub, Nat.reduceAdd, hK_pI, hL_pI, hI_pI, hR_pI, hJ_pI, hT_pI, hS_pI, hK_pR, hL_pR, hI_pR, hR_pR, hJ_pR, hT_pR, hS_pR, hK_pJ, hL_pJ, hI_pJ, hR_pJ, hJ_pJ, hT_pJ, hS_pJ, hK_wI, hL_wI, hI_wI, hR_wI, hJ_wI, hT_wI, hS_wI, eq_self, and_true, true_and, and_false, false_and, or_true, true_or, or_false, false_or, if_true, if_false, not_true_eq_false, not_false_eq_true, forall_const, implies_true, false_implies, true_implies, Option.some.injEq, forall_eq', exists_eq_left', reduceCtorEq, Nat.reduceEqDiff, c1, T_X12_in, T_X12_ones, T_X11_within, T_X11_bit, T_X11_isIn, T_X11_oneIfIn, T_J6_bitCount_0f7a4]
      exact hq1 z
    have h77 : nI (pct g) ≤ cpX (hI h) r' → (bt (hI h 12 4) r' = true → g &&& (hI h 16 10 ^^^ (-1)) = 0) → (bt (hI h 12 5) r' = true ∨ g &&& hI h 16 11 = 0) → wp 2 MX4_suits Q 77 [some (.ref 33), some (.int (nI r')), some (.int g), some (.ref 12), none] [] h := by
      intro c1 c2 c3
      have hc : ¬ hI h 15 r' = 0 → T_X4_areAllOfKind [.ref 33, .int g, .int (hI h 15 r')] h (fun r h' => c_X4_suits_97 Q [some (.ref 33), some (.int (nI r')), some (.int g), some (.ref 12), none] (r.toList ++ []) h') := by
        intro c4
        refine ⟨rfl, hl, hst, P, hP, h16, fun z => ?_, fun z => ?_⟩
        · have := h100 ⟨c1, c2, c3, Or.inr z⟩
          show c_X4_suits_97 Q _ [.int 1] h
          simp only [c_X4_suits_97, i_push, i_ild, i_ald, i_ist, i_ast, i_inc, i_bin, i_un, i_divs, i_i2l, i_lshl, i_lor, i_dup, i_dup2, i_pop, i_if, i_cmp, i_nul, i_vret, i_iret, i_zret, i_aret, i_keep, keep, lget, lset, ent, i_getI, i_getJ, i_getR, i_getN, i_putI, i_putZ, i_putJ, i_putR, i_iald, i_bald, i_alen, i_aald, i_iast, i_bast, i_aast, i_new, i_newa, i_anew, i_oini, i_callS, i_callV, i_callI, popn, sh4, i_sw, swP, i_copy, i_binS, List.map, Option.toList_none, Option.toList_some, List.append, List.nil_append, List.cons_append, List.length_cons, List.length_nil, List.replicate, Nat.sub_self, Nat.reduceSub, Nat.reduceAdd, hK_pI, hL_pI, hI_pI, hR_pI, hJ_pI, hT_pI, hS_pI, hK_pR, hL_pR, hI_pR, hR_pR, hJ_pR, hT_pR, hS_pR, hK_pJ, hL_pJ, hI_pJ, hR_pJ, hJ_pJ, hT_pJ, hS_pJ, hK_wI, hL_wI, hI_wI, hR_wI, hJ_wI, hT_wI, hS_wI, eq_self, and_true, true_and, and_false, false_and, or_true, true_or, or_false, false_or, if_true, if_false, not_true_eq_false, not_false_eq_true, forall_const, implies_true, false_implies, true_implies, Option.some.injEq, forall_eq', exists_eq_left', reduceCtorEq, Nat.reduceEqDiff, c1, T_X12_in, T_X12_ones, T_X11_within, T_X11_bit, T_X11_isIn, T_X11_oneIfIn, T_J6_bitCount_0f7a4, show ¬ (1 : Int32) = 0 by decide]
          exact this
        · have := hq0 (fun w => by rcases w.2.2.2 with y | y; exact c4 y; exact z y)
          show c_X4_suits_97 Q _ [.int 0] h
          simp only [c_X4_suits_97, i_push, i_ild, i_ald, i_ist, i_ast, i_inc, i_bin, i_un, i_divs, i_i2l, i_lshl, i_lor, i_dup, i_dup2, i_pop, i_if, i_cmp, i_nul, i_vret, i_iret, i_zret, i_aret, i_keep, keep, lget, lset, ent, i_getI, i_getJ, i_getR, i_getN, i_putI, i_putZ, i_putJ, i_putR, i_iald, i_bald, i_alen, i_aald, i_iast, i_bast, i_aast, i_new, i_newa, i_anew, i_oini, i_callS, i_callV, i_callI, popn, sh4, i_sw, swP, i_copy, i_binS, List.map, Option.toList_none, Option.toList_some, List.append, List.nil_append, List.cons_append, List.length_cons, List.length_nil, List.replicate, Nat.sub_self, Nat.reduceSub, Nat.reduceAdd, hK_pI, hL_pI, hI_pI, hR_pI, hJ_pI, hT_pI, hS_pI, hK_pR, hL_pR, hI_pR, hR_pR, hJ_pR, hT_pR, hS_pR, hK_pJ, hL_pJ, hI_pJ, hR_pJ, hJ_pJ, hT_pJ, hS_pJ, hK_wI, hL_wI, hI_wI, hR_wI, hJ_wI, hT_wI, hS_wI, eq_self, and_true, true_and, and_false, false_and, or_true, true_or, or_false, false_or, if_true, if_false, not_true_eq_false, not_false_eq_true, forall_const, implies_true, false_implies, true_implies, Option.some.injEq, forall_eq', exists_eq_left', reduceCtorEq, Nat.reduceEqDiff, c1, T_X12_in, T_X12_ones, T_X11_within, T_X11_bit, T_X11_isIn, T_X11_oneIfIn, T_J6_bitCount_0f7a4]
          exact this
      refine s_X4_suits_77 Q _ _ _ ?_
      simp only [b_X4_suits_77, lx_pI, lx_wI, lx_t hl, lx_k hl, lx_r hl, lx_l hl, i_push, i_ild, i_ald, i_ist, i_ast, i_inc, i_bin, i_un, i_divs, i_i2l, i_lshl, i_lor, i_dup, i_dup2, i_pop, i_if, i_cmp, i_nul, i_vret, i_iret, i_zret, i_aret, i_keep, keep, lget, lset, ent, i_getI, i_getJ, i_getR, i_getN, i_putI, i_putZ, i_putJ, i_putR, i_iald, i_bald, i_alen, i_aald, i_iast, i_bast, i_aast, i_new, i_newa, i_anew, i_oini, i_callS, i_callV, i_callI, popn, sh4, i_sw, swP, i_copy, i_binS, List.map, Option.toList_none, Option.toList_some, List.append, List.nil_append, List.cons_append, List.length_cons, List.length_nil, List.replicate, Nat.sub_self, Nat.reduceSub, Nat.reduceAdd, hK_pI, hL_pI, hI_pI, hR_pI, hJ_pI, hT_pI, hS_pI, hK_pR, hL_pR, hI_pR, hR_pR, hJ_pR, hT_pR, hS_pR, hK_pJ, hL_pJ, hI_pJ, hR_pJ, hJ_pJ, hT_pJ, hS_pJ, hK_wI, hL_wI, hI_wI, hR_wI, hJ_wI, hT_wI, hS_wI, eq_self, and_true, true_and, and_false, false_and, or_true, true_or, or_false, false_or, if_true, if_false, not_true_eq_false, not_false_eq_true, forall_const, implies_true, false_implies, true_implies, Option.some.injEq, forall_eq', exists_eq_left', reduceCtorEq, Nat.reduceEqDiff, c1, T_X12_in, T_X12_ones, T_X11_within, T_X11_bit, T_X11_isIn, T_X11_oneIfIn, T_J6_bitCount_0f7a4, cl_nI (show r' < 2147483648 by omega), in_nI (show r' < 4 by omega) (by decide)]
      exact ⟨fun c4 => h100 ⟨c1, c2, c3, Or.inl c4⟩, fun c4 => hc c4⟩
    have h56 : nI (pct g) ≤ cpX (hI h) r' → (bt (hI h 12 4) r' = true → g &&& (hI h 16 10 ^^^ (-1)) = 0) → wp 2 MX4_suits Q 56 [some (.ref 33), some (.int (nI r')), some (.int g), some (.ref 12), some (.ref 16)] [] h := by
      intro c1 c2
      refine s_X4_suits_56 Q _ _ _ ?_
      simp only [b_X4_suits_56, lx_pI, lx_wI, lx_t hl, lx_k hl, lx_r hl, lx_l hl, i_push, i_ild, i_ald, i_ist, i_ast, i_inc, i_bin, i_un, i_divs, i_i2l, i_lshl, i_lor, i_dup, i_dup2, i_pop, i_if, i_cmp, i_nul, i_vret, i_iret, i_zret, i_aret, i_keep, keep, lget, lset, ent, i_getI, i_getJ, i_getR, i_getN, i_putI, i_putZ, i_putJ, i_putR, i_iald, i_bald, i_alen, i_aald, i_iast, i_bast, i_aast, i_new, i_newa, i_anew, i_oini, i_callS, i_callV, i_callI, popn, sh4, i_sw, swP, i_copy, i_binS, List.map, Option.toList_none, Option.toList_some, List.append, List.nil_append, List.cons_append, List.length_cons, List.length_nil, List.replicate, Nat.sub_self, Nat.reduceSub, Nat.reduceAdd, hK_pI, hL_pI, hI_pI, hR_pI, hJ_pI, hT_pI, hS_pI, hK_pR, hL_pR, hI_pR, hR_pR, hJ_pR, hT_pR, hS_pR, hK_pJ, hL_pJ, hI_pJ, hR_pJ, hJ_pJ, hT_pJ, hS_pJ, hK_wI, hL_wI, hI_wI, hR_wI, hJ_wI, hT_wI, hS_wI, eq_self, and_true, true_and, and_false, false_and, or_true, true_or, or_false, false_or, if_true, if_false, not_true_eq_false, not_false_eq_true, forall_const, implies_true, false_implies, true_implies, Option.some.injEq, forall_eq', exists_eq_left', reduceCtorEq, Nat.reduceEqDiff, c1, T_X12_in, T_X12_ones, T_X11_within, T_X11_bit, T_X11_isIn, T_X11_oneIfIn, T_J6_bitCount_0f7a4, sh_bt (hI h 12 5) (show r' < 32 by omega), b2i_0, Classical.not_not]
      refine ⟨fun c3 => ⟨fun c4 => h77 c1 c2 (Or.inr c4), fun c4 => hq0 (fun w => ?_)⟩, fun c3 => h77 c1 c2 (Or.inl (by simpa using c3))⟩
      rcases w.2.2.1 with y | y
      · rw [c3] at y; cases y
      · exact c4 y
    have h30 : ∀ v, v = cpX (hI h) r' → c_X4_suits_30 Q [some (.ref 33), some (.int (nI r')), some (.int g), some (.ref 12), some (.ref 16)] [.int v, .int (nI (pct g))] h := by
      intro v hv
      simp only [c_X4_suits_30, lx_pI, lx_wI, lx_t hl, lx_k hl, lx_r hl, lx_l hl, i_push, i_ild, i_ald, i_ist, i_ast, i_inc, i_bin, i_un, i_divs, i_i2l, i_lshl, i_lor, i_dup, i_dup2, i_pop, i_if, i_cmp, i_nul, i_vret, i_iret, i_zret, i_aret, i_keep, keep, lget, lset, ent, i_getI, i_getJ, i_getR, i_getN, i_putI, i_putZ, i_putJ, i_putR, i_iald, i_bald, i_alen, i_aald, i_iast, i_bast, i_aast, i_new, i_newa, i_anew, i_oini, i_callS, i_callV, i_callI, popn, sh4, i_sw, swP, i_copy, i_binS, List.map, Option.toList_none, Option.toList_some, List.append, List.nil_append, List.cons_append, List.length_cons, List.length_nil, List.replicate, Nat.sub_self, Nat.reduceSub, Nat.reduceAdd, hK_pI, hL_pI, hI_pI, hR_pI, hJ_pI, hT_pI, hS_pI, hK_pR, hL_pR, hI_pR, hR_pR, hJ_pR, hT_pR, hS_pR, hK_pJ, hL_pJ, hI_pJ, hR_pJ, hJ_pJ, hT_pJ, hS_pJ, hK_wI, hL_wI, hI_wI, hR_wI, hJ_wI, hT_wI, hS_wI, eq_self, and_true, true_and, and_false, false_and, or_true, true_or, or_false, false_or, if_true, if_false, not_true_eq_false, not_false_eq_true, forall_const, implies_true, false_implies, true_implies, Option.some.injEq, forall_eq', exists_eq_left', reduceCtorEq, Nat.reduceEqDiff, c1, T_X12_in, T_X12_ones, T_X11_within, T_X11_bit, T_X11_isIn, T_X11_oneIfIn, T_J6_bitCount_0f7a4, sh_bt (hI h 12 4) (show r' < 32 by omega), b2i_0, Classical.not_not]
      refine ⟨fun c => hq0 (fun w => absurd (hv ▸ w.1) (Int32.not_le.mpr c)), fun c => ?_⟩
      have c1 : nI (pct g) ≤ cpX (hI h) r' := by rw [← hv]; exact Int32.not_lt.mp c
      refine ⟨fun c2 => h56 c1 (fun z => by rw [c2] at z; cases z), fun c2 => ⟨fun c3 => h56 c1 (fun _ => c3), fun c3 => hq0 (fun w => c3 (w.2.1 (by simpa using c2)))⟩⟩
    have hc30 : T_X6_places [.ref 12, .int (nI r'), .int (hI h 33 1)] h (fun r h' => c_X4_suits_30 Q [some (.ref 33), some (.int (nI r')), some (.int g), some (.ref 12), some (.ref 16)] (r.toList ++ [.int (nI (pct g))]) h') := by
      unfold T_X6_places
      simp only [b_X6_places_0, lx_pI, lx_wI, lx_t hl, lx_k hl, lx_r hl, lx_l hl, i_push, i_ild, i_ald, i_ist, i_ast, i_inc, i_bin, i_un, i_divs, i_i2l, i_lshl, i_lor, i_dup, i_dup2, i_pop, i_if, i_cmp, i_nul, i_vret, i_iret, i_zret, i_aret, i_keep, keep, lget, lset, ent, i_getI, i_getJ, i_getR, i_getN, i_putI, i_putZ, i_putJ, i_putR, i_iald, i_bald, i_alen, i_aald, i_iast, i_bast, i_aast, i_new, i_newa, i_anew, i_oini, i_callS, i_callV, i_callI, popn, sh4, i_sw, swP, i_copy, i_binS, List.map, Option.toList_none, Option.toList_some, List.append, List.nil_append, List.cons_append, List.length_cons, List.length_nil, List.replicate, Nat.sub_self, Nat.reduceSub, Nat.reduceAdd, hK_pI, hL_pI, hI_pI, hR_pI, hJ_pI, hT_pI, hS_pI, hK_pR, hL_pR, hI_pR, hR_pR, hJ_pR, hT_pR, hS_pR, hK_pJ, hL_pJ, hI_pJ, hR_pJ, hJ_pJ, hT_pJ, hS_pJ, hK_wI, hL_wI, hI_wI, hR_wI, hJ_wI, hT_wI, hS_wI, eq_self, and_true, true_and, and_false, false_and, or_true, true_or, or_false, false_or, if_true, if_false, not_true_eq_false, not_false_eq_true, forall_const, implies_true, false_implies, true_implies, Option.some.injEq, forall_eq', exists_eq_left', reduceCtorEq, Nat.reduceEqDiff, c1, T_X12_in, T_X12_ones, T_X11_within, T_X11_bit, T_X11_isIn, T_X11_oneIfIn, T_J6_bitCount_0f7a4, cl_nI (show r' < 2147483648 by omega), in_nI (show r' < 4 by omega) (by decide)]
      exact ⟨fun c => h30 _ (by unfold cpX; rw [if_pos c]), fun c => h30 _ (by unfold cpX; rw [if_neg c])⟩
    simp only [MX4_suits, b_X4_suits_0, lx_pI, lx_wI, lx_t hl, lx_k hl, lx_r hl, lx_l hl, i_push, i_ild, i_ald, i_ist, i_ast, i_inc, i_bin, i_un, i_divs, i_i2l, i_lshl, i_lor, i_dup, i_dup2, i_pop, i_if, i_cmp, i_nul, i_vret, i_iret, i_zret, i_aret, i_keep, keep, lget, lset, ent, i_getI, i_getJ, i_getR, i_getN, i_putI, i_putZ, i_putJ, i_putR, i_iald, i_bald, i_alen, i_aald, i_iast, i_bast, i_aast, i_new, i_newa, i_anew, i_oini, i_callS, i_callV, i_callI, popn, sh4, i_sw, swP, i_copy, i_binS, List.map, Option.toList_none, Option.toList_some, List.append, List.nil_append, List.cons_append, List.length_cons, List.length_nil, List.replicate, Nat.sub_self, Nat.reduceSub, Nat.reduceAdd, hK_pI, hL_pI, hI_pI, hR_pI, hJ_pI, hT_pI, hS_pI, hK_pR, hL_pR, hI_pR, hR_pR, hJ_pR, hT_pR, hS_pR, hK_pJ, hL_pJ, hI_pJ, hR_pJ, hJ_pJ, hT_pJ, hS_pJ, hK_wI, hL_wI, hI_wI, hR_wI, hJ_wI, hT_wI, hS_wI, eq_self, and_true, true_and, and_false, false_and, or_true, true_or, or_false, false_or, if_true, if_false, not_true_eq_false, not_false_eq_true, forall_const, implies_true, false_implies, true_implies, Option.some.injEq, forall_eq', exists_eq_left', reduceCtorEq, Nat.reduceEqDiff, c1, T_X12_in, T_X12_ones, T_X11_within, T_X11_bit, T_X11_isIn, T_X11_oneIfIn, T_J6_bitCount_0f7a4, hst]
    exact hc30
  · exact hT.elim
/-- the rooms that would take a party if all were empty -/
noncomputable def rfS (I : Mem) (g : Int32) (P : Nat) : Nat → Int32
  | 0 => 0
  | r + 1 => rfS I g P r ||| cif (suF I r g P) (bitI r) 0
theorem b_rfS (I : Mem) (g : Int32) (P i : Nat) : ∀ R, R ≤ 32 → (bt (rfS I g P R) i = true ↔ i < R ∧ suF I i g P)
  | 0, _ => by
    rw [rfS, b_0]
    exact ⟨fun z => (by cases z), fun z => absurd z.1 (Nat.not_lt_zero _)⟩
  | R + 1, hR => by
    rw [rfS, b_or, Bool.or_eq_true, b_rfS I g P i R (by omega)]
    rcases Classical.em (suF I R g P) with c | c
    · rw [cif_t c]
      constructor
      · rintro (z | z)
        · exact ⟨by omega, z.2⟩
        · by_cases hi : i < 32
          · rw [b_bitI (by omega) hi] at z
            have : i = R := by simpa using z
            subst this; exact ⟨by omega, c⟩
          · rw [b_big (by omega)] at z; cases z
      · rintro ⟨a, b⟩
        by_cases e : i = R
        · right; rw [b_bitI (by omega) (by omega), e]; simp
        · exact Or.inl ⟨by omega, b⟩
    · rw [cif_f c, b_0]
      constructor
      · rintro (z | z)
        · exact ⟨by omega, z.2⟩
        · cases z
      · rintro ⟨a, b⟩
        by_cases e : i = R
        · subst e; exact absurd b c
        · exact Or.inl ⟨by omega, b⟩
noncomputable def rfF (I : Mem) (g : Int32) (R P : Nat) : Int32 := cif (ilF I g P = -1 ∨ ¬ foS I g P &&& g = 0) 0 (rfS I g P R)
def T_X4_roomsFor : Tr := fun av h Q => match av with
  | [.ref o, .int g] => o = 33 ∧ LayX h ∧ hR h 33 0 = some 3 ∧ ∃ R P, R ≤ 4 ∧ hI h 12 0 = nI R ∧ P ≤ 24 ∧ hI h 16 0 = nI P ∧ ilOk (hI h) P ∧ Q (some (.int (rfF (hI h) g R P))) h
  | _ => False
def L_X4_roomsFor : List UInt8 := [42, 27, 182, 0, 69, 2, 159, 0, 13, 42, 27, 182, 0, 73, 27, 126, 153, 0, 5, 3, 172, 3, 61, 3, 62, 29, 42, 180, 0, 43, 180, 0, 55, 180, 0, 61, 162, 0, 29, 28, 42, 29, 27, 182, 0, 76, 153, 0, 10, 29, 184, 0, 80, 167, 0, 4, 3, 128, 61, 132, 3, 1, 167, 255, 219, 28, 172]
theorem Lc_X4_roomsFor : MX4_roomsFor.2.1 = ⟨L_X4_roomsFor.toArray⟩ := rfl
theorem D_X4_roomsFor_0 : dseq MX4_roomsFor.2.1 0 [(.aload_n 0, 1), (.iload_n 1, 1), (.invokevirtual 69, 3), (.iconst (-1), 1), (.if_icmp .eq 13, 3), (.aload_n 0, 1), (.iload_n 1, 1), (.invokevirtual 73, 3), (.iload_n 1, 1), (.iand, 1), (.ifCond .eq 5, 3), (.iconst 0, 1), (.ireturn, 1)] := dq Lc_X4_roomsFor 0 _ (by decide +kernel)
theorem D_X4_roomsFor_19 : dseq MX4_roomsFor.2.1 19 [(.iconst 0, 1), (.ireturn, 1)] := dq Lc_X4_roomsFor 19 _ (by decide +kernel)
theorem D_X4_roomsFor_21 : dseq MX4_roomsFor.2.1 21 [(.iconst 0, 1), (.istore_n 2, 1), (.iconst 0, 1), (.istore_n 3, 1)] := dq Lc_X4_roomsFor 21 _ (by decide +kernel)
theorem D_X4_roomsFor_25 : dseq MX4_roomsFor.2.1 25 [(.iload_n 3, 1), (.aload_n 0, 1), (.getfield 43, 3), (.getfield 55, 3), (.getfield 61, 3), (.if_icmp .ge 29, 3), (.iload_n 2, 1), (.aload_n 0, 1), (.iload_n 3, 1), (.iload_n 1, 1), (.invokevirtual 76, 3), (.ifCond .eq 10, 3), (.iload_n 3, 1), (.invokestatic 80, 3), (.goto 4, 3)] := dq Lc_X4_roomsFor 25 _ (by decide +kernel)
theorem D_X4_roomsFor_65 : dseq MX4_roomsFor.2.1 65 [(.iload_n 2, 1), (.ireturn, 1)] := dq Lc_X4_roomsFor 65 _ (by decide +kernel)
theorem D_X4_roomsFor_56 : dseq MX4_roomsFor.2.1 56 [(.iconst 0, 1)] := dq Lc_X4_roomsFor 56 _ (by decide +kernel)
theorem D_X4_roomsFor_57 : dseq MX4_roomsFor.2.1 57 [(.ior, 1), (.istore_n 2, 1), (.iinc 3 1, 3), (.goto (-37), 3)] := dq Lc_X4_roomsFor 57 _ (by decide +kernel)
def c_X4_roomsFor_14 (Q : Option Value → Hp → Prop) : Kt := i_ild 1 (i_bin (fun x y => x &&& y) (i_if (fun x => x = 0) (i_push (.int 0) (i_ist 2 (i_push (.int 0) (i_ist 3 (i_keep [true, true, true, true] (wp 3 MX4_roomsFor Q 25)))))) (i_push (.int 0) (i_iret Q))))
def c_X4_roomsFor_5 (Q : Option Value → Hp → Prop) : Kt := i_push (.int (-1)) (i_cmp (fun x y => x = y) (i_push (.int 0) (i_iret Q)) (i_ald 0 (i_ild 1 (i_callV 4 1 T_X4_foesOf (c_X4_roomsFor_14 Q)))))
def c_X4_roomsFor_46 (Q : Option Value → Hp → Prop) : Kt := i_if (fun x => x = 0) (i_push (.int 0) (i_keep [true, true, false, true] (wp 3 MX4_roomsFor Q 57))) (i_ild 3 (i_callS 1 T_X11_bit (i_keep [true, true, false, true] (wp 3 MX4_roomsFor Q 57))))
def b_X4_roomsFor_0 (Q : Option Value → Hp → Prop) : Kt := i_ald 0 (i_ild 1 (i_callV 4 1 T_X4_illOf (c_X4_roomsFor_5 Q)))
set_option maxRecDepth 100000 in
theorem s_X4_roomsFor_0 (Q : Option Value → Hp → Prop) : ∀ A st h, b_X4_roomsFor_0 Q A st h → wp 3 MX4_roomsFor Q 0 A st h := (q1 (s_aldn (n := 0) (i := 0) rfl) D_X4_roomsFor_0 fun D => (q1 (s_ildn (n := 1) (i := 1) rfl) D fun D => (qX (s_callV kX4 rfl ok_X4_illOf mo_X4_illOf (ch_4_2_ok.2.2.2.2.2.2.2.2.2.2.2.2.2.2.1.1 rfl) (ch_4_3_ok.1.1 rfl) (pv_1.2.2.2.2.1)) rfl (by decide) D fun D => (q1 (s_iconst (n := (-1)) (v := (-1)) (by decide)) D fun D => (qB s_cmpeq 19 (by decide) D (q1 (s_iconst (n := 0) (v := 0) (by decide)) D_X4_roomsFor_19 fun D => (qI rfl D)) fun D => (q1 (s_aldn (n := 0) (i := 0) rfl) D fun D => (q1 (s_ildn (n := 1) (i := 1) rfl) D fun D => (qX (s_callV kX4 rfl ok_X4_foesOf mo_X4_foesOf (ch_4_3_ok.2.2.2.1.1 rfl) (ch_4_3_ok.2.2.2.2.2.1.1 rfl) (pv_1.2.2.2.2.2.1)) rfl (by decide) D fun D => (q1 (s_ildn (n := 1) (i := 1) rfl) D fun D => (q1 s_and D fun D => (qB s_ifeq 21 (by decide) D (q1 (s_iconst (n := 0) (v := 0) (by decide)) D_X4_roomsFor_21 fun D => (qL (s_istn (n := 2) (i := 2) rfl) (by decide) D fun D => (q1 (s_iconst (n := 0) (v := 0) (by decide)) D fun D => (qL (s_istn (n := 3) (i := 3) rfl) (by decide) D fun D => (s_keep [true, true, true, true] fun _ _ _ h => h))))) fun D => (q1 (s_iconst (n := 0) (v := 0) (by decide)) D fun D => (qI rfl D)))))))))))))
def b_X4_roomsFor_25 (Q : Option Value → Hp → Prop) : Kt := i_ild 3 (i_ald 0 (i_getR 4 0 (i_getR 8 0 (i_getI 6 0 (i_cmp (fun x y => y ≤ x) (i_ild 2 (i_iret Q)) (i_ild 2 (i_ald 0 (i_ild 3 (i_ild 1 (i_callV 4 2 T_X4_suits (c_X4_roomsFor_46 Q)))))))))))
set_option maxRecDepth 100000 in
theorem s_X4_roomsFor_25 (Q : Option Value → Hp → Prop) : ∀ A st h, b_X4_roomsFor_25 Q A st h → wp 3 MX4_roomsFor Q 25 A st h := (q1 (s_ildn (n := 3) (i := 3) rfl) D_X4_roomsFor_25 fun D => (q1 (s_aldn (n := 0) (i := 0) rfl) D fun D => (qC fl_X4_43 rfl D fun D => (qC fl_X4_55 rfl D fun D => (qC fl_X4_61 rfl D fun D => (qB s_cmpge 65 (by decide) D (q1 (s_ildn (n := 2) (i := 2) rfl) D_X4_roomsFor_65 fun D => (qI rfl D)) fun D => (q1 (s_ildn (n := 2) (i := 2) rfl) D fun D => (q1 (s_aldn (n := 0) (i := 0) rfl) D fun D => (q1 (s_ildn (n := 3) (i := 3) rfl) D fun D => (q1 (s_ildn (n := 1) (i := 1) rfl) D fun D => (qX (s_callV kX4 rfl ok_X4_suits mo_X4_suits (ch_4_3_ok.2.2.2.2.2.2.2.1.1 rfl) (ch_4_3_ok.2.2.2.2.2.2.2.2.2.1.1 rfl) (pv_1.2.2.2.2.2.2.1)) rfl (by decide) D fun D => (qB s_ifeq 56 (by decide) D (q1 (s_iconst (n := 0) (v := 0) (by decide)) D_X4_roomsFor_56 fun D => (s_keep [true, true, false, true] fun _ _ _ h => h)) fun D => (q1 (s_ildn (n := 3) (i := 3) rfl) D fun D => (qX (s_callSN ok_X11_bit mo_X11_bit (ch_4_4_ok.1.2 rfl) (ch_3_5_ok.2.2.2.2.2.2.2.2.2.2.2.2.1.1 rfl)) rfl (by decide) D fun D => (qG 57 (by decide) D (s_keep [true, true, false, true] fun _ _ _ h => h))))))))))))))))
def b_X4_roomsFor_57 (Q : Option Value → Hp → Prop) : Kt := i_bin (fun x y => x ||| y) (i_ist 2 (i_inc 3 1 (i_keep [true, true, true, true] (wp 3 MX4_roomsFor Q 25))))
set_option maxRecDepth 100000 in
theorem s_X4_roomsFor_57 (Q : Option Value → Hp → Prop) : ∀ A st h, b_X4_roomsFor_57 Q A st h → wp 3 MX4_roomsFor Q 57 A st h := (q1 s_or D_X4_roomsFor_57 fun D => (qL (s_istn (n := 2) (i := 2) rfl) (by decide) D fun D => (qL (s_inc (i := 3) (n := 1) (v := 1) (by decide)) (by decide) D fun D => (qG 25 (by decide) D (s_keep [true, true, true, true] fun _ _ _ h => h)))))

set_option maxRecDepth 100000 in
set_option maxHeartbeats 400000 in
theorem rf_25 (Q : Option Value → Hp → Prop) (h : Hp) (hl : LayX h) (hst : hR h 33 0 = some 3) (g : Int32) (R P : Nat) (hR4 : R ≤ 4) (h12 : hI h 12 0 = nI R) (hP : P ≤ 24) (h16 : hI h 16 0 = nI P) (hq : Q (some (.int (rfS (hI h) g P R))) h) :
    ∀ (m r : Nat), m = R - r → r ≤ R → wp 3 MX4_roomsFor Q 25 [some (.ref 33), some (.int g), some (.int (rfS (hI h) g P r)), some (.int (nI r))] [] h := by
  intro m
  induction m with
  | zero =>
    intro r hm hr
    have e : r = R := by omega
    subst e
    refine s_X4_roomsFor_25 Q _ _ _ ?_
    generalize rfS (hI h) g P r = X at hq ⊢
    simp only [b_X4_roomsFor_25, lx_pI, lx_wI, lx_t hl, lx_k hl, lx_r hl, lx_l hl, i_push, i_ild, i_ald, i_ist, i_ast, i_inc, i_bin, i_un, i_divs, i_i2l, i_lshl, i_lor, i_dup, i_dup2, i_pop, i_if, i_cmp, i_nul, i_vret, i_iret, i_zret, i_aret, i_keep, keep, lget, lset, ent, i_getI, i_getJ, i_getR, i_getN, i_putI, i_putZ, i_putJ, i_putR, i_iald, i_bald, i_alen, i_aald, i_iast, i_bast, i_aast, i_new, i_newa, i_anew, i_oini, i_callS, i_callV, i_callI, popn, sh4, i_sw, swP, i_copy, i_binS, List.map, Option.toList_none, Option.toList_some, List.append, List.nil_append, List.cons_append, List.length_cons, List.length_nil, List.replicate, Nat.sub_self, Nat.reduceSub, Nat.reduceAdd, hK_pI, hL_pI, hI_pI, hR_pI, hJ_pI, hT_pI, hS_pI, hK_pR, hL_pR, hI_pR, hR_pR, hJ_pR, hT_pR, hS_pR, hK_pJ, hL_pJ, hI_pJ, hR_pJ, hJ_pJ, hT_pJ, hS_pJ, hK_wI, hL_wI, hI_wI, hR_wI, hJ_wI, hT_wI, hS_wI, eq_self, and_true, true_and, and_false, false_and, or_true, true_or, or_false, false_or, if_true, if_false, not_true_eq_false, not_false_eq_true, forall_const, implies_true, false_implies, true_implies, Option.some.injEq, forall_eq', exists_eq_left', reduceCtorEq, Nat.reduceEqDiff, c1, T_X12_in, T_X12_ones, T_X11_within, T_X11_bit, T_X11_isIn, T_X11_oneIfIn, T_J6_bitCount_0f7a4, hst, h12]
    exact ⟨fun _ => hq, fun c => absurd (nI_le (Nat.le_refl _) (by omega)) c⟩
  | succ m ih =>
    intro r hm hr
    have hgo := ih (r + 1) (by omega) (by omega)
    have h57 : ∀ v, v = cif (suF (hI h) r g P) (bitI r) 0 → wp 3 MX4_roomsFor Q 57 [some (.ref 33), some (.int g), none, some (.int (nI r))] [.int v, .int (rfS (hI h) g P r)] h := by
      intro v hv
      rw [rfS, ← hv] at hgo
      refine s_X4_roomsFor_57 Q _ _ _ ?_
      generalize rfS (hI h) g P r = X at hgo ⊢
      simp only [b_X4_roomsFor_57, i_push, i_ild, i_ald, i_ist, i_ast, i_inc, i_bin, i_un, i_divs, i_i2l, i_lshl, i_lor, i_dup, i_dup2, i_pop, i_if, i_cmp, i_nul, i_vret, i_iret, i_zret, i_aret, i_keep, keep, lget, lset, ent, i_getI, i_getJ, i_getR, i_getN, i_putI, i_putZ, i_putJ, i_putR, i_iald, i_bald, i_alen, i_aald, i_iast, i_bast, i_aast, i_new, i_newa, i_anew, i_oini, i_callS, i_callV, i_callI, popn, sh4, i_sw, swP, i_copy, i_binS, List.map, Option.toList_none, Option.toList_some, List.append, List.nil_append, List.cons_append, List.length_cons, List.length_nil, List.replicate, Nat.sub_self, Nat.reduceSub, Nat.reduceAdd, hK_pI, hL_pI, hI_pI, hR_pI, hJ_pI, hT_pI, hS_pI, hK_pR, hL_pR, hI_pR, hR_pR, hJ_pR, hT_pR, hS_pR, hK_pJ, hL_pJ, hI_pJ, hR_pJ, hJ_pJ, hT_pJ, hS_pJ, hK_wI, hL_wI, hI_wI, hR_wI, hJ_wI, hT_wI, hS_wI, eq_self, and_true, true_and, and_false, false_and, or_true, true_or, or_false, false_or, if_true, if_false, not_true_eq_false, not_false_eq_true, forall_const, implies_true, false_implies, true_implies, Option.some.injEq, forall_eq', exists_eq_left', reduceCtorEq, Nat.reduceEqDiff, c1, T_X12_in, T_X12_ones, T_X11_within, T_X11_bit, T_X11_isIn, T_X11_oneIfIn, T_J6_bitCount_0f7a4, nI_1]
      exact hgo
    have hc : T_X4_suits [.ref 33, .int (nI r), .int g] h (fun x h' => c_X4_roomsFor_46 Q [some (.ref 33), some (.int g), some (.int (rfS (hI h) g P r)), some (.int (nI r))] (x.toList ++ [.int (rfS (hI h) g P r)]) h') := by
      refine ⟨rfl, hl, hst, P, r, hP, h16, rfl, by omega, fun z => ?_, fun z => ?_⟩
      · have := h57 (bitI r) (by rw [cif_t z])
        show c_X4_roomsFor_46 Q _ [.int 1, .int (rfS (hI h) g P r)] h
        generalize rfS (hI h) g P r = X at this ⊢
        simp only [c_X4_roomsFor_46, i_push, i_ild, i_ald, i_ist, i_ast, i_inc, i_bin, i_un, i_divs, i_i2l, i_lshl, i_lor, i_dup, i_dup2, i_pop, i_if, i_cmp, i_nul, i_vret, i_iret, i_zret, i_aret, i_keep, keep, lget, lset, ent, i_getI, i_getJ, i_getR, i_getN, i_putI, i_putZ, i_putJ, i_putR, i_iald, i_bald, i_alen, i_aald, i_iast, i_bast, i_aast, i_new, i_newa, i_anew, i_oini, i_callS, i_callV, i_callI, popn, sh4, i_sw, swP, i_copy, i_binS, List.map, Option.toList_none, Option.toList_some, List.append, List.nil_append, List.cons_append, List.length_cons, List.length_nil, List.replicate, Nat.sub_self, Nat.reduceSub, Nat.reduceAdd, hK_pI, hL_pI, hI_pI, hR_pI, hJ_pI, hT_pI, hS_pI, hK_pR, hL_pR, hI_pR, hR_pR, hJ_pR, hT_pR, hS_pR, hK_pJ, hL_pJ, hI_pJ, hR_pJ, hJ_pJ, hT_pJ, hS_pJ, hK_wI, hL_wI, hI_wI, hR_wI, hJ_wI, hT_wI, hS_wI, eq_self, and_true, true_and, and_false, false_and, or_true, true_or, or_false, false_or, if_true, if_false, not_true_eq_false, not_false_eq_true, forall_const, implies_true, false_implies, true_implies, Option.some.injEq, forall_eq', exists_eq_left', reduceCtorEq, Nat.reduceEqDiff, c1, T_X12_in, T_X12_ones, T_X11_within, T_X11_bit, T_X11_isIn, T_X11_oneIfIn, T_J6_bitCount_0f7a4, show ¬ (1 : Int32) = 0 by decide]
        exact this
      · have := h57 0 (by rw [cif_f z])
        show c_X4_roomsFor_46 Q _ [.int 0, .int (rfS (hI h) g P r)] h
        generalize rfS (hI h) g P r = X at this ⊢
        simp only [c_X4_roomsFor_46, i_push, i_ild, i_ald, i_ist, i_ast, i_inc, i_bin, i_un, i_divs, i_i2l, i_lshl, i_lor, i_dup, i_dup2, i_pop, i_if, i_cmp, i_nul, i_vret, i_iret, i_zret, i_aret, i_keep, keep, lget, lset, ent, i_getI, i_getJ, i_getR, i_getN, i_putI, i_putZ, i_putJ, i_putR, i_iald, i_bald, i_alen, i_aald, i_iast, i_bast, i_aast, i_new, i_newa, i_anew, i_oini, i_callS, i_callV, i_callI, popn, sh4, i_sw, swP, i_copy, i_binS, List.map, Option.toList_none, Option.toList_some, List.append, List.nil_append, List.cons_append, List.length_cons, List.length_nil, List.replicate, Nat.sub_self, Nat.reduceSub, Nat.reduceAdd, hK_pI, hL_pI, hI_pI, hR_pI, hJ_pI, hT_pI, hS_pI, hK_pR, hL_pR, hI_pR, hR_pR, hJ_pR, hT_pR, hS_pR, hK_pJ, hL_pJ, hI_pJ, hR_pJ, hJ_pJ, hT_pJ, hS_pJ, hK_wI, hL_wI, hI_wI, hR_wI, hJ_wI, hT_wI, hS_wI, eq_self, and_true, true_and, and_false, false_and, or_true, true_or, or_false, false_or, if_true, if_false, not_true_eq_false, not_false_eq_true, forall_const, implies_true, false_implies, true_implies, Option.some.injEq, forall_eq', exists_eq_left', reduceCtorEq, Nat.reduceEqDiff, c1, T_X12_in, T_X12_ones, T_X11_within, T_X11_bit, T_X11_isIn, T_X11_oneIfIn, T_J6_bitCount_0f7a4]
        exact this
    refine s_X4_roomsFor_25 Q _ _ _ ?_
    generalize rfS (hI h) g P r = X at hc ⊢
    simp only [b_X4_roomsFor_25, lx_pI, lx_wI, lx_t hl, lx_k hl, lx_r hl, lx_l hl, i_push, i_ild, i_ald, i_ist, i_ast, i_inc, i_bin, i_un, i_divs, i_i2l, i_lshl, i_lor, i_dup, i_dup2, i_pop, i_if, i_cmp, i_nul, i_vret, i_iret, i_zret, i_aret, i_keep, keep, lget, lset, ent, i_getI, i_getJ, i_getR, i_getN, i_putI, i_putZ, i_putJ, i_putR, i_iald, i_bald, i_alen, i_aald, i_iast, i_bast, i_aast, i_new, i_newa, i_anew, i_oini, i_callS, i_callV, i_callI, popn, sh4, i_sw, swP, i_copy, i_binS, List.map, Option.toList_none, Option.toList_some, List.append, List.nil_append, List.cons_append, List.length_cons, List.length_nil, List.replicate, Nat.sub_self, Nat.reduceSub, Nat.reduceAdd, hK_pI, hL_pI, hI_pI, hR_pI, hJ_pI, hT_pI, hS_pI, hK_pR, hL_pR, hI_pR, hR_pR, hJ_pR, hT_pR, hS_pR, hK_pJ, hL_pJ, hI_pJ, hR_pJ, hJ_pJ, hT_pJ, hS_pJ, hK_wI, hL_wI, hI_wI, hR_wI, hJ_wI, hT_wI, hS_wI, eq_self, and_true, true_and, and_false, false_and, or_true, true_or, or_false, false_or, if_true, if_false, not_true_eq_false, not_false_eq_true, forall_const, implies_true, false_implies, true_implies, Option.some.injEq, forall_eq', exists_eq_left', reduceCtorEq, Nat.reduceEqDiff, c1, T_X12_in, T_X12_ones, T_X11_within, T_X11_bit, T_X11_isIn, T_X11_oneIfIn, T_J6_bitCount_0f7a4, hst, h12]
    exact ⟨fun c => absurd c (nI_ge (by omega) (by omega)), fun _ => hc⟩
set_option maxRecDepth 100000 in
set_option maxHeartbeats 4000000 in
theorem ok_X4_roomsFor : ctr 3 MX4_roomsFor T_X4_roomsFor := by
  refine ctr_of pn_X4 wc_X4_roomsFor (fun av h Q hT => ?_)
  unfold T_X4_roomsFor at hT
  split at hT
  · rename_i o g
    refine ⟨⟨by simp [Value.category], Nat.le_of_ble_eq_true rfl⟩, s_X4_roomsFor_0 Q _ _ _ ?_⟩
    obtain ⟨rfl, hl, hst, R, P, hR4, h12, hP, h16, hk, hq⟩ := hT
    have hc14 : ¬ ilF (hI h) g P = -1 → T_X4_foesOf [.ref 33, .int g] h (fun x h' => c_X4_roomsFor_14 Q [some (.ref 33), some (.int g), none, none] (x.toList ++ []) h') := by
      intro c1
      refine ⟨rfl, hl, hst, P, hP, h16, ?_⟩
      show c_X4_roomsFor_14 Q _ [.int (foS (hI h) g P)] h
      have h0 : ¬ foS (hI h) g P &&& g = 0 → Q (some (.int 0)) h := fun z => by unfold rfF at hq; rw [cif_t (Or.inr z)] at hq; exact hq
      have h1 : foS (hI h) g P &&& g = 0 → wp 3 MX4_roomsFor Q 25 [some (.ref 33), some (.int g), some (.int 0), some (.int 0)] [] h := fun z => by
        unfold rfF at hq
        rw [cif_f (by rintro (y | y); exact c1 y; exact y z)] at hq
        exact rf_25 Q h hl hst g R P hR4 h12 hP h16 hq R 0 (by omega) (by omega)
      generalize foS (hI h) g P = X at h0 h1 ⊢
      simp only [c_X4_roomsFor_14, i_push, i_ild, i_ald, i_ist, i_ast, i_inc, i_bin, i_un, i_divs, i_i2l, i_lshl, i_lor, i_dup, i_dup2, i_pop, i_if, i_cmp, i_nul, i_vret, i_iret, i_zret, i_aret, i_keep, keep, lget, lset, ent, i_getI, i_getJ, i_getR, i_getN, i_putI, i_putZ, i_putJ, i_putR, i_iald, i_bald, i_alen, i_aald, i_iast, i_bast, i_aast, i_new, i_newa, i_anew, i_oini, i_callS, i_callV, i_callI, popn, sh4, i_sw, swP, i_copy, i_binS, List.map, Option.toList_none, Option.toList_some, List.append, List.nil_append, List.cons_append, List.length_cons, List.length_nil, List.replicate, Nat.sub_self, Nat.reduceSub, Nat.reduceAdd, hK_pI, hL_pI, hI_pI, hR_pI, hJ_pI, hT_pI, hS_pI, hK_pR, hL_pR, hI_pR, hR_pR, hJ_pR, hT_pR, hS_pR, hK_pJ, hL_pJ, hI_pJ, hR_pJ, hJ_pJ, hT_pJ, hS_pJ, hK_wI, hL_wI, hI_wI, hR_wI, hJ_wI, hT_wI, hS_wI, eq_self, and_true, true_and, and_false, false_and, or_true, true_or, or_false, false_or, if_true, if_false, not_true_eq_false, not_false_eq_true, forall_const, implies_true, false_implies, true_implies, Option.some.injEq, forall_eq', exists_eq_left', reduceCtorEq, Nat.reduceEqDiff, c1, T_X12_in, T_X12_ones, T_X11_within, T_X11_bit, T_X11_isIn, T_X11_oneIfIn, T_J6_bitCount_0f7a4]
      exact ⟨h1, h0⟩
    have hc5 : T_X4_illOf [.ref 33, .int g] h (fun x h' => c_X4_roomsFor_5 Q [some (.ref 33), some (.int g), none, none] (x.toList ++ []) h') := by
      refine ⟨rfl, hl, hst, P, hP, h16, hk, ?_⟩
      show c_X4_roomsFor_5 Q _ [.int (ilF (hI h) g P)] h
      have h0 : ilF (hI h) g P = -1 → Q (some (.int 0)) h := fun z => by unfold rfF at hq; rw [cif_t (Or.inl z)] at hq; exact hq
      generalize ilF (hI h) g P = X at h0 hc14 ⊢
      simp only [c_X4_roomsFor_5, lx_pI, lx_wI, lx_t hl, lx_k hl, lx_r hl, lx_l hl, i_push, i_ild, i_ald, i_ist, i_ast, i_inc, i_bin, i_un, i_divs, i_i2l, i_lshl, i_lor, i_dup, i_dup2, i_pop, i_if, i_cmp, i_nul, i_vret, i_iret, i_zret, i_aret, i_keep, keep, lget, lset, ent, i_getI, i_getJ, i_getR, i_getN, i_putI, i_putZ, i_putJ, i_putR, i_iald, i_bald, i_alen, i_aald, i_iast, i_bast, i_aast, i_new, i_newa, i_anew, i_oini, i_callS, i_callV, i_callI, popn, sh4, i_sw, swP, i_copy, i_binS, List.map, Option.toList_none, Option.toList_some, List.append, List.nil_append, List.cons_append, List.length_cons, List.length_nil, List.replicate, Nat.sub_self, Nat.reduceSub, Nat.reduceAdd, hK_pI, hL_pI, hI_pI, hR_pI, hJ_pI, hT_pI, hS_pI, hK_pR, hL_pR, hI_pR, hR_pR, hJ_pR, hT_pR, hS_pR, hK_pJ, hL_pJ, hI_pJ, hR_pJ, hJ_pJ, hT_pJ, hS_pJ, hK_wI, hL_wI, hI_wI, hR_wI, hJ_wI, hT_wI, hS_wI, eq_self, and_true, true_and, and_false, false_and, or_true, true_or, or_false, false_or, if_true, if_false, not_true_eq_false, not_false_eq_true, forall_const, implies_true, false_implies, true_implies, Option.some.injEq, forall_eq', exists_eq_left', reduceCtorEq, Nat.reduceEqDiff, c1, T_X12_in, T_X12_ones, T_X11_within, T_X11_bit, T_X11_isIn, T_X11_oneIfIn, T_J6_bitCount_0f7a4]
      exact ⟨h0, hc14⟩
    simp only [MX4_roomsFor, b_X4_roomsFor_0, lx_pI, lx_wI, lx_t hl, lx_k hl, lx_r hl, lx_l hl, i_push, i_ild, i_ald, i_ist, i_ast, i_inc, i_bin, i_un, i_divs, i_i2l, i_lshl, i_lor, i_dup, i_dup2, i_pop, i_if, i_cmp, i_nul, i_vret, i_iret, i_zret, i_aret, i_keep, keep, lget, lset, ent, i_getI, i_getJ, i_getR, i_getN, i_putI, i_putZ, i_putJ, i_putR, i_iald, i_bald, i_alen, i_aald, i_iast, i_bast, i_aast, i_new, i_newa, i_anew, i_oini, i_callS, i_callV, i_callI, popn, sh4, i_sw, swP, i_copy, i_binS, List.map, Option.toList_none, Option.toList_some, List.append, List.nil_append, List.cons_append, List.length_cons, List.length_nil, List.replicate, Nat.sub_self, Nat.reduceSub, Nat.reduceAdd, hK_pI, hL_pI, hI_pI, hR_pI, hJ_pI, hT_pI, hS_pI, hK_pR, hL_pR, hI_pR, hR_pR, hJ_pR, hT_pR, hS_pR, hK_pJ, hL_pJ, hI_pJ, hR_pJ, hJ_pJ, hT_pJ, hS_pJ, hK_wI, hL_wI, hI_wI, hR_wI, hJ_wI, hT_wI, hS_wI, eq_self, and_true, true_and, and_false, false_and, or_true, true_or, or_false, false_or, if_true, if_false, not_true_eq_false, not_false_eq_true, forall_const, implies_true, false_implies, true_implies, Option.some.injEq, forall_eq', exists_eq_left', reduceCtorEq, Nat.reduceEqDiff, c1, T_X12_in, T_X12_ones, T_X11_within, T_X11_bit, T_X11_isIn, T_X11_oneIfIn, T_J6_bitCount_0f7a4]
    exact hc5
  · exact hT.elim
