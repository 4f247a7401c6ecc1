/-! ===== the class: all TOKENS of the tape ===== -/
def TkD (f : Mem) (k : Nat) (B : Nat → Int32) (L N : Nat) : Prop := K B L N = 1 ∧ (∀ t, t < N → ¬ K B L t = 1) ∧ N ≤ L ∧ f k 5 = nI (N + 1) ∧ ∀ t, t ≤ N → f (k + 1) t = K B L t ∧ f (k + 2) t = nI (bgT B L t) ∧ (K B L t = 2 → f (k + 3) t = V B L t)
noncomputable def nxT (B : Nat → Int32) (L : Nat) : Nat → Nat
  | 0 => 0
  | i + 1 => tkE B L (bgT B L i)
theorem bgT_nx (B : Nat → Int32) (L i : Nat) : bgT B L i = kB B L (nxT B L i) := by cases i <;> rfl
theorem nxT_le (B : Nat → Int32) (L : Nat) : ∀ i, nxT B L i ≤ L
  | 0 => Nat.zero_le _
  | i + 1 => (tkE_le (bgT_le B L i)).2.1
def RA (f0 f : Mem) (k : Nat) (B : Nat → Int32) (L i : Nat) : Prop := (∀ t, t < i → ¬ K B L t = 1 ∧ f (k + 1) t = K B L t ∧ f (k + 2) t = nI (bgT B L t) ∧ (K B L t = 2 → f (k + 3) t = V B L t)) ∧ f k 1 = nI (nxT B L i) ∧ (∀ t, i ≤ t → t ≤ L → f (k + 3) t = 0) ∧ ∀ a j, a ≠ k → a ≠ k + 1 → a ≠ k + 2 → a ≠ k + 3 → f a j = f0 a j
def T_X10_readAll : Tr := fun av h Q => match av with
  | [.ref k] => LayX h ∧ ∃ B L, LayT h k L ∧ TpC (hI h) B L ∧ hI h k 1 = 0 ∧ (∀ i, i ≤ L → hI h (k + 3) i = 0) ∧ ∀ f N, TkD f k B L N → (∀ a j, a ≠ k → a ≠ k + 1 → a ≠ k + 2 → a ≠ k + 3 → f a j = hI h a j) → Q none (wI h f)
  | _ => False
def L_X10_readAll : List UInt8 := [3, 60, 27, 42, 180, 0, 21, 190, 162, 0, 54, 42, 182, 0, 31, 42, 180, 0, 25, 27, 42, 180, 0, 34, 79, 42, 180, 0, 21, 27, 42, 27, 182, 0, 37, 79, 42, 27, 4, 96, 181, 0, 41, 42, 180, 0, 21, 27, 46, 4, 160, 0, 6, 167, 0, 9, 132, 1, 1, 167, 255, 199, 177]
theorem Lc_X10_readAll : MX10_readAll.2.1 = ⟨L_X10_readAll.toArray⟩ := rfl
theorem D_X10_readAll_0 : dseq MX10_readAll.2.1 0 [(.iconst 0, 1), (.istore_n 1, 1)] := dq Lc_X10_readAll 0 _ (by decide +kernel)
theorem D_X10_readAll_2 : dseq MX10_readAll.2.1 2 [(.iload_n 1, 1), (.aload_n 0, 1), (.getfield 21, 3), (.arraylength, 1), (.if_icmp .ge 54, 3), (.aload_n 0, 1), (.invokevirtual 31, 3), (.aload_n 0, 1), (.getfield 25, 3), (.iload_n 1, 1), (.aload_n 0, 1), (.getfield 34, 3), (.iastore, 1), (.aload_n 0, 1), (.getfield 21, 3), (.iload_n 1, 1), (.aload_n 0, 1), (.iload_n 1, 1), (.invokevirtual 37, 3), (.iastore, 1), (.aload_n 0, 1), (.iload_n 1, 1), (.iconst 1, 1), (.iadd, 1), (.putfield 41, 3), (.aload_n 0, 1), (.getfield 21, 3), (.iload_n 1, 1), (.iaload, 1), (.iconst 1, 1), (.if_icmp .ne 6, 3), (.goto 9, 3)] := dq Lc_X10_readAll 2 _ (by decide +kernel)
theorem D_X10_readAll_62 : dseq MX10_readAll.2.1 62 [(.return_, 1)] := dq Lc_X10_readAll 62 _ (by decide +kernel)
theorem D_X10_readAll_56 : dseq MX10_readAll.2.1 56 [(.iinc 1 1, 3), (.goto (-57), 3)] := dq Lc_X10_readAll 56 _ (by decide +kernel)
def c_X10_readAll_35 (Q : Option Value → Hp → Prop) : Kt := i_iast (i_ald 0 (i_ild 1 (i_push (.int 1) (i_bin (fun x y => x + y) (i_putI 10 5 (i_ald 0 (i_getR 10 2 (i_ild 1 (i_iald (i_push (.int 1) (i_cmp (fun x y => x = y) (i_vret Q) (i_inc 1 1 (i_keep [true, true] (wp 8 MX10_readAll Q 2))))))))))))))
def c_X10_readAll_15 (Q : Option Value → Hp → Prop) : Kt := i_ald 0 (i_getR 10 3 (i_ild 1 (i_ald 0 (i_getI 10 1 (i_iast (i_ald 0 (i_getR 10 2 (i_ild 1 (i_ald 0 (i_ild 1 (i_callV 10 1 T_X10_readToken (c_X10_readAll_35 Q))))))))))))
def b_X10_readAll_0 (Q : Option Value → Hp → Prop) : Kt := i_push (.int 0) (i_ist 1 (i_keep [true, true] (wp 8 MX10_readAll Q 2)))
set_option maxRecDepth 100000 in
theorem s_X10_readAll_0 (Q : Option Value → Hp → Prop) : ∀ A st h, b_X10_readAll_0 Q A st h → wp 8 MX10_readAll Q 0 A st h := (q1 (s_iconst (n := 0) (v := 0) (by decide)) D_X10_readAll_0 fun D => (qL (s_istn (n := 1) (i := 1) rfl) (by decide) D fun D => (s_keep [true, true] fun _ _ _ h => h)))
def b_X10_readAll_2 (Q : Option Value → Hp → Prop) : Kt := i_ild 1 (i_ald 0 (i_getR 10 2 (i_alen (i_cmp (fun x y => y ≤ x) (i_vret Q) (i_ald 0 (i_callV 10 0 T_X10_skipBlanks (c_X10_readAll_15 Q)))))))
set_option maxRecDepth 100000 in
theorem s_X10_readAll_2 (Q : Option Value → Hp → Prop) : ∀ A st h, b_X10_readAll_2 Q A st h → wp 8 MX10_readAll Q 2 A st h := (q1 (s_ildn (n := 1) (i := 1) rfl) D_X10_readAll_2 fun D => (q1 (s_aldn (n := 0) (i := 0) rfl) D fun D => (qC fl_X10_21 rfl D fun D => (q1 s_alen D fun D => (qB s_cmpge 62 (by decide) D (qV rfl D_X10_readAll_62) fun D => (q1 (s_aldn (n := 0) (i := 0) rfl) D fun D => (qX (s_callV kX10 rfl ok_X10_skipBlanks mo_X10_skipBlanks (ch_2_8_ok.2.2.2.2.2.2.2.2.2.2.2.2.2.1.1 rfl) (ch_2_8_ok.2.2.2.2.2.2.2.2.2.2.2.2.2.2.2.1.1 rfl) (pv_0.1)) rfl (by decide) D fun D => (q1 (s_aldn (n := 0) (i := 0) rfl) D fun D => (qC fl_X10_25 rfl D fun D => (q1 (s_ildn (n := 1) (i := 1) rfl) D fun D => (q1 (s_aldn (n := 0) (i := 0) rfl) D fun D => (qC fl_X10_34 rfl D fun D => (q1 s_iast D fun D => (q1 (s_aldn (n := 0) (i := 0) rfl) D fun D => (qC fl_X10_21 rfl D fun D => (q1 (s_ildn (n := 1) (i := 1) rfl) D fun D => (q1 (s_aldn (n := 0) (i := 0) rfl) D fun D => (q1 (s_ildn (n := 1) (i := 1) rfl) D fun D => (qX (s_callV kX10 rfl ok_X10_readToken mo_X10_readToken (ch_2_9_ok.2.2.2.2.2.1.1 rfl) (ch_2_9_ok.2.2.2.2.2.2.2.1.1 rfl) (pv_0.2.2.1)) rfl (by decide) D fun D => (q1 s_iast D fun D => (q1 (s_aldn (n := 0) (i := 0) rfl) D fun D => (q1 (s_ildn (n := 1) (i := 1) rfl) D fun D => (q1 (s_iconst (n := 1) (v := 1) (by decide)) D fun D => (q1 s_add D fun D => (qP pl_X10_41 rfl (Or.inl rfl) D fun D => (q1 (s_aldn (n := 0) (i := 0) rfl) D fun D => (qC fl_X10_21 rfl D fun D => (q1 (s_ildn (n := 1) (i := 1) rfl) D fun D => (q1 s_iald D fun D => (q1 (s_iconst (n := 1) (v := 1) (by decide)) D fun D => (qBn s_cmpne2 56 (by decide) D (qL (s_inc (i := 1) (n := 1) (v := 1) (by decide)) (by decide) D_X10_readAll_56 fun D => (qG 2 (by decide) D (s_keep [true, true] fun _ _ _ h => h))) fun D => (qG 62 (by decide) D (qV rfl D_X10_readAll_62)))))))))))))))))))))))))))))))))

set_option maxRecDepth 100000 in
set_option maxHeartbeats 400000 in
theorem ra_2 (Q : Option Value → Hp → Prop) (h : Hp) (hl : LayX h) (k L : Nat) (hk : LayT h k L) (B : Nat → Int32) (ht : TpC (hI h) B L) (hq : ∀ f N, TkD f k B L N → (∀ a j, a ≠ k → a ≠ k + 1 → a ≠ k + 2 → a ≠ k + 3 → f a j = hI h a j) → Q none (wI h f)) :
    ∀ (m i : Nat) (f : Mem), m = L - i → i ≤ L → RA (hI h) f k B L i → wp 8 MX10_readAll Q 2 [some (.ref k), some (.int (nI i))] [] (wI h f) := by
  have hk90 := hk.1
  have hL := ht.1
  have hmain : ∀ (i : Nat) (f : Mem), i ≤ L → RA (hI h) f k B L i → (∀ f', i + 1 ≤ L → RA (hI h) f' k B L (i + 1) → wp 8 MX10_readAll Q 2 [some (.ref k), some (.int (nI (i + 1)))] [] (wI h f')) → wp 8 MX10_readAll Q 2 [some (.ref k), some (.int (nI i))] [] (wI h f) := by
    intro i f hi hra ih
    obtain ⟨r1, r2, r3, r4⟩ := hra
    have hbL := bgT_le B L i
    have hl2 : LayX (wI h f) := hl
    have hk2 : LayT (wI h f) k L := hk
    have ht2 : TpC (hI (wI h f)) B L := TpC_c (f := hI h) (funext fun j => r4 1 j (by omega) (by omega) (by omega) (by omega)) (funext fun j => r4 2 j (by omega) (by omega) (by omega) (by omega)) ht
    have h35 : ∀ f', (f' k 1 = nI (tkE B L (bgT B L i)) ∧ (Kd B L (bgT B L i) = 2 → f' (k + 3) i = tkV B L (bgT B L i)) ∧ ∀ a j, ¬ (a = k ∧ j = 1) → ¬ (a = k + 3 ∧ j = i) → f' a j = hI (pI (pI (wI h f) k 1 (nI (bgT B L i))) (k + 2) i (nI (bgT B L i))) a j) → c_X10_readAll_35 Q [some (.ref k), some (.int (nI i))] [.int (Kd B L (bgT B L i)), .int (nI i), .ref (k + 1)] (wI h f') := by
      intro f' hf'
      obtain ⟨g1, g2, g3⟩ := hf'
      have g3' : ∀ a j, ¬ (a = k ∧ j = 1) → ¬ (a = k + 3 ∧ j = i) → ¬ (a = k + 2 ∧ j = i) → f' a j = f a j := fun a j n1 n2 n3 => by
        rw [g3 a j n1 n2, hI_pI, if_neg n3, hI_pI, if_neg n1]; rfl
      have g4 : f' (k + 2) i = nI (bgT B L i) := by rw [g3 (k + 2) i (by omega) (by omega), hI_pI, if_pos ⟨rfl, rfl⟩]
      obtain ⟨f3, hf3⟩ : ∃ f3, f3 = u2 (u2 f' (k + 1) i (K B L i)) k 5 (nI (i + 1)) := ⟨_, rfl⟩
      have u1 : f3 (k + 1) i = K B L i := by rw [hf3, u2_ne (by omega), u2_eq]
      have uo : ∀ a j, ¬ (a = k + 1 ∧ j = i) → ¬ (a = k ∧ j = 5) → f3 a j = f' a j := fun a j n1 n2 => by rw [hf3, u2_ne n2, u2_ne n1]
      have all : ∀ t, t ≤ i → f3 (k + 1) t = K B L t ∧ f3 (k + 2) t = nI (bgT B L t) ∧ (K B L t = 2 → f3 (k + 3) t = V B L t) := fun t hti => by
        by_cases e : t = i
        · rw [e]
          refine ⟨u1, ?_, fun z => ?_⟩
          · rw [uo (k + 2) i (by omega) (by omega)]; exact g4
          · rw [uo (k + 3) i (by omega) (by omega)]; exact g2 z
        · obtain ⟨_, q1, q2, q3⟩ := r1 t (by omega)
          refine ⟨?_, ?_, fun z => ?_⟩
          · rw [uo (k + 1) t (by omega) (by omega), g3' (k + 1) t (by omega) (by omega) (by omega)]; exact q1
          · rw [uo (k + 2) t (by omega) (by omega), g3' (k + 2) t (by omega) (by omega) (by omega)]; exact q2
          · rw [uo (k + 3) t (by omega) (by omega), g3' (k + 3) t (by omega) (by omega) (by omega)]; exact q3 z
      have oth : ∀ a j, a ≠ k → a ≠ k + 1 → a ≠ k + 2 → a ≠ k + 3 → f3 a j = hI h a j := fun a j a1 a2 a3 a4 => by
        rw [uo a j (fun z => a2 z.1) (fun z => a1 z.1), g3' a j (fun z => a1 z.1) (fun z => a4 z.1) (fun z => a3 z.1), r4 a j a1 a2 a3 a4]
      have hend : K B L i = 1 → Q none (wI h f3) := fun z => by
        refine hq f3 i ⟨z, fun t ht2 => (r1 t ht2).1, hi, ?_, all⟩ oth
        rw [hf3, u2_eq]
      have hnext : ¬ K B L i = 1 → wp 8 MX10_readAll Q 2 [some (.ref k), some (.int (nI (i + 1)))] [] (wI h f3) := fun z => by
        refine ih f3 (K_bound B L i z) ⟨fun t ht2 => ?_, ?_, fun t t1 t2 => ?_, oth⟩
        · by_cases e : t = i
          · rw [e]; exact ⟨z, all i (Nat.le_refl _)⟩
          · exact ⟨(r1 t (by omega)).1, all t (by omega)⟩
        · rw [uo k 1 (by omega) (by omega)]; exact g1
        · rw [uo (k + 3) t (by omega) (by omega), g3' (k + 3) t (by omega) (by omega) (by omega)]; exact r3 t (by omega) t2
      have hH : wI h f3 = pI (pI (wI h f') (k + 1) i (K B L i)) k 5 (nI (i + 1)) := by rw [hf3]; rfl
      rw [hH] at hend hnext
      have hl3 : LayX (wI h f') := hl
      have hk3 : LayT (wI h f') k L := hk
      have nk : ¬ k + 1 = k := by omega
      have eK : Kd B L (bgT B L i) = K B L i := rfl
      rw [eK]
      generalize wI h f' = H at hl3 hk3 hend hnext ⊢
      generalize K B L i = X at hend hnext ⊢
      have hl := hl3
      have hf := hk3.f
      simp only [c_X10_readAll_35, lx_pI, lx_wI, lx_t hl, lx_k hl, lx_r hl, lx_l hl, i_push, i_ild, i_ald, i_ist, i_ast, i_inc, i_bin, i_un, i_divs, i_i2l, i_lshl, i_lor, i_dup, i_dup2, i_pop, i_if, i_cmp, i_nul, i_vret, i_iret, i_zret, i_aret, i_keep, keep, lget, lset, ent, i_getI, i_getJ, i_getR, i_getN, i_putI, i_putZ, i_putJ, i_putR, i_iald, i_bald, i_alen, i_aald, i_iast, i_bast, i_aast, i_new, i_newa, i_anew, i_oini, i_callS, i_callV, i_callI, popn, sh4, i_sw, swP, i_copy, i_binS, List.map, Option.toList_none, Option.toList_some, List.append, List.nil_append, List.cons_append, List.length_cons, List.length_nil, List.replicate, Nat.sub_self, Nat.reduceSub, Nat.reduceAdd, hK_pI, hL_pI, hI_pI, hR_pI, hJ_pI, hT_pI, hS_pI, hK_pR, hL_pR, hI_pR, hR_pR, hJ_pR, hT_pR, hS_pR, hK_pJ, hL_pJ, hI_pJ, hR_pJ, hJ_pJ, hT_pJ, hS_pJ, hK_wI, hL_wI, hI_wI, hR_wI, hJ_wI, hT_wI, hS_wI, eq_self, and_true, true_and, and_false, false_and, or_true, true_or, or_false, false_or, if_true, if_false, not_true_eq_false, not_false_eq_true, forall_const, implies_true, false_implies, true_implies, Option.some.injEq, forall_eq', exists_eq_left', reduceCtorEq, Nat.reduceEqDiff, c1, T_X12_in, T_X12_ones, T_X11_within, T_X11_bit, T_X11_isIn, T_X11_oneIfIn, T_J6_bitCount_0f7a4, hf, cl_nI (show i < 2147483648 by omega), in_nI (show i < L + 1 by omega) (by omega), nI_1, nk]
      first | exact ⟨fun z => hend z, fun z => hnext z⟩ | exact ⟨fun z => hnext z, fun z => hend z⟩
    have h15 : c_X10_readAll_15 Q [some (.ref k), some (.int (nI i))] [] (pI (wI h f) k 1 (nI (bgT B L i))) := by
      have hl3 : LayX (pI (wI h f) k 1 (nI (bgT B L i))) := hl
      have hk3 : LayT (pI (wI h f) k 1 (nI (bgT B L i))) k L := hk
      have hrt : T_X10_readToken [.ref k, .int (nI i)] (pI (pI (wI h f) k 1 (nI (bgT B L i))) (k + 2) i (nI (bgT B L i))) (fun r h' => c_X10_readAll_35 Q [some (.ref k), some (.int (nI i))] (r.toList ++ [.int (nI i), .ref (k + 1)]) h') := by
        refine ⟨hl, B, L, bgT B L i, i, hk, TpC_pI (TpC_pI ht2 (show 3 ≤ k by omega) _ _) (show 3 ≤ k + 2 by omega) _ _, hbL, rfl, hi, ?_, ?_, fun f' hf' => h35 f' hf'⟩
        · rw [hI_pI, if_neg (by omega), hI_pI, if_pos ⟨rfl, rfl⟩]
        · rw [hI_pI, if_neg (by omega), hI_pI, if_neg (by omega)]
          exact r3 i (Nat.le_refl _) hi
      have e1 : hI (pI (wI h f) k 1 (nI (bgT B L i))) k 1 = nI (bgT B L i) := by rw [hI_pI, if_pos ⟨rfl, rfl⟩]
      generalize pI (wI h f) k 1 (nI (bgT B L i)) = H at hl3 hk3 e1 hrt ⊢
      have hl := hl3
      have hf := hk3.f
      simp only [c_X10_readAll_15, lx_pI, lx_wI, lx_t hl, lx_k hl, lx_r hl, lx_l hl, i_push, i_ild, i_ald, i_ist, i_ast, i_inc, i_bin, i_un, i_divs, i_i2l, i_lshl, i_lor, i_dup, i_dup2, i_pop, i_if, i_cmp, i_nul, i_vret, i_iret, i_zret, i_aret, i_keep, keep, lget, lset, ent, i_getI, i_getJ, i_getR, i_getN, i_putI, i_putZ, i_putJ, i_putR, i_iald, i_bald, i_alen, i_aald, i_iast, i_bast, i_aast, i_new, i_newa, i_anew, i_oini, i_callS, i_callV, i_callI, popn, sh4, i_sw, swP, i_copy, i_binS, List.map, Option.toList_none, Option.toList_some, List.append, List.nil_append, List.cons_append, List.length_cons, List.length_nil, List.replicate, Nat.sub_self, Nat.reduceSub, Nat.reduceAdd, hK_pI, hL_pI, hI_pI, hR_pI, hJ_pI, hT_pI, hS_pI, hK_pR, hL_pR, hI_pR, hR_pR, hJ_pR, hT_pR, hS_pR, hK_pJ, hL_pJ, hI_pJ, hR_pJ, hJ_pJ, hT_pJ, hS_pJ, hK_wI, hL_wI, hI_wI, hR_wI, hJ_wI, hT_wI, hS_wI, eq_self, and_true, true_and, and_false, false_and, or_true, true_or, or_false, false_or, if_true, if_false, not_true_eq_false, not_false_eq_true, forall_const, implies_true, false_implies, true_implies, Option.some.injEq, forall_eq', exists_eq_left', reduceCtorEq, Nat.reduceEqDiff, c1, T_X12_in, T_X12_ones, T_X11_within, T_X11_bit, T_X11_isIn, T_X11_oneIfIn, T_J6_bitCount_0f7a4, hf, e1, cl_nI (show i < 2147483648 by omega), in_nI (show i < L + 1 by omega) (by omega)]
      exact hrt
    have hsk : T_X10_skipBlanks [.ref k] (wI h f) (fun r h' => c_X10_readAll_15 Q [some (.ref k), some (.int (nI i))] (r.toList ++ []) h') := by
      refine ⟨hl2, B, L, nxT B L i, hk2, ht2, nxT_le B L i, r2, ?_⟩
      rw [← bgT_nx]
      exact h15
    have hlen : ¬ Int32.ofNat (L + 1) ≤ nI i := nI_ge (b := L + 1) (by omega) (by omega)
    refine s_X10_readAll_2 Q _ _ _ ?_
    generalize wI h f = H at hl2 hk2 hsk ⊢
    have hl := hl2
    have hf := hk2.f
    simp only [b_X10_readAll_2, lx_pI, lx_wI, lx_t hl, lx_k hl, lx_r hl, lx_l hl, i_push, i_ild, i_ald, i_ist, i_ast, i_inc, i_bin, i_un, i_divs, i_i2l, i_lshl, i_lor, i_dup, i_dup2, i_pop, i_if, i_cmp, i_nul, i_vret, i_iret, i_zret, i_aret, i_keep, keep, lget, lset, ent, i_getI, i_getJ, i_getR, i_getN, i_putI, i_putZ, i_putJ, i_putR, i_iald, i_bald, i_alen, i_aald, i_iast, i_bast, i_aast, i_new, i_newa, i_anew, i_oini, i_callS, i_callV, i_callI, popn, sh4, i_sw, swP, i_copy, i_binS, List.map, Option.toList_none, Option.toList_some, List.append, List.nil_append, List.cons_append, List.length_cons, List.length_nil, List.replicate, Nat.sub_self, Nat.reduceSub, Nat.reduceAdd, hK_pI, hL_pI, hI_pI, hR_pI, hJ_pI, hT_pI, hS_pI, hK_pR, hL_pR, hI_pR, hR_pR, hJ_pR, hT_pR, hS_pR, hK_pJ, hL_pJ, hI_pJ, hR_pJ, hJ_pJ, hT_pJ, hS_pJ, hK_wI, hL_wI, hI_wI, hR_wI, hJ_wI, hT_wI, hS_wI, eq_self, and_true, true_and, and_false, false_and, or_true, true_or, or_false, false_or, if_true, if_false, not_true_eq_false, not_false_eq_true, forall_const, implies_true, false_implies, true_implies, Option.some.injEq, forall_eq', exists_eq_left', reduceCtorEq, Nat.reduceEqDiff, c1, T_X12_in, T_X12_ones, T_X11_within, T_X11_bit, T_X11_isIn, T_X11_oneIfIn, T_J6_bitCount_0f7a4, hf, hlen]
    first | exact hsk | exact ⟨by decide, by decide, hsk⟩
  intro m
  induction m with
  | zero =>
    intro i f hm hi hra
    exact hmain i f hi hra (fun f' h1 _ => by omega)
  | succ m ih =>
    intro i f hm hi hra
    exact hmain i f hi hra (fun f' h1 h2 => ih (i + 1) f' (by omega) h1 h2)
set_option maxRecDepth 100000 in
set_option maxHeartbeats 4000000 in
theorem ok_X10_readAll : ctr 8 MX10_readAll T_X10_readAll := by
  refine ctr_of pn_X10 wc_X10_readAll (fun av h Q hT => ?_)
  unfold T_X10_readAll at hT
  split at hT
  · rename_i k
    refine ⟨⟨by simp [Value.category], Nat.le_of_ble_eq_true rfl⟩, s_X10_readAll_0 Q _ _ _ ?_⟩
    obtain ⟨hl, B, L, hk, ht, hk1, hk3, hq⟩ := hT
    have := ra_2 Q h hl k L hk B ht hq L 0 (hI h) (by omega) (Nat.zero_le _) ⟨fun t ht2 => absurd ht2 (Nat.not_lt_zero _), hk1, fun t _ t2 => hk3 t t2, fun _ _ _ _ _ _ => rfl⟩
    have e : wI h (hI h) = h := rfl
    rw [e] at this
    simp only [MX10_readAll, b_X10_readAll_0, i_push, i_ild, i_ald, i_ist, i_ast, i_inc, i_bin, i_un, i_divs, i_i2l, i_lshl, i_lor, i_dup, i_dup2, i_pop, i_if, i_cmp, i_nul, i_vret, i_iret, i_zret, i_aret, i_keep, keep, lget, lset, ent, i_getI, i_getJ, i_getR, i_getN, i_putI, i_putZ, i_putJ, i_putR, i_iald, i_bald, i_alen, i_aald, i_iast, i_bast, i_aast, i_new, i_newa, i_anew, i_oini, i_callS, i_callV, i_callI, popn, sh4, i_sw, swP, i_copy, i_binS, List.map, Option.toList_none, Option.toList_some, List.append, List.nil_append, List.cons_append, List.length_cons, List.length_nil, List.replicate, Nat.sub_self, Nat.reduceSub, Nat.reduceAdd, hK_pI, hL_pI, hI_pI, hR_pI, hJ_pI, hT_pI, hS_pI, hK_pR, hL_pR, hI_pR, hR_pR, hJ_pR, hT_pR, hS_pR, hK_pJ, hL_pJ, hI_pJ, hR_pJ, hJ_pJ, hT_pJ, hS_pJ, hK_wI, hL_wI, hI_wI, hR_wI, hJ_wI, hT_wI, hS_wI, eq_self, and_true, true_and, and_false, false_and, or_true, true_or, or_false, false_or, if_true, if_false, not_true_eq_false, not_false_eq_true, forall_const, implies_true, false_implies, true_implies, Option.some.injEq, forall_eq', exists_eq_left', reduceCtorEq, Nat.reduceEqDiff, c1, T_X12_in, T_X12_ones, T_X11_within, T_X11_bit, T_X11_isIn, T_X11_oneIfIn, T_J6_bitCount_0f7a4]
    exact this
  · exact hT.elim
/-! Tokens.<init> -/
def tkH (h : Hp) (k L : Nat) : Hp := pR (nC (pR (nC (pR (nC (pR h k 0 (some 1)) 14 (L + 1)) k 2 (some (k + 1))) 14 (L + 1)) k 3 (some (k + 2))) 14 (L + 1)) k 4 (some (k + 3))
def T_X10_init : Tr := fun av h Q => match av with
  | [.ref k, .ref t] => t = 1 ∧ LayX h ∧ k + 1 = hT h ∧ 90 ≤ k ∧ hK h k = 10 ∧ ∃ L, L ≤ 500 ∧ hI h 1 1 = nI L ∧ Q none (tkH h k L)
  | _ => False
def L_X10_init : List UInt8 := [42, 183, 0, 3, 42, 43, 181, 0, 9, 42, 43, 180, 0, 15, 4, 96, 188, 10, 181, 0, 21, 42, 43, 180, 0, 15, 4, 96, 188, 10, 181, 0, 25, 42, 43, 180, 0, 15, 4, 96, 188, 10, 181, 0, 28, 177]
theorem Lc_X10_init : MX10_init.2.1 = ⟨L_X10_init.toArray⟩ := rfl
theorem D_X10_init_0 : dseq MX10_init.2.1 0 [(.aload_n 0, 1), (.invokespecial 3, 3), (.aload_n 0, 1), (.aload_n 1, 1), (.putfield 9, 3), (.aload_n 0, 1), (.aload_n 1, 1), (.getfield 15, 3), (.iconst 1, 1), (.iadd, 1), (.newarray .int, 2), (.putfield 21, 3), (.aload_n 0, 1), (.aload_n 1, 1), (.getfield 15, 3), (.iconst 1, 1), (.iadd, 1), (.newarray .int, 2), (.putfield 25, 3), (.aload_n 0, 1), (.aload_n 1, 1), (.getfield 15, 3), (.iconst 1, 1), (.iadd, 1), (.newarray .int, 2), (.putfield 28, 3), (.return_, 1)] := dq Lc_X10_init 0 _ (by decide +kernel)
def b_X10_init_0 (Q : Option Value → Hp → Prop) : Kt := i_ald 0 (i_oini (i_ald 0 (i_ald 1 (i_putR 10 0 (i_ald 0 (i_ald 1 (i_getI 9 1 (i_push (.int 1) (i_bin (fun x y => x + y) (i_newa 14 (i_putR 10 2 (i_ald 0 (i_ald 1 (i_getI 9 1 (i_push (.int 1) (i_bin (fun x y => x + y) (i_newa 14 (i_putR 10 3 (i_ald 0 (i_ald 1 (i_getI 9 1 (i_push (.int 1) (i_bin (fun x y => x + y) (i_newa 14 (i_putR 10 4 (i_vret Q))))))))))))))))))))))))))
set_option maxRecDepth 100000 in
theorem s_X10_init_0 (Q : Option Value → Hp → Prop) : ∀ A st h, b_X10_init_0 Q A st h → wp 1 MX10_init Q 0 A st h := (q1 (s_aldn (n := 0) (i := 0) rfl) D_X10_init_0 fun D => (qO (s_oini (ch_2_7_ok.2.1.1 rfl) w_oi2 w_oi3) rfl (by decide) D fun D => (q1 (s_aldn (n := 0) (i := 0) rfl) D fun D => (q1 (s_aldn (n := 1) (i := 1) rfl) D fun D => (qP pl_X10_9 rfl (Or.inr rfl) D fun D => (q1 (s_aldn (n := 0) (i := 0) rfl) D fun D => (q1 (s_aldn (n := 1) (i := 1) rfl) D fun D => (qC fl_X10_15 rfl D fun D => (q1 (s_iconst (n := 1) (v := 1) (by decide)) D fun D => (q1 s_add D fun D => (q1 na_int D fun D => (qP pl_X10_21 rfl (Or.inr rfl) D fun D => (q1 (s_aldn (n := 0) (i := 0) rfl) D fun D => (q1 (s_aldn (n := 1) (i := 1) rfl) D fun D => (qC fl_X10_15 rfl D fun D => (q1 (s_iconst (n := 1) (v := 1) (by decide)) D fun D => (q1 s_add D fun D => (q1 na_int D fun D => (qP pl_X10_25 rfl (Or.inr rfl) D fun D => (q1 (s_aldn (n := 0) (i := 0) rfl) D fun D => (q1 (s_aldn (n := 1) (i := 1) rfl) D fun D => (qC fl_X10_15 rfl D fun D => (q1 (s_iconst (n := 1) (v := 1) (by decide)) D fun D => (q1 s_add D fun D => (q1 na_int D fun D => (qP pl_X10_28 rfl (Or.inr rfl) D fun D => (qV rfl D)))))))))))))))))))))))))))

set_option maxRecDepth 100000 in
set_option maxHeartbeats 400000 in
theorem xti_0 (Q : Option Value → Hp → Prop) (h : Hp) (k L : Nat) (hl : LayX h) (hk1 : k + 1 = hT h) (hk90 : 90 ≤ k) (hkk : hK h k = 10) (hL : L ≤ 500) (h11 : hI h 1 1 = nI L) (hq : Q none (tkH h k L)) : b_X10_init_0 Q [some (.ref k), some (.ref 1)] [] h := by
  have hTn : hT h = k + 1 := hk1.symm
  have q1 : ¬ k = k + 1 := by omega
  have q2 : ¬ k = k + 1 + 1 := by omega
  have q3 : ¬ k = k + 1 + 1 + 1 := by omega
  have q4 : k < k + 1 := by omega
  have q5 : k < k + 1 + 1 := by omega
  have q6 : k < k + 1 + 1 + 1 := by omega
  have q7 : k < k + 1 + 1 + 1 + 1 := by omega
  have p1 : ¬ 1 = k + 1 := by omega
  have p2 : ¬ 1 = k + 1 + 1 := by omega
  have p4 : 1 < k + 1 := by omega
  have p5 : 1 < k + 1 + 1 := by omega
  have p6 : 1 < k + 1 + 1 + 1 := by omega
  have c1 : ¬ nI (L + 1) < 0 := nI_pos (by omega)
  have c2 : (nI (L + 1)).toNatClampNeg = L + 1 := cl_nI (by omega)
  have c3 : L + 1 ≤ 100000 := by omega
  have hk1' : hK h 1 = 9 := (lx_k hl).2.1
  unfold tkH at hq
  simp only [b_X10_init_0, i_push, i_ild, i_ald, i_ist, i_ast, i_inc, i_bin, i_un, i_divs, i_i2l, i_lshl, i_lor, i_dup, i_dup2, i_pop, i_if, i_cmp, i_nul, i_vret, i_iret, i_zret, i_aret, i_keep, keep, lget, lset, ent, i_getI, i_getJ, i_getR, i_getN, i_putI, i_putZ, i_putJ, i_putR, i_iald, i_bald, i_alen, i_aald, i_iast, i_bast, i_aast, i_new, i_newa, i_anew, i_oini, i_callS, i_callV, i_callI, popn, sh4, i_sw, swP, i_copy, i_binS, List.map, Option.toList_none, Option.toList_some, List.append, List.nil_append, List.cons_append, List.length_cons, List.length_nil, List.replicate, Nat.sub_self, Nat.reduceSub, Nat.reduceAdd, hK_pI, hL_pI, hI_pI, hR_pI, hJ_pI, hT_pI, hS_pI, hK_pR, hL_pR, hI_pR, hR_pR, hJ_pR, hT_pR, hS_pR, hK_pJ, hL_pJ, hI_pJ, hR_pJ, hJ_pJ, hT_pJ, hS_pJ, hK_wI, hL_wI, hI_wI, hR_wI, hJ_wI, hT_wI, hS_wI, eq_self, and_true, true_and, and_false, false_and, or_true, true_or, or_false, false_or, if_true, if_false, not_true_eq_false, not_false_eq_true, forall_const, implies_true, false_implies, true_implies, Option.some.injEq, forall_eq', exists_eq_left', reduceCtorEq, Nat.reduceEqDiff, c1, T_X12_in, T_X12_ones, T_X11_within, T_X11_bit, T_X11_isIn, T_X11_oneIfIn, T_J6_bitCount_0f7a4, hT_nC, hK_nC, hI_nC, hTn, q1, q2, q3, q4, q5, q6, q7, p1, p2, p4, p5, p6, hkk, hk1', h11, nI_1, c1, c2, c3]
  exact ⟨by decide, hq⟩
set_option maxRecDepth 100000 in
set_option maxHeartbeats 4000000 in
theorem ok_X10_init : ctr 1 MX10_init T_X10_init := by
  refine ctr_of pn_X10 wc_X10_init (fun av h Q hT => ?_)
  unfold T_X10_init at hT
  split at hT
  · rename_i k t
    refine ⟨⟨by simp [Value.category], Nat.le_of_ble_eq_true rfl⟩, s_X10_init_0 Q _ _ _ ?_⟩
    obtain ⟨rfl, hl, hk1, hk90, hkk, L, hL, h11, hq⟩ := hT
    exact xti_0 Q h k L hl hk1 hk90 hkk hL h11 hq
  · exact hT.elim
