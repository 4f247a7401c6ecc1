/-! ===== the class: copies ===== -/
def cwB (r r' : Nat) (I : Mem) (o lo n : Nat) : Mem := fun x i => if x = r' + o ∧ lo ≤ i ∧ i < lo + n then I (r + o) i else I x i
def cpL (r r' : Nat) : List (Nat × Nat × Nat) → Mem → Mem
  | [], I => I
  | (o, lo, n) :: t, I => cpL r r' t (cwB r r' I o lo n)
theorem cpL_app (r r' : Nat) : ∀ (l m : List (Nat × Nat × Nat)) (I : Mem), cpL r r' (l ++ m) I = cpL r r' m (cpL r r' l I)
  | [], m, I => rfl
  | (o, lo, n) :: t, m, I => cpL_app r r' t m (cwB r r' I o lo n)
theorem cpL_at {r r' : Nat} (hd : r + 17 < r' ∨ r' + 17 < r) : ∀ (l : List (Nat × Nat × Nat)) (I : Mem), (∀ q ∈ l, q.1 ≤ 17) → ∀ x i, cpL r r' l I x i = if (∃ q ∈ l, x = r' + q.1 ∧ q.2.1 ≤ i ∧ i < q.2.1 + q.2.2) then I (x - r' + r) i else I x i
  | [], I, _, x, i => by rw [if_neg (by simp)]; rfl
  | (o, lo, n) :: t, I, h17, x, i => by
    have ho : o ≤ 17 := h17 (o, lo, n) List.mem_cons_self
    rw [cpL, cpL_at hd t _ (fun q hq => h17 q (List.mem_cons_of_mem _ hq))]
    by_cases c : ∃ q ∈ t, x = r' + q.1 ∧ q.2.1 ≤ i ∧ i < q.2.1 + q.2.2
    · obtain ⟨q, hq, e, e2⟩ := c
      have hq17 := h17 q (List.mem_cons_of_mem _ hq)
      rw [if_pos ⟨q, hq, e, e2⟩, if_pos ⟨q, List.mem_cons_of_mem _ hq, e, e2⟩]
      unfold cwB
      rw [if_neg (by omega)]
    · rw [if_neg c]
      unfold cwB
      by_cases c2 : x = r' + o ∧ lo ≤ i ∧ i < lo + n
      · rw [if_pos c2, if_pos ⟨(o, lo, n), List.mem_cons_self, c2⟩]
        have : x - r' + r = r + o := by omega
        rw [this]
      · rw [if_neg c2, if_neg (fun ⟨q, hq, e⟩ => (List.mem_cons.mp hq).elim (fun z => c2 (by rw [z] at e; exact e)) (fun z => c ⟨q, z, e⟩))]
/-- X is h with the entries of l copied -/
def CW (r r' : Nat) (l : List (Nat × Nat × Nat)) (h X : Hp) : Prop := X = wI h (cpL r r' l (hI h))
theorem CW.z (r r' : Nat) (h : Hp) : CW r r' [] h h := by
  obtain ⟨k, rest⟩ := h
  rfl
theorem CW.p {r r' : Nat} {l : List (Nat × Nat × Nat)} {h X : Hp} (hx : CW r r' l h X) (o j : Nat) : CW r r' (l ++ [(o, j, 1)]) h (pI X (r' + o) j (hI X (r + o) j)) := by
  unfold CW at hx ⊢
  rw [cpL_app]
  have e : hI X = cpL r r' l (hI h) := by rw [hx]; rfl
  have e2 : pI X (r' + o) j (hI X (r + o) j) = wI X (cwB r r' (hI X) o j 1) := by
    show wI X _ = wI X _
    congr 1
    funext x i
    unfold cwB
    show (if x = r' + o ∧ i = j then _ else _) = _
    by_cases c : x = r' + o ∧ i = j
    · rw [if_pos c, if_pos ⟨c.1, by omega, by omega⟩, c.2]
    · rw [if_neg c, if_neg (by omega)]
  rw [e2, e, hx]
  rfl
theorem CW.c {r r' : Nat} {l : List (Nat × Nat × Nat)} {h X : Hp} (hx : CW r r' l h X) (o n : Nat) : CW r r' (l ++ [(o, 0, n)]) h (cpI X (r + o) (r' + o) 0 0 n) := by
  unfold CW at hx ⊢
  rw [cpL_app]
  have e : hI X = cpL r r' l (hI h) := by rw [hx]; rfl
  have e2 : cpI X (r + o) (r' + o) 0 0 n = wI X (cwB r r' (hI X) o 0 n) := by
    unfold cpI
    congr 1
    funext x i
    unfold cwB
    simp only [Nat.zero_add, Nat.sub_zero]
  rw [e2, e, hx]
  rfl
theorem hK_cp (h : Hp) (a b s d n : Nat) : hK (cpI h a b s d n) = hK h := by obtain ⟨k, r⟩ := h; rfl
theorem hL_cp (h : Hp) (a b s d n : Nat) : hL (cpI h a b s d n) = hL h := by obtain ⟨k, r⟩ := h; rfl
theorem hR_cp (h : Hp) (a b s d n : Nat) : hR (cpI h a b s d n) = hR h := by obtain ⟨k, r⟩ := h; rfl
theorem hT_cp (h : Hp) (a b s d n : Nat) : hT (cpI h a b s d n) = hT h := by obtain ⟨k, r⟩ := h; rfl
def T_X11_copy : Tr := fun av h Q => match av with
  | [.ref a, .ref b] => a < hT h ∧ b < hT h ∧ hK h a = 14 ∧ hK h b = 14 ∧ hL h a = hL h b ∧ hL h b ≤ 100 ∧ Q none (cpI h a b 0 0 (hL h b))
  | _ => False
def L_X11_copy : List UInt8 := [42, 3, 43, 3, 42, 190, 43, 190, 184, 1, 4, 184, 1, 9, 177]
theorem Lc_X11_copy : MX11_copy.2.1 = ⟨L_X11_copy.toArray⟩ := rfl
theorem D_X11_copy_0 : dseq MX11_copy.2.1 0 [(.aload_n 0, 1), (.iconst 0, 1), (.aload_n 1, 1), (.iconst 0, 1), (.aload_n 0, 1), (.arraylength, 1), (.aload_n 1, 1), (.arraylength, 1), (.invokestatic 260, 3), (.invokestatic 265, 3), (.return_, 1)] := dq Lc_X11_copy 0 _ (by decide +kernel)
def b_X11_copy_0 (Q : Option Value → Hp → Prop) : Kt := i_ald 0 (i_push (.int 0) (i_ald 1 (i_push (.int 0) (i_ald 0 (i_alen (i_ald 1 (i_alen (i_binS (fun x y => if y < x then y else x) (i_copy (i_vret Q))))))))))
set_option maxRecDepth 100000 in
theorem s_X11_copy_0 (Q : Option Value → Hp → Prop) : ∀ A st h, b_X11_copy_0 Q A st h → wp 1 MX11_copy Q 0 A st h := (q1 (s_aldn (n := 0) (i := 0) rfl) D_X11_copy_0 fun D => (q1 (s_iconst (n := 0) (v := 0) (by decide)) D fun D => (q1 (s_aldn (n := 1) (i := 1) rfl) D fun D => (q1 (s_iconst (n := 0) (v := 0) (by decide)) D fun D => (q1 (s_aldn (n := 0) (i := 0) rfl) D fun D => (q1 s_alen D fun D => (q1 (s_aldn (n := 1) (i := 1) rfl) D fun D => (q1 s_alen D fun D => (qX (s_min (ch_5_0_ok.2.2.1.1 rfl) w_min2 w_math w_min4) rfl (by decide) D fun D => (qY (s_copy (ch_5_0_ok.2.2.2.1.1 rfl) w_ac2 w_ac3 w_ac4) rfl (by decide) D fun D => (qV rfl D)))))))))))

set_option maxRecDepth 100000 in
set_option maxHeartbeats 4000000 in
theorem ok_X11_copy : ctr 1 MX11_copy T_X11_copy := by
  refine ctr_of pn_X11 wc_X11_copy (fun av h Q hT => ?_)
  unfold T_X11_copy at hT
  split at hT
  · rename_i a b
    refine ⟨⟨by simp [Value.category], Nat.le_of_ble_eq_true rfl⟩, s_X11_copy_0 Q _ _ _ ?_⟩
    obtain ⟨ha, hb, ka, kb, hll, h100, hq⟩ := hT
    have e0 : (0 : Int32).toNatClampNeg = 0 := by decide
    have l0 : ¬ (0 : Int32) < 0 := by decide
    have em : (if Int32.ofNat (hL h b) < Int32.ofNat (hL h b) then Int32.ofNat (hL h b) else Int32.ofNat (hL h b)) = nI (hL h b) := by split <;> rfl
    have nn : ¬ nI (hL h b) < 0 := fun z => absurd ((nI_ltI (b := 0) (by omega) (by decide)).mp z) (Nat.not_lt_zero _)
    simp only [MX11_copy, b_X11_copy_0, i_push, i_ild, i_ald, i_ist, i_ast, i_inc, i_bin, i_un, i_divs, i_i2l, i_lshl, i_lor, i_dup, i_dup2, i_pop, i_if, i_cmp, i_nul, i_vret, i_iret, i_zret, i_aret, i_keep, keep, lget, lset, ent, i_getI, i_getJ, i_getR, i_getN, i_putI, i_putZ, i_putJ, i_putR, i_iald, i_bald, i_alen, i_aald, i_iast, i_bast, i_aast, i_new, i_newa, i_anew, i_oini, i_callS, i_callV, i_callI, popn, sh4, i_sw, swP, i_copy, i_binS, List.map, Option.toList_none, Option.toList_some, List.append, List.nil_append, List.cons_append, List.length_cons, List.length_nil, List.replicate, Nat.sub_self, Nat.reduceSub, Nat.reduceAdd, hK_pX, hL_pX, hI_pX, hR_pX, hJ_pX, hT_pX, hS_pX, hK_pR, hL_pR, hI_pR, hR_pR, hJ_pR, hT_pR, hS_pR, hK_pJ, hL_pJ, hI_pJ, hR_pJ, hJ_pJ, hT_pJ, hS_pJ, hK_wI, hL_wI, hI_wI, hR_wI, hJ_wI, hT_wI, hS_wI, eq_self, and_true, true_and, and_false, false_and, or_true, true_or, or_false, false_or, if_true, if_false, not_true_eq_false, not_false_eq_true, forall_const, implies_true, false_implies, true_implies, Option.some.injEq, forall_eq', exists_eq_left', reduceCtorEq, Nat.reduceEqDiff, c1, T_X12_in, T_X12_ones, T_X11_within, T_X11_bit, T_X11_isIn, T_X11_oneIfIn, T_J6_bitCount_0f7a4, ha, hb, ka, kb, hll, em, e0, l0, cl_nI (show hL h b < 2147483648 by omega), nn, Nat.reduceLeDiff, Nat.zero_add, Nat.le_refl, Nat.zero_le]
    exact hq
  · exact hT.elim

theorem LayS.bf {h : Hp} {s r : Nat} (hl : LayS h s r) : r < hT h ∧ (r + 1) < hT h ∧ (r + 2) < hT h ∧ (r + 3) < hT h ∧ (r + 4) < hT h ∧ (r + 5) < hT h ∧ (r + 6) < hT h ∧ (r + 7) < hT h ∧ (r + 8) < hT h ∧ (r + 9) < hT h ∧ (r + 10) < hT h ∧ (r + 11) < hT h ∧ (r + 12) < hT h ∧ (r + 13) < hT h ∧ (r + 14) < hT h ∧ (r + 15) < hT h ∧ (r + 16) < hT h ∧ (r + 17) < hT h ∧ hK h r = 6 ∧ hK h (r + 1) = 14 ∧ hK h (r + 2) = 14 ∧ hK h (r + 3) = 14 ∧ hK h (r + 4) = 3 ∧ hK h (r + 5) = 14 ∧ hK h (r + 6) = 14 ∧ hK h (r + 7) = 14 ∧ hK h (r + 8) = 14 ∧ hK h (r + 9) = 14 ∧ hK h (r + 10) = 14 ∧ hK h (r + 11) = 14 ∧ hK h (r + 12) = 14 ∧ hK h (r + 13) = 0 ∧ hK h (r + 14) = 14 ∧ hK h (r + 15) = 14 ∧ hK h (r + 16) = 14 ∧ hK h (r + 17) = 14 ∧ hR h r 1 = some (r + 1) ∧ hR h r 2 = some (r + 2) ∧ hR h r 3 = some (r + 3) ∧ hR h (r + 4) 2 = some (r + 5) ∧ hR h (r + 4) 3 = some (r + 6) ∧ hR h (r + 4) 4 = some (r + 7) ∧ hR h (r + 4) 5 = some (r + 8) ∧ hR h (r + 4) 6 = some (r + 9) ∧ hR h (r + 4) 7 = some (r + 10) ∧ hR h (r + 4) 8 = some (r + 11) ∧ hR h (r + 4) 9 = some (r + 12) ∧ hR h (r + 13) 1 = some (r + 14) ∧ hR h (r + 13) 2 = some (r + 15) ∧ hR h (r + 13) 3 = some (r + 16) ∧ hR h (r + 13) 4 = some (r + 17) ∧ hL h (r + 1) = 4 ∧ hL h (r + 2) = 4 ∧ hL h (r + 3) = 4 ∧ hL h (r + 5) = 24 ∧ hL h (r + 6) = 24 ∧ hL h (r + 7) = 24 ∧ hL h (r + 8) = 24 ∧ hL h (r + 9) = 24 ∧ hL h (r + 10) = 24 ∧ hL h (r + 11) = 24 ∧ hL h (r + 12) = 24 ∧ hL h (r + 14) = 8 ∧ hL h (r + 15) = 8 ∧ hL h (r + 16) = 8 ∧ hL h (r + 17) = 8 := by
  obtain ⟨a, b, c, d, e, l⟩ := hl
  obtain ⟨_, _, _, e⟩ := e
  simp only [d, e, l, and_true]
  refine ⟨?_, ?_, ?_, ?_, ?_, ?_, ?_, ?_, ?_, ?_, ?_, ?_, ?_, ?_, ?_, ?_, ?_, ?_⟩ <;> omega
def lc_X6 : List (Nat × Nat × Nat) := [(0, 0, 1), (1, 0, 4), (2, 0, 4), (3, 0, 4), (0, 4, 1), (0, 5, 1)]
def T_X6_copyFrom : Tr := fun av h Q => match av with
  | [.ref a, .ref b] => ∃ s s' r r', a = r' ∧ b = r ∧ LayS h s r ∧ LayS h s' r' ∧ Q none (wI h (cpL r r' lc_X6 (hI h)))
  | _ => False
def L_X6_copyFrom : List UInt8 := [42, 43, 180, 0, 21, 181, 0, 21, 43, 180, 0, 9, 42, 180, 0, 9, 184, 0, 39, 43, 180, 0, 15, 42, 180, 0, 15, 184, 0, 39, 43, 180, 0, 18, 42, 180, 0, 18, 184, 0, 39, 42, 43, 180, 0, 25, 181, 0, 25, 42, 43, 180, 0, 32, 181, 0, 32, 177]
theorem Lc_X6_copyFrom : MX6_copyFrom.2.1 = ⟨L_X6_copyFrom.toArray⟩ := rfl
theorem D_X6_copyFrom_0 : dseq MX6_copyFrom.2.1 0 [(.aload_n 0, 1), (.aload_n 1, 1), (.getfield 21, 3), (.putfield 21, 3), (.aload_n 1, 1), (.getfield 9, 3), (.aload_n 0, 1), (.getfield 9, 3), (.invokestatic 39, 3), (.aload_n 1, 1), (.getfield 15, 3), (.aload_n 0, 1), (.getfield 15, 3), (.invokestatic 39, 3), (.aload_n 1, 1), (.getfield 18, 3), (.aload_n 0, 1), (.getfield 18, 3), (.invokestatic 39, 3), (.aload_n 0, 1), (.aload_n 1, 1), (.getfield 25, 3), (.putfield 25, 3), (.aload_n 0, 1), (.aload_n 1, 1), (.getfield 32, 3), (.putfield 32, 3), (.return_, 1)] := dq Lc_X6_copyFrom 0 _ (by decide +kernel)
def b_X6_copyFrom_0 (Q : Option Value → Hp → Prop) : Kt := i_ald 0 (i_ald 1 (i_getI 6 0 (i_putI 6 0 (i_ald 1 (i_getR 6 1 (i_ald 0 (i_getR 6 1 (i_callS 2 T_X11_copy (i_ald 1 (i_getR 6 2 (i_ald 0 (i_getR 6 2 (i_callS 2 T_X11_copy (i_ald 1 (i_getR 6 3 (i_ald 0 (i_getR 6 3 (i_callS 2 T_X11_copy (i_ald 0 (i_ald 1 (i_getI 6 4 (i_putI 6 4 (i_ald 0 (i_ald 1 (i_getI 6 5 (i_putI 6 5 (i_vret Q)))))))))))))))))))))))))))
set_option maxRecDepth 100000 in
theorem s_X6_copyFrom_0 (Q : Option Value → Hp → Prop) : ∀ A st h, b_X6_copyFrom_0 Q A st h → wp 2 MX6_copyFrom Q 0 A st h := (q1 (s_aldn (n := 0) (i := 0) rfl) D_X6_copyFrom_0 fun D => (q1 (s_aldn (n := 1) (i := 1) rfl) D fun D => (qC fl_X6_21 rfl D fun D => (qP pl_X6_21 rfl (Or.inl rfl) D fun D => (q1 (s_aldn (n := 1) (i := 1) rfl) D fun D => (qC fl_X6_9 rfl D fun D => (q1 (s_aldn (n := 0) (i := 0) rfl) D fun D => (qC fl_X6_9 rfl D fun D => (qX (s_callSN ok_X11_copy mo_X11_copy (ch_4_14_ok.2.2.2.2.2.2.2.2.2.2.2.2.2.2.2.1.2 rfl) (ch_5_0_ok.1.1 rfl)) rfl (by decide) D fun D => (q1 (s_aldn (n := 1) (i := 1) rfl) D fun D => (qC fl_X6_15 rfl D fun D => (q1 (s_aldn (n := 0) (i := 0) rfl) D fun D => (qC fl_X6_15 rfl D fun D => (qX (s_callSN ok_X11_copy mo_X11_copy (ch_4_14_ok.2.2.2.2.2.2.2.2.2.2.2.2.2.2.2.1.2 rfl) (ch_5_0_ok.1.1 rfl)) rfl (by decide) D fun D => (q1 (s_aldn (n := 1) (i := 1) rfl) D fun D => (qC fl_X6_18 rfl D fun D => (q1 (s_aldn (n := 0) (i := 0) rfl) D fun D => (qC fl_X6_18 rfl D fun D => (qX (s_callSN ok_X11_copy mo_X11_copy (ch_4_14_ok.2.2.2.2.2.2.2.2.2.2.2.2.2.2.2.1.2 rfl) (ch_5_0_ok.1.1 rfl)) rfl (by decide) D fun D => (q1 (s_aldn (n := 0) (i := 0) rfl) D fun D => (q1 (s_aldn (n := 1) (i := 1) rfl) D fun D => (qC fl_X6_25 rfl D fun D => (qP pl_X6_25 rfl (Or.inl rfl) D fun D => (q1 (s_aldn (n := 0) (i := 0) rfl) D fun D => (q1 (s_aldn (n := 1) (i := 1) rfl) D fun D => (qC fl_X6_32 rfl D fun D => (qP pl_X6_32 rfl (Or.inl rfl) D fun D => (qV rfl D))))))))))))))))))))))))))))

set_option maxRecDepth 100000 in
set_option maxHeartbeats 4000000 in
theorem ok_X6_copyFrom : ctr 2 MX6_copyFrom T_X6_copyFrom := by
  refine ctr_of pn_X6 wc_X6_copyFrom (fun av h Q hT => ?_)
  unfold T_X6_copyFrom at hT
  split at hT
  · rename_i a b
    refine ⟨⟨by simp [Value.category], Nat.le_of_ble_eq_true rfl⟩, s_X6_copyFrom_0 Q _ _ _ ?_⟩
    obtain ⟨s, s', r, r', rfl, rfl, hl1, hl2, hq⟩ := hT
    have f1 := hl1.bf
    have f2 := hl2.bf
    have hq' : ∀ X, CW b a lc_X6 h X → Q none X := fun X e => by rw [e]; exact hq
    clear hq
    simp only [MX6_copyFrom, b_X6_copyFrom_0, T_X11_copy, i_push, i_ild, i_ald, i_ist, i_ast, i_inc, i_bin, i_un, i_divs, i_i2l, i_lshl, i_lor, i_dup, i_dup2, i_pop, i_if, i_cmp, i_nul, i_vret, i_iret, i_zret, i_aret, i_keep, keep, lget, lset, ent, i_getI, i_getJ, i_getR, i_getN, i_putI, i_putZ, i_putJ, i_putR, i_iald, i_bald, i_alen, i_aald, i_iast, i_bast, i_aast, i_new, i_newa, i_anew, i_oini, i_callS, i_callV, i_callI, popn, sh4, i_sw, swP, i_copy, i_binS, List.map, Option.toList_none, Option.toList_some, List.append, List.nil_append, List.cons_append, List.length_cons, List.length_nil, List.replicate, Nat.sub_self, Nat.reduceSub, Nat.reduceAdd, hK_pX, hL_pX, hR_pX, hJ_pX, hT_pX, hS_pX, hK_pR, hL_pR, hI_pR, hR_pR, hJ_pR, hT_pR, hS_pR, hK_pJ, hL_pJ, hI_pJ, hR_pJ, hJ_pJ, hT_pJ, hS_pJ, hK_wI, hL_wI, hR_wI, hJ_wI, hT_wI, hS_wI, eq_self, and_true, true_and, and_false, false_and, or_true, true_or, or_false, false_or, if_true, if_false, not_true_eq_false, not_false_eq_true, forall_const, implies_true, false_implies, true_implies, Option.some.injEq, forall_eq', exists_eq_left', reduceCtorEq, Nat.reduceEqDiff, c1, T_X12_in, T_X12_ones, T_X11_within, T_X11_bit, T_X11_isIn, T_X11_oneIfIn, T_J6_bitCount_0f7a4, hK_cp, hL_cp, hR_cp, hT_cp, f1, f2, Nat.reduceLeDiff]
    exact hq' _ ((((((((((((CW.z _ _ _).p 0 0)).c 1 4)).c 2 4)).c 3 4)).p 0 4)).p 0 5)
  · exact hT.elim

def lc_X3 : List (Nat × Nat × Nat) := [(4, 0, 1), (4, 1, 1), (5, 0, 24), (6, 0, 24), (7, 0, 24), (8, 0, 24), (9, 0, 24), (10, 0, 24), (11, 0, 24), (12, 0, 24), (4, 10, 1), (4, 11, 1), (4, 12, 1)]
def T_X3_copyFrom : Tr := fun av h Q => match av with
  | [.ref a, .ref b] => ∃ s s' r r', a = (r' + 4) ∧ b = (r + 4) ∧ LayS h s r ∧ LayS h s' r' ∧ Q none (wI h (cpL r r' lc_X3 (hI h)))
  | _ => False
def L_X3_copyFrom : List UInt8 := [42, 43, 180, 0, 36, 181, 0, 36, 42, 43, 180, 0, 54, 181, 0, 54, 43, 180, 0, 9, 42, 180, 0, 9, 184, 0, 65, 43, 180, 0, 15, 42, 180, 0, 15, 184, 0, 65, 43, 180, 0, 18, 42, 180, 0, 18, 184, 0, 65, 43, 180, 0, 21, 42, 180, 0, 21, 184, 0, 65, 43, 180, 0, 24, 42, 180, 0, 24, 184, 0, 65, 43, 180, 0, 27, 42, 180, 0, 27, 184, 0, 65, 43, 180, 0, 30, 42, 180, 0, 30, 184, 0, 65, 43, 180, 0, 33, 42, 180, 0, 33, 184, 0, 65, 42, 43, 180, 0, 40, 181, 0, 40, 42, 43, 180, 0, 47, 181, 0, 47, 42, 43, 180, 0, 69, 181, 0, 69, 177]
theorem Lc_X3_copyFrom : MX3_copyFrom.2.1 = ⟨L_X3_copyFrom.toArray⟩ := rfl
theorem D_X3_copyFrom_0 : dseq MX3_copyFrom.2.1 0 [(.aload_n 0, 1), (.aload_n 1, 1), (.getfield 36, 3), (.putfield 36, 3), (.aload_n 0, 1), (.aload_n 1, 1), (.getfield 54, 3), (.putfield 54, 3), (.aload_n 1, 1), (.getfield 9, 3), (.aload_n 0, 1), (.getfield 9, 3), (.invokestatic 65, 3), (.aload_n 1, 1), (.getfield 15, 3), (.aload_n 0, 1), (.getfield 15, 3), (.invokestatic 65, 3), (.aload_n 1, 1), (.getfield 18, 3), (.aload_n 0, 1), (.getfield 18, 3), (.invokestatic 65, 3), (.aload_n 1, 1), (.getfield 21, 3), (.aload_n 0, 1), (.getfield 21, 3), (.invokestatic 65, 3), (.aload_n 1, 1), (.getfield 24, 3), (.aload_n 0, 1), (.getfield 24, 3), (.invokestatic 65, 3), (.aload_n 1, 1), (.getfield 27, 3), (.aload_n 0, 1), (.getfield 27, 3), (.invokestatic 65, 3), (.aload_n 1, 1), (.getfield 30, 3), (.aload_n 0, 1), (.getfield 30, 3), (.invokestatic 65, 3), (.aload_n 1, 1), (.getfield 33, 3), (.aload_n 0, 1), (.getfield 33, 3), (.invokestatic 65, 3), (.aload_n 0, 1), (.aload_n 1, 1), (.getfield 40, 3), (.putfield 40, 3), (.aload_n 0, 1), (.aload_n 1, 1), (.getfield 47, 3), (.putfield 47, 3), (.aload_n 0, 1), (.aload_n 1, 1), (.getfield 69, 3), (.putfield 69, 3), (.return_, 1)] := dq Lc_X3_copyFrom 0 _ (by decide +kernel)
def b_X3_copyFrom_0 (Q : Option Value → Hp → Prop) : Kt := i_ald 0 (i_ald 1 (i_getI 3 0 (i_putI 3 0 (i_ald 0 (i_ald 1 (i_getI 3 1 (i_putI 3 1 (i_ald 1 (i_getR 3 2 (i_ald 0 (i_getR 3 2 (i_callS 2 T_X11_copy (i_ald 1 (i_getR 3 3 (i_ald 0 (i_getR 3 3 (i_callS 2 T_X11_copy (i_ald 1 (i_getR 3 4 (i_ald 0 (i_getR 3 4 (i_callS 2 T_X11_copy (i_ald 1 (i_getR 3 5 (i_ald 0 (i_getR 3 5 (i_callS 2 T_X11_copy (i_ald 1 (i_getR 3 6 (i_ald 0 (i_getR 3 6 (i_callS 2 T_X11_copy (i_ald 1 (i_getR 3 7 (i_ald 0 (i_getR 3 7 (i_callS 2 T_X11_copy (i_ald 1 (i_getR 3 8 (i_ald 0 (i_getR 3 8 (i_callS 2 T_X11_copy (i_ald 1 (i_getR 3 9 (i_ald 0 (i_getR 3 9 (i_callS 2 T_X11_copy (i_ald 0 (i_ald 1 (i_getI 3 10 (i_putI 3 10 (i_ald 0 (i_ald 1 (i_getI 3 11 (i_putI 3 11 (i_ald 0 (i_ald 1 (i_getI 3 12 (i_putI 3 12 (i_vret Q))))))))))))))))))))))))))))))))))))))))))))))))))))))))))))
set_option maxRecDepth 100000 in
theorem s_X3_copyFrom_0 (Q : Option Value → Hp → Prop) : ∀ A st h, b_X3_copyFrom_0 Q A st h → wp 2 MX3_copyFrom Q 0 A st h := (q1 (s_aldn (n := 0) (i := 0) rfl) D_X3_copyFrom_0 fun D => (q1 (s_aldn (n := 1) (i := 1) rfl) D fun D => (qC fl_X3_36 rfl D fun D => (qP pl_X3_36 rfl (Or.inl rfl) D fun D => (q1 (s_aldn (n := 0) (i := 0) rfl) D fun D => (q1 (s_aldn (n := 1) (i := 1) rfl) D fun D => (qC fl_X3_54 rfl D fun D => (qP pl_X3_54 rfl (Or.inl rfl) D fun D => (q1 (s_aldn (n := 1) (i := 1) rfl) D fun D => (qC fl_X3_9 rfl D fun D => (q1 (s_aldn (n := 0) (i := 0) rfl) D fun D => (qC fl_X3_9 rfl D fun D => (qX (s_callSN ok_X11_copy mo_X11_copy (ch_5_0_ok.2.2.2.2.2.2.2.2.2.2.1.2 rfl) (ch_5_0_ok.1.1 rfl)) rfl (by decide) D fun D => (q1 (s_aldn (n := 1) (i := 1) rfl) D fun D => (qC fl_X3_15 rfl D fun D => (q1 (s_aldn (n := 0) (i := 0) rfl) D fun D => (qC fl_X3_15 rfl D fun D => (qX (s_callSN ok_X11_copy mo_X11_copy (ch_5_0_ok.2.2.2.2.2.2.2.2.2.2.1.2 rfl) (ch_5_0_ok.1.1 rfl)) rfl (by decide) D fun D => (q1 (s_aldn (n := 1) (i := 1) rfl) D fun D => (qC fl_X3_18 rfl D fun D => (q1 (s_aldn (n := 0) (i := 0) rfl) D fun D => (qC fl_X3_18 rfl D fun D => (qX (s_callSN ok_X11_copy mo_X11_copy (ch_5_0_ok.2.2.2.2.2.2.2.2.2.2.1.2 rfl) (ch_5_0_ok.1.1 rfl)) rfl (by decide) D fun D => (q1 (s_aldn (n := 1) (i := 1) rfl) D fun D => (qC fl_X3_21 rfl D fun D => (q1 (s_aldn (n := 0) (i := 0) rfl) D fun D => (qC fl_X3_21 rfl D fun D => (qX (s_callSN ok_X11_copy mo_X11_copy (ch_5_0_ok.2.2.2.2.2.2.2.2.2.2.1.2 rfl) (ch_5_0_ok.1.1 rfl)) rfl (by decide) D fun D => (q1 (s_aldn (n := 1) (i := 1) rfl) D fun D => (qC fl_X3_24 rfl D fun D => (q1 (s_aldn (n := 0) (i := 0) rfl) D fun D => (qC fl_X3_24 rfl D fun D => (qX (s_callSN ok_X11_copy mo_X11_copy (ch_5_0_ok.2.2.2.2.2.2.2.2.2.2.1.2 rfl) (ch_5_0_ok.1.1 rfl)) rfl (by decide) D fun D => (q1 (s_aldn (n := 1) (i := 1) rfl) D fun D => (qC fl_X3_27 rfl D fun D => (q1 (s_aldn (n := 0) (i := 0) rfl) D fun D => (qC fl_X3_27 rfl D fun D => (qX (s_callSN ok_X11_copy mo_X11_copy (ch_5_0_ok.2.2.2.2.2.2.2.2.2.2.1.2 rfl) (ch_5_0_ok.1.1 rfl)) rfl (by decide) D fun D => (q1 (s_aldn (n := 1) (i := 1) rfl) D fun D => (qC fl_X3_30 rfl D fun D => (q1 (s_aldn (n := 0) (i := 0) rfl) D fun D => (qC fl_X3_30 rfl D fun D => (qX (s_callSN ok_X11_copy mo_X11_copy (ch_5_0_ok.2.2.2.2.2.2.2.2.2.2.1.2 rfl) (ch_5_0_ok.1.1 rfl)) rfl (by decide) D fun D => (q1 (s_aldn (n := 1) (i := 1) rfl) D fun D => (qC fl_X3_33 rfl D fun D => (q1 (s_aldn (n := 0) (i := 0) rfl) D fun D => (qC fl_X3_33 rfl D fun D => (qX (s_callSN ok_X11_copy mo_X11_copy (ch_5_0_ok.2.2.2.2.2.2.2.2.2.2.1.2 rfl) (ch_5_0_ok.1.1 rfl)) rfl (by decide) D fun D => (q1 (s_aldn (n := 0) (i := 0) rfl) D fun D => (q1 (s_aldn (n := 1) (i := 1) rfl) D fun D => (qC fl_X3_40 rfl D fun D => (qP pl_X3_40 rfl (Or.inl rfl) D fun D => (q1 (s_aldn (n := 0) (i := 0) rfl) D fun D => (q1 (s_aldn (n := 1) (i := 1) rfl) D fun D => (qC fl_X3_47 rfl D fun D => (qP pl_X3_47 rfl (Or.inl rfl) D fun D => (q1 (s_aldn (n := 0) (i := 0) rfl) D fun D => (q1 (s_aldn (n := 1) (i := 1) rfl) D fun D => (qC fl_X3_69 rfl D fun D => (qP pl_X3_69 rfl (Or.inl rfl) D fun D => (qV rfl D)))))))))))))))))))))))))))))))))))))))))))))))))))))))))))))

set_option maxRecDepth 100000 in
set_option maxHeartbeats 4000000 in
theorem ok_X3_copyFrom : ctr 2 MX3_copyFrom T_X3_copyFrom := by
  refine ctr_of pn_X3 wc_X3_copyFrom (fun av h Q hT => ?_)
  unfold T_X3_copyFrom at hT
  split at hT
  · rename_i a b
    refine ⟨⟨by simp [Value.category], Nat.le_of_ble_eq_true rfl⟩, s_X3_copyFrom_0 Q _ _ _ ?_⟩
    obtain ⟨s, s', r, r', rfl, rfl, hl1, hl2, hq⟩ := hT
    have f1 := hl1.bf
    have f2 := hl2.bf
    have hq' : ∀ X, CW r r' lc_X3 h X → Q none X := fun X e => by rw [e]; exact hq
    clear hq
    simp only [MX3_copyFrom, b_X3_copyFrom_0, T_X11_copy, i_push, i_ild, i_ald, i_ist, i_ast, i_inc, i_bin, i_un, i_divs, i_i2l, i_lshl, i_lor, i_dup, i_dup2, i_pop, i_if, i_cmp, i_nul, i_vret, i_iret, i_zret, i_aret, i_keep, keep, lget, lset, ent, i_getI, i_getJ, i_getR, i_getN, i_putI, i_putZ, i_putJ, i_putR, i_iald, i_bald, i_alen, i_aald, i_iast, i_bast, i_aast, i_new, i_newa, i_anew, i_oini, i_callS, i_callV, i_callI, popn, sh4, i_sw, swP, i_copy, i_binS, List.map, Option.toList_none, Option.toList_some, List.append, List.nil_append, List.cons_append, List.length_cons, List.length_nil, List.replicate, Nat.sub_self, Nat.reduceSub, Nat.reduceAdd, hK_pX, hL_pX, hR_pX, hJ_pX, hT_pX, hS_pX, hK_pR, hL_pR, hI_pR, hR_pR, hJ_pR, hT_pR, hS_pR, hK_pJ, hL_pJ, hI_pJ, hR_pJ, hJ_pJ, hT_pJ, hS_pJ, hK_wI, hL_wI, hR_wI, hJ_wI, hT_wI, hS_wI, eq_self, and_true, true_and, and_false, false_and, or_true, true_or, or_false, false_or, if_true, if_false, not_true_eq_false, not_false_eq_true, forall_const, implies_true, false_implies, true_implies, Option.some.injEq, forall_eq', exists_eq_left', reduceCtorEq, Nat.reduceEqDiff, c1, T_X12_in, T_X12_ones, T_X11_within, T_X11_bit, T_X11_isIn, T_X11_oneIfIn, T_J6_bitCount_0f7a4, hK_cp, hL_cp, hR_cp, hT_cp, f1, f2, Nat.reduceLeDiff]
    exact hq' _ ((((((((((((((((((((((((((CW.z _ _ _).p 4 0)).p 4 1)).c 5 24)).c 6 24)).c 7 24)).c 8 24)).c 9 24)).c 10 24)).c 11 24)).c 12 24)).p 4 10)).p 4 11)).p 4 12)
  · exact hT.elim

def lc_X0 : List (Nat × Nat × Nat) := [(13, 0, 1), (14, 0, 8), (15, 0, 8), (16, 0, 8), (17, 0, 8)]
def T_X0_copyFrom : Tr := fun av h Q => match av with
  | [.ref a, .ref b] => ∃ s s' r r', a = (r' + 13) ∧ b = (r + 13) ∧ LayS h s r ∧ LayS h s' r' ∧ Q none (wI h (cpL r r' lc_X0 (hI h)))
  | _ => False
def L_X0_copyFrom : List UInt8 := [42, 43, 180, 0, 24, 181, 0, 24, 43, 180, 0, 9, 42, 180, 0, 9, 184, 0, 42, 43, 180, 0, 15, 42, 180, 0, 15, 184, 0, 42, 43, 180, 0, 18, 42, 180, 0, 18, 184, 0, 42, 43, 180, 0, 21, 42, 180, 0, 21, 184, 0, 42, 177]
theorem Lc_X0_copyFrom : MX0_copyFrom.2.1 = ⟨L_X0_copyFrom.toArray⟩ := rfl
theorem D_X0_copyFrom_0 : dseq MX0_copyFrom.2.1 0 [(.aload_n 0, 1), (.aload_n 1, 1), (.getfield 24, 3), (.putfield 24, 3), (.aload_n 1, 1), (.getfield 9, 3), (.aload_n 0, 1), (.getfield 9, 3), (.invokestatic 42, 3), (.aload_n 1, 1), (.getfield 15, 3), (.aload_n 0, 1), (.getfield 15, 3), (.invokestatic 42, 3), (.aload_n 1, 1), (.getfield 18, 3), (.aload_n 0, 1), (.getfield 18, 3), (.invokestatic 42, 3), (.aload_n 1, 1), (.getfield 21, 3), (.aload_n 0, 1), (.getfield 21, 3), (.invokestatic 42, 3), (.return_, 1)] := dq Lc_X0_copyFrom 0 _ (by decide +kernel)
def b_X0_copyFrom_0 (Q : Option Value → Hp → Prop) : Kt := i_ald 0 (i_ald 1 (i_getI 0 0 (i_putI 0 0 (i_ald 1 (i_getR 0 1 (i_ald 0 (i_getR 0 1 (i_callS 2 T_X11_copy (i_ald 1 (i_getR 0 2 (i_ald 0 (i_getR 0 2 (i_callS 2 T_X11_copy (i_ald 1 (i_getR 0 3 (i_ald 0 (i_getR 0 3 (i_callS 2 T_X11_copy (i_ald 1 (i_getR 0 4 (i_ald 0 (i_getR 0 4 (i_callS 2 T_X11_copy (i_vret Q))))))))))))))))))))))))
set_option maxRecDepth 100000 in
theorem s_X0_copyFrom_0 (Q : Option Value → Hp → Prop) : ∀ A st h, b_X0_copyFrom_0 Q A st h → wp 2 MX0_copyFrom Q 0 A st h := (q1 (s_aldn (n := 0) (i := 0) rfl) D_X0_copyFrom_0 fun D => (q1 (s_aldn (n := 1) (i := 1) rfl) D fun D => (qC fl_X0_24 rfl D fun D => (qP pl_X0_24 rfl (Or.inl rfl) D fun D => (q1 (s_aldn (n := 1) (i := 1) rfl) D fun D => (qC fl_X0_9 rfl D fun D => (q1 (s_aldn (n := 0) (i := 0) rfl) D fun D => (qC fl_X0_9 rfl D fun D => (qX (s_callSN ok_X11_copy mo_X11_copy (ch_5_0_ok.2.2.2.2.2.2.2.2.2.2.2.2.2.2.2.1.2 rfl) (ch_5_0_ok.1.1 rfl)) rfl (by decide) D fun D => (q1 (s_aldn (n := 1) (i := 1) rfl) D fun D => (qC fl_X0_15 rfl D fun D => (q1 (s_aldn (n := 0) (i := 0) rfl) D fun D => (qC fl_X0_15 rfl D fun D => (qX (s_callSN ok_X11_copy mo_X11_copy (ch_5_0_ok.2.2.2.2.2.2.2.2.2.2.2.2.2.2.2.1.2 rfl) (ch_5_0_ok.1.1 rfl)) rfl (by decide) D fun D => (q1 (s_aldn (n := 1) (i := 1) rfl) D fun D => (qC fl_X0_18 rfl D fun D => (q1 (s_aldn (n := 0) (i := 0) rfl) D fun D => (qC fl_X0_18 rfl D fun D => (qX (s_callSN ok_X11_copy mo_X11_copy (ch_5_0_ok.2.2.2.2.2.2.2.2.2.2.2.2.2.2.2.1.2 rfl) (ch_5_0_ok.1.1 rfl)) rfl (by decide) D fun D => (q1 (s_aldn (n := 1) (i := 1) rfl) D fun D => (qC fl_X0_21 rfl D fun D => (q1 (s_aldn (n := 0) (i := 0) rfl) D fun D => (qC fl_X0_21 rfl D fun D => (qX (s_callSN ok_X11_copy mo_X11_copy (ch_5_0_ok.2.2.2.2.2.2.2.2.2.2.2.2.2.2.2.1.2 rfl) (ch_5_0_ok.1.1 rfl)) rfl (by decide) D fun D => (qV rfl D)))))))))))))))))))))))))

set_option maxRecDepth 100000 in
set_option maxHeartbeats 4000000 in
theorem ok_X0_copyFrom : ctr 2 MX0_copyFrom T_X0_copyFrom := by
  refine ctr_of pn_X0 wc_X0_copyFrom (fun av h Q hT => ?_)
  unfold T_X0_copyFrom at hT
  split at hT
  · rename_i a b
    refine ⟨⟨by simp [Value.category], Nat.le_of_ble_eq_true rfl⟩, s_X0_copyFrom_0 Q _ _ _ ?_⟩
    obtain ⟨s, s', r, r', rfl, rfl, hl1, hl2, hq⟩ := hT
    have f1 := hl1.bf
    have f2 := hl2.bf
    have hq' : ∀ X, CW r r' lc_X0 h X → Q none X := fun X e => by rw [e]; exact hq
    clear hq
    simp only [MX0_copyFrom, b_X0_copyFrom_0, T_X11_copy, i_push, i_ild, i_ald, i_ist, i_ast, i_inc, i_bin, i_un, i_divs, i_i2l, i_lshl, i_lor, i_dup, i_dup2, i_pop, i_if, i_cmp, i_nul, i_vret, i_iret, i_zret, i_aret, i_keep, keep, lget, lset, ent, i_getI, i_getJ, i_getR, i_getN, i_putI, i_putZ, i_putJ, i_putR, i_iald, i_bald, i_alen, i_aald, i_iast, i_bast, i_aast, i_new, i_newa, i_anew, i_oini, i_callS, i_callV, i_callI, popn, sh4, i_sw, swP, i_copy, i_binS, List.map, Option.toList_none, Option.toList_some, List.append, List.nil_append, List.cons_append, List.length_cons, List.length_nil, List.replicate, Nat.sub_self, Nat.reduceSub, Nat.reduceAdd, hK_pX, hL_pX, hR_pX, hJ_pX, hT_pX, hS_pX, hK_pR, hL_pR, hI_pR, hR_pR, hJ_pR, hT_pR, hS_pR, hK_pJ, hL_pJ, hI_pJ, hR_pJ, hJ_pJ, hT_pJ, hS_pJ, hK_wI, hL_wI, hR_wI, hJ_wI, hT_wI, hS_wI, eq_self, and_true, true_and, and_false, false_and, or_true, true_or, or_false, false_or, if_true, if_false, not_true_eq_false, not_false_eq_true, forall_const, implies_true, false_implies, true_implies, Option.some.injEq, forall_eq', exists_eq_left', reduceCtorEq, Nat.reduceEqDiff, c1, T_X12_in, T_X12_ones, T_X11_within, T_X11_bit, T_X11_isIn, T_X11_oneIfIn, T_J6_bitCount_0f7a4, hK_cp, hL_cp, hR_cp, hT_cp, f1, f2, Nat.reduceLeDiff]
    exact hq' _ ((((((((((CW.z _ _ _).p 13 0)).c 14 8)).c 15 8)).c 16 8)).c 17 8)
  · exact hT.elim
