/-! ===== the reference: the rooms of those who were taken ===== -/
def slpOk (I : Nat → Nat → Int32) (R : Nat) (p : Nat) : Prop := I 60 p = -1 ∨ ∃ s, s < R ∧ I 60 p = nI s
def T_X12_placeAll : Tr := fun av h Q => match av with
  | [.ref o, .int tk] => o = 44 ∧ LayM h ∧ pct tk ≤ 17 ∧ ∃ R P, PreC (hI (eR h 4)) R P tk ∧ Fit (hI (eR h 4)) R tk ∧ (∀ p, p < P → bt tk p = true → slpOk (hI h) R p) ∧ Q none (wI h (plM (hI (eR h 4)) tk (plF (hI (eR h 4)) R tk P) P))
  | _ => False
def L_X12_placeAll : List UInt8 := [42, 182, 1, 54, 27, 61, 3, 62, 29, 42, 180, 0, 32, 3, 46, 162, 0, 110, 28, 29, 122, 4, 126, 154, 0, 6, 167, 0, 93, 28, 4, 29, 120, 2, 130, 126, 61, 42, 180, 0, 56, 29, 46, 54, 4, 21, 4, 2, 159, 0, 18, 42, 29, 21, 4, 28, 182, 1, 57, 153, 0, 7, 4, 167, 0, 4, 3, 54, 5, 3, 54, 6, 21, 6, 42, 180, 0, 13, 3, 46, 162, 0, 39, 21, 5, 154, 0, 34, 21, 6, 21, 4, 159, 0, 18, 42, 29, 21, 6, 28, 182, 1, 57, 153, 0, 7, 4, 167, 0, 4, 3, 54, 5, 132, 6, 1, 167, 255, 212, 132, 3, 1, 167, 255, 142, 177]
theorem Lc_X12_placeAll : MX12_placeAll.2.1 = ⟨L_X12_placeAll.toArray⟩ := rfl
theorem D_X12_placeAll_0 : dseq MX12_placeAll.2.1 0 [(.aload_n 0, 1), (.invokevirtual 310, 3), (.iload_n 1, 1), (.istore_n 2, 1), (.iconst 0, 1), (.istore_n 3, 1)] := dq Lc_X12_placeAll 0 _ (by decide +kernel)
theorem D_X12_placeAll_8 : dseq MX12_placeAll.2.1 8 [(.iload_n 3, 1), (.aload_n 0, 1), (.getfield 32, 3), (.iconst 0, 1), (.iaload, 1), (.if_icmp .ge 110, 3), (.iload_n 2, 1), (.iload_n 3, 1), (.ishr, 1), (.iconst 1, 1), (.iand, 1), (.ifCond .ne 6, 3), (.goto 93, 3)] := dq Lc_X12_placeAll 8 _ (by decide +kernel)
theorem D_X12_placeAll_125 : dseq MX12_placeAll.2.1 125 [(.return_, 1)] := dq Lc_X12_placeAll 125 _ (by decide +kernel)
theorem D_X12_placeAll_29 : dseq MX12_placeAll.2.1 29 [(.iload_n 2, 1), (.iconst 1, 1), (.iload_n 3, 1), (.ishl, 1), (.iconst (-1), 1), (.ixor, 1), (.iand, 1), (.istore_n 2, 1), (.aload_n 0, 1), (.getfield 56, 3), (.iload_n 3, 1), (.iaload, 1), (.istore 4, 2), (.iload 4, 2), (.iconst (-1), 1), (.if_icmp .eq 18, 3), (.aload_n 0, 1), (.iload_n 3, 1), (.iload 4, 2), (.iload_n 2, 1), (.invokevirtual 313, 3), (.ifCond .eq 7, 3), (.iconst 1, 1), (.goto 4, 3)] := dq Lc_X12_placeAll 29 _ (by decide +kernel)
theorem D_X12_placeAll_66 : dseq MX12_placeAll.2.1 66 [(.iconst 0, 1)] := dq Lc_X12_placeAll 66 _ (by decide +kernel)
theorem D_X12_placeAll_67 : dseq MX12_placeAll.2.1 67 [(.istore 5, 2), (.iconst 0, 1), (.istore 6, 2)] := dq Lc_X12_placeAll 67 _ (by decide +kernel)
theorem D_X12_placeAll_72 : dseq MX12_placeAll.2.1 72 [(.iload 6, 2), (.aload_n 0, 1), (.getfield 13, 3), (.iconst 0, 1), (.iaload, 1), (.if_icmp .ge 39, 3), (.iload 5, 2), (.ifCond .ne 34, 3), (.iload 6, 2), (.iload 4, 2), (.if_icmp .eq 18, 3), (.aload_n 0, 1), (.iload_n 3, 1), (.iload 6, 2), (.iload_n 2, 1), (.invokevirtual 313, 3), (.ifCond .eq 7, 3), (.iconst 1, 1), (.goto 4, 3)] := dq Lc_X12_placeAll 72 _ (by decide +kernel)
theorem D_X12_placeAll_110 : dseq MX12_placeAll.2.1 110 [(.iconst 0, 1)] := dq Lc_X12_placeAll 110 _ (by decide +kernel)
theorem D_X12_placeAll_111 : dseq MX12_placeAll.2.1 111 [(.istore 5, 2), (.iinc 6 1, 3), (.goto (-44), 3)] := dq Lc_X12_placeAll 111 _ (by decide +kernel)
theorem D_X12_placeAll_119 : dseq MX12_placeAll.2.1 119 [(.iinc 3 1, 3), (.goto (-114), 3)] := dq Lc_X12_placeAll 119 _ (by decide +kernel)
def c_X12_placeAll_4 (Q : Option Value → Hp → Prop) : Kt := i_ild 1 (i_ist 2 (i_push (.int 0) (i_ist 3 (i_keep [true, false, true, true, false, false, false] (wp 22 MX12_placeAll Q 8)))))
def c_X12_placeAll_59 (Q : Option Value → Hp → Prop) : Kt := i_if (fun x => x = 0) (i_keep [true, false, true, true, true, false, false] (wp 22 MX12_placeAll Q 66)) (i_push (.int 1) (i_keep [true, false, true, true, true, false, false] (wp 22 MX12_placeAll Q 67)))
def c_X12_placeAll_103 (Q : Option Value → Hp → Prop) : Kt := i_if (fun x => x = 0) (i_keep [true, false, true, true, true, false, true] (wp 22 MX12_placeAll Q 110)) (i_push (.int 1) (i_keep [true, false, true, true, true, false, true] (wp 22 MX12_placeAll Q 111)))
def b_X12_placeAll_0 (Q : Option Value → Hp → Prop) : Kt := i_ald 0 (i_callV 12 0 T_X12_emptyRooms (c_X12_placeAll_4 Q))
set_option maxRecDepth 100000 in
theorem s_X12_placeAll_0 (Q : Option Value → Hp → Prop) : ∀ A st h, b_X12_placeAll_0 Q A st h → wp 22 MX12_placeAll Q 0 A st h := (q1 (s_aldn (n := 0) (i := 0) rfl) D_X12_placeAll_0 fun D => (qX (s_callV kX12 rfl ok_X12_emptyRooms mo_X12_emptyRooms (ch_6_6_ok.2.2.2.2.2.2.2.2.2.2.2.2.2.2.2.1.1 rfl) (ch_6_7_ok.2.1.1 rfl) (pv_3.2.2.2.2.2.2.2.2.1)) rfl (by decide) D fun D => (q1 (s_ildn (n := 1) (i := 1) rfl) D fun D => (qL (s_istn (n := 2) (i := 2) rfl) (by decide) D fun D => (q1 (s_iconst (n := 0) (v := 0) (by decide)) D fun D => (qL (s_istn (n := 3) (i := 3) rfl) (by decide) D fun D => (s_keep [true, false, true, true, false, false, false] fun _ _ _ h => h)))))))
def b_X12_placeAll_8 (Q : Option Value → Hp → Prop) : Kt := i_ild 3 (i_ald 0 (i_getR 12 9 (i_push (.int 0) (i_iald (i_cmp (fun x y => y ≤ x) (i_vret Q) (i_ild 2 (i_ild 3 (i_bin (fun x y => x >>> (y &&& 31)) (i_push (.int 1) (i_bin (fun x y => x &&& y) (i_if (fun x => x = 0) (i_keep [true, false, true, true, false, false, false] (wp 22 MX12_placeAll Q 119)) (i_ild 2 (i_push (.int 1) (i_ild 3 (i_bin (fun x y => x <<< (y &&& 31)) (i_push (.int (-1)) (i_bin (fun x y => x ^^^ y) (i_bin (fun x y => x &&& y) (i_ist 2 (i_ald 0 (i_getR 12 17 (i_ild 3 (i_iald (i_ist 4 (i_ild 4 (i_push (.int (-1)) (i_cmp (fun x y => x = y) (i_keep [true, false, true, true, true, false, false] (wp 22 MX12_placeAll Q 66)) (i_ald 0 (i_ild 3 (i_ild 4 (i_ild 2 (i_callV 12 3 T_X12_triesRoom (c_X12_placeAll_59 Q)))))))))))))))))))))))))))))))))
set_option maxRecDepth 100000 in
theorem s_X12_placeAll_8 (Q : Option Value → Hp → Prop) : ∀ A st h, b_X12_placeAll_8 Q A st h → wp 22 MX12_placeAll Q 8 A st h := (q1 (s_ildn (n := 3) (i := 3) rfl) D_X12_placeAll_8 fun D => (q1 (s_aldn (n := 0) (i := 0) rfl) D fun D => (qC fl_X12_32 rfl D fun D => (q1 (s_iconst (n := 0) (v := 0) (by decide)) D fun D => (q1 s_iald D fun D => (qB s_cmpge 125 (by decide) D (qV rfl D_X12_placeAll_125) fun D => (q1 (s_ildn (n := 2) (i := 2) rfl) D fun D => (q1 (s_ildn (n := 3) (i := 3) rfl) D fun D => (q1 s_shr D fun D => (q1 (s_iconst (n := 1) (v := 1) (by decide)) D fun D => (q1 s_and D fun D => (qBn s_ifne2 29 (by decide) D (q1 (s_ildn (n := 2) (i := 2) rfl) D_X12_placeAll_29 fun D => (q1 (s_iconst (n := 1) (v := 1) (by decide)) D fun D => (q1 (s_ildn (n := 3) (i := 3) rfl) D fun D => (q1 s_shl D fun D => (q1 (s_iconst (n := (-1)) (v := (-1)) (by decide)) D fun D => (q1 s_xor D fun D => (q1 s_and D fun D => (qL (s_istn (n := 2) (i := 2) rfl) (by decide) D fun D => (q1 (s_aldn (n := 0) (i := 0) rfl) D fun D => (qC fl_X12_56 rfl D fun D => (q1 (s_ildn (n := 3) (i := 3) rfl) D fun D => (q1 s_iald D fun D => (qL s_ist (by decide) D fun D => (q1 s_ild D fun D => (q1 (s_iconst (n := (-1)) (v := (-1)) (by decide)) D fun D => (qB s_cmpeq 66 (by decide) D (s_keep [true, false, true, true, true, false, false] fun _ _ _ h => h) fun D => (q1 (s_aldn (n := 0) (i := 0) rfl) D fun D => (q1 (s_ildn (n := 3) (i := 3) rfl) D fun D => (q1 s_ild D fun D => (q1 (s_ildn (n := 2) (i := 2) rfl) D fun D => (qX (s_callV kX12 rfl ok_X12_triesRoom mo_X12_triesRoom (ch_6_9_ok.2.2.2.1.1 rfl) (ch_6_9_ok.2.2.2.2.2.1.1 rfl) (pv_4.2.1)) rfl (by decide) D fun D => (qB s_ifeq 66 (by decide) D (s_keep [true, false, true, true, true, false, false] fun _ _ _ h => h) fun D => (q1 (s_iconst (n := 1) (v := 1) (by decide)) D fun D => (qG 67 (by decide) D (s_keep [true, false, true, true, true, false, false] fun _ _ _ h => h))))))))))))))))))))))))) fun D => (qG 119 (by decide) D (s_keep [true, false, true, true, false, false, false] fun _ _ _ h => h))))))))))))))
def b_X12_placeAll_66 (Q : Option Value → Hp → Prop) : Kt := i_push (.int 0) (i_keep [true, false, true, true, true, false, false] (wp 22 MX12_placeAll Q 67))
set_option maxRecDepth 100000 in
theorem s_X12_placeAll_66 (Q : Option Value → Hp → Prop) : ∀ A st h, b_X12_placeAll_66 Q A st h → wp 22 MX12_placeAll Q 66 A st h := (q1 (s_iconst (n := 0) (v := 0) (by decide)) D_X12_placeAll_66 fun D => (s_keep [true, false, true, true, true, false, false] fun _ _ _ h => h))
def b_X12_placeAll_67 (Q : Option Value → Hp → Prop) : Kt := i_ist 5 (i_push (.int 0) (i_ist 6 (i_keep [true, false, true, true, true, true, true] (wp 22 MX12_placeAll Q 72))))
set_option maxRecDepth 100000 in
theorem s_X12_placeAll_67 (Q : Option Value → Hp → Prop) : ∀ A st h, b_X12_placeAll_67 Q A st h → wp 22 MX12_placeAll Q 67 A st h := (qL s_ist (by decide) D_X12_placeAll_67 fun D => (q1 (s_iconst (n := 0) (v := 0) (by decide)) D fun D => (qL s_ist (by decide) D fun D => (s_keep [true, false, true, true, true, true, true] fun _ _ _ h => h))))
def b_X12_placeAll_72 (Q : Option Value → Hp → Prop) : Kt := i_ild 6 (i_ald 0 (i_getR 12 3 (i_push (.int 0) (i_iald (i_cmp (fun x y => y ≤ x) (i_keep [true, false, true, true, false, false, false] (wp 22 MX12_placeAll Q 119)) (i_ild 5 (i_if (fun x => x = 0) (i_ild 6 (i_ild 4 (i_cmp (fun x y => x = y) (i_keep [true, false, true, true, true, false, true] (wp 22 MX12_placeAll Q 110)) (i_ald 0 (i_ild 3 (i_ild 6 (i_ild 2 (i_callV 12 3 T_X12_triesRoom (c_X12_placeAll_103 Q))))))))) (i_keep [true, false, true, true, false, false, false] (wp 22 MX12_placeAll Q 119)))))))))
set_option maxRecDepth 100000 in
theorem s_X12_placeAll_72 (Q : Option Value → Hp → Prop) : ∀ A st h, b_X12_placeAll_72 Q A st h → wp 22 MX12_placeAll Q 72 A st h := (q1 s_ild D_X12_placeAll_72 fun D => (q1 (s_aldn (n := 0) (i := 0) rfl) D fun D => (qC fl_X12_13 rfl D fun D => (q1 (s_iconst (n := 0) (v := 0) (by decide)) D fun D => (q1 s_iald D fun D => (qB s_cmpge 119 (by decide) D (s_keep [true, false, true, true, false, false, false] fun _ _ _ h => h) fun D => (q1 s_ild D fun D => (qBn s_ifne2 119 (by decide) D (s_keep [true, false, true, true, false, false, false] fun _ _ _ h => h) fun D => (q1 s_ild D fun D => (q1 s_ild D fun D => (qB s_cmpeq 110 (by decide) D (s_keep [true, false, true, true, true, false, true] fun _ _ _ h => h) fun D => (q1 (s_aldn (n := 0) (i := 0) rfl) D fun D => (q1 (s_ildn (n := 3) (i := 3) rfl) D fun D => (q1 s_ild D fun D => (q1 (s_ildn (n := 2) (i := 2) rfl) D fun D => (qX (s_callV kX12 rfl ok_X12_triesRoom mo_X12_triesRoom (ch_6_9_ok.2.2.2.1.1 rfl) (ch_6_9_ok.2.2.2.2.2.1.1 rfl) (pv_4.2.1)) rfl (by decide) D fun D => (qB s_ifeq 110 (by decide) D (s_keep [true, false, true, true, true, false, true] fun _ _ _ h => h) fun D => (q1 (s_iconst (n := 1) (v := 1) (by decide)) D fun D => (qG 111 (by decide) D (s_keep [true, false, true, true, true, false, true] fun _ _ _ h => h))))))))))))))))))))
def b_X12_placeAll_110 (Q : Option Value → Hp → Prop) : Kt := i_push (.int 0) (i_keep [true, false, true, true, true, false, true] (wp 22 MX12_placeAll Q 111))
set_option maxRecDepth 100000 in
theorem s_X12_placeAll_110 (Q : Option Value → Hp → Prop) : ∀ A st h, b_X12_placeAll_110 Q A st h → wp 22 MX12_placeAll Q 110 A st h := (q1 (s_iconst (n := 0) (v := 0) (by decide)) D_X12_placeAll_110 fun D => (s_keep [true, false, true, true, true, false, true] fun _ _ _ h => h))
def b_X12_placeAll_111 (Q : Option Value → Hp → Prop) : Kt := i_ist 5 (i_inc 6 1 (i_keep [true, false, true, true, true, true, true] (wp 22 MX12_placeAll Q 72)))
set_option maxRecDepth 100000 in
theorem s_X12_placeAll_111 (Q : Option Value → Hp → Prop) : ∀ A st h, b_X12_placeAll_111 Q A st h → wp 22 MX12_placeAll Q 111 A st h := (qL s_ist (by decide) D_X12_placeAll_111 fun D => (qL (s_inc (i := 6) (n := 1) (v := 1) (by decide)) (by decide) D fun D => (qG 72 (by decide) D (s_keep [true, false, true, true, true, true, true] fun _ _ _ h => h))))
def b_X12_placeAll_119 (Q : Option Value → Hp → Prop) : Kt := i_inc 3 1 (i_keep [true, false, true, true, false, false, false] (wp 22 MX12_placeAll Q 8))
set_option maxRecDepth 100000 in
theorem s_X12_placeAll_119 (Q : Option Value → Hp → Prop) : ∀ A st h, b_X12_placeAll_119 Q A st h → wp 22 MX12_placeAll Q 119 A st h := (qL (s_inc (i := 3) (n := 1) (v := 1) (by decide)) (by decide) D_X12_placeAll_119 fun D => (qG 8 (by decide) D (s_keep [true, false, true, true, false, false, false] fun _ _ _ h => h)))

theorem nI_m1 (n : Nat) (hn : n < 2147483648) : ¬ nI n = -1 := by
  intro h
  have h1 : (nI n).toInt = (-1 : Int32).toInt := by rw [h]
  rw [nI_toInt (by omega)] at h1
  have h2 : (-1 : Int32).toInt = -1 := by decide +kernel
  rw [h2] at h1
  omega
theorem pct_lfB (tk : Int32) : ∀ p, p ≤ 32 → pct (lfB tk p) ≤ pct tk := by
  intro p hp
  rw [pct_ct, pct_ct]
  apply fb_ct_sub
  intro k _ h
  rw [b_lfB _ _ hp] at h
  simp only [Bool.and_eq_true] at h
  exact h.1
set_option maxRecDepth 100000 in
set_option maxHeartbeats 4000000 in
theorem pa_8 (Q : Option Value → Hp → Prop) (h : Hp) (hl0 : LayM h) (tk : Int32) (h17 : pct tk ≤ 17) (R P : Nat) (I : Nat → Nat → Int32) (hp : PreC I R P tk) (hf : Fit I R tk) (hs : ∀ p, p < P → bt tk p = true → slpOk I R p) (hq : Q none (wI h (plM I tk (plF I R tk P) P))) :
    ∀ (m p : Nat), m = P - p → p ≤ P → wp 22 MX12_placeAll Q 8 [some (.ref 44), none, some (.int (lfB tk p)), some (.int (nI p)), none, none, none] [] (wI h (plM I tk (plF I R tk p) p)) := by
  obtain ⟨hR, hP, h46, h52, hlt, hdis, hrm, hsy⟩ := id hp
  intro m
  induction m with
  | zero =>
    intro p hm hpP
    have e : p = P := by omega
    subst e
    have hl : LayM (wI h (plM I tk (plF I R tk p) p)) := hl0.wI _
    have e52 : hI (wI h (plM I tk (plF I R tk p) p)) 52 0 = nI p := by rw [hI_wI, plM_o _ _ _ (by decide)]; exact h52
    refine s_X12_placeAll_8 Q _ _ _ ?_
    generalize wI h (plM I tk (plF I R tk p) p) = g at hl e52 hq ⊢
    simp only [b_X12_placeAll_8, hl, lay_pI, lay_wI, lay_pJ, lm_t hl, lm_k hl, lm_r hl, lm_l hl, i_push, i_ild, i_ald, i_ist, i_ast, i_inc, i_bin, i_un, i_divs, i_i2l, i_lshl, i_lor, i_dup, i_dup2, i_pop, i_if, i_cmp, i_nul, i_vret, i_iret, i_zret, i_aret, i_keep, keep, lget, lset, ent, i_getI, i_getJ, i_getR, i_getN, i_putI, i_putZ, i_putJ, i_putR, i_iald, i_bald, i_alen, i_aald, i_iast, i_bast, i_aast, i_new, i_newa, i_anew, i_oini, i_callS, i_callV, i_callI, popn, sh4, i_sw, swP, i_copy, i_binS, List.map, Option.toList_none, Option.toList_some, List.append, List.nil_append, List.cons_append, List.length_cons, List.length_nil, List.replicate, Nat.sub_self, Nat.reduceSub, Nat.reduceAdd, hK_pI, hL_pI, hI_pI, hR_pI, hJ_pI, hT_pI, hS_pI, hK_pR, hL_pR, hI_pR, hR_pR, hJ_pR, hT_pR, hS_pR, hK_pJ, hL_pJ, hI_pJ, hR_pJ, hJ_pJ, hT_pJ, hS_pJ, hK_wI, hL_wI, hI_wI, hR_wI, hJ_wI, hT_wI, hS_wI, eq_self, and_true, true_and, and_false, false_and, or_true, true_or, or_false, false_or, if_true, if_false, not_true_eq_false, not_false_eq_true, forall_const, implies_true, false_implies, true_implies, Option.some.injEq, forall_eq', exists_eq_left', reduceCtorEq, Nat.reduceEqDiff, c1, T_X12_in, T_X12_ones, T_X11_within, T_X11_bit, T_X11_isIn, T_X11_oneIfIn, T_J6_bitCount_0f7a4, in0 4 (by decide) (by decide), cl0, e52]
    exact ⟨fun _ => hq, fun c => absurd (nI_le (Nat.le_refl _) (by omega)) c⟩
  | succ m ih =>
    intro p hm hpP
    have hnext := ih (p + 1) (by omega) (by omega)
    have hhist := plF_hist hp hf (show p ≤ P by omega)
    have hpc := preC_pl hp (p := p) (F := plF I R tk p) (by omega) hhist
    have h119 : ∀ g, g = wI h (plM I tk (plF I R tk (p + 1)) (p + 1)) → wp 22 MX12_placeAll Q 119 [some (.ref 44), none, some (.int (lfB tk (p + 1))), some (.int (nI p)), none, none, none] [] g := by
      intro g hg
      subst hg
      refine s_X12_placeAll_119 Q _ _ _ ?_
      simp only [b_X12_placeAll_119, i_push, i_ild, i_ald, i_ist, i_ast, i_inc, i_bin, i_un, i_divs, i_i2l, i_lshl, i_lor, i_dup, i_dup2, i_pop, i_if, i_cmp, i_nul, i_vret, i_iret, i_zret, i_aret, i_keep, keep, lget, lset, ent, i_getI, i_getJ, i_getR, i_getN, i_putI, i_putZ, i_putJ, i_putR, i_iald, i_bald, i_alen, i_aald, i_iast, i_bast, i_aast, i_new, i_newa, i_anew, i_oini, i_callS, i_callV, i_callI, popn, sh4, i_sw, swP, i_copy, i_binS, List.map, Option.toList_none, Option.toList_some, List.append, List.nil_append, List.cons_append, List.length_cons, List.length_nil, List.replicate, Nat.sub_self, Nat.reduceSub, Nat.reduceAdd, hK_pI, hL_pI, hI_pI, hR_pI, hJ_pI, hT_pI, hS_pI, hK_pR, hL_pR, hI_pR, hR_pR, hJ_pR, hT_pR, hS_pR, hK_pJ, hL_pJ, hI_pJ, hR_pJ, hJ_pJ, hT_pJ, hS_pJ, hK_wI, hL_wI, hI_wI, hR_wI, hJ_wI, hT_wI, hS_wI, eq_self, and_true, true_and, and_false, false_and, or_true, true_or, or_false, false_or, if_true, if_false, not_true_eq_false, not_false_eq_true, forall_const, implies_true, false_implies, true_implies, Option.some.injEq, forall_eq', exists_eq_left', reduceCtorEq, Nat.reduceEqDiff, c1, T_X12_in, T_X12_ones, T_X11_within, T_X11_bit, T_X11_isIn, T_X11_oneIfIn, T_J6_bitCount_0f7a4, nI_1]
      exact hnext
    by_cases c : bt tk p = true
    · have hb : bt (lfB tk p) p = true := by rw [b_lfB _ _ (by omega), c]; simp
      have el : lfB tk (p + 1) = offB (lfB tk p) p := if_pos c
      obtain ⟨fx, fx1, fx2⟩ := plF_ext hR hf p
      have hex : ∃ r, Ext I R tk (plF I R tk p) p r := ⟨fx p, fx, fx1, fx2, rfl⟩
      have hdb := pl_dis hp (by omega) hhist c
      have h60 : ∀ i, plM I tk (plF I R tk p) p 60 i = I 60 i := fun i => by rw [plM_o _ _ _ (by decide)]
      have hfin : ∀ r, r < R → pick I R tk (plF I R tk p) p = r → pI (wI h (plM I tk (plF I R tk p) p)) 88 r (hI (wI h (plM I tk (plF I R tk p) p)) 88 r ||| bitI p) = wI h (plM I tk (plF I R tk (p + 1)) (p + 1)) := by
        intro r hr e
        have e1 : plM I tk (plF I R tk (p + 1)) (p + 1) = addB (plM I tk (plF I R tk p) p) p r := by
          show (if _ then _ else _) = _
          rw [if_pos c, plF_at c, e]
          rw [plM_congr (G := plF I R tk p) (fun q hq _ => plF_keep _ _ _ _ _ (by omega))]
        rw [e1]
        rfl
      have hl : LayM (wI h (plM I tk (plF I R tk p) p)) := hl0.wI _
      have hIe : hI (wI h (plM I tk (plF I R tk p) p)) = plM I tk (plF I R tk p) p := rfl
      have hte : ∀ r, r < R → ((mayF (hI (wI h (plM I tk (plF I R tk p) p))) R p r ∧ Fit (addB (hI (wI h (plM I tk (plF I R tk p) p))) p r) R (lfB tk (p + 1))) ↔ Ext I R tk (plF I R tk p) p r) := fun r hr => by
        rw [hIe]; exact try_ext hp (by omega) hhist c hr
      have hpc2 : PreC (hI (wI h (plM I tk (plF I R tk p) p))) R P (lfB tk (p + 1)) := by rw [hIe, el]; exact preC_off hpc (by omega)
      have hdb2 : ∀ r, r < R → bt (hI (wI h (plM I tk (plF I R tk p) p)) 88 r) p = false := hdb
      have hnb : bt (lfB tk (p + 1)) p = false := by rw [b_lfB _ _ (by omega)]; simp
      have h172 : pct (lfB tk (p + 1)) ≤ 17 := Nat.le_trans (pct_lfB tk (p + 1) (by omega)) h17
      have e52 : hI (wI h (plM I tk (plF I R tk p) p)) 52 0 = nI P := by rw [hIe, plM_o _ _ _ (by decide)]; exact h52
      have e46 : hI (wI h (plM I tk (plF I R tk p) p)) 46 0 = nI R := by rw [hIe, plM_o _ _ _ (by decide)]; exact h46
      have e60 : hI (wI h (plM I tk (plF I R tk p) p)) 60 p = I 60 p := by rw [hIe, h60]
      have hs' := hs p (by omega) c
      generalize wI h (plM I tk (plF I R tk (p + 1)) (p + 1)) = gN at hnext h119 hfin
      have elo : lfB tk p &&& (1 <<< (nI p &&& 31) ^^^ -1) = lfB tk (p + 1) := by rw [el]; rfl
      generalize wI h (plM I tk (plF I R tk p) p) = g at *
      -- done: the rest of the rooms' loop
      have h72d : ∀ (r : Int32) (own : Int32), wp 22 MX12_placeAll Q 72 [some (.ref 44), none, some (.int (lfB tk (p + 1))), some (.int (nI p)), some (.int own), some (.int 1), some (.int r)] [] gN → True := fun _ _ _ => trivial
      have hlN : ∀ r, r < R → pick I R tk (plF I R tk p) p = r → LayM gN ∧ hI gN 46 0 = nI R := fun r hr e => by
        have z := hfin r hr e
        rw [← z]
        exact ⟨hl.pI _ _ _, by rw [hI_pI, if_neg (fun q => by cases q.1)]; exact e46⟩
      have hdone : ∀ (r : Nat) (x own : Int32), r < R → pick I R tk (plF I R tk p) p = r → wp 22 MX12_placeAll Q 72 [some (.ref 44), none, some (.int (lfB tk (p + 1))), some (.int (nI p)), some (.int own), some (.int 1), some (.int x)] [] gN := by
        intro r x own hr e
        obtain ⟨hl, e46⟩ := hlN r hr e
        refine s_X12_placeAll_72 Q _ _ _ ?_
        simp only [b_X12_placeAll_72, hl, lay_pI, lay_wI, lay_pJ, lm_t hl, lm_k hl, lm_r hl, lm_l hl, i_push, i_ild, i_ald, i_ist, i_ast, i_inc, i_bin, i_un, i_divs, i_i2l, i_lshl, i_lor, i_dup, i_dup2, i_pop, i_if, i_cmp, i_nul, i_vret, i_iret, i_zret, i_aret, i_keep, keep, lget, lset, ent, i_getI, i_getJ, i_getR, i_getN, i_putI, i_putZ, i_putJ, i_putR, i_iald, i_bald, i_alen, i_aald, i_iast, i_bast, i_aast, i_new, i_newa, i_anew, i_oini, i_callS, i_callV, i_callI, popn, sh4, i_sw, swP, i_copy, i_binS, List.map, Option.toList_none, Option.toList_some, List.append, List.nil_append, List.cons_append, List.length_cons, List.length_nil, List.replicate, Nat.sub_self, Nat.reduceSub, Nat.reduceAdd, hK_pI, hL_pI, hI_pI, hR_pI, hJ_pI, hT_pI, hS_pI, hK_pR, hL_pR, hI_pR, hR_pR, hJ_pR, hT_pR, hS_pR, hK_pJ, hL_pJ, hI_pJ, hR_pJ, hJ_pJ, hT_pJ, hS_pJ, hK_wI, hL_wI, hI_wI, hR_wI, hJ_wI, hT_wI, hS_wI, eq_self, and_true, true_and, and_false, false_and, or_true, true_or, or_false, false_or, if_true, if_false, not_true_eq_false, not_false_eq_true, forall_const, implies_true, false_implies, true_implies, Option.some.injEq, forall_eq', exists_eq_left', reduceCtorEq, Nat.reduceEqDiff, c1, T_X12_in, T_X12_ones, T_X11_within, T_X11_bit, T_X11_isIn, T_X11_oneIfIn, T_J6_bitCount_0f7a4, in0 4 (by decide) (by decide), cl0, e46]
        first
          | exact ⟨fun _ => h119 _ rfl, fun _ => h119 _ rfl⟩
          | exact ⟨fun _ => h119 _ rfl, fun _ => ⟨fun z => absurd z (by decide), fun _ => h119 _ rfl⟩⟩
      -- the rooms' loop, nothing found yet
      have hloop : ∀ (own : Int32), (∀ s, I 60 p = nI s → s < R → ¬ Ext I R tk (plF I R tk p) p s) → (∀ s, own = nI s → s < R → ¬ Ext I R tk (plF I R tk p) p s) → ∀ (m2 r : Nat), m2 = R - r → r ≤ R → (∀ j, j < r → ¬ Ext I R tk (plF I R tk p) p j) → wp 22 MX12_placeAll Q 72 [some (.ref 44), none, some (.int (lfB tk (p + 1))), some (.int (nI p)), some (.int own), some (.int 0), some (.int (nI r))] [] g := by
        intro own hown hown2 m2
        induction m2 with
        | zero =>
          intro r hm2 hr hall
          obtain ⟨r0, hr0⟩ := hex
          have := Ext_lt c hr0
          exact absurd hr0 (hall r0 (by omega))
        | succ m2 ih2 =>
          intro r hm2 hr hall
          have h111n : ¬ Ext I R tk (plF I R tk p) p r → wp 22 MX12_placeAll Q 111 [some (.ref 44), none, some (.int (lfB tk (p + 1))), some (.int (nI p)), some (.int own), none, some (.int (nI r))] [.int 0] g := by
            intro hn
            refine s_X12_placeAll_111 Q _ _ _ ?_
            simp only [b_X12_placeAll_111, i_push, i_ild, i_ald, i_ist, i_ast, i_inc, i_bin, i_un, i_divs, i_i2l, i_lshl, i_lor, i_dup, i_dup2, i_pop, i_if, i_cmp, i_nul, i_vret, i_iret, i_zret, i_aret, i_keep, keep, lget, lset, ent, i_getI, i_getJ, i_getR, i_getN, i_putI, i_putZ, i_putJ, i_putR, i_iald, i_bald, i_alen, i_aald, i_iast, i_bast, i_aast, i_new, i_newa, i_anew, i_oini, i_callS, i_callV, i_callI, popn, sh4, i_sw, swP, i_copy, i_binS, List.map, Option.toList_none, Option.toList_some, List.append, List.nil_append, List.cons_append, List.length_cons, List.length_nil, List.replicate, Nat.sub_self, Nat.reduceSub, Nat.reduceAdd, hK_pI, hL_pI, hI_pI, hR_pI, hJ_pI, hT_pI, hS_pI, hK_pR, hL_pR, hI_pR, hR_pR, hJ_pR, hT_pR, hS_pR, hK_pJ, hL_pJ, hI_pJ, hR_pJ, hJ_pJ, hT_pJ, hS_pJ, hK_wI, hL_wI, hI_wI, hR_wI, hJ_wI, hT_wI, hS_wI, eq_self, and_true, true_and, and_false, false_and, or_true, true_or, or_false, false_or, if_true, if_false, not_true_eq_false, not_false_eq_true, forall_const, implies_true, false_implies, true_implies, Option.some.injEq, forall_eq', exists_eq_left', reduceCtorEq, Nat.reduceEqDiff, c1, T_X12_in, T_X12_ones, T_X11_within, T_X11_bit, T_X11_isIn, T_X11_oneIfIn, T_J6_bitCount_0f7a4, nI_1]
            refine ih2 (r + 1) (by omega) (by omega) (fun j hj => ?_)
            rcases Nat.lt_or_ge j r with z | z
            · exact hall j z
            · have : j = r := by omega
              subst this; exact hn
          have h110n : ¬ Ext I R tk (plF I R tk p) p r → wp 22 MX12_placeAll Q 110 [some (.ref 44), none, some (.int (lfB tk (p + 1))), some (.int (nI p)), some (.int own), none, some (.int (nI r))] [] g := by
            intro hn
            refine s_X12_placeAll_110 Q _ _ _ ?_
            simp only [b_X12_placeAll_110, i_push, i_ild, i_ald, i_ist, i_ast, i_inc, i_bin, i_un, i_divs, i_i2l, i_lshl, i_lor, i_dup, i_dup2, i_pop, i_if, i_cmp, i_nul, i_vret, i_iret, i_zret, i_aret, i_keep, keep, lget, lset, ent, i_getI, i_getJ, i_getR, i_getN, i_putI, i_putZ, i_putJ, i_putR, i_iald, i_bald, i_alen, i_aald, i_iast, i_bast, i_aast, i_new, i_newa, i_anew, i_oini, i_callS, i_callV, i_callI, popn, sh4, i_sw, swP, i_copy, i_binS, List.map, Option.toList_none, Option.toList_some, List.append, List.nil_append, List.cons_append, List.length_cons, List.length_nil, List.replicate, Nat.sub_self, Nat.reduceSub, Nat.reduceAdd, hK_pI, hL_pI, hI_pI, hR_pI, hJ_pI, hT_pI, hS_pI, hK_pR, hL_pR, hI_pR, hR_pR, hJ_pR, hT_pR, hS_pR, hK_pJ, hL_pJ, hI_pJ, hR_pJ, hJ_pJ, hT_pJ, hS_pJ, hK_wI, hL_wI, hI_wI, hR_wI, hJ_wI, hT_wI, hS_wI, eq_self, and_true, true_and, and_false, false_and, or_true, true_or, or_false, false_or, if_true, if_false, not_true_eq_false, not_false_eq_true, forall_const, implies_true, false_implies, true_implies, Option.some.injEq, forall_eq', exists_eq_left', reduceCtorEq, Nat.reduceEqDiff, c1, T_X12_in, T_X12_ones, T_X11_within, T_X11_bit, T_X11_isIn, T_X11_oneIfIn, T_J6_bitCount_0f7a4]
            exact h111n hn
          refine s_X12_placeAll_72 Q _ _ _ ?_
          simp only [b_X12_placeAll_72, hl, lay_pI, lay_wI, lay_pJ, lm_t hl, lm_k hl, lm_r hl, lm_l hl, i_push, i_ild, i_ald, i_ist, i_ast, i_inc, i_bin, i_un, i_divs, i_i2l, i_lshl, i_lor, i_dup, i_dup2, i_pop, i_if, i_cmp, i_nul, i_vret, i_iret, i_zret, i_aret, i_keep, keep, lget, lset, ent, i_getI, i_getJ, i_getR, i_getN, i_putI, i_putZ, i_putJ, i_putR, i_iald, i_bald, i_alen, i_aald, i_iast, i_bast, i_aast, i_new, i_newa, i_anew, i_oini, i_callS, i_callV, i_callI, popn, sh4, i_sw, swP, i_copy, i_binS, List.map, Option.toList_none, Option.toList_some, List.append, List.nil_append, List.cons_append, List.length_cons, List.length_nil, List.replicate, Nat.sub_self, Nat.reduceSub, Nat.reduceAdd, hK_pI, hL_pI, hI_pI, hR_pI, hJ_pI, hT_pI, hS_pI, hK_pR, hL_pR, hI_pR, hR_pR, hJ_pR, hT_pR, hS_pR, hK_pJ, hL_pJ, hI_pJ, hR_pJ, hJ_pJ, hT_pJ, hS_pJ, hK_wI, hL_wI, hI_wI, hR_wI, hJ_wI, hT_wI, hS_wI, eq_self, and_true, true_and, and_false, false_and, or_true, true_or, or_false, false_or, if_true, if_false, not_true_eq_false, not_false_eq_true, forall_const, implies_true, false_implies, true_implies, Option.some.injEq, forall_eq', exists_eq_left', reduceCtorEq, Nat.reduceEqDiff, c1, T_X12_in, T_X12_ones, T_X11_within, T_X11_bit, T_X11_isIn, T_X11_oneIfIn, T_J6_bitCount_0f7a4, in0 4 (by decide) (by decide), cl0, e46]
          refine ⟨fun z => absurd z (nI_ge (by omega) (by omega)), fun _ => ?_⟩
          refine ⟨fun z => h110n (hown2 r z.symm (by omega)), fun z => ?_⟩
          refine ⟨rfl, hl, h172, R, P, p, r, hpc2, rfl, by omega, rfl, by omega, hnb, hdb2, fun hy => ?_, fun hy => ?_⟩
          · have he := (hte r (by omega)).mp hy
            have epick := pick_low hown he hall
            rw [hfin r (by omega) epick]
            have h111 : wp 22 MX12_placeAll Q 111 [some (.ref 44), none, some (.int (lfB tk (p + 1))), some (.int (nI p)), some (.int own), none, some (.int (nI r))] [.int 1] gN := by
              refine s_X12_placeAll_111 Q _ _ _ ?_
              simp only [b_X12_placeAll_111, i_push, i_ild, i_ald, i_ist, i_ast, i_inc, i_bin, i_un, i_divs, i_i2l, i_lshl, i_lor, i_dup, i_dup2, i_pop, i_if, i_cmp, i_nul, i_vret, i_iret, i_zret, i_aret, i_keep, keep, lget, lset, ent, i_getI, i_getJ, i_getR, i_getN, i_putI, i_putZ, i_putJ, i_putR, i_iald, i_bald, i_alen, i_aald, i_iast, i_bast, i_aast, i_new, i_newa, i_anew, i_oini, i_callS, i_callV, i_callI, popn, sh4, i_sw, swP, i_copy, i_binS, List.map, Option.toList_none, Option.toList_some, List.append, List.nil_append, List.cons_append, List.length_cons, List.length_nil, List.replicate, Nat.sub_self, Nat.reduceSub, Nat.reduceAdd, hK_pI, hL_pI, hI_pI, hR_pI, hJ_pI, hT_pI, hS_pI, hK_pR, hL_pR, hI_pR, hR_pR, hJ_pR, hT_pR, hS_pR, hK_pJ, hL_pJ, hI_pJ, hR_pJ, hJ_pJ, hT_pJ, hS_pJ, hK_wI, hL_wI, hI_wI, hR_wI, hJ_wI, hT_wI, hS_wI, eq_self, and_true, true_and, and_false, false_and, or_true, true_or, or_false, false_or, if_true, if_false, not_true_eq_false, not_false_eq_true, forall_const, implies_true, false_implies, true_implies, Option.some.injEq, forall_eq', exists_eq_left', reduceCtorEq, Nat.reduceEqDiff, c1, T_X12_in, T_X12_ones, T_X11_within, T_X11_bit, T_X11_isIn, T_X11_oneIfIn, T_J6_bitCount_0f7a4, nI_1]
              exact hdone r _ _ (by omega) epick
            simp only [c_X12_placeAll_103, i_push, i_ild, i_ald, i_ist, i_ast, i_inc, i_bin, i_un, i_divs, i_i2l, i_lshl, i_lor, i_dup, i_dup2, i_pop, i_if, i_cmp, i_nul, i_vret, i_iret, i_zret, i_aret, i_keep, keep, lget, lset, ent, i_getI, i_getJ, i_getR, i_getN, i_putI, i_putZ, i_putJ, i_putR, i_iald, i_bald, i_alen, i_aald, i_iast, i_bast, i_aast, i_new, i_newa, i_anew, i_oini, i_callS, i_callV, i_callI, popn, sh4, i_sw, swP, i_copy, i_binS, List.map, Option.toList_none, Option.toList_some, List.append, List.nil_append, List.cons_append, List.length_cons, List.length_nil, List.replicate, Nat.sub_self, Nat.reduceSub, Nat.reduceAdd, hK_pI, hL_pI, hI_pI, hR_pI, hJ_pI, hT_pI, hS_pI, hK_pR, hL_pR, hI_pR, hR_pR, hJ_pR, hT_pR, hS_pR, hK_pJ, hL_pJ, hI_pJ, hR_pJ, hJ_pJ, hT_pJ, hS_pJ, hK_wI, hL_wI, hI_wI, hR_wI, hJ_wI, hT_wI, hS_wI, eq_self, and_true, true_and, and_false, false_and, or_true, true_or, or_false, false_or, if_true, if_false, not_true_eq_false, not_false_eq_true, forall_const, implies_true, false_implies, true_implies, Option.some.injEq, forall_eq', exists_eq_left', reduceCtorEq, Nat.reduceEqDiff, c1, T_X12_in, T_X12_ones, T_X11_within, T_X11_bit, T_X11_isIn, T_X11_oneIfIn, T_J6_bitCount_0f7a4]
            first | exact h111 | exact ⟨fun z => absurd z (by decide), fun _ => h111⟩
          · have he := fun w => hy ((hte r (by omega)).mpr w)
            simp only [c_X12_placeAll_103, i_push, i_ild, i_ald, i_ist, i_ast, i_inc, i_bin, i_un, i_divs, i_i2l, i_lshl, i_lor, i_dup, i_dup2, i_pop, i_if, i_cmp, i_nul, i_vret, i_iret, i_zret, i_aret, i_keep, keep, lget, lset, ent, i_getI, i_getJ, i_getR, i_getN, i_putI, i_putZ, i_putJ, i_putR, i_iald, i_bald, i_alen, i_aald, i_iast, i_bast, i_aast, i_new, i_newa, i_anew, i_oini, i_callS, i_callV, i_callI, popn, sh4, i_sw, swP, i_copy, i_binS, List.map, Option.toList_none, Option.toList_some, List.append, List.nil_append, List.cons_append, List.length_cons, List.length_nil, List.replicate, Nat.sub_self, Nat.reduceSub, Nat.reduceAdd, hK_pI, hL_pI, hI_pI, hR_pI, hJ_pI, hT_pI, hS_pI, hK_pR, hL_pR, hI_pR, hR_pR, hJ_pR, hT_pR, hS_pR, hK_pJ, hL_pJ, hI_pJ, hR_pJ, hJ_pJ, hT_pJ, hS_pJ, hK_wI, hL_wI, hI_wI, hR_wI, hJ_wI, hT_wI, hS_wI, eq_self, and_true, true_and, and_false, false_and, or_true, true_or, or_false, false_or, if_true, if_false, not_true_eq_false, not_false_eq_true, forall_const, implies_true, false_implies, true_implies, Option.some.injEq, forall_eq', exists_eq_left', reduceCtorEq, Nat.reduceEqDiff, c1, T_X12_in, T_X12_ones, T_X11_within, T_X11_bit, T_X11_isIn, T_X11_oneIfIn, T_J6_bitCount_0f7a4]
            first | exact h110n he | exact ⟨fun _ => h110n he, fun z => absurd rfl z⟩
      have h67 : ∀ (own : Int32), (∀ s, I 60 p = nI s → s < R → ¬ Ext I R tk (plF I R tk p) p s) → (∀ s, own = nI s → s < R → ¬ Ext I R tk (plF I R tk p) p s) → wp 22 MX12_placeAll Q 66 [some (.ref 44), none, some (.int (lfB tk (p + 1))), some (.int (nI p)), some (.int own), none, none] [] g := by
        intro own a b
        refine s_X12_placeAll_66 Q _ _ _ ?_
        simp only [b_X12_placeAll_66, i_push, i_ild, i_ald, i_ist, i_ast, i_inc, i_bin, i_un, i_divs, i_i2l, i_lshl, i_lor, i_dup, i_dup2, i_pop, i_if, i_cmp, i_nul, i_vret, i_iret, i_zret, i_aret, i_keep, keep, lget, lset, ent, i_getI, i_getJ, i_getR, i_getN, i_putI, i_putZ, i_putJ, i_putR, i_iald, i_bald, i_alen, i_aald, i_iast, i_bast, i_aast, i_new, i_newa, i_anew, i_oini, i_callS, i_callV, i_callI, popn, sh4, i_sw, swP, i_copy, i_binS, List.map, Option.toList_none, Option.toList_some, List.append, List.nil_append, List.cons_append, List.length_cons, List.length_nil, List.replicate, Nat.sub_self, Nat.reduceSub, Nat.reduceAdd, hK_pI, hL_pI, hI_pI, hR_pI, hJ_pI, hT_pI, hS_pI, hK_pR, hL_pR, hI_pR, hR_pR, hJ_pR, hT_pR, hS_pR, hK_pJ, hL_pJ, hI_pJ, hR_pJ, hJ_pJ, hT_pJ, hS_pJ, hK_wI, hL_wI, hI_wI, hR_wI, hJ_wI, hT_wI, hS_wI, eq_self, and_true, true_and, and_false, false_and, or_true, true_or, or_false, false_or, if_true, if_false, not_true_eq_false, not_false_eq_true, forall_const, implies_true, false_implies, true_implies, Option.some.injEq, forall_eq', exists_eq_left', reduceCtorEq, Nat.reduceEqDiff, c1, T_X12_in, T_X12_ones, T_X11_within, T_X11_bit, T_X11_isIn, T_X11_oneIfIn, T_J6_bitCount_0f7a4]
        refine s_X12_placeAll_67 Q _ _ _ ?_
        simp only [b_X12_placeAll_67, i_push, i_ild, i_ald, i_ist, i_ast, i_inc, i_bin, i_un, i_divs, i_i2l, i_lshl, i_lor, i_dup, i_dup2, i_pop, i_if, i_cmp, i_nul, i_vret, i_iret, i_zret, i_aret, i_keep, keep, lget, lset, ent, i_getI, i_getJ, i_getR, i_getN, i_putI, i_putZ, i_putJ, i_putR, i_iald, i_bald, i_alen, i_aald, i_iast, i_bast, i_aast, i_new, i_newa, i_anew, i_oini, i_callS, i_callV, i_callI, popn, sh4, i_sw, swP, i_copy, i_binS, List.map, Option.toList_none, Option.toList_some, List.append, List.nil_append, List.cons_append, List.length_cons, List.length_nil, List.replicate, Nat.sub_self, Nat.reduceSub, Nat.reduceAdd, hK_pI, hL_pI, hI_pI, hR_pI, hJ_pI, hT_pI, hS_pI, hK_pR, hL_pR, hI_pR, hR_pR, hJ_pR, hT_pR, hS_pR, hK_pJ, hL_pJ, hI_pJ, hR_pJ, hJ_pJ, hT_pJ, hS_pJ, hK_wI, hL_wI, hI_wI, hR_wI, hJ_wI, hT_wI, hS_wI, eq_self, and_true, true_and, and_false, false_and, or_true, true_or, or_false, false_or, if_true, if_false, not_true_eq_false, not_false_eq_true, forall_const, implies_true, false_implies, true_implies, Option.some.injEq, forall_eq', exists_eq_left', reduceCtorEq, Nat.reduceEqDiff, c1, T_X12_in, T_X12_ones, T_X11_within, T_X11_bit, T_X11_isIn, T_X11_oneIfIn, T_J6_bitCount_0f7a4]
        exact hloop own a b R 0 (by omega) (by omega) (fun j hj => absurd hj (by omega))
      refine s_X12_placeAll_8 Q _ _ _ ?_
      simp only [b_X12_placeAll_8, hl, lay_pI, lay_wI, lay_pJ, lm_t hl, lm_k hl, lm_r hl, lm_l hl, i_push, i_ild, i_ald, i_ist, i_ast, i_inc, i_bin, i_un, i_divs, i_i2l, i_lshl, i_lor, i_dup, i_dup2, i_pop, i_if, i_cmp, i_nul, i_vret, i_iret, i_zret, i_aret, i_keep, keep, lget, lset, ent, i_getI, i_getJ, i_getR, i_getN, i_putI, i_putZ, i_putJ, i_putR, i_iald, i_bald, i_alen, i_aald, i_iast, i_bast, i_aast, i_new, i_newa, i_anew, i_oini, i_callS, i_callV, i_callI, popn, sh4, i_sw, swP, i_copy, i_binS, List.map, Option.toList_none, Option.toList_some, List.append, List.nil_append, List.cons_append, List.length_cons, List.length_nil, List.replicate, Nat.sub_self, Nat.reduceSub, Nat.reduceAdd, hK_pI, hL_pI, hI_pI, hR_pI, hJ_pI, hT_pI, hS_pI, hK_pR, hL_pR, hI_pR, hR_pR, hJ_pR, hT_pR, hS_pR, hK_pJ, hL_pJ, hI_pJ, hR_pJ, hJ_pJ, hT_pJ, hS_pJ, hK_wI, hL_wI, hI_wI, hR_wI, hJ_wI, hT_wI, hS_wI, eq_self, and_true, true_and, and_false, false_and, or_true, true_or, or_false, false_or, if_true, if_false, not_true_eq_false, not_false_eq_true, forall_const, implies_true, false_implies, true_implies, Option.some.injEq, forall_eq', exists_eq_left', reduceCtorEq, Nat.reduceEqDiff, c1, T_X12_in, T_X12_ones, T_X11_within, T_X11_bit, T_X11_isIn, T_X11_oneIfIn, T_J6_bitCount_0f7a4, in0 4 (by decide) (by decide), cl0, e52, sh_bt (lfB tk p) (show p < 32 by omega), hb, cl_nI (show p < 2147483648 by omega), in_nI (show p < 96 by omega) (by decide), e60, elo, Bool.true_eq_false]
      refine ⟨fun z => absurd z (nI_ge (by omega) (by omega)), fun _ => ⟨fun z => ?_, fun z => ?_⟩⟩
      · refine h67 (I 60 p) (fun s e1 e2 => ?_) (fun s e1 e2 => ?_) <;> exact absurd (e1.symm.trans z) (nI_m1 s (by omega))
      · rcases hs' with q | ⟨s, s1, s2⟩
        · exact absurd q z
        · refine ⟨rfl, hl, h172, R, P, p, s, hpc2, rfl, by omega, s2, s1, hnb, hdb2, fun hy => ?_, fun hy => ?_⟩
          · have he := (hte s s1).mp hy
            have epick := pick_own s2 s1 hR he
            rw [hfin s s1 epick]
            have h67' : wp 22 MX12_placeAll Q 67 [some (.ref 44), none, some (.int (lfB tk (p + 1))), some (.int (nI p)), some (.int (I 60 p)), none, none] [.int 1] gN := by
              refine s_X12_placeAll_67 Q _ _ _ ?_
              simp only [b_X12_placeAll_67, i_push, i_ild, i_ald, i_ist, i_ast, i_inc, i_bin, i_un, i_divs, i_i2l, i_lshl, i_lor, i_dup, i_dup2, i_pop, i_if, i_cmp, i_nul, i_vret, i_iret, i_zret, i_aret, i_keep, keep, lget, lset, ent, i_getI, i_getJ, i_getR, i_getN, i_putI, i_putZ, i_putJ, i_putR, i_iald, i_bald, i_alen, i_aald, i_iast, i_bast, i_aast, i_new, i_newa, i_anew, i_oini, i_callS, i_callV, i_callI, popn, sh4, i_sw, swP, i_copy, i_binS, List.map, Option.toList_none, Option.toList_some, List.append, List.nil_append, List.cons_append, List.length_cons, List.length_nil, List.replicate, Nat.sub_self, Nat.reduceSub, Nat.reduceAdd, hK_pI, hL_pI, hI_pI, hR_pI, hJ_pI, hT_pI, hS_pI, hK_pR, hL_pR, hI_pR, hR_pR, hJ_pR, hT_pR, hS_pR, hK_pJ, hL_pJ, hI_pJ, hR_pJ, hJ_pJ, hT_pJ, hS_pJ, hK_wI, hL_wI, hI_wI, hR_wI, hJ_wI, hT_wI, hS_wI, eq_self, and_true, true_and, and_false, false_and, or_true, true_or, or_false, false_or, if_true, if_false, not_true_eq_false, not_false_eq_true, forall_const, implies_true, false_implies, true_implies, Option.some.injEq, forall_eq', exists_eq_left', reduceCtorEq, Nat.reduceEqDiff, c1, T_X12_in, T_X12_ones, T_X11_within, T_X11_bit, T_X11_isIn, T_X11_oneIfIn, T_J6_bitCount_0f7a4]
              exact hdone s _ _ s1 epick
            simp only [c_X12_placeAll_59, i_push, i_ild, i_ald, i_ist, i_ast, i_inc, i_bin, i_un, i_divs, i_i2l, i_lshl, i_lor, i_dup, i_dup2, i_pop, i_if, i_cmp, i_nul, i_vret, i_iret, i_zret, i_aret, i_keep, keep, lget, lset, ent, i_getI, i_getJ, i_getR, i_getN, i_putI, i_putZ, i_putJ, i_putR, i_iald, i_bald, i_alen, i_aald, i_iast, i_bast, i_aast, i_new, i_newa, i_anew, i_oini, i_callS, i_callV, i_callI, popn, sh4, i_sw, swP, i_copy, i_binS, List.map, Option.toList_none, Option.toList_some, List.append, List.nil_append, List.cons_append, List.length_cons, List.length_nil, List.replicate, Nat.sub_self, Nat.reduceSub, Nat.reduceAdd, hK_pI, hL_pI, hI_pI, hR_pI, hJ_pI, hT_pI, hS_pI, hK_pR, hL_pR, hI_pR, hR_pR, hJ_pR, hT_pR, hS_pR, hK_pJ, hL_pJ, hI_pJ, hR_pJ, hJ_pJ, hT_pJ, hS_pJ, hK_wI, hL_wI, hI_wI, hR_wI, hJ_wI, hT_wI, hS_wI, eq_self, and_true, true_and, and_false, false_and, or_true, true_or, or_false, false_or, if_true, if_false, not_true_eq_false, not_false_eq_true, forall_const, implies_true, false_implies, true_implies, Option.some.injEq, forall_eq', exists_eq_left', reduceCtorEq, Nat.reduceEqDiff, c1, T_X12_in, T_X12_ones, T_X11_within, T_X11_bit, T_X11_isIn, T_X11_oneIfIn, T_J6_bitCount_0f7a4]
            first | exact h67' | exact ⟨fun z => absurd z (by decide), fun _ => h67'⟩
          · have he := fun w => hy ((hte s s1).mpr w)
            have hno : ∀ s', I 60 p = nI s' → s' < R → ¬ Ext I R tk (plF I R tk p) p s' := fun s' e1 e2 => by
              have e3 : s' = s := by
                have := e1.symm.trans s2
                exact (nI_eq (by omega) (by omega)).mp this
              rw [e3]; exact he
            simp only [c_X12_placeAll_59, i_push, i_ild, i_ald, i_ist, i_ast, i_inc, i_bin, i_un, i_divs, i_i2l, i_lshl, i_lor, i_dup, i_dup2, i_pop, i_if, i_cmp, i_nul, i_vret, i_iret, i_zret, i_aret, i_keep, keep, lget, lset, ent, i_getI, i_getJ, i_getR, i_getN, i_putI, i_putZ, i_putJ, i_putR, i_iald, i_bald, i_alen, i_aald, i_iast, i_bast, i_aast, i_new, i_newa, i_anew, i_oini, i_callS, i_callV, i_callI, popn, sh4, i_sw, swP, i_copy, i_binS, List.map, Option.toList_none, Option.toList_some, List.append, List.nil_append, List.cons_append, List.length_cons, List.length_nil, List.replicate, Nat.sub_self, Nat.reduceSub, Nat.reduceAdd, hK_pI, hL_pI, hI_pI, hR_pI, hJ_pI, hT_pI, hS_pI, hK_pR, hL_pR, hI_pR, hR_pR, hJ_pR, hT_pR, hS_pR, hK_pJ, hL_pJ, hI_pJ, hR_pJ, hJ_pJ, hT_pJ, hS_pJ, hK_wI, hL_wI, hI_wI, hR_wI, hJ_wI, hT_wI, hS_wI, eq_self, and_true, true_and, and_false, false_and, or_true, true_or, or_false, false_or, if_true, if_false, not_true_eq_false, not_false_eq_true, forall_const, implies_true, false_implies, true_implies, Option.some.injEq, forall_eq', exists_eq_left', reduceCtorEq, Nat.reduceEqDiff, c1, T_X12_in, T_X12_ones, T_X11_within, T_X11_bit, T_X11_isIn, T_X11_oneIfIn, T_J6_bitCount_0f7a4]
            first | exact h67 _ hno hno | exact ⟨fun _ => h67 _ hno hno, fun z => absurd rfl z⟩
    · have hb : bt (lfB tk p) p = false := by
        rw [b_lfB _ _ (by omega)]
        have : bt tk p = false := by simpa using c
        simp [this]
      have el : lfB tk (p + 1) = lfB tk p := if_neg c
      have eF : plF I R tk (p + 1) = plF I R tk p := cif_f c
      have eM : plM I tk (plF I R tk (p + 1)) (p + 1) = plM I tk (plF I R tk p) p := by
        rw [eF]; exact if_neg c
      have hgo := h119 _ rfl
      rw [eM, el] at hgo
      have hl : LayM (wI h (plM I tk (plF I R tk p) p)) := hl0.wI _
      have e52 : hI (wI h (plM I tk (plF I R tk p) p)) 52 0 = nI P := by rw [hI_wI, plM_o _ _ _ (by decide)]; exact h52
      refine s_X12_placeAll_8 Q _ _ _ ?_
      generalize wI h (plM I tk (plF I R tk p) p) = g at hl e52 hgo ⊢
      simp only [b_X12_placeAll_8, hl, lay_pI, lay_wI, lay_pJ, lm_t hl, lm_k hl, lm_r hl, lm_l hl, i_push, i_ild, i_ald, i_ist, i_ast, i_inc, i_bin, i_un, i_divs, i_i2l, i_lshl, i_lor, i_dup, i_dup2, i_pop, i_if, i_cmp, i_nul, i_vret, i_iret, i_zret, i_aret, i_keep, keep, lget, lset, ent, i_getI, i_getJ, i_getR, i_getN, i_putI, i_putZ, i_putJ, i_putR, i_iald, i_bald, i_alen, i_aald, i_iast, i_bast, i_aast, i_new, i_newa, i_anew, i_oini, i_callS, i_callV, i_callI, popn, sh4, i_sw, swP, i_copy, i_binS, List.map, Option.toList_none, Option.toList_some, List.append, List.nil_append, List.cons_append, List.length_cons, List.length_nil, List.replicate, Nat.sub_self, Nat.reduceSub, Nat.reduceAdd, hK_pI, hL_pI, hI_pI, hR_pI, hJ_pI, hT_pI, hS_pI, hK_pR, hL_pR, hI_pR, hR_pR, hJ_pR, hT_pR, hS_pR, hK_pJ, hL_pJ, hI_pJ, hR_pJ, hJ_pJ, hT_pJ, hS_pJ, hK_wI, hL_wI, hI_wI, hR_wI, hJ_wI, hT_wI, hS_wI, eq_self, and_true, true_and, and_false, false_and, or_true, true_or, or_false, false_or, if_true, if_false, not_true_eq_false, not_false_eq_true, forall_const, implies_true, false_implies, true_implies, Option.some.injEq, forall_eq', exists_eq_left', reduceCtorEq, Nat.reduceEqDiff, c1, T_X12_in, T_X12_ones, T_X11_within, T_X11_bit, T_X11_isIn, T_X11_oneIfIn, T_J6_bitCount_0f7a4, in0 4 (by decide) (by decide), cl0, e52, sh_bt (lfB tk p) (show p < 32 by omega), hb]
      exact ⟨fun z => absurd z (nI_ge (by omega) (by omega)), fun _ => hgo⟩
set_option maxRecDepth 100000 in
set_option maxHeartbeats 4000000 in
theorem ok_X12_placeAll : ctr 22 MX12_placeAll T_X12_placeAll := by
  refine ctr_of pn_X12 wc_X12_placeAll (fun av h Q hT => ?_)
  unfold T_X12_placeAll at hT
  split at hT
  · rename_i o tk
    refine ⟨⟨by simp [Value.category], Nat.le_of_ble_eq_true rfl⟩, s_X12_placeAll_0 Q _ _ _ ?_⟩
    obtain ⟨rfl, hl, h17, R, P, hp, hf, hs, hq⟩ := hT
    simp only [MX12_placeAll, b_X12_placeAll_0, hl, lay_pI, lay_wI, lay_pJ, lm_t hl, lm_k hl, lm_r hl, lm_l hl, i_push, i_ild, i_ald, i_ist, i_ast, i_inc, i_bin, i_un, i_divs, i_i2l, i_lshl, i_lor, i_dup, i_dup2, i_pop, i_if, i_cmp, i_nul, i_vret, i_iret, i_zret, i_aret, i_keep, keep, lget, lset, ent, i_getI, i_getJ, i_getR, i_getN, i_putI, i_putZ, i_putJ, i_putR, i_iald, i_bald, i_alen, i_aald, i_iast, i_bast, i_aast, i_new, i_newa, i_anew, i_oini, i_callS, i_callV, i_callI, popn, sh4, i_sw, swP, i_copy, i_binS, List.map, Option.toList_none, Option.toList_some, List.append, List.nil_append, List.cons_append, List.length_cons, List.length_nil, List.replicate, Nat.sub_self, Nat.reduceSub, Nat.reduceAdd, hK_pI, hL_pI, hI_pI, hR_pI, hJ_pI, hT_pI, hS_pI, hK_pR, hL_pR, hI_pR, hR_pR, hJ_pR, hT_pR, hS_pR, hK_pJ, hL_pJ, hI_pJ, hR_pJ, hJ_pJ, hT_pJ, hS_pJ, hK_wI, hL_wI, hI_wI, hR_wI, hJ_wI, hT_wI, hS_wI, eq_self, and_true, true_and, and_false, false_and, or_true, true_or, or_false, false_or, if_true, if_false, not_true_eq_false, not_false_eq_true, forall_const, implies_true, false_implies, true_implies, Option.some.injEq, forall_eq', exists_eq_left', reduceCtorEq, Nat.reduceEqDiff, c1, T_X12_in, T_X12_ones, T_X11_within, T_X11_bit, T_X11_isIn, T_X11_oneIfIn, T_J6_bitCount_0f7a4]
    refine ⟨rfl, hl, ?_⟩
    have hw := pa_8 Q h hl tk h17 R P (hI (eR h 4)) hp hf (fun p h1 h2 => by
      have e : hI (eR h 4) 60 p = hI h 60 p := by
        show (if 60 = 88 ∧ p < 4 then 0 else hI h 60 p) = _
        exact if_neg (fun q => by cases q.1)
      have := hs p h1 h2
      unfold slpOk at this ⊢
      rw [e]; exact this) hq P 0 (by omega) (by omega)
    have e0 : wI h (plM (hI (eR h 4)) tk (plF (hI (eR h 4)) R tk 0) 0) = eR h 4 := rfl
    rw [e0] at hw
    generalize eR h 4 = g at hw ⊢
    simp only [c_X12_placeAll_4, i_push, i_ild, i_ald, i_ist, i_ast, i_inc, i_bin, i_un, i_divs, i_i2l, i_lshl, i_lor, i_dup, i_dup2, i_pop, i_if, i_cmp, i_nul, i_vret, i_iret, i_zret, i_aret, i_keep, keep, lget, lset, ent, i_getI, i_getJ, i_getR, i_getN, i_putI, i_putZ, i_putJ, i_putR, i_iald, i_bald, i_alen, i_aald, i_iast, i_bast, i_aast, i_new, i_newa, i_anew, i_oini, i_callS, i_callV, i_callI, popn, sh4, i_sw, swP, i_copy, i_binS, List.map, Option.toList_none, Option.toList_some, List.append, List.nil_append, List.cons_append, List.length_cons, List.length_nil, List.replicate, Nat.sub_self, Nat.reduceSub, Nat.reduceAdd, hK_pI, hL_pI, hI_pI, hR_pI, hJ_pI, hT_pI, hS_pI, hK_pR, hL_pR, hI_pR, hR_pR, hJ_pR, hT_pR, hS_pR, hK_pJ, hL_pJ, hI_pJ, hR_pJ, hJ_pJ, hT_pJ, hS_pJ, hK_wI, hL_wI, hI_wI, hR_wI, hJ_wI, hT_wI, hS_wI, eq_self, and_true, true_and, and_false, false_and, or_true, true_or, or_false, false_or, if_true, if_false, not_true_eq_false, not_false_eq_true, forall_const, implies_true, false_implies, true_implies, Option.some.injEq, forall_eq', exists_eq_left', reduceCtorEq, Nat.reduceEqDiff, c1, T_X12_in, T_X12_ones, T_X11_within, T_X11_bit, T_X11_isIn, T_X11_oneIfIn, T_J6_bitCount_0f7a4]
    exact hw
  · exact hT.elim
