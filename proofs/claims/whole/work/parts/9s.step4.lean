/-! ===== steps that write: the heap's shape stays ===== -/
def Sh (h h' : Hp) : Prop := hT h' = hT h ∧ hS h' = hS h ∧ hK h' = hK h ∧ hL h' = hL h ∧ hR h' = hR h
theorem Sh.tr {h h1 h2 : Hp} (a : Sh h h1) (b : Sh h1 h2) : Sh h h2 := ⟨b.1.trans a.1, b.2.1.trans a.2.1, b.2.2.1.trans a.2.2.1, b.2.2.2.1.trans a.2.2.2.1, b.2.2.2.2.trans a.2.2.2.2⟩
theorem Sh.x {h h' : Hp} (s : Sh h h') (hl : LayX h) : LayX h' := by
  unfold LayX at hl ⊢
  rw [s.1, s.2.2.1, s.2.2.2.1, s.2.2.2.2]; exact hl
theorem Sh.m {h h' : Hp} (s : Sh h h') (hl : LayM h) : LayM h' := by
  unfold LayM at hl ⊢
  rw [s.1, s.2.2.1, s.2.2.2.1, s.2.2.2.2]; exact hl
theorem Sh.kp {h h' : Hp} (s : Sh h h') (h9 : ∀ a i, (90 ≤ a ∨ (4 ≤ a ∧ a ≤ 11)) → hI h' a i = hI h a i) : Kp h h' := ⟨by rw [s.1]; exact Nat.le_refl _, fun a _ => by rw [s.2.2.1, s.2.2.2.1]; exact ⟨rfl, rfl⟩, fun a i _ ha => ⟨h9 a i ha, by rw [s.2.2.2.2]⟩⟩
/-- what the class and the reference may write in such a step -/
theorem CP.w {h h' : Hp} (hc : CP h) (s : Sh h h') (h9 : ∀ a i, (90 ≤ a ∨ (4 ≤ a ∧ a ≤ 11)) → hI h' a i = hI h a i) (hsl : ∀ a i, 46 ≤ a → a ≤ 79 → szA a ≤ i → hI h' a i = hI h a i) (h89 : ∀ k, hI h' 89 k = hI h 89 k) (htf : TF (hI h')) (hst : ∃ R P H E Ln q np, ST h' 3 12 (hI h') R P H E Ln q np) : CP h' :=
  ⟨s.x hc.1, s.m hc.2.1, htf, hst, hc.2.2.2.2.kp (s.kp h9) hsl (fun k _ => h89 k) (fun k _ => by rw [s.2.2.2.2])⟩
/-- the state now stays where neither side writes it -/
theorem ST.keep {h h' : Hp} (s : Sh h h') (hl : LayX h) (h9 : ∀ a i, (90 ≤ a ∨ (4 ≤ a ∧ a ≤ 11)) → hI h' a i = hI h a i) (hx : ∀ a, 12 ≤ a → a ≤ 29 → hI h' a = hI h a) (hm : ∀ a, 46 ≤ a → a ≤ 79 → hI h' a = hI h a) {R P H E Ln q np : Nat} (hs : ST h 3 12 (hI h) R P H E Ln q np) : ST h' 3 12 (hI h') R P H E Ln q np := by
  have hk := s.kp h9
  obtain ⟨a1, a2, a3, a4, a5, a6, a7, a8, a9, a10, a11, a12, a13⟩ := id hs
  exact ST.now hk (s.x hl) (by rw [s.2.2.2.2]) (by rw [s.2.2.2.2]) hs (RmC_k (fun a a1 a2 => hm a (by omega) (by omega)) (RmC_c (fun i hi => hx _ (by omega) (by omega)) a4)) (PC_k (fun a a1 a2 => hm a (by omega) (by omega)) (PC_c (fun i i1 i2 => hx _ (by omega) (by omega)) a5)) ((congrFun (hx 16 (by decide) (by decide)) 1).trans a6) (HlC_k (fun a a1 a2 => hm a (by omega) (by omega)) (HlC_c (fun i i1 i2 => hx _ (by omega) (by omega)) a7)) (JP_k (hm 57 (by decide) (by decide)) (hm 60 (by decide) (by decide)) (hm 62 (by decide) (by decide)) (hm 63 (by decide) (by decide)) a9) (fun a a1 a2 => hm a (by omega) (by omega)) (by rw [hm 76 (by decide) (by decide)]) (hm 77 (by decide) (by decide)) (fun e n Rn _ _ hw => LtW_k (hm 60 (by decide) (by decide)) (hm 77 (by decide) (by decide)) (hm 78 (by decide) (by decide)) (hm 79 (by decide) (by decide)) hw)
/-- a call: the class leaves h1, the reference h2 -/
theorem wr {dX : Nat} {MX : Mt} {dM : Nat} {MM : Mt} {as : List Value} {h : Hp} (x : Int32) (h1 h2 : Hp) (c1' : ∀ Q : Option Value → Hp → Prop, Q (some (.int x)) h1 → cal dX MX (.ref 0 :: as) h Q) (c2' : ∀ Q : Option Value → Hp → Prop, Q (some (.int x)) h2 → cal dM MM (.ref 44 :: as) h1 Q) (hcp : CP h2) (ht : hT h2 ≤ hT h + 20) (hs : hS h2 ≤ hS h + 2000) (hk : hK h1 44 = 12) : SOK dX MX dM MM as h := by
  have e1 := c1' (fun r h' => r = some (.int x) ∧ h' = h1) ⟨rfl, rfl⟩
  have e2 := c2' (fun r h' => r = some (.int x) ∧ h' = h2) ⟨rfl, rfl⟩
  refine cal_imp e1 (fun r h' e => ⟨x, e.1, by rw [e.2]; exact hk, ?_⟩)
  rw [e.2]
  exact cal_imp e2 (fun r2 h' e => ⟨e.1, by rw [e.2]; exact hcp, by rw [e.2]; exact ht, by rw [e.2]; exact hs⟩)
/-! end -/
def L_X11_end : List UInt8 := [27, 155, 0, 14, 27, 42, 180, 0, 10, 180, 0, 48, 164, 0, 5, 2, 172, 42, 180, 0, 10, 27, 181, 0, 48, 27, 172]
theorem Lc_X11_end : MX11_end.2.1 = ⟨L_X11_end.toArray⟩ := rfl
theorem D_X11_end_0 : dseq MX11_end.2.1 0 [(.iload_n 1, 1), (.ifCond .lt 14, 3), (.iload_n 1, 1), (.aload_n 0, 1), (.getfield 10, 3), (.getfield 48, 3), (.if_icmp .le 5, 3), (.iconst (-1), 1), (.ireturn, 1)] := dq Lc_X11_end 0 _ (by decide +kernel)
theorem D_X11_end_15 : dseq MX11_end.2.1 15 [(.iconst (-1), 1), (.ireturn, 1)] := dq Lc_X11_end 15 _ (by decide +kernel)
theorem D_X11_end_17 : dseq MX11_end.2.1 17 [(.aload_n 0, 1), (.getfield 10, 3), (.iload_n 1, 1), (.putfield 48, 3), (.iload_n 1, 1), (.ireturn, 1)] := dq Lc_X11_end 17 _ (by decide +kernel)
def b_X11_end_0 (Q : Option Value → Hp → Prop) : Kt := i_ild 1 (i_if (fun x => x < 0) (i_push (.int (-1)) (i_iret Q)) (i_ild 1 (i_ald 0 (i_getR 11 0 (i_getI 9 1 (i_cmp (fun x y => x ≤ y) (i_ald 0 (i_getR 11 0 (i_ild 1 (i_putI 9 1 (i_ild 1 (i_iret Q)))))) (i_push (.int (-1)) (i_iret Q))))))))
set_option maxRecDepth 100000 in
theorem s_X11_end_0 (Q : Option Value → Hp → Prop) : ∀ A st h, b_X11_end_0 Q A st h → wp 0 MX11_end Q 0 A st h := (q1 (s_ildn (n := 1) (i := 1) rfl) D_X11_end_0 fun D => (qB s_iflt 15 (by decide) D (q1 (s_iconst (n := (-1)) (v := (-1)) (by decide)) D_X11_end_15 fun D => (qI rfl D)) fun D => (q1 (s_ildn (n := 1) (i := 1) rfl) D fun D => (q1 (s_aldn (n := 0) (i := 0) rfl) D fun D => (qC fl_X11_10 rfl D fun D => (qC fl_X11_48 rfl D fun D => (qB s_cmple 17 (by decide) D (q1 (s_aldn (n := 0) (i := 0) rfl) D_X11_end_17 fun D => (qC fl_X11_10 rfl D fun D => (q1 (s_ildn (n := 1) (i := 1) rfl) D fun D => (qP pl_X11_48 rfl (Or.inl rfl) D fun D => (q1 (s_ildn (n := 1) (i := 1) rfl) D fun D => (qI rfl D)))))) fun D => (q1 (s_iconst (n := (-1)) (v := (-1)) (by decide)) D fun D => (qI rfl D)))))))))
def T_X11_end : Tr := fun av h Q => c1 2 av ∧ b_X11_end_0 Q (ent 2 av) [] h
theorem ok_X11_end : ctr 0 MX11_end T_X11_end := ctr_of pn_X11 wc_X11_end (fun av h Q hT => ⟨c1_ok hT.1, s_X11_end_0 Q _ _ _ hT.2⟩)

theorem st_end {h : Hp} (hc : CP h) (n : Int32) : SOK 0 MX11_end 1 MX12_end [.int n] h := by
  have hl := hc.1
  have hm := hc.2.1
  obtain ⟨⟨L, l1, l2, l3, l4⟩, t2, t3⟩ := hc.2.2.1
  obtain ⟨R, P, H, E, Ln, q, np, hs⟩ := hc.2.2.2.1
  by_cases c : 0 ≤ n ∧ n ≤ nI L
  · have hcc : 0 ≤ n ∧ n ≤ hI h 44 2 := by rw [l3]; exact c
    have g1 : ¬ n < 0 := Int32.not_lt.mpr c.1
    have g2 : ¬ nI L < n := Int32.not_lt.mpr c.2
    obtain ⟨k, hk, ek⟩ := nI_of g1
    have hkL : k ≤ L := by
      have := c.2
      rw [ek, nI_leI hk (by omega)] at this; exact this
    have s1 : Sh h (pI h 1 1 n) := ⟨rfl, rfl, rfl, rfl, rfl⟩
    have s2 : Sh h (pI (pI (pI h 1 1 n) 44 0 0) 44 2 n) := ⟨rfl, rfl, rfl, rfl, rfl⟩
    have o : ∀ a i, a ≠ 1 → a ≠ 44 → hI (pI (pI (pI h 1 1 n) 44 0 0) 44 2 n) a i = hI h a i := fun a i a1 a2 => by
      rw [hI_pI, if_neg (fun z => a2 z.1), hI_pI, if_neg (fun z => a2 z.1), hI_pI, if_neg (fun z => a1 z.1)]
    refine wr n (pI h 1 1 n) (pI (pI (pI h 1 1 n) 44 0 0) 44 2 n) (fun Q hq => ok_X11_end _ _ _ ?_) (fun Q hq => ok_X12_end _ _ _ ?_) ?_ (Nat.le_add_right _ _) (Nat.le_add_right _ _) (lm_k hm).1
    · unfold T_X11_end
      simp only [b_X11_end_0, lx_pI, lx_wI, lx_t hl, lx_k hl, lx_r hl, lx_l hl, i_push, i_ild, i_ald, i_ist, i_ast, i_inc, i_bin, i_un, i_divs, i_i2l, i_lshl, i_lor, i_dup, i_dup2, i_pop, i_if, i_cmp, i_nul, i_vret, i_iret, i_zret, i_aret, i_keep, keep, lget, lset, ent, i_getI, i_getJ, i_getR, i_getN, i_putI, i_putZ, i_putJ, i_putR, i_iald, i_bald, i_alen, i_aald, i_iast, i_bast, i_aast, i_new, i_newa, i_anew, i_oini, i_callS, i_callV, i_callI, popn, sh4, i_sw, swP, i_copy, i_binS, List.map, Option.toList_none, Option.toList_some, List.append, List.nil_append, List.cons_append, List.length_cons, List.length_nil, List.replicate, Nat.sub_self, Nat.reduceSub, Nat.reduceAdd, hK_pI, hL_pI, hI_pI, hR_pI, hJ_pI, hT_pI, hS_pI, hK_pR, hL_pR, hI_pR, hR_pR, hJ_pR, hT_pR, hS_pR, hK_pJ, hL_pJ, hI_pJ, hR_pJ, hJ_pJ, hT_pJ, hS_pJ, hK_wI, hL_wI, hI_wI, hR_wI, hJ_wI, hT_wI, hS_wI, eq_self, and_true, true_and, and_false, false_and, or_true, true_or, or_false, false_or, if_true, if_false, not_true_eq_false, not_false_eq_true, forall_const, implies_true, false_implies, true_implies, Option.some.injEq, forall_eq', exists_eq_left', reduceCtorEq, Nat.reduceEqDiff, c1, T_X12_in, T_X12_ones, T_X11_within, T_X11_bit, T_X11_isIn, T_X11_oneIfIn, T_J6_bitCount_0f7a4, l2, g1]
      exact ⟨fun _ => hq, fun z => absurd c.2 z⟩
    · have hcc1 : 0 ≤ n ∧ n ≤ hI (pI h 1 1 n) 44 2 := by rw [hI_pI, if_neg (by omega)]; exact hcc
      exact ⟨rfl, hm.pI _ _ _, fun z => absurd hcc1 z, fun _ => hq⟩
    · refine hc.w s2 (fun a i ha => o a i (by omega) (by omega)) (fun a i a1 a2 _ => o a i (by omega) (by omega)) (fun k => o 89 k (by decide) (by decide)) ⟨⟨k, by omega, ?_, ?_, fun j hj => ?_⟩, ?_, ?_⟩ ⟨R, P, H, E, Ln, q, np, hs.keep s2 hl (fun a i ha => o a i (by omega) (by omega)) (fun a a1 a2 => funext fun i => o a i (by omega) (by omega)) (fun a a1 a2 => funext fun i => o a i (by omega) (by omega))⟩
      · rw [hI_pI, if_neg (by omega), hI_pI, if_neg (by omega), hI_pI, if_pos ⟨rfl, rfl⟩]; exact ek
      · rw [hI_pI, if_pos ⟨rfl, rfl⟩]; exact ek
      · rw [o 2 j (by decide) (by decide), o 45 j (by decide) (by decide)]; exact l4 j (by omega)
      · rw [o 0 4 (by decide) (by decide), hI_pI, if_neg (by omega), hI_pI, if_neg (by omega), hI_pI, if_neg (by omega)]; exact t2
      · rw [o 0 5 (by decide) (by decide), hI_pI, if_neg (by omega), hI_pI, if_neg (by omega), hI_pI, if_neg (by omega)]; exact t3
  · have hcc : ¬ (0 ≤ n ∧ n ≤ hI h 44 2) := by rw [l3]; exact c
    refine rd (-1) hc (fun Q hq => ok_X11_end _ _ _ ?_) (fun Q hq => ok_X12_end _ _ _ ⟨rfl, hm, fun _ => hq, fun z => absurd hcc z⟩)
    unfold T_X11_end
    simp only [b_X11_end_0, lx_pI, lx_wI, lx_t hl, lx_k hl, lx_r hl, lx_l hl, i_push, i_ild, i_ald, i_ist, i_ast, i_inc, i_bin, i_un, i_divs, i_i2l, i_lshl, i_lor, i_dup, i_dup2, i_pop, i_if, i_cmp, i_nul, i_vret, i_iret, i_zret, i_aret, i_keep, keep, lget, lset, ent, i_getI, i_getJ, i_getR, i_getN, i_putI, i_putZ, i_putJ, i_putR, i_iald, i_bald, i_alen, i_aald, i_iast, i_bast, i_aast, i_new, i_newa, i_anew, i_oini, i_callS, i_callV, i_callI, popn, sh4, i_sw, swP, i_copy, i_binS, List.map, Option.toList_none, Option.toList_some, List.append, List.nil_append, List.cons_append, List.length_cons, List.length_nil, List.replicate, Nat.sub_self, Nat.reduceSub, Nat.reduceAdd, hK_pI, hL_pI, hI_pI, hR_pI, hJ_pI, hT_pI, hS_pI, hK_pR, hL_pR, hI_pR, hR_pR, hJ_pR, hT_pR, hS_pR, hK_pJ, hL_pJ, hI_pJ, hR_pJ, hJ_pJ, hT_pJ, hS_pJ, hK_wI, hL_wI, hI_wI, hR_wI, hJ_wI, hT_wI, hS_wI, eq_self, and_true, true_and, and_false, false_and, or_true, true_or, or_false, false_or, if_true, if_false, not_true_eq_false, not_false_eq_true, forall_const, implies_true, false_implies, true_implies, Option.some.injEq, forall_eq', exists_eq_left', reduceCtorEq, Nat.reduceEqDiff, c1, T_X12_in, T_X12_ones, T_X11_within, T_X11_bit, T_X11_isIn, T_X11_oneIfIn, T_J6_bitCount_0f7a4, l2]
    refine ⟨fun _ => hq, fun z => ⟨fun y => absurd ⟨Int32.not_lt.mp z, y⟩ c, fun _ => hq⟩⟩
/-! feed -/
def x1 (h : Hp) (n : Nat) (b : Int32) : Hp := pI (pI h 2 n b) 1 1 (nI (n + 1))
def x4 (h : Hp) (n : Nat) (v : Int32) : Hp := x1 (x1 (x1 (x1 h n (byt v 24)) (n + 1) (byt v 16)) (n + 2) (byt v 8)) (n + 3) (byt v 0)
def x20 (h : Hp) (n : Nat) (a b c d e : Int32) : Hp := x4 (x4 (x4 (x4 (x4 h n a) (n + 4) b) (n + 8) c) (n + 12) d) (n + 16) e
theorem x1_size (h : Hp) (n : Nat) (b : Int32) : hI (x1 h n b) 1 1 = nI (n + 1) := by
  unfold x1; rw [hI_pI, if_pos ⟨rfl, rfl⟩]
theorem x1_lay {h : Hp} (hl : LayX h) (n : Nat) (b : Int32) : LayX (x1 h n b) := (hl.pI 2 n b).pI 1 1 (nI (n + 1))
theorem x4_size (h : Hp) (n : Nat) (v : Int32) : hI (x4 h n v) 1 1 = nI (n + 4) := x1_size _ _ _
theorem x4_lay {h : Hp} (hl : LayX h) (n : Nat) (v : Int32) : LayX (x4 h n v) := x1_lay (x1_lay (x1_lay (x1_lay hl _ _) _ _) _ _) _ _
theorem x20_size (h : Hp) (n : Nat) (a b c d e : Int32) : hI (x20 h n a b c d e) 1 1 = nI (n + 20) := x4_size _ _ _
theorem x20_lay {h : Hp} (hl : LayX h) (n : Nat) (a b c d e : Int32) : LayX (x20 h n a b c d e) := x4_lay (x4_lay (x4_lay (x4_lay (x4_lay hl _ _) _ _) _ _) _ _) _ _
def T_X9_append : Tr := fun av h Q => match av with
  | [.ref a, .int v] => a = 1 ∧ LayX h ∧ ∃ n : Nat, hI h 1 1 = nI n ∧ n + 4 ≤ 500 ∧ Q none (x4 h n v)
  | _ => False
def L_X9_append : List UInt8 := [16, 24, 61, 28, 155, 0, 42, 42, 180, 0, 15, 17, 1, 244, 162, 0, 32, 42, 180, 0, 9, 42, 180, 0, 15, 27, 28, 122, 145, 84, 42, 89, 180, 0, 15, 4, 96, 181, 0, 15, 132, 2, 248, 167, 255, 216, 177]
theorem Lc_X9_append : MX9_append.2.1 = ⟨L_X9_append.toArray⟩ := rfl
theorem D_X9_append_0 : dseq MX9_append.2.1 0 [(.bipush 24, 2), (.istore_n 2, 1)] := dq Lc_X9_append 0 _ (by decide +kernel)
theorem D_X9_append_3 : dseq MX9_append.2.1 3 [(.iload_n 2, 1), (.ifCond .lt 42, 3), (.aload_n 0, 1), (.getfield 15, 3), (.sipush 500, 3), (.if_icmp .ge 32, 3), (.aload_n 0, 1), (.getfield 9, 3), (.aload_n 0, 1), (.getfield 15, 3), (.iload_n 1, 1), (.iload_n 2, 1), (.ishr, 1), (.i2b, 1), (.bastore, 1), (.aload_n 0, 1), (.dup, 1), (.getfield 15, 3), (.iconst 1, 1), (.iadd, 1), (.putfield 15, 3), (.iinc 2 (-8), 3), (.goto (-40), 3)] := dq Lc_X9_append 3 _ (by decide +kernel)
theorem D_X9_append_46 : dseq MX9_append.2.1 46 [(.return_, 1)] := dq Lc_X9_append 46 _ (by decide +kernel)
def b_X9_append_0 (Q : Option Value → Hp → Prop) : Kt := i_push (.int 24) (i_ist 2 (i_keep [true, true, true] (wp 0 MX9_append Q 3)))
set_option maxRecDepth 100000 in
theorem s_X9_append_0 (Q : Option Value → Hp → Prop) : ∀ A st h, b_X9_append_0 Q A st h → wp 0 MX9_append Q 0 A st h := (q1 (s_bipush (n := 24) (v := 24) (by decide)) D_X9_append_0 fun D => (qL (s_istn (n := 2) (i := 2) rfl) (by decide) D fun D => (s_keep [true, true, true] fun _ _ _ h => h)))
def b_X9_append_3 (Q : Option Value → Hp → Prop) : Kt := i_ild 2 (i_if (fun x => x < 0) (i_vret Q) (i_ald 0 (i_getI 9 1 (i_push (.int 500) (i_cmp (fun x y => y ≤ x) (i_vret Q) (i_ald 0 (i_getR 9 0 (i_ald 0 (i_getI 9 1 (i_ild 1 (i_ild 2 (i_bin (fun x y => x >>> (y &&& 31)) (i_un (fun x => x.toInt8.toInt32) (i_bast (i_ald 0 (i_dup (i_getI 9 1 (i_push (.int 1) (i_bin (fun x y => x + y) (i_putI 9 1 (i_inc 2 (-8) (i_keep [true, true, true] (wp 0 MX9_append Q 3)))))))))))))))))))))))
set_option maxRecDepth 100000 in
theorem s_X9_append_3 (Q : Option Value → Hp → Prop) : ∀ A st h, b_X9_append_3 Q A st h → wp 0 MX9_append Q 3 A st h := (q1 (s_ildn (n := 2) (i := 2) rfl) D_X9_append_3 fun D => (qB s_iflt 46 (by decide) D (qV rfl D_X9_append_46) fun D => (q1 (s_aldn (n := 0) (i := 0) rfl) D fun D => (qC fl_X9_15 rfl D fun D => (q1 (s_sipush (n := 500) (v := 500) (by decide)) D fun D => (qB s_cmpge 46 (by decide) D (qV rfl D_X9_append_46) fun D => (q1 (s_aldn (n := 0) (i := 0) rfl) D fun D => (qC fl_X9_9 rfl D fun D => (q1 (s_aldn (n := 0) (i := 0) rfl) D fun D => (qC fl_X9_15 rfl D fun D => (q1 (s_ildn (n := 1) (i := 1) rfl) D fun D => (q1 (s_ildn (n := 2) (i := 2) rfl) D fun D => (q1 s_shr D fun D => (q1 s_i2b D fun D => (q1 s_bast D fun D => (q1 (s_aldn (n := 0) (i := 0) rfl) D fun D => (q1 s_dup D fun D => (qC fl_X9_15 rfl D fun D => (q1 (s_iconst (n := 1) (v := 1) (by decide)) D fun D => (q1 s_add D fun D => (qP pl_X9_15 rfl (Or.inl rfl) D fun D => (qL (s_inc (i := 2) (n := (-8)) (v := (-8)) (by decide)) (by decide) D fun D => (qG 3 (by decide) D (s_keep [true, true, true] fun _ _ _ h => h))))))))))))))))))))))))

set_option maxRecDepth 100000 in
theorem app_1 (Q : Option Value → Hp → Prop) (h : Hp) (v k k2 : Int32) (n : Nat) (hl : LayX h) (hn : hI h 1 1 = nI n) (h5 : n < 500) (hk : ¬ k < 0) (hk2 : k + -8 = k2) (hw : wp 0 MX9_append Q 3 [some (.ref 1), some (.int v), some (.int k2)] [] (x1 h n (byt v k))) : wp 0 MX9_append Q 3 [some (.ref 1), some (.int v), some (.int k)] [] h := by
  subst hk2
  have h500 : ¬ (500 : Int32) ≤ nI n := nI_ge (b := 500) h5 (by decide)
  refine s_X9_append_3 Q _ _ _ ?_
  simp only [b_X9_append_3, lx_pI, lx_wI, lx_t hl, lx_k hl, lx_r hl, lx_l hl, i_push, i_ild, i_ald, i_ist, i_ast, i_inc, i_bin, i_un, i_divs, i_i2l, i_lshl, i_lor, i_dup, i_dup2, i_pop, i_if, i_cmp, i_nul, i_vret, i_iret, i_zret, i_aret, i_keep, keep, lget, lset, ent, i_getI, i_getJ, i_getR, i_getN, i_putI, i_putZ, i_putJ, i_putR, i_iald, i_bald, i_alen, i_aald, i_iast, i_bast, i_aast, i_new, i_newa, i_anew, i_oini, i_callS, i_callV, i_callI, popn, sh4, i_sw, swP, i_copy, i_binS, List.map, Option.toList_none, Option.toList_some, List.append, List.nil_append, List.cons_append, List.length_cons, List.length_nil, List.replicate, Nat.sub_self, Nat.reduceSub, Nat.reduceAdd, hK_pI, hL_pI, hI_pI, hR_pI, hJ_pI, hT_pI, hS_pI, hK_pR, hL_pR, hI_pR, hR_pR, hJ_pR, hT_pR, hS_pR, hK_pJ, hL_pJ, hI_pJ, hR_pJ, hJ_pJ, hT_pJ, hS_pJ, hK_wI, hL_wI, hI_wI, hR_wI, hJ_wI, hT_wI, hS_wI, eq_self, and_true, true_and, and_false, false_and, or_true, true_or, or_false, false_or, if_true, if_false, not_true_eq_false, not_false_eq_true, forall_const, implies_true, false_implies, true_implies, Option.some.injEq, forall_eq', exists_eq_left', reduceCtorEq, Nat.reduceEqDiff, c1, T_X12_in, T_X12_ones, T_X11_within, T_X11_bit, T_X11_isIn, T_X11_oneIfIn, T_J6_bitCount_0f7a4, hn, h500, cl_nI (show n < 2147483648 by omega), in_nI h5 (by decide), nar8, nI_1]
  exact ⟨fun c => absurd c hk, fun _ => hw⟩
theorem app_0 (Q : Option Value → Hp → Prop) (h : Hp) (v : Int32) (hq : Q none h) (hl : LayX h) : wp 0 MX9_append Q 3 [some (.ref 1), some (.int v), some (.int (-8))] [] h := by
  refine s_X9_append_3 Q _ _ _ ?_
  have h8 : (-8 : Int32) < 0 := by decide
  generalize (-8 : Int32) = z at h8 ⊢
  simp only [b_X9_append_3, lx_pI, lx_wI, lx_t hl, lx_k hl, lx_r hl, lx_l hl, i_push, i_ild, i_ald, i_ist, i_ast, i_inc, i_bin, i_un, i_divs, i_i2l, i_lshl, i_lor, i_dup, i_dup2, i_pop, i_if, i_cmp, i_nul, i_vret, i_iret, i_zret, i_aret, i_keep, keep, lget, lset, ent, i_getI, i_getJ, i_getR, i_getN, i_putI, i_putZ, i_putJ, i_putR, i_iald, i_bald, i_alen, i_aald, i_iast, i_bast, i_aast, i_new, i_newa, i_anew, i_oini, i_callS, i_callV, i_callI, popn, sh4, i_sw, swP, i_copy, i_binS, List.map, Option.toList_none, Option.toList_some, List.append, List.nil_append, List.cons_append, List.length_cons, List.length_nil, List.replicate, Nat.sub_self, Nat.reduceSub, Nat.reduceAdd, hK_pI, hL_pI, hI_pI, hR_pI, hJ_pI, hT_pI, hS_pI, hK_pR, hL_pR, hI_pR, hR_pR, hJ_pR, hT_pR, hS_pR, hK_pJ, hL_pJ, hI_pJ, hR_pJ, hJ_pJ, hT_pJ, hS_pJ, hK_wI, hL_wI, hI_wI, hR_wI, hJ_wI, hT_wI, hS_wI, eq_self, and_true, true_and, and_false, false_and, or_true, true_or, or_false, false_or, if_true, if_false, not_true_eq_false, not_false_eq_true, forall_const, implies_true, false_implies, true_implies, Option.some.injEq, forall_eq', exists_eq_left', reduceCtorEq, Nat.reduceEqDiff, c1, T_X12_in, T_X12_ones, T_X11_within, T_X11_bit, T_X11_isIn, T_X11_oneIfIn, T_J6_bitCount_0f7a4]
  exact ⟨fun _ => hq, fun c => absurd h8 c⟩
set_option maxRecDepth 100000 in
set_option maxHeartbeats 4000000 in
theorem ok_X9_append : ctr 0 MX9_append T_X9_append := by
  refine ctr_of pn_X9 wc_X9_append (fun av h Q hT => ?_)
  unfold T_X9_append at hT
  split at hT
  · rename_i a v
    refine ⟨⟨by simp [Value.category], Nat.le_of_ble_eq_true rfl⟩, s_X9_append_0 Q _ _ _ ?_⟩
    obtain ⟨rfl, hl, n, hn, h5, hq⟩ := hT
    simp only [MX9_append, b_X9_append_0, i_push, i_ild, i_ald, i_ist, i_ast, i_inc, i_bin, i_un, i_divs, i_i2l, i_lshl, i_lor, i_dup, i_dup2, i_pop, i_if, i_cmp, i_nul, i_vret, i_iret, i_zret, i_aret, i_keep, keep, lget, lset, ent, i_getI, i_getJ, i_getR, i_getN, i_putI, i_putZ, i_putJ, i_putR, i_iald, i_bald, i_alen, i_aald, i_iast, i_bast, i_aast, i_new, i_newa, i_anew, i_oini, i_callS, i_callV, i_callI, popn, sh4, i_sw, swP, i_copy, i_binS, List.map, Option.toList_none, Option.toList_some, List.append, List.nil_append, List.cons_append, List.length_cons, List.length_nil, List.replicate, Nat.sub_self, Nat.reduceSub, Nat.reduceAdd, hK_pI, hL_pI, hI_pI, hR_pI, hJ_pI, hT_pI, hS_pI, hK_pR, hL_pR, hI_pR, hR_pR, hJ_pR, hT_pR, hS_pR, hK_pJ, hL_pJ, hI_pJ, hR_pJ, hJ_pJ, hT_pJ, hS_pJ, hK_wI, hL_wI, hI_wI, hR_wI, hJ_wI, hT_wI, hS_wI, eq_self, and_true, true_and, and_false, false_and, or_true, true_or, or_false, false_or, if_true, if_false, not_true_eq_false, not_false_eq_true, forall_const, implies_true, false_implies, true_implies, Option.some.injEq, forall_eq', exists_eq_left', reduceCtorEq, Nat.reduceEqDiff, c1, T_X12_in, T_X12_ones, T_X11_within, T_X11_bit, T_X11_isIn, T_X11_oneIfIn, T_J6_bitCount_0f7a4]
    refine app_1 Q h v 24 16 n hl hn (by omega) (by decide) (by decide) ?_
    refine app_1 Q _ v 16 8 (n + 1) (x1_lay hl _ _) (x1_size _ _ _) (by omega) (by decide) (by decide) ?_
    refine app_1 Q _ v 8 0 (n + 2) (x1_lay (x1_lay hl _ _) _ _) (x1_size _ _ _) (by omega) (by decide) (by decide) ?_
    refine app_1 Q _ v 0 (-8) (n + 3) (x1_lay (x1_lay (x1_lay hl _ _) _ _) _ _) (x1_size _ _ _) (by omega) (by decide) (by decide) ?_
    exact app_0 Q _ v hq (x4_lay hl n v)
  · exact hT.elim
def r1 (g : Nat → Int32) (n : Nat) (b : Int32) : Nat → Int32 := fun i => if i = n then b else g i
def r4 (g : Nat → Int32) (n : Nat) (v : Int32) : Nat → Int32 := r1 (r1 (r1 (r1 g n (byt v 24)) (n + 1) (byt v 16)) (n + 2) (byt v 8)) (n + 3) (byt v 0)
def r20 (g : Nat → Int32) (n : Nat) (a b c d e : Int32) : Nat → Int32 := r4 (r4 (r4 (r4 (r4 g n a) (n + 4) b) (n + 8) c) (n + 12) d) (n + 16) e
theorem r1_c {g g' : Nat → Int32} {n : Nat} (b : Int32) (h : ∀ k, k < n → g k = g' k) : ∀ k, k < n + 1 → r1 g n b k = r1 g' n b k := fun k hk => by
  unfold r1
  by_cases c : k = n
  · rw [if_pos c, if_pos c]
  · rw [if_neg c, if_neg c]; exact h k (by omega)
theorem r4_c {g g' : Nat → Int32} {n : Nat} (v : Int32) (h : ∀ k, k < n → g k = g' k) : ∀ k, k < n + 4 → r4 g n v k = r4 g' n v k := r1_c _ (r1_c _ (r1_c _ (r1_c _ h)))
theorem r20_c {g g' : Nat → Int32} {n : Nat} (a b c d e : Int32) (h : ∀ k, k < n → g k = g' k) : ∀ k, k < n + 20 → r20 g n a b c d e k = r20 g' n a b c d e k := r4_c _ (r4_c _ (r4_c _ (r4_c _ (r4_c _ h))))
theorem x1_row (h : Hp) (n : Nat) (b : Int32) : hI (x1 h n b) 2 = r1 (hI h 2) n b := by
  funext i
  show hI (pI (pI h 2 n b) 1 1 (nI (n + 1))) 2 i = _
  rw [hI_pI, if_neg (by omega), hI_pI]
  unfold r1
  by_cases c : i = n
  · rw [if_pos ⟨rfl, c⟩, if_pos c]
  · rw [if_neg (fun z => c z.2), if_neg c]
theorem f1_row (h : Hp) (n : Nat) (b : Int32) : hI (f1 h n b) 45 = r1 (hI h 45) n b := by
  funext i
  show hI (pI (pI h 45 n b) 44 2 (nI (n + 1))) 45 i = _
  rw [hI_pI, if_neg (by omega), hI_pI]
  unfold r1
  by_cases c : i = n
  · rw [if_pos ⟨rfl, c⟩, if_pos c]
  · rw [if_neg (fun z => c z.2), if_neg c]
theorem x20_row (h : Hp) (n : Nat) (a b c d e : Int32) : hI (x20 h n a b c d e) 2 = r20 (hI h 2) n a b c d e := by
  unfold x20 x4 r20 r4
  simp only [x1_row]
theorem f20_row (h : Hp) (n : Nat) (a b c d e : Int32) : hI (f20 h n a b c d e) 45 = r20 (hI h 45) n a b c d e := by
  unfold f20 f4 r20 r4
  simp only [f1_row]
theorem x1_o (h : Hp) (n : Nat) (b : Int32) {a : Nat} (i : Nat) (h1 : a ≠ 2) (h2 : a ≠ 1) : hI (x1 h n b) a i = hI h a i := by
  show hI (pI (pI h 2 n b) 1 1 (nI (n + 1))) a i = _
  rw [hI_pI, if_neg (fun z => h2 z.1), hI_pI, if_neg (fun z => h1 z.1)]
theorem f1_o (h : Hp) (n : Nat) (b : Int32) {a i : Nat} (h1 : a ≠ 45) (h2 : ¬ (a = 44 ∧ i = 2)) : hI (f1 h n b) a i = hI h a i := by
  show hI (pI (pI h 45 n b) 44 2 (nI (n + 1))) a i = _
  rw [hI_pI, if_neg h2, hI_pI, if_neg (fun z => h1 z.1)]
theorem x20_o (h : Hp) (n : Nat) (p b c d e : Int32) {a : Nat} (i : Nat) (h1 : a ≠ 2) (h2 : a ≠ 1) : hI (x20 h n p b c d e) a i = hI h a i := by
  unfold x20 x4
  simp only [x1_o _ _ _ i h1 h2]
theorem f20_o (h : Hp) (n : Nat) (p b c d e : Int32) {a i : Nat} (h1 : a ≠ 45) (h2 : ¬ (a = 44 ∧ i = 2)) : hI (f20 h n p b c d e) a i = hI h a i := by
  unfold f20 f4
  simp only [f1_o _ _ _ h1 h2]
theorem x1_sh (h : Hp) (n : Nat) (b : Int32) : Sh h (x1 h n b) := ⟨rfl, rfl, rfl, rfl, rfl⟩
theorem f1_sh (h : Hp) (n : Nat) (b : Int32) : Sh h (f1 h n b) := ⟨rfl, rfl, rfl, rfl, rfl⟩
theorem x4_sh (h : Hp) (n : Nat) (b : Int32) : Sh h (x4 h n b) := (((x1_sh _ _ _).tr (x1_sh _ _ _)).tr (x1_sh _ _ _)).tr (x1_sh _ _ _)
theorem f4_sh (h : Hp) (n : Nat) (b : Int32) : Sh h (f4 h n b) := (((f1_sh _ _ _).tr (f1_sh _ _ _)).tr (f1_sh _ _ _)).tr (f1_sh _ _ _)
theorem x20_sh (h : Hp) (n : Nat) (a b c d e : Int32) : Sh h (x20 h n a b c d e) := ((((x4_sh _ _ _).tr (x4_sh _ _ _)).tr (x4_sh _ _ _)).tr (x4_sh _ _ _)).tr (x4_sh _ _ _)
theorem f20_sh (h : Hp) (n : Nat) (a b c d e : Int32) : Sh h (f20 h n a b c d e) := ((((f4_sh _ _ _).tr (f4_sh _ _ _)).tr (f4_sh _ _ _)).tr (f4_sh _ _ _)).tr (f4_sh _ _ _)
def L_X11_feed : List UInt8 := [42, 180, 0, 10, 180, 0, 48, 17, 1, 224, 164, 0, 5, 2, 172, 42, 180, 0, 10, 27, 182, 0, 51, 42, 180, 0, 10, 28, 182, 0, 51, 42, 180, 0, 10, 29, 182, 0, 51, 42, 180, 0, 10, 21, 4, 182, 0, 51, 42, 180, 0, 10, 21, 5, 182, 0, 51, 42, 180, 0, 10, 180, 0, 48, 172]
theorem Lc_X11_feed : MX11_feed.2.1 = ⟨L_X11_feed.toArray⟩ := rfl
theorem D_X11_feed_0 : dseq MX11_feed.2.1 0 [(.aload_n 0, 1), (.getfield 10, 3), (.getfield 48, 3), (.sipush 480, 3), (.if_icmp .le 5, 3), (.iconst (-1), 1), (.ireturn, 1)] := dq Lc_X11_feed 0 _ (by decide +kernel)
theorem D_X11_feed_15 : dseq MX11_feed.2.1 15 [(.aload_n 0, 1), (.getfield 10, 3), (.iload_n 1, 1), (.invokevirtual 51, 3), (.aload_n 0, 1), (.getfield 10, 3), (.iload_n 2, 1), (.invokevirtual 51, 3), (.aload_n 0, 1), (.getfield 10, 3), (.iload_n 3, 1), (.invokevirtual 51, 3), (.aload_n 0, 1), (.getfield 10, 3), (.iload 4, 2), (.invokevirtual 51, 3), (.aload_n 0, 1), (.getfield 10, 3), (.iload 5, 2), (.invokevirtual 51, 3), (.aload_n 0, 1), (.getfield 10, 3), (.getfield 48, 3), (.ireturn, 1)] := dq Lc_X11_feed 15 _ (by decide +kernel)
def c_X11_feed_57 (Q : Option Value → Hp → Prop) : Kt := i_ald 0 (i_getR 11 0 (i_getI 9 1 (i_iret Q)))
def c_X11_feed_48 (Q : Option Value → Hp → Prop) : Kt := i_ald 0 (i_getR 11 0 (i_ild 5 (i_callV 9 1 T_X9_append (c_X11_feed_57 Q))))
def c_X11_feed_39 (Q : Option Value → Hp → Prop) : Kt := i_ald 0 (i_getR 11 0 (i_ild 4 (i_callV 9 1 T_X9_append (c_X11_feed_48 Q))))
def c_X11_feed_31 (Q : Option Value → Hp → Prop) : Kt := i_ald 0 (i_getR 11 0 (i_ild 3 (i_callV 9 1 T_X9_append (c_X11_feed_39 Q))))
def c_X11_feed_23 (Q : Option Value → Hp → Prop) : Kt := i_ald 0 (i_getR 11 0 (i_ild 2 (i_callV 9 1 T_X9_append (c_X11_feed_31 Q))))
def b_X11_feed_0 (Q : Option Value → Hp → Prop) : Kt := i_ald 0 (i_getR 11 0 (i_getI 9 1 (i_push (.int 480) (i_cmp (fun x y => x ≤ y) (i_ald 0 (i_getR 11 0 (i_ild 1 (i_callV 9 1 T_X9_append (c_X11_feed_23 Q))))) (i_push (.int (-1)) (i_iret Q))))))
set_option maxRecDepth 100000 in
theorem s_X11_feed_0 (Q : Option Value → Hp → Prop) : ∀ A st h, b_X11_feed_0 Q A st h → wp 1 MX11_feed Q 0 A st h := (q1 (s_aldn (n := 0) (i := 0) rfl) D_X11_feed_0 fun D => (qC fl_X11_10 rfl D fun D => (qC fl_X11_48 rfl D fun D => (q1 (s_sipush (n := 480) (v := 480) (by decide)) D fun D => (qB s_cmple 15 (by decide) D (q1 (s_aldn (n := 0) (i := 0) rfl) D_X11_feed_15 fun D => (qC fl_X11_10 rfl D fun D => (q1 (s_ildn (n := 1) (i := 1) rfl) D fun D => (qX (s_callV kX9 rfl ok_X9_append mo_X9_append (ch_2_6_ok.1.1 rfl) (ch_2_6_ok.2.1.1 rfl) (ch_2_6_ok.2.2.1.1 rfl)) rfl (by decide) D fun D => (q1 (s_aldn (n := 0) (i := 0) rfl) D fun D => (qC fl_X11_10 rfl D fun D => (q1 (s_ildn (n := 2) (i := 2) rfl) D fun D => (qX (s_callV kX9 rfl ok_X9_append mo_X9_append (ch_2_6_ok.1.1 rfl) (ch_2_6_ok.2.1.1 rfl) (ch_2_6_ok.2.2.1.1 rfl)) rfl (by decide) D fun D => (q1 (s_aldn (n := 0) (i := 0) rfl) D fun D => (qC fl_X11_10 rfl D fun D => (q1 (s_ildn (n := 3) (i := 3) rfl) D fun D => (qX (s_callV kX9 rfl ok_X9_append mo_X9_append (ch_2_6_ok.1.1 rfl) (ch_2_6_ok.2.1.1 rfl) (ch_2_6_ok.2.2.1.1 rfl)) rfl (by decide) D fun D => (q1 (s_aldn (n := 0) (i := 0) rfl) D fun D => (qC fl_X11_10 rfl D fun D => (q1 s_ild D fun D => (qX (s_callV kX9 rfl ok_X9_append mo_X9_append (ch_2_6_ok.1.1 rfl) (ch_2_6_ok.2.1.1 rfl) (ch_2_6_ok.2.2.1.1 rfl)) rfl (by decide) D fun D => (q1 (s_aldn (n := 0) (i := 0) rfl) D fun D => (qC fl_X11_10 rfl D fun D => (q1 s_ild D fun D => (qX (s_callV kX9 rfl ok_X9_append mo_X9_append (ch_2_6_ok.1.1 rfl) (ch_2_6_ok.2.1.1 rfl) (ch_2_6_ok.2.2.1.1 rfl)) rfl (by decide) D fun D => (q1 (s_aldn (n := 0) (i := 0) rfl) D fun D => (qC fl_X11_10 rfl D fun D => (qC fl_X11_48 rfl D fun D => (qI rfl D)))))))))))))))))))))))) fun D => (q1 (s_iconst (n := (-1)) (v := (-1)) (by decide)) D fun D => (qI rfl D)))))))

def T_X11_feed : Tr := fun av h Q => match av with
  | [.ref o, .int a, .int b, .int c, .int d, .int e] => o = 0 ∧ LayX h ∧ ∃ n : Nat, hI h 1 1 = nI n ∧ n ≤ 500 ∧ (480 < n → Q (some (.int (-1))) h) ∧ (n ≤ 480 → Q (some (.int (nI (n + 20)))) (x20 h n a b c d e))
  | _ => False
set_option maxRecDepth 100000 in
set_option maxHeartbeats 4000000 in
theorem ok_X11_feed : ctr 1 MX11_feed T_X11_feed := by
  refine ctr_of pn_X11 wc_X11_feed (fun av h Q hT => ?_)
  unfold T_X11_feed at hT
  split at hT
  · rename_i o a b c d e
    refine ⟨⟨by simp [Value.category], Nat.le_of_ble_eq_true rfl⟩, s_X11_feed_0 Q _ _ _ ?_⟩
    obtain ⟨rfl, hl, n, hn, h5, hq1, hq2⟩ := hT
    have h480 : nI n ≤ (480 : Int32) ↔ n ≤ 480 := nI_leI (b := 480) (by omega) (by decide)
    simp only [MX11_feed, b_X11_feed_0, lx_pI, lx_wI, lx_t hl, lx_k hl, lx_r hl, lx_l hl, i_push, i_ild, i_ald, i_ist, i_ast, i_inc, i_bin, i_un, i_divs, i_i2l, i_lshl, i_lor, i_dup, i_dup2, i_pop, i_if, i_cmp, i_nul, i_vret, i_iret, i_zret, i_aret, i_keep, keep, lget, lset, ent, i_getI, i_getJ, i_getR, i_getN, i_putI, i_putZ, i_putJ, i_putR, i_iald, i_bald, i_alen, i_aald, i_iast, i_bast, i_aast, i_new, i_newa, i_anew, i_oini, i_callS, i_callV, i_callI, popn, sh4, i_sw, swP, i_copy, i_binS, List.map, Option.toList_none, Option.toList_some, List.append, List.nil_append, List.cons_append, List.length_cons, List.length_nil, List.replicate, Nat.sub_self, Nat.reduceSub, Nat.reduceAdd, hK_pI, hL_pI, hI_pI, hR_pI, hJ_pI, hT_pI, hS_pI, hK_pR, hL_pR, hI_pR, hR_pR, hJ_pR, hT_pR, hS_pR, hK_pJ, hL_pJ, hI_pJ, hR_pJ, hJ_pJ, hT_pJ, hS_pJ, hK_wI, hL_wI, hI_wI, hR_wI, hJ_wI, hT_wI, hS_wI, eq_self, and_true, true_and, and_false, false_and, or_true, true_or, or_false, false_or, if_true, if_false, not_true_eq_false, not_false_eq_true, forall_const, implies_true, false_implies, true_implies, Option.some.injEq, forall_eq', exists_eq_left', reduceCtorEq, Nat.reduceEqDiff, c1, T_X12_in, T_X12_ones, T_X11_within, T_X11_bit, T_X11_isIn, T_X11_oneIfIn, T_J6_bitCount_0f7a4, hn, h480]
    refine ⟨fun z => ?_, fun z => hq1 (by omega)⟩
    refine ⟨rfl, hl, n, hn, by omega, ?_⟩
    have hl4 := x4_lay hl n a
    simp only [c_X11_feed_23, i_push, i_ild, i_ald, i_ist, i_ast, i_inc, i_bin, i_un, i_divs, i_i2l, i_lshl, i_lor, i_dup, i_dup2, i_pop, i_if, i_cmp, i_nul, i_vret, i_iret, i_zret, i_aret, i_keep, keep, lget, lset, ent, i_getI, i_getJ, i_getR, i_getN, i_putI, i_putZ, i_putJ, i_putR, i_iald, i_bald, i_alen, i_aald, i_iast, i_bast, i_aast, i_new, i_newa, i_anew, i_oini, i_callS, i_callV, i_callI, popn, sh4, i_sw, swP, i_copy, i_binS, List.map, Option.toList_none, Option.toList_some, List.append, List.nil_append, List.cons_append, List.length_cons, List.length_nil, List.replicate, Nat.sub_self, Nat.reduceSub, Nat.reduceAdd, hK_pI, hL_pI, hI_pI, hR_pI, hJ_pI, hT_pI, hS_pI, hK_pR, hL_pR, hI_pR, hR_pR, hJ_pR, hT_pR, hS_pR, hK_pJ, hL_pJ, hI_pJ, hR_pJ, hJ_pJ, hT_pJ, hS_pJ, hK_wI, hL_wI, hI_wI, hR_wI, hJ_wI, hT_wI, hS_wI, eq_self, and_true, true_and, and_false, false_and, or_true, true_or, or_false, false_or, if_true, if_false, not_true_eq_false, not_false_eq_true, forall_const, implies_true, false_implies, true_implies, Option.some.injEq, forall_eq', exists_eq_left', reduceCtorEq, Nat.reduceEqDiff, c1, T_X12_in, T_X12_ones, T_X11_within, T_X11_bit, T_X11_isIn, T_X11_oneIfIn, T_J6_bitCount_0f7a4, lx_t hl4, lx_k hl4, lx_r hl4]
    refine ⟨rfl, hl4, n + 4, x4_size _ _ _, by omega, ?_⟩
    have hl8 := x4_lay (x4_lay hl n a) (n + 4) b
    simp only [c_X11_feed_31, i_push, i_ild, i_ald, i_ist, i_ast, i_inc, i_bin, i_un, i_divs, i_i2l, i_lshl, i_lor, i_dup, i_dup2, i_pop, i_if, i_cmp, i_nul, i_vret, i_iret, i_zret, i_aret, i_keep, keep, lget, lset, ent, i_getI, i_getJ, i_getR, i_getN, i_putI, i_putZ, i_putJ, i_putR, i_iald, i_bald, i_alen, i_aald, i_iast, i_bast, i_aast, i_new, i_newa, i_anew, i_oini, i_callS, i_callV, i_callI, popn, sh4, i_sw, swP, i_copy, i_binS, List.map, Option.toList_none, Option.toList_some, List.append, List.nil_append, List.cons_append, List.length_cons, List.length_nil, List.replicate, Nat.sub_self, Nat.reduceSub, Nat.reduceAdd, hK_pI, hL_pI, hI_pI, hR_pI, hJ_pI, hT_pI, hS_pI, hK_pR, hL_pR, hI_pR, hR_pR, hJ_pR, hT_pR, hS_pR, hK_pJ, hL_pJ, hI_pJ, hR_pJ, hJ_pJ, hT_pJ, hS_pJ, hK_wI, hL_wI, hI_wI, hR_wI, hJ_wI, hT_wI, hS_wI, eq_self, and_true, true_and, and_false, false_and, or_true, true_or, or_false, false_or, if_true, if_false, not_true_eq_false, not_false_eq_true, forall_const, implies_true, false_implies, true_implies, Option.some.injEq, forall_eq', exists_eq_left', reduceCtorEq, Nat.reduceEqDiff, c1, T_X12_in, T_X12_ones, T_X11_within, T_X11_bit, T_X11_isIn, T_X11_oneIfIn, T_J6_bitCount_0f7a4, lx_t hl8, lx_k hl8, lx_r hl8]
    refine ⟨rfl, hl8, n + 8, x4_size _ _ _, by omega, ?_⟩
    have hl12 := x4_lay (x4_lay (x4_lay hl n a) (n + 4) b) (n + 8) c
    simp only [c_X11_feed_39, i_push, i_ild, i_ald, i_ist, i_ast, i_inc, i_bin, i_un, i_divs, i_i2l, i_lshl, i_lor, i_dup, i_dup2, i_pop, i_if, i_cmp, i_nul, i_vret, i_iret, i_zret, i_aret, i_keep, keep, lget, lset, ent, i_getI, i_getJ, i_getR, i_getN, i_putI, i_putZ, i_putJ, i_putR, i_iald, i_bald, i_alen, i_aald, i_iast, i_bast, i_aast, i_new, i_newa, i_anew, i_oini, i_callS, i_callV, i_callI, popn, sh4, i_sw, swP, i_copy, i_binS, List.map, Option.toList_none, Option.toList_some, List.append, List.nil_append, List.cons_append, List.length_cons, List.length_nil, List.replicate, Nat.sub_self, Nat.reduceSub, Nat.reduceAdd, hK_pI, hL_pI, hI_pI, hR_pI, hJ_pI, hT_pI, hS_pI, hK_pR, hL_pR, hI_pR, hR_pR, hJ_pR, hT_pR, hS_pR, hK_pJ, hL_pJ, hI_pJ, hR_pJ, hJ_pJ, hT_pJ, hS_pJ, hK_wI, hL_wI, hI_wI, hR_wI, hJ_wI, hT_wI, hS_wI, eq_self, and_true, true_and, and_false, false_and, or_true, true_or, or_false, false_or, if_true, if_false, not_true_eq_false, not_false_eq_true, forall_const, implies_true, false_implies, true_implies, Option.some.injEq, forall_eq', exists_eq_left', reduceCtorEq, Nat.reduceEqDiff, c1, T_X12_in, T_X12_ones, T_X11_within, T_X11_bit, T_X11_isIn, T_X11_oneIfIn, T_J6_bitCount_0f7a4, lx_t hl12, lx_k hl12, lx_r hl12]
    refine ⟨rfl, hl12, n + 12, x4_size _ _ _, by omega, ?_⟩
    have hl16 := x4_lay (x4_lay (x4_lay (x4_lay hl n a) (n + 4) b) (n + 8) c) (n + 12) d
    simp only [c_X11_feed_48, i_push, i_ild, i_ald, i_ist, i_ast, i_inc, i_bin, i_un, i_divs, i_i2l, i_lshl, i_lor, i_dup, i_dup2, i_pop, i_if, i_cmp, i_nul, i_vret, i_iret, i_zret, i_aret, i_keep, keep, lget, lset, ent, i_getI, i_getJ, i_getR, i_getN, i_putI, i_putZ, i_putJ, i_putR, i_iald, i_bald, i_alen, i_aald, i_iast, i_bast, i_aast, i_new, i_newa, i_anew, i_oini, i_callS, i_callV, i_callI, popn, sh4, i_sw, swP, i_copy, i_binS, List.map, Option.toList_none, Option.toList_some, List.append, List.nil_append, List.cons_append, List.length_cons, List.length_nil, List.replicate, Nat.sub_self, Nat.reduceSub, Nat.reduceAdd, hK_pI, hL_pI, hI_pI, hR_pI, hJ_pI, hT_pI, hS_pI, hK_pR, hL_pR, hI_pR, hR_pR, hJ_pR, hT_pR, hS_pR, hK_pJ, hL_pJ, hI_pJ, hR_pJ, hJ_pJ, hT_pJ, hS_pJ, hK_wI, hL_wI, hI_wI, hR_wI, hJ_wI, hT_wI, hS_wI, eq_self, and_true, true_and, and_false, false_and, or_true, true_or, or_false, false_or, if_true, if_false, not_true_eq_false, not_false_eq_true, forall_const, implies_true, false_implies, true_implies, Option.some.injEq, forall_eq', exists_eq_left', reduceCtorEq, Nat.reduceEqDiff, c1, T_X12_in, T_X12_ones, T_X11_within, T_X11_bit, T_X11_isIn, T_X11_oneIfIn, T_J6_bitCount_0f7a4, lx_t hl16, lx_k hl16, lx_r hl16]
    refine ⟨rfl, hl16, n + 16, x4_size _ _ _, by omega, ?_⟩
    have hl20 := x20_lay hl n a b c d e
    have hq3 := hq2 z
    rw [show x4 (x4 (x4 (x4 (x4 h n a) (n + 4) b) (n + 8) c) (n + 12) d) (n + 16) e = x20 h n a b c d e from rfl]
    simp only [c_X11_feed_57, i_push, i_ild, i_ald, i_ist, i_ast, i_inc, i_bin, i_un, i_divs, i_i2l, i_lshl, i_lor, i_dup, i_dup2, i_pop, i_if, i_cmp, i_nul, i_vret, i_iret, i_zret, i_aret, i_keep, keep, lget, lset, ent, i_getI, i_getJ, i_getR, i_getN, i_putI, i_putZ, i_putJ, i_putR, i_iald, i_bald, i_alen, i_aald, i_iast, i_bast, i_aast, i_new, i_newa, i_anew, i_oini, i_callS, i_callV, i_callI, popn, sh4, i_sw, swP, i_copy, i_binS, List.map, Option.toList_none, Option.toList_some, List.append, List.nil_append, List.cons_append, List.length_cons, List.length_nil, List.replicate, Nat.sub_self, Nat.reduceSub, Nat.reduceAdd, hK_pI, hL_pI, hI_pI, hR_pI, hJ_pI, hT_pI, hS_pI, hK_pR, hL_pR, hI_pR, hR_pR, hJ_pR, hT_pR, hS_pR, hK_pJ, hL_pJ, hI_pJ, hR_pJ, hJ_pJ, hT_pJ, hS_pJ, hK_wI, hL_wI, hI_wI, hR_wI, hJ_wI, hT_wI, hS_wI, eq_self, and_true, true_and, and_false, false_and, or_true, true_or, or_false, false_or, if_true, if_false, not_true_eq_false, not_false_eq_true, forall_const, implies_true, false_implies, true_implies, Option.some.injEq, forall_eq', exists_eq_left', reduceCtorEq, Nat.reduceEqDiff, c1, T_X12_in, T_X12_ones, T_X11_within, T_X11_bit, T_X11_isIn, T_X11_oneIfIn, T_J6_bitCount_0f7a4, lx_t hl20, lx_k hl20, lx_r hl20, x20_size]
    exact hq3
  · exact hT.elim
theorem st_feed {h : Hp} (hc : CP h) (a b c d e : Int32) : SOK 1 MX11_feed 1 MX12_feed [.int a, .int b, .int c, .int d, .int e] h := by
  have hl := hc.1
  have hm := hc.2.1
  obtain ⟨⟨L, l1, l2, l3, l4⟩, t2, t3⟩ := hc.2.2.1
  obtain ⟨R, P, H, E, Ln, q, np, hs⟩ := hc.2.2.2.1
  by_cases z : L ≤ 480
  · have o1 : ∀ x i, x ≠ 2 → x ≠ 1 → hI (x20 h L a b c d e) x i = hI h x i := fun x i n1 n2 => x20_o h L a b c d e i n1 n2
    have o2 : ∀ x i, x ≠ 45 → ¬ (x = 44 ∧ i = 2) → ¬ (x = 44 ∧ i = 0) → hI (f20 (pI (x20 h L a b c d e) 44 0 0) L a b c d e) x i = hI (x20 h L a b c d e) x i := fun x i n1 n2 n3 => by rw [f20_o _ _ _ _ _ _ _ n1 n2, hI_pI, if_neg n3]
    have o : ∀ x i, x ≠ 2 → x ≠ 1 → x ≠ 44 → x ≠ 45 → hI (f20 (pI (x20 h L a b c d e) 44 0 0) L a b c d e) x i = hI h x i := fun x i n1 n2 n3 n4 => by rw [o2 x i n4 (fun y => n3 y.1) (fun y => n3 y.1), o1 x i n1 n2]
    have s1 : ∀ g : Hp, Sh g (pI g 44 0 0) := fun g => ⟨rfl, rfl, rfl, rfl, rfl⟩
    have s2 : Sh h (f20 (pI (x20 h L a b c d e) 44 0 0) L a b c d e) := ((x20_sh h L a b c d e).tr (s1 _)).tr (f20_sh _ _ _ _ _ _ _)
    have s20 := x20_sh h L a b c d e
    refine wr (nI (L + 20)) (x20 h L a b c d e) (f20 (pI (x20 h L a b c d e) 44 0 0) L a b c d e) (fun Q hq => ok_X11_feed _ _ _ ⟨rfl, hl, L, l2, l1, fun y => absurd y (by omega), fun _ => hq⟩) (fun Q hq => ok_X12_feed _ _ _ ⟨rfl, s20.m hm, L, (o1 44 2 (by decide) (by decide)).trans l3, l1, fun y => absurd y (by omega), fun _ => hq⟩) ?_ (by rw [s2.1]; exact Nat.le_add_right _ _) (by rw [s2.2.1]; exact Nat.le_add_right _ _) (lm_k (s20.m hm)).1
    refine hc.w s2 (fun x i hx => o x i (by omega) (by omega) (by omega) (by omega)) (fun x i x1 x2 _ => o x i (by omega) (by omega) (by omega) (by omega)) (fun k => o 89 k (by decide) (by decide) (by decide) (by decide)) ⟨⟨L + 20, by omega, ?_, ?_, fun k hk => ?_⟩, ?_, ?_⟩ ⟨R, P, H, E, Ln, q, np, hs.keep s2 hl (fun x i hx => o x i (by omega) (by omega) (by omega) (by omega)) (fun x x1 x2 => funext fun i => o x i (by omega) (by omega) (by omega) (by omega)) (fun x x1 x2 => funext fun i => o x i (by omega) (by omega) (by omega) (by omega))⟩
    · rw [o2 1 1 (by decide) (by decide) (by decide)]; exact x20_size h L a b c d e
    · exact f20_size _ _ _ _ _ _ _
    · rw [o2 2 k (by decide) (by omega) (by omega), congrFun (x20_row h L a b c d e) k, congrFun (f20_row _ L a b c d e) k]
      have e45 : hI (pI (x20 h L a b c d e) 44 0 0) 45 = hI h 45 := funext fun i => by rw [hI_pI, if_neg (by omega)]; exact o1 45 i (by decide) (by decide)
      rw [e45]
      exact r20_c a b c d e l4 k hk
    · rw [o 0 4 (by decide) (by decide) (by decide) (by decide), o2 44 43 (by decide) (by decide) (by decide), o1 44 43 (by decide) (by decide)]; exact t2
    · rw [o 0 5 (by decide) (by decide) (by decide) (by decide), o2 44 44 (by decide) (by decide) (by decide), o1 44 44 (by decide) (by decide)]; exact t3
  · exact rd (-1) hc (fun Q hq => ok_X11_feed _ _ _ ⟨rfl, hl, L, l2, l1, fun _ => hq, fun y => absurd y z⟩) (fun Q hq => ok_X12_feed _ _ _ ⟨rfl, hm, L, l3, l1, fun _ => hq, fun y => absurd y z⟩)
