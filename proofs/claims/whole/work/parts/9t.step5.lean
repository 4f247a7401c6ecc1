/-! ===== steps: ill, bar, helper ===== -/
theorem TF.c {f g : Mem} (h0 : g 0 = f 0) (h1 : g 1 = f 1) (h2 : g 2 = f 2) (h5 : g 45 = f 45) (h4 : ∀ j, j ≠ 0 → g 44 j = f 44 j) (ht : TF f) : TF g := by
  unfold TF at ht ⊢
  rw [h0, h1, h2, h5, h4 2 (by decide), h4 43 (by decide), h4 44 (by decide)]
  exact ht
/-- a step that writes the state now on both sides -/
theorem CP.now {h h2 : Hp} (hc : CP h) {R P H E Ln q np R' P' H' np' : Nat} (hs : ST h 3 12 (hI h) R P H E Ln q np) (s2 : Sh h h2) (hx : ∀ a, a < 12 ∨ (30 ≤ a ∧ a ≤ 43) ∨ a = 45 ∨ 80 ≤ a → hI h2 a = hI h a) (h44 : ∀ j, j ≠ 0 → hI h2 44 j = hI h 44 j) (hsl : ∀ a i, 46 ≤ a → a ≤ 79 → szA a ≤ i → hI h2 a i = hI h a i) (hru : ∀ a, 69 ≤ a → a ≤ 77 → hI h2 a = hI h a) (hrm : RmC (hI h2) 12 (hI h2) R') (hpc : PC (hI h2) 12 (hI h2) P') (hnp : hI h2 16 1 = nI np') (hhl : HlC (hI h2) 12 (hI h2) H') (hjp : JP (hI h2) R' P' np') (hlt : ∀ e n Rn, E = e + 1 → LayN h n Rn → LtW (hI h2) (hI h) e P n Rn → LtW (hI h2) (hI h2) e P' n Rn) : CP h2 := by
  have hl := hc.1
  have h9 : ∀ a i, (90 ≤ a ∨ (4 ≤ a ∧ a ≤ 11)) → hI h2 a i = hI h a i := fun a i ha => congrFun (hx a (by omega)) i
  refine hc.w s2 h9 hsl (fun k => congrFun (hx 89 (by decide)) k) (TF.c (hx 0 (by decide)) (hx 1 (by decide)) (hx 2 (by decide)) (hx 45 (by decide)) h44 hc.2.2.1) ⟨R', P', H', E, Ln, q, np', ?_⟩
  exact ST.now (s2.kp h9) (s2.x hl) (by rw [s2.2.2.2.2]) (by rw [s2.2.2.2.2]) hs hrm hpc hnp hhl hjp (fun a b1 b2 => hru a (by omega) (by omega)) (by rw [hru 76 (by decide) (by decide)]) (hru 77 (by decide) (by decide)) hlt
theorem JP.R {J : Mem} {R R' P np : Nat} (h : R ≤ R') (hj : JP J R P np) : JP J R' P np := by
  obtain ⟨a, b, c⟩ := hj
  refine ⟨a, fun p hp => ?_, c⟩
  rcases b p hp with z | ⟨s, s1, s2⟩
  · exact Or.inl z
  · exact Or.inr ⟨s, by omega, s2⟩
def L_X11_ill : List UInt8 := [42, 180, 0, 24, 180, 0, 99, 27, 182, 0, 108, 153, 0, 12, 28, 3, 6, 184, 0, 85, 154, 0, 5, 3, 172, 42, 180, 0, 24, 180, 0, 99, 180, 0, 112, 27, 28, 79, 4, 172]
theorem Lc_X11_ill : MX11_ill.2.1 = ⟨L_X11_ill.toArray⟩ := rfl
theorem D_X11_ill_0 : dseq MX11_ill.2.1 0 [(.aload_n 0, 1), (.getfield 24, 3), (.getfield 99, 3), (.iload_n 1, 1), (.invokevirtual 108, 3), (.ifCond .eq 12, 3), (.iload_n 2, 1), (.iconst 0, 1), (.iconst 3, 1), (.invokestatic 85, 3), (.ifCond .ne 5, 3), (.iconst 0, 1), (.ireturn, 1)] := dq Lc_X11_ill 0 _ (by decide +kernel)
theorem D_X11_ill_23 : dseq MX11_ill.2.1 23 [(.iconst 0, 1), (.ireturn, 1)] := dq Lc_X11_ill 23 _ (by decide +kernel)
theorem D_X11_ill_25 : dseq MX11_ill.2.1 25 [(.aload_n 0, 1), (.getfield 24, 3), (.getfield 99, 3), (.getfield 112, 3), (.iload_n 1, 1), (.iload_n 2, 1), (.iastore, 1), (.iconst 1, 1), (.ireturn, 1)] := dq Lc_X11_ill 25 _ (by decide +kernel)
def c_X11_ill_11 (Q : Option Value → Hp → Prop) : Kt := i_if (fun x => x = 0) (i_push (.int 0) (i_zret Q)) (i_ild 2 (i_push (.int 0) (i_push (.int 3) (i_callS 3 T_X11_within (i_if (fun x => x = 0) (i_push (.int 0) (i_zret Q)) (i_ald 0 (i_getR 11 1 (i_getR 8 1 (i_getR 3 4 (i_ild 1 (i_ild 2 (i_iast (i_push (.int 1) (i_zret Q))))))))))))))
def b_X11_ill_0 (Q : Option Value → Hp → Prop) : Kt := i_ald 0 (i_getR 11 1 (i_getR 8 1 (i_ild 1 (i_callV 3 1 T_X3_has (c_X11_ill_11 Q)))))
set_option maxRecDepth 100000 in
theorem s_X11_ill_0 (Q : Option Value → Hp → Prop) : ∀ A st h, b_X11_ill_0 Q A st h → wp 1 MX11_ill Q 0 A st h := (q1 (s_aldn (n := 0) (i := 0) rfl) D_X11_ill_0 fun D => (qC fl_X11_24 rfl D fun D => (qC fl_X11_99 rfl D fun D => (q1 (s_ildn (n := 1) (i := 1) rfl) D fun D => (qX (s_callV kX3 rfl ok_X3_has mo_X3_has (ch_3_6_ok.2.2.2.2.2.2.2.2.2.2.2.1.1 rfl) (ch_3_6_ok.2.2.2.2.2.2.2.2.2.2.2.2.1.1 rfl) (ch_3_6_ok.2.2.2.2.2.2.2.2.2.2.2.2.2.1.1 rfl)) rfl (by decide) D fun D => (qB s_ifeq 23 (by decide) D (q1 (s_iconst (n := 0) (v := 0) (by decide)) D_X11_ill_23 fun D => (qZ rfl D)) fun D => (q1 (s_ildn (n := 2) (i := 2) rfl) D fun D => (q1 (s_iconst (n := 0) (v := 0) (by decide)) D fun D => (q1 (s_iconst (n := 3) (v := 3) (by decide)) D fun D => (qX (s_callS ok_X11_within mo_X11_within (ch_3_5_ok.2.2.2.2.1.1 rfl) (ch_3_5_ok.2.2.2.2.2.1.1 rfl)) rfl (by decide) D fun D => (qBn s_ifne2 25 (by decide) D (q1 (s_aldn (n := 0) (i := 0) rfl) D_X11_ill_25 fun D => (qC fl_X11_24 rfl D fun D => (qC fl_X11_99 rfl D fun D => (qC fl_X11_112 rfl D fun D => (q1 (s_ildn (n := 1) (i := 1) rfl) D fun D => (q1 (s_ildn (n := 2) (i := 2) rfl) D fun D => (q1 s_iast D fun D => (q1 (s_iconst (n := 1) (v := 1) (by decide)) D fun D => (qZ rfl D))))))))) fun D => (q1 (s_iconst (n := 0) (v := 0) (by decide)) D fun D => (qZ rfl D)))))))))))))
def T_X11_ill : Tr := fun av h Q => c1 3 av ∧ b_X11_ill_0 Q (ent 3 av) [] h
theorem ok_X11_ill : ctr 1 MX11_ill T_X11_ill := ctr_of pn_X11 wc_X11_ill (fun av h Q hT => ⟨c1_ok hT.1, s_X11_ill_0 Q _ _ _ hT.2⟩)

theorem st_ill {h : Hp} (hc : CP h) (p i : Int32) : SOK 1 MX11_ill 2 MX12_ill [.int p, .int i] h := by
  have hl := hc.1
  have hm := hc.2.1
  obtain ⟨⟨L, l1, l2, l3, l4⟩, t2, t3⟩ := hc.2.2.1
  obtain ⟨R, P, H, E, Ln, q, np, hs⟩ := hc.2.2.2.1
  obtain ⟨a1, a2, a3, a4, a5, a6, a7, a8, a9, a10, a11, a12, a13⟩ := id hs
  have h16 : hI h 16 0 = nI P := a5.2.1
  have hP := a5.1
  have hcls : ∀ Q : Option Value → Hp → Prop, (∀ k, k < P → p = nI k → c_X11_ill_11 Q [some (.ref 0), some (.int p), some (.int i)] [.int 1] h) → ((¬ ∃ k, k < P ∧ p = nI k) → Q (some (.int 0)) h) → T_X11_ill [.ref 0, .int p, .int i] h Q := by
    intro Q g1 g0
    have hgo := has_go hl hP h16 (p := p) (Q := fun r h' => c_X11_ill_11 Q [some (.ref 0), some (.int p), some (.int i)] (r.toList ++ []) h') (fun k hk e => g1 k hk e) (fun e => by
      have := g0 e
      show c_X11_ill_11 Q _ [.int 0] h
      simp only [c_X11_ill_11, i_push, i_ild, i_ald, i_ist, i_ast, i_inc, i_bin, i_un, i_divs, i_i2l, i_lshl, i_lor, i_dup, i_dup2, i_pop, i_if, i_cmp, i_nul, i_vret, i_iret, i_zret, i_aret, i_keep, keep, lget, lset, ent, i_getI, i_getJ, i_getR, i_getN, i_putI, i_putZ, i_putJ, i_putR, i_iald, i_bald, i_alen, i_aald, i_iast, i_bast, i_aast, i_new, i_newa, i_anew, i_oini, i_callS, i_callV, i_callI, popn, sh4, i_sw, swP, i_copy, i_binS, List.map, Option.toList_none, Option.toList_some, List.append, List.nil_append, List.cons_append, List.length_cons, List.length_nil, List.replicate, Nat.sub_self, Nat.reduceSub, Nat.reduceAdd, hK_pI, hL_pI, hI_pI, hR_pI, hJ_pI, hT_pI, hS_pI, hK_pR, hL_pR, hI_pR, hR_pR, hJ_pR, hT_pR, hS_pR, hK_pJ, hL_pJ, hI_pJ, hR_pJ, hJ_pJ, hT_pJ, hS_pJ, hK_wI, hL_wI, hI_wI, hR_wI, hJ_wI, hT_wI, hS_wI, eq_self, and_true, true_and, and_false, false_and, or_true, true_or, or_false, false_or, if_true, if_false, not_true_eq_false, not_false_eq_true, forall_const, implies_true, false_implies, true_implies, Option.some.injEq, forall_eq', exists_eq_left', reduceCtorEq, Nat.reduceEqDiff, c1, T_X12_in, T_X12_ones, T_X11_within, T_X11_bit, T_X11_isIn, T_X11_oneIfIn, T_J6_bitCount_0f7a4]
      exact this)
    unfold T_X11_ill
    simp only [b_X11_ill_0, lx_pI, lx_wI, lx_t hl, lx_k hl, lx_r hl, lx_l hl, i_push, i_ild, i_ald, i_ist, i_ast, i_inc, i_bin, i_un, i_divs, i_i2l, i_lshl, i_lor, i_dup, i_dup2, i_pop, i_if, i_cmp, i_nul, i_vret, i_iret, i_zret, i_aret, i_keep, keep, lget, lset, ent, i_getI, i_getJ, i_getR, i_getN, i_putI, i_putZ, i_putJ, i_putR, i_iald, i_bald, i_alen, i_aald, i_iast, i_bast, i_aast, i_new, i_newa, i_anew, i_oini, i_callS, i_callV, i_callI, popn, sh4, i_sw, swP, i_copy, i_binS, List.map, Option.toList_none, Option.toList_some, List.append, List.nil_append, List.cons_append, List.length_cons, List.length_nil, List.replicate, Nat.sub_self, Nat.reduceSub, Nat.reduceAdd, hK_pI, hL_pI, hI_pI, hR_pI, hJ_pI, hT_pI, hS_pI, hK_pR, hL_pR, hI_pR, hR_pR, hJ_pR, hT_pR, hS_pR, hK_pJ, hL_pJ, hI_pJ, hR_pJ, hJ_pJ, hT_pJ, hS_pJ, hK_wI, hL_wI, hI_wI, hR_wI, hJ_wI, hT_wI, hS_wI, eq_self, and_true, true_and, and_false, false_and, or_true, true_or, or_false, false_or, if_true, if_false, not_true_eq_false, not_false_eq_true, forall_const, implies_true, false_implies, true_implies, Option.some.injEq, forall_eq', exists_eq_left', reduceCtorEq, Nat.reduceEqDiff, c1, T_X12_in, T_X12_ones, T_X11_within, T_X11_bit, T_X11_isIn, T_X11_oneIfIn, T_J6_bitCount_0f7a4]
    exact hgo
  by_cases c : (∃ k, k < P ∧ p = nI k) ∧ 0 ≤ i ∧ i ≤ 3
  · obtain ⟨⟨k, hk, rfl⟩, ci⟩ := c
    obtain ⟨ic, hic, ei⟩ := (per_ix (P := 4) (by decide)).mp (show 0 ≤ i ∧ i ≤ nI 4 - 1 from ci)
    have s2 : Sh h (pI (pI (pI h 19 k i) 44 0 0) 57 k i) := ⟨rfl, rfl, rfl, rfl, rfl⟩
    have o : ∀ a, a ≠ 19 → a ≠ 44 → a ≠ 57 → hI (pI (pI (pI h 19 k i) 44 0 0) 57 k i) a = hI h a := fun a n1 n2 n3 => funext fun j => by
      rw [hI_pI, if_neg (fun z => n3 z.1), hI_pI, if_neg (fun z => n2 z.1), hI_pI, if_neg (fun z => n1 z.1)]
    have r44 : ∀ j, j ≠ 0 → hI (pI (pI (pI h 19 k i) 44 0 0) 57 k i) 44 j = hI h 44 j := fun j hj => by
      simp only [hI_pI, Nat.reduceEqDiff, false_and, if_false, true_and, hj]
    have r19 : ∀ x, hI (pI (pI (pI h 19 k i) 44 0 0) 57 k i) 19 x = if x = k then i else hI h 19 x := fun x => by
      simp only [hI_pI, Nat.reduceEqDiff, false_and, if_false, true_and]
    have r57 : ∀ x, hI (pI (pI (pI h 19 k i) 44 0 0) 57 k i) 57 x = if x = k then i else hI h 57 x := fun x => by
      simp only [hI_pI, Nat.reduceEqDiff, false_and, if_false, true_and]
    refine wr 1 (pI h 19 k i) (pI (pI (pI h 19 k i) 44 0 0) 57 k i) (fun Q hq => ok_X11_ill _ _ _ (hcls Q (fun k2 hk2 e2 => ?_) (fun z => absurd ⟨k, hk, rfl⟩ z))) (fun Q hq => ok_X12_ill _ _ _ ?_) ?_ (Nat.le_add_right _ _) (Nat.le_add_right _ _) (lm_k hm).1
    · simp only [c_X11_ill_11, lx_pI, lx_wI, lx_t hl, lx_k hl, lx_r hl, lx_l hl, i_push, i_ild, i_ald, i_ist, i_ast, i_inc, i_bin, i_un, i_divs, i_i2l, i_lshl, i_lor, i_dup, i_dup2, i_pop, i_if, i_cmp, i_nul, i_vret, i_iret, i_zret, i_aret, i_keep, keep, lget, lset, ent, i_getI, i_getJ, i_getR, i_getN, i_putI, i_putZ, i_putJ, i_putR, i_iald, i_bald, i_alen, i_aald, i_iast, i_bast, i_aast, i_new, i_newa, i_anew, i_oini, i_callS, i_callV, i_callI, popn, sh4, i_sw, swP, i_copy, i_binS, List.map, Option.toList_none, Option.toList_some, List.append, List.nil_append, List.cons_append, List.length_cons, List.length_nil, List.replicate, Nat.sub_self, Nat.reduceSub, Nat.reduceAdd, hK_pI, hL_pI, hI_pI, hR_pI, hJ_pI, hT_pI, hS_pI, hK_pR, hL_pR, hI_pR, hR_pR, hJ_pR, hT_pR, hS_pR, hK_pJ, hL_pJ, hI_pJ, hR_pJ, hJ_pJ, hT_pJ, hS_pJ, hK_wI, hL_wI, hI_wI, hR_wI, hJ_wI, hT_wI, hS_wI, eq_self, and_true, true_and, and_false, false_and, or_true, true_or, or_false, false_or, if_true, if_false, not_true_eq_false, not_false_eq_true, forall_const, implies_true, false_implies, true_implies, Option.some.injEq, forall_eq', exists_eq_left', reduceCtorEq, Nat.reduceEqDiff, c1, T_X12_in, T_X12_ones, T_X11_within, T_X11_bit, T_X11_isIn, T_X11_oneIfIn, T_J6_bitCount_0f7a4, show ¬ (1 : Int32) = 0 by decide, ci, b2i_0, cl_nI (show k < 2147483648 by omega), in_nI (show k < 24 by omega) (by decide)]
      exact hq
    · refine ⟨rfl, hm.pI _ _ _, P, hP, ?_, fun k2 hk2 e2 _ => ?_, fun z => absurd ⟨⟨k, hk, rfl⟩, ci⟩ z⟩
      · rw [hI_pI, if_neg (by omega)]; exact a5.2.2.1
      · have := (nI_inj (by omega) (by omega)).mp e2
        subst this; exact hq
    · generalize pI (pI (pI h 19 k i) 44 0 0) 57 k i = h2 at s2 o r44 r19 r57 ⊢
      refine hc.now hs s2 (fun a ha => o a (by omega) (by omega) (by omega)) r44 (fun a j b1 b2 bs => ?_) (fun a b1 b2 => o a (by omega) (by omega) (by omega)) (RmC_k (fun a b1 b2 => o a (by omega) (by omega) (by omega)) (RmC_c (fun i hi => o _ (by omega) (by omega) (by omega)) a4)) ?_ ((congrFun (o 16 (by decide) (by decide) (by decide)) 1).trans a6) (HlC_k (fun a b1 b2 => o a (by omega) (by omega) (by omega)) (HlC_c (fun i i1 i2 => o _ (by omega) (by omega) (by omega)) a7)) ?_ (fun e n Rn _ _ hw => LtW_k (o 60 (by decide) (by decide) (by decide)) (o 77 (by decide) (by decide) (by decide)) (o 78 (by decide) (by decide) (by decide)) (o 79 (by decide) (by decide) (by decide)) hw)
      · by_cases e : a = 57
        · subst e
          have : szA 57 = 24 := rfl
          rw [r57, if_neg (by omega)]
        · exact congrFun (o a (by omega) (by omega) e) j
      · obtain ⟨b1, b2, b3, b4, b5, b6⟩ := a5
        unfold PC
        simp only [Nat.reduceAdd] at b2 b4 b5 b6 ⊢
        rw [o 16 (by decide) (by decide) (by decide), o 17 (by decide) (by decide) (by decide), o 18 (by decide) (by decide) (by decide), o 20 (by decide) (by decide) (by decide), o 21 (by decide) (by decide) (by decide), o 22 (by decide) (by decide) (by decide), o 23 (by decide) (by decide) (by decide), o 24 (by decide) (by decide) (by decide), o 52 (by decide) (by decide) (by decide), o 53 (by decide) (by decide) (by decide), o 54 (by decide) (by decide) (by decide), o 55 (by decide) (by decide) (by decide), o 56 (by decide) (by decide) (by decide), o 58 (by decide) (by decide) (by decide), o 59 (by decide) (by decide) (by decide), o 60 (by decide) (by decide) (by decide), o 61 (by decide) (by decide) (by decide), o 62 (by decide) (by decide) (by decide), o 63 (by decide) (by decide) (by decide)]
        refine ⟨b1, b2, b3, fun x hx => ?_, b5, fun x hx hx2 => ?_⟩
        · obtain ⟨c1', c2', c3', c4'⟩ := b4 x hx
          refine ⟨c1', c2', ?_, c4'⟩
          rw [r19, r57, c3']
        · obtain ⟨c1', c2'⟩ := b6 x hx hx2
          refine ⟨?_, c2'⟩
          rw [r19, if_neg (by omega)]; exact c1'
      · obtain ⟨j1, j2, j3, j4, j5, j6, j7, j8, j9⟩ := a9
        have := JP_k (I := hI h2) (J := fun a => if a = 57 then hI h2 57 else hI h a) rfl (o 60 (by decide) (by decide) (by decide)) (o 62 (by decide) (by decide) (by decide)) (o 63 (by decide) (by decide) (by decide)) (R := R) (P := P) (np := np) ⟨fun x hx => by
          show ∃ c, c ≤ 3 ∧ hI h2 57 x = nI c
          rw [r57]
          by_cases e : x = k
          · rw [if_pos e]; exact ⟨ic, by omega, ei⟩
          · rw [if_neg e]; exact j1 x hx, j2, j3, j4, j5, j6, j7, j8, j9⟩
        exact this
  · by_cases c2 : ∃ k, k < P ∧ p = nI k
    · have ci : ¬ (0 ≤ i ∧ i ≤ 3) := fun z => c ⟨c2, z⟩
      refine rd 0 hc (fun Q hq => ok_X11_ill _ _ _ (hcls Q (fun k2 hk2 e2 => ?_) (fun z => absurd c2 z))) (fun Q hq => ok_X12_ill _ _ _ ⟨rfl, hm, P, hP, a5.2.2.1, fun k hk e z => absurd z ci, fun _ => hq⟩)
      simp only [c_X11_ill_11, lx_pI, lx_wI, lx_t hl, lx_k hl, lx_r hl, lx_l hl, i_push, i_ild, i_ald, i_ist, i_ast, i_inc, i_bin, i_un, i_divs, i_i2l, i_lshl, i_lor, i_dup, i_dup2, i_pop, i_if, i_cmp, i_nul, i_vret, i_iret, i_zret, i_aret, i_keep, keep, lget, lset, ent, i_getI, i_getJ, i_getR, i_getN, i_putI, i_putZ, i_putJ, i_putR, i_iald, i_bald, i_alen, i_aald, i_iast, i_bast, i_aast, i_new, i_newa, i_anew, i_oini, i_callS, i_callV, i_callI, popn, sh4, i_sw, swP, i_copy, i_binS, List.map, Option.toList_none, Option.toList_some, List.append, List.nil_append, List.cons_append, List.length_cons, List.length_nil, List.replicate, Nat.sub_self, Nat.reduceSub, Nat.reduceAdd, hK_pI, hL_pI, hI_pI, hR_pI, hJ_pI, hT_pI, hS_pI, hK_pR, hL_pR, hI_pR, hR_pR, hJ_pR, hT_pR, hS_pR, hK_pJ, hL_pJ, hI_pJ, hR_pJ, hJ_pJ, hT_pJ, hS_pJ, hK_wI, hL_wI, hI_wI, hR_wI, hJ_wI, hT_wI, hS_wI, eq_self, and_true, true_and, and_false, false_and, or_true, true_or, or_false, false_or, if_true, if_false, not_true_eq_false, not_false_eq_true, forall_const, implies_true, false_implies, true_implies, Option.some.injEq, forall_eq', exists_eq_left', reduceCtorEq, Nat.reduceEqDiff, c1, T_X12_in, T_X12_ones, T_X11_within, T_X11_bit, T_X11_isIn, T_X11_oneIfIn, T_J6_bitCount_0f7a4, show ¬ (1 : Int32) = 0 by decide, ci, b2i_0]
      exact hq
    · exact rd 0 hc (fun Q hq => ok_X11_ill _ _ _ (hcls Q (fun k2 hk2 e2 => absurd ⟨k2, hk2, e2⟩ c2) (fun _ => hq))) (fun Q hq => ok_X12_ill _ _ _ ⟨rfl, hm, P, hP, a5.2.2.1, fun k hk e _ => absurd ⟨k, hk, e⟩ c2, fun _ => hq⟩)

def L_X11_bar : List UInt8 := [42, 180, 0, 24, 180, 0, 99, 78, 45, 27, 182, 0, 108, 153, 0, 15, 45, 180, 0, 116, 27, 184, 0, 119, 28, 160, 0, 5, 3, 172, 45, 89, 180, 0, 116, 27, 184, 0, 123, 130, 181, 0, 116, 4, 172]
theorem Lc_X11_bar : MX11_bar.2.1 = ⟨L_X11_bar.toArray⟩ := rfl
theorem D_X11_bar_0 : dseq MX11_bar.2.1 0 [(.aload_n 0, 1), (.getfield 24, 3), (.getfield 99, 3), (.astore_n 3, 1), (.aload_n 3, 1), (.iload_n 1, 1), (.invokevirtual 108, 3), (.ifCond .eq 15, 3), (.aload_n 3, 1), (.getfield 116, 3), (.iload_n 1, 1), (.invokestatic 119, 3), (.iload_n 2, 1), (.if_icmp .ne 5, 3), (.iconst 0, 1), (.ireturn, 1)] := dq Lc_X11_bar 0 _ (by decide +kernel)
theorem D_X11_bar_28 : dseq MX11_bar.2.1 28 [(.iconst 0, 1), (.ireturn, 1)] := dq Lc_X11_bar 28 _ (by decide +kernel)
theorem D_X11_bar_30 : dseq MX11_bar.2.1 30 [(.aload_n 3, 1), (.dup, 1), (.getfield 116, 3), (.iload_n 1, 1), (.invokestatic 123, 3), (.ixor, 1), (.putfield 116, 3), (.iconst 1, 1), (.ireturn, 1)] := dq Lc_X11_bar 30 _ (by decide +kernel)
def c_X11_bar_13 (Q : Option Value → Hp → Prop) : Kt := i_if (fun x => x = 0) (i_push (.int 0) (i_zret Q)) (i_ald 3 (i_getI 3 12 (i_ild 1 (i_callS 2 T_X11_isIn (i_ild 2 (i_cmp (fun x y => x = y) (i_push (.int 0) (i_zret Q)) (i_ald 3 (i_dup (i_getI 3 12 (i_ild 1 (i_callS 1 T_X11_bit (i_bin (fun x y => x ^^^ y) (i_putI 3 12 (i_push (.int 1) (i_zret Q)))))))))))))))
def b_X11_bar_0 (Q : Option Value → Hp → Prop) : Kt := i_ald 0 (i_getR 11 1 (i_getR 8 1 (i_ast 3 (i_ald 3 (i_ild 1 (i_callV 3 1 T_X3_has (c_X11_bar_13 Q)))))))
set_option maxRecDepth 100000 in
theorem s_X11_bar_0 (Q : Option Value → Hp → Prop) : ∀ A st h, b_X11_bar_0 Q A st h → wp 1 MX11_bar Q 0 A st h := (q1 (s_aldn (n := 0) (i := 0) rfl) D_X11_bar_0 fun D => (qC fl_X11_24 rfl D fun D => (qC fl_X11_99 rfl D fun D => (qL (s_astn (n := 3) (i := 3) rfl) (by decide) D fun D => (q1 (s_aldn (n := 3) (i := 3) rfl) D fun D => (q1 (s_ildn (n := 1) (i := 1) rfl) D fun D => (qX (s_callV kX3 rfl ok_X3_has mo_X3_has (ch_3_6_ok.2.2.2.2.2.2.2.2.2.2.2.1.1 rfl) (ch_3_6_ok.2.2.2.2.2.2.2.2.2.2.2.2.1.1 rfl) (ch_3_6_ok.2.2.2.2.2.2.2.2.2.2.2.2.2.1.1 rfl)) rfl (by decide) D fun D => (qB s_ifeq 28 (by decide) D (q1 (s_iconst (n := 0) (v := 0) (by decide)) D_X11_bar_28 fun D => (qZ rfl D)) fun D => (q1 (s_aldn (n := 3) (i := 3) rfl) D fun D => (qC fl_X11_116 rfl D fun D => (q1 (s_ildn (n := 1) (i := 1) rfl) D fun D => (qX (s_callS ok_X11_isIn mo_X11_isIn (ch_3_7_ok.2.2.2.1.1 rfl) (ch_3_7_ok.2.2.2.2.1.1 rfl)) rfl (by decide) D fun D => (q1 (s_ildn (n := 2) (i := 2) rfl) D fun D => (qBn s_cmpne2 30 (by decide) D (q1 (s_aldn (n := 3) (i := 3) rfl) D_X11_bar_30 fun D => (q1 s_dup D fun D => (qC fl_X11_116 rfl D fun D => (q1 (s_ildn (n := 1) (i := 1) rfl) D fun D => (qX (s_callS ok_X11_bit mo_X11_bit (ch_3_7_ok.2.2.2.2.2.2.1.1 rfl) (ch_3_5_ok.2.2.2.2.2.2.2.2.2.2.2.2.1.1 rfl)) rfl (by decide) D fun D => (q1 s_xor D fun D => (qP pl_X11_116 rfl (Or.inl rfl) D fun D => (q1 (s_iconst (n := 1) (v := 1) (by decide)) D fun D => (qZ rfl D))))))))) fun D => (q1 (s_iconst (n := 0) (v := 0) (by decide)) D fun D => (qZ rfl D))))))))))))))))
def T_X11_bar : Tr := fun av h Q => c1 4 av ∧ b_X11_bar_0 Q (ent 4 av) [] h
theorem ok_X11_bar : ctr 1 MX11_bar T_X11_bar := ctr_of pn_X11 wc_X11_bar (fun av h Q hT => ⟨c1_ok hT.1, s_X11_bar_0 Q _ _ _ hT.2⟩)

theorem b_flip (g : Int32) {k : Nat} (hk : k < 32) (x : Nat) : bt (g ^^^ bitI k) x = (bt g x ^^ decide (x = k)) := by
  rw [b_xor]
  rcases Nat.lt_or_ge x 32 with c | c
  · rw [b_bitI hk c]
  · rw [b_big c, b_big c]
    have : ¬ x = k := by omega
    simp [this]
theorem st_bar {h : Hp} (hc : CP h) (p i : Int32) (hi : i = 0 ∨ i = 1) : SOK 1 MX11_bar 2 MX12_bar [.int p, .int i] h := by
  have hl := hc.1
  have hm := hc.2.1
  obtain ⟨R, P, H, E, Ln, q, np, hs⟩ := hc.2.2.2.1
  obtain ⟨a1, a2, a3, a4, a5, a6, a7, a8, a9, a10, a11, a12, a13⟩ := id hs
  have h16 : hI h 16 0 = nI P := a5.2.1
  have h52 : hI h 52 0 = nI P := a5.2.2.1
  have hP := a5.1
  have hcls : ∀ Q : Option Value → Hp → Prop, (∀ k, k < P → p = nI k → c_X11_bar_13 Q [some (.ref 0), some (.int p), some (.int i), some (.ref 16)] [.int 1] h) → ((¬ ∃ k, k < P ∧ p = nI k) → Q (some (.int 0)) h) → T_X11_bar [.ref 0, .int p, .int i] h Q := by
    intro Q g1 g0
    have hgo := has_go hl hP h16 (p := p) (Q := fun r h' => c_X11_bar_13 Q [some (.ref 0), some (.int p), some (.int i), some (.ref 16)] (r.toList ++ []) h') (fun k hk e => g1 k hk e) (fun e => by
      have := g0 e
      show c_X11_bar_13 Q _ [.int 0] h
      simp only [c_X11_bar_13, i_push, i_ild, i_ald, i_ist, i_ast, i_inc, i_bin, i_un, i_divs, i_i2l, i_lshl, i_lor, i_dup, i_dup2, i_pop, i_if, i_cmp, i_nul, i_vret, i_iret, i_zret, i_aret, i_keep, keep, lget, lset, ent, i_getI, i_getJ, i_getR, i_getN, i_putI, i_putZ, i_putJ, i_putR, i_iald, i_bald, i_alen, i_aald, i_iast, i_bast, i_aast, i_new, i_newa, i_anew, i_oini, i_callS, i_callV, i_callI, popn, sh4, i_sw, swP, i_copy, i_binS, List.map, Option.toList_none, Option.toList_some, List.append, List.nil_append, List.cons_append, List.length_cons, List.length_nil, List.replicate, Nat.sub_self, Nat.reduceSub, Nat.reduceAdd, hK_pI, hL_pI, hI_pI, hR_pI, hJ_pI, hT_pI, hS_pI, hK_pR, hL_pR, hI_pR, hR_pR, hJ_pR, hT_pR, hS_pR, hK_pJ, hL_pJ, hI_pJ, hR_pJ, hJ_pJ, hT_pJ, hS_pJ, hK_wI, hL_wI, hI_wI, hR_wI, hJ_wI, hT_wI, hS_wI, eq_self, and_true, true_and, and_false, false_and, or_true, true_or, or_false, false_or, if_true, if_false, not_true_eq_false, not_false_eq_true, forall_const, implies_true, false_implies, true_implies, Option.some.injEq, forall_eq', exists_eq_left', reduceCtorEq, Nat.reduceEqDiff, c1, T_X12_in, T_X12_ones, T_X11_within, T_X11_bit, T_X11_isIn, T_X11_oneIfIn, T_J6_bitCount_0f7a4]
      exact this)
    unfold T_X11_bar
    simp only [b_X11_bar_0, lx_pI, lx_wI, lx_t hl, lx_k hl, lx_r hl, lx_l hl, i_push, i_ild, i_ald, i_ist, i_ast, i_inc, i_bin, i_un, i_divs, i_i2l, i_lshl, i_lor, i_dup, i_dup2, i_pop, i_if, i_cmp, i_nul, i_vret, i_iret, i_zret, i_aret, i_keep, keep, lget, lset, ent, i_getI, i_getJ, i_getR, i_getN, i_putI, i_putZ, i_putJ, i_putR, i_iald, i_bald, i_alen, i_aald, i_iast, i_bast, i_aast, i_new, i_newa, i_anew, i_oini, i_callS, i_callV, i_callI, popn, sh4, i_sw, swP, i_copy, i_binS, List.map, Option.toList_none, Option.toList_some, List.append, List.nil_append, List.cons_append, List.length_cons, List.length_nil, List.replicate, Nat.sub_self, Nat.reduceSub, Nat.reduceAdd, hK_pI, hL_pI, hI_pI, hR_pI, hJ_pI, hT_pI, hS_pI, hK_pR, hL_pR, hI_pR, hR_pR, hJ_pR, hT_pR, hS_pR, hK_pJ, hL_pJ, hI_pJ, hR_pJ, hJ_pJ, hT_pJ, hS_pJ, hK_wI, hL_wI, hI_wI, hR_wI, hJ_wI, hT_wI, hS_wI, eq_self, and_true, true_and, and_false, false_and, or_true, true_or, or_false, false_or, if_true, if_false, not_true_eq_false, not_false_eq_true, forall_const, implies_true, false_implies, true_implies, Option.some.injEq, forall_eq', exists_eq_left', reduceCtorEq, Nat.reduceEqDiff, c1, T_X12_in, T_X12_ones, T_X11_within, T_X11_bit, T_X11_isIn, T_X11_oneIfIn, T_J6_bitCount_0f7a4]
    exact hgo
  have ei : (if i = 0 then (0 : Int32) else 1) = i := by rcases hi with z | z <;> rw [z] <;> decide
  by_cases c : ∃ k, k < P ∧ p = nI k
  · obtain ⟨k, hk, rfl⟩ := c
    have e61 := (a5.2.2.2.1 k hk).2.2.2.2.2.2.2.2.2.2
    have e61' : hI h 61 k = b2i (bt (hI h 16 12) k = true) := e61
    have hb : (1 : Int32) <<< (nI k &&& 31) = bitI k := rfl
    have hcond : (b2i (¬ (hI h 16 12 >>> (nI k &&& 31)) &&& 1 = 0) = i) ↔ hI h 61 k = i := by
      rw [e61']
      have : (¬ (hI h 16 12 >>> (nI k &&& 31)) &&& 1 = 0) ↔ bt (hI h 16 12) k = true := by
        rw [sh_bt _ (by omega)]; simp
      unfold b2i
      by_cases z : bt (hI h 16 12) k = true
      · rw [if_pos (this.mpr z), if_pos z]
      · rw [if_neg (fun y => z (this.mp y)), if_neg z]
    by_cases ce : hI h 61 k = i
    · refine rd 0 hc (fun Q hq => ok_X11_bar _ _ _ (hcls Q (fun k2 hk2 e2 => ?_) (fun z => absurd ⟨k, hk, rfl⟩ z))) (fun Q hq => ok_X12_bar _ _ _ ?_)
      · simp only [c_X11_bar_13, lx_pI, lx_wI, lx_t hl, lx_k hl, lx_r hl, lx_l hl, i_push, i_ild, i_ald, i_ist, i_ast, i_inc, i_bin, i_un, i_divs, i_i2l, i_lshl, i_lor, i_dup, i_dup2, i_pop, i_if, i_cmp, i_nul, i_vret, i_iret, i_zret, i_aret, i_keep, keep, lget, lset, ent, i_getI, i_getJ, i_getR, i_getN, i_putI, i_putZ, i_putJ, i_putR, i_iald, i_bald, i_alen, i_aald, i_iast, i_bast, i_aast, i_new, i_newa, i_anew, i_oini, i_callS, i_callV, i_callI, popn, sh4, i_sw, swP, i_copy, i_binS, List.map, Option.toList_none, Option.toList_some, List.append, List.nil_append, List.cons_append, List.length_cons, List.length_nil, List.replicate, Nat.sub_self, Nat.reduceSub, Nat.reduceAdd, hK_pI, hL_pI, hI_pI, hR_pI, hJ_pI, hT_pI, hS_pI, hK_pR, hL_pR, hI_pR, hR_pR, hJ_pR, hT_pR, hS_pR, hK_pJ, hL_pJ, hI_pJ, hR_pJ, hJ_pJ, hT_pJ, hS_pJ, hK_wI, hL_wI, hI_wI, hR_wI, hJ_wI, hT_wI, hS_wI, eq_self, and_true, true_and, and_false, false_and, or_true, true_or, or_false, false_or, if_true, if_false, not_true_eq_false, not_false_eq_true, forall_const, implies_true, false_implies, true_implies, Option.some.injEq, forall_eq', exists_eq_left', reduceCtorEq, Nat.reduceEqDiff, c1, T_X12_in, T_X12_ones, T_X11_within, T_X11_bit, T_X11_isIn, T_X11_oneIfIn, T_J6_bitCount_0f7a4, show ¬ (1 : Int32) = 0 by decide]
        first | exact ⟨fun _ => hq, fun z => absurd (hcond.mpr ce) z⟩ | exact ⟨fun z => absurd (hcond.mpr ce) z, fun _ => hq⟩
      · have hl := hm
        unfold T_X12_bar
        simp only [b_X12_bar_0, T_X12_isPerson, hl, lay_pI, lay_wI, lay_pJ, lm_t hl, lm_k hl, lm_r hl, lm_l hl, i_push, i_ild, i_ald, i_ist, i_ast, i_inc, i_bin, i_un, i_divs, i_i2l, i_lshl, i_lor, i_dup, i_dup2, i_pop, i_if, i_cmp, i_nul, i_vret, i_iret, i_zret, i_aret, i_keep, keep, lget, lset, ent, i_getI, i_getJ, i_getR, i_getN, i_putI, i_putZ, i_putJ, i_putR, i_iald, i_bald, i_alen, i_aald, i_iast, i_bast, i_aast, i_new, i_newa, i_anew, i_oini, i_callS, i_callV, i_callI, popn, sh4, i_sw, swP, i_copy, i_binS, List.map, Option.toList_none, Option.toList_some, List.append, List.nil_append, List.cons_append, List.length_cons, List.length_nil, List.replicate, Nat.sub_self, Nat.reduceSub, Nat.reduceAdd, hK_pI, hL_pI, hI_pI, hR_pI, hJ_pI, hT_pI, hS_pI, hK_pR, hL_pR, hI_pR, hR_pR, hJ_pR, hT_pR, hS_pR, hK_pJ, hL_pJ, hI_pJ, hR_pJ, hJ_pJ, hT_pJ, hS_pJ, hK_wI, hL_wI, hI_wI, hR_wI, hJ_wI, hT_wI, hS_wI, eq_self, and_true, true_and, and_false, false_and, or_true, true_or, or_false, false_or, if_true, if_false, not_true_eq_false, not_false_eq_true, forall_const, implies_true, false_implies, true_implies, Option.some.injEq, forall_eq', exists_eq_left', reduceCtorEq, Nat.reduceEqDiff, c1, T_X12_in, T_X12_ones, T_X11_within, T_X11_bit, T_X11_isIn, T_X11_oneIfIn, T_J6_bitCount_0f7a4, h52, per_ix (show P ≤ 100000 by omega), b2i_0, cl_nI (show k < 2147483648 by omega), in_nI (show k < 96 by omega) (by decide)]
        refine ⟨fun z => absurd ⟨k, hk, rfl⟩ z, fun _ => ⟨fun z => ⟨fun _ => hq, fun y => absurd (ce.trans z) y⟩, fun z => ⟨fun _ => hq, fun y => absurd (ce.trans (hi.resolve_left z)) y⟩⟩⟩
    · have s2 : Sh h (pI (pI (pI h 16 12 (hI h 16 12 ^^^ bitI k)) 44 0 0) 61 k i) := ⟨rfl, rfl, rfl, rfl, rfl⟩
      have o : ∀ a, a ≠ 16 → a ≠ 44 → a ≠ 61 → hI (pI (pI (pI h 16 12 (hI h 16 12 ^^^ bitI k)) 44 0 0) 61 k i) a = hI h a := fun a n1 n2 n3 => funext fun j => by
        rw [hI_pI, if_neg (fun z => n3 z.1), hI_pI, if_neg (fun z => n2 z.1), hI_pI, if_neg (fun z => n1 z.1)]
      have r44 : ∀ j, j ≠ 0 → hI (pI (pI (pI h 16 12 (hI h 16 12 ^^^ bitI k)) 44 0 0) 61 k i) 44 j = hI h 44 j := fun j hj => by
        simp only [hI_pI, Nat.reduceEqDiff, false_and, if_false, true_and, hj]
      have r16 : ∀ x, hI (pI (pI (pI h 16 12 (hI h 16 12 ^^^ bitI k)) 44 0 0) 61 k i) 16 x = if x = 12 then hI h 16 12 ^^^ bitI k else hI h 16 x := fun x => by
        simp only [hI_pI, Nat.reduceEqDiff, false_and, if_false, true_and]
      have r61 : ∀ x, hI (pI (pI (pI h 16 12 (hI h 16 12 ^^^ bitI k)) 44 0 0) 61 k i) 61 x = if x = k then i else hI h 61 x := fun x => by
        simp only [hI_pI, Nat.reduceEqDiff, false_and, if_false, true_and]
      refine wr 1 (pI h 16 12 (hI h 16 12 ^^^ bitI k)) (pI (pI (pI h 16 12 (hI h 16 12 ^^^ bitI k)) 44 0 0) 61 k i) (fun Q hq => ok_X11_bar _ _ _ (hcls Q (fun k2 hk2 e2 => ?_) (fun z => absurd ⟨k, hk, rfl⟩ z))) (fun Q hq => ok_X12_bar _ _ _ ?_) ?_ (Nat.le_add_right _ _) (Nat.le_add_right _ _) (lm_k hm).1
      · simp only [c_X11_bar_13, lx_pI, lx_wI, lx_t hl, lx_k hl, lx_r hl, lx_l hl, i_push, i_ild, i_ald, i_ist, i_ast, i_inc, i_bin, i_un, i_divs, i_i2l, i_lshl, i_lor, i_dup, i_dup2, i_pop, i_if, i_cmp, i_nul, i_vret, i_iret, i_zret, i_aret, i_keep, keep, lget, lset, ent, i_getI, i_getJ, i_getR, i_getN, i_putI, i_putZ, i_putJ, i_putR, i_iald, i_bald, i_alen, i_aald, i_iast, i_bast, i_aast, i_new, i_newa, i_anew, i_oini, i_callS, i_callV, i_callI, popn, sh4, i_sw, swP, i_copy, i_binS, List.map, Option.toList_none, Option.toList_some, List.append, List.nil_append, List.cons_append, List.length_cons, List.length_nil, List.replicate, Nat.sub_self, Nat.reduceSub, Nat.reduceAdd, hK_pI, hL_pI, hI_pI, hR_pI, hJ_pI, hT_pI, hS_pI, hK_pR, hL_pR, hI_pR, hR_pR, hJ_pR, hT_pR, hS_pR, hK_pJ, hL_pJ, hI_pJ, hR_pJ, hJ_pJ, hT_pJ, hS_pJ, hK_wI, hL_wI, hI_wI, hR_wI, hJ_wI, hT_wI, hS_wI, eq_self, and_true, true_and, and_false, false_and, or_true, true_or, or_false, false_or, if_true, if_false, not_true_eq_false, not_false_eq_true, forall_const, implies_true, false_implies, true_implies, Option.some.injEq, forall_eq', exists_eq_left', reduceCtorEq, Nat.reduceEqDiff, c1, T_X12_in, T_X12_ones, T_X11_within, T_X11_bit, T_X11_isIn, T_X11_oneIfIn, T_J6_bitCount_0f7a4, show ¬ (1 : Int32) = 0 by decide, hb]
        first | exact ⟨fun z => absurd (hcond.mp z) ce, fun _ => hq⟩ | exact ⟨fun _ => hq, fun z => absurd (hcond.mp z) ce⟩
      · have hm2 : LayM (pI h 16 12 (hI h 16 12 ^^^ bitI k)) := hm.pI _ _ _
        have e52 : hI (pI h 16 12 (hI h 16 12 ^^^ bitI k)) 52 0 = nI P := by rw [hI_pI, if_neg (by omega)]; exact h52
        have e61b : hI (pI h 16 12 (hI h 16 12 ^^^ bitI k)) 61 k = hI h 61 k := by rw [hI_pI, if_neg (by omega)]
        unfold T_X12_bar
        generalize pI h 16 12 (hI h 16 12 ^^^ bitI k) = X at hm2 e52 e61b hq ⊢
        have hl := hm2
        simp only [b_X12_bar_0, T_X12_isPerson, hl, lay_pI, lay_wI, lay_pJ, lm_t hl, lm_k hl, lm_r hl, lm_l hl, i_push, i_ild, i_ald, i_ist, i_ast, i_inc, i_bin, i_un, i_divs, i_i2l, i_lshl, i_lor, i_dup, i_dup2, i_pop, i_if, i_cmp, i_nul, i_vret, i_iret, i_zret, i_aret, i_keep, keep, lget, lset, ent, i_getI, i_getJ, i_getR, i_getN, i_putI, i_putZ, i_putJ, i_putR, i_iald, i_bald, i_alen, i_aald, i_iast, i_bast, i_aast, i_new, i_newa, i_anew, i_oini, i_callS, i_callV, i_callI, popn, sh4, i_sw, swP, i_copy, i_binS, List.map, Option.toList_none, Option.toList_some, List.append, List.nil_append, List.cons_append, List.length_cons, List.length_nil, List.replicate, Nat.sub_self, Nat.reduceSub, Nat.reduceAdd, hK_pI, hL_pI, hI_pI, hR_pI, hJ_pI, hT_pI, hS_pI, hK_pR, hL_pR, hI_pR, hR_pR, hJ_pR, hT_pR, hS_pR, hK_pJ, hL_pJ, hI_pJ, hR_pJ, hJ_pJ, hT_pJ, hS_pJ, hK_wI, hL_wI, hI_wI, hR_wI, hJ_wI, hT_wI, hS_wI, eq_self, and_true, true_and, and_false, false_and, or_true, true_or, or_false, false_or, if_true, if_false, not_true_eq_false, not_false_eq_true, forall_const, implies_true, false_implies, true_implies, Option.some.injEq, forall_eq', exists_eq_left', reduceCtorEq, Nat.reduceEqDiff, c1, T_X12_in, T_X12_ones, T_X11_within, T_X11_bit, T_X11_isIn, T_X11_oneIfIn, T_J6_bitCount_0f7a4, e52, e61b, per_ix (show P ≤ 100000 by omega), b2i_0, cl_nI (show k < 2147483648 by omega), in_nI (show k < 96 by omega) (by decide)]
        refine ⟨fun z => absurd ⟨k, hk, rfl⟩ z, fun _ => ⟨fun z => ⟨fun y => absurd (y.trans z.symm) ce, fun _ => ⟨fun _ => by rw [z] at hq; exact hq, fun w => absurd z w⟩⟩, fun z => ⟨fun y => absurd (y.trans (hi.resolve_left z).symm) ce, fun _ => ⟨fun w => absurd w z, fun _ => by rw [hi.resolve_left z] at hq; exact hq⟩⟩⟩⟩
      · generalize pI (pI (pI h 16 12 (hI h 16 12 ^^^ bitI k)) 44 0 0) 61 k i = h2 at s2 o r44 r16 r61 ⊢
        refine hc.now hs s2 (fun a ha => o a (by omega) (by omega) (by omega)) r44 (fun a j b1 b2 bs => ?_) (fun a b1 b2 => o a (by omega) (by omega) (by omega)) (RmC_k (fun a b1 b2 => o a (by omega) (by omega) (by omega)) (RmC_c (fun i hi => o _ (by omega) (by omega) (by omega)) a4)) ?_ ((r16 1).trans a6) (HlC_k (fun a b1 b2 => o a (by omega) (by omega) (by omega)) (HlC_c (fun i i1 i2 => o _ (by omega) (by omega) (by omega)) a7)) (JP_k (o 57 (by decide) (by decide) (by decide)) (o 60 (by decide) (by decide) (by decide)) (o 62 (by decide) (by decide) (by decide)) (o 63 (by decide) (by decide) (by decide)) a9) (fun e n Rn _ _ hw => LtW_k (o 60 (by decide) (by decide) (by decide)) (o 77 (by decide) (by decide) (by decide)) (o 78 (by decide) (by decide) (by decide)) (o 79 (by decide) (by decide) (by decide)) hw)
        · by_cases e : a = 61
          · subst e
            have : szA 61 = 24 := rfl
            rw [r61, if_neg (by omega)]
          · exact congrFun (o a (by omega) (by omega) e) j
        · obtain ⟨b1, b2, b3, b4, b5, b6⟩ := a5
          unfold PC
          simp only [Nat.reduceAdd] at b2 b4 b5 b6 ⊢
          rw [o 17 (by decide) (by decide) (by decide), o 18 (by decide) (by decide) (by decide), o 19 (by decide) (by decide) (by decide), o 20 (by decide) (by decide) (by decide), o 21 (by decide) (by decide) (by decide), o 22 (by decide) (by decide) (by decide), o 23 (by decide) (by decide) (by decide), o 24 (by decide) (by decide) (by decide), o 52 (by decide) (by decide) (by decide), o 53 (by decide) (by decide) (by decide), o 54 (by decide) (by decide) (by decide), o 55 (by decide) (by decide) (by decide), o 56 (by decide) (by decide) (by decide), o 57 (by decide) (by decide) (by decide), o 58 (by decide) (by decide) (by decide), o 59 (by decide) (by decide) (by decide), o 60 (by decide) (by decide) (by decide), o 62 (by decide) (by decide) (by decide), o 63 (by decide) (by decide) (by decide), r16 0, r16 10, r16 11, r16 12]
          simp only [Nat.reduceEqDiff, if_false, if_true]
          refine ⟨b1, b2, b3, fun x hx => ?_, fun x hx => ?_, b6⟩
          · obtain ⟨c1', c2', c3', c4', c5', c6', c7', c8', c9', c10', c11'⟩ := b4 x hx
            refine ⟨c1', c2', c3', c4', c5', c6', c7', c8', c9', c10', ?_⟩
            rw [r61, b_flip _ (by omega)]
            by_cases e : x = k
            · rw [if_pos e, e]
              rw [e61'] at ce
              cases hbk : bt (hI h 16 12) k with
              | true =>
                rw [hbk] at ce
                have : i = 0 := hi.resolve_right (fun z => ce (by rw [z]; rfl))
                rw [this]; simp [b2i]
              | false =>
                rw [hbk] at ce
                have : i = 1 := hi.resolve_left (fun z => ce (by rw [z]; rfl))
                rw [this]; simp [b2i]
            · rw [if_neg e, c11']
              simp [e]
          · obtain ⟨c1', c2', c3'⟩ := b5 x hx
            refine ⟨c1', c2', ?_⟩
            rw [b_flip _ (by omega), c3']
            have : ¬ x = k := by omega
            simp [this]
  · refine rd 0 hc (fun Q hq => ok_X11_bar _ _ _ (hcls Q (fun k2 hk2 e2 => absurd ⟨k2, hk2, e2⟩ c) (fun _ => hq))) (fun Q hq => ok_X12_bar _ _ _ ?_)
    have hl := hm
    unfold T_X12_bar
    simp only [b_X12_bar_0, T_X12_isPerson, hl, lay_pI, lay_wI, lay_pJ, lm_t hl, lm_k hl, lm_r hl, lm_l hl, i_push, i_ild, i_ald, i_ist, i_ast, i_inc, i_bin, i_un, i_divs, i_i2l, i_lshl, i_lor, i_dup, i_dup2, i_pop, i_if, i_cmp, i_nul, i_vret, i_iret, i_zret, i_aret, i_keep, keep, lget, lset, ent, i_getI, i_getJ, i_getR, i_getN, i_putI, i_putZ, i_putJ, i_putR, i_iald, i_bald, i_alen, i_aald, i_iast, i_bast, i_aast, i_new, i_newa, i_anew, i_oini, i_callS, i_callV, i_callI, popn, sh4, i_sw, swP, i_copy, i_binS, List.map, Option.toList_none, Option.toList_some, List.append, List.nil_append, List.cons_append, List.length_cons, List.length_nil, List.replicate, Nat.sub_self, Nat.reduceSub, Nat.reduceAdd, hK_pI, hL_pI, hI_pI, hR_pI, hJ_pI, hT_pI, hS_pI, hK_pR, hL_pR, hI_pR, hR_pR, hJ_pR, hT_pR, hS_pR, hK_pJ, hL_pJ, hI_pJ, hR_pJ, hJ_pJ, hT_pJ, hS_pJ, hK_wI, hL_wI, hI_wI, hR_wI, hJ_wI, hT_wI, hS_wI, eq_self, and_true, true_and, and_false, false_and, or_true, true_or, or_false, false_or, if_true, if_false, not_true_eq_false, not_false_eq_true, forall_const, implies_true, false_implies, true_implies, Option.some.injEq, forall_eq', exists_eq_left', reduceCtorEq, Nat.reduceEqDiff, c1, T_X12_in, T_X12_ones, T_X11_within, T_X11_bit, T_X11_isIn, T_X11_oneIfIn, T_J6_bitCount_0f7a4, h52, per_ix (show P ≤ 100000 by omega), b2i_0]
    exact ⟨fun _ => hq, fun z => absurd (Classical.not_not.mp z) c⟩
