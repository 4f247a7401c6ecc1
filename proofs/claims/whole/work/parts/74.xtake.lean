/-! ===== the class: takeOutUnsettled, takes ===== -/
theorem rest_zero (d : Nat) (hd3 : 3 ≤ d) : ctr d MX4_placeRest (TPl 0) := by
  have hrec : ctr 0 MX4_placeRest (fun _ _ _ => False) := fun av h Q hT => hT.elim
  refine ctr_of pn_X4 wc_X4_placeRest (fun av h Q hT => ?_)
  unfold TPl at hT
  split at hT
  · rename_i o dp
    obtain ⟨rfl, hl, hst, R, n, sz, cp, wh, dd, rfl, hs, hd, hm, hun, hu, hdd, hq1, hq0⟩ := hT
    refine ⟨⟨by simp [Value.category], Nat.le_of_ble_eq_true rfl⟩, s_X4_placeRest_0 d 0 (fun _ _ _ => False) hd3 (by omega) hrec Q _ _ _ ?_⟩
    have hR4 := hs.1
    have hn10 := hs.2.1
    have hall := uN_0 (wh := wh) (n := n) (by omega)
    have hoN : ∀ i, i < n → (hI h 39 i = -1 ↔ wh i = none) := fun i hi => by
      rw [(hd.1 i hi).1]
      exact oB_none (fun b hb => by have := ((hd.1 i hi).2 b hb).1; omega)
    have hti : T_X4_tightest [.ref 33] h (fun x h' => c_X4_placeRest_4 d 0 (fun _ _ _ => False) hd3 (by omega) hrec Q [some (.ref 33), some (.int (nI dd)), none, none, none] (x.toList ++ []) h') := by
      refine ⟨rfl, hl, hst, R, n, hR4, hn10, hs.2.2.1, hs.2.2.2.1, whOk_of hd, fun _ => ?_, fun i hi z => absurd ((hoN i hi).mp z) (hall i hi)⟩
      obtain ⟨w, hw, hsol⟩ := full_sol hd hm hall
      have := hq1 (hI h) w (smP.rf _) (PD_c hw hd) hsol
      show c_X4_placeRest_4 d 0 (fun _ _ _ => False) hd3 (by omega) hrec Q _ [.int (-1)] h
      have e : wI h (hI h) = h := rfl
      rw [e] at this
      simp only [c_X4_placeRest_4, i_push, i_ild, i_ald, i_ist, i_ast, i_inc, i_bin, i_un, i_divs, i_i2l, i_lshl, i_lor, i_dup, i_dup2, i_pop, i_if, i_cmp, i_nul, i_vret, i_iret, i_zret, i_aret, i_keep, keep, lget, lset, ent, i_getI, i_getJ, i_getR, i_getN, i_putI, i_putZ, i_putJ, i_putR, i_iald, i_bald, i_alen, i_aald, i_iast, i_bast, i_aast, i_new, i_newa, i_anew, i_oini, i_callS, i_callV, i_callI, popn, sh4, i_sw, swP, i_copy, i_binS, List.map, Option.toList_none, Option.toList_some, List.append, List.nil_append, List.cons_append, List.length_cons, List.length_nil, List.replicate, Nat.sub_self, Nat.reduceSub, Nat.reduceAdd, hK_pI, hL_pI, hI_pI, hR_pI, hJ_pI, hT_pI, hS_pI, hK_pR, hL_pR, hI_pR, hR_pR, hJ_pR, hT_pR, hS_pR, hK_pJ, hL_pJ, hI_pJ, hR_pJ, hJ_pJ, hT_pJ, hS_pJ, hK_wI, hL_wI, hI_wI, hR_wI, hJ_wI, hT_wI, hS_wI, eq_self, and_true, true_and, and_false, false_and, or_true, true_or, or_false, false_or, if_true, if_false, not_true_eq_false, not_false_eq_true, forall_const, implies_true, false_implies, true_implies, Option.some.injEq, forall_eq', exists_eq_left', reduceCtorEq, Nat.reduceEqDiff, c1, T_X12_in, T_X12_ones, T_X11_within, T_X11_bit, T_X11_isIn, T_X11_oneIfIn, T_J6_bitCount_0f7a4]
      exact this
    simp only [MX4_placeRest, b_X4_placeRest_0, lx_pI, lx_wI, lx_t hl, lx_k hl, lx_r hl, lx_l hl, i_push, i_ild, i_ald, i_ist, i_ast, i_inc, i_bin, i_un, i_divs, i_i2l, i_lshl, i_lor, i_dup, i_dup2, i_pop, i_if, i_cmp, i_nul, i_vret, i_iret, i_zret, i_aret, i_keep, keep, lget, lset, ent, i_getI, i_getJ, i_getR, i_getN, i_putI, i_putZ, i_putJ, i_putR, i_iald, i_bald, i_alen, i_aald, i_iast, i_bast, i_aast, i_new, i_newa, i_anew, i_oini, i_callS, i_callV, i_callI, popn, sh4, i_sw, swP, i_copy, i_binS, List.map, Option.toList_none, Option.toList_some, List.append, List.nil_append, List.cons_append, List.length_cons, List.length_nil, List.replicate, Nat.sub_self, Nat.reduceSub, Nat.reduceAdd, hK_pI, hL_pI, hI_pI, hR_pI, hJ_pI, hT_pI, hS_pI, hK_pR, hL_pR, hI_pR, hR_pR, hJ_pR, hT_pR, hS_pR, hK_pJ, hL_pJ, hI_pJ, hR_pJ, hJ_pJ, hT_pJ, hS_pJ, hK_wI, hL_wI, hI_wI, hR_wI, hJ_wI, hT_wI, hS_wI, eq_self, and_true, true_and, and_false, false_and, or_true, true_or, or_false, false_or, if_true, if_false, not_true_eq_false, not_false_eq_true, forall_const, implies_true, false_implies, true_implies, Option.some.injEq, forall_eq', exists_eq_left', reduceCtorEq, Nat.reduceEqDiff, c1, T_X12_in, T_X12_ones, T_X11_within, T_X11_bit, T_X11_isIn, T_X11_oneIfIn, T_J6_bitCount_0f7a4]
    exact hti
  · exact hT.elim
theorem ok_rest : ∀ u, ctr (u + 3) MX4_placeRest (TPl u)
  | 0 => rest_zero 3 (by decide)
  | u + 1 => rest_body (u + 1 + 3) (u + 3) u (by omega) (by omega) (ok_rest u)
def T_X4_placeRest : Tr := TPl 17
theorem ok_X4_placeRest : ctr 20 MX4_placeRest T_X4_placeRest := ok_rest 17
theorem uN_le (wh : Nat → Option Nat) (n : Nat) : uN wh n ≤ n := by
  have : uN wh n ≤ n * 1 := fb_sm_bound (fun k _ => by split <;> omega)
  omega
/-- those who aren't settled stand in no room -/
noncomputable def outW (f : Mem) (wh : Nat → Option Nat) (k : Nat) : Nat → Option Nat := fun i => cif (i < k ∧ f 40 i = 0) none (wh i)
def T_X4_takeOutUnsettled : Tr := fun av h Q => match av with
  | [.ref o] => o = 33 ∧ LayX h ∧ ∃ R n sz cp wh, PS (hI h) R n sz cp ∧ PD (hI h) R n sz cp wh ∧ ∀ f, smP f (hI h) → PD f R n sz cp (outW (hI h) wh n) → Q none (wI h f)
  | _ => False
def L_X4_takeOutUnsettled : List UInt8 := [3, 60, 27, 42, 180, 0, 51, 162, 0, 23, 42, 180, 0, 30, 27, 51, 154, 0, 8, 42, 27, 182, 0, 141, 132, 1, 1, 167, 255, 231, 177]
theorem Lc_X4_takeOutUnsettled : MX4_takeOutUnsettled.2.1 = ⟨L_X4_takeOutUnsettled.toArray⟩ := rfl
theorem D_X4_takeOutUnsettled_0 : dseq MX4_takeOutUnsettled.2.1 0 [(.iconst 0, 1), (.istore_n 1, 1)] := dq Lc_X4_takeOutUnsettled 0 _ (by decide +kernel)
theorem D_X4_takeOutUnsettled_2 : dseq MX4_takeOutUnsettled.2.1 2 [(.iload_n 1, 1), (.aload_n 0, 1), (.getfield 51, 3), (.if_icmp .ge 23, 3), (.aload_n 0, 1), (.getfield 30, 3), (.iload_n 1, 1), (.baload, 1), (.ifCond .ne 8, 3), (.aload_n 0, 1), (.iload_n 1, 1), (.invokevirtual 141, 3)] := dq Lc_X4_takeOutUnsettled 2 _ (by decide +kernel)
theorem D_X4_takeOutUnsettled_30 : dseq MX4_takeOutUnsettled.2.1 30 [(.return_, 1)] := dq Lc_X4_takeOutUnsettled 30 _ (by decide +kernel)
theorem D_X4_takeOutUnsettled_24 : dseq MX4_takeOutUnsettled.2.1 24 [(.iinc 1 1, 3), (.goto (-25), 3)] := dq Lc_X4_takeOutUnsettled 24 _ (by decide +kernel)
def c_X4_takeOutUnsettled_24 (Q : Option Value → Hp → Prop) : Kt := i_keep [true, true] (wp 1 MX4_takeOutUnsettled Q 24)
def b_X4_takeOutUnsettled_0 (Q : Option Value → Hp → Prop) : Kt := i_push (.int 0) (i_ist 1 (i_keep [true, true] (wp 1 MX4_takeOutUnsettled Q 2)))
set_option maxRecDepth 100000 in
theorem s_X4_takeOutUnsettled_0 (Q : Option Value → Hp → Prop) : ∀ A st h, b_X4_takeOutUnsettled_0 Q A st h → wp 1 MX4_takeOutUnsettled Q 0 A st h := (q1 (s_iconst (n := 0) (v := 0) (by decide)) D_X4_takeOutUnsettled_0 fun D => (qL (s_istn (n := 1) (i := 1) rfl) (by decide) D fun D => (s_keep [true, true] fun _ _ _ h => h)))
def b_X4_takeOutUnsettled_2 (Q : Option Value → Hp → Prop) : Kt := i_ild 1 (i_ald 0 (i_getI 4 2 (i_cmp (fun x y => y ≤ x) (i_vret Q) (i_ald 0 (i_getR 4 9 (i_ild 1 (i_bald (i_if (fun x => x = 0) (i_ald 0 (i_ild 1 (i_callV 4 1 T_X4_takeOut (c_X4_takeOutUnsettled_24 Q)))) (i_keep [true, true] (wp 1 MX4_takeOutUnsettled Q 24))))))))))
set_option maxRecDepth 100000 in
theorem s_X4_takeOutUnsettled_2 (Q : Option Value → Hp → Prop) : ∀ A st h, b_X4_takeOutUnsettled_2 Q A st h → wp 1 MX4_takeOutUnsettled Q 2 A st h := (q1 (s_ildn (n := 1) (i := 1) rfl) D_X4_takeOutUnsettled_2 fun D => (q1 (s_aldn (n := 0) (i := 0) rfl) D fun D => (qC fl_X4_51 rfl D fun D => (qB s_cmpge 30 (by decide) D (qV rfl D_X4_takeOutUnsettled_30) fun D => (q1 (s_aldn (n := 0) (i := 0) rfl) D fun D => (qC fl_X4_30 rfl D fun D => (q1 (s_ildn (n := 1) (i := 1) rfl) D fun D => (q1 s_bald D fun D => (qBn s_ifne2 24 (by decide) D (s_keep [true, true] fun _ _ _ h => h) fun D => (q1 (s_aldn (n := 0) (i := 0) rfl) D fun D => (q1 (s_ildn (n := 1) (i := 1) rfl) D fun D => (qX (s_callV kX4 rfl ok_X4_takeOut mo_X4_takeOut (ch_4_7_ok.1.1 rfl) (ch_4_7_ok.2.2.1.1 rfl) (pv_2.2.1)) rfl (by decide) D fun D => (s_keep [true, true] fun _ _ _ h => h)))))))))))))
def b_X4_takeOutUnsettled_24 (Q : Option Value → Hp → Prop) : Kt := i_inc 1 1 (i_keep [true, true] (wp 1 MX4_takeOutUnsettled Q 2))
set_option maxRecDepth 100000 in
theorem s_X4_takeOutUnsettled_24 (Q : Option Value → Hp → Prop) : ∀ A st h, b_X4_takeOutUnsettled_24 Q A st h → wp 1 MX4_takeOutUnsettled Q 24 A st h := (qL (s_inc (i := 1) (n := 1) (v := 1) (by decide)) (by decide) D_X4_takeOutUnsettled_24 fun D => (qG 2 (by decide) D (s_keep [true, true] fun _ _ _ h => h)))

set_option maxRecDepth 100000 in
set_option maxHeartbeats 400000 in
theorem tu_2 (Q : Option Value → Hp → Prop) (h : Hp) (hl : LayX h) (R n : Nat) (sz cp : Nat → Nat) (wh : Nat → Option Nat) (hs : PS (hI h) R n sz cp) (hd : PD (hI h) R n sz cp wh) (hq : ∀ f, smP f (hI h) → PD f R n sz cp (outW (hI h) wh n) → Q none (wI h f)) :
    ∀ (m k : Nat) (f : Mem), m = n - k → k ≤ n → smP f (hI h) → PD f R n sz cp (outW (hI h) wh k) → wp 1 MX4_takeOutUnsettled Q 2 [some (.ref 33), some (.int (nI k))] [] (wI h f) := by
  have hn10 := hs.2.1
  have hR4 := hs.1
  intro m
  induction m with
  | zero =>
    intro k f hm hk hsm hdf
    have e : k = n := by omega
    subst e
    have hfin := hq f hsm hdf
    have hl2 : LayX (wI h f) := hl
    have h32 : hI (wI h f) 33 2 = nI k := (hsm 33 2 (by decide) (by decide) (by decide) (by decide)).trans hs.2.2.2.1
    refine s_X4_takeOutUnsettled_2 Q _ _ _ ?_
    generalize wI h f = H at hl2 h32 hfin ⊢
    have hl := hl2
    simp only [b_X4_takeOutUnsettled_2, lx_pI, lx_wI, lx_t hl, lx_k hl, lx_r hl, lx_l hl, i_push, i_ild, i_ald, i_ist, i_ast, i_inc, i_bin, i_un, i_divs, i_i2l, i_lshl, i_lor, i_dup, i_dup2, i_pop, i_if, i_cmp, i_nul, i_vret, i_iret, i_zret, i_aret, i_keep, keep, lget, lset, ent, i_getI, i_getJ, i_getR, i_getN, i_putI, i_putZ, i_putJ, i_putR, i_iald, i_bald, i_alen, i_aald, i_iast, i_bast, i_aast, i_new, i_newa, i_anew, i_oini, i_callS, i_callV, i_callI, popn, sh4, i_sw, swP, i_copy, i_binS, List.map, Option.toList_none, Option.toList_some, List.append, List.nil_append, List.cons_append, List.length_cons, List.length_nil, List.replicate, Nat.sub_self, Nat.reduceSub, Nat.reduceAdd, hK_pI, hL_pI, hI_pI, hR_pI, hJ_pI, hT_pI, hS_pI, hK_pR, hL_pR, hI_pR, hR_pR, hJ_pR, hT_pR, hS_pR, hK_pJ, hL_pJ, hI_pJ, hR_pJ, hJ_pJ, hT_pJ, hS_pJ, hK_wI, hL_wI, hI_wI, hR_wI, hJ_wI, hT_wI, hS_wI, eq_self, and_true, true_and, and_false, false_and, or_true, true_or, or_false, false_or, if_true, if_false, not_true_eq_false, not_false_eq_true, forall_const, implies_true, false_implies, true_implies, Option.some.injEq, forall_eq', exists_eq_left', reduceCtorEq, Nat.reduceEqDiff, c1, T_X12_in, T_X12_ones, T_X11_within, T_X11_bit, T_X11_isIn, T_X11_oneIfIn, T_J6_bitCount_0f7a4, h32]
    exact ⟨fun _ => hfin, fun z => absurd (nI_le (Nat.le_refl _) (by omega)) z⟩
  | succ m ih =>
    intro k f hm hk hsm hdf
    have hl2 : LayX (wI h f) := hl
    have h32 : hI (wI h f) 33 2 = nI n := (hsm 33 2 (by decide) (by decide) (by decide) (by decide)).trans hs.2.2.2.1
    have h39 : hI (wI h f) 40 k = hI h 40 k := hsm 40 k (by decide) (by decide) (by decide) (by decide)
    have h24 : ∀ f', smP f' (hI h) → PD f' R n sz cp (outW (hI h) wh (k + 1)) → wp 1 MX4_takeOutUnsettled Q 24 [some (.ref 33), some (.int (nI k))] [] (wI h f') := by
      intro f' hsm' hdf'
      have := ih (k + 1) f' (by omega) (by omega) hsm' hdf'
      refine s_X4_takeOutUnsettled_24 Q _ _ _ ?_
      generalize wI h f' = H at this ⊢
      simp only [b_X4_takeOutUnsettled_24, i_push, i_ild, i_ald, i_ist, i_ast, i_inc, i_bin, i_un, i_divs, i_i2l, i_lshl, i_lor, i_dup, i_dup2, i_pop, i_if, i_cmp, i_nul, i_vret, i_iret, i_zret, i_aret, i_keep, keep, lget, lset, ent, i_getI, i_getJ, i_getR, i_getN, i_putI, i_putZ, i_putJ, i_putR, i_iald, i_bald, i_alen, i_aald, i_iast, i_bast, i_aast, i_new, i_newa, i_anew, i_oini, i_callS, i_callV, i_callI, popn, sh4, i_sw, swP, i_copy, i_binS, List.map, Option.toList_none, Option.toList_some, List.append, List.nil_append, List.cons_append, List.length_cons, List.length_nil, List.replicate, Nat.sub_self, Nat.reduceSub, Nat.reduceAdd, hK_pI, hL_pI, hI_pI, hR_pI, hJ_pI, hT_pI, hS_pI, hK_pR, hL_pR, hI_pR, hR_pR, hJ_pR, hT_pR, hS_pR, hK_pJ, hL_pJ, hI_pJ, hR_pJ, hJ_pJ, hT_pJ, hS_pJ, hK_wI, hL_wI, hI_wI, hR_wI, hJ_wI, hT_wI, hS_wI, eq_self, and_true, true_and, and_false, false_and, or_true, true_or, or_false, false_or, if_true, if_false, not_true_eq_false, not_false_eq_true, forall_const, implies_true, false_implies, true_implies, Option.some.injEq, forall_eq', exists_eq_left', reduceCtorEq, Nat.reduceEqDiff, c1, T_X12_in, T_X12_ones, T_X11_within, T_X11_bit, T_X11_isIn, T_X11_oneIfIn, T_J6_bitCount_0f7a4, nI_1]
      exact this
    have hst : ¬ hI h 40 k = 0 → wp 1 MX4_takeOutUnsettled Q 24 [some (.ref 33), some (.int (nI k))] [] (wI h f) := fun c => h24 f hsm (PD_c (fun i hi => by
      unfold outW
      rcases Classical.em (i < k ∧ hI h 40 i = 0) with z | z
      · rw [cif_t z, cif_t ⟨by omega, z.2⟩]
      · rw [cif_f z, cif_f (fun y => by
          by_cases e : i = k
          · rw [e] at y; exact c y.2
          · exact z ⟨by omega, y.2⟩)]) hdf)
    have hto : hI h 40 k = 0 → T_X4_takeOut [.ref 33, .int (nI k)] (wI h f) (fun x h' => wp 1 MX4_takeOutUnsettled Q 24 [some (.ref 33), some (.int (nI k))] (x.toList ++ []) h') := by
      intro c
      have ek : outW (hI h) wh k k = wh k := cif_f (fun z => by omega)
      have e38 := (hdf.1 k (by omega)).1
      rw [ek] at e38
      have hnext : ∀ f', PD f' R n sz cp (updO (outW (hI h) wh k) k none) → PD f' R n sz cp (outW (hI h) wh (k + 1)) := fun f' hp => PD_c (fun i hi => by
        unfold updO
        by_cases e : i = k
        · rw [if_pos e]
          unfold outW
          rw [cif_t ⟨by omega, by rw [e]; exact c⟩]
        · rw [if_neg e]
          unfold outW
          rcases Classical.em (i < k ∧ hI h 40 i = 0) with z | z
          · rw [cif_t z, cif_t ⟨by omega, z.2⟩]
          · rw [cif_f z, cif_f (fun y => z ⟨by omega, y.2⟩)]) hp
      cases hwk : wh k with
      | none =>
        rw [hwk] at e38
        refine out_no hl2 (by omega) e38 ?_
        exact h24 f hsm (hnext f (PD_c (fun i hi => by
          unfold updO
          by_cases e : i = k
          · rw [if_pos e, e, ek, hwk]
          · rw [if_neg e]) hdf))
      | some r =>
        rw [hwk] at e38
        have hrR := ((hdf.1 k (by omega)).2 r (by rw [ek]; exact hwk)).1
        refine out_ok hl2 (by omega) (by omega) e38 ?_
        exact h24 (outM f k r) ((smP.out f k r).tr hsm) (hnext _ (PD.out (hs.c hsm) hdf (by omega) (by rw [ek]; exact hwk)))
    refine s_X4_takeOutUnsettled_2 Q _ _ _ ?_
    generalize wI h f = H at hl2 h32 h39 hst hto ⊢
    have hl := hl2
    simp only [b_X4_takeOutUnsettled_2, lx_pI, lx_wI, lx_t hl, lx_k hl, lx_r hl, lx_l hl, i_push, i_ild, i_ald, i_ist, i_ast, i_inc, i_bin, i_un, i_divs, i_i2l, i_lshl, i_lor, i_dup, i_dup2, i_pop, i_if, i_cmp, i_nul, i_vret, i_iret, i_zret, i_aret, i_keep, keep, lget, lset, ent, i_getI, i_getJ, i_getR, i_getN, i_putI, i_putZ, i_putJ, i_putR, i_iald, i_bald, i_alen, i_aald, i_iast, i_bast, i_aast, i_new, i_newa, i_anew, i_oini, i_callS, i_callV, i_callI, popn, sh4, i_sw, swP, i_copy, i_binS, List.map, Option.toList_none, Option.toList_some, List.append, List.nil_append, List.cons_append, List.length_cons, List.length_nil, List.replicate, Nat.sub_self, Nat.reduceSub, Nat.reduceAdd, hK_pI, hL_pI, hI_pI, hR_pI, hJ_pI, hT_pI, hS_pI, hK_pR, hL_pR, hI_pR, hR_pR, hJ_pR, hT_pR, hS_pR, hK_pJ, hL_pJ, hI_pJ, hR_pJ, hJ_pJ, hT_pJ, hS_pJ, hK_wI, hL_wI, hI_wI, hR_wI, hJ_wI, hT_wI, hS_wI, eq_self, and_true, true_and, and_false, false_and, or_true, true_or, or_false, false_or, if_true, if_false, not_true_eq_false, not_false_eq_true, forall_const, implies_true, false_implies, true_implies, Option.some.injEq, forall_eq', exists_eq_left', reduceCtorEq, Nat.reduceEqDiff, c1, T_X12_in, T_X12_ones, T_X11_within, T_X11_bit, T_X11_isIn, T_X11_oneIfIn, T_J6_bitCount_0f7a4, h32, cl_nI (show k < 2147483648 by omega), in_nI (show k < 10 by omega) (by decide), h39]
    exact ⟨fun z => absurd z (nI_ge (by omega) (by omega)), fun _ => ⟨hto, hst⟩⟩
set_option maxRecDepth 100000 in
set_option maxHeartbeats 4000000 in
theorem ok_X4_takeOutUnsettled : ctr 1 MX4_takeOutUnsettled T_X4_takeOutUnsettled := by
  refine ctr_of pn_X4 wc_X4_takeOutUnsettled (fun av h Q hT => ?_)
  unfold T_X4_takeOutUnsettled at hT
  split at hT
  · rename_i o
    refine ⟨⟨by simp [Value.category], Nat.le_of_ble_eq_true rfl⟩, s_X4_takeOutUnsettled_0 Q _ _ _ ?_⟩
    obtain ⟨rfl, hl, R, n, sz, cp, wh, hs, hd, hq⟩ := hT
    have := tu_2 Q h hl R n sz cp wh hs hd hq n 0 (hI h) (by omega) (by omega) (smP.rf _) (PD_c (fun i _ => by unfold outW; rw [cif_f (fun z => by omega)]) hd)
    have e : wI h (hI h) = h := rfl
    rw [e] at this
    simp only [MX4_takeOutUnsettled, b_X4_takeOutUnsettled_0, i_push, i_ild, i_ald, i_ist, i_ast, i_inc, i_bin, i_un, i_divs, i_i2l, i_lshl, i_lor, i_dup, i_dup2, i_pop, i_if, i_cmp, i_nul, i_vret, i_iret, i_zret, i_aret, i_keep, keep, lget, lset, ent, i_getI, i_getJ, i_getR, i_getN, i_putI, i_putZ, i_putJ, i_putR, i_iald, i_bald, i_alen, i_aald, i_iast, i_bast, i_aast, i_new, i_newa, i_anew, i_oini, i_callS, i_callV, i_callI, popn, sh4, i_sw, swP, i_copy, i_binS, List.map, Option.toList_none, Option.toList_some, List.append, List.nil_append, List.cons_append, List.length_cons, List.length_nil, List.replicate, Nat.sub_self, Nat.reduceSub, Nat.reduceAdd, hK_pI, hL_pI, hI_pI, hR_pI, hJ_pI, hT_pI, hS_pI, hK_pR, hL_pR, hI_pR, hR_pR, hJ_pR, hT_pR, hS_pR, hK_pJ, hL_pJ, hI_pJ, hR_pJ, hJ_pJ, hT_pJ, hS_pJ, hK_wI, hL_wI, hI_wI, hR_wI, hJ_wI, hT_wI, hS_wI, eq_self, and_true, true_and, and_false, false_and, or_true, true_or, or_false, false_or, if_true, if_false, not_true_eq_false, not_false_eq_true, forall_const, implies_true, false_implies, true_implies, Option.some.injEq, forall_eq', exists_eq_left', reduceCtorEq, Nat.reduceEqDiff, c1, T_X12_in, T_X12_ones, T_X11_within, T_X11_bit, T_X11_isIn, T_X11_oneIfIn, T_J6_bitCount_0f7a4]
    exact this
  · exact hT.elim
/-- a party more -/
def addM (f : Mem) (n : Nat) (g il fo al : Int32) : Mem := u2 (u2 (u2 (u2 (u2 (u2 (u2 (u2 f 34 n g) 35 n (nI (pct g))) 36 n il) 37 n fo) 38 n al) 39 n (-1)) 40 n 0) 33 2 (nI (n + 1))
theorem addM_o (f : Mem) (n : Nat) (g il fo al : Int32) {a j : Nat} (h1 : a < 34 ∨ 40 < a ∨ j ≠ n) (h2 : a ≠ 33 ∨ j ≠ 2) : addM f n g il fo al a j = f a j := by
  unfold addM
  rw [u2_ne (by omega), u2_ne (by omega), u2_ne (by omega), u2_ne (by omega), u2_ne (by omega), u2_ne (by omega), u2_ne (by omega), u2_ne (by omega)]
theorem addM_34 (f : Mem) (n : Nat) (g il fo al : Int32) : addM f n g il fo al 34 n = g := by
  unfold addM
  rw [u2_ne (by omega), u2_ne (by omega), u2_ne (by omega), u2_ne (by omega), u2_ne (by omega), u2_ne (by omega), u2_ne (by omega), u2_eq]
theorem addM_35 (f : Mem) (n : Nat) (g il fo al : Int32) : addM f n g il fo al 35 n = nI (pct g) := by
  unfold addM
  rw [u2_ne (by omega), u2_ne (by omega), u2_ne (by omega), u2_ne (by omega), u2_ne (by omega), u2_ne (by omega), u2_eq]
theorem addM_36 (f : Mem) (n : Nat) (g il fo al : Int32) : addM f n g il fo al 36 n = il := by
  unfold addM
  rw [u2_ne (by omega), u2_ne (by omega), u2_ne (by omega), u2_ne (by omega), u2_ne (by omega), u2_eq]
theorem addM_37 (f : Mem) (n : Nat) (g il fo al : Int32) : addM f n g il fo al 37 n = fo := by
  unfold addM
  rw [u2_ne (by omega), u2_ne (by omega), u2_ne (by omega), u2_ne (by omega), u2_eq]
theorem addM_38 (f : Mem) (n : Nat) (g il fo al : Int32) : addM f n g il fo al 38 n = al := by
  unfold addM
  rw [u2_ne (by omega), u2_ne (by omega), u2_ne (by omega), u2_eq]
theorem addM_39 (f : Mem) (n : Nat) (g il fo al : Int32) : addM f n g il fo al 39 n = -1 := by
  unfold addM
  rw [u2_ne (by omega), u2_ne (by omega), u2_eq]
theorem addM_40 (f : Mem) (n : Nat) (g il fo al : Int32) : addM f n g il fo al 40 n = 0 := by
  unfold addM
  rw [u2_ne (by omega), u2_eq]
def sAd (sz : Nat → Nat) (n : Nat) (g : Int32) : Nat → Nat := fun i => if i = n then pct g else sz i
theorem PS.add {f : Mem} {R n : Nat} {sz cp : Nat → Nat} (hs : PS f R n sz cp) (hn : n < 10) {g il fo al : Int32} (hg : ¬ g = 0) (hp : pct g ≤ 24) (hdis : ∀ i, i < n → f 34 i &&& g = 0) (hsy : ∀ i, i < n → (f 37 i &&& g = 0 ↔ fo &&& f 34 i = 0)) : PS (addM f n g il fo al) R (n + 1) (sAd sz n g) cp := by
  obtain ⟨s1, s2, s3, s4, s5, s6, s7, s8⟩ := hs
  have o : ∀ a i, i ≠ n → 34 ≤ a → a ≤ 40 → addM f n g il fo al a i = f a i := fun a i hi h1 h2 => addM_o f n g il fo al (Or.inr (Or.inr hi)) (Or.inl (by omega))
  refine ⟨s1, by omega, ?_, u2_eq, fun i hi => ?_, fun i j hi hj hij => ?_, fun i j hi hj => ?_, s8⟩
  · rw [addM_o f n g il fo al (Or.inl (by decide)) (Or.inl (by decide))]; exact s3
  · by_cases e : i = n
    · subst e
      rw [addM_35, addM_34]
      unfold sAd
      rw [if_pos rfl]
      exact ⟨rfl, hp, hg⟩
    · rw [o 35 i e (by decide) (by decide), o 34 i e (by decide) (by decide)]
      unfold sAd
      rw [if_neg e]
      exact s5 i (by omega)
  · by_cases ei : i = n
    · subst ei
      rw [addM_34, o 34 j (fun z => hij z.symm) (by decide) (by decide)]
      refine and0.mpr (fun x hx => ?_)
      cases hb : bt (f 34 j) x with
      | false => rfl
      | true => have := and0.mp (hdis j (by omega)) x hb; rw [hx] at this; cases this
    · by_cases ej : j = n
      · subst ej
        rw [addM_34, o 34 i ei (by decide) (by decide)]; exact hdis i (by omega)
      · rw [o 34 i ei (by decide) (by decide), o 34 j ej (by decide) (by decide)]; exact s6 i j (by omega) (by omega) hij
  · by_cases ei : i = n
    · subst ei
      by_cases ej : j = i
      · rw [ej]
      · rw [addM_37, addM_34, o 34 j ej (by decide) (by decide), o 37 j ej (by decide) (by decide)]
        exact (hsy j (by omega)).symm
    · by_cases ej : j = n
      · subst ej
        rw [addM_37, addM_34, o 34 i ei (by decide) (by decide), o 37 i ei (by decide) (by decide)]
        exact hsy i (by omega)
      · rw [o 34 i ei (by decide) (by decide), o 34 j ej (by decide) (by decide), o 37 i ei (by decide) (by decide), o 37 j ej (by decide) (by decide)]
        exact s7 i j (by omega) (by omega)
theorem PD.add {f : Mem} {R n : Nat} {sz cp : Nat → Nat} {wh : Nat → Option Nat} (hd : PD f R n sz cp wh) (g il fo al : Int32) : PD (addM f n g il fo al) R (n + 1) (sAd sz n g) cp (updO wh n none) := by
  obtain ⟨d1, d2, d3, d4⟩ := hd
  have o : ∀ a i, i ≠ n → 34 ≤ a → a ≤ 40 → addM f n g il fo al a i = f a i := fun a i hi h1 h2 => addM_o f n g il fo al (Or.inr (Or.inr hi)) (Or.inl (by omega))
  have o2 : ∀ a i, 41 ≤ a → addM f n g il fo al a i = f a i := fun a i h1 => addM_o f n g il fo al (Or.inr (Or.inl (by omega))) (Or.inl (by omega))
  have hn : updO wh n none n = none := if_pos rfl
  have hun : ∀ i, i ≠ n → updO wh n none i = wh i := fun i hi => if_neg hi
  have hu : ∀ r, usd (updO wh n none) (sAd sz n g) (n + 1) r = usd wh sz n r := fun r => by
    show fb_sm _ (n + 1) = _
    rw [fb_sm_succ, hn, if_neg (by simp), Nat.add_zero]
    refine fb_sm_cong (fun i hi => ?_)
    rw [hun i (by omega)]
    unfold sAd
    rw [if_neg (show ¬ i = n by omega)]
  refine ⟨fun i hi => ?_, fun r hr => ?_, fun r hr x => ?_, fun i j hi hj hij r h1 h2 => ?_⟩
  · by_cases e : i = n
    · subst e
      rw [addM_39, hn]
      exact ⟨rfl, fun r hr => by cases hr⟩
    · rw [o 39 i e (by decide) (by decide), o 38 i e (by decide) (by decide), o 36 i e (by decide) (by decide), hun i e]
      refine ⟨(d1 i (by omega)).1, fun r hr => ?_⟩
      rw [o2 42 r (by decide)]
      exact (d1 i (by omega)).2 r hr
  · rw [hu, o2 43 r (by decide)]; exact d2 r hr
  · rw [o2 41 r (by decide), d3 r hr x]
    constructor
    · rintro ⟨i, a, b, c⟩
      exact ⟨i, by omega, by rw [hun i (by omega)]; exact b, by rw [o 34 i (by omega) (by decide) (by decide)]; exact c⟩
    · rintro ⟨i, a, b, c⟩
      have e : i ≠ n := fun z => by rw [z, hn] at b; cases b
      rw [hun i e] at b
      rw [o 34 i e (by decide) (by decide)] at c
      exact ⟨i, by omega, b, c⟩
  · have ei : i ≠ n := fun z => by rw [z, hn] at h1; cases h1
    have ej : j ≠ n := fun z => by rw [z, hn] at h2; cases h2
    rw [hun i ei] at h1
    rw [hun j ej] at h2
    rw [o 37 i ei (by decide) (by decide), o 34 j ej (by decide) (by decide)]
    exact d4 i j (by omega) (by omega) hij r h1 h2
