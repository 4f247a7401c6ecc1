set_option maxRecDepth 100000 in
theorem can_63 (d dr n : Nat) (hd : 3 ≤ d) (hdr : dr + 1 ≤ d) (hrec : ctr dr MX12_canPlace (TC n)) (Q : Option Value → Hp → Prop) (h : Hp) (hl : LayM h) (R P : Nat) (left : Int32) (hp : PreC (hI h) R P left) (hn : pct left ≤ n + 1) (h0 : ¬ left = 0) (hq1 : Fit (hI h) R left → Q (some (.int 1)) h) (hq2 : ¬ Fit (hI h) R left → Q (some (.int 0)) h) :
    ∀ (m p : Nat) (best few : Int32), m = P - p → p ≤ P → (((∀ i, i < p → bt left i = false) ∧ few = nI 9) ∨ ∃ b w, bt left b = true ∧ w ≤ 4 ∧ (w = 0 ↔ ∀ r, r < R → ¬ mayF (hI h) R b r) ∧ best = nI b ∧ few = nI w) → wp d MX12_canPlace Q 63 [some (.ref 44), some (.int left), none, some (.int best), some (.int few), some (.int (nI p)), none] [] h := by
  obtain ⟨hR, hP, h46, h52, hlt, hdis, hrm, hsy⟩ := id hp
  intro m
  induction m with
  | zero =>
    intro p best few hm hpP hinv
    have e : p = P := by omega
    subst e
    refine s_X12_canPlace_63 d dr (TC n) hd hdr hrec Q _ _ _ ?_
    simp only [b_X12_canPlace_63, hl, lay_pI, lay_wI, lay_pJ, lm_t hl, lm_k hl, lm_r hl, lm_l hl, i_push, i_ild, i_ald, i_ist, i_ast, i_inc, i_bin, i_un, i_divs, i_i2l, i_lshl, i_lor, i_dup, i_dup2, i_pop, i_if, i_cmp, i_nul, i_vret, i_iret, i_zret, i_aret, i_keep, keep, lget, lset, ent, i_getI, i_getJ, i_getR, i_getN, i_putI, i_putZ, i_putJ, i_putR, i_iald, i_bald, i_alen, i_aald, i_iast, i_bast, i_aast, i_new, i_newa, i_anew, i_oini, i_callS, i_callV, i_callI, popn, sh4, i_sw, swP, i_copy, i_binS, List.map, Option.toList_none, Option.toList_some, List.append, List.nil_append, List.cons_append, List.length_cons, List.length_nil, List.replicate, Nat.sub_self, Nat.reduceSub, Nat.reduceAdd, hK_pI, hL_pI, hI_pI, hR_pI, hJ_pI, hT_pI, hS_pI, hK_pR, hL_pR, hI_pR, hR_pR, hJ_pR, hT_pR, hS_pR, hK_pJ, hL_pJ, hI_pJ, hR_pJ, hJ_pJ, hT_pJ, hS_pJ, hK_wI, hL_wI, hI_wI, hR_wI, hJ_wI, hT_wI, hS_wI, eq_self, and_true, true_and, and_false, false_and, or_true, true_or, or_false, false_or, if_true, if_false, not_true_eq_false, not_false_eq_true, forall_const, implies_true, false_implies, true_implies, Option.some.injEq, forall_eq', exists_eq_left', reduceCtorEq, Nat.reduceEqDiff, c1, T_X12_in, T_X12_ones, T_X11_within, T_X11_bit, T_X11_isIn, T_X11_oneIfIn, T_J6_bitCount_0f7a4, in0 4 (by decide) (by decide), cl0, h52]
    refine ⟨fun _ => ?_, fun c => absurd (nI_le (Nat.le_refl _) (by omega)) c⟩
    rcases hinv with ⟨hno, -⟩ | ⟨b, w, hb, hw4, hw, e1, e2⟩
    · exfalso
      refine h0 (b_ext fun i _ => ?_)
      rw [b_0]
      cases hz : bt left i with
      | false => rfl
      | true => have := hno i (hlt i hz); rw [hz] at this; cases this
    · rw [e1, e2]
      exact can_117 d dr n hd hdr hrec Q h hl R p b w left hp hn hb hw4 hw hq1 hq2 R 0 0 (by omega) (by omega) (Or.inl ⟨rfl, fun j hj => absurd hj (by omega)⟩)
  | succ m ih =>
    intro p best few hm hpP hinv
    have h105 : ∀ best2 few2 : Int32, (((∀ i, i < p + 1 → bt left i = false) ∧ few2 = nI 9) ∨ ∃ b w, bt left b = true ∧ w ≤ 4 ∧ (w = 0 ↔ ∀ r, r < R → ¬ mayF (hI h) R b r) ∧ best2 = nI b ∧ few2 = nI w) → wp d MX12_canPlace Q 105 [some (.ref 44), some (.int left), none, some (.int best2), some (.int few2), some (.int (nI p)), none] [] h := by
      intro best2 few2 hi
      refine s_X12_canPlace_105 d dr (TC n) hd hdr hrec Q _ _ _ ?_
      simp only [b_X12_canPlace_105, i_push, i_ild, i_ald, i_ist, i_ast, i_inc, i_bin, i_un, i_divs, i_i2l, i_lshl, i_lor, i_dup, i_dup2, i_pop, i_if, i_cmp, i_nul, i_vret, i_iret, i_zret, i_aret, i_keep, keep, lget, lset, ent, i_getI, i_getJ, i_getR, i_getN, i_putI, i_putZ, i_putJ, i_putR, i_iald, i_bald, i_alen, i_aald, i_iast, i_bast, i_aast, i_new, i_newa, i_anew, i_oini, i_callS, i_callV, i_callI, popn, sh4, i_sw, swP, i_copy, i_binS, List.map, Option.toList_none, Option.toList_some, List.append, List.nil_append, List.cons_append, List.length_cons, List.length_nil, List.replicate, Nat.sub_self, Nat.reduceSub, Nat.reduceAdd, hK_pI, hL_pI, hI_pI, hR_pI, hJ_pI, hT_pI, hS_pI, hK_pR, hL_pR, hI_pR, hR_pR, hJ_pR, hT_pR, hS_pR, hK_pJ, hL_pJ, hI_pJ, hR_pJ, hJ_pJ, hT_pJ, hS_pJ, hK_wI, hL_wI, hI_wI, hR_wI, hJ_wI, hT_wI, hS_wI, eq_self, and_true, true_and, and_false, false_and, or_true, true_or, or_false, false_or, if_true, if_false, not_true_eq_false, not_false_eq_true, forall_const, implies_true, false_implies, true_implies, Option.some.injEq, forall_eq', exists_eq_left', reduceCtorEq, Nat.reduceEqDiff, c1, T_X12_in, T_X12_ones, T_X11_within, T_X11_bit, T_X11_isIn, T_X11_oneIfIn, T_J6_bitCount_0f7a4, nI_1]
      exact ih (p + 1) best2 few2 (by omega) (by omega) hi
    refine s_X12_canPlace_63 d dr (TC n) hd hdr hrec Q _ _ _ ?_
    simp only [b_X12_canPlace_63, hl, lay_pI, lay_wI, lay_pJ, lm_t hl, lm_k hl, lm_r hl, lm_l hl, i_push, i_ild, i_ald, i_ist, i_ast, i_inc, i_bin, i_un, i_divs, i_i2l, i_lshl, i_lor, i_dup, i_dup2, i_pop, i_if, i_cmp, i_nul, i_vret, i_iret, i_zret, i_aret, i_keep, keep, lget, lset, ent, i_getI, i_getJ, i_getR, i_getN, i_putI, i_putZ, i_putJ, i_putR, i_iald, i_bald, i_alen, i_aald, i_iast, i_bast, i_aast, i_new, i_newa, i_anew, i_oini, i_callS, i_callV, i_callI, popn, sh4, i_sw, swP, i_copy, i_binS, List.map, Option.toList_none, Option.toList_some, List.append, List.nil_append, List.cons_append, List.length_cons, List.length_nil, List.replicate, Nat.sub_self, Nat.reduceSub, Nat.reduceAdd, hK_pI, hL_pI, hI_pI, hR_pI, hJ_pI, hT_pI, hS_pI, hK_pR, hL_pR, hI_pR, hR_pR, hJ_pR, hT_pR, hS_pR, hK_pJ, hL_pJ, hI_pJ, hR_pJ, hJ_pJ, hT_pJ, hS_pJ, hK_wI, hL_wI, hI_wI, hR_wI, hJ_wI, hT_wI, hS_wI, eq_self, and_true, true_and, and_false, false_and, or_true, true_or, or_false, false_or, if_true, if_false, not_true_eq_false, not_false_eq_true, forall_const, implies_true, false_implies, true_implies, Option.some.injEq, forall_eq', exists_eq_left', reduceCtorEq, Nat.reduceEqDiff, c1, T_X12_in, T_X12_ones, T_X11_within, T_X11_bit, T_X11_isIn, T_X11_oneIfIn, T_J6_bitCount_0f7a4, in0 4 (by decide) (by decide), cl0, h52, sh_bt left (show p < 32 by omega)]
    refine ⟨fun c => absurd c (nI_ge (by omega) (by omega)), fun _ => ⟨fun c => h105 best few ?_, fun c => ?_⟩⟩
    · rcases hinv with ⟨hno, e⟩ | hinv
      · refine Or.inl ⟨fun i hi => ?_, e⟩
        rcases Nat.lt_or_ge i p with q | q
        · exact hno i q
        · have : i = p := by omega
          subst this
          exact c
      · exact Or.inr hinv
    · have hbp : bt left p = true := by simpa using c
      refine ⟨rfl, hl, R, p, hR, h46, rfl, by omega, fun w hwR hw => ?_⟩
      simp only [c_X12_canPlace_89, i_push, i_ild, i_ald, i_ist, i_ast, i_inc, i_bin, i_un, i_divs, i_i2l, i_lshl, i_lor, i_dup, i_dup2, i_pop, i_if, i_cmp, i_nul, i_vret, i_iret, i_zret, i_aret, i_keep, keep, lget, lset, ent, i_getI, i_getJ, i_getR, i_getN, i_putI, i_putZ, i_putJ, i_putR, i_iald, i_bald, i_alen, i_aald, i_iast, i_bast, i_aast, i_new, i_newa, i_anew, i_oini, i_callS, i_callV, i_callI, popn, sh4, i_sw, swP, i_copy, i_binS, List.map, Option.toList_none, Option.toList_some, List.append, List.nil_append, List.cons_append, List.length_cons, List.length_nil, List.replicate, Nat.sub_self, Nat.reduceSub, Nat.reduceAdd, hK_pI, hL_pI, hI_pI, hR_pI, hJ_pI, hT_pI, hS_pI, hK_pR, hL_pR, hI_pR, hR_pR, hJ_pR, hT_pR, hS_pR, hK_pJ, hL_pJ, hI_pJ, hR_pJ, hJ_pJ, hT_pJ, hS_pJ, hK_wI, hL_wI, hI_wI, hR_wI, hJ_wI, hT_wI, hS_wI, eq_self, and_true, true_and, and_false, false_and, or_true, true_or, or_false, false_or, if_true, if_false, not_true_eq_false, not_false_eq_true, forall_const, implies_true, false_implies, true_implies, Option.some.injEq, forall_eq', exists_eq_left', reduceCtorEq, Nat.reduceEqDiff, c1, T_X12_in, T_X12_ones, T_X11_within, T_X11_bit, T_X11_isIn, T_X11_oneIfIn, T_J6_bitCount_0f7a4]
      refine ⟨fun c2 => h105 best few ?_, fun c2 => h105 (nI p) (nI w) (Or.inr ⟨p, w, hbp, by omega, hw, rfl, rfl⟩)⟩
      rcases hinv with ⟨-, e⟩ | hinv
      · rw [e] at c2
        exact absurd c2 (nI_ge (by omega) (by omega))
      · exact Or.inr hinv
theorem cap_sub {I : Nat → Nat → Int32} {r c : Nat} (hc : c ≤ 9) (hce : capF I r = nI c) (hp : pct (I 88 r) ≤ c) : capF I r - nI (pct (I 88 r)) = nI (capN I r - pct (I 88 r)) := by
  unfold capN
  rw [hce, cl_nI (by omega)]
  exact pk_sub hp
set_option maxRecDepth 100000 in
theorem can_10 (d dr n : Nat) (hd : 3 ≤ d) (hdr : dr + 1 ≤ d) (hrec : ctr dr MX12_canPlace (TC n)) (Q : Option Value → Hp → Prop) (h : Hp) (hl : LayM h) (R P : Nat) (left : Int32) (hp : PreC (hI h) R P left) (hn : pct left ≤ n + 1) (h0 : ¬ left = 0) (hq1 : Fit (hI h) R left → Q (some (.int 1)) h) (hq2 : ¬ Fit (hI h) R left → Q (some (.int 0)) h) :
    ∀ (m r : Nat), m = R - r → r ≤ R → wp d MX12_canPlace Q 10 [some (.ref 44), some (.int left), some (.int (nI (fb_sm (fun j => capN (hI h) j - pct (hI h 88 j)) r))), some (.int (nI r)), none, none, none] [] h := by
  obtain ⟨hR, hP, h46, h52, hlt, hdis, hrm, hsy⟩ := id hp
  have hcaple : ∀ j, j < R → capN (hI h) j ≤ 9 ∧ pct (hI h 88 j) ≤ capN (hI h) j := by
    intro j hj
    obtain ⟨⟨c, hc, hce, hpc⟩, -⟩ := hrm j hj
    unfold capN
    rw [hce, cl_nI (by omega)]
    exact ⟨hc, hpc⟩
  have hsm : ∀ r, r ≤ R → fb_sm (fun j => capN (hI h) j - pct (hI h 88 j)) r ≤ r * 9 := fun r hr => fb_sm_bound (fun k hk => by have := hcaple k (by omega); omega)
  have hsum : fb_sm (fun j => capN (hI h) j - pct (hI h 88 j)) R + fb_sm (fun j => pct (hI h 88 j)) R = fb_sm (fun j => capN (hI h) j) R := by
    rw [← fb_sm_add]
    exact fb_sm_cong (fun k hk => by have := hcaple k hk; omega)
  have hpl := pct_le left
  intro m
  induction m with
  | zero =>
    intro r hm hr
    have e : r = R := by omega
    subst e
    have hs := hsm r (Nat.le_refl r)
    refine s_X12_canPlace_10 d dr (TC n) hd hdr hrec Q _ _ _ ?_
    simp only [b_X12_canPlace_10, T_X12_capacity, b_X12_capacity_0, hl, lay_pI, lay_wI, lay_pJ, lm_t hl, lm_k hl, lm_r hl, lm_l hl, i_push, i_ild, i_ald, i_ist, i_ast, i_inc, i_bin, i_un, i_divs, i_i2l, i_lshl, i_lor, i_dup, i_dup2, i_pop, i_if, i_cmp, i_nul, i_vret, i_iret, i_zret, i_aret, i_keep, keep, lget, lset, ent, i_getI, i_getJ, i_getR, i_getN, i_putI, i_putZ, i_putJ, i_putR, i_iald, i_bald, i_alen, i_aald, i_iast, i_bast, i_aast, i_new, i_newa, i_anew, i_oini, i_callS, i_callV, i_callI, popn, sh4, i_sw, swP, i_copy, i_binS, List.map, Option.toList_none, Option.toList_some, List.append, List.nil_append, List.cons_append, List.length_cons, List.length_nil, List.replicate, Nat.sub_self, Nat.reduceSub, Nat.reduceAdd, hK_pI, hL_pI, hI_pI, hR_pI, hJ_pI, hT_pI, hS_pI, hK_pR, hL_pR, hI_pR, hR_pR, hJ_pR, hT_pR, hS_pR, hK_pJ, hL_pJ, hI_pJ, hR_pJ, hJ_pJ, hT_pJ, hS_pJ, hK_wI, hL_wI, hI_wI, hR_wI, hJ_wI, hT_wI, hS_wI, eq_self, and_true, true_and, and_false, false_and, or_true, true_or, or_false, false_or, if_true, if_false, not_true_eq_false, not_false_eq_true, forall_const, implies_true, false_implies, true_implies, Option.some.injEq, forall_eq', exists_eq_left', reduceCtorEq, Nat.reduceEqDiff, c1, T_X12_in, T_X12_ones, T_X11_within, T_X11_bit, T_X11_isIn, T_X11_oneIfIn, T_J6_bitCount_0f7a4, in0 4 (by decide) (by decide), cl0, h46]
    refine ⟨fun _ => ⟨fun c => ?_, fun c => hq2 (fun hf => ?_)⟩, fun c => absurd (nI_le (Nat.le_refl _) (by omega)) c⟩
    · exact can_63 d dr n hd hdr hrec Q h hl r P left hp hn h0 hq1 hq2 P 0 _ _ (by omega) (by omega) (Or.inl ⟨fun i hi => absurd hi (by omega), rfl⟩)
    · have := fit_sum hf
      refine c (nI_le ?_ (by omega))
      omega
  | succ m ih =>
    intro r hm hr
    have hrR : r < R := by omega
    obtain ⟨⟨c, hc, hce, hpc⟩, -⟩ := hrm r hrR
    have hgo : ∀ x : Int32, x = capF (hI h) r → wp d MX12_canPlace Q 10 [some (.ref 44), some (.int left), some (.int (nI (fb_sm (fun j => capN (hI h) j - pct (hI h 88 j)) r) + (x - nI (pct (hI h 88 r))))), some (.int (nI (r + 1))), none, none, none] [] h := by
      intro x hx
      rw [hx, cap_sub hc hce hpc, nI_add, ← fb_sm_succ (fun j => capN (hI h) j - pct (hI h 88 j)) r]
      exact ih (r + 1) (by omega) (by omega)
    refine s_X12_canPlace_10 d dr (TC n) hd hdr hrec Q _ _ _ ?_
    simp only [b_X12_canPlace_10, T_X12_capacity, b_X12_capacity_0, hl, lay_pI, lay_wI, lay_pJ, lm_t hl, lm_k hl, lm_r hl, lm_l hl, i_push, i_ild, i_ald, i_ist, i_ast, i_inc, i_bin, i_un, i_divs, i_i2l, i_lshl, i_lor, i_dup, i_dup2, i_pop, i_if, i_cmp, i_nul, i_vret, i_iret, i_zret, i_aret, i_keep, keep, lget, lset, ent, i_getI, i_getJ, i_getR, i_getN, i_putI, i_putZ, i_putJ, i_putR, i_iald, i_bald, i_alen, i_aald, i_iast, i_bast, i_aast, i_new, i_newa, i_anew, i_oini, i_callS, i_callV, i_callI, popn, sh4, i_sw, swP, i_copy, i_binS, List.map, Option.toList_none, Option.toList_some, List.append, List.nil_append, List.cons_append, List.length_cons, List.length_nil, List.replicate, Nat.sub_self, Nat.reduceSub, Nat.reduceAdd, hK_pI, hL_pI, hI_pI, hR_pI, hJ_pI, hT_pI, hS_pI, hK_pR, hL_pR, hI_pR, hR_pR, hJ_pR, hT_pR, hS_pR, hK_pJ, hL_pJ, hI_pJ, hR_pJ, hJ_pJ, hT_pJ, hS_pJ, hK_wI, hL_wI, hI_wI, hR_wI, hJ_wI, hT_wI, hS_wI, eq_self, and_true, true_and, and_false, false_and, or_true, true_or, or_false, false_or, if_true, if_false, not_true_eq_false, not_false_eq_true, forall_const, implies_true, false_implies, true_implies, Option.some.injEq, forall_eq', exists_eq_left', reduceCtorEq, Nat.reduceEqDiff, c1, T_X12_in, T_X12_ones, T_X11_within, T_X11_bit, T_X11_isIn, T_X11_oneIfIn, T_J6_bitCount_0f7a4, in0 4 (by decide) (by decide), cl0, h46, cl_nI (show r < 2147483648 by omega), in_nI (show r < 4 by omega) (by decide), in_nI (show r < 16 by omega) (by decide), nI_1, Int32.add_zero]
    unfold capF at hgo
    refine ⟨fun c => absurd c (nI_ge (by omega) (by omega)), fun _ => ⟨fun c => ?_, fun c => ?_⟩⟩
    · rw [if_pos c] at hgo; exact hgo _ rfl
    · rw [if_neg c] at hgo; exact hgo _ rfl
theorem can_body (d dr n : Nat) (hd : 3 ≤ d) (hdr : dr + 1 ≤ d) (hrec : ctr dr MX12_canPlace (TC n)) : ctr d MX12_canPlace (TC (n + 1)) := by
  refine ctr_of pn_X12 wc_X12_canPlace (fun av h Q hT => ?_)
  unfold TC at hT
  split at hT
  · rename_i o left
    obtain ⟨rfl, hl, hn, R, P, hp, hq1, hq2⟩ := hT
    refine ⟨⟨by simp [Value.category], Nat.le_of_ble_eq_true rfl⟩, s_X12_canPlace_0 d dr (TC n) hd hdr hrec Q _ _ _ ?_⟩
    simp only [MX12_canPlace, b_X12_canPlace_0, i_push, i_ild, i_ald, i_ist, i_ast, i_inc, i_bin, i_un, i_divs, i_i2l, i_lshl, i_lor, i_dup, i_dup2, i_pop, i_if, i_cmp, i_nul, i_vret, i_iret, i_zret, i_aret, i_keep, keep, lget, lset, ent, i_getI, i_getJ, i_getR, i_getN, i_putI, i_putZ, i_putJ, i_putR, i_iald, i_bald, i_alen, i_aald, i_iast, i_bast, i_aast, i_new, i_newa, i_anew, i_oini, i_callS, i_callV, i_callI, popn, sh4, i_sw, swP, i_copy, i_binS, List.map, Option.toList_none, Option.toList_some, List.append, List.nil_append, List.cons_append, List.length_cons, List.length_nil, List.replicate, Nat.sub_self, Nat.reduceSub, Nat.reduceAdd, hK_pI, hL_pI, hI_pI, hR_pI, hJ_pI, hT_pI, hS_pI, hK_pR, hL_pR, hI_pR, hR_pR, hJ_pR, hT_pR, hS_pR, hK_pJ, hL_pJ, hI_pJ, hR_pJ, hJ_pJ, hT_pJ, hS_pJ, hK_wI, hL_wI, hI_wI, hR_wI, hJ_wI, hT_wI, hS_wI, eq_self, and_true, true_and, and_false, false_and, or_true, true_or, or_false, false_or, if_true, if_false, not_true_eq_false, not_false_eq_true, forall_const, implies_true, false_implies, true_implies, Option.some.injEq, forall_eq', exists_eq_left', reduceCtorEq, Nat.reduceEqDiff, c1, T_X12_in, T_X12_ones, T_X11_within, T_X11_bit, T_X11_isIn, T_X11_oneIfIn, T_J6_bitCount_0f7a4]
    refine ⟨fun c => hq1 ?_, fun c => ?_⟩
    · rw [c]; exact fit_0 hp.2.2.2.2.2.2.1
    · exact can_10 d dr n hd hdr hrec Q h hl R P left hp hn c hq1 hq2 R 0 (by omega) (by omega)
  · exact hT.elim
theorem can_zero (d : Nat) (hd : 3 ≤ d) : ctr d MX12_canPlace (TC 0) := by
  have hrec : ctr 0 MX12_canPlace (fun _ _ _ => False) := fun av h Q hT => hT.elim
  refine ctr_of pn_X12 wc_X12_canPlace (fun av h Q hT => ?_)
  unfold TC at hT
  split at hT
  · rename_i o left
    obtain ⟨rfl, hl, hn, R, P, hp, hq1, hq2⟩ := hT
    have hz : left = 0 := by
      refine Classical.byContradiction fun q => ?_
      have := pct_low q
      omega
    refine ⟨⟨by simp [Value.category], Nat.le_of_ble_eq_true rfl⟩, s_X12_canPlace_0 d 0 (fun _ _ _ => False) hd (by omega) hrec Q _ _ _ ?_⟩
    simp only [MX12_canPlace, b_X12_canPlace_0, i_push, i_ild, i_ald, i_ist, i_ast, i_inc, i_bin, i_un, i_divs, i_i2l, i_lshl, i_lor, i_dup, i_dup2, i_pop, i_if, i_cmp, i_nul, i_vret, i_iret, i_zret, i_aret, i_keep, keep, lget, lset, ent, i_getI, i_getJ, i_getR, i_getN, i_putI, i_putZ, i_putJ, i_putR, i_iald, i_bald, i_alen, i_aald, i_iast, i_bast, i_aast, i_new, i_newa, i_anew, i_oini, i_callS, i_callV, i_callI, popn, sh4, i_sw, swP, i_copy, i_binS, List.map, Option.toList_none, Option.toList_some, List.append, List.nil_append, List.cons_append, List.length_cons, List.length_nil, List.replicate, Nat.sub_self, Nat.reduceSub, Nat.reduceAdd, hK_pI, hL_pI, hI_pI, hR_pI, hJ_pI, hT_pI, hS_pI, hK_pR, hL_pR, hI_pR, hR_pR, hJ_pR, hT_pR, hS_pR, hK_pJ, hL_pJ, hI_pJ, hR_pJ, hJ_pJ, hT_pJ, hS_pJ, hK_wI, hL_wI, hI_wI, hR_wI, hJ_wI, hT_wI, hS_wI, eq_self, and_true, true_and, and_false, false_and, or_true, true_or, or_false, false_or, if_true, if_false, not_true_eq_false, not_false_eq_true, forall_const, implies_true, false_implies, true_implies, Option.some.injEq, forall_eq', exists_eq_left', reduceCtorEq, Nat.reduceEqDiff, c1, T_X12_in, T_X12_ones, T_X11_within, T_X11_bit, T_X11_isIn, T_X11_oneIfIn, T_J6_bitCount_0f7a4]
    refine ⟨fun c => hq1 ?_, fun c => absurd hz c⟩
    rw [c]; exact fit_0 hp.2.2.2.2.2.2.1
  · exact hT.elim
theorem ok_can : ∀ n, ctr (n + 3) MX12_canPlace (TC n)
  | 0 => can_zero 3 (by decide)
  | n + 1 => can_body (n + 1 + 3) (n + 3) n (by omega) (by omega) (ok_can n)
/-- at most seventeen are left: depth 20 -/
def T_X12_canPlace : Tr := TC 17
theorem ok_X12_canPlace : ctr 20 MX12_canPlace T_X12_canPlace := ok_can 17
