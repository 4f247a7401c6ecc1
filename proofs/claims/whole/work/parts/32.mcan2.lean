def PreC (I : Nat → Nat → Int32) (R P : Nat) (left : Int32) : Prop := R ≤ 4 ∧ P ≤ 24 ∧ I 46 0 = nI R ∧ I 52 0 = nI P ∧ (∀ i, bt left i = true → i < P) ∧ (∀ r, r < R → ∀ i, bt (I 88 r) i = true → bt left i = false) ∧ RmOk I R ∧ Sy I
def TC (n : Nat) : Tr := fun av h Q => match av with
  | [.ref o, .int left] => o = 44 ∧ LayM h ∧ pct left ≤ n ∧ ∃ R P, PreC (hI h) R P left ∧ (Fit (hI h) R left → Q (some (.int 1)) h) ∧ (¬ Fit (hI h) R left → Q (some (.int 0)) h)
  | _ => False
theorem pI_back (h : Hp) (a j : Nat) (x : Int32) : pI (pI h a j x) a j (hI h a j) = h := by
  obtain ⟨k, l, f, r, w, t, s⟩ := h
  show (k, l, u2 (u2 f a j x) a j (f a j), r, w, t, s) = _
  have : u2 (u2 f a j x) a j (f a j) = f := by
    funext b i
    unfold u2
    by_cases e : b = a ∧ i = j
    · rw [if_pos e, e.1, e.2]
    · rw [if_neg e, if_neg e]
  rw [this]
theorem fit_0 {I : Nat → Nat → Int32} {R : Nat} (hrm : RmOk I R) : Fit I R 0 := by
  refine ⟨fun _ => 0, fun p hp => ?_, fun r hr => ?_⟩
  · rw [b_0] at hp; cases hp
  · obtain ⟨⟨c, hc, hce, hp⟩, -⟩ := hrm r hr
    have e : fb_ct (fun p => bt 0 p && decide (0 = r)) 32 = 0 := fb_ct_zero.mpr (fun k _ => by rw [b_0]; rfl)
    rw [e]
    unfold capN
    rw [hce, cl_nI (by omega)]
    omega
theorem off_or {b : Int32} {k : Nat} (hk : k < 32) (hb : bt b k = false) : (b ||| bitI k) &&& (bitI k ^^^ (-1)) = b := by
  apply b_ext
  intro i hi
  have h1 := b_offB (left := b ||| bitI k) hk i
  unfold offB at h1
  rw [h1, b_orI hk]
  by_cases e : i = k
  · rw [e, hb]; simp
  · simp [e]
set_option maxRecDepth 100000 in
theorem can_117 (d dr n : Nat) (hd : 3 ≤ d) (hdr : dr + 1 ≤ d) (hrec : ctr dr MX12_canPlace (TC n)) (Q : Option Value → Hp → Prop) (h : Hp) (hl : LayM h) (R P b w : Nat) (left : Int32) (hp : PreC (hI h) R P left) (hn : pct left ≤ n + 1) (hb : bt left b = true) (hw4 : w ≤ 4) (hw : w = 0 ↔ ∀ r, r < R → ¬ mayF (hI h) R b r) (hq1 : Fit (hI h) R left → Q (some (.int 1)) h) (hq2 : ¬ Fit (hI h) R left → Q (some (.int 0)) h) :
    ∀ (m r : Nat) (z : Int32), m = R - r → r ≤ R → ((z = 0 ∧ ∀ j, j < r → ¬ (mayF (hI h) R b j ∧ Fit (addB (hI h) b j) R (offB left b))) ∨ (z = 1 ∧ Fit (hI h) R left)) → wp d MX12_canPlace Q 117 [some (.ref 44), some (.int left), none, some (.int (nI b)), some (.int (nI w)), some (.int z), some (.int (nI r))] [] h := by
  obtain ⟨hR, hP, h46, h52, hlt, hdis, hrm, hsy⟩ := id hp
  have hbP := hlt b hb
  have hst := fit_step (I := hI h) (R := R) (k := b) (left := left) (by omega) hb (fun i hi => by have := hlt i hi; omega) (fun r hr => by
    cases hz : bt (hI h 88 r) b with
    | false => rfl
    | true => have := hdis r hr b hz; rw [hb] at this; cases this) hsy hrm
  have hdb : ∀ r, r < R → bt (hI h 88 r) b = false := fun r hr => by
    cases hz : bt (hI h 88 r) b with
    | false => rfl
    | true => have := hdis r hr b hz; rw [hb] at this; cases this
  have hend : ∀ z : Int32, (z = 1 ∧ Fit (hI h) R left) ∨ (z = 0 ∧ ¬ Fit (hI h) R left) → (z = 0 ∨ z = 1) ∧ Q (some (.int z)) h := by
    intro z hz
    rcases hz with ⟨e, hf⟩ | ⟨e, hf⟩
    · rw [e]; exact ⟨Or.inr rfl, hq1 hf⟩
    · rw [e]; exact ⟨Or.inl rfl, hq2 hf⟩
  intro m
  induction m with
  | zero =>
    intro r z hm hr hz
    have e : r = R := by omega
    subst e
    refine s_X12_canPlace_117 d dr (TC n) hd hdr hrec Q _ _ _ ?_
    simp only [b_X12_canPlace_117, hl, lay_pI, lay_wI, lay_pJ, lm_t hl, lm_k hl, lm_r hl, lm_l hl, i_push, i_ild, i_ald, i_ist, i_ast, i_inc, i_bin, i_un, i_divs, i_i2l, i_lshl, i_lor, i_dup, i_dup2, i_pop, i_if, i_cmp, i_nul, i_vret, i_iret, i_zret, i_aret, i_keep, keep, lget, lset, ent, i_getI, i_getJ, i_getR, i_getN, i_putI, i_putZ, i_putJ, i_putR, i_iald, i_bald, i_alen, i_aald, i_iast, i_bast, i_aast, i_new, i_newa, i_anew, i_oini, i_callS, i_callV, i_callI, popn, sh4, i_sw, swP, i_copy, i_binS, List.map, Option.toList_none, Option.toList_some, List.append, List.nil_append, List.cons_append, List.length_cons, List.length_nil, List.replicate, Nat.sub_self, Nat.reduceSub, Nat.reduceAdd, hK_pI, hL_pI, hI_pI, hR_pI, hJ_pI, hT_pI, hS_pI, hK_pR, hL_pR, hI_pR, hR_pR, hJ_pR, hT_pR, hS_pR, hK_pJ, hL_pJ, hI_pJ, hR_pJ, hJ_pJ, hT_pJ, hS_pJ, hK_wI, hL_wI, hI_wI, hR_wI, hJ_wI, hT_wI, hS_wI, eq_self, and_true, true_and, and_false, false_and, or_true, true_or, or_false, false_or, if_true, if_false, not_true_eq_false, not_false_eq_true, forall_const, implies_true, false_implies, true_implies, Option.some.injEq, forall_eq', exists_eq_left', reduceCtorEq, Nat.reduceEqDiff, c1, T_X12_in, T_X12_ones, T_X11_within, T_X11_bit, T_X11_isIn, T_X11_oneIfIn, T_J6_bitCount_0f7a4, in0 4 (by decide) (by decide), cl0, h46]
    refine ⟨fun _ => hend z ?_, fun c => absurd (nI_le (Nat.le_refl _) (by omega)) c⟩
    rcases hz with ⟨e, hall⟩ | hz
    · refine Or.inr ⟨e, fun hf => ?_⟩
      obtain ⟨q, hq, hm2⟩ := hst.mp hf
      exact hall q hq hm2
    · exact Or.inl hz
  | succ m ih =>
    intro r z hm hr hz
    have hrR : r < R := by omega
    have h189 : ∀ z2 : Int32, ((z2 = 0 ∧ ∀ j, j < r + 1 → ¬ (mayF (hI h) R b j ∧ Fit (addB (hI h) b j) R (offB left b))) ∨ (z2 = 1 ∧ Fit (hI h) R left)) → wp d MX12_canPlace Q 189 [some (.ref 44), some (.int left), none, some (.int (nI b)), some (.int (nI w)), some (.int z2), some (.int (nI r))] [] h := by
      intro z2 hz2
      refine s_X12_canPlace_189 d dr (TC n) hd hdr hrec Q _ _ _ ?_
      simp only [b_X12_canPlace_189, i_push, i_ild, i_ald, i_ist, i_ast, i_inc, i_bin, i_un, i_divs, i_i2l, i_lshl, i_lor, i_dup, i_dup2, i_pop, i_if, i_cmp, i_nul, i_vret, i_iret, i_zret, i_aret, i_keep, keep, lget, lset, ent, i_getI, i_getJ, i_getR, i_getN, i_putI, i_putZ, i_putJ, i_putR, i_iald, i_bald, i_alen, i_aald, i_iast, i_bast, i_aast, i_new, i_newa, i_anew, i_oini, i_callS, i_callV, i_callI, popn, sh4, i_sw, swP, i_copy, i_binS, List.map, Option.toList_none, Option.toList_some, List.append, List.nil_append, List.cons_append, List.length_cons, List.length_nil, List.replicate, Nat.sub_self, Nat.reduceSub, Nat.reduceAdd, hK_pI, hL_pI, hI_pI, hR_pI, hJ_pI, hT_pI, hS_pI, hK_pR, hL_pR, hI_pR, hR_pR, hJ_pR, hT_pR, hS_pR, hK_pJ, hL_pJ, hI_pJ, hR_pJ, hJ_pJ, hT_pJ, hS_pJ, hK_wI, hL_wI, hI_wI, hR_wI, hJ_wI, hT_wI, hS_wI, eq_self, and_true, true_and, and_false, false_and, or_true, true_or, or_false, false_or, if_true, if_false, not_true_eq_false, not_false_eq_true, forall_const, implies_true, false_implies, true_implies, Option.some.injEq, forall_eq', exists_eq_left', reduceCtorEq, Nat.reduceEqDiff, c1, T_X12_in, T_X12_ones, T_X11_within, T_X11_bit, T_X11_isIn, T_X11_oneIfIn, T_J6_bitCount_0f7a4, nI_1]
      exact ih (r + 1) z2 (by omega) (by omega) hz2
    refine s_X12_canPlace_117 d dr (TC n) hd hdr hrec Q _ _ _ ?_
    simp only [b_X12_canPlace_117, hl, lay_pI, lay_wI, lay_pJ, lm_t hl, lm_k hl, lm_r hl, lm_l hl, i_push, i_ild, i_ald, i_ist, i_ast, i_inc, i_bin, i_un, i_divs, i_i2l, i_lshl, i_lor, i_dup, i_dup2, i_pop, i_if, i_cmp, i_nul, i_vret, i_iret, i_zret, i_aret, i_keep, keep, lget, lset, ent, i_getI, i_getJ, i_getR, i_getN, i_putI, i_putZ, i_putJ, i_putR, i_iald, i_bald, i_alen, i_aald, i_iast, i_bast, i_aast, i_new, i_newa, i_anew, i_oini, i_callS, i_callV, i_callI, popn, sh4, i_sw, swP, i_copy, i_binS, List.map, Option.toList_none, Option.toList_some, List.append, List.nil_append, List.cons_append, List.length_cons, List.length_nil, List.replicate, Nat.sub_self, Nat.reduceSub, Nat.reduceAdd, hK_pI, hL_pI, hI_pI, hR_pI, hJ_pI, hT_pI, hS_pI, hK_pR, hL_pR, hI_pR, hR_pR, hJ_pR, hT_pR, hS_pR, hK_pJ, hL_pJ, hI_pJ, hR_pJ, hJ_pJ, hT_pJ, hS_pJ, hK_wI, hL_wI, hI_wI, hR_wI, hJ_wI, hT_wI, hS_wI, eq_self, and_true, true_and, and_false, false_and, or_true, true_or, or_false, false_or, if_true, if_false, not_true_eq_false, not_false_eq_true, forall_const, implies_true, false_implies, true_implies, Option.some.injEq, forall_eq', exists_eq_left', reduceCtorEq, Nat.reduceEqDiff, c1, T_X12_in, T_X12_ones, T_X11_within, T_X11_bit, T_X11_isIn, T_X11_oneIfIn, T_J6_bitCount_0f7a4, in0 4 (by decide) (by decide), cl0, h46]
    refine ⟨fun c => absurd c (nI_ge (by omega) (by omega)), fun _ => ⟨fun c => hend z ?_, fun c => ⟨fun c2 => ?_, fun c2 => hend z ?_⟩⟩⟩
    · have w0 : w = 0 := by
        rcases Nat.eq_zero_or_pos w with q | q
        · exact q
        · exact absurd c (nI_nle q (by omega))
      rcases hz with ⟨e, hall⟩ | hz
      · refine Or.inr ⟨e, fun hf => ?_⟩
        obtain ⟨q, hq, hm2, -⟩ := hst.mp hf
        exact hw.mp w0 q hq hm2
      · exact Or.inl hz
    · have hall : ∀ j, j < r → ¬ (mayF (hI h) R b j ∧ Fit (addB (hI h) b j) R (offB left b)) := by
        rcases hz with ⟨e, hall⟩ | ⟨e, -⟩
        · exact hall
        · rw [c2] at e; cases e
      refine ⟨rfl, hl, R, b, r, hR, h46, rfl, by omega, rfl, by omega, fun hmay => ?_, fun hmay => ?_⟩
      · simp only [c_X12_canPlace_145, hl, lay_pI, lay_wI, lay_pJ, lm_t hl, lm_k hl, lm_r hl, lm_l hl, i_push, i_ild, i_ald, i_ist, i_ast, i_inc, i_bin, i_un, i_divs, i_i2l, i_lshl, i_lor, i_dup, i_dup2, i_pop, i_if, i_cmp, i_nul, i_vret, i_iret, i_zret, i_aret, i_keep, keep, lget, lset, ent, i_getI, i_getJ, i_getR, i_getN, i_putI, i_putZ, i_putJ, i_putR, i_iald, i_bald, i_alen, i_aald, i_iast, i_bast, i_aast, i_new, i_newa, i_anew, i_oini, i_callS, i_callV, i_callI, popn, sh4, i_sw, swP, i_copy, i_binS, List.map, Option.toList_none, Option.toList_some, List.append, List.nil_append, List.cons_append, List.length_cons, List.length_nil, List.replicate, Nat.sub_self, Nat.reduceSub, Nat.reduceAdd, hK_pI, hL_pI, hI_pI, hR_pI, hJ_pI, hT_pI, hS_pI, hK_pR, hL_pR, hI_pR, hR_pR, hJ_pR, hT_pR, hS_pR, hK_pJ, hL_pJ, hI_pJ, hR_pJ, hJ_pJ, hT_pJ, hS_pJ, hK_wI, hL_wI, hI_wI, hR_wI, hJ_wI, hT_wI, hS_wI, eq_self, and_true, true_and, and_false, false_and, or_true, true_or, or_false, false_or, if_true, if_false, not_true_eq_false, not_false_eq_true, forall_const, implies_true, false_implies, true_implies, Option.some.injEq, forall_eq', exists_eq_left', reduceCtorEq, Nat.reduceEqDiff, c1, T_X12_in, T_X12_ones, T_X11_within, T_X11_bit, T_X11_isIn, T_X11_oneIfIn, T_J6_bitCount_0f7a4, cl_nI (show r < 2147483648 by omega), in_nI (show r < 4 by omega) (by decide)]
        refine ⟨fun q => absurd q (by decide), fun _ => ?_⟩
        have eb : (1 : Int32) <<< (nI b &&& 31) = bitI b := rfl
        rw [eb]
        have eo : left &&& (bitI b ^^^ (-1)) = offB left b := rfl
        rw [eo]
        have hI1 : hI (pI h 88 r (hI h 88 r ||| bitI b)) = addB (hI h) b r := rfl
        have hpo := pct_off (b := left) (k := b) (by omega) hb
        have hback : wp d MX12_canPlace Q 189 [some (.ref 44), some (.int left), none, some (.int (nI b)), some (.int (nI w)), some (.int 1), some (.int (nI r))] [] h → True := fun _ => trivial
        refine ⟨rfl, hl.pI _ _ _, by omega, R, P, ?_, fun hf => ?_, fun hf => ?_⟩
        · rw [hI1]
          refine ⟨hR, hP, by rw [addB_a _ _ _ 46 (by decide)]; exact h46, by rw [addB_a _ _ _ 52 (by decide)]; exact h52, fun i hi => ?_, fun q hq i hi => ?_, rm_step (by omega) hdb hrm hrR hmay, sy_addB b r hsy⟩
          · rw [b_offB (by omega)] at hi
            simp only [Bool.and_eq_true] at hi
            exact hlt i hi.1
          · rw [b_offB (by omega)]
            rw [bt_addB (by omega)] at hi
            simp only [Bool.or_eq_true, Bool.and_eq_true, decide_eq_true_eq] at hi
            rcases hi with hi | ⟨-, e2⟩
            · rw [hdis q hq i hi]; rfl
            · rw [e2]; simp
        · rw [hI1] at hf
          have hl1 := hl.pI 88 r (hI h 88 r ||| bitI b)
          have hv : (hI h 88 r ||| bitI b) &&& (bitI b ^^^ (-1)) = hI h 88 r := off_or (by omega) (hdb r hrR)
          have hgo := h189 1 (Or.inr ⟨rfl, hst.mpr ⟨r, hrR, hmay, hf⟩⟩)
          generalize hg : pI h 88 r (hI h 88 r ||| bitI b) = g at hl1 ⊢
          have hgr : hI g 88 r = hI h 88 r ||| bitI b := by rw [← hg, hI_pI, if_pos ⟨rfl, rfl⟩]
          simp only [c_X12_canPlace_172, i_push, i_ild, i_ald, i_ist, i_ast, i_inc, i_bin, i_un, i_divs, i_i2l, i_lshl, i_lor, i_dup, i_dup2, i_pop, i_if, i_cmp, i_nul, i_vret, i_iret, i_zret, i_aret, i_keep, keep, lget, lset, ent, i_getI, i_getJ, i_getR, i_getN, i_putI, i_putZ, i_putJ, i_putR, i_iald, i_bald, i_alen, i_aald, i_iast, i_bast, i_aast, i_new, i_newa, i_anew, i_oini, i_callS, i_callV, i_callI, popn, sh4, i_sw, swP, i_copy, i_binS, List.map, Option.toList_none, Option.toList_some, List.append, List.nil_append, List.cons_append, List.length_cons, List.length_nil, List.replicate, Nat.sub_self, Nat.reduceSub, Nat.reduceAdd, hK_pI, hL_pI, hI_pI, hR_pI, hJ_pI, hT_pI, hS_pI, hK_pR, hL_pR, hI_pR, hR_pR, hJ_pR, hT_pR, hS_pR, hK_pJ, hL_pJ, hI_pJ, hR_pJ, hJ_pJ, hT_pJ, hS_pJ, hK_wI, hL_wI, hI_wI, hR_wI, hJ_wI, hT_wI, hS_wI, eq_self, and_true, true_and, and_false, false_and, or_true, true_or, or_false, false_or, if_true, if_false, not_true_eq_false, not_false_eq_true, forall_const, implies_true, false_implies, true_implies, Option.some.injEq, forall_eq', exists_eq_left', reduceCtorEq, Nat.reduceEqDiff, c1, T_X12_in, T_X12_ones, T_X11_within, T_X11_bit, T_X11_isIn, T_X11_oneIfIn, T_J6_bitCount_0f7a4, lm_t hl1, lm_k hl1, lm_r hl1, lm_l hl1, cl_nI (show r < 2147483648 by omega), in_nI (show r < 4 by omega) (by decide), eb, hgr, hv]
          rw [← hg, pI_back]
          exact hgo
        · rw [hI1] at hf
          have hl1 := hl.pI 88 r (hI h 88 r ||| bitI b)
          have hv : (hI h 88 r ||| bitI b) &&& (bitI b ^^^ (-1)) = hI h 88 r := off_or (by omega) (hdb r hrR)
          have hgo := h189 0 (Or.inl ⟨rfl, fun j hj hm2 => by
            rcases Nat.lt_or_ge j r with q | q
            · exact hall j q hm2
            · have : j = r := by omega
              subst this
              exact hf hm2.2⟩)
          generalize hg : pI h 88 r (hI h 88 r ||| bitI b) = g at hl1 ⊢
          have hgr : hI g 88 r = hI h 88 r ||| bitI b := by rw [← hg, hI_pI, if_pos ⟨rfl, rfl⟩]
          simp only [c_X12_canPlace_172, i_push, i_ild, i_ald, i_ist, i_ast, i_inc, i_bin, i_un, i_divs, i_i2l, i_lshl, i_lor, i_dup, i_dup2, i_pop, i_if, i_cmp, i_nul, i_vret, i_iret, i_zret, i_aret, i_keep, keep, lget, lset, ent, i_getI, i_getJ, i_getR, i_getN, i_putI, i_putZ, i_putJ, i_putR, i_iald, i_bald, i_alen, i_aald, i_iast, i_bast, i_aast, i_new, i_newa, i_anew, i_oini, i_callS, i_callV, i_callI, popn, sh4, i_sw, swP, i_copy, i_binS, List.map, Option.toList_none, Option.toList_some, List.append, List.nil_append, List.cons_append, List.length_cons, List.length_nil, List.replicate, Nat.sub_self, Nat.reduceSub, Nat.reduceAdd, hK_pI, hL_pI, hI_pI, hR_pI, hJ_pI, hT_pI, hS_pI, hK_pR, hL_pR, hI_pR, hR_pR, hJ_pR, hT_pR, hS_pR, hK_pJ, hL_pJ, hI_pJ, hR_pJ, hJ_pJ, hT_pJ, hS_pJ, hK_wI, hL_wI, hI_wI, hR_wI, hJ_wI, hT_wI, hS_wI, eq_self, and_true, true_and, and_false, false_and, or_true, true_or, or_false, false_or, if_true, if_false, not_true_eq_false, not_false_eq_true, forall_const, implies_true, false_implies, true_implies, Option.some.injEq, forall_eq', exists_eq_left', reduceCtorEq, Nat.reduceEqDiff, c1, T_X12_in, T_X12_ones, T_X11_within, T_X11_bit, T_X11_isIn, T_X11_oneIfIn, T_J6_bitCount_0f7a4, lm_t hl1, lm_k hl1, lm_r hl1, lm_l hl1, cl_nI (show r < 2147483648 by omega), in_nI (show r < 4 by omega) (by decide), eb, hgr, hv]
          rw [← hg, pI_back]
          exact hgo
      · simp only [c_X12_canPlace_145, i_push, i_ild, i_ald, i_ist, i_ast, i_inc, i_bin, i_un, i_divs, i_i2l, i_lshl, i_lor, i_dup, i_dup2, i_pop, i_if, i_cmp, i_nul, i_vret, i_iret, i_zret, i_aret, i_keep, keep, lget, lset, ent, i_getI, i_getJ, i_getR, i_getN, i_putI, i_putZ, i_putJ, i_putR, i_iald, i_bald, i_alen, i_aald, i_iast, i_bast, i_aast, i_new, i_newa, i_anew, i_oini, i_callS, i_callV, i_callI, popn, sh4, i_sw, swP, i_copy, i_binS, List.map, Option.toList_none, Option.toList_some, List.append, List.nil_append, List.cons_append, List.length_cons, List.length_nil, List.replicate, Nat.sub_self, Nat.reduceSub, Nat.reduceAdd, hK_pI, hL_pI, hI_pI, hR_pI, hJ_pI, hT_pI, hS_pI, hK_pR, hL_pR, hI_pR, hR_pR, hJ_pR, hT_pR, hS_pR, hK_pJ, hL_pJ, hI_pJ, hR_pJ, hJ_pJ, hT_pJ, hS_pJ, hK_wI, hL_wI, hI_wI, hR_wI, hJ_wI, hT_wI, hS_wI, eq_self, and_true, true_and, and_false, false_and, or_true, true_or, or_false, false_or, if_true, if_false, not_true_eq_false, not_false_eq_true, forall_const, implies_true, false_implies, true_implies, Option.some.injEq, forall_eq', exists_eq_left', reduceCtorEq, Nat.reduceEqDiff, c1, T_X12_in, T_X12_ones, T_X11_within, T_X11_bit, T_X11_isIn, T_X11_oneIfIn, T_J6_bitCount_0f7a4]
        have hgo := h189 z (Or.inl ⟨c2, fun j hj hm2 => by
          rcases Nat.lt_or_ge j r with q | q
          · exact hall j q hm2
          · have : j = r := by omega
            subst this
            exact hmay hm2.1⟩)
        first | exact hgo | exact ⟨fun _ => hgo, fun q => absurd rfl q⟩
    · rcases hz with ⟨e, -⟩ | hz
      · exact absurd e c2
      · exact Or.inl hz
