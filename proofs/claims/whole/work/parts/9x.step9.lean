/-! ===== steps: pair ===== -/
def tnH (h : Hp) (r a b : Nat) : Hp := pI (pI h r a (hI h r a ^^^ bitI b)) r b (hI h r b ^^^ bitI a)
def flR (f : Nat → Int32) (a b y : Nat) : Int32 := if y = b then f b ^^^ bitI a else if y = a then f a ^^^ bitI b else f y
theorem tnH_sh (h : Hp) (r a b : Nat) : Sh h (tnH h r a b) := (pI_sh h r a _).p r b _
theorem tnH_I (h : Hp) (r a b x y : Nat) : hI (tnH h r a b) x y = if x = r then flR (hI h r) a b y else hI h x y := by
  unfold tnH flR
  rw [hI_pX, hI_pX]
  by_cases e : x = r
  · subst e
    simp only [true_and, if_true]
  · simp only [e, false_and, if_false]
def t1P (h : Hp) (a b : Nat) (s : Int32) : Hp := if s = 2 then pI h 16 1 (hI h 16 1 + 1) else if s = 0 then tnH h 23 a b else tnH h 24 a b
def t2P (h : Hp) (a b : Nat) (s : Int32) : Hp := if s = 2 then pI h 16 1 (hI h 16 1 - 1) else if s = 0 then tnH h 23 a b else tnH h 24 a b
theorem t1P_sh (h : Hp) (a b : Nat) (s : Int32) : Sh h (t1P h a b s) := by
  unfold t1P
  split
  · exact pI_sh _ _ _ _
  · split
    · exact tnH_sh _ _ _ _
    · exact tnH_sh _ _ _ _
theorem t2P_sh (h : Hp) (a b : Nat) (s : Int32) : Sh h (t2P h a b s) := by
  unfold t2P
  split
  · exact pI_sh _ _ _ _
  · split
    · exact tnH_sh _ _ _ _
    · exact tnH_sh _ _ _ _
theorem t1P_I (h : Hp) (a b : Nat) (s : Int32) (hs : s = 0 ∨ s = 1 ∨ s = 2) (x y : Nat) : hI (t1P h a b s) x y = if x = 16 ∧ y = 1 then (if s = 2 then hI h 16 1 + 1 else hI h 16 1) else if x = 23 ∧ s = 0 then flR (hI h 23) a b y else if x = 24 ∧ s = 1 then flR (hI h 24) a b y else hI h x y := by
  unfold t1P
  rcases hs with z | z | z <;> subst z
  · rw [if_neg (by decide), if_pos rfl, tnH_I]
    by_cases e : x = 23
    · subst e; simp
    · simp only [e, if_false, false_and]
      by_cases e2 : x = 16 ∧ y = 1
      · rw [if_pos e2, e2.1, e2.2]; rfl
      · rw [if_neg e2, if_neg (fun z => absurd z.2 (by decide))]
  · rw [if_neg (by decide), if_neg (by decide), tnH_I]
    by_cases e : x = 24
    · subst e; simp
    · simp only [e, if_false, false_and]
      by_cases e2 : x = 16 ∧ y = 1
      · rw [if_pos e2, e2.1, e2.2]; rfl
      · rw [if_neg e2, if_neg (fun z => absurd z.2 (by decide))]
  · rw [if_pos rfl, if_pos rfl, hI_pX, if_neg (c := x = 23 ∧ (2 : Int32) = 0) (fun z => absurd z.2 (by decide)), if_neg (c := x = 24 ∧ (2 : Int32) = 1) (fun z => absurd z.2 (by decide))]
theorem t2P_I (h : Hp) (a b : Nat) (s : Int32) (hs : s = 0 ∨ s = 1 ∨ s = 2) (x y : Nat) : hI (t2P h a b s) x y = if x = 16 ∧ y = 1 then (if s = 2 then hI h 16 1 - 1 else hI h 16 1) else if x = 23 ∧ s = 0 then flR (hI h 23) a b y else if x = 24 ∧ s = 1 then flR (hI h 24) a b y else hI h x y := by
  unfold t2P
  rcases hs with z | z | z <;> subst z
  · rw [if_neg (by decide), if_pos rfl, tnH_I]
    by_cases e : x = 23
    · subst e; simp
    · simp only [e, if_false, false_and]
      by_cases e2 : x = 16 ∧ y = 1
      · rw [if_pos e2, e2.1, e2.2]; rfl
      · rw [if_neg e2, if_neg (fun z => absurd z.2 (by decide))]
  · rw [if_neg (by decide), if_neg (by decide), tnH_I]
    by_cases e : x = 24
    · subst e; simp
    · simp only [e, if_false, false_and]
      by_cases e2 : x = 16 ∧ y = 1
      · rw [if_pos e2, e2.1, e2.2]; rfl
      · rw [if_neg e2, if_neg (fun z => absurd z.2 (by decide))]
  · rw [if_pos rfl, if_pos rfl, hI_pX, if_neg (c := x = 23 ∧ (2 : Int32) = 0) (fun z => absurd z.2 (by decide)), if_neg (c := x = 24 ∧ (2 : Int32) = 1) (fun z => absurd z.2 (by decide))]
theorem turn_go {h : Hp} {r a b : Nat} (ht : r < hT h) (hk14 : hK h r = 14) (h24 : hL h r = 24) (ha : a < 24) (hb : b < 24) (hab : ¬ b = a) {Q : Option Value → Hp → Prop} (hq : Q none (tnH h r a b)) : T_X3_turnPair [.ref r, .int (nI a), .int (nI b)] h Q := by
  have eb : ∀ k : Nat, (1 : Int32) <<< (nI k &&& 31) = bitI k := fun _ => rfl
  unfold tnH at hq
  unfold T_X3_turnPair
  simp only [b_X3_turnPair_0, i_push, i_ild, i_ald, i_ist, i_ast, i_inc, i_bin, i_un, i_divs, i_i2l, i_lshl, i_lor, i_dup, i_dup2, i_pop, i_if, i_cmp, i_nul, i_vret, i_iret, i_zret, i_aret, i_keep, keep, lget, lset, ent, i_getI, i_getJ, i_getR, i_getN, i_putI, i_putZ, i_putJ, i_putR, i_iald, i_bald, i_alen, i_aald, i_iast, i_bast, i_aast, i_new, i_newa, i_anew, i_oini, i_callS, i_callV, i_callI, popn, sh4, i_sw, swP, i_copy, i_binS, List.map, Option.toList_none, Option.toList_some, List.append, List.nil_append, List.cons_append, List.length_cons, List.length_nil, List.replicate, Nat.sub_self, Nat.reduceSub, Nat.reduceAdd, hK_pX, hL_pX, hI_pX, hR_pX, hJ_pX, hT_pX, hS_pX, hK_pR, hL_pR, hI_pR, hR_pR, hJ_pR, hT_pR, hS_pR, hK_pJ, hL_pJ, hI_pJ, hR_pJ, hJ_pJ, hT_pJ, hS_pJ, hK_wI, hL_wI, hI_wI, hR_wI, hJ_wI, hT_wI, hS_wI, eq_self, and_true, true_and, and_false, false_and, or_true, true_or, or_false, false_or, if_true, if_false, not_true_eq_false, not_false_eq_true, forall_const, implies_true, false_implies, true_implies, Option.some.injEq, forall_eq', exists_eq_left', reduceCtorEq, Nat.reduceEqDiff, c1, T_X12_in, T_X12_ones, T_X11_within, T_X11_bit, T_X11_isIn, T_X11_oneIfIn, T_J6_bitCount_0f7a4, ht, hk14, h24, cl_nI (show a < 2147483648 by omega), in_nI (show a < 24 by omega) (by decide), cl_nI (show b < 2147483648 by omega), in_nI (show b < 24 by omega) (by decide), eb, hab]
  exact hq
def sX (f : Mem) (a b : Nat) : Int32 := if bt (f 23 a) b = true then 0 else if bt (f 24 a) b = true then 1 else 2
theorem sX_3 (f : Mem) (a b : Nat) : sX f a b = 0 ∨ sX f a b = 1 ∨ sX f a b = 2 := by
  unfold sX
  split
  · exact Or.inl rfl
  · split
    · exact Or.inr (Or.inl rfl)
    · exact Or.inr (Or.inr rfl)
theorem how_go {h : Hp} (hl : LayX h) {a b : Nat} (ha : a < 24) (hb : b < 24) {Q : Option Value → Hp → Prop} (hq : Q (some (.int (sX (hI h) a b))) h) : T_X3_howPaired [.ref 16, .int (nI a), .int (nI b)] h Q := by
  unfold sX at hq
  unfold T_X3_howPaired
  simp only [b_X3_howPaired_0, lx_pI, lx_wI, lx_t hl, lx_k hl, lx_r hl, lx_l hl, i_push, i_ild, i_ald, i_ist, i_ast, i_inc, i_bin, i_un, i_divs, i_i2l, i_lshl, i_lor, i_dup, i_dup2, i_pop, i_if, i_cmp, i_nul, i_vret, i_iret, i_zret, i_aret, i_keep, keep, lget, lset, ent, i_getI, i_getJ, i_getR, i_getN, i_putI, i_putZ, i_putJ, i_putR, i_iald, i_bald, i_alen, i_aald, i_iast, i_bast, i_aast, i_new, i_newa, i_anew, i_oini, i_callS, i_callV, i_callI, popn, sh4, i_sw, swP, i_copy, i_binS, List.map, Option.toList_none, Option.toList_some, List.append, List.nil_append, List.cons_append, List.length_cons, List.length_nil, List.replicate, Nat.sub_self, Nat.reduceSub, Nat.reduceAdd, hK_pX, hL_pX, hI_pX, hR_pX, hJ_pX, hT_pX, hS_pX, hK_pR, hL_pR, hI_pR, hR_pR, hJ_pR, hT_pR, hS_pR, hK_pJ, hL_pJ, hI_pJ, hR_pJ, hJ_pJ, hT_pJ, hS_pJ, hK_wI, hL_wI, hI_wI, hR_wI, hJ_wI, hT_wI, hS_wI, eq_self, and_true, true_and, and_false, false_and, or_true, true_or, or_false, false_or, if_true, if_false, not_true_eq_false, not_false_eq_true, forall_const, implies_true, false_implies, true_implies, Option.some.injEq, forall_eq', exists_eq_left', reduceCtorEq, Nat.reduceEqDiff, c1, T_X12_in, T_X12_ones, T_X11_within, T_X11_bit, T_X11_isIn, T_X11_oneIfIn, T_J6_bitCount_0f7a4, cl_nI (show a < 2147483648 by omega), in_nI (show a < 24 by omega) (by decide), b2i_0, Classical.not_not, sh_bt _ (show b < 32 by omega)]
  refine ⟨fun z => ?_, fun z => ?_⟩
  · rw [if_neg (by simp [z])] at hq
    refine ⟨fun y => ?_, fun y => ?_⟩
    · rw [if_neg (by simp [y])] at hq; exact hq
    · rw [if_pos (by simpa using y)] at hq; exact hq
  · rw [if_pos (by simpa using z)] at hq; exact hq
theorem c109_go {h : Hp} {A : List (Option Value)} {Q : Option Value → Hp → Prop} (hq : Q (some (.int 1)) h) : c_X3_changePair_109 Q A [] h := by
  simp only [c_X3_changePair_109, i_push, i_ild, i_ald, i_ist, i_ast, i_inc, i_bin, i_un, i_divs, i_i2l, i_lshl, i_lor, i_dup, i_dup2, i_pop, i_if, i_cmp, i_nul, i_vret, i_iret, i_zret, i_aret, i_keep, keep, lget, lset, ent, i_getI, i_getJ, i_getR, i_getN, i_putI, i_putZ, i_putJ, i_putR, i_iald, i_bald, i_alen, i_aald, i_iast, i_bast, i_aast, i_new, i_newa, i_anew, i_oini, i_callS, i_callV, i_callI, popn, sh4, i_sw, swP, i_copy, i_binS, List.map, Option.toList_none, Option.toList_some, List.append, List.nil_append, List.cons_append, List.length_cons, List.length_nil, List.replicate, Nat.sub_self, Nat.reduceSub, Nat.reduceAdd, hK_pX, hL_pX, hI_pX, hR_pX, hJ_pX, hT_pX, hS_pX, hK_pR, hL_pR, hI_pR, hR_pR, hJ_pR, hT_pR, hS_pR, hK_pJ, hL_pJ, hI_pJ, hR_pJ, hJ_pJ, hT_pJ, hS_pJ, hK_wI, hL_wI, hI_wI, hR_wI, hJ_wI, hT_wI, hS_wI, eq_self, and_true, true_and, and_false, false_and, or_true, true_or, or_false, false_or, if_true, if_false, not_true_eq_false, not_false_eq_true, forall_const, implies_true, false_implies, true_implies, Option.some.injEq, forall_eq', exists_eq_left', reduceCtorEq, Nat.reduceEqDiff, c1, T_X12_in, T_X12_ones, T_X11_within, T_X11_bit, T_X11_isIn, T_X11_oneIfIn, T_J6_bitCount_0f7a4]
  exact hq
set_option maxRecDepth 100000 in
theorem ch71_go {h : Hp} (hl : LayX h) {a b : Nat} (ha : a < 24) (hb : b < 24) (hab : ¬ b = a) {how : Int32} {z : Option Value} {Q : Option Value → Hp → Prop} (hq : Q (some (.int 1)) (t2P h a b how)) : c_X3_changePair_71 Q [some (.ref 16), some (.int (nI a)), some (.int (nI b)), some (.int how), z] [] h := by
  unfold t2P at hq
  have k := lx_k hl
  have l := lx_l hl
  have t := lx_t hl
  have g23 : 23 < hT h := by simp only [t]
  have g24 : 24 < hT h := by simp only [t]
  have j23 : hK h 23 = 14 := by simp only [k]
  have j24 : hK h 24 = 14 := by simp only [k]
  have i23 : hL h 23 = 24 := by simp only [l]
  have i24 : hL h 24 = 24 := by simp only [l]
  simp only [c_X3_changePair_71, lx_pI, lx_wI, lx_t hl, lx_k hl, lx_r hl, lx_l hl, i_push, i_ild, i_ald, i_ist, i_ast, i_inc, i_bin, i_un, i_divs, i_i2l, i_lshl, i_lor, i_dup, i_dup2, i_pop, i_if, i_cmp, i_nul, i_vret, i_iret, i_zret, i_aret, i_keep, keep, lget, lset, ent, i_getI, i_getJ, i_getR, i_getN, i_putI, i_putZ, i_putJ, i_putR, i_iald, i_bald, i_alen, i_aald, i_iast, i_bast, i_aast, i_new, i_newa, i_anew, i_oini, i_callS, i_callV, i_callI, popn, sh4, i_sw, swP, i_copy, i_binS, List.map, Option.toList_none, Option.toList_some, List.append, List.nil_append, List.cons_append, List.length_cons, List.length_nil, List.replicate, Nat.sub_self, Nat.reduceSub, Nat.reduceAdd, hK_pX, hL_pX, hI_pX, hR_pX, hJ_pX, hT_pX, hS_pX, hK_pR, hL_pR, hI_pR, hR_pR, hJ_pR, hT_pR, hS_pR, hK_pJ, hL_pJ, hI_pJ, hR_pJ, hJ_pJ, hT_pJ, hS_pJ, hK_wI, hL_wI, hI_wI, hR_wI, hJ_wI, hT_wI, hS_wI, eq_self, and_true, true_and, and_false, false_and, or_true, true_or, or_false, false_or, if_true, if_false, not_true_eq_false, not_false_eq_true, forall_const, implies_true, false_implies, true_implies, Option.some.injEq, forall_eq', exists_eq_left', reduceCtorEq, Nat.reduceEqDiff, c1, T_X12_in, T_X12_ones, T_X11_within, T_X11_bit, T_X11_isIn, T_X11_oneIfIn, T_J6_bitCount_0f7a4]
  refine ⟨fun y => ?_, fun y => ?_⟩
  · rw [if_pos y] at hq
    exact hq
  · rw [if_neg y] at hq
    refine ⟨fun y2 => ?_, fun y2 => ?_⟩
    · rw [if_pos y2] at hq
      exact turn_go g23 j23 i23 ha hb hab (c109_go hq)
    · rw [if_neg y2] at hq
      exact turn_go g24 j24 i24 ha hb hab (c109_go hq)
theorem row_k {h : Hp} (hl : LayX h) : (23 < hT h ∧ 24 < hT h) ∧ (hK h 23 = 14 ∧ hK h 24 = 14) ∧ hL h 23 = 24 ∧ hL h 24 = 24 := by
  have k := lx_k hl
  have l := lx_l hl
  have t := lx_t hl
  refine ⟨⟨?_, ?_⟩, ⟨?_, ?_⟩, ?_, ?_⟩ <;> simp only [t, k, l]
set_option maxRecDepth 100000 in
theorem change_go {h : Hp} (hl : LayX h) {a b np : Nat} (ha : a < 24) (hb : b < 24) (hab : ¬ b = a) (hnp : np ≤ 20) (h161 : hI h 16 1 = nI np) {how : Int32} {Q : Option Value → Hp → Prop} (hq0 : (sX (hI h) a b = how ∨ (sX (hI h) a b = 2 ∧ np = 20)) → Q (some (.int 0)) h) (hq1 : ¬ sX (hI h) a b = how → ¬ (sX (hI h) a b = 2 ∧ np = 20) → Q (some (.int 1)) (t2P (t1P h a b (sX (hI h) a b)) a b how)) : T_X3_changePair [.ref 16, .int (nI a), .int (nI b), .int how] h Q := by
  have hlt : nI np < 20 ↔ np < 20 := nI_ltI (b := 20) (by omega) (by decide)
  obtain ⟨⟨g23, g24⟩, ⟨j23, j24⟩, i23, i24⟩ := row_k hl
  unfold T_X3_changePair
  have h6 : c_X3_changePair_6 Q [some (.ref 16), some (.int (nI a)), some (.int (nI b)), some (.int how), none] [.int (sX (hI h) a b)] h := by
    have hs3 := sX_3 (hI h) a b
    generalize sX (hI h) a b = s at hq0 hq1 hs3 ⊢
    rcases hs3 with z | z | z <;> subst z
    · have e : t1P h a b 0 = tnH h 23 a b := (if_neg (by decide)).trans (if_pos rfl)
      rw [e] at hq1
      simp only [c_X3_changePair_6, lx_pI, lx_wI, lx_t hl, lx_k hl, lx_r hl, lx_l hl, i_push, i_ild, i_ald, i_ist, i_ast, i_inc, i_bin, i_un, i_divs, i_i2l, i_lshl, i_lor, i_dup, i_dup2, i_pop, i_if, i_cmp, i_nul, i_vret, i_iret, i_zret, i_aret, i_keep, keep, lget, lset, ent, i_getI, i_getJ, i_getR, i_getN, i_putI, i_putZ, i_putJ, i_putR, i_iald, i_bald, i_alen, i_aald, i_iast, i_bast, i_aast, i_new, i_newa, i_anew, i_oini, i_callS, i_callV, i_callI, popn, sh4, i_sw, swP, i_copy, i_binS, List.map, Option.toList_none, Option.toList_some, List.append, List.nil_append, List.cons_append, List.length_cons, List.length_nil, List.replicate, Nat.sub_self, Nat.reduceSub, Nat.reduceAdd, hK_pX, hL_pX, hI_pX, hR_pX, hJ_pX, hT_pX, hS_pX, hK_pR, hL_pR, hI_pR, hR_pR, hJ_pR, hT_pR, hS_pR, hK_pJ, hL_pJ, hI_pJ, hR_pJ, hJ_pJ, hT_pJ, hS_pJ, hK_wI, hL_wI, hI_wI, hR_wI, hJ_wI, hT_wI, hS_wI, eq_self, and_true, true_and, and_false, false_and, or_true, true_or, or_false, false_or, if_true, if_false, not_true_eq_false, not_false_eq_true, forall_const, implies_true, false_implies, true_implies, Option.some.injEq, forall_eq', exists_eq_left', reduceCtorEq, Nat.reduceEqDiff, c1, T_X12_in, T_X12_ones, T_X11_within, T_X11_bit, T_X11_isIn, T_X11_oneIfIn, T_J6_bitCount_0f7a4, h161, show ¬ (0 : Int32) = 2 by decide]
      exact ⟨fun y => hq0 (Or.inl y), fun y => turn_go g23 j23 i23 ha hb hab (ch71_go ((tnH_sh h 23 a b).x hl) ha hb hab (hq1 y (fun w => absurd w.1 (by decide))))⟩
    · have e : t1P h a b 1 = tnH h 24 a b := (if_neg (by decide)).trans (if_neg (by decide))
      rw [e] at hq1
      simp only [c_X3_changePair_6, lx_pI, lx_wI, lx_t hl, lx_k hl, lx_r hl, lx_l hl, i_push, i_ild, i_ald, i_ist, i_ast, i_inc, i_bin, i_un, i_divs, i_i2l, i_lshl, i_lor, i_dup, i_dup2, i_pop, i_if, i_cmp, i_nul, i_vret, i_iret, i_zret, i_aret, i_keep, keep, lget, lset, ent, i_getI, i_getJ, i_getR, i_getN, i_putI, i_putZ, i_putJ, i_putR, i_iald, i_bald, i_alen, i_aald, i_iast, i_bast, i_aast, i_new, i_newa, i_anew, i_oini, i_callS, i_callV, i_callI, popn, sh4, i_sw, swP, i_copy, i_binS, List.map, Option.toList_none, Option.toList_some, List.append, List.nil_append, List.cons_append, List.length_cons, List.length_nil, List.replicate, Nat.sub_self, Nat.reduceSub, Nat.reduceAdd, hK_pX, hL_pX, hI_pX, hR_pX, hJ_pX, hT_pX, hS_pX, hK_pR, hL_pR, hI_pR, hR_pR, hJ_pR, hT_pR, hS_pR, hK_pJ, hL_pJ, hI_pJ, hR_pJ, hJ_pJ, hT_pJ, hS_pJ, hK_wI, hL_wI, hI_wI, hR_wI, hJ_wI, hT_wI, hS_wI, eq_self, and_true, true_and, and_false, false_and, or_true, true_or, or_false, false_or, if_true, if_false, not_true_eq_false, not_false_eq_true, forall_const, implies_true, false_implies, true_implies, Option.some.injEq, forall_eq', exists_eq_left', reduceCtorEq, Nat.reduceEqDiff, c1, T_X12_in, T_X12_ones, T_X11_within, T_X11_bit, T_X11_isIn, T_X11_oneIfIn, T_J6_bitCount_0f7a4, h161, show ¬ (1 : Int32) = 2 by decide, show ¬ (1 : Int32) = 0 by decide]
      exact ⟨fun y => hq0 (Or.inl y), fun y => turn_go g24 j24 i24 ha hb hab (ch71_go ((tnH_sh h 24 a b).x hl) ha hb hab (hq1 y (fun w => absurd w.1 (by decide))))⟩
    · have e : t1P h a b 2 = pI h 16 1 (nI np + 1) := (if_pos rfl).trans (by rw [h161])
      rw [e] at hq1
      by_cases y : (2 : Int32) = how
      · simp only [c_X3_changePair_6, lx_pI, lx_wI, lx_t hl, lx_k hl, lx_r hl, lx_l hl, i_push, i_ild, i_ald, i_ist, i_ast, i_inc, i_bin, i_un, i_divs, i_i2l, i_lshl, i_lor, i_dup, i_dup2, i_pop, i_if, i_cmp, i_nul, i_vret, i_iret, i_zret, i_aret, i_keep, keep, lget, lset, ent, i_getI, i_getJ, i_getR, i_getN, i_putI, i_putZ, i_putJ, i_putR, i_iald, i_bald, i_alen, i_aald, i_iast, i_bast, i_aast, i_new, i_newa, i_anew, i_oini, i_callS, i_callV, i_callI, popn, sh4, i_sw, swP, i_copy, i_binS, List.map, Option.toList_none, Option.toList_some, List.append, List.nil_append, List.cons_append, List.length_cons, List.length_nil, List.replicate, Nat.sub_self, Nat.reduceSub, Nat.reduceAdd, hK_pX, hL_pX, hI_pX, hR_pX, hJ_pX, hT_pX, hS_pX, hK_pR, hL_pR, hI_pR, hR_pR, hJ_pR, hT_pR, hS_pR, hK_pJ, hL_pJ, hI_pJ, hR_pJ, hJ_pJ, hT_pJ, hS_pJ, hK_wI, hL_wI, hI_wI, hR_wI, hJ_wI, hT_wI, hS_wI, eq_self, and_true, true_and, and_false, false_and, or_true, true_or, or_false, false_or, if_true, if_false, not_true_eq_false, not_false_eq_true, forall_const, implies_true, false_implies, true_implies, Option.some.injEq, forall_eq', exists_eq_left', reduceCtorEq, Nat.reduceEqDiff, c1, T_X12_in, T_X12_ones, T_X11_within, T_X11_bit, T_X11_isIn, T_X11_oneIfIn, T_J6_bitCount_0f7a4, y]
        exact hq0 (Or.inl y)
      · have y' : ¬ how = 2 := fun w => y w.symm
        by_cases n20 : np < 20
        · have hq2 := hq1 y (fun w => by omega)
          have e2 : t2P (pI h 16 1 (nI np + 1)) a b how = if how = 0 then tnH (pI h 16 1 (nI np + 1)) 23 a b else tnH (pI h 16 1 (nI np + 1)) 24 a b := if_neg y'
          rw [e2] at hq2
          simp only [c_X3_changePair_6, lx_pI, lx_wI, lx_t hl, lx_k hl, lx_r hl, lx_l hl, i_push, i_ild, i_ald, i_ist, i_ast, i_inc, i_bin, i_un, i_divs, i_i2l, i_lshl, i_lor, i_dup, i_dup2, i_pop, i_if, i_cmp, i_nul, i_vret, i_iret, i_zret, i_aret, i_keep, keep, lget, lset, ent, i_getI, i_getJ, i_getR, i_getN, i_putI, i_putZ, i_putJ, i_putR, i_iald, i_bald, i_alen, i_aald, i_iast, i_bast, i_aast, i_new, i_newa, i_anew, i_oini, i_callS, i_callV, i_callI, popn, sh4, i_sw, swP, i_copy, i_binS, List.map, Option.toList_none, Option.toList_some, List.append, List.nil_append, List.cons_append, List.length_cons, List.length_nil, List.replicate, Nat.sub_self, Nat.reduceSub, Nat.reduceAdd, hK_pX, hL_pX, hI_pX, hR_pX, hJ_pX, hT_pX, hS_pX, hK_pR, hL_pR, hI_pR, hR_pR, hJ_pR, hT_pR, hS_pR, hK_pJ, hL_pJ, hI_pJ, hR_pJ, hJ_pJ, hT_pJ, hS_pJ, hK_wI, hL_wI, hI_wI, hR_wI, hJ_wI, hT_wI, hS_wI, eq_self, and_true, true_and, and_false, false_and, or_true, true_or, or_false, false_or, if_true, if_false, not_true_eq_false, not_false_eq_true, forall_const, implies_true, false_implies, true_implies, Option.some.injEq, forall_eq', exists_eq_left', reduceCtorEq, Nat.reduceEqDiff, c1, T_X12_in, T_X12_ones, T_X11_within, T_X11_bit, T_X11_isIn, T_X11_oneIfIn, T_J6_bitCount_0f7a4, h161, y, y', hlt, n20]
          refine ⟨fun w => ?_, fun w => ?_⟩
          · rw [if_pos w] at hq2
            exact turn_go (h := pI h 16 1 (nI np + 1)) (by rw [hT_pX]; exact g23) (by rw [hK_pX]; exact j23) (by rw [hL_pX]; exact i23) ha hb hab (c109_go hq2)
          · rw [if_neg w] at hq2
            exact turn_go (h := pI h 16 1 (nI np + 1)) (by rw [hT_pX]; exact g24) (by rw [hK_pX]; exact j24) (by rw [hL_pX]; exact i24) ha hb hab (c109_go hq2)
        · simp only [c_X3_changePair_6, lx_pI, lx_wI, lx_t hl, lx_k hl, lx_r hl, lx_l hl, i_push, i_ild, i_ald, i_ist, i_ast, i_inc, i_bin, i_un, i_divs, i_i2l, i_lshl, i_lor, i_dup, i_dup2, i_pop, i_if, i_cmp, i_nul, i_vret, i_iret, i_zret, i_aret, i_keep, keep, lget, lset, ent, i_getI, i_getJ, i_getR, i_getN, i_putI, i_putZ, i_putJ, i_putR, i_iald, i_bald, i_alen, i_aald, i_iast, i_bast, i_aast, i_new, i_newa, i_anew, i_oini, i_callS, i_callV, i_callI, popn, sh4, i_sw, swP, i_copy, i_binS, List.map, Option.toList_none, Option.toList_some, List.append, List.nil_append, List.cons_append, List.length_cons, List.length_nil, List.replicate, Nat.sub_self, Nat.reduceSub, Nat.reduceAdd, hK_pX, hL_pX, hI_pX, hR_pX, hJ_pX, hT_pX, hS_pX, hK_pR, hL_pR, hI_pR, hR_pR, hJ_pR, hT_pR, hS_pR, hK_pJ, hL_pJ, hI_pJ, hR_pJ, hJ_pJ, hT_pJ, hS_pJ, hK_wI, hL_wI, hI_wI, hR_wI, hJ_wI, hT_wI, hS_wI, eq_self, and_true, true_and, and_false, false_and, or_true, true_or, or_false, false_or, if_true, if_false, not_true_eq_false, not_false_eq_true, forall_const, implies_true, false_implies, true_implies, Option.some.injEq, forall_eq', exists_eq_left', reduceCtorEq, Nat.reduceEqDiff, c1, T_X12_in, T_X12_ones, T_X11_within, T_X11_bit, T_X11_isIn, T_X11_oneIfIn, T_J6_bitCount_0f7a4, h161, y, hlt, n20]
          exact hq0 (Or.inr ⟨rfl, by omega⟩)
  simp only [b_X3_changePair_0, lx_pI, lx_wI, lx_t hl, lx_k hl, lx_r hl, lx_l hl, i_push, i_ild, i_ald, i_ist, i_ast, i_inc, i_bin, i_un, i_divs, i_i2l, i_lshl, i_lor, i_dup, i_dup2, i_pop, i_if, i_cmp, i_nul, i_vret, i_iret, i_zret, i_aret, i_keep, keep, lget, lset, ent, i_getI, i_getJ, i_getR, i_getN, i_putI, i_putZ, i_putJ, i_putR, i_iald, i_bald, i_alen, i_aald, i_iast, i_bast, i_aast, i_new, i_newa, i_anew, i_oini, i_callS, i_callV, i_callI, popn, sh4, i_sw, swP, i_copy, i_binS, List.map, Option.toList_none, Option.toList_some, List.append, List.nil_append, List.cons_append, List.length_cons, List.length_nil, List.replicate, Nat.sub_self, Nat.reduceSub, Nat.reduceAdd, hK_pX, hL_pX, hI_pX, hR_pX, hJ_pX, hT_pX, hS_pX, hK_pR, hL_pR, hI_pR, hR_pR, hJ_pR, hT_pR, hS_pR, hK_pJ, hL_pJ, hI_pJ, hR_pJ, hJ_pJ, hT_pJ, hS_pJ, hK_wI, hL_wI, hI_wI, hR_wI, hJ_wI, hT_wI, hS_wI, eq_self, and_true, true_and, and_false, false_and, or_true, true_or, or_false, false_or, if_true, if_false, not_true_eq_false, not_false_eq_true, forall_const, implies_true, false_implies, true_implies, Option.some.injEq, forall_eq', exists_eq_left', reduceCtorEq, Nat.reduceEqDiff, c1, T_X12_in, T_X12_ones, T_X11_within, T_X11_bit, T_X11_isIn, T_X11_oneIfIn, T_J6_bitCount_0f7a4]
  exact how_go hl ha hb h6
def L_X11_pair : List UInt8 := [42, 180, 0, 24, 180, 0, 99, 58, 4, 25, 4, 27, 182, 0, 108, 153, 0, 26, 25, 4, 28, 182, 0, 108, 153, 0, 17, 27, 28, 159, 0, 12, 29, 3, 5, 184, 0, 85, 154, 0, 5, 3, 172, 25, 4, 27, 28, 29, 182, 0, 127, 172]
theorem Lc_X11_pair : MX11_pair.2.1 = ⟨L_X11_pair.toArray⟩ := rfl
theorem D_X11_pair_0 : dseq MX11_pair.2.1 0 [(.aload_n 0, 1), (.getfield 24, 3), (.getfield 99, 3), (.astore 4, 2), (.aload 4, 2), (.iload_n 1, 1), (.invokevirtual 108, 3), (.ifCond .eq 26, 3), (.aload 4, 2), (.iload_n 2, 1), (.invokevirtual 108, 3), (.ifCond .eq 17, 3), (.iload_n 1, 1), (.iload_n 2, 1), (.if_icmp .eq 12, 3), (.iload_n 3, 1), (.iconst 0, 1), (.iconst 2, 1), (.invokestatic 85, 3), (.ifCond .ne 5, 3), (.iconst 0, 1), (.ireturn, 1)] := dq Lc_X11_pair 0 _ (by decide +kernel)
theorem D_X11_pair_41 : dseq MX11_pair.2.1 41 [(.iconst 0, 1), (.ireturn, 1)] := dq Lc_X11_pair 41 _ (by decide +kernel)
theorem D_X11_pair_43 : dseq MX11_pair.2.1 43 [(.aload 4, 2), (.iload_n 1, 1), (.iload_n 2, 1), (.iload_n 3, 1), (.invokevirtual 127, 3), (.ireturn, 1)] := dq Lc_X11_pair 43 _ (by decide +kernel)
def c_X11_pair_24 (Q : Option Value → Hp → Prop) : Kt := i_if (fun x => x = 0) (i_push (.int 0) (i_zret Q)) (i_ild 1 (i_ild 2 (i_cmp (fun x y => x = y) (i_push (.int 0) (i_zret Q)) (i_ild 3 (i_push (.int 0) (i_push (.int 2) (i_callS 3 T_X11_within (i_if (fun x => x = 0) (i_push (.int 0) (i_zret Q)) (i_ald 4 (i_ild 1 (i_ild 2 (i_ild 3 (i_callV 3 3 T_X3_changePair (i_zret Q))))))))))))))
def c_X11_pair_15 (Q : Option Value → Hp → Prop) : Kt := i_if (fun x => x = 0) (i_push (.int 0) (i_zret Q)) (i_ald 4 (i_ild 2 (i_callV 3 1 T_X3_has (c_X11_pair_24 Q))))
def b_X11_pair_0 (Q : Option Value → Hp → Prop) : Kt := i_ald 0 (i_getR 11 1 (i_getR 8 1 (i_ast 4 (i_ald 4 (i_ild 1 (i_callV 3 1 T_X3_has (c_X11_pair_15 Q)))))))
set_option maxRecDepth 100000 in
theorem s_X11_pair_0 (Q : Option Value → Hp → Prop) : ∀ A st h, b_X11_pair_0 Q A st h → wp 3 MX11_pair Q 0 A st h := (q1 (s_aldn (n := 0) (i := 0) rfl) D_X11_pair_0 fun D => (qC fl_X11_24 rfl D fun D => (qC fl_X11_99 rfl D fun D => (qL s_ast (by decide) D fun D => (q1 s_ald D fun D => (q1 (s_ildn (n := 1) (i := 1) rfl) D fun D => (qX (s_callV kX3 rfl ok_X3_has mo_X3_has (ch_3_6_ok.2.2.2.2.2.2.2.2.2.2.2.1.1 rfl) (ch_3_6_ok.2.2.2.2.2.2.2.2.2.2.2.2.1.1 rfl) (ch_3_6_ok.2.2.2.2.2.2.2.2.2.2.2.2.2.1.1 rfl)) rfl (by decide) D fun D => (qB s_ifeq 41 (by decide) D (q1 (s_iconst (n := 0) (v := 0) (by decide)) D_X11_pair_41 fun D => (qZ rfl D)) fun D => (q1 s_ald D fun D => (q1 (s_ildn (n := 2) (i := 2) rfl) D fun D => (qX (s_callV kX3 rfl ok_X3_has mo_X3_has (ch_3_6_ok.2.2.2.2.2.2.2.2.2.2.2.1.1 rfl) (ch_3_6_ok.2.2.2.2.2.2.2.2.2.2.2.2.1.1 rfl) (ch_3_6_ok.2.2.2.2.2.2.2.2.2.2.2.2.2.1.1 rfl)) rfl (by decide) D fun D => (qB s_ifeq 41 (by decide) D (q1 (s_iconst (n := 0) (v := 0) (by decide)) D_X11_pair_41 fun D => (qZ rfl D)) fun D => (q1 (s_ildn (n := 1) (i := 1) rfl) D fun D => (q1 (s_ildn (n := 2) (i := 2) rfl) D fun D => (qB s_cmpeq 41 (by decide) D (q1 (s_iconst (n := 0) (v := 0) (by decide)) D_X11_pair_41 fun D => (qZ rfl D)) fun D => (q1 (s_ildn (n := 3) (i := 3) rfl) D fun D => (q1 (s_iconst (n := 0) (v := 0) (by decide)) D fun D => (q1 (s_iconst (n := 2) (v := 2) (by decide)) D fun D => (qX (s_callS ok_X11_within mo_X11_within (ch_3_5_ok.2.2.2.2.1.1 rfl) (ch_3_5_ok.2.2.2.2.2.1.1 rfl)) rfl (by decide) D fun D => (qBn s_ifne2 43 (by decide) D (q1 s_ald D_X11_pair_43 fun D => (q1 (s_ildn (n := 1) (i := 1) rfl) D fun D => (q1 (s_ildn (n := 2) (i := 2) rfl) D fun D => (q1 (s_ildn (n := 3) (i := 3) rfl) D fun D => (qX (s_callV kX3 rfl ok_X3_changePair mo_X3_changePair (ch_3_7_ok.2.2.2.2.2.2.2.2.2.2.2.1.1 rfl) (ch_3_7_ok.2.2.2.2.2.2.2.2.2.2.2.2.1.1 rfl) (ch_3_7_ok.2.2.2.2.2.2.2.2.2.2.2.2.2.1.1 rfl)) rfl (by decide) D fun D => (qZ rfl D)))))) fun D => (q1 (s_iconst (n := 0) (v := 0) (by decide)) D fun D => (qZ rfl D))))))))))))))))))))))
def T_X11_pair : Tr := fun av h Q => c1 5 av ∧ b_X11_pair_0 Q (ent 5 av) [] h
theorem ok_X11_pair : ctr 3 MX11_pair T_X11_pair := ctr_of pn_X11 wc_X11_pair (fun av h Q hT => ⟨c1_ok hT.1, s_X11_pair_0 Q _ _ _ hT.2⟩)

