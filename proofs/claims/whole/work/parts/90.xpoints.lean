/-! ===== the coupling: rules, people, the latest evening; the class: points ===== -/
/-- where rules lie: q their object, q + 1 .. q + 7 their rows -/
def LayR (h : Hp) (q : Nat) : Prop := (q = 4 ∨ 90 ≤ q) ∧ q + 7 < hT h ∧ hK h q = 7 ∧ hK h (q + 1) = 14 ∧ hK h (q + 2) = 14 ∧ hK h (q + 3) = 14 ∧ hK h (q + 4) = 14 ∧ hK h (q + 5) = 15 ∧ hK h (q + 6) = 14 ∧ hK h (q + 7) = 14 ∧ hR h q 1 = some (q + 1) ∧ hR h q 2 = some (q + 2) ∧ hR h q 3 = some (q + 3) ∧ hR h q 4 = some (q + 4) ∧ hR h q 5 = some (q + 5) ∧ hR h q 6 = some (q + 6) ∧ hR h q 7 = some (q + 7) ∧ hL h (q + 1) = 16 ∧ hL h (q + 2) = 64 ∧ hL h (q + 3) = 64 ∧ hL h (q + 4) = 64 ∧ hL h (q + 5) = 64 ∧ hL h (q + 6) = 16 ∧ hL h (q + 7) = 16
theorem LayR.f {h : Hp} {q : Nat} (hn : LayR h q) : q < hT h ∧ q + 1 < hT h ∧ q + 2 < hT h ∧ q + 3 < hT h ∧ q + 4 < hT h ∧ q + 5 < hT h ∧ q + 6 < hT h ∧ q + 7 < hT h ∧ hK h q = 7 ∧ hK h (q + 1) = 14 ∧ hK h (q + 2) = 14 ∧ hK h (q + 3) = 14 ∧ hK h (q + 4) = 14 ∧ hK h (q + 5) = 15 ∧ hK h (q + 6) = 14 ∧ hK h (q + 7) = 14 ∧ hR h q 1 = some (q + 1) ∧ hR h q 2 = some (q + 2) ∧ hR h q 3 = some (q + 3) ∧ hR h q 4 = some (q + 4) ∧ hR h q 5 = some (q + 5) ∧ hR h q 6 = some (q + 6) ∧ hR h q 7 = some (q + 7) ∧ hL h (q + 1) = 16 ∧ hL h (q + 2) = 64 ∧ hL h (q + 3) = 64 ∧ hL h (q + 4) = 64 ∧ hL h (q + 5) = 64 ∧ hL h (q + 6) = 16 ∧ hL h (q + 7) = 16 := by
  obtain ⟨_, a, c⟩ := hn
  exact ⟨by omega, by omega, by omega, by omega, by omega, by omega, by omega, by omega, c⟩
/-- a test of the class is the reference's -/
def tsC (f : Mem) (q : Nat) (J : Mem) (x : Nat) : Prop := ∃ w, w ≤ 9 ∧ (J 71 x = nI w ∧ f (q + 5) x = 0 ∨ J 71 x = nI (w + 16) ∧ f (q + 5) x = 1) ∧ f (q + 2) x = nI (w + 262) ∧ f (q + 3) x = J 72 x ∧ f (q + 4) x = J 73 x
/-- the class's lines are the reference's -/
def RC (f : Mem) (q : Nat) (J : Mem) (Ln : Nat) : Prop := Ln ≤ 16 ∧ f q 0 = nI Ln ∧ J 69 0 = nI Ln ∧ ∀ l, l < Ln → (∃ T, T ≤ 4 ∧ f (q + 1) l = nI T ∧ J 70 l = nI T ∧ ∀ t, t < T → tsC f q J (4 * l + t)) ∧ (∃ a, a ≤ 2 ∧ J 74 l = nI a ∧ f (q + 6) l = nI (a + 259)) ∧ (J 74 l = 0 → f (q + 7) l = J 75 l)
theorem RC.lin {f : Mem} {q : Nat} {J : Mem} {Ln : Nat} (h : RC f q J Ln) : linOk J Ln := fun l hl => by
  obtain ⟨⟨T, a, _, b, _⟩, _⟩ := h.2.2.2 l hl
  exact ⟨T, a, b⟩
/-- the class's people (object r + 4, rows r + 5 ..) are the reference's -/
def PC (f : Mem) (r : Nat) (J : Mem) (P : Nat) : Prop := P ≤ 24 ∧ f (r + 4) 0 = nI P ∧ J 52 0 = nI P ∧ (∀ p, p < P → f (r + 5) p = J 53 p ∧ f (r + 6) p = J 54 p ∧ f (r + 7) p = J 57 p ∧ f (r + 8) p = J 58 p ∧ f (r + 9) p = J 59 p ∧ f (r + 10) p = J 60 p ∧ f (r + 11) p = J 62 p ∧ f (r + 12) p = J 63 p ∧ J 55 p = b2i (bt (f (r + 4) 10) p = true) ∧ J 56 p = b2i (bt (f (r + 4) 11) p = true) ∧ J 61 p = b2i (bt (f (r + 4) 12) p = true)) ∧ (∀ p, P ≤ p → bt (f (r + 4) 10) p = false ∧ bt (f (r + 4) 11) p = false ∧ bt (f (r + 4) 12) p = false) ∧ ∀ p, P ≤ p → p < 24 → f (r + 7) p = 0 ∧ f (r + 8) p = 0 ∧ f (r + 9) p = 0 ∧ f (r + 11) p = 0 ∧ f (r + 12) p = 0 ∧ J 62 p = 0 ∧ J 63 p = 0
/-- the latest evening, as far as a test asks it -/
def LtC (h : Hp) (J : Mem) (E : Nat) : Prop := E ≤ 400 ∧ (E = 0 → hR h 3 4 = none) ∧ ∀ e, E = e + 1 → ∃ n, hR h 3 4 = some n ∧ n < hT h ∧ hK h n = 1 ∧ hI h n 1 = nI e ∧ hI h n 4 = J 77 (10 * e + 1)
theorem day_go (h : Hp) (hl : LayX h) (J : Mem) (E : Nat) (hE : LtC h J E) (Q : Option Value → Hp → Prop) (hq : Q (some (.int (nI (E % 7)))) h) : T_X8_dayOfWeek [.ref 3] h Q := by
  obtain ⟨h400, h0, hs⟩ := hE
  cases E with
  | zero =>
    have hn := h0 rfl
    unfold T_X8_dayOfWeek
    simp only [b_X8_dayOfWeek_0, lx_pI, lx_wI, lx_t hl, lx_k hl, lx_r hl, lx_l hl, i_push, i_ild, i_ald, i_ist, i_ast, i_inc, i_bin, i_un, i_divs, i_i2l, i_lshl, i_lor, i_dup, i_dup2, i_pop, i_if, i_cmp, i_nul, i_vret, i_iret, i_zret, i_aret, i_keep, keep, lget, lset, ent, i_getI, i_getJ, i_getR, i_getN, i_putI, i_putZ, i_putJ, i_putR, i_iald, i_bald, i_alen, i_aald, i_iast, i_bast, i_aast, i_new, i_newa, i_anew, i_oini, i_callS, i_callV, i_callI, popn, sh4, i_sw, swP, i_copy, i_binS, List.map, Option.toList_none, Option.toList_some, List.append, List.nil_append, List.cons_append, List.length_cons, List.length_nil, List.replicate, Nat.sub_self, Nat.reduceSub, Nat.reduceAdd, hK_pI, hL_pI, hI_pI, hR_pI, hJ_pI, hT_pI, hS_pI, hK_pR, hL_pR, hI_pR, hR_pR, hJ_pR, hT_pR, hS_pR, hK_pJ, hL_pJ, hI_pJ, hR_pJ, hJ_pJ, hT_pJ, hS_pJ, hK_wI, hL_wI, hI_wI, hR_wI, hJ_wI, hT_wI, hS_wI, eq_self, and_true, true_and, and_false, false_and, or_true, true_or, or_false, false_or, if_true, if_false, not_true_eq_false, not_false_eq_true, forall_const, implies_true, false_implies, true_implies, Option.some.injEq, forall_eq', exists_eq_left', reduceCtorEq, Nat.reduceEqDiff, c1, T_X12_in, T_X12_ones, T_X11_within, T_X11_bit, T_X11_isIn, T_X11_oneIfIn, T_J6_bitCount_0f7a4, hn]
    exact hq
  | succ e =>
    obtain ⟨n, hn, a, b, c, _⟩ := hs e rfl
    have e7 : nI (e + 1) - nI (e + 1) / 7 * 7 = nI ((e + 1) % 7) := pk_rem (by omega) (by decide) (by decide)
    have h7 : ¬ (7 : Int32) = 0 := by decide
    unfold T_X8_dayOfWeek
    simp only [b_X8_dayOfWeek_0, lx_pI, lx_wI, lx_t hl, lx_k hl, lx_r hl, lx_l hl, i_push, i_ild, i_ald, i_ist, i_ast, i_inc, i_bin, i_un, i_divs, i_i2l, i_lshl, i_lor, i_dup, i_dup2, i_pop, i_if, i_cmp, i_nul, i_vret, i_iret, i_zret, i_aret, i_keep, keep, lget, lset, ent, i_getI, i_getJ, i_getR, i_getN, i_putI, i_putZ, i_putJ, i_putR, i_iald, i_bald, i_alen, i_aald, i_iast, i_bast, i_aast, i_new, i_newa, i_anew, i_oini, i_callS, i_callV, i_callI, popn, sh4, i_sw, swP, i_copy, i_binS, List.map, Option.toList_none, Option.toList_some, List.append, List.nil_append, List.cons_append, List.length_cons, List.length_nil, List.replicate, Nat.sub_self, Nat.reduceSub, Nat.reduceAdd, hK_pI, hL_pI, hI_pI, hR_pI, hJ_pI, hT_pI, hS_pI, hK_pR, hL_pR, hI_pR, hR_pR, hJ_pR, hT_pR, hS_pR, hK_pJ, hL_pJ, hI_pJ, hR_pJ, hJ_pJ, hT_pJ, hS_pJ, hK_wI, hL_wI, hI_wI, hR_wI, hJ_wI, hT_wI, hS_wI, eq_self, and_true, true_and, and_false, false_and, or_true, true_or, or_false, false_or, if_true, if_false, not_true_eq_false, not_false_eq_true, forall_const, implies_true, false_implies, true_implies, Option.some.injEq, forall_eq', exists_eq_left', reduceCtorEq, Nat.reduceEqDiff, c1, T_X12_in, T_X12_ones, T_X11_within, T_X11_bit, T_X11_isIn, T_X11_oneIfIn, T_J6_bitCount_0f7a4, hn, a, b, c, nI_1, e7, h7]
    exact hq
theorem eve_go (h : Hp) (hl : LayX h) (J : Mem) (E : Nat) (hE : LtC h J E) (Q : Option Value → Hp → Prop) (hq : Q (some (.int (nI E))) h) : T_X8_evenings [.ref 3] h Q := by
  obtain ⟨h400, h0, hs⟩ := hE
  cases E with
  | zero =>
    have hn := h0 rfl
    unfold T_X8_evenings
    simp only [b_X8_evenings_0, lx_pI, lx_wI, lx_t hl, lx_k hl, lx_r hl, lx_l hl, i_push, i_ild, i_ald, i_ist, i_ast, i_inc, i_bin, i_un, i_divs, i_i2l, i_lshl, i_lor, i_dup, i_dup2, i_pop, i_if, i_cmp, i_nul, i_vret, i_iret, i_zret, i_aret, i_keep, keep, lget, lset, ent, i_getI, i_getJ, i_getR, i_getN, i_putI, i_putZ, i_putJ, i_putR, i_iald, i_bald, i_alen, i_aald, i_iast, i_bast, i_aast, i_new, i_newa, i_anew, i_oini, i_callS, i_callV, i_callI, popn, sh4, i_sw, swP, i_copy, i_binS, List.map, Option.toList_none, Option.toList_some, List.append, List.nil_append, List.cons_append, List.length_cons, List.length_nil, List.replicate, Nat.sub_self, Nat.reduceSub, Nat.reduceAdd, hK_pI, hL_pI, hI_pI, hR_pI, hJ_pI, hT_pI, hS_pI, hK_pR, hL_pR, hI_pR, hR_pR, hJ_pR, hT_pR, hS_pR, hK_pJ, hL_pJ, hI_pJ, hR_pJ, hJ_pJ, hT_pJ, hS_pJ, hK_wI, hL_wI, hI_wI, hR_wI, hJ_wI, hT_wI, hS_wI, eq_self, and_true, true_and, and_false, false_and, or_true, true_or, or_false, false_or, if_true, if_false, not_true_eq_false, not_false_eq_true, forall_const, implies_true, false_implies, true_implies, Option.some.injEq, forall_eq', exists_eq_left', reduceCtorEq, Nat.reduceEqDiff, c1, T_X12_in, T_X12_ones, T_X11_within, T_X11_bit, T_X11_isIn, T_X11_oneIfIn, T_J6_bitCount_0f7a4, hn]
    exact hq
  | succ e =>
    obtain ⟨n, hn, a, b, c, _⟩ := hs e rfl
    unfold T_X8_evenings
    simp only [b_X8_evenings_0, lx_pI, lx_wI, lx_t hl, lx_k hl, lx_r hl, lx_l hl, i_push, i_ild, i_ald, i_ist, i_ast, i_inc, i_bin, i_un, i_divs, i_i2l, i_lshl, i_lor, i_dup, i_dup2, i_pop, i_if, i_cmp, i_nul, i_vret, i_iret, i_zret, i_aret, i_keep, keep, lget, lset, ent, i_getI, i_getJ, i_getR, i_getN, i_putI, i_putZ, i_putJ, i_putR, i_iald, i_bald, i_alen, i_aald, i_iast, i_bast, i_aast, i_new, i_newa, i_anew, i_oini, i_callS, i_callV, i_callI, popn, sh4, i_sw, swP, i_copy, i_binS, List.map, Option.toList_none, Option.toList_some, List.append, List.nil_append, List.cons_append, List.length_cons, List.length_nil, List.replicate, Nat.sub_self, Nat.reduceSub, Nat.reduceAdd, hK_pI, hL_pI, hI_pI, hR_pI, hJ_pI, hT_pI, hS_pI, hK_pR, hL_pR, hI_pR, hR_pR, hJ_pR, hT_pR, hS_pR, hK_pJ, hL_pJ, hI_pJ, hR_pJ, hJ_pJ, hT_pJ, hS_pJ, hK_wI, hL_wI, hI_wI, hR_wI, hJ_wI, hT_wI, hS_wI, eq_self, and_true, true_and, and_false, false_and, or_true, true_or, or_false, false_or, if_true, if_false, not_true_eq_false, not_false_eq_true, forall_const, implies_true, false_implies, true_implies, Option.some.injEq, forall_eq', exists_eq_left', reduceCtorEq, Nat.reduceEqDiff, c1, T_X12_in, T_X12_ones, T_X11_within, T_X11_bit, T_X11_isIn, T_X11_oneIfIn, T_J6_bitCount_0f7a4, hn, a, b, c, nI_1]
    exact hq
theorem nI_inj {a b : Nat} (ha : a < 2147483648) (hb : b < 2147483648) : nI a = nI b ↔ a = b := ⟨fun e => by
  have := congrArg Int32.toNatClampNeg e
  rw [cl_nI ha, cl_nI hb] at this
  exact this, fun e => by rw [e]⟩
theorem askF_n (I : Mem) (E p w : Nat) (cold : Int32) (hw : w ≤ 9) : askF I E p (nI w) cold = if w = 0 then I 53 p else if w = 1 then I 54 p else if w = 2 then I 57 p else if w = 3 then I 58 p else if w = 4 then I 59 p else if w = 5 then cold else if w = 6 then nI (E % 7) else if w = 7 then I 56 p else if w = 8 then I 55 p else if 0 < E ∧ bt (I 77 (10 * (E - 1) + 1)) p = true then 1 else 0 := by
  have h0 : nI w = 0 ↔ w = 0 := nI_inj (b := 0) (by omega) (by decide)
  have h1 : nI w = 1 ↔ w = 1 := nI_inj (b := 1) (by omega) (by decide)
  have h2 : nI w = 2 ↔ w = 2 := nI_inj (b := 2) (by omega) (by decide)
  have h3 : nI w = 3 ↔ w = 3 := nI_inj (b := 3) (by omega) (by decide)
  have h4 : nI w = 4 ↔ w = 4 := nI_inj (b := 4) (by omega) (by decide)
  have h5 : nI w = 5 ↔ w = 5 := nI_inj (b := 5) (by omega) (by decide)
  have h6 : nI w = 6 ↔ w = 6 := nI_inj (b := 6) (by omega) (by decide)
  have h7 : nI w = 7 ↔ w = 7 := nI_inj (b := 7) (by omega) (by decide)
  have h8 : nI w = 8 ↔ w = 8 := nI_inj (b := 8) (by omega) (by decide)
  unfold askF
  simp only [h0, h1, h2, h3, h4, h5, h6, h7, h8]
set_option maxRecDepth 100000 in
set_option maxHeartbeats 400000 in
theorem val_go (h : Hp) (hl : LayX h) (J : Mem) (P E k w : Nat) (cold : Int32) (hc : cold = 0 ∨ cold = 1) (hp : PC (hI h) 12 J P) (hE : LtC h J E) (hk : k < P) (hw : w ≤ 9) (Q : Option Value → Hp → Prop) (hq : Q (some (.int (askF J E k (nI w) cold))) h) : T_X8_valueOf [.ref 3, .int (nI (w + 262)), .int (nI k), .int cold] h Q := by
  obtain ⟨hP, -, -, hpp, -, -⟩ := hp
  obtain ⟨p1, p2, p3, p4, p5, -, -, -, p6, p7, -⟩ := hpp k hk
  simp only [Nat.reduceAdd] at p1 p2 p3 p4 p5 p6 p7
  have h0 : nI (w + 262) = 262 ↔ w = 0 := (nI_inj (b := 262) (by omega) (by decide)).trans (by omega)
  have h1 : nI (w + 262) = 263 ↔ w = 1 := (nI_inj (b := 263) (by omega) (by decide)).trans (by omega)
  have h2 : nI (w + 262) = 264 ↔ w = 2 := (nI_inj (b := 264) (by omega) (by decide)).trans (by omega)
  have h3 : nI (w + 262) = 265 ↔ w = 3 := (nI_inj (b := 265) (by omega) (by decide)).trans (by omega)
  have h4 : nI (w + 262) = 266 ↔ w = 4 := (nI_inj (b := 266) (by omega) (by decide)).trans (by omega)
  have h5 : nI (w + 262) = 267 ↔ w = 5 := (nI_inj (b := 267) (by omega) (by decide)).trans (by omega)
  have h6 : nI (w + 262) = 268 ↔ w = 6 := (nI_inj (b := 268) (by omega) (by decide)).trans (by omega)
  have h7 : nI (w + 262) = 269 ↔ w = 7 := (nI_inj (b := 269) (by omega) (by decide)).trans (by omega)
  have h8 : nI (w + 262) = 270 ↔ w = 8 := (nI_inj (b := 270) (by omega) (by decide)).trans (by omega)
  have h9 : nI (w + 262) = 271 ↔ w = 9 := (nI_inj (b := 271) (by omega) (by decide)).trans (by omega)
  have hday := day_go h hl J E hE
  rw [askF_n J E k w cold hw] at hq
  unfold T_X8_valueOf
  simp only [b_X8_valueOf_0, lx_pI, lx_wI, lx_t hl, lx_k hl, lx_r hl, lx_l hl, i_push, i_ild, i_ald, i_ist, i_ast, i_inc, i_bin, i_un, i_divs, i_i2l, i_lshl, i_lor, i_dup, i_dup2, i_pop, i_if, i_cmp, i_nul, i_vret, i_iret, i_zret, i_aret, i_keep, keep, lget, lset, ent, i_getI, i_getJ, i_getR, i_getN, i_putI, i_putZ, i_putJ, i_putR, i_iald, i_bald, i_alen, i_aald, i_iast, i_bast, i_aast, i_new, i_newa, i_anew, i_oini, i_callS, i_callV, i_callI, popn, sh4, i_sw, swP, i_copy, i_binS, List.map, Option.toList_none, Option.toList_some, List.append, List.nil_append, List.cons_append, List.length_cons, List.length_nil, List.replicate, Nat.sub_self, Nat.reduceSub, Nat.reduceAdd, hK_pI, hL_pI, hI_pI, hR_pI, hJ_pI, hT_pI, hS_pI, hK_pR, hL_pR, hI_pR, hR_pR, hJ_pR, hT_pR, hS_pR, hK_pJ, hL_pJ, hI_pJ, hR_pJ, hJ_pJ, hT_pJ, hS_pJ, hK_wI, hL_wI, hI_wI, hR_wI, hJ_wI, hT_wI, hS_wI, eq_self, and_true, true_and, and_false, false_and, or_true, true_or, or_false, false_or, if_true, if_false, not_true_eq_false, not_false_eq_true, forall_const, implies_true, false_implies, true_implies, Option.some.injEq, forall_eq', exists_eq_left', reduceCtorEq, Nat.reduceEqDiff, c1, T_X12_in, T_X12_ones, T_X11_within, T_X11_bit, T_X11_isIn, T_X11_oneIfIn, T_J6_bitCount_0f7a4, cl_nI (show k < 2147483648 by omega), in_nI (show k < 24 by omega) (by decide), h0, h1, h2, h3, h4, h5, h6, h7, h8, h9, p1, p2, p3, p4, p5, sh_1 (hI h 16 11) (show k < 32 by omega), sh_1 (hI h 16 10) (show k < 32 by omega), ← p6, ← p7]
  iterate 5 (refine ⟨fun c => by rw [if_pos c] at hq; exact hq, fun c => ?_⟩; rw [if_neg c] at hq)
  refine ⟨fun c => ?_, fun c => ?_⟩
  · rw [if_pos c] at hq
    rcases hc with z | z
    · exact ⟨fun _ => by rw [z] at hq; exact hq, fun y => absurd z y⟩
    · exact ⟨fun y => by rw [z] at y; exact absurd y (by decide), fun _ => by rw [z] at hq; exact hq⟩
  rw [if_neg c] at hq
  refine ⟨fun c => hday _ (by rw [if_pos c] at hq; exact hq), fun c => ?_⟩
  rw [if_neg c] at hq
  iterate 2 (refine ⟨fun c => by rw [if_pos c] at hq; exact hq, fun c => ?_⟩; rw [if_neg c] at hq)
  refine ⟨fun c => ?_, fun c => absurd (show w = 9 by omega) c⟩
  obtain ⟨h400, h0, hs⟩ := hE
  cases E with
  | zero =>
    have hn := h0 rfl
    rw [if_neg (fun z => absurd z.1 (by omega))] at hq
    simp only [hn, reduceCtorEq, false_implies, implies_true, true_and, true_implies]
    exact hq
  | succ e =>
    obtain ⟨n, hn, a, b, _, d⟩ := hs e rfl
    rw [show 10 * (e + 1 - 1) + 1 = 10 * e + 1 by omega] at hq
    have hv : (if 0 < e + 1 ∧ bt (J 77 (10 * e + 1)) k = true then (1 : Int32) else 0) = b2i (bt (J 77 (10 * e + 1)) k = true) := by
      unfold b2i
      by_cases z : bt (J 77 (10 * e + 1)) k = true
      · rw [if_pos ⟨by omega, z⟩, if_pos z]
      · rw [if_neg (fun y => z y.2), if_neg z]
    rw [hv] at hq
    simp only [hn, a, b, d, i_push, i_ild, i_ald, i_ist, i_ast, i_inc, i_bin, i_un, i_divs, i_i2l, i_lshl, i_lor, i_dup, i_dup2, i_pop, i_if, i_cmp, i_nul, i_vret, i_iret, i_zret, i_aret, i_keep, keep, lget, lset, ent, i_getI, i_getJ, i_getR, i_getN, i_putI, i_putZ, i_putJ, i_putR, i_iald, i_bald, i_alen, i_aald, i_iast, i_bast, i_aast, i_new, i_newa, i_anew, i_oini, i_callS, i_callV, i_callI, popn, sh4, i_sw, swP, i_copy, i_binS, List.map, Option.toList_none, Option.toList_some, List.append, List.nil_append, List.cons_append, List.length_cons, List.length_nil, List.replicate, Nat.sub_self, Nat.reduceSub, Nat.reduceAdd, hK_pI, hL_pI, hI_pI, hR_pI, hJ_pI, hT_pI, hS_pI, hK_pR, hL_pR, hI_pR, hR_pR, hJ_pR, hT_pR, hS_pR, hK_pJ, hL_pJ, hI_pJ, hR_pJ, hJ_pJ, hT_pJ, hS_pJ, hK_wI, hL_wI, hI_wI, hR_wI, hJ_wI, hT_wI, hS_wI, eq_self, and_true, true_and, and_false, false_and, or_true, true_or, or_false, false_or, if_true, if_false, not_true_eq_false, not_false_eq_true, forall_const, implies_true, false_implies, true_implies, Option.some.injEq, forall_eq', exists_eq_left', reduceCtorEq, Nat.reduceEqDiff, c1, T_X12_in, T_X12_ones, T_X11_within, T_X11_bit, T_X11_isIn, T_X11_oneIfIn, T_J6_bitCount_0f7a4, sh_1 (J 77 (10 * e + 1)) (show k < 32 by omega)]
    exact hq
def cmpF (v sg nu : Int32) : Prop := if sg = 60 then v < nu else if sg = 62 then nu < v else v = nu
theorem cmp_go (h : Hp) (v sg nu : Int32) (Q : Option Value → Hp → Prop) (h1 : cmpF v sg nu → Q (some (.int 1)) h) (h0 : ¬ cmpF v sg nu → Q (some (.int 0)) h) : T_X7_compares [.int v, .int sg, .int nu] h Q := by
  unfold cmpF at h1 h0
  unfold T_X7_compares
  simp only [b_X7_compares_0, i_push, i_ild, i_ald, i_ist, i_ast, i_inc, i_bin, i_un, i_divs, i_i2l, i_lshl, i_lor, i_dup, i_dup2, i_pop, i_if, i_cmp, i_nul, i_vret, i_iret, i_zret, i_aret, i_keep, keep, lget, lset, ent, i_getI, i_getJ, i_getR, i_getN, i_putI, i_putZ, i_putJ, i_putR, i_iald, i_bald, i_alen, i_aald, i_iast, i_bast, i_aast, i_new, i_newa, i_anew, i_oini, i_callS, i_callV, i_callI, popn, sh4, i_sw, swP, i_copy, i_binS, List.map, Option.toList_none, Option.toList_some, List.append, List.nil_append, List.cons_append, List.length_cons, List.length_nil, List.replicate, Nat.sub_self, Nat.reduceSub, Nat.reduceAdd, hK_pI, hL_pI, hI_pI, hR_pI, hJ_pI, hT_pI, hS_pI, hK_pR, hL_pR, hI_pR, hR_pR, hJ_pR, hT_pR, hS_pR, hK_pJ, hL_pJ, hI_pJ, hR_pJ, hJ_pJ, hT_pJ, hS_pJ, hK_wI, hL_wI, hI_wI, hR_wI, hJ_wI, hT_wI, hS_wI, eq_self, and_true, true_and, and_false, false_and, or_true, true_or, or_false, false_or, if_true, if_false, not_true_eq_false, not_false_eq_true, forall_const, implies_true, false_implies, true_implies, Option.some.injEq, forall_eq', exists_eq_left', reduceCtorEq, Nat.reduceEqDiff, c1, T_X12_in, T_X12_ones, T_X11_within, T_X11_bit, T_X11_isIn, T_X11_oneIfIn, T_J6_bitCount_0f7a4]
  by_cases c : sg = 60
  · rw [if_pos c] at h1 h0
    exact ⟨fun _ => ⟨fun z => h0 (Int32.not_lt.mpr z), fun z => h1 (Int32.not_le.mp z)⟩, fun z => absurd c z⟩
  · rw [if_neg c] at h1 h0
    refine ⟨fun z => absurd z c, fun _ => ?_⟩
    by_cases c2 : sg = 62
    · rw [if_pos c2] at h1 h0
      exact ⟨fun _ => ⟨fun z => h0 (Int32.not_lt.mpr z), fun z => h1 (Int32.not_le.mp z)⟩, fun z => absurd c2 z⟩
    · rw [if_neg c2] at h1 h0
      refine ⟨fun z => absurd z c2, fun _ => ?_⟩
      first | exact ⟨h1, h0⟩ | exact ⟨h0, h1⟩
theorem w16 : ∀ w, w < 10 → nI w &&& 15 = nI w ∧ nI (w + 16) &&& 15 = nI w ∧ ¬ 15 < nI w ∧ 15 < nI (w + 16) := by decide +kernel
def T_X7_lineHolds : Tr := fun av h Q => match av with
  | [.ref q, .int l, .ref s, .int p, .int cold] => s = 3 ∧ LayX h ∧ LayR h q ∧ (cold = 0 ∨ cold = 1) ∧ ∃ J P E Ln k L T, PC (hI h) 12 J P ∧ LtC h J E ∧ RC (hI h) q J Ln ∧ p = nI k ∧ k < P ∧ l = nI L ∧ L < Ln ∧ J 70 L = nI T ∧ T ≤ 4 ∧ (hldF J E k L T cold → Q (some (.int 1)) h) ∧ (¬ hldF J E k L T cold → Q (some (.int 0)) h)
  | _ => False
def L_X7_lineHolds : List UInt8 := [27, 7, 104, 54, 5, 21, 5, 54, 6, 21, 6, 21, 5, 42, 180, 0, 9, 27, 46, 96, 162, 0, 56, 44, 42, 180, 0, 15, 21, 6, 46, 29, 21, 4, 182, 0, 38, 54, 7, 21, 7, 42, 180, 0, 18, 21, 6, 46, 42, 180, 0, 21, 21, 6, 46, 184, 0, 44, 42, 180, 0, 24, 21, 6, 51, 160, 0, 5, 3, 172, 132, 6, 1, 167, 255, 192, 4, 172]
theorem Lc_X7_lineHolds : MX7_lineHolds.2.1 = ⟨L_X7_lineHolds.toArray⟩ := rfl
theorem D_X7_lineHolds_0 : dseq MX7_lineHolds.2.1 0 [(.iload_n 1, 1), (.iconst 4, 1), (.imul, 1), (.istore 5, 2), (.iload 5, 2), (.istore 6, 2)] := dq Lc_X7_lineHolds 0 _ (by decide +kernel)
theorem D_X7_lineHolds_9 : dseq MX7_lineHolds.2.1 9 [(.iload 6, 2), (.iload 5, 2), (.aload_n 0, 1), (.getfield 9, 3), (.iload_n 1, 1), (.iaload, 1), (.iadd, 1), (.if_icmp .ge 56, 3), (.aload_n 2, 1), (.aload_n 0, 1), (.getfield 15, 3), (.iload 6, 2), (.iaload, 1), (.iload_n 3, 1), (.iload 4, 2), (.invokevirtual 38, 3), (.istore 7, 2), (.iload 7, 2), (.aload_n 0, 1), (.getfield 18, 3), (.iload 6, 2), (.iaload, 1), (.aload_n 0, 1), (.getfield 21, 3), (.iload 6, 2), (.iaload, 1), (.invokestatic 44, 3), (.aload_n 0, 1), (.getfield 24, 3), (.iload 6, 2), (.baload, 1), (.if_icmp .ne 5, 3), (.iconst 0, 1), (.ireturn, 1)] := dq Lc_X7_lineHolds 9 _ (by decide +kernel)
theorem D_X7_lineHolds_76 : dseq MX7_lineHolds.2.1 76 [(.iconst 1, 1), (.ireturn, 1)] := dq Lc_X7_lineHolds 76 _ (by decide +kernel)
theorem D_X7_lineHolds_70 : dseq MX7_lineHolds.2.1 70 [(.iinc 6 1, 3), (.goto (-64), 3)] := dq Lc_X7_lineHolds 70 _ (by decide +kernel)
def c_X7_lineHolds_58 (Q : Option Value → Hp → Prop) : Kt := i_ald 0 (i_getR 7 5 (i_ild 6 (i_bald (i_cmp (fun x y => x = y) (i_push (.int 0) (i_zret Q)) (i_inc 6 1 (i_keep [true, true, true, true, true, true, true, false] (wp 2 MX7_lineHolds Q 9)))))))
def c_X7_lineHolds_37 (Q : Option Value → Hp → Prop) : Kt := i_ist 7 (i_ild 7 (i_ald 0 (i_getR 7 3 (i_ild 6 (i_iald (i_ald 0 (i_getR 7 4 (i_ild 6 (i_iald (i_callS 3 T_X7_compares (c_X7_lineHolds_58 Q)))))))))))
def b_X7_lineHolds_0 (Q : Option Value → Hp → Prop) : Kt := i_ild 1 (i_push (.int 4) (i_bin (fun x y => x * y) (i_ist 5 (i_ild 5 (i_ist 6 (i_keep [true, true, true, true, true, true, true, false] (wp 2 MX7_lineHolds Q 9)))))))
set_option maxRecDepth 100000 in
theorem s_X7_lineHolds_0 (Q : Option Value → Hp → Prop) : ∀ A st h, b_X7_lineHolds_0 Q A st h → wp 2 MX7_lineHolds Q 0 A st h := (q1 (s_ildn (n := 1) (i := 1) rfl) D_X7_lineHolds_0 fun D => (q1 (s_iconst (n := 4) (v := 4) (by decide)) D fun D => (q1 s_mul D fun D => (qL s_ist (by decide) D fun D => (q1 s_ild D fun D => (qL s_ist (by decide) D fun D => (s_keep [true, true, true, true, true, true, true, false] fun _ _ _ h => h)))))))
def b_X7_lineHolds_9 (Q : Option Value → Hp → Prop) : Kt := i_ild 6 (i_ild 5 (i_ald 0 (i_getR 7 1 (i_ild 1 (i_iald (i_bin (fun x y => x + y) (i_cmp (fun x y => y ≤ x) (i_push (.int 1) (i_zret Q)) (i_ald 2 (i_ald 0 (i_getR 7 2 (i_ild 6 (i_iald (i_ild 3 (i_ild 4 (i_callV 8 3 T_X8_valueOf (c_X7_lineHolds_37 Q))))))))))))))))
set_option maxRecDepth 100000 in
theorem s_X7_lineHolds_9 (Q : Option Value → Hp → Prop) : ∀ A st h, b_X7_lineHolds_9 Q A st h → wp 2 MX7_lineHolds Q 9 A st h := (q1 s_ild D_X7_lineHolds_9 fun D => (q1 s_ild D fun D => (q1 (s_aldn (n := 0) (i := 0) rfl) D fun D => (qC fl_X7_9 rfl D fun D => (q1 (s_ildn (n := 1) (i := 1) rfl) D fun D => (q1 s_iald D fun D => (q1 s_add D fun D => (qB s_cmpge 76 (by decide) D (q1 (s_iconst (n := 1) (v := 1) (by decide)) D_X7_lineHolds_76 fun D => (qZ rfl D)) fun D => (q1 (s_aldn (n := 2) (i := 2) rfl) D fun D => (q1 (s_aldn (n := 0) (i := 0) rfl) D fun D => (qC fl_X7_15 rfl D fun D => (q1 s_ild D fun D => (q1 s_iald D fun D => (q1 (s_ildn (n := 3) (i := 3) rfl) D fun D => (q1 s_ild D fun D => (qX (s_callV kX8 rfl ok_X8_valueOf mo_X8_valueOf (ch_3_14_ok.2.2.2.2.2.2.2.2.2.2.2.2.2.1.1 rfl) (ch_3_14_ok.2.2.2.2.2.2.2.2.2.2.2.2.2.2.1.1 rfl) (ch_3_14_ok.2.2.2.2.2.2.2.2.2.2.2.2.2.2.2.1.1 rfl)) rfl (by decide) D fun D => (qL s_ist (by decide) D fun D => (q1 s_ild D fun D => (q1 (s_aldn (n := 0) (i := 0) rfl) D fun D => (qC fl_X7_18 rfl D fun D => (q1 s_ild D fun D => (q1 s_iald D fun D => (q1 (s_aldn (n := 0) (i := 0) rfl) D fun D => (qC fl_X7_21 rfl D fun D => (q1 s_ild D fun D => (q1 s_iald D fun D => (qX (s_callS ok_X7_compares mo_X7_compares (ch_4_0_ok.2.2.2.2.2.2.2.2.1.1 rfl) (ch_4_0_ok.2.2.2.2.2.2.2.2.2.1.1 rfl)) rfl (by decide) D fun D => (q1 (s_aldn (n := 0) (i := 0) rfl) D fun D => (qC fl_X7_24 rfl D fun D => (q1 s_ild D fun D => (q1 s_bald D fun D => (qBn s_cmpne2 70 (by decide) D (qL (s_inc (i := 6) (n := 1) (v := 1) (by decide)) (by decide) D_X7_lineHolds_70 fun D => (qG 9 (by decide) D (s_keep [true, true, true, true, true, true, true, false] fun _ _ _ h => h))) fun D => (q1 (s_iconst (n := 0) (v := 0) (by decide)) D fun D => (qZ rfl D))))))))))))))))))))))))))))))))))

set_option maxRecDepth 100000 in
set_option maxHeartbeats 400000 in
theorem lh_9 (Q : Option Value → Hp → Prop) (h : Hp) (hl : LayX h) (q : Nat) (hr : LayR h q) (J : Mem) (P E Ln k L T : Nat) (cold : Int32) (hc : cold = 0 ∨ cold = 1) (hp : PC (hI h) 12 J P) (hE : LtC h J E) (hrc : RC (hI h) q J Ln) (hk : k < P) (hL : L < Ln) (hT : J 70 L = nI T) (hT4 : T ≤ 4) (hq1 : hldF J E k L T cold → Q (some (.int 1)) h) (hq2 : ¬ hldF J E k L T cold → Q (some (.int 0)) h) :
    ∀ (m t : Nat), m = T - t → t ≤ T → (∀ j, j < t → tstF J E k (4 * L + j) cold) → wp 2 MX7_lineHolds Q 9 [some (.ref q), some (.int (nI L)), some (.ref 3), some (.int (nI k)), some (.int cold), some (.int (nI (4 * L))), some (.int (nI (4 * L + t))), none] [] h := by
  obtain ⟨hLn, -, -, hrr⟩ := hrc
  obtain ⟨⟨T', hT4', hT1, hT2, ht⟩, -, -⟩ := hrr L hL
  have eT : T' = T := (nI_inj (by omega) (by omega)).mp (hT2.symm.trans hT)
  subst eT
  have hf := hr.f
  intro m
  induction m with
  | zero =>
    intro t hm hle hall
    have e : t = T' := by omega
    subst e
    refine s_X7_lineHolds_9 Q _ _ _ ?_
    simp only [b_X7_lineHolds_9, i_push, i_ild, i_ald, i_ist, i_ast, i_inc, i_bin, i_un, i_divs, i_i2l, i_lshl, i_lor, i_dup, i_dup2, i_pop, i_if, i_cmp, i_nul, i_vret, i_iret, i_zret, i_aret, i_keep, keep, lget, lset, ent, i_getI, i_getJ, i_getR, i_getN, i_putI, i_putZ, i_putJ, i_putR, i_iald, i_bald, i_alen, i_aald, i_iast, i_bast, i_aast, i_new, i_newa, i_anew, i_oini, i_callS, i_callV, i_callI, popn, sh4, i_sw, swP, i_copy, i_binS, List.map, Option.toList_none, Option.toList_some, List.append, List.nil_append, List.cons_append, List.length_cons, List.length_nil, List.replicate, Nat.sub_self, Nat.reduceSub, Nat.reduceAdd, hK_pI, hL_pI, hI_pI, hR_pI, hJ_pI, hT_pI, hS_pI, hK_pR, hL_pR, hI_pR, hR_pR, hJ_pR, hT_pR, hS_pR, hK_pJ, hL_pJ, hI_pJ, hR_pJ, hJ_pJ, hT_pJ, hS_pJ, hK_wI, hL_wI, hI_wI, hR_wI, hJ_wI, hT_wI, hS_wI, eq_self, and_true, true_and, and_false, false_and, or_true, true_or, or_false, false_or, if_true, if_false, not_true_eq_false, not_false_eq_true, forall_const, implies_true, false_implies, true_implies, Option.some.injEq, forall_eq', exists_eq_left', reduceCtorEq, Nat.reduceEqDiff, c1, T_X12_in, T_X12_ones, T_X11_within, T_X11_bit, T_X11_isIn, T_X11_oneIfIn, T_J6_bitCount_0f7a4, hf, cl_nI (show L < 2147483648 by omega), in_nI (show L < 16 by omega) (by decide), hT1, nI_add]
    exact ⟨fun _ => hq1 hall, fun c => absurd (nI_le (Nat.le_refl _) (by omega)) c⟩
  | succ m ih =>
    intro t hm hle hall
    obtain ⟨w, hw, hneg, e2, e3, e4⟩ := ht t (by omega)
    obtain ⟨a1, a2, a3, a4⟩ := w16 w (by omega)
    have hgo := ih (t + 1) (by omega) (by omega)
    have hnxt : tstF J E k (4 * L + t) cold → wp 2 MX7_lineHolds Q 9 [some (.ref q), some (.int (nI L)), some (.ref 3), some (.int (nI k)), some (.int cold), some (.int (nI (4 * L))), some (.int (nI (4 * L + t + 1))), none] [] h := fun z => hgo (fun j hj => by
      by_cases e : j = t
      · rw [e]; exact z
      · exact hall j (by omega))
    have hbad : ¬ tstF J E k (4 * L + t) cold → Q (some (.int 0)) h := fun z => hq2 (fun y => z (y t (by omega)))
    have h58 : ∀ is : Int32, (is = 0 ∨ is = 1) → (is = 1 ↔ cmpF (askF J E k (nI w) cold) (J 72 (4 * L + t)) (J 73 (4 * L + t))) → c_X7_lineHolds_58 Q [some (.ref q), some (.int (nI L)), some (.ref 3), some (.int (nI k)), some (.int cold), some (.int (nI (4 * L))), some (.int (nI (4 * L + t))), some (.int (askF J E k (nI w) cold))] [.int is] h := by
      intro is his hiff
      have htst : tstF J E k (4 * L + t) cold ↔ ¬ is = hI h (q + 5) (4 * L + t) := by
        unfold tstF
        unfold cmpF at hiff
        rcases hneg with ⟨z1, z2⟩ | ⟨z1, z2⟩
        · rw [z1, a1, ← hiff, z2]
          rcases his with y | y
          · subst y; simp [a3]
          · subst y; simp [a3]
        · rw [z1, a2, ← hiff, z2]
          rcases his with y | y
          · subst y; simp [a4]
          · subst y; simp [a4]
      generalize askF J E k (nI w) cold = X
      simp only [c_X7_lineHolds_58, i_push, i_ild, i_ald, i_ist, i_ast, i_inc, i_bin, i_un, i_divs, i_i2l, i_lshl, i_lor, i_dup, i_dup2, i_pop, i_if, i_cmp, i_nul, i_vret, i_iret, i_zret, i_aret, i_keep, keep, lget, lset, ent, i_getI, i_getJ, i_getR, i_getN, i_putI, i_putZ, i_putJ, i_putR, i_iald, i_bald, i_alen, i_aald, i_iast, i_bast, i_aast, i_new, i_newa, i_anew, i_oini, i_callS, i_callV, i_callI, popn, sh4, i_sw, swP, i_copy, i_binS, List.map, Option.toList_none, Option.toList_some, List.append, List.nil_append, List.cons_append, List.length_cons, List.length_nil, List.replicate, Nat.sub_self, Nat.reduceSub, Nat.reduceAdd, hK_pI, hL_pI, hI_pI, hR_pI, hJ_pI, hT_pI, hS_pI, hK_pR, hL_pR, hI_pR, hR_pR, hJ_pR, hT_pR, hS_pR, hK_pJ, hL_pJ, hI_pJ, hR_pJ, hJ_pJ, hT_pJ, hS_pJ, hK_wI, hL_wI, hI_wI, hR_wI, hJ_wI, hT_wI, hS_wI, eq_self, and_true, true_and, and_false, false_and, or_true, true_or, or_false, false_or, if_true, if_false, not_true_eq_false, not_false_eq_true, forall_const, implies_true, false_implies, true_implies, Option.some.injEq, forall_eq', exists_eq_left', reduceCtorEq, Nat.reduceEqDiff, c1, T_X12_in, T_X12_ones, T_X11_within, T_X11_bit, T_X11_isIn, T_X11_oneIfIn, T_J6_bitCount_0f7a4, hf, cl_nI (show 4 * L + t < 2147483648 by omega), in_nI (show 4 * L + t < 64 by omega) (by decide), nI_1]
      refine ⟨fun z => ?_, fun z => ?_⟩
      · first | exact hbad (fun y => htst.mp y z) | exact ⟨by decide, hbad (fun y => htst.mp y z)⟩
      · exact hnxt (htst.mpr z)
    have h37 : c_X7_lineHolds_37 Q [some (.ref q), some (.int (nI L)), some (.ref 3), some (.int (nI k)), some (.int cold), some (.int (nI (4 * L))), some (.int (nI (4 * L + t))), none] [.int (askF J E k (nI w) cold)] h := by
      have hcm := cmp_go h (askF J E k (nI w) cold) (J 72 (4 * L + t)) (J 73 (4 * L + t)) (fun r h' => c_X7_lineHolds_58 Q [some (.ref q), some (.int (nI L)), some (.ref 3), some (.int (nI k)), some (.int cold), some (.int (nI (4 * L))), some (.int (nI (4 * L + t))), some (.int (askF J E k (nI w) cold))] (r.toList ++ []) h') (fun z => h58 1 (Or.inr rfl) ⟨fun _ => z, fun _ => rfl⟩) (fun z => h58 0 (Or.inl rfl) ⟨fun y => absurd y (by decide), fun y => absurd y z⟩)
      generalize askF J E k (nI w) cold = X at hcm ⊢
      simp only [c_X7_lineHolds_37, i_push, i_ild, i_ald, i_ist, i_ast, i_inc, i_bin, i_un, i_divs, i_i2l, i_lshl, i_lor, i_dup, i_dup2, i_pop, i_if, i_cmp, i_nul, i_vret, i_iret, i_zret, i_aret, i_keep, keep, lget, lset, ent, i_getI, i_getJ, i_getR, i_getN, i_putI, i_putZ, i_putJ, i_putR, i_iald, i_bald, i_alen, i_aald, i_iast, i_bast, i_aast, i_new, i_newa, i_anew, i_oini, i_callS, i_callV, i_callI, popn, sh4, i_sw, swP, i_copy, i_binS, List.map, Option.toList_none, Option.toList_some, List.append, List.nil_append, List.cons_append, List.length_cons, List.length_nil, List.replicate, Nat.sub_self, Nat.reduceSub, Nat.reduceAdd, hK_pI, hL_pI, hI_pI, hR_pI, hJ_pI, hT_pI, hS_pI, hK_pR, hL_pR, hI_pR, hR_pR, hJ_pR, hT_pR, hS_pR, hK_pJ, hL_pJ, hI_pJ, hR_pJ, hJ_pJ, hT_pJ, hS_pJ, hK_wI, hL_wI, hI_wI, hR_wI, hJ_wI, hT_wI, hS_wI, eq_self, and_true, true_and, and_false, false_and, or_true, true_or, or_false, false_or, if_true, if_false, not_true_eq_false, not_false_eq_true, forall_const, implies_true, false_implies, true_implies, Option.some.injEq, forall_eq', exists_eq_left', reduceCtorEq, Nat.reduceEqDiff, c1, T_X12_in, T_X12_ones, T_X11_within, T_X11_bit, T_X11_isIn, T_X11_oneIfIn, T_J6_bitCount_0f7a4, hf, cl_nI (show 4 * L + t < 2147483648 by omega), in_nI (show 4 * L + t < 64 by omega) (by decide), e3, e4]
      exact hcm
    have hval := val_go h hl J P E k w cold hc hp hE hk hw (fun r h' => c_X7_lineHolds_37 Q [some (.ref q), some (.int (nI L)), some (.ref 3), some (.int (nI k)), some (.int cold), some (.int (nI (4 * L))), some (.int (nI (4 * L + t))), none] (r.toList ++ []) h') h37
    refine s_X7_lineHolds_9 Q _ _ _ ?_
    simp only [b_X7_lineHolds_9, lx_pI, lx_wI, lx_t hl, lx_k hl, lx_r hl, lx_l hl, i_push, i_ild, i_ald, i_ist, i_ast, i_inc, i_bin, i_un, i_divs, i_i2l, i_lshl, i_lor, i_dup, i_dup2, i_pop, i_if, i_cmp, i_nul, i_vret, i_iret, i_zret, i_aret, i_keep, keep, lget, lset, ent, i_getI, i_getJ, i_getR, i_getN, i_putI, i_putZ, i_putJ, i_putR, i_iald, i_bald, i_alen, i_aald, i_iast, i_bast, i_aast, i_new, i_newa, i_anew, i_oini, i_callS, i_callV, i_callI, popn, sh4, i_sw, swP, i_copy, i_binS, List.map, Option.toList_none, Option.toList_some, List.append, List.nil_append, List.cons_append, List.length_cons, List.length_nil, List.replicate, Nat.sub_self, Nat.reduceSub, Nat.reduceAdd, hK_pI, hL_pI, hI_pI, hR_pI, hJ_pI, hT_pI, hS_pI, hK_pR, hL_pR, hI_pR, hR_pR, hJ_pR, hT_pR, hS_pR, hK_pJ, hL_pJ, hI_pJ, hR_pJ, hJ_pJ, hT_pJ, hS_pJ, hK_wI, hL_wI, hI_wI, hR_wI, hJ_wI, hT_wI, hS_wI, eq_self, and_true, true_and, and_false, false_and, or_true, true_or, or_false, false_or, if_true, if_false, not_true_eq_false, not_false_eq_true, forall_const, implies_true, false_implies, true_implies, Option.some.injEq, forall_eq', exists_eq_left', reduceCtorEq, Nat.reduceEqDiff, c1, T_X12_in, T_X12_ones, T_X11_within, T_X11_bit, T_X11_isIn, T_X11_oneIfIn, T_J6_bitCount_0f7a4, hf, cl_nI (show L < 2147483648 by omega), in_nI (show L < 16 by omega) (by decide), hT1, nI_add, cl_nI (show 4 * L + t < 2147483648 by omega), in_nI (show 4 * L + t < 64 by omega) (by decide), e2]
    exact ⟨fun c => absurd c (nI_ge (by omega) (by omega)), fun _ => hval⟩
set_option maxRecDepth 100000 in
set_option maxHeartbeats 4000000 in
theorem ok_X7_lineHolds : ctr 2 MX7_lineHolds T_X7_lineHolds := by
  refine ctr_of pn_X7 wc_X7_lineHolds (fun av h Q hT => ?_)
  unfold T_X7_lineHolds at hT
  split at hT
  · rename_i q l s p cold
    refine ⟨⟨by simp [Value.category], Nat.le_of_ble_eq_true rfl⟩, s_X7_lineHolds_0 Q _ _ _ ?_⟩
    obtain ⟨rfl, hl, hr, hc, J, P, E, Ln, k, L, T, hp, hE, hrc, rfl, hk, rfl, hL, hT, hT4, hq1, hq2⟩ := hT
    have := lh_9 Q h hl q hr J P E Ln k L T cold hc hp hE hrc hk hL hT hT4 hq1 hq2 T 0 (by omega) (by omega) (fun j hj => absurd hj (Nat.not_lt_zero _))
    have e4 : nI L * 4 = nI (4 * L) := (nI_mul L 4).trans (by rw [Nat.mul_comm])
    simp only [MX7_lineHolds, b_X7_lineHolds_0, i_push, i_ild, i_ald, i_ist, i_ast, i_inc, i_bin, i_un, i_divs, i_i2l, i_lshl, i_lor, i_dup, i_dup2, i_pop, i_if, i_cmp, i_nul, i_vret, i_iret, i_zret, i_aret, i_keep, keep, lget, lset, ent, i_getI, i_getJ, i_getR, i_getN, i_putI, i_putZ, i_putJ, i_putR, i_iald, i_bald, i_alen, i_aald, i_iast, i_bast, i_aast, i_new, i_newa, i_anew, i_oini, i_callS, i_callV, i_callI, popn, sh4, i_sw, swP, i_copy, i_binS, List.map, Option.toList_none, Option.toList_some, List.append, List.nil_append, List.cons_append, List.length_cons, List.length_nil, List.replicate, Nat.sub_self, Nat.reduceSub, Nat.reduceAdd, hK_pI, hL_pI, hI_pI, hR_pI, hJ_pI, hT_pI, hS_pI, hK_pR, hL_pR, hI_pR, hR_pR, hJ_pR, hT_pR, hS_pR, hK_pJ, hL_pJ, hI_pJ, hR_pJ, hJ_pJ, hT_pJ, hS_pJ, hK_wI, hL_wI, hI_wI, hR_wI, hJ_wI, hT_wI, hS_wI, eq_self, and_true, true_and, and_false, false_and, or_true, true_or, or_false, false_or, if_true, if_false, not_true_eq_false, not_false_eq_true, forall_const, implies_true, false_implies, true_implies, Option.some.injEq, forall_eq', exists_eq_left', reduceCtorEq, Nat.reduceEqDiff, c1, T_X12_in, T_X12_ones, T_X11_within, T_X11_bit, T_X11_isIn, T_X11_oneIfIn, T_J6_bitCount_0f7a4, e4]
    exact this
  · exact hT.elim
def T_X8_pointsOf : Tr := fun av h Q => match av with
  | [.ref s, .int p, .int cold] => s = 3 ∧ LayX h ∧ (cold = 0 ∨ cold = 1) ∧ ∃ q J P E Ln k, hR h 3 3 = some q ∧ LayR h q ∧ PC (hI h) 12 J P ∧ LtC h J E ∧ RC (hI h) q J Ln ∧ p = nI k ∧ k < P ∧ Q (some (.int (ptsF J E k Ln cold))) h
  | _ => False
def L_X8_pointsOf : List UInt8 := [3, 62, 3, 54, 4, 21, 4, 42, 180, 0, 32, 180, 0, 59, 162, 0, 74, 42, 180, 0, 32, 21, 4, 42, 27, 28, 182, 0, 64, 153, 0, 53, 42, 180, 0, 32, 180, 0, 68, 21, 4, 46, 17, 1, 4, 160, 0, 6, 18, 74, 172, 42, 180, 0, 32, 180, 0, 68, 21, 4, 46, 17, 1, 5, 160, 0, 5, 29, 172, 29, 42, 180, 0, 32, 180, 0, 75, 21, 4, 46, 96, 62, 132, 4, 1, 167, 255, 176, 29, 172]
theorem Lc_X8_pointsOf : MX8_pointsOf.2.1 = ⟨L_X8_pointsOf.toArray⟩ := rfl
theorem D_X8_pointsOf_0 : dseq MX8_pointsOf.2.1 0 [(.iconst 0, 1), (.istore_n 3, 1), (.iconst 0, 1), (.istore 4, 2)] := dq Lc_X8_pointsOf 0 _ (by decide +kernel)
theorem D_X8_pointsOf_5 : dseq MX8_pointsOf.2.1 5 [(.iload 4, 2), (.aload_n 0, 1), (.getfield 32, 3), (.getfield 59, 3), (.if_icmp .ge 74, 3), (.aload_n 0, 1), (.getfield 32, 3), (.iload 4, 2), (.aload_n 0, 1), (.iload_n 1, 1), (.iload_n 2, 1), (.invokevirtual 64, 3), (.ifCond .eq 53, 3), (.aload_n 0, 1), (.getfield 32, 3), (.getfield 68, 3), (.iload 4, 2), (.iaload, 1), (.sipush 260, 3), (.if_icmp .ne 6, 3), (.ldc 74, 2), (.ireturn, 1)] := dq Lc_X8_pointsOf 5 _ (by decide +kernel)
theorem D_X8_pointsOf_88 : dseq MX8_pointsOf.2.1 88 [(.iload_n 3, 1), (.ireturn, 1)] := dq Lc_X8_pointsOf 88 _ (by decide +kernel)
theorem D_X8_pointsOf_51 : dseq MX8_pointsOf.2.1 51 [(.aload_n 0, 1), (.getfield 32, 3), (.getfield 68, 3), (.iload 4, 2), (.iaload, 1), (.sipush 261, 3), (.if_icmp .ne 5, 3), (.iload_n 3, 1), (.ireturn, 1)] := dq Lc_X8_pointsOf 51 _ (by decide +kernel)
theorem D_X8_pointsOf_69 : dseq MX8_pointsOf.2.1 69 [(.iload_n 3, 1), (.aload_n 0, 1), (.getfield 32, 3), (.getfield 75, 3), (.iload 4, 2), (.iaload, 1), (.iadd, 1), (.istore_n 3, 1)] := dq Lc_X8_pointsOf 69 _ (by decide +kernel)
theorem D_X8_pointsOf_82 : dseq MX8_pointsOf.2.1 82 [(.iinc 4 1, 3), (.goto (-80), 3)] := dq Lc_X8_pointsOf 82 _ (by decide +kernel)
def c_X8_pointsOf_29 (Q : Option Value → Hp → Prop) : Kt := i_if (fun x => x = 0) (i_keep [true, true, true, true, true] (wp 3 MX8_pointsOf Q 82)) (i_ald 0 (i_getR 8 3 (i_getR 7 6 (i_ild 4 (i_iald (i_push (.int 260) (i_cmp (fun x y => x = y) (i_push (.int (-2000000000)) (i_iret Q)) (i_ald 0 (i_getR 8 3 (i_getR 7 6 (i_ild 4 (i_iald (i_push (.int 261) (i_cmp (fun x y => x = y) (i_ild 3 (i_iret Q)) (i_ild 3 (i_ald 0 (i_getR 8 3 (i_getR 7 7 (i_ild 4 (i_iald (i_bin (fun x y => x + y) (i_ist 3 (i_keep [true, true, true, true, true] (wp 3 MX8_pointsOf Q 82))))))))))))))))))))))))
def b_X8_pointsOf_0 (Q : Option Value → Hp → Prop) : Kt := i_push (.int 0) (i_ist 3 (i_push (.int 0) (i_ist 4 (i_keep [true, true, true, true, true] (wp 3 MX8_pointsOf Q 5)))))
set_option maxRecDepth 100000 in
theorem s_X8_pointsOf_0 (Q : Option Value → Hp → Prop) : ∀ A st h, b_X8_pointsOf_0 Q A st h → wp 3 MX8_pointsOf Q 0 A st h := (q1 (s_iconst (n := 0) (v := 0) (by decide)) D_X8_pointsOf_0 fun D => (qL (s_istn (n := 3) (i := 3) rfl) (by decide) D fun D => (q1 (s_iconst (n := 0) (v := 0) (by decide)) D fun D => (qL s_ist (by decide) D fun D => (s_keep [true, true, true, true, true] fun _ _ _ h => h)))))
def b_X8_pointsOf_5 (Q : Option Value → Hp → Prop) : Kt := i_ild 4 (i_ald 0 (i_getR 8 3 (i_getI 7 0 (i_cmp (fun x y => y ≤ x) (i_ild 3 (i_iret Q)) (i_ald 0 (i_getR 8 3 (i_ild 4 (i_ald 0 (i_ild 1 (i_ild 2 (i_callV 7 4 T_X7_lineHolds (c_X8_pointsOf_29 Q))))))))))))
set_option maxRecDepth 100000 in
theorem s_X8_pointsOf_5 (Q : Option Value → Hp → Prop) : ∀ A st h, b_X8_pointsOf_5 Q A st h → wp 3 MX8_pointsOf Q 5 A st h := (q1 s_ild D_X8_pointsOf_5 fun D => (q1 (s_aldn (n := 0) (i := 0) rfl) D fun D => (qC fl_X8_32 rfl D fun D => (qC fl_X8_59 rfl D fun D => (qB s_cmpge 88 (by decide) D (q1 (s_ildn (n := 3) (i := 3) rfl) D_X8_pointsOf_88 fun D => (qI rfl D)) fun D => (q1 (s_aldn (n := 0) (i := 0) rfl) D fun D => (qC fl_X8_32 rfl D fun D => (q1 s_ild D fun D => (q1 (s_aldn (n := 0) (i := 0) rfl) D fun D => (q1 (s_ildn (n := 1) (i := 1) rfl) D fun D => (q1 (s_ildn (n := 2) (i := 2) rfl) D fun D => (qX (s_callV kX7 rfl ok_X7_lineHolds mo_X7_lineHolds (ch_3_14_ok.2.2.2.2.2.2.2.2.2.1.1 rfl) (ch_3_14_ok.2.2.2.2.2.2.2.2.2.2.1.1 rfl) (ch_3_14_ok.2.2.2.2.2.2.2.2.2.2.2.1.1 rfl)) rfl (by decide) D fun D => (qB s_ifeq 82 (by decide) D (s_keep [true, true, true, true, true] fun _ _ _ h => h) fun D => (q1 (s_aldn (n := 0) (i := 0) rfl) D fun D => (qC fl_X8_32 rfl D fun D => (qC fl_X8_68 rfl D fun D => (q1 s_ild D fun D => (q1 s_iald D fun D => (q1 (s_sipush (n := 260) (v := 260) (by decide)) D fun D => (qBn s_cmpne2 51 (by decide) D (q1 (s_aldn (n := 0) (i := 0) rfl) D_X8_pointsOf_51 fun D => (qC fl_X8_32 rfl D fun D => (qC fl_X8_68 rfl D fun D => (q1 s_ild D fun D => (q1 s_iald D fun D => (q1 (s_sipush (n := 261) (v := 261) (by decide)) D fun D => (qBn s_cmpne2 69 (by decide) D (q1 (s_ildn (n := 3) (i := 3) rfl) D_X8_pointsOf_69 fun D => (q1 (s_aldn (n := 0) (i := 0) rfl) D fun D => (qC fl_X8_32 rfl D fun D => (qC fl_X8_75 rfl D fun D => (q1 s_ild D fun D => (q1 s_iald D fun D => (q1 s_add D fun D => (qL (s_istn (n := 3) (i := 3) rfl) (by decide) D fun D => (s_keep [true, true, true, true, true] fun _ _ _ h => h))))))))) fun D => (q1 (s_ildn (n := 3) (i := 3) rfl) D fun D => (qI rfl D))))))))) fun D => (qC (s_ldc (v := (-2000000000)) (ch_4_0_ok.2.2.2.2.2.2.2.2.2.2.2.1.1 rfl)) rfl D fun D => (qI rfl D))))))))))))))))))))))
def b_X8_pointsOf_82 (Q : Option Value → Hp → Prop) : Kt := i_inc 4 1 (i_keep [true, true, true, true, true] (wp 3 MX8_pointsOf Q 5))
set_option maxRecDepth 100000 in
theorem s_X8_pointsOf_82 (Q : Option Value → Hp → Prop) : ∀ A st h, b_X8_pointsOf_82 Q A st h → wp 3 MX8_pointsOf Q 82 A st h := (qL (s_inc (i := 4) (n := 1) (v := 1) (by decide)) (by decide) D_X8_pointsOf_82 fun D => (qG 5 (by decide) D (s_keep [true, true, true, true, true] fun _ _ _ h => h)))

set_option maxRecDepth 100000 in
set_option maxHeartbeats 400000 in
theorem xpts_5 (Q : Option Value → Hp → Prop) (h : Hp) (hl : LayX h) (q : Nat) (hq3 : hR h 3 3 = some q) (hr : LayR h q) (J : Mem) (P E Ln k : Nat) (cold : Int32) (hc : cold = 0 ∨ cold = 1) (hp : PC (hI h) 12 J P) (hE : LtC h J E) (hrc : RC (hI h) q J Ln) (hk : k < P) :
    ∀ (m l : Nat) (n : Int32), l + m = Ln → Q (some (.int (ptsL J E k cold m l n))) h → wp 3 MX8_pointsOf Q 5 [some (.ref 3), some (.int (nI k)), some (.int cold), some (.int n), some (.int (nI l))] [] h := by
  have hf := hr.f
  intro m
  induction m with
  | zero =>
    intro l n hm hq
    have hln := hrc.2.1
    have h16 := hrc.1
    refine s_X8_pointsOf_5 Q _ _ _ ?_
    simp only [b_X8_pointsOf_5, lx_pI, lx_wI, lx_t hl, lx_k hl, lx_r hl, lx_l hl, i_push, i_ild, i_ald, i_ist, i_ast, i_inc, i_bin, i_un, i_divs, i_i2l, i_lshl, i_lor, i_dup, i_dup2, i_pop, i_if, i_cmp, i_nul, i_vret, i_iret, i_zret, i_aret, i_keep, keep, lget, lset, ent, i_getI, i_getJ, i_getR, i_getN, i_putI, i_putZ, i_putJ, i_putR, i_iald, i_bald, i_alen, i_aald, i_iast, i_bast, i_aast, i_new, i_newa, i_anew, i_oini, i_callS, i_callV, i_callI, popn, sh4, i_sw, swP, i_copy, i_binS, List.map, Option.toList_none, Option.toList_some, List.append, List.nil_append, List.cons_append, List.length_cons, List.length_nil, List.replicate, Nat.sub_self, Nat.reduceSub, Nat.reduceAdd, hK_pI, hL_pI, hI_pI, hR_pI, hJ_pI, hT_pI, hS_pI, hK_pR, hL_pR, hI_pR, hR_pR, hJ_pR, hT_pR, hS_pR, hK_pJ, hL_pJ, hI_pJ, hR_pJ, hJ_pJ, hT_pJ, hS_pJ, hK_wI, hL_wI, hI_wI, hR_wI, hJ_wI, hT_wI, hS_wI, eq_self, and_true, true_and, and_false, false_and, or_true, true_or, or_false, false_or, if_true, if_false, not_true_eq_false, not_false_eq_true, forall_const, implies_true, false_implies, true_implies, Option.some.injEq, forall_eq', exists_eq_left', reduceCtorEq, Nat.reduceEqDiff, c1, T_X12_in, T_X12_ones, T_X11_within, T_X11_bit, T_X11_isIn, T_X11_oneIfIn, T_J6_bitCount_0f7a4, hq3, hf, hln]
    exact ⟨fun _ => hq, fun c => absurd (nI_le (by omega) (by omega)) c⟩
  | succ m ih =>
    intro l n hm hq
    have hln := hrc.2.1
    have h16 := hrc.1
    obtain ⟨⟨T, hT4, hT1, hT2, ht⟩, ⟨a, ha, a1, a2⟩, ham⟩ := hrc.2.2.2 l (by omega)
    have hTc : (J 70 l).toNatClampNeg = T := by rw [hT2, cl_nI (by omega)]
    have h82 : ∀ n2 : Int32, Q (some (.int (ptsL J E k cold m (l + 1) n2))) h → wp 3 MX8_pointsOf Q 82 [some (.ref 3), some (.int (nI k)), some (.int cold), some (.int n2), some (.int (nI l))] [] h := by
      intro n2 hq2
      refine s_X8_pointsOf_82 Q _ _ _ ?_
      simp only [b_X8_pointsOf_82, i_push, i_ild, i_ald, i_ist, i_ast, i_inc, i_bin, i_un, i_divs, i_i2l, i_lshl, i_lor, i_dup, i_dup2, i_pop, i_if, i_cmp, i_nul, i_vret, i_iret, i_zret, i_aret, i_keep, keep, lget, lset, ent, i_getI, i_getJ, i_getR, i_getN, i_putI, i_putZ, i_putJ, i_putR, i_iald, i_bald, i_alen, i_aald, i_iast, i_bast, i_aast, i_new, i_newa, i_anew, i_oini, i_callS, i_callV, i_callI, popn, sh4, i_sw, swP, i_copy, i_binS, List.map, Option.toList_none, Option.toList_some, List.append, List.nil_append, List.cons_append, List.length_cons, List.length_nil, List.replicate, Nat.sub_self, Nat.reduceSub, Nat.reduceAdd, hK_pI, hL_pI, hI_pI, hR_pI, hJ_pI, hT_pI, hS_pI, hK_pR, hL_pR, hI_pR, hR_pR, hJ_pR, hT_pR, hS_pR, hK_pJ, hL_pJ, hI_pJ, hR_pJ, hJ_pJ, hT_pJ, hS_pJ, hK_wI, hL_wI, hI_wI, hR_wI, hJ_wI, hT_wI, hS_wI, eq_self, and_true, true_and, and_false, false_and, or_true, true_or, or_false, false_or, if_true, if_false, not_true_eq_false, not_false_eq_true, forall_const, implies_true, false_implies, true_implies, Option.some.injEq, forall_eq', exists_eq_left', reduceCtorEq, Nat.reduceEqDiff, c1, T_X12_in, T_X12_ones, T_X11_within, T_X11_bit, T_X11_isIn, T_X11_oneIfIn, T_J6_bitCount_0f7a4, nI_1]
      exact ih (l + 1) n2 (by omega) hq2
    have hpt : ptsL J E k cold (m + 1) l n = cif (hldF J E k l T cold) (if J 74 l = 1 then -2000000000 else if J 74 l = 2 then n else ptsL J E k cold m (l + 1) (n + J 75 l)) (ptsL J E k cold m (l + 1) n) := by
      show cif _ _ _ = _
      rw [hTc]
    rw [hpt] at hq
    have h260 : nI (a + 259) = 260 ↔ J 74 l = 1 := by
      rw [a1]
      exact ((nI_inj (b := 260) (by omega) (by decide)).trans (by omega)).trans (nI_inj (b := 1) (by omega) (by decide)).symm
    have h261 : nI (a + 259) = 261 ↔ J 74 l = 2 := by
      rw [a1]
      exact ((nI_inj (b := 261) (by omega) (by decide)).trans (by omega)).trans (nI_inj (b := 2) (by omega) (by decide)).symm
    have hcall : T_X7_lineHolds [.ref q, .int (nI l), .ref 3, .int (nI k), .int cold] h (fun x h' => c_X8_pointsOf_29 Q [some (.ref 3), some (.int (nI k)), some (.int cold), some (.int n), some (.int (nI l))] (x.toList ++ []) h') := by
      refine ⟨rfl, hl, hr, hc, J, P, E, Ln, k, l, T, hp, hE, hrc, rfl, hk, rfl, by omega, hT2, hT4, fun z => ?_, fun z => ?_⟩
      · rw [cif_t z] at hq
        simp only [c_X8_pointsOf_29, lx_pI, lx_wI, lx_t hl, lx_k hl, lx_r hl, lx_l hl, i_push, i_ild, i_ald, i_ist, i_ast, i_inc, i_bin, i_un, i_divs, i_i2l, i_lshl, i_lor, i_dup, i_dup2, i_pop, i_if, i_cmp, i_nul, i_vret, i_iret, i_zret, i_aret, i_keep, keep, lget, lset, ent, i_getI, i_getJ, i_getR, i_getN, i_putI, i_putZ, i_putJ, i_putR, i_iald, i_bald, i_alen, i_aald, i_iast, i_bast, i_aast, i_new, i_newa, i_anew, i_oini, i_callS, i_callV, i_callI, popn, sh4, i_sw, swP, i_copy, i_binS, List.map, Option.toList_none, Option.toList_some, List.append, List.nil_append, List.cons_append, List.length_cons, List.length_nil, List.replicate, Nat.sub_self, Nat.reduceSub, Nat.reduceAdd, hK_pI, hL_pI, hI_pI, hR_pI, hJ_pI, hT_pI, hS_pI, hK_pR, hL_pR, hI_pR, hR_pR, hJ_pR, hT_pR, hS_pR, hK_pJ, hL_pJ, hI_pJ, hR_pJ, hJ_pJ, hT_pJ, hS_pJ, hK_wI, hL_wI, hI_wI, hR_wI, hJ_wI, hT_wI, hS_wI, eq_self, and_true, true_and, and_false, false_and, or_true, true_or, or_false, false_or, if_true, if_false, not_true_eq_false, not_false_eq_true, forall_const, implies_true, false_implies, true_implies, Option.some.injEq, forall_eq', exists_eq_left', reduceCtorEq, Nat.reduceEqDiff, c1, T_X12_in, T_X12_ones, T_X11_within, T_X11_bit, T_X11_isIn, T_X11_oneIfIn, T_J6_bitCount_0f7a4, hq3, hf, cl_nI (show l < 2147483648 by omega), in_nI (show l < 16 by omega) (by decide), a2, h260, h261]
        refine ⟨fun z => absurd z (by decide), fun _ => ⟨fun c => ?_, fun c => ⟨fun c2 => ?_, fun c2 => ?_⟩⟩⟩
        · rw [if_pos c] at hq; exact hq
        · rw [if_neg c, if_pos c2] at hq; exact hq
        · rw [if_neg c, if_neg c2] at hq
          rw [ham (by
            have z1 : ¬ a = 1 := fun y => c (by rw [a1, y]; rfl)
            have z2 : ¬ a = 2 := fun y => c2 (by rw [a1, y]; rfl)
            have : a = 0 := by omega
            rw [a1, this]; rfl)]
          exact h82 _ hq
      · rw [cif_f z] at hq
        simp only [c_X8_pointsOf_29, lx_pI, lx_wI, lx_t hl, lx_k hl, lx_r hl, lx_l hl, i_push, i_ild, i_ald, i_ist, i_ast, i_inc, i_bin, i_un, i_divs, i_i2l, i_lshl, i_lor, i_dup, i_dup2, i_pop, i_if, i_cmp, i_nul, i_vret, i_iret, i_zret, i_aret, i_keep, keep, lget, lset, ent, i_getI, i_getJ, i_getR, i_getN, i_putI, i_putZ, i_putJ, i_putR, i_iald, i_bald, i_alen, i_aald, i_iast, i_bast, i_aast, i_new, i_newa, i_anew, i_oini, i_callS, i_callV, i_callI, popn, sh4, i_sw, swP, i_copy, i_binS, List.map, Option.toList_none, Option.toList_some, List.append, List.nil_append, List.cons_append, List.length_cons, List.length_nil, List.replicate, Nat.sub_self, Nat.reduceSub, Nat.reduceAdd, hK_pI, hL_pI, hI_pI, hR_pI, hJ_pI, hT_pI, hS_pI, hK_pR, hL_pR, hI_pR, hR_pR, hJ_pR, hT_pR, hS_pR, hK_pJ, hL_pJ, hI_pJ, hR_pJ, hJ_pJ, hT_pJ, hS_pJ, hK_wI, hL_wI, hI_wI, hR_wI, hJ_wI, hT_wI, hS_wI, eq_self, and_true, true_and, and_false, false_and, or_true, true_or, or_false, false_or, if_true, if_false, not_true_eq_false, not_false_eq_true, forall_const, implies_true, false_implies, true_implies, Option.some.injEq, forall_eq', exists_eq_left', reduceCtorEq, Nat.reduceEqDiff, c1, T_X12_in, T_X12_ones, T_X11_within, T_X11_bit, T_X11_isIn, T_X11_oneIfIn, T_J6_bitCount_0f7a4]
        first | exact h82 _ hq | exact ⟨fun _ => h82 _ hq, fun z => absurd rfl z⟩
    refine s_X8_pointsOf_5 Q _ _ _ ?_
    simp only [b_X8_pointsOf_5, lx_pI, lx_wI, lx_t hl, lx_k hl, lx_r hl, lx_l hl, i_push, i_ild, i_ald, i_ist, i_ast, i_inc, i_bin, i_un, i_divs, i_i2l, i_lshl, i_lor, i_dup, i_dup2, i_pop, i_if, i_cmp, i_nul, i_vret, i_iret, i_zret, i_aret, i_keep, keep, lget, lset, ent, i_getI, i_getJ, i_getR, i_getN, i_putI, i_putZ, i_putJ, i_putR, i_iald, i_bald, i_alen, i_aald, i_iast, i_bast, i_aast, i_new, i_newa, i_anew, i_oini, i_callS, i_callV, i_callI, popn, sh4, i_sw, swP, i_copy, i_binS, List.map, Option.toList_none, Option.toList_some, List.append, List.nil_append, List.cons_append, List.length_cons, List.length_nil, List.replicate, Nat.sub_self, Nat.reduceSub, Nat.reduceAdd, hK_pI, hL_pI, hI_pI, hR_pI, hJ_pI, hT_pI, hS_pI, hK_pR, hL_pR, hI_pR, hR_pR, hJ_pR, hT_pR, hS_pR, hK_pJ, hL_pJ, hI_pJ, hR_pJ, hJ_pJ, hT_pJ, hS_pJ, hK_wI, hL_wI, hI_wI, hR_wI, hJ_wI, hT_wI, hS_wI, eq_self, and_true, true_and, and_false, false_and, or_true, true_or, or_false, false_or, if_true, if_false, not_true_eq_false, not_false_eq_true, forall_const, implies_true, false_implies, true_implies, Option.some.injEq, forall_eq', exists_eq_left', reduceCtorEq, Nat.reduceEqDiff, c1, T_X12_in, T_X12_ones, T_X11_within, T_X11_bit, T_X11_isIn, T_X11_oneIfIn, T_J6_bitCount_0f7a4, hq3, hf, hln]
    exact ⟨fun c => absurd c (nI_ge (by omega) (by omega)), fun _ => hcall⟩
set_option maxRecDepth 100000 in
set_option maxHeartbeats 4000000 in
theorem ok_X8_pointsOf : ctr 3 MX8_pointsOf T_X8_pointsOf := by
  refine ctr_of pn_X8 wc_X8_pointsOf (fun av h Q hT => ?_)
  unfold T_X8_pointsOf at hT
  split at hT
  · rename_i s p cold
    refine ⟨⟨by simp [Value.category], Nat.le_of_ble_eq_true rfl⟩, s_X8_pointsOf_0 Q _ _ _ ?_⟩
    obtain ⟨rfl, hl, hc, q, J, P, E, Ln, k, hq3, hr, hp, hE, hrc, rfl, hk, hq⟩ := hT
    simp only [MX8_pointsOf, b_X8_pointsOf_0, i_push, i_ild, i_ald, i_ist, i_ast, i_inc, i_bin, i_un, i_divs, i_i2l, i_lshl, i_lor, i_dup, i_dup2, i_pop, i_if, i_cmp, i_nul, i_vret, i_iret, i_zret, i_aret, i_keep, keep, lget, lset, ent, i_getI, i_getJ, i_getR, i_getN, i_putI, i_putZ, i_putJ, i_putR, i_iald, i_bald, i_alen, i_aald, i_iast, i_bast, i_aast, i_new, i_newa, i_anew, i_oini, i_callS, i_callV, i_callI, popn, sh4, i_sw, swP, i_copy, i_binS, List.map, Option.toList_none, Option.toList_some, List.append, List.nil_append, List.cons_append, List.length_cons, List.length_nil, List.replicate, Nat.sub_self, Nat.reduceSub, Nat.reduceAdd, hK_pI, hL_pI, hI_pI, hR_pI, hJ_pI, hT_pI, hS_pI, hK_pR, hL_pR, hI_pR, hR_pR, hJ_pR, hT_pR, hS_pR, hK_pJ, hL_pJ, hI_pJ, hR_pJ, hJ_pJ, hT_pJ, hS_pJ, hK_wI, hL_wI, hI_wI, hR_wI, hJ_wI, hT_wI, hS_wI, eq_self, and_true, true_and, and_false, false_and, or_true, true_or, or_false, false_or, if_true, if_false, not_true_eq_false, not_false_eq_true, forall_const, implies_true, false_implies, true_implies, Option.some.injEq, forall_eq', exists_eq_left', reduceCtorEq, Nat.reduceEqDiff, c1, T_X12_in, T_X12_ones, T_X11_within, T_X11_bit, T_X11_isIn, T_X11_oneIfIn, T_J6_bitCount_0f7a4]
    exact xpts_5 Q h hl q hq3 hr J P E Ln k cold hc hp hE hrc hk Ln 0 0 (by omega) hq
  · exact hT.elim
