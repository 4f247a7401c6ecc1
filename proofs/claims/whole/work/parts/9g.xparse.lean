/-! ===== the class: the parser's steps ===== -/
/-- the parser y over the tokens z, its rules q; N is the end's token -/
def PEn (h : Hp) (y q z : Nat) (B : Nat → Int32) (L N : Nat) (f0 : Mem) : Prop := LayX h ∧ LayT h z L ∧ LayR h q ∧ y = z + 4 ∧ q = z + 5 ∧ hK h y = 2 ∧ hR h y 0 = some z ∧ hR h y 3 = some q ∧ L ≤ 500 ∧ TkD f0 z B L N
theorem PEn.f {h : Hp} {y q z : Nat} {B : Nat → Int32} {L N : Nat} {f0 : Mem} (he : PEn h y q z B L N f0) : (y < hT h ∧ hK h y = 2 ∧ hR h y 0 = some z ∧ hR h y 3 = some q) ∧ 90 ≤ z ∧ y = z + 4 ∧ q = z + 5 := by
  obtain ⟨_, a, b, c, d, e, f, g, _⟩ := he
  have h1 := b.f.1
  exact ⟨⟨by omega, e, f, g⟩, a.1, c, d⟩
/-- a memory in which the parser may have moved; all but its own rows is as in f0 -/
def PO (f0 f : Mem) (y q : Nat) : Prop := (∀ a j, a ≠ y → ¬ (q ≤ a ∧ a ≤ q + 7) → f a j = f0 a j) ∧ ∀ j, j ≠ 1 → j ≠ 2 → f y j = f0 y j
theorem u2_at (f : Mem) (a j : Nat) (v w : Int32) : u2 (u2 f a j v) a j w = u2 f a j w := by
  funext b i
  by_cases c : b = a ∧ i = j
  · rw [c.1, c.2, u2_eq, u2_eq]
  · rw [u2_ne c, u2_ne c, u2_ne c]
theorem u2_id {f : Mem} {a j : Nat} {v : Int32} (e : f a j = v) : u2 f a j v = f := by
  funext b i
  by_cases c : b = a ∧ i = j
  · rw [c.1, c.2, u2_eq, e]
  · rw [u2_ne c]
theorem PO.at {f0 f : Mem} {y q : Nat} (h : PO f0 f y q) (v : Int32) : PO f0 (u2 f y 1 v) y q := ⟨fun a j a1 a2 => by rw [u2_ne (fun z => a1 z.1)]; exact h.1 a j a1 a2, fun j j1 j2 => by rw [u2_ne (fun z => j1 z.2)]; exact h.2 j j1 j2⟩
/-- what the tokens' rows hold, whatever the parser has done -/
theorem PO.tk {h : Hp} {y q z : Nat} {B : Nat → Int32} {L N : Nat} {f0 f : Mem} (he : PEn h y q z B L N f0) (ho : PO f0 f y q) : TkD f z B L N := by
  obtain ⟨_, _, _, c, d, _, _, _, _, t1, t2, t3, t4, t5⟩ := he
  have r : ∀ i, i ≤ 3 → ∀ j, f (z + i) j = f0 (z + i) j := fun i hi j => ho.1 (z + i) j (by omega) (by omega)
  refine ⟨t1, t2, t3, (r 0 (by decide) 5).trans t4, fun t ht => ?_⟩
  rw [r 1 (by decide), r 2 (by decide), r 3 (by decide)]
  exact t5 t ht
theorem K_lt {B : Nat → Int32} {L N : Nat} {f : Mem} {z : Nat} (ht : TkD f z B L N) {s : Nat} (hs : s ≤ N) (hk : ¬ K B L s = 1) : s + 1 ≤ N := by
  apply Classical.byContradiction
  intro c
  have : s = N := by omega
  rw [this] at hk
  exact hk ht.1
set_option maxRecDepth 100000 in
theorem kind_go {h : Hp} {y q z : Nat} {B : Nat → Int32} {L N : Nat} {f0 f : Mem} (he : PEn h y q z B L N f0) (ho : PO f0 f y q) {s : Nat} (hs : s ≤ N) (h1 : f y 1 = nI s) {Q : Option Value → Hp → Prop} (hq : Q (some (.int (K B L s))) (wI h f)) : T_X2_kind [.ref y] (wI h f) Q := by
  have htk := PO.tk he ho
  obtain ⟨⟨a1, a2, a3, a4⟩, z90, ey, eq⟩ := he.f
  have hlt : LayT (wI h f) z L := he.2.1
  have hN := htk.2.2.1
  have hL := he.2.2.2.2.2.2.2.2.1
  have e1 : hI (wI h f) y 1 = nI s := h1
  have e2 : hI (wI h f) (z + 1) s = K B L s := (htk.2.2.2.2 s hs).1
  have b1 : y < hT (wI h f) := a1
  have b2 : hK (wI h f) y = 2 := a2
  have b3 : hR (wI h f) y 0 = some z := a3
  unfold T_X2_kind
  generalize wI h f = H at hlt e1 e2 b1 b2 b3 hq ⊢
  have hf := hlt.f
  simp only [b_X2_kind_0, i_push, i_ild, i_ald, i_ist, i_ast, i_inc, i_bin, i_un, i_divs, i_i2l, i_lshl, i_lor, i_dup, i_dup2, i_pop, i_if, i_cmp, i_nul, i_vret, i_iret, i_zret, i_aret, i_keep, keep, lget, lset, ent, i_getI, i_getJ, i_getR, i_getN, i_putI, i_putZ, i_putJ, i_putR, i_iald, i_bald, i_alen, i_aald, i_iast, i_bast, i_aast, i_new, i_newa, i_anew, i_oini, i_callS, i_callV, i_callI, popn, sh4, i_sw, swP, i_copy, i_binS, List.map, Option.toList_none, Option.toList_some, List.append, List.nil_append, List.cons_append, List.length_cons, List.length_nil, List.replicate, Nat.sub_self, Nat.reduceSub, Nat.reduceAdd, hK_pI, hL_pI, hI_pI, hR_pI, hJ_pI, hT_pI, hS_pI, hK_pR, hL_pR, hI_pR, hR_pR, hJ_pR, hT_pR, hS_pR, hK_pJ, hL_pJ, hI_pJ, hR_pJ, hJ_pJ, hT_pJ, hS_pJ, hK_wI, hL_wI, hI_wI, hR_wI, hJ_wI, hT_wI, hS_wI, eq_self, and_true, true_and, and_false, false_and, or_true, true_or, or_false, false_or, if_true, if_false, not_true_eq_false, not_false_eq_true, forall_const, implies_true, false_implies, true_implies, Option.some.injEq, forall_eq', exists_eq_left', reduceCtorEq, Nat.reduceEqDiff, c1, T_X12_in, T_X12_ones, T_X11_within, T_X11_bit, T_X11_isIn, T_X11_oneIfIn, T_J6_bitCount_0f7a4, b1, b2, b3, hf, e1, cl_nI (show s < 2147483648 by omega), in_nI (show s < L + 1 by omega) (by omega), e2]
  exact hq
set_option maxRecDepth 100000 in
theorem skip_go {h : Hp} {y q z : Nat} {B : Nat → Int32} {L N : Nat} {f0 f : Mem} (he : PEn h y q z B L N f0) (ho : PO f0 f y q) {s : Nat} (hs : s ≤ N) (h1 : f y 1 = nI s) {c : Int32} (hc : ¬ c = 1) {Q : Option Value → Hp → Prop} (hq1 : K B L s = c → s + 1 ≤ N → Q (some (.int 1)) (wI h (u2 f y 1 (nI (s + 1))))) (hq0 : ¬ K B L s = c → Q (some (.int 0)) (wI h f)) : T_X2_skip [.ref y, .int c] (wI h f) Q := by
  have htk := PO.tk he ho
  obtain ⟨⟨a1, a2, a3, a4⟩, z90, ey, eq⟩ := he.f
  have hlt : LayT (wI h f) z L := he.2.1
  have hN := htk.2.2.1
  have hL := he.2.2.2.2.2.2.2.2.1
  have e1 : hI (wI h f) y 1 = nI s := h1
  have e5 : hI (wI h f) z 5 = nI (N + 1) := htk.2.2.2.1
  have b1 : y < hT (wI h f) := a1
  have b2 : hK (wI h f) y = 2 := a2
  have b3 : hR (wI h f) y 0 = some z := a3
  have hlt2 : nI (s + 1) < nI (N + 1) ↔ s + 1 < N + 1 := nI_ltI (by omega) (by omega)
  have hn : K B L s = c → s + 1 ≤ N := fun z => K_lt htk hs (by rw [z]; exact hc)
  have h4 : c_X2_skip_4 Q [some (.ref y), some (.int c)] [.int (K B L s)] (wI h f) := by
    have g1 : K B L s = c → Q (some (.int 1)) (pI (wI h f) y 1 (nI (s + 1))) := fun z => hq1 z (hn z)
    generalize wI h f = H at hlt e1 e5 b1 b2 b3 g1 hq0 ⊢
    have hf := hlt.f
    generalize K B L s = X at hn g1 hq0 ⊢
    simp only [c_X2_skip_4, i_push, i_ild, i_ald, i_ist, i_ast, i_inc, i_bin, i_un, i_divs, i_i2l, i_lshl, i_lor, i_dup, i_dup2, i_pop, i_if, i_cmp, i_nul, i_vret, i_iret, i_zret, i_aret, i_keep, keep, lget, lset, ent, i_getI, i_getJ, i_getR, i_getN, i_putI, i_putZ, i_putJ, i_putR, i_iald, i_bald, i_alen, i_aald, i_iast, i_bast, i_aast, i_new, i_newa, i_anew, i_oini, i_callS, i_callV, i_callI, popn, sh4, i_sw, swP, i_copy, i_binS, List.map, Option.toList_none, Option.toList_some, List.append, List.nil_append, List.cons_append, List.length_cons, List.length_nil, List.replicate, Nat.sub_self, Nat.reduceSub, Nat.reduceAdd, hK_pI, hL_pI, hI_pI, hR_pI, hJ_pI, hT_pI, hS_pI, hK_pR, hL_pR, hI_pR, hR_pR, hJ_pR, hT_pR, hS_pR, hK_pJ, hL_pJ, hI_pJ, hR_pJ, hJ_pJ, hT_pJ, hS_pJ, hK_wI, hL_wI, hI_wI, hR_wI, hJ_wI, hT_wI, hS_wI, eq_self, and_true, true_and, and_false, false_and, or_true, true_or, or_false, false_or, if_true, if_false, not_true_eq_false, not_false_eq_true, forall_const, implies_true, false_implies, true_implies, Option.some.injEq, forall_eq', exists_eq_left', reduceCtorEq, Nat.reduceEqDiff, c1, T_X12_in, T_X12_ones, T_X11_within, T_X11_bit, T_X11_isIn, T_X11_oneIfIn, T_J6_bitCount_0f7a4, b1, b2, b3, hf, e1, e5, nI_1, hlt2]
    exact ⟨fun z => ⟨fun _ => g1 z, fun w => absurd (show s + 1 < N + 1 by have := hn z; omega) w⟩, fun z => hq0 z⟩
  have hk := kind_go he ho hs h1 (Q := fun r h' => c_X2_skip_4 Q [some (.ref y), some (.int c)] (r.toList ++ []) h') h4
  unfold T_X2_skip
  generalize wI h f = H at b1 b2 hk ⊢
  simp only [b_X2_skip_0, i_push, i_ild, i_ald, i_ist, i_ast, i_inc, i_bin, i_un, i_divs, i_i2l, i_lshl, i_lor, i_dup, i_dup2, i_pop, i_if, i_cmp, i_nul, i_vret, i_iret, i_zret, i_aret, i_keep, keep, lget, lset, ent, i_getI, i_getJ, i_getR, i_getN, i_putI, i_putZ, i_putJ, i_putR, i_iald, i_bald, i_alen, i_aald, i_iast, i_bast, i_aast, i_new, i_newa, i_anew, i_oini, i_callS, i_callV, i_callI, popn, sh4, i_sw, swP, i_copy, i_binS, List.map, Option.toList_none, Option.toList_some, List.append, List.nil_append, List.cons_append, List.length_cons, List.length_nil, List.replicate, Nat.sub_self, Nat.reduceSub, Nat.reduceAdd, hK_pI, hL_pI, hI_pI, hR_pI, hJ_pI, hT_pI, hS_pI, hK_pR, hL_pR, hI_pR, hR_pR, hJ_pR, hT_pR, hS_pR, hK_pJ, hL_pJ, hI_pJ, hR_pJ, hJ_pJ, hT_pJ, hS_pJ, hK_wI, hL_wI, hI_wI, hR_wI, hJ_wI, hT_wI, hS_wI, eq_self, and_true, true_and, and_false, false_and, or_true, true_or, or_false, false_or, if_true, if_false, not_true_eq_false, not_false_eq_true, forall_const, implies_true, false_implies, true_implies, Option.some.injEq, forall_eq', exists_eq_left', reduceCtorEq, Nat.reduceEqDiff, c1, T_X12_in, T_X12_ones, T_X11_within, T_X11_bit, T_X11_isIn, T_X11_oneIfIn, T_J6_bitCount_0f7a4, b1, b2]
  exact hk
set_option maxRecDepth 100000 in
theorem note_go {h : Hp} {y q z : Nat} {B : Nat → Int32} {L N : Nat} {f0 f : Mem} (he : PEn h y q z B L N f0) (ho : PO f0 f y q) {s : Nat} (hs : s ≤ N) (h1 : f y 1 = nI s) {a b : Nat} (ha : a < 2147483648) (hb : b < 2147483648) {Q : Option Value → Hp → Prop} (hq1 : b ≤ a → f y 2 = -1 → Q none (wI h (u2 f y 2 (nI (bgT B L s))))) (hq0 : ¬ (b ≤ a ∧ f y 2 = -1) → Q none (wI h f)) : T_X2_noteIfTooMany [.ref y, .int (nI a), .int (nI b)] (wI h f) Q := by
  have htk := PO.tk he ho
  obtain ⟨⟨a1, a2, a3, a4⟩, z90, ey, eq⟩ := he.f
  have hlt : LayT (wI h f) z L := he.2.1
  have hN := htk.2.2.1
  have hL := he.2.2.2.2.2.2.2.2.1
  have e1 : hI (wI h f) y 1 = nI s := h1
  have e2 : hI (wI h f) y 2 = f y 2 := rfl
  have e3 : hI (wI h f) (z + 2) s = nI (bgT B L s) := (htk.2.2.2.2 s hs).2.1
  have b1 : y < hT (wI h f) := a1
  have b2 : hK (wI h f) y = 2 := a2
  have b3 : hR (wI h f) y 0 = some z := a3
  have hlt2 : nI a < nI b ↔ a < b := nI_ltI ha hb
  have g1 : b ≤ a → f y 2 = -1 → Q none (pI (wI h f) y 2 (nI (bgT B L s))) := hq1
  unfold T_X2_noteIfTooMany
  generalize wI h f = H at hlt e1 e2 e3 b1 b2 b3 g1 hq0 ⊢
  generalize f y 2 = X at e2 g1 hq0
  have hf := hlt.f
  simp only [b_X2_noteIfTooMany_0, i_push, i_ild, i_ald, i_ist, i_ast, i_inc, i_bin, i_un, i_divs, i_i2l, i_lshl, i_lor, i_dup, i_dup2, i_pop, i_if, i_cmp, i_nul, i_vret, i_iret, i_zret, i_aret, i_keep, keep, lget, lset, ent, i_getI, i_getJ, i_getR, i_getN, i_putI, i_putZ, i_putJ, i_putR, i_iald, i_bald, i_alen, i_aald, i_iast, i_bast, i_aast, i_new, i_newa, i_anew, i_oini, i_callS, i_callV, i_callI, popn, sh4, i_sw, swP, i_copy, i_binS, List.map, Option.toList_none, Option.toList_some, List.append, List.nil_append, List.cons_append, List.length_cons, List.length_nil, List.replicate, Nat.sub_self, Nat.reduceSub, Nat.reduceAdd, hK_pI, hL_pI, hI_pI, hR_pI, hJ_pI, hT_pI, hS_pI, hK_pR, hL_pR, hI_pR, hR_pR, hJ_pR, hT_pR, hS_pR, hK_pJ, hL_pJ, hI_pJ, hR_pJ, hJ_pJ, hT_pJ, hS_pJ, hK_wI, hL_wI, hI_wI, hR_wI, hJ_wI, hT_wI, hS_wI, eq_self, and_true, true_and, and_false, false_and, or_true, true_or, or_false, false_or, if_true, if_false, not_true_eq_false, not_false_eq_true, forall_const, implies_true, false_implies, true_implies, Option.some.injEq, forall_eq', exists_eq_left', reduceCtorEq, Nat.reduceEqDiff, c1, T_X12_in, T_X12_ones, T_X11_within, T_X11_bit, T_X11_isIn, T_X11_oneIfIn, T_J6_bitCount_0f7a4, b1, b2, b3, hf, e1, e2, hlt2, cl_nI (show s < 2147483648 by omega), in_nI (show s < L + 1 by omega) (by omega), e3]
  exact ⟨fun z => hq0 (fun w => absurd w.1 (by omega)), fun z => ⟨fun w => g1 (by omega) w, fun w => hq0 (fun v => w v.2)⟩⟩
/-! the rules' rows -/
def atM (g : Mem) (q k n : Nat) (nt sb sg nu : Int32) : Mem := u2 (u2 (u2 (u2 (u2 g (q + 5) (4 * k + n) nt) (q + 2) (4 * k + n) sb) (q + 3) (4 * k + n) sg) (q + 4) (4 * k + n) nu) (q + 1) k (nI (n + 1))
set_option maxRecDepth 100000 in
theorem add_go {h : Hp} {q : Nat} (hr : LayR h q) {g : Mem} {k m : Nat} (hk : k < 2147483648) (hm : k < 16 → m ≤ 4 ∧ g (q + 1) k = nI m) {nt sb sg nu : Int32} (hnt : nt = 0 ∨ nt = 1) {Q : Option Value → Hp → Prop} (hq1 : k < 16 → m < 4 → Q none (wI h (atM g q k m nt sb sg nu))) (hq0 : ¬ (k < 16 ∧ m < 4) → Q none (wI h g)) : T_X7_addTest [.ref q, .int (nI k), .int nt, .int sb, .int sg, .int nu] (wI h g) Q := by
  have hr2 : LayR (wI h g) q := hr
  have h16 : (16 : Int32) ≤ nI k ↔ 16 ≤ k := nI_leI (a := 16) (by decide) hk
  have e1 : k < 16 → hI (wI h g) (q + 1) k = nI m := fun z => (hm z).2
  have h4 : k < 16 → (nI m < (4 : Int32) ↔ m < 4) := fun z => nI_ltI (b := 4) (by have := (hm z).1; omega) (by decide)
  have g1 : k < 16 → m < 4 → Q none (pI (pI (pI (pI (pI (wI h g) (q + 5) (4 * k + m) nt) (q + 2) (4 * k + m) sb) (q + 3) (4 * k + m) sg) (q + 4) (4 * k + m) nu) (q + 1) k (nI (m + 1))) := hq1
  have n1 : ¬ q = q + 1 := by omega
  have n2 : ¬ q = q + 2 := by omega
  have n3 : ¬ q = q + 3 := by omega
  have n4 : ¬ q = q + 4 := by omega
  unfold T_X7_addTest
  generalize wI h g = H at hr2 e1 g1 hq0 ⊢
  have hf := hr2.f
  by_cases c : k < 16
  · have e4 : nI k * 4 = nI (4 * k) := (nI_mul k 4).trans (by rw [Nat.mul_comm])
    have hm4 := (hm c).1
    have c16 : ¬ 16 ≤ k := by omega
    simp only [b_X7_addTest_0, i_push, i_ild, i_ald, i_ist, i_ast, i_inc, i_bin, i_un, i_divs, i_i2l, i_lshl, i_lor, i_dup, i_dup2, i_pop, i_if, i_cmp, i_nul, i_vret, i_iret, i_zret, i_aret, i_keep, keep, lget, lset, ent, i_getI, i_getJ, i_getR, i_getN, i_putI, i_putZ, i_putJ, i_putR, i_iald, i_bald, i_alen, i_aald, i_iast, i_bast, i_aast, i_new, i_newa, i_anew, i_oini, i_callS, i_callV, i_callI, popn, sh4, i_sw, swP, i_copy, i_binS, List.map, Option.toList_none, Option.toList_some, List.append, List.nil_append, List.cons_append, List.length_cons, List.length_nil, List.replicate, Nat.sub_self, Nat.reduceSub, Nat.reduceAdd, hK_pI, hL_pI, hI_pI, hR_pI, hJ_pI, hT_pI, hS_pI, hK_pR, hL_pR, hI_pR, hR_pR, hJ_pR, hT_pR, hS_pR, hK_pJ, hL_pJ, hI_pJ, hR_pJ, hJ_pJ, hT_pJ, hS_pJ, hK_wI, hL_wI, hI_wI, hR_wI, hJ_wI, hT_wI, hS_wI, eq_self, and_true, true_and, and_false, false_and, or_true, true_or, or_false, false_or, if_true, if_false, not_true_eq_false, not_false_eq_true, forall_const, implies_true, false_implies, true_implies, Option.some.injEq, forall_eq', exists_eq_left', reduceCtorEq, Nat.reduceEqDiff, c1, T_X12_in, T_X12_ones, T_X11_within, T_X11_bit, T_X11_isIn, T_X11_oneIfIn, T_J6_bitCount_0f7a4, hf, h16, c16, cl_nI hk, in_nI c (by decide), e1 c, h4 c, e4, nI_add]
    refine ⟨fun z => ?_, fun z => hq0 (fun w => z w.2)⟩
    simp only [cl_nI (show 4 * k + m < 2147483648 by omega), in_nI (show 4 * k + m < 64 by omega) (by decide), i_push, i_ild, i_ald, i_ist, i_ast, i_inc, i_bin, i_un, i_divs, i_i2l, i_lshl, i_lor, i_dup, i_dup2, i_pop, i_if, i_cmp, i_nul, i_vret, i_iret, i_zret, i_aret, i_keep, keep, lget, lset, ent, i_getI, i_getJ, i_getR, i_getN, i_putI, i_putZ, i_putJ, i_putR, i_iald, i_bald, i_alen, i_aald, i_iast, i_bast, i_aast, i_new, i_newa, i_anew, i_oini, i_callS, i_callV, i_callI, popn, sh4, i_sw, swP, i_copy, i_binS, List.map, Option.toList_none, Option.toList_some, List.append, List.nil_append, List.cons_append, List.length_cons, List.length_nil, List.replicate, Nat.sub_self, Nat.reduceSub, Nat.reduceAdd, hK_pI, hL_pI, hI_pI, hR_pI, hJ_pI, hT_pI, hS_pI, hK_pR, hL_pR, hI_pR, hR_pR, hJ_pR, hT_pR, hS_pR, hK_pJ, hL_pJ, hI_pJ, hR_pJ, hJ_pJ, hT_pJ, hS_pJ, hK_wI, hL_wI, hI_wI, hR_wI, hJ_wI, hT_wI, hS_wI, eq_self, and_true, true_and, and_false, false_and, or_true, true_or, or_false, false_or, if_true, if_false, not_true_eq_false, not_false_eq_true, forall_const, implies_true, false_implies, true_implies, Option.some.injEq, forall_eq', exists_eq_left', reduceCtorEq, Nat.reduceEqDiff, c1, T_X12_in, T_X12_ones, T_X11_within, T_X11_bit, T_X11_isIn, T_X11_oneIfIn, T_J6_bitCount_0f7a4, hnt, n1, n2, n3, n4, e1 c, nI_1]
    exact g1 c z
  · have c16 : 16 ≤ k := by omega
    simp only [b_X7_addTest_0, i_push, i_ild, i_ald, i_ist, i_ast, i_inc, i_bin, i_un, i_divs, i_i2l, i_lshl, i_lor, i_dup, i_dup2, i_pop, i_if, i_cmp, i_nul, i_vret, i_iret, i_zret, i_aret, i_keep, keep, lget, lset, ent, i_getI, i_getJ, i_getR, i_getN, i_putI, i_putZ, i_putJ, i_putR, i_iald, i_bald, i_alen, i_aald, i_iast, i_bast, i_aast, i_new, i_newa, i_anew, i_oini, i_callS, i_callV, i_callI, popn, sh4, i_sw, swP, i_copy, i_binS, List.map, Option.toList_none, Option.toList_some, List.append, List.nil_append, List.cons_append, List.length_cons, List.length_nil, List.replicate, Nat.sub_self, Nat.reduceSub, Nat.reduceAdd, hK_pI, hL_pI, hI_pI, hR_pI, hJ_pI, hT_pI, hS_pI, hK_pR, hL_pR, hI_pR, hR_pR, hJ_pR, hT_pR, hS_pR, hK_pJ, hL_pJ, hI_pJ, hR_pJ, hJ_pJ, hT_pJ, hS_pJ, hK_wI, hL_wI, hI_wI, hR_wI, hJ_wI, hT_wI, hS_wI, eq_self, and_true, true_and, and_false, false_and, or_true, true_or, or_false, false_or, if_true, if_false, not_true_eq_false, not_false_eq_true, forall_const, implies_true, false_implies, true_implies, Option.some.injEq, forall_eq', exists_eq_left', reduceCtorEq, Nat.reduceEqDiff, c1, T_X12_in, T_X12_ones, T_X11_within, T_X11_bit, T_X11_isIn, T_X11_oneIfIn, T_J6_bitCount_0f7a4, hf, h16, c16]
    exact hq0 (fun w => c w.1)
set_option maxRecDepth 100000 in
theorem fin_go {h : Hp} {q : Nat} (hr : LayR h q) {g : Mem} {k : Nat} (hk : k < 2147483648) {act am : Int32} {Q : Option Value → Hp → Prop} (hq1 : k < 16 → Q none (wI h (u2 (u2 (u2 g (q + 6) k act) (q + 7) k am) q 0 (nI (k + 1))))) (hq0 : ¬ k < 16 → Q none (wI h g)) : T_X7_finishLine [.ref q, .int (nI k), .int act, .int am] (wI h g) Q := by
  have hr2 : LayR (wI h g) q := hr
  have h16 : nI k < (16 : Int32) ↔ k < 16 := nI_ltI (b := 16) hk (by decide)
  have g1 : k < 16 → Q none (pI (pI (pI (wI h g) (q + 6) k act) (q + 7) k am) q 0 (nI (k + 1))) := hq1
  unfold T_X7_finishLine
  generalize wI h g = H at hr2 g1 hq0 ⊢
  have hf := hr2.f
  by_cases c : k < 16
  · simp only [b_X7_finishLine_0, i_push, i_ild, i_ald, i_ist, i_ast, i_inc, i_bin, i_un, i_divs, i_i2l, i_lshl, i_lor, i_dup, i_dup2, i_pop, i_if, i_cmp, i_nul, i_vret, i_iret, i_zret, i_aret, i_keep, keep, lget, lset, ent, i_getI, i_getJ, i_getR, i_getN, i_putI, i_putZ, i_putJ, i_putR, i_iald, i_bald, i_alen, i_aald, i_iast, i_bast, i_aast, i_new, i_newa, i_anew, i_oini, i_callS, i_callV, i_callI, popn, sh4, i_sw, swP, i_copy, i_binS, List.map, Option.toList_none, Option.toList_some, List.append, List.nil_append, List.cons_append, List.length_cons, List.length_nil, List.replicate, Nat.sub_self, Nat.reduceSub, Nat.reduceAdd, hK_pI, hL_pI, hI_pI, hR_pI, hJ_pI, hT_pI, hS_pI, hK_pR, hL_pR, hI_pR, hR_pR, hJ_pR, hT_pR, hS_pR, hK_pJ, hL_pJ, hI_pJ, hR_pJ, hJ_pJ, hT_pJ, hS_pJ, hK_wI, hL_wI, hI_wI, hR_wI, hJ_wI, hT_wI, hS_wI, eq_self, and_true, true_and, and_false, false_and, or_true, true_or, or_false, false_or, if_true, if_false, not_true_eq_false, not_false_eq_true, forall_const, implies_true, false_implies, true_implies, Option.some.injEq, forall_eq', exists_eq_left', reduceCtorEq, Nat.reduceEqDiff, c1, T_X12_in, T_X12_ones, T_X11_within, T_X11_bit, T_X11_isIn, T_X11_oneIfIn, T_J6_bitCount_0f7a4, hf, h16, c, cl_nI hk, in_nI c (by decide), nI_1]
    exact g1 c
  · simp only [b_X7_finishLine_0, i_push, i_ild, i_ald, i_ist, i_ast, i_inc, i_bin, i_un, i_divs, i_i2l, i_lshl, i_lor, i_dup, i_dup2, i_pop, i_if, i_cmp, i_nul, i_vret, i_iret, i_zret, i_aret, i_keep, keep, lget, lset, ent, i_getI, i_getJ, i_getR, i_getN, i_putI, i_putZ, i_putJ, i_putR, i_iald, i_bald, i_alen, i_aald, i_iast, i_bast, i_aast, i_new, i_newa, i_anew, i_oini, i_callS, i_callV, i_callI, popn, sh4, i_sw, swP, i_copy, i_binS, List.map, Option.toList_none, Option.toList_some, List.append, List.nil_append, List.cons_append, List.length_cons, List.length_nil, List.replicate, Nat.sub_self, Nat.reduceSub, Nat.reduceAdd, hK_pI, hL_pI, hI_pI, hR_pI, hJ_pI, hT_pI, hS_pI, hK_pR, hL_pR, hI_pR, hR_pR, hJ_pR, hT_pR, hS_pR, hK_pJ, hL_pJ, hI_pJ, hR_pJ, hJ_pJ, hT_pJ, hS_pJ, hK_wI, hL_wI, hI_wI, hR_wI, hJ_wI, hT_wI, hS_wI, eq_self, and_true, true_and, and_false, false_and, or_true, true_or, or_false, false_or, if_true, if_false, not_true_eq_false, not_false_eq_true, forall_const, implies_true, false_implies, true_implies, Option.some.injEq, forall_eq', exists_eq_left', reduceCtorEq, Nat.reduceEqDiff, c1, T_X12_in, T_X12_ones, T_X11_within, T_X11_bit, T_X11_isIn, T_X11_oneIfIn, T_J6_bitCount_0f7a4, hf, h16, c]
    exact hq0 c
