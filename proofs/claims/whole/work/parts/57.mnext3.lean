/-! ===== the reference: next ===== -/
theorem u2_self {α : Type} (f : Nat → Nat → α) (a j : Nat) (x : α) (h : f a j = x) : u2 f a j x = f := by
  funext b i
  unfold u2
  by_cases c : b = a ∧ i = j
  · rw [if_pos c, c.1, c.2, h]
  · rw [if_neg c]
theorem pI_self (h : Hp) (a j : Nat) (x : Int32) (e : hI h a j = x) : pI h a j x = h := by
  show (hK h, hL h, u2 (hI h) a j x, hR h, hJ h, hT h, hS h) = h
  rw [u2_self _ _ _ _ e]; rfl
theorem pJ_self (h : Hp) (a j : Nat) (x : Int64) (e : hJ h a j = x) : pJ h a j x = h := by
  show (hK h, hL h, hI h, hR h, u2 (hJ h) a j x, hT h, hS h) = h
  rw [u2_self _ _ _ _ e]; rfl
/-- the heap behind the blanks -/
def nG (h : Hp) (b : Nat) : Hp := pI (pI h 44 37 (nI b)) 44 39 (nI b)
theorem nG_l {h : Hp} (hl : LayM h) (b : Nat) : LayM (nG h b) := hl
theorem nG_37 (h : Hp) (b : Nat) : hI (nG h b) 44 37 = nI b := by
  unfold nG
  rw [hI_pI, if_neg (by decide), hI_pI, if_pos ⟨rfl, rfl⟩]
theorem nG_o (h : Hp) (b : Nat) {a i : Nat} (h1 : ¬ (a = 44 ∧ (i = 37 ∨ i = 39))) : hI (nG h b) a i = hI h a i := by
  unfold nG
  rw [hI_pI, if_neg (fun z => h1 ⟨z.1, Or.inr z.2⟩), hI_pI, if_neg (fun z => h1 ⟨z.1, Or.inl z.2⟩)]
/-- the token's fields are written -/
theorem nx_of (h : Hp) (L a : Nat) (B : Nat → Int32) (hB : B = fun k => hI h 45 k &&& 255) (b e : Nat) (o v : Int32) (w : Int64) (hb : b = kB B L a) (he : e = tkE B L b) (ho : o = tkO B L b) (hv : v = tkV B L b) (hw : w = tkW B L b)
    (f : Nat → Nat → Int32) (g : Nat → Nat → Int64) (f1 : f 44 37 = nI e) (f2 : f 44 39 = nI b) (f3 : f 44 40 = o) (f4 : f 44 41 = v) (g1 : g 44 42 = w) (fo : ∀ x i, ¬ (x = 44 ∧ (i = 37 ∨ i = 39 ∨ i = 40 ∨ i = 41)) → f x i = hI h x i) (go : ∀ x i, ¬ (x = 44 ∧ i = 42) → g x i = hJ h x i) : NX (hI h) f (hJ h) g L a := by
  subst hB hb he ho hv hw
  exact ⟨f1, f2, f3, f4, g1, fo, go⟩
set_option maxRecDepth 100000 in
set_option maxHeartbeats 400000 in
theorem nx_43 (Q : Option Value → Hp → Prop) (h : Hp) (hl0 : LayM h) (L a b : Nat) (hL : L ≤ 500) (h38 : hI h 44 38 = nI L) (B : Nat → Int32) (hB : B = fun k => hI h 45 k &&& 255) (hb : b = kB B L a) (hbL : b ≤ L)
    (hq : ∀ f g, NX (hI h) f (hJ h) g L a → Q none (wIJ h f g)) : c_X12_next_43 Q [some (.ref 44), none, none] [.int (sB B L b)] (nG h b) := by
  have hB' : ∀ i, hI h 45 i &&& 255 = B i := fun i => by rw [hB]
  by_cases c : b < L
  · have eX : sB B L b = B b := if_pos c
    rw [eX]
    obtain ⟨n, hn, en⟩ := by255 (hI h 45 b)
    have eb : B b = nI n := by rw [hB]; exact en
    have hge : 0 ≤ B b := by rw [eb]; exact nI_pos' (by omega)
    obtain ⟨G2, hG2⟩ : ∃ G2, G2 = pJ (pI (nG h b) 44 41 (B b)) 44 42 0 := ⟨_, rfl⟩
    have G2I : ∀ x i, hI G2 x i = if x = 44 ∧ i = 41 then B b else hI (nG h b) x i := fun x i => by rw [hG2, hI_pJ, hI_pI]
    have G2J : ∀ x i, hJ G2 x i = if x = 44 ∧ i = 42 then 0 else hJ h x i := fun x i => by rw [hG2]; rfl
    have G2l : LayM G2 := by rw [hG2]; exact hl0
    have G237 : hI G2 44 37 = nI b := by rw [G2I, if_neg (by decide)]; exact nG_37 h b
    have G238 : hI G2 44 38 = nI L := by rw [G2I, if_neg (by decide), nG_o h b (by decide)]; exact h38
    have G2B : ∀ i, hI G2 45 i &&& 255 = B i := fun i => by rw [G2I, if_neg (fun z => absurd z.1 (by decide)), nG_o h b (fun z => absurd z.1 (by decide))]; exact hB' i
    have G2w : G2 = wIJ h (hI G2) (hJ G2) := by rw [hG2]; rfl
    -- a word
    have h79 : isLe (B b) → wp 1 MX12_next Q 79 [some (.ref 44), none, some (.int 0)] [] G2 := by
      intro cl
      have := nx_79 Q G2 G2l L b c hL G238 B G2B (by
        have e : pI (hw G2 (eL B L b) (if 8 < eL B L b - b then 0 else wv B b (eL B L b - b))) 44 40 2 = wIJ h (u2 (u2 (hI G2) 44 37 (nI (eL B L b))) 44 40 2) (u2 (hJ G2) 44 42 (if 8 < eL B L b - b then 0 else wv B b (eL B L b - b))) := by
          rw [G2w]; rfl
        rw [e]
        refine hq _ _ (nx_of h L a B hB b (eL B L b) 2 (B b) (if 8 < eL B L b - b then 0 else wv B b (eL B L b - b)) hb (by unfold tkE; rw [cif_t c, cif_t cl]) (by unfold tkO; rw [cif_t c, cif_t cl]) (by unfold tkV; rw [cif_t c, cif_t cl]) (by unfold tkW; rw [cif_t c, cif_t cl]) _ _ ?_ ?_ u2_eq ?_ (if_pos ⟨rfl, rfl⟩) (fun x i hx => ?_) (fun x i hx => ?_))
        · rw [u2_ne (by decide), u2_eq]
        · rw [u2_ne (by decide), u2_ne (by decide), G2I, if_neg (by decide)]
          unfold nG; rw [hI_pI, if_pos ⟨rfl, rfl⟩]
        · rw [u2_ne (by decide), u2_ne (by decide), G2I, if_pos ⟨rfl, rfl⟩]
        · rw [u2_ne (fun z => hx ⟨z.1, by omega⟩), u2_ne (fun z => hx ⟨z.1, by omega⟩), G2I, if_neg (fun z => hx ⟨z.1, by omega⟩), nG_o h b (fun z => hx ⟨z.1, by omega⟩)]
        · show u2 (hJ G2) 44 42 _ x i = _
          unfold u2
          rw [if_neg hx, G2J, if_neg hx]) (L - b) 0 (by omega) (by omega) (fun k k1 k2 => by omega)
      have e : hw G2 (b + 0) (wv B b 0) = G2 := by
        unfold hw
        rw [Nat.add_zero, pI_self _ _ _ _ G237]
        exact pJ_self G2 44 42 _ (by rw [G2J, if_pos ⟨rfl, rfl⟩]; rfl)
      rw [e] at this
      exact this
    -- a number
    have h170 : ¬ isLe (B b) → isDi (B b) → wp 1 MX12_next Q 170 [some (.ref 44), none, some (.int 0)] [] (pI G2 44 41 0) := by
      intro cl cd
      have := nx_170 Q G2 G2l L b c hL G238 B G2B (by
        have e : pI (hd G2 (eD B L b) (nv B b (eD B L b - b))) 44 40 (if 4 < eD B L b - b then 1 else 3) = wIJ h (u2 (u2 (u2 (hI G2) 44 41 (nv B b (eD B L b - b))) 44 37 (nI (eD B L b))) 44 40 (if 4 < eD B L b - b then 1 else 3)) (hJ G2) := by
          rw [G2w]; rfl
        rw [e]
        refine hq _ _ (nx_of h L a B hB b (eD B L b) (if 4 < eD B L b - b then 1 else 3) (nv B b (eD B L b - b)) 0 hb (by unfold tkE; rw [cif_t c, cif_f cl, cif_t cd]) (by unfold tkO; rw [cif_t c, cif_f cl, cif_t cd]) (by unfold tkV; rw [cif_t c, cif_f cl, cif_t cd]) (by unfold tkW; rw [cif_t c, cif_f cl]) _ _ ?_ ?_ u2_eq ?_ (by rw [G2J, if_pos ⟨rfl, rfl⟩]) (fun x i hx => ?_) (fun x i hx => ?_))
        · rw [u2_ne (by decide), u2_eq]
        · rw [u2_ne (by decide), u2_ne (by decide), u2_ne (by decide), G2I, if_neg (by decide)]
          unfold nG; rw [hI_pI, if_pos ⟨rfl, rfl⟩]
        · rw [u2_ne (by decide), u2_ne (by decide), u2_eq]
        · rw [u2_ne (fun z => hx ⟨z.1, by omega⟩), u2_ne (fun z => hx ⟨z.1, by omega⟩), u2_ne (fun z => hx ⟨z.1, by omega⟩), G2I, if_neg (fun z => hx ⟨z.1, by omega⟩), nG_o h b (fun z => hx ⟨z.1, by omega⟩)]
        · rw [G2J, if_neg hx]) (L - b) 0 (by omega) (by omega) (fun k k1 k2 => by omega)
      have e : hd G2 (b + 0) (nv B b 0) = pI G2 44 41 0 := by
        unfold hd
        rw [Nat.add_zero, pI_self]
        · rfl
        · rw [hI_pI, if_neg (by decide)]; exact G237
      rw [e] at this
      exact this
    -- another byte
    have hfin : ∀ o, ¬ isLe (B b) → ¬ isDi (B b) → (o = tkO B L b) → Q none (pI (pI G2 44 37 (nI (b + 1))) 44 40 o) := by
      intro o cl cd ho
      have e : pI (pI G2 44 37 (nI (b + 1))) 44 40 o = wIJ h (u2 (u2 (hI G2) 44 37 (nI (b + 1))) 44 40 o) (hJ G2) := by
        rw [G2w]; rfl
      rw [e]
      refine hq _ _ (nx_of h L a B hB b (b + 1) o (B b) 0 hb (by unfold tkE; rw [cif_t c, cif_f cl, cif_f cd]) ho (by unfold tkV; rw [cif_t c, cif_f cl, cif_f cd]) (by unfold tkW; rw [cif_t c, cif_f cl]) _ _ ?_ ?_ u2_eq ?_ (by rw [G2J, if_pos ⟨rfl, rfl⟩]) (fun x i hx => ?_) (fun x i hx => ?_))
      · rw [u2_ne (by decide), u2_eq]
      · rw [u2_ne (by decide), u2_ne (by decide), G2I, if_neg (by decide)]
        unfold nG; rw [hI_pI, if_pos ⟨rfl, rfl⟩]
      · rw [u2_ne (by decide), u2_ne (by decide), G2I, if_pos ⟨rfl, rfl⟩]
      · rw [u2_ne (fun z => hx ⟨z.1, by omega⟩), u2_ne (fun z => hx ⟨z.1, by omega⟩), G2I, if_neg (fun z => hx ⟨z.1, by omega⟩), nG_o h b (fun z => hx ⟨z.1, by omega⟩)]
      · rw [G2J, if_neg hx]
    have h295 : ¬ isLe (B b) → ¬ isDi (B b) → isSg (B b) → wp 1 MX12_next Q 295 [none, none, none] [.ref 44] (pI G2 44 37 (nI (b + 1))) := by
      intro cl cd cs
      have := hfin 4 cl cd (by unfold tkO; rw [cif_t c, cif_f cl, cif_f cd, cif_t cs])
      have hl2 : LayM (pI G2 44 37 (nI (b + 1))) := G2l
      refine s_X12_next_295 Q _ _ _ ?_
      generalize pI G2 44 37 (nI (b + 1)) = H at hl2 this ⊢
      have hkk := (lm_k hl2).1
      have htt := (lm_t hl2).1
      simp only [b_X12_next_295, i_push, i_ild, i_ald, i_ist, i_ast, i_inc, i_bin, i_un, i_divs, i_i2l, i_lshl, i_lor, i_dup, i_dup2, i_pop, i_if, i_cmp, i_nul, i_vret, i_iret, i_zret, i_aret, i_keep, keep, lget, lset, ent, i_getI, i_getJ, i_getR, i_getN, i_putI, i_putZ, i_putJ, i_putR, i_iald, i_bald, i_alen, i_aald, i_iast, i_bast, i_aast, i_new, i_newa, i_anew, i_oini, i_callS, i_callV, i_callI, popn, sh4, i_sw, swP, i_copy, i_binS, List.map, Option.toList_none, Option.toList_some, List.append, List.nil_append, List.cons_append, List.length_cons, List.length_nil, List.replicate, Nat.sub_self, Nat.reduceSub, Nat.reduceAdd, hK_pI, hL_pI, hI_pI, hR_pI, hJ_pI, hT_pI, hS_pI, hK_pR, hL_pR, hI_pR, hR_pR, hJ_pR, hT_pR, hS_pR, hK_pJ, hL_pJ, hI_pJ, hR_pJ, hJ_pJ, hT_pJ, hS_pJ, hK_wI, hL_wI, hI_wI, hR_wI, hJ_wI, hT_wI, hS_wI, eq_self, and_true, true_and, and_false, false_and, or_true, true_or, or_false, false_or, if_true, if_false, not_true_eq_false, not_false_eq_true, forall_const, implies_true, false_implies, true_implies, Option.some.injEq, forall_eq', exists_eq_left', reduceCtorEq, Nat.reduceEqDiff, c1, T_X12_in, T_X12_ones, T_X11_within, T_X11_bit, T_X11_isIn, T_X11_oneIfIn, T_J6_bitCount_0f7a4, hkk, htt]
      exact this
    have hf1 : ¬ isLe (B b) → ¬ isDi (B b) → ¬ isSg (B b) → Q none (pI (pI G2 44 37 (nI (b + 1))) 44 40 1) := fun cl cd cs => hfin 1 cl cd (by unfold tkO; rw [cif_t c, cif_f cl, cif_f cd, cif_f cs])
    have hG0 : LayM (nG h b) := nG_l hl0 b
    have e37 : hI (nG h b) 44 37 = nI b := nG_37 h b
    rw [hG2] at h79 h170 h295 hf1
    generalize nG h b = H at hG0 e37 h79 h170 h295 hf1 ⊢
    generalize B b = X at hge h79 h170 h295 hf1 ⊢
    have hkk := (lm_k hG0).1
    have htt := (lm_t hG0).1
    simp only [c_X12_next_43, i_push, i_ild, i_ald, i_ist, i_ast, i_inc, i_bin, i_un, i_divs, i_i2l, i_lshl, i_lor, i_dup, i_dup2, i_pop, i_if, i_cmp, i_nul, i_vret, i_iret, i_zret, i_aret, i_keep, keep, lget, lset, ent, i_getI, i_getJ, i_getR, i_getN, i_putI, i_putZ, i_putJ, i_putR, i_iald, i_bald, i_alen, i_aald, i_iast, i_bast, i_aast, i_new, i_newa, i_anew, i_oini, i_callS, i_callV, i_callI, popn, sh4, i_sw, swP, i_copy, i_binS, List.map, Option.toList_none, Option.toList_some, List.append, List.nil_append, List.cons_append, List.length_cons, List.length_nil, List.replicate, Nat.sub_self, Nat.reduceSub, Nat.reduceAdd, hK_pI, hL_pI, hI_pI, hR_pI, hJ_pI, hT_pI, hS_pI, hK_pR, hL_pR, hI_pR, hR_pR, hJ_pR, hT_pR, hS_pR, hK_pJ, hL_pJ, hI_pJ, hR_pJ, hJ_pJ, hT_pJ, hS_pJ, hK_wI, hL_wI, hI_wI, hR_wI, hJ_wI, hT_wI, hS_wI, eq_self, and_true, true_and, and_false, false_and, or_true, true_or, or_false, false_or, if_true, if_false, not_true_eq_false, not_false_eq_true, forall_const, implies_true, false_implies, true_implies, Option.some.injEq, forall_eq', exists_eq_left', reduceCtorEq, Nat.reduceEqDiff, c1, T_X12_in, T_X12_ones, T_X11_within, T_X11_bit, T_X11_isIn, T_X11_oneIfIn, T_J6_bitCount_0f7a4, hkk, htt, b2i_0, e37, nI_1]
    refine ⟨fun _ => ⟨fun c1 => ⟨fun c2 => ⟨fun z => h295 c1 c2 (Or.inl z), fun z1 => ⟨fun z => h295 c1 c2 (Or.inr (Or.inl z)), fun z2 => ⟨fun z => h295 c1 c2 (Or.inr (Or.inr (Or.inl z))), fun z3 => ⟨fun z => h295 c1 c2 (Or.inr (Or.inr (Or.inr (Or.inl z)))), fun z4 => ⟨fun z => h295 c1 c2 (Or.inr (Or.inr (Or.inr (Or.inr (Or.inl z))))), fun z5 => ⟨fun z => h295 c1 c2 (Or.inr (Or.inr (Or.inr (Or.inr (Or.inr z))))), fun z6 => hf1 c1 c2 ?_⟩⟩⟩⟩⟩⟩, fun c2 => h170 c1 (Classical.not_not.mp c2)⟩, fun c1 => h79 (Classical.not_not.mp c1)⟩, fun z => absurd hge z⟩
    rintro (z | z | z | z | z | z)
    · exact z1 z
    · exact z2 z
    · exact z3 z
    · exact z4 z
    · exact z5 z
    · exact z6 z
  · have eX : sB B L b = -1 := if_neg c
    rw [eX]
    have hfin : Q none (pI (pJ (pI (nG h b) 44 41 (-1)) 44 42 0) 44 40 0) := by
      have e : pI (pJ (pI (nG h b) 44 41 (-1)) 44 42 0) 44 40 0 = wIJ h (u2 (u2 (hI (nG h b)) 44 41 (-1)) 44 40 0) (u2 (hJ h) 44 42 0) := rfl
      rw [e]
      refine hq _ _ (nx_of h L a B hB b b 0 (-1) 0 hb (by unfold tkE; rw [cif_f c]) (by unfold tkO; rw [cif_f c]) (by unfold tkV; rw [cif_f c]) (by unfold tkW; rw [cif_f c]) _ _ ?_ ?_ u2_eq ?_ (if_pos ⟨rfl, rfl⟩) (fun x i hx => ?_) (fun x i hx => ?_))
      · rw [u2_ne (by decide), u2_ne (by decide)]; exact nG_37 h b
      · rw [u2_ne (by decide), u2_ne (by decide)]
        unfold nG; rw [hI_pI, if_pos ⟨rfl, rfl⟩]
      · rw [u2_ne (by decide), u2_eq]
      · rw [u2_ne (fun z => hx ⟨z.1, by omega⟩), u2_ne (fun z => hx ⟨z.1, by omega⟩), nG_o h b (fun z => hx ⟨z.1, by omega⟩)]
      · unfold u2; rw [if_neg hx]
    have hG0 : LayM (nG h b) := nG_l hl0 b
    generalize nG h b = H at hG0 hfin ⊢
    have hkk := (lm_k hG0).1
    have htt := (lm_t hG0).1
    simp only [c_X12_next_43, i_push, i_ild, i_ald, i_ist, i_ast, i_inc, i_bin, i_un, i_divs, i_i2l, i_lshl, i_lor, i_dup, i_dup2, i_pop, i_if, i_cmp, i_nul, i_vret, i_iret, i_zret, i_aret, i_keep, keep, lget, lset, ent, i_getI, i_getJ, i_getR, i_getN, i_putI, i_putZ, i_putJ, i_putR, i_iald, i_bald, i_alen, i_aald, i_iast, i_bast, i_aast, i_new, i_newa, i_anew, i_oini, i_callS, i_callV, i_callI, popn, sh4, i_sw, swP, i_copy, i_binS, List.map, Option.toList_none, Option.toList_some, List.append, List.nil_append, List.cons_append, List.length_cons, List.length_nil, List.replicate, Nat.sub_self, Nat.reduceSub, Nat.reduceAdd, hK_pI, hL_pI, hI_pI, hR_pI, hJ_pI, hT_pI, hS_pI, hK_pR, hL_pR, hI_pR, hR_pR, hJ_pR, hT_pR, hS_pR, hK_pJ, hL_pJ, hI_pJ, hR_pJ, hJ_pJ, hT_pJ, hS_pJ, hK_wI, hL_wI, hI_wI, hR_wI, hJ_wI, hT_wI, hS_wI, eq_self, and_true, true_and, and_false, false_and, or_true, true_or, or_false, false_or, if_true, if_false, not_true_eq_false, not_false_eq_true, forall_const, implies_true, false_implies, true_implies, Option.some.injEq, forall_eq', exists_eq_left', reduceCtorEq, Nat.reduceEqDiff, c1, T_X12_in, T_X12_ones, T_X11_within, T_X11_bit, T_X11_isIn, T_X11_oneIfIn, T_J6_bitCount_0f7a4, hkk, htt, b2i_0, show ¬ (0 : Int32) ≤ -1 by decide]
    exact hfin
theorem sB_bl {B : Nat → Int32} {L k : Nat} : (sB B L k = 10 ∨ sB B L k = 32) ↔ sBl B L k := by
  unfold sB sBl isBl
  by_cases c : k < L
  · rw [if_pos c]; exact ⟨fun z => ⟨c, z⟩, fun z => z.2⟩
  · rw [if_neg c]; exact ⟨fun z => absurd z (by decide), fun z => absurd z.1 c⟩
set_option maxRecDepth 100000 in
set_option maxHeartbeats 400000 in
theorem nx_0 (Q : Option Value → Hp → Prop) (h : Hp) (hl0 : LayM h) (L a : Nat) (hL : L ≤ 500) (h38 : hI h 44 38 = nI L) (B : Nat → Int32) (hB : B = fun k => hI h 45 k &&& 255)
    (hq : ∀ f g, NX (hI h) f (hJ h) g L a → Q none (wIJ h f g)) :
    ∀ (m k : Nat), m = L - k → k ≤ L → a ≤ k → (∀ j, a ≤ j → j < k → sBl B L j) → wp 1 MX12_next Q 0 [some (.ref 44), none, none] [] (pI h 44 37 (nI k)) := by
  have hstop : ∀ k, k ≤ L → a ≤ k → (∀ j, a ≤ j → j < k → sBl B L j) → ¬ sBl B L k → wp 1 MX12_next Q 0 [some (.ref 44), none, none] [] (pI h 44 37 (nI k)) := by
    intro k hkL hak hall c
    have hbk : k = kB B L a := (nxN_at hak hall c).symm
    have hl : LayM (pI h 44 37 (nI k)) := hl0
    have e37 : hI (pI h 44 37 (nI k)) 44 37 = nI k := by rw [hI_pI, if_pos ⟨rfl, rfl⟩]
    have e38 : hI (pI h 44 37 (nI k)) 44 38 = nI L := by rw [hI_pI, if_neg (by decide)]; exact h38
    have eB : ∀ i, hI (pI h 44 37 (nI k)) 45 i &&& 255 = B i := fun i => by rw [hI_pI, if_neg (fun z => absurd z.1 (by decide)), hB]
    have hx : ¬ (sB B L k = 10 ∨ sB B L k = 32) := fun z => c (sB_bl.mp z)
    have hc43 : T_X12_see [.ref 44] (nG h k) (fun r h' => c_X12_next_43 Q [some (.ref 44), none, none] (r.toList ++ []) h') := by
      refine see_ok (nG_l hl0 k) (by omega) hL (nG_37 h k) ((nG_o h k (by decide)).trans h38) (B := B) (fun i => by rw [nG_o h k (fun z => absurd z.1 (by decide)), hB]) ?_
      exact nx_43 Q h hl0 L a k hL h38 B hB hbk hkL hq
    have hn : nG h k = pI (pI h 44 37 (nI k)) 44 39 (nI k) := rfl
    rw [hn] at hc43
    have hc13 : T_X12_see [.ref 44] (pI h 44 37 (nI k)) (fun r h' => c_X12_next_13 Q [some (.ref 44), none, none] (r.toList ++ []) h') := by
      refine see_ok hl (by omega) hL e37 e38 eB ?_
      show c_X12_next_13 Q _ [.int (sB B L k)] _
      generalize sB B L k = X at hx ⊢
      generalize pI h 44 37 (nI k) = H at hl e37 hc43 ⊢
      have hkk := (lm_k hl).1
      have htt := (lm_t hl).1
      simp only [c_X12_next_13, i_push, i_ild, i_ald, i_ist, i_ast, i_inc, i_bin, i_un, i_divs, i_i2l, i_lshl, i_lor, i_dup, i_dup2, i_pop, i_if, i_cmp, i_nul, i_vret, i_iret, i_zret, i_aret, i_keep, keep, lget, lset, ent, i_getI, i_getJ, i_getR, i_getN, i_putI, i_putZ, i_putJ, i_putR, i_iald, i_bald, i_alen, i_aald, i_iast, i_bast, i_aast, i_new, i_newa, i_anew, i_oini, i_callS, i_callV, i_callI, popn, sh4, i_sw, swP, i_copy, i_binS, List.map, Option.toList_none, Option.toList_some, List.append, List.nil_append, List.cons_append, List.length_cons, List.length_nil, List.replicate, Nat.sub_self, Nat.reduceSub, Nat.reduceAdd, hK_pI, hL_pI, hI_pI, hR_pI, hJ_pI, hT_pI, hS_pI, hK_pR, hL_pR, hI_pR, hR_pR, hJ_pR, hT_pR, hS_pR, hK_pJ, hL_pJ, hI_pJ, hR_pJ, hJ_pJ, hT_pJ, hS_pJ, hK_wI, hL_wI, hI_wI, hR_wI, hJ_wI, hT_wI, hS_wI, eq_self, and_true, true_and, and_false, false_and, or_true, true_or, or_false, false_or, if_true, if_false, not_true_eq_false, not_false_eq_true, forall_const, implies_true, false_implies, true_implies, Option.some.injEq, forall_eq', exists_eq_left', reduceCtorEq, Nat.reduceEqDiff, c1, T_X12_in, T_X12_ones, T_X11_within, T_X11_bit, T_X11_isIn, T_X11_oneIfIn, T_J6_bitCount_0f7a4, hkk, htt, e37]
      exact ⟨fun z => absurd (Or.inr z) hx, fun _ => hc43⟩
    have hc4 : T_X12_see [.ref 44] (pI h 44 37 (nI k)) (fun r h' => c_X12_next_4 Q [some (.ref 44), none, none] (r.toList ++ []) h') := by
      refine see_ok hl (by omega) hL e37 e38 eB ?_
      show c_X12_next_4 Q _ [.int (sB B L k)] _
      generalize sB B L k = X at hx ⊢
      generalize pI h 44 37 (nI k) = H at hl hc13 ⊢
      have hkk := (lm_k hl).1
      have htt := (lm_t hl).1
      simp only [c_X12_next_4, i_push, i_ild, i_ald, i_ist, i_ast, i_inc, i_bin, i_un, i_divs, i_i2l, i_lshl, i_lor, i_dup, i_dup2, i_pop, i_if, i_cmp, i_nul, i_vret, i_iret, i_zret, i_aret, i_keep, keep, lget, lset, ent, i_getI, i_getJ, i_getR, i_getN, i_putI, i_putZ, i_putJ, i_putR, i_iald, i_bald, i_alen, i_aald, i_iast, i_bast, i_aast, i_new, i_newa, i_anew, i_oini, i_callS, i_callV, i_callI, popn, sh4, i_sw, swP, i_copy, i_binS, List.map, Option.toList_none, Option.toList_some, List.append, List.nil_append, List.cons_append, List.length_cons, List.length_nil, List.replicate, Nat.sub_self, Nat.reduceSub, Nat.reduceAdd, hK_pI, hL_pI, hI_pI, hR_pI, hJ_pI, hT_pI, hS_pI, hK_pR, hL_pR, hI_pR, hR_pR, hJ_pR, hT_pR, hS_pR, hK_pJ, hL_pJ, hI_pJ, hR_pJ, hJ_pJ, hT_pJ, hS_pJ, hK_wI, hL_wI, hI_wI, hR_wI, hJ_wI, hT_wI, hS_wI, eq_self, and_true, true_and, and_false, false_and, or_true, true_or, or_false, false_or, if_true, if_false, not_true_eq_false, not_false_eq_true, forall_const, implies_true, false_implies, true_implies, Option.some.injEq, forall_eq', exists_eq_left', reduceCtorEq, Nat.reduceEqDiff, c1, T_X12_in, T_X12_ones, T_X11_within, T_X11_bit, T_X11_isIn, T_X11_oneIfIn, T_J6_bitCount_0f7a4, hkk, htt]
      exact ⟨fun z => absurd (Or.inl z) hx, fun _ => hc13⟩
    refine s_X12_next_0 Q _ _ _ ?_
    generalize pI h 44 37 (nI k) = H at hl hc4 ⊢
    have hkk := (lm_k hl).1
    have htt := (lm_t hl).1
    simp only [b_X12_next_0, i_push, i_ild, i_ald, i_ist, i_ast, i_inc, i_bin, i_un, i_divs, i_i2l, i_lshl, i_lor, i_dup, i_dup2, i_pop, i_if, i_cmp, i_nul, i_vret, i_iret, i_zret, i_aret, i_keep, keep, lget, lset, ent, i_getI, i_getJ, i_getR, i_getN, i_putI, i_putZ, i_putJ, i_putR, i_iald, i_bald, i_alen, i_aald, i_iast, i_bast, i_aast, i_new, i_newa, i_anew, i_oini, i_callS, i_callV, i_callI, popn, sh4, i_sw, swP, i_copy, i_binS, List.map, Option.toList_none, Option.toList_some, List.append, List.nil_append, List.cons_append, List.length_cons, List.length_nil, List.replicate, Nat.sub_self, Nat.reduceSub, Nat.reduceAdd, hK_pI, hL_pI, hI_pI, hR_pI, hJ_pI, hT_pI, hS_pI, hK_pR, hL_pR, hI_pR, hR_pR, hJ_pR, hT_pR, hS_pR, hK_pJ, hL_pJ, hI_pJ, hR_pJ, hJ_pJ, hT_pJ, hS_pJ, hK_wI, hL_wI, hI_wI, hR_wI, hJ_wI, hT_wI, hS_wI, eq_self, and_true, true_and, and_false, false_and, or_true, true_or, or_false, false_or, if_true, if_false, not_true_eq_false, not_false_eq_true, forall_const, implies_true, false_implies, true_implies, Option.some.injEq, forall_eq', exists_eq_left', reduceCtorEq, Nat.reduceEqDiff, c1, T_X12_in, T_X12_ones, T_X11_within, T_X11_bit, T_X11_isIn, T_X11_oneIfIn, T_J6_bitCount_0f7a4, hkk, htt]
    exact hc4
  intro m
  induction m with
  | zero =>
    intro k hm hk hak hall
    exact hstop k hk hak hall (fun z => by have := z.1; omega)
  | succ m ih =>
    intro k hm hkL hak hall
    by_cases c : sBl B L k
    · have hgo := ih (k + 1) (by omega) (by omega) (by omega) (fun j j1 j2 => by
        by_cases e : j = k
        · rw [e]; exact c
        · exact hall j j1 (by omega))
      rw [← pI_pI h 44 37 (nI k)] at hgo
      have hl : LayM (pI h 44 37 (nI k)) := hl0
      have e37 : hI (pI h 44 37 (nI k)) 44 37 = nI k := by rw [hI_pI, if_pos ⟨rfl, rfl⟩]
      have e38 : hI (pI h 44 37 (nI k)) 44 38 = nI L := by rw [hI_pI, if_neg (by decide)]; exact h38
      have eB : ∀ i, hI (pI h 44 37 (nI k)) 45 i &&& 255 = B i := fun i => by rw [hI_pI, if_neg (fun z => absurd z.1 (by decide)), hB]
      have hx := sB_bl.mpr c
      have h18 : wp 1 MX12_next Q 18 [some (.ref 44), none, none] [] (pI h 44 37 (nI k)) := by
        refine s_X12_next_18 Q _ _ _ ?_
        generalize pI h 44 37 (nI k) = H at hl e37 hgo ⊢
        have hkk := (lm_k hl).1
        have htt := (lm_t hl).1
        simp only [b_X12_next_18, i_push, i_ild, i_ald, i_ist, i_ast, i_inc, i_bin, i_un, i_divs, i_i2l, i_lshl, i_lor, i_dup, i_dup2, i_pop, i_if, i_cmp, i_nul, i_vret, i_iret, i_zret, i_aret, i_keep, keep, lget, lset, ent, i_getI, i_getJ, i_getR, i_getN, i_putI, i_putZ, i_putJ, i_putR, i_iald, i_bald, i_alen, i_aald, i_iast, i_bast, i_aast, i_new, i_newa, i_anew, i_oini, i_callS, i_callV, i_callI, popn, sh4, i_sw, swP, i_copy, i_binS, List.map, Option.toList_none, Option.toList_some, List.append, List.nil_append, List.cons_append, List.length_cons, List.length_nil, List.replicate, Nat.sub_self, Nat.reduceSub, Nat.reduceAdd, hK_pI, hL_pI, hI_pI, hR_pI, hJ_pI, hT_pI, hS_pI, hK_pR, hL_pR, hI_pR, hR_pR, hJ_pR, hT_pR, hS_pR, hK_pJ, hL_pJ, hI_pJ, hR_pJ, hJ_pJ, hT_pJ, hS_pJ, hK_wI, hL_wI, hI_wI, hR_wI, hJ_wI, hT_wI, hS_wI, eq_self, and_true, true_and, and_false, false_and, or_true, true_or, or_false, false_or, if_true, if_false, not_true_eq_false, not_false_eq_true, forall_const, implies_true, false_implies, true_implies, Option.some.injEq, forall_eq', exists_eq_left', reduceCtorEq, Nat.reduceEqDiff, c1, T_X12_in, T_X12_ones, T_X11_within, T_X11_bit, T_X11_isIn, T_X11_oneIfIn, T_J6_bitCount_0f7a4, hkk, htt, e37, nI_1]
        exact hgo
      have hc13 : ¬ sB B L k = 10 → T_X12_see [.ref 44] (pI h 44 37 (nI k)) (fun r h' => c_X12_next_13 Q [some (.ref 44), none, none] (r.toList ++ []) h') := by
        intro n10
        refine see_ok hl (by omega) hL e37 e38 eB ?_
        show c_X12_next_13 Q _ [.int (sB B L k)] _
        generalize sB B L k = X at hx n10 ⊢
        generalize pI h 44 37 (nI k) = H at hl h18 ⊢
        have hkk := (lm_k hl).1
        have htt := (lm_t hl).1
        simp only [c_X12_next_13, i_push, i_ild, i_ald, i_ist, i_ast, i_inc, i_bin, i_un, i_divs, i_i2l, i_lshl, i_lor, i_dup, i_dup2, i_pop, i_if, i_cmp, i_nul, i_vret, i_iret, i_zret, i_aret, i_keep, keep, lget, lset, ent, i_getI, i_getJ, i_getR, i_getN, i_putI, i_putZ, i_putJ, i_putR, i_iald, i_bald, i_alen, i_aald, i_iast, i_bast, i_aast, i_new, i_newa, i_anew, i_oini, i_callS, i_callV, i_callI, popn, sh4, i_sw, swP, i_copy, i_binS, List.map, Option.toList_none, Option.toList_some, List.append, List.nil_append, List.cons_append, List.length_cons, List.length_nil, List.replicate, Nat.sub_self, Nat.reduceSub, Nat.reduceAdd, hK_pI, hL_pI, hI_pI, hR_pI, hJ_pI, hT_pI, hS_pI, hK_pR, hL_pR, hI_pR, hR_pR, hJ_pR, hT_pR, hS_pR, hK_pJ, hL_pJ, hI_pJ, hR_pJ, hJ_pJ, hT_pJ, hS_pJ, hK_wI, hL_wI, hI_wI, hR_wI, hJ_wI, hT_wI, hS_wI, eq_self, and_true, true_and, and_false, false_and, or_true, true_or, or_false, false_or, if_true, if_false, not_true_eq_false, not_false_eq_true, forall_const, implies_true, false_implies, true_implies, Option.some.injEq, forall_eq', exists_eq_left', reduceCtorEq, Nat.reduceEqDiff, c1, T_X12_in, T_X12_ones, T_X11_within, T_X11_bit, T_X11_isIn, T_X11_oneIfIn, T_J6_bitCount_0f7a4, hkk, htt]
        exact ⟨fun z => h18, fun z => absurd hx (by rintro (y | y); exact n10 y; exact z y)⟩
      have hc4 : T_X12_see [.ref 44] (pI h 44 37 (nI k)) (fun r h' => c_X12_next_4 Q [some (.ref 44), none, none] (r.toList ++ []) h') := by
        refine see_ok hl (by omega) hL e37 e38 eB ?_
        show c_X12_next_4 Q _ [.int (sB B L k)] _
        generalize sB B L k = X at hx hc13 ⊢
        generalize pI h 44 37 (nI k) = H at hl h18 hc13 ⊢
        have hkk := (lm_k hl).1
        have htt := (lm_t hl).1
        simp only [c_X12_next_4, i_push, i_ild, i_ald, i_ist, i_ast, i_inc, i_bin, i_un, i_divs, i_i2l, i_lshl, i_lor, i_dup, i_dup2, i_pop, i_if, i_cmp, i_nul, i_vret, i_iret, i_zret, i_aret, i_keep, keep, lget, lset, ent, i_getI, i_getJ, i_getR, i_getN, i_putI, i_putZ, i_putJ, i_putR, i_iald, i_bald, i_alen, i_aald, i_iast, i_bast, i_aast, i_new, i_newa, i_anew, i_oini, i_callS, i_callV, i_callI, popn, sh4, i_sw, swP, i_copy, i_binS, List.map, Option.toList_none, Option.toList_some, List.append, List.nil_append, List.cons_append, List.length_cons, List.length_nil, List.replicate, Nat.sub_self, Nat.reduceSub, Nat.reduceAdd, hK_pI, hL_pI, hI_pI, hR_pI, hJ_pI, hT_pI, hS_pI, hK_pR, hL_pR, hI_pR, hR_pR, hJ_pR, hT_pR, hS_pR, hK_pJ, hL_pJ, hI_pJ, hR_pJ, hJ_pJ, hT_pJ, hS_pJ, hK_wI, hL_wI, hI_wI, hR_wI, hJ_wI, hT_wI, hS_wI, eq_self, and_true, true_and, and_false, false_and, or_true, true_or, or_false, false_or, if_true, if_false, not_true_eq_false, not_false_eq_true, forall_const, implies_true, false_implies, true_implies, Option.some.injEq, forall_eq', exists_eq_left', reduceCtorEq, Nat.reduceEqDiff, c1, T_X12_in, T_X12_ones, T_X11_within, T_X11_bit, T_X11_isIn, T_X11_oneIfIn, T_J6_bitCount_0f7a4, hkk, htt]
        exact ⟨fun z => h18, fun z => hc13 z⟩
      refine s_X12_next_0 Q _ _ _ ?_
      generalize pI h 44 37 (nI k) = H at hl hc4 ⊢
      have hkk := (lm_k hl).1
      have htt := (lm_t hl).1
      simp only [b_X12_next_0, i_push, i_ild, i_ald, i_ist, i_ast, i_inc, i_bin, i_un, i_divs, i_i2l, i_lshl, i_lor, i_dup, i_dup2, i_pop, i_if, i_cmp, i_nul, i_vret, i_iret, i_zret, i_aret, i_keep, keep, lget, lset, ent, i_getI, i_getJ, i_getR, i_getN, i_putI, i_putZ, i_putJ, i_putR, i_iald, i_bald, i_alen, i_aald, i_iast, i_bast, i_aast, i_new, i_newa, i_anew, i_oini, i_callS, i_callV, i_callI, popn, sh4, i_sw, swP, i_copy, i_binS, List.map, Option.toList_none, Option.toList_some, List.append, List.nil_append, List.cons_append, List.length_cons, List.length_nil, List.replicate, Nat.sub_self, Nat.reduceSub, Nat.reduceAdd, hK_pI, hL_pI, hI_pI, hR_pI, hJ_pI, hT_pI, hS_pI, hK_pR, hL_pR, hI_pR, hR_pR, hJ_pR, hT_pR, hS_pR, hK_pJ, hL_pJ, hI_pJ, hR_pJ, hJ_pJ, hT_pJ, hS_pJ, hK_wI, hL_wI, hI_wI, hR_wI, hJ_wI, hT_wI, hS_wI, eq_self, and_true, true_and, and_false, false_and, or_true, true_or, or_false, false_or, if_true, if_false, not_true_eq_false, not_false_eq_true, forall_const, implies_true, false_implies, true_implies, Option.some.injEq, forall_eq', exists_eq_left', reduceCtorEq, Nat.reduceEqDiff, c1, T_X12_in, T_X12_ones, T_X11_within, T_X11_bit, T_X11_isIn, T_X11_oneIfIn, T_J6_bitCount_0f7a4, hkk, htt]
      exact hc4
    · exact hstop k hkL hak hall c
set_option maxRecDepth 100000 in
theorem ok_X12_next : ctr 1 MX12_next T_X12_next := by
  refine ctr_of pn_X12 wc_X12_next (fun av h Q hT => ?_)
  unfold T_X12_next at hT
  split at hT
  · obtain ⟨rfl, hl, a, L, haL, hL, h37, h38, hq⟩ := hT
    refine ⟨⟨by simp [Value.category], Nat.le_of_ble_eq_true rfl⟩, ?_⟩
    have := nx_0 Q h hl L a hL h38 _ rfl hq (L - a) a rfl haL (Nat.le_refl _) (fun j j1 j2 => by omega)
    rw [pI_self _ _ _ _ h37] at this
    exact this
  · exact hT.elim
