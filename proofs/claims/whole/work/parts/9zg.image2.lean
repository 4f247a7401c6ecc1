/-! ===== steps: image, the coupling behind it ===== -/
theorem im_cp {h : Hp} (hc : CP h) {j b : Nat} (hj : j < 3) (b9 : 90 ≤ b) {X : Hp} (xT : hT h ≤ hT X) (xKL : ∀ a, a < hT h → hK X a = hK h a ∧ hL X a = hL h a ∧ ∀ i, hI X a i = hI h a i) (xR : ∀ a i, a < hT h → ¬ (a = 30 ∧ i = j) → hR X a i = hR h a i) (x30 : hR X 30 j = some b) (xS : LayS X b (b + 1))
    (dN : ∀ n R, LayN h n R → ∀ i, i ≤ 3 → ¬ (b ≤ n + i ∧ n + i ≤ b + 18)) (dR : ∀ q, LayR h q → ∀ i, i ≤ 7 → ¬ (b ≤ q + i ∧ q + i ≤ b + 18)) (dS : ∀ b', LayS h b' (b' + 1) → b' ≠ b → ∀ i, i ≤ 18 → ¬ (b ≤ b' + i ∧ b' + i ≤ b + 18)) (dI : ∀ k, k < 3 → k ≠ j → ¬ hR h 30 k = some b)
    {h2 : Hp} (k1 : hK h2 = hK X) (k2 : hL h2 = hL X) (k4 : hT h2 = hT X) (r3 : hR h2 b 3 = hR X 3 3) (r4 : hR h2 b 4 = hR X 3 4) (rO : ∀ a i, ¬ (a = b ∧ (i = 3 ∨ i = 4)) → hR h2 a i = hR X a i)
    (iB : ∀ o i, cpS o i → hI h2 (b + 1 + o) i = hI X (12 + o) i) (iM : ∀ a i, 46 ≤ a → a ≤ 79 → hI h2 a i = if szA a * (j + 1) ≤ i ∧ i < szA a * (j + 1) + szA a then hI X a (i - szA a * (j + 1)) else hI X a i) (i89 : ∀ i, hI h2 89 i = if i = j then 1 else hI X 89 i)
    (iO : ∀ a i, ¬ (46 ≤ a ∧ a ≤ 79) → a ≠ 89 → ¬ (a = 44 ∧ i = 0) → ¬ (b ≤ a ∧ a ≤ b + 18) → hI h2 a i = hI X a i) : CP h2 := by
  have hl := hc.1
  have hm := hc.2.1
  have him := hc.2.2.2.2
  have t9 := hl.1
  have gK : ∀ a, a < hT h → hK h2 a = hK h a := fun a ha => by rw [k1]; exact (xKL a ha).1
  have gL : ∀ a, a < hT h → hL h2 a = hL h a := fun a ha => by rw [k2]; exact (xKL a ha).2.1
  have gT : hT h ≤ hT h2 := by rw [k4]; exact xT
  have gR : ∀ a i, a < hT h → ¬ (a = 30 ∧ i = j) → ¬ (a = b ∧ (i = 3 ∨ i = 4)) → hR h2 a i = hR h a i := fun a i ha n1 n2 => (rO a i n2).trans (xR a i ha n1)
  have gI : ∀ a i, a < hT h → ¬ (46 ≤ a ∧ a ≤ 79) → a ≠ 89 → ¬ (a = 44 ∧ i = 0) → ¬ (b ≤ a ∧ a ≤ b + 18) → hI h2 a i = hI h a i := fun a i ha n1 n2 n3 n4 => (iO a i n1 n2 n3 n4).trans ((xKL a ha).2.2 i)
  have kq : Kq (fun a => (90 ≤ a ∨ (4 ≤ a ∧ a ≤ 11)) ∧ ¬ (b ≤ a ∧ a ≤ b + 18)) h h2 := ⟨gT, fun a ha => ⟨gK a ha, gL a ha⟩, fun a i ha hd => ⟨gI a i ha (by omega) (by omega) (by omega) hd.2, gR a i ha (by omega) (by omega)⟩, fun n R hn i hi => ⟨Or.inl (by have := hn.1; omega), dN n R hn i hi⟩, fun q hq i hi => ⟨by have := hq.1; omega, dR q hq i hi⟩⟩
  have lX : LayX h2 := LayX_of hl (by omega) (fun a ha => gK a (by omega)) (fun a ha => gL a (by omega)) (fun a i ha _ n30 => gR a i (by omega) (by omega) (by omega))
  have lM : LayM h2 := LayM_of hm (by omega) (fun a _ ha => gK a (by omega)) (fun a _ ha => gL a (by omega)) (fun i => gR 44 i (by omega) (by omega) (by omega))
  have iS : ∀ a i, 46 ≤ a → a ≤ 79 → ¬ (szA a * (j + 1) ≤ i ∧ i < szA a * (j + 1) + szA a) → hI h2 a i = hI h a i := fun a i a1 a2 n1 => by
    rw [iM a i a1 a2, if_neg n1]; exact (xKL a (by omega)).2.2 i
  obtain ⟨R, P, H, E, Ln, q, np, hs⟩ := hc.2.2.2.1
  refine ⟨lX, lM, TF.c (funext fun i => gI 0 i (by omega) (by omega) (by omega) (by omega) (by omega)) (funext fun i => gI 1 i (by omega) (by omega) (by omega) (by omega) (by omega)) (funext fun i => gI 2 i (by omega) (by omega) (by omega) (by omega) (by omega)) (funext fun i => gI 45 i (by omega) (by omega) (by omega) (by omega) (by omega)) (fun i hi => gI 44 i (by omega) (by omega) (by omega) (by omega) (by omega)) hc.2.2.1, ⟨R, P, H, E, Ln, q, np, ?_⟩, ?_, ?_⟩
  · refine ST.mv kq lX.s (gR 3 3 (by omega) (by omega) (by omega)) (gR 3 4 (by omega) (by omega) (by omega)) (fun o i hcs => ?_) (fun a i a1 a2 a3 => ?_) hs
    · have ho : o ≤ 17 := lc_St (lc_Sc hcs)
      exact gI _ _ (by omega) (by omega) (by omega) (by omega) (by omega)
    · refine iS a i a1 a2 (fun w => ?_)
      have := Nat.mul_le_mul_left (szA a) (show 1 ≤ j + 1 by omega)
      omega
  · intro k hk
    by_cases ek : k = j
    · subst ek
      refine Or.inr ⟨by rw [i89, if_pos rfl], b, (rO 30 k (by omega)).trans x30, b9, R, P, H, E, Ln, q, np, ?_⟩
      have lb : LayS h2 b (b + 1) := LayS.kq (h := X) (by omega) (fun a _ => ⟨by rw [k1], by rw [k2]⟩) (fun a i _ n2 => rO a i n2) (by omega) xS
      refine ST.mv kq lb (r3.trans (xR 3 3 (by omega) (by omega))) (r4.trans (xR 3 4 (by omega) (by omega))) (fun o i hcs => ?_) (fun a i a1 a2 a3 => ?_) hs
      · have ho : o ≤ 17 := lc_St (lc_Sc hcs)
        rw [iB o i hcs]
        exact (xKL _ (by omega)).2.2 i
      · show hI h2 a (szA a * (k + 1) + i) = hI h a i
        rw [iM _ _ a1 a2, if_pos ⟨by omega, by omega⟩, show szA a * (k + 1) + i - szA a * (k + 1) = i by omega]
        exact (xKL a (by omega)).2.2 i
    · have e89 : hI h2 89 k = hI h 89 k := by rw [i89, if_neg ek]; exact (xKL 89 (by omega)).2.2 k
      have e30 : hR h2 30 k = hR h 30 k := gR 30 k (by omega) (by omega) (by omega)
      rw [e89, e30]
      rcases him.1 k hk with z | ⟨z, b', hb', b9', R', P', H', E', Ln', q', np', hs'⟩
      · exact Or.inl z
      · have nb : b' ≠ b := fun e => dI k hk ek (by rw [hb', e])
        have hap := dS b' hs'.1 nb
        have t1 := hs'.1.1
        have t2 := hs'.1.2.1
        have hap' : ∀ a, b' ≤ a → a ≤ b' + 18 → ¬ (b ≤ a ∧ a ≤ b + 18) := fun a a1 a2 => by
          have := hap (a - b') (by omega)
          rw [show b' + (a - b') = a by omega] at this
          exact this
        refine Or.inr ⟨z, b', hb', b9', R', P', H', E', Ln', q', np', ?_⟩
        have lb : LayS h2 b' (b' + 1) := LayS.kq gT (fun a ha => ⟨gK a ha, gL a ha⟩) (fun a i ha n2 => by
          have a1 : b' ≤ a := by omega
          have a2 : a ≤ b' + 18 := by omega
          have a3 := hap' a a1 a2
          exact gR a i (by omega) (by omega) (by omega)) (by omega) hs'.1
        refine ST.mv kq lb (gR b' 3 (by omega) (by omega) (by omega)) (gR b' 4 (by omega) (by omega) (by omega)) (fun o i hcs => ?_) (fun a i a1 a2 a3 => ?_) hs'
        · have ho : o ≤ 17 := lc_St (lc_Sc hcs)
          exact gI _ _ (by omega) (by omega) (by omega) (by omega) (hap' _ (by omega) (by omega))
        · refine iS a _ a1 a2 (fun w => ?_)
          rcases Nat.lt_or_gt_of_ne ek with e | e
          · have := Nat.mul_le_mul_left (szA a) (show k + 1 + 1 ≤ j + 1 by omega)
            rw [Nat.mul_add (szA a) (k + 1) 1, Nat.mul_one] at this
            omega
          · have := Nat.mul_le_mul_left (szA a) (show j + 1 + 1 ≤ k + 1 by omega)
            rw [Nat.mul_add (szA a) (j + 1) 1, Nat.mul_one] at this
            omega
  · intro k k' b' hk hk' hne hb
    by_cases e1 : k = j
    · subst e1
      rw [rO 30 k (by omega), x30] at hb
      cases hb
      rw [gR 30 k' (by omega) (by omega) (by omega)]
      exact dI k' hk' (fun e => hne e.symm)
    · rw [gR 30 k (by omega) (by omega) (by omega)] at hb
      by_cases e2 : k' = j
      · subst e2
        rw [rO 30 k' (by omega), x30]
        intro e
        cases e
        exact dI k hk e1 hb
      · rw [gR 30 k' (by omega) (by omega) (by omega)]
        exact him.2 k k' b' hk hk' hne hb
theorem im_ref {hA : Hp} (mA : LayM hA) {j : Nat} (hj : j < 3) (Q : Option Value → Hp → Prop) (hq : Q (some (.int 1)) (pI (cpU (pI hA 44 0 0) 0 (j + 1) 80) 89 j 1)) : T_X12_image [.ref 44, .int (nI j)] hA Q := by
  have e3 : (2 : Int32) = nI 3 - 1 := by decide
  have mB : LayM (pI hA 44 0 0) := mA.pI _ _ _
  have mC : LayM (cpU (pI hA 44 0 0) 0 (j + 1) 80) := mB
  have e24 : c_X12_image_24 Q [some (.ref 44), some (.int (nI j))] [] (cpU (pI hA 44 0 0) 0 (j + 1) 80) := by
    generalize cpU (pI hA 44 0 0) 0 (j + 1) 80 = Y at mC hq ⊢
    have hl := mC
    simp only [c_X12_image_24, hl, lay_pI, lay_wI, lay_pJ, lm_t hl, lm_k hl, lm_r hl, lm_l hl, i_push, i_ild, i_ald, i_ist, i_ast, i_inc, i_bin, i_un, i_divs, i_i2l, i_lshl, i_lor, i_dup, i_dup2, i_pop, i_if, i_cmp, i_nul, i_vret, i_iret, i_zret, i_aret, i_keep, keep, lget, lset, ent, i_getI, i_getJ, i_getR, i_getN, i_putI, i_putZ, i_putJ, i_putR, i_iald, i_bald, i_alen, i_aald, i_iast, i_bast, i_aast, i_new, i_newa, i_anew, i_oini, i_callS, i_callV, i_callI, popn, sh4, i_sw, swP, i_copy, i_binS, List.map, Option.toList_none, Option.toList_some, List.append, List.nil_append, List.cons_append, List.length_cons, List.length_nil, List.replicate, Nat.sub_self, Nat.reduceSub, Nat.reduceAdd, hK_pX, hL_pX, hI_pX, hR_pX, hJ_pX, hT_pX, hS_pX, hK_pR, hL_pR, hI_pR, hR_pR, hJ_pR, hT_pR, hS_pR, hK_pJ, hL_pJ, hI_pJ, hR_pJ, hJ_pJ, hT_pJ, hS_pJ, hK_wI, hL_wI, hI_wI, hR_wI, hJ_wI, hT_wI, hS_wI, eq_self, and_true, true_and, and_false, false_and, or_true, true_or, or_false, false_or, if_true, if_false, not_true_eq_false, not_false_eq_true, forall_const, implies_true, false_implies, true_implies, Option.some.injEq, forall_eq', exists_eq_left', reduceCtorEq, Nat.reduceEqDiff, c1, T_X12_in, T_X12_ones, T_X11_within, T_X11_bit, T_X11_isIn, T_X11_oneIfIn, T_J6_bitCount_0f7a4, cl_nI (show j < 2147483648 by omega), in_nI (show j < 3 by omega) (by decide)]
    exact hq
  have hcp : T_X12_copy [.ref 44, .int 0, .int (nI j + 1)] (pI hA 44 0 0) (fun r h' => c_X12_image_24 Q [some (.ref 44), some (.int (nI j))] (r.toList ++ []) h') := ⟨0, j + 1, rfl, nI_1 j, rfl, mB, by omega, by decide, by omega, e24⟩
  clear e24
  generalize hW : T_X12_copy = W at hcp
  have hl := mA
  unfold T_X12_image
  simp only [b_X12_image_0, hl, lay_pI, lay_wI, lay_pJ, lm_t hl, lm_k hl, lm_r hl, lm_l hl, i_push, i_ild, i_ald, i_ist, i_ast, i_inc, i_bin, i_un, i_divs, i_i2l, i_lshl, i_lor, i_dup, i_dup2, i_pop, i_if, i_cmp, i_nul, i_vret, i_iret, i_zret, i_aret, i_keep, keep, lget, lset, ent, i_getI, i_getJ, i_getR, i_getN, i_putI, i_putZ, i_putJ, i_putR, i_iald, i_bald, i_alen, i_aald, i_iast, i_bast, i_aast, i_new, i_newa, i_anew, i_oini, i_callS, i_callV, i_callI, popn, sh4, i_sw, swP, i_copy, i_binS, List.map, Option.toList_none, Option.toList_some, List.append, List.nil_append, List.cons_append, List.length_cons, List.length_nil, List.replicate, Nat.sub_self, Nat.reduceSub, Nat.reduceAdd, hK_pX, hL_pX, hI_pX, hR_pX, hJ_pX, hT_pX, hS_pX, hK_pR, hL_pR, hI_pR, hR_pR, hJ_pR, hT_pR, hS_pR, hK_pJ, hL_pJ, hI_pJ, hR_pJ, hJ_pJ, hT_pJ, hS_pJ, hK_wI, hL_wI, hI_wI, hR_wI, hJ_wI, hT_wI, hS_wI, eq_self, and_true, true_and, and_false, false_and, or_true, true_or, or_false, false_or, if_true, if_false, not_true_eq_false, not_false_eq_true, forall_const, implies_true, false_implies, true_implies, Option.some.injEq, forall_eq', exists_eq_left', reduceCtorEq, Nat.reduceEqDiff, c1, T_X12_in, T_X12_ones, T_X11_within, T_X11_bit, T_X11_isIn, T_X11_oneIfIn, T_J6_bitCount_0f7a4, b2i_0, e3, per_ix (show 3 ≤ 100000 by decide), cl_nI (show j < 2147483648 by omega), in_nI (show j < 3 by omega) (by decide), hW]
  exact ⟨fun w => absurd ⟨j, hj, rfl⟩ w, fun _ => hcp⟩
theorem st_image {h : Hp} (hc : CP h) (k : Int32) : SOK 4 MX11_image 2 MX12_image [.int k] h := by
  have hl := hc.1
  have hm := hc.2.1
  have him := hc.2.2.2.2
  have t9 := hl.1
  have e3 : (2 : Int32) = nI 3 - 1 := by decide
  obtain ⟨R, P, H, E, Ln, q, np, hs⟩ := hc.2.2.2.1
  have hq3 := hs.2.1
  by_cases c : ∃ j, j < 3 ∧ k = nI j
  · obtain ⟨j, hj, rfl⟩ := c
    -- X: the class's heap before copyFrom
    have main : ∀ (b : Nat) (X : Hp), 90 ≤ b → hT h ≤ hT X → hT X ≤ hT h + 20 → hS X ≤ hS h + 2000 → (∀ a, a < hT h → hK X a = hK h a ∧ hL X a = hL h a ∧ ∀ i, hI X a i = hI h a i) → (∀ a i, a < hT h → ¬ (a = 30 ∧ i = j) → hR X a i = hR h a i) → hR X 30 j = some b → LayS X b (b + 1) → (∀ n R, LayN h n R → ∀ i, i ≤ 3 → ¬ (b ≤ n + i ∧ n + i ≤ b + 18)) → (∀ q, LayR h q → ∀ i, i ≤ 7 → ¬ (b ≤ q + i ∧ q + i ≤ b + 18)) → (∀ b', LayS h b' (b' + 1) → b' ≠ b → ∀ i, i ≤ 18 → ¬ (b ≤ b' + i ∧ b' + i ≤ b + 18)) → (∀ k, k < 3 → k ≠ j → ¬ hR h 30 k = some b) → (∀ Q : Option Value → Hp → Prop, T_X8_copyFrom [.ref b, .ref 3] X (fun _ h' => Q (some (.int 1)) h') → cal 4 MX11_image [.ref 0, .int (nI j)] h Q) → SOK 4 MX11_image 2 MX12_image [.int (nI j)] h := by
      intro b X b9 xT xT2 xS2 xKL xR x30 xS dN dR dS dI hcal
      have lx : LayX X := LayX_of hl (by omega) (fun a a4 => (xKL a (by omega)).1) (fun a a4 => (xKL a (by omega)).2.1) (fun a i a4 _ n30 => xR a i (by omega) (by omega))
      have lm : LayM X := LayM_of hm (by omega) (fun a _ a4 => (xKL a (by omega)).1) (fun a _ a4 => (xKL a (by omega)).2.1) (fun i => xR 44 i (by omega) (by omega))
      have hd : 12 + 17 < b + 1 ∨ b + 1 + 17 < 12 := Or.inl (by omega)
      obtain ⟨f1, f2, f3, f4, f5, f6, f7, f8⟩ := cpS8_f X (s := 3) (s' := b) hd
      have l3 : LayS X 3 12 := lx.s
      have hb3 : 3 ≠ b := by omega
      have q3 : hR X 3 3 = some q := (xR 3 3 (by omega) (by omega)).trans hq3
      have cls : ∀ Q : Option Value → Hp → Prop, Q (some (.int 1)) (cpS8 X 3 12 b (b + 1)) → cal 4 MX11_image [.ref 0, .int (nI j)] h Q := fun Q hq => hcal Q ⟨12, b + 1, q, l3, xS, hb3, q3, hq⟩
      generalize cpS8 X 3 12 b (b + 1) = hA at f1 f2 f3 f4 f5 f6 f7 f8 cls
      have mA : LayM hA := LayM_of lm (by rw [f7]; exact lm.1) (fun a _ _ => by rw [f5]) (fun a _ _ => by rw [f6]) (fun i => f4 44 i (by omega))
      have iB : ∀ a i, hI (cpU (pI hA 44 0 0) 0 (j + 1) 80) a i = if (46 ≤ a ∧ a < 80) ∧ szA a * (j + 1) ≤ i ∧ i < szA a * (j + 1) + szA a then hI (pI hA 44 0 0) a (szA a * 0 + (i - szA a * (j + 1))) else hI (pI hA 44 0 0) a i := fun a i => rfl
      have kB : hK (cpU (pI hA 44 0 0) 0 (j + 1) 80) = hK hA ∧ hL (cpU (pI hA 44 0 0) 0 (j + 1) 80) = hL hA ∧ hR (cpU (pI hA 44 0 0) 0 (j + 1) 80) = hR hA ∧ hT (cpU (pI hA 44 0 0) 0 (j + 1) 80) = hT hA ∧ hS (cpU (pI hA 44 0 0) 0 (j + 1) 80) = hS hA := ⟨rfl, rfl, rfl, rfl, rfl⟩
      have ref : ∀ Q : Option Value → Hp → Prop, Q (some (.int 1)) (pI (cpU (pI hA 44 0 0) 0 (j + 1) 80) 89 j 1) → cal 2 MX12_image [.ref 44, .int (nI j)] hA Q := fun Q hq => ok_X12_image _ _ _ (im_ref mA hj Q hq)
      generalize cpU (pI hA 44 0 0) 0 (j + 1) 80 = h3 at iB kB ref
      obtain ⟨k1, k2, k3, k4, k5⟩ := kB
      have iP : ∀ a i, ¬ (a = 44 ∧ i = 0) → hI (pI hA 44 0 0) a i = hI hA a i := fun a i n1 => by rw [hI_pX, if_neg n1]
      refine wr 1 hA (pI h3 89 j 1) cls ref ?_ (by rw [hT_pX, k4, f7]; exact xT2) (by rw [hS_pX, k5, f8]; exact xS2) (lm_k mA).1
      refine im_cp hc hj b9 xT xKL xR x30 xS dN dR dS dI (by rw [hK_pX, k1, f5]) (by rw [hL_pX, k2, f6]) (by rw [hT_pX, k4, f7]) (by rw [hR_pX, k3]; exact f3.1) (by rw [hR_pX, k3]; exact f3.2) (fun a i n1 => by rw [hR_pX, k3]; exact f4 a i n1) (fun o i hcs => ?_) (fun a i a1 a2 => ?_) (fun i => ?_) (fun a i n1 n2 n3 n4 => ?_)
      · have ho : o ≤ 17 := lc_St (lc_Sc hcs)
        rw [hI_pX, if_neg (by omega), iB, if_neg (by omega), iP _ _ (by omega)]
        exact f1 o i hcs
      · rw [hI_pX, if_neg (by omega), iB]
        by_cases w : szA a * (j + 1) ≤ i ∧ i < szA a * (j + 1) + szA a
        · rw [if_pos w, if_pos ⟨⟨a1, by omega⟩, w⟩, iP _ _ (by omega), f2 _ _ (by omega), Nat.mul_zero, Nat.zero_add]
        · rw [if_neg w, if_neg (fun z => w z.2), iP _ _ (by omega), f2 _ _ (by omega)]
      · by_cases e : i = j
        · rw [hI_pX, if_pos ⟨rfl, e⟩, if_pos e]
        · rw [hI_pX, if_neg (fun z => e z.2), if_neg e, iB, if_neg (by omega), iP _ _ (by omega), f2 _ _ (by omega)]
      · rw [hI_pX, if_neg (fun z => n2 z.1), iB, if_neg (by omega), iP _ _ n3, f2 _ _ (by omega)]
    rcases him.1 j hj with ⟨z, hb⟩ | ⟨z, b, hb, b9, R', P', H', E', Ln', q', np', hs'⟩
    · have l1 : hT (nC h 8 (fN 8)) = hT h + 1 := hT_nC ..
      have k1 : hK (nC h 8 (fN 8)) (hT h) = 8 := by rw [hK_nC, if_pos rfl]
      obtain ⟨z1, z2, z3, z4, z5⟩ := s8_lay (h := nC h 8 (fN 8)) (o := hT h) (q := q) (by rw [l1]; exact Nat.lt_succ_self _) k1
      rw [l1] at z1 z2 z4 z5
      have cls : ∀ Q : Option Value → Hp → Prop, T_X8_copyFrom [.ref (hT h), .ref 3] (imN h j q) (fun _ h' => Q (some (.int 1)) h') → cal 4 MX11_image [.ref 0, .int (nI j)] h Q := fun Q hq => ok_X11_image _ _ _ (image_go hl hq3 (fun w => absurd ⟨j, hj, rfl⟩ w) (fun j' hj' ej => by
        have : j' = j := (nI_eq (by omega) (by omega)).mp ej.symm
        subst this
        refine ⟨fun _ => hq, fun b' hb' => ?_⟩
        rw [hb] at hb'; cases hb'))
      have sN : hS (nC h 8 (fN 8)) = hS h + fN 8 := hS_nC ..
      have f8 : fN 8 ≤ 100 := by decide
      unfold imN at cls
      generalize hX : pR (s8C (nC h 8 (fN 8)) (hT h)) (hT h) 3 (some q) = X0 at z1 z2 z3 z4 z5 cls
      refine main (hT h) (pR X0 30 j (some (hT h))) (by omega) (by rw [hT_pR]; omega) (by rw [hT_pR]; omega) (by rw [hS_pR]; omega) (fun a ha => ?_) (fun a i ha n1 => ?_) (by rw [hR_pR, if_pos ⟨rfl, rfl⟩]) ?_ (fun n R hn i hi w => by have := hn.2.1; omega) (fun q hq i hi w => by have := hq.2.1; omega) (fun b' hb' _ i hi w => by have := hb'.2.1; omega) (fun k hk hkj w => ?_) cls
      · obtain ⟨y1, y2, y3⟩ := z4 a (by omega)
        refine ⟨by rw [hK_pR, y1, hK_nC, if_neg (by omega)], by rw [hL_pR, y2, hL_nC, if_neg (by omega)], fun i => by rw [hI_pR, y3, hI_nC, if_neg (by omega)]⟩
      · rw [hR_pR, if_neg n1, z5 a i (by omega) (by omega), hR_nC, if_neg (by omega)]
      · exact LayS.kq (h := X0) (by rw [hT_pR]; exact Nat.le_refl _) (fun a _ => ⟨by rw [hK_pR], by rw [hL_pR]⟩) (fun a i ha _ => by rw [hR_pR, if_neg (by omega)]) (by omega) z1
      · rcases him.1 k hk with y | ⟨_, b', hb', b9', R', P', H', E', Ln', q', np', hs'⟩
        · rw [y.2] at w; cases w
        · rw [hb'] at w
          cases w
          have := hs'.1.1
          omega
    · refine main b h b9 (Nat.le_refl _) (Nat.le_add_right _ _) (Nat.le_add_right _ _) (fun a _ => ⟨rfl, rfl, fun _ => rfl⟩) (fun a i _ _ => rfl) hb hs'.1 (fun n R hn => bk_N hs'.1 hn) (fun q hq => bk_R hs'.1 hq) (fun b' hb' hne => bk_S hs'.1 hb' hne) (fun k hk hkj => him.2 j k b hj hk (fun e => hkj e.symm) hb) (fun Q hq => ok_X11_image _ _ _ (image_go hl hq3 (fun w => absurd ⟨j, hj, rfl⟩ w) (fun j' hj' ej => by
        have : j' = j := (nI_eq (by omega) (by omega)).mp ej.symm
        subst this
        refine ⟨fun w => ?_, fun b' hb' => ?_⟩
        · rw [hb] at w; cases w
        · rw [hb] at hb'; cases hb'
          exact hq)))
  · refine rd 0 hc (fun Q hq => ok_X11_image _ _ _ (image_go hl hq3 (fun _ => hq) (fun j' hj' ej => absurd ⟨j', hj', ej⟩ c))) (fun Q hq => ok_X12_image _ _ _ ?_)
    have hl := hm
    unfold T_X12_image
    simp only [b_X12_image_0, hl, lay_pI, lay_wI, lay_pJ, lm_t hl, lm_k hl, lm_r hl, lm_l hl, i_push, i_ild, i_ald, i_ist, i_ast, i_inc, i_bin, i_un, i_divs, i_i2l, i_lshl, i_lor, i_dup, i_dup2, i_pop, i_if, i_cmp, i_nul, i_vret, i_iret, i_zret, i_aret, i_keep, keep, lget, lset, ent, i_getI, i_getJ, i_getR, i_getN, i_putI, i_putZ, i_putJ, i_putR, i_iald, i_bald, i_alen, i_aald, i_iast, i_bast, i_aast, i_new, i_newa, i_anew, i_oini, i_callS, i_callV, i_callI, popn, sh4, i_sw, swP, i_copy, i_binS, List.map, Option.toList_none, Option.toList_some, List.append, List.nil_append, List.cons_append, List.length_cons, List.length_nil, List.replicate, Nat.sub_self, Nat.reduceSub, Nat.reduceAdd, hK_pX, hL_pX, hI_pX, hR_pX, hJ_pX, hT_pX, hS_pX, hK_pR, hL_pR, hI_pR, hR_pR, hJ_pR, hT_pR, hS_pR, hK_pJ, hL_pJ, hI_pJ, hR_pJ, hJ_pJ, hT_pJ, hS_pJ, hK_wI, hL_wI, hI_wI, hR_wI, hJ_wI, hT_wI, hS_wI, eq_self, and_true, true_and, and_false, false_and, or_true, true_or, or_false, false_or, if_true, if_false, not_true_eq_false, not_false_eq_true, forall_const, implies_true, false_implies, true_implies, Option.some.injEq, forall_eq', exists_eq_left', reduceCtorEq, Nat.reduceEqDiff, c1, T_X12_in, T_X12_ones, T_X11_within, T_X11_bit, T_X11_isIn, T_X11_oneIfIn, T_J6_bitCount_0f7a4, b2i_0, e3, per_ix (show 3 ≤ 100000 by decide), c]
    exact hq
