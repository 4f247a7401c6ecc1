/-! ===== the class: partyOf, giveReason ===== -/
def wdS (f : Mem) (g : Int32) : Nat → Int32
  | 0 => g
  | k + 1 => wdS f g k ||| (if bt g k = true then f 24 k else 0)
theorem b_wdS (f : Mem) (g : Int32) (i : Nat) : ∀ k, bt (wdS f g k) i = true ↔ bt g i = true ∨ ∃ p, p < k ∧ bt g p = true ∧ bt (f 24 p) i = true
  | 0 => by
    rw [wdS]
    exact ⟨fun z => Or.inl z, fun z => by rcases z with z | ⟨p, hp, _⟩; exact z; exact absurd hp (Nat.not_lt_zero _)⟩
  | k + 1 => by
    rw [wdS, b_or, Bool.or_eq_true, b_wdS f g i k]
    constructor
    · rintro ((a | ⟨p, a, b⟩) | z)
      · exact Or.inl a
      · exact Or.inr ⟨p, by omega, b⟩
      · by_cases c : bt g k = true
        · rw [if_pos c] at z; exact Or.inr ⟨k, by omega, c, z⟩
        · rw [if_neg c, b_0] at z; cases z
    · rintro (a | ⟨p, a, b, c⟩)
      · exact Or.inl (Or.inl a)
      · by_cases e : p = k
        · subst e; right; rw [if_pos b]; exact c
        · exact Or.inl (Or.inr ⟨p, by omega, b, c⟩)
def T_X3_partyOf : Tr := fun av h Q => match av with
  | [.ref o, .int p] => o = 16 ∧ LayX h ∧ ∃ J P k, P ≤ 24 ∧ hI h 16 0 = nI P ∧ (∀ q, q < P → hI h 24 q = J 63 q) ∧ Tg J P ∧ p = nI k ∧ k < P ∧ Q (some (.int (grp J P k))) h
  | _ => False
def L_X3_partyOf : List UInt8 := [27, 184, 0, 43, 61, 3, 62, 29, 16, 24, 162, 0, 67, 28, 54, 4, 3, 54, 5, 21, 5, 42, 180, 0, 36, 162, 0, 34, 21, 4, 28, 21, 5, 184, 0, 61, 153, 0, 13, 42, 180, 0, 33, 21, 5, 46, 167, 0, 4, 3, 128, 54, 4, 132, 5, 1, 167, 255, 219, 21, 4, 28, 160, 0, 6, 167, 0, 12, 21, 4, 61, 132, 3, 1, 167, 255, 189, 28, 172]
theorem Lc_X3_partyOf : MX3_partyOf.2.1 = ⟨L_X3_partyOf.toArray⟩ := rfl
theorem D_X3_partyOf_0 : dseq MX3_partyOf.2.1 0 [(.iload_n 1, 1), (.invokestatic 43, 3), (.istore_n 2, 1), (.iconst 0, 1), (.istore_n 3, 1)] := dq Lc_X3_partyOf 0 _ (by decide +kernel)
theorem D_X3_partyOf_7 : dseq MX3_partyOf.2.1 7 [(.iload_n 3, 1), (.bipush 24, 2), (.if_icmp .ge 67, 3), (.iload_n 2, 1), (.istore 4, 2), (.iconst 0, 1), (.istore 5, 2)] := dq Lc_X3_partyOf 7 _ (by decide +kernel)
theorem D_X3_partyOf_77 : dseq MX3_partyOf.2.1 77 [(.iload_n 2, 1), (.ireturn, 1)] := dq Lc_X3_partyOf 77 _ (by decide +kernel)
theorem D_X3_partyOf_19 : dseq MX3_partyOf.2.1 19 [(.iload 5, 2), (.aload_n 0, 1), (.getfield 36, 3), (.if_icmp .ge 34, 3), (.iload 4, 2), (.iload_n 2, 1), (.iload 5, 2), (.invokestatic 61, 3), (.ifCond .eq 13, 3), (.aload_n 0, 1), (.getfield 33, 3), (.iload 5, 2), (.iaload, 1), (.goto 4, 3)] := dq Lc_X3_partyOf 19 _ (by decide +kernel)
theorem D_X3_partyOf_59 : dseq MX3_partyOf.2.1 59 [(.iload 4, 2), (.iload_n 2, 1), (.if_icmp .ne 6, 3), (.goto 12, 3)] := dq Lc_X3_partyOf 59 _ (by decide +kernel)
theorem D_X3_partyOf_68 : dseq MX3_partyOf.2.1 68 [(.iload 4, 2), (.istore_n 2, 1), (.iinc 3 1, 3), (.goto (-67), 3)] := dq Lc_X3_partyOf 68 _ (by decide +kernel)
theorem D_X3_partyOf_49 : dseq MX3_partyOf.2.1 49 [(.iconst 0, 1)] := dq Lc_X3_partyOf 49 _ (by decide +kernel)
theorem D_X3_partyOf_50 : dseq MX3_partyOf.2.1 50 [(.ior, 1), (.istore 4, 2), (.iinc 5 1, 3), (.goto (-37), 3)] := dq Lc_X3_partyOf 50 _ (by decide +kernel)
def b_X3_partyOf_0 (Q : Option Value → Hp → Prop) : Kt := i_ild 1 (i_callS 1 T_X11_bit (i_ist 2 (i_push (.int 0) (i_ist 3 (i_keep [true, false, true, true, false, false] (wp 1 MX3_partyOf Q 7))))))
set_option maxRecDepth 100000 in
theorem s_X3_partyOf_0 (Q : Option Value → Hp → Prop) : ∀ A st h, b_X3_partyOf_0 Q A st h → wp 1 MX3_partyOf Q 0 A st h := (q1 (s_ildn (n := 1) (i := 1) rfl) D_X3_partyOf_0 fun D => (qX (s_callSN ok_X11_bit mo_X11_bit (ch_3_6_ok.2.2.2.2.2.2.1.2 rfl) (ch_3_5_ok.2.2.2.2.2.2.2.2.2.2.2.2.1.1 rfl)) rfl (by decide) D fun D => (qL (s_istn (n := 2) (i := 2) rfl) (by decide) D fun D => (q1 (s_iconst (n := 0) (v := 0) (by decide)) D fun D => (qL (s_istn (n := 3) (i := 3) rfl) (by decide) D fun D => (s_keep [true, false, true, true, false, false] fun _ _ _ h => h))))))
def b_X3_partyOf_7 (Q : Option Value → Hp → Prop) : Kt := i_ild 3 (i_push (.int 24) (i_cmp (fun x y => y ≤ x) (i_ild 2 (i_iret Q)) (i_ild 2 (i_ist 4 (i_push (.int 0) (i_ist 5 (i_keep [true, false, true, true, true, true] (wp 1 MX3_partyOf Q 19))))))))
set_option maxRecDepth 100000 in
theorem s_X3_partyOf_7 (Q : Option Value → Hp → Prop) : ∀ A st h, b_X3_partyOf_7 Q A st h → wp 1 MX3_partyOf Q 7 A st h := (q1 (s_ildn (n := 3) (i := 3) rfl) D_X3_partyOf_7 fun D => (q1 (s_bipush (n := 24) (v := 24) (by decide)) D fun D => (qB s_cmpge 77 (by decide) D (q1 (s_ildn (n := 2) (i := 2) rfl) D_X3_partyOf_77 fun D => (qI rfl D)) fun D => (q1 (s_ildn (n := 2) (i := 2) rfl) D fun D => (qL s_ist (by decide) D fun D => (q1 (s_iconst (n := 0) (v := 0) (by decide)) D fun D => (qL s_ist (by decide) D fun D => (s_keep [true, false, true, true, true, true] fun _ _ _ h => h))))))))
def b_X3_partyOf_19 (Q : Option Value → Hp → Prop) : Kt := i_ild 5 (i_ald 0 (i_getI 3 0 (i_cmp (fun x y => y ≤ x) (i_ild 4 (i_ild 2 (i_cmp (fun x y => x = y) (i_ild 2 (i_iret Q)) (i_ild 4 (i_ist 2 (i_inc 3 1 (i_keep [true, false, true, true, false, false] (wp 1 MX3_partyOf Q 7)))))))) (i_ild 4 (i_ild 2 (i_ild 5 (i_callS 2 T_X11_isIn (i_if (fun x => x = 0) (i_push (.int 0) (i_keep [true, false, true, true, false, true] (wp 1 MX3_partyOf Q 50))) (i_ald 0 (i_getR 3 9 (i_ild 5 (i_iald (i_keep [true, false, true, true, false, true] (wp 1 MX3_partyOf Q 50))))))))))))))
set_option maxRecDepth 100000 in
theorem s_X3_partyOf_19 (Q : Option Value → Hp → Prop) : ∀ A st h, b_X3_partyOf_19 Q A st h → wp 1 MX3_partyOf Q 19 A st h := (q1 s_ild D_X3_partyOf_19 fun D => (q1 (s_aldn (n := 0) (i := 0) rfl) D fun D => (qC fl_X3_36 rfl D fun D => (qB s_cmpge 59 (by decide) D (q1 s_ild D_X3_partyOf_59 fun D => (q1 (s_ildn (n := 2) (i := 2) rfl) D fun D => (qBn s_cmpne2 68 (by decide) D (q1 s_ild D_X3_partyOf_68 fun D => (qL (s_istn (n := 2) (i := 2) rfl) (by decide) D fun D => (qL (s_inc (i := 3) (n := 1) (v := 1) (by decide)) (by decide) D fun D => (qG 7 (by decide) D (s_keep [true, false, true, true, false, false] fun _ _ _ h => h))))) fun D => (qG 77 (by decide) D (q1 (s_ildn (n := 2) (i := 2) rfl) D_X3_partyOf_77 fun D => (qI rfl D)))))) fun D => (q1 s_ild D fun D => (q1 (s_ildn (n := 2) (i := 2) rfl) D fun D => (q1 s_ild D fun D => (qX (s_callSN ok_X11_isIn mo_X11_isIn (ch_3_8_ok.2.2.2.1.2 rfl) (ch_3_7_ok.2.2.2.2.1.1 rfl)) rfl (by decide) D fun D => (qB s_ifeq 49 (by decide) D (q1 (s_iconst (n := 0) (v := 0) (by decide)) D_X3_partyOf_49 fun D => (s_keep [true, false, true, true, false, true] fun _ _ _ h => h)) fun D => (q1 (s_aldn (n := 0) (i := 0) rfl) D fun D => (qC fl_X3_33 rfl D fun D => (q1 s_ild D fun D => (q1 s_iald D fun D => (qG 50 (by decide) D (s_keep [true, false, true, true, false, true] fun _ _ _ h => h)))))))))))))))
def b_X3_partyOf_50 (Q : Option Value → Hp → Prop) : Kt := i_bin (fun x y => x ||| y) (i_ist 4 (i_inc 5 1 (i_keep [true, false, true, true, true, true] (wp 1 MX3_partyOf Q 19))))
set_option maxRecDepth 100000 in
theorem s_X3_partyOf_50 (Q : Option Value → Hp → Prop) : ∀ A st h, b_X3_partyOf_50 Q A st h → wp 1 MX3_partyOf Q 50 A st h := (q1 s_or D_X3_partyOf_50 fun D => (qL s_ist (by decide) D fun D => (qL (s_inc (i := 5) (n := 1) (v := 1) (by decide)) (by decide) D fun D => (qG 19 (by decide) D (s_keep [true, false, true, true, true, true] fun _ _ _ h => h)))))

set_option maxRecDepth 100000 in
set_option maxHeartbeats 400000 in
theorem po_19 (Q : Option Value → Hp → Prop) (h : Hp) (hl : LayX h) (P : Nat) (hP : P ≤ 24) (h16 : hI h 16 0 = nI P) (g rd : Int32)
    (hfix : wdS (hI h) g P = g → Q (some (.int g)) h) (hgo : ¬ wdS (hI h) g P = g → wp 1 MX3_partyOf Q 7 [some (.ref 16), none, some (.int (wdS (hI h) g P)), some (.int (rd + 1)), none, none] [] h) :
    ∀ (m k : Nat), m = P - k → k ≤ P → wp 1 MX3_partyOf Q 19 [some (.ref 16), none, some (.int g), some (.int rd), some (.int (wdS (hI h) g k)), some (.int (nI k))] [] h := by
  intro m
  induction m with
  | zero =>
    intro k hm hk
    have e : k = P := by omega
    subst e
    refine s_X3_partyOf_19 Q _ _ _ ?_
    generalize wdS (hI h) g k = W at hfix hgo ⊢
    simp only [b_X3_partyOf_19, lx_pI, lx_wI, lx_t hl, lx_k hl, lx_r hl, lx_l hl, i_push, i_ild, i_ald, i_ist, i_ast, i_inc, i_bin, i_un, i_divs, i_i2l, i_lshl, i_lor, i_dup, i_dup2, i_pop, i_if, i_cmp, i_nul, i_vret, i_iret, i_zret, i_aret, i_keep, keep, lget, lset, ent, i_getI, i_getJ, i_getR, i_getN, i_putI, i_putZ, i_putJ, i_putR, i_iald, i_bald, i_alen, i_aald, i_iast, i_bast, i_aast, i_new, i_newa, i_anew, i_oini, i_callS, i_callV, i_callI, popn, sh4, i_sw, swP, i_copy, i_binS, List.map, Option.toList_none, Option.toList_some, List.append, List.nil_append, List.cons_append, List.length_cons, List.length_nil, List.replicate, Nat.sub_self, Nat.reduceSub, Nat.reduceAdd, hK_pI, hL_pI, hI_pI, hR_pI, hJ_pI, hT_pI, hS_pI, hK_pR, hL_pR, hI_pR, hR_pR, hJ_pR, hT_pR, hS_pR, hK_pJ, hL_pJ, hI_pJ, hR_pJ, hJ_pJ, hT_pJ, hS_pJ, hK_wI, hL_wI, hI_wI, hR_wI, hJ_wI, hT_wI, hS_wI, eq_self, and_true, true_and, and_false, false_and, or_true, true_or, or_false, false_or, if_true, if_false, not_true_eq_false, not_false_eq_true, forall_const, implies_true, false_implies, true_implies, Option.some.injEq, forall_eq', exists_eq_left', reduceCtorEq, Nat.reduceEqDiff, c1, T_X12_in, T_X12_ones, T_X11_within, T_X11_bit, T_X11_isIn, T_X11_oneIfIn, T_J6_bitCount_0f7a4, h16]
    exact ⟨fun _ => ⟨hfix, hgo⟩, fun z => absurd (nI_le (Nat.le_refl _) (by omega)) z⟩
  | succ m ih =>
    intro k hm hk
    have hn := ih (k + 1) (by omega) (by omega)
    have h50 : ∀ v, v = (if bt g k = true then hI h 24 k else 0) → wp 1 MX3_partyOf Q 50 [some (.ref 16), none, some (.int g), some (.int rd), none, some (.int (nI k))] [.int v, .int (wdS (hI h) g k)] h := by
      intro v hv
      rw [wdS, ← hv] at hn
      refine s_X3_partyOf_50 Q _ _ _ ?_
      generalize wdS (hI h) g k = W at hn ⊢
      simp only [b_X3_partyOf_50, i_push, i_ild, i_ald, i_ist, i_ast, i_inc, i_bin, i_un, i_divs, i_i2l, i_lshl, i_lor, i_dup, i_dup2, i_pop, i_if, i_cmp, i_nul, i_vret, i_iret, i_zret, i_aret, i_keep, keep, lget, lset, ent, i_getI, i_getJ, i_getR, i_getN, i_putI, i_putZ, i_putJ, i_putR, i_iald, i_bald, i_alen, i_aald, i_iast, i_bast, i_aast, i_new, i_newa, i_anew, i_oini, i_callS, i_callV, i_callI, popn, sh4, i_sw, swP, i_copy, i_binS, List.map, Option.toList_none, Option.toList_some, List.append, List.nil_append, List.cons_append, List.length_cons, List.length_nil, List.replicate, Nat.sub_self, Nat.reduceSub, Nat.reduceAdd, hK_pI, hL_pI, hI_pI, hR_pI, hJ_pI, hT_pI, hS_pI, hK_pR, hL_pR, hI_pR, hR_pR, hJ_pR, hT_pR, hS_pR, hK_pJ, hL_pJ, hI_pJ, hR_pJ, hJ_pJ, hT_pJ, hS_pJ, hK_wI, hL_wI, hI_wI, hR_wI, hJ_wI, hT_wI, hS_wI, eq_self, and_true, true_and, and_false, false_and, or_true, true_or, or_false, false_or, if_true, if_false, not_true_eq_false, not_false_eq_true, forall_const, implies_true, false_implies, true_implies, Option.some.injEq, forall_eq', exists_eq_left', reduceCtorEq, Nat.reduceEqDiff, c1, T_X12_in, T_X12_ones, T_X11_within, T_X11_bit, T_X11_isIn, T_X11_oneIfIn, T_J6_bitCount_0f7a4, nI_1]
      exact hn
    refine s_X3_partyOf_19 Q _ _ _ ?_
    generalize wdS (hI h) g k = W at h50 ⊢
    simp only [b_X3_partyOf_19, lx_pI, lx_wI, lx_t hl, lx_k hl, lx_r hl, lx_l hl, i_push, i_ild, i_ald, i_ist, i_ast, i_inc, i_bin, i_un, i_divs, i_i2l, i_lshl, i_lor, i_dup, i_dup2, i_pop, i_if, i_cmp, i_nul, i_vret, i_iret, i_zret, i_aret, i_keep, keep, lget, lset, ent, i_getI, i_getJ, i_getR, i_getN, i_putI, i_putZ, i_putJ, i_putR, i_iald, i_bald, i_alen, i_aald, i_iast, i_bast, i_aast, i_new, i_newa, i_anew, i_oini, i_callS, i_callV, i_callI, popn, sh4, i_sw, swP, i_copy, i_binS, List.map, Option.toList_none, Option.toList_some, List.append, List.nil_append, List.cons_append, List.length_cons, List.length_nil, List.replicate, Nat.sub_self, Nat.reduceSub, Nat.reduceAdd, hK_pI, hL_pI, hI_pI, hR_pI, hJ_pI, hT_pI, hS_pI, hK_pR, hL_pR, hI_pR, hR_pR, hJ_pR, hT_pR, hS_pR, hK_pJ, hL_pJ, hI_pJ, hR_pJ, hJ_pJ, hT_pJ, hS_pJ, hK_wI, hL_wI, hI_wI, hR_wI, hJ_wI, hT_wI, hS_wI, eq_self, and_true, true_and, and_false, false_and, or_true, true_or, or_false, false_or, if_true, if_false, not_true_eq_false, not_false_eq_true, forall_const, implies_true, false_implies, true_implies, Option.some.injEq, forall_eq', exists_eq_left', reduceCtorEq, Nat.reduceEqDiff, c1, T_X12_in, T_X12_ones, T_X11_within, T_X11_bit, T_X11_isIn, T_X11_oneIfIn, T_J6_bitCount_0f7a4, h16, sh_bt g (show k < 32 by omega), b2i_0, Classical.not_not, cl_nI (show k < 2147483648 by omega), in_nI (show k < 24 by omega) (by decide)]
    refine ⟨fun z => absurd z (nI_ge (by omega) (by omega)), fun _ => ⟨fun c => h50 _ ?_, fun c => h50 _ ?_⟩⟩
    · rw [if_neg (by rw [c]; decide)]
    · rw [if_pos (by simpa using c)]
theorem pct_P {g : Int32} {P : Nat} (hP : P ≤ 32) (hg : inP g P) : pct g ≤ P := by
  rw [pct_ct]
  obtain ⟨d, hd⟩ : ∃ d, 32 = P + d := ⟨32 - P, by omega⟩
  have h0 := fb_ct_split (bt g) P d
  rw [← hd] at h0
  have hz : fb_ct (fun x => bt g (P + x)) d = 0 := fb_ct_zero.mpr (fun x _ => by
    cases hb : bt g (P + x) with
    | false => rfl
    | true => have := hg _ hb; omega)
  rw [h0, hz]
  have := fb_ct_le (bt g) P
  omega
set_option maxRecDepth 100000 in
set_option maxHeartbeats 400000 in
theorem po_7 (Q : Option Value → Hp → Prop) (h : Hp) (hl : LayX h) (J : Mem) (P p : Nat) (hP : P ≤ 24) (h16 : hI h 16 0 = nI P) (hJ : ∀ q, q < P → hI h 24 q = J 63 q) (hT : Tg J P) (hp : p < P) (hq : Q (some (.int (grp J P p))) h) :
    ∀ (m k : Nat) (g : Int32), m = 24 - k → k < 24 → k + 1 ≤ pct g → bt g p = true → (∀ i, bt g i = true → Rch J P (-1) p i) → wp 1 MX3_partyOf Q 7 [some (.ref 16), none, some (.int g), some (.int (nI k)), none, none] [] h := by
  have hin : ∀ i, Rch J P (-1) p i → i < P := fun i hi => (Rch_in hT hp (m1_bt (by omega)) hi).1
  intro m
  induction m with
  | zero => intro k g hm hk; omega
  | succ m ih =>
    intro k g hm hk hpc hgp hgR
    have hgP : inP g P := fun i hi => hin i (hgR i hi)
    have hwR : ∀ i, bt (wdS (hI h) g P) i = true → Rch J P (-1) p i := fun i hi => by
      rcases (b_wdS (hI h) g i P).mp hi with z | ⟨q, a, b, c⟩
      · exact hgR i z
      · rw [hJ q a] at c
        exact Rch_tr (hgR q b) (Rch_step a c (m1_bt (by have := hT q i a c; omega)))
    have hwg : ∀ i, bt g i = true → bt (wdS (hI h) g P) i = true := fun i hi => (b_wdS (hI h) g i P).mpr (Or.inl hi)
    have h19 := po_19 Q h hl P hP h16 g (nI k) (fun e => by
      have : g = grp J P p := b_ext2 (fun i hi => by
        rw [b_grp hP hT hp]
        refine ⟨hgR i, fun hr => ?_⟩
        refine hr (fun x => bt g x = true) hgp (fun q j hqP hs hb _ => ?_)
        rw [← e]
        exact (b_wdS (hI h) g j P).mpr (Or.inr ⟨q, hqP, hs, by rw [hJ q hqP]; exact hb⟩))
      rw [this]; exact hq) (fun e => by
      have hlt := pct_sub (x := g) (y := wdS (hI h) g P) hwg e
      have hle := pct_P (g := wdS (hI h) g P) (P := P) (by omega) (fun i hi => hin i (hwR i hi))
      rw [nI_1]
      exact ih (k + 1) _ (by omega) (by omega) (by omega) (hwg p hgp) hwR) P 0 (by omega) (by omega)
    have h24 : ¬ (24 : Int32) ≤ nI k := nI_ge (b := 24) hk (by decide)
    refine s_X3_partyOf_7 Q _ _ _ ?_
    simp only [b_X3_partyOf_7, i_push, i_ild, i_ald, i_ist, i_ast, i_inc, i_bin, i_un, i_divs, i_i2l, i_lshl, i_lor, i_dup, i_dup2, i_pop, i_if, i_cmp, i_nul, i_vret, i_iret, i_zret, i_aret, i_keep, keep, lget, lset, ent, i_getI, i_getJ, i_getR, i_getN, i_putI, i_putZ, i_putJ, i_putR, i_iald, i_bald, i_alen, i_aald, i_iast, i_bast, i_aast, i_new, i_newa, i_anew, i_oini, i_callS, i_callV, i_callI, popn, sh4, i_sw, swP, i_copy, i_binS, List.map, Option.toList_none, Option.toList_some, List.append, List.nil_append, List.cons_append, List.length_cons, List.length_nil, List.replicate, Nat.sub_self, Nat.reduceSub, Nat.reduceAdd, hK_pI, hL_pI, hI_pI, hR_pI, hJ_pI, hT_pI, hS_pI, hK_pR, hL_pR, hI_pR, hR_pR, hJ_pR, hT_pR, hS_pR, hK_pJ, hL_pJ, hI_pJ, hR_pJ, hJ_pJ, hT_pJ, hS_pJ, hK_wI, hL_wI, hI_wI, hR_wI, hJ_wI, hT_wI, hS_wI, eq_self, and_true, true_and, and_false, false_and, or_true, true_or, or_false, false_or, if_true, if_false, not_true_eq_false, not_false_eq_true, forall_const, implies_true, false_implies, true_implies, Option.some.injEq, forall_eq', exists_eq_left', reduceCtorEq, Nat.reduceEqDiff, c1, T_X12_in, T_X12_ones, T_X11_within, T_X11_bit, T_X11_isIn, T_X11_oneIfIn, T_J6_bitCount_0f7a4, h24]
    exact h19
set_option maxRecDepth 100000 in
set_option maxHeartbeats 4000000 in
theorem ok_X3_partyOf : ctr 1 MX3_partyOf T_X3_partyOf := by
  refine ctr_of pn_X3 wc_X3_partyOf (fun av h Q hT => ?_)
  unfold T_X3_partyOf at hT
  split at hT
  · rename_i o p
    refine ⟨⟨by simp [Value.category], Nat.le_of_ble_eq_true rfl⟩, s_X3_partyOf_0 Q _ _ _ ?_⟩
    obtain ⟨rfl, hl, J, P, k, hP, h16, hJ, hT', rfl, hk, hq⟩ := hT
    have hbk : bt (bitI k) k = true := by rw [b_bitI (by omega) (by omega)]; simp
    have h7 := po_7 Q h hl J P k hP h16 hJ hT' hk hq 24 0 (bitI k) rfl (by decide) (Nat.pos_of_ne_zero (fun z => by
      rw [pct_ct] at z
      have := fb_ct_zero.mp z k (by omega)
      rw [hbk] at this; cases this)) hbk (fun i hi => by
      have : i < 32 := Nat.lt_of_not_le (fun z => by rw [b_big z] at hi; cases hi)
      rw [b_bitI (by omega) this] at hi
      have e : i = k := by simpa using hi
      rw [e]; exact Rch_rfl)
    have hb : (1 : Int32) <<< (nI k &&& 31) = bitI k := rfl
    simp only [MX3_partyOf, b_X3_partyOf_0, i_push, i_ild, i_ald, i_ist, i_ast, i_inc, i_bin, i_un, i_divs, i_i2l, i_lshl, i_lor, i_dup, i_dup2, i_pop, i_if, i_cmp, i_nul, i_vret, i_iret, i_zret, i_aret, i_keep, keep, lget, lset, ent, i_getI, i_getJ, i_getR, i_getN, i_putI, i_putZ, i_putJ, i_putR, i_iald, i_bald, i_alen, i_aald, i_iast, i_bast, i_aast, i_new, i_newa, i_anew, i_oini, i_callS, i_callV, i_callI, popn, sh4, i_sw, swP, i_copy, i_binS, List.map, Option.toList_none, Option.toList_some, List.append, List.nil_append, List.cons_append, List.length_cons, List.length_nil, List.replicate, Nat.sub_self, Nat.reduceSub, Nat.reduceAdd, hK_pI, hL_pI, hI_pI, hR_pI, hJ_pI, hT_pI, hS_pI, hK_pR, hL_pR, hI_pR, hR_pR, hJ_pR, hT_pR, hS_pR, hK_pJ, hL_pJ, hI_pJ, hR_pJ, hJ_pJ, hT_pJ, hS_pJ, hK_wI, hL_wI, hI_wI, hR_wI, hJ_wI, hT_wI, hS_wI, eq_self, and_true, true_and, and_false, false_and, or_true, true_or, or_false, false_or, if_true, if_false, not_true_eq_false, not_false_eq_true, forall_const, implies_true, false_implies, true_implies, Option.some.injEq, forall_eq', exists_eq_left', reduceCtorEq, Nat.reduceEqDiff, c1, T_X12_in, T_X12_ones, T_X11_within, T_X11_bit, T_X11_isIn, T_X11_oneIfIn, T_J6_bitCount_0f7a4, hb]
    exact h7
  · exact hT.elim
/-- where an evening lies: its object n, THE ORDER n + 1, the reasons n + 2, the rooms n + 3 -/
def LayN (h : Hp) (n R : Nat) : Prop := 90 ≤ n ∧ n + 3 < hT h ∧ hK h n = 1 ∧ hK h (n + 1) = 14 ∧ hK h (n + 2) = 14 ∧ hK h (n + 3) = 14 ∧ hR h n 9 = some (n + 1) ∧ hR h n 10 = some (n + 2) ∧ hR h n 11 = some (n + 3) ∧ hL h (n + 1) = 10 ∧ hL h (n + 2) = 24 ∧ hL h (n + 3) = R
theorem LayN.f {h : Hp} {n R : Nat} (hn : LayN h n R) : n < hT h ∧ n + 1 < hT h ∧ n + 2 < hT h ∧ n + 3 < hT h ∧ hK h n = 1 ∧ hK h (n + 1) = 14 ∧ hK h (n + 2) = 14 ∧ hK h (n + 3) = 14 ∧ hR h n 9 = some (n + 1) ∧ hR h n 10 = some (n + 2) ∧ hR h n 11 = some (n + 3) ∧ hL h (n + 1) = 10 ∧ hL h (n + 2) = 24 ∧ hL h (n + 3) = R := by
  obtain ⟨a, b, c⟩ := hn
  exact ⟨by omega, by omega, by omega, by omega, c⟩
/-- the reasons of some people are written -/
def rsM (f : Mem) (a : Nat) (g v : Int32) (k : Nat) : Mem := fun x i => if x = a ∧ i < k ∧ bt g i = true then v else f x i
theorem rsM_0 (f : Mem) (a : Nat) (g v : Int32) : rsM f a g v 0 = f := by
  funext x i
  exact if_neg (fun z => by omega)
theorem rsM_t {f : Mem} {a : Nat} {g v : Int32} {k : Nat} (h : bt g k = true) : u2 (rsM f a g v k) a k v = rsM f a g v (k + 1) := by
  funext x i
  unfold u2 rsM
  by_cases c : x = a ∧ i = k
  · rw [if_pos c, if_pos ⟨c.1, by omega, by rw [c.2]; exact h⟩]
  · rw [if_neg c]
    by_cases c2 : x = a ∧ i < k ∧ bt g i = true
    · rw [if_pos c2, if_pos ⟨c2.1, by omega, c2.2.2⟩]
    · rw [if_neg c2, if_neg (fun z => c2 ⟨z.1, by
        have : i ≠ k := fun y => c ⟨z.1, y⟩
        omega, z.2.2⟩)]
theorem rsM_f {f : Mem} {a : Nat} {g v : Int32} {k : Nat} (h : bt g k = false) : rsM f a g v k = rsM f a g v (k + 1) := by
  funext x i
  unfold rsM
  by_cases c2 : x = a ∧ i < k ∧ bt g i = true
  · rw [if_pos c2, if_pos ⟨c2.1, by omega, c2.2.2⟩]
  · rw [if_neg c2, if_neg (fun z => c2 ⟨z.1, by
      have : i ≠ k := fun y => by rw [y, h] at z; cases z.2.2
      omega, z.2.2⟩)]
def T_X1_giveReason : Tr := fun av h Q => match av with
  | [.ref n, .int g, .int v] => (∃ R, LayN h n R) ∧ Q none (wI h (rsM (hI h) (n + 2) g v 24))
  | _ => False
def L_X1_giveReason : List UInt8 := [3, 62, 29, 16, 24, 162, 0, 24, 27, 29, 184, 0, 60, 153, 0, 10, 42, 180, 0, 15, 29, 28, 79, 132, 3, 1, 167, 255, 232, 177]
theorem Lc_X1_giveReason : MX1_giveReason.2.1 = ⟨L_X1_giveReason.toArray⟩ := rfl
theorem D_X1_giveReason_0 : dseq MX1_giveReason.2.1 0 [(.iconst 0, 1), (.istore_n 3, 1)] := dq Lc_X1_giveReason 0 _ (by decide +kernel)
theorem D_X1_giveReason_2 : dseq MX1_giveReason.2.1 2 [(.iload_n 3, 1), (.bipush 24, 2), (.if_icmp .ge 24, 3), (.iload_n 1, 1), (.iload_n 3, 1), (.invokestatic 60, 3), (.ifCond .eq 10, 3), (.aload_n 0, 1), (.getfield 15, 3), (.iload_n 3, 1), (.iload_n 2, 1), (.iastore, 1)] := dq Lc_X1_giveReason 2 _ (by decide +kernel)
theorem D_X1_giveReason_29 : dseq MX1_giveReason.2.1 29 [(.return_, 1)] := dq Lc_X1_giveReason 29 _ (by decide +kernel)
theorem D_X1_giveReason_23 : dseq MX1_giveReason.2.1 23 [(.iinc 3 1, 3), (.goto (-24), 3)] := dq Lc_X1_giveReason 23 _ (by decide +kernel)
def b_X1_giveReason_0 (Q : Option Value → Hp → Prop) : Kt := i_push (.int 0) (i_ist 3 (i_keep [true, true, true, true] (wp 1 MX1_giveReason Q 2)))
set_option maxRecDepth 100000 in
theorem s_X1_giveReason_0 (Q : Option Value → Hp → Prop) : ∀ A st h, b_X1_giveReason_0 Q A st h → wp 1 MX1_giveReason Q 0 A st h := (q1 (s_iconst (n := 0) (v := 0) (by decide)) D_X1_giveReason_0 fun D => (qL (s_istn (n := 3) (i := 3) rfl) (by decide) D fun D => (s_keep [true, true, true, true] fun _ _ _ h => h)))
def b_X1_giveReason_2 (Q : Option Value → Hp → Prop) : Kt := i_ild 3 (i_push (.int 24) (i_cmp (fun x y => y ≤ x) (i_vret Q) (i_ild 1 (i_ild 3 (i_callS 2 T_X11_isIn (i_if (fun x => x = 0) (i_keep [true, true, true, true] (wp 1 MX1_giveReason Q 23)) (i_ald 0 (i_getR 1 10 (i_ild 3 (i_ild 2 (i_iast (i_keep [true, true, true, true] (wp 1 MX1_giveReason Q 23)))))))))))))
set_option maxRecDepth 100000 in
theorem s_X1_giveReason_2 (Q : Option Value → Hp → Prop) : ∀ A st h, b_X1_giveReason_2 Q A st h → wp 1 MX1_giveReason Q 2 A st h := (q1 (s_ildn (n := 3) (i := 3) rfl) D_X1_giveReason_2 fun D => (q1 (s_bipush (n := 24) (v := 24) (by decide)) D fun D => (qB s_cmpge 29 (by decide) D (qV rfl D_X1_giveReason_29) fun D => (q1 (s_ildn (n := 1) (i := 1) rfl) D fun D => (q1 (s_ildn (n := 3) (i := 3) rfl) D fun D => (qX (s_callSN ok_X11_isIn mo_X11_isIn (ch_4_7_ok.2.2.2.2.2.2.2.2.2.2.2.2.1.2 rfl) (ch_3_7_ok.2.2.2.2.1.1 rfl)) rfl (by decide) D fun D => (qB s_ifeq 23 (by decide) D (s_keep [true, true, true, true] fun _ _ _ h => h) fun D => (q1 (s_aldn (n := 0) (i := 0) rfl) D fun D => (qC fl_X1_15 rfl D fun D => (q1 (s_ildn (n := 3) (i := 3) rfl) D fun D => (q1 (s_ildn (n := 2) (i := 2) rfl) D fun D => (q1 s_iast D fun D => (s_keep [true, true, true, true] fun _ _ _ h => h)))))))))))))
def b_X1_giveReason_23 (Q : Option Value → Hp → Prop) : Kt := i_inc 3 1 (i_keep [true, true, true, true] (wp 1 MX1_giveReason Q 2))
set_option maxRecDepth 100000 in
theorem s_X1_giveReason_23 (Q : Option Value → Hp → Prop) : ∀ A st h, b_X1_giveReason_23 Q A st h → wp 1 MX1_giveReason Q 23 A st h := (qL (s_inc (i := 3) (n := 1) (v := 1) (by decide)) (by decide) D_X1_giveReason_23 fun D => (qG 2 (by decide) D (s_keep [true, true, true, true] fun _ _ _ h => h)))

set_option maxRecDepth 100000 in
set_option maxHeartbeats 400000 in
theorem gr_2 (Q : Option Value → Hp → Prop) (h : Hp) (n R : Nat) (hn : LayN h n R) (g v : Int32) (hq : Q none (wI h (rsM (hI h) (n + 2) g v 24))) :
    ∀ (m k : Nat), m = 24 - k → k ≤ 24 → wp 1 MX1_giveReason Q 2 [some (.ref n), some (.int g), some (.int v), some (.int (nI k))] [] (wI h (rsM (hI h) (n + 2) g v k)) := by
  intro m
  induction m with
  | zero =>
    intro k hm hk
    have e : k = 24 := by omega
    subst e
    refine s_X1_giveReason_2 Q _ _ _ ?_
    generalize wI h (rsM (hI h) (n + 2) g v 24) = H at hq ⊢
    simp only [b_X1_giveReason_2, i_push, i_ild, i_ald, i_ist, i_ast, i_inc, i_bin, i_un, i_divs, i_i2l, i_lshl, i_lor, i_dup, i_dup2, i_pop, i_if, i_cmp, i_nul, i_vret, i_iret, i_zret, i_aret, i_keep, keep, lget, lset, ent, i_getI, i_getJ, i_getR, i_getN, i_putI, i_putZ, i_putJ, i_putR, i_iald, i_bald, i_alen, i_aald, i_iast, i_bast, i_aast, i_new, i_newa, i_anew, i_oini, i_callS, i_callV, i_callI, popn, sh4, i_sw, swP, i_copy, i_binS, List.map, Option.toList_none, Option.toList_some, List.append, List.nil_append, List.cons_append, List.length_cons, List.length_nil, List.replicate, Nat.sub_self, Nat.reduceSub, Nat.reduceAdd, hK_pI, hL_pI, hI_pI, hR_pI, hJ_pI, hT_pI, hS_pI, hK_pR, hL_pR, hI_pR, hR_pR, hJ_pR, hT_pR, hS_pR, hK_pJ, hL_pJ, hI_pJ, hR_pJ, hJ_pJ, hT_pJ, hS_pJ, hK_wI, hL_wI, hI_wI, hR_wI, hJ_wI, hT_wI, hS_wI, eq_self, and_true, true_and, and_false, false_and, or_true, true_or, or_false, false_or, if_true, if_false, not_true_eq_false, not_false_eq_true, forall_const, implies_true, false_implies, true_implies, Option.some.injEq, forall_eq', exists_eq_left', reduceCtorEq, Nat.reduceEqDiff, c1, T_X12_in, T_X12_ones, T_X11_within, T_X11_bit, T_X11_isIn, T_X11_oneIfIn, T_J6_bitCount_0f7a4]
    exact ⟨fun _ => hq, fun z => absurd (by decide) z⟩
  | succ m ih =>
    intro k hm hk
    have hgo := ih (k + 1) (by omega) (by omega)
    have h23 : ∀ f, f = rsM (hI h) (n + 2) g v (k + 1) → wp 1 MX1_giveReason Q 23 [some (.ref n), some (.int g), some (.int v), some (.int (nI k))] [] (wI h f) := by
      intro f hf
      subst hf
      refine s_X1_giveReason_23 Q _ _ _ ?_
      generalize wI h (rsM (hI h) (n + 2) g v (k + 1)) = H at hgo ⊢
      simp only [b_X1_giveReason_23, i_push, i_ild, i_ald, i_ist, i_ast, i_inc, i_bin, i_un, i_divs, i_i2l, i_lshl, i_lor, i_dup, i_dup2, i_pop, i_if, i_cmp, i_nul, i_vret, i_iret, i_zret, i_aret, i_keep, keep, lget, lset, ent, i_getI, i_getJ, i_getR, i_getN, i_putI, i_putZ, i_putJ, i_putR, i_iald, i_bald, i_alen, i_aald, i_iast, i_bast, i_aast, i_new, i_newa, i_anew, i_oini, i_callS, i_callV, i_callI, popn, sh4, i_sw, swP, i_copy, i_binS, List.map, Option.toList_none, Option.toList_some, List.append, List.nil_append, List.cons_append, List.length_cons, List.length_nil, List.replicate, Nat.sub_self, Nat.reduceSub, Nat.reduceAdd, hK_pI, hL_pI, hI_pI, hR_pI, hJ_pI, hT_pI, hS_pI, hK_pR, hL_pR, hI_pR, hR_pR, hJ_pR, hT_pR, hS_pR, hK_pJ, hL_pJ, hI_pJ, hR_pJ, hJ_pJ, hT_pJ, hS_pJ, hK_wI, hL_wI, hI_wI, hR_wI, hJ_wI, hT_wI, hS_wI, eq_self, and_true, true_and, and_false, false_and, or_true, true_or, or_false, false_or, if_true, if_false, not_true_eq_false, not_false_eq_true, forall_const, implies_true, false_implies, true_implies, Option.some.injEq, forall_eq', exists_eq_left', reduceCtorEq, Nat.reduceEqDiff, c1, T_X12_in, T_X12_ones, T_X11_within, T_X11_bit, T_X11_isIn, T_X11_oneIfIn, T_J6_bitCount_0f7a4, nI_1]
      exact hgo
    have hnf : LayN (wI h (rsM (hI h) (n + 2) g v k)) n R := hn
    have h24 : ¬ (24 : Int32) ≤ nI k := nI_ge (b := 24) (by omega) (by decide)
    have hf := hnf.f
    have ht : bt g k = true → wp 1 MX1_giveReason Q 23 [some (.ref n), some (.int g), some (.int v), some (.int (nI k))] [] (pI (wI h (rsM (hI h) (n + 2) g v k)) (n + 2) k v) := fun c => h23 _ (rsM_t c)
    have hff : bt g k = false → wp 1 MX1_giveReason Q 23 [some (.ref n), some (.int g), some (.int v), some (.int (nI k))] [] (wI h (rsM (hI h) (n + 2) g v k)) := fun c => h23 _ (rsM_f c)
    refine s_X1_giveReason_2 Q _ _ _ ?_
    generalize wI h (rsM (hI h) (n + 2) g v k) = H at hf ht hff ⊢
    simp only [b_X1_giveReason_2, i_push, i_ild, i_ald, i_ist, i_ast, i_inc, i_bin, i_un, i_divs, i_i2l, i_lshl, i_lor, i_dup, i_dup2, i_pop, i_if, i_cmp, i_nul, i_vret, i_iret, i_zret, i_aret, i_keep, keep, lget, lset, ent, i_getI, i_getJ, i_getR, i_getN, i_putI, i_putZ, i_putJ, i_putR, i_iald, i_bald, i_alen, i_aald, i_iast, i_bast, i_aast, i_new, i_newa, i_anew, i_oini, i_callS, i_callV, i_callI, popn, sh4, i_sw, swP, i_copy, i_binS, List.map, Option.toList_none, Option.toList_some, List.append, List.nil_append, List.cons_append, List.length_cons, List.length_nil, List.replicate, Nat.sub_self, Nat.reduceSub, Nat.reduceAdd, hK_pI, hL_pI, hI_pI, hR_pI, hJ_pI, hT_pI, hS_pI, hK_pR, hL_pR, hI_pR, hR_pR, hJ_pR, hT_pR, hS_pR, hK_pJ, hL_pJ, hI_pJ, hR_pJ, hJ_pJ, hT_pJ, hS_pJ, hK_wI, hL_wI, hI_wI, hR_wI, hJ_wI, hT_wI, hS_wI, eq_self, and_true, true_and, and_false, false_and, or_true, true_or, or_false, false_or, if_true, if_false, not_true_eq_false, not_false_eq_true, forall_const, implies_true, false_implies, true_implies, Option.some.injEq, forall_eq', exists_eq_left', reduceCtorEq, Nat.reduceEqDiff, c1, T_X12_in, T_X12_ones, T_X11_within, T_X11_bit, T_X11_isIn, T_X11_oneIfIn, T_J6_bitCount_0f7a4, h24, hf, sh_bt g (show k < 32 by omega), b2i_0, Classical.not_not, cl_nI (show k < 2147483648 by omega), in_nI (show k < 24 by omega) (by decide)]
    exact ⟨hff, fun c => ht (by simpa using c)⟩
set_option maxRecDepth 100000 in
set_option maxHeartbeats 4000000 in
theorem ok_X1_giveReason : ctr 1 MX1_giveReason T_X1_giveReason := by
  refine ctr_of pn_X1 wc_X1_giveReason (fun av h Q hT => ?_)
  unfold T_X1_giveReason at hT
  split at hT
  · rename_i n g v
    refine ⟨⟨by simp [Value.category], Nat.le_of_ble_eq_true rfl⟩, s_X1_giveReason_0 Q _ _ _ ?_⟩
    obtain ⟨⟨R, hn⟩, hq⟩ := hT
    have := gr_2 Q h n R hn g v hq 24 0 (by omega) (by omega)
    rw [rsM_0] at this
    have e : wI h (hI h) = h := rfl
    rw [e] at this
    simp only [MX1_giveReason, b_X1_giveReason_0, i_push, i_ild, i_ald, i_ist, i_ast, i_inc, i_bin, i_un, i_divs, i_i2l, i_lshl, i_lor, i_dup, i_dup2, i_pop, i_if, i_cmp, i_nul, i_vret, i_iret, i_zret, i_aret, i_keep, keep, lget, lset, ent, i_getI, i_getJ, i_getR, i_getN, i_putI, i_putZ, i_putJ, i_putR, i_iald, i_bald, i_alen, i_aald, i_iast, i_bast, i_aast, i_new, i_newa, i_anew, i_oini, i_callS, i_callV, i_callI, popn, sh4, i_sw, swP, i_copy, i_binS, List.map, Option.toList_none, Option.toList_some, List.append, List.nil_append, List.cons_append, List.length_cons, List.length_nil, List.replicate, Nat.sub_self, Nat.reduceSub, Nat.reduceAdd, hK_pI, hL_pI, hI_pI, hR_pI, hJ_pI, hT_pI, hS_pI, hK_pR, hL_pR, hI_pR, hR_pR, hJ_pR, hT_pR, hS_pR, hK_pJ, hL_pJ, hI_pJ, hR_pJ, hJ_pJ, hT_pJ, hS_pJ, hK_wI, hL_wI, hI_wI, hR_wI, hJ_wI, hT_wI, hS_wI, eq_self, and_true, true_and, and_false, false_and, or_true, true_or, or_false, false_or, if_true, if_false, not_true_eq_false, not_false_eq_true, forall_const, implies_true, false_implies, true_implies, Option.some.injEq, forall_eq', exists_eq_left', reduceCtorEq, Nat.reduceEqDiff, c1, T_X12_in, T_X12_ones, T_X11_within, T_X11_bit, T_X11_isIn, T_X11_oneIfIn, T_J6_bitCount_0f7a4]
    exact this
  · exact hT.elim
