/-! ===== the class: who stands in THE ORDER, one by one ===== -/
def LI (f0 f J : Mem) (n E Ln : Nat) (door cold : Int32) (p : Nat) : Prop :=
  f n 8 = nI (ordS J E Ln door cold p).1 ∧ f n 7 = amS (ordS J E Ln door cold p).2 (ordS J E Ln door cold p).1 ∧ (∀ j, j < (ordS J E Ln door cold p).1 → f (n + 1) j = nI ((ordS J E Ln door cold p).2 j) ∧ f 32 j = ptsF J E ((ordS J E Ln door cold p).2 j) Ln cold) ∧ (∀ q, q < p → f (n + 2) q = whyF J E Ln door cold q) ∧ (∀ q, p ≤ q → f (n + 2) q = f0 (n + 2) q) ∧ (∀ i, i ≠ 7 → i ≠ 8 → f n i = f0 n i) ∧ ∀ a i, a ≠ n → a ≠ n + 1 → a ≠ n + 2 → a ≠ 32 → f a i = f0 a i
theorem LI_why {f0 f J : Mem} {n E Ln : Nat} {door cold : Int32} {p : Nat} (hn : 90 ≤ n) (hi : LI f0 f J n E Ln door cold p) (hno : ¬ inO J E Ln door cold p) {v : Int32} (hv : whyF J E Ln door cold p = v) : LI f0 (u2 f (n + 2) p v) J n E Ln door cold (p + 1) := by
  have e : ordS J E Ln door cold (p + 1) = ordS J E Ln door cold p := cif_f hno
  obtain ⟨a1, a2, a3, a4, a5, a6, a7⟩ := hi
  unfold LI
  rw [e]
  refine ⟨?_, ?_, fun j hj => ?_, fun q hq => ?_, fun q hq => ?_, fun i h1 h2 => ?_, fun a i h1 h2 h3 h4 => ?_⟩
  · rw [u2_ne (by omega)]; exact a1
  · rw [u2_ne (by omega)]; exact a2
  · obtain ⟨b1, b2⟩ := a3 j hj
    exact ⟨by rw [u2_ne (by omega)]; exact b1, by rw [u2_ne (by omega)]; exact b2⟩
  · by_cases c : q = p
    · rw [c, u2_eq, hv]
    · rw [u2_ne (fun z => c z.2)]; exact a4 q (by omega)
  · rw [u2_ne (fun z => by omega)]; exact a5 q (by omega)
  · rw [u2_ne (by omega)]; exact a6 i h1 h2
  · rw [u2_ne (fun z => h3 z.1)]; exact a7 a i h1 h2 h3 h4
theorem amS_ins (o : Nat → Nat) (N k p : Nat) (hk : k ≤ N) (hp : p < 32) : amS (insO o k p) (N + 1) = amS o N ||| bitI p := by
  apply b_ext2
  intro i hi
  unfold amS
  rw [b_mkB, b_orI hp, Bool.or_eq_true, b_mkB, decide_eq_true_eq]
  constructor
  · rintro ⟨_, j, hj, e⟩
    unfold insO at e
    by_cases c : j < k
    · rw [if_pos c] at e; exact Or.inl ⟨hi, j, by omega, e⟩
    · rw [if_neg c] at e
      by_cases c2 : j = k
      · rw [if_pos c2] at e; exact Or.inr e.symm
      · rw [if_neg c2] at e; exact Or.inl ⟨hi, j - 1, by omega, e⟩
  · rintro (⟨_, j, hj, e⟩ | e)
    · by_cases c : j < k
      · exact ⟨hi, j, by omega, by unfold insO; rw [if_pos c]; exact e⟩
      · exact ⟨hi, j + 1, by omega, by unfold insO; rw [if_neg (by omega), if_neg (by omega)]; exact e⟩
    · exact ⟨hi, k, by omega, by unfold insO; rw [if_neg (by omega), if_pos rfl]; exact e.symm⟩
theorem piM_o (f : Mem) (n N k p : Nat) (sum : Int32) {a : Nat} (h1 : a ≠ n) (h2 : a ≠ n + 1) (h3 : a ≠ 32) (i : Nat) : piM f n N k p sum a i = f a i := by
  unfold piM
  rw [u2_ne (fun z => h1 z.1), u2_ne (fun z => h1 z.1), u2_ne (fun z => h3 z.1), u2_ne (fun z => h2 z.1), shX_o f n N k h2 h3]
theorem piM_n (f : Mem) (n N k p : Nat) (sum : Int32) (hn : 90 ≤ n) {i : Nat} (h7 : i ≠ 7) (h8 : i ≠ 8) : piM f n N k p sum n i = f n i := by
  unfold piM
  rw [u2_ne (fun z => h7 z.2), u2_ne (fun z => h8 z.2), u2_ne (by omega), u2_ne (by omega), shX_o f n N k (by omega) (by omega)]
theorem piM_7 (f : Mem) (n N k p : Nat) (sum : Int32) : piM f n N k p sum n 7 = f n 7 ||| bitI p := u2_eq
theorem piM_8 (f : Mem) (n N k p : Nat) (sum : Int32) : piM f n N k p sum n 8 = nI (N + 1) := by
  unfold piM
  rw [u2_ne (by omega), u2_eq]
/-- a row after one was put in, as a function of the place -/
theorem piM_row (f : Mem) (n N k p : Nat) (sum : Int32) (hn : 90 ≤ n) (hk : k ≤ N) (a : Nat) (ha : a = n + 1 ∨ a = 32) {j : Nat} (hj : j < N + 1) : piM f n N k p sum a j = if j < k then f a j else if j = k then (if a = 32 then sum else nI p) else f a (j - 1) := by
  unfold piM
  rw [u2_ne (by omega), u2_ne (by omega)]
  by_cases c2 : j = k
  · rw [if_neg (by omega), if_pos c2]
    rcases ha with e | e
    · rw [if_neg (by omega), u2_ne (by omega), e, c2, u2_eq]
    · rw [if_pos e, e, c2, u2_eq]
  · rw [u2_ne (fun z => c2 z.2), u2_ne (fun z => c2 z.2), if_neg c2]
    unfold shX
    by_cases c : j < k
    · rw [if_neg (by omega), if_pos c]
    · rw [if_pos ⟨ha, by omega⟩, if_neg c]
theorem LI_in {f0 f J : Mem} {n E Ln : Nat} {door cold : Int32} {p : Nat} (hn : 90 ≤ n) (hp : p < 24) (hi : LI f0 f J n E Ln door cold p) (hin : inO J E Ln door cold p) (h0 : f0 (n + 2) p = -1) (h21 : ∀ q, q ≤ p → f 21 q = J 59 q) : LI f0 (piM f n (ordS J E Ln door cold p).1 (posF (ahX f (ordS J E Ln door cold p).2 p (ptsF J E p Ln cold)) (ordS J E Ln door cold p).1) p (ptsF J E p Ln cold)) J n E Ln door cold (p + 1) := by
  have e : ordS J E Ln door cold (p + 1) = ((ordS J E Ln door cold p).1 + 1, insO (ordS J E Ln door cold p).2 (posF (fun j => ahd (fun q => ptsF J E q Ln cold) (J 59) p ((ordS J E Ln door cold p).2 j)) (ordS J E Ln door cold p).1) p) := cif_t hin
  have hok := (ordS_ok J E Ln door cold p).2
  obtain ⟨a1, a2, a3, a4, a5, a6, a7⟩ := hi
  have hpos : posF (ahX f (ordS J E Ln door cold p).2 p (ptsF J E p Ln cold)) (ordS J E Ln door cold p).1 = posF (fun j => ahd (fun q => ptsF J E q Ln cold) (J 59) p ((ordS J E Ln door cold p).2 j)) (ordS J E Ln door cold p).1 := posF_congr (fun j hj => by
    have hlt := (hok j hj).1
    unfold ahX ahd
    rw [(a3 j hj).2, h21 _ (by omega), h21 p (Nat.le_refl _)]
    by_cases c : ptsF J E p Ln cold = ptsF J E ((ordS J E Ln door cold p).2 j) Ln cold
    · rw [if_pos c, if_pos c]
      by_cases c2 : J 59 p = J 59 ((ordS J E Ln door cold p).2 j)
      · rw [if_pos c2, c2]
        exact ⟨fun z => (Int32.lt_irrefl z).elim, fun z => by omega⟩
      · rw [if_neg c2]
    · rw [if_neg c, if_neg c])
  rw [hpos]
  have hk := posF_le (fun j => ahd (fun q => ptsF J E q Ln cold) (J 59) p ((ordS J E Ln door cold p).2 j)) (ordS J E Ln door cold p).1
  unfold LI
  rw [e]
  simp only
  generalize posF (fun j => ahd (fun q => ptsF J E q Ln cold) (J 59) p ((ordS J E Ln door cold p).2 j)) (ordS J E Ln door cold p).1 = k at hk ⊢
  generalize ordS J E Ln door cold p = s at a1 a2 a3 hok hk ⊢
  refine ⟨piM_8 .., ?_, fun j hj => ?_, fun q hq => ?_, fun q hq => ?_, fun i h1 h2 => ?_, fun a i h1 h2 h3 h4 => ?_⟩
  · rw [piM_7, a2, amS_ins s.2 s.1 k p hk (by omega)]
  · rw [piM_row f n s.1 k p _ hn hk (n + 1) (Or.inl rfl) hj, piM_row f n s.1 k p _ hn hk 32 (Or.inr rfl) hj]
    unfold insO
    by_cases c : j < k
    · rw [if_pos c, if_pos c, if_pos c]; exact a3 j (by omega)
    · rw [if_neg c, if_neg c, if_neg c]
      by_cases c2 : j = k
      · rw [if_pos c2, if_pos c2, if_pos c2, if_neg (by omega), if_pos rfl]; exact ⟨rfl, rfl⟩
      · rw [if_neg c2, if_neg c2, if_neg c2]; exact a3 (j - 1) (by omega)
  · rw [piM_o _ _ _ _ _ _ (by omega) (by omega) (by omega)]
    by_cases c : q = p
    · rw [c, a5 p (Nat.le_refl _), h0]
      unfold whyF
      rw [if_pos hin.1, if_neg hin.2.1, if_neg hin.2.2]
    · exact a4 q (by omega)
  · rw [piM_o _ _ _ _ _ _ (by omega) (by omega) (by omega)]; exact a5 q (by omega)
  · rw [piM_n _ _ _ _ _ _ hn h1 h2]; exact a6 i h1 h2
  · rw [piM_o _ _ _ _ _ _ h1 h2 h4]; exact a7 a i h1 h2 h3 h4
theorem ordS_ct (J : Mem) (E Ln : Nat) (door cold : Int32) : ∀ p, (ordS J E Ln door cold p).1 ≤ fb_ct (bt door) p
  | 0 => Nat.le_refl _
  | p + 1 => by
    have ih := ordS_ct J E Ln door cold p
    rw [fb_ct_succ]
    rcases Classical.em (inO J E Ln door cold p) with q | q
    · have e : ordS J E Ln door cold (p + 1) = ((ordS J E Ln door cold p).1 + 1, insO (ordS J E Ln door cold p).2 (posF (fun j => ahd (fun q => ptsF J E q Ln cold) (J 59) p ((ordS J E Ln door cold p).2 j)) (ordS J E Ln door cold p).1) p) := cif_t q
      rw [e, if_pos q.1]
      simp only
      omega
    · have e : ordS J E Ln door cold (p + 1) = ordS J E Ln door cold p := cif_f q
      rw [e]
      omega
theorem ordS_10 {J : Mem} {E Ln : Nat} {door cold : Int32} (h10 : pct door ≤ 10) {p : Nat} (hp : p ≤ 32) : (ordS J E Ln door cold p).1 ≤ 10 := by
  have := ordS_ct J E Ln door cold p
  have h2 := fb_ct_mono (bt door) hp
  rw [pct_ct] at h10
  omega
def T_X5_lineUp : Tr := fun av h Q => match av with
  | [.ref a, .ref b] => a = 31 ∧ LayX h ∧ hR h 31 0 = some 3 ∧ ∃ n R q J P E Ln door cold, n = b ∧ LayN h n R ∧ ¬ hR h 3 4 = some n ∧ hI h n 2 = door ∧ pct door ≤ 10 ∧ hI h n 3 = cold ∧ (cold = 0 ∨ cold = 1) ∧ hR h 3 3 = some q ∧ LayR h q ∧ PC (hI h) 12 J P ∧ LtC h J E ∧ RC (hI h) q J Ln ∧ (∀ i, i < 24 → hI h (n + 2) i = -1) ∧ LI (hI h) (hI h) J n E Ln door cold 0 ∧ ∀ f, LI (hI h) f J n E Ln door cold P → Q none (wI h f)
  | _ => False
def L_X5_lineUp : List UInt8 := [3, 61, 28, 42, 180, 0, 15, 180, 0, 28, 180, 0, 34, 162, 0, 26, 43, 180, 0, 40, 28, 184, 0, 45, 153, 0, 9, 42, 43, 28, 182, 0, 49, 132, 2, 1, 167, 255, 222, 177]
theorem Lc_X5_lineUp : MX5_lineUp.2.1 = ⟨L_X5_lineUp.toArray⟩ := rfl
theorem D_X5_lineUp_0 : dseq MX5_lineUp.2.1 0 [(.iconst 0, 1), (.istore_n 2, 1)] := dq Lc_X5_lineUp 0 _ (by decide +kernel)
theorem D_X5_lineUp_2 : dseq MX5_lineUp.2.1 2 [(.iload_n 2, 1), (.aload_n 0, 1), (.getfield 15, 3), (.getfield 28, 3), (.getfield 34, 3), (.if_icmp .ge 26, 3), (.aload_n 1, 1), (.getfield 40, 3), (.iload_n 2, 1), (.invokestatic 45, 3), (.ifCond .eq 9, 3), (.aload_n 0, 1), (.aload_n 1, 1), (.iload_n 2, 1), (.invokevirtual 49, 3)] := dq Lc_X5_lineUp 2 _ (by decide +kernel)
theorem D_X5_lineUp_39 : dseq MX5_lineUp.2.1 39 [(.return_, 1)] := dq Lc_X5_lineUp 39 _ (by decide +kernel)
theorem D_X5_lineUp_33 : dseq MX5_lineUp.2.1 33 [(.iinc 2 1, 3), (.goto (-34), 3)] := dq Lc_X5_lineUp 33 _ (by decide +kernel)
def c_X5_lineUp_33 (Q : Option Value → Hp → Prop) : Kt := i_keep [true, true, true] (wp 5 MX5_lineUp Q 33)
def b_X5_lineUp_0 (Q : Option Value → Hp → Prop) : Kt := i_push (.int 0) (i_ist 2 (i_keep [true, true, true] (wp 5 MX5_lineUp Q 2)))
set_option maxRecDepth 100000 in
theorem s_X5_lineUp_0 (Q : Option Value → Hp → Prop) : ∀ A st h, b_X5_lineUp_0 Q A st h → wp 5 MX5_lineUp Q 0 A st h := (q1 (s_iconst (n := 0) (v := 0) (by decide)) D_X5_lineUp_0 fun D => (qL (s_istn (n := 2) (i := 2) rfl) (by decide) D fun D => (s_keep [true, true, true] fun _ _ _ h => h)))
def b_X5_lineUp_2 (Q : Option Value → Hp → Prop) : Kt := i_ild 2 (i_ald 0 (i_getR 5 0 (i_getR 8 1 (i_getI 3 0 (i_cmp (fun x y => y ≤ x) (i_vret Q) (i_ald 1 (i_getI 1 2 (i_ild 2 (i_callS 2 T_X11_isIn (i_if (fun x => x = 0) (i_keep [true, true, true] (wp 5 MX5_lineUp Q 33)) (i_ald 0 (i_ald 1 (i_ild 2 (i_callV 5 2 T_X5_lookAt (c_X5_lineUp_33 Q)))))))))))))))
set_option maxRecDepth 100000 in
theorem s_X5_lineUp_2 (Q : Option Value → Hp → Prop) : ∀ A st h, b_X5_lineUp_2 Q A st h → wp 5 MX5_lineUp Q 2 A st h := (q1 (s_ildn (n := 2) (i := 2) rfl) D_X5_lineUp_2 fun D => (q1 (s_aldn (n := 0) (i := 0) rfl) D fun D => (qC fl_X5_15 rfl D fun D => (qC fl_X5_28 rfl D fun D => (qC fl_X5_34 rfl D fun D => (qB s_cmpge 39 (by decide) D (qV rfl D_X5_lineUp_39) fun D => (q1 (s_aldn (n := 1) (i := 1) rfl) D fun D => (qC fl_X5_40 rfl D fun D => (q1 (s_ildn (n := 2) (i := 2) rfl) D fun D => (qX (s_callSN ok_X11_isIn mo_X11_isIn (ch_3_14_ok.1.2 rfl) (ch_3_7_ok.2.2.2.2.1.1 rfl)) rfl (by decide) D fun D => (qB s_ifeq 33 (by decide) D (s_keep [true, true, true] fun _ _ _ h => h) fun D => (q1 (s_aldn (n := 0) (i := 0) rfl) D fun D => (q1 (s_aldn (n := 1) (i := 1) rfl) D fun D => (q1 (s_ildn (n := 2) (i := 2) rfl) D fun D => (qX (s_callV kX5 rfl ok_X5_lookAt mo_X5_lookAt (ch_3_14_ok.2.1.1 rfl) (ch_3_14_ok.2.2.2.1.1 rfl) (pv_1.1)) rfl (by decide) D fun D => (s_keep [true, true, true] fun _ _ _ h => h))))))))))))))))
def b_X5_lineUp_33 (Q : Option Value → Hp → Prop) : Kt := i_inc 2 1 (i_keep [true, true, true] (wp 5 MX5_lineUp Q 2))
set_option maxRecDepth 100000 in
theorem s_X5_lineUp_33 (Q : Option Value → Hp → Prop) : ∀ A st h, b_X5_lineUp_33 Q A st h → wp 5 MX5_lineUp Q 33 A st h := (qL (s_inc (i := 2) (n := 1) (v := 1) (by decide)) (by decide) D_X5_lineUp_33 fun D => (qG 2 (by decide) D (s_keep [true, true, true] fun _ _ _ h => h)))

set_option maxRecDepth 100000 in
set_option maxHeartbeats 400000 in
theorem lu_2 (Q : Option Value → Hp → Prop) (h : Hp) (hl : LayX h) (hs31 : hR h 31 0 = some 3) (n R q : Nat) (J : Mem) (P E Ln : Nat) (door cold : Int32) (hn : LayN h n R) (hnn : ¬ hR h 3 4 = some n) (hdo : hI h n 2 = door) (h10 : pct door ≤ 10) (hcd : hI h n 3 = cold) (hc : cold = 0 ∨ cold = 1) (hq3 : hR h 3 3 = some q) (hr : LayR h q) (hpc : PC (hI h) 12 J P) (hE : LtC h J E) (hrc : RC (hI h) q J Ln) (hm1 : ∀ i, i < 24 → hI h (n + 2) i = -1) (hq : ∀ f, LI (hI h) f J n E Ln door cold P → Q none (wI h f)) :
    ∀ (m p : Nat) (f : Mem), m = P - p → p ≤ P → LI (hI h) f J n E Ln door cold p → wp 5 MX5_lineUp Q 2 [some (.ref 31), some (.ref n), some (.int (nI p))] [] (wI h f) := by
  have hn90 := hn.1
  have hP := hpc.1
  have h16 := hpc.2.1
  intro m
  induction m with
  | zero =>
    intro p f hm hpP hi
    have e : p = P := by omega
    subst e
    have hgo := hq f hi
    have e16 : hI (wI h f) 16 0 = nI p := (hi.2.2.2.2.2.2 16 0 (by omega) (by omega) (by omega) (by decide)).trans h16
    have hl2 : LayX (wI h f) := hl
    have hs32 : hR (wI h f) 31 0 = some 3 := hs31
    refine s_X5_lineUp_2 Q _ _ _ ?_
    generalize wI h f = H at hgo e16 hl2 hs32 ⊢
    have hl := hl2
    simp only [b_X5_lineUp_2, lx_pI, lx_wI, lx_t hl, lx_k hl, lx_r hl, lx_l hl, i_push, i_ild, i_ald, i_ist, i_ast, i_inc, i_bin, i_un, i_divs, i_i2l, i_lshl, i_lor, i_dup, i_dup2, i_pop, i_if, i_cmp, i_nul, i_vret, i_iret, i_zret, i_aret, i_keep, keep, lget, lset, ent, i_getI, i_getJ, i_getR, i_getN, i_putI, i_putZ, i_putJ, i_putR, i_iald, i_bald, i_alen, i_aald, i_iast, i_bast, i_aast, i_new, i_newa, i_anew, i_oini, i_callS, i_callV, i_callI, popn, sh4, i_sw, swP, i_copy, i_binS, List.map, Option.toList_none, Option.toList_some, List.append, List.nil_append, List.cons_append, List.length_cons, List.length_nil, List.replicate, Nat.sub_self, Nat.reduceSub, Nat.reduceAdd, hK_pI, hL_pI, hI_pI, hR_pI, hJ_pI, hT_pI, hS_pI, hK_pR, hL_pR, hI_pR, hR_pR, hJ_pR, hT_pR, hS_pR, hK_pJ, hL_pJ, hI_pJ, hR_pJ, hJ_pJ, hT_pJ, hS_pJ, hK_wI, hL_wI, hI_wI, hR_wI, hJ_wI, hT_wI, hS_wI, eq_self, and_true, true_and, and_false, false_and, or_true, true_or, or_false, false_or, if_true, if_false, not_true_eq_false, not_false_eq_true, forall_const, implies_true, false_implies, true_implies, Option.some.injEq, forall_eq', exists_eq_left', reduceCtorEq, Nat.reduceEqDiff, c1, T_X12_in, T_X12_ones, T_X11_within, T_X11_bit, T_X11_isIn, T_X11_oneIfIn, T_J6_bitCount_0f7a4, hs32, e16]
    exact ⟨fun _ => hgo, fun z => absurd (nI_le (Nat.le_refl _) (by omega)) z⟩
  | succ m ih =>
    intro p f hm hpP hi
    have hot := hi.2.2.2.2.2.2
    have h35 : ∀ g, LI (hI h) g J n E Ln door cold (p + 1) → wp 5 MX5_lineUp Q 33 [some (.ref 31), some (.ref n), some (.int (nI p))] [] (wI h g) := by
      intro g hg
      have hgo := ih (p + 1) g (by omega) (by omega) hg
      refine s_X5_lineUp_33 Q _ _ _ ?_
      generalize wI h g = H at hgo ⊢
      simp only [b_X5_lineUp_33, i_push, i_ild, i_ald, i_ist, i_ast, i_inc, i_bin, i_un, i_divs, i_i2l, i_lshl, i_lor, i_dup, i_dup2, i_pop, i_if, i_cmp, i_nul, i_vret, i_iret, i_zret, i_aret, i_keep, keep, lget, lset, ent, i_getI, i_getJ, i_getR, i_getN, i_putI, i_putZ, i_putJ, i_putR, i_iald, i_bald, i_alen, i_aald, i_iast, i_bast, i_aast, i_new, i_newa, i_anew, i_oini, i_callS, i_callV, i_callI, popn, sh4, i_sw, swP, i_copy, i_binS, List.map, Option.toList_none, Option.toList_some, List.append, List.nil_append, List.cons_append, List.length_cons, List.length_nil, List.replicate, Nat.sub_self, Nat.reduceSub, Nat.reduceAdd, hK_pI, hL_pI, hI_pI, hR_pI, hJ_pI, hT_pI, hS_pI, hK_pR, hL_pR, hI_pR, hR_pR, hJ_pR, hT_pR, hS_pR, hK_pJ, hL_pJ, hI_pJ, hR_pJ, hJ_pJ, hT_pJ, hS_pJ, hK_wI, hL_wI, hI_wI, hR_wI, hJ_wI, hT_wI, hS_wI, eq_self, and_true, true_and, and_false, false_and, or_true, true_or, or_false, false_or, if_true, if_false, not_true_eq_false, not_false_eq_true, forall_const, implies_true, false_implies, true_implies, Option.some.injEq, forall_eq', exists_eq_left', reduceCtorEq, Nat.reduceEqDiff, c1, T_X12_in, T_X12_ones, T_X11_within, T_X11_bit, T_X11_isIn, T_X11_oneIfIn, T_J6_bitCount_0f7a4, nI_1]
      exact hgo
    have e16 : hI (wI h f) 16 0 = nI P := (hot 16 0 (by omega) (by omega) (by omega) (by decide)).trans h16
    have edo : hI (wI h f) n 2 = door := (hi.2.2.2.2.2.1 2 (by decide) (by decide)).trans hdo
    have ecd : hI (wI h f) n 3 = cold := (hi.2.2.2.2.2.1 3 (by decide) (by decide)).trans hcd
    have hl2 : LayX (wI h f) := hl
    have hn2 : LayN (wI h f) n R := hn
    have hs32 : hR (wI h f) 31 0 = some 3 := hs31
    have hpc2 : PC f 12 J P := PC_c (fun i i1 i2 => funext fun j => hot (12 + i) j (by omega) (by omega) (by omega) (by omega)) hpc
    have hdis := dis_RN hr hn
    have hrc2 : RC f q J Ln := RC_c (fun i i1 => funext fun j => hot (q + i) j (by omega) (by omega) (by omega) (by have := hr.1; omega)) hrc
    have hf := hn.f
    have hE2 : LtC (wI h f) J E := LtC_c (fun a i z1 z2 => hot a i (fun y => hnn (by rw [← y]; exact z1)) (fun y => by rw [y, hf.2.2.2.2.2.1] at z2; cases z2) (fun y => by rw [y, hf.2.2.2.2.2.2.1] at z2; cases z2) (fun y => by rw [y] at z2; simp only [lx_k hl, Nat.reduceEqDiff] at z2)) hE
    have hout : bt door p = false → wp 5 MX5_lineUp Q 33 [some (.ref 31), some (.ref n), some (.int (nI p))] [] (wI h f) := fun z => by
      have hno : ¬ inO J E Ln door cold p := fun y => by rw [y.1] at z; cases z
      have hw := LI_why hn90 hi hno (v := -1) (by unfold whyF; rw [if_neg (by rw [z]; decide)])
      have e : u2 f (n + 2) p (-1) = f := by
        funext a i
        by_cases c : a = n + 2 ∧ i = p
        · rw [c.1, c.2, u2_eq, hi.2.2.2.2.1 p (Nat.le_refl _), hm1 p (by omega)]
        · rw [u2_ne c]
      rw [e] at hw
      exact h35 f hw
    have hlook : bt door p = true → T_X5_lookAt [.ref 31, .ref n, .int (nI p)] (wI h f) (fun r h' => wp 5 MX5_lineUp Q 33 [some (.ref 31), some (.ref n), some (.int (nI p))] (r.toList ++ []) h') := fun z => by
      refine ⟨rfl, hl2, hs32, n, R, (ordS J E Ln door cold p).1, (ordS J E Ln door cold p).2, p, q, J, P, E, Ln, cold, rfl, hn2, rfl, by omega, ordS_10 h10 (by omega), hi.1, fun j hj => ⟨(hi.2.2.1 j hj).1, by have := ((ordS_ok J E Ln door cold p).2 j hj).1; omega⟩, ecd, hc, hq3, hr, hpc2, hE2, hrc2, fun b => ?_, fun b c => ?_, fun b c => ?_⟩
      · exact h35 _ (LI_why hn90 hi (fun y => y.2.1 b) (v := 1) (by unfold whyF; rw [if_pos z, if_pos b]))
      · exact h35 _ (LI_why hn90 hi (fun y => y.2.2 c) (v := 2) (by unfold whyF; rw [if_pos z, if_neg b, if_pos c]))
      · have hin : inO J E Ln door cold p := ⟨z, b, c⟩
        have hN1 : (ordS J E Ln door cold (p + 1)).1 = (ordS J E Ln door cold p).1 + 1 := by
          have e : ordS J E Ln door cold (p + 1) = _ := cif_t hin
          rw [e]
        have h11 := ordS_10 (J := J) (E := E) (Ln := Ln) (cold := cold) h10 (show p + 1 ≤ 32 by omega)
        refine ⟨by omega, ?_⟩
        refine h35 _ (LI_in hn90 (by omega) hi hin (hm1 p (by omega)) (fun r hr2 => ?_))
        exact (hpc2.2.2.2.1 r (by omega)).2.2.2.2.1
    refine s_X5_lineUp_2 Q _ _ _ ?_
    generalize wI h f = H at e16 edo hl2 hn2 hs32 hout hlook ⊢
    have hl := hl2
    have hf := hn2.f
    simp only [b_X5_lineUp_2, lx_pI, lx_wI, lx_t hl, lx_k hl, lx_r hl, lx_l hl, i_push, i_ild, i_ald, i_ist, i_ast, i_inc, i_bin, i_un, i_divs, i_i2l, i_lshl, i_lor, i_dup, i_dup2, i_pop, i_if, i_cmp, i_nul, i_vret, i_iret, i_zret, i_aret, i_keep, keep, lget, lset, ent, i_getI, i_getJ, i_getR, i_getN, i_putI, i_putZ, i_putJ, i_putR, i_iald, i_bald, i_alen, i_aald, i_iast, i_bast, i_aast, i_new, i_newa, i_anew, i_oini, i_callS, i_callV, i_callI, popn, sh4, i_sw, swP, i_copy, i_binS, List.map, Option.toList_none, Option.toList_some, List.append, List.nil_append, List.cons_append, List.length_cons, List.length_nil, List.replicate, Nat.sub_self, Nat.reduceSub, Nat.reduceAdd, hK_pI, hL_pI, hI_pI, hR_pI, hJ_pI, hT_pI, hS_pI, hK_pR, hL_pR, hI_pR, hR_pR, hJ_pR, hT_pR, hS_pR, hK_pJ, hL_pJ, hI_pJ, hR_pJ, hJ_pJ, hT_pJ, hS_pJ, hK_wI, hL_wI, hI_wI, hR_wI, hJ_wI, hT_wI, hS_wI, eq_self, and_true, true_and, and_false, false_and, or_true, true_or, or_false, false_or, if_true, if_false, not_true_eq_false, not_false_eq_true, forall_const, implies_true, false_implies, true_implies, Option.some.injEq, forall_eq', exists_eq_left', reduceCtorEq, Nat.reduceEqDiff, c1, T_X12_in, T_X12_ones, T_X11_within, T_X11_bit, T_X11_isIn, T_X11_oneIfIn, T_J6_bitCount_0f7a4, hs32, hf, e16, edo, sh_bt door (show p < 32 by omega), b2i_0, Classical.not_not]
    refine ⟨fun z => absurd z (nI_ge (by omega) (by omega)), fun _ => ⟨hout, fun z => ?_⟩⟩
    have hgo := hlook (by simpa using z)
    first | exact hgo | (simp only [c_X5_lineUp_33, i_push, i_ild, i_ald, i_ist, i_ast, i_inc, i_bin, i_un, i_divs, i_i2l, i_lshl, i_lor, i_dup, i_dup2, i_pop, i_if, i_cmp, i_nul, i_vret, i_iret, i_zret, i_aret, i_keep, keep, lget, lset, ent, i_getI, i_getJ, i_getR, i_getN, i_putI, i_putZ, i_putJ, i_putR, i_iald, i_bald, i_alen, i_aald, i_iast, i_bast, i_aast, i_new, i_newa, i_anew, i_oini, i_callS, i_callV, i_callI, popn, sh4, i_sw, swP, i_copy, i_binS, List.map, Option.toList_none, Option.toList_some, List.append, List.nil_append, List.cons_append, List.length_cons, List.length_nil, List.replicate, Nat.sub_self, Nat.reduceSub, Nat.reduceAdd, hK_pI, hL_pI, hI_pI, hR_pI, hJ_pI, hT_pI, hS_pI, hK_pR, hL_pR, hI_pR, hR_pR, hJ_pR, hT_pR, hS_pR, hK_pJ, hL_pJ, hI_pJ, hR_pJ, hJ_pJ, hT_pJ, hS_pJ, hK_wI, hL_wI, hI_wI, hR_wI, hJ_wI, hT_wI, hS_wI, eq_self, and_true, true_and, and_false, false_and, or_true, true_or, or_false, false_or, if_true, if_false, not_true_eq_false, not_false_eq_true, forall_const, implies_true, false_implies, true_implies, Option.some.injEq, forall_eq', exists_eq_left', reduceCtorEq, Nat.reduceEqDiff, c1, T_X12_in, T_X12_ones, T_X11_within, T_X11_bit, T_X11_isIn, T_X11_oneIfIn, T_J6_bitCount_0f7a4]; exact hgo)
set_option maxRecDepth 100000 in
set_option maxHeartbeats 4000000 in
theorem ok_X5_lineUp : ctr 5 MX5_lineUp T_X5_lineUp := by
  refine ctr_of pn_X5 wc_X5_lineUp (fun av h Q hT => ?_)
  unfold T_X5_lineUp at hT
  split at hT
  · rename_i a b
    refine ⟨⟨by simp [Value.category], Nat.le_of_ble_eq_true rfl⟩, s_X5_lineUp_0 Q _ _ _ ?_⟩
    obtain ⟨rfl, hl, hs31, n, R, q, J, P, E, Ln, door, cold, rfl, hn, hnn, hdo, h10, hcd, hc, hq3, hr, hpc, hE, hrc, hm1, hi, hq⟩ := hT
    have := lu_2 Q h hl hs31 n R q J P E Ln door cold hn hnn hdo h10 hcd hc hq3 hr hpc hE hrc hm1 hq P 0 (hI h) (by omega) (by omega) hi
    have e : wI h (hI h) = h := rfl
    rw [e] at this
    simp only [MX5_lineUp, b_X5_lineUp_0, i_push, i_ild, i_ald, i_ist, i_ast, i_inc, i_bin, i_un, i_divs, i_i2l, i_lshl, i_lor, i_dup, i_dup2, i_pop, i_if, i_cmp, i_nul, i_vret, i_iret, i_zret, i_aret, i_keep, keep, lget, lset, ent, i_getI, i_getJ, i_getR, i_getN, i_putI, i_putZ, i_putJ, i_putR, i_iald, i_bald, i_alen, i_aald, i_iast, i_bast, i_aast, i_new, i_newa, i_anew, i_oini, i_callS, i_callV, i_callI, popn, sh4, i_sw, swP, i_copy, i_binS, List.map, Option.toList_none, Option.toList_some, List.append, List.nil_append, List.cons_append, List.length_cons, List.length_nil, List.replicate, Nat.sub_self, Nat.reduceSub, Nat.reduceAdd, hK_pI, hL_pI, hI_pI, hR_pI, hJ_pI, hT_pI, hS_pI, hK_pR, hL_pR, hI_pR, hR_pR, hJ_pR, hT_pR, hS_pR, hK_pJ, hL_pJ, hI_pJ, hR_pJ, hJ_pJ, hT_pJ, hS_pJ, hK_wI, hL_wI, hI_wI, hR_wI, hJ_wI, hT_wI, hS_wI, eq_self, and_true, true_and, and_false, false_and, or_true, true_or, or_false, false_or, if_true, if_false, not_true_eq_false, not_false_eq_true, forall_const, implies_true, false_implies, true_implies, Option.some.injEq, forall_eq', exists_eq_left', reduceCtorEq, Nat.reduceEqDiff, c1, T_X12_in, T_X12_ones, T_X11_within, T_X11_bit, T_X11_isIn, T_X11_oneIfIn, T_J6_bitCount_0f7a4]
    exact this
  · exact hT.elim
