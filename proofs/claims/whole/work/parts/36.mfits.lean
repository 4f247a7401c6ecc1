/-! ===== the reference: would one room take a group ===== -/
/-- room r has x, the others are empty -/
def rmS (h : Hp) (r : Nat) (x : Int32) : Hp := wI h (fun a i => if a = 88 ∧ i < 4 then (if i = r then x else 0) else hI h a i)
theorem rmS_0 (h : Hp) (r : Nat) : eR h 4 = rmS h r 0 := by
  show wI h _ = wI h _
  congr 1
  funext a i
  by_cases e : a = 88 ∧ i < 4
  · rw [if_pos e, if_pos e]; split <;> rfl
  · rw [if_neg e, if_neg e]
theorem rmS_put (h : Hp) (r : Nat) (x y : Int32) (hr : r < 4) : pI (rmS h r x) 88 r y = rmS h r y := by
  unfold pI
  show wI h _ = wI h _
  congr 1
  funext a i
  show (if a = 88 ∧ i = r then y else if a = 88 ∧ i < 4 then (if i = r then x else 0) else hI h a i) = (if a = 88 ∧ i < 4 then (if i = r then y else 0) else hI h a i)
  by_cases ha : a = 88
  · by_cases hi : i = r
    · rw [if_pos ⟨ha, hi⟩, if_pos ⟨ha, by omega⟩, if_pos hi]
    · rw [if_neg (fun q => hi q.2)]
      by_cases h4 : i < 4
      · have h9 : a = 88 ∧ i < 4 := ⟨ha, h4⟩
        rw [if_pos h9, if_pos h9, if_neg hi, if_neg hi]
      · rw [if_neg (fun q => h4 q.2), if_neg (fun q => h4 q.2)]
  · rw [if_neg (fun q => ha q.1), if_neg (fun q => ha q.1), if_neg (fun q => ha q.1)]
theorem rmS_at (h : Hp) (r : Nat) (x : Int32) (hr : r < 4) : hI (rmS h r x) 88 r = x := by
  show (if 88 = 88 ∧ r < 4 then (if r = r then x else 0) else hI h 88 r) = x
  rw [if_pos ⟨rfl, hr⟩, if_pos rfl]
theorem rmS_ne (h : Hp) (r : Nat) (x : Int32) (a i : Nat) (ha : a ≠ 88) : hI (rmS h r x) a i = hI h a i := by
  show (if a = 88 ∧ i < 4 then _ else hI h a i) = _
  rw [if_neg (fun q => ha q.1)]
theorem eR_rmS (h : Hp) (r : Nat) (x : Int32) : eR (rmS h r x) 4 = eR h 4 := by
  show wI h _ = wI h _
  congr 1
  funext a i
  show (if a = 88 ∧ i < 4 then 0 else if a = 88 ∧ i < 4 then (if i = r then x else 0) else hI h a i) = (if a = 88 ∧ i < 4 then 0 else hI h a i)
  by_cases e : a = 88 ∧ i < 4
  · rw [if_pos e, if_pos e]
  · rw [if_neg e, if_neg e, if_neg e]
/-- the bits below p -/
def lwB (g : Int32) : Nat → Int32
  | 0 => 0
  | p + 1 => if bt g p = true then lwB g p ||| bitI p else lwB g p
def FA (h : Hp) (R P : Nat) (g : Int32) (r : Nat) : Prop := ∀ p, p < P → bt g p = true → mayF (hI (rmS h r (lwB g p))) R p r
def T_X12_fitsOne : Tr := fun av h Q => match av with
  | [.ref o, .int g] => o = 44 ∧ LayM h ∧ ∃ R P, R ≤ 4 ∧ P ≤ 24 ∧ hI h 46 0 = nI R ∧ hI h 52 0 = nI P ∧ ((∃ r, r < R ∧ FA h R P g r) → Q (some (.int 1)) (eR h 4)) ∧ (¬ (∃ r, r < R ∧ FA h R P g r) → Q (some (.int 0)) (eR h 4))
  | _ => False
def L_X12_fitsOne : List UInt8 := [3, 61, 28, 42, 180, 0, 13, 3, 46, 162, 0, 79, 42, 182, 1, 54, 4, 62, 3, 54, 4, 21, 4, 42, 180, 0, 32, 3, 46, 162, 0, 43, 29, 153, 0, 39, 27, 21, 4, 122, 4, 126, 153, 0, 24, 42, 21, 4, 28, 182, 1, 45, 62, 42, 180, 0, 144, 28, 92, 46, 4, 21, 4, 120, 128, 79, 132, 4, 1, 167, 255, 208, 29, 153, 0, 9, 42, 182, 1, 54, 4, 172, 132, 2, 1, 167, 255, 173, 42, 182, 1, 54, 3, 172]
theorem Lc_X12_fitsOne : MX12_fitsOne.2.1 = ⟨L_X12_fitsOne.toArray⟩ := rfl
theorem D_X12_fitsOne_0 : dseq MX12_fitsOne.2.1 0 [(.iconst 0, 1), (.istore_n 2, 1)] := dq Lc_X12_fitsOne 0 _ (by decide +kernel)
theorem D_X12_fitsOne_2 : dseq MX12_fitsOne.2.1 2 [(.iload_n 2, 1), (.aload_n 0, 1), (.getfield 13, 3), (.iconst 0, 1), (.iaload, 1), (.if_icmp .ge 79, 3), (.aload_n 0, 1), (.invokevirtual 310, 3), (.iconst 1, 1), (.istore_n 3, 1), (.iconst 0, 1), (.istore 4, 2)] := dq Lc_X12_fitsOne 2 _ (by decide +kernel)
theorem D_X12_fitsOne_88 : dseq MX12_fitsOne.2.1 88 [(.aload_n 0, 1), (.invokevirtual 310, 3), (.iconst 0, 1), (.ireturn, 1)] := dq Lc_X12_fitsOne 88 _ (by decide +kernel)
theorem D_X12_fitsOne_21 : dseq MX12_fitsOne.2.1 21 [(.iload 4, 2), (.aload_n 0, 1), (.getfield 32, 3), (.iconst 0, 1), (.iaload, 1), (.if_icmp .ge 43, 3), (.iload_n 3, 1), (.ifCond .eq 39, 3), (.iload_n 1, 1), (.iload 4, 2), (.ishr, 1), (.iconst 1, 1), (.iand, 1), (.ifCond .eq 24, 3), (.aload_n 0, 1), (.iload 4, 2), (.iload_n 2, 1), (.invokevirtual 301, 3), (.istore_n 3, 1), (.aload_n 0, 1), (.getfield 144, 3), (.iload_n 2, 1), (.dup2, 1), (.iaload, 1), (.iconst 1, 1), (.iload 4, 2), (.ishl, 1), (.ior, 1), (.iastore, 1)] := dq Lc_X12_fitsOne 21 _ (by decide +kernel)
theorem D_X12_fitsOne_66 : dseq MX12_fitsOne.2.1 66 [(.iinc 4 1, 3), (.goto (-48), 3)] := dq Lc_X12_fitsOne 66 _ (by decide +kernel)
theorem D_X12_fitsOne_72 : dseq MX12_fitsOne.2.1 72 [(.iload_n 3, 1), (.ifCond .eq 9, 3), (.aload_n 0, 1), (.invokevirtual 310, 3), (.iconst 1, 1), (.ireturn, 1)] := dq Lc_X12_fitsOne 72 _ (by decide +kernel)
theorem D_X12_fitsOne_82 : dseq MX12_fitsOne.2.1 82 [(.iinc 2 1, 3), (.goto (-83), 3)] := dq Lc_X12_fitsOne 82 _ (by decide +kernel)
def c_X12_fitsOne_92 (Q : Option Value → Hp → Prop) : Kt := i_push (.int 0) (i_zret Q)
def c_X12_fitsOne_16 (Q : Option Value → Hp → Prop) : Kt := i_push (.int 1) (i_ist 3 (i_push (.int 0) (i_ist 4 (i_keep [true, true, true, true, true] (wp 2 MX12_fitsOne Q 21)))))
def c_X12_fitsOne_52 (Q : Option Value → Hp → Prop) : Kt := i_ist 3 (i_ald 0 (i_getR 12 57 (i_ild 2 (i_dup2 (i_iald (i_push (.int 1) (i_ild 4 (i_bin (fun x y => x <<< (y &&& 31)) (i_bin (fun x y => x ||| y) (i_iast (i_keep [true, true, true, true, true] (wp 2 MX12_fitsOne Q 66))))))))))))
def c_X12_fitsOne_80 (Q : Option Value → Hp → Prop) : Kt := i_push (.int 1) (i_zret Q)
def b_X12_fitsOne_0 (Q : Option Value → Hp → Prop) : Kt := i_push (.int 0) (i_ist 2 (i_keep [true, true, true, false, false] (wp 2 MX12_fitsOne Q 2)))
set_option maxRecDepth 100000 in
theorem s_X12_fitsOne_0 (Q : Option Value → Hp → Prop) : ∀ A st h, b_X12_fitsOne_0 Q A st h → wp 2 MX12_fitsOne Q 0 A st h := (q1 (s_iconst (n := 0) (v := 0) (by decide)) D_X12_fitsOne_0 fun D => (qL (s_istn (n := 2) (i := 2) rfl) (by decide) D fun D => (s_keep [true, true, true, false, false] fun _ _ _ h => h)))
def b_X12_fitsOne_2 (Q : Option Value → Hp → Prop) : Kt := i_ild 2 (i_ald 0 (i_getR 12 3 (i_push (.int 0) (i_iald (i_cmp (fun x y => y ≤ x) (i_ald 0 (i_callV 12 0 T_X12_emptyRooms (c_X12_fitsOne_92 Q))) (i_ald 0 (i_callV 12 0 T_X12_emptyRooms (c_X12_fitsOne_16 Q))))))))
set_option maxRecDepth 100000 in
theorem s_X12_fitsOne_2 (Q : Option Value → Hp → Prop) : ∀ A st h, b_X12_fitsOne_2 Q A st h → wp 2 MX12_fitsOne Q 2 A st h := (q1 (s_ildn (n := 2) (i := 2) rfl) D_X12_fitsOne_2 fun D => (q1 (s_aldn (n := 0) (i := 0) rfl) D fun D => (qC fl_X12_13 rfl D fun D => (q1 (s_iconst (n := 0) (v := 0) (by decide)) D fun D => (q1 s_iald D fun D => (qB s_cmpge 88 (by decide) D (q1 (s_aldn (n := 0) (i := 0) rfl) D_X12_fitsOne_88 fun D => (qX (s_callV kX12 rfl ok_X12_emptyRooms mo_X12_emptyRooms (ch_6_6_ok.2.2.2.2.2.2.2.2.2.2.2.2.2.2.2.1.1 rfl) (ch_6_7_ok.2.1.1 rfl) (pv_3.2.2.2.2.2.2.2.2.1)) rfl (by decide) D fun D => (q1 (s_iconst (n := 0) (v := 0) (by decide)) D fun D => (qZ rfl D)))) fun D => (q1 (s_aldn (n := 0) (i := 0) rfl) D fun D => (qX (s_callV kX12 rfl ok_X12_emptyRooms mo_X12_emptyRooms (ch_6_6_ok.2.2.2.2.2.2.2.2.2.2.2.2.2.2.2.1.1 rfl) (ch_6_7_ok.2.1.1 rfl) (pv_3.2.2.2.2.2.2.2.2.1)) rfl (by decide) D fun D => (q1 (s_iconst (n := 1) (v := 1) (by decide)) D fun D => (qL (s_istn (n := 3) (i := 3) rfl) (by decide) D fun D => (q1 (s_iconst (n := 0) (v := 0) (by decide)) D fun D => (qL s_ist (by decide) D fun D => (s_keep [true, true, true, true, true] fun _ _ _ h => h)))))))))))))
def b_X12_fitsOne_21 (Q : Option Value → Hp → Prop) : Kt := i_ild 4 (i_ald 0 (i_getR 12 9 (i_push (.int 0) (i_iald (i_cmp (fun x y => y ≤ x) (i_keep [true, true, true, true, false] (wp 2 MX12_fitsOne Q 72)) (i_ild 3 (i_if (fun x => x = 0) (i_keep [true, true, true, true, false] (wp 2 MX12_fitsOne Q 72)) (i_ild 1 (i_ild 4 (i_bin (fun x y => x >>> (y &&& 31)) (i_push (.int 1) (i_bin (fun x y => x &&& y) (i_if (fun x => x = 0) (i_keep [true, true, true, true, true] (wp 2 MX12_fitsOne Q 66)) (i_ald 0 (i_ild 4 (i_ild 2 (i_callV 12 2 T_X12_may (c_X12_fitsOne_52 Q))))))))))))))))))
set_option maxRecDepth 100000 in
theorem s_X12_fitsOne_21 (Q : Option Value → Hp → Prop) : ∀ A st h, b_X12_fitsOne_21 Q A st h → wp 2 MX12_fitsOne Q 21 A st h := (q1 s_ild D_X12_fitsOne_21 fun D => (q1 (s_aldn (n := 0) (i := 0) rfl) D fun D => (qC fl_X12_32 rfl D fun D => (q1 (s_iconst (n := 0) (v := 0) (by decide)) D fun D => (q1 s_iald D fun D => (qB s_cmpge 72 (by decide) D (s_keep [true, true, true, true, false] fun _ _ _ h => h) fun D => (q1 (s_ildn (n := 3) (i := 3) rfl) D fun D => (qB s_ifeq 72 (by decide) D (s_keep [true, true, true, true, false] fun _ _ _ h => h) fun D => (q1 (s_ildn (n := 1) (i := 1) rfl) D fun D => (q1 s_ild D fun D => (q1 s_shr D fun D => (q1 (s_iconst (n := 1) (v := 1) (by decide)) D fun D => (q1 s_and D fun D => (qB s_ifeq 66 (by decide) D (s_keep [true, true, true, true, true] fun _ _ _ h => h) fun D => (q1 (s_aldn (n := 0) (i := 0) rfl) D fun D => (q1 s_ild D fun D => (q1 (s_ildn (n := 2) (i := 2) rfl) D fun D => (qX (s_callV kX12 rfl ok_X12_may mo_X12_may (ch_6_7_ok.2.2.2.2.2.2.2.2.2.2.2.1.1 rfl) (ch_6_7_ok.2.2.2.2.2.2.2.2.2.2.2.2.2.1.1 rfl) (pv_3.2.2.2.2.2.2.2.2.2.2.2.1)) rfl (by decide) D fun D => (qL (s_istn (n := 3) (i := 3) rfl) (by decide) D fun D => (q1 (s_aldn (n := 0) (i := 0) rfl) D fun D => (qC fl_X12_144 rfl D fun D => (q1 (s_ildn (n := 2) (i := 2) rfl) D fun D => (q1 s_dup2 D fun D => (q1 s_iald D fun D => (q1 (s_iconst (n := 1) (v := 1) (by decide)) D fun D => (q1 s_ild D fun D => (q1 s_shl D fun D => (q1 s_or D fun D => (q1 s_iast D fun D => (s_keep [true, true, true, true, true] fun _ _ _ h => h))))))))))))))))))))))))))))))
def b_X12_fitsOne_66 (Q : Option Value → Hp → Prop) : Kt := i_inc 4 1 (i_keep [true, true, true, true, true] (wp 2 MX12_fitsOne Q 21))
set_option maxRecDepth 100000 in
theorem s_X12_fitsOne_66 (Q : Option Value → Hp → Prop) : ∀ A st h, b_X12_fitsOne_66 Q A st h → wp 2 MX12_fitsOne Q 66 A st h := (qL (s_inc (i := 4) (n := 1) (v := 1) (by decide)) (by decide) D_X12_fitsOne_66 fun D => (qG 21 (by decide) D (s_keep [true, true, true, true, true] fun _ _ _ h => h)))
def b_X12_fitsOne_72 (Q : Option Value → Hp → Prop) : Kt := i_ild 3 (i_if (fun x => x = 0) (i_inc 2 1 (i_keep [true, true, true, false, false] (wp 2 MX12_fitsOne Q 2))) (i_ald 0 (i_callV 12 0 T_X12_emptyRooms (c_X12_fitsOne_80 Q))))
set_option maxRecDepth 100000 in
theorem s_X12_fitsOne_72 (Q : Option Value → Hp → Prop) : ∀ A st h, b_X12_fitsOne_72 Q A st h → wp 2 MX12_fitsOne Q 72 A st h := (q1 (s_ildn (n := 3) (i := 3) rfl) D_X12_fitsOne_72 fun D => (qB s_ifeq 82 (by decide) D (qL (s_inc (i := 2) (n := 1) (v := 1) (by decide)) (by decide) D_X12_fitsOne_82 fun D => (qG 2 (by decide) D (s_keep [true, true, true, false, false] fun _ _ _ h => h))) fun D => (q1 (s_aldn (n := 0) (i := 0) rfl) D fun D => (qX (s_callV kX12 rfl ok_X12_emptyRooms mo_X12_emptyRooms (ch_6_6_ok.2.2.2.2.2.2.2.2.2.2.2.2.2.2.2.1.1 rfl) (ch_6_7_ok.2.1.1 rfl) (pv_3.2.2.2.2.2.2.2.2.1)) rfl (by decide) D fun D => (q1 (s_iconst (n := 1) (v := 1) (by decide)) D fun D => (qZ rfl D))))))

set_option maxRecDepth 100000 in
theorem fits_21 (Q : Option Value → Hp → Prop) (h : Hp) (hl0 : LayM h) (R P r : Nat) (g : Int32) (hR : R ≤ 4) (hP : P ≤ 24) (h46 : hI h 46 0 = nI R) (h52 : hI h 52 0 = nI P) (hr : r < R)
    (hy : FA h R P g r → Q (some (.int 1)) (eR h 4)) (hn : ¬ FA h R P g r → ∀ x, wp 2 MX12_fitsOne Q 2 [some (.ref 44), some (.int g), some (.int (nI (r + 1))), none, none] [] (rmS h r x)) :
    ∀ (m p : Nat), m = P - p → p ≤ P → (∀ q, q < p → bt g q = true → mayF (hI (rmS h r (lwB g q))) R q r) → wp 2 MX12_fitsOne Q 21 [some (.ref 44), some (.int g), some (.int (nI r)), some (.int 1), some (.int (nI p))] [] (rmS h r (lwB g p)) := by
  have hl2 : ∀ x, LayM (rmS h r x) := fun x => hl0.wI _
  have h72 : ∀ (z x : Int32), ((z = 1 ∧ FA h R P g r) ∨ (z = 0 ∧ ¬ FA h R P g r)) → wp 2 MX12_fitsOne Q 72 [some (.ref 44), some (.int g), some (.int (nI r)), some (.int z), none] [] (rmS h r x) := by
    intro z x hz
    have hl := hl2 x
    refine s_X12_fitsOne_72 Q _ _ _ ?_
    simp only [b_X12_fitsOne_72, hl, lay_pI, lay_wI, lay_pJ, lm_t hl, lm_k hl, lm_r hl, lm_l hl, i_push, i_ild, i_ald, i_ist, i_ast, i_inc, i_bin, i_un, i_divs, i_i2l, i_lshl, i_lor, i_dup, i_dup2, i_pop, i_if, i_cmp, i_nul, i_vret, i_iret, i_zret, i_aret, i_keep, keep, lget, lset, ent, i_getI, i_getJ, i_getR, i_getN, i_putI, i_putZ, i_putJ, i_putR, i_iald, i_bald, i_alen, i_aald, i_iast, i_bast, i_aast, i_new, i_newa, i_anew, i_oini, i_callS, i_callV, i_callI, popn, sh4, i_sw, swP, i_copy, i_binS, List.map, Option.toList_none, Option.toList_some, List.append, List.nil_append, List.cons_append, List.length_cons, List.length_nil, List.replicate, Nat.sub_self, Nat.reduceSub, Nat.reduceAdd, hK_pI, hL_pI, hI_pI, hR_pI, hJ_pI, hT_pI, hS_pI, hK_pR, hL_pR, hI_pR, hR_pR, hJ_pR, hT_pR, hS_pR, hK_pJ, hL_pJ, hI_pJ, hR_pJ, hJ_pJ, hT_pJ, hS_pJ, hK_wI, hL_wI, hI_wI, hR_wI, hJ_wI, hT_wI, hS_wI, eq_self, and_true, true_and, and_false, false_and, or_true, true_or, or_false, false_or, if_true, if_false, not_true_eq_false, not_false_eq_true, forall_const, implies_true, false_implies, true_implies, Option.some.injEq, forall_eq', exists_eq_left', reduceCtorEq, Nat.reduceEqDiff, c1, T_X12_in, T_X12_ones, T_X11_within, T_X11_bit, T_X11_isIn, T_X11_oneIfIn, T_J6_bitCount_0f7a4, nI_1]
    rcases hz with ⟨e, hf⟩ | ⟨e, hf⟩
    · refine ⟨fun q => absurd (e.symm.trans q) (by decide), fun _ => ⟨rfl, hl, ?_⟩⟩
      rw [eR_rmS]
      simp only [c_X12_fitsOne_80, i_push, i_ild, i_ald, i_ist, i_ast, i_inc, i_bin, i_un, i_divs, i_i2l, i_lshl, i_lor, i_dup, i_dup2, i_pop, i_if, i_cmp, i_nul, i_vret, i_iret, i_zret, i_aret, i_keep, keep, lget, lset, ent, i_getI, i_getJ, i_getR, i_getN, i_putI, i_putZ, i_putJ, i_putR, i_iald, i_bald, i_alen, i_aald, i_iast, i_bast, i_aast, i_new, i_newa, i_anew, i_oini, i_callS, i_callV, i_callI, popn, sh4, i_sw, swP, i_copy, i_binS, List.map, Option.toList_none, Option.toList_some, List.append, List.nil_append, List.cons_append, List.length_cons, List.length_nil, List.replicate, Nat.sub_self, Nat.reduceSub, Nat.reduceAdd, hK_pI, hL_pI, hI_pI, hR_pI, hJ_pI, hT_pI, hS_pI, hK_pR, hL_pR, hI_pR, hR_pR, hJ_pR, hT_pR, hS_pR, hK_pJ, hL_pJ, hI_pJ, hR_pJ, hJ_pJ, hT_pJ, hS_pJ, hK_wI, hL_wI, hI_wI, hR_wI, hJ_wI, hT_wI, hS_wI, eq_self, and_true, true_and, and_false, false_and, or_true, true_or, or_false, false_or, if_true, if_false, not_true_eq_false, not_false_eq_true, forall_const, implies_true, false_implies, true_implies, Option.some.injEq, forall_eq', exists_eq_left', reduceCtorEq, Nat.reduceEqDiff, c1, T_X12_in, T_X12_ones, T_X11_within, T_X11_bit, T_X11_isIn, T_X11_oneIfIn, T_J6_bitCount_0f7a4]
      exact hy hf
    · refine ⟨fun _ => hn hf x, fun q => absurd e q⟩
  intro m
  induction m with
  | zero =>
    intro p hm hp hall
    have e : p = P := by omega
    subst e
    have hl := hl2 (lwB g p)
    have e52 : hI (rmS h r (lwB g p)) 52 0 = nI p := by rw [rmS_ne _ _ _ _ _ (by decide)]; exact h52
    refine s_X12_fitsOne_21 Q _ _ _ ?_
    simp only [b_X12_fitsOne_21, hl, lay_pI, lay_wI, lay_pJ, lm_t hl, lm_k hl, lm_r hl, lm_l hl, i_push, i_ild, i_ald, i_ist, i_ast, i_inc, i_bin, i_un, i_divs, i_i2l, i_lshl, i_lor, i_dup, i_dup2, i_pop, i_if, i_cmp, i_nul, i_vret, i_iret, i_zret, i_aret, i_keep, keep, lget, lset, ent, i_getI, i_getJ, i_getR, i_getN, i_putI, i_putZ, i_putJ, i_putR, i_iald, i_bald, i_alen, i_aald, i_iast, i_bast, i_aast, i_new, i_newa, i_anew, i_oini, i_callS, i_callV, i_callI, popn, sh4, i_sw, swP, i_copy, i_binS, List.map, Option.toList_none, Option.toList_some, List.append, List.nil_append, List.cons_append, List.length_cons, List.length_nil, List.replicate, Nat.sub_self, Nat.reduceSub, Nat.reduceAdd, hK_pI, hL_pI, hI_pI, hR_pI, hJ_pI, hT_pI, hS_pI, hK_pR, hL_pR, hI_pR, hR_pR, hJ_pR, hT_pR, hS_pR, hK_pJ, hL_pJ, hI_pJ, hR_pJ, hJ_pJ, hT_pJ, hS_pJ, hK_wI, hL_wI, hI_wI, hR_wI, hJ_wI, hT_wI, hS_wI, eq_self, and_true, true_and, and_false, false_and, or_true, true_or, or_false, false_or, if_true, if_false, not_true_eq_false, not_false_eq_true, forall_const, implies_true, false_implies, true_implies, Option.some.injEq, forall_eq', exists_eq_left', reduceCtorEq, Nat.reduceEqDiff, c1, T_X12_in, T_X12_ones, T_X11_within, T_X11_bit, T_X11_isIn, T_X11_oneIfIn, T_J6_bitCount_0f7a4, in0 4 (by decide) (by decide), cl0, e52]
    exact ⟨fun _ => h72 1 _ (Or.inl ⟨rfl, hall⟩), fun c => absurd (nI_le (Nat.le_refl _) (by omega)) c⟩
  | succ m ih =>
    intro p hm hp hall
    have hl := hl2 (lwB g p)
    have e52 : hI (rmS h r (lwB g p)) 52 0 = nI P := by rw [rmS_ne _ _ _ _ _ (by decide)]; exact h52
    have e46 : hI (rmS h r (lwB g p)) 46 0 = nI R := by rw [rmS_ne _ _ _ _ _ (by decide)]; exact h46
    refine s_X12_fitsOne_21 Q _ _ _ ?_
    simp only [b_X12_fitsOne_21, hl, lay_pI, lay_wI, lay_pJ, lm_t hl, lm_k hl, lm_r hl, lm_l hl, i_push, i_ild, i_ald, i_ist, i_ast, i_inc, i_bin, i_un, i_divs, i_i2l, i_lshl, i_lor, i_dup, i_dup2, i_pop, i_if, i_cmp, i_nul, i_vret, i_iret, i_zret, i_aret, i_keep, keep, lget, lset, ent, i_getI, i_getJ, i_getR, i_getN, i_putI, i_putZ, i_putJ, i_putR, i_iald, i_bald, i_alen, i_aald, i_iast, i_bast, i_aast, i_new, i_newa, i_anew, i_oini, i_callS, i_callV, i_callI, popn, sh4, i_sw, swP, i_copy, i_binS, List.map, Option.toList_none, Option.toList_some, List.append, List.nil_append, List.cons_append, List.length_cons, List.length_nil, List.replicate, Nat.sub_self, Nat.reduceSub, Nat.reduceAdd, hK_pI, hL_pI, hI_pI, hR_pI, hJ_pI, hT_pI, hS_pI, hK_pR, hL_pR, hI_pR, hR_pR, hJ_pR, hT_pR, hS_pR, hK_pJ, hL_pJ, hI_pJ, hR_pJ, hJ_pJ, hT_pJ, hS_pJ, hK_wI, hL_wI, hI_wI, hR_wI, hJ_wI, hT_wI, hS_wI, eq_self, and_true, true_and, and_false, false_and, or_true, true_or, or_false, false_or, if_true, if_false, not_true_eq_false, not_false_eq_true, forall_const, implies_true, false_implies, true_implies, Option.some.injEq, forall_eq', exists_eq_left', reduceCtorEq, Nat.reduceEqDiff, c1, T_X12_in, T_X12_ones, T_X11_within, T_X11_bit, T_X11_isIn, T_X11_oneIfIn, T_J6_bitCount_0f7a4, in0 4 (by decide) (by decide), cl0, e52, sh_bt g (show p < 32 by omega)]
    refine ⟨fun c => absurd c (nI_ge (by omega) (by omega)), fun _ => ⟨fun c => absurd c (by decide), fun _ => ⟨fun c => ?_, fun c => ?_⟩⟩⟩
    · refine s_X12_fitsOne_66 Q _ _ _ ?_
      simp only [b_X12_fitsOne_66, i_push, i_ild, i_ald, i_ist, i_ast, i_inc, i_bin, i_un, i_divs, i_i2l, i_lshl, i_lor, i_dup, i_dup2, i_pop, i_if, i_cmp, i_nul, i_vret, i_iret, i_zret, i_aret, i_keep, keep, lget, lset, ent, i_getI, i_getJ, i_getR, i_getN, i_putI, i_putZ, i_putJ, i_putR, i_iald, i_bald, i_alen, i_aald, i_iast, i_bast, i_aast, i_new, i_newa, i_anew, i_oini, i_callS, i_callV, i_callI, popn, sh4, i_sw, swP, i_copy, i_binS, List.map, Option.toList_none, Option.toList_some, List.append, List.nil_append, List.cons_append, List.length_cons, List.length_nil, List.replicate, Nat.sub_self, Nat.reduceSub, Nat.reduceAdd, hK_pI, hL_pI, hI_pI, hR_pI, hJ_pI, hT_pI, hS_pI, hK_pR, hL_pR, hI_pR, hR_pR, hJ_pR, hT_pR, hS_pR, hK_pJ, hL_pJ, hI_pJ, hR_pJ, hJ_pJ, hT_pJ, hS_pJ, hK_wI, hL_wI, hI_wI, hR_wI, hJ_wI, hT_wI, hS_wI, eq_self, and_true, true_and, and_false, false_and, or_true, true_or, or_false, false_or, if_true, if_false, not_true_eq_false, not_false_eq_true, forall_const, implies_true, false_implies, true_implies, Option.some.injEq, forall_eq', exists_eq_left', reduceCtorEq, Nat.reduceEqDiff, c1, T_X12_in, T_X12_ones, T_X11_within, T_X11_bit, T_X11_isIn, T_X11_oneIfIn, T_J6_bitCount_0f7a4, nI_1]
      have el : lwB g (p + 1) = lwB g p := if_neg (by rw [c]; decide)
      rw [← el]
      refine ih (p + 1) (by omega) (by omega) (fun q hq hb => ?_)
      rcases Nat.lt_or_ge q p with z | z
      · exact hall q z hb
      · have : q = p := by omega
        subst this
        rw [c] at hb; cases hb
    · have hb : bt g p = true := by simpa using c
      have el : lwB g (p + 1) = lwB g p ||| bitI p := if_pos hb
      have eb : (1 : Int32) <<< (nI p &&& 31) = bitI p := rfl
      refine ⟨rfl, hl, R, p, r, hR, e46, rfl, by omega, rfl, by omega, fun hm2 => ?_, fun hm2 => ?_⟩
      · simp only [c_X12_fitsOne_52, hl, lay_pI, lay_wI, lay_pJ, lm_t hl, lm_k hl, lm_r hl, lm_l hl, i_push, i_ild, i_ald, i_ist, i_ast, i_inc, i_bin, i_un, i_divs, i_i2l, i_lshl, i_lor, i_dup, i_dup2, i_pop, i_if, i_cmp, i_nul, i_vret, i_iret, i_zret, i_aret, i_keep, keep, lget, lset, ent, i_getI, i_getJ, i_getR, i_getN, i_putI, i_putZ, i_putJ, i_putR, i_iald, i_bald, i_alen, i_aald, i_iast, i_bast, i_aast, i_new, i_newa, i_anew, i_oini, i_callS, i_callV, i_callI, popn, sh4, i_sw, swP, i_copy, i_binS, List.map, Option.toList_none, Option.toList_some, List.append, List.nil_append, List.cons_append, List.length_cons, List.length_nil, List.replicate, Nat.sub_self, Nat.reduceSub, Nat.reduceAdd, hK_pI, hL_pI, hI_pI, hR_pI, hJ_pI, hT_pI, hS_pI, hK_pR, hL_pR, hI_pR, hR_pR, hJ_pR, hT_pR, hS_pR, hK_pJ, hL_pJ, hI_pJ, hR_pJ, hJ_pJ, hT_pJ, hS_pJ, hK_wI, hL_wI, hI_wI, hR_wI, hJ_wI, hT_wI, hS_wI, eq_self, and_true, true_and, and_false, false_and, or_true, true_or, or_false, false_or, if_true, if_false, not_true_eq_false, not_false_eq_true, forall_const, implies_true, false_implies, true_implies, Option.some.injEq, forall_eq', exists_eq_left', reduceCtorEq, Nat.reduceEqDiff, c1, T_X12_in, T_X12_ones, T_X11_within, T_X11_bit, T_X11_isIn, T_X11_oneIfIn, T_J6_bitCount_0f7a4, cl_nI (show r < 2147483648 by omega), in_nI (show r < 4 by omega) (by decide), eb, rmS_at h r _ (show r < 4 by omega), rmS_put h r _ _ (show r < 4 by omega)]
        rw [← el]
        refine s_X12_fitsOne_66 Q _ _ _ ?_
        simp only [b_X12_fitsOne_66, i_push, i_ild, i_ald, i_ist, i_ast, i_inc, i_bin, i_un, i_divs, i_i2l, i_lshl, i_lor, i_dup, i_dup2, i_pop, i_if, i_cmp, i_nul, i_vret, i_iret, i_zret, i_aret, i_keep, keep, lget, lset, ent, i_getI, i_getJ, i_getR, i_getN, i_putI, i_putZ, i_putJ, i_putR, i_iald, i_bald, i_alen, i_aald, i_iast, i_bast, i_aast, i_new, i_newa, i_anew, i_oini, i_callS, i_callV, i_callI, popn, sh4, i_sw, swP, i_copy, i_binS, List.map, Option.toList_none, Option.toList_some, List.append, List.nil_append, List.cons_append, List.length_cons, List.length_nil, List.replicate, Nat.sub_self, Nat.reduceSub, Nat.reduceAdd, hK_pI, hL_pI, hI_pI, hR_pI, hJ_pI, hT_pI, hS_pI, hK_pR, hL_pR, hI_pR, hR_pR, hJ_pR, hT_pR, hS_pR, hK_pJ, hL_pJ, hI_pJ, hR_pJ, hJ_pJ, hT_pJ, hS_pJ, hK_wI, hL_wI, hI_wI, hR_wI, hJ_wI, hT_wI, hS_wI, eq_self, and_true, true_and, and_false, false_and, or_true, true_or, or_false, false_or, if_true, if_false, not_true_eq_false, not_false_eq_true, forall_const, implies_true, false_implies, true_implies, Option.some.injEq, forall_eq', exists_eq_left', reduceCtorEq, Nat.reduceEqDiff, c1, T_X12_in, T_X12_ones, T_X11_within, T_X11_bit, T_X11_isIn, T_X11_oneIfIn, T_J6_bitCount_0f7a4, nI_1]
        refine ih (p + 1) (by omega) (by omega) (fun q hq hbq => ?_)
        rcases Nat.lt_or_ge q p with z | z
        · exact hall q z hbq
        · have : q = p := by omega
          subst this
          exact hm2
      · simp only [c_X12_fitsOne_52, hl, lay_pI, lay_wI, lay_pJ, lm_t hl, lm_k hl, lm_r hl, lm_l hl, i_push, i_ild, i_ald, i_ist, i_ast, i_inc, i_bin, i_un, i_divs, i_i2l, i_lshl, i_lor, i_dup, i_dup2, i_pop, i_if, i_cmp, i_nul, i_vret, i_iret, i_zret, i_aret, i_keep, keep, lget, lset, ent, i_getI, i_getJ, i_getR, i_getN, i_putI, i_putZ, i_putJ, i_putR, i_iald, i_bald, i_alen, i_aald, i_iast, i_bast, i_aast, i_new, i_newa, i_anew, i_oini, i_callS, i_callV, i_callI, popn, sh4, i_sw, swP, i_copy, i_binS, List.map, Option.toList_none, Option.toList_some, List.append, List.nil_append, List.cons_append, List.length_cons, List.length_nil, List.replicate, Nat.sub_self, Nat.reduceSub, Nat.reduceAdd, hK_pI, hL_pI, hI_pI, hR_pI, hJ_pI, hT_pI, hS_pI, hK_pR, hL_pR, hI_pR, hR_pR, hJ_pR, hT_pR, hS_pR, hK_pJ, hL_pJ, hI_pJ, hR_pJ, hJ_pJ, hT_pJ, hS_pJ, hK_wI, hL_wI, hI_wI, hR_wI, hJ_wI, hT_wI, hS_wI, eq_self, and_true, true_and, and_false, false_and, or_true, true_or, or_false, false_or, if_true, if_false, not_true_eq_false, not_false_eq_true, forall_const, implies_true, false_implies, true_implies, Option.some.injEq, forall_eq', exists_eq_left', reduceCtorEq, Nat.reduceEqDiff, c1, T_X12_in, T_X12_ones, T_X11_within, T_X11_bit, T_X11_isIn, T_X11_oneIfIn, T_J6_bitCount_0f7a4, cl_nI (show r < 2147483648 by omega), in_nI (show r < 4 by omega) (by decide), eb, rmS_at h r _ (show r < 4 by omega), rmS_put h r _ _ (show r < 4 by omega)]
        refine s_X12_fitsOne_66 Q _ _ _ ?_
        simp only [b_X12_fitsOne_66, i_push, i_ild, i_ald, i_ist, i_ast, i_inc, i_bin, i_un, i_divs, i_i2l, i_lshl, i_lor, i_dup, i_dup2, i_pop, i_if, i_cmp, i_nul, i_vret, i_iret, i_zret, i_aret, i_keep, keep, lget, lset, ent, i_getI, i_getJ, i_getR, i_getN, i_putI, i_putZ, i_putJ, i_putR, i_iald, i_bald, i_alen, i_aald, i_iast, i_bast, i_aast, i_new, i_newa, i_anew, i_oini, i_callS, i_callV, i_callI, popn, sh4, i_sw, swP, i_copy, i_binS, List.map, Option.toList_none, Option.toList_some, List.append, List.nil_append, List.cons_append, List.length_cons, List.length_nil, List.replicate, Nat.sub_self, Nat.reduceSub, Nat.reduceAdd, hK_pI, hL_pI, hI_pI, hR_pI, hJ_pI, hT_pI, hS_pI, hK_pR, hL_pR, hI_pR, hR_pR, hJ_pR, hT_pR, hS_pR, hK_pJ, hL_pJ, hI_pJ, hR_pJ, hJ_pJ, hT_pJ, hS_pJ, hK_wI, hL_wI, hI_wI, hR_wI, hJ_wI, hT_wI, hS_wI, eq_self, and_true, true_and, and_false, false_and, or_true, true_or, or_false, false_or, if_true, if_false, not_true_eq_false, not_false_eq_true, forall_const, implies_true, false_implies, true_implies, Option.some.injEq, forall_eq', exists_eq_left', reduceCtorEq, Nat.reduceEqDiff, c1, T_X12_in, T_X12_ones, T_X11_within, T_X11_bit, T_X11_isIn, T_X11_oneIfIn, T_J6_bitCount_0f7a4, nI_1]
        have hl3 := hl2 (lwB g p ||| bitI p)
        have e523 : hI (rmS h r (lwB g p ||| bitI p)) 52 0 = nI P := by rw [rmS_ne _ _ _ _ _ (by decide)]; exact h52
        have hfa : ¬ FA h R P g r := fun z => hm2 (z p (by omega) hb)
        refine s_X12_fitsOne_21 Q _ _ _ ?_
        simp only [b_X12_fitsOne_21, hl3, lm_t hl3, lm_k hl3, lm_r hl3, lm_l hl3, i_push, i_ild, i_ald, i_ist, i_ast, i_inc, i_bin, i_un, i_divs, i_i2l, i_lshl, i_lor, i_dup, i_dup2, i_pop, i_if, i_cmp, i_nul, i_vret, i_iret, i_zret, i_aret, i_keep, keep, lget, lset, ent, i_getI, i_getJ, i_getR, i_getN, i_putI, i_putZ, i_putJ, i_putR, i_iald, i_bald, i_alen, i_aald, i_iast, i_bast, i_aast, i_new, i_newa, i_anew, i_oini, i_callS, i_callV, i_callI, popn, sh4, i_sw, swP, i_copy, i_binS, List.map, Option.toList_none, Option.toList_some, List.append, List.nil_append, List.cons_append, List.length_cons, List.length_nil, List.replicate, Nat.sub_self, Nat.reduceSub, Nat.reduceAdd, hK_pI, hL_pI, hI_pI, hR_pI, hJ_pI, hT_pI, hS_pI, hK_pR, hL_pR, hI_pR, hR_pR, hJ_pR, hT_pR, hS_pR, hK_pJ, hL_pJ, hI_pJ, hR_pJ, hJ_pJ, hT_pJ, hS_pJ, hK_wI, hL_wI, hI_wI, hR_wI, hJ_wI, hT_wI, hS_wI, eq_self, and_true, true_and, and_false, false_and, or_true, true_or, or_false, false_or, if_true, if_false, not_true_eq_false, not_false_eq_true, forall_const, implies_true, false_implies, true_implies, Option.some.injEq, forall_eq', exists_eq_left', reduceCtorEq, Nat.reduceEqDiff, c1, T_X12_in, T_X12_ones, T_X11_within, T_X11_bit, T_X11_isIn, T_X11_oneIfIn, T_J6_bitCount_0f7a4, in0 4 (by decide) (by decide), cl0, e523]
        first
          | exact ⟨fun _ => h72 0 _ (Or.inr ⟨rfl, hfa⟩), fun _ => h72 0 _ (Or.inr ⟨rfl, hfa⟩)⟩
          | exact ⟨fun _ => h72 0 _ (Or.inr ⟨rfl, hfa⟩), fun _ => ⟨fun _ => h72 0 _ (Or.inr ⟨rfl, hfa⟩), fun z => absurd rfl z⟩⟩
set_option maxRecDepth 100000 in
theorem fits_2 (Q : Option Value → Hp → Prop) (h : Hp) (hl0 : LayM h) (R P : Nat) (g : Int32) (hR : R ≤ 4) (hP : P ≤ 24) (h46 : hI h 46 0 = nI R) (h52 : hI h 52 0 = nI P) (hq1 : (∃ r, r < R ∧ FA h R P g r) → Q (some (.int 1)) (eR h 4)) (hq2 : ¬ (∃ r, r < R ∧ FA h R P g r) → Q (some (.int 0)) (eR h 4)) :
    ∀ (m r : Nat) (k : Hp), m = R - r → r ≤ R → (k = h ∨ ∃ q x, k = rmS h q x) → (∀ q, q < r → ¬ FA h R P g q) → wp 2 MX12_fitsOne Q 2 [some (.ref 44), some (.int g), some (.int (nI r)), none, none] [] k := by
  intro m
  induction m with
  | zero =>
    intro r k hm hr hk hall
    have e : r = R := by omega
    subst e
    have hl : LayM k := by rcases hk with rfl | ⟨q, x, rfl⟩ <;> first | exact hl0 | exact hl0.wI _
    have ek : eR k 4 = eR h 4 := by rcases hk with rfl | ⟨q, x, rfl⟩ <;> first | rfl | exact eR_rmS _ _ _
    have e46 : hI k 46 0 = nI r := by rcases hk with rfl | ⟨q, x, rfl⟩ <;> first | exact h46 | (rw [rmS_ne _ _ _ _ _ (by decide)]; exact h46)
    refine s_X12_fitsOne_2 Q _ _ _ ?_
    simp only [b_X12_fitsOne_2, hl, lay_pI, lay_wI, lay_pJ, lm_t hl, lm_k hl, lm_r hl, lm_l hl, i_push, i_ild, i_ald, i_ist, i_ast, i_inc, i_bin, i_un, i_divs, i_i2l, i_lshl, i_lor, i_dup, i_dup2, i_pop, i_if, i_cmp, i_nul, i_vret, i_iret, i_zret, i_aret, i_keep, keep, lget, lset, ent, i_getI, i_getJ, i_getR, i_getN, i_putI, i_putZ, i_putJ, i_putR, i_iald, i_bald, i_alen, i_aald, i_iast, i_bast, i_aast, i_new, i_newa, i_anew, i_oini, i_callS, i_callV, i_callI, popn, sh4, i_sw, swP, i_copy, i_binS, List.map, Option.toList_none, Option.toList_some, List.append, List.nil_append, List.cons_append, List.length_cons, List.length_nil, List.replicate, Nat.sub_self, Nat.reduceSub, Nat.reduceAdd, hK_pI, hL_pI, hI_pI, hR_pI, hJ_pI, hT_pI, hS_pI, hK_pR, hL_pR, hI_pR, hR_pR, hJ_pR, hT_pR, hS_pR, hK_pJ, hL_pJ, hI_pJ, hR_pJ, hJ_pJ, hT_pJ, hS_pJ, hK_wI, hL_wI, hI_wI, hR_wI, hJ_wI, hT_wI, hS_wI, eq_self, and_true, true_and, and_false, false_and, or_true, true_or, or_false, false_or, if_true, if_false, not_true_eq_false, not_false_eq_true, forall_const, implies_true, false_implies, true_implies, Option.some.injEq, forall_eq', exists_eq_left', reduceCtorEq, Nat.reduceEqDiff, c1, T_X12_in, T_X12_ones, T_X11_within, T_X11_bit, T_X11_isIn, T_X11_oneIfIn, T_J6_bitCount_0f7a4, in0 4 (by decide) (by decide), cl0, e46]
    refine ⟨fun _ => ⟨rfl, hl, ?_⟩, fun c => absurd (nI_le (Nat.le_refl _) (by omega)) c⟩
    rw [ek]
    simp only [c_X12_fitsOne_92, i_push, i_ild, i_ald, i_ist, i_ast, i_inc, i_bin, i_un, i_divs, i_i2l, i_lshl, i_lor, i_dup, i_dup2, i_pop, i_if, i_cmp, i_nul, i_vret, i_iret, i_zret, i_aret, i_keep, keep, lget, lset, ent, i_getI, i_getJ, i_getR, i_getN, i_putI, i_putZ, i_putJ, i_putR, i_iald, i_bald, i_alen, i_aald, i_iast, i_bast, i_aast, i_new, i_newa, i_anew, i_oini, i_callS, i_callV, i_callI, popn, sh4, i_sw, swP, i_copy, i_binS, List.map, Option.toList_none, Option.toList_some, List.append, List.nil_append, List.cons_append, List.length_cons, List.length_nil, List.replicate, Nat.sub_self, Nat.reduceSub, Nat.reduceAdd, hK_pI, hL_pI, hI_pI, hR_pI, hJ_pI, hT_pI, hS_pI, hK_pR, hL_pR, hI_pR, hR_pR, hJ_pR, hT_pR, hS_pR, hK_pJ, hL_pJ, hI_pJ, hR_pJ, hJ_pJ, hT_pJ, hS_pJ, hK_wI, hL_wI, hI_wI, hR_wI, hJ_wI, hT_wI, hS_wI, eq_self, and_true, true_and, and_false, false_and, or_true, true_or, or_false, false_or, if_true, if_false, not_true_eq_false, not_false_eq_true, forall_const, implies_true, false_implies, true_implies, Option.some.injEq, forall_eq', exists_eq_left', reduceCtorEq, Nat.reduceEqDiff, c1, T_X12_in, T_X12_ones, T_X11_within, T_X11_bit, T_X11_isIn, T_X11_oneIfIn, T_J6_bitCount_0f7a4]
    exact hq2 (fun ⟨q, a, b⟩ => hall q a b)
  | succ m ih =>
    intro r k hm hr hk hall
    have hl : LayM k := by rcases hk with rfl | ⟨q, x, rfl⟩ <;> first | exact hl0 | exact hl0.wI _
    have ek : eR k 4 = eR h 4 := by rcases hk with rfl | ⟨q, x, rfl⟩ <;> first | rfl | exact eR_rmS _ _ _
    have e46 : hI k 46 0 = nI R := by rcases hk with rfl | ⟨q, x, rfl⟩ <;> first | exact h46 | (rw [rmS_ne _ _ _ _ _ (by decide)]; exact h46)
    refine s_X12_fitsOne_2 Q _ _ _ ?_
    simp only [b_X12_fitsOne_2, hl, lay_pI, lay_wI, lay_pJ, lm_t hl, lm_k hl, lm_r hl, lm_l hl, i_push, i_ild, i_ald, i_ist, i_ast, i_inc, i_bin, i_un, i_divs, i_i2l, i_lshl, i_lor, i_dup, i_dup2, i_pop, i_if, i_cmp, i_nul, i_vret, i_iret, i_zret, i_aret, i_keep, keep, lget, lset, ent, i_getI, i_getJ, i_getR, i_getN, i_putI, i_putZ, i_putJ, i_putR, i_iald, i_bald, i_alen, i_aald, i_iast, i_bast, i_aast, i_new, i_newa, i_anew, i_oini, i_callS, i_callV, i_callI, popn, sh4, i_sw, swP, i_copy, i_binS, List.map, Option.toList_none, Option.toList_some, List.append, List.nil_append, List.cons_append, List.length_cons, List.length_nil, List.replicate, Nat.sub_self, Nat.reduceSub, Nat.reduceAdd, hK_pI, hL_pI, hI_pI, hR_pI, hJ_pI, hT_pI, hS_pI, hK_pR, hL_pR, hI_pR, hR_pR, hJ_pR, hT_pR, hS_pR, hK_pJ, hL_pJ, hI_pJ, hR_pJ, hJ_pJ, hT_pJ, hS_pJ, hK_wI, hL_wI, hI_wI, hR_wI, hJ_wI, hT_wI, hS_wI, eq_self, and_true, true_and, and_false, false_and, or_true, true_or, or_false, false_or, if_true, if_false, not_true_eq_false, not_false_eq_true, forall_const, implies_true, false_implies, true_implies, Option.some.injEq, forall_eq', exists_eq_left', reduceCtorEq, Nat.reduceEqDiff, c1, T_X12_in, T_X12_ones, T_X11_within, T_X11_bit, T_X11_isIn, T_X11_oneIfIn, T_J6_bitCount_0f7a4, in0 4 (by decide) (by decide), cl0, e46]
    refine ⟨fun c => absurd c (nI_ge (by omega) (by omega)), fun _ => ⟨rfl, hl, ?_⟩⟩
    rw [ek, rmS_0 h r]
    simp only [c_X12_fitsOne_16, i_push, i_ild, i_ald, i_ist, i_ast, i_inc, i_bin, i_un, i_divs, i_i2l, i_lshl, i_lor, i_dup, i_dup2, i_pop, i_if, i_cmp, i_nul, i_vret, i_iret, i_zret, i_aret, i_keep, keep, lget, lset, ent, i_getI, i_getJ, i_getR, i_getN, i_putI, i_putZ, i_putJ, i_putR, i_iald, i_bald, i_alen, i_aald, i_iast, i_bast, i_aast, i_new, i_newa, i_anew, i_oini, i_callS, i_callV, i_callI, popn, sh4, i_sw, swP, i_copy, i_binS, List.map, Option.toList_none, Option.toList_some, List.append, List.nil_append, List.cons_append, List.length_cons, List.length_nil, List.replicate, Nat.sub_self, Nat.reduceSub, Nat.reduceAdd, hK_pI, hL_pI, hI_pI, hR_pI, hJ_pI, hT_pI, hS_pI, hK_pR, hL_pR, hI_pR, hR_pR, hJ_pR, hT_pR, hS_pR, hK_pJ, hL_pJ, hI_pJ, hR_pJ, hJ_pJ, hT_pJ, hS_pJ, hK_wI, hL_wI, hI_wI, hR_wI, hJ_wI, hT_wI, hS_wI, eq_self, and_true, true_and, and_false, false_and, or_true, true_or, or_false, false_or, if_true, if_false, not_true_eq_false, not_false_eq_true, forall_const, implies_true, false_implies, true_implies, Option.some.injEq, forall_eq', exists_eq_left', reduceCtorEq, Nat.reduceEqDiff, c1, T_X12_in, T_X12_ones, T_X11_within, T_X11_bit, T_X11_isIn, T_X11_oneIfIn, T_J6_bitCount_0f7a4]
    exact fits_21 Q h hl0 R P r g hR hP h46 h52 (by omega) (fun z => hq1 ⟨r, by omega, z⟩) (fun z x => ih (r + 1) (rmS h r x) (by omega) (by omega) (Or.inr ⟨r, x, rfl⟩) (fun q hq => by
      rcases Nat.lt_or_ge q r with w | w
      · exact hall q w
      · have : q = r := by omega
        subst this
        exact z)) P 0 (by omega) (by omega) (fun q hq => absurd hq (by omega))
set_option maxRecDepth 100000 in
set_option maxHeartbeats 4000000 in
theorem ok_X12_fitsOne : ctr 2 MX12_fitsOne T_X12_fitsOne := by
  refine ctr_of pn_X12 wc_X12_fitsOne (fun av h Q hT => ?_)
  unfold T_X12_fitsOne at hT
  split at hT
  · rename_i o g
    refine ⟨⟨by simp [Value.category], Nat.le_of_ble_eq_true rfl⟩, s_X12_fitsOne_0 Q _ _ _ ?_⟩
    obtain ⟨rfl, hl, R, P, hR, hP, h46, h52, hq1, hq2⟩ := hT
    simp only [MX12_fitsOne, b_X12_fitsOne_0, i_push, i_ild, i_ald, i_ist, i_ast, i_inc, i_bin, i_un, i_divs, i_i2l, i_lshl, i_lor, i_dup, i_dup2, i_pop, i_if, i_cmp, i_nul, i_vret, i_iret, i_zret, i_aret, i_keep, keep, lget, lset, ent, i_getI, i_getJ, i_getR, i_getN, i_putI, i_putZ, i_putJ, i_putR, i_iald, i_bald, i_alen, i_aald, i_iast, i_bast, i_aast, i_new, i_newa, i_anew, i_oini, i_callS, i_callV, i_callI, popn, sh4, i_sw, swP, i_copy, i_binS, List.map, Option.toList_none, Option.toList_some, List.append, List.nil_append, List.cons_append, List.length_cons, List.length_nil, List.replicate, Nat.sub_self, Nat.reduceSub, Nat.reduceAdd, hK_pI, hL_pI, hI_pI, hR_pI, hJ_pI, hT_pI, hS_pI, hK_pR, hL_pR, hI_pR, hR_pR, hJ_pR, hT_pR, hS_pR, hK_pJ, hL_pJ, hI_pJ, hR_pJ, hJ_pJ, hT_pJ, hS_pJ, hK_wI, hL_wI, hI_wI, hR_wI, hJ_wI, hT_wI, hS_wI, eq_self, and_true, true_and, and_false, false_and, or_true, true_or, or_false, false_or, if_true, if_false, not_true_eq_false, not_false_eq_true, forall_const, implies_true, false_implies, true_implies, Option.some.injEq, forall_eq', exists_eq_left', reduceCtorEq, Nat.reduceEqDiff, c1, T_X12_in, T_X12_ones, T_X11_within, T_X11_bit, T_X11_isIn, T_X11_oneIfIn, T_J6_bitCount_0f7a4]
    exact fits_2 Q h hl R P g hR hP h46 h52 hq1 hq2 R 0 h (by omega) (by omega) (Or.inl rfl) (fun q hq => absurd hq (by omega))
  · exact hT.elim
