/-! ===== the class: THE ORDER ===== -/
theorem RC_c {f g : Mem} {q : Nat} {J : Mem} {Ln : Nat} (h : ∀ i, i ≤ 7 → g (q + i) = f (q + i)) (hr : RC f q J Ln) : RC g q J Ln := by
  unfold RC tsC at hr ⊢
  have h0 : g q = f q := h 0 (by decide)
  rw [h0, h 1 (by decide), h 2 (by decide), h 3 (by decide), h 4 (by decide), h 5 (by decide), h 6 (by decide), h 7 (by decide)]
  exact hr
theorem PC_c {f g : Mem} {r : Nat} {J : Mem} {P : Nat} (h : ∀ i, 4 ≤ i → i ≤ 12 → g (r + i) = f (r + i)) (hr : PC f r J P) : PC g r J P := by
  unfold PC at hr ⊢
  rw [h 4 (by decide) (by decide), h 5 (by decide) (by decide), h 6 (by decide) (by decide), h 7 (by decide) (by decide), h 8 (by decide) (by decide), h 9 (by decide) (by decide), h 10 (by decide) (by decide), h 11 (by decide) (by decide), h 12 (by decide) (by decide)]
  exact hr
theorem LtC_c {h : Hp} {J : Mem} {E : Nat} {f : Mem} (hf : ∀ a i, hR h 3 4 = some a → hK h a = 1 → f a i = hI h a i) (hE : LtC h J E) : LtC (wI h f) J E := by
  obtain ⟨a, b, c⟩ := hE
  refine ⟨a, b, fun e he => ?_⟩
  obtain ⟨n, c1, c2, c3, c4, c5⟩ := c e he
  exact ⟨n, c1, c2, c3, (hf n 1 c1 c3).trans c4, (hf n 4 c1 c3).trans c5⟩
/-- rules and an evening lie apart -/
theorem dis_RN {h : Hp} {q n R : Nat} (hq : LayR h q) (hn : LayN h n R) : q + 7 < n ∨ n + 3 < q := by
  obtain ⟨_, _, a0, a1, a2, a3, a4, a5, a6, a7, _⟩ := hq
  obtain ⟨_, _, b0, b1, b2, b3, _⟩ := hn
  apply Classical.byContradiction
  intro z
  have z1 : ¬ n = q := fun e => by rw [e, a0] at b0; cases b0
  have z2 : ¬ n = q + 1 := fun e => by rw [e, a1] at b0; cases b0
  have z3 : ¬ n = q + 2 := fun e => by rw [e, a2] at b0; cases b0
  have z4 : ¬ n = q + 3 := fun e => by rw [e, a3] at b0; cases b0
  have z5 : ¬ n = q + 4 := fun e => by rw [e, a4] at b0; cases b0
  have z6 : ¬ n = q + 5 := fun e => by rw [e, a5] at b0; cases b0
  have z7 : ¬ n = q + 6 := fun e => by rw [e, a6] at b0; cases b0
  have z8 : ¬ n = q + 7 := fun e => by rw [e, a7] at b0; cases b0
  have y1 : ¬ q = n + 1 := fun e => by rw [e, b1] at a0; cases a0
  have y2 : ¬ q = n + 2 := fun e => by rw [e, b2] at a0; cases a0
  have y3 : ¬ q = n + 3 := fun e => by rw [e, b3] at a0; cases a0
  omega
def shX (f : Mem) (n N k : Nat) : Mem := fun a i => if (a = n + 1 ∨ a = 32) ∧ k < i ∧ i ≤ N then f a (i - 1) else f a i
theorem shX_0 (f : Mem) (n N : Nat) : shX f n N N = f := by
  funext a i
  exact if_neg (fun z => by omega)
theorem shX_o (f : Mem) (n N k : Nat) {a : Nat} (h1 : a ≠ n + 1) (h2 : a ≠ 32) (i : Nat) : shX f n N k a i = f a i := if_neg (fun z => by omega)
theorem shX_l (f : Mem) (n N k : Nat) (a : Nat) {i : Nat} (h : i ≤ k) : shX f n N k a i = f a i := if_neg (fun z => by omega)
theorem shX_s (f : Mem) (n N k : Nat) (hn : 90 ≤ n) (hk : k < N) : u2 (u2 (shX f n N (k + 1)) (n + 1) (k + 1) (f (n + 1) k)) 32 (k + 1) (f 32 k) = shX f n N k := by
  funext a i
  unfold u2 shX
  by_cases e : a = 32 ∧ i = k + 1
  · rw [if_pos e, if_pos ⟨Or.inr e.1, by omega⟩, e.1, show i - 1 = k by omega]
  · rw [if_neg e]
    by_cases e2 : a = n + 1 ∧ i = k + 1
    · rw [if_pos e2, if_pos ⟨Or.inl e2.1, by omega⟩, e2.1, show i - 1 = k by omega]
    · rw [if_neg e2]
      by_cases e3 : (a = n + 1 ∨ a = 32) ∧ k < i ∧ i ≤ N
      · rw [if_pos e3, if_pos ⟨e3.1, by
          have : i ≠ k + 1 := fun y => e3.1.elim (fun z => e2 ⟨z, y⟩) (fun z => e ⟨z, y⟩)
          omega⟩]
      · rw [if_neg e3, if_neg (fun z => e3 ⟨z.1, by omega⟩)]
def piM (f : Mem) (n N k p : Nat) (sum : Int32) : Mem := u2 (u2 (u2 (u2 (shX f n N k) (n + 1) k (nI p)) 32 k sum) n 8 (nI (N + 1))) n 7 (f n 7 ||| bitI p)
def ahX (f : Mem) (o : Nat → Nat) (p : Nat) (sum : Int32) (j : Nat) : Prop := if sum = f 32 j then f 21 (o j) < f 21 p else f 32 j < sum
set_option maxRecDepth 100000 in
theorem ahX_go (h : Hp) (hl : LayX h) (n R : Nat) (hs31 : hR h 31 0 = some 3) (hn : LayN h n R) (o : Nat → Nat) (p j : Nat) (sum : Int32) (hp : p < 24) (hj : j < 10) (hoj : hI h (n + 1) j = nI (o j)) (ho : o j < 24) (Q : Option Value → Hp → Prop) (h1 : ahX (hI h) o p sum j → Q (some (.int 1)) h) (h2 : ¬ ahX (hI h) o p sum j → Q (some (.int 0)) h) : T_X5_isAhead [.ref 31, .ref n, .int (nI p), .int sum, .int (nI j)] h Q := by
  have hf := hn.f
  unfold ahX at h1 h2
  unfold T_X5_isAhead
  simp only [b_X5_isAhead_0, lx_pI, lx_wI, lx_t hl, lx_k hl, lx_r hl, lx_l hl, i_push, i_ild, i_ald, i_ist, i_ast, i_inc, i_bin, i_un, i_divs, i_i2l, i_lshl, i_lor, i_dup, i_dup2, i_pop, i_if, i_cmp, i_nul, i_vret, i_iret, i_zret, i_aret, i_keep, keep, lget, lset, ent, i_getI, i_getJ, i_getR, i_getN, i_putI, i_putZ, i_putJ, i_putR, i_iald, i_bald, i_alen, i_aald, i_iast, i_bast, i_aast, i_new, i_newa, i_anew, i_oini, i_callS, i_callV, i_callI, popn, sh4, i_sw, swP, i_copy, i_binS, List.map, Option.toList_none, Option.toList_some, List.append, List.nil_append, List.cons_append, List.length_cons, List.length_nil, List.replicate, Nat.sub_self, Nat.reduceSub, Nat.reduceAdd, hK_pI, hL_pI, hI_pI, hR_pI, hJ_pI, hT_pI, hS_pI, hK_pR, hL_pR, hI_pR, hR_pR, hJ_pR, hT_pR, hS_pR, hK_pJ, hL_pJ, hI_pJ, hR_pJ, hJ_pJ, hT_pJ, hS_pJ, hK_wI, hL_wI, hI_wI, hR_wI, hJ_wI, hT_wI, hS_wI, eq_self, and_true, true_and, and_false, false_and, or_true, true_or, or_false, false_or, if_true, if_false, not_true_eq_false, not_false_eq_true, forall_const, implies_true, false_implies, true_implies, Option.some.injEq, forall_eq', exists_eq_left', reduceCtorEq, Nat.reduceEqDiff, c1, T_X12_in, T_X12_ones, T_X11_within, T_X11_bit, T_X11_isIn, T_X11_oneIfIn, T_J6_bitCount_0f7a4, hf, hs31, hoj, cl_nI (show p < 2147483648 by omega), in_nI (show p < 24 by omega) (by decide), cl_nI (show j < 2147483648 by omega), in_nI (show j < 10 by omega) (by decide), cl_nI (show o j < 2147483648 by omega), in_nI (show o j < 24 by omega) (by decide)]
  refine ⟨fun c => ?_, fun c => ?_⟩
  · rw [if_pos c] at h1 h2
    exact ⟨fun z => h2 (Int32.not_lt.mpr z), fun z => h1 (Int32.not_le.mp z)⟩
  · rw [if_neg c] at h1 h2
    exact ⟨fun z => h2 (Int32.not_lt.mpr z), fun z => h1 (Int32.not_le.mp z)⟩
def T_X5_putInOrder : Tr := fun av h Q => match av with
  | [.ref a, .ref b, .int x, .int sum] => a = 31 ∧ LayX h ∧ hR h 31 0 = some 3 ∧ ∃ n R N o p, n = b ∧ LayN h n R ∧ x = nI p ∧ p < 24 ∧ N < 10 ∧ hI h n 8 = nI N ∧ (∀ j, j < N → hI h (n + 1) j = nI (o j) ∧ o j < 24) ∧ Q none (wI h (piM (hI h) n N (posF (ahX (hI h) o p sum) N) p sum))
  | _ => False
def L_X5_putInOrder : List UInt8 := [43, 180, 0, 68, 54, 4, 21, 4, 158, 0, 55, 42, 43, 28, 29, 21, 4, 4, 100, 182, 0, 75, 153, 0, 41, 43, 180, 0, 79, 21, 4, 43, 180, 0, 79, 21, 4, 4, 100, 46, 79, 42, 180, 0, 9, 21, 4, 42, 180, 0, 9, 21, 4, 4, 100, 46, 79, 132, 4, 255, 167, 255, 202, 43, 180, 0, 79, 21, 4, 28, 79, 42, 180, 0, 9, 21, 4, 29, 79, 43, 89, 180, 0, 68, 4, 96, 181, 0, 68, 43, 89, 180, 0, 82, 28, 184, 0, 85, 128, 181, 0, 82, 177]
theorem Lc_X5_putInOrder : MX5_putInOrder.2.1 = ⟨L_X5_putInOrder.toArray⟩ := rfl
theorem D_X5_putInOrder_0 : dseq MX5_putInOrder.2.1 0 [(.aload_n 1, 1), (.getfield 68, 3), (.istore 4, 2)] := dq Lc_X5_putInOrder 0 _ (by decide +kernel)
theorem D_X5_putInOrder_6 : dseq MX5_putInOrder.2.1 6 [(.iload 4, 2), (.ifCond .le 55, 3), (.aload_n 0, 1), (.aload_n 1, 1), (.iload_n 2, 1), (.iload_n 3, 1), (.iload 4, 2), (.iconst 1, 1), (.isub, 1), (.invokevirtual 75, 3), (.ifCond .eq 41, 3), (.aload_n 1, 1), (.getfield 79, 3), (.iload 4, 2), (.aload_n 1, 1), (.getfield 79, 3), (.iload 4, 2), (.iconst 1, 1), (.isub, 1), (.iaload, 1), (.iastore, 1), (.aload_n 0, 1), (.getfield 9, 3), (.iload 4, 2), (.aload_n 0, 1), (.getfield 9, 3), (.iload 4, 2), (.iconst 1, 1), (.isub, 1), (.iaload, 1), (.iastore, 1), (.iinc 4 (-1), 3), (.goto (-54), 3)] := dq Lc_X5_putInOrder 6 _ (by decide +kernel)
theorem D_X5_putInOrder_63 : dseq MX5_putInOrder.2.1 63 [(.aload_n 1, 1), (.getfield 79, 3), (.iload 4, 2), (.iload_n 2, 1), (.iastore, 1), (.aload_n 0, 1), (.getfield 9, 3), (.iload 4, 2), (.iload_n 3, 1), (.iastore, 1), (.aload_n 1, 1), (.dup, 1), (.getfield 68, 3), (.iconst 1, 1), (.iadd, 1), (.putfield 68, 3), (.aload_n 1, 1), (.dup, 1), (.getfield 82, 3), (.iload_n 2, 1), (.invokestatic 85, 3), (.ior, 1), (.putfield 82, 3), (.return_, 1)] := dq Lc_X5_putInOrder 63 _ (by decide +kernel)
def c_X5_putInOrder_22 (Q : Option Value → Hp → Prop) : Kt := i_if (fun x => x = 0) (i_keep [true, true, true, true, true] (wp 1 MX5_putInOrder Q 63)) (i_ald 1 (i_getR 1 9 (i_ild 4 (i_ald 1 (i_getR 1 9 (i_ild 4 (i_push (.int 1) (i_bin (fun x y => x - y) (i_iald (i_iast (i_ald 0 (i_getR 5 2 (i_ild 4 (i_ald 0 (i_getR 5 2 (i_ild 4 (i_push (.int 1) (i_bin (fun x y => x - y) (i_iald (i_iast (i_inc 4 (-1) (i_keep [true, true, true, true, true] (wp 1 MX5_putInOrder Q 6)))))))))))))))))))))))
def b_X5_putInOrder_0 (Q : Option Value → Hp → Prop) : Kt := i_ald 1 (i_getI 1 8 (i_ist 4 (i_keep [true, true, true, true, true] (wp 1 MX5_putInOrder Q 6))))
set_option maxRecDepth 100000 in
theorem s_X5_putInOrder_0 (Q : Option Value → Hp → Prop) : ∀ A st h, b_X5_putInOrder_0 Q A st h → wp 1 MX5_putInOrder Q 0 A st h := (q1 (s_aldn (n := 1) (i := 1) rfl) D_X5_putInOrder_0 fun D => (qC fl_X5_68 rfl D fun D => (qL s_ist (by decide) D fun D => (s_keep [true, true, true, true, true] fun _ _ _ h => h))))
def b_X5_putInOrder_6 (Q : Option Value → Hp → Prop) : Kt := i_ild 4 (i_if (fun x => x ≤ 0) (i_keep [true, true, true, true, true] (wp 1 MX5_putInOrder Q 63)) (i_ald 0 (i_ald 1 (i_ild 2 (i_ild 3 (i_ild 4 (i_push (.int 1) (i_bin (fun x y => x - y) (i_callV 5 4 T_X5_isAhead (c_X5_putInOrder_22 Q))))))))))
set_option maxRecDepth 100000 in
theorem s_X5_putInOrder_6 (Q : Option Value → Hp → Prop) : ∀ A st h, b_X5_putInOrder_6 Q A st h → wp 1 MX5_putInOrder Q 6 A st h := (q1 s_ild D_X5_putInOrder_6 fun D => (qB s_ifle 63 (by decide) D (s_keep [true, true, true, true, true] fun _ _ _ h => h) fun D => (q1 (s_aldn (n := 0) (i := 0) rfl) D fun D => (q1 (s_aldn (n := 1) (i := 1) rfl) D fun D => (q1 (s_ildn (n := 2) (i := 2) rfl) D fun D => (q1 (s_ildn (n := 3) (i := 3) rfl) D fun D => (q1 s_ild D fun D => (q1 (s_iconst (n := 1) (v := 1) (by decide)) D fun D => (q1 s_sub D fun D => (qX (s_callV kX5 rfl ok_X5_isAhead mo_X5_isAhead (ch_4_1_ok.2.1.1 rfl) (ch_4_1_ok.2.2.2.1.1 rfl) (pv_1.2.2.1)) rfl (by decide) D fun D => (qB s_ifeq 63 (by decide) D (s_keep [true, true, true, true, true] fun _ _ _ h => h) fun D => (q1 (s_aldn (n := 1) (i := 1) rfl) D fun D => (qC fl_X5_79 rfl D fun D => (q1 s_ild D fun D => (q1 (s_aldn (n := 1) (i := 1) rfl) D fun D => (qC fl_X5_79 rfl D fun D => (q1 s_ild D fun D => (q1 (s_iconst (n := 1) (v := 1) (by decide)) D fun D => (q1 s_sub D fun D => (q1 s_iald D fun D => (q1 s_iast D fun D => (q1 (s_aldn (n := 0) (i := 0) rfl) D fun D => (qC fl_X5_9 rfl D fun D => (q1 s_ild D fun D => (q1 (s_aldn (n := 0) (i := 0) rfl) D fun D => (qC fl_X5_9 rfl D fun D => (q1 s_ild D fun D => (q1 (s_iconst (n := 1) (v := 1) (by decide)) D fun D => (q1 s_sub D fun D => (q1 s_iald D fun D => (q1 s_iast D fun D => (qL (s_inc (i := 4) (n := (-1)) (v := (-1)) (by decide)) (by decide) D fun D => (qG 6 (by decide) D (s_keep [true, true, true, true, true] fun _ _ _ h => h))))))))))))))))))))))))))))))))))
def b_X5_putInOrder_63 (Q : Option Value → Hp → Prop) : Kt := i_ald 1 (i_getR 1 9 (i_ild 4 (i_ild 2 (i_iast (i_ald 0 (i_getR 5 2 (i_ild 4 (i_ild 3 (i_iast (i_ald 1 (i_dup (i_getI 1 8 (i_push (.int 1) (i_bin (fun x y => x + y) (i_putI 1 8 (i_ald 1 (i_dup (i_getI 1 7 (i_ild 2 (i_callS 1 T_X11_bit (i_bin (fun x y => x ||| y) (i_putI 1 7 (i_vret Q)))))))))))))))))))))))
set_option maxRecDepth 100000 in
theorem s_X5_putInOrder_63 (Q : Option Value → Hp → Prop) : ∀ A st h, b_X5_putInOrder_63 Q A st h → wp 1 MX5_putInOrder Q 63 A st h := (q1 (s_aldn (n := 1) (i := 1) rfl) D_X5_putInOrder_63 fun D => (qC fl_X5_79 rfl D fun D => (q1 s_ild D fun D => (q1 (s_ildn (n := 2) (i := 2) rfl) D fun D => (q1 s_iast D fun D => (q1 (s_aldn (n := 0) (i := 0) rfl) D fun D => (qC fl_X5_9 rfl D fun D => (q1 s_ild D fun D => (q1 (s_ildn (n := 3) (i := 3) rfl) D fun D => (q1 s_iast D fun D => (q1 (s_aldn (n := 1) (i := 1) rfl) D fun D => (q1 s_dup D fun D => (qC fl_X5_68 rfl D fun D => (q1 (s_iconst (n := 1) (v := 1) (by decide)) D fun D => (q1 s_add D fun D => (qP pl_X5_68 rfl (Or.inl rfl) D fun D => (q1 (s_aldn (n := 1) (i := 1) rfl) D fun D => (q1 s_dup D fun D => (qC fl_X5_82 rfl D fun D => (q1 (s_ildn (n := 2) (i := 2) rfl) D fun D => (qX (s_callSN ok_X11_bit mo_X11_bit (ch_4_1_ok.2.2.2.2.2.1.2 rfl) (ch_3_5_ok.2.2.2.2.2.2.2.2.2.2.2.2.1.1 rfl)) rfl (by decide) D fun D => (q1 s_or D fun D => (qP pl_X5_82 rfl (Or.inl rfl) D fun D => (qV rfl D))))))))))))))))))))))))

set_option maxRecDepth 100000 in
set_option maxHeartbeats 400000 in
theorem pio_64 (Q : Option Value → Hp → Prop) (h : Hp) (hl : LayX h) (n R : Nat) (hn : LayN h n R) (f : Mem) (N p k : Nat) (sum : Int32) (hN : N < 10) (hkN : k ≤ N) (hp : p < 24) (h8 : f n 8 = nI N) (hq : Q none (wI h (piM f n N k p sum))) : wp 1 MX5_putInOrder Q 63 [some (.ref 31), some (.ref n), some (.int (nI p)), some (.int sum), some (.int (nI k))] [] (wI h (shX f n N k)) := by
  have hn90 := hn.1
  have hl2 : LayX (wI h (shX f n N k)) := hl
  have hn2 : LayN (wI h (shX f n N k)) n R := hn
  have e8 : hI (wI h (shX f n N k)) n 8 = nI N := (shX_o f n N k (by omega) (by omega) 8).trans h8
  have e7 : hI (wI h (shX f n N k)) n 7 = f n 7 := shX_o f n N k (by omega) (by omega) 7
  have hq2 : Q none (pI (pI (pI (pI (wI h (shX f n N k)) (n + 1) k (nI p)) 32 k sum) n 8 (nI (N + 1))) n 7 (f n 7 ||| bitI p)) := hq
  refine s_X5_putInOrder_63 Q _ _ _ ?_
  generalize wI h (shX f n N k) = H at hl2 hn2 e8 e7 hq2 ⊢
  have hf := hn2.f
  have hl := hl2
  have n1 : ¬ n = n + 1 := by omega
  have n2 : ¬ n = 32 := by omega
  have hb : (1 : Int32) <<< (nI p &&& 31) = bitI p := rfl
  simp only [b_X5_putInOrder_63, lx_pI, lx_wI, lx_t hl, lx_k hl, lx_r hl, lx_l hl, i_push, i_ild, i_ald, i_ist, i_ast, i_inc, i_bin, i_un, i_divs, i_i2l, i_lshl, i_lor, i_dup, i_dup2, i_pop, i_if, i_cmp, i_nul, i_vret, i_iret, i_zret, i_aret, i_keep, keep, lget, lset, ent, i_getI, i_getJ, i_getR, i_getN, i_putI, i_putZ, i_putJ, i_putR, i_iald, i_bald, i_alen, i_aald, i_iast, i_bast, i_aast, i_new, i_newa, i_anew, i_oini, i_callS, i_callV, i_callI, popn, sh4, i_sw, swP, i_copy, i_binS, List.map, Option.toList_none, Option.toList_some, List.append, List.nil_append, List.cons_append, List.length_cons, List.length_nil, List.replicate, Nat.sub_self, Nat.reduceSub, Nat.reduceAdd, hK_pI, hL_pI, hI_pI, hR_pI, hJ_pI, hT_pI, hS_pI, hK_pR, hL_pR, hI_pR, hR_pR, hJ_pR, hT_pR, hS_pR, hK_pJ, hL_pJ, hI_pJ, hR_pJ, hJ_pJ, hT_pJ, hS_pJ, hK_wI, hL_wI, hI_wI, hR_wI, hJ_wI, hT_wI, hS_wI, eq_self, and_true, true_and, and_false, false_and, or_true, true_or, or_false, false_or, if_true, if_false, not_true_eq_false, not_false_eq_true, forall_const, implies_true, false_implies, true_implies, Option.some.injEq, forall_eq', exists_eq_left', reduceCtorEq, Nat.reduceEqDiff, c1, T_X12_in, T_X12_ones, T_X11_within, T_X11_bit, T_X11_isIn, T_X11_oneIfIn, T_J6_bitCount_0f7a4, hf, cl_nI (show k < 2147483648 by omega), in_nI (show k < 10 by omega) (by decide), n1, n2, e8, e7, nI_1, hb]
  exact hq2
set_option maxRecDepth 100000 in
set_option maxHeartbeats 400000 in
theorem pio_8 (Q : Option Value → Hp → Prop) (h : Hp) (hl : LayX h) (n R : Nat) (hs31 : hR h 31 0 = some 3) (hn : LayN h n R) (f : Mem) (o : Nat → Nat) (N p : Nat) (sum : Int32) (hN : N < 10) (hp : p < 24) (h8 : f n 8 = nI N) (ho : ∀ j, j < N → f (n + 1) j = nI (o j) ∧ o j < 24) (hq : Q none (wI h (piM f n N (posF (ahX f o p sum) N) p sum))) :
    ∀ k, k ≤ N → posF (ahX f o p sum) N = posF (ahX f o p sum) k → wp 1 MX5_putInOrder Q 6 [some (.ref 31), some (.ref n), some (.int (nI p)), some (.int sum), some (.int (nI k))] [] (wI h (shX f n N k)) := by
  have hn90 := hn.1
  intro k
  induction k with
  | zero =>
    intro hkN hpos
    have h64 := pio_64 Q h hl n R hn f N p 0 sum hN hkN hp h8 (by rw [hpos] at hq; exact hq)
    refine s_X5_putInOrder_6 Q _ _ _ ?_
    generalize wI h (shX f n N 0) = H at h64 ⊢
    have e0 : nI 0 ≤ 0 := by decide
    simp only [b_X5_putInOrder_6, i_push, i_ild, i_ald, i_ist, i_ast, i_inc, i_bin, i_un, i_divs, i_i2l, i_lshl, i_lor, i_dup, i_dup2, i_pop, i_if, i_cmp, i_nul, i_vret, i_iret, i_zret, i_aret, i_keep, keep, lget, lset, ent, i_getI, i_getJ, i_getR, i_getN, i_putI, i_putZ, i_putJ, i_putR, i_iald, i_bald, i_alen, i_aald, i_iast, i_bast, i_aast, i_new, i_newa, i_anew, i_oini, i_callS, i_callV, i_callI, popn, sh4, i_sw, swP, i_copy, i_binS, List.map, Option.toList_none, Option.toList_some, List.append, List.nil_append, List.cons_append, List.length_cons, List.length_nil, List.replicate, Nat.sub_self, Nat.reduceSub, Nat.reduceAdd, hK_pI, hL_pI, hI_pI, hR_pI, hJ_pI, hT_pI, hS_pI, hK_pR, hL_pR, hI_pR, hR_pR, hJ_pR, hT_pR, hS_pR, hK_pJ, hL_pJ, hI_pJ, hR_pJ, hJ_pJ, hT_pJ, hS_pJ, hK_wI, hL_wI, hI_wI, hR_wI, hJ_wI, hT_wI, hS_wI, eq_self, and_true, true_and, and_false, false_and, or_true, true_or, or_false, false_or, if_true, if_false, not_true_eq_false, not_false_eq_true, forall_const, implies_true, false_implies, true_implies, Option.some.injEq, forall_eq', exists_eq_left', reduceCtorEq, Nat.reduceEqDiff, c1, T_X12_in, T_X12_ones, T_X11_within, T_X11_bit, T_X11_isIn, T_X11_oneIfIn, T_J6_bitCount_0f7a4, e0]
    exact h64
  | succ k ih =>
    intro hkN hpos
    have e0 : ¬ nI (k + 1) ≤ 0 := nI_nle (by omega) (by omega)
    have em : nI (k + 1) - 1 = nI k := (nI_sub (b := 1) (by omega)).trans (by rw [Nat.add_sub_cancel])
    have em2 : nI (k + 1) + (-1) = nI k := by rw [← em]; exact (Int32.sub_eq_add_neg ..).symm
    have hl2 : LayX (wI h (shX f n N (k + 1))) := hl
    have hn2 : LayN (wI h (shX f n N (k + 1))) n R := hn
    have hs32 : hR (wI h (shX f n N (k + 1))) 31 0 = some 3 := hs31
    have r1 : hI (wI h (shX f n N (k + 1))) (n + 1) k = f (n + 1) k := shX_l f n N (k + 1) (n + 1) (by omega)
    have r2 : hI (wI h (shX f n N (k + 1))) 32 k = f 32 k := shX_l f n N (k + 1) 32 (by omega)
    have r3 : hI (wI h (shX f n N (k + 1))) 21 = f 21 := funext fun i => shX_o f n N (k + 1) (by omega) (by decide) i
    obtain ⟨o1, o2⟩ := ho k (by omega)
    have hah : ahX (hI (wI h (shX f n N (k + 1)))) o p sum k ↔ ahX f o p sum k := by unfold ahX; rw [r2, r3]
    have h64 : ¬ ahX f o p sum k → wp 1 MX5_putInOrder Q 63 [some (.ref 31), some (.ref n), some (.int (nI p)), some (.int sum), some (.int (nI (k + 1)))] [] (wI h (shX f n N (k + 1))) := fun z => pio_64 Q h hl n R hn f N p (k + 1) sum hN hkN hp h8 (by rw [hpos, posF_f z] at hq; exact hq)
    have h8' : ahX f o p sum k → wp 1 MX5_putInOrder Q 6 [some (.ref 31), some (.ref n), some (.int (nI p)), some (.int sum), some (.int (nI k))] [] (pI (pI (wI h (shX f n N (k + 1))) (n + 1) (k + 1) (f (n + 1) k)) 32 (k + 1) (f 32 k)) := fun z => by
      have := ih (by omega) (by rw [hpos, posF_t z])
      rw [← shX_s f n N k hn90 (by omega)] at this
      exact this
    have h21 : ∀ v : Int32, (v = 1 ∧ ahX f o p sum k ∨ v = 0 ∧ ¬ ahX f o p sum k) → c_X5_putInOrder_22 Q [some (.ref 31), some (.ref n), some (.int (nI p)), some (.int sum), some (.int (nI (k + 1)))] [.int v] (wI h (shX f n N (k + 1))) := by
      intro v hv
      have n43 : ¬ (32 : Nat) = n + 1 := by omega
      rcases hv with ⟨rfl, z⟩ | ⟨rfl, z⟩
      · have hgo := h8' z
        generalize wI h (shX f n N (k + 1)) = H at hl2 hn2 r1 r2 hgo ⊢
        have hf := hn2.f
        have hl := hl2
        simp only [c_X5_putInOrder_22, lx_pI, lx_wI, lx_t hl, lx_k hl, lx_r hl, lx_l hl, i_push, i_ild, i_ald, i_ist, i_ast, i_inc, i_bin, i_un, i_divs, i_i2l, i_lshl, i_lor, i_dup, i_dup2, i_pop, i_if, i_cmp, i_nul, i_vret, i_iret, i_zret, i_aret, i_keep, keep, lget, lset, ent, i_getI, i_getJ, i_getR, i_getN, i_putI, i_putZ, i_putJ, i_putR, i_iald, i_bald, i_alen, i_aald, i_iast, i_bast, i_aast, i_new, i_newa, i_anew, i_oini, i_callS, i_callV, i_callI, popn, sh4, i_sw, swP, i_copy, i_binS, List.map, Option.toList_none, Option.toList_some, List.append, List.nil_append, List.cons_append, List.length_cons, List.length_nil, List.replicate, Nat.sub_self, Nat.reduceSub, Nat.reduceAdd, hK_pI, hL_pI, hI_pI, hR_pI, hJ_pI, hT_pI, hS_pI, hK_pR, hL_pR, hI_pR, hR_pR, hJ_pR, hT_pR, hS_pR, hK_pJ, hL_pJ, hI_pJ, hR_pJ, hJ_pJ, hT_pJ, hS_pJ, hK_wI, hL_wI, hI_wI, hR_wI, hJ_wI, hT_wI, hS_wI, eq_self, and_true, true_and, and_false, false_and, or_true, true_or, or_false, false_or, if_true, if_false, not_true_eq_false, not_false_eq_true, forall_const, implies_true, false_implies, true_implies, Option.some.injEq, forall_eq', exists_eq_left', reduceCtorEq, Nat.reduceEqDiff, c1, T_X12_in, T_X12_ones, T_X11_within, T_X11_bit, T_X11_isIn, T_X11_oneIfIn, T_J6_bitCount_0f7a4, hf, em, em2, n43, cl_nI (show k < 2147483648 by omega), in_nI (show k < 10 by omega) (by decide), cl_nI (show k + 1 < 2147483648 by omega), in_nI (show k + 1 < 10 by omega) (by decide), r1, r2, show ¬ (1 : Int32) = 0 by decide]
        exact hgo
      · have hgo := h64 z
        generalize wI h (shX f n N (k + 1)) = H at hgo ⊢
        simp only [c_X5_putInOrder_22, i_push, i_ild, i_ald, i_ist, i_ast, i_inc, i_bin, i_un, i_divs, i_i2l, i_lshl, i_lor, i_dup, i_dup2, i_pop, i_if, i_cmp, i_nul, i_vret, i_iret, i_zret, i_aret, i_keep, keep, lget, lset, ent, i_getI, i_getJ, i_getR, i_getN, i_putI, i_putZ, i_putJ, i_putR, i_iald, i_bald, i_alen, i_aald, i_iast, i_bast, i_aast, i_new, i_newa, i_anew, i_oini, i_callS, i_callV, i_callI, popn, sh4, i_sw, swP, i_copy, i_binS, List.map, Option.toList_none, Option.toList_some, List.append, List.nil_append, List.cons_append, List.length_cons, List.length_nil, List.replicate, Nat.sub_self, Nat.reduceSub, Nat.reduceAdd, hK_pI, hL_pI, hI_pI, hR_pI, hJ_pI, hT_pI, hS_pI, hK_pR, hL_pR, hI_pR, hR_pR, hJ_pR, hT_pR, hS_pR, hK_pJ, hL_pJ, hI_pJ, hR_pJ, hJ_pJ, hT_pJ, hS_pJ, hK_wI, hL_wI, hI_wI, hR_wI, hJ_wI, hT_wI, hS_wI, eq_self, and_true, true_and, and_false, false_and, or_true, true_or, or_false, false_or, if_true, if_false, not_true_eq_false, not_false_eq_true, forall_const, implies_true, false_implies, true_implies, Option.some.injEq, forall_eq', exists_eq_left', reduceCtorEq, Nat.reduceEqDiff, c1, T_X12_in, T_X12_ones, T_X11_within, T_X11_bit, T_X11_isIn, T_X11_oneIfIn, T_J6_bitCount_0f7a4]
        exact hgo
    have hcall := ahX_go (wI h (shX f n N (k + 1))) hl2 n R hs32 hn2 o p k sum hp (by omega) (r1.trans o1) o2 (fun r h' => c_X5_putInOrder_22 Q [some (.ref 31), some (.ref n), some (.int (nI p)), some (.int sum), some (.int (nI (k + 1)))] (r.toList ++ []) h') (fun z => h21 1 (Or.inl ⟨rfl, hah.mp z⟩)) (fun z => h21 0 (Or.inr ⟨rfl, fun y => z (hah.mpr y)⟩))
    refine s_X5_putInOrder_6 Q _ _ _ ?_
    generalize wI h (shX f n N (k + 1)) = H at hl2 hcall ⊢
    have hl := hl2
    simp only [b_X5_putInOrder_6, lx_pI, lx_wI, lx_t hl, lx_k hl, lx_r hl, lx_l hl, i_push, i_ild, i_ald, i_ist, i_ast, i_inc, i_bin, i_un, i_divs, i_i2l, i_lshl, i_lor, i_dup, i_dup2, i_pop, i_if, i_cmp, i_nul, i_vret, i_iret, i_zret, i_aret, i_keep, keep, lget, lset, ent, i_getI, i_getJ, i_getR, i_getN, i_putI, i_putZ, i_putJ, i_putR, i_iald, i_bald, i_alen, i_aald, i_iast, i_bast, i_aast, i_new, i_newa, i_anew, i_oini, i_callS, i_callV, i_callI, popn, sh4, i_sw, swP, i_copy, i_binS, List.map, Option.toList_none, Option.toList_some, List.append, List.nil_append, List.cons_append, List.length_cons, List.length_nil, List.replicate, Nat.sub_self, Nat.reduceSub, Nat.reduceAdd, hK_pI, hL_pI, hI_pI, hR_pI, hJ_pI, hT_pI, hS_pI, hK_pR, hL_pR, hI_pR, hR_pR, hJ_pR, hT_pR, hS_pR, hK_pJ, hL_pJ, hI_pJ, hR_pJ, hJ_pJ, hT_pJ, hS_pJ, hK_wI, hL_wI, hI_wI, hR_wI, hJ_wI, hT_wI, hS_wI, eq_self, and_true, true_and, and_false, false_and, or_true, true_or, or_false, false_or, if_true, if_false, not_true_eq_false, not_false_eq_true, forall_const, implies_true, false_implies, true_implies, Option.some.injEq, forall_eq', exists_eq_left', reduceCtorEq, Nat.reduceEqDiff, c1, T_X12_in, T_X12_ones, T_X11_within, T_X11_bit, T_X11_isIn, T_X11_oneIfIn, T_J6_bitCount_0f7a4, e0, em]
    exact hcall
set_option maxRecDepth 100000 in
set_option maxHeartbeats 4000000 in
theorem ok_X5_putInOrder : ctr 1 MX5_putInOrder T_X5_putInOrder := by
  refine ctr_of pn_X5 wc_X5_putInOrder (fun av h Q hT => ?_)
  unfold T_X5_putInOrder at hT
  split at hT
  · rename_i a b x sum
    refine ⟨⟨by simp [Value.category], Nat.le_of_ble_eq_true rfl⟩, s_X5_putInOrder_0 Q _ _ _ ?_⟩
    obtain ⟨rfl, hl, hs31, n, R, N, o, p, rfl, hn, rfl, hp, hN, h8, ho, hq⟩ := hT
    have := pio_8 Q h hl n R hs31 hn (hI h) o N p sum hN hp h8 ho hq N (Nat.le_refl _) rfl
    rw [shX_0] at this
    have hf := hn.f
    have e : wI h (hI h) = h := rfl
    rw [e] at this
    simp only [MX5_putInOrder, b_X5_putInOrder_0, lx_pI, lx_wI, lx_t hl, lx_k hl, lx_r hl, lx_l hl, i_push, i_ild, i_ald, i_ist, i_ast, i_inc, i_bin, i_un, i_divs, i_i2l, i_lshl, i_lor, i_dup, i_dup2, i_pop, i_if, i_cmp, i_nul, i_vret, i_iret, i_zret, i_aret, i_keep, keep, lget, lset, ent, i_getI, i_getJ, i_getR, i_getN, i_putI, i_putZ, i_putJ, i_putR, i_iald, i_bald, i_alen, i_aald, i_iast, i_bast, i_aast, i_new, i_newa, i_anew, i_oini, i_callS, i_callV, i_callI, popn, sh4, i_sw, swP, i_copy, i_binS, List.map, Option.toList_none, Option.toList_some, List.append, List.nil_append, List.cons_append, List.length_cons, List.length_nil, List.replicate, Nat.sub_self, Nat.reduceSub, Nat.reduceAdd, hK_pI, hL_pI, hI_pI, hR_pI, hJ_pI, hT_pI, hS_pI, hK_pR, hL_pR, hI_pR, hR_pR, hJ_pR, hT_pR, hS_pR, hK_pJ, hL_pJ, hI_pJ, hR_pJ, hJ_pJ, hT_pJ, hS_pJ, hK_wI, hL_wI, hI_wI, hR_wI, hJ_wI, hT_wI, hS_wI, eq_self, and_true, true_and, and_false, false_and, or_true, true_or, or_false, false_or, if_true, if_false, not_true_eq_false, not_false_eq_true, forall_const, implies_true, false_implies, true_implies, Option.some.injEq, forall_eq', exists_eq_left', reduceCtorEq, Nat.reduceEqDiff, c1, T_X12_in, T_X12_ones, T_X11_within, T_X11_bit, T_X11_isIn, T_X11_oneIfIn, T_J6_bitCount_0f7a4, hf, h8]
    exact this
  · exact hT.elim
def T_X5_lookAt : Tr := fun av h Q => match av with
  | [.ref a, .ref b, .int x] => a = 31 ∧ LayX h ∧ hR h 31 0 = some 3 ∧ ∃ n R N o p q J P E Ln cold, n = b ∧ LayN h n R ∧ x = nI p ∧ p < P ∧ N ≤ 10 ∧ hI h n 8 = nI N ∧ (∀ j, j < N → hI h (n + 1) j = nI (o j) ∧ o j < 24) ∧ hI h n 3 = cold ∧ (cold = 0 ∨ cold = 1) ∧ hR h 3 3 = some q ∧ LayR h q ∧ PC (hI h) 12 J P ∧ LtC h J E ∧ RC (hI h) q J Ln ∧ (J 61 p = 1 → Q none (pI h (n + 2) p 1)) ∧ (¬ J 61 p = 1 → ptsF J E p Ln cold = -2000000000 → Q none (pI h (n + 2) p 2)) ∧ (¬ J 61 p = 1 → ¬ ptsF J E p Ln cold = -2000000000 → N < 10 ∧ Q none (wI h (piM (hI h) n N (posF (ahX (hI h) o p (ptsF J E p Ln cold)) N) p (ptsF J E p Ln cold))))
  | _ => False
def L_X5_lookAt : List UInt8 := [42, 180, 0, 15, 28, 43, 180, 0, 53, 182, 0, 57, 62, 42, 180, 0, 15, 180, 0, 28, 180, 0, 61, 28, 184, 0, 45, 153, 0, 13, 43, 180, 0, 64, 28, 4, 79, 167, 0, 35, 29, 18, 67, 160, 0, 13, 43, 180, 0, 64, 28, 5, 79, 167, 0, 19, 43, 180, 0, 68, 16, 10, 162, 0, 10, 42, 43, 28, 29, 182, 0, 71, 177]
theorem Lc_X5_lookAt : MX5_lookAt.2.1 = ⟨L_X5_lookAt.toArray⟩ := rfl
theorem D_X5_lookAt_0 : dseq MX5_lookAt.2.1 0 [(.aload_n 0, 1), (.getfield 15, 3), (.iload_n 2, 1), (.aload_n 1, 1), (.getfield 53, 3), (.invokevirtual 57, 3), (.istore_n 3, 1), (.aload_n 0, 1), (.getfield 15, 3), (.getfield 28, 3), (.getfield 61, 3), (.iload_n 2, 1), (.invokestatic 45, 3), (.ifCond .eq 13, 3), (.aload_n 1, 1), (.getfield 64, 3), (.iload_n 2, 1), (.iconst 1, 1), (.iastore, 1), (.goto 35, 3)] := dq Lc_X5_lookAt 0 _ (by decide +kernel)
theorem D_X5_lookAt_40 : dseq MX5_lookAt.2.1 40 [(.iload_n 3, 1), (.ldc 67, 2), (.if_icmp .ne 13, 3), (.aload_n 1, 1), (.getfield 64, 3), (.iload_n 2, 1), (.iconst 2, 1), (.iastore, 1), (.goto 19, 3)] := dq Lc_X5_lookAt 40 _ (by decide +kernel)
theorem D_X5_lookAt_56 : dseq MX5_lookAt.2.1 56 [(.aload_n 1, 1), (.getfield 68, 3), (.bipush 10, 2), (.if_icmp .ge 10, 3), (.aload_n 0, 1), (.aload_n 1, 1), (.iload_n 2, 1), (.iload_n 3, 1), (.invokevirtual 71, 3), (.return_, 1)] := dq Lc_X5_lookAt 56 _ (by decide +kernel)
theorem D_X5_lookAt_72 : dseq MX5_lookAt.2.1 72 [(.return_, 1)] := dq Lc_X5_lookAt 72 _ (by decide +kernel)
def c_X5_lookAt_12 (Q : Option Value → Hp → Prop) : Kt := i_ist 3 (i_ald 0 (i_getR 5 0 (i_getR 8 1 (i_getI 3 12 (i_ild 2 (i_callS 2 T_X11_isIn (i_if (fun x => x = 0) (i_ild 3 (i_push (.int (-2000000000)) (i_cmp (fun x y => x = y) (i_ald 1 (i_getR 1 10 (i_ild 2 (i_push (.int 2) (i_iast (i_vret Q)))))) (i_ald 1 (i_getI 1 8 (i_push (.int 10) (i_cmp (fun x y => y ≤ x) (i_vret Q) (i_ald 0 (i_ald 1 (i_ild 2 (i_ild 3 (i_callV 5 3 T_X5_putInOrder (i_vret Q))))))))))))) (i_ald 1 (i_getR 1 10 (i_ild 2 (i_push (.int 1) (i_iast (i_vret Q)))))))))))))
def b_X5_lookAt_0 (Q : Option Value → Hp → Prop) : Kt := i_ald 0 (i_getR 5 0 (i_ild 2 (i_ald 1 (i_getI 1 3 (i_callV 8 2 T_X8_pointsOf (c_X5_lookAt_12 Q))))))
set_option maxRecDepth 100000 in
theorem s_X5_lookAt_0 (Q : Option Value → Hp → Prop) : ∀ A st h, b_X5_lookAt_0 Q A st h → wp 4 MX5_lookAt Q 0 A st h := (q1 (s_aldn (n := 0) (i := 0) rfl) D_X5_lookAt_0 fun D => (qC fl_X5_15 rfl D fun D => (q1 (s_ildn (n := 2) (i := 2) rfl) D fun D => (q1 (s_aldn (n := 1) (i := 1) rfl) D fun D => (qC fl_X5_53 rfl D fun D => (qX (s_callV kX8 rfl ok_X8_pointsOf mo_X8_pointsOf (ch_3_14_ok.2.2.2.2.2.1.1 rfl) (ch_3_14_ok.2.2.2.2.2.2.1.1 rfl) (ch_3_14_ok.2.2.2.2.2.2.2.1.1 rfl)) rfl (by decide) D fun D => (qL (s_istn (n := 3) (i := 3) rfl) (by decide) D fun D => (q1 (s_aldn (n := 0) (i := 0) rfl) D fun D => (qC fl_X5_15 rfl D fun D => (qC fl_X5_28 rfl D fun D => (qC fl_X5_61 rfl D fun D => (q1 (s_ildn (n := 2) (i := 2) rfl) D fun D => (qX (s_callSN ok_X11_isIn mo_X11_isIn (ch_3_14_ok.1.2 rfl) (ch_3_7_ok.2.2.2.2.1.1 rfl)) rfl (by decide) D fun D => (qB s_ifeq 40 (by decide) D (q1 (s_ildn (n := 3) (i := 3) rfl) D_X5_lookAt_40 fun D => (qC (s_ldc (v := (-2000000000)) (ch_4_0_ok.2.2.2.2.2.2.2.2.2.2.2.2.1.1 rfl)) rfl D fun D => (qBn s_cmpne2 56 (by decide) D (q1 (s_aldn (n := 1) (i := 1) rfl) D_X5_lookAt_56 fun D => (qC fl_X5_68 rfl D fun D => (q1 (s_bipush (n := 10) (v := 10) (by decide)) D fun D => (qB s_cmpge 72 (by decide) D (qV rfl D_X5_lookAt_72) fun D => (q1 (s_aldn (n := 0) (i := 0) rfl) D fun D => (q1 (s_aldn (n := 1) (i := 1) rfl) D fun D => (q1 (s_ildn (n := 2) (i := 2) rfl) D fun D => (q1 (s_ildn (n := 3) (i := 3) rfl) D fun D => (qX (s_callV kX5 rfl ok_X5_putInOrder mo_X5_putInOrder (ch_4_0_ok.2.2.2.2.2.2.2.2.2.2.2.2.2.1.1 rfl) (ch_4_0_ok.2.2.2.2.2.2.2.2.2.2.2.2.2.2.2.1.1 rfl) (pv_1.2.1)) rfl (by decide) D fun D => (qV rfl D)))))))))) fun D => (q1 (s_aldn (n := 1) (i := 1) rfl) D fun D => (qC fl_X5_64 rfl D fun D => (q1 (s_ildn (n := 2) (i := 2) rfl) D fun D => (q1 (s_iconst (n := 2) (v := 2) (by decide)) D fun D => (q1 s_iast D fun D => (qG 72 (by decide) D (qV rfl D_X5_lookAt_72)))))))))) fun D => (q1 (s_aldn (n := 1) (i := 1) rfl) D fun D => (qC fl_X5_64 rfl D fun D => (q1 (s_ildn (n := 2) (i := 2) rfl) D fun D => (q1 (s_iconst (n := 1) (v := 1) (by decide)) D fun D => (q1 s_iast D fun D => (qG 72 (by decide) D (qV rfl D_X5_lookAt_72)))))))))))))))))))))

set_option maxRecDepth 100000 in
set_option maxHeartbeats 4000000 in
theorem ok_X5_lookAt : ctr 4 MX5_lookAt T_X5_lookAt := by
  refine ctr_of pn_X5 wc_X5_lookAt (fun av h Q hT => ?_)
  unfold T_X5_lookAt at hT
  split at hT
  · rename_i a b x
    refine ⟨⟨by simp [Value.category], Nat.le_of_ble_eq_true rfl⟩, s_X5_lookAt_0 Q _ _ _ ?_⟩
    obtain ⟨rfl, hl, hs31, n, R, N, o, p, q, J, P, E, Ln, cold, rfl, hn, rfl, hp, hN, h8, ho, hcd, hc, hq3, hr, hpc, hE, hrc, hq1, hq2, hq0⟩ := hT
    have hf := hn.f
    have hP := hpc.1
    have hb := (hpc.2.2.2.1 p hp).2.2.2.2.2.2.2.2.2.2
    have hb1 : J 61 p = 1 ↔ bt (hI h 16 12) p = true := by
      rw [hb]
      show b2i (bt (hI h 16 12) p = true) = 1 ↔ _
      cases bt (hI h 16 12) p <;> decide
    have h15 : c_X5_lookAt_12 Q [some (.ref 31), some (.ref n), some (.int (nI p)), none] [.int (ptsF J E p Ln cold)] h := by
      have hpio : ¬ J 61 p = 1 → ¬ ptsF J E p Ln cold = -2000000000 → T_X5_putInOrder [.ref 31, .ref n, .int (nI p), .int (ptsF J E p Ln cold)] h (fun r h' => i_vret Q [some (.ref 31), some (.ref n), some (.int (nI p)), some (.int (ptsF J E p Ln cold))] (r.toList ++ []) h') := fun z1 z2 =>
        ⟨rfl, hl, hs31, n, R, N, o, p, rfl, hn, rfl, by omega, (hq0 z1 z2).1, h8, ho, (hq0 z1 z2).2⟩
      have e10 : ¬ J 61 p = 1 → ¬ ptsF J E p Ln cold = -2000000000 → ¬ (10 : Int32) ≤ nI N := fun z1 z2 => nI_ge (b := 10) (hq0 z1 z2).1 (by decide)
      generalize ptsF J E p Ln cold = X at hq2 hpio e10 ⊢
      have hbf : J 61 p = 1 ↔ ¬ bt (hI h 16 12) p = false := by rw [hb1]; simp
      simp only [c_X5_lookAt_12, lx_pI, lx_wI, lx_t hl, lx_k hl, lx_r hl, lx_l hl, i_push, i_ild, i_ald, i_ist, i_ast, i_inc, i_bin, i_un, i_divs, i_i2l, i_lshl, i_lor, i_dup, i_dup2, i_pop, i_if, i_cmp, i_nul, i_vret, i_iret, i_zret, i_aret, i_keep, keep, lget, lset, ent, i_getI, i_getJ, i_getR, i_getN, i_putI, i_putZ, i_putJ, i_putR, i_iald, i_bald, i_alen, i_aald, i_iast, i_bast, i_aast, i_new, i_newa, i_anew, i_oini, i_callS, i_callV, i_callI, popn, sh4, i_sw, swP, i_copy, i_binS, List.map, Option.toList_none, Option.toList_some, List.append, List.nil_append, List.cons_append, List.length_cons, List.length_nil, List.replicate, Nat.sub_self, Nat.reduceSub, Nat.reduceAdd, hK_pI, hL_pI, hI_pI, hR_pI, hJ_pI, hT_pI, hS_pI, hK_pR, hL_pR, hI_pR, hR_pR, hJ_pR, hT_pR, hS_pR, hK_pJ, hL_pJ, hI_pJ, hR_pJ, hJ_pJ, hT_pJ, hS_pJ, hK_wI, hL_wI, hI_wI, hR_wI, hJ_wI, hT_wI, hS_wI, eq_self, and_true, true_and, and_false, false_and, or_true, true_or, or_false, false_or, if_true, if_false, not_true_eq_false, not_false_eq_true, forall_const, implies_true, false_implies, true_implies, Option.some.injEq, forall_eq', exists_eq_left', reduceCtorEq, Nat.reduceEqDiff, c1, T_X12_in, T_X12_ones, T_X11_within, T_X11_bit, T_X11_isIn, T_X11_oneIfIn, T_J6_bitCount_0f7a4, hf, hs31, h8, sh_bt (hI h 16 12) (show p < 32 by omega), b2i_0, Classical.not_not, cl_nI (show p < 2147483648 by omega), in_nI (show p < 24 by omega) (by decide)]
      refine ⟨fun z => ?_, fun z => ?_⟩
      · have z1 : ¬ J 61 p = 1 := fun y => hbf.mp y z
        refine ⟨fun z2 => hq2 z1 z2, fun z2 => ⟨fun y => absurd y (e10 z1 z2), fun _ => ?_⟩⟩
        exact hpio z1 z2
      · exact hq1 (hbf.mpr z)
    have hcall : T_X8_pointsOf [.ref 3, .int (nI p), .int cold] h (fun r h' => c_X5_lookAt_12 Q [some (.ref 31), some (.ref n), some (.int (nI p)), none] (r.toList ++ []) h') := ⟨rfl, hl, hc, q, J, P, E, Ln, p, hq3, hr, hpc, hE, hrc, rfl, hp, h15⟩
    simp only [MX5_lookAt, b_X5_lookAt_0, lx_pI, lx_wI, lx_t hl, lx_k hl, lx_r hl, lx_l hl, i_push, i_ild, i_ald, i_ist, i_ast, i_inc, i_bin, i_un, i_divs, i_i2l, i_lshl, i_lor, i_dup, i_dup2, i_pop, i_if, i_cmp, i_nul, i_vret, i_iret, i_zret, i_aret, i_keep, keep, lget, lset, ent, i_getI, i_getJ, i_getR, i_getN, i_putI, i_putZ, i_putJ, i_putR, i_iald, i_bald, i_alen, i_aald, i_iast, i_bast, i_aast, i_new, i_newa, i_anew, i_oini, i_callS, i_callV, i_callI, popn, sh4, i_sw, swP, i_copy, i_binS, List.map, Option.toList_none, Option.toList_some, List.append, List.nil_append, List.cons_append, List.length_cons, List.length_nil, List.replicate, Nat.sub_self, Nat.reduceSub, Nat.reduceAdd, hK_pI, hL_pI, hI_pI, hR_pI, hJ_pI, hT_pI, hS_pI, hK_pR, hL_pR, hI_pR, hR_pR, hJ_pR, hT_pR, hS_pR, hK_pJ, hL_pJ, hI_pJ, hR_pJ, hJ_pJ, hT_pJ, hS_pJ, hK_wI, hL_wI, hI_wI, hR_wI, hJ_wI, hT_wI, hS_wI, eq_self, and_true, true_and, and_false, false_and, or_true, true_or, or_false, false_or, if_true, if_false, not_true_eq_false, not_false_eq_true, forall_const, implies_true, false_implies, true_implies, Option.some.injEq, forall_eq', exists_eq_left', reduceCtorEq, Nat.reduceEqDiff, c1, T_X12_in, T_X12_ones, T_X11_within, T_X11_bit, T_X11_isIn, T_X11_oneIfIn, T_J6_bitCount_0f7a4, hf, hs31, hcd]
    exact hcall
  · exact hT.elim
