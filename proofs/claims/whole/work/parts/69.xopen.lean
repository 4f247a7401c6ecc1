/-! ===== the class: the rooms that are open to a party ===== -/
def alk (f : Mem) (i j : Nat) : Prop := f 35 i = f 35 j ∧ f 36 i = f 36 j ∧ f 37 i = f 37 j ∧ f 38 i = f 38 j
def opS (f : Mem) (i r : Nat) : Prop := bt (f 38 i) r = true ∧ f 35 i ≤ f 43 r ∧ f 37 i &&& f 41 r = 0 ∧ (f 41 r = 0 ∨ f 42 r = f 36 i)
/-- a party that stands in a room, isn't settled and is like party i -/
def cns (f : Mem) (i o : Nat) : Prop := ¬ f 39 o = -1 ∧ f 40 o = 0 ∧ alk f i o
def opn (f : Mem) (R n i r : Nat) : Prop := r < R ∧ (∀ o, o < n → cns f i o → (o < i → f 39 o ≤ nI r) ∧ (i ≤ o → nI r ≤ f 39 o)) ∧ opS f i r
theorem alk_ok {h : Hp} (hl : LayX h) {i j : Nat} (hi : i < 10) (hj : j < 10) {Q : Option Value → Hp → Prop} (hq1 : alk (hI h) i j → Q (some (.int 1)) h) (hq0 : ¬ alk (hI h) i j → Q (some (.int 0)) h) : T_X4_areAlike [.ref 33, .int (nI i), .int (nI j)] h Q := by
  unfold T_X4_areAlike
  simp only [b_X4_areAlike_0, lx_pI, lx_wI, lx_t hl, lx_k hl, lx_r hl, lx_l hl, i_push, i_ild, i_ald, i_ist, i_ast, i_inc, i_bin, i_un, i_divs, i_i2l, i_lshl, i_lor, i_dup, i_dup2, i_pop, i_if, i_cmp, i_nul, i_vret, i_iret, i_zret, i_aret, i_keep, keep, lget, lset, ent, i_getI, i_getJ, i_getR, i_getN, i_putI, i_putZ, i_putJ, i_putR, i_iald, i_bald, i_alen, i_aald, i_iast, i_bast, i_aast, i_new, i_newa, i_anew, i_oini, i_callS, i_callV, i_callI, popn, sh4, i_sw, swP, i_copy, i_binS, List.map, Option.toList_none, Option.toList_some, List.append, List.nil_append, List.cons_append, List.length_cons, List.length_nil, List.replicate, Nat.sub_self, Nat.reduceSub, Nat.reduceAdd, hK_pI, hL_pI, hI_pI, hR_pI, hJ_pI, hT_pI, hS_pI, hK_pR, hL_pR, hI_pR, hR_pR, hJ_pR, hT_pR, hS_pR, hK_pJ, hL_pJ, hI_pJ, hR_pJ, hJ_pJ, hT_pJ, hS_pJ, hK_wI, hL_wI, hI_wI, hR_wI, hJ_wI, hT_wI, hS_wI, eq_self, and_true, true_and, and_false, false_and, or_true, true_or, or_false, false_or, if_true, if_false, not_true_eq_false, not_false_eq_true, forall_const, implies_true, false_implies, true_implies, Option.some.injEq, forall_eq', exists_eq_left', reduceCtorEq, Nat.reduceEqDiff, c1, T_X12_in, T_X12_ones, T_X11_within, T_X11_bit, T_X11_isIn, T_X11_oneIfIn, T_J6_bitCount_0f7a4, cl_nI (show i < 2147483648 by omega), in_nI (show i < 10 by omega) (by decide), cl_nI (show j < 2147483648 by omega), in_nI (show j < 10 by omega) (by decide)]
  exact ⟨fun c1 => ⟨fun c2 => ⟨fun c3 => ⟨fun c4 => hq1 ⟨c1, c2, c3, c4⟩, fun c4 => hq0 (fun z => c4 z.2.2.2)⟩, fun c3 => hq0 (fun z => c3 z.2.2.1)⟩, fun c2 => hq0 (fun z => c2 z.2.1)⟩, fun c1 => hq0 (fun z => c1 z.1)⟩
theorem opS_ok {h : Hp} (hl : LayX h) {i r : Nat} (hi : i < 10) (hr : r < 4) {Q : Option Value → Hp → Prop} (hq1 : opS (hI h) i r → Q (some (.int 1)) h) (hq0 : ¬ opS (hI h) i r → Q (some (.int 0)) h) : T_X4_isOpen [.ref 33, .int (nI r), .int (nI i)] h Q := by
  unfold T_X4_isOpen
  simp only [b_X4_isOpen_0, lx_pI, lx_wI, lx_t hl, lx_k hl, lx_r hl, lx_l hl, i_push, i_ild, i_ald, i_ist, i_ast, i_inc, i_bin, i_un, i_divs, i_i2l, i_lshl, i_lor, i_dup, i_dup2, i_pop, i_if, i_cmp, i_nul, i_vret, i_iret, i_zret, i_aret, i_keep, keep, lget, lset, ent, i_getI, i_getJ, i_getR, i_getN, i_putI, i_putZ, i_putJ, i_putR, i_iald, i_bald, i_alen, i_aald, i_iast, i_bast, i_aast, i_new, i_newa, i_anew, i_oini, i_callS, i_callV, i_callI, popn, sh4, i_sw, swP, i_copy, i_binS, List.map, Option.toList_none, Option.toList_some, List.append, List.nil_append, List.cons_append, List.length_cons, List.length_nil, List.replicate, Nat.sub_self, Nat.reduceSub, Nat.reduceAdd, hK_pI, hL_pI, hI_pI, hR_pI, hJ_pI, hT_pI, hS_pI, hK_pR, hL_pR, hI_pR, hR_pR, hJ_pR, hT_pR, hS_pR, hK_pJ, hL_pJ, hI_pJ, hR_pJ, hJ_pJ, hT_pJ, hS_pJ, hK_wI, hL_wI, hI_wI, hR_wI, hJ_wI, hT_wI, hS_wI, eq_self, and_true, true_and, and_false, false_and, or_true, true_or, or_false, false_or, if_true, if_false, not_true_eq_false, not_false_eq_true, forall_const, implies_true, false_implies, true_implies, Option.some.injEq, forall_eq', exists_eq_left', reduceCtorEq, Nat.reduceEqDiff, c1, T_X12_in, T_X12_ones, T_X11_within, T_X11_bit, T_X11_isIn, T_X11_oneIfIn, T_J6_bitCount_0f7a4, cl_nI (show i < 2147483648 by omega), in_nI (show i < 10 by omega) (by decide), cl_nI (show r < 2147483648 by omega), in_nI (show r < 4 by omega) (by decide), sh_bt (hI h 38 i) (show r < 32 by omega)]
  refine ⟨fun c1 => hq0 (fun z => by have := z.1; rw [c1] at this; cases this), fun c1 => ⟨fun c2 => hq0 (fun z => absurd z.2.1 (Int32.not_le.mpr c2)), fun c2 => ⟨fun c3 => ⟨fun c4 => hq1 ⟨by simpa using c1, Int32.not_lt.mp c2, c3, Or.inl c4⟩, fun c4 => ⟨fun c5 => hq1 ⟨by simpa using c1, Int32.not_lt.mp c2, c3, Or.inr c5⟩, fun c5 => hq0 (fun z => ?_)⟩⟩, fun c3 => hq0 (fun z => c3 z.2.2.1)⟩⟩⟩
  rcases z.2.2.2 with y | y
  · exact c4 y
  · exact c5 y
/-- the places of the parties are rooms, or none -/
def whOk (f : Mem) (R n : Nat) : Prop := ∀ o, o < n → f 39 o = -1 ∨ ∃ r, r < R ∧ f 39 o = nI r
def T_X4_openRooms : Tr := fun av h Q => match av with
  | [.ref o, .int p] => o = 33 ∧ LayX h ∧ hR h 33 0 = some 3 ∧ ∃ R n i, R ≤ 4 ∧ n ≤ 10 ∧ hI h 12 0 = nI R ∧ hI h 33 2 = nI n ∧ p = nI i ∧ i < 10 ∧ whOk (hI h) R n ∧ ∀ X, (∀ r, bt X r = true ↔ opn (hI h) R n i r) → Q (some (.int X)) h
  | _ => False
def L_X4_openRooms : List UInt8 := [3, 61, 42, 180, 0, 43, 180, 0, 55, 180, 0, 61, 4, 100, 62, 3, 54, 4, 21, 4, 42, 180, 0, 51, 162, 0, 73, 42, 180, 0, 27, 21, 4, 46, 2, 159, 0, 56, 42, 180, 0, 30, 21, 4, 51, 154, 0, 46, 42, 27, 21, 4, 182, 0, 168, 153, 0, 36, 21, 4, 27, 162, 0, 18, 28, 42, 180, 0, 27, 21, 4, 46, 184, 0, 171, 61, 167, 0, 15, 29, 42, 180, 0, 27, 21, 4, 46, 184, 0, 159, 62, 132, 4, 1, 167, 255, 180, 3, 54, 4, 28, 54, 5, 21, 5, 29, 163, 0, 33, 21, 4, 42, 21, 5, 27, 182, 0, 165, 153, 0, 11, 21, 5, 184, 0, 80, 167, 0, 4, 3, 128, 54, 4, 132, 5, 1, 167, 255, 223, 21, 4, 172]
theorem Lc_X4_openRooms : MX4_openRooms.2.1 = ⟨L_X4_openRooms.toArray⟩ := rfl
theorem D_X4_openRooms_0 : dseq MX4_openRooms.2.1 0 [(.iconst 0, 1), (.istore_n 2, 1), (.aload_n 0, 1), (.getfield 43, 3), (.getfield 55, 3), (.getfield 61, 3), (.iconst 1, 1), (.isub, 1), (.istore_n 3, 1), (.iconst 0, 1), (.istore 4, 2)] := dq Lc_X4_openRooms 0 _ (by decide +kernel)
theorem D_X4_openRooms_18 : dseq MX4_openRooms.2.1 18 [(.iload 4, 2), (.aload_n 0, 1), (.getfield 51, 3), (.if_icmp .ge 73, 3), (.aload_n 0, 1), (.getfield 27, 3), (.iload 4, 2), (.iaload, 1), (.iconst (-1), 1), (.if_icmp .eq 56, 3), (.aload_n 0, 1), (.getfield 30, 3), (.iload 4, 2), (.baload, 1), (.ifCond .ne 46, 3), (.aload_n 0, 1), (.iload_n 1, 1), (.iload 4, 2), (.invokevirtual 168, 3), (.ifCond .eq 36, 3), (.iload 4, 2), (.iload_n 1, 1), (.if_icmp .ge 18, 3), (.iload_n 2, 1), (.aload_n 0, 1), (.getfield 27, 3), (.iload 4, 2), (.iaload, 1), (.invokestatic 171, 3), (.istore_n 2, 1), (.goto 15, 3)] := dq Lc_X4_openRooms 18 _ (by decide +kernel)
theorem D_X4_openRooms_97 : dseq MX4_openRooms.2.1 97 [(.iconst 0, 1), (.istore 4, 2), (.iload_n 2, 1), (.istore 5, 2)] := dq Lc_X4_openRooms 97 _ (by decide +kernel)
theorem D_X4_openRooms_79 : dseq MX4_openRooms.2.1 79 [(.iload_n 3, 1), (.aload_n 0, 1), (.getfield 27, 3), (.iload 4, 2), (.iaload, 1), (.invokestatic 159, 3), (.istore_n 3, 1)] := dq Lc_X4_openRooms 79 _ (by decide +kernel)
theorem D_X4_openRooms_91 : dseq MX4_openRooms.2.1 91 [(.iinc 4 1, 3), (.goto (-76), 3)] := dq Lc_X4_openRooms 91 _ (by decide +kernel)
theorem D_X4_openRooms_103 : dseq MX4_openRooms.2.1 103 [(.iload 5, 2), (.iload_n 3, 1), (.if_icmp .gt 33, 3), (.iload 4, 2), (.aload_n 0, 1), (.iload 5, 2), (.iload_n 1, 1), (.invokevirtual 165, 3), (.ifCond .eq 11, 3), (.iload 5, 2), (.invokestatic 80, 3), (.goto 4, 3)] := dq Lc_X4_openRooms 103 _ (by decide +kernel)
theorem D_X4_openRooms_139 : dseq MX4_openRooms.2.1 139 [(.iload 4, 2), (.ireturn, 1)] := dq Lc_X4_openRooms 139 _ (by decide +kernel)
theorem D_X4_openRooms_129 : dseq MX4_openRooms.2.1 129 [(.iconst 0, 1)] := dq Lc_X4_openRooms 129 _ (by decide +kernel)
theorem D_X4_openRooms_130 : dseq MX4_openRooms.2.1 130 [(.ior, 1), (.istore 4, 2), (.iinc 5 1, 3), (.goto (-33), 3)] := dq Lc_X4_openRooms 130 _ (by decide +kernel)
def c_X4_openRooms_55 (Q : Option Value → Hp → Prop) : Kt := i_if (fun x => x = 0) (i_keep [true, true, true, true, true, false] (wp 1 MX4_openRooms Q 91)) (i_ild 4 (i_ild 1 (i_cmp (fun x y => y ≤ x) (i_ild 3 (i_ald 0 (i_getR 4 8 (i_ild 4 (i_iald (i_binS (fun x y => if y < x then y else x) (i_ist 3 (i_keep [true, true, true, true, true, false] (wp 1 MX4_openRooms Q 91))))))))) (i_ild 2 (i_ald 0 (i_getR 4 8 (i_ild 4 (i_iald (i_binS (fun x y => if x < y then y else x) (i_ist 2 (i_keep [true, true, true, true, true, false] (wp 1 MX4_openRooms Q 91))))))))))))
def c_X4_openRooms_118 (Q : Option Value → Hp → Prop) : Kt := i_if (fun x => x = 0) (i_push (.int 0) (i_keep [true, true, false, true, false, true] (wp 1 MX4_openRooms Q 130))) (i_ild 5 (i_callS 1 T_X11_bit (i_keep [true, true, false, true, false, true] (wp 1 MX4_openRooms Q 130))))
def b_X4_openRooms_0 (Q : Option Value → Hp → Prop) : Kt := i_push (.int 0) (i_ist 2 (i_ald 0 (i_getR 4 0 (i_getR 8 0 (i_getI 6 0 (i_push (.int 1) (i_bin (fun x y => x - y) (i_ist 3 (i_push (.int 0) (i_ist 4 (i_keep [true, true, true, true, true, false] (wp 1 MX4_openRooms Q 18))))))))))))
set_option maxRecDepth 100000 in
theorem s_X4_openRooms_0 (Q : Option Value → Hp → Prop) : ∀ A st h, b_X4_openRooms_0 Q A st h → wp 1 MX4_openRooms Q 0 A st h := (q1 (s_iconst (n := 0) (v := 0) (by decide)) D_X4_openRooms_0 fun D => (qL (s_istn (n := 2) (i := 2) rfl) (by decide) D fun D => (q1 (s_aldn (n := 0) (i := 0) rfl) D fun D => (qC fl_X4_43 rfl D fun D => (qC fl_X4_55 rfl D fun D => (qC fl_X4_61 rfl D fun D => (q1 (s_iconst (n := 1) (v := 1) (by decide)) D fun D => (q1 s_sub D fun D => (qL (s_istn (n := 3) (i := 3) rfl) (by decide) D fun D => (q1 (s_iconst (n := 0) (v := 0) (by decide)) D fun D => (qL s_ist (by decide) D fun D => (s_keep [true, true, true, true, true, false] fun _ _ _ h => h))))))))))))
def b_X4_openRooms_18 (Q : Option Value → Hp → Prop) : Kt := i_ild 4 (i_ald 0 (i_getI 4 2 (i_cmp (fun x y => y ≤ x) (i_push (.int 0) (i_ist 4 (i_ild 2 (i_ist 5 (i_keep [true, true, false, true, true, true] (wp 1 MX4_openRooms Q 103)))))) (i_ald 0 (i_getR 4 8 (i_ild 4 (i_iald (i_push (.int (-1)) (i_cmp (fun x y => x = y) (i_keep [true, true, true, true, true, false] (wp 1 MX4_openRooms Q 91)) (i_ald 0 (i_getR 4 9 (i_ild 4 (i_bald (i_if (fun x => x = 0) (i_ald 0 (i_ild 1 (i_ild 4 (i_callV 4 2 T_X4_areAlike (c_X4_openRooms_55 Q))))) (i_keep [true, true, true, true, true, false] (wp 1 MX4_openRooms Q 91))))))))))))))))
set_option maxRecDepth 100000 in
theorem s_X4_openRooms_18 (Q : Option Value → Hp → Prop) : ∀ A st h, b_X4_openRooms_18 Q A st h → wp 1 MX4_openRooms Q 18 A st h := (q1 s_ild D_X4_openRooms_18 fun D => (q1 (s_aldn (n := 0) (i := 0) rfl) D fun D => (qC fl_X4_51 rfl D fun D => (qB s_cmpge 97 (by decide) D (q1 (s_iconst (n := 0) (v := 0) (by decide)) D_X4_openRooms_97 fun D => (qL s_ist (by decide) D fun D => (q1 (s_ildn (n := 2) (i := 2) rfl) D fun D => (qL s_ist (by decide) D fun D => (s_keep [true, true, false, true, true, true] fun _ _ _ h => h))))) fun D => (q1 (s_aldn (n := 0) (i := 0) rfl) D fun D => (qC fl_X4_27 rfl D fun D => (q1 s_ild D fun D => (q1 s_iald D fun D => (q1 (s_iconst (n := (-1)) (v := (-1)) (by decide)) D fun D => (qB s_cmpeq 91 (by decide) D (s_keep [true, true, true, true, true, false] fun _ _ _ h => h) fun D => (q1 (s_aldn (n := 0) (i := 0) rfl) D fun D => (qC fl_X4_30 rfl D fun D => (q1 s_ild D fun D => (q1 s_bald D fun D => (qBn s_ifne2 91 (by decide) D (s_keep [true, true, true, true, true, false] fun _ _ _ h => h) fun D => (q1 (s_aldn (n := 0) (i := 0) rfl) D fun D => (q1 (s_ildn (n := 1) (i := 1) rfl) D fun D => (q1 s_ild D fun D => (qX (s_callV kX4 rfl ok_X4_areAlike mo_X4_areAlike (ch_4_5_ok.2.2.1.1 rfl) (ch_4_5_ok.2.2.2.2.1.1 rfl) (pv_1.2.2.2.2.2.2.2.2.2.2.2.1)) rfl (by decide) D fun D => (qB s_ifeq 91 (by decide) D (s_keep [true, true, true, true, true, false] fun _ _ _ h => h) fun D => (q1 s_ild D fun D => (q1 (s_ildn (n := 1) (i := 1) rfl) D fun D => (qB s_cmpge 79 (by decide) D (q1 (s_ildn (n := 3) (i := 3) rfl) D_X4_openRooms_79 fun D => (q1 (s_aldn (n := 0) (i := 0) rfl) D fun D => (qC fl_X4_27 rfl D fun D => (q1 s_ild D fun D => (q1 s_iald D fun D => (qX (s_min (ch_4_5_ok.2.2.2.2.2.2.2.2.2.1.1 rfl) w_min2 w_math w_min4) rfl (by decide) D fun D => (qL (s_istn (n := 3) (i := 3) rfl) (by decide) D fun D => (s_keep [true, true, true, true, true, false] fun _ _ _ h => h)))))))) fun D => (q1 (s_ildn (n := 2) (i := 2) rfl) D fun D => (q1 (s_aldn (n := 0) (i := 0) rfl) D fun D => (qC fl_X4_27 rfl D fun D => (q1 s_ild D fun D => (q1 s_iald D fun D => (qX (s_max (ch_4_5_ok.2.2.2.2.2.2.1.1 rfl) w_max2 w_math w_max4) rfl (by decide) D fun D => (qL (s_istn (n := 2) (i := 2) rfl) (by decide) D fun D => (qG 91 (by decide) D (s_keep [true, true, true, true, true, false] fun _ _ _ h => h))))))))))))))))))))))))))))))))
def b_X4_openRooms_91 (Q : Option Value → Hp → Prop) : Kt := i_inc 4 1 (i_keep [true, true, true, true, true, false] (wp 1 MX4_openRooms Q 18))
set_option maxRecDepth 100000 in
theorem s_X4_openRooms_91 (Q : Option Value → Hp → Prop) : ∀ A st h, b_X4_openRooms_91 Q A st h → wp 1 MX4_openRooms Q 91 A st h := (qL (s_inc (i := 4) (n := 1) (v := 1) (by decide)) (by decide) D_X4_openRooms_91 fun D => (qG 18 (by decide) D (s_keep [true, true, true, true, true, false] fun _ _ _ h => h)))
def b_X4_openRooms_103 (Q : Option Value → Hp → Prop) : Kt := i_ild 5 (i_ild 3 (i_cmp (fun x y => y < x) (i_ild 4 (i_iret Q)) (i_ild 4 (i_ald 0 (i_ild 5 (i_ild 1 (i_callV 4 2 T_X4_isOpen (c_X4_openRooms_118 Q))))))))
set_option maxRecDepth 100000 in
theorem s_X4_openRooms_103 (Q : Option Value → Hp → Prop) : ∀ A st h, b_X4_openRooms_103 Q A st h → wp 1 MX4_openRooms Q 103 A st h := (q1 s_ild D_X4_openRooms_103 fun D => (q1 (s_ildn (n := 3) (i := 3) rfl) D fun D => (qB s_cmpgt 139 (by decide) D (q1 s_ild D_X4_openRooms_139 fun D => (qI rfl D)) fun D => (q1 s_ild D fun D => (q1 (s_aldn (n := 0) (i := 0) rfl) D fun D => (q1 s_ild D fun D => (q1 (s_ildn (n := 1) (i := 1) rfl) D fun D => (qX (s_callV kX4 rfl ok_X4_isOpen mo_X4_isOpen (ch_4_5_ok.2.2.2.2.2.2.2.2.2.2.2.2.1.1 rfl) (ch_4_5_ok.2.2.2.2.2.2.2.2.2.2.2.2.2.2.1.1 rfl) (pv_1.2.2.2.2.2.2.2.2.2.2.2.2.1)) rfl (by decide) D fun D => (qB s_ifeq 129 (by decide) D (q1 (s_iconst (n := 0) (v := 0) (by decide)) D_X4_openRooms_129 fun D => (s_keep [true, true, false, true, false, true] fun _ _ _ h => h)) fun D => (q1 s_ild D fun D => (qX (s_callSN ok_X11_bit mo_X11_bit (ch_4_4_ok.1.2 rfl) (ch_3_5_ok.2.2.2.2.2.2.2.2.2.2.2.2.1.1 rfl)) rfl (by decide) D fun D => (qG 130 (by decide) D (s_keep [true, true, false, true, false, true] fun _ _ _ h => h)))))))))))))
def b_X4_openRooms_130 (Q : Option Value → Hp → Prop) : Kt := i_bin (fun x y => x ||| y) (i_ist 4 (i_inc 5 1 (i_keep [true, true, false, true, true, true] (wp 1 MX4_openRooms Q 103))))
set_option maxRecDepth 100000 in
theorem s_X4_openRooms_130 (Q : Option Value → Hp → Prop) : ∀ A st h, b_X4_openRooms_130 Q A st h → wp 1 MX4_openRooms Q 130 A st h := (q1 s_or D_X4_openRooms_130 fun D => (qL s_ist (by decide) D fun D => (qL (s_inc (i := 5) (n := 1) (v := 1) (by decide)) (by decide) D fun D => (qG 103 (by decide) D (s_keep [true, true, false, true, true, true] fun _ _ _ h => h)))))

set_option maxRecDepth 100000 in
set_option maxHeartbeats 400000 in
theorem op_103 (Q : Option Value → Hp → Prop) (h : Hp) (hl : LayX h) (R n i lo : Nat) (hi : Int32) (hR : R ≤ 4) (hi10 : i < 10) (hhi : hi < nI R) (hC : ∀ r, r < R → ((lo ≤ r ∧ nI r ≤ hi) ↔ ∀ o, o < n → cns (hI h) i o → (o < i → hI h 39 o ≤ nI r) ∧ (i ≤ o → nI r ≤ hI h 39 o)))
    (hq : ∀ X, (∀ r, bt X r = true ↔ opn (hI h) R n i r) → Q (some (.int X)) h) :
    ∀ (m c : Nat) (X : Int32), m = 5 - c → lo ≤ c → c ≤ 5 → (∀ r, lo ≤ r → r < c → nI r ≤ hi) → (∀ r, bt X r = true ↔ lo ≤ r ∧ r < c ∧ opS (hI h) i r) → wp 1 MX4_openRooms Q 103 [some (.ref 33), some (.int (nI i)), none, some (.int hi), some (.int X), some (.int (nI c))] [] h := by
  have rlt : ∀ r : Nat, r < 100 → nI r ≤ hi → r < R := fun r h1 hr => by
    have h2 := Int32.lt_of_le_of_lt hr hhi
    exact (nI_ltI (by omega) (by omega)).mp h2
  have hfin : ∀ (c : Nat) (X : Int32), c ≤ 5 → (∀ r, lo ≤ r → r < c → nI r ≤ hi) → (∀ r, bt X r = true ↔ lo ≤ r ∧ r < c ∧ opS (hI h) i r) → ¬ nI c ≤ hi → Q (some (.int X)) h := by
    intro c X hc5 hbelow hX hno
    refine hq X (fun r => ?_)
    rw [hX r]
    constructor
    · rintro ⟨a, b, d⟩
      have hr := rlt r (by omega) (hbelow r a b)
      exact ⟨hr, (hC r hr).mp ⟨a, hbelow r a b⟩, d⟩
    · rintro ⟨a, b, d⟩
      obtain ⟨e1, e2⟩ := (hC r a).mpr b
      refine ⟨e1, ?_, d⟩
      rcases Nat.lt_or_ge r c with q | q
      · exact q
      · exact absurd (Int32.le_trans (nI_le q (by omega)) e2) hno
  intro m
  induction m with
  | zero =>
    intro c X hm hlo hc hbelow hX
    have e : c = 5 := by omega
    subst e
    have hno : ¬ nI 5 ≤ hi := fun z => by have := rlt 5 (by omega) z; omega
    have := hfin 5 X (by omega) hbelow hX hno
    refine s_X4_openRooms_103 Q _ _ _ ?_
    simp only [b_X4_openRooms_103, i_push, i_ild, i_ald, i_ist, i_ast, i_inc, i_bin, i_un, i_divs, i_i2l, i_lshl, i_lor, i_dup, i_dup2, i_pop, i_if, i_cmp, i_nul, i_vret, i_iret, i_zret, i_aret, i_keep, keep, lget, lset, ent, i_getI, i_getJ, i_getR, i_getN, i_putI, i_putZ, i_putJ, i_putR, i_iald, i_bald, i_alen, i_aald, i_iast, i_bast, i_aast, i_new, i_newa, i_anew, i_oini, i_callS, i_callV, i_callI, popn, sh4, i_sw, swP, i_copy, i_binS, List.map, Option.toList_none, Option.toList_some, List.append, List.nil_append, List.cons_append, List.length_cons, List.length_nil, List.replicate, Nat.sub_self, Nat.reduceSub, Nat.reduceAdd, hK_pI, hL_pI, hI_pI, hR_pI, hJ_pI, hT_pI, hS_pI, hK_pR, hL_pR, hI_pR, hR_pR, hJ_pR, hT_pR, hS_pR, hK_pJ, hL_pJ, hI_pJ, hR_pJ, hJ_pJ, hT_pJ, hS_pJ, hK_wI, hL_wI, hI_wI, hR_wI, hJ_wI, hT_wI, hS_wI, eq_self, and_true, true_and, and_false, false_and, or_true, true_or, or_false, false_or, if_true, if_false, not_true_eq_false, not_false_eq_true, forall_const, implies_true, false_implies, true_implies, Option.some.injEq, forall_eq', exists_eq_left', reduceCtorEq, Nat.reduceEqDiff, c1, T_X12_in, T_X12_ones, T_X11_within, T_X11_bit, T_X11_isIn, T_X11_oneIfIn, T_J6_bitCount_0f7a4]
    exact ⟨fun _ => this, fun z => absurd (Int32.not_lt.mp z) hno⟩
  | succ m ih =>
    intro c X hm hlo hc hbelow hX
    refine s_X4_openRooms_103 Q _ _ _ ?_
    simp only [b_X4_openRooms_103, lx_pI, lx_wI, lx_t hl, lx_k hl, lx_r hl, lx_l hl, i_push, i_ild, i_ald, i_ist, i_ast, i_inc, i_bin, i_un, i_divs, i_i2l, i_lshl, i_lor, i_dup, i_dup2, i_pop, i_if, i_cmp, i_nul, i_vret, i_iret, i_zret, i_aret, i_keep, keep, lget, lset, ent, i_getI, i_getJ, i_getR, i_getN, i_putI, i_putZ, i_putJ, i_putR, i_iald, i_bald, i_alen, i_aald, i_iast, i_bast, i_aast, i_new, i_newa, i_anew, i_oini, i_callS, i_callV, i_callI, popn, sh4, i_sw, swP, i_copy, i_binS, List.map, Option.toList_none, Option.toList_some, List.append, List.nil_append, List.cons_append, List.length_cons, List.length_nil, List.replicate, Nat.sub_self, Nat.reduceSub, Nat.reduceAdd, hK_pI, hL_pI, hI_pI, hR_pI, hJ_pI, hT_pI, hS_pI, hK_pR, hL_pR, hI_pR, hR_pR, hJ_pR, hT_pR, hS_pR, hK_pJ, hL_pJ, hI_pJ, hR_pJ, hJ_pJ, hT_pJ, hS_pJ, hK_wI, hL_wI, hI_wI, hR_wI, hJ_wI, hT_wI, hS_wI, eq_self, and_true, true_and, and_false, false_and, or_true, true_or, or_false, false_or, if_true, if_false, not_true_eq_false, not_false_eq_true, forall_const, implies_true, false_implies, true_implies, Option.some.injEq, forall_eq', exists_eq_left', reduceCtorEq, Nat.reduceEqDiff, c1, T_X12_in, T_X12_ones, T_X11_within, T_X11_bit, T_X11_isIn, T_X11_oneIfIn, T_J6_bitCount_0f7a4]
    refine ⟨fun z => hfin c X hc hbelow hX (Int32.not_le.mpr z), fun z => ?_⟩
    have hch : nI c ≤ hi := Int32.not_lt.mp z
    have hcR := rlt c (by omega) hch
    have h130 : ∀ v, (∀ r, bt v r = true ↔ r = c ∧ opS (hI h) i c) → wp 1 MX4_openRooms Q 130 [some (.ref 33), some (.int (nI i)), none, some (.int hi), none, some (.int (nI c))] [.int v, .int X] h := by
      intro v hv
      have hgo := ih (c + 1) (X ||| v) (by omega) (by omega) (by omega) (fun r a b => by
        by_cases e : r = c
        · rw [e]; exact hch
        · exact hbelow r a (by omega)) (fun r => by
        rw [b_or, Bool.or_eq_true, hX r, hv r]
        constructor
        · rintro (⟨a, b, d⟩ | ⟨rfl, d⟩)
          · exact ⟨a, by omega, d⟩
          · exact ⟨hlo, by omega, d⟩
        · rintro ⟨a, b, d⟩
          by_cases e : r = c
          · subst e; exact Or.inr ⟨rfl, d⟩
          · exact Or.inl ⟨a, by omega, d⟩)
      refine s_X4_openRooms_130 Q _ _ _ ?_
      simp only [b_X4_openRooms_130, i_push, i_ild, i_ald, i_ist, i_ast, i_inc, i_bin, i_un, i_divs, i_i2l, i_lshl, i_lor, i_dup, i_dup2, i_pop, i_if, i_cmp, i_nul, i_vret, i_iret, i_zret, i_aret, i_keep, keep, lget, lset, ent, i_getI, i_getJ, i_getR, i_getN, i_putI, i_putZ, i_putJ, i_putR, i_iald, i_bald, i_alen, i_aald, i_iast, i_bast, i_aast, i_new, i_newa, i_anew, i_oini, i_callS, i_callV, i_callI, popn, sh4, i_sw, swP, i_copy, i_binS, List.map, Option.toList_none, Option.toList_some, List.append, List.nil_append, List.cons_append, List.length_cons, List.length_nil, List.replicate, Nat.sub_self, Nat.reduceSub, Nat.reduceAdd, hK_pI, hL_pI, hI_pI, hR_pI, hJ_pI, hT_pI, hS_pI, hK_pR, hL_pR, hI_pR, hR_pR, hJ_pR, hT_pR, hS_pR, hK_pJ, hL_pJ, hI_pJ, hR_pJ, hJ_pJ, hT_pJ, hS_pJ, hK_wI, hL_wI, hI_wI, hR_wI, hJ_wI, hT_wI, hS_wI, eq_self, and_true, true_and, and_false, false_and, or_true, true_or, or_false, false_or, if_true, if_false, not_true_eq_false, not_false_eq_true, forall_const, implies_true, false_implies, true_implies, Option.some.injEq, forall_eq', exists_eq_left', reduceCtorEq, Nat.reduceEqDiff, c1, T_X12_in, T_X12_ones, T_X11_within, T_X11_bit, T_X11_isIn, T_X11_oneIfIn, T_J6_bitCount_0f7a4, nI_1]
      exact hgo
    refine opS_ok hl hi10 (by omega) (fun z => ?_) (fun z => ?_)
    · have := h130 (bitI c) (fun r => by
        rcases Nat.lt_or_ge r 32 with q | q
        · rw [b_bitI (by omega) q]
          simp only [decide_eq_true_eq]
          exact ⟨fun e => ⟨e, z⟩, fun e => e.1⟩
        · rw [b_big q]
          exact ⟨fun e => (by cases e), fun e => by omega⟩)
      show c_X4_openRooms_118 Q _ [.int 1, .int X] h
      simp only [c_X4_openRooms_118, i_push, i_ild, i_ald, i_ist, i_ast, i_inc, i_bin, i_un, i_divs, i_i2l, i_lshl, i_lor, i_dup, i_dup2, i_pop, i_if, i_cmp, i_nul, i_vret, i_iret, i_zret, i_aret, i_keep, keep, lget, lset, ent, i_getI, i_getJ, i_getR, i_getN, i_putI, i_putZ, i_putJ, i_putR, i_iald, i_bald, i_alen, i_aald, i_iast, i_bast, i_aast, i_new, i_newa, i_anew, i_oini, i_callS, i_callV, i_callI, popn, sh4, i_sw, swP, i_copy, i_binS, List.map, Option.toList_none, Option.toList_some, List.append, List.nil_append, List.cons_append, List.length_cons, List.length_nil, List.replicate, Nat.sub_self, Nat.reduceSub, Nat.reduceAdd, hK_pI, hL_pI, hI_pI, hR_pI, hJ_pI, hT_pI, hS_pI, hK_pR, hL_pR, hI_pR, hR_pR, hJ_pR, hT_pR, hS_pR, hK_pJ, hL_pJ, hI_pJ, hR_pJ, hJ_pJ, hT_pJ, hS_pJ, hK_wI, hL_wI, hI_wI, hR_wI, hJ_wI, hT_wI, hS_wI, eq_self, and_true, true_and, and_false, false_and, or_true, true_or, or_false, false_or, if_true, if_false, not_true_eq_false, not_false_eq_true, forall_const, implies_true, false_implies, true_implies, Option.some.injEq, forall_eq', exists_eq_left', reduceCtorEq, Nat.reduceEqDiff, c1, T_X12_in, T_X12_ones, T_X11_within, T_X11_bit, T_X11_isIn, T_X11_oneIfIn, T_J6_bitCount_0f7a4, show ¬ (1 : Int32) = 0 by decide]
      exact this
    · have := h130 0 (fun r => by
        rw [b_0]
        exact ⟨fun e => (by cases e), fun e => absurd e.2 z⟩)
      show c_X4_openRooms_118 Q _ [.int 0, .int X] h
      simp only [c_X4_openRooms_118, i_push, i_ild, i_ald, i_ist, i_ast, i_inc, i_bin, i_un, i_divs, i_i2l, i_lshl, i_lor, i_dup, i_dup2, i_pop, i_if, i_cmp, i_nul, i_vret, i_iret, i_zret, i_aret, i_keep, keep, lget, lset, ent, i_getI, i_getJ, i_getR, i_getN, i_putI, i_putZ, i_putJ, i_putR, i_iald, i_bald, i_alen, i_aald, i_iast, i_bast, i_aast, i_new, i_newa, i_anew, i_oini, i_callS, i_callV, i_callI, popn, sh4, i_sw, swP, i_copy, i_binS, List.map, Option.toList_none, Option.toList_some, List.append, List.nil_append, List.cons_append, List.length_cons, List.length_nil, List.replicate, Nat.sub_self, Nat.reduceSub, Nat.reduceAdd, hK_pI, hL_pI, hI_pI, hR_pI, hJ_pI, hT_pI, hS_pI, hK_pR, hL_pR, hI_pR, hR_pR, hJ_pR, hT_pR, hS_pR, hK_pJ, hL_pJ, hI_pJ, hR_pJ, hJ_pJ, hT_pJ, hS_pJ, hK_wI, hL_wI, hI_wI, hR_wI, hJ_wI, hT_wI, hS_wI, eq_self, and_true, true_and, and_false, false_and, or_true, true_or, or_false, false_or, if_true, if_false, not_true_eq_false, not_false_eq_true, forall_const, implies_true, false_implies, true_implies, Option.some.injEq, forall_eq', exists_eq_left', reduceCtorEq, Nat.reduceEqDiff, c1, T_X12_in, T_X12_ones, T_X11_within, T_X11_bit, T_X11_isIn, T_X11_oneIfIn, T_J6_bitCount_0f7a4]
      exact this
set_option maxRecDepth 100000 in
set_option maxHeartbeats 400000 in
theorem op_18 (Q : Option Value → Hp → Prop) (h : Hp) (hl : LayX h) (R n i : Nat) (hR : R ≤ 4) (hn : n ≤ 10) (h32 : hI h 33 2 = nI n) (hi10 : i < 10) (hw : whOk (hI h) R n)
    (hq : ∀ X, (∀ r, bt X r = true ↔ opn (hI h) R n i r) → Q (some (.int X)) h) :
    ∀ (m k lo : Nat) (hi : Int32), m = n - k → k ≤ n → lo ≤ 4 → hi < nI R → (∀ r, r < R → (lo ≤ r ↔ ∀ o, o < k → cns (hI h) i o → o < i → hI h 39 o ≤ nI r)) → (∀ r, r < R → (nI r ≤ hi ↔ ∀ o, o < k → cns (hI h) i o → i ≤ o → nI r ≤ hI h 39 o)) →
      wp 1 MX4_openRooms Q 18 [some (.ref 33), some (.int (nI i)), some (.int (nI lo)), some (.int hi), some (.int (nI k)), none] [] h := by
  intro m
  induction m with
  | zero =>
    intro k lo hi hm hk hlo hhi h1 h2
    have e : k = n := by omega
    subst e
    have hgo := op_103 Q h hl R k i lo hi hR hi10 hhi (fun r hr => by
      rw [h1 r hr, h2 r hr]
      exact ⟨fun ⟨a, b⟩ o ho hc => ⟨a o ho hc, b o ho hc⟩, fun z => ⟨fun o ho hc => (z o ho hc).1, fun o ho hc => (z o ho hc).2⟩⟩) hq (5 - lo) lo 0 rfl (Nat.le_refl _) (by omega) (fun r a b => by omega) (fun r => by rw [b_0]; exact ⟨fun z => (by cases z), fun z => by omega⟩)
    refine s_X4_openRooms_18 Q _ _ _ ?_
    simp only [b_X4_openRooms_18, lx_pI, lx_wI, lx_t hl, lx_k hl, lx_r hl, lx_l hl, i_push, i_ild, i_ald, i_ist, i_ast, i_inc, i_bin, i_un, i_divs, i_i2l, i_lshl, i_lor, i_dup, i_dup2, i_pop, i_if, i_cmp, i_nul, i_vret, i_iret, i_zret, i_aret, i_keep, keep, lget, lset, ent, i_getI, i_getJ, i_getR, i_getN, i_putI, i_putZ, i_putJ, i_putR, i_iald, i_bald, i_alen, i_aald, i_iast, i_bast, i_aast, i_new, i_newa, i_anew, i_oini, i_callS, i_callV, i_callI, popn, sh4, i_sw, swP, i_copy, i_binS, List.map, Option.toList_none, Option.toList_some, List.append, List.nil_append, List.cons_append, List.length_cons, List.length_nil, List.replicate, Nat.sub_self, Nat.reduceSub, Nat.reduceAdd, hK_pI, hL_pI, hI_pI, hR_pI, hJ_pI, hT_pI, hS_pI, hK_pR, hL_pR, hI_pR, hR_pR, hJ_pR, hT_pR, hS_pR, hK_pJ, hL_pJ, hI_pJ, hR_pJ, hJ_pJ, hT_pJ, hS_pJ, hK_wI, hL_wI, hI_wI, hR_wI, hJ_wI, hT_wI, hS_wI, eq_self, and_true, true_and, and_false, false_and, or_true, true_or, or_false, false_or, if_true, if_false, not_true_eq_false, not_false_eq_true, forall_const, implies_true, false_implies, true_implies, Option.some.injEq, forall_eq', exists_eq_left', reduceCtorEq, Nat.reduceEqDiff, c1, T_X12_in, T_X12_ones, T_X11_within, T_X11_bit, T_X11_isIn, T_X11_oneIfIn, T_J6_bitCount_0f7a4, h32]
    exact ⟨fun _ => hgo, fun z => absurd (nI_le (Nat.le_refl _) (by omega)) z⟩
  | succ m ih =>
    intro k lo hi hm hk hlo hhi h1 h2
    have h91 : ∀ (lo' : Nat) (hi' : Int32), lo' ≤ 4 → hi' < nI R → (∀ r, r < R → (lo' ≤ r ↔ lo ≤ r ∧ (cns (hI h) i k → k < i → hI h 39 k ≤ nI r))) → (∀ r, r < R → (nI r ≤ hi' ↔ nI r ≤ hi ∧ (cns (hI h) i k → i ≤ k → nI r ≤ hI h 39 k))) → wp 1 MX4_openRooms Q 91 [some (.ref 33), some (.int (nI i)), some (.int (nI lo')), some (.int hi'), some (.int (nI k)), none] [] h := by
      intro lo' hi' l1 l2 l3 l4
      refine s_X4_openRooms_91 Q _ _ _ ?_
      simp only [b_X4_openRooms_91, i_push, i_ild, i_ald, i_ist, i_ast, i_inc, i_bin, i_un, i_divs, i_i2l, i_lshl, i_lor, i_dup, i_dup2, i_pop, i_if, i_cmp, i_nul, i_vret, i_iret, i_zret, i_aret, i_keep, keep, lget, lset, ent, i_getI, i_getJ, i_getR, i_getN, i_putI, i_putZ, i_putJ, i_putR, i_iald, i_bald, i_alen, i_aald, i_iast, i_bast, i_aast, i_new, i_newa, i_anew, i_oini, i_callS, i_callV, i_callI, popn, sh4, i_sw, swP, i_copy, i_binS, List.map, Option.toList_none, Option.toList_some, List.append, List.nil_append, List.cons_append, List.length_cons, List.length_nil, List.replicate, Nat.sub_self, Nat.reduceSub, Nat.reduceAdd, hK_pI, hL_pI, hI_pI, hR_pI, hJ_pI, hT_pI, hS_pI, hK_pR, hL_pR, hI_pR, hR_pR, hJ_pR, hT_pR, hS_pR, hK_pJ, hL_pJ, hI_pJ, hR_pJ, hJ_pJ, hT_pJ, hS_pJ, hK_wI, hL_wI, hI_wI, hR_wI, hJ_wI, hT_wI, hS_wI, eq_self, and_true, true_and, and_false, false_and, or_true, true_or, or_false, false_or, if_true, if_false, not_true_eq_false, not_false_eq_true, forall_const, implies_true, false_implies, true_implies, Option.some.injEq, forall_eq', exists_eq_left', reduceCtorEq, Nat.reduceEqDiff, c1, T_X12_in, T_X12_ones, T_X11_within, T_X11_bit, T_X11_isIn, T_X11_oneIfIn, T_J6_bitCount_0f7a4, nI_1]
      refine ih (k + 1) lo' hi' (by omega) (by omega) l1 l2 (fun r hr => ?_) (fun r hr => ?_)
      · rw [l3 r hr, h1 r hr]
        constructor
        · rintro ⟨a, b⟩ o ho hc hoi
          by_cases e : o = k
          · subst e; exact b hc hoi
          · exact a o (by omega) hc hoi
        · intro z
          exact ⟨fun o ho => z o (by omega), z k (by omega)⟩
      · rw [l4 r hr, h2 r hr]
        constructor
        · rintro ⟨a, b⟩ o ho hc hoi
          by_cases e : o = k
          · subst e; exact b hc hoi
          · exact a o (by omega) hc hoi
        · intro z
          exact ⟨fun o ho => z o (by omega), z k (by omega)⟩
    have hskip : ¬ cns (hI h) i k → wp 1 MX4_openRooms Q 91 [some (.ref 33), some (.int (nI i)), some (.int (nI lo)), some (.int hi), some (.int (nI k)), none] [] h := fun c => h91 lo hi hlo hhi (fun r hr => ⟨fun z => ⟨z, fun y => absurd y c⟩, fun z => z.1⟩) (fun r hr => ⟨fun z => ⟨z, fun y => absurd y c⟩, fun z => z.1⟩)
    refine s_X4_openRooms_18 Q _ _ _ ?_
    simp only [b_X4_openRooms_18, lx_pI, lx_wI, lx_t hl, lx_k hl, lx_r hl, lx_l hl, i_push, i_ild, i_ald, i_ist, i_ast, i_inc, i_bin, i_un, i_divs, i_i2l, i_lshl, i_lor, i_dup, i_dup2, i_pop, i_if, i_cmp, i_nul, i_vret, i_iret, i_zret, i_aret, i_keep, keep, lget, lset, ent, i_getI, i_getJ, i_getR, i_getN, i_putI, i_putZ, i_putJ, i_putR, i_iald, i_bald, i_alen, i_aald, i_iast, i_bast, i_aast, i_new, i_newa, i_anew, i_oini, i_callS, i_callV, i_callI, popn, sh4, i_sw, swP, i_copy, i_binS, List.map, Option.toList_none, Option.toList_some, List.append, List.nil_append, List.cons_append, List.length_cons, List.length_nil, List.replicate, Nat.sub_self, Nat.reduceSub, Nat.reduceAdd, hK_pI, hL_pI, hI_pI, hR_pI, hJ_pI, hT_pI, hS_pI, hK_pR, hL_pR, hI_pR, hR_pR, hJ_pR, hT_pR, hS_pR, hK_pJ, hL_pJ, hI_pJ, hR_pJ, hJ_pJ, hT_pJ, hS_pJ, hK_wI, hL_wI, hI_wI, hR_wI, hJ_wI, hT_wI, hS_wI, eq_self, and_true, true_and, and_false, false_and, or_true, true_or, or_false, false_or, if_true, if_false, not_true_eq_false, not_false_eq_true, forall_const, implies_true, false_implies, true_implies, Option.some.injEq, forall_eq', exists_eq_left', reduceCtorEq, Nat.reduceEqDiff, c1, T_X12_in, T_X12_ones, T_X11_within, T_X11_bit, T_X11_isIn, T_X11_oneIfIn, T_J6_bitCount_0f7a4, h32, cl_nI (show k < 2147483648 by omega), in_nI (show k < 10 by omega) (by decide)]
    refine ⟨fun z => absurd z (nI_ge (by omega) (by omega)), fun _ => ⟨fun c1 => hskip (fun z => z.1 c1), fun c1 => ⟨fun c2 => ?_, fun c2 => hskip (fun z => c2 z.2.1)⟩⟩⟩
    refine alk_ok hl hi10 (by omega) (fun c3 => ?_) (fun c3 => ?_)
    · have hc : cns (hI h) i k := ⟨c1, c2, c3⟩
      obtain ⟨r0, hr0, e0⟩ : ∃ r, r < R ∧ hI h 39 k = nI r := by
        rcases hw k (by omega) with q | q
        · exact absurd q c1
        · exact q
      show c_X4_openRooms_55 Q _ [.int 1] h
      rw [e0] at h91
      have hA : k < i → wp 1 MX4_openRooms Q 91 [some (.ref 33), some (.int (nI i)), some (.int (nI (if r0 ≤ lo then lo else r0))), some (.int hi), some (.int (nI k)), none] [] h := fun hki => by
        refine h91 _ hi (by split <;> omega) hhi (fun r hr => ?_) (fun r hr => ⟨fun z => ⟨z, fun _ y => by omega⟩, fun z => z.1⟩)
        constructor
        · intro z
          split at z
          · exact ⟨z, fun _ _ => nI_le (by omega) (by omega)⟩
          · exact ⟨by omega, fun _ _ => nI_le z (by omega)⟩
        · rintro ⟨a, b⟩
          have := (nI_leI (by omega) (by omega)).mp (b hc hki)
          split <;> omega
      have hB : i ≤ k → ∀ hi', (hi' = if hi ≤ nI r0 then hi else nI r0) → wp 1 MX4_openRooms Q 91 [some (.ref 33), some (.int (nI i)), some (.int (nI lo)), some (.int hi'), some (.int (nI k)), none] [] h := fun hki hi' ehi => by
        have hlt : hi' < nI R := by
          rw [ehi]
          split
          · exact hhi
          · exact nI_lt hr0 (by omega)
        refine h91 lo hi' hlo hlt (fun r hr => ⟨fun z => ⟨z, fun _ y => by omega⟩, fun z => z.1⟩) (fun r hr => ?_)
        rw [ehi]
        constructor
        · intro z
          split at z
          · rename_i q; exact ⟨z, fun _ _ => Int32.le_trans z q⟩
          · rename_i q; exact ⟨Int32.le_trans z (Int32.le_of_lt (Int32.not_le.mp q)), fun _ _ => z⟩
        · rintro ⟨a, b⟩
          split
          · exact a
          · exact b hc hki
      simp only [c_X4_openRooms_55, lx_pI, lx_wI, lx_t hl, lx_k hl, lx_r hl, lx_l hl, i_push, i_ild, i_ald, i_ist, i_ast, i_inc, i_bin, i_un, i_divs, i_i2l, i_lshl, i_lor, i_dup, i_dup2, i_pop, i_if, i_cmp, i_nul, i_vret, i_iret, i_zret, i_aret, i_keep, keep, lget, lset, ent, i_getI, i_getJ, i_getR, i_getN, i_putI, i_putZ, i_putJ, i_putR, i_iald, i_bald, i_alen, i_aald, i_iast, i_bast, i_aast, i_new, i_newa, i_anew, i_oini, i_callS, i_callV, i_callI, popn, sh4, i_sw, swP, i_copy, i_binS, List.map, Option.toList_none, Option.toList_some, List.append, List.nil_append, List.cons_append, List.length_cons, List.length_nil, List.replicate, Nat.sub_self, Nat.reduceSub, Nat.reduceAdd, hK_pI, hL_pI, hI_pI, hR_pI, hJ_pI, hT_pI, hS_pI, hK_pR, hL_pR, hI_pR, hR_pR, hJ_pR, hT_pR, hS_pR, hK_pJ, hL_pJ, hI_pJ, hR_pJ, hJ_pJ, hT_pJ, hS_pJ, hK_wI, hL_wI, hI_wI, hR_wI, hJ_wI, hT_wI, hS_wI, eq_self, and_true, true_and, and_false, false_and, or_true, true_or, or_false, false_or, if_true, if_false, not_true_eq_false, not_false_eq_true, forall_const, implies_true, false_implies, true_implies, Option.some.injEq, forall_eq', exists_eq_left', reduceCtorEq, Nat.reduceEqDiff, c1, T_X12_in, T_X12_ones, T_X11_within, T_X11_bit, T_X11_isIn, T_X11_oneIfIn, T_J6_bitCount_0f7a4, show ¬ (1 : Int32) = 0 by decide, cl_nI (show k < 2147483648 by omega), in_nI (show k < 10 by omega) (by decide), e0]
      refine ⟨fun c4 => hB ((nI_leI (by omega) (by omega)).mp c4) _ ?_, fun c4 => ?_⟩
      · by_cases q : hi ≤ nI r0
        · rw [if_pos q, if_neg (Int32.not_lt.mpr q)]
        · rw [if_neg q, if_pos (Int32.not_le.mp q)]
      · have hki : k < i := Nat.lt_of_not_le (fun z => c4 (nI_le z (by omega)))
        have e : (if nI lo < nI r0 then nI r0 else nI lo) = nI (if r0 ≤ lo then lo else r0) := by
          by_cases q : r0 ≤ lo
          · rw [if_pos q, if_neg (nI_nlt q (by omega))]
          · rw [if_neg q, if_pos (nI_lt (by omega) (by omega))]
        rw [e]
        exact hA hki
    · have := hskip (fun z => c3 z.2.2)
      show c_X4_openRooms_55 Q _ [.int 0] h
      simp only [c_X4_openRooms_55, i_push, i_ild, i_ald, i_ist, i_ast, i_inc, i_bin, i_un, i_divs, i_i2l, i_lshl, i_lor, i_dup, i_dup2, i_pop, i_if, i_cmp, i_nul, i_vret, i_iret, i_zret, i_aret, i_keep, keep, lget, lset, ent, i_getI, i_getJ, i_getR, i_getN, i_putI, i_putZ, i_putJ, i_putR, i_iald, i_bald, i_alen, i_aald, i_iast, i_bast, i_aast, i_new, i_newa, i_anew, i_oini, i_callS, i_callV, i_callI, popn, sh4, i_sw, swP, i_copy, i_binS, List.map, Option.toList_none, Option.toList_some, List.append, List.nil_append, List.cons_append, List.length_cons, List.length_nil, List.replicate, Nat.sub_self, Nat.reduceSub, Nat.reduceAdd, hK_pI, hL_pI, hI_pI, hR_pI, hJ_pI, hT_pI, hS_pI, hK_pR, hL_pR, hI_pR, hR_pR, hJ_pR, hT_pR, hS_pR, hK_pJ, hL_pJ, hI_pJ, hR_pJ, hJ_pJ, hT_pJ, hS_pJ, hK_wI, hL_wI, hI_wI, hR_wI, hJ_wI, hT_wI, hS_wI, eq_self, and_true, true_and, and_false, false_and, or_true, true_or, or_false, false_or, if_true, if_false, not_true_eq_false, not_false_eq_true, forall_const, implies_true, false_implies, true_implies, Option.some.injEq, forall_eq', exists_eq_left', reduceCtorEq, Nat.reduceEqDiff, c1, T_X12_in, T_X12_ones, T_X11_within, T_X11_bit, T_X11_isIn, T_X11_oneIfIn, T_J6_bitCount_0f7a4]
      exact this
set_option maxRecDepth 100000 in
set_option maxHeartbeats 4000000 in
theorem ok_X4_openRooms : ctr 1 MX4_openRooms T_X4_openRooms := by
  refine ctr_of pn_X4 wc_X4_openRooms (fun av h Q hT => ?_)
  unfold T_X4_openRooms at hT
  split at hT
  · rename_i o p
    refine ⟨⟨by simp [Value.category], Nat.le_of_ble_eq_true rfl⟩, s_X4_openRooms_0 Q _ _ _ ?_⟩
    obtain ⟨rfl, hl, hst, R, n, i, hR, hn, h12, h32, rfl, hi, hw, hq⟩ := hT
    have hm1 : nI R - 1 < nI R := by
      rw [Int32.lt_iff_toInt_lt]
      have e1 : (1 : Int32) = nI 1 := rfl
      rw [e1, pk_sub_toInt (by omega) (by omega), nI_toInt (by omega)]
      omega
    have hm2 : ∀ r, r < R → nI r ≤ nI R - 1 := fun r hr => by
      rw [Int32.le_iff_toInt_le]
      have e1 : (1 : Int32) = nI 1 := rfl
      rw [e1, pk_sub_toInt (by omega) (by omega), nI_toInt (by omega)]
      omega
    have hgo := op_18 Q h hl R n i hR hn h32 hi hw hq n 0 0 (nI R - 1) (by omega) (by omega) (by omega) hm1 (fun r hr => ⟨fun _ o ho => absurd ho (Nat.not_lt_zero _), fun _ => Nat.zero_le _⟩) (fun r hr => ⟨fun _ o ho => absurd ho (Nat.not_lt_zero _), fun _ => hm2 r hr⟩)
    simp only [MX4_openRooms, b_X4_openRooms_0, lx_pI, lx_wI, lx_t hl, lx_k hl, lx_r hl, lx_l hl, i_push, i_ild, i_ald, i_ist, i_ast, i_inc, i_bin, i_un, i_divs, i_i2l, i_lshl, i_lor, i_dup, i_dup2, i_pop, i_if, i_cmp, i_nul, i_vret, i_iret, i_zret, i_aret, i_keep, keep, lget, lset, ent, i_getI, i_getJ, i_getR, i_getN, i_putI, i_putZ, i_putJ, i_putR, i_iald, i_bald, i_alen, i_aald, i_iast, i_bast, i_aast, i_new, i_newa, i_anew, i_oini, i_callS, i_callV, i_callI, popn, sh4, i_sw, swP, i_copy, i_binS, List.map, Option.toList_none, Option.toList_some, List.append, List.nil_append, List.cons_append, List.length_cons, List.length_nil, List.replicate, Nat.sub_self, Nat.reduceSub, Nat.reduceAdd, hK_pI, hL_pI, hI_pI, hR_pI, hJ_pI, hT_pI, hS_pI, hK_pR, hL_pR, hI_pR, hR_pR, hJ_pR, hT_pR, hS_pR, hK_pJ, hL_pJ, hI_pJ, hR_pJ, hJ_pJ, hT_pJ, hS_pJ, hK_wI, hL_wI, hI_wI, hR_wI, hJ_wI, hT_wI, hS_wI, eq_self, and_true, true_and, and_false, false_and, or_true, true_or, or_false, false_or, if_true, if_false, not_true_eq_false, not_false_eq_true, forall_const, implies_true, false_implies, true_implies, Option.some.injEq, forall_eq', exists_eq_left', reduceCtorEq, Nat.reduceEqDiff, c1, T_X12_in, T_X12_ones, T_X11_within, T_X11_bit, T_X11_isIn, T_X11_oneIfIn, T_J6_bitCount_0f7a4, hst, h12]
    exact hgo
  · exact hT.elim
