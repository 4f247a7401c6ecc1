def uT (x : Int32) : Nat := x.toBitVec.toNat
theorem uT_inj {x y : Int32} (h : uT x = uT y) : x = y := Int32.toBitVec_inj.mp (BitVec.eq_of_toNat_eq h)
theorem uT_lt (x : Int32) : uT x < 2 ^ 32 := x.toBitVec.isLt
theorem uT_and (x y : Int32) : uT (x &&& y) = uT x &&& uT y := by unfold uT; rw [Int32.toBitVec_and, BitVec.toNat_and]
theorem uT_sub {x y : Int32} (h : uT y ≤ uT x) : uT (x - y) = uT x - uT y := by
  have h1 := uT_lt x
  have h2 := uT_lt y
  unfold uT at *
  rw [Int32.toBitVec_sub, BitVec.toNat_sub]
  omega
theorem uT_add {x y : Int32} (h : uT x + uT y < 2 ^ 32) : uT (x + y) = uT x + uT y := by
  unfold uT at *
  rw [Int32.toBitVec_add, BitVec.toNat_add, Nat.mod_eq_of_lt h]
theorem uT_sh1 (x : Int32) : uT (x.toUInt32 >>> ((1 : Int32).toUInt32 &&& Int32.toUInt32 31)).toInt32 = uT x / 2 := pk_ushr x 1 1 (by decide)
theorem uT_sh2 (x : Int32) : uT (x.toUInt32 >>> ((2 : Int32).toUInt32 &&& Int32.toUInt32 31)).toInt32 = uT x / 4 := pk_ushr x 2 2 (by decide)
theorem uT_sh4 (x : Int32) : uT (x.toUInt32 >>> ((4 : Int32).toUInt32 &&& Int32.toUInt32 31)).toInt32 = uT x / 16 := pk_ushr x 4 4 (by decide)
theorem uT_sh8 (x : Int32) : uT (x.toUInt32 >>> ((8 : Int32).toUInt32 &&& Int32.toUInt32 31)).toInt32 = uT x / 256 := pk_ushr x 8 8 (by decide)
theorem uT_sh16 (x : Int32) : uT (x.toUInt32 >>> ((16 : Int32).toUInt32 &&& Int32.toUInt32 31)).toInt32 = uT x / 65536 := pk_ushr x 16 16 (by decide)
theorem uT_nI {n : Nat} (h : n < 2 ^ 32) : uT (nI n) = n := pk_tn h
def T_J6_bitCount_0f7a4 : Tr := fun av h Q => match av with
  | [.int b] => Q (some (.int (nI (pct b)))) h
  | _ => False
def L_J6_bitCount_0f7a4 : List UInt8 := [26, 26, 4, 124, 19, 1, 9, 126, 100, 59, 26, 19, 1, 10, 126, 26, 5, 124, 19, 1, 10, 126, 96, 59, 26, 26, 7, 124, 96, 19, 1, 11, 126, 59, 26, 26, 16, 8, 124, 96, 59, 26, 26, 16, 16, 124, 96, 59, 26, 16, 63, 126, 172]
theorem Lc_J6_bitCount_0f7a4 : MJ6_bitCount_0f7a4.2.1 = ⟨L_J6_bitCount_0f7a4.toArray⟩ := rfl
theorem D_J6_bitCount_0f7a4_0 : dseq MJ6_bitCount_0f7a4.2.1 0 [(.iload_n 0, 1), (.iload_n 0, 1), (.iconst 1, 1), (.iushr, 1), (.ldc_w 265, 3), (.iand, 1), (.isub, 1), (.istore_n 0, 1), (.iload_n 0, 1), (.ldc_w 266, 3), (.iand, 1), (.iload_n 0, 1), (.iconst 2, 1), (.iushr, 1), (.ldc_w 266, 3), (.iand, 1), (.iadd, 1), (.istore_n 0, 1), (.iload_n 0, 1), (.iload_n 0, 1), (.iconst 4, 1), (.iushr, 1), (.iadd, 1), (.ldc_w 267, 3), (.iand, 1), (.istore_n 0, 1), (.iload_n 0, 1), (.iload_n 0, 1), (.bipush 8, 2), (.iushr, 1), (.iadd, 1), (.istore_n 0, 1), (.iload_n 0, 1), (.iload_n 0, 1), (.bipush 16, 2), (.iushr, 1), (.iadd, 1), (.istore_n 0, 1), (.iload_n 0, 1), (.bipush 63, 2), (.iand, 1), (.ireturn, 1)] := dq Lc_J6_bitCount_0f7a4 0 _ (by decide +kernel)
def b_J6_bitCount_0f7a4_0 (Q : Option Value → Hp → Prop) : Kt := i_ild 0 (i_ild 0 (i_push (.int 1) (i_bin (fun x y => (x.toUInt32 >>> (y.toUInt32 &&& Int32.toUInt32 31)).toInt32) (i_push (.int 1431655765) (i_bin (fun x y => x &&& y) (i_bin (fun x y => x - y) (i_ist 0 (i_ild 0 (i_push (.int 858993459) (i_bin (fun x y => x &&& y) (i_ild 0 (i_push (.int 2) (i_bin (fun x y => (x.toUInt32 >>> (y.toUInt32 &&& Int32.toUInt32 31)).toInt32) (i_push (.int 858993459) (i_bin (fun x y => x &&& y) (i_bin (fun x y => x + y) (i_ist 0 (i_ild 0 (i_ild 0 (i_push (.int 4) (i_bin (fun x y => (x.toUInt32 >>> (y.toUInt32 &&& Int32.toUInt32 31)).toInt32) (i_bin (fun x y => x + y) (i_push (.int 252645135) (i_bin (fun x y => x &&& y) (i_ist 0 (i_ild 0 (i_ild 0 (i_push (.int 8) (i_bin (fun x y => (x.toUInt32 >>> (y.toUInt32 &&& Int32.toUInt32 31)).toInt32) (i_bin (fun x y => x + y) (i_ist 0 (i_ild 0 (i_ild 0 (i_push (.int 16) (i_bin (fun x y => (x.toUInt32 >>> (y.toUInt32 &&& Int32.toUInt32 31)).toInt32) (i_bin (fun x y => x + y) (i_ist 0 (i_ild 0 (i_push (.int 63) (i_bin (fun x y => x &&& y) (i_iret Q)))))))))))))))))))))))))))))))))))))))))
set_option maxRecDepth 100000 in
theorem s_J6_bitCount_0f7a4_0 (Q : Option Value → Hp → Prop) : ∀ A st h, b_J6_bitCount_0f7a4_0 Q A st h → wp 0 MJ6_bitCount_0f7a4 Q 0 A st h := (q1 (s_ildn (n := 0) (i := 0) rfl) D_J6_bitCount_0f7a4_0 fun D => (q1 (s_ildn (n := 0) (i := 0) rfl) D fun D => (q1 (s_iconst (n := 1) (v := 1) (by decide)) D fun D => (q1 s_ushr D fun D => (qC (s_ldcw (v := 1431655765) (ch_3_9_ok.2.2.2.2.2.2.1.1 rfl)) rfl D fun D => (q1 s_and D fun D => (q1 s_sub D fun D => (qL (s_istn (n := 0) (i := 0) rfl) (by decide) D fun D => (q1 (s_ildn (n := 0) (i := 0) rfl) D fun D => (qC (s_ldcw (v := 858993459) (ch_3_9_ok.2.2.2.2.2.2.2.1.1 rfl)) rfl D fun D => (q1 s_and D fun D => (q1 (s_ildn (n := 0) (i := 0) rfl) D fun D => (q1 (s_iconst (n := 2) (v := 2) (by decide)) D fun D => (q1 s_ushr D fun D => (qC (s_ldcw (v := 858993459) (ch_3_9_ok.2.2.2.2.2.2.2.1.1 rfl)) rfl D fun D => (q1 s_and D fun D => (q1 s_add D fun D => (qL (s_istn (n := 0) (i := 0) rfl) (by decide) D fun D => (q1 (s_ildn (n := 0) (i := 0) rfl) D fun D => (q1 (s_ildn (n := 0) (i := 0) rfl) D fun D => (q1 (s_iconst (n := 4) (v := 4) (by decide)) D fun D => (q1 s_ushr D fun D => (q1 s_add D fun D => (qC (s_ldcw (v := 252645135) (ch_3_9_ok.2.2.2.2.2.2.2.2.1.1 rfl)) rfl D fun D => (q1 s_and D fun D => (qL (s_istn (n := 0) (i := 0) rfl) (by decide) D fun D => (q1 (s_ildn (n := 0) (i := 0) rfl) D fun D => (q1 (s_ildn (n := 0) (i := 0) rfl) D fun D => (q1 (s_bipush (n := 8) (v := 8) (by decide)) D fun D => (q1 s_ushr D fun D => (q1 s_add D fun D => (qL (s_istn (n := 0) (i := 0) rfl) (by decide) D fun D => (q1 (s_ildn (n := 0) (i := 0) rfl) D fun D => (q1 (s_ildn (n := 0) (i := 0) rfl) D fun D => (q1 (s_bipush (n := 16) (v := 16) (by decide)) D fun D => (q1 s_ushr D fun D => (q1 s_add D fun D => (qL (s_istn (n := 0) (i := 0) rfl) (by decide) D fun D => (q1 (s_ildn (n := 0) (i := 0) rfl) D fun D => (q1 (s_bipush (n := 63) (v := 63) (by decide)) D fun D => (q1 s_and D fun D => (qI rfl D))))))))))))))))))))))))))))))))))))))))))

theorem bc_eq (x y z w v u : Int32) (hy : y = x - ((x.toUInt32 >>> ((1 : Int32).toUInt32 &&& Int32.toUInt32 31)).toInt32 &&& 1431655765)) (hz : z = (y &&& 858993459) + ((y.toUInt32 >>> ((2 : Int32).toUInt32 &&& Int32.toUInt32 31)).toInt32 &&& 858993459)) (hw : w = (z + (z.toUInt32 >>> ((4 : Int32).toUInt32 &&& Int32.toUInt32 31)).toInt32) &&& 252645135)
    (hv : v = w + (w.toUInt32 >>> ((8 : Int32).toUInt32 &&& Int32.toUInt32 31)).toInt32) (hu : u = v + (v.toUInt32 >>> ((16 : Int32).toUInt32 &&& Int32.toUInt32 31)).toInt32) : u &&& 63 = nI (pct x) := by
  obtain ⟨y', z', w', e1, e2, e3, e4, e5, e6, e7, e8⟩ := swar (uT_lt x)
  have c1 : uT 1431655765 = 1431655765 := by decide +kernel
  have c2 : uT 858993459 = 858993459 := by decide +kernel
  have c3 : uT 252645135 = 252645135 := by decide +kernel
  have c4 : uT 63 = 63 := by decide +kernel
  have fy : uT y = y' := by rw [hy, uT_sub (by rw [uT_and, uT_sh1, c1]; exact e2), uT_and, uT_sh1, c1, e1]
  have hy32 := uT_lt y
  have fz : uT z = z' := by
    have hlt : uT (y &&& 858993459) + uT ((y.toUInt32 >>> ((2 : Int32).toUInt32 &&& Int32.toUInt32 31)).toInt32 &&& 858993459) < 2 ^ 32 := by
      rw [uT_and, uT_and, uT_sh2, c2, fy, ← e3]; omega
    rw [hz, uT_add hlt, uT_and, uT_and, uT_sh2, c2, fy, ← e3]
  have fw : uT w = w' := by
    have hlt : uT z + uT (z.toUInt32 >>> ((4 : Int32).toUInt32 &&& Int32.toUInt32 31)).toInt32 < 2 ^ 32 := by rw [uT_sh4, fz]; exact e6
    rw [hw, uT_and, uT_add hlt, uT_sh4, c3, fz, e5]
  have fv : uT v = w' + w' / 256 := by
    have hlt : uT w + uT (w.toUInt32 >>> ((8 : Int32).toUInt32 &&& Int32.toUInt32 31)).toInt32 < 2 ^ 32 := by rw [uT_sh8, fw]; omega
    rw [hv, uT_add hlt, uT_sh8, fw]
  have fu : uT u = w' + w' / 256 + (w' + w' / 256) / 65536 := by
    have hlt : uT v + uT (v.toUInt32 >>> ((16 : Int32).toUInt32 &&& Int32.toUInt32 31)).toInt32 < 2 ^ 32 := by rw [uT_sh16, fv]; omega
    rw [hu, uT_add hlt, uT_sh16, fv]
  apply uT_inj
  have hp := pct_le x
  rw [uT_nI (by omega), uT_and, c4, fu]
  show _ &&& (2 ^ 6 - 1) = _
  rw [Nat.and_two_pow_sub_one_eq_mod]
  exact e8
set_option maxRecDepth 100000 in
set_option maxHeartbeats 4000000 in
theorem ok_J6_bitCount_0f7a4 : ctr 0 MJ6_bitCount_0f7a4 T_J6_bitCount_0f7a4 := by
  refine ctr_of pn_J6 wc_J6_bitCount_0f7a4 (fun av h Q hT => ?_)
  unfold T_J6_bitCount_0f7a4 at hT
  split at hT
  · rename_i b
    refine ⟨⟨by simp [Value.category], Nat.le_of_ble_eq_true rfl⟩, s_J6_bitCount_0f7a4_0 Q _ _ _ ?_⟩
    simp only [MJ6_bitCount_0f7a4, b_J6_bitCount_0f7a4_0, i_push, i_ild, i_ald, i_ist, i_ast, i_inc, i_bin, i_un, i_divs, i_i2l, i_lshl, i_lor, i_dup, i_dup2, i_pop, i_if, i_cmp, i_nul, i_vret, i_iret, i_zret, i_aret, i_keep, keep, lget, lset, ent, i_getI, i_getJ, i_getR, i_getN, i_putI, i_putZ, i_putJ, i_putR, i_iald, i_bald, i_alen, i_aald, i_iast, i_bast, i_aast, i_new, i_newa, i_anew, i_oini, i_callS, i_callV, i_callI, popn, sh4, i_sw, swP, i_copy, i_binS, List.map, Option.toList_none, Option.toList_some, List.append, List.nil_append, List.cons_append, List.length_cons, List.length_nil, List.replicate, Nat.sub_self, Nat.reduceSub, Nat.reduceAdd, hK_pI, hL_pI, hI_pI, hR_pI, hJ_pI, hT_pI, hS_pI, hK_pR, hL_pR, hI_pR, hR_pR, hJ_pR, hT_pR, hS_pR, hK_pJ, hL_pJ, hI_pJ, hR_pJ, hJ_pJ, hT_pJ, hS_pJ, hK_wI, hL_wI, hI_wI, hR_wI, hJ_wI, hT_wI, hS_wI, eq_self, and_true, true_and, and_false, false_and, or_true, true_or, or_false, false_or, if_true, if_false, not_true_eq_false, not_false_eq_true, forall_const, implies_true, false_implies, true_implies, Option.some.injEq, forall_eq', exists_eq_left', reduceCtorEq, Nat.reduceEqDiff, c1]
    rw [bc_eq b _ _ _ _ _ rfl rfl rfl rfl rfl]
    exact hT
  · exact hT.elim
