/-! ===== the reference: THE ORDER ===== -/
/-- where one goes behind the last that isn't behind it -/
noncomputable def posF (ah : Nat → Prop) : Nat → Nat
  | 0 => 0
  | n + 1 => cif (ah n) (posF ah n) (n + 1)
theorem posF_le (ah : Nat → Prop) : ∀ n, posF ah n ≤ n
  | 0 => Nat.le_refl _
  | n + 1 => by
    show cif _ _ _ ≤ _
    rcases Classical.em (ah n) with q | q
    · rw [cif_t q]; have := posF_le ah n; omega
    · rw [cif_f q]; exact Nat.le_refl _
theorem posF_t {ah : Nat → Prop} {n : Nat} (h : ah n) : posF ah (n + 1) = posF ah n := cif_t h
theorem posF_f {ah : Nat → Prop} {n : Nat} (h : ¬ ah n) : posF ah (n + 1) = n + 1 := cif_f h
/-- p stands ahead of q: by points, by TURNED, by numbers -/
def ahd (sc tu : Nat → Int32) (p q : Nat) : Prop := if sc p = sc q then (if tu p = tu q then p < q else tu q < tu p) else sc q < sc p
def insO (o : Nat → Nat) (k p : Nat) : Nat → Nat := fun j => if j < k then o j else if j = k then p else o (j - 1)
def L_X12_makeOrder : List UInt8 := [42, 3, 181, 1, 26, 3, 62, 29, 42, 180, 0, 32, 3, 46, 162, 0, 160, 42, 180, 0, 110, 29, 2, 79, 42, 180, 0, 113, 29, 2, 79, 27, 29, 122, 4, 126, 154, 0, 6, 167, 0, 129, 42, 180, 0, 141, 29, 42, 29, 28, 182, 1, 29, 79, 42, 180, 0, 59, 29, 46, 4, 159, 0, 15, 42, 180, 0, 141, 29, 46, 19, 1, 25, 160, 0, 27, 42, 180, 0, 110, 29, 42, 180, 0, 59, 29, 46, 4, 160, 0, 7, 4, 167, 0, 4, 5, 79, 167, 0, 71, 42, 180, 1, 26, 54, 4, 21, 4, 158, 0, 42, 42, 29, 42, 180, 0, 138, 21, 4, 4, 100, 46, 182, 1, 33, 153, 0, 25, 42, 180, 0, 138, 21, 4, 42, 180, 0, 138, 21, 4, 4, 100, 46, 79, 132, 4, 255, 167, 255, 215, 42, 180, 0, 138, 21, 4, 29, 79, 42, 89, 180, 1, 26, 4, 96, 181, 1, 26, 132, 3, 1, 167, 255, 92, 3, 62, 29, 42, 180, 1, 26, 162, 0, 21, 42, 180, 0, 113, 42, 180, 0, 138, 29, 46, 29, 79, 132, 3, 1, 167, 255, 233, 177]
theorem Lc_X12_makeOrder : MX12_makeOrder.2.1 = ⟨L_X12_makeOrder.toArray⟩ := rfl
theorem D_X12_makeOrder_0 : dseq MX12_makeOrder.2.1 0 [(.aload_n 0, 1), (.iconst 0, 1), (.putfield 282, 3), (.iconst 0, 1), (.istore_n 3, 1)] := dq Lc_X12_makeOrder 0 _ (by decide +kernel)
theorem D_X12_makeOrder_7 : dseq MX12_makeOrder.2.1 7 [(.iload_n 3, 1), (.aload_n 0, 1), (.getfield 32, 3), (.iconst 0, 1), (.iaload, 1), (.if_icmp .ge 160, 3), (.aload_n 0, 1), (.getfield 110, 3), (.iload_n 3, 1), (.iconst (-1), 1), (.iastore, 1), (.aload_n 0, 1), (.getfield 113, 3), (.iload_n 3, 1), (.iconst (-1), 1), (.iastore, 1), (.iload_n 1, 1), (.iload_n 3, 1), (.ishr, 1), (.iconst 1, 1), (.iand, 1), (.ifCond .ne 6, 3), (.goto 129, 3)] := dq Lc_X12_makeOrder 7 _ (by decide +kernel)
theorem D_X12_makeOrder_174 : dseq MX12_makeOrder.2.1 174 [(.iconst 0, 1), (.istore_n 3, 1)] := dq Lc_X12_makeOrder 174 _ (by decide +kernel)
theorem D_X12_makeOrder_42 : dseq MX12_makeOrder.2.1 42 [(.aload_n 0, 1), (.getfield 141, 3), (.iload_n 3, 1), (.aload_n 0, 1), (.iload_n 3, 1), (.iload_n 2, 1), (.invokevirtual 285, 3), (.iastore, 1), (.aload_n 0, 1), (.getfield 59, 3), (.iload_n 3, 1), (.iaload, 1), (.iconst 1, 1), (.if_icmp .eq 15, 3), (.aload_n 0, 1), (.getfield 141, 3), (.iload_n 3, 1), (.iaload, 1), (.ldc_w 281, 3), (.if_icmp .ne 27, 3)] := dq Lc_X12_makeOrder 42 _ (by decide +kernel)
theorem D_X12_makeOrder_100 : dseq MX12_makeOrder.2.1 100 [(.aload_n 0, 1), (.getfield 282, 3), (.istore 4, 2)] := dq Lc_X12_makeOrder 100 _ (by decide +kernel)
theorem D_X12_makeOrder_76 : dseq MX12_makeOrder.2.1 76 [(.aload_n 0, 1), (.getfield 110, 3), (.iload_n 3, 1), (.aload_n 0, 1), (.getfield 59, 3), (.iload_n 3, 1), (.iaload, 1), (.iconst 1, 1), (.if_icmp .ne 7, 3), (.iconst 1, 1), (.goto 4, 3)] := dq Lc_X12_makeOrder 76 _ (by decide +kernel)
theorem D_X12_makeOrder_95 : dseq MX12_makeOrder.2.1 95 [(.iconst 2, 1)] := dq Lc_X12_makeOrder 95 _ (by decide +kernel)
theorem D_X12_makeOrder_96 : dseq MX12_makeOrder.2.1 96 [(.iastore, 1), (.goto 71, 3)] := dq Lc_X12_makeOrder 96 _ (by decide +kernel)
theorem D_X12_makeOrder_106 : dseq MX12_makeOrder.2.1 106 [(.iload 4, 2), (.ifCond .le 42, 3), (.aload_n 0, 1), (.iload_n 3, 1), (.aload_n 0, 1), (.getfield 138, 3), (.iload 4, 2), (.iconst 1, 1), (.isub, 1), (.iaload, 1), (.invokevirtual 289, 3), (.ifCond .eq 25, 3), (.aload_n 0, 1), (.getfield 138, 3), (.iload 4, 2), (.aload_n 0, 1), (.getfield 138, 3), (.iload 4, 2), (.iconst 1, 1), (.isub, 1), (.iaload, 1), (.iastore, 1), (.iinc 4 (-1), 3), (.goto (-41), 3)] := dq Lc_X12_makeOrder 106 _ (by decide +kernel)
theorem D_X12_makeOrder_150 : dseq MX12_makeOrder.2.1 150 [(.aload_n 0, 1), (.getfield 138, 3), (.iload 4, 2), (.iload_n 3, 1), (.iastore, 1), (.aload_n 0, 1), (.dup, 1), (.getfield 282, 3), (.iconst 1, 1), (.iadd, 1), (.putfield 282, 3)] := dq Lc_X12_makeOrder 150 _ (by decide +kernel)
theorem D_X12_makeOrder_168 : dseq MX12_makeOrder.2.1 168 [(.iinc 3 1, 3), (.goto (-164), 3)] := dq Lc_X12_makeOrder 168 _ (by decide +kernel)
theorem D_X12_makeOrder_176 : dseq MX12_makeOrder.2.1 176 [(.iload_n 3, 1), (.aload_n 0, 1), (.getfield 282, 3), (.if_icmp .ge 21, 3), (.aload_n 0, 1), (.getfield 113, 3), (.aload_n 0, 1), (.getfield 138, 3), (.iload_n 3, 1), (.iaload, 1), (.iload_n 3, 1), (.iastore, 1), (.iinc 3 1, 3), (.goto (-23), 3)] := dq Lc_X12_makeOrder 176 _ (by decide +kernel)
theorem D_X12_makeOrder_202 : dseq MX12_makeOrder.2.1 202 [(.return_, 1)] := dq Lc_X12_makeOrder 202 _ (by decide +kernel)
def c_X12_makeOrder_53 (Q : Option Value → Hp → Prop) : Kt := i_iast (i_ald 0 (i_getR 12 18 (i_ild 3 (i_iald (i_push (.int 1) (i_cmp (fun x y => x = y) (i_keep [true, true, true, true, false] (wp 4 MX12_makeOrder Q 76)) (i_ald 0 (i_getR 12 55 (i_ild 3 (i_iald (i_push (.int (-2000000000)) (i_cmp (fun x y => x = y) (i_keep [true, true, true, true, false] (wp 4 MX12_makeOrder Q 76)) (i_ald 0 (i_getI 12 53 (i_ist 4 (i_keep [true, true, true, true, true] (wp 4 MX12_makeOrder Q 106)))))))))))))))))
def c_X12_makeOrder_125 (Q : Option Value → Hp → Prop) : Kt := i_if (fun x => x = 0) (i_keep [true, true, true, true, true] (wp 4 MX12_makeOrder Q 150)) (i_ald 0 (i_getR 12 54 (i_ild 4 (i_ald 0 (i_getR 12 54 (i_ild 4 (i_push (.int 1) (i_bin (fun x y => x - y) (i_iald (i_iast (i_inc 4 (-1) (i_keep [true, true, true, true, true] (wp 4 MX12_makeOrder Q 106)))))))))))))
def b_X12_makeOrder_0 (Q : Option Value → Hp → Prop) : Kt := i_ald 0 (i_push (.int 0) (i_putI 12 53 (i_push (.int 0) (i_ist 3 (i_keep [true, true, true, true, false] (wp 4 MX12_makeOrder Q 7))))))
set_option maxRecDepth 100000 in
theorem s_X12_makeOrder_0 (Q : Option Value → Hp → Prop) : ∀ A st h, b_X12_makeOrder_0 Q A st h → wp 4 MX12_makeOrder Q 0 A st h := (q1 (s_aldn (n := 0) (i := 0) rfl) D_X12_makeOrder_0 fun D => (q1 (s_iconst (n := 0) (v := 0) (by decide)) D fun D => (qP pl_X12_282 rfl (Or.inl rfl) D fun D => (q1 (s_iconst (n := 0) (v := 0) (by decide)) D fun D => (qL (s_istn (n := 3) (i := 3) rfl) (by decide) D fun D => (s_keep [true, true, true, true, false] fun _ _ _ h => h))))))
def b_X12_makeOrder_7 (Q : Option Value → Hp → Prop) : Kt := i_ild 3 (i_ald 0 (i_getR 12 9 (i_push (.int 0) (i_iald (i_cmp (fun x y => y ≤ x) (i_push (.int 0) (i_ist 3 (i_keep [true, false, false, true, false] (wp 4 MX12_makeOrder Q 176)))) (i_ald 0 (i_getR 12 35 (i_ild 3 (i_push (.int (-1)) (i_iast (i_ald 0 (i_getR 12 36 (i_ild 3 (i_push (.int (-1)) (i_iast (i_ild 1 (i_ild 3 (i_bin (fun x y => x >>> (y &&& 31)) (i_push (.int 1) (i_bin (fun x y => x &&& y) (i_if (fun x => x = 0) (i_keep [true, true, true, true, false] (wp 4 MX12_makeOrder Q 168)) (i_ald 0 (i_getR 12 55 (i_ild 3 (i_ald 0 (i_ild 3 (i_ild 2 (i_callV 12 2 T_X12_pointsOf (c_X12_makeOrder_53 Q)))))))))))))))))))))))))))))
set_option maxRecDepth 100000 in
theorem s_X12_makeOrder_7 (Q : Option Value → Hp → Prop) : ∀ A st h, b_X12_makeOrder_7 Q A st h → wp 4 MX12_makeOrder Q 7 A st h := (q1 (s_ildn (n := 3) (i := 3) rfl) D_X12_makeOrder_7 fun D => (q1 (s_aldn (n := 0) (i := 0) rfl) D fun D => (qC fl_X12_32 rfl D fun D => (q1 (s_iconst (n := 0) (v := 0) (by decide)) D fun D => (q1 s_iald D fun D => (qB s_cmpge 174 (by decide) D (q1 (s_iconst (n := 0) (v := 0) (by decide)) D_X12_makeOrder_174 fun D => (qL (s_istn (n := 3) (i := 3) rfl) (by decide) D fun D => (s_keep [true, false, false, true, false] fun _ _ _ h => h))) fun D => (q1 (s_aldn (n := 0) (i := 0) rfl) D fun D => (qC fl_X12_110 rfl D fun D => (q1 (s_ildn (n := 3) (i := 3) rfl) D fun D => (q1 (s_iconst (n := (-1)) (v := (-1)) (by decide)) D fun D => (q1 s_iast D fun D => (q1 (s_aldn (n := 0) (i := 0) rfl) D fun D => (qC fl_X12_113 rfl D fun D => (q1 (s_ildn (n := 3) (i := 3) rfl) D fun D => (q1 (s_iconst (n := (-1)) (v := (-1)) (by decide)) D fun D => (q1 s_iast D fun D => (q1 (s_ildn (n := 1) (i := 1) rfl) D fun D => (q1 (s_ildn (n := 3) (i := 3) rfl) D fun D => (q1 s_shr D fun D => (q1 (s_iconst (n := 1) (v := 1) (by decide)) D fun D => (q1 s_and D fun D => (qBn s_ifne2 42 (by decide) D (q1 (s_aldn (n := 0) (i := 0) rfl) D_X12_makeOrder_42 fun D => (qC fl_X12_141 rfl D fun D => (q1 (s_ildn (n := 3) (i := 3) rfl) D fun D => (q1 (s_aldn (n := 0) (i := 0) rfl) D fun D => (q1 (s_ildn (n := 3) (i := 3) rfl) D fun D => (q1 (s_ildn (n := 2) (i := 2) rfl) D fun D => (qX (s_callV kX12 rfl ok_X12_pointsOf mo_X12_pointsOf (ch_6_5_ok.2.2.1.1 rfl) (ch_6_5_ok.2.2.2.2.1.1 rfl) (pv_3.2.1)) rfl (by decide) D fun D => (q1 s_iast D fun D => (q1 (s_aldn (n := 0) (i := 0) rfl) D fun D => (qC fl_X12_59 rfl D fun D => (q1 (s_ildn (n := 3) (i := 3) rfl) D fun D => (q1 s_iald D fun D => (q1 (s_iconst (n := 1) (v := 1) (by decide)) D fun D => (qB s_cmpeq 76 (by decide) D (s_keep [true, true, true, true, false] fun _ _ _ h => h) fun D => (q1 (s_aldn (n := 0) (i := 0) rfl) D fun D => (qC fl_X12_141 rfl D fun D => (q1 (s_ildn (n := 3) (i := 3) rfl) D fun D => (q1 s_iald D fun D => (qC (s_ldcw (v := (-2000000000)) (ch_6_6_ok.2.2.1.1 rfl)) rfl D fun D => (qBn s_cmpne2 100 (by decide) D (q1 (s_aldn (n := 0) (i := 0) rfl) D_X12_makeOrder_100 fun D => (qC fl_X12_282 rfl D fun D => (qL s_ist (by decide) D fun D => (s_keep [true, true, true, true, true] fun _ _ _ h => h)))) fun D => (s_keep [true, true, true, true, false] fun _ _ _ h => h))))))))))))))))))))) fun D => (qG 168 (by decide) D (s_keep [true, true, true, true, false] fun _ _ _ h => h))))))))))))))))))))))))
def b_X12_makeOrder_76 (Q : Option Value → Hp → Prop) : Kt := i_ald 0 (i_getR 12 35 (i_ild 3 (i_ald 0 (i_getR 12 18 (i_ild 3 (i_iald (i_push (.int 1) (i_cmp (fun x y => x = y) (i_push (.int 1) (i_keep [true, true, true, true, false] (wp 4 MX12_makeOrder Q 96))) (i_push (.int 2) (i_keep [true, true, true, true, false] (wp 4 MX12_makeOrder Q 96)))))))))))
set_option maxRecDepth 100000 in
theorem s_X12_makeOrder_76 (Q : Option Value → Hp → Prop) : ∀ A st h, b_X12_makeOrder_76 Q A st h → wp 4 MX12_makeOrder Q 76 A st h := (q1 (s_aldn (n := 0) (i := 0) rfl) D_X12_makeOrder_76 fun D => (qC fl_X12_110 rfl D fun D => (q1 (s_ildn (n := 3) (i := 3) rfl) D fun D => (q1 (s_aldn (n := 0) (i := 0) rfl) D fun D => (qC fl_X12_59 rfl D fun D => (q1 (s_ildn (n := 3) (i := 3) rfl) D fun D => (q1 s_iald D fun D => (q1 (s_iconst (n := 1) (v := 1) (by decide)) D fun D => (qBn s_cmpne2 95 (by decide) D (q1 (s_iconst (n := 2) (v := 2) (by decide)) D_X12_makeOrder_95 fun D => (s_keep [true, true, true, true, false] fun _ _ _ h => h)) fun D => (q1 (s_iconst (n := 1) (v := 1) (by decide)) D fun D => (qG 96 (by decide) D (s_keep [true, true, true, true, false] fun _ _ _ h => h))))))))))))
def b_X12_makeOrder_96 (Q : Option Value → Hp → Prop) : Kt := i_iast (i_keep [true, true, true, true, false] (wp 4 MX12_makeOrder Q 168))
set_option maxRecDepth 100000 in
theorem s_X12_makeOrder_96 (Q : Option Value → Hp → Prop) : ∀ A st h, b_X12_makeOrder_96 Q A st h → wp 4 MX12_makeOrder Q 96 A st h := (q1 s_iast D_X12_makeOrder_96 fun D => (qG 168 (by decide) D (s_keep [true, true, true, true, false] fun _ _ _ h => h)))
def b_X12_makeOrder_106 (Q : Option Value → Hp → Prop) : Kt := i_ild 4 (i_if (fun x => x ≤ 0) (i_keep [true, true, true, true, true] (wp 4 MX12_makeOrder Q 150)) (i_ald 0 (i_ild 3 (i_ald 0 (i_getR 12 54 (i_ild 4 (i_push (.int 1) (i_bin (fun x y => x - y) (i_iald (i_callV 12 2 T_X12_isAhead (c_X12_makeOrder_125 Q)))))))))))
set_option maxRecDepth 100000 in
theorem s_X12_makeOrder_106 (Q : Option Value → Hp → Prop) : ∀ A st h, b_X12_makeOrder_106 Q A st h → wp 4 MX12_makeOrder Q 106 A st h := (q1 s_ild D_X12_makeOrder_106 fun D => (qB s_ifle 150 (by decide) D (s_keep [true, true, true, true, true] fun _ _ _ h => h) fun D => (q1 (s_aldn (n := 0) (i := 0) rfl) D fun D => (q1 (s_ildn (n := 3) (i := 3) rfl) D fun D => (q1 (s_aldn (n := 0) (i := 0) rfl) D fun D => (qC fl_X12_138 rfl D fun D => (q1 s_ild D fun D => (q1 (s_iconst (n := 1) (v := 1) (by decide)) D fun D => (q1 s_sub D fun D => (q1 s_iald D fun D => (qX (s_callV kX12 rfl ok_X12_isAhead mo_X12_isAhead (ch_6_6_ok.2.2.2.1.1 rfl) (ch_6_6_ok.2.2.2.2.2.1.1 rfl) (pv_3.2.2.2.2.2.1)) rfl (by decide) D fun D => (qB s_ifeq 150 (by decide) D (s_keep [true, true, true, true, true] fun _ _ _ h => h) fun D => (q1 (s_aldn (n := 0) (i := 0) rfl) D fun D => (qC fl_X12_138 rfl D fun D => (q1 s_ild D fun D => (q1 (s_aldn (n := 0) (i := 0) rfl) D fun D => (qC fl_X12_138 rfl D fun D => (q1 s_ild D fun D => (q1 (s_iconst (n := 1) (v := 1) (by decide)) D fun D => (q1 s_sub D fun D => (q1 s_iald D fun D => (q1 s_iast D fun D => (qL (s_inc (i := 4) (n := (-1)) (v := (-1)) (by decide)) (by decide) D fun D => (qG 106 (by decide) D (s_keep [true, true, true, true, true] fun _ _ _ h => h)))))))))))))))))))))))))
def b_X12_makeOrder_150 (Q : Option Value → Hp → Prop) : Kt := i_ald 0 (i_getR 12 54 (i_ild 4 (i_ild 3 (i_iast (i_ald 0 (i_dup (i_getI 12 53 (i_push (.int 1) (i_bin (fun x y => x + y) (i_putI 12 53 (i_keep [true, true, true, true, false] (wp 4 MX12_makeOrder Q 168))))))))))))
set_option maxRecDepth 100000 in
theorem s_X12_makeOrder_150 (Q : Option Value → Hp → Prop) : ∀ A st h, b_X12_makeOrder_150 Q A st h → wp 4 MX12_makeOrder Q 150 A st h := (q1 (s_aldn (n := 0) (i := 0) rfl) D_X12_makeOrder_150 fun D => (qC fl_X12_138 rfl D fun D => (q1 s_ild D fun D => (q1 (s_ildn (n := 3) (i := 3) rfl) D fun D => (q1 s_iast D fun D => (q1 (s_aldn (n := 0) (i := 0) rfl) D fun D => (q1 s_dup D fun D => (qC fl_X12_282 rfl D fun D => (q1 (s_iconst (n := 1) (v := 1) (by decide)) D fun D => (q1 s_add D fun D => (qP pl_X12_282 rfl (Or.inl rfl) D fun D => (s_keep [true, true, true, true, false] fun _ _ _ h => h))))))))))))
def b_X12_makeOrder_168 (Q : Option Value → Hp → Prop) : Kt := i_inc 3 1 (i_keep [true, true, true, true, false] (wp 4 MX12_makeOrder Q 7))
set_option maxRecDepth 100000 in
theorem s_X12_makeOrder_168 (Q : Option Value → Hp → Prop) : ∀ A st h, b_X12_makeOrder_168 Q A st h → wp 4 MX12_makeOrder Q 168 A st h := (qL (s_inc (i := 3) (n := 1) (v := 1) (by decide)) (by decide) D_X12_makeOrder_168 fun D => (qG 7 (by decide) D (s_keep [true, true, true, true, false] fun _ _ _ h => h)))
def b_X12_makeOrder_176 (Q : Option Value → Hp → Prop) : Kt := i_ild 3 (i_ald 0 (i_getI 12 53 (i_cmp (fun x y => y ≤ x) (i_vret Q) (i_ald 0 (i_getR 12 36 (i_ald 0 (i_getR 12 54 (i_ild 3 (i_iald (i_ild 3 (i_iast (i_inc 3 1 (i_keep [true, false, false, true, false] (wp 4 MX12_makeOrder Q 176))))))))))))))
set_option maxRecDepth 100000 in
theorem s_X12_makeOrder_176 (Q : Option Value → Hp → Prop) : ∀ A st h, b_X12_makeOrder_176 Q A st h → wp 4 MX12_makeOrder Q 176 A st h := (q1 (s_ildn (n := 3) (i := 3) rfl) D_X12_makeOrder_176 fun D => (q1 (s_aldn (n := 0) (i := 0) rfl) D fun D => (qC fl_X12_282 rfl D fun D => (qB s_cmpge 202 (by decide) D (qV rfl D_X12_makeOrder_202) fun D => (q1 (s_aldn (n := 0) (i := 0) rfl) D fun D => (qC fl_X12_113 rfl D fun D => (q1 (s_aldn (n := 0) (i := 0) rfl) D fun D => (qC fl_X12_138 rfl D fun D => (q1 (s_ildn (n := 3) (i := 3) rfl) D fun D => (q1 s_iald D fun D => (q1 (s_ildn (n := 3) (i := 3) rfl) D fun D => (q1 s_iast D fun D => (qL (s_inc (i := 3) (n := 1) (v := 1) (by decide)) (by decide) D fun D => (qG 176 (by decide) D (s_keep [true, false, false, true, false] fun _ _ _ h => h)))))))))))))))

set_option maxRecDepth 100000 in
theorem ahead_go (h : Hp) (hl : LayM h) (p q : Nat) (hp : p < 24) (hq : q < 24) (Q : Option Value → Hp → Prop) (h1 : ahd (hI h 87) (hI h 59) p q → Q (some (.int 1)) h) (h2 : ¬ ahd (hI h 87) (hI h 59) p q → Q (some (.int 0)) h) : T_X12_isAhead [.ref 44, .int (nI p), .int (nI q)] h Q := by
  unfold T_X12_isAhead
  simp only [b_X12_isAhead_0, hl, lay_pI, lay_wI, lay_pJ, lm_t hl, lm_k hl, lm_r hl, lm_l hl, i_push, i_ild, i_ald, i_ist, i_ast, i_inc, i_bin, i_un, i_divs, i_i2l, i_lshl, i_lor, i_dup, i_dup2, i_pop, i_if, i_cmp, i_nul, i_vret, i_iret, i_zret, i_aret, i_keep, keep, lget, lset, ent, i_getI, i_getJ, i_getR, i_getN, i_putI, i_putZ, i_putJ, i_putR, i_iald, i_bald, i_alen, i_aald, i_iast, i_bast, i_aast, i_new, i_newa, i_anew, i_oini, i_callS, i_callV, i_callI, popn, sh4, i_sw, swP, i_copy, i_binS, List.map, Option.toList_none, Option.toList_some, List.append, List.nil_append, List.cons_append, List.length_cons, List.length_nil, List.replicate, Nat.sub_self, Nat.reduceSub, Nat.reduceAdd, hK_pI, hL_pI, hI_pI, hR_pI, hJ_pI, hT_pI, hS_pI, hK_pR, hL_pR, hI_pR, hR_pR, hJ_pR, hT_pR, hS_pR, hK_pJ, hL_pJ, hI_pJ, hR_pJ, hJ_pJ, hT_pJ, hS_pJ, hK_wI, hL_wI, hI_wI, hR_wI, hJ_wI, hT_wI, hS_wI, eq_self, and_true, true_and, and_false, false_and, or_true, true_or, or_false, false_or, if_true, if_false, not_true_eq_false, not_false_eq_true, forall_const, implies_true, false_implies, true_implies, Option.some.injEq, forall_eq', exists_eq_left', reduceCtorEq, Nat.reduceEqDiff, c1, T_X12_in, T_X12_ones, T_X11_within, T_X11_bit, T_X11_isIn, T_X11_oneIfIn, T_J6_bitCount_0f7a4, cl_nI (show p < 2147483648 by omega), in_nI (show p < 24 by omega) (by decide), in_nI (show p < 96 by omega) (by decide), cl_nI (show q < 2147483648 by omega), in_nI (show q < 24 by omega) (by decide), in_nI (show q < 96 by omega) (by decide)]
  unfold ahd at h1 h2
  refine ⟨fun c => ?_, fun c => ?_⟩
  · rw [if_pos c] at h1 h2
    refine ⟨fun c2 => ?_, fun c2 => ?_⟩
    · rw [if_pos c2] at h1 h2
      refine ⟨fun c3 => h2 ?_, fun c3 => h1 ?_⟩
      · intro z; exact absurd c3 (nI_ge z (by omega))
      · rcases Nat.lt_or_ge p q with z | z
        · exact z
        · exact absurd (nI_le z (by omega)) c3
    · rw [if_neg c2] at h1 h2
      exact ⟨fun c3 => h2 (Int32.not_lt.mpr c3), fun c3 => h1 (Int32.not_le.mp c3)⟩
  · rw [if_neg c] at h1 h2
    exact ⟨fun c3 => h2 (Int32.not_lt.mpr c3), fun c3 => h1 (Int32.not_le.mp c3)⟩
/-- what the while loop has moved, from n down to k -/
def shf (f : Nat → Nat → Int32) (n k : Nat) : Nat → Nat → Int32 := fun a i => if a = 86 ∧ k < i ∧ i ≤ n then f 86 (i - 1) else f a i
theorem shf_0 (f : Nat → Nat → Int32) (n : Nat) : shf f n n = f := by
  funext a i
  unfold shf
  rw [if_neg (by omega)]
theorem shf_s (f : Nat → Nat → Int32) (n k : Nat) (hk : k < n) : u2 (shf f n (k + 1)) 86 (k + 1) (shf f n (k + 1) 86 k) = shf f n k := by
  funext a i
  show (if a = 86 ∧ i = k + 1 then shf f n (k + 1) 86 k else shf f n (k + 1) a i) = shf f n k a i
  have e0 : shf f n (k + 1) 86 k = f 86 k := by unfold shf; rw [if_neg (by omega)]
  rw [e0]
  by_cases e : a = 86 ∧ i = k + 1
  · rw [if_pos e]
    unfold shf
    rw [if_pos (by omega), show i - 1 = k by omega]
  · rw [if_neg e]
    unfold shf
    by_cases e2 : a = 86 ∧ k < i ∧ i ≤ n
    · rw [if_pos e2, if_pos (by omega)]
    · rw [if_neg e2, if_neg (by omega)]
set_option maxRecDepth 100000 in
theorem ord_106 (Q : Option Value → Hp → Prop) (h : Hp) (hl0 : LayM h) (f : Nat → Nat → Int32) (o : Nat → Nat) (door cold : Int32) (p n : Nat) (hp : p < 24) (hn : n < 24) (ho : ∀ j, j < n → o j < 24 ∧ f 86 j = nI (o j))
    (hout : wp 4 MX12_makeOrder Q 150 [some (.ref 44), some (.int door), some (.int cold), some (.int (nI p)), some (.int (nI (posF (fun j => ahd (f 87) (f 59) p (o j)) n)))] [] (wI h (shf f n (posF (fun j => ahd (f 87) (f 59) p (o j)) n)))) :
    ∀ (k : Nat), k ≤ n → posF (fun j => ahd (f 87) (f 59) p (o j)) n = posF (fun j => ahd (f 87) (f 59) p (o j)) k → wp 4 MX12_makeOrder Q 106 [some (.ref 44), some (.int door), some (.int cold), some (.int (nI p)), some (.int (nI k))] [] (wI h (shf f n k)) := by
  have h87 : ∀ k, shf f n k 87 = f 87 := fun k => by funext i; unfold shf; rw [if_neg (by omega)]
  have h59 : ∀ k, shf f n k 59 = f 59 := fun k => by funext i; unfold shf; rw [if_neg (by omega)]
  intro k
  induction k with
  | zero =>
    intro hk hpos
    have e0 : posF (fun j => ahd (f 87) (f 59) p (o j)) 0 = 0 := rfl
    rw [hpos, e0] at hout
    refine s_X12_makeOrder_106 Q _ _ _ ?_
    generalize hg : wI h (shf f n 0) = g at hout ⊢
    simp only [b_X12_makeOrder_106, i_push, i_ild, i_ald, i_ist, i_ast, i_inc, i_bin, i_un, i_divs, i_i2l, i_lshl, i_lor, i_dup, i_dup2, i_pop, i_if, i_cmp, i_nul, i_vret, i_iret, i_zret, i_aret, i_keep, keep, lget, lset, ent, i_getI, i_getJ, i_getR, i_getN, i_putI, i_putZ, i_putJ, i_putR, i_iald, i_bald, i_alen, i_aald, i_iast, i_bast, i_aast, i_new, i_newa, i_anew, i_oini, i_callS, i_callV, i_callI, popn, sh4, i_sw, swP, i_copy, i_binS, List.map, Option.toList_none, Option.toList_some, List.append, List.nil_append, List.cons_append, List.length_cons, List.length_nil, List.replicate, Nat.sub_self, Nat.reduceSub, Nat.reduceAdd, hK_pI, hL_pI, hI_pI, hR_pI, hJ_pI, hT_pI, hS_pI, hK_pR, hL_pR, hI_pR, hR_pR, hJ_pR, hT_pR, hS_pR, hK_pJ, hL_pJ, hI_pJ, hR_pJ, hJ_pJ, hT_pJ, hS_pJ, hK_wI, hL_wI, hI_wI, hR_wI, hJ_wI, hT_wI, hS_wI, eq_self, and_true, true_and, and_false, false_and, or_true, true_or, or_false, false_or, if_true, if_false, not_true_eq_false, not_false_eq_true, forall_const, implies_true, false_implies, true_implies, Option.some.injEq, forall_eq', exists_eq_left', reduceCtorEq, Nat.reduceEqDiff, c1, T_X12_in, T_X12_ones, T_X11_within, T_X11_bit, T_X11_isIn, T_X11_oneIfIn, T_J6_bitCount_0f7a4]
    exact ⟨fun _ => hout, fun c => absurd (show nI 0 ≤ 0 by decide) c⟩
  | succ k ih =>
    intro hk hpos
    have hl : LayM (wI h (shf f n (k + 1))) := hl0.wI _
    have ek : nI (k + 1) - 1 = nI k := nI_pred k
    have er : hI (wI h (shf f n (k + 1))) 86 k = nI (o k) := by
      show shf f n (k + 1) 86 k = _
      unfold shf
      rw [if_neg (by omega)]
      exact (ho k (by omega)).2
    refine s_X12_makeOrder_106 Q _ _ _ ?_
    generalize hg : wI h (shf f n (k + 1)) = g at hl er ⊢
    have g87 : hI g 87 = f 87 := by rw [← hg]; exact h87 (k + 1)
    have g59 : hI g 59 = f 59 := by rw [← hg]; exact h59 (k + 1)
    simp only [b_X12_makeOrder_106, hl, lay_pI, lay_wI, lay_pJ, lm_t hl, lm_k hl, lm_r hl, lm_l hl, i_push, i_ild, i_ald, i_ist, i_ast, i_inc, i_bin, i_un, i_divs, i_i2l, i_lshl, i_lor, i_dup, i_dup2, i_pop, i_if, i_cmp, i_nul, i_vret, i_iret, i_zret, i_aret, i_keep, keep, lget, lset, ent, i_getI, i_getJ, i_getR, i_getN, i_putI, i_putZ, i_putJ, i_putR, i_iald, i_bald, i_alen, i_aald, i_iast, i_bast, i_aast, i_new, i_newa, i_anew, i_oini, i_callS, i_callV, i_callI, popn, sh4, i_sw, swP, i_copy, i_binS, List.map, Option.toList_none, Option.toList_some, List.append, List.nil_append, List.cons_append, List.length_cons, List.length_nil, List.replicate, Nat.sub_self, Nat.reduceSub, Nat.reduceAdd, hK_pI, hL_pI, hI_pI, hR_pI, hJ_pI, hT_pI, hS_pI, hK_pR, hL_pR, hI_pR, hR_pR, hJ_pR, hT_pR, hS_pR, hK_pJ, hL_pJ, hI_pJ, hR_pJ, hJ_pJ, hT_pJ, hS_pJ, hK_wI, hL_wI, hI_wI, hR_wI, hJ_wI, hT_wI, hS_wI, eq_self, and_true, true_and, and_false, false_and, or_true, true_or, or_false, false_or, if_true, if_false, not_true_eq_false, not_false_eq_true, forall_const, implies_true, false_implies, true_implies, Option.some.injEq, forall_eq', exists_eq_left', reduceCtorEq, Nat.reduceEqDiff, c1, T_X12_in, T_X12_ones, T_X11_within, T_X11_bit, T_X11_isIn, T_X11_oneIfIn, T_J6_bitCount_0f7a4, ek, cl_nI (show k < 2147483648 by omega), in_nI (show k < 24 by omega) (by decide), er]
    refine ⟨fun c => absurd c (nI_nle (by omega) (by omega)), fun _ => ?_⟩
    refine ahead_go g hl p (o k) hp (ho k (by omega)).1 _ (fun q => ?_) (fun q => ?_)
    · rw [g87, g59] at q
      simp only [c_X12_makeOrder_125, hl, lay_pI, lay_wI, lay_pJ, lm_t hl, lm_k hl, lm_r hl, lm_l hl, i_push, i_ild, i_ald, i_ist, i_ast, i_inc, i_bin, i_un, i_divs, i_i2l, i_lshl, i_lor, i_dup, i_dup2, i_pop, i_if, i_cmp, i_nul, i_vret, i_iret, i_zret, i_aret, i_keep, keep, lget, lset, ent, i_getI, i_getJ, i_getR, i_getN, i_putI, i_putZ, i_putJ, i_putR, i_iald, i_bald, i_alen, i_aald, i_iast, i_bast, i_aast, i_new, i_newa, i_anew, i_oini, i_callS, i_callV, i_callI, popn, sh4, i_sw, swP, i_copy, i_binS, List.map, Option.toList_none, Option.toList_some, List.append, List.nil_append, List.cons_append, List.length_cons, List.length_nil, List.replicate, Nat.sub_self, Nat.reduceSub, Nat.reduceAdd, hK_pI, hL_pI, hI_pI, hR_pI, hJ_pI, hT_pI, hS_pI, hK_pR, hL_pR, hI_pR, hR_pR, hJ_pR, hT_pR, hS_pR, hK_pJ, hL_pJ, hI_pJ, hR_pJ, hJ_pJ, hT_pJ, hS_pJ, hK_wI, hL_wI, hI_wI, hR_wI, hJ_wI, hT_wI, hS_wI, eq_self, and_true, true_and, and_false, false_and, or_true, true_or, or_false, false_or, if_true, if_false, not_true_eq_false, not_false_eq_true, forall_const, implies_true, false_implies, true_implies, Option.some.injEq, forall_eq', exists_eq_left', reduceCtorEq, Nat.reduceEqDiff, c1, T_X12_in, T_X12_ones, T_X11_within, T_X11_bit, T_X11_isIn, T_X11_oneIfIn, T_J6_bitCount_0f7a4, ek, cl_nI (show k < 2147483648 by omega), in_nI (show k < 24 by omega) (by decide), cl_nI (show k + 1 < 2147483648 by omega), in_nI (show k + 1 < 24 by omega) (by decide), er, pk_m1]
      refine ⟨fun z => absurd z (by decide), fun _ => ?_⟩
      have e2 : pI g 86 (k + 1) (nI (o k)) = wI h (shf f n k) := by
        have e3 : shf f n (k + 1) 86 k = nI (o k) := by rw [← er, ← hg]; rfl
        rw [← hg, ← shf_s f n k (by omega), e3]
        rfl
      rw [e2]
      exact ih (by omega) (hpos.trans (posF_t (ah := fun j => ahd (f 87) (f 59) p (o j)) (n := k) q))
    · rw [g87, g59] at q
      rw [hpos, posF_f (ah := fun j => ahd (f 87) (f 59) p (o j)) (n := k) q, hg] at hout
      simp only [c_X12_makeOrder_125, i_push, i_ild, i_ald, i_ist, i_ast, i_inc, i_bin, i_un, i_divs, i_i2l, i_lshl, i_lor, i_dup, i_dup2, i_pop, i_if, i_cmp, i_nul, i_vret, i_iret, i_zret, i_aret, i_keep, keep, lget, lset, ent, i_getI, i_getJ, i_getR, i_getN, i_putI, i_putZ, i_putJ, i_putR, i_iald, i_bald, i_alen, i_aald, i_iast, i_bast, i_aast, i_new, i_newa, i_anew, i_oini, i_callS, i_callV, i_callI, popn, sh4, i_sw, swP, i_copy, i_binS, List.map, Option.toList_none, Option.toList_some, List.append, List.nil_append, List.cons_append, List.length_cons, List.length_nil, List.replicate, Nat.sub_self, Nat.reduceSub, Nat.reduceAdd, hK_pI, hL_pI, hI_pI, hR_pI, hJ_pI, hT_pI, hS_pI, hK_pR, hL_pR, hI_pR, hR_pR, hJ_pR, hT_pR, hS_pR, hK_pJ, hL_pJ, hI_pJ, hR_pJ, hJ_pJ, hT_pJ, hS_pJ, hK_wI, hL_wI, hI_wI, hR_wI, hJ_wI, hT_wI, hS_wI, eq_self, and_true, true_and, and_false, false_and, or_true, true_or, or_false, false_or, if_true, if_false, not_true_eq_false, not_false_eq_true, forall_const, implies_true, false_implies, true_implies, Option.some.injEq, forall_eq', exists_eq_left', reduceCtorEq, Nat.reduceEqDiff, c1, T_X12_in, T_X12_ones, T_X11_within, T_X11_bit, T_X11_isIn, T_X11_oneIfIn, T_J6_bitCount_0f7a4]
      first | exact hout | exact ⟨fun _ => hout, fun z => absurd rfl z⟩
