/-! ===== the reference: who is taken ===== -/
def eI (f : Nat → Nat → Int32) : Nat → Nat → Int32 := fun a i => if a = 88 ∧ i < 4 then 0 else f a i
theorem eR_w (h : Hp) (f : Nat → Nat → Int32) : eR (wI h f) 4 = wI h (eI f) := rfl
theorem eI_eI (f : Nat → Nat → Int32) : eI (eI f) = eI f := by
  funext a i
  unfold eI
  by_cases c : a = 88 ∧ i < 4
  · rw [if_pos c, if_pos c]
  · simp only [if_neg c]
theorem eI_o (f : Nat → Nat → Int32) {a : Nat} (ha : a ≠ 88) (i : Nat) : eI f a i = f a i := if_neg (fun q => ha q.1)
theorem eI_88 (f : Nat → Nat → Int32) {i : Nat} (hi : i < 4) : eI f 88 i = 0 := if_pos ⟨rfl, hi⟩
theorem amS_0 (o : Nat → Nat) : amS o 0 = 0 := by
  refine b_ext2 fun i _ => ?_
  unfold amS
  rw [b_mkB, b_0]
  exact ⟨fun ⟨_, j, a, _⟩ => absurd a (by omega), fun z => by cases z⟩
theorem amS_succ (o : Nat → Nat) (n : Nat) (h : o n < 32) : amS o n ||| bitI (o n) = amS o (n + 1) := by
  refine b_ext2 fun i hi => ?_
  rw [b_orI h]
  unfold amS
  rw [b_mkB]
  simp only [Bool.or_eq_true, decide_eq_true_eq]
  rw [b_mkB]
  constructor
  · rintro (⟨a, j, b, c⟩ | e)
    · exact ⟨a, j, by omega, c⟩
    · exact ⟨hi, n, by omega, e.symm⟩
  · rintro ⟨a, j, b, c⟩
    rcases Nat.lt_or_ge j n with z | z
    · exact Or.inl ⟨a, j, z, c⟩
    · have : j = n := by omega
      subst this; exact Or.inr c.symm
theorem b_amS {o : Nat → Nat} {n P i : Nat} (hP : P ≤ 24) (h : ∀ j, j < n → o j < P) : bt (amS o n) i = true ↔ ∃ j, j < n ∧ o j = i := by
  unfold amS
  rw [b_mkB]
  exact ⟨fun a => a.2, fun ⟨j, a, b⟩ => ⟨by have := h j a; omega, j, a, b⟩⟩
/-- what taking needs of the memory -/
def TkOk (I : Nat → Nat → Int32) (R P n : Nat) (o : Nat → Nat) : Prop := R ≤ 4 ∧ P ≤ 24 ∧ n ≤ 24 ∧ I 46 0 = nI R ∧ I 52 0 = nI P ∧ (∀ r, r < R → ∃ c, c ≤ 9 ∧ capF I r = nI c) ∧ Sy I ∧ Tg I P ∧ I 44 53 = nI n ∧ (∀ j, j < n → o j < P ∧ I 86 j = nI (o j)) ∧ ∃ D, pct D ≤ 17 ∧ ∀ j, j < n → bt D (o j) = true
def TKI (I f : Nat → Nat → Int32) (R P n : Nat) (o : Nat → Nat) (k : Nat) : Prop := (∀ q, f 78 q = cif (∃ j, j < k ∧ Rch I P (amS o n) (o j) q) (whyT I R P o n q) (I 78 q)) ∧ ∀ a i, a ≠ 78 → a ≠ 88 → f a i = I a i
def T_X12_take : Tr := fun av h Q => match av with
  | [.ref q] => q = 44 ∧ LayM h ∧ ∃ R P n o, TkOk (hI h) R P n o ∧ ∀ f, TKI (hI h) f R P n o n → Q (some (.int (tkS (hI h) R P (amS o n) o n))) (wI h f)
  | _ => False
def L_X12_take : List UInt8 := [3, 60, 3, 61, 28, 42, 180, 1, 26, 162, 0, 20, 27, 4, 42, 180, 0, 138, 28, 46, 120, 128, 60, 132, 2, 1, 167, 255, 234, 3, 61, 3, 62, 3, 54, 4, 21, 4, 42, 180, 1, 26, 162, 0, 156, 42, 180, 0, 138, 21, 4, 46, 54, 5, 29, 21, 5, 122, 4, 126, 153, 0, 6, 167, 0, 129, 42, 21, 5, 27, 182, 1, 60, 54, 6, 29, 21, 6, 128, 62, 42, 182, 1, 54, 42, 21, 6, 27, 182, 1, 63, 153, 0, 7, 6, 167, 0, 32, 42, 21, 6, 182, 1, 66, 154, 0, 7, 7, 167, 0, 19, 42, 28, 21, 6, 128, 182, 1, 51, 154, 0, 7, 8, 167, 0, 4, 3, 54, 7, 28, 21, 7, 154, 0, 8, 21, 6, 167, 0, 4, 3, 128, 61, 3, 54, 8, 21, 8, 42, 180, 0, 32, 3, 46, 162, 0, 38, 42, 180, 0, 110, 21, 8, 21, 6, 21, 8, 122, 4, 126, 153, 0, 8, 21, 7, 167, 0, 10, 42, 180, 0, 110, 21, 8, 46, 79, 132, 8, 1, 167, 255, 213, 132, 4, 1, 167, 255, 97, 28, 172]
theorem Lc_X12_take : MX12_take.2.1 = ⟨L_X12_take.toArray⟩ := rfl
theorem D_X12_take_0 : dseq MX12_take.2.1 0 [(.iconst 0, 1), (.istore_n 1, 1), (.iconst 0, 1), (.istore_n 2, 1)] := dq Lc_X12_take 0 _ (by decide +kernel)
theorem D_X12_take_4 : dseq MX12_take.2.1 4 [(.iload_n 2, 1), (.aload_n 0, 1), (.getfield 282, 3), (.if_icmp .ge 20, 3), (.iload_n 1, 1), (.iconst 1, 1), (.aload_n 0, 1), (.getfield 138, 3), (.iload_n 2, 1), (.iaload, 1), (.ishl, 1), (.ior, 1), (.istore_n 1, 1), (.iinc 2 1, 3), (.goto (-22), 3)] := dq Lc_X12_take 4 _ (by decide +kernel)
theorem D_X12_take_29 : dseq MX12_take.2.1 29 [(.iconst 0, 1), (.istore_n 2, 1), (.iconst 0, 1), (.istore_n 3, 1), (.iconst 0, 1), (.istore 4, 2)] := dq Lc_X12_take 29 _ (by decide +kernel)
theorem D_X12_take_36 : dseq MX12_take.2.1 36 [(.iload 4, 2), (.aload_n 0, 1), (.getfield 282, 3), (.if_icmp .ge 156, 3), (.aload_n 0, 1), (.getfield 138, 3), (.iload 4, 2), (.iaload, 1), (.istore 5, 2), (.iload_n 3, 1), (.iload 5, 2), (.ishr, 1), (.iconst 1, 1), (.iand, 1), (.ifCond .eq 6, 3), (.goto 129, 3)] := dq Lc_X12_take 36 _ (by decide +kernel)
theorem D_X12_take_198 : dseq MX12_take.2.1 198 [(.iload_n 2, 1), (.ireturn, 1)] := dq Lc_X12_take 198 _ (by decide +kernel)
theorem D_X12_take_66 : dseq MX12_take.2.1 66 [(.aload_n 0, 1), (.iload 5, 2), (.iload_n 1, 1), (.invokevirtual 316, 3), (.istore 6, 2), (.iload_n 3, 1), (.iload 6, 2), (.ior, 1), (.istore_n 3, 1), (.aload_n 0, 1), (.invokevirtual 310, 3), (.aload_n 0, 1), (.iload 6, 2), (.iload_n 1, 1), (.invokevirtual 319, 3), (.ifCond .eq 7, 3), (.iconst 3, 1), (.goto 32, 3)] := dq Lc_X12_take 66 _ (by decide +kernel)
theorem D_X12_take_98 : dseq MX12_take.2.1 98 [(.aload_n 0, 1), (.iload 6, 2), (.invokevirtual 322, 3), (.ifCond .ne 7, 3), (.iconst 4, 1), (.goto 19, 3)] := dq Lc_X12_take 98 _ (by decide +kernel)
theorem D_X12_take_111 : dseq MX12_take.2.1 111 [(.aload_n 0, 1), (.iload_n 2, 1), (.iload 6, 2), (.ior, 1), (.invokevirtual 307, 3), (.ifCond .ne 7, 3), (.iconst 5, 1), (.goto 4, 3)] := dq Lc_X12_take 111 _ (by decide +kernel)
theorem D_X12_take_126 : dseq MX12_take.2.1 126 [(.iconst 0, 1)] := dq Lc_X12_take 126 _ (by decide +kernel)
theorem D_X12_take_127 : dseq MX12_take.2.1 127 [(.istore 7, 2), (.iload_n 2, 1), (.iload 7, 2), (.ifCond .ne 8, 3), (.iload 6, 2), (.goto 4, 3)] := dq Lc_X12_take 127 _ (by decide +kernel)
theorem D_X12_take_140 : dseq MX12_take.2.1 140 [(.iconst 0, 1)] := dq Lc_X12_take 140 _ (by decide +kernel)
theorem D_X12_take_141 : dseq MX12_take.2.1 141 [(.ior, 1), (.istore_n 2, 1), (.iconst 0, 1), (.istore 8, 2)] := dq Lc_X12_take 141 _ (by decide +kernel)
theorem D_X12_take_146 : dseq MX12_take.2.1 146 [(.iload 8, 2), (.aload_n 0, 1), (.getfield 32, 3), (.iconst 0, 1), (.iaload, 1), (.if_icmp .ge 38, 3), (.aload_n 0, 1), (.getfield 110, 3), (.iload 8, 2), (.iload 6, 2), (.iload 8, 2), (.ishr, 1), (.iconst 1, 1), (.iand, 1), (.ifCond .eq 8, 3), (.iload 7, 2), (.goto 10, 3)] := dq Lc_X12_take 146 _ (by decide +kernel)
theorem D_X12_take_178 : dseq MX12_take.2.1 178 [(.aload_n 0, 1), (.getfield 110, 3), (.iload 8, 2), (.iaload, 1)] := dq Lc_X12_take 178 _ (by decide +kernel)
theorem D_X12_take_185 : dseq MX12_take.2.1 185 [(.iastore, 1), (.iinc 8 1, 3), (.goto (-43), 3)] := dq Lc_X12_take 185 _ (by decide +kernel)
theorem D_X12_take_192 : dseq MX12_take.2.1 192 [(.iinc 4 1, 3), (.goto (-159), 3)] := dq Lc_X12_take 192 _ (by decide +kernel)
def c_X12_take_119 (Q : Option Value → Hp → Prop) : Kt := i_if (fun x => x = 0) (i_push (.int 5) (i_keep [true, true, true, true, true, false, true, false, false] (wp 21 MX12_take Q 127))) (i_push (.int 0) (i_keep [true, true, true, true, true, false, true, false, false] (wp 21 MX12_take Q 127)))
def c_X12_take_104 (Q : Option Value → Hp → Prop) : Kt := i_if (fun x => x = 0) (i_push (.int 4) (i_keep [true, true, true, true, true, false, true, false, false] (wp 21 MX12_take Q 127))) (i_ald 0 (i_ild 2 (i_ild 6 (i_bin (fun x y => x ||| y) (i_callV 12 1 T_X12_canPlace (c_X12_take_119 Q))))))
def c_X12_take_91 (Q : Option Value → Hp → Prop) : Kt := i_if (fun x => x = 0) (i_ald 0 (i_ild 6 (i_callV 12 1 T_X12_fitsOne (c_X12_take_104 Q)))) (i_push (.int 3) (i_keep [true, true, true, true, true, false, true, false, false] (wp 21 MX12_take Q 127)))
def c_X12_take_84 (Q : Option Value → Hp → Prop) : Kt := i_ald 0 (i_ild 6 (i_ild 1 (i_callV 12 2 T_X12_lacksOne (c_X12_take_91 Q))))
def c_X12_take_73 (Q : Option Value → Hp → Prop) : Kt := i_ist 6 (i_ild 3 (i_ild 6 (i_bin (fun x y => x ||| y) (i_ist 3 (i_ald 0 (i_callV 12 0 T_X12_emptyRooms (c_X12_take_84 Q)))))))
def b_X12_take_0 (Q : Option Value → Hp → Prop) : Kt := i_push (.int 0) (i_ist 1 (i_push (.int 0) (i_ist 2 (i_keep [true, true, true, false, false, false, false, false, false] (wp 21 MX12_take Q 4)))))
set_option maxRecDepth 100000 in
theorem s_X12_take_0 (Q : Option Value → Hp → Prop) : ∀ A st h, b_X12_take_0 Q A st h → wp 21 MX12_take Q 0 A st h := (q1 (s_iconst (n := 0) (v := 0) (by decide)) D_X12_take_0 fun D => (qL (s_istn (n := 1) (i := 1) rfl) (by decide) D fun D => (q1 (s_iconst (n := 0) (v := 0) (by decide)) D fun D => (qL (s_istn (n := 2) (i := 2) rfl) (by decide) D fun D => (s_keep [true, true, true, false, false, false, false, false, false] fun _ _ _ h => h)))))
def b_X12_take_4 (Q : Option Value → Hp → Prop) : Kt := i_ild 2 (i_ald 0 (i_getI 12 53 (i_cmp (fun x y => y ≤ x) (i_push (.int 0) (i_ist 2 (i_push (.int 0) (i_ist 3 (i_push (.int 0) (i_ist 4 (i_keep [true, true, true, true, true, false, false, false, false] (wp 21 MX12_take Q 36)))))))) (i_ild 1 (i_push (.int 1) (i_ald 0 (i_getR 12 54 (i_ild 2 (i_iald (i_bin (fun x y => x <<< (y &&& 31)) (i_bin (fun x y => x ||| y) (i_ist 1 (i_inc 2 1 (i_keep [true, true, true, false, false, false, false, false, false] (wp 21 MX12_take Q 4)))))))))))))))
set_option maxRecDepth 100000 in
theorem s_X12_take_4 (Q : Option Value → Hp → Prop) : ∀ A st h, b_X12_take_4 Q A st h → wp 21 MX12_take Q 4 A st h := (q1 (s_ildn (n := 2) (i := 2) rfl) D_X12_take_4 fun D => (q1 (s_aldn (n := 0) (i := 0) rfl) D fun D => (qC fl_X12_282 rfl D fun D => (qB s_cmpge 29 (by decide) D (q1 (s_iconst (n := 0) (v := 0) (by decide)) D_X12_take_29 fun D => (qL (s_istn (n := 2) (i := 2) rfl) (by decide) D fun D => (q1 (s_iconst (n := 0) (v := 0) (by decide)) D fun D => (qL (s_istn (n := 3) (i := 3) rfl) (by decide) D fun D => (q1 (s_iconst (n := 0) (v := 0) (by decide)) D fun D => (qL s_ist (by decide) D fun D => (s_keep [true, true, true, true, true, false, false, false, false] fun _ _ _ h => h))))))) fun D => (q1 (s_ildn (n := 1) (i := 1) rfl) D fun D => (q1 (s_iconst (n := 1) (v := 1) (by decide)) D fun D => (q1 (s_aldn (n := 0) (i := 0) rfl) D fun D => (qC fl_X12_138 rfl D fun D => (q1 (s_ildn (n := 2) (i := 2) rfl) D fun D => (q1 s_iald D fun D => (q1 s_shl D fun D => (q1 s_or D fun D => (qL (s_istn (n := 1) (i := 1) rfl) (by decide) D fun D => (qL (s_inc (i := 2) (n := 1) (v := 1) (by decide)) (by decide) D fun D => (qG 4 (by decide) D (s_keep [true, true, true, false, false, false, false, false, false] fun _ _ _ h => h))))))))))))))))
def b_X12_take_36 (Q : Option Value → Hp → Prop) : Kt := i_ild 4 (i_ald 0 (i_getI 12 53 (i_cmp (fun x y => y ≤ x) (i_ild 2 (i_iret Q)) (i_ald 0 (i_getR 12 54 (i_ild 4 (i_iald (i_ist 5 (i_ild 3 (i_ild 5 (i_bin (fun x y => x >>> (y &&& 31)) (i_push (.int 1) (i_bin (fun x y => x &&& y) (i_if (fun x => x = 0) (i_ald 0 (i_ild 5 (i_ild 1 (i_callV 12 2 T_X12_hanging (c_X12_take_73 Q))))) (i_keep [true, true, true, true, true, false, false, false, false] (wp 21 MX12_take Q 192))))))))))))))))
set_option maxRecDepth 100000 in
theorem s_X12_take_36 (Q : Option Value → Hp → Prop) : ∀ A st h, b_X12_take_36 Q A st h → wp 21 MX12_take Q 36 A st h := (q1 s_ild D_X12_take_36 fun D => (q1 (s_aldn (n := 0) (i := 0) rfl) D fun D => (qC fl_X12_282 rfl D fun D => (qB s_cmpge 198 (by decide) D (q1 (s_ildn (n := 2) (i := 2) rfl) D_X12_take_198 fun D => (qI rfl D)) fun D => (q1 (s_aldn (n := 0) (i := 0) rfl) D fun D => (qC fl_X12_138 rfl D fun D => (q1 s_ild D fun D => (q1 s_iald D fun D => (qL s_ist (by decide) D fun D => (q1 (s_ildn (n := 3) (i := 3) rfl) D fun D => (q1 s_ild D fun D => (q1 s_shr D fun D => (q1 (s_iconst (n := 1) (v := 1) (by decide)) D fun D => (q1 s_and D fun D => (qB s_ifeq 66 (by decide) D (q1 (s_aldn (n := 0) (i := 0) rfl) D_X12_take_66 fun D => (q1 s_ild D fun D => (q1 (s_ildn (n := 1) (i := 1) rfl) D fun D => (qX (s_callV kX12 rfl ok_X12_hanging mo_X12_hanging (ch_6_6_ok.2.2.2.2.2.2.2.2.2.2.2.1.1 rfl) (ch_6_6_ok.2.2.2.2.2.2.2.2.2.2.2.2.2.1.1 rfl) (pv_3.2.2.2.2.2.2.2.1)) rfl (by decide) D fun D => (qL s_ist (by decide) D fun D => (q1 (s_ildn (n := 3) (i := 3) rfl) D fun D => (q1 s_ild D fun D => (q1 s_or D fun D => (qL (s_istn (n := 3) (i := 3) rfl) (by decide) D fun D => (q1 (s_aldn (n := 0) (i := 0) rfl) D fun D => (qX (s_callV kX12 rfl ok_X12_emptyRooms mo_X12_emptyRooms (ch_6_6_ok.2.2.2.2.2.2.2.2.2.2.2.2.2.2.2.1.1 rfl) (ch_6_7_ok.2.1.1 rfl) (pv_3.2.2.2.2.2.2.2.2.1)) rfl (by decide) D fun D => (q1 (s_aldn (n := 0) (i := 0) rfl) D fun D => (q1 s_ild D fun D => (q1 (s_ildn (n := 1) (i := 1) rfl) D fun D => (qX (s_callV kX12 rfl ok_X12_lacksOne mo_X12_lacksOne (ch_6_7_ok.2.2.2.1.1 rfl) (ch_6_7_ok.2.2.2.2.2.1.1 rfl) (pv_3.2.2.2.2.2.2.2.2.2.1)) rfl (by decide) D fun D => (qB s_ifeq 98 (by decide) D (q1 (s_aldn (n := 0) (i := 0) rfl) D_X12_take_98 fun D => (q1 s_ild D fun D => (qX (s_callV kX12 rfl ok_X12_fitsOne mo_X12_fitsOne (ch_6_7_ok.2.2.2.2.2.2.2.1.1 rfl) (ch_6_7_ok.2.2.2.2.2.2.2.2.2.1.1 rfl) (pv_3.2.2.2.2.2.2.2.2.2.2.1)) rfl (by decide) D fun D => (qBn s_ifne2 111 (by decide) D (q1 (s_aldn (n := 0) (i := 0) rfl) D_X12_take_111 fun D => (q1 (s_ildn (n := 2) (i := 2) rfl) D fun D => (q1 s_ild D fun D => (q1 s_or D fun D => (qX (s_callV kX12 rfl ok_X12_canPlace mo_X12_canPlace (ch_6_8_ok.2.2.2.2.2.2.2.1.1 rfl) (ch_6_8_ok.2.2.2.2.2.2.2.2.2.1.1 rfl) (pv_3.2.2.2.2.2.2.2.2.2.2.2.2.2.2.1)) rfl (by decide) D fun D => (qBn s_ifne2 126 (by decide) D (q1 (s_iconst (n := 0) (v := 0) (by decide)) D_X12_take_126 fun D => (s_keep [true, true, true, true, true, false, true, false, false] fun _ _ _ h => h)) fun D => (q1 (s_iconst (n := 5) (v := 5) (by decide)) D fun D => (qG 127 (by decide) D (s_keep [true, true, true, true, true, false, true, false, false] fun _ _ _ h => h))))))))) fun D => (q1 (s_iconst (n := 4) (v := 4) (by decide)) D fun D => (qG 127 (by decide) D (s_keep [true, true, true, true, true, false, true, false, false] fun _ _ _ h => h))))))) fun D => (q1 (s_iconst (n := 3) (v := 3) (by decide)) D fun D => (qG 127 (by decide) D (s_keep [true, true, true, true, true, false, true, false, false] fun _ _ _ h => h))))))))))))))))))) fun D => (qG 192 (by decide) D (s_keep [true, true, true, true, true, false, false, false, false] fun _ _ _ h => h)))))))))))))))))
def b_X12_take_127 (Q : Option Value → Hp → Prop) : Kt := i_ist 7 (i_ild 2 (i_ild 7 (i_if (fun x => x = 0) (i_ild 6 (i_keep [true, true, false, true, true, false, true, true, false] (wp 21 MX12_take Q 141))) (i_push (.int 0) (i_keep [true, true, false, true, true, false, true, true, false] (wp 21 MX12_take Q 141))))))
set_option maxRecDepth 100000 in
theorem s_X12_take_127 (Q : Option Value → Hp → Prop) : ∀ A st h, b_X12_take_127 Q A st h → wp 21 MX12_take Q 127 A st h := (qL s_ist (by decide) D_X12_take_127 fun D => (q1 (s_ildn (n := 2) (i := 2) rfl) D fun D => (q1 s_ild D fun D => (qBn s_ifne2 140 (by decide) D (q1 (s_iconst (n := 0) (v := 0) (by decide)) D_X12_take_140 fun D => (s_keep [true, true, false, true, true, false, true, true, false] fun _ _ _ h => h)) fun D => (q1 s_ild D fun D => (qG 141 (by decide) D (s_keep [true, true, false, true, true, false, true, true, false] fun _ _ _ h => h)))))))
def b_X12_take_141 (Q : Option Value → Hp → Prop) : Kt := i_bin (fun x y => x ||| y) (i_ist 2 (i_push (.int 0) (i_ist 8 (i_keep [true, true, true, true, true, false, true, true, true] (wp 21 MX12_take Q 146)))))
set_option maxRecDepth 100000 in
theorem s_X12_take_141 (Q : Option Value → Hp → Prop) : ∀ A st h, b_X12_take_141 Q A st h → wp 21 MX12_take Q 141 A st h := (q1 s_or D_X12_take_141 fun D => (qL (s_istn (n := 2) (i := 2) rfl) (by decide) D fun D => (q1 (s_iconst (n := 0) (v := 0) (by decide)) D fun D => (qL s_ist (by decide) D fun D => (s_keep [true, true, true, true, true, false, true, true, true] fun _ _ _ h => h)))))
def b_X12_take_146 (Q : Option Value → Hp → Prop) : Kt := i_ild 8 (i_ald 0 (i_getR 12 9 (i_push (.int 0) (i_iald (i_cmp (fun x y => y ≤ x) (i_keep [true, true, true, true, true, false, false, false, false] (wp 21 MX12_take Q 192)) (i_ald 0 (i_getR 12 35 (i_ild 8 (i_ild 6 (i_ild 8 (i_bin (fun x y => x >>> (y &&& 31)) (i_push (.int 1) (i_bin (fun x y => x &&& y) (i_if (fun x => x = 0) (i_ald 0 (i_getR 12 35 (i_ild 8 (i_iald (i_keep [true, true, true, true, true, false, true, true, true] (wp 21 MX12_take Q 185)))))) (i_ild 7 (i_keep [true, true, true, true, true, false, true, true, true] (wp 21 MX12_take Q 185)))))))))))))))))
set_option maxRecDepth 100000 in
theorem s_X12_take_146 (Q : Option Value → Hp → Prop) : ∀ A st h, b_X12_take_146 Q A st h → wp 21 MX12_take Q 146 A st h := (q1 s_ild D_X12_take_146 fun D => (q1 (s_aldn (n := 0) (i := 0) rfl) D fun D => (qC fl_X12_32 rfl D fun D => (q1 (s_iconst (n := 0) (v := 0) (by decide)) D fun D => (q1 s_iald D fun D => (qB s_cmpge 192 (by decide) D (s_keep [true, true, true, true, true, false, false, false, false] fun _ _ _ h => h) fun D => (q1 (s_aldn (n := 0) (i := 0) rfl) D fun D => (qC fl_X12_110 rfl D fun D => (q1 s_ild D fun D => (q1 s_ild D fun D => (q1 s_ild D fun D => (q1 s_shr D fun D => (q1 (s_iconst (n := 1) (v := 1) (by decide)) D fun D => (q1 s_and D fun D => (qB s_ifeq 178 (by decide) D (q1 (s_aldn (n := 0) (i := 0) rfl) D_X12_take_178 fun D => (qC fl_X12_110 rfl D fun D => (q1 s_ild D fun D => (q1 s_iald D fun D => (s_keep [true, true, true, true, true, false, true, true, true] fun _ _ _ h => h))))) fun D => (q1 s_ild D fun D => (qG 185 (by decide) D (s_keep [true, true, true, true, true, false, true, true, true] fun _ _ _ h => h))))))))))))))))))
def b_X12_take_185 (Q : Option Value → Hp → Prop) : Kt := i_iast (i_inc 8 1 (i_keep [true, true, true, true, true, false, true, true, true] (wp 21 MX12_take Q 146)))
set_option maxRecDepth 100000 in
theorem s_X12_take_185 (Q : Option Value → Hp → Prop) : ∀ A st h, b_X12_take_185 Q A st h → wp 21 MX12_take Q 185 A st h := (q1 s_iast D_X12_take_185 fun D => (qL (s_inc (i := 8) (n := 1) (v := 1) (by decide)) (by decide) D fun D => (qG 146 (by decide) D (s_keep [true, true, true, true, true, false, true, true, true] fun _ _ _ h => h))))
def b_X12_take_192 (Q : Option Value → Hp → Prop) : Kt := i_inc 4 1 (i_keep [true, true, true, true, true, false, false, false, false] (wp 21 MX12_take Q 36))
set_option maxRecDepth 100000 in
theorem s_X12_take_192 (Q : Option Value → Hp → Prop) : ∀ A st h, b_X12_take_192 Q A st h → wp 21 MX12_take Q 192 A st h := (qL (s_inc (i := 4) (n := 1) (v := 1) (by decide)) (by decide) D_X12_take_192 fun D => (qG 36 (by decide) D (s_keep [true, true, true, true, true, false, false, false, false] fun _ _ _ h => h)))

/-- the reasons of a group are written -/
def wyM (f : Nat → Nat → Int32) (g is : Int32) (q : Nat) : Nat → Nat → Int32 := fun a i => if a = 78 ∧ i < q ∧ bt g i = true then is else f a i
theorem wyM_0 (f : Nat → Nat → Int32) (g is : Int32) : wyM f g is 0 = f := by
  funext a i
  exact if_neg (fun q => by omega)
theorem wyM_s (f : Nat → Nat → Int32) (g is v : Int32) (q : Nat) (hv : v = if bt g q = true then is else wyM f g is q 78 q) : u2 (wyM f g is q) 78 q v = wyM f g is (q + 1) := by
  funext a i
  unfold u2 wyM
  by_cases ha : a = 78
  · subst ha
    by_cases hi : i = q
    · subst hi
      rw [if_pos ⟨rfl, rfl⟩, hv]
      by_cases c : bt g i = true
      · rw [if_pos c, if_pos ⟨rfl, by omega, c⟩]
      · rw [if_neg c, if_neg (fun z => c z.2.2)]
        exact if_neg (fun z => c z.2.2)
    · rw [if_neg (fun z => hi z.2)]
      by_cases c : i < q ∧ bt g i = true
      · rw [if_pos ⟨rfl, c⟩, if_pos ⟨rfl, by omega, c.2⟩]
      · rw [if_neg (fun z => c z.2), if_neg (fun z => c ⟨by omega, z.2.2⟩)]
  · rw [if_neg (fun z => ha z.1), if_neg (fun z => ha z.1), if_neg (fun z => ha z.1)]
theorem wyM_o (f : Nat → Nat → Int32) (g is : Int32) (q : Nat) {a : Nat} (ha : a ≠ 78) (i : Nat) : wyM f g is q a i = f a i := if_neg (fun z => ha z.1)
set_option maxRecDepth 100000 in
theorem tk_146 (Q : Option Value → Hp → Prop) (h : Hp) (hl0 : LayM h) (f : Nat → Nat → Int32) (P : Nat) (hP : P ≤ 24) (h52 : f 52 0 = nI P) (am tk dl k g is : Int32)
    (hout : wp 21 MX12_take Q 192 [some (.ref 44), some (.int am), some (.int tk), some (.int dl), some (.int k), none, none, none, none] [] (wI h (wyM f g is P))) :
    ∀ (m q : Nat), m = P - q → q ≤ P → wp 21 MX12_take Q 146 [some (.ref 44), some (.int am), some (.int tk), some (.int dl), some (.int k), none, some (.int g), some (.int is), some (.int (nI q))] [] (wI h (wyM f g is q)) := by
  intro m
  induction m with
  | zero =>
    intro q hm hq
    have e : q = P := by omega
    subst e
    have hl : LayM (wI h (wyM f g is q)) := hl0.wI _
    have e52 : hI (wI h (wyM f g is q)) 52 0 = nI q := by rw [hI_wI, wyM_o _ _ _ _ (by decide)]; exact h52
    refine s_X12_take_146 Q _ _ _ ?_
    generalize wI h (wyM f g is q) = H at hl e52 hout ⊢
    simp only [b_X12_take_146, hl, lay_pI, lay_wI, lay_pJ, lm_t hl, lm_k hl, lm_r hl, lm_l hl, i_push, i_ild, i_ald, i_ist, i_ast, i_inc, i_bin, i_un, i_divs, i_i2l, i_lshl, i_lor, i_dup, i_dup2, i_pop, i_if, i_cmp, i_nul, i_vret, i_iret, i_zret, i_aret, i_keep, keep, lget, lset, ent, i_getI, i_getJ, i_getR, i_getN, i_putI, i_putZ, i_putJ, i_putR, i_iald, i_bald, i_alen, i_aald, i_iast, i_bast, i_aast, i_new, i_newa, i_anew, i_oini, i_callS, i_callV, i_callI, popn, sh4, i_sw, swP, i_copy, i_binS, List.map, Option.toList_none, Option.toList_some, List.append, List.nil_append, List.cons_append, List.length_cons, List.length_nil, List.replicate, Nat.sub_self, Nat.reduceSub, Nat.reduceAdd, hK_pI, hL_pI, hI_pI, hR_pI, hJ_pI, hT_pI, hS_pI, hK_pR, hL_pR, hI_pR, hR_pR, hJ_pR, hT_pR, hS_pR, hK_pJ, hL_pJ, hI_pJ, hR_pJ, hJ_pJ, hT_pJ, hS_pJ, hK_wI, hL_wI, hI_wI, hR_wI, hJ_wI, hT_wI, hS_wI, eq_self, and_true, true_and, and_false, false_and, or_true, true_or, or_false, false_or, if_true, if_false, not_true_eq_false, not_false_eq_true, forall_const, implies_true, false_implies, true_implies, Option.some.injEq, forall_eq', exists_eq_left', reduceCtorEq, Nat.reduceEqDiff, c1, T_X12_in, T_X12_ones, T_X11_within, T_X11_bit, T_X11_isIn, T_X11_oneIfIn, T_J6_bitCount_0f7a4, in0 4 (by decide) (by decide), cl0, e52]
    exact ⟨fun _ => hout, fun c => absurd (nI_le (Nat.le_refl _) (by omega)) c⟩
  | succ m ih =>
    intro q hm hq
    have hl : LayM (wI h (wyM f g is q)) := hl0.wI _
    have e52 : hI (wI h (wyM f g is q)) 52 0 = nI P := by rw [hI_wI, wyM_o _ _ _ _ (by decide)]; exact h52
    have hn := ih (q + 1) (by omega) (by omega)
    have hH : ∀ v, (v = if bt g q = true then is else hI (wI h (wyM f g is q)) 78 q) → pI (wI h (wyM f g is q)) 78 q v = wI h (wyM f g is (q + 1)) := fun v hv => by
      rw [← wyM_s f g is v q hv]; rfl
    refine s_X12_take_146 Q _ _ _ ?_
    generalize wI h (wyM f g is q) = H at hl e52 hH ⊢
    generalize wI h (wyM f g is (q + 1)) = H2 at hn hH
    have h185 : ∀ v, (v = if bt g q = true then is else hI H 78 q) → wp 21 MX12_take Q 185 [some (.ref 44), some (.int am), some (.int tk), some (.int dl), some (.int k), none, some (.int g), some (.int is), some (.int (nI q))] [.int v, .int (nI q), .ref 78] H := by
      intro v hv
      refine s_X12_take_185 Q _ _ _ ?_
      simp only [b_X12_take_185, hl, lay_pI, lay_wI, lay_pJ, lm_t hl, lm_k hl, lm_r hl, lm_l hl, i_push, i_ild, i_ald, i_ist, i_ast, i_inc, i_bin, i_un, i_divs, i_i2l, i_lshl, i_lor, i_dup, i_dup2, i_pop, i_if, i_cmp, i_nul, i_vret, i_iret, i_zret, i_aret, i_keep, keep, lget, lset, ent, i_getI, i_getJ, i_getR, i_getN, i_putI, i_putZ, i_putJ, i_putR, i_iald, i_bald, i_alen, i_aald, i_iast, i_bast, i_aast, i_new, i_newa, i_anew, i_oini, i_callS, i_callV, i_callI, popn, sh4, i_sw, swP, i_copy, i_binS, List.map, Option.toList_none, Option.toList_some, List.append, List.nil_append, List.cons_append, List.length_cons, List.length_nil, List.replicate, Nat.sub_self, Nat.reduceSub, Nat.reduceAdd, hK_pI, hL_pI, hI_pI, hR_pI, hJ_pI, hT_pI, hS_pI, hK_pR, hL_pR, hI_pR, hR_pR, hJ_pR, hT_pR, hS_pR, hK_pJ, hL_pJ, hI_pJ, hR_pJ, hJ_pJ, hT_pJ, hS_pJ, hK_wI, hL_wI, hI_wI, hR_wI, hJ_wI, hT_wI, hS_wI, eq_self, and_true, true_and, and_false, false_and, or_true, true_or, or_false, false_or, if_true, if_false, not_true_eq_false, not_false_eq_true, forall_const, implies_true, false_implies, true_implies, Option.some.injEq, forall_eq', exists_eq_left', reduceCtorEq, Nat.reduceEqDiff, c1, T_X12_in, T_X12_ones, T_X11_within, T_X11_bit, T_X11_isIn, T_X11_oneIfIn, T_J6_bitCount_0f7a4, cl_nI (show q < 2147483648 by omega), in_nI (show q < 96 by omega) (by decide), nI_1, hH v hv]
      exact hn
    simp only [b_X12_take_146, hl, lay_pI, lay_wI, lay_pJ, lm_t hl, lm_k hl, lm_r hl, lm_l hl, i_push, i_ild, i_ald, i_ist, i_ast, i_inc, i_bin, i_un, i_divs, i_i2l, i_lshl, i_lor, i_dup, i_dup2, i_pop, i_if, i_cmp, i_nul, i_vret, i_iret, i_zret, i_aret, i_keep, keep, lget, lset, ent, i_getI, i_getJ, i_getR, i_getN, i_putI, i_putZ, i_putJ, i_putR, i_iald, i_bald, i_alen, i_aald, i_iast, i_bast, i_aast, i_new, i_newa, i_anew, i_oini, i_callS, i_callV, i_callI, popn, sh4, i_sw, swP, i_copy, i_binS, List.map, Option.toList_none, Option.toList_some, List.append, List.nil_append, List.cons_append, List.length_cons, List.length_nil, List.replicate, Nat.sub_self, Nat.reduceSub, Nat.reduceAdd, hK_pI, hL_pI, hI_pI, hR_pI, hJ_pI, hT_pI, hS_pI, hK_pR, hL_pR, hI_pR, hR_pR, hJ_pR, hT_pR, hS_pR, hK_pJ, hL_pJ, hI_pJ, hR_pJ, hJ_pJ, hT_pJ, hS_pJ, hK_wI, hL_wI, hI_wI, hR_wI, hJ_wI, hT_wI, hS_wI, eq_self, and_true, true_and, and_false, false_and, or_true, true_or, or_false, false_or, if_true, if_false, not_true_eq_false, not_false_eq_true, forall_const, implies_true, false_implies, true_implies, Option.some.injEq, forall_eq', exists_eq_left', reduceCtorEq, Nat.reduceEqDiff, c1, T_X12_in, T_X12_ones, T_X11_within, T_X11_bit, T_X11_isIn, T_X11_oneIfIn, T_J6_bitCount_0f7a4, in0 4 (by decide) (by decide), cl0, e52, sh_bt g (show q < 32 by omega), cl_nI (show q < 2147483648 by omega), in_nI (show q < 96 by omega) (by decide)]
    refine ⟨fun c => absurd c (nI_ge (by omega) (by omega)), fun _ => ⟨fun c => h185 _ ?_, fun c => h185 _ ?_⟩⟩
    · rw [if_neg (by rw [c]; decide)]
    · rw [if_pos (by simpa using c)]
/-- the placings of those who are taken: what the reference's memory is when it looks for one -/
theorem preC_tk {I f : Nat → Nat → Int32} {R P n : Nat} {o : Nat → Nat} (hk : TkOk I R P n o) (hf : ∀ a i, a ≠ 78 → a ≠ 88 → f a i = I a i) {x : Int32} (hx : ∀ i, bt x i = true → i < P) : PreC (eI f) R P x := by
  obtain ⟨hR, hP, hn, h46, h52, hcap, hsy, htg, h53, ho, hD⟩ := hk
  have e : ∀ a i, a ≠ 78 → a ≠ 88 → eI f a i = I a i := fun a i a1 a2 => (eI_o f a2 i).trans (hf a i a1 a2)
  refine ⟨hR, hP, by rw [e 46 0 (by decide) (by decide)]; exact h46, by rw [e 52 0 (by decide) (by decide)]; exact h52, hx, fun r hr i hi => ?_, fun r hr => ⟨?_, fun i j hi => ?_⟩, fun p q hp hq => ?_⟩
  · rw [eI_88 f (by omega), b_0] at hi; cases hi
  · obtain ⟨c, c1, c2⟩ := hcap r hr
    refine ⟨c, c1, ?_, ?_⟩
    · rw [← c2]; unfold capF
      rw [e 44 56 (by decide) (by decide), e 47 r (by decide) (by decide), e 48 r (by decide) (by decide)]
    · rw [eI_88 f (by omega), pct_0]; omega
  · rw [eI_88 f (by omega), b_0] at hi; cases hi
  · rw [e 62 p (by decide) (by decide), e 62 q (by decide) (by decide), e 63 p (by decide) (by decide), e 63 q (by decide) (by decide)]
    exact hsy p q hp hq
theorem same_tk {I f : Nat → Nat → Int32} (hf : ∀ a i, a ≠ 78 → a ≠ 88 → f a i = I a i) : sameM (eI f) (rmI I 4 0) := by
  refine ⟨fun a a1 a2 _ _ _ _ => ?_, ?_, fun i hi => ?_⟩
  · funext i
    rw [eI_o f (by omega), hf a i (by omega) (by omega)]
    show _ = (if a = 88 ∧ i < 4 then _ else I a i)
    rw [if_neg (fun q => by omega)]
  · rw [eI_o f (by decide), hf 44 56 (by decide) (by decide)]; rfl
  · rw [eI_88 f hi]
    show _ = (if 88 = 88 ∧ i < 4 then (if i = 4 then 0 else 0) else I 88 i)
    rw [if_pos ⟨rfl, hi⟩, if_neg (by omega)]
theorem b_grp {I : Nat → Nat → Int32} {P p i : Nat} (hP : P ≤ 24) (hT : Tg I P) (hp : p < P) : bt (grp I P p) i = true ↔ Rch I P (-1) p i := by
  unfold grp
  rw [b_mkB]
  exact ⟨fun a => a.2, fun a => ⟨by have := (Rch_in hT hp (m1_bt (by omega)) a).1; omega, a⟩⟩
theorem tkS_sub {I : Nat → Nat → Int32} {R P n : Nat} {o : Nat → Nat} (hk : TkOk I R P n o) : ∀ k, k ≤ n → ∀ i, bt (tkS I R P (amS o n) o k) i = true → bt (amS o n) i = true
  | 0, _, i, h => by
    have : tkS I R P (amS o n) o 0 = 0 := rfl
    rw [this, b_0] at h; cases h
  | k + 1, hkn, i, h => by
    obtain ⟨hR, hP, hn, h46, h52, hcap, hsy, htg, h53, ho, hD⟩ := id hk
    have ih := tkS_sub hk k (by omega) i
    have h' : bt (cif ((∀ j, j < k → ¬ Rch I P (-1) (o j) (o k)) ∧ cdS I R P (amS o n) (tkS I R P (amS o n) o k) (o k) = 0) (tkS I R P (amS o n) o k ||| grp I P (o k)) (tkS I R P (amS o n) o k)) i = true := h
    rcases Classical.em ((∀ j, j < k → ¬ Rch I P (-1) (o j) (o k)) ∧ cdS I R P (amS o n) (tkS I R P (amS o n) o k) (o k) = 0) with c | c
    · rw [cif_t c, b_or] at h'
      simp only [Bool.or_eq_true] at h'
      rcases h' with z | z
      · exact ih z
      · have hok := (ho k (by omega)).1
        rw [b_grp hP htg hok] at z
        have hnl : ¬ lacks I P (amS o n) (o k) := fun w => by
          have := c.2
          unfold cdS at this
          rw [cif_t w] at this
          exact absurd this (by decide)
        cases hb : bt (amS o n) i with
        | true => rfl
        | false => exact absurd ⟨i, z, hb⟩ hnl
    · rw [cif_f c] at h'
      exact ih h'
theorem pct_am {I : Nat → Nat → Int32} {R P n : Nat} {o : Nat → Nat} (hk : TkOk I R P n o) {x : Int32} (hx : ∀ i, bt x i = true → bt (amS o n) i = true) : pct x ≤ 17 := by
  obtain ⟨hR, hP, hn, h46, h52, hcap, hsy, htg, h53, ho, D, hD, hD2⟩ := id hk
  refine Nat.le_trans ?_ hD
  rw [pct_ct, pct_ct]
  apply fb_ct_sub
  intro i _ hi
  have := hx i hi
  rw [b_amS hP (fun j hj => (ho j hj).1)] at this
  obtain ⟨j, a, b⟩ := this
  rw [← b]; exact hD2 j a
