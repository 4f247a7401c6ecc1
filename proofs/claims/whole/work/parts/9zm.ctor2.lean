/-! ===== the reference: its constructor ===== -/
def li_Ma : List (Nat × Nat × Nat) := [(1, 13, 500), (3, 14, 4), (4, 14, 16), (5, 14, 16), (6, 14, 16), (7, 14, 16), (8, 14, 16), (9, 14, 4), (10, 14, 96), (11, 14, 96), (12, 14, 96), (13, 14, 96), (14, 14, 96), (15, 14, 96), (16, 14, 96), (17, 14, 96), (18, 14, 96), (19, 14, 96), (20, 14, 96), (21, 14, 4), (22, 14, 32), (23, 14, 32), (24, 14, 32), (25, 14, 32), (26, 14, 4), (27, 14, 64), (28, 14, 256), (29, 14, 256), (30, 14, 256), (31, 14, 64), (32, 14, 64), (33, 14, 4), (34, 14, 16000), (35, 14, 96), (36, 14, 96)]
def li_Mb : List (Nat × Nat × Nat) := [(47, 14, 17), (48, 14, 64), (49, 14, 64), (50, 14, 64), (51, 14, 17), (52, 14, 17), (54, 14, 24), (55, 14, 24), (57, 14, 4), (58, 15, 3)]
def x12A (h : Hp) (o : Nat) : Hp := mkA (pI (mkA h o li_Ma) o 44 (-1)) o li_Mb
/-- slept: -1 for those below k -/
def x12S (f : Mem) (k : Nat) : Mem := fun a i => if a = 60 ∧ i < k then -1 else f a i
def T_X12_init : Tr := fun av h Q => match av with
  | [.ref o] => o = 44 ∧ hT h = 45 ∧ hK h 44 = 12 ∧ Q none (wI (x12A h 44) (x12S (hI (x12A h 44)) 24))
  | _ => False
def L_X12_init : List UInt8 := [42, 183, 0, 1, 42, 17, 1, 244, 188, 8, 181, 0, 7, 42, 7, 188, 10, 181, 0, 13, 42, 16, 16, 188, 10, 181, 0, 17, 42, 16, 16, 188, 10, 181, 0, 20, 42, 16, 16, 188, 10, 181, 0, 23, 42, 16, 16, 188, 10, 181, 0, 26, 42, 16, 16, 188, 10, 181, 0, 29, 42, 7, 188, 10, 181, 0, 32, 42, 16, 96, 188, 10, 181, 0, 35, 42, 16, 96, 188, 10, 181, 0, 38, 42, 16, 96, 188, 10, 181, 0, 41, 42, 16, 96, 188, 10, 181, 0, 44, 42, 16, 96, 188, 10, 181, 0, 47, 42, 16, 96, 188, 10, 181, 0, 50, 42, 16, 96, 188, 10, 181, 0, 53, 42, 16, 96, 188, 10, 181, 0, 56, 42, 16, 96, 188, 10, 181, 0, 59, 42, 16, 96, 188, 10, 181, 0, 62, 42, 16, 96, 188, 10, 181, 0, 65, 42, 7, 188, 10, 181, 0, 68, 42, 16, 32, 188, 10, 181, 0, 71, 42, 16, 32, 188, 10, 181, 0, 74, 42, 16, 32, 188, 10, 181, 0, 77, 42, 16, 32, 188, 10, 181, 0, 80, 42, 7, 188, 10, 181, 0, 83, 42, 16, 64, 188, 10, 181, 0, 86, 42, 17, 1, 0, 188, 10, 181, 0, 89, 42, 17, 1, 0, 188, 10, 181, 0, 92, 42, 17, 1, 0, 188, 10, 181, 0, 95, 42, 16, 64, 188, 10, 181, 0, 98, 42, 16, 64, 188, 10, 181, 0, 101, 42, 7, 188, 10, 181, 0, 104, 42, 17, 62, 128, 188, 10, 181, 0, 107, 42, 16, 96, 188, 10, 181, 0, 110, 42, 16, 96, 188, 10, 181, 0, 113, 42, 2, 181, 0, 116, 42, 16, 17, 188, 10, 181, 0, 120, 42, 16, 64, 188, 10, 181, 0, 123, 42, 16, 64, 188, 10, 181, 0, 126, 42, 16, 64, 188, 10, 181, 0, 129, 42, 16, 17, 188, 10, 181, 0, 132, 42, 16, 17, 188, 10, 181, 0, 135, 42, 16, 24, 188, 10, 181, 0, 138, 42, 16, 24, 188, 10, 181, 0, 141, 42, 7, 188, 10, 181, 0, 144, 42, 6, 188, 4, 181, 0, 147, 3, 60, 27, 16, 24, 162, 0, 16, 42, 180, 0, 56, 27, 2, 79, 132, 1, 1, 167, 255, 240, 177]
theorem Lc_X12_init : MX12_init.2.1 = ⟨L_X12_init.toArray⟩ := rfl
theorem D_X12_init_0 : dseq MX12_init.2.1 0 [(.aload_n 0, 1), (.invokespecial 1, 3), (.aload_n 0, 1), (.sipush 500, 3), (.newarray .byte, 2), (.putfield 7, 3), (.aload_n 0, 1), (.iconst 4, 1), (.newarray .int, 2), (.putfield 13, 3), (.aload_n 0, 1), (.bipush 16, 2), (.newarray .int, 2), (.putfield 17, 3), (.aload_n 0, 1), (.bipush 16, 2), (.newarray .int, 2), (.putfield 20, 3), (.aload_n 0, 1), (.bipush 16, 2), (.newarray .int, 2), (.putfield 23, 3), (.aload_n 0, 1), (.bipush 16, 2), (.newarray .int, 2), (.putfield 26, 3), (.aload_n 0, 1), (.bipush 16, 2), (.newarray .int, 2), (.putfield 29, 3), (.aload_n 0, 1), (.iconst 4, 1), (.newarray .int, 2), (.putfield 32, 3), (.aload_n 0, 1), (.bipush 96, 2), (.newarray .int, 2), (.putfield 35, 3), (.aload_n 0, 1), (.bipush 96, 2), (.newarray .int, 2), (.putfield 38, 3), (.aload_n 0, 1), (.bipush 96, 2), (.newarray .int, 2), (.putfield 41, 3), (.aload_n 0, 1), (.bipush 96, 2), (.newarray .int, 2), (.putfield 44, 3), (.aload_n 0, 1), (.bipush 96, 2), (.newarray .int, 2), (.putfield 47, 3), (.aload_n 0, 1), (.bipush 96, 2), (.newarray .int, 2), (.putfield 50, 3), (.aload_n 0, 1), (.bipush 96, 2), (.newarray .int, 2), (.putfield 53, 3), (.aload_n 0, 1), (.bipush 96, 2), (.newarray .int, 2), (.putfield 56, 3), (.aload_n 0, 1), (.bipush 96, 2), (.newarray .int, 2), (.putfield 59, 3), (.aload_n 0, 1), (.bipush 96, 2), (.newarray .int, 2), (.putfield 62, 3), (.aload_n 0, 1), (.bipush 96, 2), (.newarray .int, 2), (.putfield 65, 3), (.aload_n 0, 1), (.iconst 4, 1), (.newarray .int, 2), (.putfield 68, 3), (.aload_n 0, 1), (.bipush 32, 2), (.newarray .int, 2), (.putfield 71, 3), (.aload_n 0, 1), (.bipush 32, 2), (.newarray .int, 2), (.putfield 74, 3), (.aload_n 0, 1), (.bipush 32, 2), (.newarray .int, 2), (.putfield 77, 3), (.aload_n 0, 1), (.bipush 32, 2), (.newarray .int, 2), (.putfield 80, 3), (.aload_n 0, 1), (.iconst 4, 1), (.newarray .int, 2), (.putfield 83, 3), (.aload_n 0, 1), (.bipush 64, 2), (.newarray .int, 2), (.putfield 86, 3), (.aload_n 0, 1), (.sipush 256, 3), (.newarray .int, 2), (.putfield 89, 3), (.aload_n 0, 1), (.sipush 256, 3), (.newarray .int, 2), (.putfield 92, 3), (.aload_n 0, 1), (.sipush 256, 3), (.newarray .int, 2), (.putfield 95, 3), (.aload_n 0, 1), (.bipush 64, 2), (.newarray .int, 2), (.putfield 98, 3), (.aload_n 0, 1), (.bipush 64, 2), (.newarray .int, 2), (.putfield 101, 3), (.aload_n 0, 1), (.iconst 4, 1), (.newarray .int, 2), (.putfield 104, 3), (.aload_n 0, 1), (.sipush 16000, 3), (.newarray .int, 2), (.putfield 107, 3), (.aload_n 0, 1), (.bipush 96, 2), (.newarray .int, 2), (.putfield 110, 3), (.aload_n 0, 1), (.bipush 96, 2), (.newarray .int, 2), (.putfield 113, 3), (.aload_n 0, 1), (.iconst (-1), 1), (.putfield 116, 3), (.aload_n 0, 1), (.bipush 17, 2), (.newarray .int, 2), (.putfield 120, 3), (.aload_n 0, 1), (.bipush 64, 2), (.newarray .int, 2), (.putfield 123, 3), (.aload_n 0, 1), (.bipush 64, 2), (.newarray .int, 2), (.putfield 126, 3), (.aload_n 0, 1), (.bipush 64, 2), (.newarray .int, 2), (.putfield 129, 3), (.aload_n 0, 1), (.bipush 17, 2), (.newarray .int, 2), (.putfield 132, 3), (.aload_n 0, 1), (.bipush 17, 2), (.newarray .int, 2), (.putfield 135, 3), (.aload_n 0, 1), (.bipush 24, 2), (.newarray .int, 2), (.putfield 138, 3), (.aload_n 0, 1), (.bipush 24, 2), (.newarray .int, 2), (.putfield 141, 3), (.aload_n 0, 1), (.iconst 4, 1), (.newarray .int, 2), (.putfield 144, 3), (.aload_n 0, 1), (.iconst 3, 1), (.newarray .boolean, 2), (.putfield 147, 3), (.iconst 0, 1), (.istore_n 1, 1)] := dq Lc_X12_init 0 _ (by decide +kernel)
theorem D_X12_init_369 : dseq MX12_init.2.1 369 [(.iload_n 1, 1), (.bipush 24, 2), (.if_icmp .ge 16, 3), (.aload_n 0, 1), (.getfield 56, 3), (.iload_n 1, 1), (.iconst (-1), 1), (.iastore, 1), (.iinc 1 1, 3), (.goto (-16), 3)] := dq Lc_X12_init 369 _ (by decide +kernel)
theorem D_X12_init_388 : dseq MX12_init.2.1 388 [(.return_, 1)] := dq Lc_X12_init 388 _ (by decide +kernel)
def b_X12_init_0 (Q : Option Value → Hp → Prop) : Kt := i_ald 0 (i_oini (i_ald 0 (i_push (.int 500) (i_newa 13 (i_putR 12 1 (i_ald 0 (i_push (.int 4) (i_newa 14 (i_putR 12 3 (i_ald 0 (i_push (.int 16) (i_newa 14 (i_putR 12 4 (i_ald 0 (i_push (.int 16) (i_newa 14 (i_putR 12 5 (i_ald 0 (i_push (.int 16) (i_newa 14 (i_putR 12 6 (i_ald 0 (i_push (.int 16) (i_newa 14 (i_putR 12 7 (i_ald 0 (i_push (.int 16) (i_newa 14 (i_putR 12 8 (i_ald 0 (i_push (.int 4) (i_newa 14 (i_putR 12 9 (i_ald 0 (i_push (.int 96) (i_newa 14 (i_putR 12 10 (i_ald 0 (i_push (.int 96) (i_newa 14 (i_putR 12 11 (i_ald 0 (i_push (.int 96) (i_newa 14 (i_putR 12 12 (i_ald 0 (i_push (.int 96) (i_newa 14 (i_putR 12 13 (i_ald 0 (i_push (.int 96) (i_newa 14 (i_putR 12 14 (i_ald 0 (i_push (.int 96) (i_newa 14 (i_putR 12 15 (i_ald 0 (i_push (.int 96) (i_newa 14 (i_putR 12 16 (i_ald 0 (i_push (.int 96) (i_newa 14 (i_putR 12 17 (i_ald 0 (i_push (.int 96) (i_newa 14 (i_putR 12 18 (i_ald 0 (i_push (.int 96) (i_newa 14 (i_putR 12 19 (i_ald 0 (i_push (.int 96) (i_newa 14 (i_putR 12 20 (i_ald 0 (i_push (.int 4) (i_newa 14 (i_putR 12 21 (i_ald 0 (i_push (.int 32) (i_newa 14 (i_putR 12 22 (i_ald 0 (i_push (.int 32) (i_newa 14 (i_putR 12 23 (i_ald 0 (i_push (.int 32) (i_newa 14 (i_putR 12 24 (i_ald 0 (i_push (.int 32) (i_newa 14 (i_putR 12 25 (i_ald 0 (i_push (.int 4) (i_newa 14 (i_putR 12 26 (i_ald 0 (i_push (.int 64) (i_newa 14 (i_putR 12 27 (i_ald 0 (i_push (.int 256) (i_newa 14 (i_putR 12 28 (i_ald 0 (i_push (.int 256) (i_newa 14 (i_putR 12 29 (i_ald 0 (i_push (.int 256) (i_newa 14 (i_putR 12 30 (i_ald 0 (i_push (.int 64) (i_newa 14 (i_putR 12 31 (i_ald 0 (i_push (.int 64) (i_newa 14 (i_putR 12 32 (i_ald 0 (i_push (.int 4) (i_newa 14 (i_putR 12 33 (i_ald 0 (i_push (.int 16000) (i_newa 14 (i_putR 12 34 (i_ald 0 (i_push (.int 96) (i_newa 14 (i_putR 12 35 (i_ald 0 (i_push (.int 96) (i_newa 14 (i_putR 12 36 (i_ald 0 (i_push (.int (-1)) (i_putI 12 44 (i_ald 0 (i_push (.int 17) (i_newa 14 (i_putR 12 47 (i_ald 0 (i_push (.int 64) (i_newa 14 (i_putR 12 48 (i_ald 0 (i_push (.int 64) (i_newa 14 (i_putR 12 49 (i_ald 0 (i_push (.int 64) (i_newa 14 (i_putR 12 50 (i_ald 0 (i_push (.int 17) (i_newa 14 (i_putR 12 51 (i_ald 0 (i_push (.int 17) (i_newa 14 (i_putR 12 52 (i_ald 0 (i_push (.int 24) (i_newa 14 (i_putR 12 54 (i_ald 0 (i_push (.int 24) (i_newa 14 (i_putR 12 55 (i_ald 0 (i_push (.int 4) (i_newa 14 (i_putR 12 57 (i_ald 0 (i_push (.int 3) (i_newa 15 (i_putR 12 58 (i_push (.int 0) (i_ist 1 (i_keep [true, true] (wp 1 MX12_init Q 369))))))))))))))))))))))))))))))))))))))))))))))))))))))))))))))))))))))))))))))))))))))))))))))))))))))))))))))))))))))))))))))))))))))))))))))))))))))))))))))))))))))))))))))))))))))))))))
set_option maxRecDepth 100000 in
theorem s_X12_init_0 (Q : Option Value → Hp → Prop) : ∀ A st h, b_X12_init_0 Q A st h → wp 1 MX12_init Q 0 A st h := (q1 (s_aldn (n := 0) (i := 0) rfl) D_X12_init_0 fun D => (qO (s_oini (ch_5_1_ok.2.2.2.2.2.2.2.2.2.1.1 rfl) w_oi2 w_oi3) rfl (by decide) D fun D => (q1 (s_aldn (n := 0) (i := 0) rfl) D fun D => (q1 (s_sipush (n := 500) (v := 500) (by decide)) D fun D => (q1 na_byte D fun D => (qP pl_X12_7 rfl (Or.inr rfl) D fun D => (q1 (s_aldn (n := 0) (i := 0) rfl) D fun D => (q1 (s_iconst (n := 4) (v := 4) (by decide)) D fun D => (q1 na_int D fun D => (qP pl_X12_13 rfl (Or.inr rfl) D fun D => (q1 (s_aldn (n := 0) (i := 0) rfl) D fun D => (q1 (s_bipush (n := 16) (v := 16) (by decide)) D fun D => (q1 na_int D fun D => (qP pl_X12_17 rfl (Or.inr rfl) D fun D => (q1 (s_aldn (n := 0) (i := 0) rfl) D fun D => (q1 (s_bipush (n := 16) (v := 16) (by decide)) D fun D => (q1 na_int D fun D => (qP pl_X12_20 rfl (Or.inr rfl) D fun D => (q1 (s_aldn (n := 0) (i := 0) rfl) D fun D => (q1 (s_bipush (n := 16) (v := 16) (by decide)) D fun D => (q1 na_int D fun D => (qP pl_X12_23 rfl (Or.inr rfl) D fun D => (q1 (s_aldn (n := 0) (i := 0) rfl) D fun D => (q1 (s_bipush (n := 16) (v := 16) (by decide)) D fun D => (q1 na_int D fun D => (qP pl_X12_26 rfl (Or.inr rfl) D fun D => (q1 (s_aldn (n := 0) (i := 0) rfl) D fun D => (q1 (s_bipush (n := 16) (v := 16) (by decide)) D fun D => (q1 na_int D fun D => (qP pl_X12_29 rfl (Or.inr rfl) D fun D => (q1 (s_aldn (n := 0) (i := 0) rfl) D fun D => (q1 (s_iconst (n := 4) (v := 4) (by decide)) D fun D => (q1 na_int D fun D => (qP pl_X12_32 rfl (Or.inr rfl) D fun D => (q1 (s_aldn (n := 0) (i := 0) rfl) D fun D => (q1 (s_bipush (n := 96) (v := 96) (by decide)) D fun D => (q1 na_int D fun D => (qP pl_X12_35 rfl (Or.inr rfl) D fun D => (q1 (s_aldn (n := 0) (i := 0) rfl) D fun D => (q1 (s_bipush (n := 96) (v := 96) (by decide)) D fun D => (q1 na_int D fun D => (qP pl_X12_38 rfl (Or.inr rfl) D fun D => (q1 (s_aldn (n := 0) (i := 0) rfl) D fun D => (q1 (s_bipush (n := 96) (v := 96) (by decide)) D fun D => (q1 na_int D fun D => (qP pl_X12_41 rfl (Or.inr rfl) D fun D => (q1 (s_aldn (n := 0) (i := 0) rfl) D fun D => (q1 (s_bipush (n := 96) (v := 96) (by decide)) D fun D => (q1 na_int D fun D => (qP pl_X12_44 rfl (Or.inr rfl) D fun D => (q1 (s_aldn (n := 0) (i := 0) rfl) D fun D => (q1 (s_bipush (n := 96) (v := 96) (by decide)) D fun D => (q1 na_int D fun D => (qP pl_X12_47 rfl (Or.inr rfl) D fun D => (q1 (s_aldn (n := 0) (i := 0) rfl) D fun D => (q1 (s_bipush (n := 96) (v := 96) (by decide)) D fun D => (q1 na_int D fun D => (qP pl_X12_50 rfl (Or.inr rfl) D fun D => (q1 (s_aldn (n := 0) (i := 0) rfl) D fun D => (q1 (s_bipush (n := 96) (v := 96) (by decide)) D fun D => (q1 na_int D fun D => (qP pl_X12_53 rfl (Or.inr rfl) D fun D => (q1 (s_aldn (n := 0) (i := 0) rfl) D fun D => (q1 (s_bipush (n := 96) (v := 96) (by decide)) D fun D => (q1 na_int D fun D => (qP pl_X12_56 rfl (Or.inr rfl) D fun D => (q1 (s_aldn (n := 0) (i := 0) rfl) D fun D => (q1 (s_bipush (n := 96) (v := 96) (by decide)) D fun D => (q1 na_int D fun D => (qP pl_X12_59 rfl (Or.inr rfl) D fun D => (q1 (s_aldn (n := 0) (i := 0) rfl) D fun D => (q1 (s_bipush (n := 96) (v := 96) (by decide)) D fun D => (q1 na_int D fun D => (qP pl_X12_62 rfl (Or.inr rfl) D fun D => (q1 (s_aldn (n := 0) (i := 0) rfl) D fun D => (q1 (s_bipush (n := 96) (v := 96) (by decide)) D fun D => (q1 na_int D fun D => (qP pl_X12_65 rfl (Or.inr rfl) D fun D => (q1 (s_aldn (n := 0) (i := 0) rfl) D fun D => (q1 (s_iconst (n := 4) (v := 4) (by decide)) D fun D => (q1 na_int D fun D => (qP pl_X12_68 rfl (Or.inr rfl) D fun D => (q1 (s_aldn (n := 0) (i := 0) rfl) D fun D => (q1 (s_bipush (n := 32) (v := 32) (by decide)) D fun D => (q1 na_int D fun D => (qP pl_X12_71 rfl (Or.inr rfl) D fun D => (q1 (s_aldn (n := 0) (i := 0) rfl) D fun D => (q1 (s_bipush (n := 32) (v := 32) (by decide)) D fun D => (q1 na_int D fun D => (qP pl_X12_74 rfl (Or.inr rfl) D fun D => (q1 (s_aldn (n := 0) (i := 0) rfl) D fun D => (q1 (s_bipush (n := 32) (v := 32) (by decide)) D fun D => (q1 na_int D fun D => (qP pl_X12_77 rfl (Or.inr rfl) D fun D => (q1 (s_aldn (n := 0) (i := 0) rfl) D fun D => (q1 (s_bipush (n := 32) (v := 32) (by decide)) D fun D => (q1 na_int D fun D => (qP pl_X12_80 rfl (Or.inr rfl) D fun D => (q1 (s_aldn (n := 0) (i := 0) rfl) D fun D => (q1 (s_iconst (n := 4) (v := 4) (by decide)) D fun D => (q1 na_int D fun D => (qP pl_X12_83 rfl (Or.inr rfl) D fun D => (q1 (s_aldn (n := 0) (i := 0) rfl) D fun D => (q1 (s_bipush (n := 64) (v := 64) (by decide)) D fun D => (q1 na_int D fun D => (qP pl_X12_86 rfl (Or.inr rfl) D fun D => (q1 (s_aldn (n := 0) (i := 0) rfl) D fun D => (q1 (s_sipush (n := 256) (v := 256) (by decide)) D fun D => (q1 na_int D fun D => (qP pl_X12_89 rfl (Or.inr rfl) D fun D => (q1 (s_aldn (n := 0) (i := 0) rfl) D fun D => (q1 (s_sipush (n := 256) (v := 256) (by decide)) D fun D => (q1 na_int D fun D => (qP pl_X12_92 rfl (Or.inr rfl) D fun D => (q1 (s_aldn (n := 0) (i := 0) rfl) D fun D => (q1 (s_sipush (n := 256) (v := 256) (by decide)) D fun D => (q1 na_int D fun D => (qP pl_X12_95 rfl (Or.inr rfl) D fun D => (q1 (s_aldn (n := 0) (i := 0) rfl) D fun D => (q1 (s_bipush (n := 64) (v := 64) (by decide)) D fun D => (q1 na_int D fun D => (qP pl_X12_98 rfl (Or.inr rfl) D fun D => (q1 (s_aldn (n := 0) (i := 0) rfl) D fun D => (q1 (s_bipush (n := 64) (v := 64) (by decide)) D fun D => (q1 na_int D fun D => (qP pl_X12_101 rfl (Or.inr rfl) D fun D => (q1 (s_aldn (n := 0) (i := 0) rfl) D fun D => (q1 (s_iconst (n := 4) (v := 4) (by decide)) D fun D => (q1 na_int D fun D => (qP pl_X12_104 rfl (Or.inr rfl) D fun D => (q1 (s_aldn (n := 0) (i := 0) rfl) D fun D => (q1 (s_sipush (n := 16000) (v := 16000) (by decide)) D fun D => (q1 na_int D fun D => (qP pl_X12_107 rfl (Or.inr rfl) D fun D => (q1 (s_aldn (n := 0) (i := 0) rfl) D fun D => (q1 (s_bipush (n := 96) (v := 96) (by decide)) D fun D => (q1 na_int D fun D => (qP pl_X12_110 rfl (Or.inr rfl) D fun D => (q1 (s_aldn (n := 0) (i := 0) rfl) D fun D => (q1 (s_bipush (n := 96) (v := 96) (by decide)) D fun D => (q1 na_int D fun D => (qP pl_X12_113 rfl (Or.inr rfl) D fun D => (q1 (s_aldn (n := 0) (i := 0) rfl) D fun D => (q1 (s_iconst (n := (-1)) (v := (-1)) (by decide)) D fun D => (qP pl_X12_116 rfl (Or.inl rfl) D fun D => (q1 (s_aldn (n := 0) (i := 0) rfl) D fun D => (q1 (s_bipush (n := 17) (v := 17) (by decide)) D fun D => (q1 na_int D fun D => (qP pl_X12_120 rfl (Or.inr rfl) D fun D => (q1 (s_aldn (n := 0) (i := 0) rfl) D fun D => (q1 (s_bipush (n := 64) (v := 64) (by decide)) D fun D => (q1 na_int D fun D => (qP pl_X12_123 rfl (Or.inr rfl) D fun D => (q1 (s_aldn (n := 0) (i := 0) rfl) D fun D => (q1 (s_bipush (n := 64) (v := 64) (by decide)) D fun D => (q1 na_int D fun D => (qP pl_X12_126 rfl (Or.inr rfl) D fun D => (q1 (s_aldn (n := 0) (i := 0) rfl) D fun D => (q1 (s_bipush (n := 64) (v := 64) (by decide)) D fun D => (q1 na_int D fun D => (qP pl_X12_129 rfl (Or.inr rfl) D fun D => (q1 (s_aldn (n := 0) (i := 0) rfl) D fun D => (q1 (s_bipush (n := 17) (v := 17) (by decide)) D fun D => (q1 na_int D fun D => (qP pl_X12_132 rfl (Or.inr rfl) D fun D => (q1 (s_aldn (n := 0) (i := 0) rfl) D fun D => (q1 (s_bipush (n := 17) (v := 17) (by decide)) D fun D => (q1 na_int D fun D => (qP pl_X12_135 rfl (Or.inr rfl) D fun D => (q1 (s_aldn (n := 0) (i := 0) rfl) D fun D => (q1 (s_bipush (n := 24) (v := 24) (by decide)) D fun D => (q1 na_int D fun D => (qP pl_X12_138 rfl (Or.inr rfl) D fun D => (q1 (s_aldn (n := 0) (i := 0) rfl) D fun D => (q1 (s_bipush (n := 24) (v := 24) (by decide)) D fun D => (q1 na_int D fun D => (qP pl_X12_141 rfl (Or.inr rfl) D fun D => (q1 (s_aldn (n := 0) (i := 0) rfl) D fun D => (q1 (s_iconst (n := 4) (v := 4) (by decide)) D fun D => (q1 na_int D fun D => (qP pl_X12_144 rfl (Or.inr rfl) D fun D => (q1 (s_aldn (n := 0) (i := 0) rfl) D fun D => (q1 (s_iconst (n := 3) (v := 3) (by decide)) D fun D => (q1 na_boolean D fun D => (qP pl_X12_147 rfl (Or.inr rfl) D fun D => (q1 (s_iconst (n := 0) (v := 0) (by decide)) D fun D => (qL (s_istn (n := 1) (i := 1) rfl) (by decide) D fun D => (s_keep [true, true] fun _ _ _ h => h))))))))))))))))))))))))))))))))))))))))))))))))))))))))))))))))))))))))))))))))))))))))))))))))))))))))))))))))))))))))))))))))))))))))))))))))))))))))))))))))))))))))))))))))))))))))))))
def b_X12_init_369 (Q : Option Value → Hp → Prop) : Kt := i_ild 1 (i_push (.int 24) (i_cmp (fun x y => y ≤ x) (i_vret Q) (i_ald 0 (i_getR 12 17 (i_ild 1 (i_push (.int (-1)) (i_iast (i_inc 1 1 (i_keep [true, true] (wp 1 MX12_init Q 369))))))))))
set_option maxRecDepth 100000 in
theorem s_X12_init_369 (Q : Option Value → Hp → Prop) : ∀ A st h, b_X12_init_369 Q A st h → wp 1 MX12_init Q 369 A st h := (q1 (s_ildn (n := 1) (i := 1) rfl) D_X12_init_369 fun D => (q1 (s_bipush (n := 24) (v := 24) (by decide)) D fun D => (qB s_cmpge 388 (by decide) D (qV rfl D_X12_init_388) fun D => (q1 (s_aldn (n := 0) (i := 0) rfl) D fun D => (qC fl_X12_56 rfl D fun D => (q1 (s_ildn (n := 1) (i := 1) rfl) D fun D => (q1 (s_iconst (n := (-1)) (v := (-1)) (by decide)) D fun D => (q1 s_iast D fun D => (qL (s_inc (i := 1) (n := 1) (v := 1) (by decide)) (by decide) D fun D => (qG 369 (by decide) D (s_keep [true, true] fun _ _ _ h => h)))))))))))

theorem mk1 {h : Hp} {o k j n : Nat} {v : Int32} {K : Kt} (w : o < hT h ∧ hK h o = 12) (hv : ¬ v < 0 ∧ v.toNatClampNeg = n ∧ n ≤ 100000) (hk : (o < hT (pR (nC h k n) o j (some (hT h))) ∧ hK (pR (nC h k n) o j (some (hT h))) o = 12) → K [some (.ref o), none] [] (pR (nC h k n) o j (some (hT h)))) : i_ald 0 (i_push (.int v) (i_newa k (i_putR 12 j K))) [some (.ref o), none] [] h := by
  obtain ⟨w1, w2⟩ := w
  obtain ⟨v1, rfl, v3⟩ := hv
  have p : o < hT h + 1 := by omega
  have ne : ¬ o = hT h := by omega
  have hk' := hk ⟨by rw [hT_pR, hT_nC]; exact p, by rw [hK_pR, hK_nC, if_neg ne]; exact w2⟩
  clear hk
  simp only [i_ald, i_push, i_newa, i_putR, lget, v1, v3, hT_nC, hK_nC, p, ne, w2, if_false, not_false_eq_true, true_and]
  exact hk'
theorem mkI {h : Hp} {o j : Nat} {v : Int32} {K : Kt} (w : o < hT h ∧ hK h o = 12) (hk : (o < hT (pI h o j v) ∧ hK (pI h o j v) o = 12) → K [some (.ref o), none] [] (pI h o j v)) : i_ald 0 (i_push (.int v) (i_putI 12 j K)) [some (.ref o), none] [] h := by
  obtain ⟨w1, w2⟩ := w
  have hk' := hk ⟨w1, w2⟩
  clear hk
  simp only [i_ald, i_push, i_putI, lget, w1, w2, true_and]
  exact hk'
set_option maxRecDepth 100000 in
theorem x12_0 (Q : Option Value → Hp → Prop) (h : Hp) (o : Nat) (w : o < hT h ∧ hK h o = 12) (hq : wp 1 MX12_init Q 369 [some (.ref o), some (.int 0)] [] (x12A h o)) : b_X12_init_0 Q [some (.ref o), none] [] h := by
  unfold b_X12_init_0
  show i_ald 0 (i_oini _) _ _ _
  have hgo : ∀ {K : Kt}, K [some (.ref o), none] [] h → i_ald 0 (i_oini K) [some (.ref o), none] [] h := fun hK => by
    simp only [i_ald, i_oini, lget]
    exact ⟨by decide, hK⟩
  refine hgo ?_
  unfold x12A li_Ma li_Mb at hq
  refine mk1 (n := 500) w (by decide) (fun w => ?_)
  refine mk1 (n := 4) w (by decide) (fun w => ?_)
  refine mk1 (n := 16) w (by decide) (fun w => ?_)
  refine mk1 (n := 16) w (by decide) (fun w => ?_)
  refine mk1 (n := 16) w (by decide) (fun w => ?_)
  refine mk1 (n := 16) w (by decide) (fun w => ?_)
  refine mk1 (n := 16) w (by decide) (fun w => ?_)
  refine mk1 (n := 4) w (by decide) (fun w => ?_)
  refine mk1 (n := 96) w (by decide) (fun w => ?_)
  refine mk1 (n := 96) w (by decide) (fun w => ?_)
  refine mk1 (n := 96) w (by decide) (fun w => ?_)
  refine mk1 (n := 96) w (by decide) (fun w => ?_)
  refine mk1 (n := 96) w (by decide) (fun w => ?_)
  refine mk1 (n := 96) w (by decide) (fun w => ?_)
  refine mk1 (n := 96) w (by decide) (fun w => ?_)
  refine mk1 (n := 96) w (by decide) (fun w => ?_)
  refine mk1 (n := 96) w (by decide) (fun w => ?_)
  refine mk1 (n := 96) w (by decide) (fun w => ?_)
  refine mk1 (n := 96) w (by decide) (fun w => ?_)
  refine mk1 (n := 4) w (by decide) (fun w => ?_)
  refine mk1 (n := 32) w (by decide) (fun w => ?_)
  refine mk1 (n := 32) w (by decide) (fun w => ?_)
  refine mk1 (n := 32) w (by decide) (fun w => ?_)
  refine mk1 (n := 32) w (by decide) (fun w => ?_)
  refine mk1 (n := 4) w (by decide) (fun w => ?_)
  refine mk1 (n := 64) w (by decide) (fun w => ?_)
  refine mk1 (n := 256) w (by decide) (fun w => ?_)
  refine mk1 (n := 256) w (by decide) (fun w => ?_)
  refine mk1 (n := 256) w (by decide) (fun w => ?_)
  refine mk1 (n := 64) w (by decide) (fun w => ?_)
  refine mk1 (n := 64) w (by decide) (fun w => ?_)
  refine mk1 (n := 4) w (by decide) (fun w => ?_)
  refine mk1 (n := 16000) w (by decide) (fun w => ?_)
  refine mk1 (n := 96) w (by decide) (fun w => ?_)
  refine mk1 (n := 96) w (by decide) (fun w => ?_)
  refine mkI w (fun w => ?_)
  refine mk1 (n := 17) w (by decide) (fun w => ?_)
  refine mk1 (n := 64) w (by decide) (fun w => ?_)
  refine mk1 (n := 64) w (by decide) (fun w => ?_)
  refine mk1 (n := 64) w (by decide) (fun w => ?_)
  refine mk1 (n := 17) w (by decide) (fun w => ?_)
  refine mk1 (n := 17) w (by decide) (fun w => ?_)
  refine mk1 (n := 24) w (by decide) (fun w => ?_)
  refine mk1 (n := 24) w (by decide) (fun w => ?_)
  refine mk1 (n := 4) w (by decide) (fun w => ?_)
  refine mk1 (n := 3) w (by decide) (fun w => ?_)
  exact hq
set_option maxRecDepth 100000 in
theorem x12_369 (Q : Option Value → Hp → Prop) (X : Hp) (hl : LayM X) (hq : Q none (wI X (x12S (hI X) 24))) : ∀ m k, m = 24 - k → k ≤ 24 → wp 1 MX12_init Q 369 [some (.ref 44), some (.int (nI k))] [] (wI X (x12S (hI X) k)) := by
  have e24 : (24 : Int32) = nI 24 := rfl
  intro m
  induction m with
  | zero =>
    intro k hm hk
    have e : k = 24 := by omega
    subst e
    refine s_X12_init_369 Q _ _ _ ?_
    generalize wI X (x12S (hI X) 24) = Y at hq ⊢
    simp only [b_X12_init_369, i_push, i_ild, i_ald, i_ist, i_ast, i_inc, i_bin, i_un, i_divs, i_i2l, i_lshl, i_lor, i_dup, i_dup2, i_pop, i_if, i_cmp, i_nul, i_vret, i_iret, i_zret, i_aret, i_keep, keep, lget, lset, ent, i_getI, i_getJ, i_getR, i_getN, i_putI, i_putZ, i_putJ, i_putR, i_iald, i_bald, i_alen, i_aald, i_iast, i_bast, i_aast, i_new, i_newa, i_anew, i_oini, i_callS, i_callV, i_callI, popn, sh4, i_sw, swP, i_copy, i_binS, List.map, Option.toList_none, Option.toList_some, List.append, List.nil_append, List.cons_append, List.length_cons, List.length_nil, List.replicate, Nat.sub_self, Nat.reduceSub, Nat.reduceAdd, hK_pI, hL_pI, hI_pI, hR_pI, hJ_pI, hT_pI, hS_pI, hK_pR, hL_pR, hI_pR, hR_pR, hJ_pR, hT_pR, hS_pR, hK_pJ, hL_pJ, hI_pJ, hR_pJ, hJ_pJ, hT_pJ, hS_pJ, hK_wI, hL_wI, hI_wI, hR_wI, hJ_wI, hT_wI, hS_wI, eq_self, and_true, true_and, and_false, false_and, or_true, true_or, or_false, false_or, if_true, if_false, not_true_eq_false, not_false_eq_true, forall_const, implies_true, false_implies, true_implies, Option.some.injEq, forall_eq', exists_eq_left', reduceCtorEq, Nat.reduceEqDiff, c1, T_X12_in, T_X12_ones, T_X11_within, T_X11_bit, T_X11_isIn, T_X11_oneIfIn, T_J6_bitCount_0f7a4, e24]
    exact ⟨fun _ => hq, fun z => absurd (nI_le (Nat.le_refl _) (by omega)) z⟩
  | succ m ih =>
    intro k hm hk
    have hgo := ih (k + 1) (by omega) (by omega)
    have hs : wI X (x12S (hI X) (k + 1)) = pI (wI X (x12S (hI X) k)) 60 k (-1) := by
      show wI X (x12S (hI X) (k + 1)) = wI X (u2 (x12S (hI X) k) 60 k (-1))
      congr 1
      funext a i
      unfold u2 x12S
      by_cases c : a = 60 ∧ i = k
      · rw [if_pos ⟨c.1, by omega⟩, if_pos c]
      · rw [if_neg c]
        by_cases c2 : a = 60 ∧ i < k
        · rw [if_pos ⟨c2.1, by omega⟩, if_pos c2]
        · rw [if_neg (by omega), if_neg c2]
    rw [hs] at hgo
    have hl2 : LayM (wI X (x12S (hI X) k)) := hl
    refine s_X12_init_369 Q _ _ _ ?_
    generalize wI X (x12S (hI X) k) = Y at hgo hl2 ⊢
    have hl := hl2
    simp only [b_X12_init_369, hl, lay_pI, lay_wI, lay_pJ, lm_t hl, lm_k hl, lm_r hl, lm_l hl, i_push, i_ild, i_ald, i_ist, i_ast, i_inc, i_bin, i_un, i_divs, i_i2l, i_lshl, i_lor, i_dup, i_dup2, i_pop, i_if, i_cmp, i_nul, i_vret, i_iret, i_zret, i_aret, i_keep, keep, lget, lset, ent, i_getI, i_getJ, i_getR, i_getN, i_putI, i_putZ, i_putJ, i_putR, i_iald, i_bald, i_alen, i_aald, i_iast, i_bast, i_aast, i_new, i_newa, i_anew, i_oini, i_callS, i_callV, i_callI, popn, sh4, i_sw, swP, i_copy, i_binS, List.map, Option.toList_none, Option.toList_some, List.append, List.nil_append, List.cons_append, List.length_cons, List.length_nil, List.replicate, Nat.sub_self, Nat.reduceSub, Nat.reduceAdd, hK_pI, hL_pI, hI_pI, hR_pI, hJ_pI, hT_pI, hS_pI, hK_pR, hL_pR, hI_pR, hR_pR, hJ_pR, hT_pR, hS_pR, hK_pJ, hL_pJ, hI_pJ, hR_pJ, hJ_pJ, hT_pJ, hS_pJ, hK_wI, hL_wI, hI_wI, hR_wI, hJ_wI, hT_wI, hS_wI, eq_self, and_true, true_and, and_false, false_and, or_true, true_or, or_false, false_or, if_true, if_false, not_true_eq_false, not_false_eq_true, forall_const, implies_true, false_implies, true_implies, Option.some.injEq, forall_eq', exists_eq_left', reduceCtorEq, Nat.reduceEqDiff, c1, T_X12_in, T_X12_ones, T_X11_within, T_X11_bit, T_X11_isIn, T_X11_oneIfIn, T_J6_bitCount_0f7a4, e24, cl_nI (show k < 2147483648 by omega), in_nI (show k < 96 by omega) (by decide), nI_1]
    exact ⟨fun z => absurd z (nI_ge (by omega) (by omega)), fun _ => hgo⟩
theorem x12A_lay {h : Hp} (h1 : hT h = 45) (h2 : hK h 44 = 12) : LayM (x12A h 44) := by
  have hA := mkA_T li_Ma h 44
  have lA : li_Ma.length = 35 := rfl
  have lB : li_Mb.length = 10 := rfl
  have tA : hT (pI (mkA h 44 li_Ma) 44 44 (-1)) = 80 := by rw [hT_pI, hA, h1, lA]
  have nA := fun t j k n hl => mkA_new li_Ma h 44 t j k n (by omega) (by decide) hl
  have nB := fun t j k n hl => mkA_new li_Mb (pI (mkA h 44 li_Ma) 44 44 (-1)) 44 t j k n (by omega) (by decide) hl
  have oB := fun a ha => mkA_old li_Mb (pI (mkA h 44 li_Ma) 44 44 (-1)) 44 a ha
  rw [h1] at nA
  rw [tA] at nB oB
  have k44 : hK (x12A h 44) 44 = 12 := by
    unfold x12A
    rw [(oB 44 (by decide)).1, hK_pI, (mkA_old li_Ma h 44 44 (by omega)).1]; exact h2
  have fA : ∀ t j k n, li_Ma[t]? = some (j, k, n) → 45 + t < 80 → (∀ q ∈ li_Mb, q.1 ≠ j) → hK (x12A h 44) (45 + t) = k ∧ hL (x12A h 44) (45 + t) = n ∧ hR (x12A h 44) 44 j = some (45 + t) := fun t j k n hl ht hj => by
    obtain ⟨g1, g2, g3, g4⟩ := nA t j k n hl
    obtain ⟨o1, o2, _⟩ := oB (45 + t) ht
    obtain ⟨_, _, _, _, o5⟩ := oB 44 (by decide)
    unfold x12A
    refine ⟨?_, ?_, ?_⟩
    · rw [o1, hK_pI]; exact g1
    · rw [o2, hL_pI]; exact g2
    · rw [o5 j (Or.inr hj), hR_pI]; exact g4
  have fB : ∀ t j k n, li_Mb[t]? = some (j, k, n) → hK (x12A h 44) (80 + t) = k ∧ hL (x12A h 44) (80 + t) = n ∧ hR (x12A h 44) 44 j = some (80 + t) := fun t j k n hl => by
    obtain ⟨g1, g2, g3, g4⟩ := nB t j k n hl
    exact ⟨g1, g2, g4⟩
  have a45 := fA 0 1 13 500 rfl (by decide) (by decide)
  have a46 := fA 1 3 14 4 rfl (by decide) (by decide)
  have a47 := fA 2 4 14 16 rfl (by decide) (by decide)
  have a48 := fA 3 5 14 16 rfl (by decide) (by decide)
  have a49 := fA 4 6 14 16 rfl (by decide) (by decide)
  have a50 := fA 5 7 14 16 rfl (by decide) (by decide)
  have a51 := fA 6 8 14 16 rfl (by decide) (by decide)
  have a52 := fA 7 9 14 4 rfl (by decide) (by decide)
  have a53 := fA 8 10 14 96 rfl (by decide) (by decide)
  have a54 := fA 9 11 14 96 rfl (by decide) (by decide)
  have a55 := fA 10 12 14 96 rfl (by decide) (by decide)
  have a56 := fA 11 13 14 96 rfl (by decide) (by decide)
  have a57 := fA 12 14 14 96 rfl (by decide) (by decide)
  have a58 := fA 13 15 14 96 rfl (by decide) (by decide)
  have a59 := fA 14 16 14 96 rfl (by decide) (by decide)
  have a60 := fA 15 17 14 96 rfl (by decide) (by decide)
  have a61 := fA 16 18 14 96 rfl (by decide) (by decide)
  have a62 := fA 17 19 14 96 rfl (by decide) (by decide)
  have a63 := fA 18 20 14 96 rfl (by decide) (by decide)
  have a64 := fA 19 21 14 4 rfl (by decide) (by decide)
  have a65 := fA 20 22 14 32 rfl (by decide) (by decide)
  have a66 := fA 21 23 14 32 rfl (by decide) (by decide)
  have a67 := fA 22 24 14 32 rfl (by decide) (by decide)
  have a68 := fA 23 25 14 32 rfl (by decide) (by decide)
  have a69 := fA 24 26 14 4 rfl (by decide) (by decide)
  have a70 := fA 25 27 14 64 rfl (by decide) (by decide)
  have a71 := fA 26 28 14 256 rfl (by decide) (by decide)
  have a72 := fA 27 29 14 256 rfl (by decide) (by decide)
  have a73 := fA 28 30 14 256 rfl (by decide) (by decide)
  have a74 := fA 29 31 14 64 rfl (by decide) (by decide)
  have a75 := fA 30 32 14 64 rfl (by decide) (by decide)
  have a76 := fA 31 33 14 4 rfl (by decide) (by decide)
  have a77 := fA 32 34 14 16000 rfl (by decide) (by decide)
  have a78 := fA 33 35 14 96 rfl (by decide) (by decide)
  have a79 := fA 34 36 14 96 rfl (by decide) (by decide)
  have a80 := fB 0 47 14 17 rfl
  have a81 := fB 1 48 14 64 rfl
  have a82 := fB 2 49 14 64 rfl
  have a83 := fB 3 50 14 64 rfl
  have a84 := fB 4 51 14 17 rfl
  have a85 := fB 5 52 14 17 rfl
  have a86 := fB 6 54 14 24 rfl
  have a87 := fB 7 55 14 24 rfl
  have a88 := fB 8 57 14 4 rfl
  have a89 := fB 9 58 15 3 rfl
  have tt : hT (x12A h 44) = 90 := by unfold x12A; rw [mkA_T, tA, lB]
  refine ⟨by rw [tt]; decide, ⟨k44, a45.1, a46.1, a47.1, a48.1, a49.1, a50.1, a51.1, a52.1, a53.1, a54.1, a55.1, a56.1, a57.1, a58.1, a59.1, a60.1, a61.1, a62.1, a63.1, a64.1, a65.1, a66.1, a67.1, a68.1, a69.1, a70.1, a71.1, a72.1, a73.1, a74.1, a75.1, a76.1, a77.1, a78.1, a79.1, a80.1, a81.1, a82.1, a83.1, a84.1, a85.1, a86.1, a87.1, a88.1, a89.1⟩, ⟨a45.2.2, a46.2.2, a47.2.2, a48.2.2, a49.2.2, a50.2.2, a51.2.2, a52.2.2, a53.2.2, a54.2.2, a55.2.2, a56.2.2, a57.2.2, a58.2.2, a59.2.2, a60.2.2, a61.2.2, a62.2.2, a63.2.2, a64.2.2, a65.2.2, a66.2.2, a67.2.2, a68.2.2, a69.2.2, a70.2.2, a71.2.2, a72.2.2, a73.2.2, a74.2.2, a75.2.2, a76.2.2, a77.2.2, a78.2.2, a79.2.2, a80.2.2, a81.2.2, a82.2.2, a83.2.2, a84.2.2, a85.2.2, a86.2.2, a87.2.2, a88.2.2, a89.2.2⟩, a45.2.1, a46.2.1, a47.2.1, a48.2.1, a49.2.1, a50.2.1, a51.2.1, a52.2.1, a53.2.1, a54.2.1, a55.2.1, a56.2.1, a57.2.1, a58.2.1, a59.2.1, a60.2.1, a61.2.1, a62.2.1, a63.2.1, a64.2.1, a65.2.1, a66.2.1, a67.2.1, a68.2.1, a69.2.1, a70.2.1, a71.2.1, a72.2.1, a73.2.1, a74.2.1, a75.2.1, a76.2.1, a77.2.1, a78.2.1, a79.2.1, a80.2.1, a81.2.1, a82.2.1, a83.2.1, a84.2.1, a85.2.1, a86.2.1, a87.2.1, a88.2.1, a89.2.1⟩
set_option maxRecDepth 100000 in
set_option maxHeartbeats 4000000 in
theorem ok_X12_init : ctr 1 MX12_init T_X12_init := by
  refine ctr_of pn_X12 wc_X12_init (fun av h Q hT => ?_)
  unfold T_X12_init at hT
  split at hT
  · rename_i o
    refine ⟨⟨by simp [Value.category], Nat.le_of_ble_eq_true rfl⟩, s_X12_init_0 Q _ _ _ ?_⟩
    obtain ⟨rfl, h1, h2, hq⟩ := hT
    have hl := x12A_lay h1 h2
    refine x12_0 Q h 44 ⟨by omega, h2⟩ ?_
    have h0 : wI (x12A h 44) (x12S (hI (x12A h 44)) 0) = x12A h 44 := by
      have e : x12S (hI (x12A h 44)) 0 = hI (x12A h 44) := by
        funext a i
        unfold x12S
        rw [if_neg (by omega)]
      rw [e]; rfl
    have := x12_369 Q (x12A h 44) hl hq 24 0 (by omega) (by omega)
    rw [h0] at this
    exact this
  · exact hT.elim
