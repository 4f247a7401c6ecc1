/-! ===== the law: its code, its loop ===== -/
def L_law : List UInt8 := [187, 0, 7, 89, 183, 0, 9, 76, 187, 0, 10, 89, 183, 0, 12, 77, 3, 62, 29, 42, 190, 16, 6, 100, 163, 3, 124, 42, 29, 46, 16, 31, 126, 170, 0, 0, 0, 0, 3, 109, 0, 0, 0, 0, 0, 0, 0, 19, 0, 0, 0, 95, 0, 0, 0, 158, 0, 0, 0, 181, 0, 0, 0, 194, 0, 0, 0, 217, 0, 0, 1, 56, 0, 0, 1, 141, 0, 0, 1, 174, 0, 0, 1, 223, 0, 0, 2, 10, 0, 0, 2, 43, 0, 0, 2, 92, 0, 0, 2, 141, 0, 0, 2, 174, 0, 0, 2, 197, 0, 0, 2, 230, 0, 0, 3, 7, 0, 0, 3, 40, 0, 0, 3, 63, 0, 0, 3, 86, 43, 42, 29, 4, 96, 46, 42, 29, 5, 96, 46, 42, 29, 6, 96, 46, 42, 29, 7, 96, 46, 42, 29, 8, 96, 46, 182, 0, 13, 44, 42, 29, 4, 96, 46, 42, 29, 5, 96, 46, 42, 29, 6, 96, 46, 42, 29, 7, 96, 46, 42, 29, 8, 96, 46, 182, 0, 17, 159, 2, 212, 3, 172, 43, 42, 29, 4, 96, 46, 182, 0, 18, 44, 42, 29, 4, 96, 46, 182, 0, 22, 159, 2, 189, 3, 172, 43, 182, 0, 23, 44, 182, 0, 27, 159, 2, 176, 3, 172, 43, 42, 29, 4, 96, 46, 182, 0, 28, 44, 42, 29, 4, 96, 46, 182, 0, 31, 159, 2, 153, 3, 172, 43, 42, 29, 4, 96, 46, 42, 29, 5, 96, 46, 42, 29, 6, 96, 46, 153, 0, 7, 4, 167, 0, 4, 3, 42, 29, 7, 96, 46, 153, 0, 7, 4, 167, 0, 4, 3, 42, 29, 8, 96, 46, 182, 0, 32, 44, 42, 29, 4, 96, 46, 42, 29, 5, 96, 46, 42, 29, 6, 96, 46, 153, 0, 7, 4, 167, 0, 4, 3, 42, 29, 7, 96, 46, 153, 0, 7, 4, 167, 0, 4, 3, 42, 29, 8, 96, 46, 182, 0, 36, 159, 2, 58, 3, 172, 43, 42, 29, 4, 96, 46, 42, 29, 5, 96, 46, 42, 29, 6, 96, 46, 153, 0, 7, 4, 167, 0, 4, 3, 42, 29, 7, 96, 46, 153, 0, 7, 4, 167, 0, 4, 3, 182, 0, 37, 44, 42, 29, 4, 96, 46, 42, 29, 5, 96, 46, 42, 29, 6, 96, 46, 153, 0, 7, 4, 167, 0, 4, 3, 42, 29, 7, 96, 46, 153, 0, 7, 4, 167, 0, 4, 3, 182, 0, 41, 159, 1, 229, 3, 172, 43, 42, 29, 4, 96, 46, 42, 29, 5, 96, 46, 182, 0, 42, 44, 42, 29, 4, 96, 46, 42, 29, 5, 96, 46, 182, 0, 46, 159, 1, 196, 3, 172, 43, 42, 29, 4, 96, 46, 42, 29, 5, 96, 46, 153, 0, 7, 4, 167, 0, 4, 3, 182, 0, 47, 44, 42, 29, 4, 96, 46, 42, 29, 5, 96, 46, 153, 0, 7, 4, 167, 0, 4, 3, 182, 0, 51, 159, 1, 147, 3, 172, 43, 42, 29, 4, 96, 46, 42, 29, 5, 96, 46, 42, 29, 6, 96, 46, 182, 0, 52, 44, 42, 29, 4, 96, 46, 42, 29, 5, 96, 46, 42, 29, 6, 96, 46, 182, 0, 56, 159, 1, 104, 3, 172, 43, 42, 29, 4, 96, 46, 42, 29, 5, 96, 46, 182, 0, 57, 44, 42, 29, 4, 96, 46, 42, 29, 5, 96, 46, 182, 0, 61, 159, 1, 71, 3, 172, 43, 42, 29, 4, 96, 46, 42, 29, 5, 96, 46, 153, 0, 7, 4, 167, 0, 4, 3, 182, 0, 62, 44, 42, 29, 4, 96, 46, 42, 29, 5, 96, 46, 153, 0, 7, 4, 167, 0, 4, 3, 182, 0, 66, 159, 1, 22, 3, 172, 43, 42, 29, 4, 96, 46, 42, 29, 5, 96, 46, 153, 0, 7, 4, 167, 0, 4, 3, 182, 0, 67, 44, 42, 29, 4, 96, 46, 42, 29, 5, 96, 46, 153, 0, 7, 4, 167, 0, 4, 3, 182, 0, 70, 159, 0, 229, 3, 172, 43, 42, 29, 4, 96, 46, 42, 29, 5, 96, 46, 182, 0, 71, 44, 42, 29, 4, 96, 46, 42, 29, 5, 96, 46, 182, 0, 74, 159, 0, 196, 3, 172, 43, 42, 29, 4, 96, 46, 182, 0, 75, 44, 42, 29, 4, 96, 46, 182, 0, 79, 159, 0, 173, 3, 172, 43, 42, 29, 4, 96, 46, 42, 29, 5, 96, 46, 182, 0, 80, 44, 42, 29, 4, 96, 46, 42, 29, 5, 96, 46, 182, 0, 83, 159, 0, 140, 3, 172, 43, 42, 29, 4, 96, 46, 42, 29, 5, 96, 46, 182, 0, 84, 44, 42, 29, 4, 96, 46, 42, 29, 5, 96, 46, 182, 0, 87, 159, 0, 107, 3, 172, 43, 42, 29, 4, 96, 46, 42, 29, 5, 96, 46, 182, 0, 88, 44, 42, 29, 4, 96, 46, 42, 29, 5, 96, 46, 182, 0, 91, 159, 0, 74, 3, 172, 43, 42, 29, 4, 96, 46, 182, 0, 92, 44, 42, 29, 4, 96, 46, 182, 0, 95, 159, 0, 51, 3, 172, 43, 42, 29, 4, 96, 46, 182, 0, 96, 44, 42, 29, 4, 96, 46, 182, 0, 99, 159, 0, 28, 3, 172, 43, 42, 29, 4, 96, 46, 182, 0, 100, 44, 42, 29, 4, 96, 46, 182, 0, 103, 159, 0, 5, 3, 172, 132, 3, 6, 167, 252, 129, 4, 172]
theorem Lc_law : code = ⟨L_law.toArray⟩ := rfl
theorem D_law_0 : dseq code 0 [(.new 7, 3), (.dup, 1), (.invokespecial 9, 3), (.astore_n 1, 1), (.new 10, 3), (.dup, 1), (.invokespecial 12, 3), (.astore_n 2, 1), (.iconst 0, 1), (.istore_n 3, 1)] := dq Lc_law 0 _ (by decide +kernel)
theorem D_law_18 : dseq code 18 [(.iload_n 3, 1), (.aload_n 0, 1), (.arraylength, 1), (.bipush 6, 2), (.isub, 1), (.if_icmp .gt 892, 3), (.aload_n 0, 1), (.iload_n 3, 1), (.iaload, 1), (.bipush 31, 2), (.iand, 1)] := dq Lc_law 18 _ (by decide +kernel)
theorem D_law_910 : dseq code 910 [(.iinc 3 6, 3), (.goto (-895), 3), (.iconst 1, 1), (.ireturn, 1)] := dq Lc_law 910 _ (by decide +kernel)
theorem W_law_33 : decode code 33 = .ok (.tableswitch 877 0 19 #[95, 158, 181, 194, 217, 312, 397, 430, 479, 522, 555, 604, 653, 686, 709, 742, 775, 808, 831, 854], 95) := by decide +kernel
theorem D_law_128 : dseq code 128 ((.aload_n 1, 1) :: (aI [(1, false), (2, false), (3, false), (4, false), (5, false)] ++ (.invokevirtual 13, 3) :: (.aload_n 2, 1) :: (aI [(1, false), (2, false), (3, false), (4, false), (5, false)] ++ [(.invokevirtual 17, 3), (.if_icmp .eq 724, 3)]))) := dq Lc_law 128 _ (by decide +kernel)
theorem case_feed {Λ : Lx} {h : Hp} (hC : LwC Λ) {i : Nat} (hi : i + 6 ≤ xn Λ) (hcp : CP h) (b1 : hT h + 20 ≤ 600000) (b2 : hS h + 2000 ≤ 7302250) (kk : ∀ h2, CP h2 → hT h2 ≤ hT h + 20 → hS h2 ≤ hS h + 2000 → lwp Λ 910 (lwA i) [] h2) : lwp Λ 128 (lwA i) [] h := case_go hC hi [(1, false), (2, false), (3, false), (4, false), (5, false)] (by decide) rfl D_law_128 (by decide) kX11 rfl mo_X11_feed (ch_2_5_ok.2.2.2.2.2.2.2.2.2.2.2.2.1.1 rfl) (ch_2_5_ok.2.2.2.2.2.2.2.2.2.2.2.2.2.1.1 rfl) (ch_2_5_ok.2.2.2.2.2.2.2.2.2.2.2.2.2.2.1.1 rfl) (by decide) kX12 rfl mo_X12_feed (ch_5_12_ok.2.2.2.2.2.2.2.2.2.2.2.2.1.1 rfl) (ch_5_12_ok.2.2.2.2.2.2.2.2.2.2.2.2.2.1.1 rfl) (ch_5_12_ok.2.2.2.2.2.2.2.2.2.2.2.2.2.2.1.1 rfl) (by decide) hcp (st_feed hcp (xx Λ (i + 1)) (xx Λ (i + 2)) (xx Λ (i + 3)) (xx Λ (i + 4)) (xx Λ (i + 5)) ) b1 b2 kk
theorem D_law_191 : dseq code 191 ((.aload_n 1, 1) :: (aI [(1, false)] ++ (.invokevirtual 18, 3) :: (.aload_n 2, 1) :: (aI [(1, false)] ++ [(.invokevirtual 22, 3), (.if_icmp .eq 701, 3)]))) := dq Lc_law 191 _ (by decide +kernel)
theorem case_end {Λ : Lx} {h : Hp} (hC : LwC Λ) {i : Nat} (hi : i + 6 ≤ xn Λ) (hcp : CP h) (b1 : hT h + 20 ≤ 600000) (b2 : hS h + 2000 ≤ 7302250) (kk : ∀ h2, CP h2 → hT h2 ≤ hT h + 20 → hS h2 ≤ hS h + 2000 → lwp Λ 910 (lwA i) [] h2) : lwp Λ 191 (lwA i) [] h := case_go hC hi [(1, false)] (by decide) rfl D_law_191 (by decide) kX11 rfl mo_X11_end (ch_2_6_ok.2.2.2.2.1.1 rfl) (ch_2_6_ok.2.2.2.2.2.1.1 rfl) (ch_2_6_ok.2.2.2.2.2.2.1.1 rfl) (by decide) kX12 rfl mo_X12_end (ch_5_13_ok.2.2.2.2.1.1 rfl) (ch_5_13_ok.2.2.2.2.2.1.1 rfl) (ch_5_13_ok.2.2.2.2.2.2.1.1 rfl) (by decide) hcp (st_end hcp (xx Λ (i + 1)) ) b1 b2 kk
theorem D_law_214 : dseq code 214 ((.aload_n 1, 1) :: (aI [] ++ (.invokevirtual 23, 3) :: (.aload_n 2, 1) :: (aI [] ++ [(.invokevirtual 27, 3), (.if_icmp .eq 688, 3)]))) := dq Lc_law 214 _ (by decide +kernel)
theorem case_text {Λ : Lx} {h : Hp} (hC : LwC Λ) {i : Nat} (hi : i + 6 ≤ xn Λ) (hcp : CP h) (b1 : hT h + 20 ≤ 600000) (b2 : hS h + 2000 ≤ 7302250) (kk : ∀ h2, CP h2 → hT h2 ≤ hT h + 20 → hS h2 ≤ hS h + 2000 → lwp Λ 910 (lwA i) [] h2) : lwp Λ 214 (lwA i) [] h := case_go hC hi [] (by decide) rfl D_law_214 (by decide) kX11 rfl mo_X11_text (ch_2_6_ok.2.2.2.2.2.2.2.2.1.1 rfl) (ch_2_6_ok.2.2.2.2.2.2.2.2.2.1.1 rfl) (ch_2_6_ok.2.2.2.2.2.2.2.2.2.2.1.1 rfl) (by decide) kX12 rfl mo_X12_text (ch_5_13_ok.2.2.2.2.2.2.2.2.2.2.2.1.1 rfl) (ch_5_13_ok.2.2.2.2.2.2.2.2.2.2.2.2.1.1 rfl) (ch_5_13_ok.2.2.2.2.2.2.2.2.2.2.2.2.2.1.1 rfl) (by decide) hcp (st_text hcp  ) b1 b2 kk
theorem D_law_227 : dseq code 227 ((.aload_n 1, 1) :: (aI [(1, false)] ++ (.invokevirtual 28, 3) :: (.aload_n 2, 1) :: (aI [(1, false)] ++ [(.invokevirtual 31, 3), (.if_icmp .eq 665, 3)]))) := dq Lc_law 227 _ (by decide +kernel)
theorem case_fault {Λ : Lx} {h : Hp} (hC : LwC Λ) {i : Nat} (hi : i + 6 ≤ xn Λ) (hcp : CP h) (b1 : hT h + 20 ≤ 600000) (b2 : hS h + 2000 ≤ 7302250) (kk : ∀ h2, CP h2 → hT h2 ≤ hT h + 20 → hS h2 ≤ hS h + 2000 → lwp Λ 910 (lwA i) [] h2) : lwp Λ 227 (lwA i) [] h := case_go hC hi [(1, false)] (by decide) rfl D_law_227 (by decide) kX11 rfl mo_X11_fault (ch_3_4_ok.2.2.2.2.2.2.2.2.2.2.2.2.1.1 rfl) (ch_3_4_ok.2.2.2.2.2.2.2.2.2.2.2.2.2.1.1 rfl) (ch_3_4_ok.2.2.2.2.2.2.2.2.2.2.2.2.2.2.1.1 rfl) (by decide) kX12 rfl mo_X12_fault (ch_6_2_ok.2.2.2.1.1 rfl) (ch_6_2_ok.2.2.2.2.1.1 rfl) (ch_6_2_ok.2.2.2.2.2.1.1 rfl) (by decide) hcp (st_fault hcp (xx Λ (i + 1)) ) b1 b2 kk
theorem D_law_250 : dseq code 250 ((.aload_n 1, 1) :: (aI [(1, false), (2, false), (3, true), (4, true), (5, false)] ++ (.invokevirtual 32, 3) :: (.aload_n 2, 1) :: (aI [(1, false), (2, false), (3, true), (4, true), (5, false)] ++ [(.invokevirtual 36, 3), (.if_icmp .eq 570, 3)]))) := dq Lc_law 250 _ (by decide +kernel)
theorem case_room {Λ : Lx} {h : Hp} (hC : LwC Λ) {i : Nat} (hi : i + 6 ≤ xn Λ) (hcp : CP h) (b1 : hT h + 20 ≤ 600000) (b2 : hS h + 2000 ≤ 7302250) (kk : ∀ h2, CP h2 → hT h2 ≤ hT h + 20 → hS h2 ≤ hS h + 2000 → lwp Λ 910 (lwA i) [] h2) : lwp Λ 250 (lwA i) [] h := case_go hC hi [(1, false), (2, false), (3, true), (4, true), (5, false)] (by decide) rfl D_law_250 (by decide) kX11 rfl mo_X11_room (ch_3_5_ok.1.1 rfl) (ch_3_5_ok.2.1.1 rfl) (ch_3_5_ok.2.2.1.1 rfl) (by decide) kX12 rfl mo_X12_room (ch_6_2_ok.2.2.2.2.2.2.2.1.1 rfl) (ch_6_2_ok.2.2.2.2.2.2.2.2.1.1 rfl) (ch_6_2_ok.2.2.2.2.2.2.2.2.2.1.1 rfl) (by decide) hcp (st_room hcp (xx Λ (i + 1)) (xx Λ (i + 2)) (bz (xx Λ (i + 3))) (bz (xx Λ (i + 4))) (xx Λ (i + 5)) (bz_01 _) (bz_01 _)) b1 b2 kk
theorem D_law_345 : dseq code 345 ((.aload_n 1, 1) :: (aI [(1, false), (2, false), (3, true), (4, true)] ++ (.invokevirtual 37, 3) :: (.aload_n 2, 1) :: (aI [(1, false), (2, false), (3, true), (4, true)] ++ [(.invokevirtual 41, 3), (.if_icmp .eq 485, 3)]))) := dq Lc_law 345 _ (by decide +kernel)
theorem case_person {Λ : Lx} {h : Hp} (hC : LwC Λ) {i : Nat} (hi : i + 6 ≤ xn Λ) (hcp : CP h) (b1 : hT h + 20 ≤ 600000) (b2 : hS h + 2000 ≤ 7302250) (kk : ∀ h2, CP h2 → hT h2 ≤ hT h + 20 → hS h2 ≤ hS h + 2000 → lwp Λ 910 (lwA i) [] h2) : lwp Λ 345 (lwA i) [] h := case_go hC hi [(1, false), (2, false), (3, true), (4, true)] (by decide) rfl D_law_345 (by decide) kX11 rfl mo_X11_person (ch_3_5_ok.2.2.2.2.2.2.2.2.2.2.2.2.2.2.1.1 rfl) (ch_3_5_ok.2.2.2.2.2.2.2.2.2.2.2.2.2.2.2.1.1 rfl) (ch_3_6_ok.1.1 rfl) (by decide) kX12 rfl mo_X12_person (ch_6_2_ok.2.2.2.2.2.2.2.2.2.2.2.1.1 rfl) (ch_6_2_ok.2.2.2.2.2.2.2.2.2.2.2.2.1.1 rfl) (ch_6_2_ok.2.2.2.2.2.2.2.2.2.2.2.2.2.1.1 rfl) (by decide) hcp (st_person hcp (xx Λ (i + 1)) (xx Λ (i + 2)) (bz (xx Λ (i + 3))) (bz (xx Λ (i + 4))) (bz_01 _) (bz_01 _)) b1 b2 kk
theorem D_law_430 : dseq code 430 ((.aload_n 1, 1) :: (aI [(1, false), (2, false)] ++ (.invokevirtual 42, 3) :: (.aload_n 2, 1) :: (aI [(1, false), (2, false)] ++ [(.invokevirtual 46, 3), (.if_icmp .eq 452, 3)]))) := dq Lc_law 430 _ (by decide +kernel)
theorem case_ill {Λ : Lx} {h : Hp} (hC : LwC Λ) {i : Nat} (hi : i + 6 ≤ xn Λ) (hcp : CP h) (b1 : hT h + 20 ≤ 600000) (b2 : hS h + 2000 ≤ 7302250) (kk : ∀ h2, CP h2 → hT h2 ≤ hT h + 20 → hS h2 ≤ hS h + 2000 → lwp Λ 910 (lwA i) [] h2) : lwp Λ 430 (lwA i) [] h := case_go hC hi [(1, false), (2, false)] (by decide) rfl D_law_430 (by decide) kX11 rfl mo_X11_ill (ch_3_6_ok.2.2.2.2.2.2.2.1.1 rfl) (ch_3_6_ok.2.2.2.2.2.2.2.2.1.1 rfl) (ch_3_6_ok.2.2.2.2.2.2.2.2.2.1.1 rfl) (by decide) kX12 rfl mo_X12_ill (ch_6_2_ok.2.2.2.2.2.2.2.2.2.2.2.2.2.2.2.1.1 rfl) (ch_6_3_ok.1.1 rfl) (ch_6_3_ok.2.1.1 rfl) (by decide) hcp (st_ill hcp (xx Λ (i + 1)) (xx Λ (i + 2)) ) b1 b2 kk
theorem D_law_463 : dseq code 463 ((.aload_n 1, 1) :: (aI [(1, false), (2, true)] ++ (.invokevirtual 47, 3) :: (.aload_n 2, 1) :: (aI [(1, false), (2, true)] ++ [(.invokevirtual 51, 3), (.if_icmp .eq 403, 3)]))) := dq Lc_law 463 _ (by decide +kernel)
theorem case_bar {Λ : Lx} {h : Hp} (hC : LwC Λ) {i : Nat} (hi : i + 6 ≤ xn Λ) (hcp : CP h) (b1 : hT h + 20 ≤ 600000) (b2 : hS h + 2000 ≤ 7302250) (kk : ∀ h2, CP h2 → hT h2 ≤ hT h + 20 → hS h2 ≤ hS h + 2000 → lwp Λ 910 (lwA i) [] h2) : lwp Λ 463 (lwA i) [] h := case_go hC hi [(1, false), (2, true)] (by decide) rfl D_law_463 (by decide) kX11 rfl mo_X11_bar (ch_3_6_ok.2.2.2.2.2.2.2.2.2.2.2.2.2.2.2.1.1 rfl) (ch_3_7_ok.1.1 rfl) (ch_3_7_ok.2.1.1 rfl) (by decide) kX12 rfl mo_X12_bar (ch_6_3_ok.2.2.2.2.2.2.2.1.1 rfl) (ch_6_3_ok.2.2.2.2.2.2.2.2.1.1 rfl) (ch_6_3_ok.2.2.2.2.2.2.2.2.2.1.1 rfl) (by decide) hcp (st_bar hcp (xx Λ (i + 1)) (bz (xx Λ (i + 2))) (bz_01 _)) b1 b2 kk
theorem D_law_512 : dseq code 512 ((.aload_n 1, 1) :: (aI [(1, false), (2, false), (3, false)] ++ (.invokevirtual 52, 3) :: (.aload_n 2, 1) :: (aI [(1, false), (2, false), (3, false)] ++ [(.invokevirtual 56, 3), (.if_icmp .eq 360, 3)]))) := dq Lc_law 512 _ (by decide +kernel)
theorem case_pair {Λ : Lx} {h : Hp} (hC : LwC Λ) {i : Nat} (hi : i + 6 ≤ xn Λ) (hcp : CP h) (b1 : hT h + 20 ≤ 600000) (b2 : hS h + 2000 ≤ 7302250) (kk : ∀ h2, CP h2 → hT h2 ≤ hT h + 20 → hS h2 ≤ hS h + 2000 → lwp Λ 910 (lwA i) [] h2) : lwp Λ 512 (lwA i) [] h := case_go hC hi [(1, false), (2, false), (3, false)] (by decide) rfl D_law_512 (by decide) kX11 rfl mo_X11_pair (ch_3_7_ok.2.2.2.2.2.2.2.1.1 rfl) (ch_3_7_ok.2.2.2.2.2.2.2.2.1.1 rfl) (ch_3_7_ok.2.2.2.2.2.2.2.2.2.1.1 rfl) (by decide) kX12 rfl mo_X12_pair (ch_6_3_ok.2.2.2.2.2.2.2.2.2.2.2.1.1 rfl) (ch_6_3_ok.2.2.2.2.2.2.2.2.2.2.2.2.1.1 rfl) (ch_6_3_ok.2.2.2.2.2.2.2.2.2.2.2.2.2.1.1 rfl) (by decide) hcp (st_pair hcp (xx Λ (i + 1)) (xx Λ (i + 2)) (xx Λ (i + 3)) ) b1 b2 kk
theorem D_law_555 : dseq code 555 ((.aload_n 1, 1) :: (aI [(1, false), (2, false)] ++ (.invokevirtual 57, 3) :: (.aload_n 2, 1) :: (aI [(1, false), (2, false)] ++ [(.invokevirtual 61, 3), (.if_icmp .eq 327, 3)]))) := dq Lc_law 555 _ (by decide +kernel)
theorem case_helper {Λ : Lx} {h : Hp} (hC : LwC Λ) {i : Nat} (hi : i + 6 ≤ xn Λ) (hcp : CP h) (b1 : hT h + 20 ≤ 600000) (b2 : hS h + 2000 ≤ 7302250) (kk : ∀ h2, CP h2 → hT h2 ≤ hT h + 20 → hS h2 ≤ hS h + 2000 → lwp Λ 910 (lwA i) [] h2) : lwp Λ 555 (lwA i) [] h := case_go hC hi [(1, false), (2, false)] (by decide) rfl D_law_555 (by decide) kX11 rfl mo_X11_helper (ch_3_8_ok.2.2.2.2.2.2.2.1.1 rfl) (ch_3_8_ok.2.2.2.2.2.2.2.2.1.1 rfl) (ch_3_8_ok.2.2.2.2.2.2.2.2.2.1.1 rfl) (by decide) kX12 rfl mo_X12_helper (ch_6_4_ok.2.2.2.2.2.2.1.1 rfl) (ch_6_4_ok.2.2.2.2.2.2.2.1.1 rfl) (ch_6_4_ok.2.2.2.2.2.2.2.2.1.1 rfl) (by decide) hcp (st_helper hcp (xx Λ (i + 1)) (xx Λ (i + 2)) ) b1 b2 kk
theorem D_law_588 : dseq code 588 ((.aload_n 1, 1) :: (aI [(1, false), (2, true)] ++ (.invokevirtual 62, 3) :: (.aload_n 2, 1) :: (aI [(1, false), (2, true)] ++ [(.invokevirtual 66, 3), (.if_icmp .eq 278, 3)]))) := dq Lc_law 588 _ (by decide +kernel)
theorem case_evening {Λ : Lx} {h : Hp} (hC : LwC Λ) {i : Nat} (hi : i + 6 ≤ xn Λ) (hcp : CP h) (b1 : hT h + 20 ≤ 600000) (b2 : hS h + 2000 ≤ 7302250) (kk : ∀ h2, CP h2 → hT h2 ≤ hT h + 20 → hS h2 ≤ hS h + 2000 → lwp Λ 910 (lwA i) [] h2) : lwp Λ 588 (lwA i) [] h := case_go hC hi [(1, false), (2, true)] (by decide) rfl D_law_588 (by decide) kX11 rfl mo_X11_evening (ch_3_8_ok.2.2.2.2.2.2.2.2.2.2.2.2.2.2.2.1.1 rfl) (ch_3_9_ok.1.1 rfl) (ch_3_9_ok.2.1.1 rfl) (by decide) kX12 rfl mo_X12_evening (ch_6_4_ok.2.2.2.2.2.2.2.2.2.2.1.1 rfl) (ch_6_4_ok.2.2.2.2.2.2.2.2.2.2.2.1.1 rfl) (ch_6_4_ok.2.2.2.2.2.2.2.2.2.2.2.2.1.1 rfl) (by decide) hcp (st_evening hcp (xx Λ (i + 1)) (bz (xx Λ (i + 2))) (bz_01 _)) b1 b2 kk
theorem D_law_637 : dseq code 637 ((.aload_n 1, 1) :: (aI [(1, false), (2, true)] ++ (.invokevirtual 67, 3) :: (.aload_n 2, 1) :: (aI [(1, false), (2, true)] ++ [(.invokevirtual 70, 3), (.if_icmp .eq 229, 3)]))) := dq Lc_law 637 _ (by decide +kernel)
theorem case_points {Λ : Lx} {h : Hp} (hC : LwC Λ) {i : Nat} (hi : i + 6 ≤ xn Λ) (hcp : CP h) (b1 : hT h + 20 ≤ 600000) (b2 : hS h + 2000 ≤ 7302250) (kk : ∀ h2, CP h2 → hT h2 ≤ hT h + 20 → hS h2 ≤ hS h + 2000 → lwp Λ 910 (lwA i) [] h2) : lwp Λ 637 (lwA i) [] h := case_go hC hi [(1, false), (2, true)] (by decide) rfl D_law_637 (by decide) kX11 rfl mo_X11_points (ch_4_11_ok.2.1.1 rfl) (ch_4_11_ok.2.2.1.1 rfl) (ch_4_11_ok.2.2.2.1.1 rfl) (by decide) kX12 rfl mo_X12_points (ch_6_9_ok.2.2.2.2.2.2.2.2.2.2.2.1.1 rfl) (ch_6_9_ok.2.2.2.2.2.2.2.2.2.2.2.2.1.1 rfl) (ch_6_9_ok.2.2.2.2.2.2.2.2.2.2.2.2.2.1.1 rfl) (by decide) hcp (st_points hcp (xx Λ (i + 1)) (bz (xx Λ (i + 2))) (bz_01 _)) b1 b2 kk
theorem D_law_686 : dseq code 686 ((.aload_n 1, 1) :: (aI [(1, false), (2, false)] ++ (.invokevirtual 71, 3) :: (.aload_n 2, 1) :: (aI [(1, false), (2, false)] ++ [(.invokevirtual 74, 3), (.if_icmp .eq 196, 3)]))) := dq Lc_law 686 _ (by decide +kernel)
theorem case_told {Λ : Lx} {h : Hp} (hC : LwC Λ) {i : Nat} (hi : i + 6 ≤ xn Λ) (hcp : CP h) (b1 : hT h + 20 ≤ 600000) (b2 : hS h + 2000 ≤ 7302250) (kk : ∀ h2, CP h2 → hT h2 ≤ hT h + 20 → hS h2 ≤ hS h + 2000 → lwp Λ 910 (lwA i) [] h2) : lwp Λ 686 (lwA i) [] h := case_go hC hi [(1, false), (2, false)] (by decide) rfl D_law_686 (by decide) kX11 rfl mo_X11_told (ch_4_11_ok.2.2.2.2.2.2.2.1.1 rfl) (ch_4_11_ok.2.2.2.2.2.2.2.2.1.1 rfl) (ch_4_11_ok.2.2.2.2.2.2.2.2.2.1.1 rfl) (by decide) kX12 rfl mo_X12_told (ch_6_9_ok.2.2.2.2.2.2.2.2.2.2.2.2.2.2.2.1.1 rfl) (ch_6_10_ok.1.1 rfl) (ch_6_10_ok.2.1.1 rfl) (by decide) hcp (st_told hcp (xx Λ (i + 1)) (xx Λ (i + 2)) ) b1 b2 kk
theorem D_law_719 : dseq code 719 ((.aload_n 1, 1) :: (aI [(1, false)] ++ (.invokevirtual 75, 3) :: (.aload_n 2, 1) :: (aI [(1, false)] ++ [(.invokevirtual 79, 3), (.if_icmp .eq 173, 3)]))) := dq Lc_law 719 _ (by decide +kernel)
theorem case_called {Λ : Lx} {h : Hp} (hC : LwC Λ) {i : Nat} (hi : i + 6 ≤ xn Λ) (hcp : CP h) (b1 : hT h + 20 ≤ 600000) (b2 : hS h + 2000 ≤ 7302250) (kk : ∀ h2, CP h2 → hT h2 ≤ hT h + 20 → hS h2 ≤ hS h + 2000 → lwp Λ 910 (lwA i) [] h2) : lwp Λ 719 (lwA i) [] h := case_go hC hi [(1, false)] (by decide) rfl D_law_719 (by decide) kX11 rfl mo_X11_called (ch_4_12_ok.1.1 rfl) (ch_4_12_ok.2.1.1 rfl) (ch_4_12_ok.2.2.1.1 rfl) (by decide) kX12 rfl mo_X12_called (ch_6_10_ok.2.2.2.1.1 rfl) (ch_6_10_ok.2.2.2.2.1.1 rfl) (ch_6_10_ok.2.2.2.2.2.1.1 rfl) (by decide) hcp (st_called hcp (xx Λ (i + 1)) ) b1 b2 kk
theorem D_law_742 : dseq code 742 ((.aload_n 1, 1) :: (aI [(1, false), (2, false)] ++ (.invokevirtual 80, 3) :: (.aload_n 2, 1) :: (aI [(1, false), (2, false)] ++ [(.invokevirtual 83, 3), (.if_icmp .eq 140, 3)]))) := dq Lc_law 742 _ (by decide +kernel)
theorem case_tell {Λ : Lx} {h : Hp} (hC : LwC Λ) {i : Nat} (hi : i + 6 ≤ xn Λ) (hcp : CP h) (b1 : hT h + 20 ≤ 600000) (b2 : hS h + 2000 ≤ 7302250) (kk : ∀ h2, CP h2 → hT h2 ≤ hT h + 20 → hS h2 ≤ hS h + 2000 → lwp Λ 910 (lwA i) [] h2) : lwp Λ 742 (lwA i) [] h := case_go hC hi [(1, false), (2, false)] (by decide) rfl D_law_742 (by decide) kX11 rfl mo_X11_tell (ch_4_12_ok.2.2.2.2.2.2.2.2.1.1 rfl) (ch_4_12_ok.2.2.2.2.2.2.2.2.2.1.1 rfl) (ch_4_12_ok.2.2.2.2.2.2.2.2.2.2.1.1 rfl) (by decide) kX12 rfl mo_X12_tell (ch_6_10_ok.2.2.2.2.2.2.2.2.2.2.2.1.1 rfl) (ch_6_10_ok.2.2.2.2.2.2.2.2.2.2.2.2.1.1 rfl) (ch_6_10_ok.2.2.2.2.2.2.2.2.2.2.2.2.2.1.1 rfl) (by decide) hcp (st_tell hcp (xx Λ (i + 1)) (xx Λ (i + 2)) ) b1 b2 kk
theorem D_law_775 : dseq code 775 ((.aload_n 1, 1) :: (aI [(1, false), (2, false)] ++ (.invokevirtual 84, 3) :: (.aload_n 2, 1) :: (aI [(1, false), (2, false)] ++ [(.invokevirtual 87, 3), (.if_icmp .eq 107, 3)]))) := dq Lc_law 775 _ (by decide +kernel)
theorem case_duty {Λ : Lx} {h : Hp} (hC : LwC Λ) {i : Nat} (hi : i + 6 ≤ xn Λ) (hcp : CP h) (b1 : hT h + 20 ≤ 600000) (b2 : hS h + 2000 ≤ 7302250) (kk : ∀ h2, CP h2 → hT h2 ≤ hT h + 20 → hS h2 ≤ hS h + 2000 → lwp Λ 910 (lwA i) [] h2) : lwp Λ 775 (lwA i) [] h := case_go hC hi [(1, false), (2, false)] (by decide) rfl D_law_775 (by decide) kX11 rfl mo_X11_duty (ch_4_12_ok.2.2.2.2.2.2.2.2.2.2.2.2.2.1.1 rfl) (ch_4_12_ok.2.2.2.2.2.2.2.2.2.2.2.2.2.2.1.1 rfl) (ch_4_12_ok.2.2.2.2.2.2.2.2.2.2.2.2.2.2.2.1.1 rfl) (by decide) kX12 rfl mo_X12_duty (ch_6_10_ok.2.2.2.2.2.2.2.2.2.2.2.2.2.2.2.1.1 rfl) (ch_6_11_ok.1.1 rfl) (ch_6_11_ok.2.1.1 rfl) (by decide) hcp (st_duty hcp (xx Λ (i + 1)) (xx Λ (i + 2)) ) b1 b2 kk
theorem D_law_808 : dseq code 808 ((.aload_n 1, 1) :: (aI [(1, false), (2, false)] ++ (.invokevirtual 88, 3) :: (.aload_n 2, 1) :: (aI [(1, false), (2, false)] ++ [(.invokevirtual 91, 3), (.if_icmp .eq 74, 3)]))) := dq Lc_law 808 _ (by decide +kernel)
theorem case_book {Λ : Lx} {h : Hp} (hC : LwC Λ) {i : Nat} (hi : i + 6 ≤ xn Λ) (hcp : CP h) (b1 : hT h + 20 ≤ 600000) (b2 : hS h + 2000 ≤ 7302250) (kk : ∀ h2, CP h2 → hT h2 ≤ hT h + 20 → hS h2 ≤ hS h + 2000 → lwp Λ 910 (lwA i) [] h2) : lwp Λ 808 (lwA i) [] h := case_go hC hi [(1, false), (2, false)] (by decide) rfl D_law_808 (by decide) kX11 rfl mo_X11_book (ch_4_13_ok.2.2.1.1 rfl) (ch_4_13_ok.2.2.2.1.1 rfl) (ch_4_13_ok.2.2.2.2.1.1 rfl) (by decide) kX12 rfl mo_X12_book (ch_6_11_ok.2.2.2.1.1 rfl) (ch_6_11_ok.2.2.2.2.1.1 rfl) (ch_6_11_ok.2.2.2.2.2.1.1 rfl) (by decide) hcp (st_book hcp (xx Λ (i + 1)) (xx Λ (i + 2)) ) b1 b2 kk
theorem D_law_841 : dseq code 841 ((.aload_n 1, 1) :: (aI [(1, false)] ++ (.invokevirtual 92, 3) :: (.aload_n 2, 1) :: (aI [(1, false)] ++ [(.invokevirtual 95, 3), (.if_icmp .eq 51, 3)]))) := dq Lc_law 841 _ (by decide +kernel)
theorem case_count {Λ : Lx} {h : Hp} (hC : LwC Λ) {i : Nat} (hi : i + 6 ≤ xn Λ) (hcp : CP h) (b1 : hT h + 20 ≤ 600000) (b2 : hS h + 2000 ≤ 7302250) (kk : ∀ h2, CP h2 → hT h2 ≤ hT h + 20 → hS h2 ≤ hS h + 2000 → lwp Λ 910 (lwA i) [] h2) : lwp Λ 841 (lwA i) [] h := case_go hC hi [(1, false)] (by decide) rfl D_law_841 (by decide) kX11 rfl mo_X11_count (ch_4_13_ok.2.2.2.2.2.2.2.2.2.2.1.1 rfl) (ch_4_13_ok.2.2.2.2.2.2.2.2.2.2.2.1.1 rfl) (ch_4_13_ok.2.2.2.2.2.2.2.2.2.2.2.2.1.1 rfl) (by decide) kX12 rfl mo_X12_count (ch_6_11_ok.2.2.2.2.2.2.2.1.1 rfl) (ch_6_11_ok.2.2.2.2.2.2.2.2.1.1 rfl) (ch_6_11_ok.2.2.2.2.2.2.2.2.2.1.1 rfl) (by decide) hcp (st_count hcp (xx Λ (i + 1)) ) b1 b2 kk
theorem D_law_864 : dseq code 864 ((.aload_n 1, 1) :: (aI [(1, false)] ++ (.invokevirtual 96, 3) :: (.aload_n 2, 1) :: (aI [(1, false)] ++ [(.invokevirtual 99, 3), (.if_icmp .eq 28, 3)]))) := dq Lc_law 864 _ (by decide +kernel)
theorem case_image {Λ : Lx} {h : Hp} (hC : LwC Λ) {i : Nat} (hi : i + 6 ≤ xn Λ) (hcp : CP h) (b1 : hT h + 20 ≤ 600000) (b2 : hS h + 2000 ≤ 7302250) (kk : ∀ h2, CP h2 → hT h2 ≤ hT h + 20 → hS h2 ≤ hS h + 2000 → lwp Λ 910 (lwA i) [] h2) : lwp Λ 864 (lwA i) [] h := case_go hC hi [(1, false)] (by decide) rfl D_law_864 (by decide) kX11 rfl mo_X11_image (ch_4_14_ok.2.2.2.1.1 rfl) (ch_4_14_ok.2.2.2.2.1.1 rfl) (ch_4_14_ok.2.2.2.2.2.1.1 rfl) (by decide) kX12 rfl mo_X12_image (ch_6_11_ok.2.2.2.2.2.2.2.2.2.2.2.1.1 rfl) (ch_6_11_ok.2.2.2.2.2.2.2.2.2.2.2.2.1.1 rfl) (ch_6_11_ok.2.2.2.2.2.2.2.2.2.2.2.2.2.1.1 rfl) (by decide) hcp (st_image hcp (xx Λ (i + 1)) ) b1 b2 kk
theorem D_law_887 : dseq code 887 ((.aload_n 1, 1) :: (aI [(1, false)] ++ (.invokevirtual 100, 3) :: (.aload_n 2, 1) :: (aI [(1, false)] ++ [(.invokevirtual 103, 3), (.if_icmp .eq 5, 3)]))) := dq Lc_law 887 _ (by decide +kernel)
theorem case_again {Λ : Lx} {h : Hp} (hC : LwC Λ) {i : Nat} (hi : i + 6 ≤ xn Λ) (hcp : CP h) (b1 : hT h + 20 ≤ 600000) (b2 : hS h + 2000 ≤ 7302250) (kk : ∀ h2, CP h2 → hT h2 ≤ hT h + 20 → hS h2 ≤ hS h + 2000 → lwp Λ 910 (lwA i) [] h2) : lwp Λ 887 (lwA i) [] h := case_go hC hi [(1, false)] (by decide) rfl D_law_887 (by decide) kX11 rfl mo_X11_again (ch_5_1_ok.1.1 rfl) (ch_5_1_ok.2.1.1 rfl) (ch_5_1_ok.2.2.1.1 rfl) (by decide) kX12 rfl mo_X12_again (ch_6_12_ok.2.2.2.2.2.2.1.1 rfl) (ch_6_12_ok.2.2.2.2.2.2.2.1.1 rfl) (ch_6_12_ok.2.2.2.2.2.2.2.2.1.1 rfl) (by decide) hcp (st_again hcp (xx Λ (i + 1)) ) b1 b2 kk
theorem cmp6 {L i : Nat} (hL3 : L ≤ 3072) (hi : i ≤ 4000) : (Int32.ofNat L - 6 < nI i) ↔ L < i + 6 := by
  have e : Int32.ofNat L = nI L := rfl
  rw [e]
  by_cases c : 6 ≤ L
  · have e6 : nI L - 6 = nI (L - 6) := nI_sub (b := 6) c
    rw [e6, nI_ltI (by omega) (by omega)]
    omega
  · have h0 : L = 0 ∨ L = 1 ∨ L = 2 ∨ L = 3 ∨ L = 4 ∨ L = 5 := by omega
    have hneg : nI L - 6 < 0 := by rcases h0 with rfl | rfl | rfl | rfl | rfl | rfl <;> decide
    have hpos : (0 : Int32) ≤ nI i := Int32.not_lt.mp (nI_pos (by omega))
    exact ⟨fun _ => by omega, fun _ => Int32.lt_of_lt_of_le hneg hpos⟩
set_option maxRecDepth 100000 in
theorem law_loop {Λ : Lx} (hC : LwC Λ) : ∀ (f i : Nat) (h : Hp), xn Λ + 6 - i ≤ f → i ≤ xn Λ + 6 → CP h → hT h ≤ 90 + 4 * i → hS h ≤ 30000 + 400 * i → lwp Λ 18 (lwA i) [] h := by
  have hn := hC.2.2.2.2
  obtain ⟨d18, d19, d20, d21, d23, d24, d27, d28, d29, d30, d32, _⟩ := D_law_18
  obtain ⟨d910, d913, d916, d917, _⟩ := D_law_910
  intro f
  induction f with
  | zero =>
    intro i h hf hi hcp b1 b2
    refine t_ild hC (i := 3) d18 rfl rfl (t_als hC (i := 0) d19 rfl rfl (t_slen hC d20 (t_bipush hC d21 (v := 6) (by decide) (t_sub hC d23 (t_cmpgt hC (tgt := 916) d24 (by decide) (fun _ => ?_) (fun z => ?_))))))
    · exact t_iconst hC d916 (v := 1) (by decide) (t_ret hC d917 (by omega) (by omega))
    · exact absurd ((cmp6 hn (by omega)).mpr (by omega)) z
  | succ f ih =>
    intro i h hf hi hcp b1 b2
    refine t_ild hC (i := 3) d18 rfl rfl (t_als hC (i := 0) d19 rfl rfl (t_slen hC d20 (t_bipush hC d21 (v := 6) (by decide) (t_sub hC d23 (t_cmpgt hC (tgt := 916) d24 (by decide) (fun _ => ?_) (fun z => ?_))))))
    · exact t_iconst hC d916 (v := 1) (by decide) (t_ret hC d917 (by omega) (by omega))
    · have hi6 : i + 6 ≤ xn Λ := by
        apply Classical.byContradiction
        intro c
        exact z ((cmp6 hn (by omega)).mpr (by omega))
      have kk : ∀ h2, CP h2 → hT h2 ≤ hT h + 20 → hS h2 ≤ hS h + 2000 → lwp Λ 910 (lwA i) [] h2 := fun h2 c1' c2 c3 => by
        refine t_inc hC (x := nI i) (v := 6) d910 (by decide) (by decide) rfl (t_goto hC (tgt := 18) d913 (by decide) ?_)
        have e : lset (lwA i) 3 (.int (nI i + 6)) = lwA (i + 6) := by
          have : nI i + 6 = nI (i + 6) := nI_add i 6
          rw [this]; rfl
        rw [e]
        exact ih (i + 6) h2 (by omega) (by omega) c1' (by omega) (by omega)
      have b1' : hT h + 20 ≤ 600000 := by omega
      have b2' : hS h + 2000 ≤ 7302250 := by omega
      refine t_als hC (i := 0) d27 rfl rfl (t_ild hC (i := 3) d28 rfl rfl (t_sld hC (in_nI (by omega) (by omega)) d29 (t_bipush hC d30 (v := 31) (by decide) (t_and hC d32 ?_))))
      generalize xx Λ (nI i).toNatClampNeg &&& 31 = y
      show lwp Λ 33 (lwA i) [.int y] h
      by_cases c0' : y = 0
      · exact t_tabIn hC (j := 0) W_law_33 (by rw [c0']; decide) (by decide) rfl (by decide) (case_feed hC hi6 hcp b1' b2' kk)
      by_cases c1' : y = 1
      · exact t_tabIn hC (j := 1) W_law_33 (by rw [c1']; decide) (by decide) rfl (by decide) (case_end hC hi6 hcp b1' b2' kk)
      by_cases c2' : y = 2
      · exact t_tabIn hC (j := 2) W_law_33 (by rw [c2']; decide) (by decide) rfl (by decide) (case_text hC hi6 hcp b1' b2' kk)
      by_cases c3' : y = 3
      · exact t_tabIn hC (j := 3) W_law_33 (by rw [c3']; decide) (by decide) rfl (by decide) (case_fault hC hi6 hcp b1' b2' kk)
      by_cases c4' : y = 4
      · exact t_tabIn hC (j := 4) W_law_33 (by rw [c4']; decide) (by decide) rfl (by decide) (case_room hC hi6 hcp b1' b2' kk)
      by_cases c5' : y = 5
      · exact t_tabIn hC (j := 5) W_law_33 (by rw [c5']; decide) (by decide) rfl (by decide) (case_person hC hi6 hcp b1' b2' kk)
      by_cases c6' : y = 6
      · exact t_tabIn hC (j := 6) W_law_33 (by rw [c6']; decide) (by decide) rfl (by decide) (case_ill hC hi6 hcp b1' b2' kk)
      by_cases c7' : y = 7
      · exact t_tabIn hC (j := 7) W_law_33 (by rw [c7']; decide) (by decide) rfl (by decide) (case_bar hC hi6 hcp b1' b2' kk)
      by_cases c8' : y = 8
      · exact t_tabIn hC (j := 8) W_law_33 (by rw [c8']; decide) (by decide) rfl (by decide) (case_pair hC hi6 hcp b1' b2' kk)
      by_cases c9' : y = 9
      · exact t_tabIn hC (j := 9) W_law_33 (by rw [c9']; decide) (by decide) rfl (by decide) (case_helper hC hi6 hcp b1' b2' kk)
      by_cases c10' : y = 10
      · exact t_tabIn hC (j := 10) W_law_33 (by rw [c10']; decide) (by decide) rfl (by decide) (case_evening hC hi6 hcp b1' b2' kk)
      by_cases c11' : y = 11
      · exact t_tabIn hC (j := 11) W_law_33 (by rw [c11']; decide) (by decide) rfl (by decide) (case_points hC hi6 hcp b1' b2' kk)
      by_cases c12' : y = 12
      · exact t_tabIn hC (j := 12) W_law_33 (by rw [c12']; decide) (by decide) rfl (by decide) (case_told hC hi6 hcp b1' b2' kk)
      by_cases c13' : y = 13
      · exact t_tabIn hC (j := 13) W_law_33 (by rw [c13']; decide) (by decide) rfl (by decide) (case_called hC hi6 hcp b1' b2' kk)
      by_cases c14' : y = 14
      · exact t_tabIn hC (j := 14) W_law_33 (by rw [c14']; decide) (by decide) rfl (by decide) (case_tell hC hi6 hcp b1' b2' kk)
      by_cases c15' : y = 15
      · exact t_tabIn hC (j := 15) W_law_33 (by rw [c15']; decide) (by decide) rfl (by decide) (case_duty hC hi6 hcp b1' b2' kk)
      by_cases c16' : y = 16
      · exact t_tabIn hC (j := 16) W_law_33 (by rw [c16']; decide) (by decide) rfl (by decide) (case_book hC hi6 hcp b1' b2' kk)
      by_cases c17' : y = 17
      · exact t_tabIn hC (j := 17) W_law_33 (by rw [c17']; decide) (by decide) rfl (by decide) (case_count hC hi6 hcp b1' b2' kk)
      by_cases c18' : y = 18
      · exact t_tabIn hC (j := 18) W_law_33 (by rw [c18']; decide) (by decide) rfl (by decide) (case_image hC hi6 hcp b1' b2' kk)
      by_cases c19' : y = 19
      · exact t_tabIn hC (j := 19) W_law_33 (by rw [c19']; decide) (by decide) rfl (by decide) (case_again hC hi6 hcp b1' b2' kk)
      refine t_tabOut hC W_law_33 ?_ (t := 910) (by decide) (kk h hcp (by omega) (by omega))
      apply Classical.byContradiction
      intro c
      have hy : y.toInt = 0 ∨ y.toInt = 1 ∨ y.toInt = 2 ∨ y.toInt = 3 ∨ y.toInt = 4 ∨ y.toInt = 5 ∨ y.toInt = 6 ∨ y.toInt = 7 ∨ y.toInt = 8 ∨ y.toInt = 9 ∨ y.toInt = 10 ∨ y.toInt = 11 ∨ y.toInt = 12 ∨ y.toInt = 13 ∨ y.toInt = 14 ∨ y.toInt = 15 ∨ y.toInt = 16 ∨ y.toInt = 17 ∨ y.toInt = 18 ∨ y.toInt = 19 := by omega
      rcases hy with w | w | w | w | w | w | w | w | w | w | w | w | w | w | w | w | w | w | w | w
      · exact c0' (Int32.toInt_inj.mp (w.trans (by decide)))
      · exact c1' (Int32.toInt_inj.mp (w.trans (by decide)))
      · exact c2' (Int32.toInt_inj.mp (w.trans (by decide)))
      · exact c3' (Int32.toInt_inj.mp (w.trans (by decide)))
      · exact c4' (Int32.toInt_inj.mp (w.trans (by decide)))
      · exact c5' (Int32.toInt_inj.mp (w.trans (by decide)))
      · exact c6' (Int32.toInt_inj.mp (w.trans (by decide)))
      · exact c7' (Int32.toInt_inj.mp (w.trans (by decide)))
      · exact c8' (Int32.toInt_inj.mp (w.trans (by decide)))
      · exact c9' (Int32.toInt_inj.mp (w.trans (by decide)))
      · exact c10' (Int32.toInt_inj.mp (w.trans (by decide)))
      · exact c11' (Int32.toInt_inj.mp (w.trans (by decide)))
      · exact c12' (Int32.toInt_inj.mp (w.trans (by decide)))
      · exact c13' (Int32.toInt_inj.mp (w.trans (by decide)))
      · exact c14' (Int32.toInt_inj.mp (w.trans (by decide)))
      · exact c15' (Int32.toInt_inj.mp (w.trans (by decide)))
      · exact c16' (Int32.toInt_inj.mp (w.trans (by decide)))
      · exact c17' (Int32.toInt_inj.mp (w.trans (by decide)))
      · exact c18' (Int32.toInt_inj.mp (w.trans (by decide)))
      · exact c19' (Int32.toInt_inj.mp (w.trans (by decide)))
set_option maxRecDepth 100000 in
theorem law_start {Λ : Lx} (hC : LwC Λ) : lwp Λ 0 (ent 4 [.retAddr 33]) [] hp0 := by
  obtain ⟨d0, d3, d4, d7, d8, d11, d12, d15, d16, d17, _⟩ := D_law_0
  obtain ⟨r, h1, ⟨rfl, rfl⟩, hB⟩ := ini_cls (fun r h' => r = none ∧ h' = hpB) ⟨rfl, rfl⟩
  obtain ⟨r2, h2, ⟨rfl, rfl⟩, hB2⟩ := ini_ref (fun r h' => r = none ∧ h' = hpD) ⟨rfl, rfl⟩
  obtain ⟨tB, sB⟩ := hpB_T
  obtain ⟨tD, sD⟩ := hpD_T
  have tC := hpC_T.1
  have hloop := law_loop hC (xn Λ + 6) 0 hpD (by omega) (by omega) hpD_cp (by omega) (by omega)
  have s0 : hS hp0 + fN 11 ≤ 7302250 := by decide +kernel
  have s1 : hS hpB + fN 12 ≤ 7302250 := by
    have : fN 12 = 59 := rfl
    omega
  refine t_new hC (k := 11) kX11 ot_X11 (ch_1_1_ok.2.2.2.2.2.2.1.1 rfl) (ch_1_1_ok.2.2.2.2.2.2.2.1.1 rfl) (ch_1_0_ok.2.1.1 rfl) d0 (by decide +kernel) s0 ?_
  show lwp Λ (0 + 3) (ent 4 [.retAddr 33]) [.ref 0] hpA
  refine t_dup hC d3 ?_
  have g1 : lwp Λ (0 + 3 + 1 + 3) (ent 4 [.retAddr 33]) ((none : Option Value).toList ++ [.ref 0]) hpB := by
    show lwp Λ (0 + 3 + 1 + 3) (ent 4 [.retAddr 33]) [.ref 0] hpB
    refine t_ast hC (i := 1) d7 rfl (by decide) ?_
    refine t_new hC (k := 12) kX12 ot_X12 (ch_5_1_ok.2.2.2.2.1.1 rfl) (ch_5_1_ok.2.2.2.2.2.1.1 rfl) (ch_1_0_ok.2.2.2.2.2.2.2.2.2.2.1.1 rfl) d8 (by omega) s1 ?_
    rw [tB]
    refine t_dup hC d11 ?_
    have g2 : lwp Λ (0 + 3 + 1 + 3 + 1 + 3 + 1 + 3) (lset (ent 4 [.retAddr 33]) 1 (.ref 0)) ((none : Option Value).toList ++ [.ref 44]) hpD := by
      show lwp Λ (0 + 3 + 1 + 3 + 1 + 3 + 1 + 3) (lset (ent 4 [.retAddr 33]) 1 (.ref 0)) [.ref 44] hpD
      refine t_ast hC (i := 2) d15 rfl (by decide) ?_
      refine t_iconst hC d16 (v := 0) (by decide) (t_ist hC (i := 3) d17 rfl (by decide) ?_)
      exact hloop
    exact t_callI hC mo_X12_init rfl rfl (ch_5_1_ok.2.2.2.2.2.2.1.1 rfl) (ch_5_1_ok.2.2.2.2.2.2.2.1.1 rfl) (by decide) (av := []) (rest := [.ref 44]) rfl (by decide) hB2 (by omega) (by omega) d12 g2
  exact t_callI hC mo_X11_init rfl rfl (ch_1_1_ok.2.2.2.2.2.2.2.2.1.1 rfl) (ch_1_1_ok.2.2.2.2.2.2.2.2.2.1.1 rfl) (by decide) (av := []) (rest := [.ref 0]) rfl (by decide) hB (by omega) (by omega) d4 g1
