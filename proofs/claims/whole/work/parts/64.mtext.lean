/-! ===== the reference: text; the copies of the lines ===== -/
noncomputable def cpM (f : Mem) (k l : Nat) (C : Nat → Prop) : Mem := fun a i => if a = 69 ∧ i = 0 then nI k else if a = 70 ∧ i < l then f 80 i else if a = 74 ∧ i < l then f 84 i else if a = 75 ∧ i < l then f 85 i else cif (71 ≤ a ∧ a ≤ 73 ∧ C i) (f (a + 10) i) (f a i)
theorem cpM_o (f : Mem) (k l : Nat) (C : Nat → Prop) {a : Nat} (h : a < 69 ∨ 75 < a) (i : Nat) : cpM f k l C a i = f a i := by
  unfold cpM
  rw [if_neg (fun z => by omega), if_neg (fun z => by omega), if_neg (fun z => by omega), if_neg (fun z => by omega), cif_f (fun z => by omega)]
theorem cpM_l (f : Mem) (k l : Nat) (C : Nat → Prop) : u2 (u2 (u2 (cpM f k l C) 70 l (f 80 l)) 74 l (f 84 l)) 75 l (f 85 l) = cpM f k (l + 1) C := by
  funext a i
  unfold u2 cpM
  by_cases a69 : a = 69
  · subst a69
    rw [if_neg (fun z => absurd z.1 (by decide)), if_neg (fun z => absurd z.1 (by decide)), if_neg (fun z => absurd z.1 (by decide))]
    by_cases c : i = 0
    · have hc : 69 = 69 ∧ i = 0 := ⟨rfl, c⟩
      rw [if_pos hc, if_pos hc]
    · have hc : ¬ (69 = 69 ∧ i = 0) := fun z => c z.2
      rw [if_neg hc, if_neg hc, if_neg (fun z => absurd z.1 (by decide)), if_neg (fun z => absurd z.1 (by decide)), if_neg (fun z => absurd z.1 (by decide)), if_neg (fun z => absurd z.1 (by decide)), if_neg (fun z => absurd z.1 (by decide)), if_neg (fun z => absurd z.1 (by decide))]
  · have h69 : ¬ (a = 69 ∧ i = 0) := fun z => a69 z.1
    rw [if_neg h69, if_neg h69]
    by_cases il : i = l
    · subst il
      by_cases a75 : a = 75
      · subst a75
        have h1 : 75 = 75 ∧ i = i := ⟨rfl, rfl⟩
        have h2 : 75 = 75 ∧ i < i + 1 := ⟨rfl, by omega⟩
        rw [if_pos h1, if_neg (fun z => absurd z.1 (by decide)), if_neg (fun z => absurd z.1 (by decide)), if_pos h2]
      · rw [if_neg (fun z => a75 z.1)]
        by_cases a74 : a = 74
        · subst a74
          have h1 : 74 = 74 ∧ i = i := ⟨rfl, rfl⟩
          have h2 : 74 = 74 ∧ i < i + 1 := ⟨rfl, by omega⟩
          rw [if_pos h1, if_neg (fun z => absurd z.1 (by decide)), if_pos h2]
        · rw [if_neg (fun z => a74 z.1)]
          by_cases a70 : a = 70
          · subst a70
            have h1 : 70 = 70 ∧ i = i := ⟨rfl, rfl⟩
            have h2 : 70 = 70 ∧ i < i + 1 := ⟨rfl, by omega⟩
            rw [if_pos h1, if_pos h2]
          · rw [if_neg (fun z => a70 z.1), if_neg (fun z => a70 z.1), if_neg (fun z => a74 z.1), if_neg (fun z => a75 z.1), if_neg (fun z => a70 z.1), if_neg (fun z => a74 z.1), if_neg (fun z => a75 z.1)]
    · rw [if_neg (fun z => il z.2), if_neg (fun z => il z.2), if_neg (fun z => il z.2)]
      have e : (i < l + 1) ↔ i < l := by omega
      simp only [e]
theorem cpM_x (f : Mem) (k l j : Nat) (C C2 : Nat → Prop) (hC : ∀ i, C2 i ↔ C i ∨ i = j) : u2 (u2 (u2 (cpM f k l C) 71 j (f 81 j)) 72 j (f 82 j)) 73 j (f 83 j) = cpM f k l C2 := by
  funext a i
  unfold u2 cpM
  by_cases il : i = j
  · subst il
    by_cases a73 : a = 73
    · subst a73
      have h1 : 73 = 73 ∧ i = i := ⟨rfl, rfl⟩
      have h2 : 71 ≤ 73 ∧ 73 ≤ 73 ∧ C2 i := ⟨by decide, by decide, (hC i).mpr (Or.inr rfl)⟩
      rw [if_pos h1, if_neg (fun z => absurd z.1 (by decide)), if_neg (fun z => absurd z.1 (by decide)), if_neg (fun z => absurd z.1 (by decide)), if_neg (fun z => absurd z.1 (by decide)), cif_t h2]
    · rw [if_neg (fun z => a73 z.1)]
      by_cases a72 : a = 72
      · subst a72
        have h1 : 72 = 72 ∧ i = i := ⟨rfl, rfl⟩
        have h2 : 71 ≤ 72 ∧ 72 ≤ 73 ∧ C2 i := ⟨by decide, by decide, (hC i).mpr (Or.inr rfl)⟩
        rw [if_pos h1, if_neg (fun z => absurd z.1 (by decide)), if_neg (fun z => absurd z.1 (by decide)), if_neg (fun z => absurd z.1 (by decide)), if_neg (fun z => absurd z.1 (by decide)), cif_t h2]
      · rw [if_neg (fun z => a72 z.1)]
        by_cases a71 : a = 71
        · subst a71
          have h1 : 71 = 71 ∧ i = i := ⟨rfl, rfl⟩
          have h2 : 71 ≤ 71 ∧ 71 ≤ 73 ∧ C2 i := ⟨by decide, by decide, (hC i).mpr (Or.inr rfl)⟩
          rw [if_pos h1, if_neg (fun z => absurd z.1 (by decide)), if_neg (fun z => absurd z.1 (by decide)), if_neg (fun z => absurd z.1 (by decide)), if_neg (fun z => absurd z.1 (by decide)), cif_t h2]
        · rw [if_neg (fun z => a71 z.1), cif_f (fun z => by omega), cif_f (fun z => by omega)]
  · rw [if_neg (fun z => il z.2), if_neg (fun z => il z.2), if_neg (fun z => il z.2)]
    have e : (71 ≤ a ∧ a ≤ 73 ∧ C2 i) ↔ (71 ≤ a ∧ a ≤ 73 ∧ C i) := ⟨fun z => ⟨z.1, z.2.1, by rcases (hC i).mp z.2.2 with q | q; exact q; exact absurd q il⟩, fun z => ⟨z.1, z.2.1, (hC i).mpr (Or.inl z.2.2)⟩⟩
    rw [propext e]
theorem cpM_c (f : Mem) (k l : Nat) {C C2 : Nat → Prop} (hC : ∀ i, C i ↔ C2 i) : cpM f k l C = cpM f k l C2 := by
  have : C = C2 := funext fun i => propext (hC i)
  rw [this]
theorem cpM_0 (f : Mem) (k : Nat) (C : Nat → Prop) (hC : ∀ i, ¬ C i) : u2 f 69 0 (nI k) = cpM f k 0 C := by
  funext a i
  unfold u2 cpM
  rw [if_neg (fun z => by omega : ¬ (a = 70 ∧ i < 0)), if_neg (fun z => by omega : ¬ (a = 74 ∧ i < 0)), if_neg (fun z => by omega : ¬ (a = 75 ∧ i < 0)), cif_f (fun z => hC i z.2.2)]
def tC (f : Mem) (l x : Nat) (i : Nat) : Prop := (i / 4 < l ∨ (i / 4 = l ∧ i % 4 < x)) ∧ i % 4 < (f 80 (i / 4)).toNatClampNeg
def lOk (f : Mem) (k : Nat) : Prop := k ≤ 16 ∧ ∀ l, l < k → ∃ T, T ≤ 4 ∧ f 80 l = nI T
def L_X12_text : List UInt8 := [42, 3, 181, 0, 151, 42, 42, 180, 0, 158, 181, 0, 172, 42, 3, 181, 0, 158, 42, 3, 181, 0, 169, 42, 3, 181, 0, 192, 42, 2, 181, 0, 116, 42, 2, 181, 0, 195, 42, 3, 181, 0, 209, 4, 60, 42, 182, 0, 206, 27, 153, 0, 18, 42, 180, 0, 189, 153, 0, 11, 42, 182, 1, 2, 60, 167, 255, 240, 42, 180, 0, 192, 154, 0, 24, 42, 180, 0, 195, 2, 159, 0, 16, 42, 6, 181, 0, 192, 42, 42, 180, 0, 195, 181, 0, 116, 42, 180, 0, 192, 158, 0, 5, 2, 172, 42, 180, 0, 83, 3, 42, 180, 0, 209, 79, 3, 61, 28, 42, 180, 0, 209, 162, 0, 105, 42, 180, 0, 86, 28, 42, 180, 0, 120, 28, 46, 79, 42, 180, 0, 98, 28, 42, 180, 0, 132, 28, 46, 79, 42, 180, 0, 101, 28, 42, 180, 0, 135, 28, 46, 79, 7, 28, 104, 62, 29, 7, 28, 104, 42, 180, 0, 120, 28, 46, 96, 162, 0, 45, 42, 180, 0, 89, 29, 42, 180, 0, 123, 29, 46, 79, 42, 180, 0, 92, 29, 42, 180, 0, 126, 29, 46, 79, 42, 180, 0, 95, 29, 42, 180, 0, 129, 29, 46, 79, 132, 3, 1, 167, 255, 203, 132, 2, 1, 167, 255, 149, 42, 180, 0, 209, 172]
theorem Lc_X12_text : MX12_text.2.1 = ⟨L_X12_text.toArray⟩ := rfl
theorem D_X12_text_0 : dseq MX12_text.2.1 0 [(.aload_n 0, 1), (.iconst 0, 1), (.putfield 151, 3), (.aload_n 0, 1), (.aload_n 0, 1), (.getfield 158, 3), (.putfield 172, 3), (.aload_n 0, 1), (.iconst 0, 1), (.putfield 158, 3), (.aload_n 0, 1), (.iconst 0, 1), (.putfield 169, 3), (.aload_n 0, 1), (.iconst 0, 1), (.putfield 192, 3), (.aload_n 0, 1), (.iconst (-1), 1), (.putfield 116, 3), (.aload_n 0, 1), (.iconst (-1), 1), (.putfield 195, 3), (.aload_n 0, 1), (.iconst 0, 1), (.putfield 209, 3), (.iconst 1, 1), (.istore_n 1, 1), (.aload_n 0, 1), (.invokevirtual 206, 3)] := dq Lc_X12_text 0 _ (by decide +kernel)
theorem D_X12_text_49 : dseq MX12_text.2.1 49 [(.iload_n 1, 1), (.ifCond .eq 18, 3), (.aload_n 0, 1), (.getfield 189, 3), (.ifCond .eq 11, 3), (.aload_n 0, 1), (.invokevirtual 258, 3), (.istore_n 1, 1), (.goto (-16), 3)] := dq Lc_X12_text 49 _ (by decide +kernel)
theorem D_X12_text_68 : dseq MX12_text.2.1 68 [(.aload_n 0, 1), (.getfield 192, 3), (.ifCond .ne 24, 3), (.aload_n 0, 1), (.getfield 195, 3), (.iconst (-1), 1), (.if_icmp .eq 16, 3), (.aload_n 0, 1), (.iconst 3, 1), (.putfield 192, 3), (.aload_n 0, 1), (.aload_n 0, 1), (.getfield 195, 3), (.putfield 116, 3)] := dq Lc_X12_text 68 _ (by decide +kernel)
theorem D_X12_text_96 : dseq MX12_text.2.1 96 [(.aload_n 0, 1), (.getfield 192, 3), (.ifCond .le 5, 3), (.iconst (-1), 1), (.ireturn, 1)] := dq Lc_X12_text 96 _ (by decide +kernel)
theorem D_X12_text_105 : dseq MX12_text.2.1 105 [(.aload_n 0, 1), (.getfield 83, 3), (.iconst 0, 1), (.aload_n 0, 1), (.getfield 209, 3), (.iastore, 1), (.iconst 0, 1), (.istore_n 2, 1)] := dq Lc_X12_text 105 _ (by decide +kernel)
theorem D_X12_text_117 : dseq MX12_text.2.1 117 [(.iload_n 2, 1), (.aload_n 0, 1), (.getfield 209, 3), (.if_icmp .ge 105, 3), (.aload_n 0, 1), (.getfield 86, 3), (.iload_n 2, 1), (.aload_n 0, 1), (.getfield 120, 3), (.iload_n 2, 1), (.iaload, 1), (.iastore, 1), (.aload_n 0, 1), (.getfield 98, 3), (.iload_n 2, 1), (.aload_n 0, 1), (.getfield 132, 3), (.iload_n 2, 1), (.iaload, 1), (.iastore, 1), (.aload_n 0, 1), (.getfield 101, 3), (.iload_n 2, 1), (.aload_n 0, 1), (.getfield 135, 3), (.iload_n 2, 1), (.iaload, 1), (.iastore, 1), (.iconst 4, 1), (.iload_n 2, 1), (.imul, 1), (.istore_n 3, 1)] := dq Lc_X12_text 117 _ (by decide +kernel)
theorem D_X12_text_227 : dseq MX12_text.2.1 227 [(.aload_n 0, 1), (.getfield 209, 3), (.ireturn, 1)] := dq Lc_X12_text 227 _ (by decide +kernel)
theorem D_X12_text_165 : dseq MX12_text.2.1 165 [(.iload_n 3, 1), (.iconst 4, 1), (.iload_n 2, 1), (.imul, 1), (.aload_n 0, 1), (.getfield 120, 3), (.iload_n 2, 1), (.iaload, 1), (.iadd, 1), (.if_icmp .ge 45, 3), (.aload_n 0, 1), (.getfield 89, 3), (.iload_n 3, 1), (.aload_n 0, 1), (.getfield 123, 3), (.iload_n 3, 1), (.iaload, 1), (.iastore, 1), (.aload_n 0, 1), (.getfield 92, 3), (.iload_n 3, 1), (.aload_n 0, 1), (.getfield 126, 3), (.iload_n 3, 1), (.iaload, 1), (.iastore, 1), (.aload_n 0, 1), (.getfield 95, 3), (.iload_n 3, 1), (.aload_n 0, 1), (.getfield 129, 3), (.iload_n 3, 1), (.iaload, 1), (.iastore, 1), (.iinc 3 1, 3), (.goto (-53), 3)] := dq Lc_X12_text 165 _ (by decide +kernel)
theorem D_X12_text_221 : dseq MX12_text.2.1 221 [(.iinc 2 1, 3), (.goto (-107), 3)] := dq Lc_X12_text 221 _ (by decide +kernel)
def c_X12_text_49 (Q : Option Value → Hp → Prop) : Kt := i_keep [true, true, false, false] (wp 4 MX12_text Q 49)
def c_X12_text_64 (Q : Option Value → Hp → Prop) : Kt := i_ist 1 (i_keep [true, true, false, false] (wp 4 MX12_text Q 49))
def b_X12_text_0 (Q : Option Value → Hp → Prop) : Kt := i_ald 0 (i_push (.int 0) (i_putI 12 0 (i_ald 0 (i_ald 0 (i_getI 12 2 (i_putI 12 38 (i_ald 0 (i_push (.int 0) (i_putI 12 2 (i_ald 0 (i_push (.int 0) (i_putI 12 37 (i_ald 0 (i_push (.int 0) (i_putI 12 43 (i_ald 0 (i_push (.int (-1)) (i_putI 12 44 (i_ald 0 (i_push (.int (-1)) (i_putI 12 45 (i_ald 0 (i_push (.int 0) (i_putI 12 46 (i_push (.int 1) (i_ist 1 (i_ald 0 (i_callV 12 0 T_X12_next (c_X12_text_49 Q)))))))))))))))))))))))))))))
set_option maxRecDepth 100000 in
theorem s_X12_text_0 (Q : Option Value → Hp → Prop) : ∀ A st h, b_X12_text_0 Q A st h → wp 4 MX12_text Q 0 A st h := (q1 (s_aldn (n := 0) (i := 0) rfl) D_X12_text_0 fun D => (q1 (s_iconst (n := 0) (v := 0) (by decide)) D fun D => (qP pl_X12_151 rfl (Or.inl rfl) D fun D => (q1 (s_aldn (n := 0) (i := 0) rfl) D fun D => (q1 (s_aldn (n := 0) (i := 0) rfl) D fun D => (qC fl_X12_158 rfl D fun D => (qP pl_X12_172 rfl (Or.inl rfl) D fun D => (q1 (s_aldn (n := 0) (i := 0) rfl) D fun D => (q1 (s_iconst (n := 0) (v := 0) (by decide)) D fun D => (qP pl_X12_158 rfl (Or.inl rfl) D fun D => (q1 (s_aldn (n := 0) (i := 0) rfl) D fun D => (q1 (s_iconst (n := 0) (v := 0) (by decide)) D fun D => (qP pl_X12_169 rfl (Or.inl rfl) D fun D => (q1 (s_aldn (n := 0) (i := 0) rfl) D fun D => (q1 (s_iconst (n := 0) (v := 0) (by decide)) D fun D => (qP pl_X12_192 rfl (Or.inl rfl) D fun D => (q1 (s_aldn (n := 0) (i := 0) rfl) D fun D => (q1 (s_iconst (n := (-1)) (v := (-1)) (by decide)) D fun D => (qP pl_X12_116 rfl (Or.inl rfl) D fun D => (q1 (s_aldn (n := 0) (i := 0) rfl) D fun D => (q1 (s_iconst (n := (-1)) (v := (-1)) (by decide)) D fun D => (qP pl_X12_195 rfl (Or.inl rfl) D fun D => (q1 (s_aldn (n := 0) (i := 0) rfl) D fun D => (q1 (s_iconst (n := 0) (v := 0) (by decide)) D fun D => (qP pl_X12_209 rfl (Or.inl rfl) D fun D => (q1 (s_iconst (n := 1) (v := 1) (by decide)) D fun D => (qL (s_istn (n := 1) (i := 1) rfl) (by decide) D fun D => (q1 (s_aldn (n := 0) (i := 0) rfl) D fun D => (qX (s_callV kX12 rfl ok_X12_next mo_X12_next (ch_5_13_ok.2.2.2.2.2.2.2.2.2.2.2.2.2.2.2.1.1 rfl) (ch_5_14_ok.2.1.1 rfl) (pv_2.2.2.2.2.2.1)) rfl (by decide) D fun D => (s_keep [true, true, false, false] fun _ _ _ h => h))))))))))))))))))))))))))))))
def b_X12_text_49 (Q : Option Value → Hp → Prop) : Kt := i_ild 1 (i_if (fun x => x = 0) (i_keep [true, false, false, false] (wp 4 MX12_text Q 68)) (i_ald 0 (i_getI 12 40 (i_if (fun x => x = 0) (i_keep [true, false, false, false] (wp 4 MX12_text Q 68)) (i_ald 0 (i_callV 12 0 T_X12_oneLine (c_X12_text_64 Q)))))))
set_option maxRecDepth 100000 in
theorem s_X12_text_49 (Q : Option Value → Hp → Prop) : ∀ A st h, b_X12_text_49 Q A st h → wp 4 MX12_text Q 49 A st h := (q1 (s_ildn (n := 1) (i := 1) rfl) D_X12_text_49 fun D => (qB s_ifeq 68 (by decide) D (s_keep [true, false, false, false] fun _ _ _ h => h) fun D => (q1 (s_aldn (n := 0) (i := 0) rfl) D fun D => (qC fl_X12_189 rfl D fun D => (qB s_ifeq 68 (by decide) D (s_keep [true, false, false, false] fun _ _ _ h => h) fun D => (q1 (s_aldn (n := 0) (i := 0) rfl) D fun D => (qX (s_callV kX12 rfl ok_X12_oneLine mo_X12_oneLine (ch_5_14_ok.2.2.2.2.2.2.2.1.1 rfl) (ch_5_14_ok.2.2.2.2.2.2.2.2.2.1.1 rfl) (pv_2.2.2.2.2.2.2.2.1)) rfl (by decide) D fun D => (qL (s_istn (n := 1) (i := 1) rfl) (by decide) D fun D => (qG 49 (by decide) D (s_keep [true, true, false, false] fun _ _ _ h => h))))))))))
def b_X12_text_68 (Q : Option Value → Hp → Prop) : Kt := i_ald 0 (i_getI 12 43 (i_if (fun x => x = 0) (i_ald 0 (i_getI 12 45 (i_push (.int (-1)) (i_cmp (fun x y => x = y) (i_keep [true, false, false, false] (wp 4 MX12_text Q 96)) (i_ald 0 (i_push (.int 3) (i_putI 12 43 (i_ald 0 (i_ald 0 (i_getI 12 45 (i_putI 12 44 (i_keep [true, false, false, false] (wp 4 MX12_text Q 96))))))))))))) (i_keep [true, false, false, false] (wp 4 MX12_text Q 96))))
set_option maxRecDepth 100000 in
theorem s_X12_text_68 (Q : Option Value → Hp → Prop) : ∀ A st h, b_X12_text_68 Q A st h → wp 4 MX12_text Q 68 A st h := (q1 (s_aldn (n := 0) (i := 0) rfl) D_X12_text_68 fun D => (qC fl_X12_192 rfl D fun D => (qBn s_ifne2 96 (by decide) D (s_keep [true, false, false, false] fun _ _ _ h => h) fun D => (q1 (s_aldn (n := 0) (i := 0) rfl) D fun D => (qC fl_X12_195 rfl D fun D => (q1 (s_iconst (n := (-1)) (v := (-1)) (by decide)) D fun D => (qB s_cmpeq 96 (by decide) D (s_keep [true, false, false, false] fun _ _ _ h => h) fun D => (q1 (s_aldn (n := 0) (i := 0) rfl) D fun D => (q1 (s_iconst (n := 3) (v := 3) (by decide)) D fun D => (qP pl_X12_192 rfl (Or.inl rfl) D fun D => (q1 (s_aldn (n := 0) (i := 0) rfl) D fun D => (q1 (s_aldn (n := 0) (i := 0) rfl) D fun D => (qC fl_X12_195 rfl D fun D => (qP pl_X12_116 rfl (Or.inl rfl) D fun D => (s_keep [true, false, false, false] fun _ _ _ h => h)))))))))))))))
def b_X12_text_96 (Q : Option Value → Hp → Prop) : Kt := i_ald 0 (i_getI 12 43 (i_if (fun x => x ≤ 0) (i_ald 0 (i_getR 12 26 (i_push (.int 0) (i_ald 0 (i_getI 12 46 (i_iast (i_push (.int 0) (i_ist 2 (i_keep [true, false, true, false] (wp 4 MX12_text Q 117)))))))))) (i_push (.int (-1)) (i_iret Q))))
set_option maxRecDepth 100000 in
theorem s_X12_text_96 (Q : Option Value → Hp → Prop) : ∀ A st h, b_X12_text_96 Q A st h → wp 4 MX12_text Q 96 A st h := (q1 (s_aldn (n := 0) (i := 0) rfl) D_X12_text_96 fun D => (qC fl_X12_192 rfl D fun D => (qB s_ifle 105 (by decide) D (q1 (s_aldn (n := 0) (i := 0) rfl) D_X12_text_105 fun D => (qC fl_X12_83 rfl D fun D => (q1 (s_iconst (n := 0) (v := 0) (by decide)) D fun D => (q1 (s_aldn (n := 0) (i := 0) rfl) D fun D => (qC fl_X12_209 rfl D fun D => (q1 s_iast D fun D => (q1 (s_iconst (n := 0) (v := 0) (by decide)) D fun D => (qL (s_istn (n := 2) (i := 2) rfl) (by decide) D fun D => (s_keep [true, false, true, false] fun _ _ _ h => h))))))))) fun D => (q1 (s_iconst (n := (-1)) (v := (-1)) (by decide)) D fun D => (qI rfl D)))))
def b_X12_text_117 (Q : Option Value → Hp → Prop) : Kt := i_ild 2 (i_ald 0 (i_getI 12 46 (i_cmp (fun x y => y ≤ x) (i_ald 0 (i_getI 12 46 (i_iret Q))) (i_ald 0 (i_getR 12 27 (i_ild 2 (i_ald 0 (i_getR 12 47 (i_ild 2 (i_iald (i_iast (i_ald 0 (i_getR 12 31 (i_ild 2 (i_ald 0 (i_getR 12 51 (i_ild 2 (i_iald (i_iast (i_ald 0 (i_getR 12 32 (i_ild 2 (i_ald 0 (i_getR 12 52 (i_ild 2 (i_iald (i_iast (i_push (.int 4) (i_ild 2 (i_bin (fun x y => x * y) (i_ist 3 (i_keep [true, false, true, true] (wp 4 MX12_text Q 165)))))))))))))))))))))))))))))))))
set_option maxRecDepth 100000 in
theorem s_X12_text_117 (Q : Option Value → Hp → Prop) : ∀ A st h, b_X12_text_117 Q A st h → wp 4 MX12_text Q 117 A st h := (q1 (s_ildn (n := 2) (i := 2) rfl) D_X12_text_117 fun D => (q1 (s_aldn (n := 0) (i := 0) rfl) D fun D => (qC fl_X12_209 rfl D fun D => (qB s_cmpge 227 (by decide) D (q1 (s_aldn (n := 0) (i := 0) rfl) D_X12_text_227 fun D => (qC fl_X12_209 rfl D fun D => (qI rfl D))) fun D => (q1 (s_aldn (n := 0) (i := 0) rfl) D fun D => (qC fl_X12_86 rfl D fun D => (q1 (s_ildn (n := 2) (i := 2) rfl) D fun D => (q1 (s_aldn (n := 0) (i := 0) rfl) D fun D => (qC fl_X12_120 rfl D fun D => (q1 (s_ildn (n := 2) (i := 2) rfl) D fun D => (q1 s_iald D fun D => (q1 s_iast D fun D => (q1 (s_aldn (n := 0) (i := 0) rfl) D fun D => (qC fl_X12_98 rfl D fun D => (q1 (s_ildn (n := 2) (i := 2) rfl) D fun D => (q1 (s_aldn (n := 0) (i := 0) rfl) D fun D => (qC fl_X12_132 rfl D fun D => (q1 (s_ildn (n := 2) (i := 2) rfl) D fun D => (q1 s_iald D fun D => (q1 s_iast D fun D => (q1 (s_aldn (n := 0) (i := 0) rfl) D fun D => (qC fl_X12_101 rfl D fun D => (q1 (s_ildn (n := 2) (i := 2) rfl) D fun D => (q1 (s_aldn (n := 0) (i := 0) rfl) D fun D => (qC fl_X12_135 rfl D fun D => (q1 (s_ildn (n := 2) (i := 2) rfl) D fun D => (q1 s_iald D fun D => (q1 s_iast D fun D => (q1 (s_iconst (n := 4) (v := 4) (by decide)) D fun D => (q1 (s_ildn (n := 2) (i := 2) rfl) D fun D => (q1 s_mul D fun D => (qL (s_istn (n := 3) (i := 3) rfl) (by decide) D fun D => (s_keep [true, false, true, true] fun _ _ _ h => h)))))))))))))))))))))))))))))))))
def b_X12_text_165 (Q : Option Value → Hp → Prop) : Kt := i_ild 3 (i_push (.int 4) (i_ild 2 (i_bin (fun x y => x * y) (i_ald 0 (i_getR 12 47 (i_ild 2 (i_iald (i_bin (fun x y => x + y) (i_cmp (fun x y => y ≤ x) (i_inc 2 1 (i_keep [true, false, true, false] (wp 4 MX12_text Q 117))) (i_ald 0 (i_getR 12 28 (i_ild 3 (i_ald 0 (i_getR 12 48 (i_ild 3 (i_iald (i_iast (i_ald 0 (i_getR 12 29 (i_ild 3 (i_ald 0 (i_getR 12 49 (i_ild 3 (i_iald (i_iast (i_ald 0 (i_getR 12 30 (i_ild 3 (i_ald 0 (i_getR 12 50 (i_ild 3 (i_iald (i_iast (i_inc 3 1 (i_keep [true, false, true, true] (wp 4 MX12_text Q 165))))))))))))))))))))))))))))))))))))
set_option maxRecDepth 100000 in
theorem s_X12_text_165 (Q : Option Value → Hp → Prop) : ∀ A st h, b_X12_text_165 Q A st h → wp 4 MX12_text Q 165 A st h := (q1 (s_ildn (n := 3) (i := 3) rfl) D_X12_text_165 fun D => (q1 (s_iconst (n := 4) (v := 4) (by decide)) D fun D => (q1 (s_ildn (n := 2) (i := 2) rfl) D fun D => (q1 s_mul D fun D => (q1 (s_aldn (n := 0) (i := 0) rfl) D fun D => (qC fl_X12_120 rfl D fun D => (q1 (s_ildn (n := 2) (i := 2) rfl) D fun D => (q1 s_iald D fun D => (q1 s_add D fun D => (qB s_cmpge 221 (by decide) D (qL (s_inc (i := 2) (n := 1) (v := 1) (by decide)) (by decide) D_X12_text_221 fun D => (qG 117 (by decide) D (s_keep [true, false, true, false] fun _ _ _ h => h))) fun D => (q1 (s_aldn (n := 0) (i := 0) rfl) D fun D => (qC fl_X12_89 rfl D fun D => (q1 (s_ildn (n := 3) (i := 3) rfl) D fun D => (q1 (s_aldn (n := 0) (i := 0) rfl) D fun D => (qC fl_X12_123 rfl D fun D => (q1 (s_ildn (n := 3) (i := 3) rfl) D fun D => (q1 s_iald D fun D => (q1 s_iast D fun D => (q1 (s_aldn (n := 0) (i := 0) rfl) D fun D => (qC fl_X12_92 rfl D fun D => (q1 (s_ildn (n := 3) (i := 3) rfl) D fun D => (q1 (s_aldn (n := 0) (i := 0) rfl) D fun D => (qC fl_X12_126 rfl D fun D => (q1 (s_ildn (n := 3) (i := 3) rfl) D fun D => (q1 s_iald D fun D => (q1 s_iast D fun D => (q1 (s_aldn (n := 0) (i := 0) rfl) D fun D => (qC fl_X12_95 rfl D fun D => (q1 (s_ildn (n := 3) (i := 3) rfl) D fun D => (q1 (s_aldn (n := 0) (i := 0) rfl) D fun D => (qC fl_X12_129 rfl D fun D => (q1 (s_ildn (n := 3) (i := 3) rfl) D fun D => (q1 s_iald D fun D => (q1 s_iast D fun D => (qL (s_inc (i := 3) (n := 1) (v := 1) (by decide)) (by decide) D fun D => (qG 165 (by decide) D (s_keep [true, false, true, true] fun _ _ _ h => h)))))))))))))))))))))))))))))))))))))

set_option maxRecDepth 100000 in
set_option maxHeartbeats 400000 in
theorem tx_117 (Q : Option Value → Hp → Prop) (h : Hp) (hl0 : LayM h) (f : Mem) (g : Nat → Nat → Int64) (k : Nat) (h46 : f 44 46 = nI k) (hk : lOk f k)
    (hq : Q (some (.int (nI k))) (wIJ h (cpM f k k (tC f k 0)) g)) :
    ∀ (m l : Nat), m = k - l → l ≤ k → wp 4 MX12_text Q 117 [some (.ref 44), none, some (.int (nI l)), none] [] (wIJ h (cpM f k l (tC f l 0)) g) := by
  obtain ⟨hk16, hT⟩ := hk
  intro m
  induction m with
  | zero =>
    intro l hm hlk
    have e : l = k := by omega
    subst e
    have hl : LayM (wIJ h (cpM f l l (tC f l 0)) g) := hl0
    have e46 : hI (wIJ h (cpM f l l (tC f l 0)) g) 44 46 = nI l := (cpM_o f l l _ (Or.inl (by decide)) 46).trans h46
    refine s_X12_text_117 Q _ _ _ ?_
    generalize wIJ h (cpM f l l (tC f l 0)) g = H at hl e46 hq ⊢
    simp only [b_X12_text_117, hl, lay_pI, lay_wI, lay_pJ, lm_t hl, lm_k hl, lm_r hl, lm_l hl, i_push, i_ild, i_ald, i_ist, i_ast, i_inc, i_bin, i_un, i_divs, i_i2l, i_lshl, i_lor, i_dup, i_dup2, i_pop, i_if, i_cmp, i_nul, i_vret, i_iret, i_zret, i_aret, i_keep, keep, lget, lset, ent, i_getI, i_getJ, i_getR, i_getN, i_putI, i_putZ, i_putJ, i_putR, i_iald, i_bald, i_alen, i_aald, i_iast, i_bast, i_aast, i_new, i_newa, i_anew, i_oini, i_callS, i_callV, i_callI, popn, sh4, i_sw, swP, i_copy, i_binS, List.map, Option.toList_none, Option.toList_some, List.append, List.nil_append, List.cons_append, List.length_cons, List.length_nil, List.replicate, Nat.sub_self, Nat.reduceSub, Nat.reduceAdd, hK_pI, hL_pI, hI_pI, hR_pI, hJ_pI, hT_pI, hS_pI, hK_pR, hL_pR, hI_pR, hR_pR, hJ_pR, hT_pR, hS_pR, hK_pJ, hL_pJ, hI_pJ, hR_pJ, hJ_pJ, hT_pJ, hS_pJ, hK_wI, hL_wI, hI_wI, hR_wI, hJ_wI, hT_wI, hS_wI, eq_self, and_true, true_and, and_false, false_and, or_true, true_or, or_false, false_or, if_true, if_false, not_true_eq_false, not_false_eq_true, forall_const, implies_true, false_implies, true_implies, Option.some.injEq, forall_eq', exists_eq_left', reduceCtorEq, Nat.reduceEqDiff, c1, T_X12_in, T_X12_ones, T_X11_within, T_X11_bit, T_X11_isIn, T_X11_oneIfIn, T_J6_bitCount_0f7a4, e46]
    exact ⟨fun _ => hq, fun z => absurd (nI_le (Nat.le_refl _) (by omega)) z⟩
  | succ m ih =>
    intro l hm hlk
    obtain ⟨T, hT4, eT⟩ := hT l (by omega)
    have hgo := ih (l + 1) (by omega) (by omega)
    have hin : ∀ (m2 x : Nat), m2 = T - x → x ≤ T → wp 4 MX12_text Q 165 [some (.ref 44), none, some (.int (nI l)), some (.int (nI (4 * l + x)))] [] (wIJ h (cpM f k (l + 1) (tC f l x)) g) := by
      intro m2
      induction m2 with
      | zero =>
        intro x hm2 hx
        have e : x = T := by omega
        subst e
        have hl : LayM (wIJ h (cpM f k (l + 1) (tC f l x)) g) := hl0
        have e80 : hI (wIJ h (cpM f k (l + 1) (tC f l x)) g) 80 l = nI x := (cpM_o f k (l + 1) _ (Or.inr (by decide)) l).trans eT
        have ec : cpM f k (l + 1) (tC f l x) = cpM f k (l + 1) (tC f (l + 1) 0) := cpM_c f k (l + 1) (fun i => by
          unfold tC
          by_cases c : i / 4 = l
          · rw [c, eT, cl_nI (by omega)]
            constructor
            · rintro ⟨_, b⟩; exact ⟨Or.inl (by omega), b⟩
            · rintro ⟨_, b⟩; exact ⟨Or.inr ⟨rfl, b⟩, b⟩
          · constructor
            · rintro ⟨a | a, b⟩
              · exact ⟨Or.inl (by omega), b⟩
              · exact absurd a.1 c
            · rintro ⟨a | a, b⟩
              · exact ⟨Or.inl (by omega), b⟩
              · omega)
        rw [← ec] at hgo
        refine s_X12_text_165 Q _ _ _ ?_
        generalize wIJ h (cpM f k (l + 1) (tC f l x)) g = H at hl e80 hgo ⊢
        have e4 : (4 : Int32) * nI l + nI x = nI (4 * l + x) := by
          have : (4 : Int32) = nI 4 := rfl
          rw [this, nI_mul, nI_add]
        simp only [b_X12_text_165, hl, lay_pI, lay_wI, lay_pJ, lm_t hl, lm_k hl, lm_r hl, lm_l hl, i_push, i_ild, i_ald, i_ist, i_ast, i_inc, i_bin, i_un, i_divs, i_i2l, i_lshl, i_lor, i_dup, i_dup2, i_pop, i_if, i_cmp, i_nul, i_vret, i_iret, i_zret, i_aret, i_keep, keep, lget, lset, ent, i_getI, i_getJ, i_getR, i_getN, i_putI, i_putZ, i_putJ, i_putR, i_iald, i_bald, i_alen, i_aald, i_iast, i_bast, i_aast, i_new, i_newa, i_anew, i_oini, i_callS, i_callV, i_callI, popn, sh4, i_sw, swP, i_copy, i_binS, List.map, Option.toList_none, Option.toList_some, List.append, List.nil_append, List.cons_append, List.length_cons, List.length_nil, List.replicate, Nat.sub_self, Nat.reduceSub, Nat.reduceAdd, hK_pI, hL_pI, hI_pI, hR_pI, hJ_pI, hT_pI, hS_pI, hK_pR, hL_pR, hI_pR, hR_pR, hJ_pR, hT_pR, hS_pR, hK_pJ, hL_pJ, hI_pJ, hR_pJ, hJ_pJ, hT_pJ, hS_pJ, hK_wI, hL_wI, hI_wI, hR_wI, hJ_wI, hT_wI, hS_wI, eq_self, and_true, true_and, and_false, false_and, or_true, true_or, or_false, false_or, if_true, if_false, not_true_eq_false, not_false_eq_true, forall_const, implies_true, false_implies, true_implies, Option.some.injEq, forall_eq', exists_eq_left', reduceCtorEq, Nat.reduceEqDiff, c1, T_X12_in, T_X12_ones, T_X11_within, T_X11_bit, T_X11_isIn, T_X11_oneIfIn, T_J6_bitCount_0f7a4, cl_nI (show l < 2147483648 by omega), in_nI (show l < 17 by omega) (by decide), e80, e4, nI_1]
        exact ⟨fun _ => hgo, fun z => absurd (nI_le (Nat.le_refl _) (by omega)) z⟩
      | succ m2 ih2 =>
        intro x hm2 hx
        have hl : LayM (wIJ h (cpM f k (l + 1) (tC f l x)) g) := hl0
        have e80 : hI (wIJ h (cpM f k (l + 1) (tC f l x)) g) 80 l = nI T := (cpM_o f k (l + 1) _ (Or.inr (by decide)) l).trans eT
        have e81 : hI (wIJ h (cpM f k (l + 1) (tC f l x)) g) 81 (4 * l + x) = f 81 (4 * l + x) := cpM_o f k (l + 1) (tC f l x) (a := 81) (Or.inr (by decide)) _
        have e82 : hI (wIJ h (cpM f k (l + 1) (tC f l x)) g) 82 (4 * l + x) = f 82 (4 * l + x) := cpM_o f k (l + 1) (tC f l x) (a := 82) (Or.inr (by decide)) _
        have e83 : hI (wIJ h (cpM f k (l + 1) (tC f l x)) g) 83 (4 * l + x) = f 83 (4 * l + x) := cpM_o f k (l + 1) (tC f l x) (a := 83) (Or.inr (by decide)) _
        have hgo2 := ih2 (x + 1) (by omega) (by omega)
        rw [← cpM_x f k (l + 1) (4 * l + x) (tC f l x) (tC f l (x + 1)) (fun i => by
          unfold tC
          constructor
          · rintro ⟨a | a, b⟩
            · exact Or.inl ⟨Or.inl a, b⟩
            · by_cases c : i % 4 < x
              · exact Or.inl ⟨Or.inr ⟨a.1, c⟩, b⟩
              · exact Or.inr (by omega)
          · rintro (⟨a | a, b⟩ | rfl)
            · exact ⟨Or.inl a, b⟩
            · exact ⟨Or.inr ⟨a.1, by omega⟩, b⟩
            · have h4 : (4 * l + x) / 4 = l := by omega
              have h5 : (4 * l + x) % 4 = x := by omega
              rw [h4, h5, eT, cl_nI (by omega)]
              exact ⟨Or.inr ⟨rfl, by omega⟩, by omega⟩)] at hgo2
        have hH : wIJ h (u2 (u2 (u2 (cpM f k (l + 1) (tC f l x)) 71 (4 * l + x) (f 81 (4 * l + x))) 72 (4 * l + x) (f 82 (4 * l + x))) 73 (4 * l + x) (f 83 (4 * l + x))) g = pI (pI (pI (wIJ h (cpM f k (l + 1) (tC f l x)) g) 71 (4 * l + x) (f 81 (4 * l + x))) 72 (4 * l + x) (f 82 (4 * l + x))) 73 (4 * l + x) (f 83 (4 * l + x)) := rfl
        rw [hH] at hgo2
        refine s_X12_text_165 Q _ _ _ ?_
        generalize wIJ h (cpM f k (l + 1) (tC f l x)) g = H at hl e80 e81 e82 e83 hgo2 ⊢
        have e4 : (4 : Int32) * nI l + nI T = nI (4 * l + T) := by
          have : (4 : Int32) = nI 4 := rfl
          rw [this, nI_mul, nI_add]
        simp only [b_X12_text_165, hl, lay_pI, lay_wI, lay_pJ, lm_t hl, lm_k hl, lm_r hl, lm_l hl, i_push, i_ild, i_ald, i_ist, i_ast, i_inc, i_bin, i_un, i_divs, i_i2l, i_lshl, i_lor, i_dup, i_dup2, i_pop, i_if, i_cmp, i_nul, i_vret, i_iret, i_zret, i_aret, i_keep, keep, lget, lset, ent, i_getI, i_getJ, i_getR, i_getN, i_putI, i_putZ, i_putJ, i_putR, i_iald, i_bald, i_alen, i_aald, i_iast, i_bast, i_aast, i_new, i_newa, i_anew, i_oini, i_callS, i_callV, i_callI, popn, sh4, i_sw, swP, i_copy, i_binS, List.map, Option.toList_none, Option.toList_some, List.append, List.nil_append, List.cons_append, List.length_cons, List.length_nil, List.replicate, Nat.sub_self, Nat.reduceSub, Nat.reduceAdd, hK_pI, hL_pI, hI_pI, hR_pI, hJ_pI, hT_pI, hS_pI, hK_pR, hL_pR, hI_pR, hR_pR, hJ_pR, hT_pR, hS_pR, hK_pJ, hL_pJ, hI_pJ, hR_pJ, hJ_pJ, hT_pJ, hS_pJ, hK_wI, hL_wI, hI_wI, hR_wI, hJ_wI, hT_wI, hS_wI, eq_self, and_true, true_and, and_false, false_and, or_true, true_or, or_false, false_or, if_true, if_false, not_true_eq_false, not_false_eq_true, forall_const, implies_true, false_implies, true_implies, Option.some.injEq, forall_eq', exists_eq_left', reduceCtorEq, Nat.reduceEqDiff, c1, T_X12_in, T_X12_ones, T_X11_within, T_X11_bit, T_X11_isIn, T_X11_oneIfIn, T_J6_bitCount_0f7a4, cl_nI (show l < 2147483648 by omega), in_nI (show l < 17 by omega) (by decide), e80, e4, cl_nI (show 4 * l + x < 2147483648 by omega), in_nI (show 4 * l + x < 64 by omega) (by decide), in_nI (show 4 * l + x < 256 by omega) (by decide), e81, e82, e83, nI_1, Nat.add_assoc]
        exact ⟨fun z => absurd z (nI_ge (by omega) (by omega)), fun _ => hgo2⟩
    have h165 := hin T 0 (by omega) (by omega)
    have hl : LayM (wIJ h (cpM f k l (tC f l 0)) g) := hl0
    have e46 : hI (wIJ h (cpM f k l (tC f l 0)) g) 44 46 = nI k := (cpM_o f k l _ (Or.inl (by decide)) 46).trans h46
    have e80 : hI (wIJ h (cpM f k l (tC f l 0)) g) 80 l = f 80 l := cpM_o f k l (tC f l 0) (a := 80) (Or.inr (by decide)) l
    have e84 : hI (wIJ h (cpM f k l (tC f l 0)) g) 84 l = f 84 l := cpM_o f k l (tC f l 0) (a := 84) (Or.inr (by decide)) l
    have e85 : hI (wIJ h (cpM f k l (tC f l 0)) g) 85 l = f 85 l := cpM_o f k l (tC f l 0) (a := 85) (Or.inr (by decide)) l
    rw [← cpM_l f k l (tC f l 0)] at h165
    have hH : wIJ h (u2 (u2 (u2 (cpM f k l (tC f l 0)) 70 l (f 80 l)) 74 l (f 84 l)) 75 l (f 85 l)) g = pI (pI (pI (wIJ h (cpM f k l (tC f l 0)) g) 70 l (f 80 l)) 74 l (f 84 l)) 75 l (f 85 l) := rfl
    rw [hH] at h165
    have e4 : (4 : Int32) * nI l = nI (4 * l + 0) := by
      have : (4 : Int32) = nI 4 := rfl
      rw [this, nI_mul]; rfl
    refine s_X12_text_117 Q _ _ _ ?_
    generalize wIJ h (cpM f k l (tC f l 0)) g = H at hl e46 e80 e84 e85 h165 ⊢
    simp only [b_X12_text_117, hl, lay_pI, lay_wI, lay_pJ, lm_t hl, lm_k hl, lm_r hl, lm_l hl, i_push, i_ild, i_ald, i_ist, i_ast, i_inc, i_bin, i_un, i_divs, i_i2l, i_lshl, i_lor, i_dup, i_dup2, i_pop, i_if, i_cmp, i_nul, i_vret, i_iret, i_zret, i_aret, i_keep, keep, lget, lset, ent, i_getI, i_getJ, i_getR, i_getN, i_putI, i_putZ, i_putJ, i_putR, i_iald, i_bald, i_alen, i_aald, i_iast, i_bast, i_aast, i_new, i_newa, i_anew, i_oini, i_callS, i_callV, i_callI, popn, sh4, i_sw, swP, i_copy, i_binS, List.map, Option.toList_none, Option.toList_some, List.append, List.nil_append, List.cons_append, List.length_cons, List.length_nil, List.replicate, Nat.sub_self, Nat.reduceSub, Nat.reduceAdd, hK_pI, hL_pI, hI_pI, hR_pI, hJ_pI, hT_pI, hS_pI, hK_pR, hL_pR, hI_pR, hR_pR, hJ_pR, hT_pR, hS_pR, hK_pJ, hL_pJ, hI_pJ, hR_pJ, hJ_pJ, hT_pJ, hS_pJ, hK_wI, hL_wI, hI_wI, hR_wI, hJ_wI, hT_wI, hS_wI, eq_self, and_true, true_and, and_false, false_and, or_true, true_or, or_false, false_or, if_true, if_false, not_true_eq_false, not_false_eq_true, forall_const, implies_true, false_implies, true_implies, Option.some.injEq, forall_eq', exists_eq_left', reduceCtorEq, Nat.reduceEqDiff, c1, T_X12_in, T_X12_ones, T_X11_within, T_X11_bit, T_X11_isIn, T_X11_oneIfIn, T_J6_bitCount_0f7a4, e46, cl_nI (show l < 2147483648 by omega), in_nI (show l < 17 by omega) (by decide), in_nI (show l < 64 by omega) (by decide), e80, e84, e85, e4]
    exact ⟨fun z => absurd z (nI_ge (by omega) (by omega)), fun _ => h165⟩
