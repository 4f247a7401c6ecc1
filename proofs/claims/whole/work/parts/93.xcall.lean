/-! ===== the class: helpers are called ===== -/
def wX (f : Mem) (n : Nat) (T : Int32) (r : Nat) : Nat := (if 8 < pct T then 1 else 0) + fb_sm (fun r => if f (n + 3) r = 0 then 0 else 1) r
theorem wX_s (f : Mem) (n : Nat) (T : Int32) (r : Nat) : wX f n T (r + 1) = wX f n T r + (if f (n + 3) r = 0 then 0 else 1) := by
  unfold wX
  rw [fb_sm, Nat.add_assoc]
theorem wX_le (f : Mem) (n : Nat) (T : Int32) : ∀ r, wX f n T r ≤ r + 1
  | 0 => by
    unfold wX
    rw [fb_sm]
    split <;> omega
  | r + 1 => by
    have := wX_le f n T r
    rw [wX_s]
    split <;> omega
def chM (f : Mem) (n : Nat) (C : Int32) (w : Nat) : Mem := fun a i => if a = 28 then f 28 i + b2i (bt C i = true) else if a = 29 then f 29 i + b2i (bt C i = true) else if a = n ∧ i = 5 then C else if a = n ∧ i = 6 then nI (w - pct C) else f a i
theorem chM_o (f : Mem) (n : Nat) (C : Int32) (w : Nat) {a i : Nat} (h1 : a ≠ 28) (h2 : a ≠ 29) (h3 : a = n → i ≠ 5 ∧ i ≠ 6) : chM f n C w a i = f a i := by
  unfold chM
  rw [if_neg h1, if_neg h2, if_neg (fun z => (h3 z.1).1 z.2), if_neg (fun z => (h3 z.1).2 z.2)]
theorem chM_28 (f : Mem) (n : Nat) (C : Int32) (w i : Nat) : chM f n C w 28 i = f 28 i + b2i (bt C i = true) := if_pos rfl
theorem chM_29 (f : Mem) (n : Nat) (C : Int32) (w i : Nat) : chM f n C w 29 i = f 29 i + b2i (bt C i = true) := by
  unfold chM
  rw [if_neg (by decide), if_pos rfl]
theorem chM_5 (f : Mem) (n : Nat) (C : Int32) (w : Nat) (hn : 90 ≤ n) : chM f n C w n 5 = C := by
  unfold chM
  rw [if_neg (by omega), if_neg (by omega), if_pos ⟨rfl, rfl⟩]
theorem chM_6 (f : Mem) (n : Nat) (C : Int32) (w : Nat) (hn : 90 ≤ n) : chM f n C w n 6 = nI (w - pct C) := by
  unfold chM
  rw [if_neg (by omega), if_neg (by omega), if_neg (by omega), if_pos ⟨rfl, rfl⟩]
theorem chM_0 (f : Mem) (n : Nat) (w : Nat) (hn : 90 ≤ n) (h5 : f n 5 = 0) : u2 f n 6 (nI w) = chM f n 0 w := by
  funext a i
  by_cases c : a = n ∧ i = 6
  · rw [c.1, c.2, u2_eq, chM_6 _ _ _ _ hn, pct_0, Nat.sub_zero]
  · rw [u2_ne c]
    unfold chM
    have hb : b2i (bt 0 i = true) = 0 := b2i_f (by rw [b_0]; decide)
    rw [hb]
    by_cases c1 : a = 28
    · rw [if_pos c1, c1, Int32.add_zero]
    · rw [if_neg c1]
      by_cases c2 : a = 29
      · rw [if_pos c2, c2, Int32.add_zero]
      · rw [if_neg c2, if_neg c]
        by_cases c3 : a = n ∧ i = 5
        · rw [if_pos c3, c3.1, c3.2, h5]
        · rw [if_neg c3]
theorem chM_s (f : Mem) (n : Nat) (C : Int32) (w b : Nat) (hn : 90 ≤ n) (hb : b < 32) (hC : bt C b = false) (hw : pct C < w) : u2 (u2 (u2 (u2 (chM f n C w) 28 b (f 28 b + 1)) 29 b (f 29 b + 1)) n 5 (C ||| bitI b)) n 6 (nI (w - pct C) - 1) = chM f n (C ||| bitI b) w := by
  have hv : nI (w - pct C) - 1 = nI (w - pct (C ||| bitI b)) := by
    rw [pct_orI hb hC, show w - (pct C + 1) = w - pct C - 1 by omega]
    exact nI_sub (b := 1) (by omega)
  have hbb : ∀ i, b2i (bt (C ||| bitI b) i = true) = if i = b then 1 else b2i (bt C i = true) := fun i => by
    by_cases c : i = b
    · rw [if_pos c, b2i_t (by rw [b_orI hb, c]; simp)]
    · rw [if_neg c]
      have : bt (C ||| bitI b) i = bt C i := by rw [b_orI hb]; simp [c]
      rw [this]
  rw [hv]
  funext a i
  by_cases c6 : a = n ∧ i = 6
  · rw [c6.1, c6.2, u2_eq, chM_6 _ _ _ _ hn]
  rw [u2_ne c6]
  by_cases c5 : a = n ∧ i = 5
  · rw [c5.1, c5.2, u2_eq, chM_5 _ _ _ _ hn]
  rw [u2_ne c5]
  by_cases d9 : a = 29
  · subst d9
    rw [chM_29, hbb]
    by_cases e : i = b
    · rw [e, u2_eq, if_pos rfl]
    · rw [u2_ne (fun z => e z.2), u2_ne (by omega), chM_29, if_neg e]
  by_cases d8 : a = 28
  · subst d8
    rw [u2_ne (by omega), chM_28, hbb]
    by_cases e : i = b
    · rw [e, u2_eq, if_pos rfl]
    · rw [u2_ne (fun z => e z.2), chM_28, if_neg e]
  rw [u2_ne (by omega), u2_ne (by omega)]
  rw [chM_o _ _ _ _ d8 d9 (fun z => ⟨fun y => c5 ⟨z, y⟩, fun y => c6 ⟨z, y⟩⟩), chM_o _ _ _ _ d8 d9 (fun z => ⟨fun y => c5 ⟨z, y⟩, fun y => c6 ⟨z, y⟩⟩)]
theorem calF_ok (I : Mem) (H d : Nat) (hH : H ≤ 8) : ∀ t, pct (calF I H d t) ≤ t ∧ ∀ i, bt (calF I H d t) i = true → i < H
  | 0 => ⟨by rw [calF, pct_0]; exact Nat.le_refl _, fun i hi => by rw [calF, b_0] at hi; cases hi⟩
  | t + 1 => by
    obtain ⟨h1, h2⟩ := calF_ok I H d hH t
    rw [calF]
    cases hb : bstF I d (calF I H d t) H with
    | none => exact ⟨by show pct (calF I H d t) ≤ _; omega, h2⟩
    | some b =>
      obtain ⟨a, c⟩ := bstF_lt I d _ H b hb
      refine ⟨?_, fun i hi => ?_⟩
      · show pct (calF I H d t ||| bitI b) ≤ _
        rw [pct_orI (by omega) c.1]; omega
      · have hi2 : bt (calF I H d t ||| bitI b) i = true := hi
        rw [b_orI (by omega), Bool.or_eq_true, decide_eq_true_eq] at hi2
        rcases hi2 with z | z
        · exact h2 i z
        · omega
theorem HC_ch {f J : Mem} {H n : Nat} {C : Int32} {w : Nat} (hn : 90 ≤ n) (h : HC f J H 0) : HC (chM f n C w) J H C := fun x hx hb => by
  obtain ⟨a, b, c, d, e⟩ := h x hx (b_0 x)
  have hz : b2i (bt C x = true) = 0 := b2i_f (by rw [hb]; decide)
  refine ⟨?_, ?_, ?_, ?_, e⟩
  · rw [chM_o _ _ _ _ (by decide) (by decide) (by omega)]; exact a
  · rw [chM_o _ _ _ _ (by decide) (by decide) (by omega)]; exact b
  · rw [chM_28, hz, Int32.add_zero]; exact c
  · rw [chM_29, hz, Int32.add_zero]; exact d
def T_X5_callHelpers : Tr := fun av h Q => match av with
  | [.ref a, .ref b] => a = 31 ∧ LayX h ∧ hR h 31 0 = some 3 ∧ ∃ n R J H E T, n = b ∧ LayN h n R ∧ R ≤ 4 ∧ hI h n 4 = T ∧ hI h n 5 = 0 ∧ H ≤ 8 ∧ hI h 25 0 = nI H ∧ HC (hI h) J H 0 ∧ LtC h J E ∧ Q none (wI h (chM (hI h) n (calF J H (E % 7) (wX (hI h) n T R)) (wX (hI h) n T R)))
  | _ => False
def L_X5_callHelpers : List UInt8 := [43, 180, 0, 107, 184, 0, 132, 16, 8, 164, 0, 7, 4, 167, 0, 4, 3, 61, 43, 180, 0, 120, 78, 45, 190, 54, 4, 3, 54, 5, 21, 5, 21, 4, 162, 0, 28, 45, 21, 5, 46, 54, 6, 28, 21, 6, 153, 0, 7, 4, 167, 0, 4, 3, 96, 61, 132, 5, 1, 167, 255, 227, 42, 180, 0, 15, 182, 0, 137, 62, 43, 28, 181, 0, 141, 3, 54, 4, 21, 4, 28, 162, 0, 68, 42, 180, 0, 15, 180, 0, 144, 29, 43, 180, 0, 148, 182, 0, 151, 54, 5, 21, 5, 2, 159, 0, 39, 42, 180, 0, 15, 180, 0, 144, 21, 5, 182, 0, 157, 43, 89, 180, 0, 148, 21, 5, 184, 0, 85, 128, 181, 0, 148, 43, 89, 180, 0, 141, 4, 100, 181, 0, 141, 132, 4, 1, 167, 255, 188, 177]
theorem Lc_X5_callHelpers : MX5_callHelpers.2.1 = ⟨L_X5_callHelpers.toArray⟩ := rfl
theorem D_X5_callHelpers_0 : dseq MX5_callHelpers.2.1 0 [(.aload_n 1, 1), (.getfield 107, 3), (.invokestatic 132, 3), (.bipush 8, 2), (.if_icmp .le 7, 3), (.iconst 1, 1), (.goto 4, 3)] := dq Lc_X5_callHelpers 0 _ (by decide +kernel)
theorem D_X5_callHelpers_16 : dseq MX5_callHelpers.2.1 16 [(.iconst 0, 1)] := dq Lc_X5_callHelpers 16 _ (by decide +kernel)
theorem D_X5_callHelpers_17 : dseq MX5_callHelpers.2.1 17 [(.istore_n 2, 1), (.aload_n 1, 1), (.getfield 120, 3), (.astore_n 3, 1), (.aload_n 3, 1), (.arraylength, 1), (.istore 4, 2), (.iconst 0, 1), (.istore 5, 2)] := dq Lc_X5_callHelpers 17 _ (by decide +kernel)
theorem D_X5_callHelpers_30 : dseq MX5_callHelpers.2.1 30 [(.iload 5, 2), (.iload 4, 2), (.if_icmp .ge 28, 3), (.aload_n 3, 1), (.iload 5, 2), (.iaload, 1), (.istore 6, 2), (.iload_n 2, 1), (.iload 6, 2), (.ifCond .eq 7, 3), (.iconst 1, 1), (.goto 4, 3)] := dq Lc_X5_callHelpers 30 _ (by decide +kernel)
theorem D_X5_callHelpers_62 : dseq MX5_callHelpers.2.1 62 [(.aload_n 0, 1), (.getfield 15, 3), (.invokevirtual 137, 3), (.istore_n 3, 1), (.aload_n 1, 1), (.iload_n 2, 1), (.putfield 141, 3), (.iconst 0, 1), (.istore 4, 2)] := dq Lc_X5_callHelpers 62 _ (by decide +kernel)
theorem D_X5_callHelpers_53 : dseq MX5_callHelpers.2.1 53 [(.iconst 0, 1)] := dq Lc_X5_callHelpers 53 _ (by decide +kernel)
theorem D_X5_callHelpers_54 : dseq MX5_callHelpers.2.1 54 [(.iadd, 1), (.istore_n 2, 1), (.iinc 5 1, 3), (.goto (-29), 3)] := dq Lc_X5_callHelpers 54 _ (by decide +kernel)
theorem D_X5_callHelpers_78 : dseq MX5_callHelpers.2.1 78 [(.iload 4, 2), (.iload_n 2, 1), (.if_icmp .ge 68, 3), (.aload_n 0, 1), (.getfield 15, 3), (.getfield 144, 3), (.iload_n 3, 1), (.aload_n 1, 1), (.getfield 148, 3), (.invokevirtual 151, 3), (.istore 5, 2), (.iload 5, 2), (.iconst (-1), 1), (.if_icmp .eq 39, 3), (.aload_n 0, 1), (.getfield 15, 3), (.getfield 144, 3), (.iload 5, 2), (.invokevirtual 157, 3), (.aload_n 1, 1), (.dup, 1), (.getfield 148, 3), (.iload 5, 2), (.invokestatic 85, 3), (.ior, 1), (.putfield 148, 3), (.aload_n 1, 1), (.dup, 1), (.getfield 141, 3), (.iconst 1, 1), (.isub, 1), (.putfield 141, 3)] := dq Lc_X5_callHelpers 78 _ (by decide +kernel)
theorem D_X5_callHelpers_149 : dseq MX5_callHelpers.2.1 149 [(.return_, 1)] := dq Lc_X5_callHelpers 149 _ (by decide +kernel)
theorem D_X5_callHelpers_143 : dseq MX5_callHelpers.2.1 143 [(.iinc 4 1, 3), (.goto (-68), 3)] := dq Lc_X5_callHelpers 143 _ (by decide +kernel)
def c_X5_callHelpers_69 (Q : Option Value → Hp → Prop) : Kt := i_ist 3 (i_ald 1 (i_ild 2 (i_putI 1 6 (i_push (.int 0) (i_ist 4 (i_keep [true, true, true, true, true, false, false] (wp 2 MX5_callHelpers Q 78)))))))
def c_X5_callHelpers_119 (Q : Option Value → Hp → Prop) : Kt := i_ald 1 (i_dup (i_getI 1 5 (i_ild 5 (i_callS 1 T_X11_bit (i_bin (fun x y => x ||| y) (i_putI 1 5 (i_ald 1 (i_dup (i_getI 1 6 (i_push (.int 1) (i_bin (fun x y => x - y) (i_putI 1 6 (i_keep [true, true, true, true, true, false, false] (wp 2 MX5_callHelpers Q 143))))))))))))))
def c_X5_callHelpers_99 (Q : Option Value → Hp → Prop) : Kt := i_ist 5 (i_ild 5 (i_push (.int (-1)) (i_cmp (fun x y => x = y) (i_keep [true, true, true, true, true, false, false] (wp 2 MX5_callHelpers Q 143)) (i_ald 0 (i_getR 5 0 (i_getR 8 2 (i_ild 5 (i_callV 0 1 T_X0_takeNight (c_X5_callHelpers_119 Q)))))))))
def b_X5_callHelpers_0 (Q : Option Value → Hp → Prop) : Kt := i_ald 1 (i_getI 1 4 (i_callS 1 T_J6_bitCount_0f7a4 (i_push (.int 8) (i_cmp (fun x y => x ≤ y) (i_push (.int 0) (i_keep [true, true, false, false, false, false, false] (wp 2 MX5_callHelpers Q 17))) (i_push (.int 1) (i_keep [true, true, false, false, false, false, false] (wp 2 MX5_callHelpers Q 17)))))))
set_option maxRecDepth 100000 in
theorem s_X5_callHelpers_0 (Q : Option Value → Hp → Prop) : ∀ A st h, b_X5_callHelpers_0 Q A st h → wp 2 MX5_callHelpers Q 0 A st h := (q1 (s_aldn (n := 1) (i := 1) rfl) D_X5_callHelpers_0 fun D => (qC fl_X5_107 rfl D fun D => (qX (s_callS ok_J6_bitCount_0f7a4 mo_J6_bitCount_0f7a4 (ch_4_9_ok.2.2.2.2.2.1.1 rfl) (ch_3_9_ok.2.2.2.2.1.1 rfl)) rfl (by decide) D fun D => (q1 (s_bipush (n := 8) (v := 8) (by decide)) D fun D => (qB s_cmple 16 (by decide) D (q1 (s_iconst (n := 0) (v := 0) (by decide)) D_X5_callHelpers_16 fun D => (s_keep [true, true, false, false, false, false, false] fun _ _ _ h => h)) fun D => (q1 (s_iconst (n := 1) (v := 1) (by decide)) D fun D => (qG 17 (by decide) D (s_keep [true, true, false, false, false, false, false] fun _ _ _ h => h))))))))
def b_X5_callHelpers_17 (Q : Option Value → Hp → Prop) : Kt := i_ist 2 (i_ald 1 (i_getR 1 11 (i_ast 3 (i_ald 3 (i_alen (i_ist 4 (i_push (.int 0) (i_ist 5 (i_keep [true, true, true, true, true, true, false] (wp 2 MX5_callHelpers Q 30))))))))))
set_option maxRecDepth 100000 in
theorem s_X5_callHelpers_17 (Q : Option Value → Hp → Prop) : ∀ A st h, b_X5_callHelpers_17 Q A st h → wp 2 MX5_callHelpers Q 17 A st h := (qL (s_istn (n := 2) (i := 2) rfl) (by decide) D_X5_callHelpers_17 fun D => (q1 (s_aldn (n := 1) (i := 1) rfl) D fun D => (qC fl_X5_120 rfl D fun D => (qL (s_astn (n := 3) (i := 3) rfl) (by decide) D fun D => (q1 (s_aldn (n := 3) (i := 3) rfl) D fun D => (q1 s_alen D fun D => (qL s_ist (by decide) D fun D => (q1 (s_iconst (n := 0) (v := 0) (by decide)) D fun D => (qL s_ist (by decide) D fun D => (s_keep [true, true, true, true, true, true, false] fun _ _ _ h => h))))))))))
def b_X5_callHelpers_30 (Q : Option Value → Hp → Prop) : Kt := i_ild 5 (i_ild 4 (i_cmp (fun x y => y ≤ x) (i_ald 0 (i_getR 5 0 (i_callV 8 0 T_X8_dayOfWeek (c_X5_callHelpers_69 Q)))) (i_ald 3 (i_ild 5 (i_iald (i_ist 6 (i_ild 2 (i_ild 6 (i_if (fun x => x = 0) (i_push (.int 0) (i_keep [true, true, false, true, true, true, false] (wp 2 MX5_callHelpers Q 54))) (i_push (.int 1) (i_keep [true, true, false, true, true, true, false] (wp 2 MX5_callHelpers Q 54))))))))))))
set_option maxRecDepth 100000 in
theorem s_X5_callHelpers_30 (Q : Option Value → Hp → Prop) : ∀ A st h, b_X5_callHelpers_30 Q A st h → wp 2 MX5_callHelpers Q 30 A st h := (q1 s_ild D_X5_callHelpers_30 fun D => (q1 s_ild D fun D => (qB s_cmpge 62 (by decide) D (q1 (s_aldn (n := 0) (i := 0) rfl) D_X5_callHelpers_62 fun D => (qC fl_X5_15 rfl D fun D => (qX (s_callV kX8 rfl ok_X8_dayOfWeek mo_X8_dayOfWeek (ch_4_9_ok.2.2.2.2.2.2.1.1 rfl) (ch_4_0_ok.2.2.1.1 rfl) (ch_4_0_ok.2.2.2.1.1 rfl)) rfl (by decide) D fun D => (qL (s_istn (n := 3) (i := 3) rfl) (by decide) D fun D => (q1 (s_aldn (n := 1) (i := 1) rfl) D fun D => (q1 (s_ildn (n := 2) (i := 2) rfl) D fun D => (qP pl_X5_141 rfl (Or.inl rfl) D fun D => (q1 (s_iconst (n := 0) (v := 0) (by decide)) D fun D => (qL s_ist (by decide) D fun D => (s_keep [true, true, true, true, true, false, false] fun _ _ _ h => h)))))))))) fun D => (q1 (s_aldn (n := 3) (i := 3) rfl) D fun D => (q1 s_ild D fun D => (q1 s_iald D fun D => (qL s_ist (by decide) D fun D => (q1 (s_ildn (n := 2) (i := 2) rfl) D fun D => (q1 s_ild D fun D => (qB s_ifeq 53 (by decide) D (q1 (s_iconst (n := 0) (v := 0) (by decide)) D_X5_callHelpers_53 fun D => (s_keep [true, true, false, true, true, true, false] fun _ _ _ h => h)) fun D => (q1 (s_iconst (n := 1) (v := 1) (by decide)) D fun D => (qG 54 (by decide) D (s_keep [true, true, false, true, true, true, false] fun _ _ _ h => h)))))))))))))
def b_X5_callHelpers_54 (Q : Option Value → Hp → Prop) : Kt := i_bin (fun x y => x + y) (i_ist 2 (i_inc 5 1 (i_keep [true, true, true, true, true, true, false] (wp 2 MX5_callHelpers Q 30))))
set_option maxRecDepth 100000 in
theorem s_X5_callHelpers_54 (Q : Option Value → Hp → Prop) : ∀ A st h, b_X5_callHelpers_54 Q A st h → wp 2 MX5_callHelpers Q 54 A st h := (q1 s_add D_X5_callHelpers_54 fun D => (qL (s_istn (n := 2) (i := 2) rfl) (by decide) D fun D => (qL (s_inc (i := 5) (n := 1) (v := 1) (by decide)) (by decide) D fun D => (qG 30 (by decide) D (s_keep [true, true, true, true, true, true, false] fun _ _ _ h => h)))))
def b_X5_callHelpers_78 (Q : Option Value → Hp → Prop) : Kt := i_ild 4 (i_ild 2 (i_cmp (fun x y => y ≤ x) (i_vret Q) (i_ald 0 (i_getR 5 0 (i_getR 8 2 (i_ild 3 (i_ald 1 (i_getI 1 5 (i_callV 0 2 T_X0_nextInTurn (c_X5_callHelpers_99 Q))))))))))
set_option maxRecDepth 100000 in
theorem s_X5_callHelpers_78 (Q : Option Value → Hp → Prop) : ∀ A st h, b_X5_callHelpers_78 Q A st h → wp 2 MX5_callHelpers Q 78 A st h := (q1 s_ild D_X5_callHelpers_78 fun D => (q1 (s_ildn (n := 2) (i := 2) rfl) D fun D => (qB s_cmpge 149 (by decide) D (qV rfl D_X5_callHelpers_149) fun D => (q1 (s_aldn (n := 0) (i := 0) rfl) D fun D => (qC fl_X5_15 rfl D fun D => (qC fl_X5_144 rfl D fun D => (q1 (s_ildn (n := 3) (i := 3) rfl) D fun D => (q1 (s_aldn (n := 1) (i := 1) rfl) D fun D => (qC fl_X5_148 rfl D fun D => (qX (s_callV kX0 rfl ok_X0_nextInTurn mo_X0_nextInTurn (ch_4_9_ok.2.2.2.2.2.2.2.1.1 rfl) (ch_4_9_ok.2.2.2.2.2.2.2.2.1.1 rfl) (ch_4_9_ok.2.2.2.2.2.2.2.2.2.1.1 rfl)) rfl (by decide) D fun D => (qL s_ist (by decide) D fun D => (q1 s_ild D fun D => (q1 (s_iconst (n := (-1)) (v := (-1)) (by decide)) D fun D => (qB s_cmpeq 143 (by decide) D (s_keep [true, true, true, true, true, false, false] fun _ _ _ h => h) fun D => (q1 (s_aldn (n := 0) (i := 0) rfl) D fun D => (qC fl_X5_15 rfl D fun D => (qC fl_X5_144 rfl D fun D => (q1 s_ild D fun D => (qX (s_callV kX0 rfl ok_X0_takeNight mo_X0_takeNight (ch_4_10_ok.1.1 rfl) (ch_4_10_ok.2.1.1 rfl) (ch_4_10_ok.2.2.1.1 rfl)) rfl (by decide) D fun D => (q1 (s_aldn (n := 1) (i := 1) rfl) D fun D => (q1 s_dup D fun D => (qC fl_X5_148 rfl D fun D => (q1 s_ild D fun D => (qX (s_callSN ok_X11_bit mo_X11_bit (ch_4_1_ok.2.2.2.2.2.1.2 rfl) (ch_3_5_ok.2.2.2.2.2.2.2.2.2.2.2.2.1.1 rfl)) rfl (by decide) D fun D => (q1 s_or D fun D => (qP pl_X5_148 rfl (Or.inl rfl) D fun D => (q1 (s_aldn (n := 1) (i := 1) rfl) D fun D => (q1 s_dup D fun D => (qC fl_X5_141 rfl D fun D => (q1 (s_iconst (n := 1) (v := 1) (by decide)) D fun D => (q1 s_sub D fun D => (qP pl_X5_141 rfl (Or.inl rfl) D fun D => (s_keep [true, true, true, true, true, false, false] fun _ _ _ h => h)))))))))))))))))))))))))))))))))
def b_X5_callHelpers_143 (Q : Option Value → Hp → Prop) : Kt := i_inc 4 1 (i_keep [true, true, true, true, true, false, false] (wp 2 MX5_callHelpers Q 78))
set_option maxRecDepth 100000 in
theorem s_X5_callHelpers_143 (Q : Option Value → Hp → Prop) : ∀ A st h, b_X5_callHelpers_143 Q A st h → wp 2 MX5_callHelpers Q 143 A st h := (qL (s_inc (i := 4) (n := 1) (v := 1) (by decide)) (by decide) D_X5_callHelpers_143 fun D => (qG 78 (by decide) D (s_keep [true, true, true, true, true, false, false] fun _ _ _ h => h)))

set_option maxRecDepth 100000 in
set_option maxHeartbeats 400000 in
theorem ch_84 (Q : Option Value → Hp → Prop) (h : Hp) (hl : LayX h) (hs31 : hR h 31 0 = some 3) (n R : Nat) (J : Mem) (H d w : Nat) (hn : LayN h n R) (f : Mem) (hH : H ≤ 8) (h25 : f 25 0 = nI H) (hc : HC f J H 0) (hd : d < 32) (hw : w ≤ 5) (hq : Q none (wI h (chM f n (calF J H d w) w))) :
    ∀ (m t : Nat), m = w - t → t ≤ w → wp 2 MX5_callHelpers Q 78 [some (.ref 31), some (.ref n), some (.int (nI w)), some (.int (nI d)), some (.int (nI t)), none, none] [] (wI h (chM f n (calF J H d t) w)) := by
  have hn90 := hn.1
  intro m
  induction m with
  | zero =>
    intro t hm ht
    have e : t = w := by omega
    subst e
    refine s_X5_callHelpers_78 Q _ _ _ ?_
    generalize wI h (chM f n (calF J H d t) t) = X at hq ⊢
    simp only [b_X5_callHelpers_78, i_push, i_ild, i_ald, i_ist, i_ast, i_inc, i_bin, i_un, i_divs, i_i2l, i_lshl, i_lor, i_dup, i_dup2, i_pop, i_if, i_cmp, i_nul, i_vret, i_iret, i_zret, i_aret, i_keep, keep, lget, lset, ent, i_getI, i_getJ, i_getR, i_getN, i_putI, i_putZ, i_putJ, i_putR, i_iald, i_bald, i_alen, i_aald, i_iast, i_bast, i_aast, i_new, i_newa, i_anew, i_oini, i_callS, i_callV, i_callI, popn, sh4, i_sw, swP, i_copy, i_binS, List.map, Option.toList_none, Option.toList_some, List.append, List.nil_append, List.cons_append, List.length_cons, List.length_nil, List.replicate, Nat.sub_self, Nat.reduceSub, Nat.reduceAdd, hK_pI, hL_pI, hI_pI, hR_pI, hJ_pI, hT_pI, hS_pI, hK_pR, hL_pR, hI_pR, hR_pR, hJ_pR, hT_pR, hS_pR, hK_pJ, hL_pJ, hI_pJ, hR_pJ, hJ_pJ, hT_pJ, hS_pJ, hK_wI, hL_wI, hI_wI, hR_wI, hJ_wI, hT_wI, hS_wI, eq_self, and_true, true_and, and_false, false_and, or_true, true_or, or_false, false_or, if_true, if_false, not_true_eq_false, not_false_eq_true, forall_const, implies_true, false_implies, true_implies, Option.some.injEq, forall_eq', exists_eq_left', reduceCtorEq, Nat.reduceEqDiff, c1, T_X12_in, T_X12_ones, T_X11_within, T_X11_bit, T_X11_isIn, T_X11_oneIfIn, T_J6_bitCount_0f7a4]
    exact ⟨fun _ => hq, fun z => absurd (nI_le (Nat.le_refl _) (by omega)) z⟩
  | succ m ih =>
    intro t hm ht
    obtain ⟨hpc, hin⟩ := calF_ok J H d hH t
    have hgo := ih (t + 1) (by omega) (by omega)
    rw [calF] at hgo
    obtain ⟨C, hC⟩ : ∃ C, C = calF J H d t := ⟨_, rfl⟩
    rw [← hC] at hgo hpc hin ⊢
    have h157 : ∀ C2, C2 = oBit C (bstF J d C H) → wp 2 MX5_callHelpers Q 143 [some (.ref 31), some (.ref n), some (.int (nI w)), some (.int (nI d)), some (.int (nI t)), none, none] [] (wI h (chM f n C2 w)) := by
      intro C2 hC2
      rw [← hC2] at hgo
      refine s_X5_callHelpers_143 Q _ _ _ ?_
      generalize wI h (chM f n C2 w) = X at hgo ⊢
      simp only [b_X5_callHelpers_143, i_push, i_ild, i_ald, i_ist, i_ast, i_inc, i_bin, i_un, i_divs, i_i2l, i_lshl, i_lor, i_dup, i_dup2, i_pop, i_if, i_cmp, i_nul, i_vret, i_iret, i_zret, i_aret, i_keep, keep, lget, lset, ent, i_getI, i_getJ, i_getR, i_getN, i_putI, i_putZ, i_putJ, i_putR, i_iald, i_bald, i_alen, i_aald, i_iast, i_bast, i_aast, i_new, i_newa, i_anew, i_oini, i_callS, i_callV, i_callI, popn, sh4, i_sw, swP, i_copy, i_binS, List.map, Option.toList_none, Option.toList_some, List.append, List.nil_append, List.cons_append, List.length_cons, List.length_nil, List.replicate, Nat.sub_self, Nat.reduceSub, Nat.reduceAdd, hK_pI, hL_pI, hI_pI, hR_pI, hJ_pI, hT_pI, hS_pI, hK_pR, hL_pR, hI_pR, hR_pR, hJ_pR, hT_pR, hS_pR, hK_pJ, hL_pJ, hI_pJ, hR_pJ, hJ_pJ, hT_pJ, hS_pJ, hK_wI, hL_wI, hI_wI, hR_wI, hJ_wI, hT_wI, hS_wI, eq_self, and_true, true_and, and_false, false_and, or_true, true_or, or_false, false_or, if_true, if_false, not_true_eq_false, not_false_eq_true, forall_const, implies_true, false_implies, true_implies, Option.some.injEq, forall_eq', exists_eq_left', reduceCtorEq, Nat.reduceEqDiff, c1, T_X12_in, T_X12_ones, T_X11_within, T_X11_bit, T_X11_isIn, T_X11_oneIfIn, T_J6_bitCount_0f7a4, nI_1]
      exact hgo
    have hl2 : LayX (wI h (chM f n C w)) := hl
    have hn2 : LayN (wI h (chM f n C w)) n R := hn
    have hs32 : hR (wI h (chM f n C w)) 31 0 = some 3 := hs31
    have e25 : hI (wI h (chM f n C w)) 25 0 = nI H := (chM_o f n C w (a := 25) (i := 0) (by decide) (by decide) (by omega)).trans h25
    have e5 : hI (wI h (chM f n C w)) n 5 = C := chM_5 f n C w hn90
    have e6 : hI (wI h (chM f n C w)) n 6 = nI (w - pct C) := chM_6 f n C w hn90
    have hHC : HC (hI (wI h (chM f n C w))) J H C := HC_ch hn90 hc
    have h107 : c_X5_callHelpers_99 Q [some (.ref 31), some (.ref n), some (.int (nI w)), some (.int (nI d)), some (.int (nI t)), none, none] [.int (oB (bstF J d C H))] (wI h (chM f n C w)) := by
      cases hb : bstF J d C H with
      | none =>
        have hgo2 := h157 C (by rw [hb]; rfl)
        generalize wI h (chM f n C w) = X at hgo2 ⊢
        simp only [c_X5_callHelpers_99, i_push, i_ild, i_ald, i_ist, i_ast, i_inc, i_bin, i_un, i_divs, i_i2l, i_lshl, i_lor, i_dup, i_dup2, i_pop, i_if, i_cmp, i_nul, i_vret, i_iret, i_zret, i_aret, i_keep, keep, lget, lset, ent, i_getI, i_getJ, i_getR, i_getN, i_putI, i_putZ, i_putJ, i_putR, i_iald, i_bald, i_alen, i_aald, i_iast, i_bast, i_aast, i_new, i_newa, i_anew, i_oini, i_callS, i_callV, i_callI, popn, sh4, i_sw, swP, i_copy, i_binS, List.map, Option.toList_none, Option.toList_some, List.append, List.nil_append, List.cons_append, List.length_cons, List.length_nil, List.replicate, Nat.sub_self, Nat.reduceSub, Nat.reduceAdd, hK_pI, hL_pI, hI_pI, hR_pI, hJ_pI, hT_pI, hS_pI, hK_pR, hL_pR, hI_pR, hR_pR, hJ_pR, hT_pR, hS_pR, hK_pJ, hL_pJ, hI_pJ, hR_pJ, hJ_pJ, hT_pJ, hS_pJ, hK_wI, hL_wI, hI_wI, hR_wI, hJ_wI, hT_wI, hS_wI, eq_self, and_true, true_and, and_false, false_and, or_true, true_or, or_false, false_or, if_true, if_false, not_true_eq_false, not_false_eq_true, forall_const, implies_true, false_implies, true_implies, Option.some.injEq, forall_eq', exists_eq_left', reduceCtorEq, Nat.reduceEqDiff, c1, T_X12_in, T_X12_ones, T_X11_within, T_X11_bit, T_X11_isIn, T_X11_oneIfIn, T_J6_bitCount_0f7a4, oB]
        exact hgo2
      | some b =>
        obtain ⟨hbH, hcan⟩ := bstF_lt J d C H b hb
        have hz : b2i (bt C b = true) = 0 := b2i_f (by rw [hcan.1]; decide)
        have e28 : hI (wI h (chM f n C w)) 28 b = f 28 b := by
          show chM f n C w 28 b = _
          rw [chM_28, hz, Int32.add_zero]
        have e29 : hI (wI h (chM f n C w)) 29 b = f 29 b := by
          show chM f n C w 29 b = _
          rw [chM_29, hz, Int32.add_zero]
        have hgo2 := h157 (C ||| bitI b) (by rw [hb]; rfl)
        rw [← chM_s f n C w b hn90 (by omega) hcan.1 (by omega)] at hgo2
        have hH : wI h (u2 (u2 (u2 (u2 (chM f n C w) 28 b (f 28 b + 1)) 29 b (f 29 b + 1)) n 5 (C ||| bitI b)) n 6 (nI (w - pct C) - 1)) = pI (pI (pI (pI (wI h (chM f n C w)) 28 b (f 28 b + 1)) 29 b (f 29 b + 1)) n 5 (C ||| bitI b)) n 6 (nI (w - pct C) - 1) := rfl
        rw [hH] at hgo2
        have n28 : ¬ n = 28 := by omega
        have n29 : ¬ n = 29 := by omega
        have hbit : (1 : Int32) <<< (nI b &&& 31) = bitI b := rfl
        have hm1 : ¬ nI b = -1 := nI_m1 b (by omega)
        generalize wI h (chM f n C w) = X at hl2 hn2 hs32 e5 e6 e28 e29 hgo2 ⊢
        have hl := hl2
        have hf := hn2.f
        simp only [c_X5_callHelpers_99, T_X0_takeNight, b_X0_takeNight_0, c_X5_callHelpers_119, lx_pI, lx_wI, lx_t hl, lx_k hl, lx_r hl, lx_l hl, i_push, i_ild, i_ald, i_ist, i_ast, i_inc, i_bin, i_un, i_divs, i_i2l, i_lshl, i_lor, i_dup, i_dup2, i_pop, i_if, i_cmp, i_nul, i_vret, i_iret, i_zret, i_aret, i_keep, keep, lget, lset, ent, i_getI, i_getJ, i_getR, i_getN, i_putI, i_putZ, i_putJ, i_putR, i_iald, i_bald, i_alen, i_aald, i_iast, i_bast, i_aast, i_new, i_newa, i_anew, i_oini, i_callS, i_callV, i_callI, popn, sh4, i_sw, swP, i_copy, i_binS, List.map, Option.toList_none, Option.toList_some, List.append, List.nil_append, List.cons_append, List.length_cons, List.length_nil, List.replicate, Nat.sub_self, Nat.reduceSub, Nat.reduceAdd, hK_pI, hL_pI, hI_pI, hR_pI, hJ_pI, hT_pI, hS_pI, hK_pR, hL_pR, hI_pR, hR_pR, hJ_pR, hT_pR, hS_pR, hK_pJ, hL_pJ, hI_pJ, hR_pJ, hJ_pJ, hT_pJ, hS_pJ, hK_wI, hL_wI, hI_wI, hR_wI, hJ_wI, hT_wI, hS_wI, eq_self, and_true, true_and, and_false, false_and, or_true, true_or, or_false, false_or, if_true, if_false, not_true_eq_false, not_false_eq_true, forall_const, implies_true, false_implies, true_implies, Option.some.injEq, forall_eq', exists_eq_left', reduceCtorEq, Nat.reduceEqDiff, c1, T_X12_in, T_X12_ones, T_X11_within, T_X11_bit, T_X11_isIn, T_X11_oneIfIn, T_J6_bitCount_0f7a4, oB, hm1, hs32, hf, cl_nI (show b < 2147483648 by omega), in_nI (show b < 8 by omega) (by decide), e28, e29, n28, n29, e5, e6, hbit]
        exact hgo2
    have hcall : T_X0_nextInTurn [.ref 25, .int (nI d), .int C] (wI h (chM f n C w)) (fun x h' => c_X5_callHelpers_99 Q [some (.ref 31), some (.ref n), some (.int (nI w)), some (.int (nI d)), some (.int (nI t)), none, none] (x.toList ++ []) h') := ⟨rfl, hl2, J, H, d, hH, e25, rfl, hd, hHC, h107⟩
    refine s_X5_callHelpers_78 Q _ _ _ ?_
    generalize wI h (chM f n C w) = X at hl2 hn2 hs32 e5 hcall ⊢
    have hl := hl2
    have hf := hn2.f
    simp only [b_X5_callHelpers_78, lx_pI, lx_wI, lx_t hl, lx_k hl, lx_r hl, lx_l hl, i_push, i_ild, i_ald, i_ist, i_ast, i_inc, i_bin, i_un, i_divs, i_i2l, i_lshl, i_lor, i_dup, i_dup2, i_pop, i_if, i_cmp, i_nul, i_vret, i_iret, i_zret, i_aret, i_keep, keep, lget, lset, ent, i_getI, i_getJ, i_getR, i_getN, i_putI, i_putZ, i_putJ, i_putR, i_iald, i_bald, i_alen, i_aald, i_iast, i_bast, i_aast, i_new, i_newa, i_anew, i_oini, i_callS, i_callV, i_callI, popn, sh4, i_sw, swP, i_copy, i_binS, List.map, Option.toList_none, Option.toList_some, List.append, List.nil_append, List.cons_append, List.length_cons, List.length_nil, List.replicate, Nat.sub_self, Nat.reduceSub, Nat.reduceAdd, hK_pI, hL_pI, hI_pI, hR_pI, hJ_pI, hT_pI, hS_pI, hK_pR, hL_pR, hI_pR, hR_pR, hJ_pR, hT_pR, hS_pR, hK_pJ, hL_pJ, hI_pJ, hR_pJ, hJ_pJ, hT_pJ, hS_pJ, hK_wI, hL_wI, hI_wI, hR_wI, hJ_wI, hT_wI, hS_wI, eq_self, and_true, true_and, and_false, false_and, or_true, true_or, or_false, false_or, if_true, if_false, not_true_eq_false, not_false_eq_true, forall_const, implies_true, false_implies, true_implies, Option.some.injEq, forall_eq', exists_eq_left', reduceCtorEq, Nat.reduceEqDiff, c1, T_X12_in, T_X12_ones, T_X11_within, T_X11_bit, T_X11_isIn, T_X11_oneIfIn, T_J6_bitCount_0f7a4, hs32, hf, e5]
    exact ⟨fun z => absurd z (nI_ge (by omega) (by omega)), fun _ => hcall⟩
set_option maxRecDepth 100000 in
set_option maxHeartbeats 400000 in
theorem ch_35 (Q : Option Value → Hp → Prop) (h : Hp) (hl : LayX h) (hs31 : hR h 31 0 = some 3) (n R : Nat) (J : Mem) (H E : Nat) (T : Int32) (hn : LayN h n R) (hR4 : R ≤ 4) (h5 : hI h n 5 = 0) (hH : H ≤ 8) (h25 : hI h 25 0 = nI H) (hc : HC (hI h) J H 0) (hE : LtC h J E) (hq : Q none (wI h (chM (hI h) n (calF J H (E % 7) (wX (hI h) n T R)) (wX (hI h) n T R)))) :
    ∀ (m r : Nat), m = R - r → r ≤ R → wp 2 MX5_callHelpers Q 30 [some (.ref 31), some (.ref n), some (.int (nI (wX (hI h) n T r))), some (.ref (n + 3)), some (.int (nI R)), some (.int (nI r)), none] [] h := by
  have hn90 := hn.1
  have hf := hn.f
  intro m
  induction m with
  | zero =>
    intro r hm hr
    have e : r = R := by omega
    subst e
    have hwl := wX_le (hI h) n T r
    have h84 := ch_84 Q h hl hs31 n r J H (E % 7) (wX (hI h) n T r) hn (hI h) hH h25 hc (by omega) (by omega) hq (wX (hI h) n T r) 0 (by omega) (by omega)
    rw [calF, ← chM_0 _ _ _ hn90 h5] at h84
    have hH2 : wI h (u2 (hI h) n 6 (nI (wX (hI h) n T r))) = pI h n 6 (nI (wX (hI h) n T r)) := rfl
    rw [hH2] at h84
    have hday := day_go h hl J E hE (fun x h' => c_X5_callHelpers_69 Q [some (.ref 31), some (.ref n), some (.int (nI (wX (hI h) n T r))), some (.ref (n + 3)), some (.int (nI r)), some (.int (nI r)), none] (x.toList ++ []) h') (by
      show c_X5_callHelpers_69 Q _ [.int (nI (E % 7))] h
      generalize wX (hI h) n T r = W at h84 ⊢
      simp only [c_X5_callHelpers_69, lx_pI, lx_wI, lx_t hl, lx_k hl, lx_r hl, lx_l hl, i_push, i_ild, i_ald, i_ist, i_ast, i_inc, i_bin, i_un, i_divs, i_i2l, i_lshl, i_lor, i_dup, i_dup2, i_pop, i_if, i_cmp, i_nul, i_vret, i_iret, i_zret, i_aret, i_keep, keep, lget, lset, ent, i_getI, i_getJ, i_getR, i_getN, i_putI, i_putZ, i_putJ, i_putR, i_iald, i_bald, i_alen, i_aald, i_iast, i_bast, i_aast, i_new, i_newa, i_anew, i_oini, i_callS, i_callV, i_callI, popn, sh4, i_sw, swP, i_copy, i_binS, List.map, Option.toList_none, Option.toList_some, List.append, List.nil_append, List.cons_append, List.length_cons, List.length_nil, List.replicate, Nat.sub_self, Nat.reduceSub, Nat.reduceAdd, hK_pI, hL_pI, hI_pI, hR_pI, hJ_pI, hT_pI, hS_pI, hK_pR, hL_pR, hI_pR, hR_pR, hJ_pR, hT_pR, hS_pR, hK_pJ, hL_pJ, hI_pJ, hR_pJ, hJ_pJ, hT_pJ, hS_pJ, hK_wI, hL_wI, hI_wI, hR_wI, hJ_wI, hT_wI, hS_wI, eq_self, and_true, true_and, and_false, false_and, or_true, true_or, or_false, false_or, if_true, if_false, not_true_eq_false, not_false_eq_true, forall_const, implies_true, false_implies, true_implies, Option.some.injEq, forall_eq', exists_eq_left', reduceCtorEq, Nat.reduceEqDiff, c1, T_X12_in, T_X12_ones, T_X11_within, T_X11_bit, T_X11_isIn, T_X11_oneIfIn, T_J6_bitCount_0f7a4, hf]
      exact h84)
    refine s_X5_callHelpers_30 Q _ _ _ ?_
    generalize wX (hI h) n T r = W at hday ⊢
    simp only [b_X5_callHelpers_30, lx_pI, lx_wI, lx_t hl, lx_k hl, lx_r hl, lx_l hl, i_push, i_ild, i_ald, i_ist, i_ast, i_inc, i_bin, i_un, i_divs, i_i2l, i_lshl, i_lor, i_dup, i_dup2, i_pop, i_if, i_cmp, i_nul, i_vret, i_iret, i_zret, i_aret, i_keep, keep, lget, lset, ent, i_getI, i_getJ, i_getR, i_getN, i_putI, i_putZ, i_putJ, i_putR, i_iald, i_bald, i_alen, i_aald, i_iast, i_bast, i_aast, i_new, i_newa, i_anew, i_oini, i_callS, i_callV, i_callI, popn, sh4, i_sw, swP, i_copy, i_binS, List.map, Option.toList_none, Option.toList_some, List.append, List.nil_append, List.cons_append, List.length_cons, List.length_nil, List.replicate, Nat.sub_self, Nat.reduceSub, Nat.reduceAdd, hK_pI, hL_pI, hI_pI, hR_pI, hJ_pI, hT_pI, hS_pI, hK_pR, hL_pR, hI_pR, hR_pR, hJ_pR, hT_pR, hS_pR, hK_pJ, hL_pJ, hI_pJ, hR_pJ, hJ_pJ, hT_pJ, hS_pJ, hK_wI, hL_wI, hI_wI, hR_wI, hJ_wI, hT_wI, hS_wI, eq_self, and_true, true_and, and_false, false_and, or_true, true_or, or_false, false_or, if_true, if_false, not_true_eq_false, not_false_eq_true, forall_const, implies_true, false_implies, true_implies, Option.some.injEq, forall_eq', exists_eq_left', reduceCtorEq, Nat.reduceEqDiff, c1, T_X12_in, T_X12_ones, T_X11_within, T_X11_bit, T_X11_isIn, T_X11_oneIfIn, T_J6_bitCount_0f7a4, hs31]
    exact ⟨fun _ => hday, fun z => absurd (nI_le (Nat.le_refl _) (by omega)) z⟩
  | succ m ih =>
    intro r hm hr
    have hgo := ih (r + 1) (by omega) (by omega)
    have h58 : ∀ v, (v = if hI h (n + 3) r = 0 then 0 else 1) → wp 2 MX5_callHelpers Q 54 [some (.ref 31), some (.ref n), none, some (.ref (n + 3)), some (.int (nI R)), some (.int (nI r)), none] [.int (nI v), .int (nI (wX (hI h) n T r))] h := by
      intro v hv
      refine s_X5_callHelpers_54 Q _ _ _ ?_
      rw [wX_s, ← hv] at hgo
      generalize wX (hI h) n T r = W at hgo ⊢
      simp only [b_X5_callHelpers_54, i_push, i_ild, i_ald, i_ist, i_ast, i_inc, i_bin, i_un, i_divs, i_i2l, i_lshl, i_lor, i_dup, i_dup2, i_pop, i_if, i_cmp, i_nul, i_vret, i_iret, i_zret, i_aret, i_keep, keep, lget, lset, ent, i_getI, i_getJ, i_getR, i_getN, i_putI, i_putZ, i_putJ, i_putR, i_iald, i_bald, i_alen, i_aald, i_iast, i_bast, i_aast, i_new, i_newa, i_anew, i_oini, i_callS, i_callV, i_callI, popn, sh4, i_sw, swP, i_copy, i_binS, List.map, Option.toList_none, Option.toList_some, List.append, List.nil_append, List.cons_append, List.length_cons, List.length_nil, List.replicate, Nat.sub_self, Nat.reduceSub, Nat.reduceAdd, hK_pI, hL_pI, hI_pI, hR_pI, hJ_pI, hT_pI, hS_pI, hK_pR, hL_pR, hI_pR, hR_pR, hJ_pR, hT_pR, hS_pR, hK_pJ, hL_pJ, hI_pJ, hR_pJ, hJ_pJ, hT_pJ, hS_pJ, hK_wI, hL_wI, hI_wI, hR_wI, hJ_wI, hT_wI, hS_wI, eq_self, and_true, true_and, and_false, false_and, or_true, true_or, or_false, false_or, if_true, if_false, not_true_eq_false, not_false_eq_true, forall_const, implies_true, false_implies, true_implies, Option.some.injEq, forall_eq', exists_eq_left', reduceCtorEq, Nat.reduceEqDiff, c1, T_X12_in, T_X12_ones, T_X11_within, T_X11_bit, T_X11_isIn, T_X11_oneIfIn, T_J6_bitCount_0f7a4, nI_1, nI_add]
      exact hgo
    refine s_X5_callHelpers_30 Q _ _ _ ?_
    generalize wX (hI h) n T r = W at h58 ⊢
    simp only [b_X5_callHelpers_30, lx_pI, lx_wI, lx_t hl, lx_k hl, lx_r hl, lx_l hl, i_push, i_ild, i_ald, i_ist, i_ast, i_inc, i_bin, i_un, i_divs, i_i2l, i_lshl, i_lor, i_dup, i_dup2, i_pop, i_if, i_cmp, i_nul, i_vret, i_iret, i_zret, i_aret, i_keep, keep, lget, lset, ent, i_getI, i_getJ, i_getR, i_getN, i_putI, i_putZ, i_putJ, i_putR, i_iald, i_bald, i_alen, i_aald, i_iast, i_bast, i_aast, i_new, i_newa, i_anew, i_oini, i_callS, i_callV, i_callI, popn, sh4, i_sw, swP, i_copy, i_binS, List.map, Option.toList_none, Option.toList_some, List.append, List.nil_append, List.cons_append, List.length_cons, List.length_nil, List.replicate, Nat.sub_self, Nat.reduceSub, Nat.reduceAdd, hK_pI, hL_pI, hI_pI, hR_pI, hJ_pI, hT_pI, hS_pI, hK_pR, hL_pR, hI_pR, hR_pR, hJ_pR, hT_pR, hS_pR, hK_pJ, hL_pJ, hI_pJ, hR_pJ, hJ_pJ, hT_pJ, hS_pJ, hK_wI, hL_wI, hI_wI, hR_wI, hJ_wI, hT_wI, hS_wI, eq_self, and_true, true_and, and_false, false_and, or_true, true_or, or_false, false_or, if_true, if_false, not_true_eq_false, not_false_eq_true, forall_const, implies_true, false_implies, true_implies, Option.some.injEq, forall_eq', exists_eq_left', reduceCtorEq, Nat.reduceEqDiff, c1, T_X12_in, T_X12_ones, T_X11_within, T_X11_bit, T_X11_isIn, T_X11_oneIfIn, T_J6_bitCount_0f7a4, hf, cl_nI (show r < 2147483648 by omega), in_nI (show r < R by omega) (by omega)]
    refine ⟨fun z => absurd z (nI_ge (by omega) (by omega)), fun _ => ⟨fun z => h58 0 ?_, fun z => h58 1 ?_⟩⟩
    · rw [if_pos z]
    · rw [if_neg z]
set_option maxRecDepth 100000 in
set_option maxHeartbeats 4000000 in
theorem ok_X5_callHelpers : ctr 2 MX5_callHelpers T_X5_callHelpers := by
  refine ctr_of pn_X5 wc_X5_callHelpers (fun av h Q hT => ?_)
  unfold T_X5_callHelpers at hT
  split at hT
  · rename_i a b
    refine ⟨⟨by simp [Value.category], Nat.le_of_ble_eq_true rfl⟩, s_X5_callHelpers_0 Q _ _ _ ?_⟩
    obtain ⟨rfl, hl, hs31, n, R, J, H, E, T, rfl, hn, hR4, h4, h5, hH, h25, hc, hE, hq⟩ := hT
    have hf := hn.f
    have hpl := pct_le T
    have h35 := ch_35 Q h hl hs31 n R J H E T hn hR4 h5 hH h25 hc hE hq R 0 (by omega) (by omega)
    have h20 : ∀ v, v = (if 8 < pct T then 1 else 0) → wp 2 MX5_callHelpers Q 17 [some (.ref 31), some (.ref n), none, none, none, none, none] [.int (nI v)] h := by
      intro v hv
      have e : wX (hI h) n T 0 = v := by unfold wX; rw [fb_sm, Nat.add_zero, hv]
      rw [e] at h35
      refine s_X5_callHelpers_17 Q _ _ _ ?_
      simp only [b_X5_callHelpers_17, lx_pI, lx_wI, lx_t hl, lx_k hl, lx_r hl, lx_l hl, i_push, i_ild, i_ald, i_ist, i_ast, i_inc, i_bin, i_un, i_divs, i_i2l, i_lshl, i_lor, i_dup, i_dup2, i_pop, i_if, i_cmp, i_nul, i_vret, i_iret, i_zret, i_aret, i_keep, keep, lget, lset, ent, i_getI, i_getJ, i_getR, i_getN, i_putI, i_putZ, i_putJ, i_putR, i_iald, i_bald, i_alen, i_aald, i_iast, i_bast, i_aast, i_new, i_newa, i_anew, i_oini, i_callS, i_callV, i_callI, popn, sh4, i_sw, swP, i_copy, i_binS, List.map, Option.toList_none, Option.toList_some, List.append, List.nil_append, List.cons_append, List.length_cons, List.length_nil, List.replicate, Nat.sub_self, Nat.reduceSub, Nat.reduceAdd, hK_pI, hL_pI, hI_pI, hR_pI, hJ_pI, hT_pI, hS_pI, hK_pR, hL_pR, hI_pR, hR_pR, hJ_pR, hT_pR, hS_pR, hK_pJ, hL_pJ, hI_pJ, hR_pJ, hJ_pJ, hT_pJ, hS_pJ, hK_wI, hL_wI, hI_wI, hR_wI, hJ_wI, hT_wI, hS_wI, eq_self, and_true, true_and, and_false, false_and, or_true, true_or, or_false, false_or, if_true, if_false, not_true_eq_false, not_false_eq_true, forall_const, implies_true, false_implies, true_implies, Option.some.injEq, forall_eq', exists_eq_left', reduceCtorEq, Nat.reduceEqDiff, c1, T_X12_in, T_X12_ones, T_X11_within, T_X11_bit, T_X11_isIn, T_X11_oneIfIn, T_J6_bitCount_0f7a4, hf]
      exact ⟨by decide, by decide, h35⟩
    have h8 : nI (pct T) ≤ 8 ↔ pct T ≤ 8 := nI_leI (b := 8) (by omega) (by decide)
    simp only [MX5_callHelpers, b_X5_callHelpers_0, lx_pI, lx_wI, lx_t hl, lx_k hl, lx_r hl, lx_l hl, i_push, i_ild, i_ald, i_ist, i_ast, i_inc, i_bin, i_un, i_divs, i_i2l, i_lshl, i_lor, i_dup, i_dup2, i_pop, i_if, i_cmp, i_nul, i_vret, i_iret, i_zret, i_aret, i_keep, keep, lget, lset, ent, i_getI, i_getJ, i_getR, i_getN, i_putI, i_putZ, i_putJ, i_putR, i_iald, i_bald, i_alen, i_aald, i_iast, i_bast, i_aast, i_new, i_newa, i_anew, i_oini, i_callS, i_callV, i_callI, popn, sh4, i_sw, swP, i_copy, i_binS, List.map, Option.toList_none, Option.toList_some, List.append, List.nil_append, List.cons_append, List.length_cons, List.length_nil, List.replicate, Nat.sub_self, Nat.reduceSub, Nat.reduceAdd, hK_pI, hL_pI, hI_pI, hR_pI, hJ_pI, hT_pI, hS_pI, hK_pR, hL_pR, hI_pR, hR_pR, hJ_pR, hT_pR, hS_pR, hK_pJ, hL_pJ, hI_pJ, hR_pJ, hJ_pJ, hT_pJ, hS_pJ, hK_wI, hL_wI, hI_wI, hR_wI, hJ_wI, hT_wI, hS_wI, eq_self, and_true, true_and, and_false, false_and, or_true, true_or, or_false, false_or, if_true, if_false, not_true_eq_false, not_false_eq_true, forall_const, implies_true, false_implies, true_implies, Option.some.injEq, forall_eq', exists_eq_left', reduceCtorEq, Nat.reduceEqDiff, c1, T_X12_in, T_X12_ones, T_X11_within, T_X11_bit, T_X11_isIn, T_X11_oneIfIn, T_J6_bitCount_0f7a4, hf, h4, h8]
    exact ⟨fun z => h20 0 (by rw [if_neg (by omega)]), fun z => h20 1 (by rw [if_pos (by omega)])⟩
  · exact hT.elim
