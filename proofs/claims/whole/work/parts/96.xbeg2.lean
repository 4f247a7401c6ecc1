/-! ===== the class: an evening begins, what stands then ===== -/
def BgP (h h' : Hp) (n R E : Nat) (door cold : Int32) : Prop :=
  hT h' = n + 4 ∧ hS h' = hS h + (46 + R) ∧ (∀ a, a < n → hK h' a = hK h a ∧ hL h' a = hL h a ∧ hJ h' a = hJ h a) ∧ (∀ a i, a < n → hR h' a i = if (a = 31 ∧ i = 2) ∨ (a = 32 ∧ i = 0) then some 3 else if a = 31 ∧ i = 3 then some n else hR h a i) ∧ LayN h' n R ∧ hR h' n 0 = hR h 3 4 ∧ (∀ a i, a < n → hI h' a i = bgM (u2 (u2 (hI h) 32 1 cold) 32 2 0) R a i) ∧ hI h' n 1 = nI E ∧ hI h' n 2 = door ∧ hI h' n 3 = cold ∧ (∀ i, 4 ≤ i → hI h' n i = 0) ∧ (∀ i, hI h' (n + 1) i = 0) ∧ (∀ i, i < 24 → hI h' (n + 2) i = -1) ∧ ∀ i, hI h' (n + 3) i = 0
def bgH (h : Hp) (n R E : Nat) (door cold : Int32) : Hp := pR (niH (nC (pR h 31 2 (some 3)) 1 12) n R E door cold) 31 3 (some n)
def bgX (h : Hp) (n R E : Nat) (door cold : Int32) : Hp := wI (pR (bgH h n R E door cold) 32 0 (some 3)) (bgM (u2 (u2 (hI (bgH h n R E door cold)) 32 1 cold) 32 2 0) R)
section
variable (h : Hp) (n R E : Nat) (door cold : Int32)
theorem bgH_T (hn : n = hT h) : hT (bgH h n R E door cold) = n + 4 := by rw [hn]; rfl
theorem bgH_S : hS (bgH h n R E door cold) = hS h + (46 + R) := by
  show hS h + 12 + 10 + 24 + R = _
  omega
theorem bgH_K (hn : n = hT h) (a : Nat) : hK (bgH h n R E door cold) a = if a = n + 3 then 14 else if a = n + 2 then 14 else if a = n + 1 then 14 else if a = n then 1 else hK h a := by rw [hn]; rfl
theorem bgH_L (hn : n = hT h) (a : Nat) : hL (bgH h n R E door cold) a = if a = n + 3 then R else if a = n + 2 then 24 else if a = n + 1 then 10 else if a = n then 12 else hL h a := by rw [hn]; rfl
theorem bgH_J (hn : n = hT h) (a : Nat) (ha : a < n) : hJ (bgH h n R E door cold) a = hJ h a := by
  subst hn
  have e0 : ¬ a = hT h := by omega
  have e1 : ¬ a = hT h + 1 := by omega
  have e2 : ¬ a = hT h + 1 + 1 := by omega
  have e3 : ¬ a = hT h + 1 + 1 + 1 := by omega
  funext i
  simp only [bgH, niH, niB, niA, hJ_wI, hJ_pR, hJ_pI, hJ_nC, hT_pR, hT_pI, hT_nC, e0, e1, e2, e3, if_false]
theorem bgH_R (hn : n = hT h) (hn9 : 90 ≤ n) (a i : Nat) (ha : a < n) : hR (bgH h n R E door cold) a i = if a = 31 ∧ i = 3 then some n else if a = 31 ∧ i = 2 then some 3 else hR h a i := by
  subst hn
  have e0 : ¬ a = hT h := by omega
  have e1 : ¬ a = hT h + 1 := by omega
  have e2 : ¬ a = hT h + 1 + 1 := by omega
  have e3 : ¬ a = hT h + 1 + 1 + 1 := by omega
  simp only [bgH, niH, niB, niA, hR_wI, hR_pR, hR_pI, hR_nC, hT_pR, hT_pI, hT_nC, e0, e1, e2, e3, if_false, false_and]
theorem bgH_Rn (hn : n = hT h) (hn9 : 90 ≤ n) : hR (bgH h n R E door cold) n 0 = hR h 3 4 ∧ hR (bgH h n R E door cold) n 9 = some (n + 1) ∧ hR (bgH h n R E door cold) n 10 = some (n + 2) ∧ hR (bgH h n R E door cold) n 11 = some (n + 3) := by
  subst hn
  have e0 : ¬ hT h = 31 := by omega
  have e1 : ¬ hT h = hT h + 1 := by omega
  have e2 : ¬ hT h = hT h + 1 + 1 := by omega
  have e3 : ¬ hT h = hT h + 1 + 1 + 1 := by omega
  have e4 : ¬ 3 = hT h := by omega
  have e5 : ¬ (3 : Nat) = 31 := by decide
  refine ⟨?_, ?_, ?_, ?_⟩ <;> simp only [bgH, niH, niB, niA, hR_wI, hR_pR, hR_pI, hR_nC, hT_pR, hT_pI, hT_nC, e0, e1, e2, e3, e4, e5, if_false, false_and, true_and, if_true, eq_self, Nat.reduceEqDiff]
theorem bgH_I (hn : n = hT h) (a i : Nat) (ha : a < n) : hI (bgH h n R E door cold) a i = hI h a i := by
  subst hn
  have e0 : ¬ a = hT h := by omega
  have e1 : ¬ a = hT h + 1 := by omega
  have e2 : ¬ a = hT h + 1 + 1 := by omega
  have e2' : ¬ a = hT h + 2 := by omega
  have e3 : ¬ a = hT h + 1 + 1 + 1 := by omega
  simp only [bgH, niH, niB, niA, hI_wI, hI_pR, hI_pI, hI_nC, flM, hT_pR, hT_pI, hT_nC, e0, e1, e2, e2', e3, if_false, false_and]
theorem bgH_In (hn : n = hT h) (i : Nat) : hI (bgH h n R E door cold) n i = if i = 3 then cold else if i = 2 then door else if i = 1 then nI E else 0 := by
  subst hn
  have e1 : ¬ hT h = hT h + 1 := by omega
  have e2 : ¬ hT h = hT h + 1 + 1 := by omega
  have e2' : ¬ hT h = hT h + 2 := by omega
  have e3 : ¬ hT h = hT h + 1 + 1 + 1 := by omega
  simp only [bgH, niH, niB, niA, hI_wI, hI_pR, hI_pI, hI_nC, flM, hT_pR, hT_pI, hT_nC, e1, e2, e2', e3, if_false, false_and, true_and, if_true]
theorem bgH_I1 (hn : n = hT h) (i : Nat) : hI (bgH h n R E door cold) (n + 1) i = 0 := by
  subst hn
  have e0 : ¬ hT h + 1 = hT h := by omega
  have e2 : ¬ hT h + 1 = hT h + 1 + 1 := by omega
  have e2' : ¬ hT h + 1 = hT h + 2 := by omega
  have e3 : ¬ hT h + 1 = hT h + 1 + 1 + 1 := by omega
  simp only [bgH, niH, niB, niA, hI_wI, hI_pR, hI_pI, hI_nC, flM, hT_pR, hT_pI, hT_nC, e0, e2, e2', e3, if_false, false_and, true_and, if_true]
theorem bgH_I2 (i : Nat) (hi : i < 24) : hI (bgH h n R E door cold) (n + 2) i = -1 := by
  simp only [bgH, niH, hI_wI, hI_pR, flM, true_and, hi, if_true]
theorem bgH_I3 (hn : n = hT h) (i : Nat) : hI (bgH h n R E door cold) (n + 3) i = 0 := by
  subst hn
  have e0 : ¬ hT h + 3 = hT h + 2 := by omega
  have e3 : hT h + 3 = hT h + 1 + 1 + 1 := by omega
  simp only [bgH, niH, niB, niA, hI_wI, hI_pR, hI_pI, hI_nC, flM, hT_pR, hT_pI, hT_nC, e0, if_false, false_and, e3, if_true]
end
theorem bgX_P (h : Hp) (n R E : Nat) (door cold : Int32) (hn : n = hT h) (hn9 : 90 ≤ n) : BgP h (bgX h n R E door cold) n R E door cold := by
  have ii : ∀ a i, hI (bgX h n R E door cold) a i = bgM (u2 (u2 (hI (bgH h n R E door cold)) 32 1 cold) 32 2 0) R a i := fun _ _ => rfl
  have big : ∀ a i, 43 < a → hI (bgX h n R E door cold) a i = hI (bgH h n R E door cold) a i := fun a i ha => by
    rw [ii, bgM_o _ _ ⟨by omega, by omega⟩, u2_ne (by omega), u2_ne (by omega)]
  have rr : ∀ a i, hR (bgX h n R E door cold) a i = if a = 32 ∧ i = 0 then some 3 else hR (bgH h n R E door cold) a i := fun _ _ => rfl
  have kk : ∀ a, hK (bgX h n R E door cold) a = hK (bgH h n R E door cold) a := fun _ => rfl
  have ll : ∀ a, hL (bgX h n R E door cold) a = hL (bgH h n R E door cold) a := fun _ => rfl
  have tt : hT (bgX h n R E door cold) = hT (bgH h n R E door cold) := rfl
  obtain ⟨r0, r9, r10, r11⟩ := bgH_Rn h n R E door cold hn hn9
  have hne : ∀ i, ¬ (n = 32 ∧ i = 0) := fun i z => by omega
  refine ⟨?_, bgH_S h n R E door cold, fun a ha => ⟨?_, ?_, ?_⟩, fun a i ha => ?_, ⟨hn9, ?_, ?_, ?_, ?_, ?_, ?_, ?_, ?_, ?_, ?_, ?_⟩, ?_, fun a i ha => ?_, ?_, ?_, ?_, fun i hi => ?_, fun i => ?_, fun i hi => ?_, fun i => ?_⟩
  · rw [tt, bgH_T _ _ _ _ _ _ hn]
  · rw [kk, bgH_K _ _ _ _ _ _ hn, if_neg (by omega), if_neg (by omega), if_neg (by omega), if_neg (by omega)]
  · rw [ll, bgH_L _ _ _ _ _ _ hn, if_neg (by omega), if_neg (by omega), if_neg (by omega), if_neg (by omega)]
  · exact bgH_J _ _ _ _ _ _ hn a ha
  · rw [rr, bgH_R _ _ _ _ _ _ hn hn9 a i ha]
    by_cases c : a = 32 ∧ i = 0
    · rw [if_pos c, if_pos (Or.inr c)]
    · rw [if_neg c]
      by_cases c2 : a = 31 ∧ i = 2
      · rw [if_neg (by omega), if_pos c2, if_pos (Or.inl c2)]
      · rw [if_neg c2, if_neg (show ¬ ((a = 31 ∧ i = 2) ∨ (a = 32 ∧ i = 0)) from fun z => z.elim c2 c)]
  · rw [tt, bgH_T _ _ _ _ _ _ hn]; omega
  · rw [kk, bgH_K _ _ _ _ _ _ hn, if_neg (by omega), if_neg (by omega), if_neg (by omega), if_pos rfl]
  · rw [kk, bgH_K _ _ _ _ _ _ hn, if_neg (by omega), if_neg (by omega), if_pos rfl]
  · rw [kk, bgH_K _ _ _ _ _ _ hn, if_neg (by omega), if_pos rfl]
  · rw [kk, bgH_K _ _ _ _ _ _ hn, if_pos rfl]
  · rw [rr, if_neg (hne _)]; exact r9
  · rw [rr, if_neg (hne _)]; exact r10
  · rw [rr, if_neg (hne _)]; exact r11
  · rw [ll, bgH_L _ _ _ _ _ _ hn, if_neg (by omega), if_neg (by omega), if_pos rfl]
  · rw [ll, bgH_L _ _ _ _ _ _ hn, if_neg (by omega), if_pos rfl]
  · rw [ll, bgH_L _ _ _ _ _ _ hn, if_pos rfl]
  · rw [rr, if_neg (by omega)]; exact r0
  · rw [ii]
    have e : ∀ b j, b < n → u2 (u2 (hI (bgH h n R E door cold)) 32 1 cold) 32 2 0 b j = u2 (u2 (hI h) 32 1 cold) 32 2 0 b j := fun b j hb => by
      unfold u2
      rw [bgH_I _ _ _ _ _ _ hn b j hb]
    unfold bgM cpX
    rw [e 32 1 (by omega), e 13 i (by omega), e 14 i (by omega), e a i ha]
  · rw [big n 1 (by omega), bgH_In _ _ _ _ _ _ hn, if_neg (by decide), if_neg (by decide), if_pos rfl]
  · rw [big n 2 (by omega), bgH_In _ _ _ _ _ _ hn, if_neg (by decide), if_pos rfl]
  · rw [big n 3 (by omega), bgH_In _ _ _ _ _ _ hn, if_pos rfl]
  · rw [big n i (by omega), bgH_In _ _ _ _ _ _ hn, if_neg (by omega), if_neg (by omega), if_neg (by omega)]
  · rw [big (n + 1) i (by omega), bgH_I1 _ _ _ _ _ _ hn]
  · rw [big (n + 2) i (by omega), bgH_I2 _ _ _ _ _ _ i hi]
  · rw [big (n + 3) i (by omega), bgH_I3 _ _ _ _ _ _ hn]
theorem LayX.pR31 {h : Hp} (hl : LayX h) {j : Nat} (hj : 2 ≤ j) (v : Option Nat) : LayX (pR h 31 j v) := by
  obtain ⟨a, b, c, d⟩ := hl
  refine ⟨a, b, ?_, d⟩
  have e0 : ¬ 0 = j := by omega
  have e1 : ¬ 1 = j := by omega
  simp only [hR_pR, Nat.reduceEqDiff, false_and, and_false, if_false, true_and, eq_self, e0, e1]
  exact c
def T_X5_begin : Tr := fun av h Q => match av with
  | [.ref a, .ref s, .int door, .int cold] => a = 31 ∧ s = 3 ∧ LayX h ∧ (cold = 0 ∨ cold = 1) ∧ ∃ R J E, R ≤ 4 ∧ hI h 12 0 = nI R ∧ LtC h J E ∧ ∀ h', BgP h h' (hT h) R E door cold → Q none h'
  | _ => False
def L_X5_begin : List UInt8 := [42, 43, 181, 0, 22, 42, 187, 0, 26, 89, 43, 28, 29, 183, 0, 28, 181, 0, 31, 42, 180, 0, 12, 43, 29, 182, 0, 35, 177]
theorem Lc_X5_begin : MX5_begin.2.1 = ⟨L_X5_begin.toArray⟩ := rfl
theorem D_X5_begin_0 : dseq MX5_begin.2.1 0 [(.aload_n 0, 1), (.aload_n 1, 1), (.putfield 22, 3), (.aload_n 0, 1), (.new 26, 3), (.dup, 1), (.aload_n 1, 1), (.iload_n 2, 1), (.iload_n 3, 1), (.invokespecial 28, 3), (.putfield 31, 3), (.aload_n 0, 1), (.getfield 12, 3), (.aload_n 1, 1), (.iload_n 3, 1), (.invokevirtual 35, 3), (.return_, 1)] := dq Lc_X5_begin 0 _ (by decide +kernel)
def c_X5_begin_16 (Q : Option Value → Hp → Prop) : Kt := i_putR 5 3 (i_ald 0 (i_getR 5 0 (i_ald 1 (i_ild 3 (i_callV 4 2 T_X4_begin (i_vret Q))))))
def b_X5_begin_0 (Q : Option Value → Hp → Prop) : Kt := i_ald 0 (i_ald 1 (i_putR 5 2 (i_ald 0 (i_new 1 (i_dup (i_ald 1 (i_ild 2 (i_ild 3 (i_callI 3 T_X1_init (c_X5_begin_16 Q))))))))))
set_option maxRecDepth 100000 in
theorem s_X5_begin_0 (Q : Option Value → Hp → Prop) : ∀ A st h, b_X5_begin_0 Q A st h → wp 2 MX5_begin Q 0 A st h := (q1 (s_aldn (n := 0) (i := 0) rfl) D_X5_begin_0 fun D => (q1 (s_aldn (n := 1) (i := 1) rfl) D fun D => (qP pl_X5_22 rfl (Or.inl rfl) D fun D => (q1 (s_aldn (n := 0) (i := 0) rfl) D fun D => (qC (s_new kX1 ot_X1 (ch_3_10_ok.2.2.2.2.1.1 rfl) (ch_3_10_ok.2.2.2.2.2.1.1 rfl) (ch_1_1_ok.2.2.1.1 rfl)) rfl D fun D => (q1 s_dup D fun D => (q1 (s_aldn (n := 1) (i := 1) rfl) D fun D => (q1 (s_ildn (n := 2) (i := 2) rfl) D fun D => (q1 (s_ildn (n := 3) (i := 3) rfl) D fun D => (qX (s_callI ok_X1_init mo_X1_init rfl rfl (ch_3_10_ok.2.2.2.2.2.2.1.1 rfl) (ch_3_10_ok.2.2.2.2.2.2.2.1.1 rfl)) rfl (by decide) D fun D => (qP pl_X5_31 rfl (Or.inl rfl) D fun D => (q1 (s_aldn (n := 0) (i := 0) rfl) D fun D => (qC fl_X5_12 rfl D fun D => (q1 (s_aldn (n := 1) (i := 1) rfl) D fun D => (q1 (s_ildn (n := 3) (i := 3) rfl) D fun D => (qX (s_callV kX4 rfl ok_X4_begin mo_X4_begin (ch_3_14_ok.2.2.2.1.1 rfl) (ch_3_14_ok.2.2.2.2.1.1 rfl) (ch_3_14_ok.2.2.2.2.2.1.1 rfl)) rfl (by decide) D fun D => (qV rfl D)))))))))))))))))

set_option maxRecDepth 100000 in
set_option maxHeartbeats 400000 in
theorem xbg_0 (Q : Option Value → Hp → Prop) (h : Hp) (n R E : Nat) (J : Mem) (door cold : Int32) (hl : LayX h) (hn : n = hT h) (hc : cold = 0 ∨ cold = 1) (hR4 : R ≤ 4) (h12 : hI h 12 0 = nI R) (hE : LtC h J E) (hq : Q none (bgX h n R E door cold)) : b_X5_begin_0 Q [some (.ref 31), some (.ref 3), some (.int door), some (.int cold)] [] h := by
  have hn9 : 90 ≤ n := by rw [hn]; exact hl.1
  have hX1 : LayX (pR h 31 2 (some 3)) := hl.pR31 (by decide) _
  have hX2 : LayX (nC (pR h 31 2 (some 3)) 1 12) := hX1.nC _ _
  have r34 : hR (nC (pR h 31 2 (some 3)) 1 12) 3 4 = hR h 3 4 := by
    rw [hR_nC, if_neg (by rw [hT_pR]; omega), hR_pR, if_neg (by decide)]
  have hnn : ¬ hR (nC (pR h 31 2 (some 3)) 1 12) 3 4 = some n := by
    rw [r34]
    intro z
    obtain ⟨_, e0, e1⟩ := hE
    cases E with
    | zero => rw [e0 rfl] at z; cases z
    | succ e =>
      obtain ⟨m, c1, c2, _⟩ := e1 e rfl
      rw [c1] at z
      cases z
      omega
  have hE2 : LtC (nC (pR h 31 2 (some 3)) 1 12) J E := LtC_w r34 (show hT h ≤ hT h + 1 by omega) (fun a ha => by rw [hK_nC, if_neg (by rw [hT_pR]; omega), hK_pR]) (fun a i _ _ ha => by rw [hI_nC, if_neg (by rw [hT_pR]; omega), hI_pR]) hE
  have hlH : LayX (bgH h n R E door cold) := by
    have k := bgH_K h n R E door cold hn
    have l := bgH_L h n R E door cold hn
    have r := bgH_R h n R E door cold hn hn9
    obtain ⟨a, b, c, d⟩ := hl
    have e : ∀ x, x < 90 → ¬ x = n + 3 ∧ ¬ x = n + 2 ∧ ¬ x = n + 1 ∧ ¬ x = n ∧ x < n := fun x hx => by omega
    have kx : ∀ x, x < 90 → hK (bgH h n R E door cold) x = hK h x := fun x hx => by
      obtain ⟨z1, z2, z3, z4, _⟩ := e x hx
      rw [k, if_neg z1, if_neg z2, if_neg z3, if_neg z4]
    have lx : ∀ x, x < 90 → hL (bgH h n R E door cold) x = hL h x := fun x hx => by
      obtain ⟨z1, z2, z3, z4, _⟩ := e x hx
      rw [l, if_neg z1, if_neg z2, if_neg z3, if_neg z4]
    have rx : ∀ x i, x < 90 → x ≠ 31 → hR (bgH h n R E door cold) x i = hR h x i := fun x i hx h31 => by
      rw [r x i (e x hx).2.2.2.2, if_neg (fun z => h31 z.1), if_neg (fun z => h31 z.1)]
    have r31 : ∀ i, i < 2 → hR (bgH h n R E door cold) 31 i = hR h 31 i := fun i hi => by
      rw [r 31 i (by omega), if_neg (by omega), if_neg (by omega)]
    refine ⟨by rw [bgH_T _ _ _ _ _ _ hn]; omega, ?_, ?_, ?_⟩
    · simp only [kx 0 (by decide), kx 1 (by decide), kx 2 (by decide), kx 3 (by decide), kx 12 (by decide), kx 13 (by decide), kx 14 (by decide), kx 15 (by decide), kx 16 (by decide), kx 17 (by decide), kx 18 (by decide), kx 19 (by decide), kx 20 (by decide), kx 21 (by decide), kx 22 (by decide), kx 23 (by decide), kx 24 (by decide), kx 25 (by decide), kx 26 (by decide), kx 27 (by decide), kx 28 (by decide), kx 29 (by decide), kx 30 (by decide), kx 31 (by decide), kx 32 (by decide), kx 33 (by decide), kx 34 (by decide), kx 35 (by decide), kx 36 (by decide), kx 37 (by decide), kx 38 (by decide), kx 39 (by decide), kx 40 (by decide), kx 41 (by decide), kx 42 (by decide), kx 43 (by decide)]
      exact b
    · simp only [rx 0 _ (by decide) (by decide), rx 1 _ (by decide) (by decide), rx 3 _ (by decide) (by decide), rx 12 _ (by decide) (by decide), rx 16 _ (by decide) (by decide), rx 25 _ (by decide) (by decide), r31 0 (by decide), r31 1 (by decide), rx 32 _ (by decide) (by decide)]
      exact c
    · simp only [lx 2 (by decide), lx 13 (by decide), lx 14 (by decide), lx 15 (by decide), lx 17 (by decide), lx 18 (by decide), lx 19 (by decide), lx 20 (by decide), lx 21 (by decide), lx 22 (by decide), lx 23 (by decide), lx 24 (by decide), lx 26 (by decide), lx 27 (by decide), lx 28 (by decide), lx 29 (by decide), lx 30 (by decide), lx 33 (by decide), lx 34 (by decide), lx 35 (by decide), lx 36 (by decide), lx 37 (by decide), lx 38 (by decide), lx 39 (by decide), lx 40 (by decide), lx 41 (by decide), lx 42 (by decide), lx 43 (by decide)]
      exact d
  have hlN : LayX (niH (nC (pR h 31 2 (some 3)) 1 12) n R E door cold) := by
    have hb : ∀ i, hR (bgH h n R E door cold) 31 i = if i = 3 then some n else hR (niH (nC (pR h 31 2 (some 3)) 1 12) n R E door cold) 31 i := fun i => by
      show hR (pR _ 31 3 (some n)) 31 i = _
      rw [hR_pR]
      by_cases c : i = 3
      · rw [if_pos ⟨rfl, c⟩, if_pos c]
      · rw [if_neg (fun z => c z.2), if_neg c]
    have ho : ∀ a i, ¬ a = 31 → hR (niH (nC (pR h 31 2 (some 3)) 1 12) n R E door cold) a i = hR (bgH h n R E door cold) a i := fun a i ha => by
      show _ = hR (pR _ 31 3 (some n)) a i
      rw [hR_pR, if_neg (fun z => ha z.1)]
    obtain ⟨a, b, c, d⟩ := hlH
    refine ⟨a, b, ?_, d⟩
    have b0 := hb 0
    have b1 := hb 1
    rw [if_neg (by decide)] at b0 b1
    simp only [ho 0 _ (by decide), ho 1 _ (by decide), ho 3 _ (by decide), ho 12 _ (by decide), ho 16 _ (by decide), ho 25 _ (by decide), ho 32 _ (by decide), ← b0, ← b1]
    exact c
  have hPb : T_X4_begin [.ref 32, .ref 3, .int cold] (bgH h n R E door cold) (fun r h' => i_vret Q [some (.ref 31), some (.ref 3), some (.int door), some (.int cold)] (r.toList ++ []) h') := ⟨rfl, rfl, hlH, hc, R, hR4, (bgH_I _ _ _ _ _ _ hn 12 0 (by omega)).trans h12, hq⟩
  have h16 : c_X5_begin_16 Q [some (.ref 31), some (.ref 3), some (.int door), some (.int cold)] [.ref n, .ref 31] (niH (nC (pR h 31 2 (some 3)) 1 12) n R E door cold) := by
    have hlH2 : LayX (pR (niH (nC (pR h 31 2 (some 3)) 1 12) n R E door cold) 31 3 (some n)) := hlH
    have hPb2 : T_X4_begin [.ref 32, .ref 3, .int cold] (pR (niH (nC (pR h 31 2 (some 3)) 1 12) n R E door cold) 31 3 (some n)) (fun r h' => i_vret Q [some (.ref 31), some (.ref 3), some (.int door), some (.int cold)] (r.toList ++ []) h') := hPb
    generalize niH (nC (pR h 31 2 (some 3)) 1 12) n R E door cold = X at hlN hlH2 hPb2 ⊢
    have hl := hlN
    have c31 : ¬ (0 : Nat) = 3 := by decide
    simp only [c_X5_begin_16, lx_pI, lx_wI, lx_t hl, lx_k hl, lx_r hl, lx_l hl, i_push, i_ild, i_ald, i_ist, i_ast, i_inc, i_bin, i_un, i_divs, i_i2l, i_lshl, i_lor, i_dup, i_dup2, i_pop, i_if, i_cmp, i_nul, i_vret, i_iret, i_zret, i_aret, i_keep, keep, lget, lset, ent, i_getI, i_getJ, i_getR, i_getN, i_putI, i_putZ, i_putJ, i_putR, i_iald, i_bald, i_alen, i_aald, i_iast, i_bast, i_aast, i_new, i_newa, i_anew, i_oini, i_callS, i_callV, i_callI, popn, sh4, i_sw, swP, i_copy, i_binS, List.map, Option.toList_none, Option.toList_some, List.append, List.nil_append, List.cons_append, List.length_cons, List.length_nil, List.replicate, Nat.sub_self, Nat.reduceSub, Nat.reduceAdd, hK_pI, hL_pI, hI_pI, hR_pI, hJ_pI, hT_pI, hS_pI, hK_pR, hL_pR, hI_pR, hR_pR, hJ_pR, hT_pR, hS_pR, hK_pJ, hL_pJ, hI_pJ, hR_pJ, hJ_pJ, hT_pJ, hS_pJ, hK_wI, hL_wI, hI_wI, hR_wI, hJ_wI, hT_wI, hS_wI, eq_self, and_true, true_and, and_false, false_and, or_true, true_or, or_false, false_or, if_true, if_false, not_true_eq_false, not_false_eq_true, forall_const, implies_true, false_implies, true_implies, Option.some.injEq, forall_eq', exists_eq_left', reduceCtorEq, Nat.reduceEqDiff, c1, T_X12_in, T_X12_ones, T_X11_within, T_X11_bit, T_X11_isIn, T_X11_oneIfIn, T_J6_bitCount_0f7a4, Nat.reduceEqDiff]
    exact hPb2
  have hcall : T_X1_init [.ref n, .ref 3, .int door, .int cold] (nC (pR h 31 2 (some 3)) 1 12) (fun r h' => c_X5_begin_16 Q [some (.ref 31), some (.ref 3), some (.int door), some (.int cold)] (r.toList ++ [.ref n, .ref 31]) h') := by
    refine ⟨rfl, hX2, by rw [hn]; rfl, hn9, ?_, hc, hnn, R, J, E, hR4, ?_, hE2, h16⟩
    · rw [hK_nC, if_pos (by rw [hT_pR]; exact hn)]
    · rw [hI_nC, if_neg (by rw [hT_pR]; omega), hI_pR]; exact h12
  subst hn
  simp only [b_X5_begin_0, lx_pI, lx_wI, lx_t hl, lx_k hl, lx_r hl, lx_l hl, i_push, i_ild, i_ald, i_ist, i_ast, i_inc, i_bin, i_un, i_divs, i_i2l, i_lshl, i_lor, i_dup, i_dup2, i_pop, i_if, i_cmp, i_nul, i_vret, i_iret, i_zret, i_aret, i_keep, keep, lget, lset, ent, i_getI, i_getJ, i_getR, i_getN, i_putI, i_putZ, i_putJ, i_putR, i_iald, i_bald, i_alen, i_aald, i_iast, i_bast, i_aast, i_new, i_newa, i_anew, i_oini, i_callS, i_callV, i_callI, popn, sh4, i_sw, swP, i_copy, i_binS, List.map, Option.toList_none, Option.toList_some, List.append, List.nil_append, List.cons_append, List.length_cons, List.length_nil, List.replicate, Nat.sub_self, Nat.reduceSub, Nat.reduceAdd, hK_pI, hL_pI, hI_pI, hR_pI, hJ_pI, hT_pI, hS_pI, hK_pR, hL_pR, hI_pR, hR_pR, hJ_pR, hT_pR, hS_pR, hK_pJ, hL_pJ, hI_pJ, hR_pJ, hJ_pJ, hT_pJ, hS_pJ, hK_wI, hL_wI, hI_wI, hR_wI, hJ_wI, hT_wI, hS_wI, eq_self, and_true, true_and, and_false, false_and, or_true, true_or, or_false, false_or, if_true, if_false, not_true_eq_false, not_false_eq_true, forall_const, implies_true, false_implies, true_implies, Option.some.injEq, forall_eq', exists_eq_left', reduceCtorEq, Nat.reduceEqDiff, c1, T_X12_in, T_X12_ones, T_X11_within, T_X11_bit, T_X11_isIn, T_X11_oneIfIn, T_J6_bitCount_0f7a4, show fN 1 = 12 from rfl]
  exact hcall
set_option maxRecDepth 100000 in
set_option maxHeartbeats 4000000 in
theorem ok_X5_begin : ctr 2 MX5_begin T_X5_begin := by
  refine ctr_of pn_X5 wc_X5_begin (fun av h Q hT => ?_)
  unfold T_X5_begin at hT
  split at hT
  · rename_i a s door cold
    refine ⟨⟨by simp [Value.category], Nat.le_of_ble_eq_true rfl⟩, s_X5_begin_0 Q _ _ _ ?_⟩
    obtain ⟨rfl, rfl, hl, hc, R, J, E, hR4, h12, hE, hq⟩ := hT
    exact xbg_0 Q h (hT h) R E J door cold hl rfl hc hR4 h12 hE (hq _ (bgX_P h (hT h) R E door cold rfl hl.1))
  · exact hT.elim
