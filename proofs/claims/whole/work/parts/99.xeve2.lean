/-! ===== the class: evening, its steps put together ===== -/
def T_X11_evening : Tr := fun av h Q => match av with
  | [.ref a, .int door, .int cold] => a = 0 ∧ LayX h ∧ (cold = 0 ∨ cold = 1) ∧ ∃ J R P H E Ln q np, ST h 3 12 J R P H E Ln q np ∧ J 44 56 = cold ∧ (10 < pct (door &&& (bitI P - 1)) ∨ E = 400 → Q (some (.int (-1))) h) ∧
      (pct (door &&& (bitI P - 1)) ≤ 10 → E < 400 → ∀ h' N o T F w, N = (ordS J E Ln (door &&& (bitI P - 1)) cold P).1 → o = (ordS J E Ln (door &&& (bitI P - 1)) cold P).2 → T = evT J R P N o → F = evF J R P T → w = wnF (evR J T F P) T R → EvX h h' J (hT h) R P H E Ln N o T F (calF J H (E % 7) w) w (door &&& (bitI P - 1)) cold → Q (some (.int (nI (pct T)))) h')
  | _ => False
theorem am0 (o : Nat → Nat) : amS o 0 = 0 := b_ext2 fun i hi => by
  unfold amS
  rw [b_mkB, b_0]
  exact ⟨fun ⟨_, j, hj, _⟩ => absurd hj (Nat.not_lt_zero _), fun z => by cases z⟩
/-- before the first party is seen -/
theorem TI_0 {f J : Mem} {n R P N : Nat} {o : Nat → Nat} (hR : R ≤ 4) (h12 : f 12 0 = nI R) (h32 : f 33 2 = 0) (h4 : f n 4 = 0) (he : EC f J R P) (h42 : ∀ r, r < R → f 43 r = cpX f r) (h40 : ∀ r, r < R → f 41 r = 0) : TI f J n R P N o (capN J) 0 f := by
  refine ⟨0, fun _ => 0, fun _ => 0, ⟨fun _ _ => rfl, rfl⟩, h4, fun _ _ => rfl, fun q => ?_, fun _ _ _ _ _ => rfl, ⟨⟨hR, by decide, h12, h32, fun i hi => absurd hi (Nat.not_lt_zero _), fun i j hi => absurd hi (Nat.not_lt_zero _), fun i j hi => absurd hi (Nat.not_lt_zero _), fun r hr => ?_⟩, fun i hi => absurd hi (Nat.not_lt_zero _), fun _ _ => rfl⟩, ⟨fun i hi => absurd hi (Nat.not_lt_zero _), fun r hr => ?_, fun r hr x => ?_, fun i j hi => absurd hi (Nat.not_lt_zero _)⟩, fun i j hij hj => absurd hj (Nat.not_lt_zero _), fun i hi => absurd hi (Nat.not_lt_zero _), rfl, fun i hi => absurd hi (Nat.not_lt_zero _), Nat.le_refl _, fun _ _ => rfl⟩
  · rw [cif_f (fun ⟨j, hj, _⟩ => absurd hj (Nat.not_lt_zero _))]
  · obtain ⟨⟨c, hc, ec⟩, _⟩ := he.1 r hr
    rw [capN_of hc ec]; exact hc
  · obtain ⟨⟨c, hc, ec⟩, e1, _⟩ := he.1 r hr
    refine ⟨Nat.zero_le _, ?_⟩
    rw [h42 r hr, e1, ec, capN_of hc ec]; rfl
  · rw [h40 r hr, b_0]
    exact ⟨(fun z => by cases z), fun ⟨i, hi, _⟩ => absurd hi (Nat.not_lt_zero _)⟩
def L_X11_evening : List UInt8 := [27, 42, 180, 0, 24, 180, 0, 99, 180, 0, 139, 184, 0, 123, 4, 100, 126, 62, 29, 184, 0, 142, 16, 10, 163, 0, 16, 42, 180, 0, 24, 182, 0, 147, 17, 1, 144, 161, 0, 5, 2, 172, 187, 0, 151, 89, 42, 180, 0, 24, 29, 28, 183, 0, 153, 58, 4, 42, 180, 0, 37, 25, 4, 182, 0, 156, 42, 180, 0, 37, 25, 4, 182, 0, 160, 42, 180, 0, 37, 25, 4, 182, 0, 163, 42, 180, 0, 37, 25, 4, 182, 0, 166, 42, 180, 0, 37, 25, 4, 182, 0, 169, 25, 4, 180, 0, 172, 184, 0, 142, 172]
theorem Lc_X11_evening : MX11_evening.2.1 = ⟨L_X11_evening.toArray⟩ := rfl
theorem D_X11_evening_0 : dseq MX11_evening.2.1 0 [(.iload_n 1, 1), (.aload_n 0, 1), (.getfield 24, 3), (.getfield 99, 3), (.getfield 139, 3), (.invokestatic 123, 3), (.iconst 1, 1), (.isub, 1), (.iand, 1), (.istore_n 3, 1), (.iload_n 3, 1), (.invokestatic 142, 3), (.bipush 10, 2), (.if_icmp .gt 16, 3), (.aload_n 0, 1), (.getfield 24, 3), (.invokevirtual 147, 3), (.sipush 400, 3), (.if_icmp .lt 5, 3), (.iconst (-1), 1), (.ireturn, 1)] := dq Lc_X11_evening 0 _ (by decide +kernel)
theorem D_X11_evening_40 : dseq MX11_evening.2.1 40 [(.iconst (-1), 1), (.ireturn, 1)] := dq Lc_X11_evening 40 _ (by decide +kernel)
theorem D_X11_evening_42 : dseq MX11_evening.2.1 42 [(.new 151, 3), (.dup, 1), (.aload_n 0, 1), (.getfield 24, 3), (.iload_n 3, 1), (.iload_n 2, 1), (.invokespecial 153, 3), (.astore 4, 2), (.aload_n 0, 1), (.getfield 37, 3), (.aload 4, 2), (.invokevirtual 156, 3), (.aload_n 0, 1), (.getfield 37, 3), (.aload 4, 2), (.invokevirtual 160, 3), (.aload_n 0, 1), (.getfield 37, 3), (.aload 4, 2), (.invokevirtual 163, 3), (.aload_n 0, 1), (.getfield 37, 3), (.aload 4, 2), (.invokevirtual 166, 3), (.aload_n 0, 1), (.getfield 37, 3), (.aload 4, 2), (.invokevirtual 169, 3), (.aload 4, 2), (.getfield 172, 3), (.invokestatic 142, 3), (.ireturn, 1)] := dq Lc_X11_evening 42 _ (by decide +kernel)
def c_X11_evening_102 (Q : Option Value → Hp → Prop) : Kt := i_ald 4 (i_getI 1 4 (i_callS 1 T_J6_bitCount_0f7a4 (i_iret Q)))
def c_X11_evening_93 (Q : Option Value → Hp → Prop) : Kt := i_ald 0 (i_getR 11 3 (i_ald 4 (i_callV 5 1 T_X5_closeDoor (c_X11_evening_102 Q))))
def c_X11_evening_84 (Q : Option Value → Hp → Prop) : Kt := i_ald 0 (i_getR 11 3 (i_ald 4 (i_callV 5 1 T_X5_callHelpers (c_X11_evening_93 Q))))
def c_X11_evening_75 (Q : Option Value → Hp → Prop) : Kt := i_ald 0 (i_getR 11 3 (i_ald 4 (i_callV 5 1 T_X5_settleParties (c_X11_evening_84 Q))))
def c_X11_evening_66 (Q : Option Value → Hp → Prop) : Kt := i_ald 0 (i_getR 11 3 (i_ald 4 (i_callV 5 1 T_X5_takeParties (c_X11_evening_75 Q))))
def c_X11_evening_55 (Q : Option Value → Hp → Prop) : Kt := i_ast 4 (i_ald 0 (i_getR 11 3 (i_ald 4 (i_callV 5 1 T_X5_lineUp (c_X11_evening_66 Q)))))
def c_X11_evening_34 (Q : Option Value → Hp → Prop) : Kt := i_push (.int 400) (i_cmp (fun x y => x < y) (i_new 1 (i_dup (i_ald 0 (i_getR 11 1 (i_ild 3 (i_ild 2 (i_callI 3 T_X1_init (c_X11_evening_55 Q)))))))) (i_push (.int (-1)) (i_iret Q)))
def b_X11_evening_0 (Q : Option Value → Hp → Prop) : Kt := i_ild 1 (i_ald 0 (i_getR 11 1 (i_getR 8 1 (i_getI 3 0 (i_callS 1 T_X11_bit (i_push (.int 1) (i_bin (fun x y => x - y) (i_bin (fun x y => x &&& y) (i_ist 3 (i_ild 3 (i_callS 1 T_J6_bitCount_0f7a4 (i_push (.int 10) (i_cmp (fun x y => y < x) (i_push (.int (-1)) (i_iret Q)) (i_ald 0 (i_getR 11 1 (i_callV 8 0 T_X8_evenings (c_X11_evening_34 Q)))))))))))))))))
set_option maxRecDepth 100000 in
theorem s_X11_evening_0 (Q : Option Value → Hp → Prop) : ∀ A st h, b_X11_evening_0 Q A st h → wp 23 MX11_evening Q 0 A st h := (q1 (s_ildn (n := 1) (i := 1) rfl) D_X11_evening_0 fun D => (q1 (s_aldn (n := 0) (i := 0) rfl) D fun D => (qC fl_X11_24 rfl D fun D => (qC fl_X11_99 rfl D fun D => (qC fl_X11_139 rfl D fun D => (qX (s_callS ok_X11_bit mo_X11_bit (ch_3_7_ok.2.2.2.2.2.2.1.1 rfl) (ch_3_5_ok.2.2.2.2.2.2.2.2.2.2.2.2.1.1 rfl)) rfl (by decide) D fun D => (q1 (s_iconst (n := 1) (v := 1) (by decide)) D fun D => (q1 s_sub D fun D => (q1 s_and D fun D => (qL (s_istn (n := 3) (i := 3) rfl) (by decide) D fun D => (q1 (s_ildn (n := 3) (i := 3) rfl) D fun D => (qX (s_callS ok_J6_bitCount_0f7a4 mo_J6_bitCount_0f7a4 (ch_3_9_ok.2.2.2.1.1 rfl) (ch_3_9_ok.2.2.2.2.1.1 rfl)) rfl (by decide) D fun D => (q1 (s_bipush (n := 10) (v := 10) (by decide)) D fun D => (qB s_cmpgt 40 (by decide) D (q1 (s_iconst (n := (-1)) (v := (-1)) (by decide)) D_X11_evening_40 fun D => (qI rfl D)) fun D => (q1 (s_aldn (n := 0) (i := 0) rfl) D fun D => (qC fl_X11_24 rfl D fun D => (qX (s_callV kX8 rfl ok_X8_evenings mo_X8_evenings (ch_3_9_ok.2.2.2.2.2.2.2.2.2.1.1 rfl) (ch_3_9_ok.2.2.2.2.2.2.2.2.2.2.1.1 rfl) (ch_3_9_ok.2.2.2.2.2.2.2.2.2.2.2.1.1 rfl)) rfl (by decide) D fun D => (q1 (s_sipush (n := 400) (v := 400) (by decide)) D fun D => (qB s_cmplt 42 (by decide) D (qC (s_new kX1 ot_X1 (ch_3_9_ok.2.2.2.2.2.2.2.2.2.2.2.2.2.1.1 rfl) (ch_3_9_ok.2.2.2.2.2.2.2.2.2.2.2.2.2.2.1.1 rfl) (ch_1_1_ok.2.2.1.1 rfl)) rfl D_X11_evening_42 fun D => (q1 s_dup D fun D => (q1 (s_aldn (n := 0) (i := 0) rfl) D fun D => (qC fl_X11_24 rfl D fun D => (q1 (s_ildn (n := 3) (i := 3) rfl) D fun D => (q1 (s_ildn (n := 2) (i := 2) rfl) D fun D => (qX (s_callI ok_X1_init mo_X1_init rfl rfl (ch_3_9_ok.2.2.2.2.2.2.2.2.2.2.2.2.2.2.2.1.1 rfl) (ch_3_10_ok.1.1 rfl)) rfl (by decide) D fun D => (qL s_ast (by decide) D fun D => (q1 (s_aldn (n := 0) (i := 0) rfl) D fun D => (qC fl_X11_37 rfl D fun D => (q1 s_ald D fun D => (qX (s_callV kX5 rfl ok_X5_lineUp mo_X5_lineUp (ch_3_13_ok.2.2.2.2.2.2.2.2.2.2.2.2.1.1 rfl) (ch_3_13_ok.2.2.2.2.2.2.2.2.2.2.2.2.2.1.1 rfl) (ch_3_13_ok.2.2.2.2.2.2.2.2.2.2.2.2.2.2.1.1 rfl)) rfl (by decide) D fun D => (q1 (s_aldn (n := 0) (i := 0) rfl) D fun D => (qC fl_X11_37 rfl D fun D => (q1 s_ald D fun D => (qX (s_callV kX5 rfl ok_X5_takeParties mo_X5_takeParties (ch_4_1_ok.2.2.2.2.2.2.1.1 rfl) (ch_4_1_ok.2.2.2.2.2.2.2.1.1 rfl) (ch_4_1_ok.2.2.2.2.2.2.2.2.1.1 rfl)) rfl (by decide) D fun D => (q1 (s_aldn (n := 0) (i := 0) rfl) D fun D => (qC fl_X11_37 rfl D fun D => (q1 s_ald D fun D => (qX (s_callV kX5 rfl ok_X5_settleParties mo_X5_settleParties (ch_4_7_ok.2.2.2.2.2.2.2.2.2.2.2.2.2.1.1 rfl) (ch_4_7_ok.2.2.2.2.2.2.2.2.2.2.2.2.2.2.1.1 rfl) (ch_4_7_ok.2.2.2.2.2.2.2.2.2.2.2.2.2.2.2.1.1 rfl)) rfl (by decide) D fun D => (q1 (s_aldn (n := 0) (i := 0) rfl) D fun D => (qC fl_X11_37 rfl D fun D => (q1 s_ald D fun D => (qX (s_callV kX5 rfl ok_X5_callHelpers mo_X5_callHelpers (ch_4_9_ok.2.1.1 rfl) (ch_4_9_ok.2.2.1.1 rfl) (ch_4_9_ok.2.2.2.1.1 rfl)) rfl (by decide) D fun D => (q1 (s_aldn (n := 0) (i := 0) rfl) D fun D => (qC fl_X11_37 rfl D fun D => (q1 s_ald D fun D => (qX (s_callV kX5 rfl ok_X5_closeDoor mo_X5_closeDoor (ch_4_10_ok.2.2.2.2.1.1 rfl) (ch_4_10_ok.2.2.2.2.2.1.1 rfl) (ch_4_10_ok.2.2.2.2.2.2.1.1 rfl)) rfl (by decide) D fun D => (q1 s_ald D fun D => (qC fl_X11_172 rfl D fun D => (qX (s_callS ok_J6_bitCount_0f7a4 mo_J6_bitCount_0f7a4 (ch_3_9_ok.2.2.2.1.1 rfl) (ch_3_9_ok.2.2.2.2.1.1 rfl)) rfl (by decide) D fun D => (qI rfl D)))))))))))))))))))))))))))))))) fun D => (q1 (s_iconst (n := (-1)) (v := (-1)) (by decide)) D fun D => (qI rfl D)))))))))))))))))))))

set_option maxRecDepth 100000 in
set_option maxHeartbeats 1000000 in
theorem xev_55 (Q : Option Value → Hp → Prop) (h : Hp) (hl : LayX h) (J : Mem) (R P H E Ln q np : Nat) (those cold door : Int32) (hc : cold = 0 ∨ cold = 1) (hs : ST h 3 12 J R P H E Ln q np) (hJ6 : J 44 56 = cold) (hE4 : E < 400) (h10 : pct those ≤ 10)
    (hq : ∀ h' N o T F w, N = (ordS J E Ln those cold P).1 → o = (ordS J E Ln those cold P).2 → T = evT J R P N o → F = evF J R P T → w = wnF (evR J T F P) T R → EvX h h' J (hT h) R P H E Ln N o T F (calF J H (E % 7) w) w those cold → Q (some (.int (nI (pct T)))) h') (h1 : Hp) (hb : BgP h h1 (hT h) R E those cold) : c_X11_evening_55 Q [some (.ref 0), some (.int door), some (.int cold), some (.int those), none] [.ref (hT h)] h1 := by
  have hlt := hs.lt
  obtain ⟨hlS, hq3, hrl, hrm, hpc, hnp, hhl, hrc, hjp, hE, h76, hnc, hltw⟩ := hs
  obtain ⟨jill, jslp, jsy, jtg, jns, _, _, _, _⟩ := hjp
  obtain ⟨n, hn⟩ : ∃ n, n = hT h := ⟨_, rfl⟩
  rw [← hn] at hb hq ⊢
  obtain ⟨b1, b2, b3, b4, b5, b6, b7, b8, b9, b10, b11, b12, b13, b14⟩ := hb
  have hn90 : 90 ≤ n := by rw [hn]; exact hl.1
  have hR4 := hrm.1
  have hP := hpc.1
  have hH := hhl.1
  -- the heap with the new Night
  have hl1 : LayX h1 := LayX_of hl (by omega) (fun a ha => (b3 a (by omega)).1) (fun a ha => (b3 a (by omega)).2.1) (fun a i ha _ _ => b4 a i (by omega))
  have r310 : hR h1 31 0 = some 3 := by simp only [lx_r hl1]
  have r330 : hR h1 33 0 = some 3 := by simp only [lx_r hl1]
  have r33 : hR h1 3 3 = some q := (b4 3 3 (by omega)).trans hq3
  have r34 : hR h1 3 4 = hR h 3 4 := b4 3 4 (by omega)
  have o1r : ∀ a, a < n → hI h1 a = hI h a := fun a ha => funext fun i => b7 a i ha
  have hqn : q + 7 < n := by rw [hn]; exact hrl.2.1
  have hq49 := hrl.1
  have hpc1 : PC (hI h1) 12 J P := PC_c (fun i i1 i2 => o1r (12 + i) (by omega)) hpc
  have hrm1 : RmC (hI h1) 12 J R := RmC_c (fun i i1 => o1r (12 + i) (by omega)) hrm
  have hhl1 : HlC (hI h1) 12 J H := HlC_c (fun i i1 i2 => o1r (12 + i) (by omega)) hhl
  have hrl1 : LayR h1 q := LayR_w hrl (by omega) (fun a ha => ⟨(b3 a (by omega)).1, (b3 a (by omega)).2.1⟩) (fun i => b4 q i (by omega))
  have hrc1 : RC (hI h1) q J Ln := RC_c (fun i i1 => o1r (q + i) (by omega)) hrc
  have hlt1 : LtC h1 J E := LtC_w r34 (by omega) (fun a ha => (b3 a (by omega)).1) (fun a i z1 z2 z3 => b7 a i (by omega)) hlt
  have hnn : ¬ hR h1 3 4 = some n := by
    rw [r34]
    intro z
    obtain ⟨_, e0, e1⟩ := hlt
    cases E with
    | zero => rw [e0 rfl] at z; cases z
    | succ e =>
      obtain ⟨m, c1, c2, _⟩ := e1 e rfl
      rw [c1] at z
      cases z
      omega
  have hli0 : LI (hI h1) (hI h1) J n E Ln those cold 0 := by
    refine ⟨b11 8 (by decide), ?_, fun j hj => absurd hj (Nat.not_lt_zero _), fun q hq => absurd hq (Nat.not_lt_zero _), fun _ _ => rfl, fun _ _ _ => rfl, fun _ _ _ _ _ _ => rfl⟩
    show hI h1 n 7 = amS _ 0
    rw [am0, b11 7 (by decide)]
  -- names
  obtain ⟨N, hN⟩ : ∃ N, N = (ordS J E Ln those cold P).1 := ⟨_, rfl⟩
  obtain ⟨o, ho⟩ : ∃ o, o = (ordS J E Ln those cold P).2 := ⟨_, rfl⟩
  have hN10 : N ≤ 10 := by rw [hN]; exact ordS_10 h10 (by omega)
  have hoP : ∀ j, j < N → o j < P := fun j hj => by
    rw [hN] at hj
    rw [ho]
    exact ((ordS_ok J E Ln those cold P).2 j hj).1
  obtain ⟨T, hT⟩ : ∃ T, T = evT J R P N o := ⟨_, rfl⟩
  obtain ⟨F, hF⟩ : ∃ F, F = evF J R P T := ⟨_, rfl⟩
  have hTP : ∀ i, bt T i = true → i < P := fun i hi => by
    rw [hT] at hi
    exact tkS_P hP jtg hoP N (Nat.le_refl _) i hi
  have hfit : Fit (rmI J 4 0) R T := by rw [hT]; exact tkS_fit J hR4 P (amS o N) o N
  have hFR : ∀ p, p < P → bt T p = true → F p < R := fun p hp hb => by
    obtain ⟨f, hO, hf⟩ := plF_ext hR4 hfit P
    rw [hF]
    show plF (rmI J 4 0) R T P p < R
    rw [← hf p hp hb]
    exact (hO.1 p hb).1
  -- after lineUp
  have hline : ∀ f2, LI (hI h1) f2 J n E Ln those cold P → c_X11_evening_66 Q [some (.ref 0), some (.int door), some (.int cold), some (.int those), some (.ref n)] [] (wI h1 f2) := by
    intro f2 hli
    obtain ⟨l1, l2, l3, l4, l5, l6, l7⟩ := hli
    rw [← hN] at l1 l2 l3
    rw [← ho] at l2 l3
    have o2r : ∀ a, a ≠ n → a ≠ n + 1 → a ≠ n + 2 → a ≠ 32 → f2 a = hI h1 a := fun a a1 a2 a3 a4 => funext fun i => l7 a i a1 a2 a3 a4
    -- Placer begins
    have l12 : f2 12 0 = nI R := by rw [o2r 12 (by omega) (by omega) (by omega) (by decide)]; exact hrm1.2.1
    have l3c : f2 n 3 = cold := (l6 3 (by decide) (by decide)).trans b10
    obtain ⟨g2, hg2⟩ : ∃ g2, g2 = bgF f2 cold R := ⟨_, rfl⟩
    have og : ∀ a, a ≠ 33 → a ≠ 41 → a ≠ 43 → g2 a = f2 a := fun a a1 a2 a3 => funext fun i => by
      rw [hg2]; unfold bgF
      rw [bgM_o _ _ ⟨a2, a3⟩, u2_ne (fun z => a1 z.1), u2_ne (fun z => a1 z.1)]
    have o2g : ∀ a, a ≠ n → a ≠ n + 1 → a ≠ n + 2 → a ≠ 32 → a ≠ 33 → a ≠ 41 → a ≠ 43 → g2 a = hI h1 a := fun a a1 a2 a3 a4 a5 a6 a7 => (og a a5 a6 a7).trans (o2r a a1 a2 a3 a4)
    have hpc2 : PC g2 12 J P := PC_c (fun i i1 i2 => o2g (12 + i) (by omega) (by omega) (by omega) (by omega) (by omega) (by omega) (by omega)) hpc1
    have hrm2 : RmC g2 12 J R := RmC_c (fun i i1 => o2g (12 + i) (by omega) (by omega) (by omega) (by omega) (by omega) (by omega) (by omega)) hrm1
    have hhl2 : HlC g2 12 J H := HlC_c (fun i i1 i2 => o2g (12 + i) (by omega) (by omega) (by omega) (by omega) (by omega) (by omega) (by omega)) hhl1
    have h32 : g2 33 1 = cold := by
      rw [hg2]; unfold bgF
      rw [bgM_o _ _ ⟨by decide, by decide⟩, u2_ne (by omega), u2_eq]
    have hec : EC g2 J R P := EC_of hrm2 hpc2 hc h32 hJ6
    have hil : ilOk g2 P := fun p hp => by
      have e : g2 19 p = J 57 p := (hpc2.2.2.2.1 p hp).2.2.1
      obtain ⟨c, hc3, ec⟩ := jill p hp
      rw [e, ec]
      exact nI_m1 c (by omega)
    have gn : g2 n = f2 n := og n (by omega) (by omega) (by omega)
    have gn1 : g2 (n + 1) = f2 (n + 1) := og (n + 1) (by omega) (by omega) (by omega)
    have gn2 : g2 (n + 2) = f2 (n + 2) := og (n + 2) (by omega) (by omega) (by omega)
    have htpre : TPre g2 J n R P N o := ⟨hR4, hP, hN10, hrm2.2.1, hpc2.2.1, hec, jsy, jtg, jns, hil, fun q hq => (hpc2.2.2.2.1 q hq).2.2.2.2.2.2.2.1, by rw [gn]; exact l1, fun j hj => ⟨by rw [gn1]; exact (l3 j hj).1, hoP j hj⟩, by rw [gn]; exact l2⟩
    have hti0 : TI g2 J n R P N o (capN J) 0 g2 := by
      refine TI_0 hR4 hrm2.2.1 ?_ ?_ hec (fun r hr => ?_) (fun r hr => ?_)
      · rw [hg2]; unfold bgF
        rw [bgM_o _ _ ⟨by decide, by decide⟩, u2_eq]
      · rw [gn, l6 4 (by decide) (by decide)]; exact b11 4 (by decide)
      · have e : g2 43 r = cpX (u2 (u2 f2 33 1 cold) 33 2 0) r := by
          rw [hg2]; unfold bgF bgM
          rw [if_neg (by omega), if_pos ⟨rfl, hr⟩]
        rw [e]
        unfold cpX
        rw [h32, og 13 (by decide) (by decide) (by decide), og 14 (by decide) (by decide) (by decide), u2_ne (by omega), u2_eq, u2_ne (by omega), u2_ne (by omega), u2_ne (by omega), u2_ne (by omega)]
      · rw [hg2]; unfold bgF bgM
        rw [if_pos ⟨rfl, hr⟩]
    -- after takeParties
    have htake : ∀ f3, TI g2 J n R P N o (capN J) N f3 → c_X11_evening_75 Q [some (.ref 0), some (.int door), some (.int cold), some (.int those), some (.ref n)] [] (wI h1 f3) := by
      intro f3 hti
      obtain ⟨m, sz, w, t1, t2, t3, t4, t5, t6, t7, t8, t9, t10, t11, t12, t13⟩ := hti
      have hTt : f3 n 4 = T := by rw [t2, hT]; rfl
      have hpc3 : PC f3 12 J P := PC_c (fun i i1 i2 => t1.1 (12 + i) (by omega)) hpc2
      have hrm3 : RmC f3 12 J R := RmC_c (fun i i1 => t1.1 (12 + i) (by omega)) hrm2
      have hhl3 : HlC f3 12 J H := HlC_c (fun i i1 i2 => t1.1 (12 + i) (by omega)) hhl2
      have hspre : SPre f3 J n R P T := ⟨hR4, hP, hrm3.2.1, hpc3.2.1, EC_c t1 hec, jsy, jtg, jns, ilOk_c t1 hil, fun p hp => ⟨(hpc3.2.2.2.1 p hp).2.2.2.2.2.1, jslp p hp⟩, hTt⟩
      have hTU : TU f3 m = T := by rw [t10, hT]; rfl
      -- after settleParties
      have hset : ∀ f4, SPost f3 J n R P T f4 → c_X11_evening_84 Q [some (.ref 0), some (.int door), some (.int cold), some (.int those), some (.ref n)] [] (wI h1 f4) := by
        intro f4 hsp
        obtain ⟨s1, s2, s3, s4, s5⟩ := hsp
        have s5' : ∀ r, r < R → ∀ x, bt (f4 (n + 3) r) x = true ↔ bt T x = true ∧ F x = r := fun r hr x => by rw [hF]; exact s5 r hr x
        have hhl4 : HlC f4 12 J H := HlC_c (fun i i1 i2 => s1.1 (12 + i) (by omega)) hhl3
        have hpc4 : PC f4 12 J P := PC_c (fun i i1 i2 => s1.1 (12 + i) (by omega)) hpc3
        have low4 : ∀ a, a < 32 → f4 a = hI h a := fun a ha => by rw [s1.1 a (by omega), t1.1 a (by omega), o2g a (by omega) (by omega) (by omega) (by omega) (by omega) (by omega) (by omega), o1r a (by omega)]
        have hi4 : ∀ a i, 43 < a → a < n → f4 a i = hI h a i := fun a i ha han => by
          rw [s2 a i (by omega) (by omega), t5 a i (by omega) (by omega) (by omega), o2g a (by omega) (by omega) (by omega) (by omega) (by omega) (by omega) (by omega), o1r a han]
        have n4 : ∀ i, i ≠ 4 → i ≠ 7 → i ≠ 8 → f4 n i = hI h1 n i := fun i i1 i2 i3 => by
          rw [s2 n i (by omega) (by omega), t3 i i1, gn, l6 i i2 i3]
        have n44 : f4 n 4 = T := by rw [s2 n 4 (by omega) (by omega)]; exact hTt
        have n48 : f4 n 8 = nI N := by rw [s2 n 8 (by omega) (by omega), t3 8 (by decide), gn]; exact l1
        have hlt4 : LtC (wI h1 f4) J E := LtC_c (fun a i z1 z2 => by
          have ha : a ≠ n := fun y => hnn (by rw [← y]; exact z1)
          have hf := b5.f
          have k1 : a ≠ n + 1 := fun y => by rw [y, hf.2.2.2.2.2.1] at z2; cases z2
          have k2 : a ≠ n + 2 := fun y => by rw [y, hf.2.2.2.2.2.2.1] at z2; cases z2
          have k3 : a ≠ n + 3 := fun y => by rw [y, hf.2.2.2.2.2.2.2.1] at z2; cases z2
          by_cases c32 : a < 32
          · rw [low4 a c32, b7 a i (by omega)]
          · have hlk1 := lx_k hl1
            have c43 : 43 < a := by
              apply Classical.byContradiction
              intro y
              have z : a = 33 ∨ a = 34 ∨ a = 35 ∨ a = 36 ∨ a = 37 ∨ a = 38 ∨ a = 39 ∨ a = 40 ∨ a = 41 ∨ a = 42 ∨ a = 43 ∨ a = 32 := by omega
              rcases z with rfl | rfl | rfl | rfl | rfl | rfl | rfl | rfl | rfl | rfl | rfl | rfl <;> simp only [hlk1, Nat.reduceEqDiff] at z2
            rw [s2 a i (by omega) k3, t5 a i (by omega) ha k2, o2g a ha k1 k2 (by omega) (by omega) (by omega) (by omega)]) hlt1
        have hw : wX f4 n T R = wnF (evR J T F P) T R := by
          have hrow : ∀ r, r < R → f4 (n + 3) r = evR J T F P 88 r := fun r hr => b_ext2 fun i hi => by
            rw [s5' r hr i]
            unfold evR
            rw [bt_plM _ _ _ _ P (by omega), rmI_0 J (by omega), b_0]
            simp only [Bool.false_or, Bool.and_eq_true, decide_eq_true_eq]
            exact ⟨fun z => ⟨hTP i z.1, z⟩, fun z => z.2⟩
          obtain ⟨Z, hZ⟩ : ∃ Z, Z = evR J T F P := ⟨_, rfl⟩
          rw [← hZ] at hrow ⊢
          have hsm : fb_sm (fun r => if f4 (n + 3) r = 0 then 0 else 1) R = fb_sm (fun r => if Z 88 r = 0 then 0 else 1) R := fb_sm_cong (fun r hr => by rw [hrow r hr])
          unfold wX wnF
          rw [hsm]
        obtain ⟨w, hww⟩ : ∃ w, w = wX f4 n T R := ⟨_, rfl⟩
        obtain ⟨C, hC⟩ : ∃ C, C = calF J H (E % 7) w := ⟨_, rfl⟩
        -- after callHelpers
        have hch : c_X11_evening_93 Q [some (.ref 0), some (.int door), some (.int cold), some (.int those), some (.ref n)] [] (wI h1 (chM f4 n C w)) := by
          have m16 : chM f4 n C w 16 0 = nI P := by rw [chM_o _ _ _ _ (by decide) (by decide) (by omega)]; exact hpc4.2.1
          have mn : ∀ i, i ≠ 5 → i ≠ 6 → chM f4 n C w n i = f4 n i := fun i i1 i2 => chM_o _ _ _ _ (by omega) (by omega) (fun _ => ⟨i1, i2⟩)
          have m3 : ∀ r, chM f4 n C w (n + 3) r = f4 (n + 3) r := fun r => chM_o _ _ _ _ (by omega) (by omega) (by omega)
          have hret : ∀ h', LayN h' n R → hI h' n 4 = T → Q (some (.int (nI (pct T)))) h' → c_X11_evening_102 Q [some (.ref 0), some (.int door), some (.int cold), some (.int those), some (.ref n)] [] h' := by
            intro h' ha hb' hgo
            have hf := ha.f
            simp only [c_X11_evening_102, i_push, i_ild, i_ald, i_ist, i_ast, i_inc, i_bin, i_un, i_divs, i_i2l, i_lshl, i_lor, i_dup, i_dup2, i_pop, i_if, i_cmp, i_nul, i_vret, i_iret, i_zret, i_aret, i_keep, keep, lget, lset, ent, i_getI, i_getJ, i_getR, i_getN, i_putI, i_putZ, i_putJ, i_putR, i_iald, i_bald, i_alen, i_aald, i_iast, i_bast, i_aast, i_new, i_newa, i_anew, i_oini, i_callS, i_callV, i_callI, popn, sh4, i_sw, swP, i_copy, i_binS, List.map, Option.toList_none, Option.toList_some, List.append, List.nil_append, List.cons_append, List.length_cons, List.length_nil, List.replicate, Nat.sub_self, Nat.reduceSub, Nat.reduceAdd, hK_pI, hL_pI, hI_pI, hR_pI, hJ_pI, hT_pI, hS_pI, hK_pR, hL_pR, hI_pR, hR_pR, hJ_pR, hT_pR, hS_pR, hK_pJ, hL_pJ, hI_pJ, hR_pJ, hJ_pJ, hT_pJ, hS_pJ, hK_wI, hL_wI, hI_wI, hR_wI, hJ_wI, hT_wI, hS_wI, eq_self, and_true, true_and, and_false, false_and, or_true, true_or, or_false, false_or, if_true, if_false, not_true_eq_false, not_false_eq_true, forall_const, implies_true, false_implies, true_implies, Option.some.injEq, forall_eq', exists_eq_left', reduceCtorEq, Nat.reduceEqDiff, c1, T_X12_in, T_X12_ones, T_X11_within, T_X11_bit, T_X11_isIn, T_X11_oneIfIn, T_J6_bitCount_0f7a4, hf, hb']
            exact hgo
          have hfin : ∀ h', h' = wI (pR (wI h1 (chM f4 n C w)) 3 4 (some n)) (cwM (cdM (chM f4 n C w) T those F P) E) → c_X11_evening_102 Q [some (.ref 0), some (.int door), some (.int cold), some (.int those), some (.ref n)] [] h' := by
            intro h' hh'
            have ir : ∀ a i, a ≠ 29 → a ≠ 20 → a ≠ 21 → a ≠ 22 → a ≠ 28 → (a = n → i ≠ 5 ∧ i ≠ 6) → hI h' a i = f4 a i := fun a i a1 a2 a3 a4 a5 a6 => by
              rw [hh']
              show cwM (cdM (chM f4 n C w) T those F P) E a i = _
              have e1 : cwM (cdM (chM f4 n C w) T those F P) E a i = cdM (chM f4 n C w) T those F P a i := by
                unfold cwM
                split
                · exact if_neg (fun z => a1 z.1)
                · rfl
              rw [e1, cdM_o _ _ _ _ _ a2 a3 a4, chM_o _ _ _ _ a5 a1 a6]
            refine hret h' (by rw [hh']; exact LayN.pR34 (show LayN (wI h1 (chM f4 n C w)) n R from b5) (some n)) (by rw [ir n 4 (by omega) (by omega) (by omega) (by omega) (by omega) (by omega)]; exact n44) (hq h' N o T F w hN ho hT hF (by rw [hww, hw]) ?_)
            rw [← hC]
            have hrr : ∀ a i, hR h' a i = if a = 3 ∧ i = 4 then some n else hR h1 a i := fun a i => by rw [hh']; rfl
            have hkk' : ∀ a, hK h' a = hK h1 a := fun a => by rw [hh']; rfl
            have hll' : ∀ a, hL h' a = hL h1 a := fun a => by rw [hh']; rfl
            refine ⟨⟨by rw [hh']; exact b1, by rw [hh']; exact b2, fun a ha => ⟨(hkk' a).trans (b3 a ha).1, (hll' a).trans (b3 a ha).2.1, by rw [hh']; exact (b3 a ha).2.2⟩, fun a i ha z3 => ?_, ?_, ?_, ?_⟩, fun a i ha hd => ?_, fun a i ha => ?_, fun i => ?_, fun i hi => ?_, ⟨?_, ?_, ?_, ?_, ?_, ?_, ?_⟩, fun j hj => ?_, fun p hp => ?_, fun p hp hp24 => ?_, fun r hr x => ?_⟩
            · rw [hrr, if_neg z3, b4 a i ha]
            · rw [hh']; exact LayN.pR34 (show LayN (wI h1 (chM f4 n C w)) n R from b5) (some n)
            · rw [hrr, if_neg (by omega)]; exact b6
            · rw [hrr, if_pos ⟨rfl, rfl⟩]
            · rw [ir a i (by omega) (by omega) (by omega) (by omega) (by omega) (by omega)]
              by_cases c32 : a < 32
              · rw [low4 a c32]
              · exact hi4 a i (by omega) ha
            · have e1 : hI h' a i = cdM (chM f4 n C w) T those F P a i := by
                rw [hh']
                show cwM (cdM (chM f4 n C w) T those F P) E a i = _
                unfold cwM
                split
                · exact if_neg (fun z => by omega)
                · rfl
              rw [e1]
              have ec : ∀ b, b = 20 ∨ b = 21 ∨ b = 22 → chM f4 n C w b i = hI h b i := fun b hb => by rw [chM_o _ _ _ _ (by omega) (by omega) (by omega), low4 b (by omega)]
              unfold cdM
              rw [ec 20 (by omega), ec 21 (by omega), ec a ha]
            · rw [hh']
              show cwM (cdM (chM f4 n C w) T those F P) E 28 i = _
              have e1 : cwM (cdM (chM f4 n C w) T those F P) E 28 i = cdM (chM f4 n C w) T those F P 28 i := by
                unfold cwM
                split
                · exact if_neg (fun z => by omega)
                · rfl
              rw [e1, cdM_o _ _ _ _ _ (by decide) (by decide) (by decide), chM_28, low4 28 (by decide)]
            · rw [hh']
              show cwM (cdM (chM f4 n C w) T those F P) E 29 i = _
              unfold cwM
              by_cases c : (E + 1) % 7 = 0
              · rw [if_pos c, if_pos c]
                exact if_pos ⟨rfl, hi⟩
              · rw [if_neg c, if_neg c, cdM_o _ _ _ _ _ (by decide) (by decide) (by decide), chM_29, low4 29 (by decide)]
            · rw [ir n 1 (by omega) (by omega) (by omega) (by omega) (by omega) (by omega), n4 1 (by decide) (by decide) (by decide)]; exact b8
            · rw [ir n 2 (by omega) (by omega) (by omega) (by omega) (by omega) (by omega), n4 2 (by decide) (by decide) (by decide)]; exact b9
            · rw [ir n 3 (by omega) (by omega) (by omega) (by omega) (by omega) (by omega), n4 3 (by decide) (by decide) (by decide)]; exact b10
            · rw [ir n 4 (by omega) (by omega) (by omega) (by omega) (by omega) (by omega)]; exact n44
            · rw [hh']
              show cwM (cdM (chM f4 n C w) T those F P) E n 5 = _
              have e1 : cwM (cdM (chM f4 n C w) T those F P) E n 5 = cdM (chM f4 n C w) T those F P n 5 := by
                unfold cwM
                split
                · exact if_neg (fun z => by omega)
                · rfl
              rw [e1, cdM_o _ _ _ _ _ (by omega) (by omega) (by omega), chM_5 _ _ _ _ hn90]
            · rw [hh']
              show cwM (cdM (chM f4 n C w) T those F P) E n 6 = _
              have e1 : cwM (cdM (chM f4 n C w) T those F P) E n 6 = cdM (chM f4 n C w) T those F P n 6 := by
                unfold cwM
                split
                · exact if_neg (fun z => by omega)
                · rfl
              rw [e1, cdM_o _ _ _ _ _ (by omega) (by omega) (by omega), chM_6 _ _ _ _ hn90]
            · rw [ir n 8 (by omega) (by omega) (by omega) (by omega) (by omega) (by omega)]; exact n48
            · rw [ir (n + 1) j (by omega) (by omega) (by omega) (by omega) (by omega) (by omega), s2 (n + 1) j (by omega) (by omega), t5 (n + 1) j (by omega) (by omega) (by omega), gn1]
              exact (l3 j hj).1
            · rw [ir (n + 2) p (by omega) (by omega) (by omega) (by omega) (by omega) (by omega), s2 (n + 2) p (by omega) (by omega), t4 p, gn2, l4 p hp]
              refine cif_c ?_ rfl rfl
              constructor
              · rintro ⟨j, _, _, hb, _⟩
                exact (b_amS hP hoP).mp hb
              · rintro ⟨j, hj, rfl⟩
                exact ⟨j, hj, Rch_rfl, (b_amS hP hoP).mpr ⟨j, hj, rfl⟩, by omega⟩
            · rw [ir (n + 2) p (by omega) (by omega) (by omega) (by omega) (by omega) (by omega), s2 (n + 2) p (by omega) (by omega), t4 p, cif_f (fun ⟨j, _, _, hb, _⟩ => by
                obtain ⟨i, hi, e⟩ := (b_amS hP hoP).mp hb
                have := hoP i hi
                omega), gn2, l5 p hp]
              exact b13 p hp24
            · rw [ir (n + 3) r (by omega) (by omega) (by omega) (by omega) (by omega) (by omega)]
              exact s5' r hr x
          have hcd : T_X5_closeDoor [.ref 31, .ref n] (wI h1 (chM f4 n C w)) (fun r h' => c_X11_evening_102 Q [some (.ref 0), some (.int door), some (.int cold), some (.int those), some (.ref n)] (r.toList ++ []) h') := by
            refine ⟨rfl, hl1, r310, n, R, P, E, T, those, F, rfl, b5, hR4, hP, m16, ?_, ?_, ?_, hE4, fun r p hr hp hb => ?_, hFR, hfin _ rfl⟩
            · exact (mn 4 (by decide) (by decide)).trans n44
            · exact (mn 2 (by decide) (by decide)).trans ((n4 2 (by decide) (by decide) (by decide)).trans b9)
            · exact (mn 1 (by decide) (by decide)).trans ((n4 1 (by decide) (by decide) (by decide)).trans b8)
            · have e3 : hI (wI h1 (chM f4 n C w)) (n + 3) r = f4 (n + 3) r := m3 r
              rw [e3, s5' r hr p]
              exact ⟨fun z => z.2, fun z => ⟨hb, z⟩⟩
          have hl5 : LayX (wI h1 (chM f4 n C w)) := hl1
          generalize wI h1 (chM f4 n C w) = X at hl5 hcd ⊢
          have hl := hl5
          simp only [c_X11_evening_93, lx_pI, lx_wI, lx_t hl, lx_k hl, lx_r hl, lx_l hl, i_push, i_ild, i_ald, i_ist, i_ast, i_inc, i_bin, i_un, i_divs, i_i2l, i_lshl, i_lor, i_dup, i_dup2, i_pop, i_if, i_cmp, i_nul, i_vret, i_iret, i_zret, i_aret, i_keep, keep, lget, lset, ent, i_getI, i_getJ, i_getR, i_getN, i_putI, i_putZ, i_putJ, i_putR, i_iald, i_bald, i_alen, i_aald, i_iast, i_bast, i_aast, i_new, i_newa, i_anew, i_oini, i_callS, i_callV, i_callI, popn, sh4, i_sw, swP, i_copy, i_binS, List.map, Option.toList_none, Option.toList_some, List.append, List.nil_append, List.cons_append, List.length_cons, List.length_nil, List.replicate, Nat.sub_self, Nat.reduceSub, Nat.reduceAdd, hK_pI, hL_pI, hI_pI, hR_pI, hJ_pI, hT_pI, hS_pI, hK_pR, hL_pR, hI_pR, hR_pR, hJ_pR, hT_pR, hS_pR, hK_pJ, hL_pJ, hI_pJ, hR_pJ, hJ_pJ, hT_pJ, hS_pJ, hK_wI, hL_wI, hI_wI, hR_wI, hJ_wI, hT_wI, hS_wI, eq_self, and_true, true_and, and_false, false_and, or_true, true_or, or_false, false_or, if_true, if_false, not_true_eq_false, not_false_eq_true, forall_const, implies_true, false_implies, true_implies, Option.some.injEq, forall_eq', exists_eq_left', reduceCtorEq, Nat.reduceEqDiff, c1, T_X12_in, T_X12_ones, T_X11_within, T_X11_bit, T_X11_isIn, T_X11_oneIfIn, T_J6_bitCount_0f7a4]
          exact hcd
        have hcall : T_X5_callHelpers [.ref 31, .ref n] (wI h1 f4) (fun r h' => c_X11_evening_93 Q [some (.ref 0), some (.int door), some (.int cold), some (.int those), some (.ref n)] (r.toList ++ []) h') := by
          refine ⟨rfl, hl1, r310, n, R, J, H, E, T, rfl, b5, hR4, n44, ?_, hH, hhl4.2.1, HC_of hhl4, hlt4, ?_⟩
          · exact (n4 5 (by decide) (by decide) (by decide)).trans (b11 5 (by decide))
          · have e : wX (hI (wI h1 f4)) n T R = w := hww.symm
            rw [e, ← hC]
            exact hch
        have hl4 : LayX (wI h1 f4) := hl1
        generalize wI h1 f4 = X at hl4 hcall ⊢
        have hl := hl4
        simp only [c_X11_evening_84, lx_pI, lx_wI, lx_t hl, lx_k hl, lx_r hl, lx_l hl, i_push, i_ild, i_ald, i_ist, i_ast, i_inc, i_bin, i_un, i_divs, i_i2l, i_lshl, i_lor, i_dup, i_dup2, i_pop, i_if, i_cmp, i_nul, i_vret, i_iret, i_zret, i_aret, i_keep, keep, lget, lset, ent, i_getI, i_getJ, i_getR, i_getN, i_putI, i_putZ, i_putJ, i_putR, i_iald, i_bald, i_alen, i_aald, i_iast, i_bast, i_aast, i_new, i_newa, i_anew, i_oini, i_callS, i_callV, i_callI, popn, sh4, i_sw, swP, i_copy, i_binS, List.map, Option.toList_none, Option.toList_some, List.append, List.nil_append, List.cons_append, List.length_cons, List.length_nil, List.replicate, Nat.sub_self, Nat.reduceSub, Nat.reduceAdd, hK_pI, hL_pI, hI_pI, hR_pI, hJ_pI, hT_pI, hS_pI, hK_pR, hL_pR, hI_pR, hR_pR, hJ_pR, hT_pR, hS_pR, hK_pJ, hL_pJ, hI_pJ, hR_pJ, hJ_pJ, hT_pJ, hS_pJ, hK_wI, hL_wI, hI_wI, hR_wI, hJ_wI, hT_wI, hS_wI, eq_self, and_true, true_and, and_false, false_and, or_true, true_or, or_false, false_or, if_true, if_false, not_true_eq_false, not_false_eq_true, forall_const, implies_true, false_implies, true_implies, Option.some.injEq, forall_eq', exists_eq_left', reduceCtorEq, Nat.reduceEqDiff, c1, T_X12_in, T_X12_ones, T_X11_within, T_X11_bit, T_X11_isIn, T_X11_oneIfIn, T_J6_bitCount_0f7a4]
        exact hcall
      have hsettle : T_X5_settleParties [.ref 31, .ref n] (wI h1 f3) (fun r h' => c_X11_evening_84 Q [some (.ref 0), some (.int door), some (.int cold), some (.int those), some (.ref n)] (r.toList ++ []) h') := ⟨rfl, hl1, r330, r310, n, J, R, P, m, sz, capN J, w, T, rfl, b5, hspre, t6, t7, t9, hTU, hset⟩
      have hl3 : LayX (wI h1 f3) := hl1
      generalize wI h1 f3 = X at hl3 hsettle ⊢
      have hl := hl3
      simp only [c_X11_evening_75, lx_pI, lx_wI, lx_t hl, lx_k hl, lx_r hl, lx_l hl, i_push, i_ild, i_ald, i_ist, i_ast, i_inc, i_bin, i_un, i_divs, i_i2l, i_lshl, i_lor, i_dup, i_dup2, i_pop, i_if, i_cmp, i_nul, i_vret, i_iret, i_zret, i_aret, i_keep, keep, lget, lset, ent, i_getI, i_getJ, i_getR, i_getN, i_putI, i_putZ, i_putJ, i_putR, i_iald, i_bald, i_alen, i_aald, i_iast, i_bast, i_aast, i_new, i_newa, i_anew, i_oini, i_callS, i_callV, i_callI, popn, sh4, i_sw, swP, i_copy, i_binS, List.map, Option.toList_none, Option.toList_some, List.append, List.nil_append, List.cons_append, List.length_cons, List.length_nil, List.replicate, Nat.sub_self, Nat.reduceSub, Nat.reduceAdd, hK_pI, hL_pI, hI_pI, hR_pI, hJ_pI, hT_pI, hS_pI, hK_pR, hL_pR, hI_pR, hR_pR, hJ_pR, hT_pR, hS_pR, hK_pJ, hL_pJ, hI_pJ, hR_pJ, hJ_pJ, hT_pJ, hS_pJ, hK_wI, hL_wI, hI_wI, hR_wI, hJ_wI, hT_wI, hS_wI, eq_self, and_true, true_and, and_false, false_and, or_true, true_or, or_false, false_or, if_true, if_false, not_true_eq_false, not_false_eq_true, forall_const, implies_true, false_implies, true_implies, Option.some.injEq, forall_eq', exists_eq_left', reduceCtorEq, Nat.reduceEqDiff, c1, T_X12_in, T_X12_ones, T_X11_within, T_X11_bit, T_X11_isIn, T_X11_oneIfIn, T_J6_bitCount_0f7a4]
      exact hsettle
    rw [hg2] at htpre hti0 htake
    have htpre' := htpre
    have hti0' := hti0
    have htake' := htake
    have htakeP : T_X5_takeParties [.ref 31, .ref n] (wI h1 f2) (fun r h' => c_X11_evening_75 Q [some (.ref 0), some (.int door), some (.int cold), some (.int those), some (.ref n)] (r.toList ++ []) h') := ⟨rfl, hl1, n, J, R, P, N, o, capN J, cold, rfl, b5, l3c, hc, hR4, l12, htpre', hti0', htake'⟩
    have hl2 : LayX (wI h1 f2) := hl1
    generalize wI h1 f2 = X at hl2 htakeP ⊢
    have hl := hl2
    simp only [c_X11_evening_66, lx_pI, lx_wI, lx_t hl, lx_k hl, lx_r hl, lx_l hl, i_push, i_ild, i_ald, i_ist, i_ast, i_inc, i_bin, i_un, i_divs, i_i2l, i_lshl, i_lor, i_dup, i_dup2, i_pop, i_if, i_cmp, i_nul, i_vret, i_iret, i_zret, i_aret, i_keep, keep, lget, lset, ent, i_getI, i_getJ, i_getR, i_getN, i_putI, i_putZ, i_putJ, i_putR, i_iald, i_bald, i_alen, i_aald, i_iast, i_bast, i_aast, i_new, i_newa, i_anew, i_oini, i_callS, i_callV, i_callI, popn, sh4, i_sw, swP, i_copy, i_binS, List.map, Option.toList_none, Option.toList_some, List.append, List.nil_append, List.cons_append, List.length_cons, List.length_nil, List.replicate, Nat.sub_self, Nat.reduceSub, Nat.reduceAdd, hK_pI, hL_pI, hI_pI, hR_pI, hJ_pI, hT_pI, hS_pI, hK_pR, hL_pR, hI_pR, hR_pR, hJ_pR, hT_pR, hS_pR, hK_pJ, hL_pJ, hI_pJ, hR_pJ, hJ_pJ, hT_pJ, hS_pJ, hK_wI, hL_wI, hI_wI, hR_wI, hJ_wI, hT_wI, hS_wI, eq_self, and_true, true_and, and_false, false_and, or_true, true_or, or_false, false_or, if_true, if_false, not_true_eq_false, not_false_eq_true, forall_const, implies_true, false_implies, true_implies, Option.some.injEq, forall_eq', exists_eq_left', reduceCtorEq, Nat.reduceEqDiff, c1, T_X12_in, T_X12_ones, T_X11_within, T_X11_bit, T_X11_isIn, T_X11_oneIfIn, T_J6_bitCount_0f7a4]
    exact htakeP
  have hlu : T_X5_lineUp [.ref 31, .ref n] h1 (fun r h' => c_X11_evening_66 Q [some (.ref 0), some (.int door), some (.int cold), some (.int those), some (.ref n)] (r.toList ++ []) h') := ⟨rfl, hl1, r310, n, R, q, J, P, E, Ln, those, cold, rfl, b5, hnn, b9, h10, b10, hc, r33, hrl1, hpc1, hlt1, hrc1, b13, hli0, hline⟩
  have hl := hl1
  simp only [c_X11_evening_55, lx_pI, lx_wI, lx_t hl, lx_k hl, lx_r hl, lx_l hl, i_push, i_ild, i_ald, i_ist, i_ast, i_inc, i_bin, i_un, i_divs, i_i2l, i_lshl, i_lor, i_dup, i_dup2, i_pop, i_if, i_cmp, i_nul, i_vret, i_iret, i_zret, i_aret, i_keep, keep, lget, lset, ent, i_getI, i_getJ, i_getR, i_getN, i_putI, i_putZ, i_putJ, i_putR, i_iald, i_bald, i_alen, i_aald, i_iast, i_bast, i_aast, i_new, i_newa, i_anew, i_oini, i_callS, i_callV, i_callI, popn, sh4, i_sw, swP, i_copy, i_binS, List.map, Option.toList_none, Option.toList_some, List.append, List.nil_append, List.cons_append, List.length_cons, List.length_nil, List.replicate, Nat.sub_self, Nat.reduceSub, Nat.reduceAdd, hK_pI, hL_pI, hI_pI, hR_pI, hJ_pI, hT_pI, hS_pI, hK_pR, hL_pR, hI_pR, hR_pR, hJ_pR, hT_pR, hS_pR, hK_pJ, hL_pJ, hI_pJ, hR_pJ, hJ_pJ, hT_pJ, hS_pJ, hK_wI, hL_wI, hI_wI, hR_wI, hJ_wI, hT_wI, hS_wI, eq_self, and_true, true_and, and_false, false_and, or_true, true_or, or_false, false_or, if_true, if_false, not_true_eq_false, not_false_eq_true, forall_const, implies_true, false_implies, true_implies, Option.some.injEq, forall_eq', exists_eq_left', reduceCtorEq, Nat.reduceEqDiff, c1, T_X12_in, T_X12_ones, T_X11_within, T_X11_bit, T_X11_isIn, T_X11_oneIfIn, T_J6_bitCount_0f7a4]
  exact hlu
set_option maxRecDepth 100000 in
set_option maxHeartbeats 4000000 in
theorem ok_X11_evening : ctr 23 MX11_evening T_X11_evening := by
  refine ctr_of pn_X11 wc_X11_evening (fun av h Q hT => ?_)
  unfold T_X11_evening at hT
  split at hT
  · rename_i a door cold
    refine ⟨⟨by simp [Value.category], Nat.le_of_ble_eq_true rfl⟩, s_X11_evening_0 Q _ _ _ ?_⟩
    obtain ⟨rfl, hl, hc, J, R, P, H, E, Ln, q, np, hs, hJ6, hq1, hq2⟩ := hT
    have hlt := hs.lt
    have hs' := hs
    obtain ⟨hlS, hq3, hrl, hrm, hpc, _⟩ := hs
    have hP := hpc.1
    have h16 : hI h 16 0 = nI P := hpc.2.1
    have hE400 := hlt.1
    have hb : (1 : Int32) <<< (nI P &&& 31) - 1 = bitI P - 1 := rfl
    obtain ⟨those, hth⟩ : ∃ t, t = door &&& (bitI P - 1) := ⟨_, rfl⟩
    rw [← hth] at hq1 hq2
    have hpl := pct_le those
    have h10 : (10 : Int32) < nI (pct those) ↔ 10 < pct those := nI_ltI (a := 10) (by decide) (by omega)
    have h400 : nI E < (400 : Int32) ↔ E < 400 := nI_ltI (b := 400) (by omega) (by decide)
    have h34 : pct those ≤ 10 → c_X11_evening_34 Q [some (.ref 0), some (.int door), some (.int cold), some (.int those), none] [.int (nI E)] h := fun z => by
      have hbg : E < 400 → T_X1_init [.ref (hT h), .ref 3, .int those, .int cold] (nC h 1 12) (fun r h' => c_X11_evening_55 Q [some (.ref 0), some (.int door), some (.int cold), some (.int those), none] (r.toList ++ [.ref (hT h)]) h') := fun y => ngt_go _ h (hT h) R E J those cold hl rfl hc hrm.1 hrm.2.1 hlt (fun h1 hb1 => xev_55 Q h hl J R P H E Ln q np those cold door hc hs' hJ6 y z (hq2 z y) h1 hb1)
      have hl2 := hl.nC 1 12
      simp only [c_X11_evening_34, lx_pI, lx_wI, lx_t hl, lx_k hl, lx_r hl, lx_l hl, lx_t hl2, lx_k hl2, lx_r hl2, i_push, i_ild, i_ald, i_ist, i_ast, i_inc, i_bin, i_un, i_divs, i_i2l, i_lshl, i_lor, i_dup, i_dup2, i_pop, i_if, i_cmp, i_nul, i_vret, i_iret, i_zret, i_aret, i_keep, keep, lget, lset, ent, i_getI, i_getJ, i_getR, i_getN, i_putI, i_putZ, i_putJ, i_putR, i_iald, i_bald, i_alen, i_aald, i_iast, i_bast, i_aast, i_new, i_newa, i_anew, i_oini, i_callS, i_callV, i_callI, popn, sh4, i_sw, swP, i_copy, i_binS, List.map, Option.toList_none, Option.toList_some, List.append, List.nil_append, List.cons_append, List.length_cons, List.length_nil, List.replicate, Nat.sub_self, Nat.reduceSub, Nat.reduceAdd, hK_pI, hL_pI, hI_pI, hR_pI, hJ_pI, hT_pI, hS_pI, hK_pR, hL_pR, hI_pR, hR_pR, hJ_pR, hT_pR, hS_pR, hK_pJ, hL_pJ, hI_pJ, hR_pJ, hJ_pJ, hT_pJ, hS_pJ, hK_wI, hL_wI, hI_wI, hR_wI, hJ_wI, hT_wI, hS_wI, eq_self, and_true, true_and, and_false, false_and, or_true, true_or, or_false, false_or, if_true, if_false, not_true_eq_false, not_false_eq_true, forall_const, implies_true, false_implies, true_implies, Option.some.injEq, forall_eq', exists_eq_left', reduceCtorEq, Nat.reduceEqDiff, c1, T_X12_in, T_X12_ones, T_X11_within, T_X11_bit, T_X11_isIn, T_X11_oneIfIn, T_J6_bitCount_0f7a4, h400, show fN 1 = 12 from rfl]
      exact ⟨fun y => hbg y, fun y => hq1 (Or.inr (by omega))⟩
    have hev := fun z => eve_go h hl J E hlt (fun r h' => c_X11_evening_34 Q [some (.ref 0), some (.int door), some (.int cold), some (.int those), none] (r.toList ++ []) h') (h34 z)
    simp only [MX11_evening, b_X11_evening_0, lx_pI, lx_wI, lx_t hl, lx_k hl, lx_r hl, lx_l hl, i_push, i_ild, i_ald, i_ist, i_ast, i_inc, i_bin, i_un, i_divs, i_i2l, i_lshl, i_lor, i_dup, i_dup2, i_pop, i_if, i_cmp, i_nul, i_vret, i_iret, i_zret, i_aret, i_keep, keep, lget, lset, ent, i_getI, i_getJ, i_getR, i_getN, i_putI, i_putZ, i_putJ, i_putR, i_iald, i_bald, i_alen, i_aald, i_iast, i_bast, i_aast, i_new, i_newa, i_anew, i_oini, i_callS, i_callV, i_callI, popn, sh4, i_sw, swP, i_copy, i_binS, List.map, Option.toList_none, Option.toList_some, List.append, List.nil_append, List.cons_append, List.length_cons, List.length_nil, List.replicate, Nat.sub_self, Nat.reduceSub, Nat.reduceAdd, hK_pI, hL_pI, hI_pI, hR_pI, hJ_pI, hT_pI, hS_pI, hK_pR, hL_pR, hI_pR, hR_pR, hJ_pR, hT_pR, hS_pR, hK_pJ, hL_pJ, hI_pJ, hR_pJ, hJ_pJ, hT_pJ, hS_pJ, hK_wI, hL_wI, hI_wI, hR_wI, hJ_wI, hT_wI, hS_wI, eq_self, and_true, true_and, and_false, false_and, or_true, true_or, or_false, false_or, if_true, if_false, not_true_eq_false, not_false_eq_true, forall_const, implies_true, false_implies, true_implies, Option.some.injEq, forall_eq', exists_eq_left', reduceCtorEq, Nat.reduceEqDiff, c1, T_X12_in, T_X12_ones, T_X11_within, T_X11_bit, T_X11_isIn, T_X11_oneIfIn, T_J6_bitCount_0f7a4, h16, hb, ← hth, h10]
    exact ⟨fun z => hq1 (Or.inl z), fun z => hev (by omega)⟩
  · exact hT.elim
