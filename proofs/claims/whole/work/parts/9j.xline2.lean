/-! ===== the class: an ACT, a LINE ===== -/
/-- k LINES were read; the parser stands at token s -/
def PEd (f0 f M : Mem) (y q N k s : Nat) : Prop := PO f0 f y q ∧ f y 1 = nI s ∧ s ≤ N ∧ f y 2 = M 44 45 ∧ (∀ l, l < k → l < 16 → LnC f M q l) ∧ (∀ l, k ≤ l → l < 16 → f (q + 1) l = 0) ∧ f q 0 = nI (lI k)
noncomputable def rA (B : Nat → Int32) (L l : Nat) (M : Mem) (t : Nat) : Bool × Mem × Nat :=
  if K B L t = 259 then
    (if K B L (t + 1) = 45 then
      (if K B L (t + 2) = 2 then (true, u2 (u2 M 84 l 0) 85 l (-(V B L (t + 2))), t + 3) else (false, pFail (u2 M 84 l 0) (nI (bgT B L (t + 2))), t + 2))
    else (if K B L (t + 1) = 2 then (true, u2 (u2 M 84 l 0) 85 l (V B L (t + 1)), t + 2) else (false, pFail (u2 M 84 l 0) (nI (bgT B L (t + 1))), t + 1)))
  else if K B L t = 260 then (true, u2 M 84 l 1, t + 1)
  else if K B L t = 261 then (true, u2 M 84 l 2, t + 1)
  else (false, pFail (u2 M 84 l (-1)) (nI (bgT B L t)), t)
theorem pA_rA (B : Nat → Int32) (L l k : Nat) (M : Mem) (t : Nat) : pA B L l k M t = if (rA B L l M t).1 = true then pA.pE B L k (rA B L l M t).2.1 (rA B L l M t).2.2 else rA B L l M t := by
  unfold pA rA
  by_cases c1 : K B L t = 259
  · rw [if_pos c1, if_pos c1]
    by_cases c2 : K B L (t + 1) = 45
    · rw [if_pos c2, if_pos c2]
      by_cases c3 : K B L (t + 2) = 2
      · rw [if_pos c3, if_pos c3, if_pos rfl]
      · rw [if_neg c3, if_neg c3, if_neg (fun z => by cases z)]
    · rw [if_neg c2, if_neg c2]
      by_cases c3 : K B L (t + 1) = 2
      · rw [if_pos c3, if_pos c3, if_pos rfl]
      · rw [if_neg c3, if_neg c3, if_neg (fun z => by cases z)]
  · rw [if_neg c1, if_neg c1]
    by_cases c2 : K B L t = 260
    · rw [if_pos c2, if_pos c2, if_pos rfl]
    · rw [if_neg c2, if_neg c2]
      by_cases c3 : K B L t = 261
      · rw [if_pos c3, if_pos c3, if_pos rfl]
      · rw [if_neg c3, if_neg c3, if_neg (fun z => by cases z)]
/-- a LINE is finished on both sides -/
theorem PSt_fin {f0 f M M' : Mem} {y q N k n s s2 : Nat} (hy : y + 1 = q) (hs : PSt f0 f M y q N k n s) (hs2 : s2 ≤ N) {a : Nat} (ha : a ≤ 2) {am : Int32} (hM1 : k < 16 → M' 84 k = nI a) (hM2 : k < 16 → a = 0 → M' 85 k = am) (hMo : ∀ b j, ¬ (b = 84 ∧ j = lI k) → ¬ (b = 85 ∧ j = lI k) → M' b j = M b j) {g : Mem} (hg : g = if k < 16 then u2 (u2 (u2 (u2 f y 1 (nI s2)) (q + 6) k (nI (a + 259))) (q + 7) k am) q 0 (nI (k + 1)) else u2 f y 1 (nI s2)) : PEd f0 g M' y q N (k + 1) s2 := by
  obtain ⟨p1, p2, p3, p4, p5, p6⟩ := hs
  have hm45 : M' 44 45 = M 44 45 := hMo 44 45 (by omega) (by omega)
  by_cases c : k < 16
  · have el : lI k = k := if_pos c
    rw [if_pos c] at hg
    rw [el] at hMo
    have go : ∀ b j, ¬ (b = y ∧ j = 1) → ¬ (b = q + 6 ∧ j = k) → ¬ (b = q + 7 ∧ j = k) → ¬ (b = q ∧ j = 0) → g b j = f b j := fun b j n1 n2 n3 n4 => by
      rw [hg, u2_ne n4, u2_ne n3, u2_ne n2, u2_ne n1]
    obtain ⟨q1, q2, q3⟩ := p5 c
    refine ⟨⟨fun b j b1 b2 => ?_, fun j j1 j2 => ?_⟩, ?_, hs2, ?_, fun l hl hl16 => ?_, fun l hl hl16 => ?_, ?_⟩
    · rw [go b j (by omega) (by omega) (by omega) (by omega)]; exact p1.1 b j b1 b2
    · rw [go y j (by omega) (by omega) (by omega) (by omega)]; exact p1.2 j j1 j2
    · rw [hg, u2_ne (by omega), u2_ne (by omega), u2_ne (by omega), u2_eq]
    · rw [go y 2 (by omega) (by omega) (by omega) (by omega), hm45]; exact p4
    · by_cases e : l = k
      · subst e
        refine ⟨⟨cap4 n, by unfold cap4; split <;> omega, ?_, ?_, fun t ht => ?_⟩, ⟨a, ha, hM1 c, ?_⟩, fun z => ?_⟩
        · rw [go _ _ (by omega) (by omega) (by omega) (by omega)]; exact q1
        · rw [hMo _ _ (by omega) (by omega)]; exact q2
        · have : t < 4 := by unfold cap4 at ht; split at ht <;> omega
          exact tsM_c (fun i i1 i2 => go _ _ (by omega) (by omega) (by omega) (by omega)) (fun b b1 b2 => hMo _ _ (by omega) (by omega)) (q3 t ht)
        · rw [hg, u2_ne (by omega), u2_ne (by omega), u2_eq]
        · have ez : a = 0 := by
            rw [hM1 c] at z
            exact (nI_inj (b := 0) (by omega) (by decide)).mp z
          rw [hM2 c ez, hg, u2_ne (by omega), u2_eq]
      · refine LnC_c (go _ _ (by omega) (by omega) (by omega) (by omega)) (go _ _ (by omega) (by omega) (by omega) (by omega)) (go _ _ (by omega) (by omega) (by omega) (by omega)) (fun i t t4 i1 i2 => go _ _ (by omega) (by omega) (by omega) (by omega)) (hMo _ _ (by omega) (by omega)) (hMo _ _ (by omega) (by omega)) (hMo _ _ (by omega) (by omega)) (fun b t t4 b1 b2 => hMo _ _ (by omega) (by omega)) (p6.1 l (by omega) hl16)
    · rw [go _ _ (by omega) (by omega) (by omega) (by omega)]; exact p6.2.1 l (by omega) hl16
    · rw [hg, u2_eq]
      unfold lI
      split
      · rfl
      · rw [show k + 1 = 16 by omega]
  · have el : lI k = 16 := if_neg c
    rw [if_neg c] at hg
    rw [el] at hMo
    have go : ∀ b j, ¬ (b = y ∧ j = 1) → g b j = f b j := fun b j n1 => by rw [hg, u2_ne n1]
    refine ⟨by rw [hg]; exact p1.at _, by rw [hg, u2_eq], hs2, ?_, fun l hl hl16 => ?_, fun l hl hl16 => by omega, ?_⟩
    · rw [go y 2 (by omega), hm45]; exact p4
    · refine LnC_c (go _ _ (by omega)) (go _ _ (by omega)) (go _ _ (by omega)) (fun i t t4 i1 i2 => go _ _ (by omega)) (hMo _ _ (by omega) (by omega)) (hMo _ _ (by omega) (by omega)) (hMo _ _ (by omega) (by omega)) (fun b t t4 b1 b2 => hMo _ _ (by omega) (by omega)) (p6.1 l (by omega) hl16)
    · rw [go _ _ (by omega), p6.2.2, el]
      unfold lI
      rw [if_neg (by omega)]
def T_X2_readAct : Tr := fun av h Q => match av with
  | [.ref y, .int x] => ∃ q z B L N f0 M k n s, PEn h y q z B L N f0 ∧ x = nI k ∧ k ≤ 1000 ∧ PSt f0 (hI h) M y q N k n s ∧ (∀ f', (rA B L (lI k) M s).1 = true → PEd f0 f' (rA B L (lI k) M s).2.1 y q N (k + 1) (rA B L (lI k) M s).2.2 → Q (some (.int 1)) (wI h f')) ∧ (∀ f', (rA B L (lI k) M s).1 = false → PO f0 f' y q → f' y 1 = nI (rA B L (lI k) M s).2.2 → (rA B L (lI k) M s).2.2 ≤ N → Q (some (.int 0)) (wI h f'))
  | _ => False
def L_X2_readAct : List UInt8 := [42, 182, 0, 32, 61, 42, 17, 1, 4, 182, 0, 53, 154, 0, 13, 42, 17, 1, 5, 182, 0, 53, 153, 0, 15, 42, 180, 0, 18, 27, 28, 3, 182, 0, 72, 4, 172, 42, 17, 1, 3, 182, 0, 53, 154, 0, 5, 3, 172, 42, 16, 45, 182, 0, 53, 153, 0, 7, 2, 167, 0, 4, 4, 62, 42, 180, 0, 28, 180, 0, 69, 42, 180, 0, 46, 46, 54, 4, 42, 5, 182, 0, 53, 154, 0, 5, 3, 172, 42, 180, 0, 18, 27, 28, 29, 21, 4, 104, 182, 0, 72, 4, 172]
theorem Lc_X2_readAct : MX2_readAct.2.1 = ⟨L_X2_readAct.toArray⟩ := rfl
theorem D_X2_readAct_0 : dseq MX2_readAct.2.1 0 [(.aload_n 0, 1), (.invokevirtual 32, 3), (.istore_n 2, 1), (.aload_n 0, 1), (.sipush 260, 3), (.invokevirtual 53, 3), (.ifCond .ne 13, 3), (.aload_n 0, 1), (.sipush 261, 3), (.invokevirtual 53, 3), (.ifCond .eq 15, 3)] := dq Lc_X2_readAct 0 _ (by decide +kernel)
theorem D_X2_readAct_37 : dseq MX2_readAct.2.1 37 [(.aload_n 0, 1), (.sipush 259, 3), (.invokevirtual 53, 3), (.ifCond .ne 5, 3), (.iconst 0, 1), (.ireturn, 1)] := dq Lc_X2_readAct 37 _ (by decide +kernel)
theorem D_X2_readAct_49 : dseq MX2_readAct.2.1 49 [(.aload_n 0, 1), (.bipush 45, 2), (.invokevirtual 53, 3), (.ifCond .eq 7, 3), (.iconst (-1), 1), (.goto 4, 3)] := dq Lc_X2_readAct 49 _ (by decide +kernel)
theorem D_X2_readAct_62 : dseq MX2_readAct.2.1 62 [(.iconst 1, 1)] := dq Lc_X2_readAct 62 _ (by decide +kernel)
theorem D_X2_readAct_25 : dseq MX2_readAct.2.1 25 [(.aload_n 0, 1), (.getfield 18, 3), (.iload_n 1, 1), (.iload_n 2, 1), (.iconst 0, 1), (.invokevirtual 72, 3), (.iconst 1, 1), (.ireturn, 1)] := dq Lc_X2_readAct 25 _ (by decide +kernel)
theorem D_X2_readAct_63 : dseq MX2_readAct.2.1 63 [(.istore_n 3, 1), (.aload_n 0, 1), (.getfield 28, 3), (.getfield 69, 3), (.aload_n 0, 1), (.getfield 46, 3), (.iaload, 1), (.istore 4, 2), (.aload_n 0, 1), (.iconst 2, 1), (.invokevirtual 53, 3), (.ifCond .ne 5, 3), (.iconst 0, 1), (.ireturn, 1)] := dq Lc_X2_readAct 63 _ (by decide +kernel)
theorem D_X2_readAct_88 : dseq MX2_readAct.2.1 88 [(.aload_n 0, 1), (.getfield 18, 3), (.iload_n 1, 1), (.iload_n 2, 1), (.iload_n 3, 1), (.iload 4, 2), (.imul, 1), (.invokevirtual 72, 3), (.iconst 1, 1), (.ireturn, 1)] := dq Lc_X2_readAct 88 _ (by decide +kernel)
def c_X2_readAct_55 (Q : Option Value → Hp → Prop) : Kt := i_if (fun x => x = 0) (i_push (.int 1) (i_keep [true, true, true, false, false] (wp 2 MX2_readAct Q 63))) (i_push (.int (-1)) (i_keep [true, true, true, false, false] (wp 2 MX2_readAct Q 63)))
def c_X2_readAct_44 (Q : Option Value → Hp → Prop) : Kt := i_if (fun x => x = 0) (i_push (.int 0) (i_zret Q)) (i_ald 0 (i_push (.int 45) (i_callV 2 1 T_X2_skip (c_X2_readAct_55 Q))))
def c_X2_readAct_22 (Q : Option Value → Hp → Prop) : Kt := i_if (fun x => x = 0) (i_ald 0 (i_push (.int 259) (i_callV 2 1 T_X2_skip (c_X2_readAct_44 Q)))) (i_keep [true, true, true, false, false] (wp 2 MX2_readAct Q 25))
def c_X2_readAct_12 (Q : Option Value → Hp → Prop) : Kt := i_if (fun x => x = 0) (i_ald 0 (i_push (.int 261) (i_callV 2 1 T_X2_skip (c_X2_readAct_22 Q)))) (i_keep [true, true, true, false, false] (wp 2 MX2_readAct Q 25))
def c_X2_readAct_4 (Q : Option Value → Hp → Prop) : Kt := i_ist 2 (i_ald 0 (i_push (.int 260) (i_callV 2 1 T_X2_skip (c_X2_readAct_12 Q))))
def c_X2_readAct_35 (Q : Option Value → Hp → Prop) : Kt := i_push (.int 1) (i_zret Q)
def c_X2_readAct_101 (Q : Option Value → Hp → Prop) : Kt := i_push (.int 1) (i_zret Q)
def c_X2_readAct_83 (Q : Option Value → Hp → Prop) : Kt := i_if (fun x => x = 0) (i_push (.int 0) (i_zret Q)) (i_ald 0 (i_getR 2 3 (i_ild 1 (i_ild 2 (i_ild 3 (i_ild 4 (i_bin (fun x y => x * y) (i_callV 7 3 T_X7_finishLine (c_X2_readAct_101 Q)))))))))
def b_X2_readAct_0 (Q : Option Value → Hp → Prop) : Kt := i_ald 0 (i_callV 2 0 T_X2_kind (c_X2_readAct_4 Q))
set_option maxRecDepth 100000 in
theorem s_X2_readAct_0 (Q : Option Value → Hp → Prop) : ∀ A st h, b_X2_readAct_0 Q A st h → wp 2 MX2_readAct Q 0 A st h := (q1 (s_aldn (n := 0) (i := 0) rfl) D_X2_readAct_0 fun D => (qX (s_callV kX2 rfl ok_X2_kind mo_X2_kind (ch_3_2_ok.2.2.2.2.2.2.2.2.1.1 rfl) (ch_3_2_ok.2.2.2.2.2.2.2.2.2.2.1.1 rfl) (pv_0.2.2.2.2.2.2.2.2.1)) rfl (by decide) D fun D => (qL (s_istn (n := 2) (i := 2) rfl) (by decide) D fun D => (q1 (s_aldn (n := 0) (i := 0) rfl) D fun D => (q1 (s_sipush (n := 260) (v := 260) (by decide)) D fun D => (qX (s_callV kX2 rfl ok_X2_skip mo_X2_skip (ch_3_3_ok.2.2.2.2.1.1 rfl) (ch_3_3_ok.2.2.2.2.2.2.1.1 rfl) (pv_0.2.2.2.2.2.2.2.2.2.2.2.1)) rfl (by decide) D fun D => (qBn s_ifne2 25 (by decide) D (s_keep [true, true, true, false, false] fun _ _ _ h => h) fun D => (q1 (s_aldn (n := 0) (i := 0) rfl) D fun D => (q1 (s_sipush (n := 261) (v := 261) (by decide)) D fun D => (qX (s_callV kX2 rfl ok_X2_skip mo_X2_skip (ch_3_3_ok.2.2.2.2.1.1 rfl) (ch_3_3_ok.2.2.2.2.2.2.1.1 rfl) (pv_0.2.2.2.2.2.2.2.2.2.2.2.1)) rfl (by decide) D fun D => (qB s_ifeq 37 (by decide) D (q1 (s_aldn (n := 0) (i := 0) rfl) D_X2_readAct_37 fun D => (q1 (s_sipush (n := 259) (v := 259) (by decide)) D fun D => (qX (s_callV kX2 rfl ok_X2_skip mo_X2_skip (ch_3_3_ok.2.2.2.2.1.1 rfl) (ch_3_3_ok.2.2.2.2.2.2.1.1 rfl) (pv_0.2.2.2.2.2.2.2.2.2.2.2.1)) rfl (by decide) D fun D => (qBn s_ifne2 49 (by decide) D (q1 (s_aldn (n := 0) (i := 0) rfl) D_X2_readAct_49 fun D => (q1 (s_bipush (n := 45) (v := 45) (by decide)) D fun D => (qX (s_callV kX2 rfl ok_X2_skip mo_X2_skip (ch_3_3_ok.2.2.2.2.1.1 rfl) (ch_3_3_ok.2.2.2.2.2.2.1.1 rfl) (pv_0.2.2.2.2.2.2.2.2.2.2.2.1)) rfl (by decide) D fun D => (qB s_ifeq 62 (by decide) D (q1 (s_iconst (n := 1) (v := 1) (by decide)) D_X2_readAct_62 fun D => (s_keep [true, true, true, false, false] fun _ _ _ h => h)) fun D => (q1 (s_iconst (n := (-1)) (v := (-1)) (by decide)) D fun D => (qG 63 (by decide) D (s_keep [true, true, true, false, false] fun _ _ _ h => h))))))) fun D => (q1 (s_iconst (n := 0) (v := 0) (by decide)) D fun D => (qZ rfl D)))))) fun D => (s_keep [true, true, true, false, false] fun _ _ _ h => h))))))))))))
def b_X2_readAct_25 (Q : Option Value → Hp → Prop) : Kt := i_ald 0 (i_getR 2 3 (i_ild 1 (i_ild 2 (i_push (.int 0) (i_callV 7 3 T_X7_finishLine (c_X2_readAct_35 Q))))))
set_option maxRecDepth 100000 in
theorem s_X2_readAct_25 (Q : Option Value → Hp → Prop) : ∀ A st h, b_X2_readAct_25 Q A st h → wp 2 MX2_readAct Q 25 A st h := (q1 (s_aldn (n := 0) (i := 0) rfl) D_X2_readAct_25 fun D => (qC fl_X2_18 rfl D fun D => (q1 (s_ildn (n := 1) (i := 1) rfl) D fun D => (q1 (s_ildn (n := 2) (i := 2) rfl) D fun D => (q1 (s_iconst (n := 0) (v := 0) (by decide)) D fun D => (qX (s_callV kX7 rfl ok_X7_finishLine mo_X7_finishLine (ch_3_4_ok.2.2.2.2.2.2.2.2.1.1 rfl) (ch_3_4_ok.2.2.2.2.2.2.2.2.2.1.1 rfl) (ch_3_4_ok.2.2.2.2.2.2.2.2.2.2.1.1 rfl)) rfl (by decide) D fun D => (q1 (s_iconst (n := 1) (v := 1) (by decide)) D fun D => (qZ rfl D))))))))
def b_X2_readAct_63 (Q : Option Value → Hp → Prop) : Kt := i_ist 3 (i_ald 0 (i_getR 2 0 (i_getR 10 4 (i_ald 0 (i_getI 2 1 (i_iald (i_ist 4 (i_ald 0 (i_push (.int 2) (i_callV 2 1 T_X2_skip (c_X2_readAct_83 Q)))))))))))
set_option maxRecDepth 100000 in
theorem s_X2_readAct_63 (Q : Option Value → Hp → Prop) : ∀ A st h, b_X2_readAct_63 Q A st h → wp 2 MX2_readAct Q 63 A st h := (qL (s_istn (n := 3) (i := 3) rfl) (by decide) D_X2_readAct_63 fun D => (q1 (s_aldn (n := 0) (i := 0) rfl) D fun D => (qC fl_X2_28 rfl D fun D => (qC fl_X2_69 rfl D fun D => (q1 (s_aldn (n := 0) (i := 0) rfl) D fun D => (qC fl_X2_46 rfl D fun D => (q1 s_iald D fun D => (qL s_ist (by decide) D fun D => (q1 (s_aldn (n := 0) (i := 0) rfl) D fun D => (q1 (s_iconst (n := 2) (v := 2) (by decide)) D fun D => (qX (s_callV kX2 rfl ok_X2_skip mo_X2_skip (ch_3_3_ok.2.2.2.2.1.1 rfl) (ch_3_3_ok.2.2.2.2.2.2.1.1 rfl) (pv_0.2.2.2.2.2.2.2.2.2.2.2.1)) rfl (by decide) D fun D => (qBn s_ifne2 88 (by decide) D (q1 (s_aldn (n := 0) (i := 0) rfl) D_X2_readAct_88 fun D => (qC fl_X2_18 rfl D fun D => (q1 (s_ildn (n := 1) (i := 1) rfl) D fun D => (q1 (s_ildn (n := 2) (i := 2) rfl) D fun D => (q1 (s_ildn (n := 3) (i := 3) rfl) D fun D => (q1 s_ild D fun D => (q1 s_mul D fun D => (qX (s_callV kX7 rfl ok_X7_finishLine mo_X7_finishLine (ch_3_4_ok.2.2.2.2.2.2.2.2.1.1 rfl) (ch_3_4_ok.2.2.2.2.2.2.2.2.2.1.1 rfl) (ch_3_4_ok.2.2.2.2.2.2.2.2.2.2.1.1 rfl)) rfl (by decide) D fun D => (q1 (s_iconst (n := 1) (v := 1) (by decide)) D fun D => (qZ rfl D)))))))))) fun D => (q1 (s_iconst (n := 0) (v := 0) (by decide)) D fun D => (qZ rfl D))))))))))))))

set_option maxRecDepth 100000 in
set_option maxHeartbeats 1000000 in
theorem xra_0 (Q : Option Value → Hp → Prop) (h : Hp) (y q z : Nat) (B : Nat → Int32) (L N : Nat) (f0 M : Mem) (k n s : Nat) (he : PEn h y q z B L N f0) (hk : k ≤ 1000) (hps : PSt f0 (hI h) M y q N k n s)
    (hq1 : ∀ f', (rA B L (lI k) M s).1 = true → PEd f0 f' (rA B L (lI k) M s).2.1 y q N (k + 1) (rA B L (lI k) M s).2.2 → Q (some (.int 1)) (wI h f'))
    (hq0 : ∀ f', (rA B L (lI k) M s).1 = false → PO f0 f' y q → f' y 1 = nI (rA B L (lI k) M s).2.2 → (rA B L (lI k) M s).2.2 ≤ N → Q (some (.int 0)) (wI h f')) : b_X2_readAct_0 Q [some (.ref y), some (.int (nI k)), none, none, none] [] h := by
  obtain ⟨⟨a1, a2, a3, a4⟩, z90, ey, eq⟩ := he.f
  have hlt := he.2.1
  have hlr := he.2.2.1
  have hL := he.2.2.2.2.2.2.2.2.1
  obtain ⟨p1, p2, p3, p4, p5, p6⟩ := id hps
  have htk := PO.tk he p1
  have hNL := htk.2.2.1
  have fo : ∀ s', PO f0 (u2 (hI h) y 1 (nI s')) y q := fun s' => p1.at _
  have f1 : ∀ s', u2 (hI h) y 1 (nI s') y 1 = nI s' := fun s' => u2_eq
  have ff : ∀ s' s2, u2 (u2 (hI h) y 1 (nI s')) y 1 (nI s2) = u2 (hI h) y 1 (nI s2) := fun s' s2 => u2_at _ _ _ _ _
  have fs : u2 (hI h) y 1 (nI s) = hI h := u2_id p2
  have hh : wI h (u2 (hI h) y 1 (nI s)) = h := by rw [fs]; rfl
  have sk : ∀ (s' : Nat) (c : Int32) (Q' : Option Value → Hp → Prop), s' ≤ N → ¬ c = 1 → (K B L s' = c → s' + 1 ≤ N → Q' (some (.int 1)) (wI h (u2 (hI h) y 1 (nI (s' + 1))))) → (¬ K B L s' = c → Q' (some (.int 0)) (wI h (u2 (hI h) y 1 (nI s')))) → T_X2_skip [.ref y, .int c] (wI h (u2 (hI h) y 1 (nI s'))) Q' := fun s' c Q' hs' hc h1 h0 => skip_go he (fo s') hs' (f1 s') hc (fun e1 e2 => by rw [ff]; exact h1 e1 e2) h0
  have b1 : ∀ g, y < hT (wI h g) := fun _ => a1
  have b2 : ∀ g, hK (wI h g) y = 2 := fun _ => a2
  have b3 : ∀ g, hR (wI h g) y 0 = some z := fun _ => a3
  have b4 : ∀ g, hR (wI h g) y 3 = some q := fun _ => a4
  -- the line is finished, from token s2
  have hfin : ∀ (s2 a : Nat) (am : Int32) (M' : Mem), s2 ≤ N → a ≤ 2 → (k < 16 → M' 84 k = nI a) → (k < 16 → a = 0 → M' 85 k = am) → (∀ b j, ¬ (b = 84 ∧ j = lI k) → ¬ (b = 85 ∧ j = lI k) → M' b j = M b j) → ∀ (Q' : Option Value → Hp → Prop), (∀ g, PEd f0 g M' y q N (k + 1) s2 → Q' none (wI h g)) → T_X7_finishLine [.ref q, .int (nI k), .int (nI (a + 259)), .int am] (wI h (u2 (hI h) y 1 (nI s2))) Q' := by
    intro s2 a am M' hs2 ha m1 m2 mo Q' hQ'
    have hres := fun (g : Mem) hg => hQ' g (PSt_fin (by omega) hps hs2 ha m1 m2 mo (g := g) hg)
    exact fin_go hlr (by omega) (fun c => hres _ (by rw [if_pos c])) (fun c => hres _ (by rw [if_neg c]))
  have lk : ∀ {k2 : Nat}, k2 < 16 → lI k2 = k2 := fun c => if_pos c
  -- 25: bar, last
  have h25 : ∀ a : Nat, (a = 1 ∨ a = 2) → K B L s = nI (a + 259) → s + 1 ≤ N → wp 2 MX2_readAct Q 25 [some (.ref y), some (.int (nI k)), some (.int (nI (a + 259))), none, none] [] (wI h (u2 (hI h) y 1 (nI (s + 1)))) := by
    intro a ha eK hN1
    have hr1 : rA B L (lI k) M s = (true, u2 M 84 (lI k) (nI a), s + 1) := by
      unfold rA
      rcases ha with e | e
      · subst e
        have eK2 : K B L s = 260 := eK
        rw [if_neg (by rw [eK2]; decide), if_pos eK2]; rfl
      · subst e
        have eK2 : K B L s = 261 := eK
        rw [if_neg (by rw [eK2]; decide), if_neg (by rw [eK2]; decide), if_pos eK2]; rfl
    have hcall := hfin (s + 1) a 0 (u2 M 84 (lI k) (nI a)) hN1 (by omega) (fun c => by rw [lk c, u2_eq]) (fun c e => by omega) (fun b j n1 n2 => u2_ne n1) (fun r h' => c_X2_readAct_35 Q [some (.ref y), some (.int (nI k)), some (.int (nI (a + 259))), none, none] (r.toList ++ []) h') (fun g hg => by
      have hgo := hq1 g (by rw [hr1]) (by rw [hr1]; exact hg)
      show c_X2_readAct_35 Q _ [] (wI h g)
      generalize wI h g = H at hgo ⊢
      simp only [c_X2_readAct_35, i_push, i_ild, i_ald, i_ist, i_ast, i_inc, i_bin, i_un, i_divs, i_i2l, i_lshl, i_lor, i_dup, i_dup2, i_pop, i_if, i_cmp, i_nul, i_vret, i_iret, i_zret, i_aret, i_keep, keep, lget, lset, ent, i_getI, i_getJ, i_getR, i_getN, i_putI, i_putZ, i_putJ, i_putR, i_iald, i_bald, i_alen, i_aald, i_iast, i_bast, i_aast, i_new, i_newa, i_anew, i_oini, i_callS, i_callV, i_callI, popn, sh4, i_sw, swP, i_copy, i_binS, List.map, Option.toList_none, Option.toList_some, List.append, List.nil_append, List.cons_append, List.length_cons, List.length_nil, List.replicate, Nat.sub_self, Nat.reduceSub, Nat.reduceAdd, hK_pI, hL_pI, hI_pI, hR_pI, hJ_pI, hT_pI, hS_pI, hK_pR, hL_pR, hI_pR, hR_pR, hJ_pR, hT_pR, hS_pR, hK_pJ, hL_pJ, hI_pJ, hR_pJ, hJ_pJ, hT_pJ, hS_pJ, hK_wI, hL_wI, hI_wI, hR_wI, hJ_wI, hT_wI, hS_wI, eq_self, and_true, true_and, and_false, false_and, or_true, true_or, or_false, false_or, if_true, if_false, not_true_eq_false, not_false_eq_true, forall_const, implies_true, false_implies, true_implies, Option.some.injEq, forall_eq', exists_eq_left', reduceCtorEq, Nat.reduceEqDiff, c1, T_X12_in, T_X12_ones, T_X11_within, T_X11_bit, T_X11_isIn, T_X11_oneIfIn, T_J6_bitCount_0f7a4]
      exact hgo)
    have c1 := b1 (u2 (hI h) y 1 (nI (s + 1)))
    have c2 := b2 (u2 (hI h) y 1 (nI (s + 1)))
    have c4 := b4 (u2 (hI h) y 1 (nI (s + 1)))
    have hlr2 : LayR (wI h (u2 (hI h) y 1 (nI (s + 1)))) q := hlr
    refine s_X2_readAct_25 Q _ _ _ ?_
    generalize wI h (u2 (hI h) y 1 (nI (s + 1))) = H at c1 c2 c4 hlr2 hcall ⊢
    have hf := hlr2.f
    simp only [b_X2_readAct_25, i_push, i_ild, i_ald, i_ist, i_ast, i_inc, i_bin, i_un, i_divs, i_i2l, i_lshl, i_lor, i_dup, i_dup2, i_pop, i_if, i_cmp, i_nul, i_vret, i_iret, i_zret, i_aret, i_keep, keep, lget, lset, ent, i_getI, i_getJ, i_getR, i_getN, i_putI, i_putZ, i_putJ, i_putR, i_iald, i_bald, i_alen, i_aald, i_iast, i_bast, i_aast, i_new, i_newa, i_anew, i_oini, i_callS, i_callV, i_callI, popn, sh4, i_sw, swP, i_copy, i_binS, List.map, Option.toList_none, Option.toList_some, List.append, List.nil_append, List.cons_append, List.length_cons, List.length_nil, List.replicate, Nat.sub_self, Nat.reduceSub, Nat.reduceAdd, hK_pI, hL_pI, hI_pI, hR_pI, hJ_pI, hT_pI, hS_pI, hK_pR, hL_pR, hI_pR, hR_pR, hJ_pR, hT_pR, hS_pR, hK_pJ, hL_pJ, hI_pJ, hR_pJ, hJ_pJ, hT_pJ, hS_pJ, hK_wI, hL_wI, hI_wI, hR_wI, hJ_wI, hT_wI, hS_wI, eq_self, and_true, true_and, and_false, false_and, or_true, true_or, or_false, false_or, if_true, if_false, not_true_eq_false, not_false_eq_true, forall_const, implies_true, false_implies, true_implies, Option.some.injEq, forall_eq', exists_eq_left', reduceCtorEq, Nat.reduceEqDiff, c1, T_X12_in, T_X12_ones, T_X11_within, T_X11_bit, T_X11_isIn, T_X11_oneIfIn, T_J6_bitCount_0f7a4, c1, c2, c4, hf]
    exact hcall
  -- 63: the number, from token u; d is the direction
  have h63 : ∀ (u : Nat) (d : Int32), u ≤ N → (¬ K B L u = 2 → rA B L (lI k) M s = (false, pFail (u2 M 84 (lI k) 0) (nI (bgT B L u)), u)) → (K B L u = 2 → rA B L (lI k) M s = (true, u2 (u2 M 84 (lI k) 0) 85 (lI k) (d * V B L u), u + 1)) → wp 2 MX2_readAct Q 63 [some (.ref y), some (.int (nI k)), some (.int 259), none, none] [.int d] (wI h (u2 (hI h) y 1 (nI u))) := by
    intro u d huN hno hyes
    have hval : hI (wI h (u2 (hI h) y 1 (nI u))) (z + 3) u = hI h (z + 3) u := u2_ne (by omega)
    have hv2 : K B L u = 2 → hI h (z + 3) u = V B L u := (htk.2.2.2.2 u huN).2.2
    have hsk : T_X2_skip [.ref y, .int 2] (wI h (u2 (hI h) y 1 (nI u))) (fun r h' => c_X2_readAct_83 Q [some (.ref y), some (.int (nI k)), some (.int 259), some (.int d), some (.int (hI h (z + 3) u))] (r.toList ++ []) h') := by
      refine sk u 2 _ huN (by decide) (fun c cN => ?_) (fun c => ?_)
      · have hr1 := hyes c
        have hcall := hfin (u + 1) 0 (d * V B L u) (u2 (u2 M 84 (lI k) 0) 85 (lI k) (d * V B L u)) cN (by omega) (fun c => by rw [lk c, u2_ne (by omega), u2_eq]; rfl) (fun c _ => by rw [lk c, u2_eq]) (fun b j n1 n2 => by rw [u2_ne n2, u2_ne n1]) (fun r h' => c_X2_readAct_101 Q [some (.ref y), some (.int (nI k)), some (.int 259), some (.int d), some (.int (V B L u))] (r.toList ++ []) h') (fun g hg => by
          have hgo := hq1 g (by rw [hr1]) (by rw [hr1]; exact hg)
          show c_X2_readAct_101 Q _ [] (wI h g)
          generalize wI h g = H at hgo ⊢
          simp only [c_X2_readAct_101, i_push, i_ild, i_ald, i_ist, i_ast, i_inc, i_bin, i_un, i_divs, i_i2l, i_lshl, i_lor, i_dup, i_dup2, i_pop, i_if, i_cmp, i_nul, i_vret, i_iret, i_zret, i_aret, i_keep, keep, lget, lset, ent, i_getI, i_getJ, i_getR, i_getN, i_putI, i_putZ, i_putJ, i_putR, i_iald, i_bald, i_alen, i_aald, i_iast, i_bast, i_aast, i_new, i_newa, i_anew, i_oini, i_callS, i_callV, i_callI, popn, sh4, i_sw, swP, i_copy, i_binS, List.map, Option.toList_none, Option.toList_some, List.append, List.nil_append, List.cons_append, List.length_cons, List.length_nil, List.replicate, Nat.sub_self, Nat.reduceSub, Nat.reduceAdd, hK_pI, hL_pI, hI_pI, hR_pI, hJ_pI, hT_pI, hS_pI, hK_pR, hL_pR, hI_pR, hR_pR, hJ_pR, hT_pR, hS_pR, hK_pJ, hL_pJ, hI_pJ, hR_pJ, hJ_pJ, hT_pJ, hS_pJ, hK_wI, hL_wI, hI_wI, hR_wI, hJ_wI, hT_wI, hS_wI, eq_self, and_true, true_and, and_false, false_and, or_true, true_or, or_false, false_or, if_true, if_false, not_true_eq_false, not_false_eq_true, forall_const, implies_true, false_implies, true_implies, Option.some.injEq, forall_eq', exists_eq_left', reduceCtorEq, Nat.reduceEqDiff, c1, T_X12_in, T_X12_ones, T_X11_within, T_X11_bit, T_X11_isIn, T_X11_oneIfIn, T_J6_bitCount_0f7a4]
          exact hgo)
        show c_X2_readAct_83 Q _ [.int 1] (wI h (u2 (hI h) y 1 (nI (u + 1))))
        rw [hv2 c]
        have c1 := b1 (u2 (hI h) y 1 (nI (u + 1)))
        have c2 := b2 (u2 (hI h) y 1 (nI (u + 1)))
        have c4 := b4 (u2 (hI h) y 1 (nI (u + 1)))
        have hlr2 : LayR (wI h (u2 (hI h) y 1 (nI (u + 1)))) q := hlr
        generalize wI h (u2 (hI h) y 1 (nI (u + 1))) = H at c1 c2 c4 hlr2 hcall ⊢
        generalize V B L u = X at hcall ⊢
        have hf := hlr2.f
        simp only [c_X2_readAct_83, i_push, i_ild, i_ald, i_ist, i_ast, i_inc, i_bin, i_un, i_divs, i_i2l, i_lshl, i_lor, i_dup, i_dup2, i_pop, i_if, i_cmp, i_nul, i_vret, i_iret, i_zret, i_aret, i_keep, keep, lget, lset, ent, i_getI, i_getJ, i_getR, i_getN, i_putI, i_putZ, i_putJ, i_putR, i_iald, i_bald, i_alen, i_aald, i_iast, i_bast, i_aast, i_new, i_newa, i_anew, i_oini, i_callS, i_callV, i_callI, popn, sh4, i_sw, swP, i_copy, i_binS, List.map, Option.toList_none, Option.toList_some, List.append, List.nil_append, List.cons_append, List.length_cons, List.length_nil, List.replicate, Nat.sub_self, Nat.reduceSub, Nat.reduceAdd, hK_pI, hL_pI, hI_pI, hR_pI, hJ_pI, hT_pI, hS_pI, hK_pR, hL_pR, hI_pR, hR_pR, hJ_pR, hT_pR, hS_pR, hK_pJ, hL_pJ, hI_pJ, hR_pJ, hJ_pJ, hT_pJ, hS_pJ, hK_wI, hL_wI, hI_wI, hR_wI, hJ_wI, hT_wI, hS_wI, eq_self, and_true, true_and, and_false, false_and, or_true, true_or, or_false, false_or, if_true, if_false, not_true_eq_false, not_false_eq_true, forall_const, implies_true, false_implies, true_implies, Option.some.injEq, forall_eq', exists_eq_left', reduceCtorEq, Nat.reduceEqDiff, c1, T_X12_in, T_X12_ones, T_X11_within, T_X11_bit, T_X11_isIn, T_X11_oneIfIn, T_J6_bitCount_0f7a4, c1, c2, c4, hf, show ¬ (1 : Int32) = 0 by decide]
        exact hcall
      · have hr1 := hno c
        have hgo := hq0 (u2 (hI h) y 1 (nI u)) (by rw [hr1]) (fo _) (by rw [hr1]; exact f1 _) (by rw [hr1]; exact huN)
        show c_X2_readAct_83 Q _ [.int 0] (wI h (u2 (hI h) y 1 (nI u)))
        generalize wI h (u2 (hI h) y 1 (nI u)) = H at hgo ⊢
        simp only [c_X2_readAct_83, i_push, i_ild, i_ald, i_ist, i_ast, i_inc, i_bin, i_un, i_divs, i_i2l, i_lshl, i_lor, i_dup, i_dup2, i_pop, i_if, i_cmp, i_nul, i_vret, i_iret, i_zret, i_aret, i_keep, keep, lget, lset, ent, i_getI, i_getJ, i_getR, i_getN, i_putI, i_putZ, i_putJ, i_putR, i_iald, i_bald, i_alen, i_aald, i_iast, i_bast, i_aast, i_new, i_newa, i_anew, i_oini, i_callS, i_callV, i_callI, popn, sh4, i_sw, swP, i_copy, i_binS, List.map, Option.toList_none, Option.toList_some, List.append, List.nil_append, List.cons_append, List.length_cons, List.length_nil, List.replicate, Nat.sub_self, Nat.reduceSub, Nat.reduceAdd, hK_pI, hL_pI, hI_pI, hR_pI, hJ_pI, hT_pI, hS_pI, hK_pR, hL_pR, hI_pR, hR_pR, hJ_pR, hT_pR, hS_pR, hK_pJ, hL_pJ, hI_pJ, hR_pJ, hJ_pJ, hT_pJ, hS_pJ, hK_wI, hL_wI, hI_wI, hR_wI, hJ_wI, hT_wI, hS_wI, eq_self, and_true, true_and, and_false, false_and, or_true, true_or, or_false, false_or, if_true, if_false, not_true_eq_false, not_false_eq_true, forall_const, implies_true, false_implies, true_implies, Option.some.injEq, forall_eq', exists_eq_left', reduceCtorEq, Nat.reduceEqDiff, c1, T_X12_in, T_X12_ones, T_X11_within, T_X11_bit, T_X11_isIn, T_X11_oneIfIn, T_J6_bitCount_0f7a4]
        exact hgo
    have c1 := b1 (u2 (hI h) y 1 (nI u))
    have c2 := b2 (u2 (hI h) y 1 (nI u))
    have c3 := b3 (u2 (hI h) y 1 (nI u))
    have e1 : hI (wI h (u2 (hI h) y 1 (nI u))) y 1 = nI u := f1 _
    have hlt2 : LayT (wI h (u2 (hI h) y 1 (nI u))) z L := hlt
    refine s_X2_readAct_63 Q _ _ _ ?_
    generalize wI h (u2 (hI h) y 1 (nI u)) = H at c1 c2 c3 e1 hlt2 hval hsk ⊢
    have hf := hlt2.f
    simp only [b_X2_readAct_63, i_push, i_ild, i_ald, i_ist, i_ast, i_inc, i_bin, i_un, i_divs, i_i2l, i_lshl, i_lor, i_dup, i_dup2, i_pop, i_if, i_cmp, i_nul, i_vret, i_iret, i_zret, i_aret, i_keep, keep, lget, lset, ent, i_getI, i_getJ, i_getR, i_getN, i_putI, i_putZ, i_putJ, i_putR, i_iald, i_bald, i_alen, i_aald, i_iast, i_bast, i_aast, i_new, i_newa, i_anew, i_oini, i_callS, i_callV, i_callI, popn, sh4, i_sw, swP, i_copy, i_binS, List.map, Option.toList_none, Option.toList_some, List.append, List.nil_append, List.cons_append, List.length_cons, List.length_nil, List.replicate, Nat.sub_self, Nat.reduceSub, Nat.reduceAdd, hK_pI, hL_pI, hI_pI, hR_pI, hJ_pI, hT_pI, hS_pI, hK_pR, hL_pR, hI_pR, hR_pR, hJ_pR, hT_pR, hS_pR, hK_pJ, hL_pJ, hI_pJ, hR_pJ, hJ_pJ, hT_pJ, hS_pJ, hK_wI, hL_wI, hI_wI, hR_wI, hJ_wI, hT_wI, hS_wI, eq_self, and_true, true_and, and_false, false_and, or_true, true_or, or_false, false_or, if_true, if_false, not_true_eq_false, not_false_eq_true, forall_const, implies_true, false_implies, true_implies, Option.some.injEq, forall_eq', exists_eq_left', reduceCtorEq, Nat.reduceEqDiff, c1, T_X12_in, T_X12_ones, T_X11_within, T_X11_bit, T_X11_isIn, T_X11_oneIfIn, T_J6_bitCount_0f7a4, c1, c2, c3, e1, hf, cl_nI (show u < 2147483648 by omega), in_nI (show u < L + 1 by omega) (by omega), hval]
    exact hsk
  -- add
  have g55 : K B L s = 259 → s + 1 ≤ N → T_X2_skip [.ref y, .int 45] (wI h (u2 (hI h) y 1 (nI (s + 1)))) (fun r h' => c_X2_readAct_55 Q [some (.ref y), some (.int (nI k)), some (.int 259), none, none] (r.toList ++ []) h') := fun e hN1 => by
    refine sk (s + 1) 45 _ hN1 (by decide) (fun c cN => ?_) (fun c => ?_)
    · have hgo := h63 (s + 2) (-1) cN (fun w => by unfold rA; rw [if_pos e, if_pos c, if_neg w]) (fun w => by unfold rA; rw [if_pos e, if_pos c, if_pos w, show (-1 : Int32) * V B L (s + 2) = -(V B L (s + 2)) by rw [Int32.neg_mul, Int32.one_mul]])
      show c_X2_readAct_55 Q _ [.int 1] (wI h (u2 (hI h) y 1 (nI (s + 2))))
      generalize wI h (u2 (hI h) y 1 (nI (s + 2))) = H at hgo ⊢
      simp only [c_X2_readAct_55, i_push, i_ild, i_ald, i_ist, i_ast, i_inc, i_bin, i_un, i_divs, i_i2l, i_lshl, i_lor, i_dup, i_dup2, i_pop, i_if, i_cmp, i_nul, i_vret, i_iret, i_zret, i_aret, i_keep, keep, lget, lset, ent, i_getI, i_getJ, i_getR, i_getN, i_putI, i_putZ, i_putJ, i_putR, i_iald, i_bald, i_alen, i_aald, i_iast, i_bast, i_aast, i_new, i_newa, i_anew, i_oini, i_callS, i_callV, i_callI, popn, sh4, i_sw, swP, i_copy, i_binS, List.map, Option.toList_none, Option.toList_some, List.append, List.nil_append, List.cons_append, List.length_cons, List.length_nil, List.replicate, Nat.sub_self, Nat.reduceSub, Nat.reduceAdd, hK_pI, hL_pI, hI_pI, hR_pI, hJ_pI, hT_pI, hS_pI, hK_pR, hL_pR, hI_pR, hR_pR, hJ_pR, hT_pR, hS_pR, hK_pJ, hL_pJ, hI_pJ, hR_pJ, hJ_pJ, hT_pJ, hS_pJ, hK_wI, hL_wI, hI_wI, hR_wI, hJ_wI, hT_wI, hS_wI, eq_self, and_true, true_and, and_false, false_and, or_true, true_or, or_false, false_or, if_true, if_false, not_true_eq_false, not_false_eq_true, forall_const, implies_true, false_implies, true_implies, Option.some.injEq, forall_eq', exists_eq_left', reduceCtorEq, Nat.reduceEqDiff, c1, T_X12_in, T_X12_ones, T_X11_within, T_X11_bit, T_X11_isIn, T_X11_oneIfIn, T_J6_bitCount_0f7a4, show ¬ (1 : Int32) = 0 by decide]
      exact hgo
    · have hgo := h63 (s + 1) 1 hN1 (fun w => by unfold rA; rw [if_pos e, if_neg c, if_neg w]) (fun w => by unfold rA; rw [if_pos e, if_neg c, if_pos w, Int32.one_mul])
      show c_X2_readAct_55 Q _ [.int 0] (wI h (u2 (hI h) y 1 (nI (s + 1))))
      generalize wI h (u2 (hI h) y 1 (nI (s + 1))) = H at hgo ⊢
      simp only [c_X2_readAct_55, i_push, i_ild, i_ald, i_ist, i_ast, i_inc, i_bin, i_un, i_divs, i_i2l, i_lshl, i_lor, i_dup, i_dup2, i_pop, i_if, i_cmp, i_nul, i_vret, i_iret, i_zret, i_aret, i_keep, keep, lget, lset, ent, i_getI, i_getJ, i_getR, i_getN, i_putI, i_putZ, i_putJ, i_putR, i_iald, i_bald, i_alen, i_aald, i_iast, i_bast, i_aast, i_new, i_newa, i_anew, i_oini, i_callS, i_callV, i_callI, popn, sh4, i_sw, swP, i_copy, i_binS, List.map, Option.toList_none, Option.toList_some, List.append, List.nil_append, List.cons_append, List.length_cons, List.length_nil, List.replicate, Nat.sub_self, Nat.reduceSub, Nat.reduceAdd, hK_pI, hL_pI, hI_pI, hR_pI, hJ_pI, hT_pI, hS_pI, hK_pR, hL_pR, hI_pR, hR_pR, hJ_pR, hT_pR, hS_pR, hK_pJ, hL_pJ, hI_pJ, hR_pJ, hJ_pJ, hT_pJ, hS_pJ, hK_wI, hL_wI, hI_wI, hR_wI, hJ_wI, hT_wI, hS_wI, eq_self, and_true, true_and, and_false, false_and, or_true, true_or, or_false, false_or, if_true, if_false, not_true_eq_false, not_false_eq_true, forall_const, implies_true, false_implies, true_implies, Option.some.injEq, forall_eq', exists_eq_left', reduceCtorEq, Nat.reduceEqDiff, c1, T_X12_in, T_X12_ones, T_X11_within, T_X11_bit, T_X11_isIn, T_X11_oneIfIn, T_J6_bitCount_0f7a4]
      exact hgo
  have c1 := b1 (u2 (hI h) y 1 (nI s))
  have c2 := b2 (u2 (hI h) y 1 (nI s))
  have g44 : ¬ K B L s = 260 → ¬ K B L s = 261 → T_X2_skip [.ref y, .int 259] (wI h (u2 (hI h) y 1 (nI s))) (fun r h' => c_X2_readAct_44 Q [some (.ref y), some (.int (nI k)), some (.int (K B L s)), none, none] (r.toList ++ []) h') := fun d1 d2 => by
    refine sk s 259 _ p3 (by decide) (fun c cN => ?_) (fun c => ?_)
    · have hgo := g55 c cN
      have e1 := b1 (u2 (hI h) y 1 (nI (s + 1)))
      have e2 := b2 (u2 (hI h) y 1 (nI (s + 1)))
      show c_X2_readAct_44 Q _ [.int 1] (wI h (u2 (hI h) y 1 (nI (s + 1))))
      rw [c]
      generalize wI h (u2 (hI h) y 1 (nI (s + 1))) = H at e1 e2 hgo ⊢
      simp only [c_X2_readAct_44, i_push, i_ild, i_ald, i_ist, i_ast, i_inc, i_bin, i_un, i_divs, i_i2l, i_lshl, i_lor, i_dup, i_dup2, i_pop, i_if, i_cmp, i_nul, i_vret, i_iret, i_zret, i_aret, i_keep, keep, lget, lset, ent, i_getI, i_getJ, i_getR, i_getN, i_putI, i_putZ, i_putJ, i_putR, i_iald, i_bald, i_alen, i_aald, i_iast, i_bast, i_aast, i_new, i_newa, i_anew, i_oini, i_callS, i_callV, i_callI, popn, sh4, i_sw, swP, i_copy, i_binS, List.map, Option.toList_none, Option.toList_some, List.append, List.nil_append, List.cons_append, List.length_cons, List.length_nil, List.replicate, Nat.sub_self, Nat.reduceSub, Nat.reduceAdd, hK_pI, hL_pI, hI_pI, hR_pI, hJ_pI, hT_pI, hS_pI, hK_pR, hL_pR, hI_pR, hR_pR, hJ_pR, hT_pR, hS_pR, hK_pJ, hL_pJ, hI_pJ, hR_pJ, hJ_pJ, hT_pJ, hS_pJ, hK_wI, hL_wI, hI_wI, hR_wI, hJ_wI, hT_wI, hS_wI, eq_self, and_true, true_and, and_false, false_and, or_true, true_or, or_false, false_or, if_true, if_false, not_true_eq_false, not_false_eq_true, forall_const, implies_true, false_implies, true_implies, Option.some.injEq, forall_eq', exists_eq_left', reduceCtorEq, Nat.reduceEqDiff, c1, T_X12_in, T_X12_ones, T_X11_within, T_X11_bit, T_X11_isIn, T_X11_oneIfIn, T_J6_bitCount_0f7a4, e1, e2, show ¬ (1 : Int32) = 0 by decide]
      exact hgo
    · have hr1 : rA B L (lI k) M s = (false, pFail (u2 M 84 (lI k) (-1)) (nI (bgT B L s)), s) := by
        unfold rA
        rw [if_neg c, if_neg d1, if_neg d2]
      have hgo := hq0 (u2 (hI h) y 1 (nI s)) (by rw [hr1]) (fo _) (by rw [hr1]; exact f1 _) (by rw [hr1]; exact p3)
      show c_X2_readAct_44 Q _ [.int 0] (wI h (u2 (hI h) y 1 (nI s)))
      generalize wI h (u2 (hI h) y 1 (nI s)) = H at hgo ⊢
      simp only [c_X2_readAct_44, i_push, i_ild, i_ald, i_ist, i_ast, i_inc, i_bin, i_un, i_divs, i_i2l, i_lshl, i_lor, i_dup, i_dup2, i_pop, i_if, i_cmp, i_nul, i_vret, i_iret, i_zret, i_aret, i_keep, keep, lget, lset, ent, i_getI, i_getJ, i_getR, i_getN, i_putI, i_putZ, i_putJ, i_putR, i_iald, i_bald, i_alen, i_aald, i_iast, i_bast, i_aast, i_new, i_newa, i_anew, i_oini, i_callS, i_callV, i_callI, popn, sh4, i_sw, swP, i_copy, i_binS, List.map, Option.toList_none, Option.toList_some, List.append, List.nil_append, List.cons_append, List.length_cons, List.length_nil, List.replicate, Nat.sub_self, Nat.reduceSub, Nat.reduceAdd, hK_pI, hL_pI, hI_pI, hR_pI, hJ_pI, hT_pI, hS_pI, hK_pR, hL_pR, hI_pR, hR_pR, hJ_pR, hT_pR, hS_pR, hK_pJ, hL_pJ, hI_pJ, hR_pJ, hJ_pJ, hT_pJ, hS_pJ, hK_wI, hL_wI, hI_wI, hR_wI, hJ_wI, hT_wI, hS_wI, eq_self, and_true, true_and, and_false, false_and, or_true, true_or, or_false, false_or, if_true, if_false, not_true_eq_false, not_false_eq_true, forall_const, implies_true, false_implies, true_implies, Option.some.injEq, forall_eq', exists_eq_left', reduceCtorEq, Nat.reduceEqDiff, c1, T_X12_in, T_X12_ones, T_X11_within, T_X11_bit, T_X11_isIn, T_X11_oneIfIn, T_J6_bitCount_0f7a4]
      exact hgo
  have g22 : ¬ K B L s = 260 → T_X2_skip [.ref y, .int 261] (wI h (u2 (hI h) y 1 (nI s))) (fun r h' => c_X2_readAct_22 Q [some (.ref y), some (.int (nI k)), some (.int (K B L s)), none, none] (r.toList ++ []) h') := fun d1 => by
    refine sk s 261 _ p3 (by decide) (fun c cN => ?_) (fun c => ?_)
    · have hgo := h25 2 (Or.inr rfl) c cN
      show c_X2_readAct_22 Q _ [.int 1] (wI h (u2 (hI h) y 1 (nI (s + 1))))
      have e : K B L s = nI (2 + 259) := c
      rw [e]
      generalize wI h (u2 (hI h) y 1 (nI (s + 1))) = H at hgo ⊢
      simp only [c_X2_readAct_22, i_push, i_ild, i_ald, i_ist, i_ast, i_inc, i_bin, i_un, i_divs, i_i2l, i_lshl, i_lor, i_dup, i_dup2, i_pop, i_if, i_cmp, i_nul, i_vret, i_iret, i_zret, i_aret, i_keep, keep, lget, lset, ent, i_getI, i_getJ, i_getR, i_getN, i_putI, i_putZ, i_putJ, i_putR, i_iald, i_bald, i_alen, i_aald, i_iast, i_bast, i_aast, i_new, i_newa, i_anew, i_oini, i_callS, i_callV, i_callI, popn, sh4, i_sw, swP, i_copy, i_binS, List.map, Option.toList_none, Option.toList_some, List.append, List.nil_append, List.cons_append, List.length_cons, List.length_nil, List.replicate, Nat.sub_self, Nat.reduceSub, Nat.reduceAdd, hK_pI, hL_pI, hI_pI, hR_pI, hJ_pI, hT_pI, hS_pI, hK_pR, hL_pR, hI_pR, hR_pR, hJ_pR, hT_pR, hS_pR, hK_pJ, hL_pJ, hI_pJ, hR_pJ, hJ_pJ, hT_pJ, hS_pJ, hK_wI, hL_wI, hI_wI, hR_wI, hJ_wI, hT_wI, hS_wI, eq_self, and_true, true_and, and_false, false_and, or_true, true_or, or_false, false_or, if_true, if_false, not_true_eq_false, not_false_eq_true, forall_const, implies_true, false_implies, true_implies, Option.some.injEq, forall_eq', exists_eq_left', reduceCtorEq, Nat.reduceEqDiff, c1, T_X12_in, T_X12_ones, T_X11_within, T_X11_bit, T_X11_isIn, T_X11_oneIfIn, T_J6_bitCount_0f7a4, show ¬ (1 : Int32) = 0 by decide]
      exact hgo
    · have hgo := g44 d1 c
      show c_X2_readAct_22 Q _ [.int 0] (wI h (u2 (hI h) y 1 (nI s)))
      generalize wI h (u2 (hI h) y 1 (nI s)) = H at c1 c2 hgo ⊢
      generalize K B L s = Y at hgo ⊢
      simp only [c_X2_readAct_22, i_push, i_ild, i_ald, i_ist, i_ast, i_inc, i_bin, i_un, i_divs, i_i2l, i_lshl, i_lor, i_dup, i_dup2, i_pop, i_if, i_cmp, i_nul, i_vret, i_iret, i_zret, i_aret, i_keep, keep, lget, lset, ent, i_getI, i_getJ, i_getR, i_getN, i_putI, i_putZ, i_putJ, i_putR, i_iald, i_bald, i_alen, i_aald, i_iast, i_bast, i_aast, i_new, i_newa, i_anew, i_oini, i_callS, i_callV, i_callI, popn, sh4, i_sw, swP, i_copy, i_binS, List.map, Option.toList_none, Option.toList_some, List.append, List.nil_append, List.cons_append, List.length_cons, List.length_nil, List.replicate, Nat.sub_self, Nat.reduceSub, Nat.reduceAdd, hK_pI, hL_pI, hI_pI, hR_pI, hJ_pI, hT_pI, hS_pI, hK_pR, hL_pR, hI_pR, hR_pR, hJ_pR, hT_pR, hS_pR, hK_pJ, hL_pJ, hI_pJ, hR_pJ, hJ_pJ, hT_pJ, hS_pJ, hK_wI, hL_wI, hI_wI, hR_wI, hJ_wI, hT_wI, hS_wI, eq_self, and_true, true_and, and_false, false_and, or_true, true_or, or_false, false_or, if_true, if_false, not_true_eq_false, not_false_eq_true, forall_const, implies_true, false_implies, true_implies, Option.some.injEq, forall_eq', exists_eq_left', reduceCtorEq, Nat.reduceEqDiff, c1, T_X12_in, T_X12_ones, T_X11_within, T_X11_bit, T_X11_isIn, T_X11_oneIfIn, T_J6_bitCount_0f7a4, c1, c2]
      exact hgo
  have g12 : T_X2_skip [.ref y, .int 260] (wI h (u2 (hI h) y 1 (nI s))) (fun r h' => c_X2_readAct_12 Q [some (.ref y), some (.int (nI k)), some (.int (K B L s)), none, none] (r.toList ++ []) h') := by
    refine sk s 260 _ p3 (by decide) (fun c cN => ?_) (fun c => ?_)
    · have hgo := h25 1 (Or.inl rfl) c cN
      show c_X2_readAct_12 Q _ [.int 1] (wI h (u2 (hI h) y 1 (nI (s + 1))))
      have e : K B L s = nI (1 + 259) := c
      rw [e]
      generalize wI h (u2 (hI h) y 1 (nI (s + 1))) = H at hgo ⊢
      simp only [c_X2_readAct_12, i_push, i_ild, i_ald, i_ist, i_ast, i_inc, i_bin, i_un, i_divs, i_i2l, i_lshl, i_lor, i_dup, i_dup2, i_pop, i_if, i_cmp, i_nul, i_vret, i_iret, i_zret, i_aret, i_keep, keep, lget, lset, ent, i_getI, i_getJ, i_getR, i_getN, i_putI, i_putZ, i_putJ, i_putR, i_iald, i_bald, i_alen, i_aald, i_iast, i_bast, i_aast, i_new, i_newa, i_anew, i_oini, i_callS, i_callV, i_callI, popn, sh4, i_sw, swP, i_copy, i_binS, List.map, Option.toList_none, Option.toList_some, List.append, List.nil_append, List.cons_append, List.length_cons, List.length_nil, List.replicate, Nat.sub_self, Nat.reduceSub, Nat.reduceAdd, hK_pI, hL_pI, hI_pI, hR_pI, hJ_pI, hT_pI, hS_pI, hK_pR, hL_pR, hI_pR, hR_pR, hJ_pR, hT_pR, hS_pR, hK_pJ, hL_pJ, hI_pJ, hR_pJ, hJ_pJ, hT_pJ, hS_pJ, hK_wI, hL_wI, hI_wI, hR_wI, hJ_wI, hT_wI, hS_wI, eq_self, and_true, true_and, and_false, false_and, or_true, true_or, or_false, false_or, if_true, if_false, not_true_eq_false, not_false_eq_true, forall_const, implies_true, false_implies, true_implies, Option.some.injEq, forall_eq', exists_eq_left', reduceCtorEq, Nat.reduceEqDiff, c1, T_X12_in, T_X12_ones, T_X11_within, T_X11_bit, T_X11_isIn, T_X11_oneIfIn, T_J6_bitCount_0f7a4, show ¬ (1 : Int32) = 0 by decide]
      exact hgo
    · have hgo := g22 c
      show c_X2_readAct_12 Q _ [.int 0] (wI h (u2 (hI h) y 1 (nI s)))
      generalize wI h (u2 (hI h) y 1 (nI s)) = H at c1 c2 hgo ⊢
      generalize K B L s = Y at hgo ⊢
      simp only [c_X2_readAct_12, i_push, i_ild, i_ald, i_ist, i_ast, i_inc, i_bin, i_un, i_divs, i_i2l, i_lshl, i_lor, i_dup, i_dup2, i_pop, i_if, i_cmp, i_nul, i_vret, i_iret, i_zret, i_aret, i_keep, keep, lget, lset, ent, i_getI, i_getJ, i_getR, i_getN, i_putI, i_putZ, i_putJ, i_putR, i_iald, i_bald, i_alen, i_aald, i_iast, i_bast, i_aast, i_new, i_newa, i_anew, i_oini, i_callS, i_callV, i_callI, popn, sh4, i_sw, swP, i_copy, i_binS, List.map, Option.toList_none, Option.toList_some, List.append, List.nil_append, List.cons_append, List.length_cons, List.length_nil, List.replicate, Nat.sub_self, Nat.reduceSub, Nat.reduceAdd, hK_pI, hL_pI, hI_pI, hR_pI, hJ_pI, hT_pI, hS_pI, hK_pR, hL_pR, hI_pR, hR_pR, hJ_pR, hT_pR, hS_pR, hK_pJ, hL_pJ, hI_pJ, hR_pJ, hJ_pJ, hT_pJ, hS_pJ, hK_wI, hL_wI, hI_wI, hR_wI, hJ_wI, hT_wI, hS_wI, eq_self, and_true, true_and, and_false, false_and, or_true, true_or, or_false, false_or, if_true, if_false, not_true_eq_false, not_false_eq_true, forall_const, implies_true, false_implies, true_implies, Option.some.injEq, forall_eq', exists_eq_left', reduceCtorEq, Nat.reduceEqDiff, c1, T_X12_in, T_X12_ones, T_X11_within, T_X11_bit, T_X11_isIn, T_X11_oneIfIn, T_J6_bitCount_0f7a4, c1, c2]
      exact hgo
  have g4 : c_X2_readAct_4 Q [some (.ref y), some (.int (nI k)), none, none, none] [.int (K B L s)] (wI h (u2 (hI h) y 1 (nI s))) := by
    generalize wI h (u2 (hI h) y 1 (nI s)) = H at c1 c2 g12 ⊢
    generalize K B L s = Y at g12 ⊢
    simp only [c_X2_readAct_4, i_push, i_ild, i_ald, i_ist, i_ast, i_inc, i_bin, i_un, i_divs, i_i2l, i_lshl, i_lor, i_dup, i_dup2, i_pop, i_if, i_cmp, i_nul, i_vret, i_iret, i_zret, i_aret, i_keep, keep, lget, lset, ent, i_getI, i_getJ, i_getR, i_getN, i_putI, i_putZ, i_putJ, i_putR, i_iald, i_bald, i_alen, i_aald, i_iast, i_bast, i_aast, i_new, i_newa, i_anew, i_oini, i_callS, i_callV, i_callI, popn, sh4, i_sw, swP, i_copy, i_binS, List.map, Option.toList_none, Option.toList_some, List.append, List.nil_append, List.cons_append, List.length_cons, List.length_nil, List.replicate, Nat.sub_self, Nat.reduceSub, Nat.reduceAdd, hK_pI, hL_pI, hI_pI, hR_pI, hJ_pI, hT_pI, hS_pI, hK_pR, hL_pR, hI_pR, hR_pR, hJ_pR, hT_pR, hS_pR, hK_pJ, hL_pJ, hI_pJ, hR_pJ, hJ_pJ, hT_pJ, hS_pJ, hK_wI, hL_wI, hI_wI, hR_wI, hJ_wI, hT_wI, hS_wI, eq_self, and_true, true_and, and_false, false_and, or_true, true_or, or_false, false_or, if_true, if_false, not_true_eq_false, not_false_eq_true, forall_const, implies_true, false_implies, true_implies, Option.some.injEq, forall_eq', exists_eq_left', reduceCtorEq, Nat.reduceEqDiff, c1, T_X12_in, T_X12_ones, T_X11_within, T_X11_bit, T_X11_isIn, T_X11_oneIfIn, T_J6_bitCount_0f7a4, c1, c2]
    exact g12
  have hkd := kind_go he (fo s) p3 (f1 s) (Q := fun r h' => c_X2_readAct_4 Q [some (.ref y), some (.int (nI k)), none, none, none] (r.toList ++ []) h') g4
  rw [hh] at hkd
  simp only [b_X2_readAct_0, i_push, i_ild, i_ald, i_ist, i_ast, i_inc, i_bin, i_un, i_divs, i_i2l, i_lshl, i_lor, i_dup, i_dup2, i_pop, i_if, i_cmp, i_nul, i_vret, i_iret, i_zret, i_aret, i_keep, keep, lget, lset, ent, i_getI, i_getJ, i_getR, i_getN, i_putI, i_putZ, i_putJ, i_putR, i_iald, i_bald, i_alen, i_aald, i_iast, i_bast, i_aast, i_new, i_newa, i_anew, i_oini, i_callS, i_callV, i_callI, popn, sh4, i_sw, swP, i_copy, i_binS, List.map, Option.toList_none, Option.toList_some, List.append, List.nil_append, List.cons_append, List.length_cons, List.length_nil, List.replicate, Nat.sub_self, Nat.reduceSub, Nat.reduceAdd, hK_pI, hL_pI, hI_pI, hR_pI, hJ_pI, hT_pI, hS_pI, hK_pR, hL_pR, hI_pR, hR_pR, hJ_pR, hT_pR, hS_pR, hK_pJ, hL_pJ, hI_pJ, hR_pJ, hJ_pJ, hT_pJ, hS_pJ, hK_wI, hL_wI, hI_wI, hR_wI, hJ_wI, hT_wI, hS_wI, eq_self, and_true, true_and, and_false, false_and, or_true, true_or, or_false, false_or, if_true, if_false, not_true_eq_false, not_false_eq_true, forall_const, implies_true, false_implies, true_implies, Option.some.injEq, forall_eq', exists_eq_left', reduceCtorEq, Nat.reduceEqDiff, c1, T_X12_in, T_X12_ones, T_X11_within, T_X11_bit, T_X11_isIn, T_X11_oneIfIn, T_J6_bitCount_0f7a4, a1, a2]
  exact hkd
set_option maxRecDepth 100000 in
set_option maxHeartbeats 4000000 in
theorem ok_X2_readAct : ctr 2 MX2_readAct T_X2_readAct := by
  refine ctr_of pn_X2 wc_X2_readAct (fun av h Q hT => ?_)
  unfold T_X2_readAct at hT
  split at hT
  · rename_i y x
    refine ⟨⟨by simp [Value.category], Nat.le_of_ble_eq_true rfl⟩, s_X2_readAct_0 Q _ _ _ ?_⟩
    obtain ⟨q, z, B, L, N, f0, M, k, n, s, he, rfl, hk, hps, hq1, hq0⟩ := hT
    exact xra_0 Q h y q z B L N f0 M k n s he hk hps hq1 hq0
  · exact hT.elim
