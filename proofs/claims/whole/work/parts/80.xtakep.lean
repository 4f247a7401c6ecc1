/-! ===== the class: takeParties ===== -/
noncomputable def rsA (f : Mem) (n : Nat) (g : Int32) (R P : Nat) : Int32 := cif (g &&& (f n 7 ^^^ (-1)) = 0) (cif (rfF f g R P = 0) 4 0) 3
def T_X5_reasonAgainst : Tr := fun av h Q => match av with
  | [.ref o, .ref b, .int g] => o = 31 ∧ LayX h ∧ hR h 33 0 = some 3 ∧ ∃ n R P, n = b ∧ LayN h n R ∧ R ≤ 4 ∧ hI h 12 0 = nI R ∧ P ≤ 24 ∧ hI h 16 0 = nI P ∧ ilOk (hI h) P ∧ Q (some (.int (rsA (hI h) n g R P))) h
  | _ => False
def L_X5_reasonAgainst : List UInt8 := [28, 43, 180, 0, 82, 2, 130, 126, 153, 0, 5, 6, 172, 42, 180, 0, 24, 28, 182, 0, 114, 154, 0, 7, 7, 167, 0, 4, 3, 172]
theorem Lc_X5_reasonAgainst : MX5_reasonAgainst.2.1 = ⟨L_X5_reasonAgainst.toArray⟩ := rfl
theorem D_X5_reasonAgainst_0 : dseq MX5_reasonAgainst.2.1 0 [(.iload_n 2, 1), (.aload_n 1, 1), (.getfield 82, 3), (.iconst (-1), 1), (.ixor, 1), (.iand, 1), (.ifCond .eq 5, 3), (.iconst 3, 1), (.ireturn, 1)] := dq Lc_X5_reasonAgainst 0 _ (by decide +kernel)
theorem D_X5_reasonAgainst_13 : dseq MX5_reasonAgainst.2.1 13 [(.aload_n 0, 1), (.getfield 24, 3), (.iload_n 2, 1), (.invokevirtual 114, 3), (.ifCond .ne 7, 3), (.iconst 4, 1), (.goto 4, 3)] := dq Lc_X5_reasonAgainst 13 _ (by decide +kernel)
theorem D_X5_reasonAgainst_28 : dseq MX5_reasonAgainst.2.1 28 [(.iconst 0, 1), (.ireturn, 1)] := dq Lc_X5_reasonAgainst 28 _ (by decide +kernel)
theorem D_X5_reasonAgainst_29 : dseq MX5_reasonAgainst.2.1 29 [(.ireturn, 1)] := dq Lc_X5_reasonAgainst 29 _ (by decide +kernel)
def c_X5_reasonAgainst_21 (Q : Option Value → Hp → Prop) : Kt := i_if (fun x => x = 0) (i_push (.int 4) (i_iret Q)) (i_push (.int 0) (i_iret Q))
def b_X5_reasonAgainst_0 (Q : Option Value → Hp → Prop) : Kt := i_ild 2 (i_ald 1 (i_getI 1 7 (i_push (.int (-1)) (i_bin (fun x y => x ^^^ y) (i_bin (fun x y => x &&& y) (i_if (fun x => x = 0) (i_ald 0 (i_getR 5 1 (i_ild 2 (i_callV 4 1 T_X4_roomsFor (c_X5_reasonAgainst_21 Q))))) (i_push (.int 3) (i_iret Q))))))))
set_option maxRecDepth 100000 in
theorem s_X5_reasonAgainst_0 (Q : Option Value → Hp → Prop) : ∀ A st h, b_X5_reasonAgainst_0 Q A st h → wp 4 MX5_reasonAgainst Q 0 A st h := (q1 (s_ildn (n := 2) (i := 2) rfl) D_X5_reasonAgainst_0 fun D => (q1 (s_aldn (n := 1) (i := 1) rfl) D fun D => (qC fl_X5_82 rfl D fun D => (q1 (s_iconst (n := (-1)) (v := (-1)) (by decide)) D fun D => (q1 s_xor D fun D => (q1 s_and D fun D => (qB s_ifeq 13 (by decide) D (q1 (s_aldn (n := 0) (i := 0) rfl) D_X5_reasonAgainst_13 fun D => (qC fl_X5_24 rfl D fun D => (q1 (s_ildn (n := 2) (i := 2) rfl) D fun D => (qX (s_callV kX4 rfl ok_X4_roomsFor mo_X4_roomsFor (ch_4_2_ok.2.2.2.2.2.2.2.2.2.2.1.1 rfl) (ch_4_2_ok.2.2.2.2.2.2.2.2.2.2.2.1.1 rfl) (ch_4_2_ok.2.2.2.2.2.2.2.2.2.2.2.2.1.1 rfl)) rfl (by decide) D fun D => (qBn s_ifne2 28 (by decide) D (q1 (s_iconst (n := 0) (v := 0) (by decide)) D_X5_reasonAgainst_28 fun D => (qI rfl D)) fun D => (q1 (s_iconst (n := 4) (v := 4) (by decide)) D fun D => (qG 29 (by decide) D (qI rfl D_X5_reasonAgainst_29)))))))) fun D => (q1 (s_iconst (n := 3) (v := 3) (by decide)) D fun D => (qI rfl D)))))))))

set_option maxRecDepth 100000 in
set_option maxHeartbeats 4000000 in
theorem ok_X5_reasonAgainst : ctr 4 MX5_reasonAgainst T_X5_reasonAgainst := by
  refine ctr_of pn_X5 wc_X5_reasonAgainst (fun av h Q hT => ?_)
  unfold T_X5_reasonAgainst at hT
  split at hT
  · rename_i o b g
    refine ⟨⟨by simp [Value.category], Nat.le_of_ble_eq_true rfl⟩, s_X5_reasonAgainst_0 Q _ _ _ ?_⟩
    obtain ⟨rfl, hl, hst, n, R, P, rfl, hn, hR4, h12, hP, h16, hk, hq⟩ := hT
    have hf := hn.f
    have h3 : ¬ g &&& (hI h n 7 ^^^ (-1)) = 0 → Q (some (.int 3)) h := fun c => by unfold rsA at hq; rw [cif_f c] at hq; exact hq
    have hc : g &&& (hI h n 7 ^^^ (-1)) = 0 → T_X4_roomsFor [.ref 33, .int g] h (fun x h' => c_X5_reasonAgainst_21 Q [some (.ref 31), some (.ref n), some (.int g)] (x.toList ++ []) h') := fun c => by
      refine ⟨rfl, hl, hst, R, P, hR4, h12, hP, h16, hk, ?_⟩
      show c_X5_reasonAgainst_21 Q _ [.int (rfF (hI h) g R P)] h
      unfold rsA at hq
      rw [cif_t c] at hq
      have h4 : rfF (hI h) g R P = 0 → Q (some (.int 4)) h := fun z => by rw [cif_t z] at hq; exact hq
      have h0 : ¬ rfF (hI h) g R P = 0 → Q (some (.int 0)) h := fun z => by rw [cif_f z] at hq; exact hq
      generalize rfF (hI h) g R P = X at h4 h0 ⊢
      simp only [c_X5_reasonAgainst_21, i_push, i_ild, i_ald, i_ist, i_ast, i_inc, i_bin, i_un, i_divs, i_i2l, i_lshl, i_lor, i_dup, i_dup2, i_pop, i_if, i_cmp, i_nul, i_vret, i_iret, i_zret, i_aret, i_keep, keep, lget, lset, ent, i_getI, i_getJ, i_getR, i_getN, i_putI, i_putZ, i_putJ, i_putR, i_iald, i_bald, i_alen, i_aald, i_iast, i_bast, i_aast, i_new, i_newa, i_anew, i_oini, i_callS, i_callV, i_callI, popn, sh4, i_sw, swP, i_copy, i_binS, List.map, Option.toList_none, Option.toList_some, List.append, List.nil_append, List.cons_append, List.length_cons, List.length_nil, List.replicate, Nat.sub_self, Nat.reduceSub, Nat.reduceAdd, hK_pI, hL_pI, hI_pI, hR_pI, hJ_pI, hT_pI, hS_pI, hK_pR, hL_pR, hI_pR, hR_pR, hJ_pR, hT_pR, hS_pR, hK_pJ, hL_pJ, hI_pJ, hR_pJ, hJ_pJ, hT_pJ, hS_pJ, hK_wI, hL_wI, hI_wI, hR_wI, hJ_wI, hT_wI, hS_wI, eq_self, and_true, true_and, and_false, false_and, or_true, true_or, or_false, false_or, if_true, if_false, not_true_eq_false, not_false_eq_true, forall_const, implies_true, false_implies, true_implies, Option.some.injEq, forall_eq', exists_eq_left', reduceCtorEq, Nat.reduceEqDiff, c1, T_X12_in, T_X12_ones, T_X11_within, T_X11_bit, T_X11_isIn, T_X11_oneIfIn, T_J6_bitCount_0f7a4]
      first | exact ⟨h4, h0⟩ | exact ⟨h0, h4⟩
    simp only [MX5_reasonAgainst, b_X5_reasonAgainst_0, lx_pI, lx_wI, lx_t hl, lx_k hl, lx_r hl, lx_l hl, i_push, i_ild, i_ald, i_ist, i_ast, i_inc, i_bin, i_un, i_divs, i_i2l, i_lshl, i_lor, i_dup, i_dup2, i_pop, i_if, i_cmp, i_nul, i_vret, i_iret, i_zret, i_aret, i_keep, keep, lget, lset, ent, i_getI, i_getJ, i_getR, i_getN, i_putI, i_putZ, i_putJ, i_putR, i_iald, i_bald, i_alen, i_aald, i_iast, i_bast, i_aast, i_new, i_newa, i_anew, i_oini, i_callS, i_callV, i_callI, popn, sh4, i_sw, swP, i_copy, i_binS, List.map, Option.toList_none, Option.toList_some, List.append, List.nil_append, List.cons_append, List.length_cons, List.length_nil, List.replicate, Nat.sub_self, Nat.reduceSub, Nat.reduceAdd, hK_pI, hL_pI, hI_pI, hR_pI, hJ_pI, hT_pI, hS_pI, hK_pR, hL_pR, hI_pR, hR_pR, hJ_pR, hT_pR, hS_pR, hK_pJ, hL_pJ, hI_pJ, hR_pJ, hJ_pJ, hT_pJ, hS_pJ, hK_wI, hL_wI, hI_wI, hR_wI, hJ_wI, hT_wI, hS_wI, eq_self, and_true, true_and, and_false, false_and, or_true, true_or, or_false, false_or, if_true, if_false, not_true_eq_false, not_false_eq_true, forall_const, implies_true, false_implies, true_implies, Option.some.injEq, forall_eq', exists_eq_left', reduceCtorEq, Nat.reduceEqDiff, c1, T_X12_in, T_X12_ones, T_X11_within, T_X11_bit, T_X11_isIn, T_X11_oneIfIn, T_J6_bitCount_0f7a4, hf]
    first | exact ⟨hc, h3⟩ | exact ⟨h3, hc⟩
  · exact hT.elim
/-- the class's rows that an evening reads and doesn't write here -/
def sx (f g : Mem) : Prop := (∀ a, a < 33 → f a = g a) ∧ f 33 1 = g 33 1
theorem EC_c {f g J : Mem} {R P : Nat} (h : sx f g) (he : EC g J R P) : EC f J R P := by
  unfold EC cpX at he ⊢
  rw [h.1 12 (by decide), h.1 13 (by decide), h.1 14 (by decide), h.1 15 (by decide), h.1 16 (by decide), h.1 18 (by decide), h.1 19 (by decide), h.1 23 (by decide), h.2]
  exact he
theorem ilOk_c {f g : Mem} {P : Nat} (h : sx f g) (hk : ilOk g P) : ilOk f P := by unfold ilOk at hk ⊢; rw [h.1 19 (by decide)]; exact hk
theorem FAM_c {f g J : Mem} {R P n : Nat} {sz cp : Nat → Nat} (h : sx f g) (h2 : f 33 2 = g 33 2) (h3 : ∀ a, 34 ≤ a → a ≤ 38 → f a = g a) (hf : FAM g J R P n sz cp) : FAM f J R P n sz cp := by
  obtain ⟨⟨s1, s2, s3, s4, s5, s6, s7, s8⟩, a, b⟩ := hf
  refine ⟨⟨s1, s2, ?_, ?_, ?_, ?_, ?_, s8⟩, fun i hi => ?_, b⟩
  · rw [h.1 12 (by decide)]; exact s3
  · rw [h2]; exact s4
  · rw [h3 35 (by decide) (by decide), h3 34 (by decide) (by decide)]; exact s5
  · rw [h3 34 (by decide) (by decide)]; exact s6
  · rw [h3 34 (by decide) (by decide), h3 37 (by decide) (by decide)]; exact s7
  · obtain ⟨a1, a2, a3, a4, a5, a6, a7⟩ := a i hi
    rw [h3 34 (by decide) (by decide), h3 36 (by decide) (by decide), h3 37 (by decide) (by decide), h3 38 (by decide) (by decide), ilF_c (h.1 19 (by decide)), foS_c (h.1 23 (by decide)), rfF_c h.1 h.2]
    exact ⟨a1, a2, a3, a4, a5, a6, a7⟩
theorem grp_in {J : Mem} {P p : Nat} (hP : P ≤ 24) (hT : Tg J P) (hp : p < P) : inP (grp J P p) P := fun i hi => (Rch_in hT hp (m1_bt (by omega)) ((b_grp hP hT hp).mp hi)).1
theorem FAM.add {f J : Mem} {R P n : Nat} {sz cp : Nat → Nat} (hf : FAM f J R P n sz cp) (hn : n < 10) (hP : P ≤ 24) (hT : Tg J P) (hsy : Sy J) {p : Nat} (hp : p < P) (hs : PS (addM f n (grp J P p) (ilF f (grp J P p) P) (foS f (grp J P p) P) (rfF f (grp J P p) R P)) R (n + 1) (sAd sz n (grp J P p)) cp) : FAM (addM f n (grp J P p) (ilF f (grp J P p) P) (foS f (grp J P p) P) (rfF f (grp J P p) R P)) J R P (n + 1) (sAd sz n (grp J P p)) cp := by
  refine ⟨hs, fun i hi => ?_, hf.2.2⟩
  obtain ⟨F, hF⟩ : ∃ F, F = addM f n (grp J P p) (ilF f (grp J P p) P) (foS f (grp J P p) P) (rfF f (grp J P p) R P) := ⟨_, rfl⟩
  have hsx : sx F f := ⟨fun a ha => funext fun j => by rw [hF]; exact addM_o _ _ _ _ _ _ (Or.inl (by omega)) (Or.inl (by omega)), by rw [hF]; exact addM_o _ _ _ _ _ _ (Or.inl (by decide)) (Or.inr (by decide))⟩
  rw [← hF]
  rw [ilF_c (hsx.1 19 (by decide)), foS_c (hsx.1 23 (by decide)), rfF_c hsx.1 hsx.2]
  by_cases e : i = n
  · subst e
    rw [hF, addM_34, addM_36, addM_37, addM_38]
    have hb := fun x => b_grp (i := x) hP hT hp
    refine ⟨grp_in hP hT hp, fun a b ha hbb => ?_, fun a b ha hbb => ?_, by unfold sAd; rw [if_pos rfl], rfl, rfl, rfl⟩
    · have haP := grp_in hP hT hp a ha
      have hbP := hT a b haP hbb
      exact (hb b).mpr (Rch_tr ((hb a).mp ha) (Rch_step haP hbb (m1_bt (by omega))))
    · exact Rch_tr (Rch_sym hP hsy hT hp (m1_bt (by omega)) ((hb a).mp ha)) ((hb b).mp hbb)
  · have o : ∀ a, 34 ≤ a → a ≤ 38 → F a i = f a i := fun a a1 a2 => by rw [hF]; exact addM_o _ _ _ _ _ _ (Or.inr (Or.inr e)) (Or.inl (by omega))
    rw [o 34 (by decide) (by decide), o 36 (by decide) (by decide), o 37 (by decide) (by decide), o 38 (by decide) (by decide)]
    obtain ⟨a1, a2, a3, a4, a5, a6, a7⟩ := hf.2.1 i (by omega)
    exact ⟨a1, a2, a3, by unfold sAd; rw [if_neg e]; exact a4, a5, a6, a7⟩
theorem TU_add (f : Mem) (n : Nat) (g il fo al : Int32) : TU (addM f n g il fo al) (n + 1) = TU f n ||| g := by
  have : ∀ k, k ≤ n → TU (addM f n g il fo al) k = TU f k := fun k => by
    induction k with
    | zero => intro _; rfl
    | succ k ih => intro hk; rw [TU, TU, ih (by omega), addM_o f n g il fo al (Or.inr (Or.inr (by omega))) (Or.inl (by decide))]
  rw [TU, this n (Nat.le_refl _), addM_34]
theorem TU_c {f g : Mem} (h : f 34 = g 34) : ∀ n, TU f n = TU g n
  | 0 => rfl
  | n + 1 => by rw [TU, TU, TU_c h n, h]
/-- what the class needs to take parties: J is the reference's memory, o THE ORDER -/
def TPre (f J : Mem) (n R P N : Nat) (o : Nat → Nat) : Prop := R ≤ 4 ∧ P ≤ 24 ∧ N ≤ 10 ∧ f 12 0 = nI R ∧ f 16 0 = nI P ∧ EC f J R P ∧ Sy J ∧ Tg J P ∧ noS J P ∧ ilOk f P ∧ (∀ q, q < P → f 24 q = J 63 q) ∧ f n 8 = nI N ∧ (∀ j, j < N → f (n + 1) j = nI (o j) ∧ o j < P) ∧ f n 7 = amS o N
/-- what stands after k of THE ORDER; m parties are taken -/
def TI (f0 J : Mem) (n R P N : Nat) (o : Nat → Nat) (cp : Nat → Nat) (k : Nat) (f : Mem) : Prop := ∃ (m : Nat) (sz w : Nat → Nat), sx f f0 ∧ f n 4 = tkS J R P (amS o N) o k ∧ (∀ i, i ≠ 4 → f n i = f0 n i) ∧ (∀ q, f (n + 2) q = cif (∃ j, j < k ∧ Rch J P (-1) (o j) q ∧ bt (amS o N) q = true ∧ q < 24) (whyT J R P o N q) (f0 (n + 2) q)) ∧ (∀ a i, 44 ≤ a → a ≠ n → a ≠ n + 2 → f a i = f0 a i) ∧ FAM f J R P m sz cp ∧ PD f R m sz cp (fun i => some (w i)) ∧ MF f m w ∧ (∀ i, i < m → f 40 i = 0) ∧ TU f m = tkS J R P (amS o N) o k ∧ (∀ i, i < m → ∃ j, j < k ∧ f 34 i = grp J P (o j)) ∧ m ≤ k ∧ ∀ i, i ≠ 2 → f 33 i = f0 33 i
