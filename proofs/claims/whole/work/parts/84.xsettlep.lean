/-! ===== the class: settleParties ===== -/
/-- before person p is settled -/
def SV (f0 J : Mem) (R P m : Nat) (sz cp : Nat → Nat) (p : Nat) (f : Mem) (wh : Nat → Option Nat) : Prop := sx f f0 ∧ (∀ a i, 44 ≤ a → f a i = f0 a i) ∧ (∀ i, f 33 i = f0 33 i) ∧ f 34 = f0 34 ∧ FAM f J R P m sz cp ∧ PD f R m sz cp wh ∧ fullO f m wh ∧ (∀ j, j < m → ¬ f 40 j = 0 → wh j ≠ none) ∧ stP f J R m (TU f m) wh p
def SPre (f J : Mem) (n R P : Nat) (T : Int32) : Prop := R ≤ 4 ∧ P ≤ 24 ∧ f 12 0 = nI R ∧ f 16 0 = nI P ∧ EC f J R P ∧ Sy J ∧ Tg J P ∧ noS J P ∧ ilOk f P ∧ (∀ p, p < P → f 22 p = J 60 p ∧ slpOk J R p) ∧ f n 4 = T
def L_X5_settleParties : List UInt8 := [3, 61, 28, 42, 180, 0, 15, 180, 0, 28, 180, 0, 34, 162, 0, 97, 43, 180, 0, 107, 28, 184, 0, 45, 153, 0, 14, 42, 180, 0, 24, 28, 182, 0, 117, 153, 0, 7, 4, 167, 0, 4, 3, 62, 3, 54, 4, 21, 4, 43, 180, 0, 120, 190, 163, 0, 50, 29, 154, 0, 46, 21, 4, 154, 0, 18, 42, 180, 0, 15, 180, 0, 28, 180, 0, 123, 28, 46, 167, 0, 7, 21, 4, 4, 100, 54, 5, 42, 180, 0, 24, 28, 21, 5, 182, 0, 126, 62, 132, 4, 1, 167, 255, 202, 132, 2, 1, 167, 255, 151, 3, 61, 28, 43, 180, 0, 120, 190, 162, 0, 23, 43, 180, 0, 120, 28, 42, 180, 0, 24, 28, 182, 0, 129, 79, 132, 2, 1, 167, 255, 230, 177]
theorem Lc_X5_settleParties : MX5_settleParties.2.1 = ⟨L_X5_settleParties.toArray⟩ := rfl
theorem D_X5_settleParties_0 : dseq MX5_settleParties.2.1 0 [(.iconst 0, 1), (.istore_n 2, 1)] := dq Lc_X5_settleParties 0 _ (by decide +kernel)
theorem D_X5_settleParties_2 : dseq MX5_settleParties.2.1 2 [(.iload_n 2, 1), (.aload_n 0, 1), (.getfield 15, 3), (.getfield 28, 3), (.getfield 34, 3), (.if_icmp .ge 97, 3), (.aload_n 1, 1), (.getfield 107, 3), (.iload_n 2, 1), (.invokestatic 45, 3), (.ifCond .eq 14, 3), (.aload_n 0, 1), (.getfield 24, 3), (.iload_n 2, 1), (.invokevirtual 117, 3), (.ifCond .eq 7, 3)] := dq Lc_X5_settleParties 2 _ (by decide +kernel)
theorem D_X5_settleParties_110 : dseq MX5_settleParties.2.1 110 [(.iconst 0, 1), (.istore_n 2, 1)] := dq Lc_X5_settleParties 110 _ (by decide +kernel)
theorem D_X5_settleParties_42 : dseq MX5_settleParties.2.1 42 [(.iconst 0, 1)] := dq Lc_X5_settleParties 42 _ (by decide +kernel)
theorem D_X5_settleParties_38 : dseq MX5_settleParties.2.1 38 [(.iconst 1, 1), (.goto 4, 3)] := dq Lc_X5_settleParties 38 _ (by decide +kernel)
theorem D_X5_settleParties_43 : dseq MX5_settleParties.2.1 43 [(.istore_n 3, 1), (.iconst 0, 1), (.istore 4, 2)] := dq Lc_X5_settleParties 43 _ (by decide +kernel)
theorem D_X5_settleParties_47 : dseq MX5_settleParties.2.1 47 [(.iload 4, 2), (.aload_n 1, 1), (.getfield 120, 3), (.arraylength, 1), (.if_icmp .gt 50, 3), (.iload_n 3, 1), (.ifCond .ne 46, 3), (.iload 4, 2), (.ifCond .ne 18, 3), (.aload_n 0, 1), (.getfield 15, 3), (.getfield 28, 3), (.getfield 123, 3), (.iload_n 2, 1), (.iaload, 1), (.goto 7, 3)] := dq Lc_X5_settleParties 47 _ (by decide +kernel)
theorem D_X5_settleParties_81 : dseq MX5_settleParties.2.1 81 [(.iload 4, 2), (.iconst 1, 1), (.isub, 1)] := dq Lc_X5_settleParties 81 _ (by decide +kernel)
theorem D_X5_settleParties_85 : dseq MX5_settleParties.2.1 85 [(.istore 5, 2), (.aload_n 0, 1), (.getfield 24, 3), (.iload_n 2, 1), (.iload 5, 2), (.invokevirtual 126, 3), (.istore_n 3, 1), (.iinc 4 1, 3), (.goto (-54), 3)] := dq Lc_X5_settleParties 85 _ (by decide +kernel)
theorem D_X5_settleParties_104 : dseq MX5_settleParties.2.1 104 [(.iinc 2 1, 3), (.goto (-105), 3)] := dq Lc_X5_settleParties 104 _ (by decide +kernel)
theorem D_X5_settleParties_112 : dseq MX5_settleParties.2.1 112 [(.iload_n 2, 1), (.aload_n 1, 1), (.getfield 120, 3), (.arraylength, 1), (.if_icmp .ge 23, 3), (.aload_n 1, 1), (.getfield 120, 3), (.iload_n 2, 1), (.aload_n 0, 1), (.getfield 24, 3), (.iload_n 2, 1), (.invokevirtual 129, 3), (.iastore, 1), (.iinc 2 1, 3), (.goto (-26), 3)] := dq Lc_X5_settleParties 112 _ (by decide +kernel)
theorem D_X5_settleParties_141 : dseq MX5_settleParties.2.1 141 [(.return_, 1)] := dq Lc_X5_settleParties 141 _ (by decide +kernel)
def c_X5_settleParties_35 (Q : Option Value → Hp → Prop) : Kt := i_if (fun x => x = 0) (i_push (.int 0) (i_keep [true, true, true, false, false, false] (wp 22 MX5_settleParties Q 43))) (i_keep [true, true, true, false, false, false] (wp 22 MX5_settleParties Q 38))
def c_X5_settleParties_97 (Q : Option Value → Hp → Prop) : Kt := i_ist 3 (i_inc 4 1 (i_keep [true, true, true, true, true, false] (wp 22 MX5_settleParties Q 47)))
def c_X5_settleParties_134 (Q : Option Value → Hp → Prop) : Kt := i_iast (i_inc 2 1 (i_keep [true, true, true, false, false, false] (wp 22 MX5_settleParties Q 112)))
def b_X5_settleParties_0 (Q : Option Value → Hp → Prop) : Kt := i_push (.int 0) (i_ist 2 (i_keep [true, true, true, false, false, false] (wp 22 MX5_settleParties Q 2)))
set_option maxRecDepth 100000 in
theorem s_X5_settleParties_0 (Q : Option Value → Hp → Prop) : ∀ A st h, b_X5_settleParties_0 Q A st h → wp 22 MX5_settleParties Q 0 A st h := (q1 (s_iconst (n := 0) (v := 0) (by decide)) D_X5_settleParties_0 fun D => (qL (s_istn (n := 2) (i := 2) rfl) (by decide) D fun D => (s_keep [true, true, true, false, false, false] fun _ _ _ h => h)))
def b_X5_settleParties_2 (Q : Option Value → Hp → Prop) : Kt := i_ild 2 (i_ald 0 (i_getR 5 0 (i_getR 8 1 (i_getI 3 0 (i_cmp (fun x y => y ≤ x) (i_push (.int 0) (i_ist 2 (i_keep [true, true, true, false, false, false] (wp 22 MX5_settleParties Q 112)))) (i_ald 1 (i_getI 1 4 (i_ild 2 (i_callS 2 T_X11_isIn (i_if (fun x => x = 0) (i_keep [true, true, true, false, false, false] (wp 22 MX5_settleParties Q 38)) (i_ald 0 (i_getR 5 1 (i_ild 2 (i_callV 4 1 T_X4_hasSettled (c_X5_settleParties_35 Q)))))))))))))))
set_option maxRecDepth 100000 in
theorem s_X5_settleParties_2 (Q : Option Value → Hp → Prop) : ∀ A st h, b_X5_settleParties_2 Q A st h → wp 22 MX5_settleParties Q 2 A st h := (q1 (s_ildn (n := 2) (i := 2) rfl) D_X5_settleParties_2 fun D => (q1 (s_aldn (n := 0) (i := 0) rfl) D fun D => (qC fl_X5_15 rfl D fun D => (qC fl_X5_28 rfl D fun D => (qC fl_X5_34 rfl D fun D => (qB s_cmpge 110 (by decide) D (q1 (s_iconst (n := 0) (v := 0) (by decide)) D_X5_settleParties_110 fun D => (qL (s_istn (n := 2) (i := 2) rfl) (by decide) D fun D => (s_keep [true, true, true, false, false, false] fun _ _ _ h => h))) fun D => (q1 (s_aldn (n := 1) (i := 1) rfl) D fun D => (qC fl_X5_107 rfl D fun D => (q1 (s_ildn (n := 2) (i := 2) rfl) D fun D => (qX (s_callSN ok_X11_isIn mo_X11_isIn (ch_3_14_ok.1.2 rfl) (ch_3_7_ok.2.2.2.2.1.1 rfl)) rfl (by decide) D fun D => (qB s_ifeq 38 (by decide) D (s_keep [true, true, true, false, false, false] fun _ _ _ h => h) fun D => (q1 (s_aldn (n := 0) (i := 0) rfl) D fun D => (qC fl_X5_24 rfl D fun D => (q1 (s_ildn (n := 2) (i := 2) rfl) D fun D => (qX (s_callV kX4 rfl ok_X4_hasSettled mo_X4_hasSettled (ch_4_8_ok.2.1.1 rfl) (ch_4_8_ok.2.2.1.1 rfl) (ch_4_8_ok.2.2.2.1.1 rfl)) rfl (by decide) D fun D => (qB s_ifeq 42 (by decide) D (q1 (s_iconst (n := 0) (v := 0) (by decide)) D_X5_settleParties_42 fun D => (s_keep [true, true, true, false, false, false] fun _ _ _ h => h)) fun D => (s_keep [true, true, true, false, false, false] fun _ _ _ h => h)))))))))))))))))
def b_X5_settleParties_38 (Q : Option Value → Hp → Prop) : Kt := i_push (.int 1) (i_keep [true, true, true, false, false, false] (wp 22 MX5_settleParties Q 43))
set_option maxRecDepth 100000 in
theorem s_X5_settleParties_38 (Q : Option Value → Hp → Prop) : ∀ A st h, b_X5_settleParties_38 Q A st h → wp 22 MX5_settleParties Q 38 A st h := (q1 (s_iconst (n := 1) (v := 1) (by decide)) D_X5_settleParties_38 fun D => (qG 43 (by decide) D (s_keep [true, true, true, false, false, false] fun _ _ _ h => h)))
def b_X5_settleParties_43 (Q : Option Value → Hp → Prop) : Kt := i_ist 3 (i_push (.int 0) (i_ist 4 (i_keep [true, true, true, true, true, false] (wp 22 MX5_settleParties Q 47))))
set_option maxRecDepth 100000 in
theorem s_X5_settleParties_43 (Q : Option Value → Hp → Prop) : ∀ A st h, b_X5_settleParties_43 Q A st h → wp 22 MX5_settleParties Q 43 A st h := (qL (s_istn (n := 3) (i := 3) rfl) (by decide) D_X5_settleParties_43 fun D => (q1 (s_iconst (n := 0) (v := 0) (by decide)) D fun D => (qL s_ist (by decide) D fun D => (s_keep [true, true, true, true, true, false] fun _ _ _ h => h))))
def b_X5_settleParties_47 (Q : Option Value → Hp → Prop) : Kt := i_ild 4 (i_ald 1 (i_getR 1 11 (i_alen (i_cmp (fun x y => y < x) (i_keep [true, true, true, false, false, false] (wp 22 MX5_settleParties Q 104)) (i_ild 3 (i_if (fun x => x = 0) (i_ild 4 (i_if (fun x => x = 0) (i_ald 0 (i_getR 5 0 (i_getR 8 1 (i_getR 3 7 (i_ild 2 (i_iald (i_keep [true, true, true, false, true, false] (wp 22 MX5_settleParties Q 85)))))))) (i_ild 4 (i_push (.int 1) (i_bin (fun x y => x - y) (i_keep [true, true, true, false, true, false] (wp 22 MX5_settleParties Q 85))))))) (i_keep [true, true, true, false, false, false] (wp 22 MX5_settleParties Q 104))))))))
set_option maxRecDepth 100000 in
theorem s_X5_settleParties_47 (Q : Option Value → Hp → Prop) : ∀ A st h, b_X5_settleParties_47 Q A st h → wp 22 MX5_settleParties Q 47 A st h := (q1 s_ild D_X5_settleParties_47 fun D => (q1 (s_aldn (n := 1) (i := 1) rfl) D fun D => (qC fl_X5_120 rfl D fun D => (q1 s_alen D fun D => (qB s_cmpgt 104 (by decide) D (s_keep [true, true, true, false, false, false] fun _ _ _ h => h) fun D => (q1 (s_ildn (n := 3) (i := 3) rfl) D fun D => (qBn s_ifne2 104 (by decide) D (s_keep [true, true, true, false, false, false] fun _ _ _ h => h) fun D => (q1 s_ild D fun D => (qBn s_ifne2 81 (by decide) D (q1 s_ild D_X5_settleParties_81 fun D => (q1 (s_iconst (n := 1) (v := 1) (by decide)) D fun D => (q1 s_sub D fun D => (s_keep [true, true, true, false, true, false] fun _ _ _ h => h)))) fun D => (q1 (s_aldn (n := 0) (i := 0) rfl) D fun D => (qC fl_X5_15 rfl D fun D => (qC fl_X5_28 rfl D fun D => (qC fl_X5_123 rfl D fun D => (q1 (s_ildn (n := 2) (i := 2) rfl) D fun D => (q1 s_iald D fun D => (qG 85 (by decide) D (s_keep [true, true, true, false, true, false] fun _ _ _ h => h)))))))))))))))))
def b_X5_settleParties_85 (Q : Option Value → Hp → Prop) : Kt := i_ist 5 (i_ald 0 (i_getR 5 1 (i_ild 2 (i_ild 5 (i_callV 4 2 T_X4_settles (c_X5_settleParties_97 Q))))))
set_option maxRecDepth 100000 in
theorem s_X5_settleParties_85 (Q : Option Value → Hp → Prop) : ∀ A st h, b_X5_settleParties_85 Q A st h → wp 22 MX5_settleParties Q 85 A st h := (qL s_ist (by decide) D_X5_settleParties_85 fun D => (q1 (s_aldn (n := 0) (i := 0) rfl) D fun D => (qC fl_X5_24 rfl D fun D => (q1 (s_ildn (n := 2) (i := 2) rfl) D fun D => (q1 s_ild D fun D => (qX (s_callV kX4 rfl ok_X4_settles mo_X4_settles (ch_4_8_ok.2.2.2.2.2.2.2.2.2.1.1 rfl) (ch_4_8_ok.2.2.2.2.2.2.2.2.2.2.1.1 rfl) (ch_4_8_ok.2.2.2.2.2.2.2.2.2.2.2.1.1 rfl)) rfl (by decide) D fun D => (qL (s_istn (n := 3) (i := 3) rfl) (by decide) D fun D => (qL (s_inc (i := 4) (n := 1) (v := 1) (by decide)) (by decide) D fun D => (qG 47 (by decide) D (s_keep [true, true, true, true, true, false] fun _ _ _ h => h))))))))))
def b_X5_settleParties_104 (Q : Option Value → Hp → Prop) : Kt := i_inc 2 1 (i_keep [true, true, true, false, false, false] (wp 22 MX5_settleParties Q 2))
set_option maxRecDepth 100000 in
theorem s_X5_settleParties_104 (Q : Option Value → Hp → Prop) : ∀ A st h, b_X5_settleParties_104 Q A st h → wp 22 MX5_settleParties Q 104 A st h := (qL (s_inc (i := 2) (n := 1) (v := 1) (by decide)) (by decide) D_X5_settleParties_104 fun D => (qG 2 (by decide) D (s_keep [true, true, true, false, false, false] fun _ _ _ h => h)))
def b_X5_settleParties_112 (Q : Option Value → Hp → Prop) : Kt := i_ild 2 (i_ald 1 (i_getR 1 11 (i_alen (i_cmp (fun x y => y ≤ x) (i_vret Q) (i_ald 1 (i_getR 1 11 (i_ild 2 (i_ald 0 (i_getR 5 1 (i_ild 2 (i_callV 4 1 T_X4_peopleIn (c_X5_settleParties_134 Q))))))))))))
set_option maxRecDepth 100000 in
theorem s_X5_settleParties_112 (Q : Option Value → Hp → Prop) : ∀ A st h, b_X5_settleParties_112 Q A st h → wp 22 MX5_settleParties Q 112 A st h := (q1 (s_ildn (n := 2) (i := 2) rfl) D_X5_settleParties_112 fun D => (q1 (s_aldn (n := 1) (i := 1) rfl) D fun D => (qC fl_X5_120 rfl D fun D => (q1 s_alen D fun D => (qB s_cmpge 141 (by decide) D (qV rfl D_X5_settleParties_141) fun D => (q1 (s_aldn (n := 1) (i := 1) rfl) D fun D => (qC fl_X5_120 rfl D fun D => (q1 (s_ildn (n := 2) (i := 2) rfl) D fun D => (q1 (s_aldn (n := 0) (i := 0) rfl) D fun D => (qC fl_X5_24 rfl D fun D => (q1 (s_ildn (n := 2) (i := 2) rfl) D fun D => (qX (s_callV kX4 rfl ok_X4_peopleIn mo_X4_peopleIn (ch_4_8_ok.2.2.2.2.2.2.2.2.2.2.2.2.2.1.1 rfl) (ch_4_8_ok.2.2.2.2.2.2.2.2.2.2.2.2.2.2.1.1 rfl) (ch_4_8_ok.2.2.2.2.2.2.2.2.2.2.2.2.2.2.2.1.1 rfl)) rfl (by decide) D fun D => (q1 s_iast D fun D => (qL (s_inc (i := 2) (n := 1) (v := 1) (by decide)) (by decide) D fun D => (qG 112 (by decide) D (s_keep [true, true, true, false, false, false] fun _ _ _ h => h))))))))))))))))

set_option maxRecDepth 100000 in
set_option maxHeartbeats 400000 in
theorem sp_49 (Q : Option Value → Hp → Prop) (h : Hp) (hl : LayX h) (hst : hR h 33 0 = some 3) (hs31 : hR h 31 0 = some 3) (n : Nat) (J : Mem) (R P m : Nat) (sz cp : Nat → Nat) (T : Int32) (hn : LayN h n R) (hpre : SPre (hI h) J n R P T) (hfit : Fit (rmI J 4 0) R T) (hT : TU (hI h) m = T) (p i : Nat) (hp : p < P) (hi : i < m) (hb : bt (hI h 34 i) p = true)
    (hgo : ∀ f wh, SV (hI h) J R P m sz cp (p + 1) f wh → wp 22 MX5_settleParties Q 104 [some (.ref 31), some (.ref n), some (.int (nI p)), none, none, none] [] (wI h f)) :
    ∀ (m' c : Nat) (f : Mem) (wh : Nat → Option Nat), m' = R + 1 - c → c ≤ R + 1 → SV (hI h) J R P m sz cp p f wh → f 40 i = 0 → (0 < c → ∀ s, J 60 p = nI s → s < R → ¬ Ext (rmI J 4 0) R T (plF (rmI J 4 0) R T p) p s) → (∀ r, r + 1 < c → ¬ Ext (rmI J 4 0) R T (plF (rmI J 4 0) R T p) p r) → wp 22 MX5_settleParties Q 47 [some (.ref 31), some (.ref n), some (.int (nI p)), some (.int 0), some (.int (nI c)), none] [] (wI h f) := by
  obtain ⟨hR4, hP, h12, h16, hec, hsy, hTg, hns, hil, h22, h4⟩ := hpre
  have hTp : bt T p = true := by rw [← hT]; exact (b_TU _ p m).mpr ⟨i, hi, hb⟩
  obtain ⟨F, hoF, hFq⟩ := plF_ext hR4 hfit p
  have hex : ∃ r, Ext (rmI J 4 0) R T (plF (rmI J 4 0) R T p) p r := ⟨F p, F, hoF, hFq, rfl⟩
  intro m'
  induction m' with
  | zero =>
    intro c f wh hm hc hsv h39 hown hlow
    exfalso
    obtain ⟨r, hr⟩ := hex
    exact hlow r (by have := Ext_lt hTp hr; omega) hr
  | succ m' ih =>
    intro c f wh hm hc hsv h39 hown hlow
    obtain ⟨c1, c2, c3, c4, c5, c6, c7, c8, c9⟩ := hsv
    have hm10 : m ≤ 10 := c5.1.2.1
    have hTf : TU f m = T := by rw [TU_c c4]; exact hT
    have hbf : bt (f 34 i) p = true := by rw [c4]; exact hb
    have hecf := EC_c c1 hec
    have hilf := ilOk_c c1 hil
    rw [hTf] at c9
    have hext : ∀ r, (∃ w, VF f R m sz cp w ∧ stW f m wh w ∧ w i = r) ↔ Ext (rmI J 4 0) R T (plF (rmI J 4 0) R T p) p r := fun r => by
      have := ext_iff (r := r) c5 hecf hR4 hP hsy hns hilf (wh := wh) (p := p) (i := i) (by rw [hTf]; exact c9) hi hbf
      rw [hTf] at this; exact this
    have hl2 : LayX (wI h f) := hl
    have hf := LayN.f (h := wI h f) (show LayN (wI h f) n R from hn)
    have h312 : hR (wI h f) 31 0 = some 3 := hs31
    -- the call of settles
    have h87 : ∀ rm, (rm = if c = 0 then J 60 p else nI (c - 1)) → wp 22 MX5_settleParties Q 85 [some (.ref 31), some (.ref n), some (.int (nI p)), none, some (.int (nI c)), none] [.int rm] (wI h f) := by
      intro rm hrm
      have hrm4 : rm = -1 ∨ ∃ r, r < 4 ∧ rm = nI r := by
        rw [hrm]
        by_cases e : c = 0
        · rw [if_pos e]
          rcases (h22 p hp).2 with q | ⟨s, a, b⟩
          · exact Or.inl q
          · exact Or.inr ⟨s, by omega, b⟩
        · rw [if_neg e]; exact Or.inr ⟨c - 1, by omega, rfl⟩
      have hse : T_X4_settles [.ref 33, .int (nI p), .int rm] (wI h f) (fun x h' => c_X5_settleParties_97 Q [some (.ref 31), some (.ref n), some (.int (nI p)), none, some (.int (nI c)), some (.int rm)] (x.toList ++ []) h') := by
        refine ⟨rfl, hl, hst, R, m, sz, cp, wh, p, i, c5.1, c6, c7, c8, rfl, by omega, hi, hbf, fun j hj hbj => disj c5.1 hj hi hbj hbf, h39, hrm4, fun r er f2 w q1 q2 q3 q4 q5 => ?_, fun hno f2 wh2 q1 q2 q3 q4 => ?_⟩
        · show c_X5_settleParties_97 Q _ [.int 1] (wI h f2)
          have q1' : smP f2 (u2 f 40 i 1) := q1
          have hE := (hext r).mp ⟨w, q3, q4, q5⟩
          have hrR := Ext_lt hTp hE
          have hpick : pick (rmI J 4 0) R T (plF (rmI J 4 0) R T p) p = r := by
            have e60 : rmI J 4 0 60 p = J 60 p := rmI_o J (by decide) p
            by_cases e : c = 0
            · rw [if_pos e] at hrm
              exact pick_own (s := r) (by rw [e60]; exact hrm.symm.trans er) hrR hR4 hE
            · rw [if_neg e] at hrm
              have er2 : r = c - 1 := (nI_eq (by omega) (by omega)).mp (er.symm.trans hrm)
              refine pick_low (fun s hs hsR hEs => ?_) hE (fun j hj => hlow j (by omega))
              rw [e60] at hs
              exact hown (by omega) s hs hsR hEs
          have f2o : ∀ a j, a ≠ 39 → a ≠ 41 → a ≠ 42 → a ≠ 43 → a ≠ 40 → f2 a j = f a j := fun a j a1 a2 a3 a4 a5 => (q1' a j a1 a2 a3 a4).trans (u2_ne (fun z => a5 z.1))
          have hsx2 : sx f2 f := ⟨fun a ha => funext fun j => f2o a j (by omega) (by omega) (by omega) (by omega) (by omega), f2o 33 1 (by decide) (by decide) (by decide) (by decide) (by decide)⟩
          have h33 : f2 34 = f 34 := funext fun j => f2o 34 j (by decide) (by decide) (by decide) (by decide) (by decide)
          have hfam2 : FAM f2 J R P m sz cp := FAM_c hsx2 (f2o 33 2 (by decide) (by decide) (by decide) (by decide) (by decide)) (fun a a1 a2 => funext fun j => f2o a j (by omega) (by omega) (by omega) (by omega) (by omega)) c5
          have h39' : ∀ j, j < m → f2 40 j = if j = i then 1 else f 40 j := fun j _ => by
            rw [q1' 40 j (by decide) (by decide) (by decide) (by decide)]
            unfold u2
            by_cases e : j = i
            · rw [if_pos ⟨rfl, e⟩, if_pos e]
            · rw [if_neg (fun z => e z.2), if_neg e]
          have hst2 := stP_new (f2 := f2) c5 (wh := wh) (w := w) (p := p) (i := i) (r := r) (by rw [hTf]; exact c9) hi hbf h39 h33 h39' q4 q5 (by rw [hTf]; exact hpick)
          have hdone := hgo f2 (fun j => some (w j)) ⟨⟨fun a ha => (hsx2.1 a ha).trans (c1.1 a ha), hsx2.2.trans c1.2⟩, fun a j ha => (f2o a j (by omega) (by omega) (by omega) (by omega) (by omega)).trans (c2 a j ha), fun j => (f2o 33 j (by decide) (by decide) (by decide) (by decide) (by decide)).trans (c3 j), h33.trans c4, hfam2, q2, Or.inl (fun j _ => by simp), fun j _ _ => by simp, by rw [TU_c h33]; exact hst2⟩
          have hl3 : LayX (wI h f2) := hl
          have hf3 := LayN.f (h := wI h f2) (show LayN (wI h f2) n R from hn)
          have h49 : wp 22 MX5_settleParties Q 47 [some (.ref 31), some (.ref n), some (.int (nI p)), some (.int 1), some (.int (nI (c + 1))), none] [] (wI h f2) := by
            refine s_X5_settleParties_47 Q _ _ _ ?_
            generalize wI h f2 = H at hl3 hf3 hdone ⊢
            have hl := hl3
            simp only [b_X5_settleParties_47, lx_pI, lx_wI, lx_t hl, lx_k hl, lx_r hl, lx_l hl, i_push, i_ild, i_ald, i_ist, i_ast, i_inc, i_bin, i_un, i_divs, i_i2l, i_lshl, i_lor, i_dup, i_dup2, i_pop, i_if, i_cmp, i_nul, i_vret, i_iret, i_zret, i_aret, i_keep, keep, lget, lset, ent, i_getI, i_getJ, i_getR, i_getN, i_putI, i_putZ, i_putJ, i_putR, i_iald, i_bald, i_alen, i_aald, i_iast, i_bast, i_aast, i_new, i_newa, i_anew, i_oini, i_callS, i_callV, i_callI, popn, sh4, i_sw, swP, i_copy, i_binS, List.map, Option.toList_none, Option.toList_some, List.append, List.nil_append, List.cons_append, List.length_cons, List.length_nil, List.replicate, Nat.sub_self, Nat.reduceSub, Nat.reduceAdd, hK_pI, hL_pI, hI_pI, hR_pI, hJ_pI, hT_pI, hS_pI, hK_pR, hL_pR, hI_pR, hR_pR, hJ_pR, hT_pR, hS_pR, hK_pJ, hL_pJ, hI_pJ, hR_pJ, hJ_pJ, hT_pJ, hS_pJ, hK_wI, hL_wI, hI_wI, hR_wI, hJ_wI, hT_wI, hS_wI, eq_self, and_true, true_and, and_false, false_and, or_true, true_or, or_false, false_or, if_true, if_false, not_true_eq_false, not_false_eq_true, forall_const, implies_true, false_implies, true_implies, Option.some.injEq, forall_eq', exists_eq_left', reduceCtorEq, Nat.reduceEqDiff, c1, T_X12_in, T_X12_ones, T_X11_within, T_X11_bit, T_X11_isIn, T_X11_oneIfIn, T_J6_bitCount_0f7a4, hf3, show ¬ (1 : Int32) = 0 by decide]
            exact ⟨by decide, by decide, fun _ => hdone, fun _ => hdone⟩
          generalize wI h f2 = H at h49 ⊢
          simp only [c_X5_settleParties_97, i_push, i_ild, i_ald, i_ist, i_ast, i_inc, i_bin, i_un, i_divs, i_i2l, i_lshl, i_lor, i_dup, i_dup2, i_pop, i_if, i_cmp, i_nul, i_vret, i_iret, i_zret, i_aret, i_keep, keep, lget, lset, ent, i_getI, i_getJ, i_getR, i_getN, i_putI, i_putZ, i_putJ, i_putR, i_iald, i_bald, i_alen, i_aald, i_iast, i_bast, i_aast, i_new, i_newa, i_anew, i_oini, i_callS, i_callV, i_callI, popn, sh4, i_sw, swP, i_copy, i_binS, List.map, Option.toList_none, Option.toList_some, List.append, List.nil_append, List.cons_append, List.length_cons, List.length_nil, List.replicate, Nat.sub_self, Nat.reduceSub, Nat.reduceAdd, hK_pI, hL_pI, hI_pI, hR_pI, hJ_pI, hT_pI, hS_pI, hK_pR, hL_pR, hI_pR, hR_pR, hJ_pR, hT_pR, hS_pR, hK_pJ, hL_pJ, hI_pJ, hR_pJ, hJ_pJ, hT_pJ, hS_pJ, hK_wI, hL_wI, hI_wI, hR_wI, hJ_wI, hT_wI, hS_wI, eq_self, and_true, true_and, and_false, false_and, or_true, true_or, or_false, false_or, if_true, if_false, not_true_eq_false, not_false_eq_true, forall_const, implies_true, false_implies, true_implies, Option.some.injEq, forall_eq', exists_eq_left', reduceCtorEq, Nat.reduceEqDiff, c1, T_X12_in, T_X12_ones, T_X11_within, T_X11_bit, T_X11_isIn, T_X11_oneIfIn, T_J6_bitCount_0f7a4, nI_1]
          exact h49
        · show c_X5_settleParties_97 Q _ [.int 0] (wI h f2)
          have q1' : smP f2 f := q1
          have hsx2 : sx f2 f := ⟨fun a ha => q1'.r a (by omega), q1' 33 1 (by decide) (by decide) (by decide) (by decide)⟩
          have h33 : f2 34 = f 34 := q1'.r 34 (by decide)
          have h39r : f2 40 = f 40 := q1'.r 40 (by decide)
          have hnoE : ∀ r, rm = nI r → r < R → ¬ Ext (rmI J 4 0) R T (plF (rmI J 4 0) R T p) p r := fun r er _ hE => by
            obtain ⟨w, a, b, d⟩ := (hext r).mpr hE
            exact hno ⟨r, w, er, a, b, d⟩
          have hagree : ∀ j, j < m → ¬ f 40 j = 0 → wh2 j = wh j := q4
          have hst2 : stP f2 J R m T wh2 p := by
            refine ⟨fun j hj => by rw [h39r, h33]; exact c9.1 j hj, fun j hj q hq hbq => ?_⟩
            rw [h33] at hbq
            rw [hagree j hj ((c9.1 j hj).mpr ⟨q, hq, hbq⟩)]
            exact c9.2 j hj q hq hbq
          have hfo2 : fullO f2 m wh2 := by unfold fullO; rw [h39r]; exact q3
          have hgo2 := ih (c + 1) f2 wh2 (by omega) (by omega) ⟨⟨fun a ha => (hsx2.1 a ha).trans (c1.1 a ha), hsx2.2.trans c1.2⟩, fun a j ha => (q1' a j (by omega) (by omega) (by omega) (by omega)).trans (c2 a j ha), fun j => (q1' 33 j (by decide) (by decide) (by decide) (by decide)).trans (c3 j), h33.trans c4, FAM_c hsx2 (q1' 33 2 (by decide) (by decide) (by decide) (by decide)) (fun a a1 a2 => q1'.r a (by omega)) c5, q2, hfo2, fun j hj hz => by rw [h39r] at hz; rw [hagree j hj hz]; exact c8 j hj hz, by rw [TU_c h33, hTf]; exact hst2⟩ (by rw [h39r]; exact h39) (fun _ s hs hsR => by
              by_cases e : c = 0
              · rw [if_pos e] at hrm
                exact hnoE s (hrm.trans hs) hsR
              · exact hown (by omega) s hs hsR) (fun r hr => by
              by_cases e : r + 1 < c
              · exact hlow r e
              · have e2 : ¬ c = 0 := by omega
                rw [if_neg e2] at hrm
                intro hE
                exact hnoE r (by rw [hrm]; congr 1; omega) (Ext_lt hTp hE) hE)
          generalize wI h f2 = H at hgo2 ⊢
          simp only [c_X5_settleParties_97, i_push, i_ild, i_ald, i_ist, i_ast, i_inc, i_bin, i_un, i_divs, i_i2l, i_lshl, i_lor, i_dup, i_dup2, i_pop, i_if, i_cmp, i_nul, i_vret, i_iret, i_zret, i_aret, i_keep, keep, lget, lset, ent, i_getI, i_getJ, i_getR, i_getN, i_putI, i_putZ, i_putJ, i_putR, i_iald, i_bald, i_alen, i_aald, i_iast, i_bast, i_aast, i_new, i_newa, i_anew, i_oini, i_callS, i_callV, i_callI, popn, sh4, i_sw, swP, i_copy, i_binS, List.map, Option.toList_none, Option.toList_some, List.append, List.nil_append, List.cons_append, List.length_cons, List.length_nil, List.replicate, Nat.sub_self, Nat.reduceSub, Nat.reduceAdd, hK_pI, hL_pI, hI_pI, hR_pI, hJ_pI, hT_pI, hS_pI, hK_pR, hL_pR, hI_pR, hR_pR, hJ_pR, hT_pR, hS_pR, hK_pJ, hL_pJ, hI_pJ, hR_pJ, hJ_pJ, hT_pJ, hS_pJ, hK_wI, hL_wI, hI_wI, hR_wI, hJ_wI, hT_wI, hS_wI, eq_self, and_true, true_and, and_false, false_and, or_true, true_or, or_false, false_or, if_true, if_false, not_true_eq_false, not_false_eq_true, forall_const, implies_true, false_implies, true_implies, Option.some.injEq, forall_eq', exists_eq_left', reduceCtorEq, Nat.reduceEqDiff, c1, T_X12_in, T_X12_ones, T_X11_within, T_X11_bit, T_X11_isIn, T_X11_oneIfIn, T_J6_bitCount_0f7a4, nI_1]
          exact hgo2
      refine s_X5_settleParties_85 Q _ _ _ ?_
      generalize wI h f = H at hl2 hse ⊢
      have hl := hl2
      simp only [b_X5_settleParties_85, lx_pI, lx_wI, lx_t hl, lx_k hl, lx_r hl, lx_l hl, i_push, i_ild, i_ald, i_ist, i_ast, i_inc, i_bin, i_un, i_divs, i_i2l, i_lshl, i_lor, i_dup, i_dup2, i_pop, i_if, i_cmp, i_nul, i_vret, i_iret, i_zret, i_aret, i_keep, keep, lget, lset, ent, i_getI, i_getJ, i_getR, i_getN, i_putI, i_putZ, i_putJ, i_putR, i_iald, i_bald, i_alen, i_aald, i_iast, i_bast, i_aast, i_new, i_newa, i_anew, i_oini, i_callS, i_callV, i_callI, popn, sh4, i_sw, swP, i_copy, i_binS, List.map, Option.toList_none, Option.toList_some, List.append, List.nil_append, List.cons_append, List.length_cons, List.length_nil, List.replicate, Nat.sub_self, Nat.reduceSub, Nat.reduceAdd, hK_pI, hL_pI, hI_pI, hR_pI, hJ_pI, hT_pI, hS_pI, hK_pR, hL_pR, hI_pR, hR_pR, hJ_pR, hT_pR, hS_pR, hK_pJ, hL_pJ, hI_pJ, hR_pJ, hJ_pJ, hT_pJ, hS_pJ, hK_wI, hL_wI, hI_wI, hR_wI, hJ_wI, hT_wI, hS_wI, eq_self, and_true, true_and, and_false, false_and, or_true, true_or, or_false, false_or, if_true, if_false, not_true_eq_false, not_false_eq_true, forall_const, implies_true, false_implies, true_implies, Option.some.injEq, forall_eq', exists_eq_left', reduceCtorEq, Nat.reduceEqDiff, c1, T_X12_in, T_X12_ones, T_X11_within, T_X11_bit, T_X11_isIn, T_X11_oneIfIn, T_J6_bitCount_0f7a4]
      exact hse
    have e22 : hI (wI h f) 22 p = J 60 p := by
      show f 22 p = _
      rw [c1.1 22 (by decide)]; exact (h22 p hp).1
    have hcR : ¬ nI R < nI c := nI_nlt (by omega) (by omega)
    have hz : nI c = 0 ↔ c = 0 := nI_eq (b := 0) (by omega) (by decide)
    refine s_X5_settleParties_47 Q _ _ _ ?_
    generalize wI h f = H at hl2 hf h312 e22 h87 ⊢
    have hl := hl2
    simp only [b_X5_settleParties_47, lx_pI, lx_wI, lx_t hl, lx_k hl, lx_r hl, lx_l hl, i_push, i_ild, i_ald, i_ist, i_ast, i_inc, i_bin, i_un, i_divs, i_i2l, i_lshl, i_lor, i_dup, i_dup2, i_pop, i_if, i_cmp, i_nul, i_vret, i_iret, i_zret, i_aret, i_keep, keep, lget, lset, ent, i_getI, i_getJ, i_getR, i_getN, i_putI, i_putZ, i_putJ, i_putR, i_iald, i_bald, i_alen, i_aald, i_iast, i_bast, i_aast, i_new, i_newa, i_anew, i_oini, i_callS, i_callV, i_callI, popn, sh4, i_sw, swP, i_copy, i_binS, List.map, Option.toList_none, Option.toList_some, List.append, List.nil_append, List.cons_append, List.length_cons, List.length_nil, List.replicate, Nat.sub_self, Nat.reduceSub, Nat.reduceAdd, hK_pI, hL_pI, hI_pI, hR_pI, hJ_pI, hT_pI, hS_pI, hK_pR, hL_pR, hI_pR, hR_pR, hJ_pR, hT_pR, hS_pR, hK_pJ, hL_pJ, hI_pJ, hR_pJ, hJ_pJ, hT_pJ, hS_pJ, hK_wI, hL_wI, hI_wI, hR_wI, hJ_wI, hT_wI, hS_wI, eq_self, and_true, true_and, and_false, false_and, or_true, true_or, or_false, false_or, if_true, if_false, not_true_eq_false, not_false_eq_true, forall_const, implies_true, false_implies, true_implies, Option.some.injEq, forall_eq', exists_eq_left', reduceCtorEq, Nat.reduceEqDiff, c1, T_X12_in, T_X12_ones, T_X11_within, T_X11_bit, T_X11_isIn, T_X11_oneIfIn, T_J6_bitCount_0f7a4, h312, hf, hcR, hz, cl_nI (show p < 2147483648 by omega), in_nI (show p < 24 by omega) (by decide), e22]
    refine ⟨by decide, by decide, fun z => absurd z hcR, fun _ => ⟨fun z => h87 _ (by rw [if_pos z]), fun z => h87 _ ?_⟩⟩
    rw [if_neg z]
    obtain ⟨d, rfl⟩ : ∃ d, c = d + 1 := ⟨c - 1, by omega⟩
    rw [nI_pred]; rfl
/-- the rooms are written down -/
def inM (f : Mem) (a r : Nat) : Mem := fun x i => if x = a ∧ i < r then f 41 i else f x i
theorem inM_0 (f : Mem) (a : Nat) : inM f a 0 = f := by
  funext x i
  exact if_neg (fun z => by omega)
theorem inM_s (f : Mem) (a r : Nat) (ha : a ≠ 41) : u2 (inM f a r) a r (inM f a r 41 r) = inM f a (r + 1) := by
  have e : inM f a r 41 r = f 41 r := if_neg (fun z => ha z.1.symm)
  funext x i
  rw [e]
  unfold u2 inM
  by_cases c : x = a ∧ i = r
  · rw [if_pos c, if_pos ⟨c.1, by omega⟩, c.2]
  · rw [if_neg c]
    by_cases c2 : x = a ∧ i < r
    · rw [if_pos c2, if_pos ⟨c2.1, by omega⟩]
    · rw [if_neg c2, if_neg (fun z => c2 ⟨z.1, by
        have : i ≠ r := fun y => c ⟨z.1, y⟩
        omega⟩)]
set_option maxRecDepth 100000 in
set_option maxHeartbeats 400000 in
theorem sp_114 (Q : Option Value → Hp → Prop) (h : Hp) (hl : LayX h) (n R : Nat) (hR4 : R ≤ 4) (hn : LayN h n R) (f : Mem) (hq : Q none (wI h (inM f (n + 3) R))) :
    ∀ (m r : Nat), m = R - r → r ≤ R → wp 22 MX5_settleParties Q 112 [some (.ref 31), some (.ref n), some (.int (nI r)), none, none, none] [] (wI h (inM f (n + 3) r)) := by
  have hn90 := hn.1
  intro m
  induction m with
  | zero =>
    intro r hm hr
    have e : r = R := by omega
    subst e
    have hl2 : LayX (wI h (inM f (n + 3) r)) := hl
    have hf := LayN.f (h := wI h (inM f (n + 3) r)) (show LayN (wI h (inM f (n + 3) r)) n r from hn)
    refine s_X5_settleParties_112 Q _ _ _ ?_
    generalize wI h (inM f (n + 3) r) = H at hl2 hf hq ⊢
    have hl := hl2
    simp only [b_X5_settleParties_112, lx_pI, lx_wI, lx_t hl, lx_k hl, lx_r hl, lx_l hl, i_push, i_ild, i_ald, i_ist, i_ast, i_inc, i_bin, i_un, i_divs, i_i2l, i_lshl, i_lor, i_dup, i_dup2, i_pop, i_if, i_cmp, i_nul, i_vret, i_iret, i_zret, i_aret, i_keep, keep, lget, lset, ent, i_getI, i_getJ, i_getR, i_getN, i_putI, i_putZ, i_putJ, i_putR, i_iald, i_bald, i_alen, i_aald, i_iast, i_bast, i_aast, i_new, i_newa, i_anew, i_oini, i_callS, i_callV, i_callI, popn, sh4, i_sw, swP, i_copy, i_binS, List.map, Option.toList_none, Option.toList_some, List.append, List.nil_append, List.cons_append, List.length_cons, List.length_nil, List.replicate, Nat.sub_self, Nat.reduceSub, Nat.reduceAdd, hK_pI, hL_pI, hI_pI, hR_pI, hJ_pI, hT_pI, hS_pI, hK_pR, hL_pR, hI_pR, hR_pR, hJ_pR, hT_pR, hS_pR, hK_pJ, hL_pJ, hI_pJ, hR_pJ, hJ_pJ, hT_pJ, hS_pJ, hK_wI, hL_wI, hI_wI, hR_wI, hJ_wI, hT_wI, hS_wI, eq_self, and_true, true_and, and_false, false_and, or_true, true_or, or_false, false_or, if_true, if_false, not_true_eq_false, not_false_eq_true, forall_const, implies_true, false_implies, true_implies, Option.some.injEq, forall_eq', exists_eq_left', reduceCtorEq, Nat.reduceEqDiff, c1, T_X12_in, T_X12_ones, T_X11_within, T_X11_bit, T_X11_isIn, T_X11_oneIfIn, T_J6_bitCount_0f7a4, hf]
    exact ⟨by decide, by decide, fun _ => hq, fun z => absurd (nI_le (Nat.le_refl _) (by omega)) z⟩
  | succ m ih =>
    intro r hm hr
    have hgo := ih (r + 1) (by omega) (by omega)
    rw [← inM_s f (n + 3) r (by omega)] at hgo
    have hH : wI h (u2 (inM f (n + 3) r) (n + 3) r (inM f (n + 3) r 41 r)) = pI (wI h (inM f (n + 3) r)) (n + 3) r (hI (wI h (inM f (n + 3) r)) 41 r) := rfl
    rw [hH] at hgo
    have hl2 : LayX (wI h (inM f (n + 3) r)) := hl
    have hf := LayN.f (h := wI h (inM f (n + 3) r)) (show LayN (wI h (inM f (n + 3) r)) n R from hn)
    refine s_X5_settleParties_112 Q _ _ _ ?_
    generalize wI h (inM f (n + 3) r) = H at hl2 hf hgo ⊢
    have hl := hl2
    have hpi : T_X4_peopleIn [.ref 33, .int (nI r)] H (fun x h' => c_X5_settleParties_134 Q [some (.ref 31), some (.ref n), some (.int (nI r)), none, none, none] (x.toList ++ [.int (nI r), .ref (n + 3)]) h') := by
      unfold T_X4_peopleIn
      simp only [b_X4_peopleIn_0, c_X5_settleParties_134, lx_pI, lx_wI, lx_t hl, lx_k hl, lx_r hl, lx_l hl, i_push, i_ild, i_ald, i_ist, i_ast, i_inc, i_bin, i_un, i_divs, i_i2l, i_lshl, i_lor, i_dup, i_dup2, i_pop, i_if, i_cmp, i_nul, i_vret, i_iret, i_zret, i_aret, i_keep, keep, lget, lset, ent, i_getI, i_getJ, i_getR, i_getN, i_putI, i_putZ, i_putJ, i_putR, i_iald, i_bald, i_alen, i_aald, i_iast, i_bast, i_aast, i_new, i_newa, i_anew, i_oini, i_callS, i_callV, i_callI, popn, sh4, i_sw, swP, i_copy, i_binS, List.map, Option.toList_none, Option.toList_some, List.append, List.nil_append, List.cons_append, List.length_cons, List.length_nil, List.replicate, Nat.sub_self, Nat.reduceSub, Nat.reduceAdd, hK_pI, hL_pI, hI_pI, hR_pI, hJ_pI, hT_pI, hS_pI, hK_pR, hL_pR, hI_pR, hR_pR, hJ_pR, hT_pR, hS_pR, hK_pJ, hL_pJ, hI_pJ, hR_pJ, hJ_pJ, hT_pJ, hS_pJ, hK_wI, hL_wI, hI_wI, hR_wI, hJ_wI, hT_wI, hS_wI, eq_self, and_true, true_and, and_false, false_and, or_true, true_or, or_false, false_or, if_true, if_false, not_true_eq_false, not_false_eq_true, forall_const, implies_true, false_implies, true_implies, Option.some.injEq, forall_eq', exists_eq_left', reduceCtorEq, Nat.reduceEqDiff, c1, T_X12_in, T_X12_ones, T_X11_within, T_X11_bit, T_X11_isIn, T_X11_oneIfIn, T_J6_bitCount_0f7a4, hf, cl_nI (show r < 2147483648 by omega), in_nI (show r < 4 by omega) (by decide), in_nI (show r < R by omega) (by omega), nI_1]
      exact hgo
    simp only [b_X5_settleParties_112, lx_pI, lx_wI, lx_t hl, lx_k hl, lx_r hl, lx_l hl, i_push, i_ild, i_ald, i_ist, i_ast, i_inc, i_bin, i_un, i_divs, i_i2l, i_lshl, i_lor, i_dup, i_dup2, i_pop, i_if, i_cmp, i_nul, i_vret, i_iret, i_zret, i_aret, i_keep, keep, lget, lset, ent, i_getI, i_getJ, i_getR, i_getN, i_putI, i_putZ, i_putJ, i_putR, i_iald, i_bald, i_alen, i_aald, i_iast, i_bast, i_aast, i_new, i_newa, i_anew, i_oini, i_callS, i_callV, i_callI, popn, sh4, i_sw, swP, i_copy, i_binS, List.map, Option.toList_none, Option.toList_some, List.append, List.nil_append, List.cons_append, List.length_cons, List.length_nil, List.replicate, Nat.sub_self, Nat.reduceSub, Nat.reduceAdd, hK_pI, hL_pI, hI_pI, hR_pI, hJ_pI, hT_pI, hS_pI, hK_pR, hL_pR, hI_pR, hR_pR, hJ_pR, hT_pR, hS_pR, hK_pJ, hL_pJ, hI_pJ, hR_pJ, hJ_pJ, hT_pJ, hS_pJ, hK_wI, hL_wI, hI_wI, hR_wI, hJ_wI, hT_wI, hS_wI, eq_self, and_true, true_and, and_false, false_and, or_true, true_or, or_false, false_or, if_true, if_false, not_true_eq_false, not_false_eq_true, forall_const, implies_true, false_implies, true_implies, Option.some.injEq, forall_eq', exists_eq_left', reduceCtorEq, Nat.reduceEqDiff, c1, T_X12_in, T_X12_ones, T_X11_within, T_X11_bit, T_X11_isIn, T_X11_oneIfIn, T_J6_bitCount_0f7a4, hf]
    exact ⟨by decide, by decide, fun z => absurd z (nI_ge (by omega) (by omega)), fun _ => hpi⟩
