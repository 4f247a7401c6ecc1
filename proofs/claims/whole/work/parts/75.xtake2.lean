/-! ===== the class: takes ===== -/
theorem ilF_c {f g : Mem} (h : f 19 = g 19) (x : Int32) (P : Nat) : ilF f x P = ilF g x P := by unfold ilF; rw [h]
theorem foS_c {f g : Mem} (h : f 23 = g 23) (x : Int32) : ∀ P, foS f x P = foS g x P
  | 0 => rfl
  | P + 1 => by rw [foS, foS, foS_c h x P, h]
theorem suF_c {f g : Mem} (h : ∀ a, a < 33 → f a = g a) (h1 : f 33 1 = g 33 1) (r : Nat) (x : Int32) (P : Nat) : suF f r x P = suF g r x P := by
  unfold suF cpX aok
  rw [h 12 (by decide), h 13 (by decide), h 14 (by decide), h 15 (by decide), h 16 (by decide), h 18 (by decide), h1]
theorem rfS_c {f g : Mem} (h : ∀ a, a < 33 → f a = g a) (h1 : f 33 1 = g 33 1) (x : Int32) (P : Nat) : ∀ R, rfS f x P R = rfS g x P R
  | 0 => rfl
  | R + 1 => by rw [rfS, rfS, rfS_c h h1 x P R, suF_c h h1]
theorem rfF_c {f g : Mem} (h : ∀ a, a < 33 → f a = g a) (h1 : f 33 1 = g 33 1) (x : Int32) (R P : Nat) : rfF f x R P = rfF g x R P := by
  unfold rfF
  rw [ilF_c (h 19 (by decide)), foS_c (h 23 (by decide)), rfS_c h h1]
theorem VF_n {f g : Mem} {R n : Nat} {sz cp : Nat → Nat} {w : Nat → Nat} (h : ∀ a i, i < n → 34 ≤ a → a ≤ 38 → f a i = g a i) (hv : VF f R n sz cp w) : VF g R n sz cp w := by
  obtain ⟨v1, v2, v3⟩ := hv
  refine ⟨fun i hi => ?_, fun i j hi hj hij e => ?_, v3⟩
  · rw [← h 38 i hi (by decide) (by decide)]; exact v1 i hi
  · rw [← h 36 i hi (by decide) (by decide), ← h 36 j hj (by decide) (by decide), ← h 37 i hi (by decide) (by decide), ← h 34 j hj (by decide) (by decide)]
    exact v2 i j hi hj hij e
theorem MF_n {f g : Mem} {n : Nat} {w : Nat → Nat} (h : ∀ a i, i < n → 34 ≤ a → a ≤ 38 → f a i = g a i) (h9 : ∀ i, i < n → f 40 i = g 40 i) (hm : MF f n w) : MF g n w := by
  intro i j hij hj s1 s2 hal
  have hi : i < n := by omega
  refine hm i j hij hj (by rw [h9 i hi]; exact s1) (by rw [h9 j hj]; exact s2) ?_
  unfold alk at hal ⊢
  rw [h 35 i hi (by decide) (by decide), h 35 j hj (by decide) (by decide), h 36 i hi (by decide) (by decide), h 36 j hj (by decide) (by decide), h 37 i hi (by decide) (by decide), h 37 j hj (by decide) (by decide), h 38 i hi (by decide) (by decide), h 38 j hj (by decide) (by decide)]
  exact hal
theorem PD.drop {f : Mem} {R n : Nat} {sz cp : Nat → Nat} {g : Int32} {wh : Nat → Option Nat} (hd : PD f R (n + 1) (sAd sz n g) cp wh) (hn : wh n = none) {f2 : Mem} (h2 : ∀ a i, 34 ≤ a → f2 a i = f a i) : PD f2 R n sz cp wh := by
  obtain ⟨d1, d2, d3, d4⟩ := hd
  have hu : ∀ r, usd wh (sAd sz n g) (n + 1) r = usd wh sz n r := fun r => by
    show fb_sm _ (n + 1) = _
    rw [fb_sm_succ, hn, if_neg (by simp), Nat.add_zero]
    refine fb_sm_cong (fun i hi => ?_)
    unfold sAd
    rw [if_neg (show ¬ i = n by omega)]
  refine ⟨fun i hi => ?_, fun r hr => ?_, fun r hr x => ?_, fun i j hi hj hij r h1 h3 => ?_⟩
  · rw [h2 39 i (by decide), h2 38 i (by decide), h2 36 i (by decide)]
    refine ⟨(d1 i (by omega)).1, fun r hr => ?_⟩
    rw [h2 42 r (by decide)]
    exact (d1 i (by omega)).2 r hr
  · rw [h2 43 r (by decide), ← hu]; exact d2 r hr
  · rw [h2 41 r (by decide), d3 r hr x]
    constructor
    · rintro ⟨i, a, b, c⟩
      have : i ≠ n := fun z => by rw [z, hn] at b; cases b
      exact ⟨i, by omega, b, by rw [h2 34 i (by decide)]; exact c⟩
    · rintro ⟨i, a, b, c⟩
      rw [h2 34 i (by decide)] at c
      exact ⟨i, by omega, b, c⟩
  · rw [h2 37 i (by decide), h2 34 j (by decide)]
    exact d4 i j (by omega) (by omega) hij r h1 h3
def T_X4_takes : Tr := fun av h Q => match av with
  | [.ref o, .int g] => o = 33 ∧ LayX h ∧ hR h 33 0 = some 3 ∧ ∃ R n sz cp w P, PS (hI h) R n sz cp ∧ PD (hI h) R n sz cp (fun i => some (w i)) ∧ MF (hI h) n w ∧ (∀ i, i < n → hI h 40 i = 0) ∧ n < 10 ∧ ¬ g = 0 ∧ pct g ≤ 24 ∧ (∀ i, i < n → hI h 34 i &&& g = 0) ∧ (∀ i, i < n → (hI h 37 i &&& g = 0 ↔ foS (hI h) g P &&& hI h 34 i = 0)) ∧ P ≤ 24 ∧ hI h 16 0 = nI P ∧ ilOk (hI h) P ∧
      (∀ f w', smP f (addM (hI h) n g (ilF (hI h) g P) (foS (hI h) g P) (rfF (hI h) g R P)) → PD f R (n + 1) (sAd sz n g) cp (fun i => some (w' i)) → VF (addM (hI h) n g (ilF (hI h) g P) (foS (hI h) g P) (rfF (hI h) g R P)) R (n + 1) (sAd sz n g) cp w' → MF (addM (hI h) n g (ilF (hI h) g P) (foS (hI h) g P) (rfF (hI h) g R P)) (n + 1) w' → Q (some (.int 1)) (wI h f)) ∧
      ((¬ ∃ w', VF (addM (hI h) n g (ilF (hI h) g P) (foS (hI h) g P) (rfF (hI h) g R P)) R (n + 1) (sAd sz n g) cp w') → ∀ f w', smP f (u2 (addM (hI h) n g (ilF (hI h) g P) (foS (hI h) g P) (rfF (hI h) g R P)) 33 2 (nI n)) → PD f R n sz cp (fun i => some (w' i)) → VF (hI h) R n sz cp w' → MF (hI h) n w' → Q (some (.int 0)) (wI h f))
  | _ => False
def L_X4_takes : List UInt8 := [42, 180, 0, 51, 16, 10, 161, 0, 5, 3, 172, 42, 180, 0, 9, 42, 180, 0, 51, 27, 79, 42, 180, 0, 15, 42, 180, 0, 51, 27, 184, 0, 97, 79, 42, 180, 0, 18, 42, 180, 0, 51, 42, 27, 182, 0, 69, 79, 42, 180, 0, 21, 42, 180, 0, 51, 42, 27, 182, 0, 73, 79, 42, 180, 0, 24, 42, 180, 0, 51, 42, 27, 182, 0, 121, 79, 42, 180, 0, 27, 42, 180, 0, 51, 2, 79, 42, 180, 0, 30, 42, 180, 0, 51, 3, 84, 42, 89, 180, 0, 51, 4, 96, 181, 0, 51, 42, 3, 182, 0, 124, 153, 0, 5, 4, 172, 42, 182, 0, 128, 42, 3, 182, 0, 124, 153, 0, 5, 4, 172, 42, 89, 180, 0, 51, 4, 100, 181, 0, 51, 42, 3, 182, 0, 124, 87, 3, 172]
theorem Lc_X4_takes : MX4_takes.2.1 = ⟨L_X4_takes.toArray⟩ := rfl
theorem D_X4_takes_0 : dseq MX4_takes.2.1 0 [(.aload_n 0, 1), (.getfield 51, 3), (.bipush 10, 2), (.if_icmp .lt 5, 3), (.iconst 0, 1), (.ireturn, 1)] := dq Lc_X4_takes 0 _ (by decide +kernel)
theorem D_X4_takes_11 : dseq MX4_takes.2.1 11 [(.aload_n 0, 1), (.getfield 9, 3), (.aload_n 0, 1), (.getfield 51, 3), (.iload_n 1, 1), (.iastore, 1), (.aload_n 0, 1), (.getfield 15, 3), (.aload_n 0, 1), (.getfield 51, 3), (.iload_n 1, 1), (.invokestatic 97, 3), (.iastore, 1), (.aload_n 0, 1), (.getfield 18, 3), (.aload_n 0, 1), (.getfield 51, 3), (.aload_n 0, 1), (.iload_n 1, 1), (.invokevirtual 69, 3), (.iastore, 1), (.aload_n 0, 1), (.getfield 21, 3), (.aload_n 0, 1), (.getfield 51, 3), (.aload_n 0, 1), (.iload_n 1, 1), (.invokevirtual 73, 3), (.iastore, 1), (.aload_n 0, 1), (.getfield 24, 3), (.aload_n 0, 1), (.getfield 51, 3), (.aload_n 0, 1), (.iload_n 1, 1), (.invokevirtual 121, 3), (.iastore, 1), (.aload_n 0, 1), (.getfield 27, 3), (.aload_n 0, 1), (.getfield 51, 3), (.iconst (-1), 1), (.iastore, 1), (.aload_n 0, 1), (.getfield 30, 3), (.aload_n 0, 1), (.getfield 51, 3), (.iconst 0, 1), (.bastore, 1), (.aload_n 0, 1), (.dup, 1), (.getfield 51, 3), (.iconst 1, 1), (.iadd, 1), (.putfield 51, 3), (.aload_n 0, 1), (.iconst 0, 1), (.invokevirtual 124, 3), (.ifCond .eq 5, 3), (.iconst 1, 1), (.ireturn, 1)] := dq Lc_X4_takes 11 _ (by decide +kernel)
theorem D_X4_takes_116 : dseq MX4_takes.2.1 116 [(.aload_n 0, 1), (.invokevirtual 128, 3), (.aload_n 0, 1), (.iconst 0, 1), (.invokevirtual 124, 3), (.ifCond .eq 5, 3), (.iconst 1, 1), (.ireturn, 1)] := dq Lc_X4_takes 116 _ (by decide +kernel)
theorem D_X4_takes_130 : dseq MX4_takes.2.1 130 [(.aload_n 0, 1), (.dup, 1), (.getfield 51, 3), (.iconst 1, 1), (.isub, 1), (.putfield 51, 3), (.aload_n 0, 1), (.iconst 0, 1), (.invokevirtual 124, 3), (.pop, 1), (.iconst 0, 1), (.ireturn, 1)] := dq Lc_X4_takes 130 _ (by decide +kernel)
def c_X4_takes_145 (Q : Option Value → Hp → Prop) : Kt := i_pop (i_push (.int 0) (i_zret Q))
def c_X4_takes_125 (Q : Option Value → Hp → Prop) : Kt := i_if (fun x => x = 0) (i_ald 0 (i_dup (i_getI 4 2 (i_push (.int 1) (i_bin (fun x y => x - y) (i_putI 4 2 (i_ald 0 (i_push (.int 0) (i_callV 4 1 T_X4_placeRest (c_X4_takes_145 Q)))))))))) (i_push (.int 1) (i_zret Q))
def c_X4_takes_120 (Q : Option Value → Hp → Prop) : Kt := i_ald 0 (i_push (.int 0) (i_callV 4 1 T_X4_placeRest (c_X4_takes_125 Q)))
def c_X4_takes_111 (Q : Option Value → Hp → Prop) : Kt := i_if (fun x => x = 0) (i_ald 0 (i_callV 4 0 T_X4_takeOutUnsettled (c_X4_takes_120 Q))) (i_push (.int 1) (i_zret Q))
def c_X4_takes_75 (Q : Option Value → Hp → Prop) : Kt := i_iast (i_ald 0 (i_getR 4 8 (i_ald 0 (i_getI 4 2 (i_push (.int (-1)) (i_iast (i_ald 0 (i_getR 4 9 (i_ald 0 (i_getI 4 2 (i_push (.int 0) (i_bast (i_ald 0 (i_dup (i_getI 4 2 (i_push (.int 1) (i_bin (fun x y => x + y) (i_putI 4 2 (i_ald 0 (i_push (.int 0) (i_callV 4 1 T_X4_placeRest (c_X4_takes_111 Q))))))))))))))))))))))
def c_X4_takes_61 (Q : Option Value → Hp → Prop) : Kt := i_iast (i_ald 0 (i_getR 4 7 (i_ald 0 (i_getI 4 2 (i_ald 0 (i_ild 1 (i_callV 4 1 T_X4_roomsFor (c_X4_takes_75 Q))))))))
def c_X4_takes_47 (Q : Option Value → Hp → Prop) : Kt := i_iast (i_ald 0 (i_getR 4 6 (i_ald 0 (i_getI 4 2 (i_ald 0 (i_ild 1 (i_callV 4 1 T_X4_foesOf (c_X4_takes_61 Q))))))))
def b_X4_takes_0 (Q : Option Value → Hp → Prop) : Kt := i_ald 0 (i_getI 4 2 (i_push (.int 10) (i_cmp (fun x y => x < y) (i_ald 0 (i_getR 4 3 (i_ald 0 (i_getI 4 2 (i_ild 1 (i_iast (i_ald 0 (i_getR 4 4 (i_ald 0 (i_getI 4 2 (i_ild 1 (i_callS 1 T_J6_bitCount_0f7a4 (i_iast (i_ald 0 (i_getR 4 5 (i_ald 0 (i_getI 4 2 (i_ald 0 (i_ild 1 (i_callV 4 1 T_X4_illOf (c_X4_takes_47 Q))))))))))))))))))))) (i_push (.int 0) (i_zret Q)))))
set_option maxRecDepth 100000 in
theorem s_X4_takes_0 (Q : Option Value → Hp → Prop) : ∀ A st h, b_X4_takes_0 Q A st h → wp 21 MX4_takes Q 0 A st h := (q1 (s_aldn (n := 0) (i := 0) rfl) D_X4_takes_0 fun D => (qC fl_X4_51 rfl D fun D => (q1 (s_bipush (n := 10) (v := 10) (by decide)) D fun D => (qB s_cmplt 11 (by decide) D (q1 (s_aldn (n := 0) (i := 0) rfl) D_X4_takes_11 fun D => (qC fl_X4_9 rfl D fun D => (q1 (s_aldn (n := 0) (i := 0) rfl) D fun D => (qC fl_X4_51 rfl D fun D => (q1 (s_ildn (n := 1) (i := 1) rfl) D fun D => (q1 s_iast D fun D => (q1 (s_aldn (n := 0) (i := 0) rfl) D fun D => (qC fl_X4_15 rfl D fun D => (q1 (s_aldn (n := 0) (i := 0) rfl) D fun D => (qC fl_X4_51 rfl D fun D => (q1 (s_ildn (n := 1) (i := 1) rfl) D fun D => (qX (s_callS ok_J6_bitCount_0f7a4 mo_J6_bitCount_0f7a4 (ch_4_3_ok.2.2.2.2.2.2.2.2.2.2.2.1.1 rfl) (ch_3_9_ok.2.2.2.2.1.1 rfl)) rfl (by decide) D fun D => (q1 s_iast D fun D => (q1 (s_aldn (n := 0) (i := 0) rfl) D fun D => (qC fl_X4_18 rfl D fun D => (q1 (s_aldn (n := 0) (i := 0) rfl) D fun D => (qC fl_X4_51 rfl D fun D => (q1 (s_aldn (n := 0) (i := 0) rfl) D fun D => (q1 (s_ildn (n := 1) (i := 1) rfl) D fun D => (qX (s_callV kX4 rfl ok_X4_illOf mo_X4_illOf (ch_4_2_ok.2.2.2.2.2.2.2.2.2.2.2.2.2.2.1.1 rfl) (ch_4_3_ok.1.1 rfl) (pv_1.2.2.2.2.1)) rfl (by decide) D fun D => (q1 s_iast D fun D => (q1 (s_aldn (n := 0) (i := 0) rfl) D fun D => (qC fl_X4_21 rfl D fun D => (q1 (s_aldn (n := 0) (i := 0) rfl) D fun D => (qC fl_X4_51 rfl D fun D => (q1 (s_aldn (n := 0) (i := 0) rfl) D fun D => (q1 (s_ildn (n := 1) (i := 1) rfl) D fun D => (qX (s_callV kX4 rfl ok_X4_foesOf mo_X4_foesOf (ch_4_3_ok.2.2.2.1.1 rfl) (ch_4_3_ok.2.2.2.2.2.1.1 rfl) (pv_1.2.2.2.2.2.1)) rfl (by decide) D fun D => (q1 s_iast D fun D => (q1 (s_aldn (n := 0) (i := 0) rfl) D fun D => (qC fl_X4_24 rfl D fun D => (q1 (s_aldn (n := 0) (i := 0) rfl) D fun D => (qC fl_X4_51 rfl D fun D => (q1 (s_aldn (n := 0) (i := 0) rfl) D fun D => (q1 (s_ildn (n := 1) (i := 1) rfl) D fun D => (qX (s_callV kX4 rfl ok_X4_roomsFor mo_X4_roomsFor (ch_4_4_ok.2.2.2.2.2.1.1 rfl) (ch_4_2_ok.2.2.2.2.2.2.2.2.2.2.2.1.1 rfl) (ch_4_2_ok.2.2.2.2.2.2.2.2.2.2.2.2.1.1 rfl)) rfl (by decide) D fun D => (q1 s_iast D fun D => (q1 (s_aldn (n := 0) (i := 0) rfl) D fun D => (qC fl_X4_27 rfl D fun D => (q1 (s_aldn (n := 0) (i := 0) rfl) D fun D => (qC fl_X4_51 rfl D fun D => (q1 (s_iconst (n := (-1)) (v := (-1)) (by decide)) D fun D => (q1 s_iast D fun D => (q1 (s_aldn (n := 0) (i := 0) rfl) D fun D => (qC fl_X4_30 rfl D fun D => (q1 (s_aldn (n := 0) (i := 0) rfl) D fun D => (qC fl_X4_51 rfl D fun D => (q1 (s_iconst (n := 0) (v := 0) (by decide)) D fun D => (q1 s_bast D fun D => (q1 (s_aldn (n := 0) (i := 0) rfl) D fun D => (q1 s_dup D fun D => (qC fl_X4_51 rfl D fun D => (q1 (s_iconst (n := 1) (v := 1) (by decide)) D fun D => (q1 s_add D fun D => (qP pl_X4_51 rfl (Or.inl rfl) D fun D => (q1 (s_aldn (n := 0) (i := 0) rfl) D fun D => (q1 (s_iconst (n := 0) (v := 0) (by decide)) D fun D => (qX (s_callV kX4 rfl ok_X4_placeRest mo_X4_placeRest (ch_4_4_ok.2.2.2.2.2.2.1.1 rfl) (ch_4_4_ok.2.2.2.2.2.2.2.2.1.1 rfl) (pv_1.2.2.2.2.2.2.2.2.1)) rfl (by decide) D fun D => (qB s_ifeq 116 (by decide) D (q1 (s_aldn (n := 0) (i := 0) rfl) D_X4_takes_116 fun D => (qX (s_callV kX4 rfl ok_X4_takeOutUnsettled mo_X4_takeOutUnsettled (ch_4_7_ok.2.2.2.2.1.1 rfl) (ch_4_7_ok.2.2.2.2.2.2.1.1 rfl) (pv_2.2.2.1)) rfl (by decide) D fun D => (q1 (s_aldn (n := 0) (i := 0) rfl) D fun D => (q1 (s_iconst (n := 0) (v := 0) (by decide)) D fun D => (qX (s_callV kX4 rfl ok_X4_placeRest mo_X4_placeRest (ch_4_4_ok.2.2.2.2.2.2.1.1 rfl) (ch_4_4_ok.2.2.2.2.2.2.2.2.1.1 rfl) (pv_1.2.2.2.2.2.2.2.2.1)) rfl (by decide) D fun D => (qB s_ifeq 130 (by decide) D (q1 (s_aldn (n := 0) (i := 0) rfl) D_X4_takes_130 fun D => (q1 s_dup D fun D => (qC fl_X4_51 rfl D fun D => (q1 (s_iconst (n := 1) (v := 1) (by decide)) D fun D => (q1 s_sub D fun D => (qP pl_X4_51 rfl (Or.inl rfl) D fun D => (q1 (s_aldn (n := 0) (i := 0) rfl) D fun D => (q1 (s_iconst (n := 0) (v := 0) (by decide)) D fun D => (qX (s_callV kX4 rfl ok_X4_placeRest mo_X4_placeRest (ch_4_4_ok.2.2.2.2.2.2.1.1 rfl) (ch_4_4_ok.2.2.2.2.2.2.2.2.1.1 rfl) (pv_1.2.2.2.2.2.2.2.2.1)) rfl (by decide) D fun D => (q1 s_pop D fun D => (q1 (s_iconst (n := 0) (v := 0) (by decide)) D fun D => (qZ rfl D)))))))))))) fun D => (q1 (s_iconst (n := 1) (v := 1) (by decide)) D fun D => (qZ rfl D)))))))) fun D => (q1 (s_iconst (n := 1) (v := 1) (by decide)) D fun D => (qZ rfl D))))))))))))))))))))))))))))))))))))))))))))))))))))))))))))) fun D => (q1 (s_iconst (n := 0) (v := 0) (by decide)) D fun D => (qZ rfl D))))))

theorem PD_VF {f : Mem} {R n : Nat} {sz cp : Nat → Nat} {w : Nat → Nat} (hd : PD f R n sz cp (fun i => some (w i))) : VF f R n sz cp w := by
  refine ⟨fun i hi => ⟨((hd.1 i hi).2 _ rfl).1, ((hd.1 i hi).2 _ rfl).2.1⟩, fun i j hi hj hij e => ⟨?_, hd.2.2.2 i j hi hj hij (w i) rfl (by rw [e])⟩, fun r hr => ?_⟩
  · rw [← ((hd.1 i hi).2 _ rfl).2.2, ((hd.1 j hj).2 (w i) (by rw [e])).2.2]
  · have : fb_sm (fun i => if w i = r then sz i else 0) n = usd (fun i => some (w i)) sz n r := by
      refine fb_sm_cong (fun i _ => ?_)
      by_cases e : w i = r
      · rw [if_pos e, if_pos (show some (w i) = some r by rw [e])]
      · rw [if_neg e, if_neg (fun z => e (Option.some.inj z))]
    rw [this]; exact (hd.2.1 r hr).1
set_option maxRecDepth 100000 in
set_option maxHeartbeats 400000 in
theorem tk_111 (Q : Option Value → Hp → Prop) (h : Hp) (hl : LayX h) (hst : hR h 33 0 = some 3) (R n : Nat) (sz cp : Nat → Nat) (w : Nat → Nat) (g il fo al : Int32) (hs : PS (hI h) R n sz cp) (hd : PD (hI h) R n sz cp (fun i => some (w i))) (hm : MF (hI h) n w) (h39 : ∀ i, i < n → hI h 40 i = 0) (hn : n < 10) (hs1 : PS (addM (hI h) n g il fo al) R (n + 1) (sAd sz n g) cp)
    (hq1 : ∀ f w', smP f (addM (hI h) n g il fo al) → PD f R (n + 1) (sAd sz n g) cp (fun i => some (w' i)) → VF (addM (hI h) n g il fo al) R (n + 1) (sAd sz n g) cp w' → MF (addM (hI h) n g il fo al) (n + 1) w' → Q (some (.int 1)) (wI h f))
    (hq0 : (¬ ∃ w', VF (addM (hI h) n g il fo al) R (n + 1) (sAd sz n g) cp w') → ∀ f w', smP f (u2 (addM (hI h) n g il fo al) 33 2 (nI n)) → PD f R n sz cp (fun i => some (w' i)) → VF (hI h) R n sz cp w' → MF (hI h) n w' → Q (some (.int 0)) (wI h f)) :
    T_X4_placeRest [.ref 33, .int 0] (wI h (addM (hI h) n g il fo al)) (fun x h' => c_X4_takes_111 Q [some (.ref 33), some (.int g)] (x.toList ++ []) h') := by
  obtain ⟨f1, hf1⟩ : ∃ f1, f1 = addM (hI h) n g il fo al := ⟨_, rfl⟩
  have f1o : ∀ a i, i < n → 34 ≤ a → a ≤ 40 → f1 a i = hI h a i := fun a i hi a1 a2 => by rw [hf1]; exact addM_o _ _ _ _ _ _ (Or.inr (Or.inr (by omega))) (Or.inl (by omega))
  have f139 : ∀ i, i < n + 1 → f1 40 i = 0 := fun i hi => by
    by_cases e : i = n
    · rw [hf1, e, addM_40]
    · rw [f1o 40 i (by omega) (by decide) (by decide)]; exact h39 i (by omega)
  have hd1 := hd.add g il fo al
  rw [← hf1] at hs1 hd1 hq1 hq0 ⊢
  have one : ¬ (1 : Int32) = 0 := by decide
  have huw : ∀ i, i ≠ n → updO (fun i => some (w i)) n none i = some (w i) := fun i hi => if_neg hi
  have hun : updO (fun i => some (w i)) n none n = none := if_pos rfl
  refine ⟨rfl, hl, hst, R, n + 1, sAd sz n g, cp, updO (fun i => some (w i)) n none, 0, rfl, hs1, hd1, ?_, fun i hi _ => f139 i hi, ?_, ?_, fun f w' k1 k2 k3 => ?_, fun hno f k1 k2 => ?_⟩
  · intro i j hij hj s1 s2 hal a b ha hb
    have e2 : j ≠ n := fun z => by rw [z, hun] at hb; cases hb
    rw [huw i (by omega)] at ha
    rw [huw j e2] at hb
    cases ha; cases hb
    refine hm i j hij (by omega) (h39 i (by omega)) (h39 j (by omega)) ?_
    have hal' : alk f1 i j := hal
    unfold alk at hal' ⊢
    rw [f1o 35 i (by omega) (by decide) (by decide), f1o 35 j (by omega) (by decide) (by decide), f1o 36 i (by omega) (by decide) (by decide), f1o 36 j (by omega) (by decide) (by decide), f1o 37 i (by omega) (by decide) (by decide), f1o 37 j (by omega) (by decide) (by decide), f1o 38 i (by omega) (by decide) (by decide), f1o 38 j (by omega) (by decide) (by decide)] at hal'
    exact hal'
  · have := uN_le (updO (fun i => some (w i)) n none) (n + 1); omega
  · have := uN_le (updO (fun i => some (w i)) n none) (n + 1); omega
  · have := hq1 f w' k1 k2 k3.1 k3.2.1
    show c_X4_takes_111 Q _ [.int 1] (wI h f)
    generalize wI h f = H at this ⊢
    simp only [c_X4_takes_111, i_push, i_ild, i_ald, i_ist, i_ast, i_inc, i_bin, i_un, i_divs, i_i2l, i_lshl, i_lor, i_dup, i_dup2, i_pop, i_if, i_cmp, i_nul, i_vret, i_iret, i_zret, i_aret, i_keep, keep, lget, lset, ent, i_getI, i_getJ, i_getR, i_getN, i_putI, i_putZ, i_putJ, i_putR, i_iald, i_bald, i_alen, i_aald, i_iast, i_bast, i_aast, i_new, i_newa, i_anew, i_oini, i_callS, i_callV, i_callI, popn, sh4, i_sw, swP, i_copy, i_binS, List.map, Option.toList_none, Option.toList_some, List.append, List.nil_append, List.cons_append, List.length_cons, List.length_nil, List.replicate, Nat.sub_self, Nat.reduceSub, Nat.reduceAdd, hK_pI, hL_pI, hI_pI, hR_pI, hJ_pI, hT_pI, hS_pI, hK_pR, hL_pR, hI_pR, hR_pR, hJ_pR, hT_pR, hS_pR, hK_pJ, hL_pJ, hI_pJ, hR_pJ, hJ_pJ, hT_pJ, hS_pJ, hK_wI, hL_wI, hI_wI, hR_wI, hJ_wI, hT_wI, hS_wI, eq_self, and_true, true_and, and_false, false_and, or_true, true_or, or_false, false_or, if_true, if_false, not_true_eq_false, not_false_eq_true, forall_const, implies_true, false_implies, true_implies, Option.some.injEq, forall_eq', exists_eq_left', reduceCtorEq, Nat.reduceEqDiff, c1, T_X12_in, T_X12_ones, T_X11_within, T_X11_bit, T_X11_isIn, T_X11_oneIfIn, T_J6_bitCount_0f7a4, one]
    exact this
  · show c_X4_takes_111 Q _ [.int 0] (wI h f)
    have k1' : smP f f1 := k1
    have hsf : PS f R (n + 1) (sAd sz n g) cp := hs1.c k1'
    have hl2 : LayX (wI h f) := hl
    have hto : T_X4_takeOutUnsettled [.ref 33] (wI h f) (fun x h' => c_X4_takes_120 Q [some (.ref 33), some (.int g)] (x.toList ++ []) h') := by
      refine ⟨rfl, hl, R, n + 1, sAd sz n g, cp, updO (fun i => some (w i)) n none, hsf, k2, fun f2 m1 m2 => ?_⟩
      show c_X4_takes_120 Q _ [] (wI h f2)
      have m1' : smP f2 f1 := smP.tr m1 k1'
      have hf39 : ∀ i, i < n + 1 → f 40 i = 0 := fun i hi => (k1' 40 i (by decide) (by decide) (by decide) (by decide)).trans (f139 i hi)
      have m3 : PD f2 R (n + 1) (sAd sz n g) cp (fun _ => none) := PD_c (fun i hi => cif_t ⟨hi, hf39 i hi⟩) m2
      have hs2 : PS f2 R (n + 1) (sAd sz n g) cp := hs1.c m1'
      have hl3 : LayX (wI h f2) := hl
      have hpr : T_X4_placeRest [.ref 33, .int 0] (wI h f2) (fun x h' => c_X4_takes_125 Q [some (.ref 33), some (.int g)] (x.toList ++ []) h') := by
        refine ⟨rfl, hl, hst, R, n + 1, sAd sz n g, cp, fun _ => none, 0, rfl, hs2, m3, fun i j _ _ _ _ _ a b ha => (by cases ha), fun i hi _ => ?_, ?_, ?_, fun f3 w' q1 q2 q3 => ?_, fun hno2 f3 q1 q2 => ?_⟩
        · show f2 40 i = 0
          rw [m1' 40 i (by decide) (by decide) (by decide) (by decide)]; exact f139 i hi
        · have := uN_le (fun _ => none) (n + 1); omega
        · have := uN_le (fun _ => none) (n + 1); omega
        · have q3' : sol f2 R (n + 1) (sAd sz n g) cp (fun _ => none) w' := q3
          rw [sol_sm m1'] at q3'
          have := hq1 f3 w' (smP.tr q1 m1') q2 q3'.1 q3'.2.1
          show c_X4_takes_125 Q _ [.int 1] (wI h f3)
          generalize wI h f3 = H at this ⊢
          simp only [c_X4_takes_125, i_push, i_ild, i_ald, i_ist, i_ast, i_inc, i_bin, i_un, i_divs, i_i2l, i_lshl, i_lor, i_dup, i_dup2, i_pop, i_if, i_cmp, i_nul, i_vret, i_iret, i_zret, i_aret, i_keep, keep, lget, lset, ent, i_getI, i_getJ, i_getR, i_getN, i_putI, i_putZ, i_putJ, i_putR, i_iald, i_bald, i_alen, i_aald, i_iast, i_bast, i_aast, i_new, i_newa, i_anew, i_oini, i_callS, i_callV, i_callI, popn, sh4, i_sw, swP, i_copy, i_binS, List.map, Option.toList_none, Option.toList_some, List.append, List.nil_append, List.cons_append, List.length_cons, List.length_nil, List.replicate, Nat.sub_self, Nat.reduceSub, Nat.reduceAdd, hK_pI, hL_pI, hI_pI, hR_pI, hJ_pI, hT_pI, hS_pI, hK_pR, hL_pR, hI_pR, hR_pR, hJ_pR, hT_pR, hS_pR, hK_pJ, hL_pJ, hI_pJ, hR_pJ, hJ_pJ, hT_pJ, hS_pJ, hK_wI, hL_wI, hI_wI, hR_wI, hJ_wI, hT_wI, hS_wI, eq_self, and_true, true_and, and_false, false_and, or_true, true_or, or_false, false_or, if_true, if_false, not_true_eq_false, not_false_eq_true, forall_const, implies_true, false_implies, true_implies, Option.some.injEq, forall_eq', exists_eq_left', reduceCtorEq, Nat.reduceEqDiff, c1, T_X12_in, T_X12_ones, T_X11_within, T_X11_bit, T_X11_isIn, T_X11_oneIfIn, T_J6_bitCount_0f7a4, one]
          exact this
        · show c_X4_takes_125 Q _ [.int 0] (wI h f3)
          have hnoV : ¬ ∃ w', VF f1 R (n + 1) (sAd sz n g) cp w' := fun ⟨w', hw'⟩ => by
            obtain ⟨w2, a, b, c⟩ := sort_w hs1 (fun _ => none) (fun _ _ _ => rfl) _ w' rfl hw' (fun i _ r hr => by cases hr)
            refine hno2 ⟨w2, ?_⟩
            show sol f2 R (n + 1) (sAd sz n g) cp (fun _ => none) w2
            rw [sol_sm m1']
            exact ⟨a, c, b⟩
          have q1' : smP f3 f1 := smP.tr q1 m1'
          have hpc : hI (wI h f3) 33 2 = nI (n + 1) := (q1' 33 2 (by decide) (by decide) (by decide) (by decide)).trans hs1.2.2.2.1
          have hl4 : LayX (wI h f3) := hl
          obtain ⟨f4, hf4⟩ : ∃ f4, f4 = u2 f3 33 2 (nI n) := ⟨_, rfl⟩
          have f4o : ∀ a i, 34 ≤ a → f4 a i = f3 a i := fun a i ha => by rw [hf4]; exact u2_ne (by omega)
          have f4h : ∀ a i, i < n → 34 ≤ a → a ≤ 40 → a ≠ 39 → f4 a i = hI h a i := fun a i hi a1 a2 a3 => by
            rw [f4o a i a1, q1' a i (by omega) (by omega) (by omega) (by omega), f1o a i hi a1 a2]
          have hd4 : PD f4 R n sz cp (fun _ => none) := PD.drop q2 rfl f4o
          have hs4 : PS f4 R n sz cp := by
            obtain ⟨s1, s2, s3, s4, s5, s6, s7, s8⟩ := hs
            refine ⟨s1, s2, ?_, ?_, fun i hi => ?_, fun i j hi hj hij => ?_, fun i j hi hj => ?_, s8⟩
            · rw [hf4, u2_ne (by omega), q1' 12 0 (by decide) (by decide) (by decide) (by decide)]; exact hs1.2.2.1
            · rw [hf4]; exact u2_eq
            · rw [f4h 35 i hi (by decide) (by decide) (by decide), f4h 34 i hi (by decide) (by decide) (by decide)]; exact s5 i hi
            · rw [f4h 34 i hi (by decide) (by decide) (by decide), f4h 34 j hj (by decide) (by decide) (by decide)]; exact s6 i j hi hj hij
            · rw [f4h 37 i hi (by decide) (by decide) (by decide), f4h 34 j hj (by decide) (by decide) (by decide), f4h 37 j hj (by decide) (by decide) (by decide), f4h 34 i hi (by decide) (by decide) (by decide)]; exact s7 i j hi hj
          have hpr2 : T_X4_placeRest [.ref 33, .int 0] (wI h f4) (fun x h' => c_X4_takes_145 Q [some (.ref 33), some (.int g)] (x.toList ++ []) h') := by
            refine ⟨rfl, hl, hst, R, n, sz, cp, fun _ => none, 0, rfl, hs4, hd4, fun i j _ _ _ _ _ a b ha => (by cases ha), fun i hi _ => ?_, ?_, ?_, fun f5 w' r1 r2 r3 => ?_, fun hno3 f5 r1 r2 => ?_⟩
            · show f4 40 i = 0
              rw [f4h 40 i hi (by decide) (by decide) (by decide)]; exact h39 i hi
            · have := uN_le (fun _ => none) n; omega
            · have := uN_le (fun _ => none) n; omega
            · have r3' : sol f4 R n sz cp (fun _ => none) w' := r3
              have r1' : smP f5 f4 := r1
              have hsm : smP f5 (u2 f1 33 2 (nI n)) := fun a j a1 a2 a3 a4 => by
                rw [r1' a j a1 a2 a3 a4, hf4]
                unfold u2
                by_cases e : a = 33 ∧ j = 2
                · rw [if_pos e, if_pos e]
                · rw [if_neg e, if_neg e, q1' a j a1 a2 a3 a4]
              have := hq0 hnoV f5 w' hsm r2 (VF_n (fun a i hi a1 a2 => f4h a i hi a1 (by omega) (by omega)) r3'.1) (MF_n (fun a i hi a1 a2 => f4h a i hi a1 (by omega) (by omega)) (fun i hi => f4h 40 i hi (by decide) (by decide) (by decide)) r3'.2.1)
              show c_X4_takes_145 Q _ [.int 1] (wI h f5)
              generalize wI h f5 = H at this ⊢
              simp only [c_X4_takes_145, i_push, i_ild, i_ald, i_ist, i_ast, i_inc, i_bin, i_un, i_divs, i_i2l, i_lshl, i_lor, i_dup, i_dup2, i_pop, i_if, i_cmp, i_nul, i_vret, i_iret, i_zret, i_aret, i_keep, keep, lget, lset, ent, i_getI, i_getJ, i_getR, i_getN, i_putI, i_putZ, i_putJ, i_putR, i_iald, i_bald, i_alen, i_aald, i_iast, i_bast, i_aast, i_new, i_newa, i_anew, i_oini, i_callS, i_callV, i_callI, popn, sh4, i_sw, swP, i_copy, i_binS, List.map, Option.toList_none, Option.toList_some, List.append, List.nil_append, List.cons_append, List.length_cons, List.length_nil, List.replicate, Nat.sub_self, Nat.reduceSub, Nat.reduceAdd, hK_pI, hL_pI, hI_pI, hR_pI, hJ_pI, hT_pI, hS_pI, hK_pR, hL_pR, hI_pR, hR_pR, hJ_pR, hT_pR, hS_pR, hK_pJ, hL_pJ, hI_pJ, hR_pJ, hJ_pJ, hT_pJ, hS_pJ, hK_wI, hL_wI, hI_wI, hR_wI, hJ_wI, hT_wI, hS_wI, eq_self, and_true, true_and, and_false, false_and, or_true, true_or, or_false, false_or, if_true, if_false, not_true_eq_false, not_false_eq_true, forall_const, implies_true, false_implies, true_implies, Option.some.injEq, forall_eq', exists_eq_left', reduceCtorEq, Nat.reduceEqDiff, c1, T_X12_in, T_X12_ones, T_X11_within, T_X11_bit, T_X11_isIn, T_X11_oneIfIn, T_J6_bitCount_0f7a4]
              exact this
            · exfalso
              have hv4 : VF f4 R n sz cp w := VF_n (fun a i hi a1 a2 => (f4h a i hi a1 (by omega) (by omega)).symm) (PD_VF hd)
              obtain ⟨w2, a, b, c⟩ := sort_w hs4 (fun _ => none) (fun _ _ _ => rfl) _ w rfl hv4 (fun i _ r hr => by cases hr)
              exact hno3 ⟨w2, a, c, b⟩
          have hH : wI h f4 = pI (wI h f3) 33 2 (nI n) := by rw [hf4]; rfl
          rw [hH] at hpr2
          have e1 : nI (n + 1) - 1 = nI n := nI_pred n
          generalize wI h f3 = H at hl4 hpc hpr2 ⊢
          have hl := hl4
          simp only [c_X4_takes_125, lx_pI, lx_wI, lx_t hl, lx_k hl, lx_r hl, lx_l hl, i_push, i_ild, i_ald, i_ist, i_ast, i_inc, i_bin, i_un, i_divs, i_i2l, i_lshl, i_lor, i_dup, i_dup2, i_pop, i_if, i_cmp, i_nul, i_vret, i_iret, i_zret, i_aret, i_keep, keep, lget, lset, ent, i_getI, i_getJ, i_getR, i_getN, i_putI, i_putZ, i_putJ, i_putR, i_iald, i_bald, i_alen, i_aald, i_iast, i_bast, i_aast, i_new, i_newa, i_anew, i_oini, i_callS, i_callV, i_callI, popn, sh4, i_sw, swP, i_copy, i_binS, List.map, Option.toList_none, Option.toList_some, List.append, List.nil_append, List.cons_append, List.length_cons, List.length_nil, List.replicate, Nat.sub_self, Nat.reduceSub, Nat.reduceAdd, hK_pI, hL_pI, hI_pI, hR_pI, hJ_pI, hT_pI, hS_pI, hK_pR, hL_pR, hI_pR, hR_pR, hJ_pR, hT_pR, hS_pR, hK_pJ, hL_pJ, hI_pJ, hR_pJ, hJ_pJ, hT_pJ, hS_pJ, hK_wI, hL_wI, hI_wI, hR_wI, hJ_wI, hT_wI, hS_wI, eq_self, and_true, true_and, and_false, false_and, or_true, true_or, or_false, false_or, if_true, if_false, not_true_eq_false, not_false_eq_true, forall_const, implies_true, false_implies, true_implies, Option.some.injEq, forall_eq', exists_eq_left', reduceCtorEq, Nat.reduceEqDiff, c1, T_X12_in, T_X12_ones, T_X11_within, T_X11_bit, T_X11_isIn, T_X11_oneIfIn, T_J6_bitCount_0f7a4, hpc, e1]
          exact hpr2
      generalize wI h f2 = H at hl3 hpr ⊢
      have hl := hl3
      simp only [c_X4_takes_120, lx_pI, lx_wI, lx_t hl, lx_k hl, lx_r hl, lx_l hl, i_push, i_ild, i_ald, i_ist, i_ast, i_inc, i_bin, i_un, i_divs, i_i2l, i_lshl, i_lor, i_dup, i_dup2, i_pop, i_if, i_cmp, i_nul, i_vret, i_iret, i_zret, i_aret, i_keep, keep, lget, lset, ent, i_getI, i_getJ, i_getR, i_getN, i_putI, i_putZ, i_putJ, i_putR, i_iald, i_bald, i_alen, i_aald, i_iast, i_bast, i_aast, i_new, i_newa, i_anew, i_oini, i_callS, i_callV, i_callI, popn, sh4, i_sw, swP, i_copy, i_binS, List.map, Option.toList_none, Option.toList_some, List.append, List.nil_append, List.cons_append, List.length_cons, List.length_nil, List.replicate, Nat.sub_self, Nat.reduceSub, Nat.reduceAdd, hK_pI, hL_pI, hI_pI, hR_pI, hJ_pI, hT_pI, hS_pI, hK_pR, hL_pR, hI_pR, hR_pR, hJ_pR, hT_pR, hS_pR, hK_pJ, hL_pJ, hI_pJ, hR_pJ, hJ_pJ, hT_pJ, hS_pJ, hK_wI, hL_wI, hI_wI, hR_wI, hJ_wI, hT_wI, hS_wI, eq_self, and_true, true_and, and_false, false_and, or_true, true_or, or_false, false_or, if_true, if_false, not_true_eq_false, not_false_eq_true, forall_const, implies_true, false_implies, true_implies, Option.some.injEq, forall_eq', exists_eq_left', reduceCtorEq, Nat.reduceEqDiff, c1, T_X12_in, T_X12_ones, T_X11_within, T_X11_bit, T_X11_isIn, T_X11_oneIfIn, T_J6_bitCount_0f7a4]
      exact hpr
    generalize wI h f = H at hl2 hto ⊢
    have hl := hl2
    simp only [c_X4_takes_111, lx_pI, lx_wI, lx_t hl, lx_k hl, lx_r hl, lx_l hl, i_push, i_ild, i_ald, i_ist, i_ast, i_inc, i_bin, i_un, i_divs, i_i2l, i_lshl, i_lor, i_dup, i_dup2, i_pop, i_if, i_cmp, i_nul, i_vret, i_iret, i_zret, i_aret, i_keep, keep, lget, lset, ent, i_getI, i_getJ, i_getR, i_getN, i_putI, i_putZ, i_putJ, i_putR, i_iald, i_bald, i_alen, i_aald, i_iast, i_bast, i_aast, i_new, i_newa, i_anew, i_oini, i_callS, i_callV, i_callI, popn, sh4, i_sw, swP, i_copy, i_binS, List.map, Option.toList_none, Option.toList_some, List.append, List.nil_append, List.cons_append, List.length_cons, List.length_nil, List.replicate, Nat.sub_self, Nat.reduceSub, Nat.reduceAdd, hK_pI, hL_pI, hI_pI, hR_pI, hJ_pI, hT_pI, hS_pI, hK_pR, hL_pR, hI_pR, hR_pR, hJ_pR, hT_pR, hS_pR, hK_pJ, hL_pJ, hI_pJ, hR_pJ, hJ_pJ, hT_pJ, hS_pJ, hK_wI, hL_wI, hI_wI, hR_wI, hJ_wI, hT_wI, hS_wI, eq_self, and_true, true_and, and_false, false_and, or_true, true_or, or_false, false_or, if_true, if_false, not_true_eq_false, not_false_eq_true, forall_const, implies_true, false_implies, true_implies, Option.some.injEq, forall_eq', exists_eq_left', reduceCtorEq, Nat.reduceEqDiff, c1, T_X12_in, T_X12_ones, T_X11_within, T_X11_bit, T_X11_isIn, T_X11_oneIfIn, T_J6_bitCount_0f7a4]
    exact hto
set_option maxRecDepth 100000 in
set_option maxHeartbeats 4000000 in
theorem ok_X4_takes : ctr 21 MX4_takes T_X4_takes := by
  refine ctr_of pn_X4 wc_X4_takes (fun av h Q hT => ?_)
  unfold T_X4_takes at hT
  split at hT
  · rename_i o g
    refine ⟨⟨by simp [Value.category], Nat.le_of_ble_eq_true rfl⟩, s_X4_takes_0 Q _ _ _ ?_⟩
    obtain ⟨rfl, hl, hst, R, n, sz, cp, w, P, hs, hd, hm, h39, hn, hg, hp, hdis, hsy, hP, h16, hil, hq1, hq0⟩ := hT
    have hs1 := hs.add hn hg hp hdis hsy (il := ilF (hI h) g P) (al := rfF (hI h) g R P)
    have h111 := tk_111 Q h hl hst R n sz cp w g _ _ _ hs hd hm h39 hn hs1 hq1 hq0
    have h32 : hI h 33 2 = nI n := hs.2.2.2.1
    have h12 : hI h 12 0 = nI R := hs.2.2.1
    have n10 : nI n < 10 := nI_lt (b := 10) hn (by decide)
    have ncl : (nI n).toNatClampNeg = n := cl_nI (by omega)
    have nin : vp_in (nI n) 10 := in_nI hn (by decide)
    obtain ⟨H1, hH1⟩ : ∃ H1, H1 = pI (pI h 34 n g) 35 n (nI (pct g)) := ⟨_, rfl⟩
    obtain ⟨H2, hH2⟩ : ∃ H2, H2 = pI H1 36 n (ilF (hI h) g P) := ⟨_, rfl⟩
    obtain ⟨H3, hH3⟩ : ∃ H3, H3 = pI H2 37 n (foS (hI h) g P) := ⟨_, rfl⟩
    have hH4 : wI h (addM (hI h) n g (ilF (hI h) g P) (foS (hI h) g P) (rfF (hI h) g R P)) = pI (pI (pI (pI H3 38 n (rfF (hI h) g R P)) 39 n (-1)) 40 n 0) 33 2 (nI (n + 1)) := by rw [hH3, hH2, hH1]; rfl
    rw [hH4] at h111
    have r1 : ∀ a, a ≠ 34 → a ≠ 35 → hI H1 a = hI h a := fun a a1 a2 => funext fun i => by rw [hH1, hI_pI, if_neg (fun z => a2 z.1), hI_pI, if_neg (fun z => a1 z.1)]
    have r2 : ∀ a, a ≠ 34 → a ≠ 35 → a ≠ 36 → hI H2 a = hI h a := fun a a1 a2 a3 => funext fun i => by rw [hH2, hI_pI, if_neg (fun z => a3 z.1), r1 a a1 a2]
    have r3 : ∀ a, a < 34 → hI H3 a = hI h a := fun a a1 => funext fun i => by rw [hH3, hI_pI, if_neg (fun z => by omega), r2 a (by omega) (by omega) (by omega)]
    have l1 : LayX H1 := by rw [hH1]; exact hl
    have l2 : LayX H2 := by rw [hH2]; exact l1
    have l3 : LayX H3 := by rw [hH3]; exact l2
    have t1 : hR H1 33 0 = some 3 := by rw [hH1]; exact hst
    have t2 : hR H2 33 0 = some 3 := by rw [hH2]; exact t1
    have t3 : hR H3 33 0 = some 3 := by rw [hH3]; exact t2
    have p3 : hI H3 33 2 = nI n := by rw [r3 33 (by decide)]; exact h32
    have p2 : hI H2 33 2 = nI n := by rw [r2 33 (by decide) (by decide) (by decide)]; exact h32
    have p1 : hI H1 33 2 = nI n := by rw [r1 33 (by decide) (by decide)]; exact h32
    have h75 : T_X4_roomsFor [.ref 33, .int g] H3 (fun x h' => c_X4_takes_75 Q [some (.ref 33), some (.int g)] (x.toList ++ [.int (nI n), .ref 38]) h') := by
      refine ⟨rfl, l3, t3, R, P, hs.1, by rw [r3 12 (by decide)]; exact h12, hP, by rw [r3 16 (by decide)]; exact h16, ?_, ?_⟩
      · unfold ilOk; rw [r3 19 (by decide)]; exact hil
      · show c_X4_takes_75 Q _ [.int (rfF (hI H3) g R P), .int (nI n), .ref 38] H3
        have er : rfF (hI H3) g R P = rfF (hI h) g R P := rfF_c (fun a ha => r3 a (by omega)) (by rw [r3 33 (by decide)]) g R P
        rw [er]
        generalize rfF (hI h) g R P = X at h111 ⊢
        have hl := l3
        simp only [c_X4_takes_75, lx_pI, lx_wI, lx_t hl, lx_k hl, lx_r hl, lx_l hl, i_push, i_ild, i_ald, i_ist, i_ast, i_inc, i_bin, i_un, i_divs, i_i2l, i_lshl, i_lor, i_dup, i_dup2, i_pop, i_if, i_cmp, i_nul, i_vret, i_iret, i_zret, i_aret, i_keep, keep, lget, lset, ent, i_getI, i_getJ, i_getR, i_getN, i_putI, i_putZ, i_putJ, i_putR, i_iald, i_bald, i_alen, i_aald, i_iast, i_bast, i_aast, i_new, i_newa, i_anew, i_oini, i_callS, i_callV, i_callI, popn, sh4, i_sw, swP, i_copy, i_binS, List.map, Option.toList_none, Option.toList_some, List.append, List.nil_append, List.cons_append, List.length_cons, List.length_nil, List.replicate, Nat.sub_self, Nat.reduceSub, Nat.reduceAdd, hK_pI, hL_pI, hI_pI, hR_pI, hJ_pI, hT_pI, hS_pI, hK_pR, hL_pR, hI_pR, hR_pR, hJ_pR, hT_pR, hS_pR, hK_pJ, hL_pJ, hI_pJ, hR_pJ, hJ_pJ, hT_pJ, hS_pJ, hK_wI, hL_wI, hI_wI, hR_wI, hJ_wI, hT_wI, hS_wI, eq_self, and_true, true_and, and_false, false_and, or_true, true_or, or_false, false_or, if_true, if_false, not_true_eq_false, not_false_eq_true, forall_const, implies_true, false_implies, true_implies, Option.some.injEq, forall_eq', exists_eq_left', reduceCtorEq, Nat.reduceEqDiff, c1, T_X12_in, T_X12_ones, T_X11_within, T_X11_bit, T_X11_isIn, T_X11_oneIfIn, T_J6_bitCount_0f7a4, ncl, nin, p3, nI_1]
        exact h111
    have h61 : T_X4_foesOf [.ref 33, .int g] H2 (fun x h' => c_X4_takes_61 Q [some (.ref 33), some (.int g)] (x.toList ++ [.int (nI n), .ref 37]) h') := by
      refine ⟨rfl, l2, t2, P, hP, by rw [r2 16 (by decide) (by decide) (by decide)]; exact h16, ?_⟩
      show c_X4_takes_61 Q _ [.int (foS (hI H2) g P), .int (nI n), .ref 37] H2
      rw [foS_c (r2 23 (by decide) (by decide) (by decide))]
      rw [hH3] at h75
      generalize foS (hI h) g P = X at h75 ⊢
      have hl := l2
      simp only [c_X4_takes_61, lx_pI, lx_wI, lx_t hl, lx_k hl, lx_r hl, lx_l hl, i_push, i_ild, i_ald, i_ist, i_ast, i_inc, i_bin, i_un, i_divs, i_i2l, i_lshl, i_lor, i_dup, i_dup2, i_pop, i_if, i_cmp, i_nul, i_vret, i_iret, i_zret, i_aret, i_keep, keep, lget, lset, ent, i_getI, i_getJ, i_getR, i_getN, i_putI, i_putZ, i_putJ, i_putR, i_iald, i_bald, i_alen, i_aald, i_iast, i_bast, i_aast, i_new, i_newa, i_anew, i_oini, i_callS, i_callV, i_callI, popn, sh4, i_sw, swP, i_copy, i_binS, List.map, Option.toList_none, Option.toList_some, List.append, List.nil_append, List.cons_append, List.length_cons, List.length_nil, List.replicate, Nat.sub_self, Nat.reduceSub, Nat.reduceAdd, hK_pI, hL_pI, hI_pI, hR_pI, hJ_pI, hT_pI, hS_pI, hK_pR, hL_pR, hI_pR, hR_pR, hJ_pR, hT_pR, hS_pR, hK_pJ, hL_pJ, hI_pJ, hR_pJ, hJ_pJ, hT_pJ, hS_pJ, hK_wI, hL_wI, hI_wI, hR_wI, hJ_wI, hT_wI, hS_wI, eq_self, and_true, true_and, and_false, false_and, or_true, true_or, or_false, false_or, if_true, if_false, not_true_eq_false, not_false_eq_true, forall_const, implies_true, false_implies, true_implies, Option.some.injEq, forall_eq', exists_eq_left', reduceCtorEq, Nat.reduceEqDiff, c1, T_X12_in, T_X12_ones, T_X11_within, T_X11_bit, T_X11_isIn, T_X11_oneIfIn, T_J6_bitCount_0f7a4, ncl, nin, p2]
      exact h75
    have h47 : T_X4_illOf [.ref 33, .int g] H1 (fun x h' => c_X4_takes_47 Q [some (.ref 33), some (.int g)] (x.toList ++ [.int (nI n), .ref 36]) h') := by
      refine ⟨rfl, l1, t1, P, hP, by rw [r1 16 (by decide) (by decide)]; exact h16, ?_, ?_⟩
      · unfold ilOk; rw [r1 19 (by decide) (by decide)]; exact hil
      · show c_X4_takes_47 Q _ [.int (ilF (hI H1) g P), .int (nI n), .ref 36] H1
        rw [ilF_c (r1 19 (by decide) (by decide))]
        rw [hH2] at h61
        generalize ilF (hI h) g P = X at h61 ⊢
        have hl := l1
        simp only [c_X4_takes_47, lx_pI, lx_wI, lx_t hl, lx_k hl, lx_r hl, lx_l hl, i_push, i_ild, i_ald, i_ist, i_ast, i_inc, i_bin, i_un, i_divs, i_i2l, i_lshl, i_lor, i_dup, i_dup2, i_pop, i_if, i_cmp, i_nul, i_vret, i_iret, i_zret, i_aret, i_keep, keep, lget, lset, ent, i_getI, i_getJ, i_getR, i_getN, i_putI, i_putZ, i_putJ, i_putR, i_iald, i_bald, i_alen, i_aald, i_iast, i_bast, i_aast, i_new, i_newa, i_anew, i_oini, i_callS, i_callV, i_callI, popn, sh4, i_sw, swP, i_copy, i_binS, List.map, Option.toList_none, Option.toList_some, List.append, List.nil_append, List.cons_append, List.length_cons, List.length_nil, List.replicate, Nat.sub_self, Nat.reduceSub, Nat.reduceAdd, hK_pI, hL_pI, hI_pI, hR_pI, hJ_pI, hT_pI, hS_pI, hK_pR, hL_pR, hI_pR, hR_pR, hJ_pR, hT_pR, hS_pR, hK_pJ, hL_pJ, hI_pJ, hR_pJ, hJ_pJ, hT_pJ, hS_pJ, hK_wI, hL_wI, hI_wI, hR_wI, hJ_wI, hT_wI, hS_wI, eq_self, and_true, true_and, and_false, false_and, or_true, true_or, or_false, false_or, if_true, if_false, not_true_eq_false, not_false_eq_true, forall_const, implies_true, false_implies, true_implies, Option.some.injEq, forall_eq', exists_eq_left', reduceCtorEq, Nat.reduceEqDiff, c1, T_X12_in, T_X12_ones, T_X11_within, T_X11_bit, T_X11_isIn, T_X11_oneIfIn, T_J6_bitCount_0f7a4, ncl, nin, p1]
        exact h61
    rw [hH1] at h47
    simp only [MX4_takes, b_X4_takes_0, lx_pI, lx_wI, lx_t hl, lx_k hl, lx_r hl, lx_l hl, i_push, i_ild, i_ald, i_ist, i_ast, i_inc, i_bin, i_un, i_divs, i_i2l, i_lshl, i_lor, i_dup, i_dup2, i_pop, i_if, i_cmp, i_nul, i_vret, i_iret, i_zret, i_aret, i_keep, keep, lget, lset, ent, i_getI, i_getJ, i_getR, i_getN, i_putI, i_putZ, i_putJ, i_putR, i_iald, i_bald, i_alen, i_aald, i_iast, i_bast, i_aast, i_new, i_newa, i_anew, i_oini, i_callS, i_callV, i_callI, popn, sh4, i_sw, swP, i_copy, i_binS, List.map, Option.toList_none, Option.toList_some, List.append, List.nil_append, List.cons_append, List.length_cons, List.length_nil, List.replicate, Nat.sub_self, Nat.reduceSub, Nat.reduceAdd, hK_pI, hL_pI, hI_pI, hR_pI, hJ_pI, hT_pI, hS_pI, hK_pR, hL_pR, hI_pR, hR_pR, hJ_pR, hT_pR, hS_pR, hK_pJ, hL_pJ, hI_pJ, hR_pJ, hJ_pJ, hT_pJ, hS_pJ, hK_wI, hL_wI, hI_wI, hR_wI, hJ_wI, hT_wI, hS_wI, eq_self, and_true, true_and, and_false, false_and, or_true, true_or, or_false, false_or, if_true, if_false, not_true_eq_false, not_false_eq_true, forall_const, implies_true, false_implies, true_implies, Option.some.injEq, forall_eq', exists_eq_left', reduceCtorEq, Nat.reduceEqDiff, c1, T_X12_in, T_X12_ones, T_X11_within, T_X11_bit, T_X11_isIn, T_X11_oneIfIn, T_J6_bitCount_0f7a4, h32, n10, ncl, nin]
    exact h47
  · exact hT.elim
