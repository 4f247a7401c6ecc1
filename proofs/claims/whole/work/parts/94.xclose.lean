/-! ===== the class: the door is closed ===== -/
def cdM (f : Nat → Nat → Int32) (T those : Int32) (F : Nat → Nat) (k : Nat) : Nat → Nat → Int32 := fun a i => if a = 20 ∧ i < k ∧ bt T i = true then f 20 i + 1 else if a = 21 ∧ i < k ∧ bt T i = true then 0 else if a = 21 ∧ i < k ∧ bt those i = true then f 21 i + 1 else if a = 22 ∧ i < k ∧ bt T i = true then nI (F i) else f a i
theorem cdM_0 (f : Nat → Nat → Int32) (T those : Int32) (F : Nat → Nat) : cdM f T those F 0 = f := by
  funext a i
  unfold cdM
  rw [if_neg (fun z => by omega), if_neg (fun z => by omega), if_neg (fun z => by omega), if_neg (fun z => by omega)]
theorem cdM_o (f : Nat → Nat → Int32) (T those : Int32) (F : Nat → Nat) (k : Nat) {a : Nat} (h1 : a ≠ 20) (h2 : a ≠ 21) (h3 : a ≠ 22) (i : Nat) : cdM f T those F k a i = f a i := by
  unfold cdM
  rw [if_neg (fun z => h1 z.1), if_neg (fun z => h2 z.1), if_neg (fun z => h2 z.1), if_neg (fun z => h3 z.1)]
theorem cdM_hi (f : Nat → Nat → Int32) (T those : Int32) (F : Nat → Nat) (k a i : Nat) (h : k ≤ i) : cdM f T those F k a i = f a i := by
  unfold cdM
  rw [if_neg (fun z => by omega), if_neg (fun z => by omega), if_neg (fun z => by omega), if_neg (fun z => by omega)]
theorem cdM_lo (f : Nat → Nat → Int32) (T those : Int32) (F : Nat → Nat) (k a i : Nat) (h : i ≠ k) : cdM f T those F (k + 1) a i = cdM f T those F k a i := by
  have e : ∀ x : Prop, (i < k + 1 ∧ x) ↔ (i < k ∧ x) := fun x => ⟨fun z => ⟨by omega, z.2⟩, fun z => ⟨by omega, z.2⟩⟩
  unfold cdM
  simp only [e]
theorem cdM_t (f : Nat → Nat → Int32) (T those : Int32) (F : Nat → Nat) (k : Nat) (hb : bt T k = true) : u2 (u2 (u2 (cdM f T those F k) 20 k (f 20 k + 1)) 21 k 0) 22 k (nI (F k)) = cdM f T those F (k + 1) := by
  funext a i
  by_cases hi : i = k
  · subst hi
    unfold u2
    by_cases h22 : a = 22
    · subst h22
      rw [if_pos ⟨rfl, rfl⟩]
      unfold cdM
      rw [if_neg (fun z => by cases z.1), if_neg (fun z => by cases z.1), if_neg (fun z => by cases z.1), if_pos ⟨rfl, by omega, hb⟩]
    · rw [if_neg (fun z => h22 z.1)]
      by_cases h21 : a = 21
      · subst h21
        rw [if_pos ⟨rfl, rfl⟩]
        unfold cdM
        rw [if_neg (fun z => by cases z.1), if_pos ⟨rfl, by omega, hb⟩]
      · rw [if_neg (fun z => h21 z.1)]
        by_cases h20 : a = 20
        · subst h20
          rw [if_pos ⟨rfl, rfl⟩]
          unfold cdM
          rw [if_pos ⟨rfl, by omega, hb⟩]
        · rw [if_neg (fun z => h20 z.1), cdM_o _ _ _ _ _ h20 h21 h22, cdM_o _ _ _ _ _ h20 h21 h22]
  · rw [cdM_lo _ _ _ _ _ _ _ hi, u2_ne (fun z => hi z.2), u2_ne (fun z => hi z.2), u2_ne (fun z => hi z.2)]
theorem cdM_d (f : Nat → Nat → Int32) (T those : Int32) (F : Nat → Nat) (k : Nat) (hb : bt T k = false) (hd : bt those k = true) : u2 (cdM f T those F k) 21 k (f 21 k + 1) = cdM f T those F (k + 1) := by
  have hb' : ¬ bt T k = true := by rw [hb]; decide
  funext a i
  by_cases hi : i = k
  · subst hi
    by_cases h21 : a = 21
    · subst h21
      rw [u2_eq]
      unfold cdM
      rw [if_neg (fun z => by cases z.1), if_neg (fun z => hb' z.2.2), if_pos ⟨rfl, by omega, hd⟩]
    · rw [u2_ne (fun z => h21 z.1), cdM_hi _ _ _ _ _ _ _ (Nat.le_refl _)]
      unfold cdM
      rw [if_neg (fun z => hb' z.2.2), if_neg (fun z => h21 z.1), if_neg (fun z => h21 z.1), if_neg (fun z => hb' z.2.2)]
  · rw [cdM_lo _ _ _ _ _ _ _ hi, u2_ne (fun z => hi z.2)]
theorem cdM_n (f : Nat → Nat → Int32) (T those : Int32) (F : Nat → Nat) (k : Nat) (hb : bt T k = false) (hd : bt those k = false) : cdM f T those F k = cdM f T those F (k + 1) := by
  have hb' : ¬ bt T k = true := by rw [hb]; decide
  have hd' : ¬ bt those k = true := by rw [hd]; decide
  funext a i
  by_cases hi : i = k
  · subst hi
    rw [cdM_hi _ _ _ _ _ _ _ (Nat.le_refl _)]
    unfold cdM
    rw [if_neg (fun z => hb' z.2.2), if_neg (fun z => hb' z.2.2), if_neg (fun z => hd' z.2.2), if_neg (fun z => hb' z.2.2)]
  · rw [cdM_lo _ _ _ _ _ _ _ hi]
-- the people rows, to the end
def cwM (g : Mem) (E : Nat) : Mem := if (E + 1) % 7 = 0 then flM g 29 0 8 else g
theorem LayX.pR34 {h : Hp} (hl : LayX h) (v : Option Nat) : LayX (pR h 3 4 v) := by
  obtain ⟨a, b, c, d⟩ := hl
  refine ⟨a, b, ?_, d⟩
  simp only [hR_pR, Nat.reduceEqDiff, false_and, and_false, if_false, true_and, eq_self]
  exact c
theorem LayN.pR34 {h : Hp} {n R : Nat} (hn : LayN h n R) (v : Option Nat) : LayN (pR h 3 4 v) n R := by
  obtain ⟨a, b, c0, c1, c2, c3, r1, r2, r3, l⟩ := hn
  have e : ¬ n = 3 := by omega
  refine ⟨a, b, c0, c1, c2, c3, ?_, ?_, ?_, l⟩
  · rw [hR_pR, if_neg (fun z => e z.1)]; exact r1
  · rw [hR_pR, if_neg (fun z => e z.1)]; exact r2
  · rw [hR_pR, if_neg (fun z => e z.1)]; exact r3
def T_X5_closeDoor : Tr := fun av h Q => match av with
  | [.ref a, .ref b] => a = 31 ∧ LayX h ∧ hR h 31 0 = some 3 ∧ ∃ n R P E T door F, n = b ∧ LayN h n R ∧ R ≤ 4 ∧ P ≤ 24 ∧ hI h 16 0 = nI P ∧ hI h n 4 = T ∧ hI h n 2 = door ∧ hI h n 1 = nI E ∧ E < 400 ∧ (∀ r p, r < R → p < P → bt T p = true → (bt (hI h (n + 3) r) p = true ↔ F p = r)) ∧ (∀ p, p < P → bt T p = true → F p < R) ∧ Q none (wI (pR h 3 4 (some n)) (cwM (cdM (hI h) T door F P) E))
  | _ => False
def L_X5_closeDoor : List UInt8 := [42, 180, 0, 15, 180, 0, 28, 77, 3, 62, 29, 44, 180, 0, 34, 162, 0, 72, 43, 180, 0, 107, 29, 184, 0, 45, 153, 0, 34, 44, 180, 0, 161, 29, 92, 46, 4, 96, 79, 44, 180, 0, 89, 29, 3, 79, 44, 180, 0, 123, 29, 43, 29, 182, 0, 164, 79, 167, 0, 24, 43, 180, 0, 40, 29, 184, 0, 45, 153, 0, 13, 44, 180, 0, 89, 29, 92, 46, 4, 96, 79, 132, 3, 1, 167, 255, 182, 42, 180, 0, 15, 43, 181, 0, 167, 42, 180, 0, 15, 182, 0, 137, 154, 0, 13, 42, 180, 0, 15, 180, 0, 144, 182, 0, 171, 177]
theorem Lc_X5_closeDoor : MX5_closeDoor.2.1 = ⟨L_X5_closeDoor.toArray⟩ := rfl
theorem D_X5_closeDoor_0 : dseq MX5_closeDoor.2.1 0 [(.aload_n 0, 1), (.getfield 15, 3), (.getfield 28, 3), (.astore_n 2, 1), (.iconst 0, 1), (.istore_n 3, 1)] := dq Lc_X5_closeDoor 0 _ (by decide +kernel)
theorem D_X5_closeDoor_10 : dseq MX5_closeDoor.2.1 10 [(.iload_n 3, 1), (.aload_n 2, 1), (.getfield 34, 3), (.if_icmp .ge 72, 3), (.aload_n 1, 1), (.getfield 107, 3), (.iload_n 3, 1), (.invokestatic 45, 3), (.ifCond .eq 34, 3), (.aload_n 2, 1), (.getfield 161, 3), (.iload_n 3, 1), (.dup2, 1), (.iaload, 1), (.iconst 1, 1), (.iadd, 1), (.iastore, 1), (.aload_n 2, 1), (.getfield 89, 3), (.iload_n 3, 1), (.iconst 0, 1), (.iastore, 1), (.aload_n 2, 1), (.getfield 123, 3), (.iload_n 3, 1), (.aload_n 1, 1), (.iload_n 3, 1), (.invokevirtual 164, 3), (.iastore, 1), (.goto 24, 3)] := dq Lc_X5_closeDoor 10 _ (by decide +kernel)
theorem D_X5_closeDoor_87 : dseq MX5_closeDoor.2.1 87 [(.aload_n 0, 1), (.getfield 15, 3), (.aload_n 1, 1), (.putfield 167, 3), (.aload_n 0, 1), (.getfield 15, 3), (.invokevirtual 137, 3), (.ifCond .ne 13, 3), (.aload_n 0, 1), (.getfield 15, 3), (.getfield 144, 3), (.invokevirtual 171, 3), (.return_, 1)] := dq Lc_X5_closeDoor 87 _ (by decide +kernel)
theorem D_X5_closeDoor_115 : dseq MX5_closeDoor.2.1 115 [(.return_, 1)] := dq Lc_X5_closeDoor 115 _ (by decide +kernel)
theorem D_X5_closeDoor_60 : dseq MX5_closeDoor.2.1 60 [(.aload_n 1, 1), (.getfield 40, 3), (.iload_n 3, 1), (.invokestatic 45, 3), (.ifCond .eq 13, 3), (.aload_n 2, 1), (.getfield 89, 3), (.iload_n 3, 1), (.dup2, 1), (.iaload, 1), (.iconst 1, 1), (.iadd, 1), (.iastore, 1)] := dq Lc_X5_closeDoor 60 _ (by decide +kernel)
theorem D_X5_closeDoor_81 : dseq MX5_closeDoor.2.1 81 [(.iinc 3 1, 3), (.goto (-74), 3)] := dq Lc_X5_closeDoor 81 _ (by decide +kernel)
def c_X5_closeDoor_102 (Q : Option Value → Hp → Prop) : Kt := i_if (fun x => x = 0) (i_ald 0 (i_getR 5 0 (i_getR 8 2 (i_callV 0 0 T_X0_beginWeek (i_vret Q))))) (i_vret Q)
def c_X5_closeDoor_56 (Q : Option Value → Hp → Prop) : Kt := i_iast (i_keep [true, true, true, true] (wp 2 MX5_closeDoor Q 81))
def b_X5_closeDoor_0 (Q : Option Value → Hp → Prop) : Kt := i_ald 0 (i_getR 5 0 (i_getR 8 1 (i_ast 2 (i_push (.int 0) (i_ist 3 (i_keep [true, true, true, true] (wp 2 MX5_closeDoor Q 10)))))))
set_option maxRecDepth 100000 in
theorem s_X5_closeDoor_0 (Q : Option Value → Hp → Prop) : ∀ A st h, b_X5_closeDoor_0 Q A st h → wp 2 MX5_closeDoor Q 0 A st h := (q1 (s_aldn (n := 0) (i := 0) rfl) D_X5_closeDoor_0 fun D => (qC fl_X5_15 rfl D fun D => (qC fl_X5_28 rfl D fun D => (qL (s_astn (n := 2) (i := 2) rfl) (by decide) D fun D => (q1 (s_iconst (n := 0) (v := 0) (by decide)) D fun D => (qL (s_istn (n := 3) (i := 3) rfl) (by decide) D fun D => (s_keep [true, true, true, true] fun _ _ _ h => h)))))))
def b_X5_closeDoor_10 (Q : Option Value → Hp → Prop) : Kt := i_ild 3 (i_ald 2 (i_getI 3 0 (i_cmp (fun x y => y ≤ x) (i_ald 0 (i_getR 5 0 (i_ald 1 (i_putR 8 4 (i_ald 0 (i_getR 5 0 (i_callV 8 0 T_X8_dayOfWeek (c_X5_closeDoor_102 Q)))))))) (i_ald 1 (i_getI 1 4 (i_ild 3 (i_callS 2 T_X11_isIn (i_if (fun x => x = 0) (i_ald 1 (i_getI 1 2 (i_ild 3 (i_callS 2 T_X11_isIn (i_if (fun x => x = 0) (i_keep [true, true, true, true] (wp 2 MX5_closeDoor Q 81)) (i_ald 2 (i_getR 3 6 (i_ild 3 (i_dup2 (i_iald (i_push (.int 1) (i_bin (fun x y => x + y) (i_iast (i_keep [true, true, true, true] (wp 2 MX5_closeDoor Q 81))))))))))))))) (i_ald 2 (i_getR 3 5 (i_ild 3 (i_dup2 (i_iald (i_push (.int 1) (i_bin (fun x y => x + y) (i_iast (i_ald 2 (i_getR 3 6 (i_ild 3 (i_push (.int 0) (i_iast (i_ald 2 (i_getR 3 7 (i_ild 3 (i_ald 1 (i_ild 3 (i_callV 1 1 T_X1_roomOf (c_X5_closeDoor_56 Q))))))))))))))))))))))))))))
set_option maxRecDepth 100000 in
theorem s_X5_closeDoor_10 (Q : Option Value → Hp → Prop) : ∀ A st h, b_X5_closeDoor_10 Q A st h → wp 2 MX5_closeDoor Q 10 A st h := (q1 (s_ildn (n := 3) (i := 3) rfl) D_X5_closeDoor_10 fun D => (q1 (s_aldn (n := 2) (i := 2) rfl) D fun D => (qC fl_X5_34 rfl D fun D => (qB s_cmpge 87 (by decide) D (q1 (s_aldn (n := 0) (i := 0) rfl) D_X5_closeDoor_87 fun D => (qC fl_X5_15 rfl D fun D => (q1 (s_aldn (n := 1) (i := 1) rfl) D fun D => (qP pl_X5_167 rfl (Or.inl rfl) D fun D => (q1 (s_aldn (n := 0) (i := 0) rfl) D fun D => (qC fl_X5_15 rfl D fun D => (qX (s_callV kX8 rfl ok_X8_dayOfWeek mo_X8_dayOfWeek (ch_4_9_ok.2.2.2.2.2.2.1.1 rfl) (ch_4_0_ok.2.2.1.1 rfl) (ch_4_0_ok.2.2.2.1.1 rfl)) rfl (by decide) D fun D => (qBn s_ifne2 115 (by decide) D (qV rfl D_X5_closeDoor_115) fun D => (q1 (s_aldn (n := 0) (i := 0) rfl) D fun D => (qC fl_X5_15 rfl D fun D => (qC fl_X5_144 rfl D fun D => (qX (s_callV kX0 rfl ok_X0_beginWeek mo_X0_beginWeek (ch_4_10_ok.2.2.2.2.2.2.2.2.2.2.2.2.1.1 rfl) (ch_4_10_ok.2.2.2.2.2.2.2.2.2.2.2.2.2.1.1 rfl) (ch_4_10_ok.2.2.2.2.2.2.2.2.2.2.2.2.2.2.1.1 rfl)) rfl (by decide) D fun D => (qV rfl D))))))))))))) fun D => (q1 (s_aldn (n := 1) (i := 1) rfl) D fun D => (qC fl_X5_107 rfl D fun D => (q1 (s_ildn (n := 3) (i := 3) rfl) D fun D => (qX (s_callSN ok_X11_isIn mo_X11_isIn (ch_3_14_ok.1.2 rfl) (ch_3_7_ok.2.2.2.2.1.1 rfl)) rfl (by decide) D fun D => (qB s_ifeq 60 (by decide) D (q1 (s_aldn (n := 1) (i := 1) rfl) D_X5_closeDoor_60 fun D => (qC fl_X5_40 rfl D fun D => (q1 (s_ildn (n := 3) (i := 3) rfl) D fun D => (qX (s_callSN ok_X11_isIn mo_X11_isIn (ch_3_14_ok.1.2 rfl) (ch_3_7_ok.2.2.2.2.1.1 rfl)) rfl (by decide) D fun D => (qB s_ifeq 81 (by decide) D (s_keep [true, true, true, true] fun _ _ _ h => h) fun D => (q1 (s_aldn (n := 2) (i := 2) rfl) D fun D => (qC fl_X5_89 rfl D fun D => (q1 (s_ildn (n := 3) (i := 3) rfl) D fun D => (q1 s_dup2 D fun D => (q1 s_iald D fun D => (q1 (s_iconst (n := 1) (v := 1) (by decide)) D fun D => (q1 s_add D fun D => (q1 s_iast D fun D => (s_keep [true, true, true, true] fun _ _ _ h => h)))))))))))))) fun D => (q1 (s_aldn (n := 2) (i := 2) rfl) D fun D => (qC fl_X5_161 rfl D fun D => (q1 (s_ildn (n := 3) (i := 3) rfl) D fun D => (q1 s_dup2 D fun D => (q1 s_iald D fun D => (q1 (s_iconst (n := 1) (v := 1) (by decide)) D fun D => (q1 s_add D fun D => (q1 s_iast D fun D => (q1 (s_aldn (n := 2) (i := 2) rfl) D fun D => (qC fl_X5_89 rfl D fun D => (q1 (s_ildn (n := 3) (i := 3) rfl) D fun D => (q1 (s_iconst (n := 0) (v := 0) (by decide)) D fun D => (q1 s_iast D fun D => (q1 (s_aldn (n := 2) (i := 2) rfl) D fun D => (qC fl_X5_123 rfl D fun D => (q1 (s_ildn (n := 3) (i := 3) rfl) D fun D => (q1 (s_aldn (n := 1) (i := 1) rfl) D fun D => (q1 (s_ildn (n := 3) (i := 3) rfl) D fun D => (qX (s_callV kX1 rfl ok_X1_roomOf mo_X1_roomOf (ch_4_10_ok.2.2.2.2.2.2.2.2.1.1 rfl) (ch_4_10_ok.2.2.2.2.2.2.2.2.2.1.1 rfl) (ch_4_10_ok.2.2.2.2.2.2.2.2.2.2.1.1 rfl)) rfl (by decide) D fun D => (q1 s_iast D fun D => (qG 81 (by decide) D (s_keep [true, true, true, true] fun _ _ _ h => h)))))))))))))))))))))))))))))))
def b_X5_closeDoor_81 (Q : Option Value → Hp → Prop) : Kt := i_inc 3 1 (i_keep [true, true, true, true] (wp 2 MX5_closeDoor Q 10))
set_option maxRecDepth 100000 in
theorem s_X5_closeDoor_81 (Q : Option Value → Hp → Prop) : ∀ A st h, b_X5_closeDoor_81 Q A st h → wp 2 MX5_closeDoor Q 81 A st h := (qL (s_inc (i := 3) (n := 1) (v := 1) (by decide)) (by decide) D_X5_closeDoor_81 fun D => (qG 10 (by decide) D (s_keep [true, true, true, true] fun _ _ _ h => h)))

set_option maxRecDepth 100000 in
set_option maxHeartbeats 400000 in
theorem cd_10 (Q : Option Value → Hp → Prop) (h : Hp) (hl : LayX h) (hs31 : hR h 31 0 = some 3) (n R P E : Nat) (T door : Int32) (F : Nat → Nat) (hn : LayN h n R) (hR4 : R ≤ 4) (hP : P ≤ 24) (f : Mem) (h16 : f 16 0 = nI P) (h4 : f n 4 = T) (h2 : f n 2 = door) (h1 : f n 1 = nI E) (hE : E < 400) (hb : ∀ r p, r < R → p < P → bt T p = true → (bt (f (n + 3) r) p = true ↔ F p = r)) (hF : ∀ p, p < P → bt T p = true → F p < R) (hq : Q none (wI (pR h 3 4 (some n)) (cwM (cdM f T door F P) E))) :
    ∀ (m p : Nat), m = P - p → p ≤ P → wp 2 MX5_closeDoor Q 10 [some (.ref 31), some (.ref n), some (.ref 16), some (.int (nI p))] [] (wI h (cdM f T door F p)) := by
  have hn90 := hn.1
  intro m
  induction m with
  | zero =>
    intro p hm hp
    have e : p = P := by omega
    subst e
    have hl2 : LayX (wI h (cdM f T door F p)) := hl
    have hl3 : LayX (pR (wI h (cdM f T door F p)) 3 4 (some n)) := LayX.pR34 hl2 _
    have hn2 : LayN (wI h (cdM f T door F p)) n R := hn
    have hnp : LayN (pR (wI h (cdM f T door F p)) 3 4 (some n)) n R := LayN.pR34 hn2 _
    have hs32 : hR (wI h (cdM f T door F p)) 31 0 = some 3 := hs31
    have o : ∀ a i, a ≠ 20 → a ≠ 21 → a ≠ 22 → cdM f T door F p a i = f a i := fun a i a1 a2 a3 => cdM_o f T door F p a1 a2 a3 i
    have e16 : hI (wI h (cdM f T door F p)) 16 0 = nI p := (o 16 0 (by decide) (by decide) (by decide)).trans h16
    have e1 : hI (wI h (cdM f T door F p)) n 1 = nI E := (o n 1 (by omega) (by omega) (by omega)).trans h1
    have e7 : nI (E + 1) - nI (E + 1) / 7 * 7 = nI ((E + 1) % 7) := pk_rem (by omega) (by decide) (by decide)
    have h7 : ¬ (7 : Int32) = 0 := by decide
    have hz : nI ((E + 1) % 7) = 0 ↔ (E + 1) % 7 = 0 := nI_inj (b := 0) (by omega) (by decide)
    have g1 : ¬ (E + 1) % 7 = 0 → Q none (pR (wI h (cdM f T door F p)) 3 4 (some n)) := fun c => by
      unfold cwM at hq; rw [if_neg c] at hq; exact hq
    have g2 : (E + 1) % 7 = 0 → T_X0_beginWeek [.ref 25] (pR (wI h (cdM f T door F p)) 3 4 (some n)) (fun r h' => i_vret Q [some (.ref 31), some (.ref n), some (.ref 16), some (.int (nI p))] (r.toList ++ []) h') := fun c => by
      have g3 : Q none (wI (pR (wI h (cdM f T door F p)) 3 4 (some n)) (flM (hI (pR (wI h (cdM f T door F p)) 3 4 (some n))) 29 0 8)) := by unfold cwM at hq; rw [if_pos c] at hq; exact hq
      unfold T_X0_beginWeek
      generalize pR (wI h (cdM f T door F p)) 3 4 (some n) = X at hl3 g3 ⊢
      have hl := hl3
      simp only [b_X0_beginWeek_0, T_J7_fill_53178, lx_pI, lx_wI, lx_t hl, lx_k hl, lx_r hl, lx_l hl, i_push, i_ild, i_ald, i_ist, i_ast, i_inc, i_bin, i_un, i_divs, i_i2l, i_lshl, i_lor, i_dup, i_dup2, i_pop, i_if, i_cmp, i_nul, i_vret, i_iret, i_zret, i_aret, i_keep, keep, lget, lset, ent, i_getI, i_getJ, i_getR, i_getN, i_putI, i_putZ, i_putJ, i_putR, i_iald, i_bald, i_alen, i_aald, i_iast, i_bast, i_aast, i_new, i_newa, i_anew, i_oini, i_callS, i_callV, i_callI, popn, sh4, i_sw, swP, i_copy, i_binS, List.map, Option.toList_none, Option.toList_some, List.append, List.nil_append, List.cons_append, List.length_cons, List.length_nil, List.replicate, Nat.sub_self, Nat.reduceSub, Nat.reduceAdd, hK_pI, hL_pI, hI_pI, hR_pI, hJ_pI, hT_pI, hS_pI, hK_pR, hL_pR, hI_pR, hR_pR, hJ_pR, hT_pR, hS_pR, hK_pJ, hL_pJ, hI_pJ, hR_pJ, hJ_pJ, hT_pJ, hS_pJ, hK_wI, hL_wI, hI_wI, hR_wI, hJ_wI, hT_wI, hS_wI, eq_self, and_true, true_and, and_false, false_and, or_true, true_or, or_false, false_or, if_true, if_false, not_true_eq_false, not_false_eq_true, forall_const, implies_true, false_implies, true_implies, Option.some.injEq, forall_eq', exists_eq_left', reduceCtorEq, Nat.reduceEqDiff, c1, T_X12_in, T_X12_ones, T_X11_within, T_X11_bit, T_X11_isIn, T_X11_oneIfIn, T_J6_bitCount_0f7a4]
      exact ⟨by decide, g3⟩
    have h114 : c_X5_closeDoor_102 Q [some (.ref 31), some (.ref n), some (.ref 16), some (.int (nI p))] [.int (nI ((E + 1) % 7))] (pR (wI h (cdM f T door F p)) 3 4 (some n)) := by
      have hs33 : hR (pR (wI h (cdM f T door F p)) 3 4 (some n)) 31 0 = some 3 := hs31
      generalize pR (wI h (cdM f T door F p)) 3 4 (some n) = X at hl3 hs33 g1 g2 ⊢
      have hl := hl3
      simp only [c_X5_closeDoor_102, lx_pI, lx_wI, lx_t hl, lx_k hl, lx_r hl, lx_l hl, i_push, i_ild, i_ald, i_ist, i_ast, i_inc, i_bin, i_un, i_divs, i_i2l, i_lshl, i_lor, i_dup, i_dup2, i_pop, i_if, i_cmp, i_nul, i_vret, i_iret, i_zret, i_aret, i_keep, keep, lget, lset, ent, i_getI, i_getJ, i_getR, i_getN, i_putI, i_putZ, i_putJ, i_putR, i_iald, i_bald, i_alen, i_aald, i_iast, i_bast, i_aast, i_new, i_newa, i_anew, i_oini, i_callS, i_callV, i_callI, popn, sh4, i_sw, swP, i_copy, i_binS, List.map, Option.toList_none, Option.toList_some, List.append, List.nil_append, List.cons_append, List.length_cons, List.length_nil, List.replicate, Nat.sub_self, Nat.reduceSub, Nat.reduceAdd, hK_pI, hL_pI, hI_pI, hR_pI, hJ_pI, hT_pI, hS_pI, hK_pR, hL_pR, hI_pR, hR_pR, hJ_pR, hT_pR, hS_pR, hK_pJ, hL_pJ, hI_pJ, hR_pJ, hJ_pJ, hT_pJ, hS_pJ, hK_wI, hL_wI, hI_wI, hR_wI, hJ_wI, hT_wI, hS_wI, eq_self, and_true, true_and, and_false, false_and, or_true, true_or, or_false, false_or, if_true, if_false, not_true_eq_false, not_false_eq_true, forall_const, implies_true, false_implies, true_implies, Option.some.injEq, forall_eq', exists_eq_left', reduceCtorEq, Nat.reduceEqDiff, c1, T_X12_in, T_X12_ones, T_X11_within, T_X11_bit, T_X11_isIn, T_X11_oneIfIn, T_J6_bitCount_0f7a4, hs33, hz]
      first | exact ⟨g2, g1⟩ | exact ⟨g1, g2⟩
    have hday : T_X8_dayOfWeek [.ref 3] (pR (wI h (cdM f T door F p)) 3 4 (some n)) (fun r h' => c_X5_closeDoor_102 Q [some (.ref 31), some (.ref n), some (.ref 16), some (.int (nI p))] (r.toList ++ []) h') := by
      have h34 : hR (pR (wI h (cdM f T door F p)) 3 4 (some n)) 3 4 = some n := by rw [hR_pR, if_pos ⟨rfl, rfl⟩]
      have e1' : hI (pR (wI h (cdM f T door F p)) 3 4 (some n)) n 1 = nI E := e1
      unfold T_X8_dayOfWeek
      generalize pR (wI h (cdM f T door F p)) 3 4 (some n) = X at hl3 hnp h34 e1' h114 ⊢
      have hl := hl3
      have hf := hnp.f
      simp only [b_X8_dayOfWeek_0, lx_pI, lx_wI, lx_t hl, lx_k hl, lx_r hl, lx_l hl, i_push, i_ild, i_ald, i_ist, i_ast, i_inc, i_bin, i_un, i_divs, i_i2l, i_lshl, i_lor, i_dup, i_dup2, i_pop, i_if, i_cmp, i_nul, i_vret, i_iret, i_zret, i_aret, i_keep, keep, lget, lset, ent, i_getI, i_getJ, i_getR, i_getN, i_putI, i_putZ, i_putJ, i_putR, i_iald, i_bald, i_alen, i_aald, i_iast, i_bast, i_aast, i_new, i_newa, i_anew, i_oini, i_callS, i_callV, i_callI, popn, sh4, i_sw, swP, i_copy, i_binS, List.map, Option.toList_none, Option.toList_some, List.append, List.nil_append, List.cons_append, List.length_cons, List.length_nil, List.replicate, Nat.sub_self, Nat.reduceSub, Nat.reduceAdd, hK_pI, hL_pI, hI_pI, hR_pI, hJ_pI, hT_pI, hS_pI, hK_pR, hL_pR, hI_pR, hR_pR, hJ_pR, hT_pR, hS_pR, hK_pJ, hL_pJ, hI_pJ, hR_pJ, hJ_pJ, hT_pJ, hS_pJ, hK_wI, hL_wI, hI_wI, hR_wI, hJ_wI, hT_wI, hS_wI, eq_self, and_true, true_and, and_false, false_and, or_true, true_or, or_false, false_or, if_true, if_false, not_true_eq_false, not_false_eq_true, forall_const, implies_true, false_implies, true_implies, Option.some.injEq, forall_eq', exists_eq_left', reduceCtorEq, Nat.reduceEqDiff, c1, T_X12_in, T_X12_ones, T_X11_within, T_X11_bit, T_X11_isIn, T_X11_oneIfIn, T_J6_bitCount_0f7a4, h34, hf, e1', nI_1, e7, h7]
      exact h114
    refine s_X5_closeDoor_10 Q _ _ _ ?_
    generalize wI h (cdM f T door F p) = X at hl2 hn2 hs32 e16 hday ⊢
    have hl := hl2
    have hf := hn2.f
    simp only [b_X5_closeDoor_10, lx_pI, lx_wI, lx_t hl, lx_k hl, lx_r hl, lx_l hl, i_push, i_ild, i_ald, i_ist, i_ast, i_inc, i_bin, i_un, i_divs, i_i2l, i_lshl, i_lor, i_dup, i_dup2, i_pop, i_if, i_cmp, i_nul, i_vret, i_iret, i_zret, i_aret, i_keep, keep, lget, lset, ent, i_getI, i_getJ, i_getR, i_getN, i_putI, i_putZ, i_putJ, i_putR, i_iald, i_bald, i_alen, i_aald, i_iast, i_bast, i_aast, i_new, i_newa, i_anew, i_oini, i_callS, i_callV, i_callI, popn, sh4, i_sw, swP, i_copy, i_binS, List.map, Option.toList_none, Option.toList_some, List.append, List.nil_append, List.cons_append, List.length_cons, List.length_nil, List.replicate, Nat.sub_self, Nat.reduceSub, Nat.reduceAdd, hK_pI, hL_pI, hI_pI, hR_pI, hJ_pI, hT_pI, hS_pI, hK_pR, hL_pR, hI_pR, hR_pR, hJ_pR, hT_pR, hS_pR, hK_pJ, hL_pJ, hI_pJ, hR_pJ, hJ_pJ, hT_pJ, hS_pJ, hK_wI, hL_wI, hI_wI, hR_wI, hJ_wI, hT_wI, hS_wI, eq_self, and_true, true_and, and_false, false_and, or_true, true_or, or_false, false_or, if_true, if_false, not_true_eq_false, not_false_eq_true, forall_const, implies_true, false_implies, true_implies, Option.some.injEq, forall_eq', exists_eq_left', reduceCtorEq, Nat.reduceEqDiff, c1, T_X12_in, T_X12_ones, T_X11_within, T_X11_bit, T_X11_isIn, T_X11_oneIfIn, T_J6_bitCount_0f7a4, hs32, hf, e16, Nat.reduceEqDiff]
    refine ⟨fun _ => ?_, fun z => absurd (nI_le (Nat.le_refl _) (by omega)) z⟩
    exact hday
  | succ m ih =>
    intro p hm hp
    have hgo := ih (p + 1) (by omega) (by omega)
    have h90 : ∀ g, g = cdM f T door F (p + 1) → wp 2 MX5_closeDoor Q 81 [some (.ref 31), some (.ref n), some (.ref 16), some (.int (nI p))] [] (wI h g) := by
      intro g hg
      subst hg
      refine s_X5_closeDoor_81 Q _ _ _ ?_
      generalize wI h (cdM f T door F (p + 1)) = X at hgo ⊢
      simp only [b_X5_closeDoor_81, i_push, i_ild, i_ald, i_ist, i_ast, i_inc, i_bin, i_un, i_divs, i_i2l, i_lshl, i_lor, i_dup, i_dup2, i_pop, i_if, i_cmp, i_nul, i_vret, i_iret, i_zret, i_aret, i_keep, keep, lget, lset, ent, i_getI, i_getJ, i_getR, i_getN, i_putI, i_putZ, i_putJ, i_putR, i_iald, i_bald, i_alen, i_aald, i_iast, i_bast, i_aast, i_new, i_newa, i_anew, i_oini, i_callS, i_callV, i_callI, popn, sh4, i_sw, swP, i_copy, i_binS, List.map, Option.toList_none, Option.toList_some, List.append, List.nil_append, List.cons_append, List.length_cons, List.length_nil, List.replicate, Nat.sub_self, Nat.reduceSub, Nat.reduceAdd, hK_pI, hL_pI, hI_pI, hR_pI, hJ_pI, hT_pI, hS_pI, hK_pR, hL_pR, hI_pR, hR_pR, hJ_pR, hT_pR, hS_pR, hK_pJ, hL_pJ, hI_pJ, hR_pJ, hJ_pJ, hT_pJ, hS_pJ, hK_wI, hL_wI, hI_wI, hR_wI, hJ_wI, hT_wI, hS_wI, eq_self, and_true, true_and, and_false, false_and, or_true, true_or, or_false, false_or, if_true, if_false, not_true_eq_false, not_false_eq_true, forall_const, implies_true, false_implies, true_implies, Option.some.injEq, forall_eq', exists_eq_left', reduceCtorEq, Nat.reduceEqDiff, c1, T_X12_in, T_X12_ones, T_X11_within, T_X11_bit, T_X11_isIn, T_X11_oneIfIn, T_J6_bitCount_0f7a4, nI_1]
      exact hgo
    have hl2 : LayX (wI h (cdM f T door F p)) := hl
    have hn2 : LayN (wI h (cdM f T door F p)) n R := hn
    have o : ∀ a i, a ≠ 20 → a ≠ 21 → a ≠ 22 → cdM f T door F p a i = f a i := fun a i a1 a2 a3 => cdM_o f T door F p a1 a2 a3 i
    have e16 : hI (wI h (cdM f T door F p)) 16 0 = nI P := (o 16 0 (by decide) (by decide) (by decide)).trans h16
    have e2 : hI (wI h (cdM f T door F p)) n 2 = door := (o n 2 (by omega) (by omega) (by omega)).trans h2
    have e4 : hI (wI h (cdM f T door F p)) n 4 = T := (o n 4 (by omega) (by omega) (by omega)).trans h4
    have e20 : hI (wI h (cdM f T door F p)) 20 p = f 20 p := cdM_hi f T door F p 20 p (Nat.le_refl _)
    have e21 : hI (wI h (cdM f T door F p)) 21 p = f 21 p := cdM_hi f T door F p 21 p (Nat.le_refl _)
    have e3 : ∀ r, hI (wI h (cdM f T door F p)) (n + 3) r = f (n + 3) r := fun r => o (n + 3) r (by omega) (by omega) (by omega)
    have g0 : bt T p = false → bt door p = false → wp 2 MX5_closeDoor Q 81 [some (.ref 31), some (.ref n), some (.ref 16), some (.int (nI p))] [] (wI h (cdM f T door F p)) := fun a b => h90 _ (cdM_n f T door F p a b)
    have g1 : bt T p = false → bt door p = true → wp 2 MX5_closeDoor Q 81 [some (.ref 31), some (.ref n), some (.ref 16), some (.int (nI p))] [] (pI (wI h (cdM f T door F p)) 21 p (f 21 p + 1)) := fun a b => h90 _ (cdM_d f T door F p a b)
    have g2 : bt T p = true → wp 2 MX5_closeDoor Q 81 [some (.ref 31), some (.ref n), some (.ref 16), some (.int (nI p))] [] (pI (pI (pI (wI h (cdM f T door F p)) 20 p (f 20 p + 1)) 21 p 0) 22 p (nI (F p))) := fun a => h90 _ (cdM_t f T door F p a)
    have hro : bt T p = true → T_X1_roomOf [.ref n, .int (nI p)] (pI (pI (wI h (cdM f T door F p)) 20 p (f 20 p + 1)) 21 p 0) (fun r h' => c_X5_closeDoor_56 Q [some (.ref 31), some (.ref n), some (.ref 16), some (.int (nI p))] (r.toList ++ [.int (nI p), .ref 22]) h') := fun a => by
      have hnn : LayN (pI (pI (wI h (cdM f T door F p)) 20 p (f 20 p + 1)) 21 p 0) n R := hn
      have r3 : ∀ r, hI (pI (pI (wI h (cdM f T door F p)) 20 p (f 20 p + 1)) 21 p 0) (n + 3) r = f (n + 3) r := fun r => by
        rw [hI_pI, if_neg (by omega), hI_pI, if_neg (by omega)]; exact e3 r
      refine ⟨R, p, hR4, hnn, rfl, by omega, fun r hr hbr _ => ?_, fun hno => ?_⟩
      · rw [r3] at hbr
        have eF := (hb r p hr (by omega) a).mp hbr
        have hg2 := g2 a
        rw [eF] at hg2
        show c_X5_closeDoor_56 Q _ [.int (nI r), .int (nI p), .ref 22] _
        generalize wI h (cdM f T door F p) = X at hl2 hg2 ⊢
        have hl := hl2
        simp only [c_X5_closeDoor_56, lx_pI, lx_wI, lx_t hl, lx_k hl, lx_r hl, lx_l hl, i_push, i_ild, i_ald, i_ist, i_ast, i_inc, i_bin, i_un, i_divs, i_i2l, i_lshl, i_lor, i_dup, i_dup2, i_pop, i_if, i_cmp, i_nul, i_vret, i_iret, i_zret, i_aret, i_keep, keep, lget, lset, ent, i_getI, i_getJ, i_getR, i_getN, i_putI, i_putZ, i_putJ, i_putR, i_iald, i_bald, i_alen, i_aald, i_iast, i_bast, i_aast, i_new, i_newa, i_anew, i_oini, i_callS, i_callV, i_callI, popn, sh4, i_sw, swP, i_copy, i_binS, List.map, Option.toList_none, Option.toList_some, List.append, List.nil_append, List.cons_append, List.length_cons, List.length_nil, List.replicate, Nat.sub_self, Nat.reduceSub, Nat.reduceAdd, hK_pI, hL_pI, hI_pI, hR_pI, hJ_pI, hT_pI, hS_pI, hK_pR, hL_pR, hI_pR, hR_pR, hJ_pR, hT_pR, hS_pR, hK_pJ, hL_pJ, hI_pJ, hR_pJ, hJ_pJ, hT_pJ, hS_pJ, hK_wI, hL_wI, hI_wI, hR_wI, hJ_wI, hT_wI, hS_wI, eq_self, and_true, true_and, and_false, false_and, or_true, true_or, or_false, false_or, if_true, if_false, not_true_eq_false, not_false_eq_true, forall_const, implies_true, false_implies, true_implies, Option.some.injEq, forall_eq', exists_eq_left', reduceCtorEq, Nat.reduceEqDiff, c1, T_X12_in, T_X12_ones, T_X11_within, T_X11_bit, T_X11_isIn, T_X11_oneIfIn, T_J6_bitCount_0f7a4, cl_nI (show p < 2147483648 by omega), in_nI (show p < 24 by omega) (by decide)]
        exact hg2
      · exfalso
        have := hno (F p) (hF p (by omega) a)
        rw [r3, (hb (F p) p (hF p (by omega) a) (by omega) a).mpr rfl] at this
        cases this
    refine s_X5_closeDoor_10 Q _ _ _ ?_
    generalize wI h (cdM f T door F p) = X at hl2 hn2 e16 e2 e4 e20 e21 g0 g1 hro ⊢
    have hl := hl2
    have hf := hn2.f
    simp only [b_X5_closeDoor_10, lx_pI, lx_wI, lx_t hl, lx_k hl, lx_r hl, lx_l hl, i_push, i_ild, i_ald, i_ist, i_ast, i_inc, i_bin, i_un, i_divs, i_i2l, i_lshl, i_lor, i_dup, i_dup2, i_pop, i_if, i_cmp, i_nul, i_vret, i_iret, i_zret, i_aret, i_keep, keep, lget, lset, ent, i_getI, i_getJ, i_getR, i_getN, i_putI, i_putZ, i_putJ, i_putR, i_iald, i_bald, i_alen, i_aald, i_iast, i_bast, i_aast, i_new, i_newa, i_anew, i_oini, i_callS, i_callV, i_callI, popn, sh4, i_sw, swP, i_copy, i_binS, List.map, Option.toList_none, Option.toList_some, List.append, List.nil_append, List.cons_append, List.length_cons, List.length_nil, List.replicate, Nat.sub_self, Nat.reduceSub, Nat.reduceAdd, hK_pI, hL_pI, hI_pI, hR_pI, hJ_pI, hT_pI, hS_pI, hK_pR, hL_pR, hI_pR, hR_pR, hJ_pR, hT_pR, hS_pR, hK_pJ, hL_pJ, hI_pJ, hR_pJ, hJ_pJ, hT_pJ, hS_pJ, hK_wI, hL_wI, hI_wI, hR_wI, hJ_wI, hT_wI, hS_wI, eq_self, and_true, true_and, and_false, false_and, or_true, true_or, or_false, false_or, if_true, if_false, not_true_eq_false, not_false_eq_true, forall_const, implies_true, false_implies, true_implies, Option.some.injEq, forall_eq', exists_eq_left', reduceCtorEq, Nat.reduceEqDiff, c1, T_X12_in, T_X12_ones, T_X11_within, T_X11_bit, T_X11_isIn, T_X11_oneIfIn, T_J6_bitCount_0f7a4, hf, e16, e2, e4, e20, e21, sh_bt T (show p < 32 by omega), sh_bt door (show p < 32 by omega), b2i_0, Classical.not_not, cl_nI (show p < 2147483648 by omega), in_nI (show p < 24 by omega) (by decide)]
    refine ⟨fun z => absurd z (nI_ge (by omega) (by omega)), fun _ => ⟨fun z => ⟨fun y => g0 z y, fun y => g1 z (by simpa using y)⟩, fun z => ?_⟩⟩
    exact hro (by simpa using z)
set_option maxRecDepth 100000 in
set_option maxHeartbeats 4000000 in
theorem ok_X5_closeDoor : ctr 2 MX5_closeDoor T_X5_closeDoor := by
  refine ctr_of pn_X5 wc_X5_closeDoor (fun av h Q hT => ?_)
  unfold T_X5_closeDoor at hT
  split at hT
  · rename_i a b
    refine ⟨⟨by simp [Value.category], Nat.le_of_ble_eq_true rfl⟩, s_X5_closeDoor_0 Q _ _ _ ?_⟩
    obtain ⟨rfl, hl, hs31, n, R, P, E, T, door, F, rfl, hn, hR4, hP, h16, h4, h2, h1, hE, hb, hF, hq⟩ := hT
    have := cd_10 Q h hl hs31 n R P E T door F hn hR4 hP (hI h) h16 h4 h2 h1 hE hb hF hq P 0 (by omega) (by omega)
    rw [cdM_0] at this
    have e : wI h (hI h) = h := rfl
    rw [e] at this
    simp only [MX5_closeDoor, b_X5_closeDoor_0, lx_pI, lx_wI, lx_t hl, lx_k hl, lx_r hl, lx_l hl, i_push, i_ild, i_ald, i_ist, i_ast, i_inc, i_bin, i_un, i_divs, i_i2l, i_lshl, i_lor, i_dup, i_dup2, i_pop, i_if, i_cmp, i_nul, i_vret, i_iret, i_zret, i_aret, i_keep, keep, lget, lset, ent, i_getI, i_getJ, i_getR, i_getN, i_putI, i_putZ, i_putJ, i_putR, i_iald, i_bald, i_alen, i_aald, i_iast, i_bast, i_aast, i_new, i_newa, i_anew, i_oini, i_callS, i_callV, i_callI, popn, sh4, i_sw, swP, i_copy, i_binS, List.map, Option.toList_none, Option.toList_some, List.append, List.nil_append, List.cons_append, List.length_cons, List.length_nil, List.replicate, Nat.sub_self, Nat.reduceSub, Nat.reduceAdd, hK_pI, hL_pI, hI_pI, hR_pI, hJ_pI, hT_pI, hS_pI, hK_pR, hL_pR, hI_pR, hR_pR, hJ_pR, hT_pR, hS_pR, hK_pJ, hL_pJ, hI_pJ, hR_pJ, hJ_pJ, hT_pJ, hS_pJ, hK_wI, hL_wI, hI_wI, hR_wI, hJ_wI, hT_wI, hS_wI, eq_self, and_true, true_and, and_false, false_and, or_true, true_or, or_false, false_or, if_true, if_false, not_true_eq_false, not_false_eq_true, forall_const, implies_true, false_implies, true_implies, Option.some.injEq, forall_eq', exists_eq_left', reduceCtorEq, Nat.reduceEqDiff, c1, T_X12_in, T_X12_ones, T_X11_within, T_X11_bit, T_X11_isIn, T_X11_oneIfIn, T_J6_bitCount_0f7a4, hs31]
    exact this
  · exact hT.elim
