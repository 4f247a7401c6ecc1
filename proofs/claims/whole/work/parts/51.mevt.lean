/-! ===== the reference: evening ===== -/
def evJ (I : Nat → Nat → Int32) (K : Int32) : Nat → Nat → Int32 := u2 (u2 I 44 0 0) 44 56 K
noncomputable def evT (J : Nat → Nat → Int32) (R P n : Nat) (o : Nat → Nat) : Int32 := tkS J R P (amS o n) o n
noncomputable def evF (J : Nat → Nat → Int32) (R P : Nat) (T : Int32) : Nat → Nat := plF (rmI J 4 0) R T P
/-- the memory with the rooms filled -/
def evR (J : Nat → Nat → Int32) (T : Int32) (F : Nat → Nat) (P : Nat) : Nat → Nat → Int32 := plM (rmI J 4 0) T F P
/-- what an evening leaves: J is the memory before it, n and o THE ORDER -/
def EvS (J g : Nat → Nat → Int32) (R P H E Ln n : Nat) (o : Nat → Nat) (those K : Int32) : Prop :=
  (∀ q, q < P → g 78 q = cif (∃ j, j < n ∧ o j = q) (whyT J R P o n q) (whyF J E Ln those K q)) ∧ (∀ j, j < n → g 79 (o j) = nI j) ∧ (∀ q, q < P → (¬ ∃ j, j < n ∧ o j = q) → g 79 q = -1) ∧ (∀ q, P ≤ q → g 78 q = J 78 q ∧ g 79 q = J 79 q) ∧ ag g (evD (evR J (evT J R P n o) (evF J R P (evT J R P n o)) P) R P H E (evT J R P n o) those (evF J R P (evT J R P n o)))
/-- what an evening needs of the memory -/
def EvOk (I : Nat → Nat → Int32) (R P H E Ln : Nat) : Prop := R ≤ 4 ∧ P ≤ 24 ∧ H ≤ 8 ∧ E ≤ 400 ∧ Ln ≤ 16 ∧ I 46 0 = nI R ∧ I 52 0 = nI P ∧ I 64 0 = nI H ∧ I 76 0 = nI E ∧ I 69 0 = nI Ln ∧ linOk I Ln ∧ (∀ r, r < R → ∃ c d : Nat, c + d ≤ 9 ∧ I 47 r = nI c ∧ I 48 r = nI d) ∧ Sy I ∧ Tg I P ∧ ∀ p, p < P → slpOk I R p
def T_X12_evening : Tr := fun av h Q => match av with
  | [.ref a, .int door, .int cold] => a = 44 ∧ LayM h ∧ ∃ R P H E Ln, EvOk (hI h) R P H E Ln ∧ (10 < pct (door &&& (bitI P - 1)) ∨ E = 400 → Q (some (.int (-1))) (pI h 44 0 0)) ∧
      (pct (door &&& (bitI P - 1)) ≤ 10 → E < 400 → ∀ K n o J, K = (if cold = 0 then 0 else 1) → J = evJ (hI h) K → n = (ordS J E Ln (door &&& (bitI P - 1)) K P).1 → o = (ordS J E Ln (door &&& (bitI P - 1)) K P).2 → ∀ g, EvS J g R P H E Ln n o (door &&& (bitI P - 1)) K → Q (some (.int (nI (pct (evT J R P n o))))) (wI h g))
  | _ => False
theorem b_P1 : ∀ P, P < 25 → ∀ i, i < 32 → bt (bitI P - 1) i = decide (i < P) := by decide +kernel
theorem b_those {P : Nat} (hP : P ≤ 24) (door : Int32) (i : Nat) : bt (door &&& (bitI P - 1)) i = (bt door i && decide (i < P)) := by
  rw [b_and]
  rcases Nat.lt_or_ge i 32 with c | c
  · rw [b_P1 P (by omega) i c]
  · rw [b_big c, b_big c]; rfl
theorem evJ_o (I : Nat → Nat → Int32) (K : Int32) {a : Nat} (h : a ≠ 44) (i : Nat) : evJ I K a i = I a i := by
  unfold evJ
  rw [u2_ne (fun z => h z.1), u2_ne (fun z => h z.1)]
theorem evJ_r (I : Nat → Nat → Int32) (K : Int32) {a : Nat} (h : a ≠ 44) : evJ I K a = I a := funext fun i => evJ_o I K h i
theorem evJ_K (I : Nat → Nat → Int32) (K : Int32) : evJ I K 44 56 = K := u2_eq
theorem capF_ev {I : Nat → Nat → Int32} {R P H E Ln : Nat} (hk : EvOk I R P H E Ln) {J : Nat → Nat → Int32} (h7 : J 47 = I 47) (h8 : J 48 = I 48) : ∀ r, r < R → ∃ c, c ≤ 9 ∧ capF J r = nI c := by
  obtain ⟨_, _, _, _, _, _, _, _, _, _, _, hcap, _⟩ := hk
  intro r hr
  obtain ⟨c, d, e1, e2, e3⟩ := hcap r hr
  unfold capF
  rw [h7, h8, e2, e3, nI_add]
  by_cases z : J 44 56 = 1
  · rw [if_pos z]; exact ⟨c + d, e1, rfl⟩
  · rw [if_neg z]; exact ⟨c, by omega, rfl⟩
theorem Sy_c {f g : Nat → Nat → Int32} (h2 : f 62 = g 62) (h3 : f 63 = g 63) (h : Sy g) : Sy f := by
  unfold Sy at h ⊢
  rw [h2, h3]; exact h
theorem Tg_c {f g : Nat → Nat → Int32} {P : Nat} (h3 : f 63 = g 63) (h : Tg g P) : Tg f P := by
  unfold Tg at h ⊢
  rw [h3]; exact h
/-- what makeOrder leaves, as the rest of the evening sees it -/
theorem mo_ev {I : Nat → Nat → Int32} {R P H E Ln : Nat} (hk : EvOk I R P H E Ln) {those K : Int32} (h10 : pct those ≤ 10) {J f : Nat → Nat → Int32} (hJ : J = evJ I K) (hm : MO J f E Ln those K P) (n : Nat) (o : Nat → Nat) (hn : n = (ordS J E Ln those K P).1) (ho : o = (ordS J E Ln those K P).2) : TkOk (plS f o n) R P n o ∧ sameK (plS f o n) J := by
  have hcap := capF_ev hk (J := plS f o n)
  obtain ⟨hR, hP, hH, hE, hLn, h46, h52, h64, h76, h69, hlin, _, hsy, htg, hsl⟩ := hk
  obtain ⟨m1, m2, m3, m4, m5, m6⟩ := hm
  have row : ∀ a, a ≠ 44 → a ≠ 78 → a ≠ 79 → a ≠ 86 → a ≠ 87 → plS f o n a = I a := fun a a1 a2 a3 a4 a5 => funext fun i => by
    rw [plS_o _ _ _ _ _ a3, m6 a i a2 a3 a4 a5 (fun z => a1 z.1), hJ, evJ_o I K a1]
  have hok := ordS_ok J E Ln those K P
  rw [← hn, ← ho] at hok m2
  rw [← hn] at m1
  refine ⟨⟨hR, hP, by omega, ?_, ?_, hcap (row 47 (by decide) (by decide) (by decide) (by decide) (by decide)) (row 48 (by decide) (by decide) (by decide) (by decide) (by decide)), Sy_c (row 62 (by decide) (by decide) (by decide) (by decide) (by decide)) (row 63 (by decide) (by decide) (by decide) (by decide) (by decide)) hsy, Tg_c (row 63 (by decide) (by decide) (by decide) (by decide) (by decide)) htg, ?_, fun j hj => ⟨(hok.2 j hj).1, ?_⟩, those, by omega, fun j hj => (hok.2 j hj).2.1⟩, fun a a1 a2 a3 => ?_, ?_⟩
  · rw [row 46 (by decide) (by decide) (by decide) (by decide) (by decide)]; exact h46
  · rw [row 52 (by decide) (by decide) (by decide) (by decide) (by decide)]; exact h52
  · rw [plS_o _ _ _ _ _ (by decide)]; exact m1
  · rw [plS_o _ _ _ _ _ (by decide)]; exact m2 j hj
  · rw [row a (by omega) (by omega) (by omega) (by omega) (by omega), hJ, evJ_r I K (by omega)]
  · rw [plS_o _ _ _ _ _ (by decide), m6 44 56 (by decide) (by decide) (by decide) (by decide) (fun z => absurd z.2 (by decide))]
theorem sameM.tr {f g k : Nat → Nat → Int32} (h : sameM f g) (h2 : sameM g k) : sameM f k := ⟨fun a a1 a2 a3 a4 a5 a6 => (h.1 a a1 a2 a3 a4 a5 a6).trans (h2.1 a a1 a2 a3 a4 a5 a6), h.2.1.trans h2.2.1, fun i hi => (h.2.2 i hi).trans (h2.2.2 i hi)⟩
theorem rmI_0 (J : Nat → Nat → Int32) {r : Nat} (h : r < 4) : rmI J 4 0 88 r = 0 := by
  show (if 88 = 88 ∧ r < 4 then (if r = 4 then 0 else 0) else J 88 r) = 0
  rw [if_pos ⟨rfl, h⟩, if_neg (by omega)]
theorem rmI_o (J : Nat → Nat → Int32) {a : Nat} (h : a ≠ 88) (i : Nat) : rmI J 4 0 a i = J a i := if_neg (fun z => h z.1)
/-- what take and placeAll leave -/
theorem tk_ev {I : Nat → Nat → Int32} {R P H E Ln : Nat} (hk : EvOk I R P H E Ln) {those K : Int32} {J f f2 : Nat → Nat → Int32} (hJ : J = evJ I K) (hm : MO J f E Ln those K P) (n : Nat) (o : Nat → Nat) (hn : n = (ordS J E Ln those K P).1) (ho : o = (ordS J E Ln those K P).2) (htk : TkOk (plS f o n) R P n o) (hsk : sameK (plS f o n) J) (ht : TKI (plS f o n) f2 R P n o n) :
    (∀ a i, evA a i → a ≠ 88 → f2 a i = J a i) ∧ sameM (eI f2) (rmI J 4 0) ∧ (∀ q, q < P → f2 78 q = cif (∃ j, j < n ∧ o j = q) (whyT J R P o n q) (whyF J E Ln those K q)) ∧ (∀ j, j < n → f2 79 (o j) = nI j) ∧ (∀ q, q < P → (¬ ∃ j, j < n ∧ o j = q) → f2 79 q = -1) ∧ (∀ q, P ≤ q → f2 78 q = J 78 q ∧ f2 79 q = J 79 q) := by
  have hR := hk.1
  have hP := hk.2.1
  obtain ⟨m1, m2, m3, m4, m5, m6⟩ := hm
  have htg : Tg (plS f o n) P := htk.2.2.2.2.2.2.2.1
  have hob : ∀ j, j < n → o j < P := fun j hj => (htk.2.2.2.2.2.2.2.2.2.1 j hj).1
  have hinj : ∀ i j, i < n → j < n → o i = o j → i = j := by
    have := ordS_inj J E Ln those K P
    rw [← hn, ← ho] at this; exact this
  have hre : ∀ q, (∃ j, j < n ∧ Rch (plS f o n) P (amS o n) (o j) q) ↔ ∃ j, j < n ∧ o j = q := fun q => by
    constructor
    · rintro ⟨j, hj, hr⟩
      exact (b_amS hP hob).mp (Rch_in htg (hob j hj) ((b_amS hP hob).mpr ⟨j, hj, rfl⟩) hr).2
    · rintro ⟨j, hj, rfl⟩
      exact ⟨j, hj, Rch_rfl⟩
  have hno : ∀ q, P ≤ q → ¬ ∃ j, j < n ∧ o j = q := fun q hq ⟨j, hj, e⟩ => by have := hob j hj; omega
  refine ⟨fun a i ha ha8 => ?_, (same_tk ht.2).tr (rmI_same hsk.m hsk.2 4 0), fun q hq => ?_, fun j hj => ?_, fun q hq hq2 => ?_, fun q hq => ⟨?_, ?_⟩⟩
  · rw [ht.2 a i ha.1 ha8, plS_o _ _ _ _ _ ha.2.1, m6 a i ha.1 ha.2.1 ha.2.2.1 ha.2.2.2.1 ha.2.2.2.2.1]
  · rw [ht.1 q, whyT_k hsk hR, plS_o _ _ _ _ _ (by decide), (m4 q hq).1]
    exact cif_c (hre q) rfl rfl
  · rw [ht.2 79 _ (by decide) (by decide), plS_at f o n hinj j hj]
  · rw [ht.2 79 _ (by decide) (by decide), plS_no f o q n hq2, (m4 q hq).2]
  · rw [ht.1 q, cif_f (fun z => hno q hq ((hre q).mp z)), plS_o _ _ _ _ _ (by decide), (m5 q hq).1]
  · rw [ht.2 79 _ (by decide) (by decide), plS_no f o q n (hno q hq), (m5 q hq).2]
set_option maxRecDepth 100000 in
set_option maxHeartbeats 400000 in
theorem ev_67 (Q : Option Value → Hp → Prop) (h : Hp) (hl0 : LayM h) {I : Nat → Nat → Int32} {R P H E Ln : Nat} (hk : EvOk I R P H E Ln) (hE4 : E < 400) {those K : Int32} {J f f2 : Nat → Nat → Int32} (hJ : J = evJ I K) (hm : MO J f E Ln those K P) (n : Nat) (o : Nat → Nat) (hn : n = (ordS J E Ln those K P).1) (ho : o = (ordS J E Ln those K P).2) (htk : TkOk (plS f o n) R P n o) (hsk : sameK (plS f o n) J) (ht : TKI (plS f o n) f2 R P n o n)
    (hq : ∀ g, EvS J g R P H E Ln n o those K → Q (some (.int (nI (pct (evT J R P n o))))) (wI h g)) :
    c_X12_evening_67 Q [some (.ref 44), none, none, some (.int those), none, none, none, none, none, none, none] [.int (evT J R P n o)] (wI h f2) := by
  obtain ⟨t1, t2, t3, t4, t5, t6⟩ := tk_ev hk hJ hm n o hn ho htk hsk ht
  obtain ⟨hR, hP, hH, hE, hLn, h46, h52, h64, h76, h69, hlin, _, hsy, htg, hsl⟩ := hk
  have eT : tkS (plS f o n) R P (amS o n) o n = evT J R P n o := tkS_k hsk hR P _ o n
  have hTP : ∀ i, bt (evT J R P n o) i = true → i < P := fun i hi => by
    rw [← eT] at hi
    obtain ⟨j, hj, e⟩ := (b_amS hP (fun j hj => (htk.2.2.2.2.2.2.2.2.2.1 j hj).1)).mp (tkS_sub htk n (Nat.le_refl _) i hi)
    rw [← e]; exact (htk.2.2.2.2.2.2.2.2.2.1 j hj).1
  have hpc : pct (evT J R P n o) ≤ 17 := pct_am htk (fun i hi => by rw [← eT] at hi; exact tkS_sub htk n (Nat.le_refl _) i hi)
  have hpre : PreC (eI f2) R P (evT J R P n o) := preC_tk htk ht.2 hTP
  have hfit : Fit (eI f2) R (evT J R P n o) := (Fit_same t2 hR).mpr (tkS_fit J hR P _ o n)
  have h60 : eI f2 60 = rmI J 4 0 60 := funext fun i => by rw [eI_o f2 (by decide), t1 60 i (evA_of i (by decide)) (by decide), rmI_o J (by decide)]
  have eF : plF (eI f2) R (evT J R P n o) P = evF J R P (evT J R P n o) := plF_k t2 h60 hR _ P
  have hist := plF_hist hpre hfit (Nat.le_refl P)
  rw [eF] at hist
  obtain ⟨T, hT⟩ : ∃ T, T = evT J R P n o := ⟨_, rfl⟩
  obtain ⟨F, hF⟩ : ∃ F, F = evF J R P T := ⟨_, rfl⟩
  have hag : ag (plM (eI f2) T F P) (evR J T F P) := fun a i ha => by
    by_cases c : a = 88
    · subst c
      have hi := ha.2.2.2.2.2 rfl
      refine b_ext fun x _ => ?_
      unfold evR
      rw [bt_plM _ _ _ _ P (by omega), bt_plM _ _ _ _ P (by omega), eI_88 f2 hi, rmI_0 J hi]
    · unfold evR
      rw [plM_o _ _ _ c, plM_o _ _ _ c, eI_o f2 c, t1 a i ha c, rmI_o J c]
  have row : ∀ a i, a ≠ 44 → a ≠ 78 → a ≠ 79 → a ≠ 86 → a ≠ 87 → a ≠ 88 → plM (eI f2) T F P a i = I a i := fun a i a1 a2 a3 a4 a5 a6 => by
    rw [plM_o _ _ _ a6, eI_o f2 a6, t1 a i (evA_of i ⟨a2, a3, a4, a5, a1, a6⟩) a6, hJ, evJ_o I K a1]
  have hc : T_X12_placeAll [.ref 44, .int (evT J R P n o)] (wI h f2) (fun r h' => c_X12_evening_75 Q [some (.ref 44), none, none, some (.int those), some (.int (evT J R P n o)), none, none, none, none, none, none] (r.toList ++ []) h') := by
    refine ⟨rfl, hl0.wI _, hpc, R, P, hpre, hfit, fun p hp hb => ?_, ?_⟩
    · have := hsl p hp
      unfold slpOk at this ⊢
      rw [hI_wI, t1 60 p (evA_of p (by decide)) (by decide), hJ, evJ_o I K (by decide)]; exact this
    · show c_X12_evening_75 Q _ [] (wI h (plM (eI f2) (evT J R P n o) (plF (eI f2) R (evT J R P n o) P) P))
      rw [eF]
      rw [← hT] at hist hTP ⊢
      rw [← hF] at hist ⊢
      refine ev_75 Q (wI h (plM (eI f2) T F P)) (hl0.wI _) T those F R P H E hR hP hH hE4 ?_ ?_ ?_ ?_ (fun r p hr hp hb => ?_) (fun p hp hb => (hist p hp hb).1) ?_
      · rw [hI_wI, row 46 0 (by decide) (by decide) (by decide) (by decide) (by decide) (by decide)]; exact h46
      · rw [hI_wI, row 52 0 (by decide) (by decide) (by decide) (by decide) (by decide) (by decide)]; exact h52
      · rw [hI_wI, row 64 0 (by decide) (by decide) (by decide) (by decide) (by decide) (by decide)]; exact h64
      · rw [hI_wI, row 76 0 (by decide) (by decide) (by decide) (by decide) (by decide) (by decide)]; exact h76
      · rw [hI_wI, bt_plM _ _ _ _ P (by omega), eI_88 f2 (by omega), b_0, hb]
        simp [hp]
      · show Q _ (wI h (evD (plM (eI f2) T F P) R P H E T those F))
        rw [hT]
        refine hq _ ⟨fun q hq => ?_, fun j hj => ?_, fun q hq hq2 => ?_, fun q hq => ⟨?_, ?_⟩, ?_⟩
        · rw [evD_78 _ _ _ _ _ _ _ _ (Or.inl rfl), plM_o _ _ _ (by decide), eI_o f2 (by decide)]; exact t3 q hq
        · rw [evD_78 _ _ _ _ _ _ _ _ (Or.inr rfl), plM_o _ _ _ (by decide), eI_o f2 (by decide)]; exact t4 j hj
        · rw [evD_78 _ _ _ _ _ _ _ _ (Or.inr rfl), plM_o _ _ _ (by decide), eI_o f2 (by decide)]; exact t5 q hq hq2
        · rw [evD_78 _ _ _ _ _ _ _ _ (Or.inl rfl), plM_o _ _ _ (by decide), eI_o f2 (by decide)]; exact (t6 q hq).1
        · rw [evD_78 _ _ _ _ _ _ _ _ (Or.inr rfl), plM_o _ _ _ (by decide), eI_o f2 (by decide)]; exact (t6 q hq).2
        · rw [← hT, ← hF]
          exact evD_ag hag hR P H E T those F
  have hl : LayM (wI h f2) := hl0.wI _
  generalize wI h f2 = G at hl hc ⊢
  generalize evT J R P n o = TT at hc ⊢
  simp only [c_X12_evening_67, hl, lay_pI, lay_wI, lay_pJ, lm_t hl, lm_k hl, lm_r hl, lm_l hl, i_push, i_ild, i_ald, i_ist, i_ast, i_inc, i_bin, i_un, i_divs, i_i2l, i_lshl, i_lor, i_dup, i_dup2, i_pop, i_if, i_cmp, i_nul, i_vret, i_iret, i_zret, i_aret, i_keep, keep, lget, lset, ent, i_getI, i_getJ, i_getR, i_getN, i_putI, i_putZ, i_putJ, i_putR, i_iald, i_bald, i_alen, i_aald, i_iast, i_bast, i_aast, i_new, i_newa, i_anew, i_oini, i_callS, i_callV, i_callI, popn, sh4, i_sw, swP, i_copy, i_binS, List.map, Option.toList_none, Option.toList_some, List.append, List.nil_append, List.cons_append, List.length_cons, List.length_nil, List.replicate, Nat.sub_self, Nat.reduceSub, Nat.reduceAdd, hK_pI, hL_pI, hI_pI, hR_pI, hJ_pI, hT_pI, hS_pI, hK_pR, hL_pR, hI_pR, hR_pR, hJ_pR, hT_pR, hS_pR, hK_pJ, hL_pJ, hI_pJ, hR_pJ, hJ_pJ, hT_pJ, hS_pJ, hK_wI, hL_wI, hI_wI, hR_wI, hJ_wI, hT_wI, hS_wI, eq_self, and_true, true_and, and_false, false_and, or_true, true_or, or_false, false_or, if_true, if_false, not_true_eq_false, not_false_eq_true, forall_const, implies_true, false_implies, true_implies, Option.some.injEq, forall_eq', exists_eq_left', reduceCtorEq, Nat.reduceEqDiff, c1, T_X12_in, T_X12_ones, T_X11_within, T_X11_bit, T_X11_isIn, T_X11_oneIfIn, T_J6_bitCount_0f7a4]
  exact hc
set_option maxRecDepth 100000 in
set_option maxHeartbeats 400000 in
theorem ev_51 (Q : Option Value → Hp → Prop) (h : Hp) (hl : LayM h) {R P H E Ln : Nat} (hk : EvOk (hI h) R P H E Ln) (hE4 : E < 400) (those K : Int32) (h10 : pct those ≤ 10) (J : Nat → Nat → Int32) (hJ : J = evJ (hI h) K) (n : Nat) (o : Nat → Nat) (hn : n = (ordS J E Ln those K P).1) (ho : o = (ordS J E Ln those K P).2)
    (hq : ∀ g, EvS J g R P H E Ln n o those K → Q (some (.int (nI (pct (evT J R P n o))))) (wI h g)) :
    wp 23 MX12_evening Q 51 [some (.ref 44), none, none, some (.int those), none, none, none, none, none, none, none] [.int K, .ref 44] (pI h 44 0 0) := by
  have hP := hk.2.1
  have hc : T_X12_makeOrder [.ref 44, .int those, .int K] (wI h J) (fun r h' => c_X12_evening_63 Q [some (.ref 44), none, none, some (.int those), none, none, none, none, none, none, none] (r.toList ++ []) h') := by
    have hk' := hk
    obtain ⟨hR, hP, hH, hE, hLn, h46, h52, h64, h76, h69, hlin, _, hsy, htg, hsl⟩ := hk'
    have row : ∀ a i, a ≠ 44 → J a i = hI h a i := fun a i ha => by rw [hJ, evJ_o _ K ha]
    refine ⟨rfl, hl.wI _, E, Ln, P, hE, (row 76 0 (by decide)).trans h76, hLn, (row 69 0 (by decide)).trans h69, ?_, hP, (row 52 0 (by decide)).trans h52, fun f hm => ?_⟩
    · have e : ∀ a, a ≠ 44 → J a = hI h a := fun a ha => funext fun i => row a i ha
      show linOk J Ln
      unfold linOk at hlin ⊢
      first | rw [e 70 (by decide)]; exact hlin | (rw [e 70 (by decide), e 71 (by decide)]; exact hlin)
    · show c_X12_evening_63 Q _ [] (wI h (plS f (ordS J E Ln those K P).2 (ordS J E Ln those K P).1))
      rw [← hn, ← ho]
      obtain ⟨htk, hsk⟩ := mo_ev hk h10 hJ hm n o hn ho
      have hc2 : T_X12_take [.ref 44] (wI h (plS f o n)) (fun r h' => c_X12_evening_67 Q [some (.ref 44), none, none, some (.int those), none, none, none, none, none, none, none] (r.toList ++ []) h') := by
        refine ⟨rfl, hl.wI _, R, P, n, o, htk, fun f2 ht => ?_⟩
        have eT : tkS (plS f o n) R P (amS o n) o n = evT J R P n o := tkS_k hsk hk.1 P _ o n
        show c_X12_evening_67 Q _ [.int (tkS (plS f o n) R P (amS o n) o n)] (wI h f2)
        rw [eT]
        exact ev_67 Q h hl hk hE4 hJ hm n o hn ho htk hsk ht hq
      have hl2 : LayM (wI h (plS f o n)) := hl.wI _
      generalize wI h (plS f o n) = G at hl2 hc2 ⊢
      have hkk := (lm_k hl2).1
      have htt := (lm_t hl2).1
      simp only [c_X12_evening_63, i_push, i_ild, i_ald, i_ist, i_ast, i_inc, i_bin, i_un, i_divs, i_i2l, i_lshl, i_lor, i_dup, i_dup2, i_pop, i_if, i_cmp, i_nul, i_vret, i_iret, i_zret, i_aret, i_keep, keep, lget, lset, ent, i_getI, i_getJ, i_getR, i_getN, i_putI, i_putZ, i_putJ, i_putR, i_iald, i_bald, i_alen, i_aald, i_iast, i_bast, i_aast, i_new, i_newa, i_anew, i_oini, i_callS, i_callV, i_callI, popn, sh4, i_sw, swP, i_copy, i_binS, List.map, Option.toList_none, Option.toList_some, List.append, List.nil_append, List.cons_append, List.length_cons, List.length_nil, List.replicate, Nat.sub_self, Nat.reduceSub, Nat.reduceAdd, hK_pI, hL_pI, hI_pI, hR_pI, hJ_pI, hT_pI, hS_pI, hK_pR, hL_pR, hI_pR, hR_pR, hJ_pR, hT_pR, hS_pR, hK_pJ, hL_pJ, hI_pJ, hR_pJ, hJ_pJ, hT_pJ, hS_pJ, hK_wI, hL_wI, hI_wI, hR_wI, hJ_wI, hT_wI, hS_wI, eq_self, and_true, true_and, and_false, false_and, or_true, true_or, or_false, false_or, if_true, if_false, not_true_eq_false, not_false_eq_true, forall_const, implies_true, false_implies, true_implies, Option.some.injEq, forall_eq', exists_eq_left', reduceCtorEq, Nat.reduceEqDiff, c1, T_X12_in, T_X12_ones, T_X11_within, T_X11_bit, T_X11_isIn, T_X11_oneIfIn, T_J6_bitCount_0f7a4, hkk, htt]
      exact hc2
  have hH : wI h J = pI (pI h 44 0 0) 44 56 K := by rw [hJ]; rfl
  rw [hH] at hc
  refine s_X12_evening_51 Q _ _ _ ?_
  generalize hG : pI h 44 0 0 = G at hc ⊢
  have hl2 : LayM G := by rw [← hG]; exact hl.pI _ _ _
  have hkk := (lm_k hl2).1
  have htt := (lm_t hl2).1
  simp only [b_X12_evening_51, i_push, i_ild, i_ald, i_ist, i_ast, i_inc, i_bin, i_un, i_divs, i_i2l, i_lshl, i_lor, i_dup, i_dup2, i_pop, i_if, i_cmp, i_nul, i_vret, i_iret, i_zret, i_aret, i_keep, keep, lget, lset, ent, i_getI, i_getJ, i_getR, i_getN, i_putI, i_putZ, i_putJ, i_putR, i_iald, i_bald, i_alen, i_aald, i_iast, i_bast, i_aast, i_new, i_newa, i_anew, i_oini, i_callS, i_callV, i_callI, popn, sh4, i_sw, swP, i_copy, i_binS, List.map, Option.toList_none, Option.toList_some, List.append, List.nil_append, List.cons_append, List.length_cons, List.length_nil, List.replicate, Nat.sub_self, Nat.reduceSub, Nat.reduceAdd, hK_pI, hL_pI, hI_pI, hR_pI, hJ_pI, hT_pI, hS_pI, hK_pR, hL_pR, hI_pR, hR_pR, hJ_pR, hT_pR, hS_pR, hK_pJ, hL_pJ, hI_pJ, hR_pJ, hJ_pJ, hT_pJ, hS_pJ, hK_wI, hL_wI, hI_wI, hR_wI, hJ_wI, hT_wI, hS_wI, eq_self, and_true, true_and, and_false, false_and, or_true, true_or, or_false, false_or, if_true, if_false, not_true_eq_false, not_false_eq_true, forall_const, implies_true, false_implies, true_implies, Option.some.injEq, forall_eq', exists_eq_left', reduceCtorEq, Nat.reduceEqDiff, c1, T_X12_in, T_X12_ones, T_X11_within, T_X11_bit, T_X11_isIn, T_X11_oneIfIn, T_J6_bitCount_0f7a4, hkk, htt]
  exact hc
set_option maxRecDepth 100000 in
set_option maxHeartbeats 4000000 in
theorem ok_X12_evening : ctr 23 MX12_evening T_X12_evening := by
  refine ctr_of pn_X12 wc_X12_evening (fun av h Q hT => ?_)
  unfold T_X12_evening at hT
  split at hT
  · rename_i a door cold
    refine ⟨⟨by simp [Value.category], Nat.le_of_ble_eq_true rfl⟩, s_X12_evening_0 Q _ _ _ ?_⟩
    obtain ⟨rfl, hl, R, P, H, E, Ln, hk, hno, hyes⟩ := hT
    have e52 : hI h 52 0 = nI P := hk.2.2.2.2.2.2.1
    have e76 : hI h 76 0 = nI E := hk.2.2.2.2.2.2.2.2.1
    have hE := hk.2.2.2.1
    have hP := hk.2.1
    have hpt := pct_le (door &&& (bitI P - 1))
    have hb : (1 : Int32) <<< (nI P &&& 31) = bitI P := rfl
    have h51 : ∀ K, K = (if cold = 0 then 0 else 1) → pct (door &&& (bitI P - 1)) ≤ 10 → E < 400 → wp 23 MX12_evening Q 51 [some (.ref 44), none, none, some (.int (door &&& (bitI P - 1))), none, none, none, none, none, none, none] [.int K, .ref 44] (pI h 44 0 0) := fun K hK a b =>
      ev_51 Q h hl hk b _ K a _ rfl _ _ rfl rfl (fun g hg => hyes a b K _ _ _ hK rfl rfl rfl g hg)
    simp only [MX12_evening, b_X12_evening_0, hl, lay_pI, lay_wI, lay_pJ, lm_t hl, lm_k hl, lm_r hl, lm_l hl, i_push, i_ild, i_ald, i_ist, i_ast, i_inc, i_bin, i_un, i_divs, i_i2l, i_lshl, i_lor, i_dup, i_dup2, i_pop, i_if, i_cmp, i_nul, i_vret, i_iret, i_zret, i_aret, i_keep, keep, lget, lset, ent, i_getI, i_getJ, i_getR, i_getN, i_putI, i_putZ, i_putJ, i_putR, i_iald, i_bald, i_alen, i_aald, i_iast, i_bast, i_aast, i_new, i_newa, i_anew, i_oini, i_callS, i_callV, i_callI, popn, sh4, i_sw, swP, i_copy, i_binS, List.map, Option.toList_none, Option.toList_some, List.append, List.nil_append, List.cons_append, List.length_cons, List.length_nil, List.replicate, Nat.sub_self, Nat.reduceSub, Nat.reduceAdd, hK_pI, hL_pI, hI_pI, hR_pI, hJ_pI, hT_pI, hS_pI, hK_pR, hL_pR, hI_pR, hR_pR, hJ_pR, hT_pR, hS_pR, hK_pJ, hL_pJ, hI_pJ, hR_pJ, hJ_pJ, hT_pJ, hS_pJ, hK_wI, hL_wI, hI_wI, hR_wI, hJ_wI, hT_wI, hS_wI, eq_self, and_true, true_and, and_false, false_and, or_true, true_or, or_false, false_or, if_true, if_false, not_true_eq_false, not_false_eq_true, forall_const, implies_true, false_implies, true_implies, Option.some.injEq, forall_eq', exists_eq_left', reduceCtorEq, Nat.reduceEqDiff, c1, T_X12_in, T_X12_ones, T_X11_within, T_X11_bit, T_X11_isIn, T_X11_oneIfIn, T_J6_bitCount_0f7a4, in0 4 (by decide) (by decide), cl0, e52, e76, hb]
    have e10 : (10 : Int32) = nI 10 := rfl
    have e400 : (400 : Int32) = nI 400 := rfl
    rw [e10, e400]
    rw [nI_ltI (by decide) (by omega), nI_eq (by omega) (by decide)]
    refine ⟨fun z => hno (Or.inl z), fun z => ⟨fun z2 => hno (Or.inr z2), fun z2 => ⟨fun z3 => h51 0 (by rw [if_pos z3]) (by omega) (by omega), fun z3 => h51 1 (by rw [if_neg z3]) (by omega) (by omega)⟩⟩⟩
  · exact hT.elim
