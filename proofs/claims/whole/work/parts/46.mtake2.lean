/-! a step of taking, as a pure thing -/
theorem tk_skip {I f : Nat → Nat → Int32} {R P n : Nat} {o : Nat → Nat} (hk : TkOk I R P n o) {k : Nat} (hkn : k < n) (hi : TKI I f R P n o k) (hs : ∃ j, j < k ∧ Rch I P (amS o n) (o j) (o k)) : TKI I f R P n o (k + 1) ∧ tkS I R P (amS o n) o (k + 1) = tkS I R P (amS o n) o k ∧ ∀ q, (∃ j, j < k + 1 ∧ Rch I P (amS o n) (o j) q) ↔ (∃ j, j < k ∧ Rch I P (amS o n) (o j) q) := by
  obtain ⟨hR, hP, hn, h46, h52, hcap, hsy, htg, h53, ho, hD⟩ := id hk
  obtain ⟨j0, j1, j2⟩ := hs
  have hiff : ∀ q, (∃ j, j < k + 1 ∧ Rch I P (amS o n) (o j) q) ↔ (∃ j, j < k ∧ Rch I P (amS o n) (o j) q) := fun q => by
    constructor
    · rintro ⟨j, a, b⟩
      rcases Nat.lt_or_ge j k with z | z
      · exact ⟨j, z, b⟩
      · have : j = k := by omega
        subst this
        exact ⟨j0, j1, Rch_tr j2 b⟩
    · rintro ⟨j, a, b⟩; exact ⟨j, by omega, b⟩
  refine ⟨⟨fun q => ?_, hi.2⟩, ?_, hiff⟩
  · rw [hi.1 q]
    rcases Classical.em (∃ j, j < k ∧ Rch I P (amS o n) (o j) q) with c | c
    · rw [cif_t c, cif_t ((hiff q).mpr c)]
    · rw [cif_f c, cif_f (fun z => c ((hiff q).mp z))]
  · show cif _ _ _ = _
    rw [cif_f (fun z => z.1 j0 j1 (Rch_all hP htg j2))]
/-- the group of one who is not dealt with yet; what becomes of it -/
theorem tk_new {I f : Nat → Nat → Int32} {R P n : Nat} {o : Nat → Nat} (hk : TkOk I R P n o) {k : Nat} (hkn : k < n) (hi : TKI I f R P n o k) (hs : ¬ ∃ j, j < k ∧ Rch I P (amS o n) (o j) (o k)) {g is T2 : Int32} (hg : ∀ i, bt g i = true ↔ Rch I P (amS o n) (o k) i) (his : is = cdS I R P (amS o n) (tkS I R P (amS o n) o k) (o k)) (hT2 : T2 = tkS I R P (amS o n) o k ||| (if is = 0 then g else 0)) : TKI I (wyM (eI f) g is P) R P n o (k + 1) ∧ T2 = tkS I R P (amS o n) o (k + 1) := by
  obtain ⟨hR, hP, hn, h46, h52, hcap, hsy, htg, h53, ho, hD⟩ := id hk
  have hok := (ho k hkn).1
  have ham : ∀ j, j < n → bt (amS o n) (o j) = true := fun j hj => (b_amS hP (fun j hj => (ho j hj).1)).mpr ⟨j, hj, rfl⟩
  have hin : ∀ i, Rch I P (amS o n) (o k) i → i < P ∧ bt (amS o n) i = true := fun i hr => Rch_in htg hok (ham k hkn) hr
  -- not lacking: a new party
  have hnew : ¬ lacks I P (amS o n) (o k) → ∀ j, j < k → ∀ q, Rch I P (amS o n) (o k) q → ¬ Rch I P (-1) (o j) q := by
    intro hn j hj q hq hjq
    have hjP := (ho j (by omega)).1
    have h1 : Rch I P (-1) (o j) (o k) := Rch_tr hjq (Rch_sym hP hsy htg hok (m1_bt (by omega)) (Rch_all hP htg hq))
    have h2 : ¬ lacks I P (amS o n) (o j) := fun z => hn (lacks_cl (Rch_sym hP hsy htg hjP (m1_bt (by omega)) h1) z)
    exact hs ⟨j, hj, nolacks h2 h1⟩
  have hwhy : ∀ q, Rch I P (amS o n) (o k) q → whyT I R P o n q = is := by
    intro q hq
    have hqa := Rch_all hP htg hq
    have hexq : ∃ j, j < n ∧ Rch I P (-1) (o j) q := ⟨k, hkn, hqa⟩
    unfold whyT
    rcases Classical.em (lacks I P (amS o n) (o k)) with c | c
    · obtain ⟨⟨l1, l2⟩, l3⟩ := lst_ok hexq
      have hl : lacks I P (amS o n) (o (lst (fun j => j < n ∧ Rch I P (-1) (o j) q))) := lacks_cl (Rch_tr l2 (Rch_sym hP hsy htg hok (m1_bt (by omega)) hqa)) c
      rw [his]
      unfold cdS
      rw [cif_t hl, cif_t c]
    · have e : lst (fun j => j < n ∧ Rch I P (-1) (o j) q) = k := lst_is ⟨hkn, hqa⟩ (fun j hj z => hnew c j hj q hq z.2)
      rw [e, his]
  refine ⟨⟨fun q => ?_, fun a i a1 a2 => by rw [wyM_o _ _ _ _ a1, eI_o f a2]; exact hi.2 a i a1 a2⟩, ?_⟩
  · rcases Classical.em (Rch I P (amS o n) (o k) q) with c | c
    · rw [cif_t ⟨k, by omega, c⟩, hwhy q c]
      exact if_pos ⟨rfl, (hin q c).1, (hg q).mpr c⟩
    · have e1 : wyM (eI f) g is P 78 q = f 78 q := by
        show (if 78 = 78 ∧ q < P ∧ bt g q = true then is else eI f 78 q) = _
        rw [if_neg (fun z => c ((hg q).mp z.2.2)), eI_o f (by decide)]
      rw [e1, hi.1 q]
      rcases Classical.em (∃ j, j < k ∧ Rch I P (amS o n) (o j) q) with d | d
      · rw [cif_t d, cif_t (by obtain ⟨j, a, b⟩ := d; exact ⟨j, by omega, b⟩)]
      · rw [cif_f d, cif_f (fun ⟨j, a, b⟩ => by
          rcases Nat.lt_or_ge j k with z | z
          · exact d ⟨j, z, b⟩
          · have : j = k := by omega
            subst this; exact c b)]
  · show _ = cif ((∀ j, j < k → ¬ Rch I P (-1) (o j) (o k)) ∧ cdS I R P (amS o n) (tkS I R P (amS o n) o k) (o k) = 0) (tkS I R P (amS o n) o k ||| grp I P (o k)) (tkS I R P (amS o n) o k)
    rw [← his]
    by_cases c : is = 0
    · have hnl : ¬ lacks I P (amS o n) (o k) := fun w => by
        rw [c] at his
        unfold cdS at his
        rw [cif_t w] at his
        exact absurd his (by decide)
      have eg : g = grp I P (o k) := b_ext2 fun i _ => by
        rw [hg i, b_grp hP htg hok]
        exact ⟨Rch_all hP htg, nolacks hnl⟩
      rw [cif_t ⟨fun j hj => hnew hnl j hj (o k) Rch_rfl, c⟩, hT2, if_pos c, eg]
    · rw [cif_f (fun z => c z.2), hT2, if_neg c]
      refine b_ext fun i _ => ?_
      rw [b_or, b_0, Bool.or_false]
theorem cdS_3 {I : Nat → Nat → Int32} {R P : Nat} {am T : Int32} {p : Nat} (h : lacks I P am p) : cdS I R P am T p = 3 := cif_t h
theorem cdS_4 {I : Nat → Nat → Int32} {R P : Nat} {am T : Int32} {p : Nat} (h : ¬ lacks I P am p) (h2 : ¬ ∃ r, r < R ∧ FAI I R P (grp I P p) r) : cdS I R P am T p = 4 := by unfold cdS; rw [cif_f h, cif_f h2]
theorem cdS_5 {I : Nat → Nat → Int32} {R P : Nat} {am T : Int32} {p : Nat} (h : ¬ lacks I P am p) (h2 : ∃ r, r < R ∧ FAI I R P (grp I P p) r) (h3 : ¬ Fit (rmI I 4 0) R (T ||| grp I P p)) : cdS I R P am T p = 5 := by unfold cdS; rw [cif_f h, cif_t h2, cif_f h3]
theorem cdS_0 {I : Nat → Nat → Int32} {R P : Nat} {am T : Int32} {p : Nat} (h : ¬ lacks I P am p) (h2 : ∃ r, r < R ∧ FAI I R P (grp I P p) r) (h3 : Fit (rmI I 4 0) R (T ||| grp I P p)) : cdS I R P am T p = 0 := by unfold cdS; rw [cif_f h, cif_t h2, cif_t h3]
set_option maxRecDepth 100000 in
set_option maxHeartbeats 4000000 in
theorem tk_36 (Q : Option Value → Hp → Prop) (h : Hp) (hl0 : LayM h) (R P n : Nat) (o : Nat → Nat) (hk : TkOk (hI h) R P n o) (hq : ∀ f, TKI (hI h) f R P n o n → Q (some (.int (tkS (hI h) R P (amS o n) o n))) (wI h f)) :
    ∀ (m k : Nat) (f : Nat → Nat → Int32) (D : Int32), m = n - k → k ≤ n → TKI (hI h) f R P n o k → (∀ i, bt D i = true ↔ ∃ j, j < k ∧ Rch (hI h) P (amS o n) (o j) i) → wp 21 MX12_take Q 36 [some (.ref 44), some (.int (amS o n)), some (.int (tkS (hI h) R P (amS o n) o k)), some (.int D), some (.int (nI k)), none, none, none, none] [] (wI h f) := by
  obtain ⟨hR, hP, hn, h46, h52, hcap, hsy, htg, h53, ho, hD⟩ := id hk
  intro m
  induction m with
  | zero =>
    intro k f D hm hkn hi hd
    have e : k = n := by omega
    subst e
    have hl : LayM (wI h f) := hl0.wI _
    have e53 : hI (wI h f) 44 53 = nI k := (hi.2 44 53 (by decide) (by decide)).trans h53
    have hqq := hq f hi
    refine s_X12_take_36 Q _ _ _ ?_
    generalize wI h f = g at hl e53 hqq ⊢
    simp only [b_X12_take_36, hl, lay_pI, lay_wI, lay_pJ, lm_t hl, lm_k hl, lm_r hl, lm_l hl, i_push, i_ild, i_ald, i_ist, i_ast, i_inc, i_bin, i_un, i_divs, i_i2l, i_lshl, i_lor, i_dup, i_dup2, i_pop, i_if, i_cmp, i_nul, i_vret, i_iret, i_zret, i_aret, i_keep, keep, lget, lset, ent, i_getI, i_getJ, i_getR, i_getN, i_putI, i_putZ, i_putJ, i_putR, i_iald, i_bald, i_alen, i_aald, i_iast, i_bast, i_aast, i_new, i_newa, i_anew, i_oini, i_callS, i_callV, i_callI, popn, sh4, i_sw, swP, i_copy, i_binS, List.map, Option.toList_none, Option.toList_some, List.append, List.nil_append, List.cons_append, List.length_cons, List.length_nil, List.replicate, Nat.sub_self, Nat.reduceSub, Nat.reduceAdd, hK_pI, hL_pI, hI_pI, hR_pI, hJ_pI, hT_pI, hS_pI, hK_pR, hL_pR, hI_pR, hR_pR, hJ_pR, hT_pR, hS_pR, hK_pJ, hL_pJ, hI_pJ, hR_pJ, hJ_pJ, hT_pJ, hS_pJ, hK_wI, hL_wI, hI_wI, hR_wI, hJ_wI, hT_wI, hS_wI, eq_self, and_true, true_and, and_false, false_and, or_true, true_or, or_false, false_or, if_true, if_false, not_true_eq_false, not_false_eq_true, forall_const, implies_true, false_implies, true_implies, Option.some.injEq, forall_eq', exists_eq_left', reduceCtorEq, Nat.reduceEqDiff, c1, T_X12_in, T_X12_ones, T_X11_within, T_X11_bit, T_X11_isIn, T_X11_oneIfIn, T_J6_bitCount_0f7a4, e53]
    exact ⟨fun _ => hqq, fun c => absurd (nI_le (Nat.le_refl _) (by omega)) c⟩
  | succ m ih =>
    intro k f D hm hkn hi hd
    obtain ⟨hok, h86⟩ := ho k (by omega)
    have hl : LayM (wI h f) := hl0.wI _
    have e53 : hI (wI h f) 44 53 = nI n := (hi.2 44 53 (by decide) (by decide)).trans h53
    have e86 : hI (wI h f) 86 k = nI (o k) := (hi.2 86 k (by decide) (by decide)).trans h86
    have h192 : ∀ (f2 : Nat → Nat → Int32) (T2 D2 : Int32), T2 = tkS (hI h) R P (amS o n) o (k + 1) → TKI (hI h) f2 R P n o (k + 1) → (∀ i, bt D2 i = true ↔ ∃ j, j < k + 1 ∧ Rch (hI h) P (amS o n) (o j) i) → wp 21 MX12_take Q 192 [some (.ref 44), some (.int (amS o n)), some (.int T2), some (.int D2), some (.int (nI k)), none, none, none, none] [] (wI h f2) := by
      intro f2 T2 D2 e1 e2 e3
      rw [e1]
      refine s_X12_take_192 Q _ _ _ ?_
      simp only [b_X12_take_192, i_push, i_ild, i_ald, i_ist, i_ast, i_inc, i_bin, i_un, i_divs, i_i2l, i_lshl, i_lor, i_dup, i_dup2, i_pop, i_if, i_cmp, i_nul, i_vret, i_iret, i_zret, i_aret, i_keep, keep, lget, lset, ent, i_getI, i_getJ, i_getR, i_getN, i_putI, i_putZ, i_putJ, i_putR, i_iald, i_bald, i_alen, i_aald, i_iast, i_bast, i_aast, i_new, i_newa, i_anew, i_oini, i_callS, i_callV, i_callI, popn, sh4, i_sw, swP, i_copy, i_binS, List.map, Option.toList_none, Option.toList_some, List.append, List.nil_append, List.cons_append, List.length_cons, List.length_nil, List.replicate, Nat.sub_self, Nat.reduceSub, Nat.reduceAdd, hK_pI, hL_pI, hI_pI, hR_pI, hJ_pI, hT_pI, hS_pI, hK_pR, hL_pR, hI_pR, hR_pR, hJ_pR, hT_pR, hS_pR, hK_pJ, hL_pJ, hI_pJ, hR_pJ, hJ_pJ, hT_pJ, hS_pJ, hK_wI, hL_wI, hI_wI, hR_wI, hJ_wI, hT_wI, hS_wI, eq_self, and_true, true_and, and_false, false_and, or_true, true_or, or_false, false_or, if_true, if_false, not_true_eq_false, not_false_eq_true, forall_const, implies_true, false_implies, true_implies, Option.some.injEq, forall_eq', exists_eq_left', reduceCtorEq, Nat.reduceEqDiff, c1, T_X12_in, T_X12_ones, T_X11_within, T_X11_bit, T_X11_isIn, T_X11_oneIfIn, T_J6_bitCount_0f7a4, nI_1]
      exact ih (k + 1) f2 D2 (by omega) (by omega) e2 e3
    have ham : bt (amS o n) (o k) = true := (b_amS hP (fun j hj => (ho j hj).1)).mpr ⟨k, by omega, rfl⟩
    refine s_X12_take_36 Q _ _ _ ?_
    have hrest : bt D (o k) = false → T_X12_hanging [.ref 44, .int (nI (o k)), .int (amS o n)] (wI h f) (fun r h' => ∀ g, r = some (.int g) → h' = wI h f → c_X12_take_73 Q [some (.ref 44), some (.int (amS o n)), some (.int (tkS (hI h) R P (amS o n) o k)), some (.int D), some (.int (nI k)), some (.int (nI (o k))), none, none, none] [.int g] (wI h f)) := by
      intro hnd
      have hns : ¬ ∃ j, j < k ∧ Rch (hI h) P (amS o n) (o j) (o k) := fun z => by rw [(hd (o k)).mpr z] at hnd; cases hnd
      have e52 : hI (wI h f) 52 0 = nI P := (hi.2 52 0 (by decide) (by decide)).trans h52
      refine ⟨rfl, hl, P, o k, hP, e52, rfl, hok, fun g hg1 hg2 hg3 g' eg _ => ?_⟩
      have eg' : g' = g := by cases eg; rfl
      subst eg'
      have e63 : hI (wI h f) 63 = hI h 63 := by funext i; exact hi.2 63 i (by decide) (by decide)
      have hcl : ∀ S, clo (hI (wI h f)) P (amS o n) S ↔ clo (hI h) P (amS o n) S := fun S => by unfold clo; rw [e63]
      have hg : ∀ i, bt g' i = true ↔ Rch (hI h) P (amS o n) (o k) i := fun i =>
        ⟨fun z S a b => hg3 S a ((hcl S).mpr b) i z, fun z => z (fun i => bt g' i = true) hg1 ((hcl _).mp hg2)⟩
      have hgP : ∀ i, bt g' i = true → i < P ∧ bt (amS o n) i = true := fun i z => Rch_in htg hok ham ((hg i).mp z)
      have hl1 : LayM (wI h (eI f)) := hl0.wI _
      have eIo : ∀ a i, a ≠ 78 → a ≠ 88 → eI f a i = hI h a i := fun a i a1 a2 => (eI_o f a2 i).trans (hi.2 a i a1 a2)
      -- what stands behind the reasons
      have h127 : ∀ is : Int32, is = cdS (hI h) R P (amS o n) (tkS (hI h) R P (amS o n) o k) (o k) → wp 21 MX12_take Q 127 [some (.ref 44), some (.int (amS o n)), some (.int (tkS (hI h) R P (amS o n) o k)), some (.int (D ||| g')), some (.int (nI k)), none, some (.int g'), none, none] [.int is] (wI h (eI f)) := by
        intro is his
        have h141 : ∀ x : Int32, (x = if is = 0 then g' else 0) → wp 21 MX12_take Q 141 [some (.ref 44), some (.int (amS o n)), none, some (.int (D ||| g')), some (.int (nI k)), none, some (.int g'), some (.int is), none] [.int x, .int (tkS (hI h) R P (amS o n) o k)] (wI h (eI f)) := by
          intro x hx
          obtain ⟨n1, n2⟩ := tk_new hk (by omega) hi hns hg his (T2 := tkS (hI h) R P (amS o n) o k ||| x) (by rw [hx])
          have hfin := h192 _ _ (D ||| g') n2 n1 (fun i => by
            rw [b_or]
            simp only [Bool.or_eq_true]
            rw [hd i, hg i]
            constructor
            · rintro (⟨j, a, b⟩ | z)
              · exact ⟨j, by omega, b⟩
              · exact ⟨k, by omega, z⟩
            · rintro ⟨j, a, b⟩
              rcases Nat.lt_or_ge j k with z | z
              · exact Or.inl ⟨j, z, b⟩
              · have : j = k := by omega
                subst this; exact Or.inr b)
          have hw := tk_146 Q h hl0 (eI f) P hP ((eIo 52 0 (by decide) (by decide)).trans h52) (amS o n) (tkS (hI h) R P (amS o n) o k ||| x) (D ||| g') (nI k) g' is hfin P 0 (by omega) (by omega)
          rw [wyM_0] at hw
          refine s_X12_take_141 Q _ _ _ ?_
          generalize wI h (eI f) = H at hw ⊢
          simp only [b_X12_take_141, i_push, i_ild, i_ald, i_ist, i_ast, i_inc, i_bin, i_un, i_divs, i_i2l, i_lshl, i_lor, i_dup, i_dup2, i_pop, i_if, i_cmp, i_nul, i_vret, i_iret, i_zret, i_aret, i_keep, keep, lget, lset, ent, i_getI, i_getJ, i_getR, i_getN, i_putI, i_putZ, i_putJ, i_putR, i_iald, i_bald, i_alen, i_aald, i_iast, i_bast, i_aast, i_new, i_newa, i_anew, i_oini, i_callS, i_callV, i_callI, popn, sh4, i_sw, swP, i_copy, i_binS, List.map, Option.toList_none, Option.toList_some, List.append, List.nil_append, List.cons_append, List.length_cons, List.length_nil, List.replicate, Nat.sub_self, Nat.reduceSub, Nat.reduceAdd, hK_pI, hL_pI, hI_pI, hR_pI, hJ_pI, hT_pI, hS_pI, hK_pR, hL_pR, hI_pR, hR_pR, hJ_pR, hT_pR, hS_pR, hK_pJ, hL_pJ, hI_pJ, hR_pJ, hJ_pJ, hT_pJ, hS_pJ, hK_wI, hL_wI, hI_wI, hR_wI, hJ_wI, hT_wI, hS_wI, eq_self, and_true, true_and, and_false, false_and, or_true, true_or, or_false, false_or, if_true, if_false, not_true_eq_false, not_false_eq_true, forall_const, implies_true, false_implies, true_implies, Option.some.injEq, forall_eq', exists_eq_left', reduceCtorEq, Nat.reduceEqDiff, c1, T_X12_in, T_X12_ones, T_X11_within, T_X11_bit, T_X11_isIn, T_X11_oneIfIn, T_J6_bitCount_0f7a4]
          exact hw
        refine s_X12_take_127 Q _ _ _ ?_
        generalize wI h (eI f) = H at h141 ⊢
        simp only [b_X12_take_127, i_push, i_ild, i_ald, i_ist, i_ast, i_inc, i_bin, i_un, i_divs, i_i2l, i_lshl, i_lor, i_dup, i_dup2, i_pop, i_if, i_cmp, i_nul, i_vret, i_iret, i_zret, i_aret, i_keep, keep, lget, lset, ent, i_getI, i_getJ, i_getR, i_getN, i_putI, i_putZ, i_putJ, i_putR, i_iald, i_bald, i_alen, i_aald, i_iast, i_bast, i_aast, i_new, i_newa, i_anew, i_oini, i_callS, i_callV, i_callI, popn, sh4, i_sw, swP, i_copy, i_binS, List.map, Option.toList_none, Option.toList_some, List.append, List.nil_append, List.cons_append, List.length_cons, List.length_nil, List.replicate, Nat.sub_self, Nat.reduceSub, Nat.reduceAdd, hK_pI, hL_pI, hI_pI, hR_pI, hJ_pI, hT_pI, hS_pI, hK_pR, hL_pR, hI_pR, hR_pR, hJ_pR, hT_pR, hS_pR, hK_pJ, hL_pJ, hI_pJ, hR_pJ, hJ_pJ, hT_pJ, hS_pJ, hK_wI, hL_wI, hI_wI, hR_wI, hJ_wI, hT_wI, hS_wI, eq_self, and_true, true_and, and_false, false_and, or_true, true_or, or_false, false_or, if_true, if_false, not_true_eq_false, not_false_eq_true, forall_const, implies_true, false_implies, true_implies, Option.some.injEq, forall_eq', exists_eq_left', reduceCtorEq, Nat.reduceEqDiff, c1, T_X12_in, T_X12_ones, T_X11_within, T_X11_bit, T_X11_isIn, T_X11_oneIfIn, T_J6_bitCount_0f7a4]
        refine ⟨fun c => h141 _ (by rw [if_pos c]), fun c => h141 _ (by rw [if_neg c])⟩
      have hlo : T_X12_lacksOne [.ref 44, .int g', .int (amS o n)] (wI h (eI f)) (fun r h' => c_X12_take_91 Q [some (.ref 44), some (.int (amS o n)), some (.int (tkS (hI h) R P (amS o n) o k)), some (.int (D ||| g')), some (.int (nI k)), some (.int (nI (o k))), some (.int g'), none, none] (r.toList ++ []) h') := by
        have hl := hl1
        refine ⟨rfl, hl, P, hP, (eIo 52 0 (by decide) (by decide)).trans h52, fun hy => ?_, fun hy => ?_⟩
        · have hlk : lacks (hI h) P (amS o n) (o k) := by
            refine (lacks_iff hP htg hok ham).mp ?_
            obtain ⟨q, q1, q2, q3⟩ := hy
            exact ⟨q, q1, (hg q).mp q2, fun z => q3 (by rw [show hI (wI h (eI f)) 63 q = eI f 63 q from rfl, eIo 63 q (by decide) (by decide)]; exact z)⟩
          have hgo := h127 3 (cdS_3 hlk).symm
          generalize wI h (eI f) = H at hgo ⊢
          simp only [c_X12_take_91, i_push, i_ild, i_ald, i_ist, i_ast, i_inc, i_bin, i_un, i_divs, i_i2l, i_lshl, i_lor, i_dup, i_dup2, i_pop, i_if, i_cmp, i_nul, i_vret, i_iret, i_zret, i_aret, i_keep, keep, lget, lset, ent, i_getI, i_getJ, i_getR, i_getN, i_putI, i_putZ, i_putJ, i_putR, i_iald, i_bald, i_alen, i_aald, i_iast, i_bast, i_aast, i_new, i_newa, i_anew, i_oini, i_callS, i_callV, i_callI, popn, sh4, i_sw, swP, i_copy, i_binS, List.map, Option.toList_none, Option.toList_some, List.append, List.nil_append, List.cons_append, List.length_cons, List.length_nil, List.replicate, Nat.sub_self, Nat.reduceSub, Nat.reduceAdd, hK_pI, hL_pI, hI_pI, hR_pI, hJ_pI, hT_pI, hS_pI, hK_pR, hL_pR, hI_pR, hR_pR, hJ_pR, hT_pR, hS_pR, hK_pJ, hL_pJ, hI_pJ, hR_pJ, hJ_pJ, hT_pJ, hS_pJ, hK_wI, hL_wI, hI_wI, hR_wI, hJ_wI, hT_wI, hS_wI, eq_self, and_true, true_and, and_false, false_and, or_true, true_or, or_false, false_or, if_true, if_false, not_true_eq_false, not_false_eq_true, forall_const, implies_true, false_implies, true_implies, Option.some.injEq, forall_eq', exists_eq_left', reduceCtorEq, Nat.reduceEqDiff, c1, T_X12_in, T_X12_ones, T_X11_within, T_X11_bit, T_X11_isIn, T_X11_oneIfIn, T_J6_bitCount_0f7a4]
          first | exact hgo | exact ⟨fun z => absurd z (by decide), fun _ => hgo⟩
        · have hnl : ¬ lacks (hI h) P (amS o n) (o k) := fun z => by
            refine hy ?_
            obtain ⟨q, q1, q2, q3⟩ := (lacks_iff hP htg hok ham).mpr z
            exact ⟨q, q1, (hg q).mpr q2, fun z => q3 (by rw [show hI (wI h (eI f)) 63 q = eI f 63 q from rfl, eIo 63 q (by decide) (by decide)] at z; exact z)⟩
          have eg : g' = grp (hI h) P (o k) := b_ext2 fun i _ => by
            rw [hg i, b_grp hP htg hok]
            exact ⟨Rch_all hP htg, nolacks hnl⟩
          have hsame : ∀ a, 47 ≤ a → a ≤ 63 → a ≠ 58 → a ≠ 59 → a ≠ 60 → a ≠ 52 → eI f a = hI h a := fun a a1 a2 _ _ _ _ => by
            funext i; exact eIo a i (by omega) (by omega)
          have hFA : ∀ r, r < R → (FA (wI h (eI f)) R P g' r ↔ FAI (hI h) R P (grp (hI h) P (o k)) r) := fun r hr => by
            rw [← eg]
            exact FAI_same hsame (eIo 44 56 (by decide) (by decide)) hR (by omega)
          have hfo : T_X12_fitsOne [.ref 44, .int g'] (wI h (eI f)) (fun r h' => c_X12_take_104 Q [some (.ref 44), some (.int (amS o n)), some (.int (tkS (hI h) R P (amS o n) o k)), some (.int (D ||| g')), some (.int (nI k)), some (.int (nI (o k))), some (.int g'), none, none] (r.toList ++ []) h') := by
            refine ⟨rfl, hl, R, P, hR, hP, (eIo 46 0 (by decide) (by decide)).trans h46, (eIo 52 0 (by decide) (by decide)).trans h52, fun hy2 => ?_, fun hy2 => ?_⟩
            · have hy3 : ∃ r, r < R ∧ FAI (hI h) R P (grp (hI h) P (o k)) r := by
                obtain ⟨r, a, b⟩ := hy2; exact ⟨r, a, (hFA r a).mp b⟩
              rw [eR_w, eI_eI]
              have hsub : ∀ i, bt (tkS (hI h) R P (amS o n) o k ||| g') i = true → bt (amS o n) i = true := fun i z => by
                rw [b_or] at z
                simp only [Bool.or_eq_true] at z
                rcases z with z | z
                · exact tkS_sub hk k (by omega) i z
                · exact (hgP i z).2
              have hcp : T_X12_canPlace [.ref 44, .int (tkS (hI h) R P (amS o n) o k ||| g')] (wI h (eI f)) (fun r h' => c_X12_take_119 Q [some (.ref 44), some (.int (amS o n)), some (.int (tkS (hI h) R P (amS o n) o k)), some (.int (D ||| g')), some (.int (nI k)), some (.int (nI (o k))), some (.int g'), none, none] (r.toList ++ []) h') := by
                have hfs := Fit_same (R := R) (left := tkS (hI h) R P (amS o n) o k ||| g') (same_tk hi.2) hR
                refine ⟨rfl, hl, pct_am hk hsub, R, P, preC_tk hk hi.2 (fun i z => ?_), fun hy4 => ?_, fun hy4 => ?_⟩
                · obtain ⟨j, a, b⟩ := (b_amS hP (fun j hj => (ho j hj).1)).mp (hsub i z)
                  rw [← b]; exact (ho j a).1
                · have hgo := h127 0 (cdS_0 hnl hy3 (by rw [← eg]; exact hfs.mp hy4)).symm
                  generalize wI h (eI f) = H at hgo ⊢
                  simp only [c_X12_take_119, i_push, i_ild, i_ald, i_ist, i_ast, i_inc, i_bin, i_un, i_divs, i_i2l, i_lshl, i_lor, i_dup, i_dup2, i_pop, i_if, i_cmp, i_nul, i_vret, i_iret, i_zret, i_aret, i_keep, keep, lget, lset, ent, i_getI, i_getJ, i_getR, i_getN, i_putI, i_putZ, i_putJ, i_putR, i_iald, i_bald, i_alen, i_aald, i_iast, i_bast, i_aast, i_new, i_newa, i_anew, i_oini, i_callS, i_callV, i_callI, popn, sh4, i_sw, swP, i_copy, i_binS, List.map, Option.toList_none, Option.toList_some, List.append, List.nil_append, List.cons_append, List.length_cons, List.length_nil, List.replicate, Nat.sub_self, Nat.reduceSub, Nat.reduceAdd, hK_pI, hL_pI, hI_pI, hR_pI, hJ_pI, hT_pI, hS_pI, hK_pR, hL_pR, hI_pR, hR_pR, hJ_pR, hT_pR, hS_pR, hK_pJ, hL_pJ, hI_pJ, hR_pJ, hJ_pJ, hT_pJ, hS_pJ, hK_wI, hL_wI, hI_wI, hR_wI, hJ_wI, hT_wI, hS_wI, eq_self, and_true, true_and, and_false, false_and, or_true, true_or, or_false, false_or, if_true, if_false, not_true_eq_false, not_false_eq_true, forall_const, implies_true, false_implies, true_implies, Option.some.injEq, forall_eq', exists_eq_left', reduceCtorEq, Nat.reduceEqDiff, c1, T_X12_in, T_X12_ones, T_X11_within, T_X11_bit, T_X11_isIn, T_X11_oneIfIn, T_J6_bitCount_0f7a4]
                  first | exact hgo | exact ⟨fun z => absurd z (by decide), fun _ => hgo⟩
                · have hgo := h127 5 (cdS_5 hnl hy3 (by rw [← eg]; exact fun z => hy4 (hfs.mpr z))).symm
                  generalize wI h (eI f) = H at hgo ⊢
                  simp only [c_X12_take_119, i_push, i_ild, i_ald, i_ist, i_ast, i_inc, i_bin, i_un, i_divs, i_i2l, i_lshl, i_lor, i_dup, i_dup2, i_pop, i_if, i_cmp, i_nul, i_vret, i_iret, i_zret, i_aret, i_keep, keep, lget, lset, ent, i_getI, i_getJ, i_getR, i_getN, i_putI, i_putZ, i_putJ, i_putR, i_iald, i_bald, i_alen, i_aald, i_iast, i_bast, i_aast, i_new, i_newa, i_anew, i_oini, i_callS, i_callV, i_callI, popn, sh4, i_sw, swP, i_copy, i_binS, List.map, Option.toList_none, Option.toList_some, List.append, List.nil_append, List.cons_append, List.length_cons, List.length_nil, List.replicate, Nat.sub_self, Nat.reduceSub, Nat.reduceAdd, hK_pI, hL_pI, hI_pI, hR_pI, hJ_pI, hT_pI, hS_pI, hK_pR, hL_pR, hI_pR, hR_pR, hJ_pR, hT_pR, hS_pR, hK_pJ, hL_pJ, hI_pJ, hR_pJ, hJ_pJ, hT_pJ, hS_pJ, hK_wI, hL_wI, hI_wI, hR_wI, hJ_wI, hT_wI, hS_wI, eq_self, and_true, true_and, and_false, false_and, or_true, true_or, or_false, false_or, if_true, if_false, not_true_eq_false, not_false_eq_true, forall_const, implies_true, false_implies, true_implies, Option.some.injEq, forall_eq', exists_eq_left', reduceCtorEq, Nat.reduceEqDiff, c1, T_X12_in, T_X12_ones, T_X11_within, T_X11_bit, T_X11_isIn, T_X11_oneIfIn, T_J6_bitCount_0f7a4]
                  first | exact hgo | exact ⟨fun _ => hgo, fun z => absurd rfl z⟩
              have hkk := (lm_k hl).1
              have htt := (lm_t hl).1
              generalize wI h (eI f) = H at hcp hkk htt ⊢
              simp only [c_X12_take_104, i_push, i_ild, i_ald, i_ist, i_ast, i_inc, i_bin, i_un, i_divs, i_i2l, i_lshl, i_lor, i_dup, i_dup2, i_pop, i_if, i_cmp, i_nul, i_vret, i_iret, i_zret, i_aret, i_keep, keep, lget, lset, ent, i_getI, i_getJ, i_getR, i_getN, i_putI, i_putZ, i_putJ, i_putR, i_iald, i_bald, i_alen, i_aald, i_iast, i_bast, i_aast, i_new, i_newa, i_anew, i_oini, i_callS, i_callV, i_callI, popn, sh4, i_sw, swP, i_copy, i_binS, List.map, Option.toList_none, Option.toList_some, List.append, List.nil_append, List.cons_append, List.length_cons, List.length_nil, List.replicate, Nat.sub_self, Nat.reduceSub, Nat.reduceAdd, hK_pI, hL_pI, hI_pI, hR_pI, hJ_pI, hT_pI, hS_pI, hK_pR, hL_pR, hI_pR, hR_pR, hJ_pR, hT_pR, hS_pR, hK_pJ, hL_pJ, hI_pJ, hR_pJ, hJ_pJ, hT_pJ, hS_pJ, hK_wI, hL_wI, hI_wI, hR_wI, hJ_wI, hT_wI, hS_wI, eq_self, and_true, true_and, and_false, false_and, or_true, true_or, or_false, false_or, if_true, if_false, not_true_eq_false, not_false_eq_true, forall_const, implies_true, false_implies, true_implies, Option.some.injEq, forall_eq', exists_eq_left', reduceCtorEq, Nat.reduceEqDiff, c1, T_X12_in, T_X12_ones, T_X11_within, T_X11_bit, T_X11_isIn, T_X11_oneIfIn, T_J6_bitCount_0f7a4, hkk, htt]
              first | exact hcp | exact ⟨fun z => absurd z (by decide), fun _ => hcp⟩
            · have hy3 : ¬ ∃ r, r < R ∧ FAI (hI h) R P (grp (hI h) P (o k)) r := by
                rintro ⟨r, a, b⟩; exact hy2 ⟨r, a, (hFA r a).mpr b⟩
              rw [eR_w, eI_eI]
              have hgo := h127 4 (cdS_4 hnl hy3).symm
              generalize wI h (eI f) = H at hgo ⊢
              simp only [c_X12_take_104, i_push, i_ild, i_ald, i_ist, i_ast, i_inc, i_bin, i_un, i_divs, i_i2l, i_lshl, i_lor, i_dup, i_dup2, i_pop, i_if, i_cmp, i_nul, i_vret, i_iret, i_zret, i_aret, i_keep, keep, lget, lset, ent, i_getI, i_getJ, i_getR, i_getN, i_putI, i_putZ, i_putJ, i_putR, i_iald, i_bald, i_alen, i_aald, i_iast, i_bast, i_aast, i_new, i_newa, i_anew, i_oini, i_callS, i_callV, i_callI, popn, sh4, i_sw, swP, i_copy, i_binS, List.map, Option.toList_none, Option.toList_some, List.append, List.nil_append, List.cons_append, List.length_cons, List.length_nil, List.replicate, Nat.sub_self, Nat.reduceSub, Nat.reduceAdd, hK_pI, hL_pI, hI_pI, hR_pI, hJ_pI, hT_pI, hS_pI, hK_pR, hL_pR, hI_pR, hR_pR, hJ_pR, hT_pR, hS_pR, hK_pJ, hL_pJ, hI_pJ, hR_pJ, hJ_pJ, hT_pJ, hS_pJ, hK_wI, hL_wI, hI_wI, hR_wI, hJ_wI, hT_wI, hS_wI, eq_self, and_true, true_and, and_false, false_and, or_true, true_or, or_false, false_or, if_true, if_false, not_true_eq_false, not_false_eq_true, forall_const, implies_true, false_implies, true_implies, Option.some.injEq, forall_eq', exists_eq_left', reduceCtorEq, Nat.reduceEqDiff, c1, T_X12_in, T_X12_ones, T_X11_within, T_X11_bit, T_X11_isIn, T_X11_oneIfIn, T_J6_bitCount_0f7a4]
              first | exact hgo | exact ⟨fun _ => hgo, fun z => absurd rfl z⟩
          have hkk := (lm_k hl).1
          have htt := (lm_t hl).1
          generalize wI h (eI f) = H at hfo hkk htt ⊢
          simp only [c_X12_take_91, i_push, i_ild, i_ald, i_ist, i_ast, i_inc, i_bin, i_un, i_divs, i_i2l, i_lshl, i_lor, i_dup, i_dup2, i_pop, i_if, i_cmp, i_nul, i_vret, i_iret, i_zret, i_aret, i_keep, keep, lget, lset, ent, i_getI, i_getJ, i_getR, i_getN, i_putI, i_putZ, i_putJ, i_putR, i_iald, i_bald, i_alen, i_aald, i_iast, i_bast, i_aast, i_new, i_newa, i_anew, i_oini, i_callS, i_callV, i_callI, popn, sh4, i_sw, swP, i_copy, i_binS, List.map, Option.toList_none, Option.toList_some, List.append, List.nil_append, List.cons_append, List.length_cons, List.length_nil, List.replicate, Nat.sub_self, Nat.reduceSub, Nat.reduceAdd, hK_pI, hL_pI, hI_pI, hR_pI, hJ_pI, hT_pI, hS_pI, hK_pR, hL_pR, hI_pR, hR_pR, hJ_pR, hT_pR, hS_pR, hK_pJ, hL_pJ, hI_pJ, hR_pJ, hJ_pJ, hT_pJ, hS_pJ, hK_wI, hL_wI, hI_wI, hR_wI, hJ_wI, hT_wI, hS_wI, eq_self, and_true, true_and, and_false, false_and, or_true, true_or, or_false, false_or, if_true, if_false, not_true_eq_false, not_false_eq_true, forall_const, implies_true, false_implies, true_implies, Option.some.injEq, forall_eq', exists_eq_left', reduceCtorEq, Nat.reduceEqDiff, c1, T_X12_in, T_X12_ones, T_X11_within, T_X11_bit, T_X11_isIn, T_X11_oneIfIn, T_J6_bitCount_0f7a4, hkk, htt]
          first | exact hfo | exact ⟨fun _ => hfo, fun z => absurd rfl z⟩
      have hem : T_X12_emptyRooms [.ref 44] (wI h f) (fun r h' => c_X12_take_84 Q [some (.ref 44), some (.int (amS o n)), some (.int (tkS (hI h) R P (amS o n) o k)), some (.int (D ||| g')), some (.int (nI k)), some (.int (nI (o k))), some (.int g'), none, none] (r.toList ++ []) h') := by
        refine ⟨rfl, hl, ?_⟩
        rw [eR_w]
        have hkk := (lm_k hl1).1
        have htt := (lm_t hl1).1
        generalize wI h (eI f) = H at hlo hkk htt ⊢
        simp only [c_X12_take_84, i_push, i_ild, i_ald, i_ist, i_ast, i_inc, i_bin, i_un, i_divs, i_i2l, i_lshl, i_lor, i_dup, i_dup2, i_pop, i_if, i_cmp, i_nul, i_vret, i_iret, i_zret, i_aret, i_keep, keep, lget, lset, ent, i_getI, i_getJ, i_getR, i_getN, i_putI, i_putZ, i_putJ, i_putR, i_iald, i_bald, i_alen, i_aald, i_iast, i_bast, i_aast, i_new, i_newa, i_anew, i_oini, i_callS, i_callV, i_callI, popn, sh4, i_sw, swP, i_copy, i_binS, List.map, Option.toList_none, Option.toList_some, List.append, List.nil_append, List.cons_append, List.length_cons, List.length_nil, List.replicate, Nat.sub_self, Nat.reduceSub, Nat.reduceAdd, hK_pI, hL_pI, hI_pI, hR_pI, hJ_pI, hT_pI, hS_pI, hK_pR, hL_pR, hI_pR, hR_pR, hJ_pR, hT_pR, hS_pR, hK_pJ, hL_pJ, hI_pJ, hR_pJ, hJ_pJ, hT_pJ, hS_pJ, hK_wI, hL_wI, hI_wI, hR_wI, hJ_wI, hT_wI, hS_wI, eq_self, and_true, true_and, and_false, false_and, or_true, true_or, or_false, false_or, if_true, if_false, not_true_eq_false, not_false_eq_true, forall_const, implies_true, false_implies, true_implies, Option.some.injEq, forall_eq', exists_eq_left', reduceCtorEq, Nat.reduceEqDiff, c1, T_X12_in, T_X12_ones, T_X11_within, T_X11_bit, T_X11_isIn, T_X11_oneIfIn, T_J6_bitCount_0f7a4, hkk, htt]
        exact hlo
      have hkk := (lm_k hl).1
      have htt := (lm_t hl).1
      generalize wI h f = H at hem hkk htt ⊢
      simp only [c_X12_take_73, i_push, i_ild, i_ald, i_ist, i_ast, i_inc, i_bin, i_un, i_divs, i_i2l, i_lshl, i_lor, i_dup, i_dup2, i_pop, i_if, i_cmp, i_nul, i_vret, i_iret, i_zret, i_aret, i_keep, keep, lget, lset, ent, i_getI, i_getJ, i_getR, i_getN, i_putI, i_putZ, i_putJ, i_putR, i_iald, i_bald, i_alen, i_aald, i_iast, i_bast, i_aast, i_new, i_newa, i_anew, i_oini, i_callS, i_callV, i_callI, popn, sh4, i_sw, swP, i_copy, i_binS, List.map, Option.toList_none, Option.toList_some, List.append, List.nil_append, List.cons_append, List.length_cons, List.length_nil, List.replicate, Nat.sub_self, Nat.reduceSub, Nat.reduceAdd, hK_pI, hL_pI, hI_pI, hR_pI, hJ_pI, hT_pI, hS_pI, hK_pR, hL_pR, hI_pR, hR_pR, hJ_pR, hT_pR, hS_pR, hK_pJ, hL_pJ, hI_pJ, hR_pJ, hJ_pJ, hT_pJ, hS_pJ, hK_wI, hL_wI, hI_wI, hR_wI, hJ_wI, hT_wI, hS_wI, eq_self, and_true, true_and, and_false, false_and, or_true, true_or, or_false, false_or, if_true, if_false, not_true_eq_false, not_false_eq_true, forall_const, implies_true, false_implies, true_implies, Option.some.injEq, forall_eq', exists_eq_left', reduceCtorEq, Nat.reduceEqDiff, c1, T_X12_in, T_X12_ones, T_X11_within, T_X11_bit, T_X11_isIn, T_X11_oneIfIn, T_J6_bitCount_0f7a4, hkk, htt]
      exact hem
    have hskip : bt D (o k) = true → wp 21 MX12_take Q 192 [some (.ref 44), some (.int (amS o n)), some (.int (tkS (hI h) R P (amS o n) o k)), some (.int D), some (.int (nI k)), none, none, none, none] [] (wI h f) := by
      intro z
      obtain ⟨a, b, c⟩ := tk_skip hk (by omega) hi ((hd (o k)).mp z)
      exact h192 f _ D b.symm a (fun i => by rw [hd i, c i])
    generalize wI h f = H at hl e53 e86 hrest hskip ⊢
    simp only [b_X12_take_36, hl, lay_pI, lay_wI, lay_pJ, lm_t hl, lm_k hl, lm_r hl, lm_l hl, i_push, i_ild, i_ald, i_ist, i_ast, i_inc, i_bin, i_un, i_divs, i_i2l, i_lshl, i_lor, i_dup, i_dup2, i_pop, i_if, i_cmp, i_nul, i_vret, i_iret, i_zret, i_aret, i_keep, keep, lget, lset, ent, i_getI, i_getJ, i_getR, i_getN, i_putI, i_putZ, i_putJ, i_putR, i_iald, i_bald, i_alen, i_aald, i_iast, i_bast, i_aast, i_new, i_newa, i_anew, i_oini, i_callS, i_callV, i_callI, popn, sh4, i_sw, swP, i_copy, i_binS, List.map, Option.toList_none, Option.toList_some, List.append, List.nil_append, List.cons_append, List.length_cons, List.length_nil, List.replicate, Nat.sub_self, Nat.reduceSub, Nat.reduceAdd, hK_pI, hL_pI, hI_pI, hR_pI, hJ_pI, hT_pI, hS_pI, hK_pR, hL_pR, hI_pR, hR_pR, hJ_pR, hT_pR, hS_pR, hK_pJ, hL_pJ, hI_pJ, hR_pJ, hJ_pJ, hT_pJ, hS_pJ, hK_wI, hL_wI, hI_wI, hR_wI, hJ_wI, hT_wI, hS_wI, eq_self, and_true, true_and, and_false, false_and, or_true, true_or, or_false, false_or, if_true, if_false, not_true_eq_false, not_false_eq_true, forall_const, implies_true, false_implies, true_implies, Option.some.injEq, forall_eq', exists_eq_left', reduceCtorEq, Nat.reduceEqDiff, c1, T_X12_in, T_X12_ones, T_X11_within, T_X11_bit, T_X11_isIn, T_X11_oneIfIn, T_J6_bitCount_0f7a4, e53, cl_nI (show k < 2147483648 by omega), in_nI (show k < 24 by omega) (by decide), e86, sh_bt D (show o k < 32 by omega)]
    refine ⟨fun c => absurd c (nI_ge (by omega) (by omega)), fun _ => ⟨fun c => ?_, fun c => hskip (by simpa using c)⟩⟩
    obtain ⟨r1, r2, P', k', r3, r4, r5, r6, r7⟩ := hrest c
    exact ⟨r1, r2, P', k', r3, r4, r5, r6, fun g a b d => r7 g a b d g rfl rfl⟩
set_option maxRecDepth 100000 in
theorem tk_4 (Q : Option Value → Hp → Prop) (h : Hp) (hl : LayM h) (n : Nat) (o : Nat → Nat) (hn : n ≤ 24) (h53 : hI h 44 53 = nI n) (ho : ∀ j, j < n → o j < 24 ∧ hI h 86 j = nI (o j))
    (hout : wp 21 MX12_take Q 36 [some (.ref 44), some (.int (amS o n)), some (.int 0), some (.int 0), some (.int (nI 0)), none, none, none, none] [] h) :
    ∀ (m k : Nat), m = n - k → k ≤ n → wp 21 MX12_take Q 4 [some (.ref 44), some (.int (amS o k)), some (.int (nI k)), none, none, none, none, none, none] [] h := by
  intro m
  induction m with
  | zero =>
    intro k hm hk
    have e : k = n := by omega
    subst e
    refine s_X12_take_4 Q _ _ _ ?_
    simp only [b_X12_take_4, hl, lay_pI, lay_wI, lay_pJ, lm_t hl, lm_k hl, lm_r hl, lm_l hl, i_push, i_ild, i_ald, i_ist, i_ast, i_inc, i_bin, i_un, i_divs, i_i2l, i_lshl, i_lor, i_dup, i_dup2, i_pop, i_if, i_cmp, i_nul, i_vret, i_iret, i_zret, i_aret, i_keep, keep, lget, lset, ent, i_getI, i_getJ, i_getR, i_getN, i_putI, i_putZ, i_putJ, i_putR, i_iald, i_bald, i_alen, i_aald, i_iast, i_bast, i_aast, i_new, i_newa, i_anew, i_oini, i_callS, i_callV, i_callI, popn, sh4, i_sw, swP, i_copy, i_binS, List.map, Option.toList_none, Option.toList_some, List.append, List.nil_append, List.cons_append, List.length_cons, List.length_nil, List.replicate, Nat.sub_self, Nat.reduceSub, Nat.reduceAdd, hK_pI, hL_pI, hI_pI, hR_pI, hJ_pI, hT_pI, hS_pI, hK_pR, hL_pR, hI_pR, hR_pR, hJ_pR, hT_pR, hS_pR, hK_pJ, hL_pJ, hI_pJ, hR_pJ, hJ_pJ, hT_pJ, hS_pJ, hK_wI, hL_wI, hI_wI, hR_wI, hJ_wI, hT_wI, hS_wI, eq_self, and_true, true_and, and_false, false_and, or_true, true_or, or_false, false_or, if_true, if_false, not_true_eq_false, not_false_eq_true, forall_const, implies_true, false_implies, true_implies, Option.some.injEq, forall_eq', exists_eq_left', reduceCtorEq, Nat.reduceEqDiff, c1, T_X12_in, T_X12_ones, T_X11_within, T_X11_bit, T_X11_isIn, T_X11_oneIfIn, T_J6_bitCount_0f7a4, h53]
    exact ⟨fun _ => hout, fun c => absurd (nI_le (Nat.le_refl _) (by omega)) c⟩
  | succ m ih =>
    intro k hm hk
    obtain ⟨o1, o2⟩ := ho k (by omega)
    have hb : (1 : Int32) <<< (nI (o k) &&& 31) = bitI (o k) := rfl
    refine s_X12_take_4 Q _ _ _ ?_
    simp only [b_X12_take_4, hl, lay_pI, lay_wI, lay_pJ, lm_t hl, lm_k hl, lm_r hl, lm_l hl, i_push, i_ild, i_ald, i_ist, i_ast, i_inc, i_bin, i_un, i_divs, i_i2l, i_lshl, i_lor, i_dup, i_dup2, i_pop, i_if, i_cmp, i_nul, i_vret, i_iret, i_zret, i_aret, i_keep, keep, lget, lset, ent, i_getI, i_getJ, i_getR, i_getN, i_putI, i_putZ, i_putJ, i_putR, i_iald, i_bald, i_alen, i_aald, i_iast, i_bast, i_aast, i_new, i_newa, i_anew, i_oini, i_callS, i_callV, i_callI, popn, sh4, i_sw, swP, i_copy, i_binS, List.map, Option.toList_none, Option.toList_some, List.append, List.nil_append, List.cons_append, List.length_cons, List.length_nil, List.replicate, Nat.sub_self, Nat.reduceSub, Nat.reduceAdd, hK_pI, hL_pI, hI_pI, hR_pI, hJ_pI, hT_pI, hS_pI, hK_pR, hL_pR, hI_pR, hR_pR, hJ_pR, hT_pR, hS_pR, hK_pJ, hL_pJ, hI_pJ, hR_pJ, hJ_pJ, hT_pJ, hS_pJ, hK_wI, hL_wI, hI_wI, hR_wI, hJ_wI, hT_wI, hS_wI, eq_self, and_true, true_and, and_false, false_and, or_true, true_or, or_false, false_or, if_true, if_false, not_true_eq_false, not_false_eq_true, forall_const, implies_true, false_implies, true_implies, Option.some.injEq, forall_eq', exists_eq_left', reduceCtorEq, Nat.reduceEqDiff, c1, T_X12_in, T_X12_ones, T_X11_within, T_X11_bit, T_X11_isIn, T_X11_oneIfIn, T_J6_bitCount_0f7a4, h53, cl_nI (show k < 2147483648 by omega), in_nI (show k < 24 by omega) (by decide), o2, hb, amS_succ o k (show o k < 32 by omega), nI_1]
    exact ⟨fun c => absurd c (nI_ge (by omega) (by omega)), fun _ => ih (k + 1) (by omega) (by omega)⟩
set_option maxRecDepth 100000 in
set_option maxHeartbeats 4000000 in
theorem ok_X12_take : ctr 21 MX12_take T_X12_take := by
  refine ctr_of pn_X12 wc_X12_take (fun av h Q hT => ?_)
  unfold T_X12_take at hT
  split at hT
  · rename_i q
    refine ⟨⟨by simp [Value.category], Nat.le_of_ble_eq_true rfl⟩, s_X12_take_0 Q _ _ _ ?_⟩
    obtain ⟨rfl, hl, R, P, n, o, hk, hq⟩ := hT
    obtain ⟨hR, hP, hn, h46, h52, hcap, hsy, htg, h53, ho, hD⟩ := id hk
    simp only [MX12_take, b_X12_take_0, i_push, i_ild, i_ald, i_ist, i_ast, i_inc, i_bin, i_un, i_divs, i_i2l, i_lshl, i_lor, i_dup, i_dup2, i_pop, i_if, i_cmp, i_nul, i_vret, i_iret, i_zret, i_aret, i_keep, keep, lget, lset, ent, i_getI, i_getJ, i_getR, i_getN, i_putI, i_putZ, i_putJ, i_putR, i_iald, i_bald, i_alen, i_aald, i_iast, i_bast, i_aast, i_new, i_newa, i_anew, i_oini, i_callS, i_callV, i_callI, popn, sh4, i_sw, swP, i_copy, i_binS, List.map, Option.toList_none, Option.toList_some, List.append, List.nil_append, List.cons_append, List.length_cons, List.length_nil, List.replicate, Nat.sub_self, Nat.reduceSub, Nat.reduceAdd, hK_pI, hL_pI, hI_pI, hR_pI, hJ_pI, hT_pI, hS_pI, hK_pR, hL_pR, hI_pR, hR_pR, hJ_pR, hT_pR, hS_pR, hK_pJ, hL_pJ, hI_pJ, hR_pJ, hJ_pJ, hT_pJ, hS_pJ, hK_wI, hL_wI, hI_wI, hR_wI, hJ_wI, hT_wI, hS_wI, eq_self, and_true, true_and, and_false, false_and, or_true, true_or, or_false, false_or, if_true, if_false, not_true_eq_false, not_false_eq_true, forall_const, implies_true, false_implies, true_implies, Option.some.injEq, forall_eq', exists_eq_left', reduceCtorEq, Nat.reduceEqDiff, c1, T_X12_in, T_X12_ones, T_X11_within, T_X11_bit, T_X11_isIn, T_X11_oneIfIn, T_J6_bitCount_0f7a4]
    have hw := tk_36 Q h hl R P n o hk hq n 0 (hI h) 0 (by omega) (by omega) ⟨fun q => by rw [cif_f (fun ⟨j, a, _⟩ => by omega)], fun a i _ _ => rfl⟩ (fun i => by
      rw [b_0]; exact ⟨fun z => (by cases z), fun ⟨j, a, _⟩ => absurd a (by omega)⟩)
    have hw2 := tk_4 Q h hl n o hn h53 (fun j hj => ⟨by have := (ho j hj).1; omega, (ho j hj).2⟩) hw n 0 (by omega) (by omega)
    rw [amS_0] at hw2
    exact hw2
  · exact hT.elim
