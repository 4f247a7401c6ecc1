/-! ===== the class: takeParties ===== -/
theorem FAM_n {f g J : Mem} {R P n : Nat} {sz cp : Nat → Nat} (h : sx f g) (h2 : f 33 2 = nI n) (h3 : ∀ a i, i < n → 34 ≤ a → a ≤ 38 → f a i = g a i) (hf : FAM g J R P n sz cp) : FAM f J R P n sz cp := by
  obtain ⟨⟨s1, s2, s3, s4, s5, s6, s7, s8⟩, a, b⟩ := hf
  refine ⟨⟨s1, s2, ?_, h2, fun i hi => ?_, fun i j hi hj hij => ?_, fun i j hi hj => ?_, s8⟩, fun i hi => ?_, b⟩
  · rw [h.1 12 (by decide)]; exact s3
  · rw [h3 35 i hi (by decide) (by decide), h3 34 i hi (by decide) (by decide)]; exact s5 i hi
  · rw [h3 34 i hi (by decide) (by decide), h3 34 j hj (by decide) (by decide)]; exact s6 i j hi hj hij
  · rw [h3 34 i hi (by decide) (by decide), h3 34 j hj (by decide) (by decide), h3 37 i hi (by decide) (by decide), h3 37 j hj (by decide) (by decide)]; exact s7 i j hi hj
  · obtain ⟨a1, a2, a3, a4, a5, a6, a7⟩ := a i hi
    rw [h3 34 i hi (by decide) (by decide), h3 36 i hi (by decide) (by decide), h3 37 i hi (by decide) (by decide), h3 38 i hi (by decide) (by decide), ilF_c (h.1 19 (by decide)), foS_c (h.1 23 (by decide)), rfF_c h.1 h.2]
    exact ⟨a1, a2, a3, a4, a5, a6, a7⟩
theorem TU_n {f g : Mem} : ∀ n, (∀ i, i < n → f 34 i = g 34 i) → TU f n = TU g n
  | 0, _ => rfl
  | n + 1, h => by rw [TU, TU, TU_n n (fun i hi => h i (by omega)), h n (by omega)]
theorem lacks_and {J : Mem} {P p : Nat} {am : Int32} (hP : P ≤ 24) (hT : Tg J P) (hp : p < P) : grp J P p &&& (am ^^^ (-1)) = 0 ↔ ¬ lacks J P am p := by
  rw [and0]
  constructor
  · rintro z ⟨i, a, b⟩
    have hb := (b_grp hP hT hp).mpr a
    have hi := grp_in hP hT hp i hb
    have := z i hb
    rw [b_xor, b_m1 i (by omega), b] at this; cases this
  · intro z i hb
    have hi := grp_in hP hT hp i hb
    rw [b_xor, b_m1 i (by omega)]
    cases hx : bt am i with
    | true => rfl
    | false => exact absurd ⟨i, (b_grp hP hT hp).mp hb, hx⟩ z
theorem rfF_0 {f J : Mem} {R P : Nat} {g : Int32} (he : EC f J R P) (hR : R ≤ 4) (hP : P ≤ 24) (hsy : Sy J) (hns : noS J P) (hg : inP g P) (hg0 : ¬ g = 0) (hk : ilOk f P) : rfF f g R P = 0 ↔ ¬ ∃ r, r < R ∧ FAI J R P g r := by
  constructor
  · rintro z ⟨r, hr, hf⟩
    have := (rfF_iff he hR hP hsy hns hg hg0 hk).mpr ⟨hr, hf⟩
    rw [z, b_0] at this; cases this
  · intro z
    refine b_ext fun i _ => ?_
    rw [b_0]
    cases hb : bt (rfF f g R P) i with
    | false => rfl
    | true => exact absurd ⟨i, (rfF_iff he hR hP hsy hns hg hg0 hk).mp hb⟩ z
set_option maxRecDepth 100000 in
set_option maxHeartbeats 800000 in
theorem tp_4 (Q : Option Value → Hp → Prop) (h : Hp) (hl : LayX h) (hst : hR h 33 0 = some 3) (hs31 : hR h 31 0 = some 3) (n : Nat) (J : Mem) (R P N : Nat) (o : Nat → Nat) (cp : Nat → Nat) (hn : LayN h n R) (hpre : TPre (hI h) J n R P N o) (hq : ∀ f, TI (hI h) J n R P N o cp N f → Q none (wI h f)) :
    ∀ (m' k : Nat) (f : Mem) (seen : Int32), m' = N - k → k ≤ N → TI (hI h) J n R P N o cp k f → (∀ q, bt seen q = true ↔ ∃ j, j < k ∧ Rch J P (-1) (o j) q) → wp 22 MX5_takeParties Q 15 [some (.ref 31), some (.ref n), some (.int seen), some (.int (nI k)), none, none, none] [] (wI h f) := by
  obtain ⟨hR4, hP, hN10, h12, h16, hec, hsy, hTg, hns, hil, h24, h8, hord, h7⟩ := hpre
  have hn90 : 90 ≤ n := hn.1
  intro m'
  induction m' with
  | zero =>
    intro k f seen hm hk hTI hseen
    have e : k = N := by omega
    subst e
    have hfin := hq f hTI
    obtain ⟨m, sz, w, c1, c2, c3, c4, c5, c6, c7, c8, c9, c10, c11, c12, c13⟩ := hTI
    have hl2 : LayX (wI h f) := hl
    have hf := LayN.f (h := wI h f) (show LayN (wI h f) n R from hn)
    have e8 : hI (wI h f) n 8 = nI k := (c3 8 (by decide)).trans h8
    refine s_X5_takeParties_15 Q _ _ _ ?_
    generalize wI h f = H at hl2 hf e8 hfin ⊢
    have hl := hl2
    simp only [b_X5_takeParties_15, lx_pI, lx_wI, lx_t hl, lx_k hl, lx_r hl, lx_l hl, i_push, i_ild, i_ald, i_ist, i_ast, i_inc, i_bin, i_un, i_divs, i_i2l, i_lshl, i_lor, i_dup, i_dup2, i_pop, i_if, i_cmp, i_nul, i_vret, i_iret, i_zret, i_aret, i_keep, keep, lget, lset, ent, i_getI, i_getJ, i_getR, i_getN, i_putI, i_putZ, i_putJ, i_putR, i_iald, i_bald, i_alen, i_aald, i_iast, i_bast, i_aast, i_new, i_newa, i_anew, i_oini, i_callS, i_callV, i_callI, popn, sh4, i_sw, swP, i_copy, i_binS, List.map, Option.toList_none, Option.toList_some, List.append, List.nil_append, List.cons_append, List.length_cons, List.length_nil, List.replicate, Nat.sub_self, Nat.reduceSub, Nat.reduceAdd, hK_pI, hL_pI, hI_pI, hR_pI, hJ_pI, hT_pI, hS_pI, hK_pR, hL_pR, hI_pR, hR_pR, hJ_pR, hT_pR, hS_pR, hK_pJ, hL_pJ, hI_pJ, hR_pJ, hJ_pJ, hT_pJ, hS_pJ, hK_wI, hL_wI, hI_wI, hR_wI, hJ_wI, hT_wI, hS_wI, eq_self, and_true, true_and, and_false, false_and, or_true, true_or, or_false, false_or, if_true, if_false, not_true_eq_false, not_false_eq_true, forall_const, implies_true, false_implies, true_implies, Option.some.injEq, forall_eq', exists_eq_left', reduceCtorEq, Nat.reduceEqDiff, c1, T_X12_in, T_X12_ones, T_X11_within, T_X11_bit, T_X11_isIn, T_X11_oneIfIn, T_J6_bitCount_0f7a4, hf, e8]
    exact ⟨fun _ => hfin, fun z => absurd (nI_le (Nat.le_refl _) (by omega)) z⟩
  | succ m' ih =>
    intro k f seen hm hk hTI hseen
    have hkN : k < N := by omega
    obtain ⟨ho1, hp⟩ := hord k hkN
    have hl2 : LayX (wI h f) := hl
    have hf := LayN.f (h := wI h f) (show LayN (wI h f) n R from hn)
    have hs31' : hR (wI h f) 31 0 = some 3 := hs31
    have hTI' := hTI
    obtain ⟨m, sz, w, c1, c2, c3, c4, c5, c6, c7, c8, c9, c10, c11, c12, c13⟩ := hTI
    have e8 : hI (wI h f) n 8 = nI N := (c3 8 (by decide)).trans h8
    have ek : hI (wI h f) (n + 1) k = nI (o k) := (c5 (n + 1) k (by omega) (by omega) (by omega)).trans ho1
    have h117 : ∀ (f' : Mem) (seen' : Int32), TI (hI h) J n R P N o cp (k + 1) f' → (∀ q, bt seen' q = true ↔ ∃ j, j < k + 1 ∧ Rch J P (-1) (o j) q) → wp 22 MX5_takeParties Q 117 [some (.ref 31), some (.ref n), some (.int seen'), some (.int (nI k)), none, none, none] [] (wI h f') := by
      intro f' seen' hT' hs'
      have := ih (k + 1) f' seen' (by omega) (by omega) hT' hs'
      refine s_X5_takeParties_117 Q _ _ _ ?_
      generalize wI h f' = H at this ⊢
      simp only [b_X5_takeParties_117, i_push, i_ild, i_ald, i_ist, i_ast, i_inc, i_bin, i_un, i_divs, i_i2l, i_lshl, i_lor, i_dup, i_dup2, i_pop, i_if, i_cmp, i_nul, i_vret, i_iret, i_zret, i_aret, i_keep, keep, lget, lset, ent, i_getI, i_getJ, i_getR, i_getN, i_putI, i_putZ, i_putJ, i_putR, i_iald, i_bald, i_alen, i_aald, i_iast, i_bast, i_aast, i_new, i_newa, i_anew, i_oini, i_callS, i_callV, i_callI, popn, sh4, i_sw, swP, i_copy, i_binS, List.map, Option.toList_none, Option.toList_some, List.append, List.nil_append, List.cons_append, List.length_cons, List.length_nil, List.replicate, Nat.sub_self, Nat.reduceSub, Nat.reduceAdd, hK_pI, hL_pI, hI_pI, hR_pI, hJ_pI, hT_pI, hS_pI, hK_pR, hL_pR, hI_pR, hR_pR, hJ_pR, hT_pR, hS_pR, hK_pJ, hL_pJ, hI_pJ, hR_pJ, hJ_pJ, hT_pJ, hS_pJ, hK_wI, hL_wI, hI_wI, hR_wI, hJ_wI, hT_wI, hS_wI, eq_self, and_true, true_and, and_false, false_and, or_true, true_or, or_false, false_or, if_true, if_false, not_true_eq_false, not_false_eq_true, forall_const, implies_true, false_implies, true_implies, Option.some.injEq, forall_eq', exists_eq_left', reduceCtorEq, Nat.reduceEqDiff, c1, T_X12_in, T_X12_ones, T_X11_within, T_X11_bit, T_X11_isIn, T_X11_oneIfIn, T_J6_bitCount_0f7a4, nI_1]
      exact this
    have hskip : bt seen (o k) = true → wp 22 MX5_takeParties Q 117 [some (.ref 31), some (.ref n), some (.int seen), some (.int (nI k)), none, none, none] [] (wI h f) := fun hb => by
      have hex := (hseen (o k)).mp hb
      refine h117 f seen (TI_skip hex hTI') (fun q => ?_)
      rw [hseen q]
      obtain ⟨j0, hj0, hr0⟩ := hex
      refine ⟨fun ⟨j, a, b⟩ => ⟨j, by omega, b⟩, fun ⟨j, a, b⟩ => ?_⟩
      by_cases e : j = k
      · rw [e] at b; exact ⟨j0, hj0, Rch_tr hr0 b⟩
      · exact ⟨j, by omega, b⟩
    have hnew : bt seen (o k) = false → T_X3_partyOf [.ref 16, .int (nI (o k))] (wI h f) (fun x h' => c_X5_takeParties_52 Q [some (.ref 31), some (.ref n), some (.int seen), some (.int (nI k)), some (.int (nI (o k))), none, none] (x.toList ++ []) h') := by
      intro hb
      have hnsn : ∀ j, j < k → ¬ Rch J P (-1) (o j) (o k) := fun j hj z => by
        rw [(hseen (o k)).mpr ⟨j, hj, z⟩] at hb; cases hb
      refine ⟨rfl, hl, J, P, o k, hP, by show f 16 0 = _; rw [c1.1 16 (by decide)]; exact h16, fun q hq => by show f 24 q = _; rw [c1.1 24 (by decide)]; exact h24 q hq, hTg, rfl, hp, ?_⟩
      show c_X5_takeParties_52 Q _ [.int (grp J P (o k))] (wI h f)
      have hgin := grp_in hP hTg hp
      have hgp : bt (grp J P (o k)) (o k) = true := (b_grp hP hTg hp).mpr Rch_rfl
      have hg0 : ¬ grp J P (o k) = 0 := fun z => by rw [z, b_0] at hgp; cases hgp
      have hecf := EC_c c1 hec
      have hilf := ilOk_c c1 hil
      have f7 : f n 7 = amS o N := (c3 7 (by decide)).trans h7
      obtain ⟨g, hg⟩ : ∃ g, g = grp J P (o k) := ⟨_, rfl⟩
      rw [← hg] at hgin hgp hg0 ⊢
      have hseen2 : ∀ q, bt (seen ||| g) q = true ↔ ∃ j, j < k + 1 ∧ Rch J P (-1) (o j) q := fun q => by
        rw [b_or, Bool.or_eq_true, hseen q, hg, b_grp hP hTg hp]
        constructor
        · rintro (⟨j, a, b⟩ | b)
          · exact ⟨j, by omega, b⟩
          · exact ⟨k, by omega, b⟩
        · rintro ⟨j, a, b⟩
          by_cases e : j = k
          · rw [e] at b; exact Or.inr b
          · exact Or.inl ⟨j, by omega, b⟩
      have hoP : ∀ j, j < N → o j < P := fun j hj => (hord j hj).2
      -- behind the decision
      have hdec : ∀ (is : Int32) (f1 : Mem) (m1 : Nat) (sz1 w1 : Nat → Nat), is = cdS J R P (amS o N) (tkS J R P (amS o N) o k) (o k) → sx f1 (hI h) → (∀ a i, 44 ≤ a → f1 a i = f a i) → FAM f1 J R P m1 sz1 cp → PD f1 R m1 sz1 cp (fun i => some (w1 i)) → MF f1 m1 w1 → (∀ i, i < m1 → f1 40 i = 0) → TU f1 m1 = tkS J R P (amS o N) o (k + 1) → (∀ i, i < m1 → ∃ j, j < k + 1 ∧ f1 34 i = grp J P (o j)) → m1 ≤ k + 1 → (∀ i, i ≠ 2 → f1 33 i = f 33 i) → wp 22 MX5_takeParties Q 83 [some (.ref 31), some (.ref n), some (.int seen), some (.int (nI k)), none, some (.int g), some (.int is)] [] (wI h f1) := by
        intro is f1 m1 sz1 w1 his d1 d2 d3 d4 d5 d6 d7 d8 d9 d10
        refine tp_74 Q h hl hs31 n R hn f1 seen (nI k) g is (amS o N) ((d2 n 7 (by omega)).trans f7) (fun f2 hf2 => ?_)
        refine h117 _ _ ?_ hseen2
        rw [hg]
        rw [hg] at hf2
        exact TI_new hn90 hP hTg hsy hkN hoP hnsn his m1 sz1 w1 d1 ((d2 n 4 (by omega)).trans c2) (fun i hi => (d2 n i (by omega)).trans (c3 i hi)) (fun q => (d2 (n + 2) q (by omega)).trans (c4 q)) (fun a i a1 a2 a3 => (d2 a i a1).trans (c5 a i a1 a2 a3)) d3 d4 d5 d6 d7 d8 d9 (fun i hi => (d10 i hi).trans (c13 i hi)) hf2
      -- the decision leaves Placer as it was
      have hsame : ∀ is, is = cdS J R P (amS o N) (tkS J R P (amS o N) o k) (o k) → ¬ is = 0 → wp 22 MX5_takeParties Q 83 [some (.ref 31), some (.ref n), some (.int seen), some (.int (nI k)), none, some (.int g), some (.int is)] [] (wI h f) := fun is his h0 =>
        hdec is f m sz w his c1 (fun _ _ _ => rfl) c6 c7 c8 c9 (by rw [tkS_step J R P (amS o N) o k hnsn is his, if_neg h0]; exact c10) (fun i hi => by obtain ⟨j, a, b⟩ := c11 i hi; exact ⟨j, by omega, b⟩) (by omega) (fun _ _ => rfl)
      -- takes
      have htk : ¬ lacks J P (amS o N) (o k) → (∃ r, r < R ∧ FAI J R P g r) → T_X4_takes [.ref 33, .int g] (wI h f) (fun x h' => c_X5_takeParties_77 Q [some (.ref 31), some (.ref n), some (.int seen), some (.int (nI k)), some (.int (nI (o k))), some (.int g), some (.int 0)] (x.toList ++ []) h') := by
        intro hlk hfa
        have hm10 : m < 10 := by omega
        have hdis : ∀ i, i < m → f 34 i &&& g = 0 := fun i hi => and0.mpr (fun x hx => by
          obtain ⟨j, hj, e⟩ := c11 i hi
          cases hbx : bt g x with
          | false => rfl
          | true =>
            rw [e] at hx
            rw [hg] at hbx
            have r1 := (b_grp hP hTg (hoP j (by omega))).mp hx
            have r2 := (b_grp hP hTg hp).mp hbx
            exact absurd (Rch_tr r1 (Rch_sym hP hsy hTg hp (m1_bt (by omega)) r2)) (hnsn j hj))
        have hsyf : ∀ i, i < m → (f 37 i &&& g = 0 ↔ foS f g P &&& f 34 i = 0) := fun i hi => by
          obtain ⟨a1, a2, a3, a4, a5, a6, a7⟩ := c6.2.1 i hi
          rw [a6, and0, and0]
          constructor
          · intro z x hx
            obtain ⟨p, hpg, hpx⟩ := (foS_b hecf hgin x).mp hx
            cases hbx : bt (f 34 i) x with
            | false => rfl
            | true =>
              have hxP := a1 x hbx
              have hpP := hgin p hpg
              have := z p ((foS_b hecf a1 p).mpr ⟨x, hbx, by rw [(hsy x p (by omega) (by omega)).1]; exact hpx⟩)
              rw [hpg] at this; cases this
          · intro z x hx
            obtain ⟨p, hpg, hpx⟩ := (foS_b hecf a1 x).mp hx
            cases hbx : bt g x with
            | false => rfl
            | true =>
              have hxP := hgin x hbx
              have hpP := a1 p hpg
              have := z p ((foS_b hecf hgin p).mpr ⟨x, hbx, by rw [(hsy x p (by omega) (by omega)).1]; exact hpx⟩)
              rw [hpg] at this; cases this
        have hpg24 : pct g ≤ 24 := Nat.le_trans (pct_P (by omega) hgin) hP
        have hs1 := c6.1.add hm10 hg0 hpg24 hdis hsyf (il := ilF f g P) (al := rfF f g R P)
        have hfam1 : FAM (addM f m g (ilF f g P) (foS f g P) (rfF f g R P)) J R P (m + 1) (sAd sz m g) cp := by
          rw [hg] at hs1 ⊢
          exact FAM.add c6 hm10 hP hTg hsy hp hs1
        obtain ⟨f1, hf1⟩ : ∃ f1, f1 = addM f m g (ilF f g P) (foS f g P) (rfF f g R P) := ⟨_, rfl⟩
        have hsx1 : sx f1 f := ⟨fun a ha => funext fun j => by rw [hf1]; exact addM_o _ _ _ _ _ _ (Or.inl (by omega)) (Or.inl (by omega)), by rw [hf1]; exact addM_o _ _ _ _ _ _ (Or.inl (by decide)) (Or.inr (by decide))⟩
        have f1hi : ∀ a i, 44 ≤ a → f1 a i = f a i := fun a i ha => by rw [hf1]; exact addM_o _ _ _ _ _ _ (Or.inr (Or.inl (by omega))) (Or.inl (by omega))
        have f1o : ∀ a i, i ≠ m → 34 ≤ a → a ≤ 40 → f1 a i = f a i := fun a i hi a1 a2 => by rw [hf1]; exact addM_o _ _ _ _ _ _ (Or.inr (Or.inr hi)) (Or.inl (by omega))
        have f132 : ∀ i, i ≠ 2 → f1 33 i = f 33 i := fun i hi => by rw [hf1]; exact addM_o _ _ _ _ _ _ (Or.inl (by decide)) (Or.inr hi)
        have hfit : (∃ w', VF f1 R (m + 1) (sAd sz m g) cp w') ↔ Fit (rmI J 4 0) R (tkS J R P (amS o N) o k ||| grp J P (o k)) := by
          rw [hf1]
          rw [fam_fit hfam1 (EC_c (f := addM f m g (ilF f g P) (foS f g P) (rfF f g R P)) (by rw [← hf1]; exact hsx1) hecf) hR4 hP hsy hns (ilOk_c (by rw [← hf1]; exact hsx1) hilf), TU_add, c10, ← hg]
        refine ⟨rfl, hl, hst, R, m, sz, cp, w, P, c6.1, c7, c8, c9, hm10, hg0, hpg24, hdis, hsyf, hP, by show f 16 0 = _; rw [c1.1 16 (by decide)]; exact h16, hilf, fun f2 w' q1 q2 q3 q4 => ?_, fun hno f2 w' q1 q2 q3 q4 => ?_⟩
        · have his : (0 : Int32) = cdS J R P (amS o N) (tkS J R P (amS o N) o k) (o k) := (cdS_0 hlk (by rw [← hg]; exact hfa) (hfit.mp ⟨w', by rw [hf1]; exact q3⟩)).symm
          have q1' : smP f2 f1 := by rw [hf1]; exact q1
          have hsx2 : sx f2 f1 := ⟨fun a ha => q1'.r a (by omega), q1' 33 1 (by decide) (by decide) (by decide) (by decide)⟩
          have hgo := hdec 0 f2 (m + 1) (sAd sz m g) w' his ⟨fun a ha => (hsx2.1 a ha).trans ((hsx1.1 a ha).trans (c1.1 a ha)), hsx2.2.trans (hsx1.2.trans c1.2)⟩ (fun a i ha => (q1' a i (by omega) (by omega) (by omega) (by omega)).trans (f1hi a i ha)) (FAM_c hsx2 (q1' 33 2 (by decide) (by decide) (by decide) (by decide)) (fun a a1 a2 => q1'.r a (by omega)) (by rw [hf1]; exact hfam1)) q2 ((MF_sm q1').mpr (by rw [hf1]; exact q4)) (fun i hi => by
              rw [q1' 40 i (by decide) (by decide) (by decide) (by decide)]
              by_cases e : i = m
              · rw [e, hf1]; exact addM_40 _ _ _ _ _ _
              · rw [f1o 40 i e (by decide) (by decide)]; exact c9 i (by omega)) (by
              rw [TU_c (q1'.r 34 (by decide)), hf1, TU_add, c10, tkS_step J R P (amS o N) o k hnsn 0 his, if_pos rfl, hg]) (fun i hi => by
              rw [q1' 34 i (by decide) (by decide) (by decide) (by decide)]
              by_cases e : i = m
              · refine ⟨k, by omega, ?_⟩
                rw [e, hf1, addM_34, hg]
              · rw [f1o 34 i e (by decide) (by decide)]
                obtain ⟨j, a, b⟩ := c11 i (by omega)
                exact ⟨j, by omega, b⟩) (by omega) (fun i hi => (q1' 33 i (by decide) (by decide) (by decide) (by decide)).trans (f132 i hi))
          show c_X5_takeParties_77 Q _ [.int 1] (wI h f2)
          generalize wI h f2 = H at hgo ⊢
          simp only [c_X5_takeParties_77, i_push, i_ild, i_ald, i_ist, i_ast, i_inc, i_bin, i_un, i_divs, i_i2l, i_lshl, i_lor, i_dup, i_dup2, i_pop, i_if, i_cmp, i_nul, i_vret, i_iret, i_zret, i_aret, i_keep, keep, lget, lset, ent, i_getI, i_getJ, i_getR, i_getN, i_putI, i_putZ, i_putJ, i_putR, i_iald, i_bald, i_alen, i_aald, i_iast, i_bast, i_aast, i_new, i_newa, i_anew, i_oini, i_callS, i_callV, i_callI, popn, sh4, i_sw, swP, i_copy, i_binS, List.map, Option.toList_none, Option.toList_some, List.append, List.nil_append, List.cons_append, List.length_cons, List.length_nil, List.replicate, Nat.sub_self, Nat.reduceSub, Nat.reduceAdd, hK_pI, hL_pI, hI_pI, hR_pI, hJ_pI, hT_pI, hS_pI, hK_pR, hL_pR, hI_pR, hR_pR, hJ_pR, hT_pR, hS_pR, hK_pJ, hL_pJ, hI_pJ, hR_pJ, hJ_pJ, hT_pJ, hS_pJ, hK_wI, hL_wI, hI_wI, hR_wI, hJ_wI, hT_wI, hS_wI, eq_self, and_true, true_and, and_false, false_and, or_true, true_or, or_false, false_or, if_true, if_false, not_true_eq_false, not_false_eq_true, forall_const, implies_true, false_implies, true_implies, Option.some.injEq, forall_eq', exists_eq_left', reduceCtorEq, Nat.reduceEqDiff, c1, T_X12_in, T_X12_ones, T_X11_within, T_X11_bit, T_X11_isIn, T_X11_oneIfIn, T_J6_bitCount_0f7a4, show ¬ (1 : Int32) = 0 by decide]
          exact hgo
        · have his : (5 : Int32) = cdS J R P (amS o N) (tkS J R P (amS o N) o k) (o k) := (cdS_5 hlk (by rw [← hg]; exact hfa) (fun z => hno (by have y := hfit.mpr z; rw [hf1] at y; exact y))).symm
          have q1' : smP f2 (u2 f1 33 2 (nI m)) := by rw [hf1]; exact q1
          have f2o : ∀ a i, a ≠ 39 → a ≠ 41 → a ≠ 42 → a ≠ 43 → ¬ (a = 33 ∧ i = 2) → f2 a i = f1 a i := fun a i a1 a2 a3 a4 a5 => (q1' a i a1 a2 a3 a4).trans (u2_ne a5)
          have hsx2 : sx f2 f1 := ⟨fun a ha => funext fun i => f2o a i (by omega) (by omega) (by omega) (by omega) (by omega), f2o 33 1 (by decide) (by decide) (by decide) (by decide) (by decide)⟩
          have hsx3 : sx f2 f := ⟨fun a ha => (hsx2.1 a ha).trans (hsx1.1 a ha), hsx2.2.trans hsx1.2⟩
          have f2f : ∀ a i, i < m → 34 ≤ a → a ≤ 40 → a ≠ 39 → f2 a i = f a i := fun a i hi a1 a2 a3 => (f2o a i (by omega) (by omega) (by omega) (by omega) (by omega)).trans (f1o a i (by omega) a1 a2)
          have hgo := hdec 5 f2 m sz w' his ⟨fun a ha => (hsx3.1 a ha).trans (c1.1 a ha), hsx3.2.trans c1.2⟩ (fun a i ha => (f2o a i (by omega) (by omega) (by omega) (by omega) (by omega)).trans (f1hi a i ha)) (FAM_n hsx3 ((q1' 33 2 (by decide) (by decide) (by decide) (by decide)).trans u2_eq) (fun a i hi a1 a2 => f2f a i hi a1 (by omega) (by omega)) c6) q2 (MF_n (fun a i hi a1 a2 => (f2f a i hi a1 (by omega) (by omega)).symm) (fun i hi => (f2f 40 i hi (by decide) (by decide) (by decide)).symm) q4) (fun i hi => by rw [f2f 40 i hi (by decide) (by decide) (by decide)]; exact c9 i hi) (by
              rw [TU_n m (fun i hi => f2f 34 i hi (by decide) (by decide) (by decide)), c10, tkS_step J R P (amS o N) o k hnsn 5 his, if_neg (by decide)]) (fun i hi => by
              rw [f2f 34 i hi (by decide) (by decide) (by decide)]
              obtain ⟨j, a, b⟩ := c11 i hi
              exact ⟨j, by omega, b⟩) (by omega) (fun i hi => (f2o 33 i (by decide) (by decide) (by decide) (by decide) (fun z => hi z.2)).trans (f132 i hi))
          show c_X5_takeParties_77 Q _ [.int 0] (wI h f2)
          generalize wI h f2 = H at hgo ⊢
          simp only [c_X5_takeParties_77, i_push, i_ild, i_ald, i_ist, i_ast, i_inc, i_bin, i_un, i_divs, i_i2l, i_lshl, i_lor, i_dup, i_dup2, i_pop, i_if, i_cmp, i_nul, i_vret, i_iret, i_zret, i_aret, i_keep, keep, lget, lset, ent, i_getI, i_getJ, i_getR, i_getN, i_putI, i_putZ, i_putJ, i_putR, i_iald, i_bald, i_alen, i_aald, i_iast, i_bast, i_aast, i_new, i_newa, i_anew, i_oini, i_callS, i_callV, i_callI, popn, sh4, i_sw, swP, i_copy, i_binS, List.map, Option.toList_none, Option.toList_some, List.append, List.nil_append, List.cons_append, List.length_cons, List.length_nil, List.replicate, Nat.sub_self, Nat.reduceSub, Nat.reduceAdd, hK_pI, hL_pI, hI_pI, hR_pI, hJ_pI, hT_pI, hS_pI, hK_pR, hL_pR, hI_pR, hR_pR, hJ_pR, hT_pR, hS_pR, hK_pJ, hL_pJ, hI_pJ, hR_pJ, hJ_pJ, hT_pJ, hS_pJ, hK_wI, hL_wI, hI_wI, hR_wI, hJ_wI, hT_wI, hS_wI, eq_self, and_true, true_and, and_false, false_and, or_true, true_or, or_false, false_or, if_true, if_false, not_true_eq_false, not_false_eq_true, forall_const, implies_true, false_implies, true_implies, Option.some.injEq, forall_eq', exists_eq_left', reduceCtorEq, Nat.reduceEqDiff, c1, T_X12_in, T_X12_ones, T_X11_within, T_X11_bit, T_X11_isIn, T_X11_oneIfIn, T_J6_bitCount_0f7a4]
          exact hgo
      -- the reason against
      have hra : T_X5_reasonAgainst [.ref 31, .ref n, .int g] (wI h f) (fun x h' => c_X5_takeParties_61 Q [some (.ref 31), some (.ref n), some (.int seen), some (.int (nI k)), some (.int (nI (o k))), some (.int g), none] (x.toList ++ []) h') := by
        refine ⟨rfl, hl, hst, n, R, P, rfl, hn, hR4, by show f 12 0 = _; rw [c1.1 12 (by decide)]; exact h12, hP, by show f 16 0 = _; rw [c1.1 16 (by decide)]; exact h16, hilf, ?_⟩
        show c_X5_takeParties_61 Q _ [.int (rsA f n g R P)] (wI h f)
        have h52 : ∀ v, ¬ v = 0 → wp 22 MX5_takeParties Q 83 [some (.ref 31), some (.ref n), some (.int seen), some (.int (nI k)), none, some (.int g), some (.int v)] [] (wI h f) → c_X5_takeParties_61 Q [some (.ref 31), some (.ref n), some (.int seen), some (.int (nI k)), some (.int (nI (o k))), some (.int g), none] [.int v] (wI h f) := fun v hv hgo => by
          generalize wI h f = H at hgo hl2 ⊢
          have hl := hl2
          simp only [c_X5_takeParties_61, lx_pI, lx_wI, lx_t hl, lx_k hl, lx_r hl, lx_l hl, i_push, i_ild, i_ald, i_ist, i_ast, i_inc, i_bin, i_un, i_divs, i_i2l, i_lshl, i_lor, i_dup, i_dup2, i_pop, i_if, i_cmp, i_nul, i_vret, i_iret, i_zret, i_aret, i_keep, keep, lget, lset, ent, i_getI, i_getJ, i_getR, i_getN, i_putI, i_putZ, i_putJ, i_putR, i_iald, i_bald, i_alen, i_aald, i_iast, i_bast, i_aast, i_new, i_newa, i_anew, i_oini, i_callS, i_callV, i_callI, popn, sh4, i_sw, swP, i_copy, i_binS, List.map, Option.toList_none, Option.toList_some, List.append, List.nil_append, List.cons_append, List.length_cons, List.length_nil, List.replicate, Nat.sub_self, Nat.reduceSub, Nat.reduceAdd, hK_pI, hL_pI, hI_pI, hR_pI, hJ_pI, hT_pI, hS_pI, hK_pR, hL_pR, hI_pR, hR_pR, hJ_pR, hT_pR, hS_pR, hK_pJ, hL_pJ, hI_pJ, hR_pJ, hJ_pJ, hT_pJ, hS_pJ, hK_wI, hL_wI, hI_wI, hR_wI, hJ_wI, hT_wI, hS_wI, eq_self, and_true, true_and, and_false, false_and, or_true, true_or, or_false, false_or, if_true, if_false, not_true_eq_false, not_false_eq_true, forall_const, implies_true, false_implies, true_implies, Option.some.injEq, forall_eq', exists_eq_left', reduceCtorEq, Nat.reduceEqDiff, c1, T_X12_in, T_X12_ones, T_X11_within, T_X11_bit, T_X11_isIn, T_X11_oneIfIn, T_J6_bitCount_0f7a4, hv]
          exact hgo
        have hla := lacks_and (am := amS o N) hP hTg hp
        rw [← hg] at hla
        have hr0 := rfF_0 hecf hR4 hP hsy hns hgin hg0 hilf
        unfold rsA
        rw [f7]
        rcases Classical.em (lacks J P (amS o N) (o k)) with lk | lk
        · rw [cif_f (fun z => hla.mp z lk)]
          exact h52 3 (by decide) (hsame 3 (cdS_3 lk).symm (by decide))
        · rw [cif_t (hla.mpr lk)]
          rcases Classical.em (∃ r, r < R ∧ FAI J R P g r) with fa | fa
          · rw [cif_f (fun z => hr0.mp z fa)]
            have := htk lk fa
            generalize wI h f = H at this hl2 ⊢
            have hl := hl2
            simp only [c_X5_takeParties_61, lx_pI, lx_wI, lx_t hl, lx_k hl, lx_r hl, lx_l hl, i_push, i_ild, i_ald, i_ist, i_ast, i_inc, i_bin, i_un, i_divs, i_i2l, i_lshl, i_lor, i_dup, i_dup2, i_pop, i_if, i_cmp, i_nul, i_vret, i_iret, i_zret, i_aret, i_keep, keep, lget, lset, ent, i_getI, i_getJ, i_getR, i_getN, i_putI, i_putZ, i_putJ, i_putR, i_iald, i_bald, i_alen, i_aald, i_iast, i_bast, i_aast, i_new, i_newa, i_anew, i_oini, i_callS, i_callV, i_callI, popn, sh4, i_sw, swP, i_copy, i_binS, List.map, Option.toList_none, Option.toList_some, List.append, List.nil_append, List.cons_append, List.length_cons, List.length_nil, List.replicate, Nat.sub_self, Nat.reduceSub, Nat.reduceAdd, hK_pI, hL_pI, hI_pI, hR_pI, hJ_pI, hT_pI, hS_pI, hK_pR, hL_pR, hI_pR, hR_pR, hJ_pR, hT_pR, hS_pR, hK_pJ, hL_pJ, hI_pJ, hR_pJ, hJ_pJ, hT_pJ, hS_pJ, hK_wI, hL_wI, hI_wI, hR_wI, hJ_wI, hT_wI, hS_wI, eq_self, and_true, true_and, and_false, false_and, or_true, true_or, or_false, false_or, if_true, if_false, not_true_eq_false, not_false_eq_true, forall_const, implies_true, false_implies, true_implies, Option.some.injEq, forall_eq', exists_eq_left', reduceCtorEq, Nat.reduceEqDiff, c1, T_X12_in, T_X12_ones, T_X11_within, T_X11_bit, T_X11_isIn, T_X11_oneIfIn, T_J6_bitCount_0f7a4]
            exact this
          · rw [cif_t (hr0.mpr fa)]
            exact h52 4 (by decide) (hsame 4 (cdS_4 lk (by rw [← hg]; exact fa)).symm (by decide))
      generalize wI h f = H at hl2 hra ⊢
      have hl := hl2
      simp only [c_X5_takeParties_52, lx_pI, lx_wI, lx_t hl, lx_k hl, lx_r hl, lx_l hl, i_push, i_ild, i_ald, i_ist, i_ast, i_inc, i_bin, i_un, i_divs, i_i2l, i_lshl, i_lor, i_dup, i_dup2, i_pop, i_if, i_cmp, i_nul, i_vret, i_iret, i_zret, i_aret, i_keep, keep, lget, lset, ent, i_getI, i_getJ, i_getR, i_getN, i_putI, i_putZ, i_putJ, i_putR, i_iald, i_bald, i_alen, i_aald, i_iast, i_bast, i_aast, i_new, i_newa, i_anew, i_oini, i_callS, i_callV, i_callI, popn, sh4, i_sw, swP, i_copy, i_binS, List.map, Option.toList_none, Option.toList_some, List.append, List.nil_append, List.cons_append, List.length_cons, List.length_nil, List.replicate, Nat.sub_self, Nat.reduceSub, Nat.reduceAdd, hK_pI, hL_pI, hI_pI, hR_pI, hJ_pI, hT_pI, hS_pI, hK_pR, hL_pR, hI_pR, hR_pR, hJ_pR, hT_pR, hS_pR, hK_pJ, hL_pJ, hI_pJ, hR_pJ, hJ_pJ, hT_pJ, hS_pJ, hK_wI, hL_wI, hI_wI, hR_wI, hJ_wI, hT_wI, hS_wI, eq_self, and_true, true_and, and_false, false_and, or_true, true_or, or_false, false_or, if_true, if_false, not_true_eq_false, not_false_eq_true, forall_const, implies_true, false_implies, true_implies, Option.some.injEq, forall_eq', exists_eq_left', reduceCtorEq, Nat.reduceEqDiff, c1, T_X12_in, T_X12_ones, T_X11_within, T_X11_bit, T_X11_isIn, T_X11_oneIfIn, T_J6_bitCount_0f7a4]
      exact hra
    refine s_X5_takeParties_15 Q _ _ _ ?_
    generalize wI h f = H at hl2 hf hs31' e8 ek hskip hnew ⊢
    have hl := hl2
    simp only [b_X5_takeParties_15, lx_pI, lx_wI, lx_t hl, lx_k hl, lx_r hl, lx_l hl, i_push, i_ild, i_ald, i_ist, i_ast, i_inc, i_bin, i_un, i_divs, i_i2l, i_lshl, i_lor, i_dup, i_dup2, i_pop, i_if, i_cmp, i_nul, i_vret, i_iret, i_zret, i_aret, i_keep, keep, lget, lset, ent, i_getI, i_getJ, i_getR, i_getN, i_putI, i_putZ, i_putJ, i_putR, i_iald, i_bald, i_alen, i_aald, i_iast, i_bast, i_aast, i_new, i_newa, i_anew, i_oini, i_callS, i_callV, i_callI, popn, sh4, i_sw, swP, i_copy, i_binS, List.map, Option.toList_none, Option.toList_some, List.append, List.nil_append, List.cons_append, List.length_cons, List.length_nil, List.replicate, Nat.sub_self, Nat.reduceSub, Nat.reduceAdd, hK_pI, hL_pI, hI_pI, hR_pI, hJ_pI, hT_pI, hS_pI, hK_pR, hL_pR, hI_pR, hR_pR, hJ_pR, hT_pR, hS_pR, hK_pJ, hL_pJ, hI_pJ, hR_pJ, hJ_pJ, hT_pJ, hS_pJ, hK_wI, hL_wI, hI_wI, hR_wI, hJ_wI, hT_wI, hS_wI, eq_self, and_true, true_and, and_false, false_and, or_true, true_or, or_false, false_or, if_true, if_false, not_true_eq_false, not_false_eq_true, forall_const, implies_true, false_implies, true_implies, Option.some.injEq, forall_eq', exists_eq_left', reduceCtorEq, Nat.reduceEqDiff, c1, T_X12_in, T_X12_ones, T_X11_within, T_X11_bit, T_X11_isIn, T_X11_oneIfIn, T_J6_bitCount_0f7a4, hs31', hf, e8, cl_nI (show k < 2147483648 by omega), in_nI (show k < 10 by omega) (by decide), ek, sh_bt seen (show o k < 32 by omega), b2i_0, Classical.not_not]
    first
      | exact ⟨fun z => absurd z (nI_ge (by omega) (by omega)), fun _ => ⟨hnew, fun z => hskip (by simpa using z)⟩⟩
      | exact ⟨fun z => absurd z (nI_ge (by omega) (by omega)), fun _ => ⟨fun z => hskip (by simpa using z), fun z => hnew z⟩⟩
set_option maxRecDepth 100000 in
set_option maxHeartbeats 4000000 in
theorem ok_X5_takeParties : ctr 22 MX5_takeParties T_X5_takeParties := by
  refine ctr_of pn_X5 wc_X5_takeParties (fun av h Q hT => ?_)
  unfold T_X5_takeParties at hT
  split at hT
  · rename_i a b
    refine ⟨⟨by simp [Value.category], Nat.le_of_ble_eq_true rfl⟩, s_X5_takeParties_0 Q _ _ _ ?_⟩
    obtain ⟨rfl, hl, n, J, R, P, N, o, cp, cold, rfl, hn, h3, hc, hR4, h12, hpre, hTI, hq⟩ := hT
    have hf := hn.f
    have hst : hR h 33 0 = some 3 := by simp only [lx_r hl]
    have hs31 : hR h 31 0 = some 3 := by simp only [lx_r hl]
    have h15 := tp_4 Q (wI h (bgF (hI h) cold R)) hl hst hs31 n J R P N o cp hn hpre hq N 0 (bgF (hI h) cold R) 0 (by omega) (by omega) hTI (fun q => by rw [b_0]; exact ⟨fun z => (by cases z), fun ⟨j, hj, _⟩ => absurd hj (Nat.not_lt_zero _)⟩)
    have h15' : wp 22 MX5_takeParties Q 15 [some (.ref 31), some (.ref n), some (.int 0), some (.int (nI 0)), none, none, none] [] (wI h (bgF (hI h) cold R)) := h15
    have hbg : T_X4_begin [.ref 33, .int cold] h (fun x h' => c_X5_takeParties_11 Q [some (.ref 31), some (.ref n), none, none, none, none, none] (x.toList ++ []) h') := by
      refine ⟨rfl, hl, hc, R, hR4, h12, ?_⟩
      show c_X5_takeParties_11 Q _ [] (wI h (bgF (hI h) cold R))
      generalize wI h (bgF (hI h) cold R) = H at h15' ⊢
      simp only [c_X5_takeParties_11, i_push, i_ild, i_ald, i_ist, i_ast, i_inc, i_bin, i_un, i_divs, i_i2l, i_lshl, i_lor, i_dup, i_dup2, i_pop, i_if, i_cmp, i_nul, i_vret, i_iret, i_zret, i_aret, i_keep, keep, lget, lset, ent, i_getI, i_getJ, i_getR, i_getN, i_putI, i_putZ, i_putJ, i_putR, i_iald, i_bald, i_alen, i_aald, i_iast, i_bast, i_aast, i_new, i_newa, i_anew, i_oini, i_callS, i_callV, i_callI, popn, sh4, i_sw, swP, i_copy, i_binS, List.map, Option.toList_none, Option.toList_some, List.append, List.nil_append, List.cons_append, List.length_cons, List.length_nil, List.replicate, Nat.sub_self, Nat.reduceSub, Nat.reduceAdd, hK_pI, hL_pI, hI_pI, hR_pI, hJ_pI, hT_pI, hS_pI, hK_pR, hL_pR, hI_pR, hR_pR, hJ_pR, hT_pR, hS_pR, hK_pJ, hL_pJ, hI_pJ, hR_pJ, hJ_pJ, hT_pJ, hS_pJ, hK_wI, hL_wI, hI_wI, hR_wI, hJ_wI, hT_wI, hS_wI, eq_self, and_true, true_and, and_false, false_and, or_true, true_or, or_false, false_or, if_true, if_false, not_true_eq_false, not_false_eq_true, forall_const, implies_true, false_implies, true_implies, Option.some.injEq, forall_eq', exists_eq_left', reduceCtorEq, Nat.reduceEqDiff, c1, T_X12_in, T_X12_ones, T_X11_within, T_X11_bit, T_X11_isIn, T_X11_oneIfIn, T_J6_bitCount_0f7a4]
      exact h15'
    simp only [MX5_takeParties, b_X5_takeParties_0, lx_pI, lx_wI, lx_t hl, lx_k hl, lx_r hl, lx_l hl, i_push, i_ild, i_ald, i_ist, i_ast, i_inc, i_bin, i_un, i_divs, i_i2l, i_lshl, i_lor, i_dup, i_dup2, i_pop, i_if, i_cmp, i_nul, i_vret, i_iret, i_zret, i_aret, i_keep, keep, lget, lset, ent, i_getI, i_getJ, i_getR, i_getN, i_putI, i_putZ, i_putJ, i_putR, i_iald, i_bald, i_alen, i_aald, i_iast, i_bast, i_aast, i_new, i_newa, i_anew, i_oini, i_callS, i_callV, i_callI, popn, sh4, i_sw, swP, i_copy, i_binS, List.map, Option.toList_none, Option.toList_some, List.append, List.nil_append, List.cons_append, List.length_cons, List.length_nil, List.replicate, Nat.sub_self, Nat.reduceSub, Nat.reduceAdd, hK_pI, hL_pI, hI_pI, hR_pI, hJ_pI, hT_pI, hS_pI, hK_pR, hL_pR, hI_pR, hR_pR, hJ_pR, hT_pR, hS_pR, hK_pJ, hL_pJ, hI_pJ, hR_pJ, hJ_pJ, hT_pJ, hS_pJ, hK_wI, hL_wI, hI_wI, hR_wI, hJ_wI, hT_wI, hS_wI, eq_self, and_true, true_and, and_false, false_and, or_true, true_or, or_false, false_or, if_true, if_false, not_true_eq_false, not_false_eq_true, forall_const, implies_true, false_implies, true_implies, Option.some.injEq, forall_eq', exists_eq_left', reduceCtorEq, Nat.reduceEqDiff, c1, T_X12_in, T_X12_ones, T_X11_within, T_X11_bit, T_X11_isIn, T_X11_oneIfIn, T_J6_bitCount_0f7a4, hf, h3]
    exact hbg
  · exact hT.elim
