/-! ===== the rules of a text, read from TOKENS: a pure reader over the reference's memory ===== -/
noncomputable def bgT (B : Nat → Int32) (L : Nat) : Nat → Nat
  | 0 => kB B L 0
  | t + 1 => kB B L (tkE B L (bgT B L t))
noncomputable def K (B : Nat → Int32) (L t : Nat) : Int32 := Kd B L (bgT B L t)
noncomputable def V (B : Nat → Int32) (L t : Nat) : Int32 := tkV B L (bgT B L t)
theorem sBl_lt {B : Nat → Int32} {L : Nat} : ∀ k, sBl B L k → k < L := fun _ z => z.1
theorem sLe_lt {B : Nat → Int32} {L : Nat} : ∀ k, sLe B L k → k < L := fun _ z => z.1
theorem sDi_lt {B : Nat → Int32} {L : Nat} : ∀ k, sDi B L k → k < L := fun _ z => z.1
theorem kB_le {B : Nat → Int32} {L a : Nat} (h : a ≤ L) : a ≤ kB B L a ∧ kB B L a ≤ L := ⟨(nxN_ok sBl_lt a).1, nxN_le sBl_lt h⟩
theorem tkE_le {B : Nat → Int32} {L b : Nat} (h : b ≤ L) : b ≤ tkE B L b ∧ tkE B L b ≤ L ∧ (b < L → b < tkE B L b) := by
  unfold tkE
  rcases Classical.em (b < L) with c | c
  · rw [cif_t c]
    rcases Classical.em (isLe (B b)) with c1 | c1
    · rw [cif_t c1]
      have e : eL B L b = eL B L (b + 1) := nxN_go sLe_lt ⟨c, c1⟩
      have h1 : b + 1 ≤ eL B L (b + 1) := (nxN_ok sLe_lt (b + 1)).1
      have h2 : eL B L b ≤ L := nxN_le sLe_lt h
      exact ⟨by omega, h2, fun _ => by omega⟩
    · rw [cif_f c1]
      rcases Classical.em (isDi (B b)) with c2 | c2
      · rw [cif_t c2]
        have e : eD B L b = eD B L (b + 1) := nxN_go sDi_lt ⟨c, c2⟩
        have h1 : b + 1 ≤ eD B L (b + 1) := (nxN_ok sDi_lt (b + 1)).1
        have h2 : eD B L b ≤ L := nxN_le sDi_lt h
        exact ⟨by omega, h2, fun _ => by omega⟩
      · rw [cif_f c2]; exact ⟨by omega, by omega, fun _ => by omega⟩
  · rw [cif_f c]; exact ⟨by omega, h, fun z => absurd z c⟩
theorem bgT_le (B : Nat → Int32) (L : Nat) : ∀ t, bgT B L t ≤ L
  | 0 => (kB_le (Nat.zero_le _)).2
  | t + 1 => (kB_le (tkE_le (bgT_le B L t)).2.1).2
theorem bgT_lt (B : Nat → Int32) (L t : Nat) (h : ¬ K B L t = 1) : bgT B L t < L ∧ bgT B L t < bgT B L (t + 1) := by
  have h1 : bgT B L t < L := Classical.not_not.mp (fun z => h ((Kd_end B L _).2.mpr z))
  have h2 := tkE_le (B := B) (bgT_le B L t)
  have h3 := kB_le (B := B) h2.2.1
  exact ⟨h1, Nat.lt_of_lt_of_le (h2.2.2 h1) h3.1⟩
theorem bgT_end (B : Nat → Int32) (L t : Nat) (h : K B L t = 1) : K B L (t + 1) = 1 := by
  have h1 : ¬ bgT B L t < L := (Kd_end B L _).2.mp h
  have h2 := bgT_le B L t
  have h3 := tkE_le (B := B) h2
  have h4 := kB_le (B := B) h3.2.1
  refine (Kd_end B L _).2.mpr (fun z => ?_)
  have : bgT B L (t + 1) = kB B L (tkE B L (bgT B L t)) := rfl
  omega
/-- before the end each token takes a byte at least -/
theorem bgT_ge (B : Nat → Int32) (L : Nat) : ∀ t, (∀ s, s < t → ¬ K B L s = 1) → t ≤ bgT B L t
  | 0, _ => Nat.zero_le _
  | t + 1, h => by
    have ih := bgT_ge B L t (fun s hs => h s (by omega))
    have := (bgT_lt B L t (h t (by omega))).2
    omega
theorem K_bound (B : Nat → Int32) (L t : Nat) (h : ¬ K B L t = 1) : t < L := by
  have hall : ∀ s, s < t → ¬ K B L s = 1 := by
    intro s hs z
    have : ∀ d, K B L (s + d) = 1 := fun d => by
      induction d with
      | zero => exact z
      | succ d ih => exact bgT_end B L _ ih
    exact h (by have := this (t - s); rwa [show s + (t - s) = t by omega] at this)
  have h1 := bgT_ge B L t hall
  have h2 := (bgT_lt B L t h).1
  omega
abbrev Mem : Type := Nat → Nat → Int32
def pMany (M : Mem) (p : Int32) : Mem := if M 44 45 = -1 then u2 M 44 45 p else M
def pFail (M : Mem) (p : Int32) : Mem := u2 (u2 M 44 43 1) 44 44 p
def pWr (M : Mem) (l n : Nat) (w s v : Int32) : Mem := if n < 4 ∧ l < 16 then u2 (u2 (u2 (u2 M 81 (4 * l + n) w) 82 (4 * l + n) s) 83 (4 * l + n) v) 80 l (nI (n + 1)) else M
noncomputable def t1T (B : Nat → Int32) (L t : Nat) : Nat := if K B L t = 258 then t + 1 else t
noncomputable def wT (B : Nat → Int32) (L t : Nat) : Int32 := if K B L t = 258 then K B L (t1T B L t) - 262 + 16 else K B L (t1T B L t) - 262
noncomputable def pT (B : Nat → Int32) (L l n : Nat) (M : Mem) (t : Nat) : Bool × Mem × Nat :=
  if 262 ≤ K B L (t1T B L t) ∧ K B L (t1T B L t) ≤ 268 then
    if K B L (t1T B L t + 1) = 60 ∨ K B L (t1T B L t + 1) = 62 ∨ K B L (t1T B L t + 1) = 61 then
      if K B L (t1T B L t + 2) = 2 then (true, pWr (if n = 4 then pMany M (nI (bgT B L t)) else M) l n (wT B L t) (K B L (t1T B L t + 1)) (V B L (t1T B L t + 2)), t1T B L t + 3)
      else (false, pFail (if n = 4 then pMany M (nI (bgT B L t)) else M) (nI (bgT B L (t1T B L t + 2))), t1T B L t + 2)
    else (false, pFail (if n = 4 then pMany M (nI (bgT B L t)) else M) (nI (bgT B L (t1T B L t + 1))), t1T B L t + 1)
  else if 269 ≤ K B L (t1T B L t) ∧ K B L (t1T B L t) ≤ 271 then (true, pWr (if n = 4 then pMany M (nI (bgT B L t)) else M) l n (wT B L t) 61 1, t1T B L t + 1)
  else (false, pFail (if n = 4 then pMany M (nI (bgT B L t)) else M) (nI (bgT B L (t1T B L t))), t1T B L t)
noncomputable def pTs (B : Nat → Int32) (L l : Nat) : Nat → Nat → Mem → Nat → Bool × Mem × Nat
  | 0, _, M, t => (true, M, t)
  | m + 1, n, M, t => if (pT B L l n M t).1 = true then (if K B L (pT B L l n M t).2.2 = 257 then pTs B L l m (n + 1) (pT B L l n M t).2.1 ((pT B L l n M t).2.2 + 1) else pT B L l n M t) else pT B L l n M t
/-- from the act to the line's end; k is the line's number -/
noncomputable def pA (B : Nat → Int32) (L l k : Nat) (M : Mem) (t : Nat) : Bool × Mem × Nat :=
  if K B L t = 259 then
    (if K B L (t + 1) = 45 then
      (if K B L (t + 2) = 2 then pE (u2 (u2 M 84 l 0) 85 l (-(V B L (t + 2)))) (t + 3) else (false, pFail (u2 M 84 l 0) (nI (bgT B L (t + 2))), t + 2))
    else (if K B L (t + 1) = 2 then pE (u2 (u2 M 84 l 0) 85 l (V B L (t + 1))) (t + 2) else (false, pFail (u2 M 84 l 0) (nI (bgT B L (t + 1))), t + 1)))
  else if K B L t = 260 then pE (u2 M 84 l 1) (t + 1)
  else if K B L t = 261 then pE (u2 M 84 l 2) (t + 1)
  else (false, pFail (u2 M 84 l (-1)) (nI (bgT B L t)), t)
where pE (M : Mem) (t : Nat) : Bool × Mem × Nat := if K B L t = 59 then (true, u2 M 44 46 (nI (k + 1)), t + 1) else (false, pFail (u2 M 44 46 (nI (k + 1))) (nI (bgT B L t)), t)
def pM0 (M : Mem) (k : Nat) (p : Int32) : Mem := u2 (if k = 16 then pMany M p else M) 80 (if k < 16 then k else 16) 0
noncomputable def pL (B : Nat → Int32) (L k : Nat) (M : Mem) (t : Nat) : Bool × Mem × Nat :=
  if K B L t = 256 then
    (if (pTs B L (if k < 16 then k else 16) 501 0 (pM0 M k (nI (bgT B L t))) (t + 1)).1 = true then
      (if K B L (pTs B L (if k < 16 then k else 16) 501 0 (pM0 M k (nI (bgT B L t))) (t + 1)).2.2 = 58 then pA B L (if k < 16 then k else 16) k (pTs B L (if k < 16 then k else 16) 501 0 (pM0 M k (nI (bgT B L t))) (t + 1)).2.1 ((pTs B L (if k < 16 then k else 16) 501 0 (pM0 M k (nI (bgT B L t))) (t + 1)).2.2 + 1)
      else (false, pFail (pTs B L (if k < 16 then k else 16) 501 0 (pM0 M k (nI (bgT B L t))) (t + 1)).2.1 (nI (bgT B L (pTs B L (if k < 16 then k else 16) 501 0 (pM0 M k (nI (bgT B L t))) (t + 1)).2.2)), (pTs B L (if k < 16 then k else 16) 501 0 (pM0 M k (nI (bgT B L t))) (t + 1)).2.2))
    else pTs B L (if k < 16 then k else 16) 501 0 (pM0 M k (nI (bgT B L t))) (t + 1))
  else pA B L (if k < 16 then k else 16) k (pM0 M k (nI (bgT B L t))) t
noncomputable def pX (B : Nat → Int32) (L : Nat) : Nat → Nat → Mem → Nat → Bool × Mem × Nat
  | 0, _, M, t => (true, M, t)
  | m + 1, k, M, t => if K B L t = 1 then (true, M, t) else if (pL B L k M t).1 = true then pX B L m (k + 1) (pL B L k M t).2.1 (pL B L k M t).2.2 else pL B L k M t
/-! the reference stands at token t; all but the token's fields is as in M -/
def SIM (B : Nat → Int32) (L : Nat) (J : Nat → Nat → Int64) (f : Mem) (g : Nat → Nat → Int64) (M : Mem) (t : Nat) : Prop :=
  L ≤ 500 ∧ f 44 37 = nI (tkE B L (bgT B L t)) ∧ f 44 39 = nI (bgT B L t) ∧ f 44 40 = tkO B L (bgT B L t) ∧ f 44 41 = tkV B L (bgT B L t) ∧ g 44 42 = tkW B L (bgT B L t) ∧ f 44 38 = nI L ∧ (∀ i, f 45 i &&& 255 = B i) ∧ (∀ x i, ¬ (x = 44 ∧ (i = 37 ∨ i = 39 ∨ i = 40 ∨ i = 41)) → f x i = M x i) ∧ ∀ x i, ¬ (x = 44 ∧ i = 42) → g x i = J x i
theorem sim_next {B : Nat → Int32} {L t : Nat} {J g : Nat → Nat → Int64} {f M : Mem} {h : Hp} (hl : LayM h) (hs : SIM B L J f g M t) {Q : Option Value → Hp → Prop} (hq : ∀ f' g', SIM B L J f' g' M (t + 1) → Q none (wIJ h f' g')) : T_X12_next [.ref 44] (wIJ h f g) Q := by
  obtain ⟨hL, s1, s2, s3, s4, s5, s6, s7, s8, s9⟩ := hs
  have hb := tkE_le (B := B) (bgT_le B L t)
  refine ⟨rfl, hl, tkE B L (bgT B L t), L, hb.2.1, hL, s1, s6, fun f' g' hn => ?_⟩
  have eB : (fun k => f 45 k &&& 255) = B := funext s7
  obtain ⟨n1, n2, n3, n4, n5, n6, n7⟩ := hn
  have hI' : hI (wIJ h f g) = f := rfl
  have hJ' : hJ (wIJ h f g) = g := rfl
  rw [hI', eB] at n1 n2 n3 n4 n5
  rw [hI'] at n6
  rw [hJ'] at n7
  refine hq f' g' ⟨hL, n1, n2, n3, n4, n5, ?_, fun i => ?_, fun x i hx => ?_, fun x i hx => ?_⟩
  · rw [n6 44 38 (by decide)]; exact s6
  · rw [n6 45 i (fun z => absurd z.1 (by decide))]; exact s7 i
  · rw [n6 x i hx, s8 x i hx]
  · rw [n7 x i hx, s9 x i hx]
theorem sim_word {B : Nat → Int32} {L t : Nat} {J g : Nat → Nat → Int64} {f M : Mem} {h : Hp} (hl : LayM h) (hs : SIM B L J f g M t) (k : Nat) (hk : k < 16) {w : Int64} (hw : w = lN (vl (wL k))) {Q : Option Value → Hp → Prop} (hq1 : K B L t = nI (256 + k) → Q (some (.int 1)) (wIJ h f g)) (hq0 : ¬ K B L t = nI (256 + k) → Q (some (.int 0)) (wIJ h f g)) : T_X12_isWord [.ref 44, .long w] (wIJ h f g) Q := by
  refine ⟨rfl, hl, ?_⟩
  have hi : (hI (wIJ h f g) 44 40 = 2 ∧ hJ (wIJ h f g) 44 42 = w) ↔ K B L t = nI (256 + k) := by
    have := Kd_word B L (bgT B L t) k hk
    show (f 44 40 = 2 ∧ g 44 42 = w) ↔ _
    rw [hs.2.2.2.1, hs.2.2.2.2.2.1, hw]
    exact this
  unfold wdV
  rcases Classical.em (K B L t = nI (256 + k)) with c | c
  · rw [cif_t (hi.mpr c)]; exact hq1 c
  · rw [cif_f (fun z => c (hi.mp z))]; exact hq0 c
theorem sim_sign {B : Nat → Int32} {L t : Nat} {J g : Nat → Nat → Int64} {f M : Mem} {h : Hp} (hl : LayM h) (hs : SIM B L J f g M t) {c : Int32} (hc : isSg c) {Q : Option Value → Hp → Prop} (hq1 : K B L t = c → Q (some (.int 1)) (wIJ h f g)) (hq0 : ¬ K B L t = c → Q (some (.int 0)) (wIJ h f g)) : T_X12_isSign [.ref 44, .int c] (wIJ h f g) Q := by
  have hi := Kd_sign B L (bgT B L t) hc
  rw [← hs.2.2.2.1, ← hs.2.2.2.2.1] at hi
  have e40 : hI (wIJ h f g) 44 40 = f 44 40 := rfl
  have e41 : hI (wIJ h f g) 44 41 = f 44 41 := rfl
  have hl2 : LayM (wIJ h f g) := hl
  unfold T_X12_isSign
  generalize wIJ h f g = H at hl2 e40 e41 hq1 hq0 ⊢
  have hkk := (lm_k hl2).1
  have htt := (lm_t hl2).1
  simp only [b_X12_isSign_0, i_push, i_ild, i_ald, i_ist, i_ast, i_inc, i_bin, i_un, i_divs, i_i2l, i_lshl, i_lor, i_dup, i_dup2, i_pop, i_if, i_cmp, i_nul, i_vret, i_iret, i_zret, i_aret, i_keep, keep, lget, lset, ent, i_getI, i_getJ, i_getR, i_getN, i_putI, i_putZ, i_putJ, i_putR, i_iald, i_bald, i_alen, i_aald, i_iast, i_bast, i_aast, i_new, i_newa, i_anew, i_oini, i_callS, i_callV, i_callI, popn, sh4, i_sw, swP, i_copy, i_binS, List.map, Option.toList_none, Option.toList_some, List.append, List.nil_append, List.cons_append, List.length_cons, List.length_nil, List.replicate, Nat.sub_self, Nat.reduceSub, Nat.reduceAdd, hK_pI, hL_pI, hI_pI, hR_pI, hJ_pI, hT_pI, hS_pI, hK_pR, hL_pR, hI_pR, hR_pR, hJ_pR, hT_pR, hS_pR, hK_pJ, hL_pJ, hI_pJ, hR_pJ, hJ_pJ, hT_pJ, hS_pJ, hK_wI, hL_wI, hI_wI, hR_wI, hJ_wI, hT_wI, hS_wI, eq_self, and_true, true_and, and_false, false_and, or_true, true_or, or_false, false_or, if_true, if_false, not_true_eq_false, not_false_eq_true, forall_const, implies_true, false_implies, true_implies, Option.some.injEq, forall_eq', exists_eq_left', reduceCtorEq, Nat.reduceEqDiff, c1, T_X12_in, T_X12_ones, T_X11_within, T_X11_bit, T_X11_isIn, T_X11_oneIfIn, T_J6_bitCount_0f7a4, hkk, htt, e40, e41]
  exact ⟨fun c1 => ⟨fun c2 => hq1 (hi.mp ⟨c1, c2⟩), fun c2 => hq0 (fun z => c2 (hi.mpr z).2)⟩, fun c1 => hq0 (fun z => c1 (hi.mpr z).1)⟩
theorem sim_wrong {B : Nat → Int32} {L t : Nat} {J g : Nat → Nat → Int64} {f M : Mem} {h : Hp} (hl : LayM h) (hs : SIM B L J f g M t) {Q : Option Value → Hp → Prop} (hq : ∀ f', SIM B L J f' g (pFail M (nI (bgT B L t))) t → Q (some (.int 0)) (wIJ h f' g)) : T_X12_wrong [.ref 44] (wIJ h f g) Q := by
  have hfin : Q (some (.int 0)) (pI (pI (wIJ h f g) 44 43 1) 44 44 (nI (bgT B L t))) := by
    refine hq (u2 (u2 f 44 43 1) 44 44 (nI (bgT B L t))) ?_
    obtain ⟨hL, s1, s2, s3, s4, s5, s6, s7, s8, s9⟩ := hs
    have o : ∀ i, i ≠ 43 → i ≠ 44 → u2 (u2 f 44 43 1) 44 44 (nI (bgT B L t)) 44 i = f 44 i := fun i i1 i2 => by rw [u2_ne (fun z => i2 z.2), u2_ne (fun z => i1 z.2)]
    refine ⟨hL, ?_, ?_, ?_, ?_, s5, ?_, fun i => ?_, fun x i hx => ?_, s9⟩
    · rw [o 37 (by decide) (by decide)]; exact s1
    · rw [o 39 (by decide) (by decide)]; exact s2
    · rw [o 40 (by decide) (by decide)]; exact s3
    · rw [o 41 (by decide) (by decide)]; exact s4
    · rw [o 38 (by decide) (by decide)]; exact s6
    · rw [u2_ne (fun z => absurd z.1 (by decide)), u2_ne (fun z => absurd z.1 (by decide))]; exact s7 i
    · have := s8 x i hx
      unfold pFail u2
      rw [this]
  have e39 : hI (wIJ h f g) 44 39 = nI (bgT B L t) := hs.2.2.1
  have hl2 : LayM (wIJ h f g) := hl
  unfold T_X12_wrong
  generalize wIJ h f g = H at hl2 e39 hfin ⊢
  have hkk := (lm_k hl2).1
  have htt := (lm_t hl2).1
  simp only [b_X12_wrong_0, i_push, i_ild, i_ald, i_ist, i_ast, i_inc, i_bin, i_un, i_divs, i_i2l, i_lshl, i_lor, i_dup, i_dup2, i_pop, i_if, i_cmp, i_nul, i_vret, i_iret, i_zret, i_aret, i_keep, keep, lget, lset, ent, i_getI, i_getJ, i_getR, i_getN, i_putI, i_putZ, i_putJ, i_putR, i_iald, i_bald, i_alen, i_aald, i_iast, i_bast, i_aast, i_new, i_newa, i_anew, i_oini, i_callS, i_callV, i_callI, popn, sh4, i_sw, swP, i_copy, i_binS, List.map, Option.toList_none, Option.toList_some, List.append, List.nil_append, List.cons_append, List.length_cons, List.length_nil, List.replicate, Nat.sub_self, Nat.reduceSub, Nat.reduceAdd, hK_pI, hL_pI, hI_pI, hR_pI, hJ_pI, hT_pI, hS_pI, hK_pR, hL_pR, hI_pR, hR_pR, hJ_pR, hT_pR, hS_pR, hK_pJ, hL_pJ, hI_pJ, hR_pJ, hJ_pJ, hT_pJ, hS_pJ, hK_wI, hL_wI, hI_wI, hR_wI, hJ_wI, hT_wI, hS_wI, eq_self, and_true, true_and, and_false, false_and, or_true, true_or, or_false, false_or, if_true, if_false, not_true_eq_false, not_false_eq_true, forall_const, implies_true, false_implies, true_implies, Option.some.injEq, forall_eq', exists_eq_left', reduceCtorEq, Nat.reduceEqDiff, c1, T_X12_in, T_X12_ones, T_X11_within, T_X11_bit, T_X11_isIn, T_X11_oneIfIn, T_J6_bitCount_0f7a4, hkk, htt, e39]
  exact hfin
theorem sim_many {B : Nat → Int32} {L t : Nat} {J g : Nat → Nat → Int64} {f M : Mem} {h : Hp} (hl : LayM h) (hs : SIM B L J f g M t) {Q : Option Value → Hp → Prop} (hq : ∀ f', SIM B L J f' g (pMany M (nI (bgT B L t))) t → Q none (wIJ h f' g)) : T_X12_tooMany [.ref 44, .int (nI (bgT B L t))] (wIJ h f g) Q := by
  have h45 : f 44 45 = M 44 45 := hs.2.2.2.2.2.2.2.2.1 44 45 (by decide)
  have hset : ∀ v, SIM B L J (u2 f 44 45 v) g (u2 M 44 45 v) t := fun v => by
    obtain ⟨hL, s1, s2, s3, s4, s5, s6, s7, s8, s9⟩ := hs
    refine ⟨hL, ?_, ?_, ?_, ?_, s5, ?_, fun i => ?_, fun x i hx => ?_, s9⟩
    · rw [u2_ne (by decide)]; exact s1
    · rw [u2_ne (by decide)]; exact s2
    · rw [u2_ne (by decide)]; exact s3
    · rw [u2_ne (by decide)]; exact s4
    · rw [u2_ne (by decide)]; exact s6
    · rw [u2_ne (fun z => absurd z.1 (by decide))]; exact s7 i
    · have := s8 x i hx
      unfold u2
      rw [this]
  have h1 : f 44 45 = -1 → Q none (pI (wIJ h f g) 44 45 (nI (bgT B L t))) := fun c => by
    refine hq _ ?_
    unfold pMany
    rw [if_pos (h45.symm.trans c)]
    exact hset _
  have h2 : ¬ f 44 45 = -1 → Q none (pI (wIJ h f g) 44 45 (f 44 45)) := fun c => by
    have e : pI (wIJ h f g) 44 45 (f 44 45) = wIJ h f g := pI_self _ _ _ _ rfl
    rw [e]
    refine hq _ ?_
    unfold pMany
    rw [if_neg (fun z => c (h45.trans z))]
    exact hs
  have e45 : hI (wIJ h f g) 44 45 = f 44 45 := rfl
  have hl2 : LayM (wIJ h f g) := hl
  unfold T_X12_tooMany
  generalize wIJ h f g = H at hl2 e45 h1 h2 ⊢
  have hkk := (lm_k hl2).1
  have htt := (lm_t hl2).1
  simp only [b_X12_tooMany_0, i_push, i_ild, i_ald, i_ist, i_ast, i_inc, i_bin, i_un, i_divs, i_i2l, i_lshl, i_lor, i_dup, i_dup2, i_pop, i_if, i_cmp, i_nul, i_vret, i_iret, i_zret, i_aret, i_keep, keep, lget, lset, ent, i_getI, i_getJ, i_getR, i_getN, i_putI, i_putZ, i_putJ, i_putR, i_iald, i_bald, i_alen, i_aald, i_iast, i_bast, i_aast, i_new, i_newa, i_anew, i_oini, i_callS, i_callV, i_callI, popn, sh4, i_sw, swP, i_copy, i_binS, List.map, Option.toList_none, Option.toList_some, List.append, List.nil_append, List.cons_append, List.length_cons, List.length_nil, List.replicate, Nat.sub_self, Nat.reduceSub, Nat.reduceAdd, hK_pI, hL_pI, hI_pI, hR_pI, hJ_pI, hT_pI, hS_pI, hK_pR, hL_pR, hI_pR, hR_pR, hJ_pR, hT_pR, hS_pR, hK_pJ, hL_pJ, hI_pJ, hR_pJ, hJ_pJ, hT_pJ, hS_pJ, hK_wI, hL_wI, hI_wI, hR_wI, hJ_wI, hT_wI, hS_wI, eq_self, and_true, true_and, and_false, false_and, or_true, true_or, or_false, false_or, if_true, if_false, not_true_eq_false, not_false_eq_true, forall_const, implies_true, false_implies, true_implies, Option.some.injEq, forall_eq', exists_eq_left', reduceCtorEq, Nat.reduceEqDiff, c1, T_X12_in, T_X12_ones, T_X11_within, T_X11_bit, T_X11_isIn, T_X11_oneIfIn, T_J6_bitCount_0f7a4, hkk, htt, e45]
  exact ⟨h1, h2⟩
