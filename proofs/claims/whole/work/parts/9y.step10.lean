/-! ===== steps: pair, the coupling ===== -/
theorem prV_b (how k : Int32) {b : Nat} (hb : b < 32) (x : Int32) (i : Nat) : bt (prV how k b x) i = if i = b then decide (how = k) else bt x i := by
  unfold prV
  rcases Nat.lt_or_ge i 32 with c | c
  · by_cases e : how = k
    · rw [if_pos e, b_or, b_bitI hb c]
      by_cases e2 : i = b <;> simp [e, e2]
    · rw [if_neg e, b_and, b_xor, b_bitI hb c, b_m1 i c]
      by_cases e2 : i = b <;> simp [e, e2]
  · have : ¬ i = b := by omega
    rw [if_neg this, b_big c, b_big c]
theorem prV_flip {how s k : Int32} {b : Nat} (hb : b < 32) {x : Int32} (hx : bt x b = decide (s = k)) (hsh : ¬ s = how) : prV how k b x = if s = k ∨ how = k then x ^^^ bitI b else x := by
  refine b_ext fun i hi => ?_
  rw [prV_b how k hb x i]
  by_cases c : s = k ∨ how = k
  · rw [if_pos c, b_flip x hb i]
    by_cases e : i = b
    · subst e
      rw [if_pos rfl, hx]
      rcases c with c | c
      · have : ¬ how = k := fun z => hsh (c.trans z.symm)
        simp [c, this]
      · have : ¬ s = k := fun z => hsh (z.trans c.symm)
        simp [c, this]
    · rw [if_neg e]; simp [e]
  · rw [if_neg c]
    have c1' : ¬ s = k := fun z => c (Or.inl z)
    have c2' : ¬ how = k := fun z => c (Or.inr z)
    by_cases e : i = b
    · subst e; rw [if_pos rfl, hx]; simp [c1', c2']
    · rw [if_neg e]
theorem prV_pct {how s k : Int32} {b : Nat} (hb : b < 32) {x : Int32} (hx : bt x b = decide (s = k)) (hsh : ¬ s = how) : pct (prV how k b x) + (if s = k then 1 else 0) = pct x + (if how = k then 1 else 0) := by
  by_cases c : how = k
  · have c2 : ¬ s = k := fun z => hsh (z.trans c.symm)
    have hx0 : bt x b = false := by rw [hx]; simp [c2]
    rw [if_neg c2, if_pos c]
    unfold prV
    rw [if_pos c, pct_orI hb hx0]
  · rw [if_neg c]
    by_cases c2 : s = k
    · have hx1 : bt x b = true := by rw [hx]; simp [c2]
      rw [if_pos c2]
      have := pct_off hb hx1
      unfold offB at this
      unfold prV
      rw [if_neg c, this, Nat.add_zero]
    · rw [if_neg c2, prV_flip hb hx hsh, if_neg (fun z => z.elim c2 c)]
theorem prM_62 (I : Mem) (a b : Nat) (how : Int32) (y : Nat) : prM I a b how 62 y = if y = b then prV how 0 a (I 62 b) else if y = a then prV how 0 b (I 62 a) else I 62 y := by
  unfold prM
  rw [u2_ne (by omega), u2_ne (by omega)]
  unfold u2
  simp only [true_and]
theorem prM_63 (I : Mem) (a b : Nat) (how : Int32) (y : Nat) : prM I a b how 63 y = if y = b then prV how 1 a (I 63 b) else if y = a then prV how 1 b (I 63 a) else I 63 y := by
  unfold prM u2
  simp only [true_and, Nat.reduceEqDiff, false_and, if_false]
theorem prM_o (I : Mem) (a b : Nat) (how : Int32) (x y : Nat) (h2 : x ≠ 62) (h3 : x ≠ 63) : prM I a b how x y = I x y := by
  unfold prM
  rw [u2_ne (by omega), u2_ne (by omega), u2_ne (by omega), u2_ne (by omega)]
/-- a row of pairs, with a and b turned -/
def RwP (f g : Nat → Int32) (a b : Nat) (t : Bool) : Prop := ∀ p i, bt (g p) i = if (p = a ∧ i = b) ∨ (p = b ∧ i = a) then t else bt (f p) i
theorem prM_b62 (I : Mem) {a b : Nat} (ha : a < 32) (hb : b < 32) (hab : ¬ b = a) (how : Int32) : RwP (I 62) (prM I a b how 62) a b (decide (how = 0)) := fun p i => by
  rw [prM_62]
  by_cases e : p = b
  · rw [if_pos e, prV_b _ _ ha]
    subst e
    by_cases e2 : i = a
    · rw [if_pos e2, if_pos (Or.inr ⟨rfl, e2⟩)]
    · rw [if_neg e2, if_neg (by omega)]
  · rw [if_neg e]
    by_cases e1 : p = a
    · rw [if_pos e1, prV_b _ _ hb]
      subst e1
      by_cases e2 : i = b
      · rw [if_pos e2, if_pos (Or.inl ⟨rfl, e2⟩)]
      · rw [if_neg e2, if_neg (by omega)]
    · rw [if_neg e1, if_neg (by omega)]
theorem prM_b63 (I : Mem) {a b : Nat} (ha : a < 32) (hb : b < 32) (hab : ¬ b = a) (how : Int32) : RwP (I 63) (prM I a b how 63) a b (decide (how = 1)) := fun p i => by
  rw [prM_63]
  by_cases e : p = b
  · rw [if_pos e, prV_b _ _ ha]
    subst e
    by_cases e2 : i = a
    · rw [if_pos e2, if_pos (Or.inr ⟨rfl, e2⟩)]
    · rw [if_neg e2, if_neg (by omega)]
  · rw [if_neg e]
    by_cases e1 : p = a
    · rw [if_pos e1, prV_b _ _ hb]
      subst e1
      by_cases e2 : i = b
      · rw [if_pos e2, if_pos (Or.inl ⟨rfl, e2⟩)]
      · rw [if_neg e2, if_neg (by omega)]
    · rw [if_neg e1, if_neg (by omega)]
/-- the flips of the class are the reference's rows -/
theorem fl_pr {f : Nat → Int32} {s how k : Int32} {a b : Nat} (ha : a < 32) (hb : b < 32) (hfa : bt (f a) b = decide (s = k)) (hfb : bt (f b) a = decide (s = k)) (hsh : ¬ s = how) (y : Nat) : (if s = k ∨ how = k then flR f a b y else f y) = if y = b then prV how k a (f b) else if y = a then prV how k b (f a) else f y := by
  rw [prV_flip ha hfb hsh, prV_flip hb hfa hsh]
  unfold flR
  by_cases c : s = k ∨ how = k
  · rw [if_pos c, if_pos c, if_pos c]
  · rw [if_neg c, if_neg c, if_neg c]
    by_cases e : y = b
    · rw [if_pos e, e]
    · rw [if_neg e]
      by_cases e1 : y = a
      · rw [if_pos e1, e1]
      · rw [if_neg e1]
theorem prS_b {I : Mem} {a b : Nat} (hn : ¬ (bt (I 62 a) b = true ∧ bt (I 63 a) b = true)) : bt (I 62 a) b = decide (prS I a b = 0) ∧ bt (I 63 a) b = decide (prS I a b = 1) := by
  unfold prS
  by_cases c : bt (I 62 a) b = true
  · have c2 : bt (I 63 a) b = false := by
      cases z : bt (I 63 a) b
      · rfl
      · exact absurd ⟨c, z⟩ hn
    rw [if_pos c, c, c2]
    exact ⟨rfl, rfl⟩
  · have c0 : bt (I 62 a) b = false := by simpa using c
    rw [if_neg c, c0]
    by_cases c2 : bt (I 63 a) b = true
    · rw [if_pos c2, c2]; exact ⟨rfl, rfl⟩
    · have c3 : bt (I 63 a) b = false := by simpa using c2
      rw [if_neg c2, c3]; exact ⟨rfl, rfl⟩
/-- how many pairs there are then -/
def npN (np : Nat) (s how : Int32) : Nat := np + (if how = 2 then 0 else 1) - (if s = 2 then 0 else 1)
theorem JP_pair {J J' : Mem} {R P np a b : Nat} {how : Int32} (hP : P ≤ 24) (ha : a < P) (hb : b < P) (hab : ¬ b = a) (hhow : how = 0 ∨ how = 1 ∨ how = 2) (hsh : ¬ prS J a b = how) (h20 : ¬ (prS J a b = 2 ∧ np = 20)) (h57 : J' 57 = J 57) (h60 : J' 60 = J 60) (h62 : J' 62 = prM J a b how 62) (h63 : J' 63 = prM J a b how 63) (hj : JP J R P np) : JP J' R P (npN np (prS J a b) how) ∧ ((if prS J a b = 2 then 0 else 1) ≤ np + (if how = 2 then 0 else 1)) := by
  obtain ⟨a1, a2, a3, a4, a5, a6, a7, a8, a9⟩ := hj
  have r62 := prM_b62 J (show a < 32 by omega) (show b < 32 by omega) hab how
  have r63 := prM_b63 J (show a < 32 by omega) (show b < 32 by omega) hab how
  rw [← h62] at r62
  rw [← h63] at r63
  obtain ⟨s0, s1⟩ := prS_b (a7 a b (by omega))
  obtain ⟨y0, y1⟩ := a3 a b (by omega) (by omega)
  have s0' : bt (J 62 b) a = decide (prS J a b = 0) := y0.symm.trans s0
  have s1' : bt (J 63 b) a = decide (prS J a b = 1) := y1.symm.trans s1
  have hs3 : prS J a b = 0 ∨ prS J a b = 1 ∨ prS J a b = 2 := by
    unfold prS
    split
    · exact Or.inl rfl
    · split
      · exact Or.inr (Or.inl rfl)
      · exact Or.inr (Or.inr rfl)
  have hsum : fb_sm (fun p => pct (J' 62 p) + pct (J' 63 p)) P + 2 * (if prS J a b = 2 then 0 else 1) = 2 * np + 2 * (if how = 2 then 0 else 1) := by
    have e : (fun p => pct (J' 62 p) + pct (J' 63 p)) = fun p => if p = b then pct (prV how 0 a (J 62 b)) + pct (prV how 1 a (J 63 b)) else (fun p => if p = a then pct (prV how 0 b (J 62 a)) + pct (prV how 1 b (J 63 a)) else pct (J 62 p) + pct (J 63 p)) p := funext fun p => by
      show pct (J' 62 p) + pct (J' 63 p) = _
      rw [h62, h63, prM_62, prM_63]
      by_cases e : p = b
      · rw [if_pos e, if_pos e, if_pos e]
      · rw [if_neg e, if_neg e, if_neg e]
        by_cases e1 : p = a
        · rw [if_pos e1, if_pos e1]
          show _ = if p = a then _ else _
          rw [if_pos e1]
        · rw [if_neg e1, if_neg e1]
          show _ = if p = a then _ else _
          rw [if_neg e1]
    have u1 := fb_sm_upd (fun p => if p = a then pct (prV how 0 b (J 62 a)) + pct (prV how 1 b (J 63 a)) else pct (J 62 p) + pct (J 63 p)) (pct (prV how 0 a (J 62 b)) + pct (prV how 1 a (J 63 b))) hb
    have u2' := fb_sm_upd (fun p => pct (J 62 p) + pct (J 63 p)) (pct (prV how 0 b (J 62 a)) + pct (prV how 1 b (J 63 a))) ha
    rw [← e] at u1
    rw [a9] at u2'
    simp only [hab, if_false] at u1
    have w1 := prV_pct (show b < 32 by omega) s0 hsh
    have w2 := prV_pct (show b < 32 by omega) s1 hsh
    have w3 := prV_pct (show a < 32 by omega) s0' hsh
    have w4 := prV_pct (show a < 32 by omega) s1' hsh
    have d1 : (if prS J a b = 0 then 1 else 0) + (if prS J a b = 1 then 1 else 0) = (if prS J a b = 2 then 0 else 1) := by
      rcases hs3 with z | z | z <;> rw [z] <;> decide
    have d2 : (if how = 0 then 1 else 0) + (if how = 1 then 1 else 0) = (if how = 2 then 0 else 1) := by
      rcases hhow with z | z | z <;> rw [z] <;> decide
    omega
  have hpos : (if prS J a b = 2 then 0 else 1) ≤ np + (if how = 2 then 0 else 1) := by omega
  refine ⟨⟨fun p hp => ?_, fun p hp => ?_, fun p i hp hi => ?_, fun p i hp hbt => ?_, fun p hp => ?_, fun p i hp hbt => ?_, fun p i hp => ?_, ?_, ?_⟩, hpos⟩
  · rw [h57]; exact a1 p hp
  · unfold slpOk; rw [h60]; exact a2 p hp
  · obtain ⟨g1, g2⟩ := a3 p i hp hi
    rw [r62 p i, r62 i p, r63 p i, r63 i p, g1, g2]
    by_cases e : (p = a ∧ i = b) ∨ (p = b ∧ i = a)
    · have e' : (i = a ∧ p = b) ∨ (i = b ∧ p = a) := by omega
      rw [if_pos e, if_pos e', if_pos e, if_pos e']; exact ⟨rfl, rfl⟩
    · have e' : ¬ ((i = a ∧ p = b) ∨ (i = b ∧ p = a)) := by omega
      rw [if_neg e, if_neg e', if_neg e, if_neg e']; exact ⟨rfl, rfl⟩
  · rw [r63 p i] at hbt
    by_cases e : (p = a ∧ i = b) ∨ (p = b ∧ i = a)
    · omega
    · rw [if_neg e] at hbt; exact a4 p i hp hbt
  · rw [r62 p p, if_neg (by omega)]; exact a5 p hp
  · rw [r62 p i] at hbt
    by_cases e : (p = a ∧ i = b) ∨ (p = b ∧ i = a)
    · omega
    · rw [if_neg e] at hbt; exact a6 p i hp hbt
  · rw [r62 p i, r63 p i]
    by_cases e : (p = a ∧ i = b) ∨ (p = b ∧ i = a)
    · rw [if_pos e, if_pos e]
      rcases hhow with z | z | z <;> rw [z] <;> decide
    · rw [if_neg e, if_neg e]; exact a7 p i hp
  · unfold npN
    rcases hs3 with z | z | z <;> rcases hhow with w | w | w <;> rw [z] at h20 hsh ⊢ <;> rw [w] at hsh ⊢ <;> simp at h20 hsh ⊢ <;> omega
  · unfold npN; omega
theorem pair_go {h : Hp} (hl : LayX h) {P np : Nat} (hP : P ≤ 24) (h16 : hI h 16 0 = nI P) (hnp : np ≤ 20) (h161 : hI h 16 1 = nI np) {p q how : Int32} {Q : Option Value → Hp → Prop} (h0 : (¬ ((∃ a, a < P ∧ p = nI a) ∧ ∃ b, b < P ∧ q = nI b)) → Q (some (.int 0)) h) (h1 : ∀ a b, a < P → b < P → p = nI a → q = nI b → ((¬ b = a ∧ (0 ≤ how ∧ how ≤ 2) ∧ ¬ sX (hI h) a b = how ∧ ¬ (sX (hI h) a b = 2 ∧ np = 20)) → Q (some (.int 1)) (t2P (t1P h a b (sX (hI h) a b)) a b how)) ∧ ((¬ (¬ b = a ∧ (0 ≤ how ∧ how ≤ 2) ∧ ¬ sX (hI h) a b = how ∧ ¬ (sX (hI h) a b = 2 ∧ np = 20))) → Q (some (.int 0)) h)) : T_X11_pair [.ref 0, .int p, .int q, .int how] h Q := by
  have e0 : ∀ A, Q (some (.int 0)) h → c_X11_pair_24 Q A [.int 0] h := fun A w => by
    simp only [c_X11_pair_24, i_push, i_ild, i_ald, i_ist, i_ast, i_inc, i_bin, i_un, i_divs, i_i2l, i_lshl, i_lor, i_dup, i_dup2, i_pop, i_if, i_cmp, i_nul, i_vret, i_iret, i_zret, i_aret, i_keep, keep, lget, lset, ent, i_getI, i_getJ, i_getR, i_getN, i_putI, i_putZ, i_putJ, i_putR, i_iald, i_bald, i_alen, i_aald, i_iast, i_bast, i_aast, i_new, i_newa, i_anew, i_oini, i_callS, i_callV, i_callI, popn, sh4, i_sw, swP, i_copy, i_binS, List.map, Option.toList_none, Option.toList_some, List.append, List.nil_append, List.cons_append, List.length_cons, List.length_nil, List.replicate, Nat.sub_self, Nat.reduceSub, Nat.reduceAdd, hK_pX, hL_pX, hI_pX, hR_pX, hJ_pX, hT_pX, hS_pX, hK_pR, hL_pR, hI_pR, hR_pR, hJ_pR, hT_pR, hS_pR, hK_pJ, hL_pJ, hI_pJ, hR_pJ, hJ_pJ, hT_pJ, hS_pJ, hK_wI, hL_wI, hI_wI, hR_wI, hJ_wI, hT_wI, hS_wI, eq_self, and_true, true_and, and_false, false_and, or_true, true_or, or_false, false_or, if_true, if_false, not_true_eq_false, not_false_eq_true, forall_const, implies_true, false_implies, true_implies, Option.some.injEq, forall_eq', exists_eq_left', reduceCtorEq, Nat.reduceEqDiff, c1, T_X12_in, T_X12_ones, T_X11_within, T_X11_bit, T_X11_isIn, T_X11_oneIfIn, T_J6_bitCount_0f7a4]
    exact w
  have h24 : ∀ a b, a < P → b < P → p = nI a → q = nI b → c_X11_pair_24 Q [some (.ref 0), some (.int p), some (.int q), some (.int how), some (.ref 16)] [.int 1] h := by
    intro a b ha hb ea eb
    subst ea; subst eb
    obtain ⟨y1, y0⟩ := h1 a b ha hb rfl rfl
    have hin : (nI a = nI b) ↔ b = a := by rw [nI_eq (by omega) (by omega)]; exact eq_comm
    by_cases c1' : b = a
    · simp only [c_X11_pair_24, lx_pI, lx_wI, lx_t hl, lx_k hl, lx_r hl, lx_l hl, i_push, i_ild, i_ald, i_ist, i_ast, i_inc, i_bin, i_un, i_divs, i_i2l, i_lshl, i_lor, i_dup, i_dup2, i_pop, i_if, i_cmp, i_nul, i_vret, i_iret, i_zret, i_aret, i_keep, keep, lget, lset, ent, i_getI, i_getJ, i_getR, i_getN, i_putI, i_putZ, i_putJ, i_putR, i_iald, i_bald, i_alen, i_aald, i_iast, i_bast, i_aast, i_new, i_newa, i_anew, i_oini, i_callS, i_callV, i_callI, popn, sh4, i_sw, swP, i_copy, i_binS, List.map, Option.toList_none, Option.toList_some, List.append, List.nil_append, List.cons_append, List.length_cons, List.length_nil, List.replicate, Nat.sub_self, Nat.reduceSub, Nat.reduceAdd, hK_pX, hL_pX, hI_pX, hR_pX, hJ_pX, hT_pX, hS_pX, hK_pR, hL_pR, hI_pR, hR_pR, hJ_pR, hT_pR, hS_pR, hK_pJ, hL_pJ, hI_pJ, hR_pJ, hJ_pJ, hT_pJ, hS_pJ, hK_wI, hL_wI, hI_wI, hR_wI, hJ_wI, hT_wI, hS_wI, eq_self, and_true, true_and, and_false, false_and, or_true, true_or, or_false, false_or, if_true, if_false, not_true_eq_false, not_false_eq_true, forall_const, implies_true, false_implies, true_implies, Option.some.injEq, forall_eq', exists_eq_left', reduceCtorEq, Nat.reduceEqDiff, c1, T_X12_in, T_X12_ones, T_X11_within, T_X11_bit, T_X11_isIn, T_X11_oneIfIn, T_J6_bitCount_0f7a4, show ¬ (1 : Int32) = 0 by decide, hin, c1']
      exact y0 (fun w => w.1 c1')
    · by_cases c2' : 0 ≤ how ∧ how ≤ 2
      · simp only [c_X11_pair_24, lx_pI, lx_wI, lx_t hl, lx_k hl, lx_r hl, lx_l hl, i_push, i_ild, i_ald, i_ist, i_ast, i_inc, i_bin, i_un, i_divs, i_i2l, i_lshl, i_lor, i_dup, i_dup2, i_pop, i_if, i_cmp, i_nul, i_vret, i_iret, i_zret, i_aret, i_keep, keep, lget, lset, ent, i_getI, i_getJ, i_getR, i_getN, i_putI, i_putZ, i_putJ, i_putR, i_iald, i_bald, i_alen, i_aald, i_iast, i_bast, i_aast, i_new, i_newa, i_anew, i_oini, i_callS, i_callV, i_callI, popn, sh4, i_sw, swP, i_copy, i_binS, List.map, Option.toList_none, Option.toList_some, List.append, List.nil_append, List.cons_append, List.length_cons, List.length_nil, List.replicate, Nat.sub_self, Nat.reduceSub, Nat.reduceAdd, hK_pX, hL_pX, hI_pX, hR_pX, hJ_pX, hT_pX, hS_pX, hK_pR, hL_pR, hI_pR, hR_pR, hJ_pR, hT_pR, hS_pR, hK_pJ, hL_pJ, hI_pJ, hR_pJ, hJ_pJ, hT_pJ, hS_pJ, hK_wI, hL_wI, hI_wI, hR_wI, hJ_wI, hT_wI, hS_wI, eq_self, and_true, true_and, and_false, false_and, or_true, true_or, or_false, false_or, if_true, if_false, not_true_eq_false, not_false_eq_true, forall_const, implies_true, false_implies, true_implies, Option.some.injEq, forall_eq', exists_eq_left', reduceCtorEq, Nat.reduceEqDiff, c1, T_X12_in, T_X12_ones, T_X11_within, T_X11_bit, T_X11_isIn, T_X11_oneIfIn, T_J6_bitCount_0f7a4, show ¬ (1 : Int32) = 0 by decide, hin, c1', b2i_0, c2']
        refine change_go hl (by omega) (by omega) c1' hnp h161 (fun w => ?_) (fun w1 w2 => ?_)
        · have := y0 (fun v => w.elim v.2.2.1 v.2.2.2)
          simp only [i_push, i_ild, i_ald, i_ist, i_ast, i_inc, i_bin, i_un, i_divs, i_i2l, i_lshl, i_lor, i_dup, i_dup2, i_pop, i_if, i_cmp, i_nul, i_vret, i_iret, i_zret, i_aret, i_keep, keep, lget, lset, ent, i_getI, i_getJ, i_getR, i_getN, i_putI, i_putZ, i_putJ, i_putR, i_iald, i_bald, i_alen, i_aald, i_iast, i_bast, i_aast, i_new, i_newa, i_anew, i_oini, i_callS, i_callV, i_callI, popn, sh4, i_sw, swP, i_copy, i_binS, List.map, Option.toList_none, Option.toList_some, List.append, List.nil_append, List.cons_append, List.length_cons, List.length_nil, List.replicate, Nat.sub_self, Nat.reduceSub, Nat.reduceAdd, hK_pX, hL_pX, hI_pX, hR_pX, hJ_pX, hT_pX, hS_pX, hK_pR, hL_pR, hI_pR, hR_pR, hJ_pR, hT_pR, hS_pR, hK_pJ, hL_pJ, hI_pJ, hR_pJ, hJ_pJ, hT_pJ, hS_pJ, hK_wI, hL_wI, hI_wI, hR_wI, hJ_wI, hT_wI, hS_wI, eq_self, and_true, true_and, and_false, false_and, or_true, true_or, or_false, false_or, if_true, if_false, not_true_eq_false, not_false_eq_true, forall_const, implies_true, false_implies, true_implies, Option.some.injEq, forall_eq', exists_eq_left', reduceCtorEq, Nat.reduceEqDiff, c1, T_X12_in, T_X12_ones, T_X11_within, T_X11_bit, T_X11_isIn, T_X11_oneIfIn, T_J6_bitCount_0f7a4]
          exact this
        · have := y1 ⟨c1', c2', w1, w2⟩
          simp only [i_push, i_ild, i_ald, i_ist, i_ast, i_inc, i_bin, i_un, i_divs, i_i2l, i_lshl, i_lor, i_dup, i_dup2, i_pop, i_if, i_cmp, i_nul, i_vret, i_iret, i_zret, i_aret, i_keep, keep, lget, lset, ent, i_getI, i_getJ, i_getR, i_getN, i_putI, i_putZ, i_putJ, i_putR, i_iald, i_bald, i_alen, i_aald, i_iast, i_bast, i_aast, i_new, i_newa, i_anew, i_oini, i_callS, i_callV, i_callI, popn, sh4, i_sw, swP, i_copy, i_binS, List.map, Option.toList_none, Option.toList_some, List.append, List.nil_append, List.cons_append, List.length_cons, List.length_nil, List.replicate, Nat.sub_self, Nat.reduceSub, Nat.reduceAdd, hK_pX, hL_pX, hI_pX, hR_pX, hJ_pX, hT_pX, hS_pX, hK_pR, hL_pR, hI_pR, hR_pR, hJ_pR, hT_pR, hS_pR, hK_pJ, hL_pJ, hI_pJ, hR_pJ, hJ_pJ, hT_pJ, hS_pJ, hK_wI, hL_wI, hI_wI, hR_wI, hJ_wI, hT_wI, hS_wI, eq_self, and_true, true_and, and_false, false_and, or_true, true_or, or_false, false_or, if_true, if_false, not_true_eq_false, not_false_eq_true, forall_const, implies_true, false_implies, true_implies, Option.some.injEq, forall_eq', exists_eq_left', reduceCtorEq, Nat.reduceEqDiff, c1, T_X12_in, T_X12_ones, T_X11_within, T_X11_bit, T_X11_isIn, T_X11_oneIfIn, T_J6_bitCount_0f7a4]
          exact this
      · simp only [c_X11_pair_24, lx_pI, lx_wI, lx_t hl, lx_k hl, lx_r hl, lx_l hl, i_push, i_ild, i_ald, i_ist, i_ast, i_inc, i_bin, i_un, i_divs, i_i2l, i_lshl, i_lor, i_dup, i_dup2, i_pop, i_if, i_cmp, i_nul, i_vret, i_iret, i_zret, i_aret, i_keep, keep, lget, lset, ent, i_getI, i_getJ, i_getR, i_getN, i_putI, i_putZ, i_putJ, i_putR, i_iald, i_bald, i_alen, i_aald, i_iast, i_bast, i_aast, i_new, i_newa, i_anew, i_oini, i_callS, i_callV, i_callI, popn, sh4, i_sw, swP, i_copy, i_binS, List.map, Option.toList_none, Option.toList_some, List.append, List.nil_append, List.cons_append, List.length_cons, List.length_nil, List.replicate, Nat.sub_self, Nat.reduceSub, Nat.reduceAdd, hK_pX, hL_pX, hI_pX, hR_pX, hJ_pX, hT_pX, hS_pX, hK_pR, hL_pR, hI_pR, hR_pR, hJ_pR, hT_pR, hS_pR, hK_pJ, hL_pJ, hI_pJ, hR_pJ, hJ_pJ, hT_pJ, hS_pJ, hK_wI, hL_wI, hI_wI, hR_wI, hJ_wI, hT_wI, hS_wI, eq_self, and_true, true_and, and_false, false_and, or_true, true_or, or_false, false_or, if_true, if_false, not_true_eq_false, not_false_eq_true, forall_const, implies_true, false_implies, true_implies, Option.some.injEq, forall_eq', exists_eq_left', reduceCtorEq, Nat.reduceEqDiff, c1, T_X12_in, T_X12_ones, T_X11_within, T_X11_bit, T_X11_isIn, T_X11_oneIfIn, T_J6_bitCount_0f7a4, show ¬ (1 : Int32) = 0 by decide, hin, c1', b2i_0, c2']
        exact y0 (fun w => c2' w.2.1)
  have h15 : ∀ a, a < P → p = nI a → c_X11_pair_15 Q [some (.ref 0), some (.int p), some (.int q), some (.int how), some (.ref 16)] [.int 1] h := by
    intro a ha ea
    have hgo := has_go hl hP h16 (p := q) (Q := fun r h' => c_X11_pair_24 Q [some (.ref 0), some (.int p), some (.int q), some (.int how), some (.ref 16)] (r.toList ++ []) h') (fun b hb eb => h24 a b ha hb ea eb) (fun w => e0 _ (h0 (fun v => w v.2)))
    simp only [c_X11_pair_15, lx_pI, lx_wI, lx_t hl, lx_k hl, lx_r hl, lx_l hl, i_push, i_ild, i_ald, i_ist, i_ast, i_inc, i_bin, i_un, i_divs, i_i2l, i_lshl, i_lor, i_dup, i_dup2, i_pop, i_if, i_cmp, i_nul, i_vret, i_iret, i_zret, i_aret, i_keep, keep, lget, lset, ent, i_getI, i_getJ, i_getR, i_getN, i_putI, i_putZ, i_putJ, i_putR, i_iald, i_bald, i_alen, i_aald, i_iast, i_bast, i_aast, i_new, i_newa, i_anew, i_oini, i_callS, i_callV, i_callI, popn, sh4, i_sw, swP, i_copy, i_binS, List.map, Option.toList_none, Option.toList_some, List.append, List.nil_append, List.cons_append, List.length_cons, List.length_nil, List.replicate, Nat.sub_self, Nat.reduceSub, Nat.reduceAdd, hK_pX, hL_pX, hI_pX, hR_pX, hJ_pX, hT_pX, hS_pX, hK_pR, hL_pR, hI_pR, hR_pR, hJ_pR, hT_pR, hS_pR, hK_pJ, hL_pJ, hI_pJ, hR_pJ, hJ_pJ, hT_pJ, hS_pJ, hK_wI, hL_wI, hI_wI, hR_wI, hJ_wI, hT_wI, hS_wI, eq_self, and_true, true_and, and_false, false_and, or_true, true_or, or_false, false_or, if_true, if_false, not_true_eq_false, not_false_eq_true, forall_const, implies_true, false_implies, true_implies, Option.some.injEq, forall_eq', exists_eq_left', reduceCtorEq, Nat.reduceEqDiff, c1, T_X12_in, T_X12_ones, T_X11_within, T_X11_bit, T_X11_isIn, T_X11_oneIfIn, T_J6_bitCount_0f7a4, show ¬ (1 : Int32) = 0 by decide]
    exact hgo
  have hgo := has_go hl hP h16 (p := p) (Q := fun r h' => c_X11_pair_15 Q [some (.ref 0), some (.int p), some (.int q), some (.int how), some (.ref 16)] (r.toList ++ []) h') (fun a ha ea => h15 a ha ea) (fun w => by
    have := h0 (fun v => w v.1)
    show c_X11_pair_15 Q _ [.int 0] h
    simp only [c_X11_pair_15, i_push, i_ild, i_ald, i_ist, i_ast, i_inc, i_bin, i_un, i_divs, i_i2l, i_lshl, i_lor, i_dup, i_dup2, i_pop, i_if, i_cmp, i_nul, i_vret, i_iret, i_zret, i_aret, i_keep, keep, lget, lset, ent, i_getI, i_getJ, i_getR, i_getN, i_putI, i_putZ, i_putJ, i_putR, i_iald, i_bald, i_alen, i_aald, i_iast, i_bast, i_aast, i_new, i_newa, i_anew, i_oini, i_callS, i_callV, i_callI, popn, sh4, i_sw, swP, i_copy, i_binS, List.map, Option.toList_none, Option.toList_some, List.append, List.nil_append, List.cons_append, List.length_cons, List.length_nil, List.replicate, Nat.sub_self, Nat.reduceSub, Nat.reduceAdd, hK_pX, hL_pX, hI_pX, hR_pX, hJ_pX, hT_pX, hS_pX, hK_pR, hL_pR, hI_pR, hR_pR, hJ_pR, hT_pR, hS_pR, hK_pJ, hL_pJ, hI_pJ, hR_pJ, hJ_pJ, hT_pJ, hS_pJ, hK_wI, hL_wI, hI_wI, hR_wI, hJ_wI, hT_wI, hS_wI, eq_self, and_true, true_and, and_false, false_and, or_true, true_or, or_false, false_or, if_true, if_false, not_true_eq_false, not_false_eq_true, forall_const, implies_true, false_implies, true_implies, Option.some.injEq, forall_eq', exists_eq_left', reduceCtorEq, Nat.reduceEqDiff, c1, T_X12_in, T_X12_ones, T_X11_within, T_X11_bit, T_X11_isIn, T_X11_oneIfIn, T_J6_bitCount_0f7a4]
    exact this)
  unfold T_X11_pair
  simp only [b_X11_pair_0, lx_pI, lx_wI, lx_t hl, lx_k hl, lx_r hl, lx_l hl, i_push, i_ild, i_ald, i_ist, i_ast, i_inc, i_bin, i_un, i_divs, i_i2l, i_lshl, i_lor, i_dup, i_dup2, i_pop, i_if, i_cmp, i_nul, i_vret, i_iret, i_zret, i_aret, i_keep, keep, lget, lset, ent, i_getI, i_getJ, i_getR, i_getN, i_putI, i_putZ, i_putJ, i_putR, i_iald, i_bald, i_alen, i_aald, i_iast, i_bast, i_aast, i_new, i_newa, i_anew, i_oini, i_callS, i_callV, i_callI, popn, sh4, i_sw, swP, i_copy, i_binS, List.map, Option.toList_none, Option.toList_some, List.append, List.nil_append, List.cons_append, List.length_cons, List.length_nil, List.replicate, Nat.sub_self, Nat.reduceSub, Nat.reduceAdd, hK_pX, hL_pX, hI_pX, hR_pX, hJ_pX, hT_pX, hS_pX, hK_pR, hL_pR, hI_pR, hR_pR, hJ_pR, hT_pR, hS_pR, hK_pJ, hL_pJ, hI_pJ, hR_pJ, hJ_pJ, hT_pJ, hS_pJ, hK_wI, hL_wI, hI_wI, hR_wI, hJ_wI, hT_wI, hS_wI, eq_self, and_true, true_and, and_false, false_and, or_true, true_or, or_false, false_or, if_true, if_false, not_true_eq_false, not_false_eq_true, forall_const, implies_true, false_implies, true_implies, Option.some.injEq, forall_eq', exists_eq_left', reduceCtorEq, Nat.reduceEqDiff, c1, T_X12_in, T_X12_ones, T_X11_within, T_X11_bit, T_X11_isIn, T_X11_oneIfIn, T_J6_bitCount_0f7a4]
  exact hgo
theorem prOk_k {I J : Mem} (h2 : I 62 = J 62) (h3 : I 63 = J 63) (P a b : Nat) (how : Int32) : prOk I P a b how ↔ prOk J P a b how := by
  unfold prOk prS prN
  rw [h2, h3]
theorem st_pair {h : Hp} (hc : CP h) (p w how : Int32) : SOK 3 MX11_pair 2 MX12_pair [.int p, .int w, .int how] h := by
  have hl := hc.1
  have hm := hc.2.1
  obtain ⟨R, P, H, E, Ln, q, np, hs⟩ := hc.2.2.2.1
  obtain ⟨a1, a2, a3, a4, a5, a6, a7, a8, a9, a10, a11, a12, a13⟩ := id hs
  have h16 : hI h 16 0 = nI P := a5.2.1
  have h52 : hI h 52 0 = nI P := a5.2.2.1
  have hP := a5.1
  have hnp : np ≤ 20 := a9.2.2.2.2.2.2.2.1
  have h161 : hI h 16 1 = nI np := a6
  have hN : prN (hI h) P = np := by
    have := a9.2.2.2.2.2.2.2.2
    unfold prN; rw [this]; omega
  by_cases c : (∃ a, a < P ∧ p = nI a) ∧ ∃ b, b < P ∧ w = nI b
  · obtain ⟨⟨a, ha, ea⟩, b, hb, eb⟩ := c
    have r23 : hI h 23 a = hI h 62 a := (a5.2.2.2.1 a ha).2.2.2.2.2.2.1
    have r24 : hI h 24 a = hI h 63 a := (a5.2.2.2.1 a ha).2.2.2.2.2.2.2.1
    have hsX : sX (hI h) a b = prS (hI h) a b := by unfold sX prS; rw [r23, r24]
    have hok : prOk (hI h) P a b how ↔ (¬ b = a ∧ (0 ≤ how ∧ how ≤ 2) ∧ ¬ sX (hI h) a b = how ∧ ¬ (sX (hI h) a b = 2 ∧ np = 20)) := by
      unfold prOk
      rw [hN, hsX]
      exact ⟨fun v => ⟨fun z => v.1 z.symm, v.2⟩, fun v => ⟨fun z => v.1 z.symm, v.2⟩⟩
    have hun : ∀ a' b', a' < P → b' < P → p = nI a' → w = nI b' → a' = a ∧ b' = b := fun a' b' ha' hb' ea' eb' => ⟨(nI_eq (by omega) (by omega)).mp (ea'.symm.trans ea), (nI_eq (by omega) (by omega)).mp (eb'.symm.trans eb)⟩
    by_cases ok : prOk (hI h) P a b how
    · have hS3 := sX_3 (hI h) a b
      have ok' := hok.mp ok
      have hhow : how = 0 ∨ how = 1 ∨ how = 2 := by
        obtain ⟨k, hk, ek⟩ := (per_ix (P := 3) (by decide)).mp (show 0 ≤ how ∧ how ≤ nI 3 - 1 from ok'.2.1)
        have : k = 0 ∨ k = 1 ∨ k = 2 := by omega
        rcases this with z | z | z <;> subst z
        · exact Or.inl ek
        · exact Or.inr (Or.inl ek)
        · exact Or.inr (Or.inr ek)
      have sA := (t1P_sh h a b (sX (hI h) a b)).tr (t2P_sh (t1P h a b (sX (hI h) a b)) a b how)
      have iA : ∀ x y, hI (t2P (t1P h a b (sX (hI h) a b)) a b how) x y = _ := t2P_I (t1P h a b (sX (hI h) a b)) a b how hhow
      have i1 : ∀ x y, hI (t1P h a b (sX (hI h) a b)) x y = _ := t1P_I h a b (sX (hI h) a b) hS3
      have cls : ∀ Q : Option Value → Hp → Prop, Q (some (.int 1)) (t2P (t1P h a b (sX (hI h) a b)) a b how) → cal 3 MX11_pair [.ref 0, .int p, .int w, .int how] h Q := fun Q hq => ok_X11_pair _ _ _ (pair_go hl hP h16 hnp h161 (fun z => absurd ⟨⟨a, ha, ea⟩, b, hb, eb⟩ z) (fun a' b' ha' hb' ea' eb' => by
        obtain ⟨z1, z2⟩ := hun a' b' ha' hb' ea' eb'
        subst z1; subst z2
        exact ⟨fun _ => hq, fun z => absurd ok' z⟩))
      have oA : ∀ x y, ¬ (x = 16 ∧ y = 1) → x ≠ 23 → x ≠ 24 → hI (t2P (t1P h a b (sX (hI h) a b)) a b how) x y = hI h x y := fun x y n1 n2 n3 => by
        rw [iA, if_neg n1, if_neg (fun z => n2 z.1), if_neg (fun z => n3 z.1), i1, if_neg n1, if_neg (fun z => n2 z.1), if_neg (fun z => n3 z.1)]
      have r16 : hI (t2P (t1P h a b (sX (hI h) a b)) a b how) 16 1 = if how = 2 then (if sX (hI h) a b = 2 then nI np + 1 else nI np) - 1 else (if sX (hI h) a b = 2 then nI np + 1 else nI np) := by
        have w1 := (i1 16 1).trans (if_pos ⟨rfl, rfl⟩)
        rw [h161] at w1
        refine (iA 16 1).trans ((if_pos ⟨rfl, rfl⟩).trans ?_)
        rw [w1]
      have q23 : ∀ y, hI (t2P (t1P h a b (sX (hI h) a b)) a b how) 23 y = if sX (hI h) a b = 0 ∨ how = 0 then flR (hI h 23) a b y else hI h 23 y := fun y => by
        have e1 : hI (t1P h a b (sX (hI h) a b)) 23 = if sX (hI h) a b = 0 then flR (hI h 23) a b else hI h 23 := funext fun y => by
          rw [i1, if_neg (by omega)]
          by_cases z : sX (hI h) a b = 0
          · rw [if_pos ⟨rfl, z⟩, if_pos z]
          · rw [if_neg (fun v => z v.2), if_neg (by omega), if_neg z]
        rw [iA, if_neg (by omega), e1]
        by_cases z : how = 0
        · have z2 : ¬ sX (hI h) a b = 0 := fun v => ok'.2.2.1 (v.trans z.symm)
          rw [if_pos ⟨rfl, z⟩, if_neg z2, if_pos (Or.inr z)]
        · rw [if_neg (fun v => z v.2), if_neg (by omega)]
          by_cases z2 : sX (hI h) a b = 0
          · rw [if_pos z2, if_pos (Or.inl z2)]
          · rw [if_neg z2, if_neg (fun v => v.elim z2 z)]
      have q24 : ∀ y, hI (t2P (t1P h a b (sX (hI h) a b)) a b how) 24 y = if sX (hI h) a b = 1 ∨ how = 1 then flR (hI h 24) a b y else hI h 24 y := fun y => by
        have e1 : hI (t1P h a b (sX (hI h) a b)) 24 = if sX (hI h) a b = 1 then flR (hI h 24) a b else hI h 24 := funext fun y => by
          rw [i1, if_neg (by omega), if_neg (by omega)]
          by_cases z : sX (hI h) a b = 1
          · rw [if_pos ⟨rfl, z⟩, if_pos z]
          · rw [if_neg (fun v => z v.2), if_neg z]
        rw [iA, if_neg (by omega), if_neg (by omega), e1]
        by_cases z : how = 1
        · have z2 : ¬ sX (hI h) a b = 1 := fun v => ok'.2.2.1 (v.trans z.symm)
          rw [if_pos ⟨rfl, z⟩, if_neg z2, if_pos (Or.inr z)]
        · rw [if_neg (fun v => z v.2)]
          by_cases z2 : sX (hI h) a b = 1
          · rw [if_pos z2, if_pos (Or.inl z2)]
          · rw [if_neg z2, if_neg (fun v => v.elim z2 z)]
      clear iA i1
      generalize t2P (t1P h a b (sX (hI h) a b)) a b how = hA at sA cls oA r16 q23 q24 ⊢
      have k62 : hI hA 62 = hI h 62 := funext fun y => oA 62 y (by omega) (by decide) (by decide)
      have k63 : hI hA 63 = hI h 63 := funext fun y => oA 63 y (by omega) (by decide) (by decide)
      have okA : prOk (hI hA) P a b how := (prOk_k k62 k63 P a b how).mpr ok
      have sB : Sh hA (wI hA (prM (u2 (hI hA) 44 0 0) a b how)) := ⟨rfl, rfl, rfl, rfl, rfl⟩
      have iB : ∀ x, hI (wI hA (prM (u2 (hI hA) 44 0 0) a b how)) x = prM (u2 (hI hA) 44 0 0) a b how x := fun x => rfl
      have s2 := sA.tr sB
      refine wr 1 hA (wI hA (prM (u2 (hI hA) 44 0 0) a b how)) cls (fun Q hq => ok_X12_pair _ _ _ ⟨rfl, sA.m hm, P, hP, (oA 52 0 (by omega) (by decide) (by decide)).trans h52, fun a' b' ha' hb' ea' eb' => ?_, fun z => absurd ⟨⟨a, ha, ea⟩, b, hb, eb⟩ z⟩) ?_ (by rw [s2.1]; exact Nat.le_add_right _ _) (by rw [s2.2.1]; exact Nat.le_add_right _ _) (lm_k (sA.m hm)).1
      · obtain ⟨z1, z2⟩ := hun a' b' ha' hb' ea' eb'
        subst z1; subst z2
        exact ⟨fun _ => hq, fun z => absurd okA z⟩
      · generalize wI hA (prM (u2 (hI hA) 44 0 0) a b how) = h2 at sB iB s2 ⊢
        have oB : ∀ x y, ¬ (x = 44 ∧ y = 0) → x ≠ 62 → x ≠ 63 → hI h2 x y = hI hA x y := fun x y n1 n2 n3 => by rw [iB, prM_o _ _ _ _ _ _ n2 n3, u2_ne n1]
        have o : ∀ x, x ≠ 16 → x ≠ 23 → x ≠ 24 → x ≠ 44 → x ≠ 62 → x ≠ 63 → hI h2 x = hI h x := fun x n1 n2 n3 n4 n5 n6 => funext fun y => (oB x y (fun z => n4 z.1) n5 n6).trans (oA x y (fun z => n1 z.1) n2 n3)
        have g62 : hI h2 62 = prM (hI h) a b how 62 := funext fun y => by
          rw [iB, prM_62, prM_62, u2_row (by decide), k62]
        have g63 : hI h2 63 = prM (hI h) a b how 63 := funext fun y => by
          rw [iB, prM_63, prM_63, u2_row (by decide), k63]
        have hsh := ok'.2.2.1
        have h20 := ok'.2.2.2
        rw [hsX] at hsh h20 r16 q23 q24
        obtain ⟨hj, hpos⟩ := JP_pair hP ha hb ok'.1 hhow hsh h20 (o 57 (by decide) (by decide) (by decide) (by decide) (by decide) (by decide)) (o 60 (by decide) (by decide) (by decide) (by decide) (by decide) (by decide)) g62 g63 a9
        have f16 : hI h2 16 1 = nI (npN np (prS (hI h) a b) how) := by
          rw [oB 16 1 (by omega) (by decide) (by decide), r16]
          unfold npN
          by_cases z : how = 2
          · rw [if_pos z, if_pos z] at *
            have z2 : ¬ prS (hI h) a b = 2 := fun v => hsh (v.trans z.symm)
            rw [if_neg z2] at *
            rw [if_neg z2]
            exact nI_sub (b := 1) (by omega)
          · rw [if_neg z, if_neg z]
            by_cases z2 : prS (hI h) a b = 2
            · rw [if_pos z2, if_pos z2, Nat.sub_zero, nI_1]
            · rw [if_neg z2, if_neg z2, Nat.add_sub_cancel]
        refine hc.now hs s2 (fun x hx => o x (by omega) (by omega) (by omega) (by omega) (by omega) (by omega)) (fun j hj => (oB 44 j (by omega) (by decide) (by decide)).trans (oA 44 j (by omega) (by decide) (by decide))) (fun x j b1 b2 bs => ?_) (fun x b1 b2 => o x (by omega) (by omega) (by omega) (by omega) (by omega) (by omega)) (RmC_k (fun x b1 b2 => o x (by omega) (by omega) (by omega) (by omega) (by omega) (by omega)) (RmC_c (fun i hi => o _ (by omega) (by omega) (by omega) (by omega) (by omega) (by omega)) a4)) (P' := P) ?_ f16 (HlC_k (fun x b1 b2 => o x (by omega) (by omega) (by omega) (by omega) (by omega) (by omega)) (HlC_c (fun i i1 i2 => o _ (by omega) (by omega) (by omega) (by omega) (by omega) (by omega)) a7)) hj (fun e n Rn _ _ hw => LtW_k (o 60 (by decide) (by decide) (by decide) (by decide) (by decide) (by decide)) (o 77 (by decide) (by decide) (by decide) (by decide) (by decide) (by decide)) (o 78 (by decide) (by decide) (by decide) (by decide) (by decide) (by decide)) (o 79 (by decide) (by decide) (by decide) (by decide) (by decide) (by decide)) hw)
        · by_cases e2 : x = 62
          · have z62 : szA 62 = 24 := rfl
            subst e2
            rw [g62, prM_62, if_neg (by omega), if_neg (by omega)]
          · by_cases e3 : x = 63
            · have z63 : szA 63 = 24 := rfl
              subst e3
              rw [g63, prM_63, if_neg (by omega), if_neg (by omega)]
            · exact congrFun (o x (by omega) (by omega) (by omega) (by omega) e2 e3) j
        · obtain ⟨d1, d2, d3, d4, d5, d6⟩ := id a5
          obtain ⟨s0, s1⟩ := prS_b (a9.2.2.2.2.2.2.1 a b (by omega))
          obtain ⟨y0, y1⟩ := a9.2.2.1 a b (by omega) (by omega)
          have s0' : bt (hI h 62 b) a = decide (prS (hI h) a b = 0) := y0.symm.trans s0
          have s1' : bt (hI h 63 b) a = decide (prS (hI h) a b = 1) := y1.symm.trans s1
          have k23 : ∀ y, hI h2 23 y = hI hA 23 y := fun y => oB 23 y (by omega) (by decide) (by decide)
          have k24 : ∀ y, hI h2 24 y = hI hA 24 y := fun y => oB 24 y (by omega) (by decide) (by decide)
          have kf : ∀ x, 17 ≤ x → x ≤ 22 → hI h2 x = hI h x := fun x x1 x2 => o x (by omega) (by omega) (by omega) (by omega) (by omega) (by omega)
          have kj : ∀ x, 52 ≤ x → x ≤ 61 → hI h2 x = hI h x := fun x x1 x2 => o x (by omega) (by omega) (by omega) (by omega) (by omega) (by omega)
          have k16 : ∀ y, y ≠ 1 → hI h2 16 y = hI h 16 y := fun y n1 => (oB 16 y (by omega) (by decide) (by decide)).trans (oA 16 y (by omega) (by decide) (by decide))
          have fl23 : ∀ y, flR (hI h 62) a b y = flR (hI h 62) a b y := fun _ => rfl
          have hrow : ∀ y, y < P → hI h 23 y = hI h 62 y ∧ hI h 24 y = hI h 63 y := fun y hy => ⟨(d4 y hy).2.2.2.2.2.2.1, (d4 y hy).2.2.2.2.2.2.2.1⟩
          have fR : ∀ (f g : Nat → Int32), (∀ y, y < P → f y = g y) → ∀ y, y < P → flR f a b y = flR g a b y := fun f g hfg y hy => by
            unfold flR; rw [hfg a ha, hfg b hb, hfg y hy]
          unfold PC
          simp only [Nat.reduceAdd] at d2 d4 d5 d6 ⊢
          rw [kf 17 (by decide) (by decide), kf 18 (by decide) (by decide), kf 19 (by decide) (by decide), kf 20 (by decide) (by decide), kf 21 (by decide) (by decide), kf 22 (by decide) (by decide), kj 52 (by decide) (by decide), kj 53 (by decide) (by decide), kj 54 (by decide) (by decide), kj 55 (by decide) (by decide), kj 56 (by decide) (by decide), kj 57 (by decide) (by decide), kj 58 (by decide) (by decide), kj 59 (by decide) (by decide), kj 60 (by decide) (by decide), kj 61 (by decide) (by decide), k16 0 (by decide), k16 10 (by decide), k16 11 (by decide), k16 12 (by decide)]
          refine ⟨hP, d2, d3, fun x hx => ?_, d5, fun x hx hx4 => ?_⟩
          · obtain ⟨v1, v2, v3, v4, v5, v6, v7, v8, v9, v10, v11⟩ := d4 x hx
            refine ⟨v1, v2, v3, v4, v5, v6, ?_, ?_, v9, v10, v11⟩
            · rw [k23, q23, g62, prM_62, ← fl_pr (show a < 32 by omega) (show b < 32 by omega) s0 s0' hsh, fR _ _ (fun y hy => (hrow y hy).1) x hx, v7]
            · rw [k24, q24, g63, prM_63, ← fl_pr (show a < 32 by omega) (show b < 32 by omega) s1 s1' hsh, fR _ _ (fun y hy => (hrow y hy).2) x hx, v8]
          · obtain ⟨v7, v8, v9, v11, v12, v62, v63⟩ := d6 x hx hx4
            have nf : ∀ (f : Nat → Int32), flR f a b x = f x := fun f => by
              unfold flR; rw [if_neg (by omega), if_neg (by omega)]
            refine ⟨v7, v8, v9, ?_, ?_, ?_, ?_⟩
            · rw [k23, q23, nf, ite_self]; exact v11
            · rw [k24, q24, nf, ite_self]; exact v12
            · rw [g62, prM_62, if_neg (by omega), if_neg (by omega)]; exact v62
            · rw [g63, prM_63, if_neg (by omega), if_neg (by omega)]; exact v63
    · refine rd 0 hc (fun Q hq => ok_X11_pair _ _ _ (pair_go hl hP h16 hnp h161 (fun _ => hq) (fun a' b' ha' hb' ea' eb' => ?_))) (fun Q hq => ok_X12_pair _ _ _ ⟨rfl, hm, P, hP, h52, fun a' b' ha' hb' ea' eb' => ?_, fun _ => hq⟩)
      · obtain ⟨z1, z2⟩ := hun a' b' ha' hb' ea' eb'
        subst z1; subst z2
        exact ⟨fun z => absurd (hok.mpr z) ok, fun _ => hq⟩
      · obtain ⟨z1, z2⟩ := hun a' b' ha' hb' ea' eb'
        subst z1; subst z2
        exact ⟨fun z => absurd z ok, fun _ => hq⟩
  · exact rd 0 hc (fun Q hq => ok_X11_pair _ _ _ (pair_go hl hP h16 hnp h161 (fun _ => hq) (fun a' b' ha' hb' ea' eb' => absurd ⟨⟨a', ha', ea'⟩, b', hb', eb'⟩ c))) (fun Q hq => ok_X12_pair _ _ _ ⟨rfl, hm, P, hP, h52, fun a' b' ha' hb' ea' eb' => absurd ⟨⟨a', ha', ea'⟩, b', hb', eb'⟩ c, fun _ => hq⟩)
