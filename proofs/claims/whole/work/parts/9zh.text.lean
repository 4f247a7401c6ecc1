/-! ===== steps: text; the pure reader touches its own cells alone ===== -/
abbrev Wc (a i : Nat) : Prop := (a = 44 ∧ 43 ≤ i ∧ i ≤ 46) ∨ (80 ≤ a ∧ a ≤ 85)
/-- the reader's cells of M, all else of N -/
def mg (M N : Mem) : Mem := fun a i => if Wc a i then M a i else N a i
theorem mg_w {M N : Mem} {a i : Nat} (h : Wc a i) : mg M N a i = M a i := if_pos h
theorem mg_o {M N : Mem} {a i : Nat} (h : ¬ Wc a i) : mg M N a i = N a i := if_neg h
theorem mg_u {M N : Mem} {a i : Nat} (h : Wc a i) (v : Int32) : u2 (mg M N) a i v = mg (u2 M a i v) N := by
  funext b j
  by_cases c : b = a ∧ j = i
  · obtain ⟨rfl, rfl⟩ := c
    rw [u2_eq, mg_w h, u2_eq]
  · rw [u2_ne c]
    by_cases w : Wc b j
    · rw [mg_w w, mg_w w, u2_ne c]
    · rw [mg_o w, mg_o w]
theorem mg_s (M : Mem) : mg M M = M := by
  funext a i
  unfold mg
  split <;> rfl
theorem mg_ite {c : Prop} [Decidable c] (M M' N : Mem) : (if c then mg M N else mg M' N) = mg (if c then M else M') N := by
  split <;> rfl
def mgR (R : Bool × Mem × Nat) (N : Mem) : Bool × Mem × Nat := (R.1, mg R.2.1 N, R.2.2)
theorem wc44 (i : Nat) (h1 : 43 ≤ i) (h2 : i ≤ 46) : Wc 44 i := Or.inl ⟨rfl, h1, h2⟩
theorem wc8 (a i : Nat) (h1 : 80 ≤ a) (h2 : a ≤ 85) : Wc a i := Or.inr ⟨h1, h2⟩
theorem pMany_mg (M N : Mem) (p : Int32) : pMany (mg M N) p = mg (pMany M p) N := by
  unfold pMany
  rw [mg_w (wc44 45 (by decide) (by decide)), mg_u (wc44 45 (by decide) (by decide)), mg_ite]
theorem pFail_mg (M N : Mem) (p : Int32) : pFail (mg M N) p = mg (pFail M p) N := by
  unfold pFail
  rw [mg_u (wc44 43 (by decide) (by decide)), mg_u (wc44 44 (by decide) (by decide))]
theorem pWr_mg (M N : Mem) (l n : Nat) (w s v : Int32) : pWr (mg M N) l n w s v = mg (pWr M l n w s v) N := by
  unfold pWr
  rw [mg_u (wc8 81 _ (by decide) (by decide)), mg_u (wc8 82 _ (by decide) (by decide)), mg_u (wc8 83 _ (by decide) (by decide)), mg_u (wc8 80 _ (by decide) (by decide)), mg_ite]
theorem pT_mg (B : Nat → Int32) (L l n : Nat) (M N : Mem) (t : Nat) : pT B L l n (mg M N) t = mgR (pT B L l n M t) N := by
  unfold pT
  rw [pMany_mg, mg_ite, pWr_mg, pFail_mg, pFail_mg, pWr_mg, pFail_mg]
  split
  · split
    · split <;> rfl
    · rfl
  · split <;> rfl
theorem pTs_mg (B : Nat → Int32) (L l : Nat) : ∀ (m n : Nat) (M N : Mem) (t : Nat), pTs B L l m n (mg M N) t = mgR (pTs B L l m n M t) N
  | 0, _, _, _, _ => rfl
  | m + 1, n, M, N, t => by
    show (if _ then _ else _) = mgR (if _ then _ else _) N
    rw [pT_mg]
    show (if (pT B L l n M t).1 = true then (if K B L (pT B L l n M t).2.2 = 257 then pTs B L l m (n + 1) (mg (pT B L l n M t).2.1 N) ((pT B L l n M t).2.2 + 1) else mgR (pT B L l n M t) N) else mgR (pT B L l n M t) N) = mgR (if (pT B L l n M t).1 = true then (if K B L (pT B L l n M t).2.2 = 257 then pTs B L l m (n + 1) (pT B L l n M t).2.1 ((pT B L l n M t).2.2 + 1) else pT B L l n M t) else pT B L l n M t) N
    rw [pTs_mg B L l m (n + 1)]
    split
    · split <;> rfl
    · rfl
theorem pE_mg (B : Nat → Int32) (L k : Nat) (M N : Mem) (t : Nat) : pA.pE B L k (mg M N) t = mgR (pA.pE B L k M t) N := by
  unfold pA.pE
  rw [mg_u (wc44 46 (by decide) (by decide)), pFail_mg]
  split <;> rfl
theorem pA_mg (B : Nat → Int32) (L l k : Nat) (M N : Mem) (t : Nat) : pA B L l k (mg M N) t = mgR (pA B L l k M t) N := by
  have h4 : ∀ v, u2 (mg M N) 84 l v = mg (u2 M 84 l v) N := fun v => mg_u (wc8 84 _ (by decide) (by decide)) v
  have h5 : ∀ M' v, u2 (mg M' N) 85 l v = mg (u2 M' 85 l v) N := fun M' v => mg_u (wc8 85 _ (by decide) (by decide)) v
  unfold pA
  simp only [h4, h5, pE_mg, pFail_mg]
  split
  · split
    · split <;> rfl
    · split <;> rfl
  · split
    · rfl
    · split <;> rfl
theorem pM0_mg (M N : Mem) (k : Nat) (p : Int32) : pM0 (mg M N) k p = mg (pM0 M k p) N := by
  unfold pM0
  rw [pMany_mg, mg_ite, mg_u (wc8 80 _ (by decide) (by decide))]
theorem pL_mg (B : Nat → Int32) (L k : Nat) (M N : Mem) (t : Nat) : pL B L k (mg M N) t = mgR (pL B L k M t) N := by
  unfold pL
  rw [pM0_mg, pTs_mg, pA_mg]
  generalize pTs B L (if k < 16 then k else 16) 501 0 (pM0 M k (nI (bgT B L t))) (t + 1) = R
  show (if K B L t = 256 then (if R.1 = true then (if K B L R.2.2 = 58 then pA B L (if k < 16 then k else 16) k (mg R.2.1 N) (R.2.2 + 1) else (false, pFail (mg R.2.1 N) (nI (bgT B L R.2.2)), R.2.2)) else mgR R N) else _) = _
  rw [pA_mg, pFail_mg]
  split
  · split
    · split <;> rfl
    · rfl
  · rfl
theorem pX_mg (B : Nat → Int32) (L : Nat) : ∀ (m k : Nat) (M N : Mem) (t : Nat), pX B L m k (mg M N) t = mgR (pX B L m k M t) N
  | 0, _, _, _, _ => rfl
  | m + 1, k, M, N, t => by
    show (if _ then _ else _) = mgR (if _ then _ else _) N
    rw [pL_mg]
    show (if K B L t = 1 then (true, mg M N, t) else if (pL B L k M t).1 = true then pX B L m (k + 1) (mg (pL B L k M t).2.1 N) (pL B L k M t).2.2 else mgR (pL B L k M t) N) = _
    rw [pX_mg B L m (k + 1)]
    split
    · rfl
    · split <;> rfl
/-! the state now, with new rules -/
theorem ST.rl {D : Nat → Prop} {h h' : Hp} (hk : Kq D h h') {s r s' r' : Nat} (hl : LayS h' s' r') (e4 : hR h' s' 4 = hR h s 4) (hf : CpB (hI h) (hI h') r r') {J J' : Mem} (hj : ∀ a i, 46 ≤ a → a ≤ 79 → ¬ (69 ≤ a ∧ a ≤ 75) → i < szA a → J' a i = J a i) {R P H E Ln q np Ln' q' : Nat} (hq : hR h' s' 3 = some q') (hlr : LayR h' q') (hrc : RC (hI h') q' J' Ln') (hs : ST h s r J R P H E Ln q np) : ST h' s' r' J' R P H E Ln' q' np := by
  obtain ⟨J2, eJ⟩ : ∃ J2 : Mem, J2 = fun a i => if 69 ≤ a ∧ a ≤ 75 then J a i else J' a i := ⟨_, rfl⟩
  have kJ : ∀ a, ¬ (69 ≤ a ∧ a ≤ 75) → J' a = J2 a := fun a ha => by
    funext i
    rw [eJ]
    exact (if_neg ha).symm
  have hj2 : Js J J2 := fun a i a1 a2 a3 => by
    by_cases c : 69 ≤ a ∧ a ≤ 75
    · rw [eJ]
      exact if_pos c
    · rw [← kJ a c]
      exact hj a i a1 a2 c a3
  obtain ⟨a1, a2, a3, a4, a5, a6, a7, a8, a9, a10, a11, a12, a13⟩ := hs
  refine ⟨hl, hq, hlr, RmC_k (fun a b1 b2 => kJ a (by omega)) (RmC_mv hf hj2 a4), PC_k (fun a b1 b2 => kJ a (by omega)) (PC_mv hf hj2 a5), (hf 4 1 (by unfold cpS; omega)).trans a6, HlC_k (fun a b1 b2 => kJ a (by omega)) (HlC_mv hf hj2 a7), hrc, JP_k (kJ 57 (by omega)) (kJ 60 (by omega)) (kJ 62 (by omega)) (kJ 63 (by omega)) (JP_mv a5.1 hj2 a9), a10, (hj 76 0 (by decide) (by decide) (by decide) (by decide)).trans a11, by rw [e4]; exact NC_j (kJ 77 (by omega)) (NC_mv hj2 a10 (a12.kq hk)), fun e n Rn z1 z2 z3 => ?_⟩
  rw [e4] at z2
  subst z1
  obtain ⟨n', Rn', d1, d2, _⟩ := a12
  rw [d1] at z2
  cases z2
  have : Rn = Rn' := z3.2.2.2.2.2.2.2.2.2.2.2.symm.trans (d2.kq hk).2.2.2.2.2.2.2.2.2.2.2
  subst this
  exact LtW_k (kJ 60 (by omega)) (kJ 77 (by omega)) (kJ 78 (by omega)) (kJ 79 (by omega)) (LtW_mv (by omega) a5.1 hj2 (LtW_c (fun i hi => funext fun j => (hk.2.2.1 (n + i) j (by have := d2.2.1; omega) (hk.2.2.2.1 n Rn d2 i hi)).1) (a13 e n Rn rfl d1 d2)))
/-- the lines that were read and copied are the class's new rules -/
theorem RC_tx {f F M R2 : Mem} {q k : Nat} (hk : k ≤ 16) (hq0 : F q 0 = nI k) (hln : ∀ l, l < k → LnC F M q l) (hfF : ∀ i j, i ≤ 7 → f (q + i) j = F (q + i) j) (hM : ∀ a i, 80 ≤ a → a ≤ 85 → R2 a i = M a i) (hf : ∀ a i, 69 ≤ a → a ≤ 75 → f a i = cpM R2 k k (tC R2 k 0) a i) : RC f q f k := by
  refine ⟨hk, (hfF 0 0 (by decide)).trans hq0, by rw [hf 69 0 (by decide) (by decide)]; unfold cpM; rw [if_pos ⟨rfl, rfl⟩], fun l hl => ?_⟩
  obtain ⟨⟨T, t1, t2, t3, t4⟩, ⟨a, a1, a2, a3⟩, b3⟩ := hln l hl
  have e70 : f 70 l = M 80 l := by
    rw [hf 70 l (by decide) (by decide)]; unfold cpM; rw [if_neg (by omega), if_pos ⟨rfl, hl⟩]; exact hM 80 l (by decide) (by decide)
  have e74 : f 74 l = M 84 l := by
    rw [hf 74 l (by decide) (by decide)]; unfold cpM; rw [if_neg (by omega), if_neg (by omega), if_pos ⟨rfl, hl⟩]; exact hM 84 l (by decide) (by decide)
  have e75 : f 75 l = M 85 l := by
    rw [hf 75 l (by decide) (by decide)]; unfold cpM; rw [if_neg (by omega), if_neg (by omega), if_neg (by omega), if_pos ⟨rfl, hl⟩]; exact hM 85 l (by decide) (by decide)
  refine ⟨⟨T, t1, (hfF 1 l (by decide)).trans t2, e70.trans t3, fun t ht => ?_⟩, ⟨a, a1, e74.trans a2, (hfF 6 l (by decide)).trans a3⟩, fun z => ?_⟩
  · have hC : tC R2 k 0 (4 * l + t) := by
      unfold tC
      rw [show (4 * l + t) / 4 = l by omega, show (4 * l + t) % 4 = t by omega, hM 80 l (by decide) (by decide), t3, cl_nI (by omega)]
      exact ⟨Or.inl hl, ht⟩
    have eX : ∀ b, 71 ≤ b → b ≤ 73 → f b (4 * l + t) = M (b + 10) (4 * l + t) := fun b b1 b2 => by
      rw [hf b _ (by omega) (by omega)]; unfold cpM; rw [if_neg (by omega), if_neg (by omega), if_neg (by omega), if_neg (by omega), cif_t ⟨b1, b2, hC⟩]; exact hM _ _ (by omega) (by omega)
    have := t4 t ht
    unfold tsM at this
    unfold tsC
    rw [eX 71 (by decide) (by decide), eX 72 (by decide) (by decide), eX 73 (by decide) (by decide), hfF 2 _ (by decide), hfF 3 _ (by decide), hfF 4 _ (by decide), hfF 5 _ (by decide)]
    exact this
  · rw [e74] at z
    rw [e75, hfF 7 l (by decide)]
    exact b3 z
