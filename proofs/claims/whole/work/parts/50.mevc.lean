/-! ===== what an evening reads: memories that agree ===== -/
theorem cif_c {α : Type} {p q : Prop} {a b a2 b2 : α} (h : p ↔ q) (h1 : a = a2) (h2 : b = b2) : cif p a b = cif q a2 b2 := by
  rw [propext h, h1, h2]
def sameK (f g : Nat → Nat → Int32) : Prop := (∀ a, 47 ≤ a → a ≤ 63 → a ≠ 52 → f a = g a) ∧ f 44 56 = g 44 56
theorem sameK.m {f g : Nat → Nat → Int32} (h : sameK f g) : ∀ a, 47 ≤ a → a ≤ 63 → a ≠ 58 → a ≠ 59 → a ≠ 60 → a ≠ 52 → f a = g a := fun a a1 a2 _ _ _ a6 => h.1 a a1 a2 a6
theorem Rch_k {f g : Nat → Nat → Int32} (h : sameK f g) : Rch f = Rch g := by
  funext P am p i
  unfold Rch clo
  rw [h.1 63 (by decide) (by decide) (by decide)]
theorem grp_k {f g : Nat → Nat → Int32} (h : sameK f g) (P p : Nat) : grp f P p = grp g P p := by
  unfold grp
  rw [Rch_k h]
theorem cdS_k {f g : Nat → Nat → Int32} (h : sameK f g) {R : Nat} (hR : R ≤ 4) (P : Nat) (am T : Int32) (p : Nat) : cdS f R P am T p = cdS g R P am T p := by
  unfold cdS lacks
  rw [Rch_k h, grp_k h]
  refine cif_c Iff.rfl rfl (cif_c ⟨fun ⟨r, a, b⟩ => ⟨r, a, (FAI_same h.m h.2 hR (by omega)).mp b⟩, fun ⟨r, a, b⟩ => ⟨r, a, (FAI_same h.m h.2 hR (by omega)).mpr b⟩⟩ (cif_c (Fit_same (rmI_same h.m h.2 4 0) hR) rfl rfl) rfl)
theorem tkS_k {f g : Nat → Nat → Int32} (h : sameK f g) {R : Nat} (hR : R ≤ 4) (P : Nat) (am : Int32) (o : Nat → Nat) : ∀ k, tkS f R P am o k = tkS g R P am o k
  | 0 => rfl
  | k + 1 => by
    have ih := tkS_k h hR P am o k
    show cif _ _ _ = cif _ _ _
    rw [ih, cdS_k h hR, Rch_k h, grp_k h]
theorem whyT_k {f g : Nat → Nat → Int32} (h : sameK f g) {R : Nat} (hR : R ≤ 4) (P : Nat) (o : Nat → Nat) (n q : Nat) : whyT f R P o n q = whyT g R P o n q := by
  unfold whyT
  rw [Rch_k h, tkS_k h hR, cdS_k h hR]
theorem Ext_k {f g : Nat → Nat → Int32} (h : sameM f g) {R : Nat} (hR : R ≤ 4) (tk : Int32) (F : Nat → Nat) : Ext f R tk F = Ext g R tk F := by
  funext p r
  exact propext ⟨fun ⟨x, a, b⟩ => ⟨x, Ok_same h hR a, b⟩, fun ⟨x, a, b⟩ => ⟨x, Ok_same h.sym hR a, b⟩⟩
theorem pick_k {f g : Nat → Nat → Int32} (h : sameM f g) (h60 : f 60 = g 60) {R : Nat} (hR : R ≤ 4) (tk : Int32) (F : Nat → Nat) (p : Nat) : pick f R tk F p = pick g R tk F p := by
  unfold pick
  rw [Ext_k h hR, h60]
theorem plF_k {f g : Nat → Nat → Int32} (h : sameM f g) (h60 : f 60 = g 60) {R : Nat} (hR : R ≤ 4) (tk : Int32) : ∀ p, plF f R tk p = plF g R tk p
  | 0 => rfl
  | p + 1 => by
    have ih := plF_k h h60 hR tk p
    show cif _ _ _ = cif _ _ _
    rw [ih, pick_k h h60 hR]
theorem fit_00 {I : Nat → Nat → Int32} {R : Nat} (h : ∀ r, r < R → I 88 r = 0) : Fit I R 0 := by
  refine ⟨fun _ => 0, fun p hp => (by rw [b_0] at hp; cases hp), fun r hr => ?_⟩
  have e : (fun p => bt 0 p && decide ((fun _ => 0) p = r)) = fun _ => false := by funext p; rw [b_0]; rfl
  rw [h r hr, pct_0, e]
  have : ∀ n, fb_ct (fun _ => false) n = 0 := fun n => by
    induction n with
    | zero => rfl
    | succ n ih => rw [fb_ct, ih]; rfl
  rw [this]
  omega
theorem tkS_fit (I : Nat → Nat → Int32) {R : Nat} (hR : R ≤ 4) (P : Nat) (am : Int32) (o : Nat → Nat) : ∀ k, Fit (rmI I 4 0) R (tkS I R P am o k)
  | 0 => fit_00 (fun r hr => by
    show (if 88 = 88 ∧ r < 4 then (if r = 4 then 0 else 0) else I 88 r) = 0
    rw [if_pos ⟨rfl, by omega⟩, if_neg (by omega)])
  | k + 1 => by
    have ih := tkS_fit I hR P am o k
    show Fit _ _ (cif _ _ _)
    rcases Classical.em ((∀ j, j < k → ¬ Rch I P (-1) (o j) (o k)) ∧ cdS I R P am (tkS I R P am o k) (o k) = 0) with q | q
    · rw [cif_t q]
      have q2 := q.2
      rcases Classical.em (lacks I P am (o k)) with c1 | c1
      · rw [cdS_3 c1] at q2; exact absurd q2 (by decide)
      · rcases Classical.em (∃ r, r < R ∧ FAI I R P (grp I P (o k)) r) with c2 | c2
        · rcases Classical.em (Fit (rmI I 4 0) R (tkS I R P am o k ||| grp I P (o k))) with c3 | c3
          · exact c3
          · rw [cdS_5 c1 c2 c3] at q2; exact absurd q2 (by decide)
        · rw [cdS_4 c1 c2] at q2; exact absurd q2 (by decide)
    · rw [cif_f q]; exact ih
theorem ordS_inj (I : Nat → Nat → Int32) (E Ln : Nat) (door cold : Int32) : ∀ p, ∀ i j, i < (ordS I E Ln door cold p).1 → j < (ordS I E Ln door cold p).1 → (ordS I E Ln door cold p).2 i = (ordS I E Ln door cold p).2 j → i = j
  | 0 => fun i j hi => absurd hi (Nat.not_lt_zero _)
  | p + 1 => by
    have ih := ordS_inj I E Ln door cold p
    have h2 := (ordS_ok I E Ln door cold p).2
    rcases Classical.em (inO I E Ln door cold p) with q | q
    · have e : ordS I E Ln door cold (p + 1) = ((ordS I E Ln door cold p).1 + 1, insO (ordS I E Ln door cold p).2 (posF (fun j => ahd (fun q => ptsF I E q Ln cold) (I 59) p ((ordS I E Ln door cold p).2 j)) (ordS I E Ln door cold p).1) p) := cif_t q
      rw [e]
      have hk := posF_le (fun j => ahd (fun q => ptsF I E q Ln cold) (I 59) p ((ordS I E Ln door cold p).2 j)) (ordS I E Ln door cold p).1
      generalize posF (fun j => ahd (fun q => ptsF I E q Ln cold) (I 59) p ((ordS I E Ln door cold p).2 j)) (ordS I E Ln door cold p).1 = k at hk ⊢
      generalize ordS I E Ln door cold p = s at ih h2 hk ⊢
      intro i j hi hj he
      simp only at hi hj he
      unfold insO at he
      have l1 := fun x (hx : x < s.1) => (h2 x hx).1
      by_cases i1 : i < k
      · rw [if_pos i1] at he
        by_cases j1 : j < k
        · rw [if_pos j1] at he; exact ih i j (by omega) (by omega) he
        · rw [if_neg j1] at he
          by_cases j2 : j = k
          · rw [if_pos j2] at he; have := l1 i (by omega); omega
          · rw [if_neg j2] at he; have := ih i (j - 1) (by omega) (by omega) he; omega
      · rw [if_neg i1] at he
        by_cases i2 : i = k
        · rw [if_pos i2] at he
          by_cases j1 : j < k
          · rw [if_pos j1] at he; have := l1 j (by omega); omega
          · rw [if_neg j1] at he
            by_cases j2 : j = k
            · omega
            · rw [if_neg j2] at he; have := l1 (j - 1) (by omega); omega
        · rw [if_neg i2] at he
          by_cases j1 : j < k
          · rw [if_pos j1] at he; have := ih (i - 1) j (by omega) (by omega) he; omega
          · rw [if_neg j1] at he
            by_cases j2 : j = k
            · rw [if_pos j2] at he; have := l1 (i - 1) (by omega); omega
            · rw [if_neg j2] at he; have := ih (i - 1) (j - 1) (by omega) (by omega) he; omega
    · have e : ordS I E Ln door cold (p + 1) = ordS I E Ln door cold p := cif_f q
      rw [e]; exact ih
theorem plS_at (f : Nat → Nat → Int32) (o : Nat → Nat) : ∀ n, (∀ i j, i < n → j < n → o i = o j → i = j) → ∀ j, j < n → plS f o n 79 (o j) = nI j
  | 0, _, j, hj => absurd hj (Nat.not_lt_zero _)
  | n + 1, hi, j, hj => by
    show u2 (plS f o n) 79 (o n) (nI n) 79 (o j) = _
    by_cases e : j = n
    · subst e; rw [u2_eq]
    · rw [u2_ne (fun z => e (hi j n hj (by omega) z.2))]
      exact plS_at f o n (fun a b c d => hi a b (by omega) (by omega)) j (by omega)
theorem plS_no (f : Nat → Nat → Int32) (o : Nat → Nat) (q : Nat) : ∀ n, (¬ ∃ j, j < n ∧ o j = q) → plS f o n 79 q = f 79 q
  | 0, _ => rfl
  | n + 1, h => by
    show u2 (plS f o n) 79 (o n) (nI n) 79 q = _
    rw [u2_ne (fun z => h ⟨n, by omega, z.2.symm⟩)]
    exact plS_no f o q n (fun ⟨j, a, b⟩ => h ⟨j, by omega, b⟩)
/-- the places that an evening speaks of behind the placing -/
def evA (a i : Nat) : Prop := a ≠ 78 ∧ a ≠ 79 ∧ a ≠ 86 ∧ a ≠ 87 ∧ ¬ (a = 44 ∧ i = 53) ∧ (a = 88 → i < 4)
theorem evA_of {a : Nat} (i : Nat) (h : a ≠ 78 ∧ a ≠ 79 ∧ a ≠ 86 ∧ a ≠ 87 ∧ a ≠ 44 ∧ a ≠ 88) : evA a i := ⟨h.1, h.2.1, h.2.2.1, h.2.2.2.1, fun z => h.2.2.2.2.1 z.1, fun z => absurd z h.2.2.2.2.2⟩
def ag (f g : Nat → Nat → Int32) : Prop := ∀ a i, evA a i → f a i = g a i
theorem u2_ag {f g : Nat → Nat → Int32} (h : ag f g) (b j : Nat) (v : Int32) : ag (u2 f b j v) (u2 g b j v) := fun a i ha => by
  unfold u2
  split
  · rfl
  · exact h a i ha
theorem hlM_ag {f g : Nat → Nat → Int32} (h : ag f g) (C : Int32) (d k : Nat) : ag (hlM f C d k) (hlM g C d k) := fun a i ha => by
  unfold hlM
  rw [h 67 i (evA_of i (by decide)), h 68 i (evA_of i (by decide)), h a i ha]
theorem bk0_ag {f g : Nat → Nat → Int32} (h : ag f g) (R E : Nat) (T those C : Int32) (w : Nat) (K : Int32) : ag (bk0 f R E T those C w K) (bk0 g R E T those C w K) := by
  unfold bk0
  exact u2_ag (u2_ag (u2_ag (u2_ag (u2_ag (u2_ag h _ _ _) _ _ _) _ _ _) _ _ _) _ _ _) _ _ _
theorem bkL_ag {f g : Nat → Nat → Int32} (h : ag f g) {R : Nat} (hR : R ≤ 4) (E j : Nat) : ag (bkL f R E j) (bkL g R E j) := fun a i ha => by
  unfold bkL
  rw [h a i ha]
  by_cases c : a = 77 ∧ 10 * E + 5 ≤ i ∧ i < 10 * E + 5 + j
  · rw [if_pos c, if_pos c]
    by_cases c2 : i - (10 * E + 5) < R
    · rw [if_pos c2, if_pos c2, h 88 _ ⟨by decide, by decide, by decide, by decide, fun z => absurd z.1 (by decide), fun _ => by omega⟩]
    · rw [if_neg c2, if_neg c2]
  · rw [if_neg c, if_neg c]
theorem ppM_ag {f g : Nat → Nat → Int32} (h : ag f g) (T those : Int32) (F : Nat → Nat) (k : Nat) : ag (ppM f T those F k) (ppM g T those F k) := fun a i ha => by
  unfold ppM
  rw [h 58 i (evA_of i (by decide)), h 59 i (evA_of i (by decide)), h a i ha]
theorem bstF_c {f g : Nat → Nat → Int32} (h : ∀ a, 65 ≤ a → a ≤ 68 → f a = g a) (d : Nat) (c : Int32) : ∀ H, bstF f d c H = bstF g d c H
  | 0 => rfl
  | H + 1 => by
    show cif _ _ _ = cif _ _ _
    unfold canH
    rw [bstF_c h d c H, h 65 (by decide) (by decide), h 66 (by decide) (by decide), h 67 (by decide) (by decide), h 68 (by decide) (by decide)]
theorem calF_c {f g : Nat → Nat → Int32} (h : ∀ a, 65 ≤ a → a ≤ 68 → f a = g a) (H d : Nat) : ∀ n, calF f H d n = calF g H d n
  | 0 => rfl
  | n + 1 => by
    show oBit _ _ = oBit _ _
    rw [calF_c h H d n, bstF_c h]
theorem wnF_c {f g : Nat → Nat → Int32} (T : Int32) : ∀ R, (∀ r, r < R → f 88 r = g 88 r) → wnF f T R = wnF g T R
  | 0, _ => rfl
  | R + 1, h => by rw [wnF_s, wnF_s, wnF_c T R (fun r hr => h r (by omega)), h R (by omega)]
theorem evC_ag {f g : Nat → Nat → Int32} (h : ag f g) {R : Nat} (hR : R ≤ 4) (H E : Nat) (T : Int32) : evC f R H E T = evC g R H E T := by
  unfold evC
  rw [wnF_c T R (fun r hr => h 88 r ⟨by decide, by decide, by decide, by decide, fun z => absurd z.1 (by decide), fun _ => by omega⟩)]
  exact calF_c (fun a a1 a2 => funext fun i => h a i (evA_of i (by omega))) _ _ _
theorem evD_ag {f g : Nat → Nat → Int32} (h : ag f g) {R : Nat} (hR : R ≤ 4) (P H E : Nat) (T those : Int32) (F : Nat → Nat) : ag (evD f R P H E T those F) (evD g R P H E T those F) := by
  unfold evD
  rw [evC_ag h hR, wnF_c T R (fun r hr => h 88 r ⟨by decide, by decide, by decide, by decide, fun z => absurd z.1 (by decide), fun _ => by omega⟩), h 44 56 ⟨by decide, by decide, by decide, by decide, fun z => absurd z.2 (by decide), fun z => absurd z (by decide)⟩]
  exact u2_ag (ppM_ag (bkL_ag (bk0_ag (hlM_ag h _ _ _) _ _ _ _ _ _ _) hR _ _) _ _ _ _) _ _ _
theorem evD_78 (f : Nat → Nat → Int32) (R P H E : Nat) (T those : Int32) (F : Nat → Nat) {a : Nat} (h : a = 78 ∨ a = 79) (i : Nat) : evD f R P H E T those F a i = f a i := by
  have h1 : a ≠ 58 ∧ a ≠ 59 ∧ a ≠ 60 ∧ a ≠ 67 ∧ a ≠ 68 ∧ a ≠ 77 ∧ a ≠ 76 := by omega
  unfold evD
  rw [u2_ne (fun z => h1.2.2.2.2.2.2 z.1), ppM_o _ _ _ _ _ h1.1 h1.2.1 h1.2.2.1, bb_o _ _ _ _ _ _ _ _ _ _ _ _ h1.2.2.2.1 h1.2.2.2.2.1 h1.2.2.2.2.2.1]
