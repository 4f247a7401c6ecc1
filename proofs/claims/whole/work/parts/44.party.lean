/-! ===== sets of people as bits; who hangs together ===== -/
noncomputable def mkN (S : Nat → Prop) : Nat → Int32
  | 0 => 0
  | n + 1 => cif (S n) (mkN S n ||| bitI n) (mkN S n)
theorem b_mkN (S : Nat → Prop) : ∀ n, n ≤ 32 → ∀ i, bt (mkN S n) i = true ↔ i < n ∧ S i
  | 0, _, i => by simp [mkN, b_0]
  | n + 1, hn, i => by
    have ih := b_mkN S n (by omega) i
    show bt (cif _ _ _) i = true ↔ _
    rcases Classical.em (S n) with c | c
    · rw [cif_t c, b_orI (by omega)]
      simp only [Bool.or_eq_true, decide_eq_true_eq, ih]
      constructor
      · rintro (⟨a, b⟩ | e)
        · exact ⟨by omega, b⟩
        · subst e; exact ⟨by omega, c⟩
      · rintro ⟨a, b⟩
        rcases Nat.lt_or_ge i n with z | z
        · exact Or.inl ⟨z, b⟩
        · exact Or.inr (by omega)
    · rw [cif_f c, ih]
      constructor
      · rintro ⟨a, b⟩; exact ⟨by omega, b⟩
      · rintro ⟨a, b⟩
        refine ⟨?_, b⟩
        rcases Nat.lt_or_ge i n with z | z
        · exact z
        · have : i = n := by omega
          subst this; exact absurd b c
noncomputable def mkB (S : Nat → Prop) : Int32 := mkN S 32
theorem b_mkB (S : Nat → Prop) (i : Nat) : bt (mkB S) i = true ↔ i < 32 ∧ S i := b_mkN S 32 (by omega) i
theorem b_ext2 {x y : Int32} (h : ∀ i, i < 32 → (bt x i = true ↔ bt y i = true)) : x = y := b_ext fun i hi => by
  have := h i hi
  cases hx : bt x i with
  | true => rw [this.mp hx]
  | false =>
    cases hy : bt y i with
    | false => rfl
    | true => rw [this.mpr hy] at hx; cases hx
theorem mkB_is {S : Nat → Prop} {g : Int32} (h : ∀ i, i < 32 → (bt g i = true ↔ S i)) : g = mkB S := b_ext2 fun i hi => by
  rw [b_mkB, h i hi]; exact ⟨fun a => ⟨hi, a⟩, fun a => a.2⟩
/-- from p one comes to i by TOGETHER, through those of am alone -/
def Rch (I : Nat → Nat → Int32) (P : Nat) (am : Int32) (p i : Nat) : Prop := ∀ S : Nat → Prop, S p → clo I P am S → S i
/-- TOGETHER is among the people -/
def Tg (I : Nat → Nat → Int32) (P : Nat) : Prop := ∀ q i, q < P → bt (I 63 q) i = true → i < P
theorem Rch_rfl {I : Nat → Nat → Int32} {P : Nat} {am : Int32} {p : Nat} : Rch I P am p p := fun _ h _ => h
theorem Rch_tr {I : Nat → Nat → Int32} {P : Nat} {am : Int32} {p q i : Nat} (h1 : Rch I P am p q) (h2 : Rch I P am q i) : Rch I P am p i := fun S a b => h2 S (h1 S a b) b
theorem Rch_step {I : Nat → Nat → Int32} {P : Nat} {am : Int32} {p i : Nat} (hp : p < P) (h1 : bt (I 63 p) i = true) (h2 : bt am i = true) : Rch I P am p i := fun _ a b => b p i hp a h1 h2
theorem Rch_mono {I : Nat → Nat → Int32} {P : Nat} {am am2 : Int32} {p i : Nat} (h : ∀ j, bt am j = true → bt am2 j = true) (h1 : Rch I P am p i) : Rch I P am2 p i := fun S a b => h1 S a (fun q j hq hs hb hj => b q j hq hs hb (h j hj))
theorem Rch_in {I : Nat → Nat → Int32} {P : Nat} {am : Int32} {p i : Nat} (hT : Tg I P) (hp : p < P) (ha : bt am p = true) (h1 : Rch I P am p i) : i < P ∧ bt am i = true := h1 (fun x => x < P ∧ bt am x = true) ⟨hp, ha⟩ (fun q j hq _ hb hj => ⟨hT q j hq hb, hj⟩)
theorem Rch_sym {I : Nat → Nat → Int32} {P : Nat} {am : Int32} {p i : Nat} (hP : P ≤ 24) (hS : Sy I) (hT : Tg I P) (hp : p < P) (ha : bt am p = true) (h1 : Rch I P am p i) : Rch I P am i p := by
  refine (h1 (fun x => x < P ∧ bt am x = true ∧ Rch I P am x p) ⟨hp, ha, Rch_rfl⟩ (fun q j hq hs hb hj => ?_)).2.2
  have hjP := hT q j hq hb
  refine ⟨hjP, hj, Rch_tr (Rch_step hjP ?_ hs.2.1) hs.2.2⟩
  rw [(hS j q (by omega) (by omega)).2]; exact hb
theorem m1_bt {i : Nat} (h : i < 32) : bt (-1) i = true := b_m1 i h
/-- one of those who hang together with p is not among am -/
def lacks (I : Nat → Nat → Int32) (P : Nat) (am : Int32) (p : Nat) : Prop := ∃ i, Rch I P (-1) p i ∧ bt am i = false
theorem Rch_all {I : Nat → Nat → Int32} {P : Nat} {am : Int32} {p i : Nat} (hP : P ≤ 24) (hT : Tg I P) (h : Rch I P am p i) : Rch I P (-1) p i := fun S a b => h S a (fun q j hq hs hb _ => b q j hq hs hb (m1_bt (by have := hT q j hq hb; omega)))
theorem lacks_iff {I : Nat → Nat → Int32} {P : Nat} {am : Int32} {p : Nat} (hP : P ≤ 24) (hT : Tg I P) (hp : p < P) (ha : bt am p = true) : (∃ q, q < P ∧ Rch I P am p q ∧ ¬ I 63 q &&& (am ^^^ (-1)) = 0) ↔ lacks I P am p := by
  constructor
  · rintro ⟨q, hq, hr, hn⟩
    have : ∃ i, bt (I 63 q) i = true ∧ bt am i = false := by
      refine Classical.byContradiction fun hno => hn (and0.mpr fun i hi => ?_)
      rcases Nat.lt_or_ge i 32 with z | z
      · rw [b_xor, b_m1 i z]
        cases hb : bt am i with
        | true => rfl
        | false => exact absurd ⟨i, hi, hb⟩ hno
      · exact b_big z
    obtain ⟨i, h1, h2⟩ := this
    exact ⟨i, Rch_tr (Rch_all hP hT hr) (Rch_step hq h1 (m1_bt (by have := hT q i hq h1; omega))), h2⟩
  · rintro ⟨i, h1, h2⟩
    refine Classical.byContradiction fun hno => ?_
    have hS := h1 (fun x => Rch I P am p x) Rch_rfl (fun q j hq hs hb _ => by
      refine Rch_tr hs (Rch_step hq hb ?_)
      cases hj : bt am j with
      | true => rfl
      | false =>
        refine absurd ⟨q, hq, hs, fun z => ?_⟩ hno
        have z2 := and0.mp z j hb
        rw [b_xor, hj, m1_bt (by have := hT q j hq hb; omega)] at z2
        cases z2)
    have := (Rch_in hT hp ha hS).2
    rw [h2] at this; cases this
theorem nolacks {I : Nat → Nat → Int32} {P : Nat} {am : Int32} {p i : Nat} (hn : ¬ lacks I P am p) (h : Rch I P (-1) p i) : Rch I P am p i := by
  have := h (fun x => Rch I P (-1) p x ∧ Rch I P am p x) ⟨Rch_rfl, Rch_rfl⟩ (fun q j hq hs hb hj => by
    have h1 : Rch I P (-1) p j := Rch_tr hs.1 (Rch_step hq hb hj)
    refine ⟨h1, Rch_tr hs.2 (Rch_step hq hb ?_)⟩
    cases hz : bt am j with
    | true => rfl
    | false => exact absurd ⟨j, h1, hz⟩ hn)
  exact this.2
theorem lacks_cl {I : Nat → Nat → Int32} {P : Nat} {am : Int32} {p q : Nat} (h : Rch I P (-1) p q) (hl : lacks I P am q) : lacks I P am p := by
  obtain ⟨i, a, b⟩ := hl
  exact ⟨i, Rch_tr h a, b⟩
/-! what a step of taking decides -/
def rmI (I : Nat → Nat → Int32) (r : Nat) (x : Int32) : Nat → Nat → Int32 := fun a i => if a = 88 ∧ i < 4 then (if i = r then x else 0) else I a i
def FAI (I : Nat → Nat → Int32) (R P : Nat) (g : Int32) (r : Nat) : Prop := ∀ p, p < P → bt g p = true → mayF (rmI I r (lwB g p)) R p r
noncomputable def grp (I : Nat → Nat → Int32) (P p : Nat) : Int32 := mkB (Rch I P (-1) p)
noncomputable def cdS (I : Nat → Nat → Int32) (R P : Nat) (am T : Int32) (p : Nat) : Int32 := cif (lacks I P am p) 3 (cif (∃ r, r < R ∧ FAI I R P (grp I P p) r) (cif (Fit (rmI I 4 0) R (T ||| grp I P p)) 0 5) 4)
noncomputable def tkS (I : Nat → Nat → Int32) (R P : Nat) (am : Int32) (o : Nat → Nat) : Nat → Int32
  | 0 => 0
  | k + 1 => cif ((∀ j, j < k → ¬ Rch I P (-1) (o j) (o k)) ∧ cdS I R P am (tkS I R P am o k) (o k) = 0) (tkS I R P am o k ||| grp I P (o k)) (tkS I R P am o k)
noncomputable def amS (o : Nat → Nat) (n : Nat) : Int32 := mkB (fun q => ∃ j, j < n ∧ o j = q)
noncomputable def whyT (I : Nat → Nat → Int32) (R P : Nat) (o : Nat → Nat) (n q : Nat) : Int32 := cdS I R P (amS o n) (tkS I R P (amS o n) o (lst (fun j => j < n ∧ Rch I P (-1) (o j) q))) (o (lst (fun j => j < n ∧ Rch I P (-1) (o j) q)))
/-! what placings read -/
def sameM (f g : Nat → Nat → Int32) : Prop := (∀ a, 47 ≤ a → a ≤ 63 → a ≠ 58 → a ≠ 59 → a ≠ 60 → a ≠ 52 → f a = g a) ∧ f 44 56 = g 44 56 ∧ ∀ i, i < 4 → f 88 i = g 88 i
theorem sameM.sym {f g : Nat → Nat → Int32} (h : sameM f g) : sameM g f := ⟨fun a a1 a2 a3 a4 a5 a6 => (h.1 a a1 a2 a3 a4 a5 a6).symm, h.2.1.symm, fun i hi => (h.2.2 i hi).symm⟩
theorem capF_same {f g : Nat → Nat → Int32} (h : sameM f g) (r : Nat) : capF f r = capF g r := by
  unfold capF
  rw [h.2.1, h.1 47 (by decide) (by decide) (by decide) (by decide) (by decide) (by decide), h.1 48 (by decide) (by decide) (by decide) (by decide) (by decide) (by decide)]
theorem mayF_same {f g : Nat → Nat → Int32} (h : sameM f g) {R k r : Nat} (hR : R ≤ 4) (hr : r < 4) (hm : mayF f R k r) : mayF g R k r := by
  have e : ∀ a, 47 ≤ a → a ≤ 63 → a ≠ 58 → a ≠ 59 → a ≠ 60 → a ≠ 52 → g a = f a := fun a a1 a2 a3 a4 a5 a6 => (h.1 a a1 a2 a3 a4 a5 a6).symm
  have e8 : ∀ i, i < 4 → g 88 i = f 88 i := fun i hi => (h.2.2 i hi).symm
  obtain ⟨m0, m1, m2, m3, m4', m5⟩ := hm
  unfold my0 at m0
  unfold my1 at m1
  unfold my2 at m2
  unfold my3 at m3
  unfold my4 at m4'
  unfold my5 at m5
  refine ⟨?_, ?_, ?_, ?_, ?_, ?_⟩
  · unfold my0
    rw [← capF_same h, e8 r hr, e 62 (by decide) (by decide) (by decide) (by decide) (by decide) (by decide)]; exact m0
  · unfold my1
    rw [e 51 (by decide) (by decide) (by decide) (by decide) (by decide) (by decide), e 54 (by decide) (by decide) (by decide) (by decide) (by decide) (by decide)]; exact m1
  · unfold my2
    rw [e 49 (by decide) (by decide) (by decide) (by decide) (by decide) (by decide), e 55 (by decide) (by decide) (by decide) (by decide) (by decide) (by decide)]; exact m2
  · unfold my3
    rw [e 50 (by decide) (by decide) (by decide) (by decide) (by decide) (by decide), e 56 (by decide) (by decide) (by decide) (by decide) (by decide) (by decide)]; exact m3
  · unfold my4
    rw [e8 r hr, e 57 (by decide) (by decide) (by decide) (by decide) (by decide) (by decide)]; exact m4'
  · unfold my5
    intro q hq hne
    rw [e8 q (by omega), e 63 (by decide) (by decide) (by decide) (by decide) (by decide) (by decide)]; exact m5 q hq hne
theorem Ok_same {f g : Nat → Nat → Int32} (h : sameM f g) {R : Nat} {left : Int32} {F : Nat → Nat} (hR : R ≤ 4) (hO : Ok f R left F) : Ok g R left F := by
  have e : ∀ a, 47 ≤ a → a ≤ 63 → a ≠ 58 → a ≠ 59 → a ≠ 60 → a ≠ 52 → g a = f a := fun a a1 a2 a3 a4 a5 a6 => (h.1 a a1 a2 a3 a4 a5 a6).symm
  have e8 : ∀ i, i < 4 → g 88 i = f 88 i := fun i hi => (h.2.2 i hi).symm
  refine ⟨fun p hp => ?_, fun r hr => ?_⟩
  · obtain ⟨h1, ⟨s1, s2, s3⟩, h3, h4, h5, h6⟩ := hO.1 p hp
    unfold my1 at s1
    unfold my2 at s2
    unfold my3 at s3
    refine ⟨h1, ⟨?_, ?_, ?_⟩, ?_, ?_, ?_, ?_⟩
    · unfold my1
      rw [e 51 (by decide) (by decide) (by decide) (by decide) (by decide) (by decide), e 54 (by decide) (by decide) (by decide) (by decide) (by decide) (by decide)]; exact s1
    · unfold my2
      rw [e 49 (by decide) (by decide) (by decide) (by decide) (by decide) (by decide), e 55 (by decide) (by decide) (by decide) (by decide) (by decide) (by decide)]; exact s2
    · unfold my3
      rw [e 50 (by decide) (by decide) (by decide) (by decide) (by decide) (by decide), e 56 (by decide) (by decide) (by decide) (by decide) (by decide) (by decide)]; exact s3
    · rw [e8 _ (by omega), e 62 (by decide) (by decide) (by decide) (by decide) (by decide) (by decide)]; exact h3
    · rw [e8 _ (by omega), e 57 (by decide) (by decide) (by decide) (by decide) (by decide) (by decide)]; exact h4
    · intro q hq hne
      rw [e8 q (by omega), e 63 (by decide) (by decide) (by decide) (by decide) (by decide) (by decide)]; exact h5 q hq hne
    · rw [e 62 (by decide) (by decide) (by decide) (by decide) (by decide) (by decide), e 63 (by decide) (by decide) (by decide) (by decide) (by decide) (by decide), e 57 (by decide) (by decide) (by decide) (by decide) (by decide) (by decide)]; exact h6
  · have := hO.2 r hr
    unfold capN at this ⊢
    rw [← capF_same h, e8 r (by omega)]; exact this
theorem Fit_same {f g : Nat → Nat → Int32} (h : sameM f g) {R : Nat} {left : Int32} (hR : R ≤ 4) : Fit f R left ↔ Fit g R left :=
  ⟨fun ⟨F, a⟩ => ⟨F, Ok_same h hR a⟩, fun ⟨F, a⟩ => ⟨F, Ok_same h.sym hR a⟩⟩
theorem rmI_same {f g : Nat → Nat → Int32} (h1 : ∀ a, 47 ≤ a → a ≤ 63 → a ≠ 58 → a ≠ 59 → a ≠ 60 → a ≠ 52 → f a = g a) (h2 : f 44 56 = g 44 56) (r : Nat) (x : Int32) : sameM (rmI f r x) (rmI g r x) := by
  refine ⟨fun a a1 a2 a3 a4 a5 a6 => ?_, ?_, fun i hi => ?_⟩
  · funext i
    show (if a = 88 ∧ i < 4 then _ else f a i) = (if a = 88 ∧ i < 4 then _ else g a i)
    rw [if_neg (fun q => by omega), if_neg (fun q => by omega), h1 a a1 a2 a3 a4 a5 a6]
  · exact h2
  · have hc : 88 = 88 ∧ i < 4 := ⟨rfl, hi⟩
    show (if 88 = 88 ∧ i < 4 then (if i = r then x else 0) else f 88 i) = (if 88 = 88 ∧ i < 4 then (if i = r then x else 0) else g 88 i)
    rw [if_pos hc, if_pos hc]
theorem FAI_same {f g : Nat → Nat → Int32} (h1 : ∀ a, 47 ≤ a → a ≤ 63 → a ≠ 58 → a ≠ 59 → a ≠ 60 → a ≠ 52 → f a = g a) (h2 : f 44 56 = g 44 56) {R P r : Nat} {x : Int32} (hR : R ≤ 4) (hr : r < 4) : FAI f R P x r ↔ FAI g R P x r :=
  ⟨fun h p a b => mayF_same (rmI_same h1 h2 _ _) hR hr (h p a b), fun h p a b => mayF_same (rmI_same h1 h2 _ _).sym hR hr (h p a b)⟩
