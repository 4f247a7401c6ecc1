/-! ===== what the class asks of a party is what the reference asks of its people ===== -/
def EC (f J : Mem) (R P : Nat) : Prop :=
  (∀ r, r < R → (∃ c, c ≤ 9 ∧ capF J r = nI c) ∧ cpX f r = capF J r ∧ (bt (f 12 4) r = true ↔ J 49 r = 1) ∧ (bt (f 12 5) r = true ↔ ¬ J 50 r = 0) ∧ f 15 r = J 51 r) ∧ ∀ p, p < P → f 18 p = J 54 p ∧ f 19 p = J 57 p ∧ f 23 p = J 62 p ∧ (bt (f 16 10) p = true ↔ ¬ J 55 p = 0) ∧ (bt (f 16 11) p = true ↔ J 56 p = 1)
def inP (g : Int32) (P : Nat) : Prop := ∀ p, bt g p = true → p < P
theorem capN_of {J : Mem} {r c : Nat} (hc : c ≤ 9) (h : capF J r = nI c) : capN J r = c := by unfold capN; rw [h, cl_nI (by omega)]
theorem suF_iff {f J : Mem} {R P r : Nat} {g : Int32} (he : EC f J R P) (hP : P ≤ 24) (hr : r < R) (hg : inP g P) : suF f r g P ↔ pct g ≤ capN J r ∧ ∀ p, bt g p = true → okS J p r := by
  obtain ⟨⟨c, hc, ec⟩, h1, h2, h3, h4⟩ := he.1 r hr
  have hpc := pct_le g
  unfold suF
  rw [h1, ec, nI_leI (by omega) (by omega), capN_of hc ec, h4]
  constructor
  · rintro ⟨a, b, d, e⟩
    refine ⟨a, fun p hp => ⟨?_, fun z => ?_, fun z => ?_⟩⟩
    · obtain ⟨k1, k2, k3, k4, k5⟩ := he.2 p (hg p hp)
      rcases e with e | e
      · exact Or.inl e
      · exact Or.inr (by rw [← k1]; exact (e p (hg p hp) hp).symm)
    · obtain ⟨k1, k2, k3, k4, k5⟩ := he.2 p (hg p hp)
      have := and0.mp (b (h2.mpr z.1)) p hp
      rw [b_xor, b_m1 p (by have := hg p hp; omega)] at this
      have hcl : bt (f 16 10) p = true := by
        cases hb : bt (f 16 10) p with
        | true => rfl
        | false => rw [hb] at this; cases this
      exact k4.mp hcl z.2
    · obtain ⟨k1, k2, k3, k4, k5⟩ := he.2 p (hg p hp)
      rcases d with d | d
      · exact h3.mp d z.1
      · have := and0.mp d p hp
        rw [k5.mpr z.2] at this; cases this
  · rintro ⟨a, b⟩
    refine ⟨a, fun z => ?_, ?_, ?_⟩
    · refine and0.mpr (fun p hp => ?_)
      obtain ⟨k1, k2, k3, k4, k5⟩ := he.2 p (hg p hp)
      rw [b_xor, b_m1 p (by have := hg p hp; omega)]
      have : bt (f 16 10) p = true := k4.mpr (fun y => (b p hp).2.1 ⟨h2.mp z, y⟩)
      rw [this]; rfl
    · rcases Classical.em (bt (f 12 5) r = true) with q | q
      · exact Or.inl q
      · right
        refine and0.mpr (fun p hp => ?_)
        obtain ⟨k1, k2, k3, k4, k5⟩ := he.2 p (hg p hp)
        have h50 : J 50 r = 0 := Classical.not_not.mp (fun y => q (h3.mpr y))
        cases hb : bt (f 16 11) p with
        | false => rfl
        | true => exact absurd ⟨h50, k5.mp hb⟩ (b p hp).2.2
    · rcases Classical.em (J 51 r = 0) with q | q
      · exact Or.inl q
      · right
        intro p hpP hp
        obtain ⟨k1, k2, k3, k4, k5⟩ := he.2 p hpP
        rcases (b p hp).1 with y | y
        · exact absurd y q
        · rw [k1, y]
/-- one party in one room by itself -/
def one1 (J : Mem) (g : Int32) : Prop := ∀ p q, bt g p = true → bt g q = true → p ≠ q → bt (J 62 p) q = false ∧ J 57 p = J 57 q
theorem b_lwB (g : Int32) : ∀ p, p ≤ 32 → ∀ i, bt (lwB g p) i = (bt g i && decide (i < p))
  | 0, _, i => by simp [lwB, b_0]
  | p + 1, hp, i => by
    have ih := b_lwB g p (by omega) i
    unfold lwB
    by_cases c : bt g p = true
    · rw [if_pos c, b_orI (by omega), ih]
      by_cases e : i = p
      · subst e; simp [c]
      · have e2 : decide (i < p) = decide (i < p + 1) := decide_eq_decide.mpr (by omega)
        simp [e, e2]
    · rw [if_neg c, ih]
      by_cases e : i = p
      · subst e
        have : bt g i = false := by simpa using c
        simp [this]
      · have e2 : decide (i < p) = decide (i < p + 1) := decide_eq_decide.mpr (by omega)
        rw [e2]
theorem pct_lwB (g : Int32) (p : Nat) (hp : p ≤ 32) : pct (lwB g p) = fb_ct (bt g) p := by
  rw [pct_ct]
  obtain ⟨d, hd⟩ : ∃ d, 32 = p + d := ⟨32 - p, by omega⟩
  have h0 := fb_ct_split (bt (lwB g p)) p d
  rw [← hd] at h0
  rw [h0]
  have h1 : fb_ct (bt (lwB g p)) p = fb_ct (bt g) p := fb_ct_cong (fun k hk => by rw [b_lwB g p hp]; simp [hk])
  have h2 : fb_ct (fun k => bt (lwB g p) (p + k)) d = 0 := fb_ct_zero.mpr (fun k _ => by
    rw [b_lwB g p hp]
    simp)
  rw [h1, h2]; rfl
theorem rmI_ne (J : Mem) (r : Nat) (x : Int32) {a : Nat} (h : a ≠ 88) : rmI J r x a = J a := funext fun i => if_neg (fun z => h z.1)
theorem rmI_at (J : Mem) {r : Nat} (x : Int32) (hr : r < 4) : rmI J r x 88 r = x := by
  show (if 88 = 88 ∧ r < 4 then (if r = r then x else 0) else J 88 r) = x
  rw [if_pos ⟨rfl, hr⟩, if_pos rfl]
theorem rmI_88 (J : Mem) {r q : Nat} (x : Int32) (hq : q < 4) (h : q ≠ r) : rmI J r x 88 q = 0 := by
  show (if 88 = 88 ∧ q < 4 then (if q = r then x else 0) else J 88 q) = 0
  rw [if_pos ⟨rfl, hq⟩, if_neg h]
theorem capF_rmI (J : Mem) (r : Nat) (x : Int32) (q : Nat) : capF (rmI J r x) q = capF J q := by
  unfold capF
  rw [rmI_ne J r x (by decide), rmI_ne J r x (by decide), rmI_ne J r x (by decide)]
theorem and_0 (x : Int32) : (0 : Int32) &&& x = 0 := and0.mpr (fun i hi => by rw [b_0] at hi; cases hi)
theorem FAI_iff {J : Mem} {R P r : Nat} {g : Int32} (hR : R ≤ 4) (hP : P ≤ 24) (hsy : Sy J) (hr : r < R) (hg : inP g P) (hg0 : ¬ g = 0) (hcap : ∃ c, c ≤ 9 ∧ capF J r = nI c) : FAI J R P g r ↔ (pct g ≤ capN J r ∧ ∀ p, bt g p = true → okS J p r) ∧ one1 J g := by
  obtain ⟨c, hc, ec⟩ := hcap
  rw [capN_of hc ec]
  have hokS : ∀ x p, okS (rmI J r x) p r ↔ okS J p r := fun x p => by
    unfold okS my1 my2 my3
    rw [rmI_ne J r x (by decide), rmI_ne J r x (by decide), rmI_ne J r x (by decide), rmI_ne J r x (by decide), rmI_ne J r x (by decide), rmI_ne J r x (by decide)]
  have hmay : ∀ p, p < P → (mayF (rmI J r (lwB g p)) R p r ↔ fb_ct (bt g) p < c ∧ (∀ q, q < p → bt g q = true → bt (J 62 p) q = false) ∧ okS J p r ∧ ∀ q, lowAt (lwB g p) q → J 57 q = J 57 p) := fun p hp => by
    have e0 : my0 (rmI J r (lwB g p)) p r ↔ fb_ct (bt g) p < c ∧ (∀ q, q < p → bt g q = true → bt (J 62 p) q = false) := by
      unfold my0
      rw [capF_rmI, ec, rmI_at J _ (by omega), pct_lwB g p (by omega), rmI_ne J r _ (by decide), nI_leI (by omega) (by have := fb_ct_le (bt g) p; omega)]
      refine and_congr (by omega) ?_
      rw [and0]
      constructor
      · intro z q hq hb
        exact z q (by rw [b_lwB g p (by omega), hb]; simp [hq])
      · intro z q hq
        rw [b_lwB g p (by omega)] at hq
        simp only [Bool.and_eq_true, decide_eq_true_eq] at hq
        exact z q hq.2 hq.1
    have e4 : my4 (rmI J r (lwB g p)) p r ↔ ∀ q, lowAt (lwB g p) q → J 57 q = J 57 p := by
      unfold my4
      rw [rmI_at J _ (by omega), rmI_ne J r _ (by decide)]
    have e5 : my5 (rmI J r (lwB g p)) R p r := fun q hq hne => by
      rw [rmI_88 J _ (by omega) hne]; exact and_0 _
    have es := hokS (lwB g p) p
    unfold okS at es
    unfold mayF
    rw [e0, e4]
    constructor
    · rintro ⟨⟨a1, a2⟩, b1, b2, b3, d, _⟩
      exact ⟨a1, a2, es.mp ⟨b1, b2, b3⟩, d⟩
    · rintro ⟨a1, a2, b, d⟩
      obtain ⟨b1, b2, b3⟩ := es.mpr b
      exact ⟨⟨a1, a2⟩, b1, b2, b3, d, e5⟩
  unfold FAI
  constructor
  · intro h
    have h' := fun p hp => (hmay p (hg p hp)).mp (h p (hg p hp) hp)
    -- the lowest, and the last
    obtain ⟨l, hl32, hlow⟩ := low_ex hg0
    have hill : ∀ p, bt g p = true → J 57 p = J 57 l := fun p hp => by
      rcases Nat.lt_trichotomy l p with q | q | q
      · have : lowAt (lwB g p) l := ⟨by rw [b_lwB g p (by have := hg p hp; omega), hlow.1]; simp [q], fun j hj => by rw [b_lwB g p (by have := hg p hp; omega), hlow.2 j hj]; rfl⟩
        exact ((h' p hp).2.2.2 l this).symm
      · rw [q]
      · rw [hlow.2 p q] at hp; cases hp
    refine ⟨⟨?_, fun p hp => (h' p hp).2.2.1⟩, fun p q hp hq hpq => ⟨?_, by rw [hill p hp, hill q hq]⟩⟩
    · -- the last one
      have hex : ∃ d, d ≤ 32 ∧ bt g (32 - d) = true := ⟨32 - l, by omega, by rw [show 32 - (32 - l) = l by omega]; exact hlow.1⟩
      obtain ⟨d, ⟨hd1, hd2⟩, hd3⟩ := pk_least (fun d => d ≤ 32 ∧ bt g (32 - d) = true) hex
      have hlast : ∀ i, 32 - d < i → i < 32 → bt g i = false := fun i h1 h2 => by
        cases hb : bt g i with
        | false => rfl
        | true => exact absurd ⟨by omega, by rw [show 32 - (32 - i) = i by omega]; exact hb⟩ (hd3 (32 - i) (by omega))
      have ht := (h' (32 - d) hd2).1
      have hlt : 32 - d < 32 := by have := hg _ hd2; omega
      have e : pct g = fb_ct (bt g) (32 - d) + 1 := by
        rw [pct_ct]
        obtain ⟨k, hk⟩ : ∃ k, 32 = (32 - d + 1) + k := ⟨32 - (32 - d + 1), by omega⟩
        have h1 : fb_ct (bt g) 32 = fb_ct (bt g) (32 - d + 1) + fb_ct (fun x => bt g (32 - d + 1 + x)) k := by
          have := fb_ct_split (bt g) (32 - d + 1) k
          rw [← hk] at this; exact this
        have hz : fb_ct (fun x => bt g (32 - d + 1 + x)) k = 0 := fb_ct_zero.mpr (fun x hx => hlast _ (by omega) (by omega))
        rw [h1, fb_ct_succ, if_pos hd2, hz]
      omega
    · rcases Nat.lt_or_ge q p with z | z
      · exact (h' p hp).2.1 q z hq
      · have := (h' q hq).2.1 p (by omega) hp
        rw [(hsy p q (by have := hg p hp; omega) (by have := hg q hq; omega)).1]; exact this
  · rintro ⟨⟨h1, h2⟩, h3⟩ p hpP hp
    refine (hmay p hpP).mpr ⟨?_, fun q hq hb => (h3 p q hp hb (by omega)).1, h2 p hp, fun q hq => ?_⟩
    · have : fb_ct (bt g) p + 1 ≤ pct g := by
        rw [pct_ct]
        have := fb_ct_mono (bt g) (show p + 1 ≤ 32 by omega)
        rw [fb_ct_succ, if_pos hp] at this
        exact this
      omega
    · have := hq.1
      rw [b_lwB g p (by omega)] at this
      simp only [Bool.and_eq_true, decide_eq_true_eq] at this
      exact ((h3 p q hp this.1 (by omega)).2).symm
theorem ilF_one {f J : Mem} {R P : Nat} {g : Int32} (he : EC f J R P) (hg : inP g P) (hk : ilOk f P) : ¬ ilF f g P = -1 ↔ (∃ p, bt g p = true) ∧ ∀ p q, bt g p = true → bt g q = true → J 57 p = J 57 q := by
  constructor
  · intro h
    have hx : ∃ x, (∃ p, p < P ∧ bt g p = true) ∧ ∀ p, p < P → bt g p = true → f 19 p = x := Classical.not_not.mp (fun z => h (ilF_no z))
    obtain ⟨x, ⟨p, hp, hb⟩, hx⟩ := hx
    exact ⟨⟨p, hb⟩, fun a b ha hb => by rw [← (he.2 a (hg a ha)).2.1, ← (he.2 b (hg b hb)).2.1, hx a (hg a ha) ha, hx b (hg b hb) hb]⟩
  · rintro ⟨⟨p, hp⟩, h⟩
    rw [ilF_is (hg p hp) hp (fun q hq hb => by rw [(he.2 q hq).2.1, (he.2 p (hg p hp)).2.1]; exact h q p hb hp)]
    exact hk p (hg p hp)
theorem foS_b {f J : Mem} {R P : Nat} {g : Int32} (he : EC f J R P) (hg : inP g P) (i : Nat) : bt (foS f g P) i = true ↔ ∃ p, bt g p = true ∧ bt (J 62 p) i = true := by
  rw [b_foS]
  exact ⟨fun ⟨p, a, b, c⟩ => ⟨p, b, by rw [← (he.2 p a).2.2.1]; exact c⟩, fun ⟨p, b, c⟩ => ⟨p, hg p b, b, by rw [(he.2 p (hg p b)).2.2.1]; exact c⟩⟩
/-- no one is apart from oneself -/
def noS (J : Mem) (P : Nat) : Prop := ∀ p, p < P → bt (J 62 p) p = false
theorem rfF_iff {f J : Mem} {R P r : Nat} {g : Int32} (he : EC f J R P) (hR : R ≤ 4) (hP : P ≤ 24) (hsy : Sy J) (hns : noS J P) (hg : inP g P) (hg0 : ¬ g = 0) (hk : ilOk f P) : bt (rfF f g R P) r = true ↔ r < R ∧ FAI J R P g r := by
  have hfoe : foS f g P &&& g = 0 ↔ ∀ p q, bt g p = true → bt g q = true → bt (J 62 p) q = false := by
    rw [and0]
    constructor
    · intro z p q hp hq
      cases hb : bt (J 62 p) q with
      | false => rfl
      | true => have := z q ((foS_b he hg q).mpr ⟨p, hp, hb⟩); rw [hq] at this; cases this
    · intro z q hq
      obtain ⟨p, hp, hb⟩ := (foS_b he hg q).mp hq
      cases hbq : bt g q with
      | false => rfl
      | true => rw [z p q hp hbq] at hb; cases hb
  have hne : ∃ p, bt g p = true := by obtain ⟨l, _, h⟩ := low_ex hg0; exact ⟨l, h.1⟩
  have hone : (¬ ilF f g P = -1 ∧ foS f g P &&& g = 0) ↔ one1 J g := by
    rw [ilF_one he hg hk, hfoe]
    constructor
    · rintro ⟨⟨_, a⟩, b⟩ p q hp hq _
      exact ⟨b p q hp hq, a p q hp hq⟩
    · intro z
      refine ⟨⟨hne, fun p q hp hq => ?_⟩, fun p q hp hq => ?_⟩
      · by_cases e : p = q
        · rw [e]
        · exact (z p q hp hq e).2
      · by_cases e : p = q
        · rw [← e]; exact hns p (hg p hp)
        · exact (z p q hp hq e).1
  unfold rfF
  rcases Classical.em (ilF f g P = -1 ∨ ¬ foS f g P &&& g = 0) with c | c
  · rw [cif_t c, b_0]
    refine ⟨fun z => (by cases z), fun ⟨hr, z⟩ => ?_⟩
    have := hone.mpr ((FAI_iff hR hP hsy hr hg hg0 (he.1 r hr).1).mp z).2
    rcases c with c | c
    · exact absurd c this.1
    · exact absurd this.2 c
  · rw [cif_f c, b_rfS f g P r R (by omega)]
    have ho := hone.mp ⟨fun z => c (Or.inl z), Classical.not_not.mp (fun z => c (Or.inr z))⟩
    constructor
    · rintro ⟨hr, z⟩
      exact ⟨hr, (FAI_iff hR hP hsy hr hg hg0 (he.1 r hr).1).mpr ⟨(suF_iff he hP hr hg).mp z, ho⟩⟩
    · rintro ⟨hr, z⟩
      exact ⟨hr, (suF_iff he hP hr hg).mpr ((FAI_iff hR hP hsy hr hg hg0 (he.1 r hr).1).mp z).1⟩
