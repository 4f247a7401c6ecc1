/-! ===== the placing that is chosen, person by person ===== -/
noncomputable def lst (S : Nat → Prop) : Nat := Classical.epsilon (fun k => S k ∧ ∀ j, j < k → ¬ S j)
theorem lst_ok {S : Nat → Prop} (h : ∃ k, S k) : S (lst S) ∧ ∀ j, j < lst S → ¬ S j :=
  Classical.epsilon_spec (p := fun k => S k ∧ ∀ j, j < k → ¬ S j) (by obtain ⟨k, a, b⟩ := pk_least S h; exact ⟨k, a, b⟩)
theorem lst_is {S : Nat → Prop} {k : Nat} (h1 : S k) (h2 : ∀ j, j < k → ¬ S j) : lst S = k := by
  obtain ⟨a, b⟩ := lst_ok ⟨k, h1⟩
  rcases Nat.lt_trichotomy (lst S) k with q | q | q
  · exact absurd a (h2 _ q)
  · exact q
  · exact absurd h1 (b _ q)
/-- there is a placing that has those below p as F has them, and p in r -/
def Ext (I : Nat → Nat → Int32) (R : Nat) (tk : Int32) (F : Nat → Nat) (p r : Nat) : Prop := ∃ f, Ok I R tk f ∧ (∀ q, q < p → bt tk q = true → f q = F q) ∧ f p = r
noncomputable def pick (I : Nat → Nat → Int32) (R : Nat) (tk : Int32) (F : Nat → Nat) (p : Nat) : Nat := cif (∃ s, I 60 p = nI s ∧ s < R ∧ Ext I R tk F p s) (I 60 p).toNatClampNeg (lst (Ext I R tk F p))
noncomputable def plF (I : Nat → Nat → Int32) (R : Nat) (tk : Int32) : Nat → Nat → Nat
  | 0 => fun _ => 0
  | p + 1 => cif (bt tk p = true) (fun q => if q = p then pick I R tk (plF I R tk p) p else plF I R tk p q) (plF I R tk p)
def plM (I : Nat → Nat → Int32) (tk : Int32) (F : Nat → Nat) : Nat → Nat → Nat → Int32
  | 0 => I
  | p + 1 => if bt tk p = true then addB (plM I tk F p) p (F p) else plM I tk F p
def lfB (tk : Int32) : Nat → Int32
  | 0 => tk
  | p + 1 => if bt tk p = true then offB (lfB tk p) p else lfB tk p
theorem b_lfB (tk : Int32) : ∀ (p : Nat), p ≤ 32 → ∀ i, bt (lfB tk p) i = (bt tk i && decide (p ≤ i))
  | 0, _, i => by simp [lfB]
  | p + 1, hp, i => by
    have ih := b_lfB tk p (by omega) i
    unfold lfB
    by_cases c : bt tk p = true
    · rw [if_pos c, b_offB (by omega), ih]
      by_cases e : i = p
      · subst e; simp
      · have e2 : decide (p ≤ i) = decide (p + 1 ≤ i) := decide_eq_decide.mpr (by omega)
        simp [e, e2]
    · rw [if_neg c, ih]
      by_cases e : i = p
      · subst e
        have : bt tk i = false := by simpa using c
        simp [this]
      · have e2 : decide (p ≤ i) = decide (p + 1 ≤ i) := decide_eq_decide.mpr (by omega)
        rw [e2]
theorem plM_congr {I : Nat → Nat → Int32} {tk : Int32} {F G : Nat → Nat} : ∀ {p : Nat}, (∀ q, q < p → bt tk q = true → F q = G q) → plM I tk F p = plM I tk G p
  | 0, _ => rfl
  | p + 1, h => by
    have ih := plM_congr (I := I) (p := p) (fun q hq hb => h q (by omega) hb)
    show (if _ then _ else _) = (if _ then _ else _)
    by_cases c : bt tk p = true
    · rw [if_pos c, if_pos c, ih, h p (by omega) c]
    · rw [if_neg c, if_neg c, ih]
theorem Ext_congr {I : Nat → Nat → Int32} {R : Nat} {tk : Int32} {F G : Nat → Nat} {p r : Nat} (h : ∀ q, q < p → bt tk q = true → F q = G q) (he : Ext I R tk F p r) : Ext I R tk G p r := by
  obtain ⟨f, a, b, c⟩ := he
  exact ⟨f, a, fun q hq hb => (b q hq hb).trans (h q hq hb), c⟩
def Hist (I : Nat → Nat → Int32) (R : Nat) (tk : Int32) (F : Nat → Nat) (p : Nat) : Prop := ∀ q, q < p → bt tk q = true → F q < R ∧ mayF (plM I tk F q) R q (F q)
theorem preC_off {I : Nat → Nat → Int32} {R P k : Nat} {left : Int32} (hp : PreC I R P left) (hk : k < 32) : PreC I R P (offB left k) := by
  obtain ⟨hR, hP, h46, h52, hlt, hdis, hrm, hsy⟩ := hp
  refine ⟨hR, hP, h46, h52, fun i hi => hlt i ?_, fun q hq i hi => ?_, hrm, hsy⟩
  · rw [b_offB hk] at hi; simp only [Bool.and_eq_true] at hi; exact hi.1
  · rw [b_offB hk, hdis q hq i hi]; rfl
theorem preC_pl {I : Nat → Nat → Int32} {R P : Nat} {tk : Int32} {F : Nat → Nat} (hp : PreC I R P tk) : ∀ {p : Nat}, p ≤ P → Hist I R tk F p → PreC (plM I tk F p) R P (lfB tk p)
  | 0, _, _ => hp
  | p + 1, hpP, hh => by
    have hP := hp.2.1
    have ih := preC_pl hp (p := p) (F := F) (by omega) (fun q hq hb => hh q (by omega) hb)
    unfold plM lfB
    by_cases c : bt tk p = true
    · rw [if_pos c, if_pos c]
      obtain ⟨h1, h2⟩ := hh p (by omega) c
      refine preC_add (preC_off ih (by omega)) (by omega) ?_ (fun r hr => ?_) h1 h2
      · rw [b_offB (by omega)]; simp
      · have hb : bt (lfB tk p) p = true := by rw [b_lfB _ _ (by omega), c]; simp
        cases hz : bt (plM I tk F p 88 r) p with
        | false => rfl
        | true => have := ih.2.2.2.2.2.1 r hr p hz; rw [hb] at this; cases this
    · rw [if_neg c, if_neg c]; exact ih
theorem pl_dis {I : Nat → Nat → Int32} {R P : Nat} {tk : Int32} {F : Nat → Nat} (hp : PreC I R P tk) {p : Nat} (hpP : p < P) (hh : Hist I R tk F p) (c : bt tk p = true) : ∀ r, r < R → bt (plM I tk F p 88 r) p = false := by
  have ih := preC_pl hp (p := p) (F := F) (by omega) hh
  have hP := hp.2.1
  intro r hr
  have hb : bt (lfB tk p) p = true := by rw [b_lfB _ _ (by omega), c]; simp
  cases hz : bt (plM I tk F p 88 r) p with
  | false => rfl
  | true => have := ih.2.2.2.2.2.1 r hr p hz; rw [hb] at this; cases this
theorem pl_back {I : Nat → Nat → Int32} {R P : Nat} {tk : Int32} {F : Nat → Nat} (hp : PreC I R P tk) : ∀ {p : Nat}, p ≤ P → Hist I R tk F p → ∀ {f : Nat → Nat}, Ok (plM I tk F p) R (lfB tk p) f → Ok I R tk (fun x => if x < p ∧ bt tk x = true then F x else f x)
  | 0, _, _, f, hf => by
    have e : (fun x => if x < 0 ∧ bt tk x = true then F x else f x) = f := by
      funext x; rw [if_neg (by omega)]
    rw [e]; exact hf
  | p + 1, hpP, hh, f, hf => by
    have hP := hp.2.1
    have hh' : Hist I R tk F p := fun q hq hb => hh q (by omega) hb
    have hpc := preC_pl hp (p := p) (F := F) (by omega) hh'
    unfold plM lfB at hf
    by_cases c : bt tk p = true
    · rw [if_pos c, if_pos c] at hf
      obtain ⟨h1, h2⟩ := hh p (by omega) c
      have hb : bt (lfB tk p) p = true := by rw [b_lfB _ _ (by omega), c]; simp
      have h3 := fit_bwd (by omega) hb (fun i hi => by have := hpc.2.2.2.2.1 i hi; omega) (pl_dis hp (by omega) hh' c) hpc.2.2.2.2.2.2.2 hpc.2.2.2.2.2.2.1 h1 h2 hf
      have h4 := pl_back hp (p := p) (by omega) hh' h3
      have e : (fun x => if x < p ∧ bt tk x = true then F x else if x = p then F p else f x) = (fun x => if x < p + 1 ∧ bt tk x = true then F x else f x) := by
        funext x
        by_cases e1 : x = p
        · subst e1; rw [if_neg (by omega), if_pos rfl, if_pos ⟨by omega, c⟩]
        · rw [if_neg e1]
          by_cases e2 : x < p ∧ bt tk x = true
          · rw [if_pos e2, if_pos ⟨by omega, e2.2⟩]
          · rw [if_neg e2, if_neg (fun q => e2 ⟨by omega, q.2⟩)]
      rw [e] at h4
      exact h4
    · rw [if_neg c, if_neg c] at hf
      have h4 := pl_back hp (p := p) (by omega) hh' hf
      have e : (fun x => if x < p ∧ bt tk x = true then F x else f x) = (fun x => if x < p + 1 ∧ bt tk x = true then F x else f x) := by
        funext x
        by_cases e2 : x < p ∧ bt tk x = true
        · rw [if_pos e2, if_pos ⟨by omega, e2.2⟩]
        · rw [if_neg e2, if_neg (fun q => e2 ⟨by
            have := q.1
            by_cases e1 : x = p
            · subst e1; exact absurd q.2 c
            · omega, q.2⟩)]
      rw [e] at h4
      exact h4
theorem caps_of {I : Nat → Nat → Int32} {R : Nat} (hrm : RmOk I R) : ∀ r, r < R → ∃ c, c ≤ 9 ∧ capF I r = nI c := fun r hr => by obtain ⟨c, a, b, _⟩ := (hrm r hr).1; exact ⟨c, a, b⟩
theorem pl_fwd {I : Nat → Nat → Int32} {R P : Nat} {tk : Int32} {F : Nat → Nat} (hp : PreC I R P tk) {f : Nat → Nat} (hf : Ok I R tk f) : ∀ {p : Nat}, p ≤ P → (∀ q, q < p → bt tk q = true → f q = F q) → Ok (plM I tk F p) R (lfB tk p) f ∧ Hist I R tk F p
  | 0, _, _ => ⟨hf, fun q hq => absurd hq (by omega)⟩
  | p + 1, hpP, he => by
    have hP := hp.2.1
    obtain ⟨h1, h2⟩ := pl_fwd hp hf (p := p) (F := F) (by omega) (fun q hq hb => he q (by omega) hb)
    have hpc := preC_pl hp (p := p) (F := F) (by omega) h2
    by_cases c : bt tk p = true
    · have hb : bt (lfB tk p) p = true := by rw [b_lfB _ _ (by omega), c]; simp
      obtain ⟨h3, h4⟩ := fit_fwd (by omega) hb (pl_dis hp (by omega) h2 c) (caps_of hpc.2.2.2.2.2.2.1) h1
      have hlt := (h1.1 p hb).1
      rw [he p (by omega) c] at h3 h4 hlt
      refine ⟨?_, fun q hq hb => ?_⟩
      · unfold plM lfB; rw [if_pos c, if_pos c]; exact h4
      · rcases Nat.lt_or_ge q p with z | z
        · exact h2 q z hb
        · have : q = p := by omega
          subst this
          exact ⟨hlt, h3⟩
    · refine ⟨?_, fun q hq hb => ?_⟩
      · unfold plM lfB; rw [if_neg c, if_neg c]; exact h1
      · rcases Nat.lt_or_ge q p with z | z
        · exact h2 q z hb
        · have : q = p := by omega
          subst this
          exact absurd hb c
theorem Ext_lt {I : Nat → Nat → Int32} {R p r : Nat} {tk : Int32} {F : Nat → Nat} (hb : bt tk p = true) (h : Ext I R tk F p r) : r < R := by
  obtain ⟨f, a, _, c⟩ := h
  rw [← c]; exact (a.1 p hb).1
/-- a try succeeds just where a placing goes on so -/
theorem try_ext {I : Nat → Nat → Int32} {R P p r : Nat} {tk : Int32} {F : Nat → Nat} (hp : PreC I R P tk) (hpP : p < P) (hh : Hist I R tk F p) (c : bt tk p = true) (hr : r < R) : (mayF (plM I tk F p) R p r ∧ Fit (addB (plM I tk F p) p r) R (lfB tk (p + 1))) ↔ Ext I R tk F p r := by
  have hP := hp.2.1
  have hpc := preC_pl hp (p := p) (F := F) (by omega) hh
  have hb : bt (lfB tk p) p = true := by rw [b_lfB _ _ (by omega), c]; simp
  have el : lfB tk (p + 1) = offB (lfB tk p) p := if_pos c
  rw [el]
  constructor
  · rintro ⟨hm, f, hf⟩
    have h3 := fit_bwd (by omega) hb (fun i hi => by have := hpc.2.2.2.2.1 i hi; omega) (pl_dis hp (by omega) hh c) hpc.2.2.2.2.2.2.2 hpc.2.2.2.2.2.2.1 hr hm hf
    refine ⟨_, pl_back hp (by omega) hh h3, fun q hq hbq => ?_, ?_⟩
    · simp only [if_pos (show q < p ∧ bt tk q = true from ⟨hq, hbq⟩)]
    · show (if p < p ∧ bt tk p = true then F p else if p = p then r else f p) = r
      rw [if_neg (fun z => by omega), if_pos rfl]
  · rintro ⟨f, h1, h2, h3⟩
    obtain ⟨h4, _⟩ := pl_fwd hp h1 (p := p) (F := F) (by omega) h2
    obtain ⟨h5, h6⟩ := fit_fwd (by omega) hb (pl_dis hp (by omega) hh c) (caps_of hpc.2.2.2.2.2.2.1) h4
    rw [h3] at h5 h6
    exact ⟨h5, f, h6⟩
theorem plF_keep (I : Nat → Nat → Int32) (R : Nat) (tk : Int32) (p q : Nat) (h : q ≠ p) : plF I R tk (p + 1) q = plF I R tk p q := by
  show (cif _ _ _ : Nat → Nat) q = _
  rcases Classical.em (bt tk p = true) with c | c
  · rw [cif_t c]; exact if_neg h
  · rw [cif_f c]
theorem plF_at {I : Nat → Nat → Int32} {R : Nat} {tk : Int32} {p : Nat} (c : bt tk p = true) : plF I R tk (p + 1) p = pick I R tk (plF I R tk p) p := by
  show (cif _ _ _ : Nat → Nat) p = _
  rw [cif_t c]; exact if_pos rfl
theorem plF_low (I : Nat → Nat → Int32) (R : Nat) (tk : Int32) {q p : Nat} (h : q < p) : ∀ k, plF I R tk (p + k) q = plF I R tk p q
  | 0 => rfl
  | k + 1 => by rw [← Nat.add_assoc, plF_keep I R tk (p + k) q (by omega)]; exact plF_low I R tk h k
theorem pick_own {I : Nat → Nat → Int32} {R : Nat} {tk : Int32} {F : Nat → Nat} {p s : Nat} (h1 : I 60 p = nI s) (h2 : s < R) (hR : R ≤ 4) (h3 : Ext I R tk F p s) : pick I R tk F p = s := by
  unfold pick
  rw [cif_t ⟨s, h1, h2, h3⟩, h1, cl_nI (by omega)]
theorem pick_low {I : Nat → Nat → Int32} {R : Nat} {tk : Int32} {F : Nat → Nat} {p r : Nat} (h1 : ∀ s, I 60 p = nI s → s < R → ¬ Ext I R tk F p s) (h2 : Ext I R tk F p r) (h3 : ∀ j, j < r → ¬ Ext I R tk F p j) : pick I R tk F p = r := by
  unfold pick
  rw [cif_f (fun ⟨s, a, b, c⟩ => h1 s a b c)]
  exact lst_is h2 h3
theorem pick_ext {I : Nat → Nat → Int32} {R : Nat} {tk : Int32} {F : Nat → Nat} {p : Nat} (hR : R ≤ 4) (h : ∃ r, Ext I R tk F p r) : Ext I R tk F p (pick I R tk F p) := by
  rcases Classical.em (∃ s, I 60 p = nI s ∧ s < R ∧ Ext I R tk F p s) with c | c
  · obtain ⟨s, a, b, d⟩ := c
    rw [pick_own a b hR d]; exact d
  · unfold pick
    rw [cif_f c]
    exact (lst_ok h).1
/-- a placing goes on from what was chosen -/
theorem plF_ext {I : Nat → Nat → Int32} {R : Nat} {tk : Int32} (hR : R ≤ 4) (hf : Fit I R tk) : ∀ p, ∃ f, Ok I R tk f ∧ ∀ q, q < p → bt tk q = true → f q = plF I R tk p q
  | 0 => by obtain ⟨f, h⟩ := hf; exact ⟨f, h, fun q hq => absurd hq (by omega)⟩
  | p + 1 => by
    obtain ⟨f, h1, h2⟩ := plF_ext hR hf p
    by_cases c : bt tk p = true
    · obtain ⟨g, g1, g2, g3⟩ := pick_ext hR (F := plF I R tk p) (p := p) ⟨f p, f, h1, h2, rfl⟩
      refine ⟨g, g1, fun q hq hb => ?_⟩
      by_cases e : q = p
      · subst e; rw [plF_at c]; exact g3
      · rw [plF_keep _ _ _ _ _ e]; exact g2 q (by omega) hb
    · refine ⟨f, h1, fun q hq hb => ?_⟩
      by_cases e : q = p
      · subst e; exact absurd hb c
      · rw [plF_keep _ _ _ _ _ e]; exact h2 q (by omega) hb
theorem plF_hist {I : Nat → Nat → Int32} {R P : Nat} {tk : Int32} (hp : PreC I R P tk) (hf : Fit I R tk) {p : Nat} (h : p ≤ P) : Hist I R tk (plF I R tk p) p := by
  obtain ⟨f, h1, h2⟩ := plF_ext hp.1 hf p
  exact (pl_fwd hp h1 h h2).2
theorem plM_o (I : Nat → Nat → Int32) (tk : Int32) (F : Nat → Nat) {a : Nat} (ha : a ≠ 88) : ∀ p, plM I tk F p a = I a
  | 0 => rfl
  | p + 1 => by
    show (if _ then _ else _ : Nat → Nat → Int32) a = _
    by_cases c : bt tk p = true
    · rw [if_pos c, addB_a _ _ _ a ha]; exact plM_o I tk F ha p
    · rw [if_neg c]; exact plM_o I tk F ha p
theorem bt_plM (I : Nat → Nat → Int32) (tk : Int32) (F : Nat → Nat) (r : Nat) : ∀ p, p ≤ 32 → ∀ i, bt (plM I tk F p 88 r) i = (bt (I 88 r) i || (decide (i < p) && (bt tk i && decide (F i = r))))
  | 0, _, i => by simp [plM]
  | p + 1, hp, i => by
    have ih := bt_plM I tk F r p (by omega) i
    show bt ((if _ then _ else _ : Nat → Nat → Int32) 88 r) i = _
    by_cases c : bt tk p = true
    · rw [if_pos c, bt_addB (by omega), ih]
      by_cases e : i = p
      · subst e
        have e3 : decide (r = F i) = decide (F i = r) := decide_eq_decide.mpr ⟨Eq.symm, Eq.symm⟩
        simp [c, e3]
      · have e2 : decide (i < p) = decide (i < p + 1) := decide_eq_decide.mpr (by omega)
        simp [e, e2]
    · rw [if_neg c, ih]
      by_cases e : i = p
      · subst e
        have : bt tk i = false := by simpa using c
        simp [this]
      · have e2 : decide (i < p) = decide (i < p + 1) := decide_eq_decide.mpr (by omega)
        rw [e2]
