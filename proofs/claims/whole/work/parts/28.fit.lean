/-! ===== placings, person by person: the search's one step ===== -/
def okS (I : Nat → Nat → Int32) (p r : Nat) : Prop := my1 I p r ∧ my2 I p r ∧ my3 I p r
def capN (I : Nat → Nat → Int32) (r : Nat) : Nat := (capF I r).toNatClampNeg
def OkP (I : Nat → Nat → Int32) (R : Nat) (left : Int32) (f : Nat → Nat) (p : Nat) : Prop :=
  f p < R ∧ okS I p (f p) ∧ I 88 (f p) &&& I 62 p = 0 ∧ (∀ j, bt (I 88 (f p)) j = true → I 57 j = I 57 p) ∧ (∀ q, q < R → q ≠ f p → I 88 q &&& I 63 p = 0) ∧ ∀ p2, bt left p2 = true → p2 ≠ p → (f p2 = f p → bt (I 62 p) p2 = false ∧ I 57 p2 = I 57 p) ∧ (bt (I 63 p) p2 = true → f p2 = f p)
def Ok (I : Nat → Nat → Int32) (R : Nat) (left : Int32) (f : Nat → Nat) : Prop := (∀ p, bt left p = true → OkP I R left f p) ∧ ∀ r, r < R → pct (I 88 r) + fb_ct (fun p => bt left p && decide (f p = r)) 32 ≤ capN I r
def Fit (I : Nat → Nat → Int32) (R : Nat) (left : Int32) : Prop := ∃ f, Ok I R left f
/-- the rooms as they stand: not more than they hold, one ill in each -/
def RmOk (I : Nat → Nat → Int32) (R : Nat) : Prop := ∀ r, r < R → (∃ c, c ≤ 9 ∧ capF I r = nI c ∧ pct (I 88 r) ≤ c) ∧ ∀ i j, bt (I 88 r) i = true → bt (I 88 r) j = true → I 57 i = I 57 j
def Sy (I : Nat → Nat → Int32) : Prop := ∀ p q, p < 24 → q < 24 → bt (I 62 p) q = bt (I 62 q) p ∧ bt (I 63 p) q = bt (I 63 q) p
/-- one more in a room -/
def addB (I : Nat → Nat → Int32) (k r : Nat) : Nat → Nat → Int32 := fun a i => if a = 88 ∧ i = r then I 88 r ||| bitI k else I a i
def offB (left : Int32) (k : Nat) : Int32 := left &&& (bitI k ^^^ (-1))
theorem and0 {x y : Int32} : x &&& y = 0 ↔ ∀ i, bt x i = true → bt y i = false := by
  constructor
  · intro h i hi
    have h1 := congrArg (fun z => bt z i) h
    simp only [b_and, b_0, hi, Bool.true_and] at h1
    exact h1
  · intro h
    apply b_ext
    intro i _
    rw [b_and, b_0]
    cases hb : bt x i with
    | false => rfl
    | true => rw [h i hb]; rfl
theorem b_offB {left : Int32} {k : Nat} (hk : k < 32) (i : Nat) : bt (offB left k) i = (bt left i && !decide (i = k)) := by
  rcases Nat.lt_or_ge i 32 with hi | hi
  · unfold offB
    rw [b_and, b_xor, b_bitI hk hi, b_m1 i hi]
    cases decide (i = k) <;> simp
  · rw [b_big hi, b_big hi]; rfl
theorem b_orI {b : Int32} {k : Nat} (hk : k < 32) (i : Nat) : bt (b ||| bitI k) i = (bt b i || decide (i = k)) := by
  rcases Nat.lt_or_ge i 32 with hi | hi
  · rw [b_or, b_bitI hk hi]
  · rw [b_big hi, b_big hi]
    have : ¬ i = k := by omega
    simp [this]
theorem pct_orI {b : Int32} {k : Nat} (hk : k < 32) (hb : bt b k = false) : pct (b ||| bitI k) = pct b + 1 := by
  rw [pct_ct, pct_ct]
  have h := fb_ct_upd (bt b) true hk
  rw [hb] at h
  have e : fb_ct (bt (b ||| bitI k)) 32 = fb_ct (fun j => if j = k then true else bt b j) 32 := by
    apply fb_ct_cong
    intro i _
    rw [b_orI hk]
    by_cases e : i = k <;> simp [e]
  rw [e]
  simpa using h
theorem pct_off {b : Int32} {k : Nat} (hk : k < 32) (hb : bt b k = true) : pct (offB b k) + 1 = pct b := by
  rw [pct_ct, pct_ct]
  have h := fb_ct_upd (bt b) false hk
  rw [hb] at h
  have e : fb_ct (bt (offB b k)) 32 = fb_ct (fun j => if j = k then false else bt b j) 32 := by
    apply fb_ct_cong
    intro i _
    rw [b_offB hk]
    by_cases e : i = k <;> simp [e]
  rw [e]
  simpa using h
theorem addB_88 (I : Nat → Nat → Int32) (k r : Nat) : addB I k r 88 r = I 88 r ||| bitI k := by simp [addB]
theorem addB_ne (I : Nat → Nat → Int32) (k r q : Nat) (h : q ≠ r) : addB I k r 88 q = I 88 q := by simp [addB, h]
theorem addB_a (I : Nat → Nat → Int32) (k r a : Nat) (h : a ≠ 88) : addB I k r a = I a := by funext i; simp [addB, h]
theorem capF_addB (I : Nat → Nat → Int32) (k r q : Nat) : capF (addB I k r) q = capF I q := by
  unfold capF
  rw [addB_a I k r 44 (by decide), addB_a I k r 47 (by decide), addB_a I k r 48 (by decide)]
theorem okS_addB (I : Nat → Nat → Int32) (k r p q : Nat) : okS (addB I k r) p q ↔ okS I p q := by
  unfold okS my1 my2 my3
  rw [addB_a I k r 51 (by decide), addB_a I k r 54 (by decide), addB_a I k r 49 (by decide), addB_a I k r 55 (by decide), addB_a I k r 50 (by decide), addB_a I k r 56 (by decide)]
theorem bt_addB {I : Nat → Nat → Int32} {k r : Nat} (hk : k < 32) (q i : Nat) : bt (addB I k r 88 q) i = (bt (I 88 q) i || (decide (q = r) && decide (i = k))) := by
  by_cases e : q = r
  · subst e; rw [addB_88, b_orI hk]; simp
  · rw [addB_ne I k r q e]; simp [e]
theorem ct_off {left : Int32} {f : Nat → Nat} {k r : Nat} (hk : k < 32) (hb : bt left k = true) : fb_ct (fun p => bt (offB left k) p && decide (f p = r)) 32 + (if f k = r then 1 else 0) = fb_ct (fun p => bt left p && decide (f p = r)) 32 := by
  have h := fb_ct_upd (fun p => bt left p && decide (f p = r)) false hk
  have e : fb_ct (fun p => bt (offB left k) p && decide (f p = r)) 32 = fb_ct (fun j => if j = k then false else (bt left j && decide (f j = r))) 32 := by
    apply fb_ct_cong
    intro i _
    rw [b_offB hk]
    by_cases e : i = k <;> simp [e]
  rw [e]
  simp only [hb, Bool.true_and, decide_eq_true_eq, Bool.false_eq_true, if_false, Nat.add_zero] at h
  exact h
theorem fit_fwd {I : Nat → Nat → Int32} {R k : Nat} {left : Int32} (hk : k < 24) (hb : bt left k = true) (hdis : ∀ r, r < R → bt (I 88 r) k = false) (hcap : ∀ r, r < R → ∃ c, c ≤ 9 ∧ capF I r = nI c) {f : Nat → Nat} (hf : Ok I R left f) : mayF I R k (f k) ∧ Ok (addB I k (f k)) R (offB left k) f := by
  obtain ⟨h1, h2⟩ := hf
  obtain ⟨hR, hs, hap, hill, hto, hpair⟩ := h1 k hb
  have hc := h2 (f k) hR
  obtain ⟨c, hc9, hce⟩ := hcap (f k) hR
  have hct := ct_off (left := left) (f := f) (k := k) (r := f k) (by omega) hb
  rw [if_pos rfl] at hct
  have hcn : capN I (f k) = c := by unfold capN; rw [hce, cl_nI (by omega)]
  refine ⟨⟨⟨?_, hap⟩, hs.1, hs.2.1, hs.2.2, fun j hj => hill j hj.1, hto⟩, ?_, ?_⟩
  · rw [hce]
    exact nI_ge (by omega) (by omega)
  · intro p hp
    rw [b_offB (by omega)] at hp
    simp only [Bool.and_eq_true, Bool.not_eq_true', decide_eq_false_iff_not] at hp
    obtain ⟨gR, gs, gap, gill, gto, gpair⟩ := h1 p hp.1
    have hkp := gpair k hb (fun e => hp.2 e.symm)
    refine ⟨gR, (okS_addB I k (f k) p (f p)).mpr gs, ?_, ?_, ?_, ?_⟩
    · rw [addB_a I k (f k) 62 (by decide)]
      refine and0.mpr fun i hi => ?_
      rw [bt_addB (by omega)] at hi
      simp only [Bool.or_eq_true, Bool.and_eq_true, decide_eq_true_eq] at hi
      rcases hi with hi | ⟨e1, e2⟩
      · exact and0.mp gap i hi
      · rw [e2]; exact (hkp.1 e1.symm).1
    · intro j hj
      rw [addB_a I k (f k) 57 (by decide)]
      rw [bt_addB (by omega)] at hj
      simp only [Bool.or_eq_true, Bool.and_eq_true, decide_eq_true_eq] at hj
      rcases hj with hj | ⟨e1, e2⟩
      · exact gill j hj
      · rw [e2]; exact (hkp.1 e1.symm).2
    · intro q hq hne
      rw [addB_a I k (f k) 63 (by decide)]
      refine and0.mpr fun i hi => ?_
      rw [bt_addB (by omega)] at hi
      simp only [Bool.or_eq_true, Bool.and_eq_true, decide_eq_true_eq] at hi
      rcases hi with hi | ⟨e1, e2⟩
      · exact and0.mp (gto q hq hne) i hi
      · rw [e2]
        cases ht : bt (I 63 p) k with
        | false => rfl
        | true => exact absurd (e1.trans (hkp.2 ht)) hne
    · intro p2 hp2 hne
      rw [b_offB (by omega)] at hp2
      simp only [Bool.and_eq_true] at hp2
      rw [addB_a I k (f k) 62 (by decide), addB_a I k (f k) 63 (by decide), addB_a I k (f k) 57 (by decide)]
      exact gpair p2 hp2.1 hne
  · intro r hr
    have hcr := h2 r hr
    have hct2 := ct_off (left := left) (f := f) (k := k) (r := r) (by omega) hb
    have ecap : capN (addB I k (f k)) r = capN I r := by unfold capN; rw [capF_addB]
    rw [ecap]
    by_cases e : r = f k
    · subst e
      rw [addB_88, pct_orI (by omega) (hdis _ hr)]
      omega
    · rw [addB_ne I k (f k) r e]
      rw [if_neg (fun q => e q.symm)] at hct2
      omega
