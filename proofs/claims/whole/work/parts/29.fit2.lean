theorem lowAt_ex {b : Int32} {i : Nat} (h : bt b i = true) : ∃ j, lowAt b j := by
  obtain ⟨k, h1, h2⟩ := pk_least (fun k => bt b k = true) ⟨i, h⟩
  refine ⟨k, h1, fun j hj => ?_⟩
  cases hb : bt b j with
  | false => rfl
  | true => exact absurd hb (h2 j hj)
theorem fit_bwd {I : Nat → Nat → Int32} {R k r : Nat} {left : Int32} (hk : k < 24) (hb : bt left k = true) (hlt : ∀ i, bt left i = true → i < 24) (hdis : ∀ r, r < R → bt (I 88 r) k = false) (hsy : Sy I) (hrm : RmOk I R) (hr : r < R) (hm : mayF I R k r) {f : Nat → Nat} (hf : Ok (addB I k r) R (offB left k) f) : Ok I R left (fun p => if p = k then r else f p) := by
  obtain ⟨⟨m0a, m0b⟩, m1, m2, m3, m4', m5⟩ := hm
  obtain ⟨h1, h2⟩ := hf
  have hoff : ∀ p, bt left p = true → p ≠ k → bt (offB left k) p = true := fun p hp hne => by
    rw [b_offB (by omega), hp]; simp [hne]
  have key : ∀ p, bt left p = true → p ≠ k → f p < R ∧ okS I p (f p) ∧ I 88 (f p) &&& I 62 p = 0 ∧ (∀ j, bt (I 88 (f p)) j = true → I 57 j = I 57 p) ∧ (∀ q, q < R → q ≠ f p → I 88 q &&& I 63 p = 0) ∧ (f p = r → bt (I 62 p) k = false ∧ I 57 k = I 57 p) ∧ (bt (I 63 p) k = true → f p = r) ∧ (∀ p2, bt left p2 = true → p2 ≠ p → p2 ≠ k → (f p2 = f p → bt (I 62 p) p2 = false ∧ I 57 p2 = I 57 p) ∧ (bt (I 63 p) p2 = true → f p2 = f p)) := by
    intro p hp hne
    obtain ⟨gR, gs, gap, gill, gto, gpair⟩ := h1 p (hoff p hp hne)
    rw [addB_a I k r 62 (by decide)] at gap
    rw [addB_a I k r 57 (by decide)] at gill
    rw [addB_a I k r 63 (by decide)] at gto
    refine ⟨gR, (okS_addB I k r p (f p)).mp gs, ?_, ?_, ?_, ?_, ?_, ?_⟩
    · refine and0.mpr fun i hi => and0.mp gap i ?_
      rw [bt_addB (by omega), hi]; rfl
    · intro j hj
      refine gill j ?_
      rw [bt_addB (by omega), hj]; rfl
    · intro q hq hqn
      refine and0.mpr fun i hi => and0.mp (gto q hq hqn) i ?_
      rw [bt_addB (by omega), hi]; rfl
    · intro e
      have hbk : bt (addB I k r 88 (f p)) k = true := by rw [bt_addB (by omega), e]; simp
      exact ⟨and0.mp gap k hbk, gill k hbk⟩
    · intro ht
      rcases Nat.decEq (f p) r with e | e
      · have hbk : bt (addB I k r 88 r) k = true := by rw [bt_addB (by omega)]; simp
        have := and0.mp (gto r hr (fun q => e q.symm)) k hbk
        rw [this] at ht; cases ht
      · exact e
    · intro p2 hp2 hn2 hn3
      have g := gpair p2 (hoff p2 hp2 hn3) hn2
      rw [addB_a I k r 62 (by decide), addB_a I k r 63 (by decide), addB_a I k r 57 (by decide)] at g
      exact g
  refine ⟨fun p hp => ?_, fun q hq => ?_⟩
  · by_cases e : p = k
    · subst e
      refine ⟨?_, ?_, ?_, ?_, ?_, ?_⟩
      · simp only [if_true]; exact hr
      · simp only [if_true]; exact ⟨m1, m2, m3⟩
      · simp only [if_true]; exact m0b
      · simp only [if_true]
        intro j hj
        obtain ⟨j0, hj0⟩ := lowAt_ex hj
        rw [(hrm r hr).2 j j0 hj hj0.1]
        exact m4' j0 hj0
      · simp only [if_true]; exact m5
      · intro p2 hp2 hne
        simp only [if_true, if_neg hne]
        have kp := key p2 hp2 hne
        have s := hsy p p2 hk (hlt p2 hp2)
        refine ⟨fun e2 => ⟨?_, ?_⟩, fun ht => ?_⟩
        · rw [s.1]; exact (kp.2.2.2.2.2.1 e2).1
        · exact ((kp.2.2.2.2.2.1 e2).2).symm
        · rw [s.2] at ht; exact kp.2.2.2.2.2.2.1 ht
    · have kp := key p hp e
      refine ⟨?_, ?_, ?_, ?_, ?_, ?_⟩
      · simp only [if_neg e]; exact kp.1
      · simp only [if_neg e]; exact kp.2.1
      · simp only [if_neg e]; exact kp.2.2.1
      · simp only [if_neg e]; exact kp.2.2.2.1
      · simp only [if_neg e]; exact kp.2.2.2.2.1
      · intro p2 hp2 hne
        simp only [if_neg e]
        by_cases e2 : p2 = k
        · subst e2
          simp only [if_true]
          exact ⟨fun z => kp.2.2.2.2.2.1 z.symm, fun z => (kp.2.2.2.2.2.2.1 z).symm⟩
        · simp only [if_neg e2]
          exact kp.2.2.2.2.2.2.2 p2 hp2 hne e2
  · show pct (I 88 q) + fb_ct (fun p => bt left p && decide ((if p = k then r else f p) = q)) 32 ≤ capN I q
    have hcq := h2 q hq
    have ecap : capN (addB I k r) q = capN I q := by unfold capN; rw [capF_addB]
    rw [ecap] at hcq
    have hct := ct_off (left := left) (f := fun p => if p = k then r else f p) (k := k) (r := q) (by omega) hb
    have hsame : fb_ct (fun p => bt (offB left k) p && decide ((if p = k then r else f p) = q)) 32 = fb_ct (fun p => bt (offB left k) p && decide (f p = q)) 32 := by
      apply fb_ct_cong
      intro i _
      by_cases e : i = k
      · rw [b_offB (by omega)]; simp [e]
      · simp [e]
    simp only [if_true] at hct
    rw [hsame] at hct
    by_cases e : q = r
    · subst e
      rw [addB_88, pct_orI (by omega) (hdis _ hq)] at hcq
      rw [if_pos rfl] at hct
      omega
    · rw [addB_ne I k r q e] at hcq
      rw [if_neg (fun z => e z.symm)] at hct
      omega
theorem fit_step {I : Nat → Nat → Int32} {R k : Nat} {left : Int32} (hk : k < 24) (hb : bt left k = true) (hlt : ∀ i, bt left i = true → i < 24) (hdis : ∀ r, r < R → bt (I 88 r) k = false) (hsy : Sy I) (hrm : RmOk I R) : Fit I R left ↔ ∃ r, r < R ∧ mayF I R k r ∧ Fit (addB I k r) R (offB left k) := by
  constructor
  · rintro ⟨f, hf⟩
    obtain ⟨h1, h2⟩ := fit_fwd hk hb hdis (fun r hr => by obtain ⟨c, a, b, _⟩ := (hrm r hr).1; exact ⟨c, a, b⟩) hf
    exact ⟨f k, (hf.1 k hb).1, h1, f, h2⟩
  · rintro ⟨r, hr, hm, f, hf⟩
    exact ⟨_, fit_bwd hk hb hlt hdis hsy hrm hr hm hf⟩
/-- behind a step the rooms are still well -/
theorem rm_step {I : Nat → Nat → Int32} {R k r : Nat} (hk : k < 24) (hdis : ∀ r, r < R → bt (I 88 r) k = false) (hrm : RmOk I R) (hr : r < R) (hm : mayF I R k r) : RmOk (addB I k r) R := by
  obtain ⟨⟨m0a, m0b⟩, m1, m2, m3, m4', m5⟩ := hm
  intro q hq
  obtain ⟨⟨c, hc, hce, hp⟩, hs⟩ := hrm q hq
  refine ⟨⟨c, hc, by rw [capF_addB]; exact hce, ?_⟩, fun i j hi hj => ?_⟩
  · by_cases e : q = r
    · subst e
      rw [addB_88, pct_orI (by omega) (hdis _ hq)]
      rw [hce] at m0a
      have := pct_le (I 88 q)
      rcases Nat.lt_or_ge (pct (I 88 q)) c with z | z
      · exact z
      · exact absurd (nI_le z (by omega)) m0a
    · rw [addB_ne I k r q e]; exact hp
  · rw [addB_a I k r 57 (by decide)]
    rw [bt_addB (by omega)] at hi hj
    simp only [Bool.or_eq_true, Bool.and_eq_true, decide_eq_true_eq] at hi hj
    rcases hi with hi | ⟨e1, e2⟩
    · rcases hj with hj | ⟨e3, e4⟩
      · exact hs i j hi hj
      · subst e3; rw [e4]
        obtain ⟨j0, hj0⟩ := lowAt_ex hi
        rw [hs i j0 hi hj0.1]; exact m4' j0 hj0
    · subst e1
      rcases hj with hj | ⟨e3, e4⟩
      · rw [e2]
        obtain ⟨j0, hj0⟩ := lowAt_ex hj
        rw [hs j j0 hj hj0.1]; exact (m4' j0 hj0).symm
      · rw [e2, e4]
theorem sy_addB {I : Nat → Nat → Int32} (k r : Nat) (h : Sy I) : Sy (addB I k r) := by
  intro p q hp hq
  rw [addB_a I k r 62 (by decide), addB_a I k r 63 (by decide)]
  exact h p q hp hq
/-- too few places: no placing -/
theorem fit_sum {I : Nat → Nat → Int32} {R : Nat} {left : Int32} (h : Fit I R left) : pct left + fb_sm (fun r => pct (I 88 r)) R ≤ fb_sm (fun r => capN I r) R := by
  obtain ⟨f, h1, h2⟩ := h
  have hsum : fb_sm (fun r => fb_ct (fun p => bt left p && decide (f p = r)) 32) R = pct left := by
    rw [pct_ct]
    have gen : ∀ n, fb_sm (fun r => fb_ct (fun p => bt left p && decide (f p = r)) n) R = fb_ct (bt left) n := by
      intro n
      induction n with
      | zero =>
        show fb_sm (fun r => 0) R = 0
        rw [fb_sm_const]; omega
      | succ n ih =>
        have e : fb_sm (fun r => fb_ct (fun p => bt left p && decide (f p = r)) (n + 1)) R = fb_sm (fun r => fb_ct (fun p => bt left p && decide (f p = r)) n + (if bt left n && decide (f n = r) then 1 else 0)) R := fb_sm_cong (fun r _ => fb_ct_succ _ n)
        rw [e, fb_sm_add, ih, fb_ct_succ]
        congr 1
        cases hb : bt left n with
        | false =>
          simp only [Bool.false_and, Bool.false_eq_true, if_false]
          rw [fb_sm_const]; omega
        | true =>
          simp only [Bool.true_and, decide_eq_true_eq, if_true]
          have hR := (h1 n hb).1
          have hu := fb_sm_upd (fun _ => 0) 1 hR
          have e2 : fb_sm (fun r => if f n = r then 1 else 0) R = fb_sm (fun r => if r = f n then 1 else 0) R := fb_sm_cong (fun r _ => by
            by_cases z : f n = r
            · simp [z]
            · have z2 : ¬ r = f n := fun q => z q.symm
              simp [z, z2])
          rw [e2]
          rw [fb_sm_const] at hu
          omega
    exact gen 32
  have hle : fb_sm (fun r => pct (I 88 r) + fb_ct (fun p => bt left p && decide (f p = r)) 32) R ≤ fb_sm (fun r => capN I r) R := fb_sm_le (fun r hr => h2 r hr)
  rw [fb_sm_add, hsum] at hle
  omega
