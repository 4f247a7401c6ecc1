/-! ===== placings of parties, pure ===== -/
def usd (wh : Nat → Option Nat) (sz : Nat → Nat) (n r : Nat) : Nat := fb_sm (fun i => if wh i = some r then sz i else 0) n
def updO (wh : Nat → Option Nat) (i : Nat) (v : Option Nat) : Nat → Option Nat := fun k => if k = i then v else wh k
/-- what stays: rooms, parties, their sizes -/
def PS (f : Mem) (R n : Nat) (sz cp : Nat → Nat) : Prop :=
  R ≤ 4 ∧ n ≤ 10 ∧ f 12 0 = nI R ∧ f 33 2 = nI n ∧ (∀ i, i < n → f 35 i = nI (sz i) ∧ sz i ≤ 24 ∧ ¬ f 34 i = 0) ∧ (∀ i j, i < n → j < n → i ≠ j → f 34 i &&& f 34 j = 0) ∧ (∀ i j, i < n → j < n → (f 37 i &&& f 34 j = 0 ↔ f 37 j &&& f 34 i = 0)) ∧ ∀ r, r < R → cp r ≤ 9
/-- where the parties stand -/
def PD (f : Mem) (R n : Nat) (sz cp : Nat → Nat) (wh : Nat → Option Nat) : Prop :=
  (∀ i, i < n → f 39 i = oB (wh i) ∧ ∀ r, wh i = some r → r < R ∧ bt (f 38 i) r = true ∧ f 42 r = f 36 i) ∧ (∀ r, r < R → usd wh sz n r ≤ cp r ∧ f 43 r = nI (cp r - usd wh sz n r)) ∧ (∀ r, r < R → ∀ x, bt (f 41 r) x = true ↔ ∃ i, i < n ∧ wh i = some r ∧ bt (f 34 i) x = true) ∧ ∀ i j, i < n → j < n → i ≠ j → ∀ r, wh i = some r → wh j = some r → f 37 i &&& f 34 j = 0
def VF (f : Mem) (R n : Nat) (sz cp : Nat → Nat) (w : Nat → Nat) : Prop :=
  (∀ i, i < n → w i < R ∧ bt (f 38 i) (w i) = true) ∧ (∀ i j, i < n → j < n → i ≠ j → w i = w j → f 36 i = f 36 j ∧ f 37 i &&& f 34 j = 0) ∧ ∀ r, r < R → fb_sm (fun i => if w i = r then sz i else 0) n ≤ cp r
def MF (f : Mem) (n : Nat) (w : Nat → Nat) : Prop := ∀ i j, i < j → j < n → f 40 i = 0 → f 40 j = 0 → alk f i j → w i ≤ w j
def EX (n : Nat) (wh : Nat → Option Nat) (w : Nat → Nat) : Prop := ∀ i, i < n → ∀ r, wh i = some r → w i = r
def putM (f : Mem) (i r : Nat) : Mem := u2 (u2 (u2 (u2 f 39 i (nI r)) 41 r (f 41 r ||| f 34 i)) 42 r (f 36 i)) 43 r (f 43 r - f 35 i)
def outM (f : Mem) (i r : Nat) : Mem := u2 (u2 (u2 f 39 i (-1)) 41 r (f 41 r &&& (f 34 i ^^^ (-1)))) 43 r (f 43 r + f 35 i)
theorem putM_o (f : Mem) (i r : Nat) {a : Nat} (h : a ≠ 39 ∧ a ≠ 41 ∧ a ≠ 42 ∧ a ≠ 43) (j : Nat) : putM f i r a j = f a j := by
  unfold putM
  rw [u2_ne (fun z => h.2.2.2 z.1), u2_ne (fun z => h.2.2.1 z.1), u2_ne (fun z => h.2.1 z.1), u2_ne (fun z => h.1 z.1)]
theorem outM_o (f : Mem) (i r : Nat) {a : Nat} (h : a ≠ 39 ∧ a ≠ 41 ∧ a ≠ 43) (j : Nat) : outM f i r a j = f a j := by
  unfold outM
  rw [u2_ne (fun z => h.2.2 z.1), u2_ne (fun z => h.2.1 z.1), u2_ne (fun z => h.1 z.1)]
theorem putM_39 (f : Mem) (i r j : Nat) : putM f i r 39 j = if j = i then nI r else f 39 j := by
  unfold putM
  rw [u2_ne (by omega), u2_ne (by omega), u2_ne (by omega)]
  unfold u2
  by_cases e : j = i
  · rw [if_pos ⟨rfl, e⟩, if_pos e]
  · rw [if_neg (fun z => e z.2), if_neg e]
theorem putM_41 (f : Mem) (i r j : Nat) : putM f i r 41 j = if j = r then f 41 r ||| f 34 i else f 41 j := by
  unfold putM
  rw [u2_ne (by omega), u2_ne (by omega)]
  by_cases e : j = r
  · rw [if_pos e, e, u2_eq]
  · rw [if_neg e, u2_ne (fun z => e z.2), u2_ne (by omega)]
theorem putM_42 (f : Mem) (i r j : Nat) : putM f i r 42 j = if j = r then f 36 i else f 42 j := by
  unfold putM
  rw [u2_ne (by omega)]
  by_cases e : j = r
  · rw [if_pos e, e, u2_eq]
  · rw [if_neg e, u2_ne (fun z => e z.2), u2_ne (by omega), u2_ne (by omega)]
theorem putM_43 (f : Mem) (i r j : Nat) : putM f i r 43 j = if j = r then f 43 r - f 35 i else f 43 j := by
  unfold putM
  by_cases e : j = r
  · rw [if_pos e, e, u2_eq]
  · rw [if_neg e, u2_ne (fun z => e z.2), u2_ne (by omega), u2_ne (by omega), u2_ne (by omega)]
theorem outM_39 (f : Mem) (i r j : Nat) : outM f i r 39 j = if j = i then -1 else f 39 j := by
  unfold outM
  rw [u2_ne (by omega), u2_ne (by omega)]
  unfold u2
  by_cases e : j = i
  · rw [if_pos ⟨rfl, e⟩, if_pos e]
  · rw [if_neg (fun z => e z.2), if_neg e]
theorem outM_41 (f : Mem) (i r j : Nat) : outM f i r 41 j = if j = r then f 41 r &&& (f 34 i ^^^ (-1)) else f 41 j := by
  unfold outM
  rw [u2_ne (by omega)]
  by_cases e : j = r
  · rw [if_pos e, e, u2_eq]
  · rw [if_neg e, u2_ne (fun z => e z.2), u2_ne (by omega)]
theorem outM_43 (f : Mem) (i r j : Nat) : outM f i r 43 j = if j = r then f 43 r + f 35 i else f 43 j := by
  unfold outM
  by_cases e : j = r
  · rw [if_pos e, e, u2_eq]
  · rw [if_neg e, u2_ne (fun z => e z.2), u2_ne (by omega), u2_ne (by omega)]
theorem PS.c {f g : Mem} {R n : Nat} {sz cp : Nat → Nat} (h : PS f R n sz cp) (e : ∀ a j, a ≠ 39 → a ≠ 41 → a ≠ 42 → a ≠ 43 → g a j = f a j) : PS g R n sz cp := by
  obtain ⟨h1, h2, h3, h4, h5, h6, h7, h8⟩ := h
  have e33 : ∀ i, g 34 i = f 34 i := fun i => e 34 i (by decide) (by decide) (by decide) (by decide)
  have e34 : ∀ i, g 35 i = f 35 i := fun i => e 35 i (by decide) (by decide) (by decide) (by decide)
  have e36 : ∀ i, g 37 i = f 37 i := fun i => e 37 i (by decide) (by decide) (by decide) (by decide)
  refine ⟨h1, h2, ?_, ?_, fun i hi => ?_, fun i j hi hj hij => ?_, fun i j hi hj => ?_, h8⟩
  · rw [e 12 0 (by decide) (by decide) (by decide) (by decide)]; exact h3
  · rw [e 33 2 (by decide) (by decide) (by decide) (by decide)]; exact h4
  · rw [e34, e33]; exact h5 i hi
  · rw [e33, e33]; exact h6 i j hi hj hij
  · rw [e36, e36, e33, e33]; exact h7 i j hi hj
theorem usd_upd (wh : Nat → Option Nat) (sz : Nat → Nat) {n i : Nat} (hi : i < n) (v : Option Nat) (r : Nat) : usd (updO wh i v) sz n r + (if wh i = some r then sz i else 0) = usd wh sz n r + (if v = some r then sz i else 0) := by
  have := fb_sm_upd (fun k => if wh k = some r then sz k else 0) (if v = some r then sz i else 0) hi
  have e : usd (updO wh i v) sz n r = fb_sm (fun k => if k = i then (if v = some r then sz i else 0) else (if wh k = some r then sz k else 0)) n := by
    refine fb_sm_cong (fun k _ => ?_)
    unfold updO
    by_cases e : k = i
    · rw [if_pos e, if_pos e, e]
    · rw [if_neg e, if_neg e]
  rw [e]; exact this
theorem nI_sub_le {a b c : Nat} (h : b + c ≤ a) : nI (a - b) - nI c = nI (a - (b + c)) := by
  have := nI_sub (a := a - b) (b := c) (by omega)
  rw [this, Nat.sub_sub]
theorem PD.put {f : Mem} {R n : Nat} {sz cp : Nat → Nat} {wh : Nat → Option Nat} (hs : PS f R n sz cp) (hd : PD f R n sz cp wh) {i r : Nat} (hi : i < n) (hw : wh i = none) (hr : r < R) (ho : opS f i r) : PD (putM f i r) R n sz cp (updO wh i (some r)) := by
  obtain ⟨s1, s2, s3, s4, s5, s6, s7, s8⟩ := hs
  obtain ⟨d1, d2, d3, d4⟩ := hd
  obtain ⟨o1, o2, o3, o4⟩ := ho
  have hin : ∀ k, k < n → wh k = some r → f 36 k = f 36 i ∧ f 37 i &&& f 34 k = 0 := fun k hk hwk => by
    have hne : ¬ f 41 r = 0 := fun z => (s5 k hk).2.2 (b_ext fun x _ => by
      rw [b_0]
      cases hb : bt (f 34 k) x with
      | false => rfl
      | true =>
        have := (d3 r hr x).mpr ⟨k, hk, hwk, hb⟩
        rw [z, b_0] at this; cases this)
    refine ⟨?_, ?_⟩
    · rw [← ((d1 k hk).2 r hwk).2.2]
      rcases o4 with q | q
      · exact absurd q hne
      · exact q
    · refine and0.mpr (fun x hx => ?_)
      cases hb : bt (f 34 k) x with
      | false => rfl
      | true =>
        have h1 := (d3 r hr x).mpr ⟨k, hk, hwk, hb⟩
        have h2 := and0.mp o3 x hx
        rw [h1] at h2; cases h2
  have hun : ∀ k, k ≠ i → updO wh i (some r) k = wh k := fun k hk => if_neg hk
  have hui : updO wh i (some r) i = some r := if_pos rfl
  refine ⟨fun k hk => ?_, fun q hq => ?_, fun q hq x => ?_, fun a b ha hb hab q h1 h2 => ?_⟩
  · rw [putM_39, putM_o f i r (by decide : 38 ≠ 39 ∧ 38 ≠ 41 ∧ 38 ≠ 42 ∧ 38 ≠ 43), putM_o f i r (by decide : 36 ≠ 39 ∧ 36 ≠ 41 ∧ 36 ≠ 42 ∧ 36 ≠ 43)]
    by_cases e : k = i
    · subst e
      rw [if_pos rfl, hui]
      refine ⟨rfl, fun q hq => ?_⟩
      cases hq
      rw [putM_42, if_pos rfl]
      exact ⟨hr, o1, rfl⟩
    · rw [if_neg e, hun k e]
      refine ⟨(d1 k hk).1, fun q hq => ?_⟩
      obtain ⟨a, b, c⟩ := (d1 k hk).2 q hq
      refine ⟨a, b, ?_⟩
      rw [putM_42]
      by_cases e2 : q = r
      · rw [if_pos e2]; rw [e2] at hq; exact (hin k hk hq).1.symm
      · rw [if_neg e2]; exact c
  · have hu := usd_upd wh sz hi (some r) q
    rw [hw, if_neg (by simp)] at hu
    obtain ⟨a, b⟩ := d2 q hq
    rw [putM_43]
    by_cases e : q = r
    · subst e
      rw [if_pos rfl] at hu
      rw [if_pos rfl, b, (s5 i hi).1]
      rw [b, (s5 i hi).1, nI_leI (by have := (s5 i hi).2.1; omega) (by have := s8 q hq; omega)] at o2
      refine ⟨by omega, ?_⟩
      rw [nI_sub_le (by omega)]
      congr 2
      omega
    · rw [if_neg (fun z => e (Option.some.inj z).symm)] at hu
      rw [if_neg e]
      have : usd (updO wh i (some r)) sz n q = usd wh sz n q := by omega
      rw [this]; exact ⟨a, b⟩
  · rw [putM_41]
    have e33 : ∀ k, putM f i r 34 k = f 34 k := fun k => putM_o f i r (by decide) k
    by_cases e : q = r
    · subst e
      rw [if_pos rfl, b_or, Bool.or_eq_true, d3 q hq x]
      constructor
      · rintro (⟨k, a, b, c⟩ | c)
        · refine ⟨k, a, ?_, by rw [e33]; exact c⟩
          rw [hun k (fun z => by rw [z, hw] at b; cases b)]; exact b
        · exact ⟨i, hi, hui, by rw [e33]; exact c⟩
      · rintro ⟨k, a, b, c⟩
        rw [e33] at c
        by_cases e2 : k = i
        · rw [e2] at c; exact Or.inr c
        · rw [hun k e2] at b; exact Or.inl ⟨k, a, b, c⟩
    · rw [if_neg e, d3 q hq x]
      constructor
      · rintro ⟨k, a, b, c⟩
        refine ⟨k, a, ?_, by rw [e33]; exact c⟩
        rw [hun k (fun z => by rw [z, hw] at b; cases b)]; exact b
      · rintro ⟨k, a, b, c⟩
        rw [e33] at c
        by_cases e2 : k = i
        · rw [e2, hui] at b; exact absurd (Option.some.inj b).symm e
        · rw [hun k e2] at b; exact ⟨k, a, b, c⟩
  · rw [putM_o f i r (by decide : 37 ≠ 39 ∧ 37 ≠ 41 ∧ 37 ≠ 42 ∧ 37 ≠ 43), putM_o f i r (by decide : 34 ≠ 39 ∧ 34 ≠ 41 ∧ 34 ≠ 42 ∧ 34 ≠ 43)]
    by_cases ea : a = i
    · subst ea
      rw [hui] at h1; cases h1
      rw [hun b (fun z => hab z.symm)] at h2
      exact (hin b hb h2).2
    · rw [hun a ea] at h1
      by_cases eb : b = i
      · subst eb
        rw [hui] at h2; cases h2
        exact (s7 b a hb ha).mp (hin a ha h1).2
      · rw [hun b eb] at h2
        exact d4 a b ha hb hab q h1 h2
theorem PD.out {f : Mem} {R n : Nat} {sz cp : Nat → Nat} {wh : Nat → Option Nat} (hs : PS f R n sz cp) (hd : PD f R n sz cp wh) {i r : Nat} (hi : i < n) (hw : wh i = some r) : PD (outM f i r) R n sz cp (updO wh i none) := by
  obtain ⟨s1, s2, s3, s4, s5, s6, s7, s8⟩ := hs
  obtain ⟨d1, d2, d3, d4⟩ := hd
  have hun : ∀ k, k ≠ i → updO wh i none k = wh k := fun k hk => if_neg hk
  have hui : updO wh i none i = none := if_pos rfl
  have e33 : ∀ k, outM f i r 34 k = f 34 k := fun k => outM_o f i r (by decide) k
  refine ⟨fun k hk => ?_, fun q hq => ?_, fun q hq x => ?_, fun a b ha hb hab q h1 h2 => ?_⟩
  · rw [outM_39, outM_o f i r (by decide : 38 ≠ 39 ∧ 38 ≠ 41 ∧ 38 ≠ 43), outM_o f i r (by decide : 36 ≠ 39 ∧ 36 ≠ 41 ∧ 36 ≠ 43)]
    by_cases e : k = i
    · subst e
      rw [if_pos rfl, hui]
      exact ⟨rfl, fun q hq => by cases hq⟩
    · rw [if_neg e, hun k e]
      refine ⟨(d1 k hk).1, fun q hq => ?_⟩
      rw [outM_o f i r (by decide : 42 ≠ 39 ∧ 42 ≠ 41 ∧ 42 ≠ 43)]
      exact (d1 k hk).2 q hq
  · have hu := usd_upd wh sz hi none q
    rw [if_neg (by simp : ¬ (none : Option Nat) = some q)] at hu
    obtain ⟨a, b⟩ := d2 q hq
    rw [outM_43]
    by_cases e : q = r
    · subst e
      rw [if_pos hw] at hu
      rw [if_pos rfl, b, (s5 i hi).1, nI_add]
      refine ⟨by omega, ?_⟩
      congr 1
      omega
    · rw [if_neg (by rw [hw]; exact fun z => e (Option.some.inj z).symm)] at hu
      rw [if_neg e]
      have : usd (updO wh i none) sz n q = usd wh sz n q := by omega
      rw [this]; exact ⟨a, b⟩
  · rw [outM_41]
    by_cases e : q = r
    · subst e
      rw [if_pos rfl, b_and, b_xor, Bool.and_eq_true, d3 q hq x]
      constructor
      · rintro ⟨⟨k, a, b, c⟩, d⟩
        have hx : x < 32 := Nat.lt_of_not_le (fun z => by rw [b_big z] at c; cases c)
        rw [b_m1 x hx] at d
        have hk : k ≠ i := fun z => by rw [← z, c] at d; cases d
        exact ⟨k, a, by rw [hun k hk]; exact b, by rw [e33]; exact c⟩
      · rintro ⟨k, a, b, c⟩
        rw [e33] at c
        have hx : x < 32 := Nat.lt_of_not_le (fun z => by rw [b_big z] at c; cases c)
        have hk : k ≠ i := fun z => by rw [z, hui] at b; cases b
        rw [hun k hk] at b
        refine ⟨⟨k, a, b, c⟩, ?_⟩
        have := and0.mp (s6 k i a hi hk) x c
        rw [this, b_m1 x hx]; rfl
    · rw [if_neg e, d3 q hq x]
      constructor
      · rintro ⟨k, a, b, c⟩
        refine ⟨k, a, ?_, by rw [e33]; exact c⟩
        rw [hun k (fun z => by rw [z, hw] at b; exact e (Option.some.inj b).symm)]; exact b
      · rintro ⟨k, a, b, c⟩
        rw [e33] at c
        have hk : k ≠ i := fun z => by rw [z, hui] at b; cases b
        rw [hun k hk] at b; exact ⟨k, a, b, c⟩
  · rw [outM_o f i r (by decide : 37 ≠ 39 ∧ 37 ≠ 41 ∧ 37 ≠ 43), e33]
    have ha' : a ≠ i := fun z => by rw [z, hui] at h1; cases h1
    have hb' : b ≠ i := fun z => by rw [z, hui] at h2; cases h2
    rw [hun a ha'] at h1
    rw [hun b hb'] at h2
    exact d4 a b ha hb hab q h1 h2
