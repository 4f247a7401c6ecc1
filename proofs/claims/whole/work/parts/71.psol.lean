/-! ===== placings of parties: what a search may leave out ===== -/
theorem sm_swap (F : Nat → Nat → Nat) (n : Nat) : ∀ R, fb_sm (fun r => fb_sm (F r) n) R = fb_sm (fun i => fb_sm (fun r => F r i) R) n
  | 0 => by
    have : fb_sm (fun i => fb_sm (fun r => F r i) 0) n = fb_sm (fun _ => 0) n := fb_sm_cong (fun _ _ => rfl)
    rw [this, fb_sm_const]; simp [fb_sm]
  | R + 1 => by
    rw [fb_sm_succ, sm_swap F n R, ← fb_sm_add]
    exact fb_sm_cong (fun _ _ => rfl)
theorem sm_pt (w s : Nat) : ∀ R, fb_sm (fun r => if w = r then s else 0) R = if w < R then s else 0
  | 0 => by rw [fb_sm, if_neg (by omega)]
  | R + 1 => by
    rw [fb_sm_succ, sm_pt w s R]
    by_cases h1 : w < R
    · rw [if_pos h1, if_neg (by omega), if_pos (by omega)]; rfl
    · rw [if_neg h1]
      by_cases h2 : w = R
      · rw [if_pos h2, if_pos (by omega)]; omega
      · rw [if_neg h2, if_neg (by omega)]
def unS (wh : Nat → Option Nat) (sz : Nat → Nat) (n : Nat) : Nat := fb_sm (fun i => if wh i = none then sz i else 0) n
theorem crowd1 {f : Mem} {R n : Nat} {sz cp : Nat → Nat} {wh : Nat → Option Nat} (hd : PD f R n sz cp wh) {w : Nat → Nat} (hv : VF f R n sz cp w) (he : EX n wh w) (r : Nat) (hr : r < R) : fb_sm (fun i => if w i = r then (if wh i = none then sz i else 0) else 0) n ≤ cp r - usd wh sz n r := by
  have h2 := hv.2.2 r hr
  have h3 : fb_sm (fun i => if w i = r then sz i else 0) n = usd wh sz n r + fb_sm (fun i => if w i = r then (if wh i = none then sz i else 0) else 0) n := by
    unfold usd
    rw [← fb_sm_add]
    refine fb_sm_cong (fun i hi => ?_)
    cases hw : wh i with
    | none =>
      have : ¬ (none : Option Nat) = some r := by simp
      simp only [this, if_false, if_true]; omega
    | some q =>
      have := he i hi q hw
      rw [this]
      by_cases e : q = r
      · rw [if_pos e, if_pos (by rw [e]), if_pos e, if_neg (by simp)]; omega
      · rw [if_neg e, if_neg (fun z => e (Option.some.inj z)), if_neg e]
  have := (hd.2.1 r hr).1
  omega
/-- the people of those that stand in no room and to whom room r is open -/
noncomputable def wfS (f : Mem) (wh : Nat → Option Nat) (sz : Nat → Nat) (r n : Nat) : Nat := fb_sm (fun i => cif (wh i = none ∧ opS f i r) (sz i) 0) n
/-- the places that are left, no more than those who could use them -/
noncomputable def mnS (f : Mem) (wh : Nat → Option Nat) (sz cp : Nat → Nat) (n R : Nat) : Nat := fb_sm (fun r => min (cp r - usd wh sz n r) (wfS f wh sz r n)) R
theorem crowd {f : Mem} {R n : Nat} {sz cp : Nat → Nat} {wh : Nat → Option Nat} (hd : PD f R n sz cp wh) {w : Nat → Nat} (hv : VF f R n sz cp w) (he : EX n wh w) (ho : ∀ i, i < n → wh i = none → opS f i (w i)) : unS wh sz n ≤ mnS f wh sz cp n R := by
  have h1 : ∀ r, r < R → fb_sm (fun i => if w i = r then (if wh i = none then sz i else 0) else 0) n ≤ min (cp r - usd wh sz n r) (wfS f wh sz r n) := fun r hr => by
    refine Nat.le_min.mpr ⟨crowd1 hd hv he r hr, fb_sm_le (fun i hi => ?_)⟩
    by_cases e : w i = r
    · by_cases c : wh i = none
      · have h2 := ho i hi c
        rw [e] at h2
        rw [if_pos e, if_pos c, cif_t ⟨c, h2⟩]
        exact Nat.le_refl _
      · rw [if_pos e, if_neg c]
        exact Nat.zero_le _
    · rw [if_neg e]
      exact Nat.zero_le _
  have h4 := fb_sm_le h1
  rw [sm_swap (fun r i => if w i = r then (if wh i = none then sz i else 0) else 0) n R] at h4
  have h5 : fb_sm (fun i => fb_sm (fun r => if w i = r then (if wh i = none then sz i else 0) else 0) R) n = unS wh sz n := by
    refine fb_sm_cong (fun i hi => ?_)
    rw [sm_pt, if_pos (hv.1 i hi).1]
  rw [h5] at h4
  exact h4
theorem sol_open {f : Mem} {R n : Nat} {sz cp : Nat → Nat} {wh : Nat → Option Nat} (hs : PS f R n sz cp) (hd : PD f R n sz cp wh) {w : Nat → Nat} (hv : VF f R n sz cp w) (hm : MF f n w) (he : EX n wh w) {i : Nat} (hi : i < n) (hset : f 40 i = 0) (hw : wh i = none) : opn f R n i (w i) := by
  obtain ⟨s1, s2, s3, s4, s5, s6, s7, s8⟩ := hs
  obtain ⟨v1, v2, v3⟩ := hv
  have hwr := (v1 i hi).1
  have hin : ∀ k, k < n → wh k = some (w i) → k ≠ i ∧ w k = w i := fun k hk hwk => ⟨fun z => (by rw [z, hw] at hwk; cases hwk), he k hk _ hwk⟩
  refine ⟨hwr, fun o ho hc => ?_, (v1 i hi).2, ?_, ?_, ?_⟩
  · obtain ⟨c1, c2, c3⟩ := hc
    have e38 := (hd.1 o ho).1
    cases hwo : wh o with
    | none => rw [hwo] at e38; exact absurd e38 c1
    | some q =>
      have hq := he o ho q hwo
      have hqR := ((hd.1 o ho).2 q hwo).1
      rw [e38, hwo]
      show (o < i → nI q ≤ _) ∧ (i ≤ o → _ ≤ nI q)
      have hoi : o ≠ i := fun z => by rw [z, hw] at hwo; cases hwo
      refine ⟨fun z => nI_le ?_ (by omega), fun z => nI_le ?_ (by omega)⟩
      · rw [← hq]
        exact hm o i z hi c2 hset ⟨c3.1.symm, c3.2.1.symm, c3.2.2.1.symm, c3.2.2.2.symm⟩
      · rw [← hq]
        exact hm i o (by omega) ho hset c2 c3
  · obtain ⟨a, b⟩ := hd.2.1 (w i) hwr
    rw [(s5 i hi).1, b]
    refine nI_le ?_ (by have := s8 _ hwr; omega)
    have hu := usd_upd wh sz hi (some (w i)) (w i)
    rw [hw, if_neg (by simp), if_pos rfl] at hu
    have hle : usd (updO wh i (some (w i))) sz n (w i) ≤ cp (w i) := by
      refine Nat.le_trans (fb_sm_le (fun k hk => ?_)) (v3 (w i) hwr)
      unfold updO
      by_cases e : k = i
      · rw [if_pos e, if_pos rfl, e, if_pos rfl]; exact Nat.le_refl _
      · rw [if_neg e]
        by_cases c : wh k = some (w i)
        · rw [if_pos c, if_pos (he k hk _ c)]; exact Nat.le_refl _
        · rw [if_neg c]; exact Nat.zero_le _
    omega
  · refine and0.mpr (fun x hx => ?_)
    cases hb : bt (f 41 (w i)) x with
    | false => rfl
    | true =>
      obtain ⟨k, hk, hwk, hbk⟩ := (hd.2.2.1 (w i) hwr x).mp hb
      obtain ⟨e1, e2⟩ := hin k hk hwk
      have := and0.mp (v2 i k hi hk (fun z => e1 z.symm) e2.symm).2 x hx
      rw [hbk] at this; cases this
  · rcases Classical.em (f 41 (w i) = 0) with c | c
    · exact Or.inl c
    · right
      have : ∃ x, bt (f 41 (w i)) x = true := Classical.not_not.mp (fun z => c (b_ext fun x _ => by
        rw [b_0]
        cases hb : bt (f 41 (w i)) x with
        | false => rfl
        | true => exact absurd ⟨x, hb⟩ z))
      obtain ⟨x, hx⟩ := this
      obtain ⟨k, hk, hwk, hbk⟩ := (hd.2.2.1 (w i) hwr x).mp hx
      obtain ⟨e1, e2⟩ := hin k hk hwk
      rw [((hd.1 k hk).2 _ hwk).2.2]
      exact (v2 k i hk hi e1 e2).1
/-! two parties that are alike change their rooms -/
def swp (w : Nat → Nat) (i j : Nat) : Nat → Nat := fun k => if k = i then w j else if k = j then w i else w k
theorem swp_i (w : Nat → Nat) (i j : Nat) : swp w i j i = w j := if_pos rfl
theorem swp_j (w : Nat → Nat) {i j : Nat} (h : i ≠ j) : swp w i j j = w i := by unfold swp; rw [if_neg (fun z => h z.symm), if_pos rfl]
theorem swp_o (w : Nat → Nat) {i j k : Nat} (h1 : k ≠ i) (h2 : k ≠ j) : swp w i j k = w k := by unfold swp; rw [if_neg h1, if_neg h2]
theorem sm_2 (F G : Nat → Nat) {n i j : Nat} (hi : i < n) (hj : j < n) (hij : i ≠ j) (ho : ∀ k, k < n → k ≠ i → k ≠ j → F k = G k) : fb_sm F n + G i + G j = fb_sm G n + F i + F j := by
  have h1 := fb_sm_upd G (F i) hi
  have h2 := fb_sm_upd (fun k => if k = i then F i else G k) (F j) hj
  rw [if_neg (fun z => hij z.symm)] at h2
  have h3 : fb_sm F n = fb_sm (fun k => if k = j then F j else if k = i then F i else G k) n := by
    refine fb_sm_cong (fun k hk => ?_)
    by_cases e : k = j
    · rw [if_pos e, e]
    · rw [if_neg e]
      by_cases e2 : k = i
      · rw [if_pos e2, e2]
      · rw [if_neg e2]; exact ho k hk e2 e
  rw [h3]
  omega
theorem swp_VF {f : Mem} {R n : Nat} {sz cp : Nat → Nat} (hs : PS f R n sz cp) {w : Nat → Nat} (hv : VF f R n sz cp w) {i j : Nat} (hi : i < n) (hj : j < n) (hij : i ≠ j) (ha : alk f i j) : VF f R n sz cp (swp w i j) := by
  obtain ⟨s1, s2, s3, s4, s5, s6, s7, s8⟩ := hs
  obtain ⟨v1, v2, v3⟩ := hv
  obtain ⟨a1, a2, a3, a4⟩ := ha
  have esz : sz i = sz j := by
    rw [(s5 i hi).1, (s5 j hj).1] at a1
    exact (nI_eq (by have := (s5 i hi).2.1; omega) (by have := (s5 j hj).2.1; omega)).mp a1
  -- where a party of i's kind stands with another in one room
  have key : ∀ k, k < n → k ≠ i → k ≠ j → ∀ x y, (x = i ∧ y = j) ∨ (x = j ∧ y = i) → w k = w y → f 36 x = f 36 k ∧ f 37 x &&& f 34 k = 0 ∧ f 37 k &&& f 34 x = 0 := by
    intro k hk k1 k2 x y hxy hwk
    have hx : x < n := by rcases hxy with ⟨e, _⟩ | ⟨e, _⟩ <;> rw [e] <;> assumption
    have hy : y < n := by rcases hxy with ⟨_, e⟩ | ⟨_, e⟩ <;> rw [e] <;> assumption
    have hky : k ≠ y := by rcases hxy with ⟨_, e⟩ | ⟨_, e⟩ <;> rw [e] <;> assumption
    have e35 : f 36 x = f 36 y := by rcases hxy with ⟨e, e'⟩ | ⟨e, e'⟩ <;> rw [e, e']; exact a2; exact a2.symm
    have e36 : f 37 x = f 37 y := by rcases hxy with ⟨e, e'⟩ | ⟨e, e'⟩ <;> rw [e, e']; exact a3; exact a3.symm
    have h1 := v2 y k hy hk (fun z => hky z.symm) hwk.symm
    have h2 : f 37 x &&& f 34 k = 0 := by rw [e36]; exact h1.2
    exact ⟨e35.trans h1.1, h2, (s7 x k hx hk).mp h2⟩
  refine ⟨fun k hk => ?_, fun a b hA hB hab hw => ?_, fun r hr => ?_⟩
  · by_cases e1 : k = i
    · rw [e1, swp_i, a4]; exact v1 j hj
    · by_cases e2 : k = j
      · rw [e2, swp_j w hij, ← a4]; exact v1 i hi
      · rw [swp_o w e1 e2]; exact v1 k hk
  · by_cases ai : a = i
    · subst ai
      by_cases bj : b = j
      · subst bj
        rw [swp_i, swp_j w hij] at hw
        exact v2 a b hA hB hab hw.symm
      · rw [swp_i, swp_o w (fun z => hab z.symm) bj] at hw
        have := key b hB (fun z => hab z.symm) bj a j (Or.inl ⟨rfl, rfl⟩) hw.symm
        exact ⟨this.1, this.2.1⟩
    · by_cases aj : a = j
      · subst aj
        by_cases bi : b = i
        · subst bi
          rw [swp_i, swp_j w hij] at hw
          exact v2 a b hA hB hab hw.symm
        · rw [swp_j w hij, swp_o w bi (fun z => hab z.symm)] at hw
          have := key b hB bi (fun z => hab z.symm) a i (Or.inr ⟨rfl, rfl⟩) hw.symm
          exact ⟨this.1, this.2.1⟩
      · rw [swp_o w ai aj] at hw
        by_cases bi : b = i
        · subst bi
          rw [swp_i] at hw
          have := key a hA ai aj b j (Or.inl ⟨rfl, rfl⟩) hw
          exact ⟨this.1.symm, this.2.2⟩
        · by_cases bj : b = j
          · subst bj
            rw [swp_j w hij] at hw
            have := key a hA ai aj b i (Or.inr ⟨rfl, rfl⟩) hw
            exact ⟨this.1.symm, this.2.2⟩
          · rw [swp_o w bi bj] at hw
            exact v2 a b hA hB hab hw
  · have h2 := sm_2 (fun k => if swp w i j k = r then sz k else 0) (fun k => if w k = r then sz k else 0) hi hj hij (fun k _ k1 k2 => by simp only [swp_o w k1 k2])
    simp only [swp_i, swp_j w hij, esz] at h2
    have := v3 r hr
    omega
theorem sort_w {f : Mem} {R n : Nat} {sz cp : Nat → Nat} (hs : PS f R n sz cp) (wh : Nat → Option Nat) (hset : ∀ i, i < n → f 40 i = 0 → wh i = none) : ∀ (m : Nat) (w : Nat → Nat), fb_sm (fun k => 4 * k) n - fb_sm (fun k => k * w k) n = m → VF f R n sz cp w → EX n wh w → ∃ w', VF f R n sz cp w' ∧ EX n wh w' ∧ MF f n w' := by
  intro m
  induction m using Nat.strongRecOn with
  | _ m ih =>
    intro w hm hv he
    rcases Classical.em (MF f n w) with c | c
    · exact ⟨w, hv, he, c⟩
    · have : ∃ i j, i < j ∧ j < n ∧ f 40 i = 0 ∧ f 40 j = 0 ∧ alk f i j ∧ w j < w i := Classical.not_not.mp (fun z => c (fun i j h1 h2 h3 h4 h5 => Nat.le_of_not_lt (fun h6 => z ⟨i, j, h1, h2, h3, h4, h5, h6⟩)))
      obtain ⟨i, j, hij, hj, s1, s2, ha, hlt⟩ := this
      have hi : i < n := by omega
      have hne : i ≠ j := by omega
      have hv' := swp_VF hs hv hi hj hne ha
      have hle : fb_sm (fun k => k * swp w i j k) n ≤ fb_sm (fun k => 4 * k) n := fb_sm_le (fun k hk => by
        have := (hv'.1 k hk).1
        have h4 : swp w i j k ≤ 4 := by have := hs.1; omega
        calc k * swp w i j k ≤ k * 4 := Nat.mul_le_mul_left k h4
          _ = 4 * k := Nat.mul_comm _ _)
      have h2 := sm_2 (fun k => k * swp w i j k) (fun k => k * w k) hi hj hne (fun k _ k1 k2 => by simp only [swp_o w k1 k2])
      simp only [swp_i, swp_j w hne] at h2
      have h3 : i * w i + j * w j < i * w j + j * w i := by
        obtain ⟨d, rfl⟩ : ∃ d, j = i + d := ⟨j - i, by omega⟩
        obtain ⟨e, he2⟩ : ∃ e, w i = w (i + d) + e := ⟨w i - w (i + d), by omega⟩
        have hd : 0 < d := by omega
        have hee : 0 < e := by omega
        have hde : 0 < d * e := Nat.mul_pos hd hee
        rw [he2, Nat.mul_add, Nat.mul_add, Nat.add_mul, Nat.add_mul]
        omega
      refine ih _ ?_ (swp w i j) rfl hv' (fun k hk r hr => ?_)
      · omega
      · have k1 : k ≠ i := fun z => by rw [z, hset i hi s1] at hr; cases hr
        have k2 : k ≠ j := fun z => by rw [z, hset j hj s2] at hr; cases hr
        rw [swp_o w k1 k2]; exact he k hk r hr
