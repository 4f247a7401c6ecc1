/-! ===== what the pure reader keeps ===== -/
def KP (l : Nat) (M M' : Mem) : Prop := M' 44 43 = M 44 43 ∧ M' 44 44 = M 44 44 ∧ (¬ M 44 45 = -1 → ¬ M' 44 45 = -1) ∧ (∀ j, j ≠ l → M' 80 j = M 80 j) ∧ ((∃ T, T ≤ 4 ∧ M 80 l = nI T) → ∃ T, T ≤ 4 ∧ M' 80 l = nI T)
theorem KP.rf (l : Nat) (M : Mem) : KP l M M := ⟨rfl, rfl, fun z => z, fun _ _ => rfl, fun z => z⟩
theorem KP.tr {l : Nat} {M M' M2 : Mem} (h : KP l M M') (h2 : KP l M' M2) : KP l M M2 := ⟨h2.1.trans h.1, h2.2.1.trans h.2.1, fun z => h2.2.2.1 (h.2.2.1 z), fun j hj => (h2.2.2.2.1 j hj).trans (h.2.2.2.1 j hj), fun z => h2.2.2.2.2 (h.2.2.2.2 z)⟩
theorem KP.u {l : Nat} (M : Mem) {a j : Nat} (h : (a ≠ 44 ∧ a ≠ 80) ∨ (a = 44 ∧ j = 46)) (v : Int32) : KP l M (u2 M a j v) := by
  have o : ∀ i, i ≠ 46 → u2 M a j v 44 i = M 44 i := fun i hi => u2_ne (fun z => by omega)
  have o8 : ∀ i, u2 M a j v 80 i = M 80 i := fun i => u2_ne (fun z => by omega)
  exact ⟨o 43 (by decide), o 44 (by decide), fun z => by rw [o 45 (by decide)]; exact z, fun i _ => o8 i, fun ⟨T, a, b⟩ => ⟨T, a, by rw [o8]; exact b⟩⟩
theorem KP.many (l : Nat) (M : Mem) {b : Nat} (hb : b < 2147483648) : KP l M (pMany M (nI b)) := by
  unfold pMany
  split
  · have o : ∀ i, i ≠ 45 → u2 M 44 45 (nI b) 44 i = M 44 i := fun i hi => u2_ne (fun z => by omega)
    have o8 : ∀ i, u2 M 44 45 (nI b) 80 i = M 80 i := fun i => u2_ne (fun z => by omega)
    exact ⟨o 43 (by decide), o 44 (by decide), fun _ => by rw [u2_eq]; exact nI_m1 b hb, fun i _ => o8 i, fun ⟨T, a, b⟩ => ⟨T, a, by rw [o8]; exact b⟩⟩
  · exact KP.rf l M
theorem KP.wr (M : Mem) (l n : Nat) (w s v : Int32) : KP l M (pWr M l n w s v) := by
  unfold pWr
  split
  · rename_i c
    refine ((KP.u M (a := 81) (j := 4 * l + n) (Or.inl (by decide)) w).tr ((KP.u _ (a := 82) (j := 4 * l + n) (Or.inl (by decide)) s).tr (KP.u _ (a := 83) (j := 4 * l + n) (Or.inl (by decide)) v))).tr ?_
    generalize u2 (u2 (u2 M 81 (4 * l + n) w) 82 (4 * l + n) s) 83 (4 * l + n) v = M2
    refine ⟨u2_ne (by omega), u2_ne (by omega), fun z => by rw [u2_ne (by omega)]; exact z, fun i hi => u2_ne (fun z => hi z.2), fun _ => ⟨n + 1, by omega, u2_eq⟩⟩
  · exact KP.rf l M
def FL (B : Nat → Int32) (L : Nat) (M : Mem) (t : Nat) : Prop := M 44 43 = 1 ∧ M 44 44 = nI (bgT B L t)
theorem FL.of (B : Nat → Int32) (L : Nat) (M : Mem) (t : Nat) : FL B L (pFail M (nI (bgT B L t))) t := by
  unfold FL pFail
  exact ⟨by rw [u2_ne (by decide), u2_eq], u2_eq⟩
def RK (B : Nat → Int32) (L l : Nat) (M : Mem) (t : Nat) (R : Bool × Mem × Nat) : Prop := (R.1 = true → KP l M R.2.1 ∧ t ≤ R.2.2) ∧ (R.1 = false → FL B L R.2.1 R.2.2)
theorem RK.ok {B : Nat → Int32} {L l : Nat} {M M' : Mem} {t t' : Nat} (h : KP l M M') (ht : t ≤ t') : RK B L l M t (true, M', t') := ⟨fun _ => ⟨h, ht⟩, fun z => (by cases z)⟩
theorem RK.no {B : Nat → Int32} {L l : Nat} {M M' : Mem} {t t' : Nat} : RK B L l M t (false, pFail M' (nI (bgT B L t')), t') := ⟨fun z => (by cases z), fun _ => FL.of B L M' t'⟩
theorem RK.tr {B : Nat → Int32} {L l : Nat} {M M' : Mem} {t t' : Nat} {R : Bool × Mem × Nat} (h : KP l M M') (ht : t ≤ t') (h2 : RK B L l M' t' R) : RK B L l M t R := ⟨fun z => ⟨h.tr (h2.1 z).1, Nat.le_trans ht (h2.1 z).2⟩, h2.2⟩
theorem pT_rk (B : Nat → Int32) (L l n : Nat) (M : Mem) (t : Nat) (hL : L ≤ 500) : RK B L l M t (pT B L l n M t) := by
  have h0 : KP l M (if n = 4 then pMany M (nI (bgT B L t)) else M) := by
    have := bgT_le B L t
    split
    · exact KP.many l M (by omega)
    · exact KP.rf l M
  have h1 : t ≤ t1T B L t := by unfold t1T; split <;> omega
  generalize hM1 : (if n = 4 then pMany M (nI (bgT B L t)) else M) = M1 at h0
  unfold pT
  rw [hM1]
  split
  · split
    · split
      · exact RK.ok (h0.tr (KP.wr _ _ _ _ _ _)) (by omega)
      · exact RK.no
    · exact RK.no
  · split
    · exact RK.ok (h0.tr (KP.wr _ _ _ _ _ _)) (by omega)
    · exact RK.no
theorem pTs_rk (B : Nat → Int32) (L l : Nat) (hL : L ≤ 500) : ∀ (m n : Nat) (M : Mem) (t : Nat), RK B L l M t (pTs B L l m n M t)
  | 0, _, M, t => RK.ok (KP.rf l M) (Nat.le_refl t)
  | m + 1, n, M, t => by
    have h0 := pT_rk B L l n M t hL
    show RK B L l M t (if _ then _ else _)
    split
    · rename_i ok
      split
      · obtain ⟨a, b⟩ := h0.1 ok
        exact RK.tr a (by omega) (pTs_rk B L l hL m (n + 1) _ _)
      · exact h0
    · exact h0
theorem pE_rk (B : Nat → Int32) (L l k : Nat) (M : Mem) (t : Nat) : RK B L l M t (pA.pE B L k M t) := by
  unfold pA.pE
  split
  · exact RK.ok (KP.u M (Or.inr ⟨rfl, rfl⟩) _) (by omega)
  · exact RK.no
theorem pA_rk (B : Nat → Int32) (L l k : Nat) (M : Mem) (t : Nat) : RK B L l M t (pA B L l k M t) := by
  unfold pA
  split
  · split
    · split
      · exact RK.tr ((KP.u M (Or.inl (by decide)) _).tr (KP.u _ (Or.inl (by decide)) _)) (by omega) (pE_rk B L l k _ _)
      · exact RK.no
    · split
      · exact RK.tr ((KP.u M (Or.inl (by decide)) _).tr (KP.u _ (Or.inl (by decide)) _)) (by omega) (pE_rk B L l k _ _)
      · exact RK.no
  · split
    · exact RK.tr (KP.u M (Or.inl (by decide)) _) (by omega) (pE_rk B L l k _ _)
    · split
      · exact RK.tr (KP.u M (Or.inl (by decide)) _) (by omega) (pE_rk B L l k _ _)
      · exact RK.no
theorem pE_46 {B : Nat → Int32} {L k : Nat} {M : Mem} {t : Nat} (h : (pA.pE B L k M t).1 = true) : (pA.pE B L k M t).2.1 44 46 = nI (k + 1) ∧ (pA.pE B L k M t).2.2 = t + 1 := by
  unfold pA.pE at h ⊢
  split at h
  · rename_i c; rw [if_pos c]; refine ⟨?_, rfl⟩; show u2 M 44 46 (nI (k + 1)) 44 46 = _; exact u2_eq
  · cases h
theorem pA_46 {B : Nat → Int32} {L l k : Nat} {M : Mem} {t : Nat} (h : (pA B L l k M t).1 = true) : (pA B L l k M t).2.1 44 46 = nI (k + 1) ∧ t < (pA B L l k M t).2.2 := by
  unfold pA at h ⊢
  split at h
  · rename_i c1
    rw [if_pos c1]
    split at h
    · rename_i c2
      rw [if_pos c2]
      split at h
      · rename_i c3
        rw [if_pos c3]
        have := pE_46 h
        exact ⟨this.1, by omega⟩
      · cases h
    · rename_i c2
      rw [if_neg c2]
      split at h
      · rename_i c3
        rw [if_pos c3]
        have := pE_46 h
        exact ⟨this.1, by omega⟩
      · cases h
  · rename_i c1
    rw [if_neg c1]
    split at h
    · rename_i c2
      rw [if_pos c2]
      have := pE_46 h
      exact ⟨this.1, by omega⟩
    · rename_i c2
      rw [if_neg c2]
      split at h
      · rename_i c3
        rw [if_pos c3]
        have := pE_46 h
        exact ⟨this.1, by omega⟩
      · cases h
def INV (k : Nat) (M : Mem) : Prop := M 44 46 = nI k ∧ M 44 43 = 0 ∧ M 44 44 = -1 ∧ (16 < k → ¬ M 44 45 = -1) ∧ ∀ l, l < k → l < 16 → ∃ T, T ≤ 4 ∧ M 80 l = nI T
theorem pM0_kp (M : Mem) (k : Nat) {b : Nat} (hb : b < 2147483648) : (pM0 M k (nI b)) 44 43 = M 44 43 ∧ (pM0 M k (nI b)) 44 44 = M 44 44 ∧ (¬ M 44 45 = -1 → ¬ (pM0 M k (nI b)) 44 45 = -1) ∧ (k = 16 → ¬ (pM0 M k (nI b)) 44 45 = -1) ∧ (∀ j, j ≠ (if k < 16 then k else 16) → (pM0 M k (nI b)) 80 j = M 80 j) ∧ ∃ T, T ≤ 4 ∧ (pM0 M k (nI b)) 80 (if k < 16 then k else 16) = nI T := by
  have o : ∀ i, pM0 M k (nI b) 44 i = (if k = 16 then pMany M (nI b) else M) 44 i := fun i => by unfold pM0; exact u2_ne (by omega)
  have h0 : KP 0 M (if k = 16 then pMany M (nI b) else M) := by
    split
    · exact KP.many 0 M hb
    · exact KP.rf 0 M
  have h8 : ∀ j, (if k = 16 then pMany M (nI b) else M) 80 j = M 80 j := fun j => by
    split
    · unfold pMany
      split
      · exact u2_ne (by omega)
      · rfl
    · rfl
  refine ⟨(o 43).trans h0.1, (o 44).trans h0.2.1, fun z => by rw [o 45]; exact h0.2.2.1 z, fun z => ?_, fun j hj => ?_, 0, by omega, ?_⟩
  · rw [o 45, if_pos z]
    unfold pMany
    split
    · rw [u2_eq]; exact nI_m1 b hb
    · rename_i c; exact c
  · unfold pM0
    rw [u2_ne (fun z => hj z.2)]; exact h8 j
  · unfold pM0
    rw [u2_eq]; rfl
theorem pL_rk (B : Nat → Int32) (L k : Nat) (M : Mem) (t : Nat) (hL : L ≤ 500) : RK B L (if k < 16 then k else 16) (pM0 M k (nI (bgT B L t))) t (pL B L k M t) ∧ ((pL B L k M t).1 = true → (pL B L k M t).2.1 44 46 = nI (k + 1) ∧ t < (pL B L k M t).2.2) := by
  have hr := pTs_rk B L (if k < 16 then k else 16) hL 501 0 (pM0 M k (nI (bgT B L t))) (t + 1)
  unfold pL
  generalize pTs B L (if k < 16 then k else 16) 501 0 (pM0 M k (nI (bgT B L t))) (t + 1) = R at hr
  generalize pM0 M k (nI (bgT B L t)) = M0 at hr ⊢
  generalize (if k < 16 then k else 16) = l at hr ⊢
  split
  · split
    · rename_i ok
      obtain ⟨a, b⟩ := hr.1 ok
      split
      · refine ⟨RK.tr a (by omega) (pA_rk B L l k _ _), fun z => ?_⟩
        obtain ⟨c, d⟩ := pA_46 z
        exact ⟨c, by omega⟩
      · exact ⟨RK.no, fun z => (by cases z)⟩
    · rename_i ok
      exact ⟨⟨fun z => absurd z ok, hr.2⟩, fun z => absurd z ok⟩
  · refine ⟨pA_rk B L l k _ _, fun z => pA_46 z⟩
theorem pL_inv (B : Nat → Int32) (L k : Nat) (M : Mem) (t : Nat) (hL : L ≤ 500) (hi : INV k M) : ((pL B L k M t).1 = true → INV (k + 1) (pL B L k M t).2.1 ∧ t < (pL B L k M t).2.2) ∧ ((pL B L k M t).1 = false → FL B L (pL B L k M t).2.1 (pL B L k M t).2.2) := by
  obtain ⟨h1, h2⟩ := pL_rk B L k M t hL
  have hb := bgT_le B L t
  obtain ⟨p1, p2, p3, p4, p5, p6⟩ := pM0_kp M k (b := bgT B L t) (by omega)
  obtain ⟨i1, i2, i3, i4, i5⟩ := hi
  refine ⟨fun z => ⟨⟨(h2 z).1, ?_, ?_, fun hk => ?_, fun l hl hl16 => ?_⟩, (h2 z).2⟩, h1.2⟩
  · rw [(h1.1 z).1.1, p1, i2]
  · rw [(h1.1 z).1.2.1, p2, i3]
  · refine (h1.1 z).1.2.2.1 ?_
    by_cases c : k = 16
    · exact p4 c
    · exact p3 (i4 (by omega))
  · by_cases c : l = (if k < 16 then k else 16)
    · subst c
      exact (h1.1 z).1.2.2.2.2 p6
    · have hlk : l < k := by
        by_cases c2 : k < 16
        · rw [if_pos c2] at c; omega
        · omega
      obtain ⟨T, a, b⟩ := i5 l hlk hl16
      exact ⟨T, a, by rw [(h1.1 z).1.2.2.2.1 l c, p5 l c]; exact b⟩
theorem pX_inv (B : Nat → Int32) (L : Nat) (hL : L ≤ 500) : ∀ (m k : Nat) (M : Mem) (t : Nat), INV k M → ((pX B L m k M t).1 = true → ∃ k2, k ≤ k2 ∧ k2 ≤ k + m ∧ INV k2 (pX B L m k M t).2.1) ∧ ((pX B L m k M t).1 = false → FL B L (pX B L m k M t).2.1 (pX B L m k M t).2.2)
  | 0, k, M, t, hi => ⟨fun _ => ⟨k, by omega, by omega, hi⟩, fun z => (by cases z)⟩
  | m + 1, k, M, t, hi => by
    unfold pX
    split
    · exact ⟨fun _ => ⟨k, by omega, by omega, hi⟩, fun z => (by cases z)⟩
    · obtain ⟨h1, h2⟩ := pL_inv B L k M t hL hi
      split
      · rename_i ok
        obtain ⟨a, b⟩ := pX_inv B L hL m (k + 1) (pL B L k M t).2.1 (pL B L k M t).2.2 (h1 ok).1
        exact ⟨fun z => by obtain ⟨k2, e1, e2, e3⟩ := a z; exact ⟨k2, by omega, by omega, e3⟩, b⟩
      · rename_i ok
        exact ⟨fun z => absurd z ok, h2⟩
