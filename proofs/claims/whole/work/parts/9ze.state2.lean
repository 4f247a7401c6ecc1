/-! ===== the class: where a new State lies ===== -/
theorem s8_lay {h : Hp} {o q : Nat} (ho : o < hT h) (hk : hK h o = 8) : LayS (pR (s8C h o) o 3 (some q)) o (hT h) ∧ hT (pR (s8C h o) o 3 (some q)) = hT h + 18 ∧ hS (pR (s8C h o) o 3 (some q)) = hS h + 260 ∧ (∀ a, a < hT h → hK (pR (s8C h o) o 3 (some q)) a = hK h a ∧ hL (pR (s8C h o) o 3 (some q)) a = hL h a ∧ ∀ i, hI (pR (s8C h o) o 3 (some q)) a i = hI h a i) ∧ (∀ a i, a < hT h → a ≠ o → hR (pR (s8C h o) o 3 (some q)) a i = hR h a i) := by
  have tA : hT (s8A h o) = hT h + 4 := by unfold s8A; rw [mkO_T]; rfl
  have tB : hT (s8B h o) = hT h + 13 := by unfold s8B; rw [mkO_T, tA]; rfl
  have tC : hT (s8C h o) = hT h + 18 := by unfold s8C; rw [mkO_T, tB]; rfl
  have sA : hS (s8A h o) = hS h + 18 := by unfold s8A; rw [mkO_S]; rfl
  have sB : hS (s8B h o) = hS h + 223 := by unfold s8B; rw [mkO_S, sA]; rfl
  have sC : hS (s8C h o) = hS h + 260 := by unfold s8C; rw [mkO_S, sB]; rfl
  have oA : ∀ {a}, a < hT h → _ := fun {a} ha => mkO_old h o 0 6 li_X6 (a := a) ha
  have oB : ∀ {a}, a < hT (s8A h o) → _ := fun {a} ha => mkO_old (s8A h o) o 1 3 li_X3 (a := a) ha
  have oC : ∀ {a}, a < hT (s8B h o) → _ := fun {a} ha => mkO_old (s8B h o) o 2 0 li_X0 (a := a) ha
  obtain ⟨a1, a2, a3, a4⟩ := mkO_new h (o := o) (j := 0) (k := 6) (l := li_X6) ho (by decide)
  obtain ⟨b1, b2, b3, b4⟩ := mkO_new (s8A h o) (o := o) (j := 1) (k := 3) (l := li_X3) (by omega) (by decide)
  obtain ⟨d1, d2, d3, d4⟩ := mkO_new (s8B h o) (o := o) (j := 2) (k := 0) (l := li_X0) (by omega) (by decide)
  change hK (s8A h o) (hT h) = 6 at a1
  change ∀ i, hI (s8A h o) (hT h) i = 0 at a2
  change hR (s8A h o) o 0 = some (hT h) at a3
  change ∀ t j' k' n', li_X6[t]? = some (j', k', n') → hK (s8A h o) (hT h + 1 + t) = k' ∧ hL (s8A h o) (hT h + 1 + t) = n' ∧ (∀ i, hI (s8A h o) (hT h + 1 + t) i = 0) ∧ hR (s8A h o) (hT h) j' = some (hT h + 1 + t) at a4
  change hK (s8B h o) (hT (s8A h o)) = 3 at b1
  change ∀ i, hI (s8B h o) (hT (s8A h o)) i = 0 at b2
  change hR (s8B h o) o 1 = some (hT (s8A h o)) at b3
  change ∀ t j' k' n', li_X3[t]? = some (j', k', n') → hK (s8B h o) (hT (s8A h o) + 1 + t) = k' ∧ hL (s8B h o) (hT (s8A h o) + 1 + t) = n' ∧ (∀ i, hI (s8B h o) (hT (s8A h o) + 1 + t) i = 0) ∧ hR (s8B h o) (hT (s8A h o)) j' = some (hT (s8A h o) + 1 + t) at b4
  change hK (s8C h o) (hT (s8B h o)) = 0 at d1
  change ∀ i, hI (s8C h o) (hT (s8B h o)) i = 0 at d2
  change hR (s8C h o) o 2 = some (hT (s8B h o)) at d3
  change ∀ t j' k' n', li_X0[t]? = some (j', k', n') → hK (s8C h o) (hT (s8B h o) + 1 + t) = k' ∧ hL (s8C h o) (hT (s8B h o) + 1 + t) = n' ∧ (∀ i, hI (s8C h o) (hT (s8B h o) + 1 + t) i = 0) ∧ hR (s8C h o) (hT (s8B h o)) j' = some (hT (s8B h o) + 1 + t) at d4
  change ∀ {a}, a < hT h → hK (s8A h o) a = hK h a ∧ hL (s8A h o) a = hL h a ∧ (∀ i, hI (s8A h o) a i = hI h a i) ∧ ∀ i, ¬ (a = o ∧ i = 0) → hR (s8A h o) a i = hR h a i at oA
  change ∀ {a}, a < hT (s8A h o) → hK (s8B h o) a = hK (s8A h o) a ∧ hL (s8B h o) a = hL (s8A h o) a ∧ (∀ i, hI (s8B h o) a i = hI (s8A h o) a i) ∧ ∀ i, ¬ (a = o ∧ i = 1) → hR (s8B h o) a i = hR (s8A h o) a i at oB
  change ∀ {a}, a < hT (s8B h o) → hK (s8C h o) a = hK (s8B h o) a ∧ hL (s8C h o) a = hL (s8B h o) a ∧ (∀ i, hI (s8C h o) a i = hI (s8B h o) a i) ∧ ∀ i, ¬ (a = o ∧ i = 2) → hR (s8C h o) a i = hR (s8B h o) a i at oC
  generalize s8C h o = C at *
  generalize s8B h o = B at *
  generalize s8A h o = A at *
  rw [tA] at oB b1 b2 b3 b4
  rw [tB] at oC d1 d2 d3 d4
  have kC : ∀ a, a < hT h + 4 → hK C a = hK A a ∧ hL C a = hL A a ∧ (∀ i, hI C a i = hI A a i) ∧ ∀ i, ¬ (a = o ∧ (i = 1 ∨ i = 2)) → hR C a i = hR A a i := fun a ha => by
    obtain ⟨x1, x2, x3, x4⟩ := oB (a := a) ha
    obtain ⟨y1, y2, y3, y4⟩ := oC (a := a) (by omega)
    exact ⟨y1.trans x1, y2.trans x2, fun i => (y3 i).trans (x3 i), fun i hi => (y4 i (by omega)).trans (x4 i (by omega))⟩
  refine ⟨?_, by rw [hT_pR]; exact tC, by rw [hS_pR]; exact sC, fun a ha => ?_, fun a i ha hne => ?_⟩
  · have nr : ∀ a i, hT h ≤ a → hR (pR C o 3 (some q)) a i = hR C a i := fun a i ha => by rw [hR_pR, if_neg (by omega)]
    unfold LayS
    rw [hK_pR, hL_pR, hT_pR, tC]
    refine ⟨by omega, by omega, ?_, ⟨?_, ?_, ?_, ?_, ?_, ?_, ?_, ?_, ?_, ?_, ?_, ?_, ?_, ?_, ?_, ?_, ?_, ?_⟩, ⟨?_, ?_, ?_, ?_, ?_, ?_, ?_, ?_, ?_, ?_, ?_, ?_, ?_, ?_, ?_, ?_, ?_, ?_⟩, ?_, ?_, ?_, ?_, ?_, ?_, ?_, ?_, ?_, ?_, ?_, ?_, ?_, ?_, ?_⟩
    · rw [(kC o (by omega)).1, (oA ho).1]; exact hk
    · rw [(kC (hT h) (by omega)).1]; exact a1
    · rw [(kC (hT h + 1) (by omega)).1]; exact (a4 0 1 14 4 rfl).1
    · rw [(kC (hT h + 2) (by omega)).1]; exact (a4 1 2 14 4 rfl).1
    · rw [(kC (hT h + 3) (by omega)).1]; exact (a4 2 3 14 4 rfl).1
    · rw [(oC (a := hT h + 4) (by omega)).1]; exact b1
    · rw [(oC (a := hT h + 5) (by omega)).1]; exact (b4 0 2 14 24 rfl).1
    · rw [(oC (a := hT h + 6) (by omega)).1]; exact (b4 1 3 14 24 rfl).1
    · rw [(oC (a := hT h + 7) (by omega)).1]; exact (b4 2 4 14 24 rfl).1
    · rw [(oC (a := hT h + 8) (by omega)).1]; exact (b4 3 5 14 24 rfl).1
    · rw [(oC (a := hT h + 9) (by omega)).1]; exact (b4 4 6 14 24 rfl).1
    · rw [(oC (a := hT h + 10) (by omega)).1]; exact (b4 5 7 14 24 rfl).1
    · rw [(oC (a := hT h + 11) (by omega)).1]; exact (b4 6 8 14 24 rfl).1
    · rw [(oC (a := hT h + 12) (by omega)).1]; exact (b4 7 9 14 24 rfl).1
    · exact d1
    · exact (d4 0 1 14 8 rfl).1
    · exact (d4 1 2 14 8 rfl).1
    · exact (d4 2 3 14 8 rfl).1
    · exact (d4 3 4 14 8 rfl).1
    · rw [hR_pR, if_neg (by omega), (kC o (by omega)).2.2.2 0 (by omega)]; exact a3
    · rw [hR_pR, if_neg (by omega), (oC (a := o) (by omega)).2.2.2 1 (by omega)]; exact b3
    · rw [hR_pR, if_neg (by omega)]; exact d3
    · rw [nr _ _ (by omega), (kC (hT h) (by omega)).2.2.2 1 (by omega)]; exact (a4 0 1 14 4 rfl).2.2.2
    · rw [nr _ _ (by omega), (kC (hT h) (by omega)).2.2.2 2 (by omega)]; exact (a4 1 2 14 4 rfl).2.2.2
    · rw [nr _ _ (by omega), (kC (hT h) (by omega)).2.2.2 3 (by omega)]; exact (a4 2 3 14 4 rfl).2.2.2
    · rw [nr _ _ (by omega), (oC (a := hT h + 4) (by omega)).2.2.2 2 (by omega)]; exact (b4 0 2 14 24 rfl).2.2.2
    · rw [nr _ _ (by omega), (oC (a := hT h + 4) (by omega)).2.2.2 3 (by omega)]; exact (b4 1 3 14 24 rfl).2.2.2
    · rw [nr _ _ (by omega), (oC (a := hT h + 4) (by omega)).2.2.2 4 (by omega)]; exact (b4 2 4 14 24 rfl).2.2.2
    · rw [nr _ _ (by omega), (oC (a := hT h + 4) (by omega)).2.2.2 5 (by omega)]; exact (b4 3 5 14 24 rfl).2.2.2
    · rw [nr _ _ (by omega), (oC (a := hT h + 4) (by omega)).2.2.2 6 (by omega)]; exact (b4 4 6 14 24 rfl).2.2.2
    · rw [nr _ _ (by omega), (oC (a := hT h + 4) (by omega)).2.2.2 7 (by omega)]; exact (b4 5 7 14 24 rfl).2.2.2
    · rw [nr _ _ (by omega), (oC (a := hT h + 4) (by omega)).2.2.2 8 (by omega)]; exact (b4 6 8 14 24 rfl).2.2.2
    · rw [nr _ _ (by omega), (oC (a := hT h + 4) (by omega)).2.2.2 9 (by omega)]; exact (b4 7 9 14 24 rfl).2.2.2
    · rw [nr _ _ (by omega)]; exact (d4 0 1 14 8 rfl).2.2.2
    · rw [nr _ _ (by omega)]; exact (d4 1 2 14 8 rfl).2.2.2
    · rw [nr _ _ (by omega)]; exact (d4 2 3 14 8 rfl).2.2.2
    · rw [nr _ _ (by omega)]; exact (d4 3 4 14 8 rfl).2.2.2
    · rw [(kC (hT h + 1) (by omega)).2.1]; exact (a4 0 1 14 4 rfl).2.1
    · rw [(kC (hT h + 2) (by omega)).2.1]; exact (a4 1 2 14 4 rfl).2.1
    · rw [(kC (hT h + 3) (by omega)).2.1]; exact (a4 2 3 14 4 rfl).2.1
    · rw [(oC (a := hT h + 5) (by omega)).2.1]; exact (b4 0 2 14 24 rfl).2.1
    · rw [(oC (a := hT h + 6) (by omega)).2.1]; exact (b4 1 3 14 24 rfl).2.1
    · rw [(oC (a := hT h + 7) (by omega)).2.1]; exact (b4 2 4 14 24 rfl).2.1
    · rw [(oC (a := hT h + 8) (by omega)).2.1]; exact (b4 3 5 14 24 rfl).2.1
    · rw [(oC (a := hT h + 9) (by omega)).2.1]; exact (b4 4 6 14 24 rfl).2.1
    · rw [(oC (a := hT h + 10) (by omega)).2.1]; exact (b4 5 7 14 24 rfl).2.1
    · rw [(oC (a := hT h + 11) (by omega)).2.1]; exact (b4 6 8 14 24 rfl).2.1
    · rw [(oC (a := hT h + 12) (by omega)).2.1]; exact (b4 7 9 14 24 rfl).2.1
    · exact (d4 0 1 14 8 rfl).2.1
    · exact (d4 1 2 14 8 rfl).2.1
    · exact (d4 2 3 14 8 rfl).2.1
    · exact (d4 3 4 14 8 rfl).2.1
  · obtain ⟨x1, x2, x3, _⟩ := kC a (by omega)
    obtain ⟨y1, y2, y3, _⟩ := oA ha
    exact ⟨by rw [hK_pR]; exact x1.trans y1, by rw [hL_pR]; exact x2.trans y2, fun i => by rw [hI_pR]; exact (x3 i).trans (y3 i)⟩
  · rw [hR_pR, if_neg (by omega), (kC a (by omega)).2.2.2 i (by omega)]
    exact (oA ha).2.2.2 i (by omega)
