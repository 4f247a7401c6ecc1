/-! ===== the class: evening ===== -/
theorem LayX_of {h h' : Hp} (hl : LayX h) (hT' : 90 ≤ hT h') (hk : ∀ a, a < 44 → hK h' a = hK h a) (hL' : ∀ a, a < 44 → hL h' a = hL h a) (hr : ∀ a i, a < 44 → ¬ (a = 3 ∧ 3 ≤ i) → a ≠ 30 → hR h' a i = hR h a i) : LayX h' := by
  obtain ⟨a, b, c, d⟩ := hl
  refine ⟨hT', ?_, ?_, ?_⟩
  · rw [hk 0 (by decide), hk 1 (by decide), hk 2 (by decide), hk 3 (by decide), hk 12 (by decide), hk 13 (by decide), hk 14 (by decide), hk 15 (by decide), hk 16 (by decide), hk 17 (by decide), hk 18 (by decide), hk 19 (by decide), hk 20 (by decide), hk 21 (by decide), hk 22 (by decide), hk 23 (by decide), hk 24 (by decide), hk 25 (by decide), hk 26 (by decide), hk 27 (by decide), hk 28 (by decide), hk 29 (by decide), hk 30 (by decide), hk 31 (by decide), hk 33 (by decide), hk 34 (by decide), hk 35 (by decide), hk 36 (by decide), hk 37 (by decide), hk 38 (by decide), hk 39 (by decide), hk 40 (by decide), hk 41 (by decide), hk 42 (by decide), hk 43 (by decide), hk 32 (by decide)]
    exact b
  · have g : ∀ a i, a < 44 → a ≠ 3 → a ≠ 30 → hR h' a i = hR h a i := fun a i a1 a4 a5 => hr a i a1 (fun z => a4 z.1) a5
    have g3 : ∀ i, i < 3 → hR h' 3 i = hR h 3 i := fun i hi => hr 3 i (by decide) (by omega) (by decide)
    simp only [g 0 _ (by decide) (by decide) (by decide), g 1 _ (by decide) (by decide) (by decide), g3 0 (by decide), g3 1 (by decide), g3 2 (by decide), g 12 _ (by decide) (by decide) (by decide), g 16 _ (by decide) (by decide) (by decide), g 25 _ (by decide) (by decide) (by decide), g 31 _ (by decide) (by decide) (by decide), g 33 _ (by decide) (by decide) (by decide)]
    exact c
  · rw [hL' 2 (by decide), hL' 13 (by decide), hL' 14 (by decide), hL' 15 (by decide), hL' 17 (by decide), hL' 18 (by decide), hL' 19 (by decide), hL' 20 (by decide), hL' 21 (by decide), hL' 22 (by decide), hL' 23 (by decide), hL' 24 (by decide), hL' 26 (by decide), hL' 27 (by decide), hL' 28 (by decide), hL' 29 (by decide), hL' 30 (by decide), hL' 34 (by decide), hL' 35 (by decide), hL' 36 (by decide), hL' 37 (by decide), hL' 38 (by decide), hL' 39 (by decide), hL' 40 (by decide), hL' 41 (by decide), hL' 42 (by decide), hL' 43 (by decide), hL' 32 (by decide)]
    exact d
theorem LayM_of {h h' : Hp} (hl : LayM h) (hT' : 90 ≤ hT h') (hk : ∀ a, 44 ≤ a → a < 90 → hK h' a = hK h a) (hL' : ∀ a, 44 ≤ a → a < 90 → hL h' a = hL h a) (hr : ∀ i, hR h' 44 i = hR h 44 i) : LayM h' := by
  obtain ⟨a, b, c, d⟩ := hl
  refine ⟨hT', ?_, ?_, ?_⟩
  · rw [hk 44 (by decide) (by decide), hk 45 (by decide) (by decide), hk 46 (by decide) (by decide), hk 47 (by decide) (by decide), hk 48 (by decide) (by decide), hk 49 (by decide) (by decide), hk 50 (by decide) (by decide), hk 51 (by decide) (by decide), hk 52 (by decide) (by decide), hk 53 (by decide) (by decide), hk 54 (by decide) (by decide), hk 55 (by decide) (by decide), hk 56 (by decide) (by decide), hk 57 (by decide) (by decide), hk 58 (by decide) (by decide), hk 59 (by decide) (by decide), hk 60 (by decide) (by decide), hk 61 (by decide) (by decide), hk 62 (by decide) (by decide), hk 63 (by decide) (by decide), hk 64 (by decide) (by decide), hk 65 (by decide) (by decide), hk 66 (by decide) (by decide), hk 67 (by decide) (by decide), hk 68 (by decide) (by decide), hk 69 (by decide) (by decide), hk 70 (by decide) (by decide), hk 71 (by decide) (by decide), hk 72 (by decide) (by decide), hk 73 (by decide) (by decide), hk 74 (by decide) (by decide), hk 75 (by decide) (by decide), hk 76 (by decide) (by decide), hk 77 (by decide) (by decide), hk 78 (by decide) (by decide), hk 79 (by decide) (by decide), hk 80 (by decide) (by decide), hk 81 (by decide) (by decide), hk 82 (by decide) (by decide), hk 83 (by decide) (by decide), hk 84 (by decide) (by decide), hk 85 (by decide) (by decide), hk 86 (by decide) (by decide), hk 87 (by decide) (by decide), hk 88 (by decide) (by decide), hk 89 (by decide) (by decide)]
    exact b
  · simp only [hr]
    exact c
  · rw [hL' 45 (by decide) (by decide), hL' 46 (by decide) (by decide), hL' 47 (by decide) (by decide), hL' 48 (by decide) (by decide), hL' 49 (by decide) (by decide), hL' 50 (by decide) (by decide), hL' 51 (by decide) (by decide), hL' 52 (by decide) (by decide), hL' 53 (by decide) (by decide), hL' 54 (by decide) (by decide), hL' 55 (by decide) (by decide), hL' 56 (by decide) (by decide), hL' 57 (by decide) (by decide), hL' 58 (by decide) (by decide), hL' 59 (by decide) (by decide), hL' 60 (by decide) (by decide), hL' 61 (by decide) (by decide), hL' 62 (by decide) (by decide), hL' 63 (by decide) (by decide), hL' 64 (by decide) (by decide), hL' 65 (by decide) (by decide), hL' 66 (by decide) (by decide), hL' 67 (by decide) (by decide), hL' 68 (by decide) (by decide), hL' 69 (by decide) (by decide), hL' 70 (by decide) (by decide), hL' 71 (by decide) (by decide), hL' 72 (by decide) (by decide), hL' 73 (by decide) (by decide), hL' 74 (by decide) (by decide), hL' 75 (by decide) (by decide), hL' 76 (by decide) (by decide), hL' 77 (by decide) (by decide), hL' 78 (by decide) (by decide), hL' 79 (by decide) (by decide), hL' 80 (by decide) (by decide), hL' 81 (by decide) (by decide), hL' 82 (by decide) (by decide), hL' 83 (by decide) (by decide), hL' 84 (by decide) (by decide), hL' 85 (by decide) (by decide), hL' 86 (by decide) (by decide), hL' 87 (by decide) (by decide), hL' 88 (by decide) (by decide), hL' 89 (by decide) (by decide)]
    exact d
theorem LayR_w {h h' : Hp} {q : Nat} (hr : LayR h q) (hT' : hT h ≤ hT h') (hk : ∀ a, a < hT h → hK h' a = hK h a ∧ hL h' a = hL h a) (hr' : ∀ i, hR h' q i = hR h q i) : LayR h' q := by
  obtain ⟨a0, a1, b0, b1, b2, b3, b4, b5, b6, b7, c1, c2, c3, c4, c5, c6, c7, d1, d2, d3, d4, d5, d6, d7⟩ := hr
  refine ⟨a0, by omega, ?_, ?_, ?_, ?_, ?_, ?_, ?_, ?_, ?_, ?_, ?_, ?_, ?_, ?_, ?_, ?_, ?_, ?_, ?_, ?_, ?_, ?_⟩
  · rw [(hk q (by omega)).1]; exact b0
  · rw [(hk (q + 1) (by omega)).1]; exact b1
  · rw [(hk (q + 2) (by omega)).1]; exact b2
  · rw [(hk (q + 3) (by omega)).1]; exact b3
  · rw [(hk (q + 4) (by omega)).1]; exact b4
  · rw [(hk (q + 5) (by omega)).1]; exact b5
  · rw [(hk (q + 6) (by omega)).1]; exact b6
  · rw [(hk (q + 7) (by omega)).1]; exact b7
  · rw [hr']; exact c1
  · rw [hr']; exact c2
  · rw [hr']; exact c3
  · rw [hr']; exact c4
  · rw [hr']; exact c5
  · rw [hr']; exact c6
  · rw [hr']; exact c7
  · rw [(hk (q + 1) (by omega)).2]; exact d1
  · rw [(hk (q + 2) (by omega)).2]; exact d2
  · rw [(hk (q + 3) (by omega)).2]; exact d3
  · rw [(hk (q + 4) (by omega)).2]; exact d4
  · rw [(hk (q + 5) (by omega)).2]; exact d5
  · rw [(hk (q + 6) (by omega)).2]; exact d6
  · rw [(hk (q + 7) (by omega)).2]; exact d7
theorem tkS_P {J : Mem} {R P : Nat} {am : Int32} {o : Nat → Nat} {N : Nat} (hP : P ≤ 24) (hT : Tg J P) (ho : ∀ j, j < N → o j < P) : ∀ k, k ≤ N → ∀ i, bt (tkS J R P am o k) i = true → i < P
  | 0, _, i, hi => by rw [tkS, b_0] at hi; cases hi
  | k + 1, hk, i, hi => by
    rw [tkS] at hi
    by_cases c : (∀ j, j < k → ¬ Rch J P (-1) (o j) (o k)) ∧ cdS J R P am (tkS J R P am o k) (o k) = 0
    · rw [cif_t c, b_or, Bool.or_eq_true] at hi
      rcases hi with z | z
      · exact tkS_P hP hT ho k (by omega) i z
      · exact grp_in hP hT (ho k (by omega)) i z
    · rw [cif_f c] at hi
      exact tkS_P hP hT ho k (by omega) i hi
/-- what the class's evening leaves -/
def EvX (h h' : Hp) (J : Mem) (n R P H E Ln N : Nat) (o : Nat → Nat) (T : Int32) (F : Nat → Nat) (C : Int32) (w : Nat) (those cold : Int32) : Prop :=
  (hT h' = n + 4 ∧ hS h' = hS h + (46 + R) ∧ (∀ a, a < n → hK h' a = hK h a ∧ hL h' a = hL h a ∧ hJ h' a = hJ h a) ∧ (∀ a i, a < n → ¬ (a = 3 ∧ i = 4) → hR h' a i = hR h a i) ∧ LayN h' n R ∧ hR h' n 0 = hR h 3 4 ∧ hR h' 3 4 = some n) ∧
  (∀ a i, a < n → a < 20 ∨ (22 < a ∧ a < 28) ∨ a = 30 ∨ a = 31 ∨ 43 < a → hI h' a i = hI h a i) ∧ (∀ a i, a = 20 ∨ a = 21 ∨ a = 22 → hI h' a i = cdM (hI h) T those F P a i) ∧ (∀ i, hI h' 28 i = hI h 28 i + b2i (bt C i = true)) ∧ (∀ i, i < 8 → hI h' 29 i = if (E + 1) % 7 = 0 then 0 else hI h 29 i + b2i (bt C i = true)) ∧
  (hI h' n 1 = nI E ∧ hI h' n 2 = those ∧ hI h' n 3 = cold ∧ hI h' n 4 = T ∧ hI h' n 5 = C ∧ hI h' n 6 = nI (w - pct C) ∧ hI h' n 8 = nI N) ∧ (∀ j, j < N → hI h' (n + 1) j = nI (o j)) ∧ (∀ q, q < P → hI h' (n + 2) q = cif (∃ j, j < N ∧ o j = q) (whyT J R P o N q) (whyF J E Ln those cold q)) ∧ (∀ q, P ≤ q → q < 24 → hI h' (n + 2) q = -1) ∧ ∀ r, r < R → ∀ x, bt (hI h' (n + 3) r) x = true ↔ bt T x = true ∧ F x = r
