/-! ===== THE ORDER as a pure thing ===== -/
theorem posF_congr {ah ah2 : Nat → Prop} : ∀ {n : Nat}, (∀ j, j < n → (ah j ↔ ah2 j)) → posF ah n = posF ah2 n
  | 0, _ => rfl
  | n + 1, h => by
    have ih := posF_congr (n := n) (fun j hj => h j (by omega))
    rcases Classical.em (ah n) with q | q
    · rw [posF_t q, posF_t ((h n (by omega)).mp q), ih]
    · rw [posF_f q, posF_f (fun z => q ((h n (by omega)).mpr z))]
/-- the rows that points are read from -/
def sameP (f g : Nat → Nat → Int32) : Prop := ∀ a, 53 ≤ a → a ≤ 77 → f a = g a
theorem askF_congr {f g : Nat → Nat → Int32} (h : sameP f g) (E p : Nat) (w cold : Int32) : askF f E p w cold = askF g E p w cold := by
  unfold askF
  rw [h 53 (by decide) (by decide), h 54 (by decide) (by decide), h 57 (by decide) (by decide), h 58 (by decide) (by decide), h 59 (by decide) (by decide), h 56 (by decide) (by decide), h 55 (by decide) (by decide), h 77 (by decide) (by decide)]
theorem hldF_congr {f g : Nat → Nat → Int32} (h : sameP f g) (E p l T : Nat) (cold : Int32) : hldF f E p l T cold ↔ hldF g E p l T cold := by
  have ht : ∀ x, tstF f E p x cold ↔ tstF g E p x cold := fun x => by
    unfold tstF
    rw [askF_congr h, h 71 (by decide) (by decide), h 72 (by decide) (by decide), h 73 (by decide) (by decide)]
  exact ⟨fun a t q => (ht _).mp (a t q), fun a t q => (ht _).mpr (a t q)⟩
theorem ptsL_congr {f g : Nat → Nat → Int32} (h : sameP f g) (E k : Nat) (cold : Int32) : ∀ (m l : Nat) (n : Int32), ptsL f E k cold m l n = ptsL g E k cold m l n
  | 0, _, _ => rfl
  | m + 1, l, n => by
    show cif _ _ _ = cif _ _ _
    have h70 := h 70 (by decide) (by decide)
    have h74 := h 74 (by decide) (by decide)
    have h75 := h 75 (by decide) (by decide)
    rw [h70, h74, h75, ptsL_congr h E k cold m (l + 1) (n + g 75 l), ptsL_congr h E k cold m (l + 1) n]
    have hh := hldF_congr h E k l (g 70 l).toNatClampNeg cold
    rcases Classical.em (hldF f E k l (g 70 l).toNatClampNeg cold) with q | q
    · rw [cif_t q, cif_t (hh.mp q)]
    · rw [cif_f q, cif_f (fun z => q (hh.mpr z))]
theorem ptsF_congr {f g : Nat → Nat → Int32} (h : sameP f g) (E k Ln : Nat) (cold : Int32) : ptsF f E k Ln cold = ptsF g E k Ln cold := ptsL_congr h E k cold Ln 0 0
/-- one is in THE ORDER -/
def inO (I : Nat → Nat → Int32) (E Ln : Nat) (door cold : Int32) (p : Nat) : Prop := bt door p = true ∧ ¬ I 61 p = 1 ∧ ¬ ptsF I E p Ln cold = -2000000000
/-- THE ORDER of those below p: how many, and who -/
noncomputable def ordS (I : Nat → Nat → Int32) (E Ln : Nat) (door cold : Int32) : Nat → Nat × (Nat → Nat)
  | 0 => (0, fun _ => 0)
  | p + 1 => cif (inO I E Ln door cold p) ((ordS I E Ln door cold p).1 + 1, insO (ordS I E Ln door cold p).2 (posF (fun j => ahd (fun q => ptsF I E q Ln cold) (I 59) p ((ordS I E Ln door cold p).2 j)) (ordS I E Ln door cold p).1) p) (ordS I E Ln door cold p)
theorem ordS_ok (I : Nat → Nat → Int32) (E Ln : Nat) (door cold : Int32) : ∀ p, (ordS I E Ln door cold p).1 ≤ p ∧ ∀ j, j < (ordS I E Ln door cold p).1 → (ordS I E Ln door cold p).2 j < p ∧ inO I E Ln door cold ((ordS I E Ln door cold p).2 j)
  | 0 => ⟨Nat.le_refl _, fun j hj => absurd hj (Nat.not_lt_zero _)⟩
  | p + 1 => by
    obtain ⟨h1, h2⟩ := ordS_ok I E Ln door cold p
    rcases Classical.em (inO I E Ln door cold p) with q | q
    · have e : ordS I E Ln door cold (p + 1) = ((ordS I E Ln door cold p).1 + 1, insO (ordS I E Ln door cold p).2 (posF (fun j => ahd (fun q => ptsF I E q Ln cold) (I 59) p ((ordS I E Ln door cold p).2 j)) (ordS I E Ln door cold p).1) p) := cif_t q
      rw [e]
      have hk := posF_le (fun j => ahd (fun q => ptsF I E q Ln cold) (I 59) p ((ordS I E Ln door cold p).2 j)) (ordS I E Ln door cold p).1
      refine ⟨by simp only; omega, fun j hj => ?_⟩
      simp only at hj ⊢
      unfold insO
      generalize posF (fun j => ahd (fun q => ptsF I E q Ln cold) (I 59) p ((ordS I E Ln door cold p).2 j)) (ordS I E Ln door cold p).1 = k at hk ⊢
      by_cases c1 : j < k
      · rw [if_pos c1]
        obtain ⟨a, b⟩ := h2 j (by omega)
        exact ⟨by omega, b⟩
      · rw [if_neg c1]
        by_cases c2 : j = k
        · rw [if_pos c2]; exact ⟨by omega, q⟩
        · rw [if_neg c2]
          obtain ⟨a, b⟩ := h2 (j - 1) (by omega)
          exact ⟨by omega, b⟩
    · have e : ordS I E Ln door cold (p + 1) = ordS I E Ln door cold p := cif_f q
      rw [e]
      exact ⟨by omega, fun j hj => ⟨by have := (h2 j hj).1; omega, (h2 j hj).2⟩⟩
