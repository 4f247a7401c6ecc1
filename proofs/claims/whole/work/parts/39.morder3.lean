/-! ===== the reference: THE ORDER, person by person ===== -/
noncomputable def whyF (I : Nat → Nat → Int32) (E Ln : Nat) (door cold : Int32) (p : Nat) : Int32 := if bt door p = true then (if I 61 p = 1 then 1 else if ptsF I E p Ln cold = -2000000000 then 2 else -1) else -1
def MO (I f : Nat → Nat → Int32) (E Ln : Nat) (door cold : Int32) (p : Nat) : Prop :=
  f 44 53 = nI (ordS I E Ln door cold p).1 ∧ (∀ j, j < (ordS I E Ln door cold p).1 → f 86 j = nI ((ordS I E Ln door cold p).2 j)) ∧ (∀ q, q < p → bt door q = true → f 87 q = ptsF I E q Ln cold) ∧ (∀ q, q < p → f 78 q = whyF I E Ln door cold q ∧ f 79 q = -1) ∧ (∀ q, p ≤ q → f 78 q = I 78 q ∧ f 79 q = I 79 q) ∧ ∀ a i, a ≠ 78 → a ≠ 79 → a ≠ 86 → a ≠ 87 → ¬ (a = 44 ∧ i = 53) → f a i = I a i
/-- what both ends of a step share: rows 78, 79 and 87 of p are written, ordered and order may be -/
theorem MO_step {I f g : Nat → Nat → Int32} {E Ln : Nat} {door cold : Int32} {p : Nat} (hm : MO I f E Ln door cold p) (h44 : g 44 53 = nI (ordS I E Ln door cold (p + 1)).1) (h86 : ∀ j, j < (ordS I E Ln door cold (p + 1)).1 → g 86 j = nI ((ordS I E Ln door cold (p + 1)).2 j)) (h87 : bt door p = true → g 87 p = ptsF I E p Ln cold) (h87o : ∀ q, q ≠ p → g 87 q = f 87 q) (h78 : g 78 p = whyF I E Ln door cold p) (h79 : g 79 p = -1) (h78o : ∀ q, q ≠ p → g 78 q = f 78 q ∧ g 79 q = f 79 q) (hoth : ∀ a i, a ≠ 78 → a ≠ 79 → a ≠ 86 → a ≠ 87 → ¬ (a = 44 ∧ i = 53) → g a i = f a i) : MO I g E Ln door cold (p + 1) := by
  obtain ⟨m1, m2, m3, m4', m5, m6⟩ := hm
  refine ⟨h44, h86, fun q hq hb => ?_, fun q hq => ?_, fun q hq => ?_, fun a i a1 a2 a3 a4 a5 => (hoth a i a1 a2 a3 a4 a5).trans (m6 a i a1 a2 a3 a4 a5)⟩
  · by_cases e : q = p
    · subst e; exact h87 hb
    · rw [h87o q e]; exact m3 q (by omega) hb
  · by_cases e : q = p
    · subst e; exact ⟨h78, h79⟩
    · rw [(h78o q e).1, (h78o q e).2]; exact m4' q (by omega)
  · rw [(h78o q (by omega)).1, (h78o q (by omega)).2]; exact m5 q (by omega)
theorem u2_ne {f : Nat → Nat → Int32} {a j b i : Nat} {v : Int32} (h : ¬ (b = a ∧ i = j)) : u2 f a j v b i = f b i := if_neg h
theorem u2_eq {f : Nat → Nat → Int32} {a j : Nat} {v : Int32} : u2 f a j v a j = v := if_pos ⟨rfl, rfl⟩
