/-! ===== where the reference lies: object 44, its rows 45 .. 89 ===== -/
def LayM (h : Hp) : Prop := 90 ≤ hT h ∧ (hK h 44 = 12 ∧ hK h 45 = 13 ∧ hK h 46 = 14 ∧ hK h 47 = 14 ∧ hK h 48 = 14 ∧ hK h 49 = 14 ∧ hK h 50 = 14 ∧ hK h 51 = 14 ∧ hK h 52 = 14 ∧ hK h 53 = 14 ∧ hK h 54 = 14 ∧ hK h 55 = 14 ∧ hK h 56 = 14 ∧ hK h 57 = 14 ∧ hK h 58 = 14 ∧ hK h 59 = 14 ∧ hK h 60 = 14 ∧ hK h 61 = 14 ∧ hK h 62 = 14 ∧ hK h 63 = 14 ∧ hK h 64 = 14 ∧ hK h 65 = 14 ∧ hK h 66 = 14 ∧ hK h 67 = 14 ∧ hK h 68 = 14 ∧ hK h 69 = 14 ∧ hK h 70 = 14 ∧ hK h 71 = 14 ∧ hK h 72 = 14 ∧ hK h 73 = 14 ∧ hK h 74 = 14 ∧ hK h 75 = 14 ∧ hK h 76 = 14 ∧ hK h 77 = 14 ∧ hK h 78 = 14 ∧ hK h 79 = 14 ∧ hK h 80 = 14 ∧ hK h 81 = 14 ∧ hK h 82 = 14 ∧ hK h 83 = 14 ∧ hK h 84 = 14 ∧ hK h 85 = 14 ∧ hK h 86 = 14 ∧ hK h 87 = 14 ∧ hK h 88 = 14 ∧ hK h 89 = 15) ∧ (hR h 44 1 = some 45 ∧ hR h 44 3 = some 46 ∧ hR h 44 4 = some 47 ∧ hR h 44 5 = some 48 ∧ hR h 44 6 = some 49 ∧ hR h 44 7 = some 50 ∧ hR h 44 8 = some 51 ∧ hR h 44 9 = some 52 ∧ hR h 44 10 = some 53 ∧ hR h 44 11 = some 54 ∧ hR h 44 12 = some 55 ∧ hR h 44 13 = some 56 ∧ hR h 44 14 = some 57 ∧ hR h 44 15 = some 58 ∧ hR h 44 16 = some 59 ∧ hR h 44 17 = some 60 ∧ hR h 44 18 = some 61 ∧ hR h 44 19 = some 62 ∧ hR h 44 20 = some 63 ∧ hR h 44 21 = some 64 ∧ hR h 44 22 = some 65 ∧ hR h 44 23 = some 66 ∧ hR h 44 24 = some 67 ∧ hR h 44 25 = some 68 ∧ hR h 44 26 = some 69 ∧ hR h 44 27 = some 70 ∧ hR h 44 28 = some 71 ∧ hR h 44 29 = some 72 ∧ hR h 44 30 = some 73 ∧ hR h 44 31 = some 74 ∧ hR h 44 32 = some 75 ∧ hR h 44 33 = some 76 ∧ hR h 44 34 = some 77 ∧ hR h 44 35 = some 78 ∧ hR h 44 36 = some 79 ∧ hR h 44 47 = some 80 ∧ hR h 44 48 = some 81 ∧ hR h 44 49 = some 82 ∧ hR h 44 50 = some 83 ∧ hR h 44 51 = some 84 ∧ hR h 44 52 = some 85 ∧ hR h 44 54 = some 86 ∧ hR h 44 55 = some 87 ∧ hR h 44 57 = some 88 ∧ hR h 44 58 = some 89) ∧ (hL h 45 = 500 ∧ hL h 46 = 4 ∧ hL h 47 = 16 ∧ hL h 48 = 16 ∧ hL h 49 = 16 ∧ hL h 50 = 16 ∧ hL h 51 = 16 ∧ hL h 52 = 4 ∧ hL h 53 = 96 ∧ hL h 54 = 96 ∧ hL h 55 = 96 ∧ hL h 56 = 96 ∧ hL h 57 = 96 ∧ hL h 58 = 96 ∧ hL h 59 = 96 ∧ hL h 60 = 96 ∧ hL h 61 = 96 ∧ hL h 62 = 96 ∧ hL h 63 = 96 ∧ hL h 64 = 4 ∧ hL h 65 = 32 ∧ hL h 66 = 32 ∧ hL h 67 = 32 ∧ hL h 68 = 32 ∧ hL h 69 = 4 ∧ hL h 70 = 64 ∧ hL h 71 = 256 ∧ hL h 72 = 256 ∧ hL h 73 = 256 ∧ hL h 74 = 64 ∧ hL h 75 = 64 ∧ hL h 76 = 4 ∧ hL h 77 = 16000 ∧ hL h 78 = 96 ∧ hL h 79 = 96 ∧ hL h 80 = 17 ∧ hL h 81 = 64 ∧ hL h 82 = 64 ∧ hL h 83 = 64 ∧ hL h 84 = 17 ∧ hL h 85 = 17 ∧ hL h 86 = 24 ∧ hL h 87 = 24 ∧ hL h 88 = 4 ∧ hL h 89 = 3)
theorem lm_t {h : Hp} (hl : LayM h) : 44 < hT h ∧ 45 < hT h ∧ 46 < hT h ∧ 47 < hT h ∧ 48 < hT h ∧ 49 < hT h ∧ 50 < hT h ∧ 51 < hT h ∧ 52 < hT h ∧ 53 < hT h ∧ 54 < hT h ∧ 55 < hT h ∧ 56 < hT h ∧ 57 < hT h ∧ 58 < hT h ∧ 59 < hT h ∧ 60 < hT h ∧ 61 < hT h ∧ 62 < hT h ∧ 63 < hT h ∧ 64 < hT h ∧ 65 < hT h ∧ 66 < hT h ∧ 67 < hT h ∧ 68 < hT h ∧ 69 < hT h ∧ 70 < hT h ∧ 71 < hT h ∧ 72 < hT h ∧ 73 < hT h ∧ 74 < hT h ∧ 75 < hT h ∧ 76 < hT h ∧ 77 < hT h ∧ 78 < hT h ∧ 79 < hT h ∧ 80 < hT h ∧ 81 < hT h ∧ 82 < hT h ∧ 83 < hT h ∧ 84 < hT h ∧ 85 < hT h ∧ 86 < hT h ∧ 87 < hT h ∧ 88 < hT h ∧ 89 < hT h := by have := hl.1; refine ⟨?_, ?_, ?_, ?_, ?_, ?_, ?_, ?_, ?_, ?_, ?_, ?_, ?_, ?_, ?_, ?_, ?_, ?_, ?_, ?_, ?_, ?_, ?_, ?_, ?_, ?_, ?_, ?_, ?_, ?_, ?_, ?_, ?_, ?_, ?_, ?_, ?_, ?_, ?_, ?_, ?_, ?_, ?_, ?_, ?_, ?_⟩ <;> omega
theorem lm_k {h : Hp} (hl : LayM h) : hK h 44 = 12 ∧ hK h 45 = 13 ∧ hK h 46 = 14 ∧ hK h 47 = 14 ∧ hK h 48 = 14 ∧ hK h 49 = 14 ∧ hK h 50 = 14 ∧ hK h 51 = 14 ∧ hK h 52 = 14 ∧ hK h 53 = 14 ∧ hK h 54 = 14 ∧ hK h 55 = 14 ∧ hK h 56 = 14 ∧ hK h 57 = 14 ∧ hK h 58 = 14 ∧ hK h 59 = 14 ∧ hK h 60 = 14 ∧ hK h 61 = 14 ∧ hK h 62 = 14 ∧ hK h 63 = 14 ∧ hK h 64 = 14 ∧ hK h 65 = 14 ∧ hK h 66 = 14 ∧ hK h 67 = 14 ∧ hK h 68 = 14 ∧ hK h 69 = 14 ∧ hK h 70 = 14 ∧ hK h 71 = 14 ∧ hK h 72 = 14 ∧ hK h 73 = 14 ∧ hK h 74 = 14 ∧ hK h 75 = 14 ∧ hK h 76 = 14 ∧ hK h 77 = 14 ∧ hK h 78 = 14 ∧ hK h 79 = 14 ∧ hK h 80 = 14 ∧ hK h 81 = 14 ∧ hK h 82 = 14 ∧ hK h 83 = 14 ∧ hK h 84 = 14 ∧ hK h 85 = 14 ∧ hK h 86 = 14 ∧ hK h 87 = 14 ∧ hK h 88 = 14 ∧ hK h 89 = 15 := hl.2.1
theorem lm_r {h : Hp} (hl : LayM h) : hR h 44 1 = some 45 ∧ hR h 44 3 = some 46 ∧ hR h 44 4 = some 47 ∧ hR h 44 5 = some 48 ∧ hR h 44 6 = some 49 ∧ hR h 44 7 = some 50 ∧ hR h 44 8 = some 51 ∧ hR h 44 9 = some 52 ∧ hR h 44 10 = some 53 ∧ hR h 44 11 = some 54 ∧ hR h 44 12 = some 55 ∧ hR h 44 13 = some 56 ∧ hR h 44 14 = some 57 ∧ hR h 44 15 = some 58 ∧ hR h 44 16 = some 59 ∧ hR h 44 17 = some 60 ∧ hR h 44 18 = some 61 ∧ hR h 44 19 = some 62 ∧ hR h 44 20 = some 63 ∧ hR h 44 21 = some 64 ∧ hR h 44 22 = some 65 ∧ hR h 44 23 = some 66 ∧ hR h 44 24 = some 67 ∧ hR h 44 25 = some 68 ∧ hR h 44 26 = some 69 ∧ hR h 44 27 = some 70 ∧ hR h 44 28 = some 71 ∧ hR h 44 29 = some 72 ∧ hR h 44 30 = some 73 ∧ hR h 44 31 = some 74 ∧ hR h 44 32 = some 75 ∧ hR h 44 33 = some 76 ∧ hR h 44 34 = some 77 ∧ hR h 44 35 = some 78 ∧ hR h 44 36 = some 79 ∧ hR h 44 47 = some 80 ∧ hR h 44 48 = some 81 ∧ hR h 44 49 = some 82 ∧ hR h 44 50 = some 83 ∧ hR h 44 51 = some 84 ∧ hR h 44 52 = some 85 ∧ hR h 44 54 = some 86 ∧ hR h 44 55 = some 87 ∧ hR h 44 57 = some 88 ∧ hR h 44 58 = some 89 := hl.2.2.1
theorem lm_l {h : Hp} (hl : LayM h) : hL h 45 = 500 ∧ hL h 46 = 4 ∧ hL h 47 = 16 ∧ hL h 48 = 16 ∧ hL h 49 = 16 ∧ hL h 50 = 16 ∧ hL h 51 = 16 ∧ hL h 52 = 4 ∧ hL h 53 = 96 ∧ hL h 54 = 96 ∧ hL h 55 = 96 ∧ hL h 56 = 96 ∧ hL h 57 = 96 ∧ hL h 58 = 96 ∧ hL h 59 = 96 ∧ hL h 60 = 96 ∧ hL h 61 = 96 ∧ hL h 62 = 96 ∧ hL h 63 = 96 ∧ hL h 64 = 4 ∧ hL h 65 = 32 ∧ hL h 66 = 32 ∧ hL h 67 = 32 ∧ hL h 68 = 32 ∧ hL h 69 = 4 ∧ hL h 70 = 64 ∧ hL h 71 = 256 ∧ hL h 72 = 256 ∧ hL h 73 = 256 ∧ hL h 74 = 64 ∧ hL h 75 = 64 ∧ hL h 76 = 4 ∧ hL h 77 = 16000 ∧ hL h 78 = 96 ∧ hL h 79 = 96 ∧ hL h 80 = 17 ∧ hL h 81 = 64 ∧ hL h 82 = 64 ∧ hL h 83 = 64 ∧ hL h 84 = 17 ∧ hL h 85 = 17 ∧ hL h 86 = 24 ∧ hL h 87 = 24 ∧ hL h 88 = 4 ∧ hL h 89 = 3 := hl.2.2.2
theorem LayM.pI {h : Hp} (hl : LayM h) (a j : Nat) (v : Int32) : LayM (pI h a j v) := hl
theorem LayM.wI {h : Hp} (hl : LayM h) (f : Nat → Nat → Int32) : LayM (wI h f) := hl
theorem LayM.pJ {h : Hp} (hl : LayM h) (a j : Nat) (v : Int64) : LayM (pJ h a j v) := hl
theorem lay_pI {h : Hp} {a j : Nat} {v : Int32} : LayM (pI h a j v) ↔ LayM h := Iff.rfl
theorem lay_wI {h : Hp} {f : Nat → Nat → Int32} : LayM (wI h f) ↔ LayM h := Iff.rfl
theorem lay_pJ {h : Hp} {a j : Nat} {v : Int64} : LayM (pJ h a j v) ↔ LayM h := Iff.rfl
/-! ===== numbers as places ===== -/
theorem in_nI {n N : Nat} (h : n < N) (hN : N < 2147483648) : vp_in (nI n) N := vp_in_nI h (by omega)
theorem cl_nI {n : Nat} (h : n < 2147483648) : (nI n).toNatClampNeg = n := nI_clamp (by omega)
theorem sh_bt (x : Int32) {k : Nat} (hk : k < 32) : ((x >>> (nI k &&& 31)) &&& 1 = 0) ↔ bt x k = false := by
  constructor
  · intro h
    have h1 := congrArg (fun z => bt z 0) h
    simp only [b_and, b_0] at h1
    rw [b_sshr k hk x (by omega), if_pos (by omega), Nat.add_zero] at h1
    have : bt 1 0 = true := by decide +kernel
    rw [this, Bool.and_true] at h1
    exact h1
  · intro h
    apply b_ext
    intro i hi
    rw [b_and, b_0]
    by_cases e : i = 0
    · subst e
      rw [b_sshr k hk x (by omega), if_pos (by omega), Nat.add_zero, h, Bool.false_and]
    · have : ∀ i, i < 32 → i ≠ 0 → bt 1 i = false := by decide +kernel
      rw [this i hi e, Bool.and_false]
def bitI (k : Nat) : Int32 := 1 <<< (nI k &&& 31)
theorem b_bitI {k : Nat} (hk : k < 32) {i : Nat} (hi : i < 32) : bt (bitI k) i = decide (i = k) := by
  unfold bitI
  rw [b_shl k hk 1 hi]
  have h1 : ∀ j, j < 32 → bt 1 j = decide (j = 0) := by decide +kernel
  rw [h1 _ (by omega)]
  by_cases e : i = k
  · subst e; simp
  · by_cases e2 : k ≤ i
    · simp [e, e2]; omega
    · simp [e, e2]
theorem sh_1 (x : Int32) {k : Nat} (hk : k < 32) : (x >>> (nI k &&& 31)) &&& 1 = b2i (bt x k = true) := by
  cases h : bt x k with
  | false => rw [(sh_bt x hk).mpr h]; rfl
  | true =>
    have h1 : b2i (true = true) = 1 := rfl
    rw [h1]
    apply b_ext
    intro i hi
    rw [b_and]
    by_cases e : i = 0
    · subst e
      rw [b_sshr k hk x (by omega), if_pos (by omega), Nat.add_zero, h, Bool.true_and]
    · have h2 : ∀ i, i < 32 → i ≠ 0 → bt 1 i = false := by decide +kernel
      rw [h2 i hi e, Bool.and_false]
