/-! ===== the first coupling ===== -/
def hp0 : Hp := (fun _ => 0, fun _ => 0, fun _ _ => 0, fun _ _ => none, fun _ _ => 0, 0, 0)
def hpA : Hp := nC hp0 11 (fN 11)
def hpB : Hp := x11E (x11D (x11C (x11B (x11A hpA))) (hT (x11A hpA)))
def hpC : Hp := nC hpB 12 (fN 12)
def hpD : Hp := wI (x12A hpC 44) (x12S (hI (x12A hpC 44)) 24)
theorem hpB_T : hT hpB = 44 ∧ hS hpB ≤ 5000 := by decide +kernel
theorem hpC_T : hT hpC = 45 ∧ hK hpC 44 = 12 := by decide +kernel
theorem hpD_T : hT hpD = 90 ∧ hS hpD ≤ 30000 := by decide +kernel
theorem ini_cls (Q : Option Value → Hp → Prop) (hq : Q none hpB) : cal 3 MX11_init [.ref 0] hpA Q := ok_X11_init _ _ _ ⟨rfl, by decide +kernel, by decide +kernel, hq⟩
theorem ini_ref (Q : Option Value → Hp → Prop) (hq : Q none hpD) : cal 1 MX12_init [.ref 44] hpC Q := ok_X12_init _ _ _ ⟨rfl, hpC_T.1, hpC_T.2, hq⟩
set_option maxRecDepth 100000 in
theorem hpD_X : LayX hpD := by
  unfold LayX
  repeat' apply And.intro
  all_goals decide +kernel
set_option maxRecDepth 100000 in
theorem hpD_M : LayM hpD := by
  unfold LayM
  repeat' apply And.intro
  all_goals decide +kernel
set_option maxRecDepth 100000 in
theorem hpD_R : LayR hpD 4 ∧ hR hpD 3 3 = some 4 ∧ hR hpD 3 4 = none := by
  unfold LayR
  repeat' apply And.intro
  all_goals decide +kernel
theorem hpD_i : hI hpD 1 1 = 0 ∧ hI hpD 44 2 = 0 ∧ hI hpD 0 4 = hI hpD 44 43 ∧ hI hpD 0 5 = hI hpD 44 44 ∧ hI hpD 12 0 = 0 ∧ hI hpD 46 0 = 0 ∧ hI hpD 12 4 = 0 ∧ hI hpD 12 5 = 0 ∧ hI hpD 16 0 = 0 ∧ hI hpD 16 1 = 0 ∧ hI hpD 16 10 = 0 ∧ hI hpD 16 11 = 0 ∧ hI hpD 16 12 = 0 ∧ hI hpD 52 0 = 0 ∧ hI hpD 25 0 = 0 ∧ hI hpD 64 0 = 0 ∧ hI hpD 4 0 = 0 ∧ hI hpD 69 0 = 0 ∧ hI hpD 76 0 = 0 := by decide +kernel
theorem hpD_p : ∀ p, p < 24 → hI hpD 19 p = 0 ∧ hI hpD 20 p = 0 ∧ hI hpD 21 p = 0 ∧ hI hpD 23 p = 0 ∧ hI hpD 24 p = 0 ∧ hI hpD 62 p = 0 ∧ hI hpD 63 p = 0 := by decide +kernel
theorem hpD_h : ∀ x, x < 8 → hI hpD 28 x = 0 ∧ hI hpD 29 x = 0 := by decide +kernel
theorem hpD_m : ∀ k, k < 3 → hI hpD 89 k = 0 ∧ hR hpD 30 k = none := by decide +kernel
theorem hpD_cp : CP hpD := by
  obtain ⟨i1, i2, i3, i4, i5, i6, i7, i8, i9, i10, i11, i12, i13, i14, i15, i16, i17, i18, i19⟩ := hpD_i
  have z62 : ∀ p, p < 24 → hI hpD 62 p = 0 := fun p hp => (hpD_p p hp).2.2.2.2.2.1
  have z63 : ∀ p, p < 24 → hI hpD 63 p = 0 := fun p hp => (hpD_p p hp).2.2.2.2.2.2
  have hno : ∀ p, ¬ p < 0 := Nat.not_lt_zero
  refine ⟨hpD_X, hpD_M, ⟨⟨0, by decide, i1, i2, fun k hk => absurd hk (hno k)⟩, i3, i4⟩, ⟨0, 0, 0, 0, 0, 4, 0, hpD_X.s, hpD_R.2.1, hpD_R.1, ⟨by decide, i5, i6, fun x hx => absurd hx (hno x), fun x _ => ?_⟩, ⟨by decide, i9, i14, fun x hx => absurd hx (hno x), fun x _ => ?_, fun x _ hx => hpD_p x hx⟩, i10, ⟨by decide, i15, i16, fun x hx => absurd hx (hno x), fun x _ hx => hpD_h x hx⟩, ⟨by decide, i17, i18, fun x hx => absurd hx (hno x)⟩, ?_, by decide, i19, hpD_R.2.2, fun e n Rn z => by cases z⟩, fun k hk => Or.inl (hpD_m k hk), fun j k b hj hk hjk hb => ?_⟩
  · show bt (hI hpD 12 4) x = false ∧ bt (hI hpD 12 5) x = false
    rw [i7, i8, b_0]; exact ⟨rfl, rfl⟩
  · show bt (hI hpD 16 10) x = false ∧ bt (hI hpD 16 11) x = false ∧ bt (hI hpD 16 12) x = false
    rw [i11, i12, i13, b_0]; exact ⟨rfl, rfl, rfl⟩
  · refine ⟨fun p hp => absurd hp (hno p), fun p hp => absurd hp (hno p), fun p i hp hi => ?_, fun p i hp => absurd hp (hno p), fun p hp => absurd hp (hno p), fun p i hp => absurd hp (hno p), fun p i hp => ?_, by decide, rfl⟩
    · rw [z62 p hp, z62 i hi, z63 p hp, z63 i hi, b_0, b_0]
      exact ⟨rfl, rfl⟩
    · rw [z62 p hp, b_0]
      exact fun z => by cases z.1
  · rw [(hpD_m j hj).2] at hb
    cases hb
