/-! ===== how many bits ===== -/
def popN : Nat → Nat → Nat
  | 0, _ => 0
  | f + 1, n => n % 2 + popN f (n / 2)
theorem popN_low : ∀ (f n : Nat), n < 2 ^ f → n ≠ 0 → popN f (n &&& (n - 1)) + 1 = popN f n
  | 0, n, h, h0 => by simp at h; omega
  | f + 1, n, h, h0 => by
    have hp : 2 ^ (f + 1) = 2 * 2 ^ f := by rw [Nat.pow_succ]; omega
    show (n &&& (n - 1)) % 2 + popN f ((n &&& (n - 1)) / 2) + 1 = n % 2 + popN f (n / 2)
    rw [Nat.and_div_two]
    have hm : (n &&& (n - 1)) % 2 = (n % 2) &&& ((n - 1) % 2) := by
      have := Nat.and_mod_two_pow (a := n) (b := n - 1) (n := 1)
      simpa using this
    rcases Nat.mod_two_eq_zero_or_one n with e | e
    · have h1 : (n - 1) / 2 = n / 2 - 1 := by omega
      have ih := popN_low f (n / 2) (by omega) (by omega)
      rw [hm, e, h1, Nat.zero_and]
      omega
    · have h1 : (n - 1) / 2 = n / 2 := by omega
      have h2 : (n - 1) % 2 = 0 := by omega
      rw [hm, e, h1, h2, Nat.and_self, Nat.and_zero]
      omega
theorem popN_ct : ∀ (f n : Nat), popN f n = fb_ct (fun i => n.testBit i) f
  | 0, _ => rfl
  | f + 1, n => by
    show n % 2 + popN f (n / 2) = fb_ct (fun i => n.testBit i) (f + 1)
    rw [Nat.add_comm f 1, fb_ct_split, popN_ct f (n / 2)]
    congr 1
    · show _ = 0 + (if n.testBit 0 then 1 else 0)
      rw [Nat.testBit_zero]
      rcases Nat.mod_two_eq_zero_or_one n with e | e <;> simp [e]
    · apply fb_ct_cong
      intro k _
      rw [Nat.add_comm 1 k, Nat.testBit_succ]
/-- the bits of an int -/
def pct (x : Int32) : Nat := popN 32 x.toBitVec.toNat
theorem pct_ct (x : Int32) : pct x = fb_ct (bt x) 32 := by
  unfold pct
  rw [popN_ct]
  apply fb_ct_cong
  intro k _
  rfl
theorem pct_le (x : Int32) : pct x ≤ 32 := by rw [pct_ct]; exact fb_ct_le _ _
theorem pct_0 : pct 0 = 0 := by decide +kernel
theorem pct_low {x : Int32} (h : ¬ x = 0) : pct (x &&& (x - 1)) + 1 = pct x := by
  have h0 : x.toBitVec.toNat ≠ 0 := fun e => h (Int32.toBitVec_inj.mp (BitVec.eq_of_toNat_eq (by rw [e]; rfl)))
  have hlt := x.toBitVec.isLt
  unfold pct
  have e1 : (x &&& (x - 1)).toBitVec.toNat = x.toBitVec.toNat &&& (x.toBitVec.toNat - 1) := by
    rw [Int32.toBitVec_and, BitVec.toNat_and]
    congr 1
    rw [Int32.toBitVec_sub, BitVec.toNat_sub]
    show (2 ^ 32 - 1 + x.toBitVec.toNat) % 2 ^ 32 = _
    omega
  rw [e1]
  exact popN_low 32 _ hlt h0
/-! the same, as the library counts them -/
theorem and_low (k a m b M : Nat) (ha : a < 2 ^ k) (hm : m < 2 ^ k) : (a + 2 ^ k * b) &&& (m + 2 ^ k * M) = (a &&& m) + 2 ^ k * (b &&& M) := by
  have h1 : a &&& m < 2 ^ k := Nat.lt_of_le_of_lt Nat.and_le_left ha
  apply Nat.eq_of_testBit_eq
  intro i
  rw [Nat.testBit_and, Nat.add_comm a, Nat.add_comm m, Nat.add_comm (a &&& m)]
  rw [Nat.testBit_two_pow_mul_add _ ha, Nat.testBit_two_pow_mul_add _ hm, Nat.testBit_two_pow_mul_add _ h1]
  split <;> simp [Nat.testBit_and]
theorem popN_split : ∀ (a b n : Nat), popN (a + b) n = popN a (n % 2 ^ a) + popN b (n / 2 ^ a)
  | 0, b, n => by simp [popN]
  | a + 1, b, n => by
    rw [show a + 1 + b = (a + b) + 1 by omega]
    show n % 2 + popN (a + b) (n / 2) = n % 2 ^ (a + 1) % 2 + popN a (n % 2 ^ (a + 1) / 2) + popN b (n / 2 ^ (a + 1))
    rw [popN_split a b (n / 2)]
    have h1 : n % 2 ^ (a + 1) % 2 = n % 2 := Nat.mod_mod_of_dvd n ⟨2 ^ a, by rw [Nat.pow_succ]; omega⟩
    have h2 : n % 2 ^ (a + 1) / 2 = n / 2 % 2 ^ a := by rw [Nat.pow_succ, Nat.mul_comm, Nat.mod_mul_right_div_self]
    have h3 : n / 2 ^ (a + 1) = n / 2 / 2 ^ a := by rw [Nat.div_div_eq_div_mul, Nat.pow_succ, Nat.mul_comm]
    rw [h1, h2, h3]
    omega
def sw1 (b : Nat) : Nat := b - ((b / 2) &&& 85)
def sw2 (b : Nat) : Nat := (sw1 b &&& 51) + ((sw1 b / 4) &&& 51)
theorem sw1_lt : ∀ b, b < 256 → sw1 b < 256 ∧ ((b / 2) &&& 85) ≤ b := by decide +kernel
theorem sw1_and : ∀ b, b < 256 → ∀ t, t < 2 → (b / 2 + 128 * t) &&& 85 = (b / 2) &&& 85 := by decide +kernel
theorem sw2_and : ∀ c, c < 256 → ∀ t, t < 4 → (c / 4 + 64 * t) &&& 51 = (c / 4) &&& 51 := by decide +kernel
theorem sw2_ok : ∀ b, b < 256 → sw2 b % 16 ≤ 4 ∧ sw2 b / 16 ≤ 4 ∧ sw2 b % 16 + sw2 b / 16 = popN 8 b := by decide +kernel
theorem sw15 : ∀ t, t < 256 → t &&& 15 = t % 16 := by decide +kernel
theorem m4 (a0 a1 a2 a3 m : Nat) (h0 : a0 < 256) (h1 : a1 < 256) (h2 : a2 < 256) (h3 : a3 < 256) (hm : m < 256) : (a0 + 256 * (a1 + 256 * (a2 + 256 * a3))) &&& (m + 256 * (m + 256 * (m + 256 * m))) = (a0 &&& m) + 256 * ((a1 &&& m) + 256 * ((a2 &&& m) + 256 * (a3 &&& m))) := by
  have e : (256 : Nat) = 2 ^ 8 := rfl
  rw [e] at *
  rw [and_low 8 a0 m _ _ h0 hm, and_low 8 a1 m _ _ h1 hm, and_low 8 a2 m _ _ h2 hm]
theorem sw_b (z t : Nat) (h1 : z % 16 ≤ 4) (h2 : z / 16 ≤ 4) : (z + z / 16 + 16 * t) % 16 = z % 16 + z / 16 := by omega
theorem sw_e (p0 p1 p2 p3 w : Nat) (h0 : p0 ≤ 8) (h1 : p1 ≤ 8) (h2 : p2 ≤ 8) (h3 : p3 ≤ 8) (hw : w = p0 + 256 * (p1 + 256 * (p2 + 256 * p3))) : (w + w / 256 + (w + w / 256) / 65536) % 64 = p0 + p1 + p2 + p3 := by
  have e1 : w / 256 = p1 + 256 * (p2 + 256 * p3) := by omega
  rw [e1]
  have e2 : (w + (p1 + 256 * (p2 + 256 * p3))) / 65536 = p2 + p3 + 256 * p3 := by omega
  rw [e2]
  omega
theorem swar {x : Nat} (hx : x < 2 ^ 32) : ∃ y z w : Nat, y = x - ((x / 2) &&& 1431655765) ∧ ((x / 2) &&& 1431655765) ≤ x ∧ z = (y &&& 858993459) + ((y / 4) &&& 858993459) ∧ z < 2 ^ 31 ∧ w = (z + z / 16) &&& 252645135 ∧ z + z / 16 < 2 ^ 32 ∧ w < 2 ^ 29 ∧ (w + w / 256 + (w + w / 256) / 65536) % 64 = popN 32 x := by
  obtain ⟨b0, b1, b2, b3, h0, h1, h2, h3, ex⟩ : ∃ b0 b1 b2 b3, b0 < 256 ∧ b1 < 256 ∧ b2 < 256 ∧ b3 < 256 ∧ x = b0 + 256 * (b1 + 256 * (b2 + 256 * b3)) := ⟨x % 256, x / 256 % 256, x / 65536 % 256, x / 16777216, by omega, by omega, by omega, by omega, by omega⟩
  have k0 := sw1_lt b0 h0
  have k1 := sw1_lt b1 h1
  have k2 := sw1_lt b2 h2
  have k3 := sw1_lt b3 h3
  have eM : (1431655765 : Nat) = 85 + 256 * (85 + 256 * (85 + 256 * 85)) := rfl
  have e3 : (858993459 : Nat) = 51 + 256 * (51 + 256 * (51 + 256 * 51)) := rfl
  have eF : (252645135 : Nat) = 15 + 256 * (15 + 256 * (15 + 256 * 15)) := rfl
  have ea : (x / 2) &&& 1431655765 = ((b0 / 2) &&& 85) + 256 * (((b1 / 2) &&& 85) + 256 * (((b2 / 2) &&& 85) + 256 * ((b3 / 2) &&& 85))) := by
    rw [show x / 2 = (b0 / 2 + 128 * (b1 % 2)) + 256 * ((b1 / 2 + 128 * (b2 % 2)) + 256 * ((b2 / 2 + 128 * (b3 % 2)) + 256 * (b3 / 2))) by omega, eM, m4 _ _ _ _ _ (by omega) (by omega) (by omega) (by omega) (by decide), sw1_and b0 h0 _ (by omega), sw1_and b1 h1 _ (by omega), sw1_and b2 h2 _ (by omega)]
  have ey : x - ((x / 2) &&& 1431655765) = sw1 b0 + 256 * (sw1 b1 + 256 * (sw1 b2 + 256 * sw1 b3)) := by
    rw [ea]
    simp only [sw1]
    omega
  have e4 : (sw1 b0 + 256 * (sw1 b1 + 256 * (sw1 b2 + 256 * sw1 b3))) / 4 = (sw1 b0 / 4 + 64 * (sw1 b1 % 4)) + 256 * ((sw1 b1 / 4 + 64 * (sw1 b2 % 4)) + 256 * ((sw1 b2 / 4 + 64 * (sw1 b3 % 4)) + 256 * (sw1 b3 / 4))) := by omega
  have ez : ((x - ((x / 2) &&& 1431655765)) &&& 858993459) + (((x - ((x / 2) &&& 1431655765)) / 4) &&& 858993459) = sw2 b0 + 256 * (sw2 b1 + 256 * (sw2 b2 + 256 * sw2 b3)) := by
    rw [ey, e4, e3, m4 _ _ _ _ _ k0.1 k1.1 k2.1 k3.1 (by decide), m4 _ _ _ _ _ (by omega) (by omega) (by omega) (by omega) (by decide), sw2_and _ k0.1 _ (by omega), sw2_and _ k1.1 _ (by omega), sw2_and _ k2.1 _ (by omega)]
    simp only [sw2]
    omega
  obtain ⟨c0, d0, p0⟩ := sw2_ok b0 h0
  obtain ⟨c1, d1, p1⟩ := sw2_ok b1 h1
  obtain ⟨c2, d2, p2⟩ := sw2_ok b2 h2
  obtain ⟨c3, d3, p3⟩ := sw2_ok b3 h3
  have hp : popN 32 x = popN 8 b0 + popN 8 b1 + popN 8 b2 + popN 8 b3 := by
    rw [show 32 = 8 + (8 + (8 + 8)) from rfl, popN_split, popN_split 8 (8 + 8), popN_split 8 8]
    rw [show x % 2 ^ 8 = b0 by omega, show x / 2 ^ 8 % 2 ^ 8 = b1 by omega, show x / 2 ^ 8 / 2 ^ 8 % 2 ^ 8 = b2 by omega, show x / 2 ^ 8 / 2 ^ 8 / 2 ^ 8 = b3 by omega]
    omega
  generalize sw2 b0 = z0 at *
  generalize sw2 b1 = z1 at *
  generalize sw2 b2 = z2 at *
  generalize sw2 b3 = z3 at *
  have ew : (z0 + 256 * (z1 + 256 * (z2 + 256 * z3)) + (z0 + 256 * (z1 + 256 * (z2 + 256 * z3))) / 16) &&& 252645135 = popN 8 b0 + 256 * (popN 8 b1 + 256 * (popN 8 b2 + 256 * popN 8 b3)) := by
    rw [show z0 + 256 * (z1 + 256 * (z2 + 256 * z3)) + (z0 + 256 * (z1 + 256 * (z2 + 256 * z3))) / 16 = (z0 + z0 / 16 + 16 * (z1 % 16)) + 256 * ((z1 + z1 / 16 + 16 * (z2 % 16)) + 256 * ((z2 + z2 / 16 + 16 * (z3 % 16)) + 256 * (z3 + z3 / 16))) by omega, eF, m4 _ _ _ _ _ (by omega) (by omega) (by omega) (by omega) (by decide), sw15 _ (by omega), sw15 _ (by omega), sw15 _ (by omega), sw15 _ (by omega), sw_b z0 _ c0 d0, sw_b z1 _ c1 d1, sw_b z2 _ c2 d2, show (z3 + z3 / 16) % 16 = z3 % 16 + z3 / 16 from sw_b z3 0 c3 d3, p0, p1, p2, p3]
  refine ⟨_, _, _, rfl, by omega, rfl, by rw [ez]; omega, rfl, by rw [ez]; omega, by rw [ez, ew]; omega, ?_⟩
  rw [ez, ew, hp]
  exact sw_e _ _ _ _ _ (by omega) (by omega) (by omega) (by omega) rfl
