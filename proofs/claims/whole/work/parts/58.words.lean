/-! ===== the words of the rules ===== -/
theorem lN_shl8 (x : Nat) : lN x <<< (Int32.toInt64 8 &&& 63) = lN (x * 256) := by
  apply Int64.toBitVec_inj.mp
  rw [Int64.toBitVec_shiftLeft]
  have e : (Int32.toInt64 8 &&& 63).toBitVec.smod 64 = 8#64 := by decide +kernel
  rw [e]
  show BitVec.ofNat 64 x <<< 8#64 = BitVec.ofNat 64 (x * 256)
  apply BitVec.eq_of_toNat_eq
  simp [BitVec.toNat_shiftLeft, Nat.shiftLeft_eq, Nat.mod_mul_mod]
theorem lN_or (x c : Nat) (hc : c < 256) (hx : x * 256 < 9223372036854775808) : lN (x * 256) ||| lN c = lN (x * 256 + c) := by
  apply Int64.toBitVec_inj.mp
  rw [Int64.toBitVec_or]
  show BitVec.ofNat 64 (x * 256) ||| BitVec.ofNat 64 c = BitVec.ofNat 64 (x * 256 + c)
  apply BitVec.eq_of_toNat_eq
  have hx2 : x * 256 + c < 18446744073709551616 := Nat.lt_of_lt_of_le (Nat.add_lt_add hx hc) (by decide +kernel)
  have h64 : 2 ^ 64 = 18446744073709551616 := by decide +kernel
  rw [BitVec.toNat_or, BitVec.toNat_ofNat, BitVec.toNat_ofNat, BitVec.toNat_ofNat, h64, Nat.mod_eq_of_lt hx2, Nat.mod_eq_of_lt (Nat.lt_of_le_of_lt (Nat.le_add_right _ _) hx2), Nat.mod_eq_of_lt (Nat.lt_of_le_of_lt (Nat.le_add_left _ _) hx2)]
  have := Nat.shiftLeft_add_eq_or_of_lt (i := 8) (b := c) (by omega) x
  rw [Nat.shiftLeft_eq] at this
  exact this.symm
def vn (c : Nat → Nat) : Nat → Nat
  | 0 => 0
  | n + 1 => vn c n * 256 + c n
theorem vn_lt {c : Nat → Nat} {n : Nat} (hc : ∀ i, i < n → c i ≤ 122) : vn c n + 1 ≤ 123 * 256 ^ (n - 1) ∨ n = 0 := by
  induction n with
  | zero => exact Or.inr rfl
  | succ n ih =>
    left
    have h1 := hc n (by omega)
    rcases ih (fun i hi => hc i (by omega)) with q | q
    · cases n with
      | zero => simp [vn]; omega
      | succ n =>
        simp only [Nat.add_sub_cancel] at q ⊢
        rw [vn, Nat.pow_succ]
        omega
    · subst q; simp [vn]; omega
theorem vn_63 {c : Nat → Nat} {n : Nat} (hn : n ≤ 8) (hc : ∀ i, i < n → c i ≤ 122) : vn c n < 9223372036854775808 := by
  rcases vn_lt hc with q | q
  · have : 256 ^ (n - 1) ≤ 256 ^ 7 := Nat.pow_le_pow_right (by decide) (by omega)
    have e : 256 ^ 7 = 72057594037927936 := by decide
    omega
  · subst q; rw [vn]; decide
theorem wv_vn {B : Nat → Int32} {b : Nat} {c : Nat → Nat} : ∀ n, n ≤ 8 → (∀ i, i < n → B (b + i) = nI (c i) ∧ c i ≤ 122) → wv B b n = lN (vn c n)
  | 0, _, _ => rfl
  | n + 1, hn, h => by
    have ih := wv_vn n (by omega) (fun i hi => h i (by omega))
    obtain ⟨h1, h2⟩ := h n (by omega)
    have hv := vn_63 (n := n + 1) hn (fun i hi => (h i hi).2)
    rw [wv, ih, h1, nI_l (by omega), lN_shl8, lN_or _ _ (by omega) (Nat.lt_of_le_of_lt (Nat.le_add_right _ (c n)) hv), vn]
/-- the bytes below n spell the word whose bytes, the last first, are l -/
def spR (c : Nat → Nat) : List Nat → Nat → Prop
  | [], n => n = 0
  | x :: t, n => ∃ m, n = m + 1 ∧ c m = x ∧ spR c t m
def vl : List Nat → Nat
  | [] => 0
  | x :: t => vl t * 256 + x
theorem vn_sp {c : Nat → Nat} : ∀ (l : List Nat) (n : Nat), (∀ i, i < n → 0 < c i ∧ c i < 256) → (∀ x ∈ l, 0 < x ∧ x < 256) → (vn c n = vl l ↔ spR c l n)
  | [], n, hc, _ => by
    cases n with
    | zero => exact ⟨fun _ => rfl, fun _ => rfl⟩
    | succ n =>
      have := (hc n (by omega)).1
      exact ⟨fun z => by rw [vn, vl] at z; omega, fun z => by cases z⟩
  | x :: t, n, hc, hl => by
    have hx := hl x List.mem_cons_self
    cases n with
    | zero => exact ⟨fun z => by rw [vn, vl] at z; omega, fun ⟨m, z, _⟩ => by cases z⟩
    | succ n =>
      have hn := hc n (by omega)
      have ih := vn_sp t n (fun i hi => hc i (by omega)) (fun y hy => hl y (List.mem_cons_of_mem _ hy))
      constructor
      · intro z
        rw [vn, vl] at z
        exact ⟨n, rfl, by omega, ih.mp (by omega)⟩
      · rintro ⟨m, e, h1, h2⟩
        have e2 : m = n := by omega
        subst e2
        rw [vn, vl, ih.mpr h2, h1]
/-- the words, their longs, their bytes from the last on -/
def wLs : List (List Nat) := [[110, 101, 104, 119], [100, 110, 97], [116, 111, 110], [100, 100, 97], [114, 97, 98], [116, 115, 97, 108], [101, 103, 97], [100, 110, 105, 107], [108, 108, 105], [115, 116, 104, 103, 105, 110], [100, 101, 110, 114, 117, 116], [100, 108, 111, 99], [121, 97, 100], [103, 111, 100], [115, 98, 109, 105, 108, 99], [101, 114, 101, 104]]
def wL (k : Nat) : List Nat := wLs.getD k []
def wKd (w : Int64) : Int32 := if w = lN (vl (wL 0)) then 256 else if w = lN (vl (wL 1)) then 257 else if w = lN (vl (wL 2)) then 258 else if w = lN (vl (wL 3)) then 259 else if w = lN (vl (wL 4)) then 260 else if w = lN (vl (wL 5)) then 261 else if w = lN (vl (wL 6)) then 262 else if w = lN (vl (wL 7)) then 263 else if w = lN (vl (wL 8)) then 264 else if w = lN (vl (wL 9)) then 265 else if w = lN (vl (wL 10)) then 266 else if w = lN (vl (wL 11)) then 267 else if w = lN (vl (wL 12)) then 268 else if w = lN (vl (wL 13)) then 269 else if w = lN (vl (wL 14)) then 270 else if w = lN (vl (wL 15)) then 271 else 0
theorem wKd_is : ∀ k, k < 16 → wKd (lN (vl (wL k))) = nI (256 + k) := by decide +kernel
theorem wKd_or (w : Int64) : wKd w = 0 ∨ ∃ k, k < 16 ∧ w = lN (vl (wL k)) := by
  unfold wKd
  by_cases c0 : w = lN (vl (wL 0)); · exact Or.inr ⟨0, by decide, c0⟩
  by_cases c1 : w = lN (vl (wL 1)); · exact Or.inr ⟨1, by decide, c1⟩
  by_cases c2 : w = lN (vl (wL 2)); · exact Or.inr ⟨2, by decide, c2⟩
  by_cases c3 : w = lN (vl (wL 3)); · exact Or.inr ⟨3, by decide, c3⟩
  by_cases c4 : w = lN (vl (wL 4)); · exact Or.inr ⟨4, by decide, c4⟩
  by_cases c5 : w = lN (vl (wL 5)); · exact Or.inr ⟨5, by decide, c5⟩
  by_cases c6 : w = lN (vl (wL 6)); · exact Or.inr ⟨6, by decide, c6⟩
  by_cases c7 : w = lN (vl (wL 7)); · exact Or.inr ⟨7, by decide, c7⟩
  by_cases c8 : w = lN (vl (wL 8)); · exact Or.inr ⟨8, by decide, c8⟩
  by_cases c9 : w = lN (vl (wL 9)); · exact Or.inr ⟨9, by decide, c9⟩
  by_cases c10 : w = lN (vl (wL 10)); · exact Or.inr ⟨10, by decide, c10⟩
  by_cases c11 : w = lN (vl (wL 11)); · exact Or.inr ⟨11, by decide, c11⟩
  by_cases c12 : w = lN (vl (wL 12)); · exact Or.inr ⟨12, by decide, c12⟩
  by_cases c13 : w = lN (vl (wL 13)); · exact Or.inr ⟨13, by decide, c13⟩
  by_cases c14 : w = lN (vl (wL 14)); · exact Or.inr ⟨14, by decide, c14⟩
  by_cases c15 : w = lN (vl (wL 15)); · exact Or.inr ⟨15, by decide, c15⟩
  rw [if_neg c0, if_neg c1, if_neg c2, if_neg c3, if_neg c4, if_neg c5, if_neg c6, if_neg c7, if_neg c8, if_neg c9, if_neg c10, if_neg c11, if_neg c12, if_neg c13, if_neg c14, if_neg c15]
  exact Or.inl rfl
theorem wKd_iff {w : Int64} {k : Nat} (hk : k < 16) : wKd w = nI (256 + k) ↔ w = lN (vl (wL k)) := by
  constructor
  · intro h
    rcases wKd_or w with q | ⟨j, hj, e⟩
    · rw [q] at h
      exact absurd h.symm (nI_ne0 (by omega) (by omega))
    · rw [e, wKd_is j hj, nI_eq (by omega) (by omega)] at h
      rw [e, show j = k by omega]
  · intro h; rw [h]; exact wKd_is k hk
/-- the kind of a token: 0 bad, 1 the end, 2 a number, a sign itself, 256 .. the words -/
noncomputable def Kd (B : Nat → Int32) (L b : Nat) : Int32 := cif (b < L) (cif (isLe (B b)) (wKd (tkW B L b)) (cif (isDi (B b)) (if 4 < eD B L b - b then 0 else 2) (cif (isSg (B b)) (B b) 0))) 1
theorem isSg_of {c : Int32} (h : isSg c) : ∃ n, n ≤ 62 ∧ 45 ≤ n ∧ c = nI n := by
  rcases h with h | h | h | h | h | h
  · exact ⟨58, by decide, by decide, h⟩
  · exact ⟨59, by decide, by decide, h⟩
  · exact ⟨60, by decide, by decide, h⟩
  · exact ⟨62, by decide, by decide, h⟩
  · exact ⟨61, by decide, by decide, h⟩
  · exact ⟨45, by decide, by decide, h⟩
theorem wKd_rng (w : Int64) : wKd w = 0 ∨ ∃ n, 256 ≤ n ∧ n ≤ 271 ∧ wKd w = nI n := by
  rcases wKd_or w with q | ⟨j, hj, e⟩
  · exact Or.inl q
  · exact Or.inr ⟨256 + j, by omega, by omega, by rw [e, wKd_is j hj]⟩
/-- what isWord sees -/
theorem Kd_word (B : Nat → Int32) (L b k : Nat) (hk : k < 16) : (tkO B L b = 2 ∧ tkW B L b = lN (vl (wL k))) ↔ Kd B L b = nI (256 + k) := by
  unfold tkO Kd
  have hne : ∀ n : Nat, n < 256 → ¬ nI n = nI (256 + k) := fun n hn z => by rw [nI_eq (by omega) (by omega)] at z; omega
  rcases Classical.em (b < L) with c | c
  · rw [cif_t c, cif_t c]
    rcases Classical.em (isLe (B b)) with c1 | c1
    · rw [cif_t c1, cif_t c1, wKd_iff hk]
      exact ⟨fun z => z.2, fun z => ⟨rfl, z⟩⟩
    · rw [cif_f c1, cif_f c1]
      rcases Classical.em (isDi (B b)) with c2 | c2
      · rw [cif_t c2, cif_t c2]
        split
        · exact ⟨fun z => absurd z.1 (by decide), fun z => absurd z (hne 0 (by decide))⟩
        · exact ⟨fun z => absurd z.1 (by decide), fun z => absurd z (hne 2 (by decide))⟩
      · rw [cif_f c2, cif_f c2]
        rcases Classical.em (isSg (B b)) with c3 | c3
        · rw [cif_t c3, cif_t c3]
          obtain ⟨n, h1, _, h2⟩ := isSg_of c3
          exact ⟨fun z => absurd z.1 (by decide), fun z => absurd (h2.symm.trans z) (hne n (by omega))⟩
        · rw [cif_f c3, cif_f c3]
          exact ⟨fun z => absurd z.1 (by decide), fun z => absurd z (hne 0 (by decide))⟩
  · rw [cif_f c, cif_f c]
    exact ⟨fun z => absurd z.1 (by decide), fun z => absurd z (hne 1 (by decide))⟩
theorem Kd_sign (B : Nat → Int32) (L b : Nat) {s : Int32} (hs : isSg s) : (tkO B L b = 4 ∧ tkV B L b = s) ↔ Kd B L b = s := by
  obtain ⟨n, hn1, hn2, rfl⟩ := isSg_of hs
  have hne : ∀ m : Nat, (m < 45 ∨ 62 < m) → m < 1000 → ¬ nI m = nI n := fun m h1 h2 z => by rw [nI_eq (by omega) (by omega)] at z; omega
  unfold tkO tkV Kd
  rcases Classical.em (b < L) with c | c
  · rw [cif_t c, cif_t c, cif_t c]
    rcases Classical.em (isLe (B b)) with c1 | c1
    · rw [cif_t c1, cif_t c1, cif_t c1]
      refine ⟨fun z => absurd z.1 (by decide), fun z => ?_⟩
      rcases wKd_rng (tkW B L b) with q | ⟨m, h1, h2, q⟩
      · rw [q] at z; exact absurd z (hne 0 (by omega) (by omega))
      · rw [q] at z; exact absurd z (hne m (by omega) (by omega))
    · rw [cif_f c1, cif_f c1, cif_f c1]
      rcases Classical.em (isDi (B b)) with c2 | c2
      · rw [cif_t c2, cif_t c2, cif_t c2]
        split
        · exact ⟨fun z => absurd z.1 (by decide), fun z => absurd z (hne 0 (by omega) (by omega))⟩
        · exact ⟨fun z => absurd z.1 (by decide), fun z => absurd z (hne 2 (by omega) (by omega))⟩
      · rw [cif_f c2, cif_f c2, cif_f c2]
        rcases Classical.em (isSg (B b)) with c3 | c3
        · rw [cif_t c3, cif_t c3]
          exact ⟨fun z => z.2, fun z => ⟨rfl, z⟩⟩
        · rw [cif_f c3, cif_f c3]
          exact ⟨fun z => absurd z.1 (by decide), fun z => absurd z (hne 0 (by omega) (by omega))⟩
  · rw [cif_f c, cif_f c, cif_f c]
    exact ⟨fun z => absurd z.1 (by decide), fun z => absurd z (hne 1 (by omega) (by omega))⟩
theorem Kd_num (B : Nat → Int32) (L b : Nat) : tkO B L b = 3 ↔ Kd B L b = 2 := by
  have hne : ∀ m : Nat, 2 < m → m < 1000 → ¬ nI m = 2 := fun m h1 h2 z => by
    have := (nI_eq (a := m) (b := 2) (by omega) (by omega)).mp z
    omega
  unfold tkO Kd
  rcases Classical.em (b < L) with c | c
  · rw [cif_t c, cif_t c]
    rcases Classical.em (isLe (B b)) with c1 | c1
    · rw [cif_t c1, cif_t c1]
      refine ⟨fun z => absurd z (by decide), fun z => ?_⟩
      rcases wKd_rng (tkW B L b) with q | ⟨m, h1, h2, q⟩
      · rw [q] at z; exact absurd z (by decide)
      · rw [q] at z; exact absurd z (hne m (by omega) (by omega))
    · rw [cif_f c1, cif_f c1]
      rcases Classical.em (isDi (B b)) with c2 | c2
      · rw [cif_t c2, cif_t c2]
        split
        · exact ⟨fun z => absurd z (by decide), fun z => absurd z (by decide)⟩
        · exact ⟨fun z => rfl, fun z => rfl⟩
      · rw [cif_f c2, cif_f c2]
        rcases Classical.em (isSg (B b)) with c3 | c3
        · rw [cif_t c3, cif_t c3]
          obtain ⟨n, h1, h3, h2⟩ := isSg_of c3
          exact ⟨fun z => absurd z (by decide), fun z => absurd (h2.symm.trans z) (hne n (by omega) (by omega))⟩
        · rw [cif_f c3, cif_f c3]
          exact ⟨fun z => absurd z (by decide), fun z => absurd z (by decide)⟩
  · rw [cif_f c, cif_f c]
    exact ⟨fun z => absurd z (by decide), fun z => absurd z (by decide)⟩
theorem Kd_end (B : Nat → Int32) (L b : Nat) : (tkO B L b = 0 ↔ Kd B L b = 1) ∧ (Kd B L b = 1 ↔ ¬ b < L) := by
  have hne : ∀ m : Nat, 1 < m → m < 1000 → ¬ nI m = 1 := fun m h1 h2 z => by
    have := (nI_eq (a := m) (b := 1) (by omega) (by omega)).mp z
    omega
  unfold tkO Kd
  rcases Classical.em (b < L) with c | c
  · rw [cif_t c, cif_t c]
    have fin : ∀ x y : Int32, ¬ x = 0 → ¬ y = 1 → (x = 0 ↔ y = 1) ∧ (y = 1 ↔ ¬ b < L) := fun x y h1 h2 => ⟨⟨fun z => absurd z h1, fun z => absurd z h2⟩, ⟨fun z => absurd z h2, fun z => absurd c z⟩⟩
    rcases Classical.em (isLe (B b)) with c1 | c1
    · rw [cif_t c1, cif_t c1]
      refine fin _ _ (by decide) (fun z => ?_)
      rcases wKd_rng (tkW B L b) with q | ⟨m, h1, h2, q⟩
      · rw [q] at z; exact absurd z (by decide)
      · rw [q] at z; exact absurd z (hne m (by omega) (by omega))
    · rw [cif_f c1, cif_f c1]
      rcases Classical.em (isDi (B b)) with c2 | c2
      · rw [cif_t c2, cif_t c2]
        split
        · exact fin _ _ (by decide) (by decide)
        · exact fin _ _ (by decide) (by decide)
      · rw [cif_f c2, cif_f c2]
        rcases Classical.em (isSg (B b)) with c3 | c3
        · rw [cif_t c3, cif_t c3]
          obtain ⟨n, h1, h3, h2⟩ := isSg_of c3
          exact fin _ _ (by decide) (fun z => absurd (h2.symm.trans z) (hne n (by omega) (by omega)))
        · rw [cif_f c3, cif_f c3]
          exact fin _ _ (by decide) (by decide)
  · rw [cif_f c, cif_f c]
    exact ⟨⟨fun _ => rfl, fun _ => rfl⟩, ⟨fun _ => c, fun _ => rfl⟩⟩
