/-! ===== a State at another place, another part of the reference's rows ===== -/
/-- what of a State's block is copied: offset from its rooms, slot -/
def cpS (o i : Nat) : Prop := (o = 0 ∧ (i = 0 ∨ i = 4 ∨ i = 5)) ∨ (1 ≤ o ∧ o ≤ 3 ∧ i < 4) ∨ (o = 4 ∧ (i = 0 ∨ i = 1 ∨ i = 10 ∨ i = 11 ∨ i = 12)) ∨ (5 ≤ o ∧ o ≤ 12 ∧ i < 24) ∨ (o = 13 ∧ i = 0) ∨ (14 ≤ o ∧ o ≤ 17 ∧ i < 8)
def CpB (f g : Mem) (r r' : Nat) : Prop := ∀ o i, cpS o i → g (r' + o) i = f (r + o) i
def Js (J J' : Mem) : Prop := ∀ a i, 46 ≤ a → a ≤ 79 → i < szA a → J' a i = J a i
theorem RmC_mv {f g : Mem} {r r' : Nat} {J J' : Mem} {R : Nat} (hf : CpB f g r r') (hj : Js J J') (hr : RmC f r J R) : RmC g r' J' R := by
  obtain ⟨a1, a2, a3, a4, a5⟩ := hr
  have f0 : g r' 0 = f r 0 := hf 0 0 (by unfold cpS; omega)
  have f4 : g r' 4 = f r 4 := hf 0 4 (by unfold cpS; omega)
  have f5 : g r' 5 = f r 5 := hf 0 5 (by unfold cpS; omega)
  refine ⟨a1, f0.trans a2, (hj 46 0 (by decide) (by decide) (by decide)).trans a3, fun x hx => ?_, fun x hx => by rw [f4, f5]; exact a5 x hx⟩
  have k : ∀ a, 47 ≤ a → a ≤ 51 → szA a = 4 → J' a x = J a x := fun a b1 b2 b3 => hj a x (by omega) (by omega) (by omega)
  rw [f4, f5, hf 1 x (by unfold cpS; omega), hf 2 x (by unfold cpS; omega), hf 3 x (by unfold cpS; omega), k 47 (by decide) (by decide) rfl, k 48 (by decide) (by decide) rfl, k 49 (by decide) (by decide) rfl, k 50 (by decide) (by decide) rfl, k 51 (by decide) (by decide) rfl]
  exact a4 x hx
theorem PC_mv {f g : Mem} {r r' : Nat} {J J' : Mem} {P : Nat} (hf : CpB f g r r') (hj : Js J J') (hr : PC f r J P) : PC g r' J' P := by
  obtain ⟨a1, a2, a3, a4, a5, a6⟩ := hr
  have f10 := hf 4 10 (by unfold cpS; omega)
  have f11 := hf 4 11 (by unfold cpS; omega)
  have f12 := hf 4 12 (by unfold cpS; omega)
  have fr : ∀ o x, 5 ≤ o → o ≤ 12 → x < 24 → g (r' + o) x = f (r + o) x := fun o x b1 b2 b3 => hf o x (by unfold cpS; omega)
  have k : ∀ a x, 53 ≤ a → a ≤ 63 → szA a = 24 → x < 24 → J' a x = J a x := fun a x b1 b2 b3 b4 => hj a x (by omega) (by omega) (by omega)
  refine ⟨a1, (hf 4 0 (by unfold cpS; omega)).trans a2, (hj 52 0 (by decide) (by decide) (by decide)).trans a3, fun x hx => ?_, fun x hx => by rw [f10, f11, f12]; exact a5 x hx, fun x hx hx4 => ?_⟩
  · have h4 : x < 24 := by omega
    rw [f10, f11, f12, fr 5 x (by decide) (by decide) h4, fr 6 x (by decide) (by decide) h4, fr 7 x (by decide) (by decide) h4, fr 8 x (by decide) (by decide) h4, fr 9 x (by decide) (by decide) h4, fr 10 x (by decide) (by decide) h4, fr 11 x (by decide) (by decide) h4, fr 12 x (by decide) (by decide) h4, k 53 x (by decide) (by decide) rfl h4, k 54 x (by decide) (by decide) rfl h4, k 55 x (by decide) (by decide) rfl h4, k 56 x (by decide) (by decide) rfl h4, k 57 x (by decide) (by decide) rfl h4, k 58 x (by decide) (by decide) rfl h4, k 59 x (by decide) (by decide) rfl h4, k 60 x (by decide) (by decide) rfl h4, k 61 x (by decide) (by decide) rfl h4, k 62 x (by decide) (by decide) rfl h4, k 63 x (by decide) (by decide) rfl h4]
    exact a4 x hx
  · rw [fr 7 x (by decide) (by decide) hx4, fr 8 x (by decide) (by decide) hx4, fr 9 x (by decide) (by decide) hx4, fr 11 x (by decide) (by decide) hx4, fr 12 x (by decide) (by decide) hx4, k 62 x (by decide) (by decide) rfl hx4, k 63 x (by decide) (by decide) rfl hx4]
    exact a6 x hx hx4
theorem HlC_mv {f g : Mem} {r r' : Nat} {J J' : Mem} {H : Nat} (hf : CpB f g r r') (hj : Js J J') (hr : HlC f r J H) : HlC g r' J' H := by
  obtain ⟨a1, a2, a3, a4, a5⟩ := hr
  have fr : ∀ o x, 14 ≤ o → o ≤ 17 → x < 8 → g (r' + o) x = f (r + o) x := fun o x b1 b2 b3 => hf o x (by unfold cpS; omega)
  have k : ∀ a x, 65 ≤ a → a ≤ 68 → szA a = 8 → x < 8 → J' a x = J a x := fun a x b1 b2 b3 b4 => hj a x (by omega) (by omega) (by omega)
  refine ⟨a1, (hf 13 0 (by unfold cpS; omega)).trans a2, (hj 64 0 (by decide) (by decide) (by decide)).trans a3, fun x hx => ?_, fun x hx hx8 => ?_⟩
  · have h8 : x < 8 := by omega
    rw [fr 14 x (by decide) (by decide) h8, fr 15 x (by decide) (by decide) h8, fr 16 x (by decide) (by decide) h8, fr 17 x (by decide) (by decide) h8, k 65 x (by decide) (by decide) rfl h8, k 66 x (by decide) (by decide) rfl h8, k 67 x (by decide) (by decide) rfl h8, k 68 x (by decide) (by decide) rfl h8]
    exact a4 x hx
  · rw [fr 16 x (by decide) (by decide) hx8, fr 17 x (by decide) (by decide) hx8]
    exact a5 x hx hx8
theorem RC_mv {f : Mem} {q : Nat} {J J' : Mem} {Ln : Nat} (hj : Js J J') (hr : RC f q J Ln) : RC f q J' Ln := by
  obtain ⟨a1, a2, a3, a4⟩ := hr
  refine ⟨a1, a2, (hj 69 0 (by decide) (by decide) (by decide)).trans a3, fun l hl => ?_⟩
  obtain ⟨⟨T, t1, t2, t3, t4⟩, b2, b3⟩ := a4 l hl
  have e70 : J' 70 l = J 70 l := hj 70 l (by decide) (by decide) (by show l < 16; omega)
  have e74 : J' 74 l = J 74 l := hj 74 l (by decide) (by decide) (by show l < 16; omega)
  have e75 : J' 75 l = J 75 l := hj 75 l (by decide) (by decide) (by show l < 16; omega)
  refine ⟨⟨T, t1, t2, e70.trans t3, fun t ht => ?_⟩, by rw [e74]; exact b2, by rw [e74, e75]; exact b3⟩
  have e71 : J' 71 (4 * l + t) = J 71 (4 * l + t) := hj 71 _ (by decide) (by decide) (by show 4 * l + t < 64; omega)
  have e72 : J' 72 (4 * l + t) = J 72 (4 * l + t) := hj 72 _ (by decide) (by decide) (by show 4 * l + t < 64; omega)
  have e73 : J' 73 (4 * l + t) = J 73 (4 * l + t) := hj 73 _ (by decide) (by decide) (by show 4 * l + t < 64; omega)
  have := t4 t ht
  unfold tsC at this ⊢
  rw [e71, e72, e73]
  exact this
theorem JP_mv {J J' : Mem} {R P np : Nat} (hP : P ≤ 24) (hj : Js J J') (hr : JP J R P np) : JP J' R P np := by
  obtain ⟨a1, a2, a3, a4, a5, a6, a7, a8, a9⟩ := hr
  have k : ∀ a x, 53 ≤ a → a ≤ 63 → szA a = 24 → x < 24 → J' a x = J a x := fun a x b1 b2 b3 b4 => hj a x (by omega) (by omega) (by omega)
  refine ⟨fun p hp => ?_, fun p hp => ?_, fun p i hp hi => ?_, fun p i hp => ?_, fun p hp => ?_, fun p i hp => ?_, fun p i hp => ?_, a8, ?_⟩
  · rw [k 57 p (by decide) (by decide) rfl (by omega)]; exact a1 p hp
  · unfold slpOk; rw [k 60 p (by decide) (by decide) rfl (by omega)]; exact a2 p hp
  · rw [k 62 p (by decide) (by decide) rfl hp, k 62 i (by decide) (by decide) rfl hi, k 63 p (by decide) (by decide) rfl hp, k 63 i (by decide) (by decide) rfl hi]; exact a3 p i hp hi
  · rw [k 63 p (by decide) (by decide) rfl (by omega)]; exact a4 p i hp
  · rw [k 62 p (by decide) (by decide) rfl (by omega)]; exact a5 p hp
  · rw [k 62 p (by decide) (by decide) rfl (by omega)]; exact a6 p i hp
  · rw [k 62 p (by decide) (by decide) rfl hp, k 63 p (by decide) (by decide) rfl hp]; exact a7 p i hp
  · refine (fb_sm_cong (fun p hp => ?_)).trans a9
    rw [k 62 p (by decide) (by decide) rfl (by omega), k 63 p (by decide) (by decide) rfl (by omega)]
theorem NC_mv {h : Hp} {J J' : Mem} (hj : Js J J') : ∀ {e : Nat} {o : Option Nat}, e ≤ 400 → NC h J e o → NC h J' e o
  | 0, _, _, hn => hn
  | e + 1, _, he, hn => by
    obtain ⟨n, Rn, a1, a2, a3, a4, a5, a6, a7, a8, a9, a10, a11, a12, a13⟩ := hn
    have k : ∀ x, x ≤ 9 → J' 77 (10 * e + x) = J 77 (10 * e + x) := fun x hx => hj 77 _ (by decide) (by decide) (by show 10 * e + x < 4000; omega)
    refine ⟨n, Rn, a1, a2, a3, a4, a5.trans (k 0 (by decide)).symm, a6.trans (k 1 (by decide)).symm, a7.trans (k 2 (by decide)).symm, a8.trans (k 3 (by decide)).symm, a9.trans (k 4 (by decide)).symm, a10, (k 9 (by decide)).trans a11, fun r hr => ?_, NC_mv hj (by omega) a13⟩
    rw [show 10 * e + 5 + r = 10 * e + (5 + r) by omega, k (5 + r) (by omega), show 10 * e + (5 + r) = 10 * e + 5 + r by omega]
    exact a12 r hr
theorem LtW_mv {f J J' : Mem} {e P n Rn : Nat} (he : e < 400) (hP : P ≤ 24) (hj : Js J J') (hw : LtW f J e P n Rn) : LtW f J' e P n Rn := by
  have e77 : J' 77 (10 * e + 1) = J 77 (10 * e + 1) := hj 77 _ (by decide) (by decide) (by show 10 * e + 1 < 4000; omega)
  have k : ∀ a x, szA a = 24 → 46 ≤ a → a ≤ 79 → x < 24 → J' a x = J a x := fun a x b1 b2 b3 b4 => hj a x b2 b3 (by omega)
  obtain ⟨w1, w2, ⟨N, n1, n2, n3, n4⟩, w4, w5⟩ := hw
  refine ⟨fun p hp => ?_, w2, ⟨N, n1, n2, n3, fun p hp => ?_⟩, fun p hp => ?_, fun p hp => ?_⟩
  · rw [k 78 p rfl (by decide) (by decide) (by omega)]; exact w1 p hp
  · rw [k 79 p rfl (by decide) (by decide) (by omega)]; exact n4 p hp
  · rw [e77]; exact w4 p hp
  · rw [e77, k 60 p rfl (by decide) (by decide) (by omega)]; exact w5 p hp
/-- cells of D, evenings and rules stay -/
def Kq (D : Nat → Prop) (h h' : Hp) : Prop := hT h ≤ hT h' ∧ (∀ a, a < hT h → hK h' a = hK h a ∧ hL h' a = hL h a) ∧ (∀ a i, a < hT h → D a → hI h' a i = hI h a i ∧ hR h' a i = hR h a i) ∧ (∀ n R, LayN h n R → ∀ i, i ≤ 3 → D (n + i)) ∧ ∀ q, LayR h q → ∀ i, i ≤ 7 → D (q + i)
theorem Kp.q {h h' : Hp} (hk : Kp h h') : Kq (fun a => 90 ≤ a ∨ (4 ≤ a ∧ a ≤ 11)) h h' := ⟨hk.1, hk.2.1, hk.2.2, fun n R hn i hi => Or.inl (by have := hn.1; omega), fun q hq i hi => by have := hq.1; omega⟩
theorem LayR.kq {D : Nat → Prop} {h h' : Hp} (hk : Kq D h h') {q : Nat} (hr : LayR h q) : LayR h' q := LayR_w hr hk.1 hk.2.1 (fun i => (hk.2.2.1 q i (by have := hr.2.1; omega) (hk.2.2.2.2 q hr 0 (by decide))).2)
theorem RC.kq {D : Nat → Prop} {h h' : Hp} (hk : Kq D h h') {q : Nat} (hr : LayR h q) {J : Mem} {Ln : Nat} (hc : RC (hI h) q J Ln) : RC (hI h') q J Ln := RC_c (fun i hi => funext fun j => (hk.2.2.1 (q + i) j (by have := hr.2.1; omega) (hk.2.2.2.2 q hr i hi)).1) hc
theorem LayN.kq {D : Nat → Prop} {h h' : Hp} (hk : Kq D h h') {n R : Nat} (hn : LayN h n R) : LayN h' n R := by
  have hR' : ∀ i, hR h' n i = hR h n i := fun i => (hk.2.2.1 n i (by have := hn.2.1; omega) (hk.2.2.2.1 n R hn 0 (by decide))).2
  obtain ⟨a, b, c0, c1, c2, c3, r1, r2, r3, l1, l2, l3⟩ := hn
  refine ⟨a, Nat.lt_of_lt_of_le b hk.1, ?_, ?_, ?_, ?_, by rw [hR']; exact r1, by rw [hR']; exact r2, by rw [hR']; exact r3, ?_, ?_, ?_⟩
  · rw [(hk.2.1 n (by omega)).1]; exact c0
  · rw [(hk.2.1 (n + 1) (by omega)).1]; exact c1
  · rw [(hk.2.1 (n + 2) (by omega)).1]; exact c2
  · rw [(hk.2.1 (n + 3) (by omega)).1]; exact c3
  · rw [(hk.2.1 (n + 1) (by omega)).2]; exact l1
  · rw [(hk.2.1 (n + 2) (by omega)).2]; exact l2
  · rw [(hk.2.1 (n + 3) (by omega)).2]; exact l3
theorem NC.kq {D : Nat → Prop} {h h' : Hp} (hk : Kq D h h') {J : Mem} : ∀ {e : Nat} {o : Option Nat}, NC h J e o → NC h' J e o
  | 0, _, hn => hn
  | e + 1, _, hn => by
    obtain ⟨n, Rn, a1, a2, a3, a4, a5, a6, a7, a8, a9, a10, a11, a12, a13⟩ := hn
    have at' := a2.2.1
    have hI' : ∀ i, hI h' n i = hI h n i := fun i => (hk.2.2.1 n i (by omega) (hk.2.2.2.1 n Rn a2 0 (by decide))).1
    have hR' : hR h' n 0 = hR h n 0 := (hk.2.2.1 n 0 (by omega) (hk.2.2.2.1 n Rn a2 0 (by decide))).2
    refine ⟨n, Rn, a1, a2.kq hk, a3, by rw [hI']; exact a4, by rw [hI']; exact a5, by rw [hI']; exact a6, by rw [hI']; exact a7, by rw [hI']; exact a8, by rw [hI']; exact a9, by rw [hI']; exact a10, a11, fun r hr => ?_, by rw [hR']; exact NC.kq hk a13⟩
    rw [(hk.2.2.1 (n + 3) r (by omega) (hk.2.2.2.1 n Rn a2 3 (by decide))).1]; exact a12 r hr
/-- THE move: a State at (s, r) of h is one at (s', r') of h' -/
theorem ST.mv {D : Nat → Prop} {h h' : Hp} (hk : Kq D h h') {s r s' r' : Nat} (hl : LayS h' s' r') (e3 : hR h' s' 3 = hR h s 3) (e4 : hR h' s' 4 = hR h s 4) (hf : CpB (hI h) (hI h') r r') {J J' : Mem} (hj : Js J J') {R P H E Ln q np : Nat} (hs : ST h s r J R P H E Ln q np) : ST h' s' r' J' R P H E Ln q np := by
  obtain ⟨a1, a2, a3, a4, a5, a6, a7, a8, a9, a10, a11, a12, a13⟩ := hs
  refine ⟨hl, e3.trans a2, a3.kq hk, RmC_mv hf hj a4, PC_mv hf hj a5, (hf 4 1 (by unfold cpS; omega)).trans a6, HlC_mv hf hj a7, RC_mv hj (a8.kq hk a3), JP_mv a5.1 hj a9, a10, (hj 76 0 (by decide) (by decide) (by decide)).trans a11, by rw [e4]; exact NC_mv hj a10 (a12.kq hk), fun e n Rn z1 z2 z3 => ?_⟩
  rw [e4] at z2
  subst z1
  obtain ⟨n', Rn', d1, d2, _⟩ := a12
  rw [d1] at z2
  cases z2
  have : Rn = Rn' := z3.2.2.2.2.2.2.2.2.2.2.2.symm.trans (d2.kq hk).2.2.2.2.2.2.2.2.2.2.2
  subst this
  refine LtW_mv (by omega) a5.1 hj (LtW_c (fun i hi => funext fun j => (hk.2.2.1 (n + i) j (by have := d2.2.1; omega) (hk.2.2.2.1 n Rn d2 i hi)).1) (a13 e n Rn rfl d1 d2))
theorem LayS.kq {h h' : Hp} (ht : hT h ≤ hT h') (hkl : ∀ a, a < hT h → hK h' a = hK h a ∧ hL h' a = hL h a) {s r : Nat} (hr : ∀ a i, a = s ∨ (r ≤ a ∧ a ≤ r + 17) → ¬ (a = s ∧ (i = 3 ∨ i = 4)) → hR h' a i = hR h a i) (hsr : ¬ (r ≤ s ∧ s ≤ r + 17)) (hl : LayS h s r) : LayS h' s r := by
  obtain ⟨a, b, c, d, e, l⟩ := hl
  have kK : ∀ x, x < hT h → hK h' x = hK h x := fun x hx => (hkl x hx).1
  have kL : ∀ x, x < hT h → hL h' x = hL h x := fun x hx => (hkl x hx).2
  have kR : ∀ x i, r ≤ x → x ≤ r + 17 → hR h' x i = hR h x i := fun x i h1 h2 => hr x i (Or.inr ⟨h1, h2⟩) (fun z => hsr (by omega))
  refine ⟨Nat.lt_of_lt_of_le a ht, Nat.lt_of_lt_of_le b ht, by rw [kK s a]; exact c, ?_, ?_, ?_⟩
  · rw [kK r (by omega), kK (r + 1) (by omega), kK (r + 2) (by omega), kK (r + 3) (by omega), kK (r + 4) (by omega), kK (r + 5) (by omega), kK (r + 6) (by omega), kK (r + 7) (by omega), kK (r + 8) (by omega), kK (r + 9) (by omega), kK (r + 10) (by omega), kK (r + 11) (by omega), kK (r + 12) (by omega), kK (r + 13) (by omega), kK (r + 14) (by omega), kK (r + 15) (by omega), kK (r + 16) (by omega), kK (r + 17) (by omega)]
    exact d
  · rw [hr s 0 (Or.inl rfl) (by omega), hr s 1 (Or.inl rfl) (by omega), hr s 2 (Or.inl rfl) (by omega)]
    simp only [kR r _ (Nat.le_refl _) (Nat.le_add_right _ _), kR (r + 4) _ (by omega) (by omega), kR (r + 13) _ (by omega) (by omega)]
    exact e
  · rw [kL (r + 1) (by omega), kL (r + 2) (by omega), kL (r + 3) (by omega), kL (r + 5) (by omega), kL (r + 6) (by omega), kL (r + 7) (by omega), kL (r + 8) (by omega), kL (r + 9) (by omega), kL (r + 10) (by omega), kL (r + 11) (by omega), kL (r + 12) (by omega), kL (r + 14) (by omega), kL (r + 15) (by omega), kL (r + 16) (by omega), kL (r + 17) (by omega)]
    exact l
