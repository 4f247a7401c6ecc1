/-! ===== the coupling as a whole ===== -/
def sl (I : Mem) (s : Nat) : Mem := fun a i => I a (szA a * s + i)
theorem sl_0 (I : Mem) : sl I 0 = I := by
  funext a i
  show I a (szA a * 0 + i) = I a i
  rw [Nat.mul_zero, Nat.zero_add]
/-- old cells of images, evenings and rules stay -/
def Kp (h h' : Hp) : Prop := hT h ≤ hT h' ∧ (∀ a, a < hT h → hK h' a = hK h a ∧ hL h' a = hL h a) ∧ ∀ a i, a < hT h → (90 ≤ a ∨ (4 ≤ a ∧ a ≤ 11)) → hI h' a i = hI h a i ∧ hR h' a i = hR h a i
theorem Kp.rf (h : Hp) : Kp h h := ⟨Nat.le_refl _, fun _ _ => ⟨rfl, rfl⟩, fun _ _ _ _ => ⟨rfl, rfl⟩⟩
theorem Kp.tr {h h1 h2 : Hp} (a : Kp h h1) (b : Kp h1 h2) : Kp h h2 := ⟨Nat.le_trans a.1 b.1, fun x hx => by
  have hx1 : x < hT h1 := Nat.lt_of_lt_of_le hx a.1
  exact ⟨(b.2.1 x hx1).1.trans (a.2.1 x hx).1, (b.2.1 x hx1).2.trans (a.2.1 x hx).2⟩, fun x i hx hs => by
  have hx1 : x < hT h1 := Nat.lt_of_lt_of_le hx a.1
  exact ⟨(b.2.2 x i hx1 hs).1.trans (a.2.2 x i hx hs).1, (b.2.2 x i hx1 hs).2.trans (a.2.2 x i hx hs).2⟩⟩
theorem LayR.kp {h h' : Hp} (hk : Kp h h') {q : Nat} (hr : LayR h q) : LayR h' q := LayR_w hr hk.1 hk.2.1 (fun i => (hk.2.2 q i (by have := hr.2.1; omega) (by have := hr.1; omega)).2)
theorem RC.kp {h h' : Hp} (hk : Kp h h') {q : Nat} (hr : LayR h q) {J : Mem} {Ln : Nat} (hc : RC (hI h) q J Ln) : RC (hI h') q J Ln := RC_c (fun i hi => funext fun j => (hk.2.2 (q + i) j (by have := hr.2.1; omega) (by have := hr.1; omega)).1) hc
theorem LayN.kp {h h' : Hp} (hk : Kp h h') {n R : Nat} (hn : LayN h n R) : LayN h' n R := by
  obtain ⟨a, b, c0, c1, c2, c3, r1, r2, r3, l1, l2, l3⟩ := hn
  have hR' : ∀ i, hR h' n i = hR h n i := fun i => (hk.2.2 n i (by omega) (Or.inl a)).2
  refine ⟨a, Nat.lt_of_lt_of_le b hk.1, ?_, ?_, ?_, ?_, by rw [hR']; exact r1, by rw [hR']; exact r2, by rw [hR']; exact r3, ?_, ?_, ?_⟩
  · rw [(hk.2.1 n (by omega)).1]; exact c0
  · rw [(hk.2.1 (n + 1) (by omega)).1]; exact c1
  · rw [(hk.2.1 (n + 2) (by omega)).1]; exact c2
  · rw [(hk.2.1 (n + 3) (by omega)).1]; exact c3
  · rw [(hk.2.1 (n + 1) (by omega)).2]; exact l1
  · rw [(hk.2.1 (n + 2) (by omega)).2]; exact l2
  · rw [(hk.2.1 (n + 3) (by omega)).2]; exact l3
theorem LayN.un {h h' : Hp} (hk : Kp h h') {n R R2 : Nat} (hn : LayN h n R) (hn2 : LayN h' n R2) : R2 = R := by
  have := hn.kp hk
  exact hn2.2.2.2.2.2.2.2.2.2.2.2.symm.trans this.2.2.2.2.2.2.2.2.2.2.2
theorem NC.kp {h h' : Hp} (hk : Kp h h') {J : Mem} : ∀ {e : Nat} {o : Option Nat}, NC h J e o → NC h' J e o
  | 0, _, hn => hn
  | e + 1, _, hn => by
    obtain ⟨n, Rn, a1, a2, a3, a4, a5, a6, a7, a8, a9, a10, a11, a12, a13⟩ := hn
    have a90 := a2.1
    have at' := a2.2.1
    have hI' : ∀ i, hI h' n i = hI h n i := fun i => (hk.2.2 n i (by omega) (Or.inl a90)).1
    have hR' : hR h' n 0 = hR h n 0 := (hk.2.2 n 0 (by omega) (Or.inl a90)).2
    refine ⟨n, Rn, a1, a2.kp hk, a3, by rw [hI']; exact a4, by rw [hI']; exact a5, by rw [hI']; exact a6, by rw [hI']; exact a7, by rw [hI']; exact a8, by rw [hI']; exact a9, by rw [hI']; exact a10, a11, fun r hr => ?_, by rw [hR']; exact NC.kp hk a13⟩
    rw [(hk.2.2 (n + 3) r (by omega) (Or.inl (by omega))).1]; exact a12 r hr
theorem LtW_c {f g J : Mem} {e P n Rn : Nat} (h : ∀ i, i ≤ 3 → g (n + i) = f (n + i)) (hw : LtW f J e P n Rn) : LtW g J e P n Rn := by
  unfold LtW at hw ⊢
  have h0 : g n = f n := h 0 (by decide)
  rw [h0, h 1 (by decide), h 2 (by decide), h 3 (by decide)]
  exact hw
theorem LtW.kp {h h' : Hp} (hk : Kp h h') {J : Mem} {e P n Rn : Nat} (hn : LayN h n Rn) (hw : LtW (hI h) J e P n Rn) : LtW (hI h') J e P n Rn := LtW_c (fun i hi => funext fun j => (hk.2.2 (n + i) j (by have := hn.2.1; omega) (Or.inl (by have := hn.1; omega))).1) hw
theorem LayS.kp {h h' : Hp} (hk : Kp h h') {s r : Nat} (hs : 90 ≤ s) (hr : 90 ≤ r) (hl : LayS h s r) : LayS h' s r := by
  obtain ⟨a, b, c, d, e, l⟩ := hl
  have kK : ∀ x, x < hT h → hK h' x = hK h x := fun x hx => (hk.2.1 x hx).1
  have kL : ∀ x, x < hT h → hL h' x = hL h x := fun x hx => (hk.2.1 x hx).2
  have kR : ∀ x i, x < hT h → 90 ≤ x → hR h' x i = hR h x i := fun x i hx h9 => (hk.2.2 x i hx (Or.inl h9)).2
  refine ⟨Nat.lt_of_lt_of_le a hk.1, Nat.lt_of_lt_of_le b hk.1, by rw [kK s a]; exact c, ?_, ?_, ?_⟩
  · rw [kK r (by omega), kK (r + 1) (by omega), kK (r + 2) (by omega), kK (r + 3) (by omega), kK (r + 4) (by omega), kK (r + 5) (by omega), kK (r + 6) (by omega), kK (r + 7) (by omega), kK (r + 8) (by omega), kK (r + 9) (by omega), kK (r + 10) (by omega), kK (r + 11) (by omega), kK (r + 12) (by omega), kK (r + 13) (by omega), kK (r + 14) (by omega), kK (r + 15) (by omega), kK (r + 16) (by omega), kK (r + 17) (by omega)]
    exact d
  · simp only [kR s _ a hs, kR r _ (by omega) hr, kR (r + 4) _ (by omega) (by omega), kR (r + 13) _ (by omega) (by omega)]
    exact e
  · rw [kL (r + 1) (by omega), kL (r + 2) (by omega), kL (r + 3) (by omega), kL (r + 5) (by omega), kL (r + 6) (by omega), kL (r + 7) (by omega), kL (r + 8) (by omega), kL (r + 9) (by omega), kL (r + 10) (by omega), kL (r + 11) (by omega), kL (r + 12) (by omega), kL (r + 14) (by omega), kL (r + 15) (by omega), kL (r + 16) (by omega), kL (r + 17) (by omega)]
    exact l
/-- a State that lies behind the fixed cells stays -/
theorem ST.kp {h h' : Hp} (hk : Kp h h') {s r : Nat} (hs9 : 90 ≤ s) (hr9 : 90 ≤ r) {J : Mem} {R P H E Ln q np : Nat} (hs : ST h s r J R P H E Ln q np) : ST h' s r J R P H E Ln q np := by
  obtain ⟨a1, a2, a3, a4, a5, a6, a7, a8, a9, a10, a11, a12, a13⟩ := hs
  have b1 := a1.1
  have b2 := a1.2.1
  have kI : ∀ x i, x < hT h → 90 ≤ x → hI h' x i = hI h x i := fun x i hx h9 => (hk.2.2 x i hx (Or.inl h9)).1
  have kR : ∀ i, hR h' s i = hR h s i := fun i => (hk.2.2 s i b1 (Or.inl hs9)).2
  have kIr : ∀ i, i ≤ 17 → hI h' (r + i) = hI h (r + i) := fun i hi => funext fun j => kI (r + i) j (by omega) (by omega)
  refine ⟨a1.kp hk hs9 hr9, by rw [kR]; exact a2, a3.kp hk, RmC_c (fun i hi => kIr i (by omega)) a4, PC_c (fun i i1 i2 => kIr i (by omega)) a5, by rw [kIr 4 (by decide)]; exact a6, HlC_c (fun i i1 i2 => kIr i (by omega)) a7, a8.kp hk a3, a9, a10, a11, by rw [kR]; exact a12.kp hk, fun e n Rn z1 z2 z3 => ?_⟩
  rw [kR] at z2
  -- the latest evening lies in h, too
  subst z1
  obtain ⟨n', Rn', c1, c2, _⟩ := a12
  rw [c1] at z2
  cases z2
  have := LayN.un hk c2 z3
  subst this
  exact (a13 e n Rn rfl c1 c2).kp hk c2
/-! rows of the reference that alone count -/
theorem RmC_k {f : Mem} {r : Nat} {J I : Mem} {R : Nat} (h : ∀ a, 46 ≤ a → a ≤ 51 → I a = J a) (hr : RmC f r J R) : RmC f r I R := by
  unfold RmC at hr ⊢
  rw [h 46 (by decide) (by decide), h 47 (by decide) (by decide), h 48 (by decide) (by decide), h 49 (by decide) (by decide), h 50 (by decide) (by decide), h 51 (by decide) (by decide)]
  exact hr
theorem PC_k {f : Mem} {r : Nat} {J I : Mem} {P : Nat} (h : ∀ a, 52 ≤ a → a ≤ 63 → I a = J a) (hr : PC f r J P) : PC f r I P := by
  unfold PC at hr ⊢
  rw [h 52 (by decide) (by decide), h 53 (by decide) (by decide), h 54 (by decide) (by decide), h 55 (by decide) (by decide), h 56 (by decide) (by decide), h 57 (by decide) (by decide), h 58 (by decide) (by decide), h 59 (by decide) (by decide), h 60 (by decide) (by decide), h 61 (by decide) (by decide), h 62 (by decide) (by decide), h 63 (by decide) (by decide)]
  exact hr
theorem HlC_k {f : Mem} {r : Nat} {J I : Mem} {H : Nat} (h : ∀ a, 64 ≤ a → a ≤ 68 → I a = J a) (hr : HlC f r J H) : HlC f r I H := by
  unfold HlC at hr ⊢
  rw [h 64 (by decide) (by decide), h 65 (by decide) (by decide), h 66 (by decide) (by decide), h 67 (by decide) (by decide), h 68 (by decide) (by decide)]
  exact hr
theorem RC_k {f : Mem} {q : Nat} {J I : Mem} {Ln : Nat} (h : ∀ a, 69 ≤ a → a ≤ 75 → I a = J a) (hr : RC f q J Ln) : RC f q I Ln := by
  unfold RC tsC at hr ⊢
  rw [h 69 (by decide) (by decide), h 70 (by decide) (by decide), h 71 (by decide) (by decide), h 72 (by decide) (by decide), h 73 (by decide) (by decide), h 74 (by decide) (by decide), h 75 (by decide) (by decide)]
  exact hr
theorem JP_k {J I : Mem} {R P np : Nat} (h7 : I 57 = J 57) (h0 : I 60 = J 60) (h2 : I 62 = J 62) (h3 : I 63 = J 63) (hr : JP J R P np) : JP I R P np := by
  unfold JP slpOk Sy Tg noS at hr ⊢
  rw [h7, h0, h2, h3]
  exact hr
theorem LtW_k {f J I : Mem} {e P n Rn : Nat} (h0 : I 60 = J 60) (h7 : I 77 = J 77) (h8 : I 78 = J 78) (h9 : I 79 = J 79) (hr : LtW f J e P n Rn) : LtW f I e P n Rn := by
  unfold LtW at hr ⊢
  rw [h0, h7, h8, h9]
  exact hr
/-- images -/
def IM (h : Hp) : Prop := (∀ k, k < 3 → (hI h 89 k = 0 ∧ hR h 30 k = none) ∨ (hI h 89 k = 1 ∧ ∃ b, hR h 30 k = some b ∧ 90 ≤ b ∧ ∃ R P H E Ln q np, ST h b (b + 1) (sl (hI h) (k + 1)) R P H E Ln q np)) ∧ ∀ j k b, j < 3 → k < 3 → j ≠ k → hR h 30 j = some b → ¬ hR h 30 k = some b
/-- the reference's rows of the images stay -/
def Ks (h h' : Hp) : Prop := ∀ a i, 46 ≤ a → a ≤ 79 → szA a ≤ i → hI h' a i = hI h a i
theorem sl_ks {h h' : Hp} (hk : Ks h h') {s : Nat} (hs : 1 ≤ s) : ∀ a, 46 ≤ a → a ≤ 79 → sl (hI h') s a = sl (hI h) s a := fun a a1 a2 => funext fun i => hk a _ a1 a2 (by
  have := Nat.mul_le_mul_left (szA a) hs
  omega)
theorem IM.kp {h h' : Hp} (hk : Kp h h') (hs : Ks h h') (h89 : ∀ k, k < 3 → hI h' 89 k = hI h 89 k) (h30 : ∀ k, k < 3 → hR h' 30 k = hR h 30 k) (hi : IM h) : IM h' := by
  refine ⟨fun k hk3 => ?_, fun j k b hj hk3 hjk hb => ?_⟩
  · rw [h89 k hk3, h30 k hk3]
    rcases hi.1 k hk3 with z | ⟨z, b, hb, b9, R, P, H, E, Ln, q, np, hst⟩
    · exact Or.inl z
    · exact Or.inr ⟨z, b, hb, b9, R, P, H, E, Ln, q, np, ST_j (sl_ks hs (by omega)) (hst.kp hk b9 (by omega))⟩
  · rw [h30 j hj] at hb
    rw [h30 k hk3]
    exact hi.2 j k b hj hk3 hjk hb
/-- tape and fault -/
def TF (f : Mem) : Prop := (∃ L, L ≤ 500 ∧ f 1 1 = nI L ∧ f 44 2 = nI L ∧ ∀ k, k < L → f 2 k = f 45 k) ∧ f 0 4 = f 44 43 ∧ f 0 5 = f 44 44
def CP (h : Hp) : Prop := LayX h ∧ LayM h ∧ TF (hI h) ∧ (∃ R P H E Ln q np, ST h 3 12 (hI h) R P H E Ln q np) ∧ IM h
/-- the state now, over a new heap: what must be shown -/
theorem ST.now {h h' : Hp} (hk : Kp h h') (hl : LayX h') (h33 : hR h' 3 3 = hR h 3 3) (h34 : hR h' 3 4 = hR h 3 4) {J J' : Mem} {R P H E Ln q np R' P' H' np' : Nat} (hs : ST h 3 12 J R P H E Ln q np)
    (hrm : RmC (hI h') 12 J' R') (hpc : PC (hI h') 12 J' P') (hnp : hI h' 16 1 = nI np') (hhl : HlC (hI h') 12 J' H') (hjp : JP J' R' P' np') (hr : ∀ a, 69 ≤ a → a ≤ 75 → J' a = J a) (h76 : J' 76 0 = J 76 0) (h77 : J' 77 = J 77) (hlt : ∀ e n Rn, E = e + 1 → LayN h n Rn → LtW (hI h') J e P n Rn → LtW (hI h') J' e P' n Rn) : ST h' 3 12 J' R' P' H' E Ln q np' := by
  obtain ⟨a1, a2, a3, a4, a5, a6, a7, a8, a9, a10, a11, a12, a13⟩ := hs
  refine ⟨hl.s, by rw [h33]; exact a2, a3.kp hk, hrm, hpc, hnp, hhl, RC_k hr (a8.kp hk a3), hjp, a10, h76.trans a11, by rw [h34]; exact NC_j h77 (a12.kp hk), fun e n Rn z1 z2 z3 => ?_⟩
  rw [h34] at z2
  subst z1
  obtain ⟨n', Rn', c1, c2, _⟩ := a12
  rw [c1] at z2
  cases z2
  have := LayN.un hk c2 z3
  subst this
  exact hlt e n Rn rfl c2 ((a13 e n Rn rfl c1 c2).kp hk c2)
