/-! ===== steps: evening ===== -/
/-- behind an evening: what class (h7) and reference (g) left makes a coupling again -/
theorem ev_cp {h h7 : Hp} (hc : CP h) {R P H E Ln q np : Nat} (hs : ST h 3 12 (hI h) R P H E Ln q np) (hE : E < 400) {cold those : Int32} (hcold : cold = 0 ∨ cold = 1) {J I g : Mem} {N w : Nat} {o F : Nat → Nat} {T C : Int32}
    (hx : EvX h h7 J (hT h) R P H E Ln N o T F C w those cold) (hN : N ≤ 10) (ho : ∀ j, j < N → o j < P) (hinj : ∀ i j, i < N → j < N → o i = o j → i = j) (hTP : ∀ i, bt T i = true → i < P) (hFR : ∀ p, p < P → bt T p = true → F p < R)
    (eC : C = evC I R H E T) (ew : w = wnF I T R) (hI7 : ∀ a i, 45 ≤ a → a < 88 ∨ a = 89 → I a i = hI h a i) (hI4 : ∀ i, i ≠ 0 → i ≠ 53 → i ≠ 56 → I 44 i = hI h 44 i) (hIK : I 44 56 = cold) (hI8 : ∀ r, r < R → ∀ x, bt (I 88 r) x = true ↔ bt T x = true ∧ F x = r) (hIo : ∀ a i, a < 44 ∨ 90 ≤ a → I a i = hI h7 a i)
    (g78 : ∀ p, p < P → g 78 p = cif (∃ j, j < N ∧ o j = p) (whyT J R P o N p) (whyF J E Ln those cold p)) (g79 : ∀ j, j < N → g 79 (o j) = nI j) (g79n : ∀ p, p < P → (¬ ∃ j, j < N ∧ o j = p) → g 79 p = -1) (g7P : ∀ p, P ≤ p → g 78 p = hI h 78 p ∧ g 79 p = hI h 79 p)
    (hag : ag g (evD I R P H E T those F)) : CP (wI h7 g) := by
  have hl := hc.1
  have hm := hc.2.1
  have him := hc.2.2.2.2
  have t9 := hl.1
  obtain ⟨n, hn⟩ : ∃ n, n = hT h := ⟨_, rfl⟩
  rw [← hn] at hx t9
  obtain ⟨⟨x1, x2, x3, x4, x5, x6, x7⟩, y1, y2, y3, y4, ⟨z1, z2, z3, z4, z5, z6, z7⟩, v1, v2, v3, v4⟩ := hx
  obtain ⟨a1, a2, a3, a4, a5, a6, a7, a8, a9, a10, a11, a12, a13⟩ := hs
  have hR4 := a4.1
  have hP24 := a5.1
  have hH8 := a7.1
  obtain ⟨cP, cI⟩ := calF_ok I H (E % 7) hH8 (wnF I T R)
  have hCin : ∀ i, bt C i = true → i < H := fun i hi => cI i (by rw [eC] at hi; exact hi)
  have hCle : pct C ≤ w := by rw [eC, ew]; exact cP
  -- the reference's rows
  have gX : ∀ a i, a < 44 ∨ 90 ≤ a → g a i = hI h7 a i := fun a i ha => by
    rw [hag a i (evA_of i (by omega)), evD_o _ _ _ _ _ _ _ _ a i (by omega) (by omega) (by omega) (by omega) (by omega) (by omega) (by omega)]
    exact hIo a i ha
  have gO : ∀ a i, 45 ≤ a → a < 86 ∨ a = 89 → a ≠ 58 → a ≠ 59 → a ≠ 60 → a ≠ 67 → a ≠ 68 → a ≠ 76 → a ≠ 77 → a ≠ 78 → a ≠ 79 → g a i = hI h a i := fun a i a1 a2 n1 n2 n3 n4 n5 n6 n7 n8 n9 => by
    rw [hag a i (evA_of i (by omega)), evD_o _ _ _ _ _ _ _ _ a i n1 n2 n3 n4 n5 n7 n6]
    exact hI7 a i a1 (by omega)
  have g4 : ∀ i, i ≠ 0 → i ≠ 53 → i ≠ 56 → g 44 i = hI h 44 i := fun i i1 i2 i3 => by
    rw [hag 44 i ⟨by decide, by decide, by decide, by decide, fun z => i2 z.2, fun z => absurd z (by decide)⟩, evD_o _ _ _ _ _ _ _ _ 44 i (by omega) (by omega) (by omega) (by omega) (by omega) (by omega) (by omega)]
    exact hI4 i i1 i2 i3
  have gp : ∀ a i, a = 58 ∨ a = 59 ∨ a = 60 → g a i = ppM I T those F P a i := fun a i ha => by
    rw [hag a i (evA_of i (by omega)), evD_p _ _ _ _ _ _ _ _ a i ha]
  have gh : ∀ a i, a = 67 ∨ a = 68 → g a i = hlM I C (E % 7) H a i := fun a i ha => by
    rw [hag a i (evA_of i (by omega)), evD_h _ _ _ _ _ _ _ _ a i ha, eC]
  have g76 : g 76 0 = nI (E + 1) := by rw [hag 76 0 (evA_of 0 (by omega)), evD_76]
  have g76i : ∀ i, i ≠ 0 → g 76 i = hI h 76 i := fun i hi => by rw [hag 76 i (evA_of i (by omega)), evD_76i _ _ _ _ _ _ _ _ i hi]; exact hI7 76 i (by decide) (by decide)
  have g77 : ∀ i, g 77 i = evD I R P H E T those F 77 i := fun i => hag 77 i (evA_of i (by omega))
  have g77o : ∀ i, i < 10 * E ∨ 10 * E + 10 ≤ i → g 77 i = hI h 77 i := fun i hi => by rw [g77, evD_77o _ _ _ _ _ _ _ _ i hi]; exact hI7 77 i (by decide) (by decide)
  obtain ⟨b0, b1, b2, b3, b4, b9⟩ := evD_77f I R P H E T those F
  rw [← g77] at b0 b1 b2 b3 b4 b9
  rw [← eC] at b2 b3
  rw [← ew] at b3
  rw [hIK] at b4
  have b5 : ∀ r, r < R → g 77 (10 * E + 5 + r) = I 88 r := fun r hr => by rw [g77, evD_77r _ _ _ _ _ _ _ _ r (by omega) hr]
  -- the class's rows
  have fO : ∀ a i, a < n → a < 20 ∨ (22 < a ∧ a < 28) ∨ a = 30 ∨ a = 31 ∨ 90 ≤ a → g a i = hI h a i := fun a i ha hd => by
    rw [gX a i (by omega)]; exact y1 a i ha (by omega)
  have hT2 : hT (wI h7 g) = n + 4 := x1
  have gK : ∀ a, a < n → hK (wI h7 g) a = hK h a ∧ hL (wI h7 g) a = hL h a := fun a ha => ⟨(x3 a ha).1, (x3 a ha).2.1⟩
  have gR : ∀ a i, a < n → ¬ (a = 3 ∧ i = 4) → hR (wI h7 g) a i = hR h a i := fun a i ha n3 => x4 a i ha n3
  have kp : Kp h (wI h7 g) := ⟨by rw [hT2, ← hn]; omega, fun a ha => gK a (by omega), fun a i ha hd => ⟨fO a i (by omega) (by omega), gR a i (by omega) (by omega)⟩⟩
  have lX : LayX (wI h7 g) := LayX_of hl (by rw [hT2]; omega) (fun a ha => (gK a (by omega)).1) (fun a ha => (gK a (by omega)).2) (fun a i ha n3 _ => gR a i (by omega) (by omega))
  have lM : LayM (wI h7 g) := LayM_of hm (by rw [hT2]; omega) (fun a _ ha => (gK a (by omega)).1) (fun a _ ha => (gK a (by omega)).2) (fun i => gR 44 i (by omega) (by omega))
  have lN : LayN (wI h7 g) n R := x5
  have ep : ∀ p, p < P → g 20 p = g 58 p ∧ g 21 p = g 59 p ∧ g 22 p = g 60 p := fun p hp => by
    obtain ⟨_, _, _, e8, e9, e0, _⟩ := a5.2.2.2.1 p hp
    obtain ⟨c8, c9, c0⟩ := cd_pp (f := hI h) (I := I) (T := T) (those := those) (F := F) (P := P) (p := p) (e8.trans (hI7 58 p (by decide) (by decide)).symm) (e9.trans (hI7 59 p (by decide) (by decide)).symm) (e0.trans (hI7 60 p (by decide) (by decide)).symm)
    rw [gX 20 p (by omega), gX 21 p (by omega), gX 22 p (by omega), y2 20 p (by omega), y2 21 p (by omega), y2 22 p (by omega), gp 58 p (by omega), gp 59 p (by omega), gp 60 p (by omega)]
    exact ⟨c8, c9, c0⟩
  have e60t : ∀ p, p < P → bt T p = true → g 60 p = nI (F p) := fun p hp hb => by
    rw [gp 60 p (by omega)]
    unfold ppM
    rw [if_neg (by omega), if_neg (by omega), if_neg (by omega), if_pos ⟨rfl, hp, hb⟩]
  have e60f : ∀ p, bt T p = false → g 60 p = hI h 60 p := fun p hb => by
    rw [gp 60 p (by omega)]
    unfold ppM
    rw [if_neg (by omega), if_neg (by omega), if_neg (by omega), if_neg (fun z => by rw [hb] at z; exact absurd z.2.2 (by decide))]
    exact hI7 60 p (by decide) (by decide)
  have eR : ∀ r, r < R → g (n + 3) r = I 88 r := fun r hr => by
    rw [gX _ r (by omega)]
    refine b_ext2 fun x _ => ?_
    rw [v4 r hr x, hI8 r hr x]
  have gI : hI (wI h7 g) = g := rfl
  have hr4 : hR (wI h7 g) 3 4 = some n := x7
  -- evenings
  have hNC : NC (wI h7 g) g (E + 1) (some n) := by
    refine ⟨n, R, rfl, lN, hR4, ?_, ?_, ?_, ?_, ?_, ?_, ?_, b9, fun r hr => ?_, ?_⟩
    · rw [gI, gX n 1 (by omega)]; exact z1
    · rw [gI, gX n 2 (by omega), b0]; exact z2
    · rw [gI, gX n 4 (by omega), b1]; exact z4
    · rw [gI, gX n 5 (by omega), b2]; exact z5
    · rw [gI, gX n 6 (by omega), b3, z6, nI_sub hCle]
    · rw [gI, gX n 3 (by omega), b4]; exact z3
    · rw [gI, gX n 3 (by omega), z3]; exact hcold
    · rw [gI, b5 r hr]; exact eR r hr
    · have e6 : hR (wI h7 g) n 0 = hR h 3 4 := x6
      rw [e6]
      exact NC_lo (fun i hi => g77o i (Or.inl hi)) (a12.kp kp)
  have hLt : LtW g g E P n R := by
    refine ⟨fun p hp => ?_, fun p hp hp4 => ?_, ⟨N, hN, ?_, fun j hj => ⟨o j, ho j hj, ?_⟩, fun p hp => ?_⟩, fun p hp => ⟨?_, fun r hr => ?_⟩, fun p hp => ⟨fun hb => ?_, fun hb r hr => ?_⟩⟩
    · rw [gX _ p (by omega), v2 p hp, g78 p hp]
    · rw [gX _ p (by omega)]; exact v3 p hp hp4
    · rw [gX n 8 (by omega)]; exact z7
    · rw [gX _ j (by omega)]; exact v1 j hj
    · by_cases c : ∃ j, j < N ∧ o j = p
      · obtain ⟨j, hj, e⟩ := c
        refine Or.inl ⟨j, hj, ?_, fun i hi => ?_, ?_⟩
        · rw [gX _ j (by omega), v1 j hj, e]
        · rw [gX _ i (by omega), v1 i (by omega)]
          intro w1
          have := ho i (by omega)
          have e2 : o i = p := (nI_eq (by omega) (by omega)).mp w1
          have := hinj i j (by omega) hj (by rw [e2, e])
          omega
        · rw [← e]; exact g79 j hj
      · refine Or.inr ⟨fun j hj w1 => ?_, g79n p hp c⟩
        rw [gX _ j (by omega), v1 j hj] at w1
        have := ho j hj
        exact c ⟨j, hj, (nI_eq (by omega) (by omega)).mp w1⟩
    · rw [b1]
      cases hb : bt T p with
      | false => rfl
      | true => have := hTP p hb; omega
    · rw [eR r hr]
      cases hb : bt (I 88 r) p with
      | false => rfl
      | true =>
        have := hTP p ((hI8 r hr p).mp hb).1
        omega
    · rw [b1] at hb
      have hF := hFR p hp hb
      refine ⟨F p, hF, e60t p hp hb, ?_, fun j hj => ?_⟩
      · rw [eR _ hF]; exact (hI8 _ hF p).mpr ⟨hb, rfl⟩
      · rw [eR _ (by omega)]
        cases hb2 : bt (I 88 j) p with
        | false => rfl
        | true =>
          have := ((hI8 j (by omega) p).mp hb2).2
          omega
    · rw [b1] at hb
      rw [eR r hr]
      cases hb2 : bt (I 88 r) p with
      | false => rfl
      | true =>
        have := ((hI8 r hr p).mp hb2).1
        rw [hb] at this
        cases this
  -- rooms, people, helpers
  have hRm : RmC g 12 g R := RmC_k (fun a b1 b2 => funext fun i => gO a i (by omega) (by omega) (by omega) (by omega) (by omega) (by omega) (by omega) (by omega) (by omega) (by omega) (by omega)) (RmC_c (fun i hi => funext fun j => fO (12 + i) j (by omega) (by omega)) a4)
  have f16 : ∀ i, g 16 i = hI h 16 i := fun i => fO 16 i (by omega) (by omega)
  have hPc : PC g 12 g P := by
    obtain ⟨_, p2, p3, p4, p5, p6⟩ := a5
    have row : ∀ a i, 52 ≤ a → a ≤ 63 → a ≠ 58 → a ≠ 59 → a ≠ 60 → g a i = hI h a i := fun a i n1 n2 n3 n4 n5 => gO a i (by omega) (by omega) n3 n4 n5 (by omega) (by omega) (by omega) (by omega) (by omega) (by omega)
    refine ⟨hP24, (f16 0).trans p2, (row 52 0 (by decide) (by decide) (by decide) (by decide) (by decide)).trans p3, fun p hp => ?_, fun p hp => ?_, fun p hp hp4 => ?_⟩
    · obtain ⟨q1, q2, q3, _, _, _, q7, q8, q9, q10, q11⟩ := p4 p hp
      obtain ⟨e8, e9, e0⟩ := ep p hp
      refine ⟨?_, ?_, ?_, e8, e9, e0, ?_, ?_, ?_, ?_, ?_⟩
      · rw [row 53 p (by decide) (by decide) (by decide) (by decide) (by decide)]; exact (fO 17 p (by omega) (by omega)).trans q1
      · rw [row 54 p (by decide) (by decide) (by decide) (by decide) (by decide)]; exact (fO 18 p (by omega) (by omega)).trans q2
      · rw [row 57 p (by decide) (by decide) (by decide) (by decide) (by decide)]; exact (fO 19 p (by omega) (by omega)).trans q3
      · rw [row 62 p (by decide) (by decide) (by decide) (by decide) (by decide)]; exact (fO 23 p (by omega) (by omega)).trans q7
      · rw [row 63 p (by decide) (by decide) (by decide) (by decide) (by decide)]; exact (fO 24 p (by omega) (by omega)).trans q8
      · rw [row 55 p (by decide) (by decide) (by decide) (by decide) (by decide), f16]; exact q9
      · rw [row 56 p (by decide) (by decide) (by decide) (by decide) (by decide), f16]; exact q10
      · rw [row 61 p (by decide) (by decide) (by decide) (by decide) (by decide), f16]; exact q11
    · rw [f16, f16, f16]; exact p5 p hp
    · obtain ⟨q1, q2, q3, q4, q5, q6, q7⟩ := p6 p hp hp4
      have cd : ∀ a, a = 20 ∨ a = 21 → g a p = hI h a p := fun a ha => by
        rw [gX a p (by omega), y2 a p (by omega)]
        unfold cdM
        rw [if_neg (by omega), if_neg (by omega), if_neg (by omega), if_neg (by omega)]
      refine ⟨(fO 19 p (by omega) (by omega)).trans q1, (cd 20 (by omega)).trans q2, (cd 21 (by omega)).trans q3, (fO 23 p (by omega) (by omega)).trans q4, (fO 24 p (by omega) (by omega)).trans q5, ?_, ?_⟩
      · rw [row 62 p (by decide) (by decide) (by decide) (by decide) (by decide)]; exact q6
      · rw [row 63 p (by decide) (by decide) (by decide) (by decide) (by decide)]; exact q7
  have hHl : HlC g 12 g H := by
    obtain ⟨_, p2, p3, p4, p5⟩ := a7
    have r6 : ∀ a i, 64 ≤ a → a ≤ 66 → g a i = hI h a i := fun a i n1 n2 => gO a i (by omega) (by omega) (by omega) (by omega) (by omega) (by omega) (by omega) (by omega) (by omega) (by omega) (by omega)
    have e28 : ∀ i, g 28 i = hI h 28 i + b2i (bt C i = true) := fun i => by rw [gX 28 i (by omega)]; exact y3 i
    have e29 : ∀ i, i < 8 → g 29 i = if (E + 1) % 7 = 0 then 0 else hI h 29 i + b2i (bt C i = true) := fun i hi => by rw [gX 29 i (by omega)]; exact y4 i hi
    refine ⟨hH8, (fO 25 0 (by omega) (by omega)).trans p2, (r6 64 0 (by decide) (by decide)).trans p3, fun x hx => ?_, fun x hx hx8 => ?_⟩
    · obtain ⟨q1, q2, q3, q4, a, b, ha, hb, qa, qb⟩ := p4 x hx
      have e67 : g 67 x = hI h 67 x + b2i (bt C x = true) := by
        rw [gh 67 x (by omega)]
        unfold hlM
        rw [if_pos ⟨rfl, hx⟩, hI7 67 x (by decide) (by decide)]
      have e68 : g 68 x = if (E + 1) % 7 = 0 then 0 else hI h 68 x + b2i (bt C x = true) := by
        rw [gh 68 x (by omega)]
        unfold hlM
        rw [if_neg (by omega), if_pos ⟨rfl, hx⟩, hI7 68 x (by decide) (by decide)]
        by_cases c : E % 7 = 6
        · rw [if_pos c, if_pos (by omega)]
        · rw [if_neg c, if_neg (by omega)]
      refine ⟨?_, ?_, ?_, ?_, ?_⟩
      · rw [r6 65 x (by decide) (by decide)]; exact (fO 26 x (by omega) (by omega)).trans q1
      · rw [r6 66 x (by decide) (by decide)]; exact (fO 27 x (by omega) (by omega)).trans q2
      · show g 28 x = g 67 x
        rw [e28, e67]
        have q3' : hI h 28 x = hI h 67 x := q3
        rw [q3']
      · show g 29 x = g 68 x
        rw [e29 x (by omega), e68]
        have q4' : hI h 29 x = hI h 68 x := q4
        rw [q4']
      · have hlt : bt C x = true → b < a := fun hb1 => by
          rw [eC] at hb1
          have := calF_can I H (E % 7) hH8 _ x hb1
          rw [hI7 68 x (by decide) (by decide), hI7 66 x (by decide) (by decide), qa, qb] at this
          exact (nI_ltI (by omega) (by omega)).mp this
        rw [r6 66 x (by decide) (by decide), e68]
        by_cases c : (E + 1) % 7 = 0
        · rw [if_pos c]; exact ⟨a, 0, ha, Nat.zero_le _, qa, rfl⟩
        · rw [if_neg c, qb]
          cases hb1 : bt C x with
          | true =>
            have := hlt hb1
            refine ⟨a, b + 1, ha, by omega, qa, ?_⟩
            rw [b2i_t rfl, nI_1]
          | false => exact ⟨a, b, ha, hb, qa, by rw [b2i_f (by decide), Int32.add_zero]⟩
    · have hb : bt C x = false := by
        cases hb1 : bt C x with
        | false => rfl
        | true => have := hCin x hb1; omega
      obtain ⟨q1, q2⟩ := p5 x hx hx8
      have q1' : hI h 28 x = 0 := q1
      have q2' : hI h 29 x = 0 := q2
      refine ⟨?_, ?_⟩
      · show g 28 x = 0
        rw [e28, q1', hb, b2i_f (by decide)]; rfl
      · show g 29 x = 0
        rw [e29 x hx8, q2', hb, b2i_f (by decide)]
        split <;> rfl
  have hRc : RC g q g Ln := RC_k (fun a b1 b2 => funext fun i => gO a i (by omega) (by omega) (by omega) (by omega) (by omega) (by omega) (by omega) (by omega) (by omega) (by omega) (by omega)) (a8.kp kp a3)
  have hJp : JP g R P np := by
    have r57 : g 57 = hI h 57 := funext fun i => gO 57 i (by omega) (by omega) (by omega) (by omega) (by omega) (by omega) (by omega) (by omega) (by omega) (by omega) (by omega)
    have r62 : g 62 = hI h 62 := funext fun i => gO 62 i (by omega) (by omega) (by omega) (by omega) (by omega) (by omega) (by omega) (by omega) (by omega) (by omega) (by omega)
    have r63 : g 63 = hI h 63 := funext fun i => gO 63 i (by omega) (by omega) (by omega) (by omega) (by omega) (by omega) (by omega) (by omega) (by omega) (by omega) (by omega)
    obtain ⟨j1, j2, j3, j4, j5, j6, j7, j8, j9⟩ := a9
    unfold JP Sy Tg noS at *
    rw [r57, r62, r63]
    refine ⟨j1, fun p hp => ?_, j3, j4, j5, j6, j7, j8, j9⟩
    unfold slpOk
    cases hb : bt T p with
    | true => rw [e60t p hp hb]; exact Or.inr ⟨F p, hFR p hp hb, rfl⟩
    | false => rw [e60f p hb]; exact j2 p hp
  have hks : Ks h (wI h7 g) := fun a i a1 a2 a3 => by
    show g a i = hI h a i
    by_cases c1' : a = 58 ∨ a = 59 ∨ a = 60
    · have hs24 : szA a = 24 := by rcases c1' with rfl | rfl | rfl <;> rfl
      rw [gp a i c1', ppM_hi _ _ _ _ _ _ _ (by omega)]
      exact hI7 a i (by omega) (by omega)
    · by_cases c2 : a = 67 ∨ a = 68
      · have hs8 : szA a = 8 := by rcases c2 with rfl | rfl <;> rfl
        rw [gh a i c2]
        have : hlM I C (E % 7) H a i = I a i := by
          rcases c2 with rfl | rfl
          · exact hlM_67 _ _ _ _ _ (by omega)
          · exact hlM_68 _ _ _ _ _ (by omega)
        rw [this]
        exact hI7 a i (by omega) (by omega)
      · by_cases c3 : a = 76
        · subst c3
          have : szA 76 = 1 := rfl
          exact g76i i (by omega)
        · by_cases c4 : a = 77
          · subst c4
            have : szA 77 = 4000 := rfl
            exact g77o i (Or.inr (by omega))
          · by_cases c5 : a = 78
            · subst c5
              have : szA 78 = 24 := rfl
              exact (g7P i (by omega)).1
            · by_cases c6 : a = 79
              · subst c6
                have : szA 79 = 24 := rfl
                exact (g7P i (by omega)).2
              · exact gO a i (by omega) (by omega) (by omega) (by omega) (by omega) (by omega) (by omega) c3 c4 c5 c6
  obtain ⟨⟨L, hL5, l1, l2, l3⟩, l4, l5⟩ := hc.2.2.1
  have f0 : ∀ a i, a < 3 → g a i = hI h a i := fun a i ha => fO a i (by omega) (by omega)
  refine ⟨lX, lM, ⟨⟨L, hL5, (f0 1 1 (by decide)).trans l1, (g4 2 (by decide) (by decide) (by decide)).trans l2, fun k hk => ?_⟩, ?_, ?_⟩, ⟨R, P, H, E + 1, Ln, q, np, lX.s, ?_, a3.kp kp, hRm, hPc, (f16 1).trans a6, hHl, hRc, hJp, by omega, g76, ?_, fun e n' Rn w1 w2 w3 => ?_⟩, him.kp kp hks (fun i _ => gO 89 i (by omega) (by omega) (by omega) (by omega) (by omega) (by omega) (by omega) (by omega) (by omega) (by omega) (by omega)) (fun i _ => gR 30 i (by omega) (by omega))⟩
  · show g 2 k = g 45 k
    rw [f0 2 k (by decide), gO 45 k (by omega) (by omega) (by omega) (by omega) (by omega) (by omega) (by omega) (by omega) (by omega) (by omega) (by omega)]
    exact l3 k hk
  · show g 0 4 = g 44 43
    rw [f0 0 4 (by decide), g4 43 (by decide) (by decide) (by decide)]; exact l4
  · show g 0 5 = g 44 44
    rw [f0 0 5 (by decide), g4 44 (by decide) (by decide) (by decide)]; exact l5
  · exact (gR 3 3 (by omega) (by omega)).trans a2
  · rw [hr4]; exact hNC
  · rw [hr4] at w2
    cases w2
    have e1 : e = E := by omega
    subst e1
    have e2 : Rn = R := w3.2.2.2.2.2.2.2.2.2.2.2.symm.trans lN.2.2.2.2.2.2.2.2.2.2.2
    subst e2
    exact hLt
theorem st_evening {h : Hp} (hc : CP h) (door cold : Int32) (hcold : cold = 0 ∨ cold = 1) : SOK 23 MX11_evening 23 MX12_evening [.int door, .int cold] h := by
  have hl := hc.1
  have hm := hc.2.1
  have t9 := hl.1
  obtain ⟨R, P, H, E, Ln, q, np, hs⟩ := hc.2.2.2.1
  obtain ⟨J, eJ⟩ : ∃ J : Mem, J = evJ (hI h) cold := ⟨_, rfl⟩
  have rJ : ∀ a, a ≠ 44 → J a = hI h a := fun a ha => by rw [eJ]; exact evJ_r _ _ ha
  have hsJ : ST h 3 12 J R P H E Ln q np := ST_j (fun a a1 a2 => rJ a (by omega)) hs
  have hJ6 : J 44 56 = cold := by rw [eJ]; exact evJ_K _ _
  have hev := hs.ev
  obtain ⟨those, hth⟩ : ∃ t, t = door &&& (bitI P - 1) := ⟨_, rfl⟩
  by_cases c : 10 < pct those ∨ E = 400
  · refine rd (-1) hc (fun Q hq => ok_X11_evening _ _ _ ⟨rfl, hl, hcold, J, R, P, H, E, Ln, q, np, hsJ, hJ6, fun _ => hq, fun w1 w2 => ?_⟩) (fun Q hq => ok_X12_evening _ _ _ ⟨rfl, hm, R, P, H, E, Ln, hev, fun _ => hq, fun w1 w2 => ?_⟩)
    · rw [← hth] at w1; omega
    · rw [← hth] at w1; omega
  · refine ok_X11_evening _ _ _ ⟨rfl, hl, hcold, J, R, P, H, E, Ln, q, np, hsJ, hJ6, fun z => absurd (by rw [hth]; exact z) c, fun w1 w2 h7 N o T F w eN eo eT eF ew hx => ?_⟩
    rw [← hth] at w1 eN eo hx
    have hR4 := hev.1
    have hP := hev.2.1
    have jtg := hsJ.2.2.2.2.2.2.2.2.1.2.2.2.1
    have x1 := hx.1.1
    have x3 := hx.1.2.2.1
    have x4 := hx.1.2.2.2.1
    have y1 := hx.2.1
    have r7 : ∀ a, 43 < a → a < 90 → hI h7 a = hI h a := fun a ha1 ha2 => funext fun i => y1 a i (by omega) (by omega)
    have lM7 : LayM h7 := LayM_of hm (by omega) (fun a _ ha => (x3 a (by omega)).1) (fun a _ ha => (x3 a (by omega)).2.1) (fun i => x4 44 i (by omega) (by omega))
    have hok : ∀ p, p < N → o p < P := fun j hj => by
      rw [eN] at hj
      rw [eo]
      exact ((ordS_ok J E Ln those cold P).2 j hj).1
    have hinj : ∀ i j, i < N → j < N → o i = o j → i = j := by
      have := ordS_inj J E Ln those cold P
      rw [← eN, ← eo] at this; exact this
    have hN10 : N ≤ 10 := by rw [eN]; exact ordS_10 w1 (by omega)
    have hTP : ∀ i, bt T i = true → i < P := fun i hi => by
      rw [eT] at hi
      exact tkS_P hP jtg hok N (Nat.le_refl _) i hi
    have hfit : Fit (rmI J 4 0) R T := by rw [eT]; exact tkS_fit J hR4 P (amS o N) o N
    have hFR : ∀ p, p < P → bt T p = true → F p < R := fun p hp hb => by
      obtain ⟨f, hO, hf⟩ := plF_ext hR4 hfit P
      rw [eF]
      show plF (rmI J 4 0) R T P p < R
      rw [← hf p hp hb]
      exact (hO.1 p hb).1
    refine ⟨_, rfl, (lm_k lM7).1, ok_X12_evening _ _ _ ⟨rfl, lM7, R, P, H, E, Ln, EvOk_c (fun a a1 a2 => r7 a (by omega) a2) hev, fun z => absurd (by rw [hth]; exact z) c, fun _ _ K n' o' J7 eK eJ7 en' eo' g hg => ?_⟩⟩
    have eK' : K = cold := by
      rw [eK]
      rcases hcold with z | z
      · rw [z, if_pos rfl]
      · rw [z, if_neg (by decide)]
    subst eK'
    have r7J : ∀ a, a ≠ 44 → 43 < a → a < 90 → J7 a = J a := fun a a0 a1 a2 => by rw [eJ7, evJ_r _ _ a0, rJ a a0, r7 a a1 a2]
    have hJ76 : J7 44 56 = J 44 56 := by rw [eJ7, evJ_K, hJ6]
    have hsp : sameP J7 J := fun a a1 a2 => r7J a (by omega) (by omega) (by omega)
    have hsk : sameK J7 J := ⟨fun a a1 a2 _ => r7J a (by omega) (by omega) (by omega), hJ76⟩
    rw [← hth, ordS_congr hsp, ← eN] at en'
    rw [← hth, ordS_congr hsp, ← eo] at eo'
    subst en'
    subst eo'
    have eT7 : evT J7 R P n' o' = T := by rw [eT]; exact tkS_k hsk hR4 P _ o' n'
    have eF7 : evF J7 R P T = F := by
      rw [eF]
      exact plF_k (rmI_same hsk.m hsk.2 4 0) (by funext i; rw [rmI_o J7 (by decide), rmI_o J (by decide), r7J 60 (by decide) (by decide) (by decide)]) hR4 T P
    obtain ⟨g1, g2, g3, g4, g5⟩ := hg
    rw [eT7, eF7] at g5
    rw [← hth] at g1 g5
    have hIo : ∀ a i, a ≠ 88 → evR J7 T F P a i = J7 a i := fun a i ha => by
      unfold evR
      rw [plM_o _ _ _ ha, rmI_o J7 ha]
    have hbt : ∀ M : Mem, ∀ r, r < R → ∀ x, bt (evR M T F P 88 r) x = true ↔ bt T x = true ∧ F x = r := fun M r hr x => by
      unfold evR
      rw [bt_plM _ _ _ _ P (by omega), rmI_0 M (by omega), b_0]
      simp only [Bool.false_or, Bool.and_eq_true, decide_eq_true_eq]
      exact ⟨fun z => z.2, fun z => ⟨hTP x z.1, z⟩⟩
    have ew7 : w = wnF (evR J7 T F P) T R := by
      rw [ew]
      exact wnF_c T R (fun r hr => b_ext2 fun x _ => by rw [hbt J r hr x, hbt J7 r hr x])
    have eC7 : calF J H (E % 7) w = evC (evR J7 T F P) R H E T := by
      unfold evC
      rw [← ew7]
      exact calF_c (fun a a1 a2 => funext fun i => by rw [hIo a i (by omega), r7J a (by omega) (by omega) (by omega)]) H (E % 7) w
    refine ⟨by rw [eT7], ?_, ?_, ?_⟩
    · refine ev_cp (I := evR J7 T F P) hc hs w2 hcold hx hN10 hok hinj hTP hFR eC7 ew7 (fun a i a1 a2 => ?_) (fun i i1 i2 i3 => ?_) ?_ (hbt J7) (fun a i ha => ?_) (fun p hp => ?_) g2 g3 (fun p hp => ?_) g5
      · rw [hIo a i (by omega), r7J a (by omega) (by omega) (by omega), rJ a (by omega)]
      · rw [hIo 44 i (by decide), eJ7]
        unfold evJ
        rw [u2_ne (fun z => i3 z.2), u2_ne (fun z => i1 z.2), r7 44 (by decide) (by decide)]
      · rw [hIo 44 56 (by decide), hJ76, hJ6]
      · rw [hIo a i (by omega), eJ7, evJ_o _ _ (by omega)]
      · rw [g1 p hp, whyT_k hsk hR4, whyF_congr hsp]
      · obtain ⟨q1, q2⟩ := g4 p hp
        rw [q1, q2, r7J 78 (by decide) (by decide) (by decide), r7J 79 (by decide) (by decide) (by decide), rJ 78 (by decide), rJ 79 (by decide)]
        exact ⟨rfl, rfl⟩
    · show hT h7 ≤ _
      rw [x1]; omega
    · show hS h7 ≤ _
      rw [hx.1.2.1]; omega
