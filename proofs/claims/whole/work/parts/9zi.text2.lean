/-! ===== steps: text ===== -/
/-- behind a text: what class and reference left makes a coupling again -/
theorem tx_cp {h h7 h2 : Hp} (hc : CP h) {L : Nat} (hL5 : L ≤ 500) {fa pl : Int32} (ht : TxF h h7 L fa pl) (k1 : hK h2 = hK h7) (k2 : hL h2 = hL h7) (k3 : hR h2 = hR h7) (k4 : hT h2 = hT h7) (iO : ∀ a i, ¬ (a = 44) → ¬ (69 ≤ a ∧ a ≤ 75) → ¬ (80 ≤ a ∧ a ≤ 85) → hI h2 a i = hI h7 a i) (iS : ∀ a i, 69 ≤ a → a ≤ 75 → szA a ≤ i → hI h2 a i = hI h7 a i) (i2 : hI h2 44 2 = 0) (i43 : hI h2 44 43 = fa) (i44 : hI h2 44 44 = pl)
    (hst : (hR h7 3 3 = hR h 3 3 ∧ ∀ a i, 69 ≤ a → a ≤ 75 → hI h2 a i = hI h7 a i) ∨ ∃ k, hR h7 3 3 = some (hT h + 5) ∧ LayR h7 (hT h + 5) ∧ RC (hI h2) (hT h + 5) (hI h2) k) : CP h2 := by
  have hl := hc.1
  have hm := hc.2.1
  have him := hc.2.2.2.2
  have t9 := hl.1
  obtain ⟨x1, x2, x3, x4, x5, x6, x7, x8⟩ := ht
  obtain ⟨R, P, H, E, Ln, q, np, hs⟩ := hc.2.2.2.1
  have gI : ∀ a i, a < hT h → ¬ (a = 44) → ¬ (69 ≤ a ∧ a ≤ 75) → ¬ (80 ≤ a ∧ a ≤ 85) → 2 ≤ a → hI h2 a i = hI h a i := fun a i ha n1 n2 n3 n4 => (iO a i n1 n2 n3).trans (x5 a i ha (by omega) (by omega) (by omega))
  have gR : ∀ a i, a < hT h → ¬ (a = 3 ∧ i = 3) → hR h2 a i = hR h a i := fun a i ha n => by rw [k3]; exact x4 a i ha n
  have gK : ∀ a, a < hT h → hK h2 a = hK h a ∧ hL h2 a = hL h a := fun a ha => by rw [k1, k2]; exact ⟨(x3 a ha).1, (x3 a ha).2.1⟩
  have kp : Kp h h2 := ⟨by rw [k4, x1]; omega, gK, fun a i ha hd => ⟨gI a i ha (by omega) (by omega) (by omega) (by omega), gR a i ha (by omega)⟩⟩
  have lX : LayX h2 := LayX_of hl (by rw [k4, x1]; omega) (fun a ha => (gK a (by omega)).1) (fun a ha => (gK a (by omega)).2) (fun a i ha n3 _ => gR a i (by omega) (by omega))
  have lM : LayM h2 := LayM_of hm (by rw [k4, x1]; omega) (fun a _ ha => (gK a (by omega)).1) (fun a _ ha => (gK a (by omega)).2) (fun i => gR 44 i (by omega) (by omega))
  have hcb : CpB (hI h) (hI h2) 12 12 := fun o i hcs => by
    have ho : o ≤ 17 := lc_St (lc_Sc hcs)
    exact gI _ _ (by omega) (by omega) (by omega) (by omega) (by omega)
  have e0 : ∀ i, hI h2 0 i = hI h7 0 i := fun i => iO 0 i (by decide) (by omega) (by omega)
  have hks : Ks h h2 := fun a i a1 a2 a3 => by
    by_cases c : 69 ≤ a ∧ a ≤ 75
    · exact (iS a i c.1 c.2 a3).trans (x5 a i (by omega) (by omega) (by omega) (by omega))
    · exact gI a i (by omega) (by omega) c (by omega) (by omega)
  refine ⟨lX, lM, ⟨⟨0, by decide, (iO 1 1 (by decide) (by omega) (by omega)).trans x6, i2, fun k hk => absurd hk (Nat.not_lt_zero _)⟩, ?_, ?_⟩, ?_, him.kp kp hks (fun i _ => gI 89 i (by omega) (by omega) (by omega) (by omega) (by omega)) (fun i _ => gR 30 i (by omega) (by omega))⟩
  · rw [e0, x7, i43]
  · rw [e0, x8, i44]
  · rcases hst with ⟨hr, hrow⟩ | ⟨k, hr, hlr, hrc⟩
    · refine ⟨R, P, H, E, Ln, q, np, ST.mv kp.q lX.s (by rw [k3]; exact hr) (gR 3 4 (by omega) (by omega)) hcb (fun a i a1 a2 a3 => ?_) hs⟩
      by_cases c : 69 ≤ a ∧ a ≤ 75
      · exact (hrow a i c.1 c.2).trans (x5 a i (by omega) (by omega) (by omega) (by omega))
      · exact gI a i (by omega) (by omega) c (by omega) (by omega)
    · refine ⟨R, P, H, E, k, hT h + 5, np, ST.rl kp.q lX.s (gR 3 4 (by omega) (by omega)) hcb (fun a i a1 a2 n a3 => gI a i (by omega) (by omega) n (by omega) (by omega)) (by rw [k3]; exact hr) ?_ hrc hs⟩
      exact LayR_w hlr (by rw [k4]; exact Nat.le_refl _) (fun a _ => ⟨by rw [k1], by rw [k2]⟩) (fun i => by rw [k3])
theorem st_text {h : Hp} (hc : CP h) : SOK 9 MX11_text 4 MX12_text [] h := by
  have hl := hc.1
  have hm := hc.2.1
  have t9 := hl.1
  obtain ⟨⟨L, hL5, l1, l2, l3⟩, _, _⟩ := hc.2.2.1
  obtain ⟨B, eB⟩ : ∃ B : Nat → Int32, B = fun k => hI h 45 k &&& 255 := ⟨_, rfl⟩
  obtain ⟨M, eM⟩ : ∃ M : Mem, M = txM0 (hI h) L := ⟨_, rfl⟩
  have htp : TpC (hI h) B L := ⟨hL5, l1, fun k hk => by rw [eB, l3 k hk]⟩
  have hinv : INV 0 M := by rw [eM]; exact txM0_inv _ _
  have h45 : M 44 45 = -1 := by rw [eM]; unfold txM0; rw [u2_ne (by decide), u2_eq]
  obtain ⟨Rr, eR⟩ : ∃ Rr, Rr = pX B L 501 0 M 0 := ⟨_, rfl⟩
  -- the reference's reading
  have hrd : ∀ h7 fa pl, TxF h h7 L fa pl → txR (hI h7) L = mgR Rr (txM0 (hI h7) L) := by
    intro h7 fa pl ht
    have x5 := ht.2.2.2.2.1
    have e5 : ∀ a i, 2 ≤ a → a < 90 → hI h7 a i = hI h a i := fun a i a1 a2 => x5 a i (by omega) (by omega) (by omega) (by omega)
    have eM2 : txM0 (hI h7) L = mg M (txM0 (hI h7) L) := by
      funext a i
      by_cases w : Wc a i
      · rw [mg_w w, eM]
        have : hI h7 a i = hI h a i := by
          rcases w with w | w
          · exact e5 a i (by omega) (by omega)
          · exact e5 a i (by omega) (by omega)
        unfold txM0 u2
        rw [this]
      · rw [mg_o w]
    have eB2 : (fun k => hI h7 45 k &&& 255) = B := by
      rw [eB]
      funext k
      rw [e5 45 k (by decide) (by decide)]
    unfold txR
    rw [eB2, eR]
    rw [eM2, pX_mg, ← eM2]
  -- what the reference needs
  have lM7 : ∀ h7 fa pl, TxF h h7 L fa pl → LayM h7 := fun h7 fa pl ht => LayM_of hm (by rw [ht.1]; omega) (fun a _ ha => (ht.2.2.1 a (by omega)).1) (fun a _ ha => (ht.2.2.1 a (by omega)).2.1) (fun i => ht.2.2.2.1 44 i (by omega) (by omega))
  have l27 : ∀ h7 fa pl, TxF h h7 L fa pl → hI h7 44 2 = nI L := fun h7 fa pl ht => (ht.2.2.2.2.1 44 2 (by omega) (by omega) (by omega) (by omega)).trans l2
  have fl := pX_inv B L hL5 501 0 M 0 hinv
  rw [← eR] at fl
  -- memory behind the reading, but for the reader's cells
  have oT : ∀ (I : Mem) a i, a ≠ 44 → txM0 I L a i = I a i := fun I a i ha => by
    unfold txM0
    rw [u2_ne (fun z => ha z.1), u2_ne (fun z => ha z.1), u2_ne (fun z => ha z.1), u2_ne (fun z => ha z.1), u2_ne (fun z => ha z.1), u2_ne (fun z => ha z.1), u2_ne (fun z => ha z.1), u2_ne (fun z => ha z.1)]
  have oT2 : ∀ (I : Mem), txM0 I L 44 2 = 0 := fun I => by
    unfold txM0
    rw [u2_ne (by decide), u2_ne (by decide), u2_ne (by decide), u2_ne (by decide), u2_ne (by decide), u2_eq]
  have oW : ∀ (I : Mem) a i, a ≠ 44 → ¬ (80 ≤ a ∧ a ≤ 85) → mg Rr.2.1 (txM0 I L) a i = I a i := fun I a i n1 n2 => by rw [mg_o (fun w => by unfold Wc at w; omega), oT I a i n1]
  have oW2 : ∀ (I : Mem), mg Rr.2.1 (txM0 I L) 44 2 = 0 := fun I => by rw [mg_o (fun w => by unfold Wc at w; omega), oT2]
  have oW4 : ∀ (I : Mem) i, 43 ≤ i → i ≤ 46 → mg Rr.2.1 (txM0 I L) 44 i = Rr.2.1 44 i := fun I i i1 i2 => mg_w (wc44 i i1 i2)
  have oW8 : ∀ (I : Mem) a i, 80 ≤ a → a ≤ 85 → mg Rr.2.1 (txM0 I L) a i = Rr.2.1 a i := fun I a i i1 i2 => mg_w (wc8 a i i1 i2)
  refine ok_X11_text _ _ _ ⟨rfl, hl, L, B, M, hL5, htp, hinv, h45, ?_, ?_, ?_⟩
  · rw [← eR]
    intro r1 h7 ht hr
    have er := hrd h7 _ _ ht
    refine ⟨-1, rfl, (lm_k (lM7 h7 _ _ ht)).1, ok_X12_text _ _ _ ⟨rfl, lM7 h7 _ _ ht, L, hL5, l27 h7 _ _ ht, ?_⟩⟩
    rw [er]
    refine ⟨fun _ f g ha hb => ⟨rfl, ?_, ?_, ?_⟩, fun z => absurd (r1.symm.trans z) (by decide), fun z => absurd (r1.symm.trans z) (by decide)⟩
    · have ha' : ∀ x i, ¬ (x = 44 ∧ (i = 37 ∨ i = 39 ∨ i = 40 ∨ i = 41)) → f x i = mg Rr.2.1 (txM0 (hI h7) L) x i := ha
      obtain ⟨q1, q2⟩ := fl.2 r1
      refine tx_cp (h2 := wIJ h7 f g) hc hL5 ht rfl rfl rfl rfl (fun a i n1 n2 n3 => ?_) (fun a i a1 a2 _ => ?_) ?_ ?_ ?_ (Or.inl ⟨hr, fun a i a1 a2 => ?_⟩)
      · exact (ha' a i (fun z => n1 z.1)).trans (oW _ a i n1 n3)
      · exact (ha' a i (by omega)).trans (oW _ a i (by omega) (by omega))
      · exact (ha' 44 2 (by decide)).trans (oW2 _)
      · exact (ha' 44 43 (by decide)).trans ((oW4 _ 43 (by decide) (by decide)).trans q1)
      · exact (ha' 44 44 (by decide)).trans ((oW4 _ 44 (by decide) (by decide)).trans q2)
      · exact (ha' a i (by omega)).trans (oW _ a i (by omega) (by omega))
    · show hT h7 ≤ _
      rw [ht.1]; omega
    · show hS h7 ≤ _
      rw [ht.2.1]; omega
  · rw [← eR]
    intro r1 r2 h7 ht hr
    have er := hrd h7 _ _ ht
    refine ⟨-1, rfl, (lm_k (lM7 h7 _ _ ht)).1, ok_X12_text _ _ _ ⟨rfl, lM7 h7 _ _ ht, L, hL5, l27 h7 _ _ ht, ?_⟩⟩
    rw [er]
    have e45 : (mgR Rr (txM0 (hI h7) L)).2.1 44 45 = Rr.2.1 44 45 := oW4 (hI h7) 45 (by decide) (by decide)
    rw [e45]
    refine ⟨fun z => absurd (r1.symm.trans z) (by decide), fun _ _ f g ha hb => ⟨rfl, ?_, ?_, ?_⟩, fun _ z => absurd z r2⟩
    · have ha' : ∀ x i, ¬ (x = 44 ∧ (i = 37 ∨ i = 39 ∨ i = 40 ∨ i = 41)) → f x i = u2 (u2 (mg Rr.2.1 (txM0 (hI h7) L)) 44 43 3) 44 44 (Rr.2.1 44 45) x i := ha
      have ha2 : ∀ x i, ¬ (x = 44 ∧ (i = 37 ∨ i = 39 ∨ i = 40 ∨ i = 41)) → ¬ (x = 44 ∧ (i = 43 ∨ i = 44)) → f x i = mg Rr.2.1 (txM0 (hI h7) L) x i := fun x i n1 n2 => by rw [ha' x i n1, u2_ne (by omega), u2_ne (by omega)]
      refine tx_cp (h2 := wIJ h7 f g) hc hL5 ht rfl rfl rfl rfl (fun a i n1 n2 n3 => ?_) (fun a i a1 a2 _ => ?_) ?_ ?_ ?_ (Or.inl ⟨hr, fun a i a1 a2 => ?_⟩)
      · exact (ha2 a i (fun z => n1 z.1) (fun z => n1 z.1)).trans (oW _ a i n1 n3)
      · exact (ha2 a i (by omega) (by omega)).trans (oW _ a i (by omega) (by omega))
      · exact (ha2 44 2 (by decide) (by decide)).trans (oW2 _)
      · refine (ha' 44 43 (by decide)).trans ?_
        rw [u2_ne (by decide), u2_eq]
      · refine (ha' 44 44 (by decide)).trans ?_
        rw [u2_eq]
      · exact (ha2 a i (by omega) (by omega)).trans (oW _ a i (by omega) (by omega))
    · show hT h7 ≤ _
      rw [ht.1]; omega
    · show hS h7 ≤ _
      rw [ht.2.1]; omega
  · rw [← eR]
    intro r1 r2 h7 k hk hik ht hr hlr hln hq0
    have er := hrd h7 _ _ ht
    refine ⟨nI k, rfl, (lm_k (lM7 h7 _ _ ht)).1, ok_X12_text _ _ _ ⟨rfl, lM7 h7 _ _ ht, L, hL5, l27 h7 _ _ ht, ?_⟩⟩
    rw [er]
    have e45 : (mgR Rr (txM0 (hI h7) L)).2.1 44 45 = Rr.2.1 44 45 := oW4 (hI h7) 45 (by decide) (by decide)
    rw [e45]
    refine ⟨fun z => absurd (r1.symm.trans z) (by decide), fun _ z => absurd r2 z, fun _ _ k' hk' hik' f g ha hb => ?_⟩
    have ek : k' = k := by
      have z1 : (mgR Rr (txM0 (hI h7) L)).2.1 44 46 = nI k' := hik'.1
      have z2 : (mgR Rr (txM0 (hI h7) L)).2.1 44 46 = Rr.2.1 44 46 := oW4 (hI h7) 46 (by decide) (by decide)
      rw [z2, hik.1] at z1
      exact ((nI_eq (by omega) (by omega)).mp z1).symm
    subst ek
    obtain ⟨R2, eR2⟩ : ∃ R2 : Mem, R2 = mg Rr.2.1 (txM0 (hI h7) L) := ⟨_, rfl⟩
    have ha' : ∀ x i, ¬ (x = 44 ∧ (i = 37 ∨ i = 39 ∨ i = 40 ∨ i = 41)) → f x i = cpM R2 k' k' (tC R2 k' 0) x i := by rw [eR2]; exact ha
    have ha2 : ∀ x i, ¬ (x = 44 ∧ (i = 37 ∨ i = 39 ∨ i = 40 ∨ i = 41)) → ¬ (69 ≤ x ∧ x ≤ 75) → f x i = mg Rr.2.1 (txM0 (hI h7) L) x i := fun x i n1 n2 => by rw [ha' x i n1, cpM_o _ _ _ _ (by omega), eR2]
    refine ⟨rfl, ?_, ?_, ?_⟩
    · refine tx_cp (h2 := wIJ h7 f g) hc hL5 ht rfl rfl rfl rfl (fun a i n1 n2 n3 => ?_) (fun a i a1 a2 a3 => ?_) ?_ ?_ ?_ (Or.inr ⟨k', hr, hlr, ?_⟩)
      · exact (ha2 a i (fun z => n1 z.1) n2).trans (oW _ a i n1 n3)
      · refine (ha' a i (by omega)).trans ?_
        have s69 : a = 69 → i ≠ 0 := fun e => by subst e; have : szA 69 = 1 := rfl; omega
        have s70 : a = 70 → 16 ≤ i := fun e => by subst e; have : szA 70 = 16 := rfl; omega
        have s74 : a = 74 → 16 ≤ i := fun e => by subst e; have : szA 74 = 16 := rfl; omega
        have s75 : a = 75 → 16 ≤ i := fun e => by subst e; have : szA 75 = 16 := rfl; omega
        have s71 : 71 ≤ a → a ≤ 73 → 64 ≤ i := fun e1 e2 => by
          have : a = 71 ∨ a = 72 ∨ a = 73 := by omega
          rcases this with rfl | rfl | rfl
          · have : szA 71 = 64 := rfl; omega
          · have : szA 72 = 64 := rfl; omega
          · have : szA 73 = 64 := rfl; omega
        unfold cpM
        rw [if_neg (fun z => s69 z.1 z.2), if_neg (fun z => by have := s70 z.1; omega), if_neg (fun z => by have := s74 z.1; omega), if_neg (fun z => by have := s75 z.1; omega), cif_f (fun z => by
          have := s71 z.1 z.2.1
          have w := z.2.2.1
          omega), eR2]
        exact oW _ a i (by omega) (by omega)
      · exact (ha2 44 2 (by decide) (by decide)).trans (oW2 _)
      · exact (ha2 44 43 (by decide) (by decide)).trans ((oW4 _ 43 (by decide) (by decide)).trans hik.2.1)
      · exact (ha2 44 44 (by decide) (by decide)).trans ((oW4 _ 44 (by decide) (by decide)).trans hik.2.2.1)
      · refine RC_tx (f := f) (F := hI h7) (M := Rr.2.1) (R2 := R2) hk hq0 hln (fun i j hi => ?_) (fun a i a1 a2 => by rw [eR2]; exact oW8 _ a i a1 a2) (fun a i a1 a2 => ha' a i (by omega))
        exact (ha2 _ j (by omega) (by omega)).trans (oW _ _ j (by omega) (by omega))
    · show hT h7 ≤ _
      rw [ht.1]; omega
    · show hS h7 ≤ _
      rw [ht.2.1]; omega
