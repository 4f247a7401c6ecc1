/-! ===== the coupling: rooms, helpers, pairs, evenings ===== -/
/-- the class's rooms (object r, rows r + 1 .. r + 3) are the reference's -/
def RmC (f : Mem) (r : Nat) (J : Mem) (R : Nat) : Prop := R ≤ 4 ∧ f r 0 = nI R ∧ J 46 0 = nI R ∧ (∀ x, x < R → f (r + 1) x = J 47 x ∧ f (r + 2) x = J 48 x ∧ f (r + 3) x = J 51 x ∧ J 49 x = b2i (bt (f r 4) x = true) ∧ J 50 x = b2i (bt (f r 5) x = true) ∧ ∃ c d, c + d ≤ 9 ∧ J 47 x = nI c ∧ J 48 x = nI d) ∧ ∀ x, R ≤ x → bt (f r 4) x = false ∧ bt (f r 5) x = false
/-- the class's helpers (object r + 13, rows r + 14 .. r + 17) are the reference's -/
def HlC (f : Mem) (r : Nat) (J : Mem) (H : Nat) : Prop := H ≤ 8 ∧ f (r + 13) 0 = nI H ∧ J 64 0 = nI H ∧ (∀ x, x < H → f (r + 14) x = J 65 x ∧ f (r + 15) x = J 66 x ∧ f (r + 16) x = J 67 x ∧ f (r + 17) x = J 68 x ∧ ∃ a b, a ≤ 7 ∧ b ≤ a ∧ J 66 x = nI a ∧ J 68 x = nI b) ∧ ∀ x, H ≤ x → x < 8 → f (r + 16) x = 0 ∧ f (r + 17) x = 0
/-- what holds of the people's ills, rooms, pairs; np pairs -/
def JP (J : Mem) (R P np : Nat) : Prop := (∀ p, p < P → ∃ c, c ≤ 3 ∧ J 57 p = nI c) ∧ (∀ p, p < P → slpOk J R p) ∧ Sy J ∧ Tg J P ∧ noS J P ∧ (∀ p i, p < P → bt (J 62 p) i = true → i < P) ∧ (∀ p i, p < 24 → ¬ (bt (J 62 p) i = true ∧ bt (J 63 p) i = true)) ∧ np ≤ 20 ∧ fb_sm (fun p => pct (J 62 p) + pct (J 63 p)) P = 2 * np
/-- the evenings that were, from the latest on -/
def NC (h : Hp) (J : Mem) : Nat → Option Nat → Prop
  | 0, o => o = none
  | e + 1, o => ∃ n Rn, o = some n ∧ LayN h n Rn ∧ Rn ≤ 4 ∧ hI h n 1 = nI e ∧ hI h n 2 = J 77 (10 * e) ∧ hI h n 4 = J 77 (10 * e + 1) ∧ hI h n 5 = J 77 (10 * e + 2) ∧ hI h n 6 = J 77 (10 * e + 3) ∧ hI h n 3 = J 77 (10 * e + 4) ∧ (hI h n 3 = 0 ∨ hI h n 3 = 1) ∧ J 77 (10 * e + 9) = nI Rn ∧ (∀ r, r < Rn → hI h (n + 3) r = J 77 (10 * e + 5 + r)) ∧ NC h J e (hR h n 0)
/-- the latest evening, number e, at n: who was told what -/
def LtW (f J : Mem) (e P n Rn : Nat) : Prop := (∀ p, p < P → f (n + 2) p = J 78 p) ∧ (∀ p, P ≤ p → p < 24 → f (n + 2) p = -1) ∧ (∃ N, N ≤ 10 ∧ f n 8 = nI N ∧ (∀ j, j < N → ∃ q, q < P ∧ f (n + 1) j = nI q) ∧ ∀ p, p < P → (∃ j, j < N ∧ f (n + 1) j = nI p ∧ (∀ i, i < j → ¬ f (n + 1) i = nI p) ∧ J 79 p = nI j) ∨ ((∀ j, j < N → ¬ f (n + 1) j = nI p) ∧ J 79 p = -1)) ∧ (∀ p, P ≤ p → bt (J 77 (10 * e + 1)) p = false ∧ ∀ r, r < Rn → bt (f (n + 3) r) p = false) ∧ ∀ p, p < P → (bt (J 77 (10 * e + 1)) p = true → ∃ r, r < Rn ∧ J 60 p = nI r ∧ bt (f (n + 3) r) p = true ∧ ∀ j, j < r → bt (f (n + 3) j) p = false) ∧ (bt (J 77 (10 * e + 1)) p = false → ∀ r, r < Rn → bt (f (n + 3) r) p = false)
/-- where a State lies: s its object, r its rooms, r + 4 its people, r + 13 its helpers -/
def LayS (h : Hp) (s r : Nat) : Prop := s < hT h ∧ r + 17 < hT h ∧ hK h s = 8 ∧ (hK h r = 6 ∧ hK h (r + 1) = 14 ∧ hK h (r + 2) = 14 ∧ hK h (r + 3) = 14 ∧ hK h (r + 4) = 3 ∧ hK h (r + 5) = 14 ∧ hK h (r + 6) = 14 ∧ hK h (r + 7) = 14 ∧ hK h (r + 8) = 14 ∧ hK h (r + 9) = 14 ∧ hK h (r + 10) = 14 ∧ hK h (r + 11) = 14 ∧ hK h (r + 12) = 14 ∧ hK h (r + 13) = 0 ∧ hK h (r + 14) = 14 ∧ hK h (r + 15) = 14 ∧ hK h (r + 16) = 14 ∧ hK h (r + 17) = 14) ∧ (hR h s 0 = some r ∧ hR h s 1 = some (r + 4) ∧ hR h s 2 = some (r + 13) ∧ hR h r 1 = some (r + 1) ∧ hR h r 2 = some (r + 2) ∧ hR h r 3 = some (r + 3) ∧ hR h (r + 4) 2 = some (r + 5) ∧ hR h (r + 4) 3 = some (r + 6) ∧ hR h (r + 4) 4 = some (r + 7) ∧ hR h (r + 4) 5 = some (r + 8) ∧ hR h (r + 4) 6 = some (r + 9) ∧ hR h (r + 4) 7 = some (r + 10) ∧ hR h (r + 4) 8 = some (r + 11) ∧ hR h (r + 4) 9 = some (r + 12) ∧ hR h (r + 13) 1 = some (r + 14) ∧ hR h (r + 13) 2 = some (r + 15) ∧ hR h (r + 13) 3 = some (r + 16) ∧ hR h (r + 13) 4 = some (r + 17)) ∧ hL h (r + 1) = 4 ∧ hL h (r + 2) = 4 ∧ hL h (r + 3) = 4 ∧ hL h (r + 5) = 24 ∧ hL h (r + 6) = 24 ∧ hL h (r + 7) = 24 ∧ hL h (r + 8) = 24 ∧ hL h (r + 9) = 24 ∧ hL h (r + 10) = 24 ∧ hL h (r + 11) = 24 ∧ hL h (r + 12) = 24 ∧ hL h (r + 14) = 8 ∧ hL h (r + 15) = 8 ∧ hL h (r + 16) = 8 ∧ hL h (r + 17) = 8
theorem LayX.s {h : Hp} (hl : LayX h) : LayS h 3 12 := by
  have h1 := hl.1
  have k := lx_k hl
  have r := lx_r hl
  have l := lx_l hl
  refine ⟨by omega, by omega, ?_, ?_, ?_, ?_⟩ <;> simp only [Nat.reduceAdd, k, r, l, and_self]
/-- a State of the class is the reference's memory J -/
def ST (h : Hp) (s r : Nat) (J : Mem) (R P H E Ln q np : Nat) : Prop := LayS h s r ∧ hR h s 3 = some q ∧ LayR h q ∧ RmC (hI h) r J R ∧ PC (hI h) r J P ∧ hI h (r + 4) 1 = nI np ∧ HlC (hI h) r J H ∧ RC (hI h) q J Ln ∧ JP J R P np ∧ E ≤ 400 ∧ J 76 0 = nI E ∧ NC h J E (hR h s 4) ∧ ∀ e n Rn, E = e + 1 → hR h s 4 = some n → LayN h n Rn → LtW (hI h) J e P n Rn
theorem ST.lt {h : Hp} {r : Nat} {J : Mem} {R P H E Ln q np : Nat} (hs : ST h 3 r J R P H E Ln q np) : LtC h J E := by
  obtain ⟨_, _, _, _, _, _, _, _, _, hE, _, hn, _⟩ := hs
  refine ⟨hE, fun e => by rw [e] at hn; exact hn, fun e he => ?_⟩
  subst he
  obtain ⟨n, Rn, a, b, _, c, _, d, _⟩ := hn
  exact ⟨n, a, b.f.1, b.f.2.2.2.2.1, c, d⟩
/-- what an evening asks of the class's rows, with the cold told -/
theorem EC_of {f J : Mem} {R P : Nat} {cold : Int32} (hr : RmC f 12 J R) (hp : PC f 12 J P) (hc : cold = 0 ∨ cold = 1) (h32 : f 33 1 = cold) (hK : J 44 56 = cold) : EC f J R P := by
  refine ⟨fun r hrR => ?_, fun p hpP => ?_⟩
  · obtain ⟨a1, a2, a3, a4, a5, c, d, hcd, ec, ed⟩ := hr.2.2.2.1 r hrR
    have a1' : f 13 r = J 47 r := a1
    have a2' : f 14 r = J 48 r := a2
    refine ⟨?_, ?_, ?_, ?_, a3⟩
    · unfold capF
      rw [hK, ec, ed, nI_add]
      rcases hc with z | z
      · rw [z, if_neg (by decide)]; exact ⟨c, by omega, rfl⟩
      · rw [z, if_pos rfl]; exact ⟨c + d, hcd, rfl⟩
    · unfold cpX capF
      rw [h32, hK, a1', a2']
      rcases hc with z | z
      · rw [z, if_pos rfl, if_neg (by decide)]
      · rw [z, if_neg (by decide), if_pos rfl]
    · rw [a4]; unfold b2i; split <;> simp_all
    · rw [a5]; unfold b2i; split <;> simp_all
  · obtain ⟨_, b2, b3, _, _, _, b7, _, b9, b10, _⟩ := hp.2.2.2.1 p hpP
    refine ⟨b2, b3, b7, ?_, ?_⟩
    · rw [b9]; unfold b2i; split <;> simp_all
    · rw [b10]; unfold b2i; split <;> simp_all
theorem HC_of {f J : Mem} {H : Nat} (hh : HlC f 12 J H) : HC f J H 0 := fun x hx _ => by
  obtain ⟨a1, a2, a3, a4, a, b, ha, hb, e1, e2⟩ := hh.2.2.2.1 x hx
  exact ⟨a1, a2, a3, a4, a, b, by omega, by omega, e1, e2⟩
theorem RmC_c {f g : Mem} {r : Nat} {J : Mem} {R : Nat} (h : ∀ i, i ≤ 3 → g (r + i) = f (r + i)) (hr : RmC f r J R) : RmC g r J R := by
  unfold RmC at hr ⊢
  have h0 : g r = f r := h 0 (by decide)
  rw [h0, h 1 (by decide), h 2 (by decide), h 3 (by decide)]
  exact hr
theorem HlC_c {f g : Mem} {r : Nat} {J : Mem} {H : Nat} (h : ∀ i, 13 ≤ i → i ≤ 17 → g (r + i) = f (r + i)) (hr : HlC f r J H) : HlC g r J H := by
  unfold HlC at hr ⊢
  rw [h 13 (by decide) (by decide), h 14 (by decide) (by decide), h 15 (by decide) (by decide), h 16 (by decide) (by decide), h 17 (by decide) (by decide)]
  exact hr
/-! the reference's rows alone count -/
theorem RmC_j {f : Mem} {r : Nat} {J I : Mem} {R : Nat} (h : ∀ a, 46 ≤ a → a ≤ 79 → I a = J a) (hr : RmC f r J R) : RmC f r I R := by
  unfold RmC at hr ⊢
  rw [h 46 (by decide) (by decide), h 47 (by decide) (by decide), h 48 (by decide) (by decide), h 49 (by decide) (by decide), h 50 (by decide) (by decide), h 51 (by decide) (by decide)]
  exact hr
theorem PC_j {f : Mem} {r : Nat} {J I : Mem} {P : Nat} (h : ∀ a, 46 ≤ a → a ≤ 79 → I a = J a) (hr : PC f r J P) : PC f r I P := by
  unfold PC at hr ⊢
  rw [h 52 (by decide) (by decide), h 53 (by decide) (by decide), h 54 (by decide) (by decide), h 55 (by decide) (by decide), h 56 (by decide) (by decide), h 57 (by decide) (by decide), h 58 (by decide) (by decide), h 59 (by decide) (by decide), h 60 (by decide) (by decide), h 61 (by decide) (by decide), h 62 (by decide) (by decide), h 63 (by decide) (by decide)]
  exact hr
theorem HlC_j {f : Mem} {r : Nat} {J I : Mem} {H : Nat} (h : ∀ a, 46 ≤ a → a ≤ 79 → I a = J a) (hr : HlC f r J H) : HlC f r I H := by
  unfold HlC at hr ⊢
  rw [h 64 (by decide) (by decide), h 65 (by decide) (by decide), h 66 (by decide) (by decide), h 67 (by decide) (by decide), h 68 (by decide) (by decide)]
  exact hr
theorem RC_j {f : Mem} {q : Nat} {J I : Mem} {Ln : Nat} (h : ∀ a, 46 ≤ a → a ≤ 79 → I a = J a) (hr : RC f q J Ln) : RC f q I Ln := by
  unfold RC tsC at hr ⊢
  rw [h 69 (by decide) (by decide), h 70 (by decide) (by decide), h 71 (by decide) (by decide), h 72 (by decide) (by decide), h 73 (by decide) (by decide), h 74 (by decide) (by decide), h 75 (by decide) (by decide)]
  exact hr
theorem JP_j {J I : Mem} {R P np : Nat} (h : ∀ a, 46 ≤ a → a ≤ 79 → I a = J a) (hr : JP J R P np) : JP I R P np := by
  unfold JP slpOk Sy Tg noS at hr ⊢
  rw [h 57 (by decide) (by decide), h 60 (by decide) (by decide), h 62 (by decide) (by decide), h 63 (by decide) (by decide)]
  exact hr
theorem NC_j {h : Hp} {J I : Mem} (hh : I 77 = J 77) : ∀ {e : Nat} {o : Option Nat}, NC h J e o → NC h I e o
  | 0, o, hn => hn
  | e + 1, o, hn => by
    obtain ⟨n, Rn, a1, a2, a3, a4, a5, a6, a7, a8, a9, a10, a11, a12, a13⟩ := hn
    refine ⟨n, Rn, a1, a2, a3, a4, ?_, ?_, ?_, ?_, ?_, a10, ?_, ?_, NC_j hh a13⟩
    all_goals rw [hh]
    all_goals assumption
theorem LtW_j {f J I : Mem} {e P n Rn : Nat} (h : ∀ a, 46 ≤ a → a ≤ 79 → I a = J a) (hr : LtW f J e P n Rn) : LtW f I e P n Rn := by
  unfold LtW at hr ⊢
  rw [h 60 (by decide) (by decide), h 77 (by decide) (by decide), h 78 (by decide) (by decide), h 79 (by decide) (by decide)]
  exact hr
theorem ST_j {h : Hp} {s r : Nat} {J I : Mem} {R P H E Ln q np : Nat} (hh : ∀ a, 46 ≤ a → a ≤ 79 → I a = J a) (hs : ST h s r J R P H E Ln q np) : ST h s r I R P H E Ln q np := by
  obtain ⟨a1, a2, a3, a4, a5, a6, a7, a8, a9, a10, a11, a12, a13⟩ := hs
  exact ⟨a1, a2, a3, RmC_j hh a4, PC_j hh a5, a6, HlC_j hh a7, RC_j hh a8, JP_j hh a9, a10, by rw [hh 76 (by decide) (by decide)]; exact a11, NC_j (hh 77 (by decide) (by decide)) a12, fun e n Rn z1 z2 z3 => LtW_j hh (a13 e n Rn z1 z2 z3)⟩
theorem ST.ev {h : Hp} {s r : Nat} {J : Mem} {R P H E Ln q np : Nat} (hs : ST h s r J R P H E Ln q np) : EvOk J R P H E Ln := by
  obtain ⟨_, _, _, a4, a5, _, a7, a8, a9, a10, a11, _, _⟩ := hs
  exact ⟨a4.1, a5.1, a7.1, a10, a8.1, a4.2.2.1, a5.2.2.1, a7.2.2.1, a11, a8.2.2.1, a8.lin, fun r hr => (a4.2.2.2.1 r hr).2.2.2.2.2, a9.2.2.1, a9.2.2.2.1, a9.2.1⟩
