/-! ===== the class: a TEST ===== -/
def tsM (f : Mem) (q : Nat) (M : Mem) (x : Nat) : Prop := ∃ w, w ≤ 9 ∧ (M 81 x = nI w ∧ f (q + 5) x = 0 ∨ M 81 x = nI (w + 16) ∧ f (q + 5) x = 1) ∧ f (q + 2) x = nI (w + 262) ∧ f (q + 3) x = M 82 x ∧ f (q + 4) x = M 83 x
def cap4 (n : Nat) : Nat := if n < 4 then n else 4
def lI (k : Nat) : Nat := if k < 16 then k else 16
/-- the line k that is being read has n TESTS so far -/
def PTn (f M : Mem) (q k n : Nat) : Prop := k < 16 → f (q + 1) k = nI (cap4 n) ∧ M 80 k = nI (cap4 n) ∧ ∀ t, t < cap4 n → tsM f q M (4 * k + t)
/-- a line that was read -/
def LnC (f M : Mem) (q l : Nat) : Prop := (∃ T, T ≤ 4 ∧ f (q + 1) l = nI T ∧ M 80 l = nI T ∧ ∀ t, t < T → tsM f q M (4 * l + t)) ∧ (∃ a, a ≤ 2 ∧ M 84 l = nI a ∧ f (q + 6) l = nI (a + 259)) ∧ (M 84 l = 0 → f (q + 7) l = M 85 l)
def PLn (f M : Mem) (q k : Nat) : Prop := (∀ l, l < k → l < 16 → LnC f M q l) ∧ (∀ l, k < l → l < 16 → f (q + 1) l = 0) ∧ f q 0 = nI (lI k)
def PSt (f0 f M : Mem) (y q N k n s : Nat) : Prop := PO f0 f y q ∧ f y 1 = nI s ∧ s ≤ N ∧ f y 2 = M 44 45 ∧ PTn f M q k n ∧ PLn f M q k
noncomputable def rT (B : Nat → Int32) (L l n : Nat) (M : Mem) (t : Nat) : Bool × Mem × Nat :=
  if 262 ≤ K B L (t1T B L t) ∧ K B L (t1T B L t) ≤ 268 then
    if K B L (t1T B L t + 1) = 60 ∨ K B L (t1T B L t + 1) = 62 ∨ K B L (t1T B L t + 1) = 61 then
      if K B L (t1T B L t + 2) = 2 then (true, pWr M l n (wT B L t) (K B L (t1T B L t + 1)) (V B L (t1T B L t + 2)), t1T B L t + 3)
      else (false, pFail M (nI (bgT B L (t1T B L t + 2))), t1T B L t + 2)
    else (false, pFail M (nI (bgT B L (t1T B L t + 1))), t1T B L t + 1)
  else if 269 ≤ K B L (t1T B L t) ∧ K B L (t1T B L t) ≤ 271 then (true, pWr M l n (wT B L t) 61 1, t1T B L t + 1)
  else (false, pFail M (nI (bgT B L (t1T B L t))), t1T B L t)
theorem pT_rT (B : Nat → Int32) (L l n : Nat) (M : Mem) (t : Nat) : pT B L l n M t = rT B L l n (if n = 4 then pMany M (nI (bgT B L t)) else M) t := rfl
theorem tsM_c {f g M M' : Mem} {q x : Nat} (h : ∀ i, 2 ≤ i → i ≤ 5 → g (q + i) x = f (q + i) x) (h2 : ∀ a, 81 ≤ a → a ≤ 83 → M' a x = M a x) (ht : tsM f q M x) : tsM g q M' x := by
  unfold tsM at ht ⊢
  rw [h 2 (by decide) (by decide), h 3 (by decide) (by decide), h 4 (by decide) (by decide), h 5 (by decide) (by decide), h2 81 (by decide) (by decide), h2 82 (by decide) (by decide), h2 83 (by decide) (by decide)]
  exact ht
theorem LnC_c {f g M M' : Mem} {q l : Nat} (h1 : g (q + 1) l = f (q + 1) l) (h6 : g (q + 6) l = f (q + 6) l) (h7 : g (q + 7) l = f (q + 7) l) (hx : ∀ i t, t < 4 → 2 ≤ i → i ≤ 5 → g (q + i) (4 * l + t) = f (q + i) (4 * l + t)) (k0 : M' 80 l = M 80 l) (k4 : M' 84 l = M 84 l) (k5 : M' 85 l = M 85 l) (kx : ∀ a t, t < 4 → 81 ≤ a → a ≤ 83 → M' a (4 * l + t) = M a (4 * l + t)) (ht : LnC f M q l) : LnC g M' q l := by
  obtain ⟨⟨T, t1, t2, t3, t4⟩, a, b⟩ := ht
  refine ⟨⟨T, t1, by rw [h1]; exact t2, by rw [k0]; exact t3, fun t ht => tsM_c (fun i i1 i2 => hx i t (by omega) i1 i2) (fun a a1 a2 => kx a t (by omega) a1 a2) (t4 t ht)⟩, ?_, ?_⟩
  · rw [k4, h6]; exact a
  · rw [k4, k5, h7]; exact b
/-- a TEST is added on both sides -/
theorem PSt_add {f0 f M : Mem} {y q N k n s s2 : Nat} (hy : y + 1 = q) (hs : PSt f0 f M y q N k n s) (hs2 : s2 ≤ N) {w : Nat} (hw : w ≤ 9) {nt wv sb sg nu : Int32} (hnt : nt = 0 ∧ wv = nI w ∨ nt = 1 ∧ wv = nI (w + 16)) (hsb : sb = nI (w + 262)) {g : Mem} (hg : g = if k < 16 ∧ cap4 n < 4 then atM (u2 f y 1 (nI s2)) q k (cap4 n) nt sb sg nu else u2 f y 1 (nI s2)) : PSt f0 g (pWr M (lI k) n wv sg nu) y q N k (n + 1) s2 := by
  obtain ⟨p1, p2, p3, p4, p5, p6⟩ := hs
  have hmn : cap4 n < 4 ↔ n < 4 := by unfold cap4; split <;> omega
  by_cases c : k < 16 ∧ n < 4
  · have e4 : cap4 n = n := if_pos c.2
    have e41 : cap4 (n + 1) = n + 1 := by unfold cap4; split <;> omega
    have el : lI k = k := if_pos c.1
    rw [if_pos ⟨c.1, hmn.mpr c.2⟩, e4] at hg
    have hM : pWr M (lI k) n wv sg nu = u2 (u2 (u2 (u2 M 81 (4 * k + n) wv) 82 (4 * k + n) sg) 83 (4 * k + n) nu) 80 k (nI (n + 1)) := by
      rw [el]; exact if_pos ⟨c.2, c.1⟩
    rw [hM]
    have go : ∀ a j, (¬ (q + 1 ≤ a ∧ a ≤ q + 5) ∨ (a = q + 1 ∧ j ≠ k) ∨ (q + 2 ≤ a ∧ j ≠ 4 * k + n)) → ¬ (a = y ∧ j = 1) → g a j = f a j := fun a j h1 h2 => by
      rw [hg]
      unfold atM
      rw [u2_ne (by omega), u2_ne (by omega), u2_ne (by omega), u2_ne (by omega), u2_ne (by omega), u2_ne h2]
    have Mo : ∀ a j, (a < 80 ∨ 83 < a ∨ (a = 80 ∧ j ≠ k) ∨ (81 ≤ a ∧ j ≠ 4 * k + n)) → u2 (u2 (u2 (u2 M 81 (4 * k + n) wv) 82 (4 * k + n) sg) 83 (4 * k + n) nu) 80 k (nI (n + 1)) a j = M a j := fun a j h1 => by
      rw [u2_ne (by omega), u2_ne (by omega), u2_ne (by omega), u2_ne (by omega)]
    obtain ⟨q1, q2, q3⟩ := p5 c.1
    refine ⟨⟨fun a j a1 a2 => ?_, fun j j1 j2 => ?_⟩, ?_, hs2, ?_, fun _ => ⟨?_, ?_, fun t ht => ?_⟩, fun l hl hl16 => ?_, fun l hl hl16 => ?_, ?_⟩
    · rw [go a j (by omega) (by omega)]; exact p1.1 a j a1 a2
    · rw [go y j (by omega) (by omega)]; exact p1.2 j j1 j2
    · rw [hg]
      unfold atM
      rw [u2_ne (by omega), u2_ne (by omega), u2_ne (by omega), u2_ne (by omega), u2_ne (by omega), u2_eq]
    · rw [go y 2 (by omega) (by omega), Mo 44 45 (by omega)]; exact p4
    · rw [e41, hg]; exact u2_eq
    · rw [e41]; exact u2_eq
    · rw [e41] at ht
      by_cases e : t = n
      · subst e
        refine ⟨w, hw, ?_, ?_, ?_, ?_⟩
        · have m81 : u2 (u2 (u2 (u2 M 81 (4 * k + t) wv) 82 (4 * k + t) sg) 83 (4 * k + t) nu) 80 k (nI (t + 1)) 81 (4 * k + t) = wv := by
            rw [u2_ne (by omega), u2_ne (by omega), u2_ne (by omega), u2_eq]
          have g5 : g (q + 5) (4 * k + t) = nt := by
            rw [hg]; unfold atM
            rw [u2_ne (by omega), u2_ne (by omega), u2_ne (by omega), u2_ne (by omega), u2_eq]
          rw [m81, g5]
          rcases hnt with ⟨z1, z2⟩ | ⟨z1, z2⟩
          · exact Or.inl ⟨z2, z1⟩
          · exact Or.inr ⟨z2, z1⟩
        · rw [hg]; unfold atM
          rw [u2_ne (by omega), u2_ne (by omega), u2_ne (by omega), u2_eq]; exact hsb
        · have g3 : g (q + 3) (4 * k + t) = sg := by
            rw [hg]; unfold atM
            rw [u2_ne (by omega), u2_ne (by omega), u2_eq]
          rw [g3, u2_ne (by omega), u2_ne (by omega), u2_eq]
        · have g4 : g (q + 4) (4 * k + t) = nu := by
            rw [hg]; unfold atM
            rw [u2_ne (by omega), u2_eq]
          rw [g4, u2_ne (by omega), u2_eq]
      · exact tsM_c (fun i i1 i2 => go (q + i) (4 * k + t) (by omega) (by omega)) (fun a a1 a2 => Mo a (4 * k + t) (by omega)) (q3 t (by omega))
    · refine LnC_c (go _ _ (by omega) (by omega)) (go _ _ (by omega) (by omega)) (go _ _ (by omega) (by omega)) (fun i t t4 i1 i2 => go _ _ (by omega) (by omega)) (Mo _ _ (by omega)) (Mo _ _ (by omega)) (Mo _ _ (by omega)) (fun a t t4 a1 a2 => Mo _ _ (by omega)) (p6.1 l hl hl16)
    · rw [go _ _ (by omega) (by omega)]; exact p6.2.1 l hl hl16
    · rw [go _ _ (by omega) (by omega)]; exact p6.2.2
  · rw [if_neg (fun z => c ⟨z.1, hmn.mp z.2⟩)] at hg
    have hM : pWr M (lI k) n wv sg nu = M := if_neg (fun z => c ⟨by
      have h2 := z.2
      unfold lI at h2
      split at h2
      · assumption
      · omega, z.1⟩)
    rw [hM]
    have go : ∀ a j, ¬ (a = y ∧ j = 1) → g a j = f a j := fun a j h2 => by rw [hg, u2_ne h2]
    refine ⟨?_, ?_, hs2, ?_, fun k16 => ?_, fun l hl hl16 => ?_, fun l hl hl16 => ?_, ?_⟩
    · rw [hg]; exact p1.at _
    · rw [hg, u2_eq]
    · rw [go y 2 (by omega)]; exact p4
    · have e4 : cap4 (n + 1) = cap4 n := by unfold cap4; split <;> split <;> omega
      obtain ⟨q1, q2, q3⟩ := p5 k16
      rw [e4]
      exact ⟨by rw [go _ _ (by omega)]; exact q1, q2, fun t ht => tsM_c (fun i i1 i2 => go _ _ (by omega)) (fun a a1 a2 => rfl) (q3 t ht)⟩
    · exact LnC_c (go _ _ (by omega)) (go _ _ (by omega)) (go _ _ (by omega)) (fun i t t4 i1 i2 => go _ _ (by omega)) rfl rfl rfl (fun a t t4 a1 a2 => rfl) (p6.1 l hl hl16)
    · rw [go _ _ (by omega)]; exact p6.2.1 l hl hl16
    · rw [go _ _ (by omega)]; exact p6.2.2
def T_X2_readTest : Tr := fun av h Q => match av with
  | [.ref y, .int x] => ∃ q z B L N f0 M k n s, PEn h y q z B L N f0 ∧ x = nI k ∧ k ≤ 1000 ∧ PSt f0 (hI h) M y q N k n s ∧ (∀ f', (rT B L (lI k) n M s).1 = true → PSt f0 f' (rT B L (lI k) n M s).2.1 y q N k (n + 1) (rT B L (lI k) n M s).2.2 → Q (some (.int 1)) (wI h f')) ∧ (∀ f', (rT B L (lI k) n M s).1 = false → PO f0 f' y q → f' y 1 = nI (rT B L (lI k) n M s).2.2 → (rT B L (lI k) n M s).2.2 ≤ N → Q (some (.int 0)) (wI h f'))
  | _ => False
theorem K_word {B : Nat → Int32} {L s : Nat} (h1 : 262 ≤ K B L s) (h2 : K B L s ≤ 271) : ∃ w, w ≤ 9 ∧ K B L s = nI (w + 262) := by
  obtain ⟨n, hn, e⟩ := nI_of (Int32.not_lt.mpr (Int32.le_trans (by decide) h1))
  rw [e] at h1 h2
  have a1 : (262 : Int32) ≤ nI n ↔ 262 ≤ n := nI_leI (a := 262) (by decide) hn
  have a2 : nI n ≤ (271 : Int32) ↔ n ≤ 271 := nI_leI (b := 271) hn (by decide)
  have b1 := a1.mp h1
  have b2 := a2.mp h2
  exact ⟨n - 262, by omega, by rw [e, show n - 262 + 262 = n by omega]⟩
theorem wT_is {B : Nat → Int32} {L t w : Nat} (h : K B L (t1T B L t) = nI (w + 262)) (hw : w ≤ 9) : wT B L t = if K B L t = 258 then nI (w + 16) else nI w := by
  unfold wT
  have e : nI (w + 262) - 262 = nI w := (nI_sub (b := 262) (by omega)).trans (by rw [Nat.add_sub_cancel])
  rw [h, e]
  split
  · exact nI_add w 16
  · rfl
def L_X2_readTest : List UInt8 := [42, 17, 1, 2, 182, 0, 53, 61, 42, 182, 0, 32, 62, 42, 17, 1, 13, 182, 0, 53, 154, 0, 23, 42, 17, 1, 14, 182, 0, 53, 154, 0, 13, 42, 17, 1, 15, 182, 0, 53, 153, 0, 18, 42, 180, 0, 18, 27, 28, 29, 16, 61, 4, 182, 0, 65, 4, 172, 29, 17, 1, 6, 161, 0, 10, 29, 17, 1, 12, 164, 0, 5, 3, 172, 42, 29, 182, 0, 53, 87, 42, 182, 0, 32, 54, 4, 42, 16, 60, 182, 0, 53, 154, 0, 23, 42, 16, 62, 182, 0, 53, 154, 0, 14, 42, 16, 61, 182, 0, 53, 154, 0, 5, 3, 172, 42, 180, 0, 28, 180, 0, 69, 42, 180, 0, 46, 46, 54, 5, 42, 5, 182, 0, 53, 154, 0, 5, 3, 172, 42, 180, 0, 18, 27, 28, 29, 21, 4, 21, 5, 182, 0, 65, 4, 172]
theorem Lc_X2_readTest : MX2_readTest.2.1 = ⟨L_X2_readTest.toArray⟩ := rfl
theorem D_X2_readTest_0 : dseq MX2_readTest.2.1 0 [(.aload_n 0, 1), (.sipush 258, 3), (.invokevirtual 53, 3), (.istore_n 2, 1), (.aload_n 0, 1), (.invokevirtual 32, 3), (.istore_n 3, 1), (.aload_n 0, 1), (.sipush 269, 3), (.invokevirtual 53, 3), (.ifCond .ne 23, 3), (.aload_n 0, 1), (.sipush 270, 3), (.invokevirtual 53, 3), (.ifCond .ne 13, 3), (.aload_n 0, 1), (.sipush 271, 3), (.invokevirtual 53, 3), (.ifCond .eq 18, 3)] := dq Lc_X2_readTest 0 _ (by decide +kernel)
theorem D_X2_readTest_58 : dseq MX2_readTest.2.1 58 [(.iload_n 3, 1), (.sipush 262, 3), (.if_icmp .lt 10, 3), (.iload_n 3, 1), (.sipush 268, 3), (.if_icmp .le 5, 3), (.iconst 0, 1), (.ireturn, 1)] := dq Lc_X2_readTest 58 _ (by decide +kernel)
theorem D_X2_readTest_72 : dseq MX2_readTest.2.1 72 [(.iconst 0, 1), (.ireturn, 1)] := dq Lc_X2_readTest 72 _ (by decide +kernel)
theorem D_X2_readTest_74 : dseq MX2_readTest.2.1 74 [(.aload_n 0, 1), (.iload_n 3, 1), (.invokevirtual 53, 3), (.pop, 1), (.aload_n 0, 1), (.invokevirtual 32, 3), (.istore 4, 2), (.aload_n 0, 1), (.bipush 60, 2), (.invokevirtual 53, 3), (.ifCond .ne 23, 3), (.aload_n 0, 1), (.bipush 62, 2), (.invokevirtual 53, 3), (.ifCond .ne 14, 3), (.aload_n 0, 1), (.bipush 61, 2), (.invokevirtual 53, 3), (.ifCond .ne 5, 3), (.iconst 0, 1), (.ireturn, 1)] := dq Lc_X2_readTest 74 _ (by decide +kernel)
theorem D_X2_readTest_43 : dseq MX2_readTest.2.1 43 [(.aload_n 0, 1), (.getfield 18, 3), (.iload_n 1, 1), (.iload_n 2, 1), (.iload_n 3, 1), (.bipush 61, 2), (.iconst 1, 1), (.invokevirtual 65, 3), (.iconst 1, 1), (.ireturn, 1)] := dq Lc_X2_readTest 43 _ (by decide +kernel)
theorem D_X2_readTest_115 : dseq MX2_readTest.2.1 115 [(.aload_n 0, 1), (.getfield 28, 3), (.getfield 69, 3), (.aload_n 0, 1), (.getfield 46, 3), (.iaload, 1), (.istore 5, 2), (.aload_n 0, 1), (.iconst 2, 1), (.invokevirtual 53, 3), (.ifCond .ne 5, 3), (.iconst 0, 1), (.ireturn, 1)] := dq Lc_X2_readTest 115 _ (by decide +kernel)
theorem D_X2_readTest_139 : dseq MX2_readTest.2.1 139 [(.aload_n 0, 1), (.getfield 18, 3), (.iload_n 1, 1), (.iload_n 2, 1), (.iload_n 3, 1), (.iload 4, 2), (.iload 5, 2), (.invokevirtual 65, 3), (.iconst 1, 1), (.ireturn, 1)] := dq Lc_X2_readTest 139 _ (by decide +kernel)
def c_X2_readTest_110 (Q : Option Value → Hp → Prop) : Kt := i_if (fun x => x = 0) (i_push (.int 0) (i_zret Q)) (i_keep [true, true, true, true, true, false] (wp 2 MX2_readTest Q 115))
def c_X2_readTest_101 (Q : Option Value → Hp → Prop) : Kt := i_if (fun x => x = 0) (i_ald 0 (i_push (.int 61) (i_callV 2 1 T_X2_skip (c_X2_readTest_110 Q)))) (i_keep [true, true, true, true, true, false] (wp 2 MX2_readTest Q 115))
def c_X2_readTest_92 (Q : Option Value → Hp → Prop) : Kt := i_if (fun x => x = 0) (i_ald 0 (i_push (.int 62) (i_callV 2 1 T_X2_skip (c_X2_readTest_101 Q)))) (i_keep [true, true, true, true, true, false] (wp 2 MX2_readTest Q 115))
def c_X2_readTest_84 (Q : Option Value → Hp → Prop) : Kt := i_ist 4 (i_ald 0 (i_push (.int 60) (i_callV 2 1 T_X2_skip (c_X2_readTest_92 Q))))
def c_X2_readTest_79 (Q : Option Value → Hp → Prop) : Kt := i_pop (i_ald 0 (i_callV 2 0 T_X2_kind (c_X2_readTest_84 Q)))
def c_X2_readTest_40 (Q : Option Value → Hp → Prop) : Kt := i_if (fun x => x = 0) (i_ild 3 (i_push (.int 262) (i_cmp (fun x y => x < y) (i_push (.int 0) (i_zret Q)) (i_ild 3 (i_push (.int 268) (i_cmp (fun x y => x ≤ y) (i_ald 0 (i_ild 3 (i_callV 2 1 T_X2_skip (c_X2_readTest_79 Q)))) (i_push (.int 0) (i_zret Q)))))))) (i_keep [true, true, true, true, false, false] (wp 2 MX2_readTest Q 43))
def c_X2_readTest_30 (Q : Option Value → Hp → Prop) : Kt := i_if (fun x => x = 0) (i_ald 0 (i_push (.int 271) (i_callV 2 1 T_X2_skip (c_X2_readTest_40 Q)))) (i_keep [true, true, true, true, false, false] (wp 2 MX2_readTest Q 43))
def c_X2_readTest_20 (Q : Option Value → Hp → Prop) : Kt := i_if (fun x => x = 0) (i_ald 0 (i_push (.int 270) (i_callV 2 1 T_X2_skip (c_X2_readTest_30 Q)))) (i_keep [true, true, true, true, false, false] (wp 2 MX2_readTest Q 43))
def c_X2_readTest_12 (Q : Option Value → Hp → Prop) : Kt := i_ist 3 (i_ald 0 (i_push (.int 269) (i_callV 2 1 T_X2_skip (c_X2_readTest_20 Q))))
def c_X2_readTest_7 (Q : Option Value → Hp → Prop) : Kt := i_ist 2 (i_ald 0 (i_callV 2 0 T_X2_kind (c_X2_readTest_12 Q)))
def c_X2_readTest_56 (Q : Option Value → Hp → Prop) : Kt := i_push (.int 1) (i_zret Q)
def c_X2_readTest_153 (Q : Option Value → Hp → Prop) : Kt := i_push (.int 1) (i_zret Q)
def c_X2_readTest_134 (Q : Option Value → Hp → Prop) : Kt := i_if (fun x => x = 0) (i_push (.int 0) (i_zret Q)) (i_ald 0 (i_getR 2 3 (i_ild 1 (i_ild 2 (i_ild 3 (i_ild 4 (i_ild 5 (i_callV 7 5 T_X7_addTest (c_X2_readTest_153 Q)))))))))
def b_X2_readTest_0 (Q : Option Value → Hp → Prop) : Kt := i_ald 0 (i_push (.int 258) (i_callV 2 1 T_X2_skip (c_X2_readTest_7 Q)))
set_option maxRecDepth 100000 in
theorem s_X2_readTest_0 (Q : Option Value → Hp → Prop) : ∀ A st h, b_X2_readTest_0 Q A st h → wp 2 MX2_readTest Q 0 A st h := (q1 (s_aldn (n := 0) (i := 0) rfl) D_X2_readTest_0 fun D => (q1 (s_sipush (n := 258) (v := 258) (by decide)) D fun D => (qX (s_callV kX2 rfl ok_X2_skip mo_X2_skip (ch_3_3_ok.2.2.2.2.1.1 rfl) (ch_3_3_ok.2.2.2.2.2.2.1.1 rfl) (pv_0.2.2.2.2.2.2.2.2.2.2.2.1)) rfl (by decide) D fun D => (qL (s_istn (n := 2) (i := 2) rfl) (by decide) D fun D => (q1 (s_aldn (n := 0) (i := 0) rfl) D fun D => (qX (s_callV kX2 rfl ok_X2_kind mo_X2_kind (ch_3_2_ok.2.2.2.2.2.2.2.2.1.1 rfl) (ch_3_2_ok.2.2.2.2.2.2.2.2.2.2.1.1 rfl) (pv_0.2.2.2.2.2.2.2.2.1)) rfl (by decide) D fun D => (qL (s_istn (n := 3) (i := 3) rfl) (by decide) D fun D => (q1 (s_aldn (n := 0) (i := 0) rfl) D fun D => (q1 (s_sipush (n := 269) (v := 269) (by decide)) D fun D => (qX (s_callV kX2 rfl ok_X2_skip mo_X2_skip (ch_3_3_ok.2.2.2.2.1.1 rfl) (ch_3_3_ok.2.2.2.2.2.2.1.1 rfl) (pv_0.2.2.2.2.2.2.2.2.2.2.2.1)) rfl (by decide) D fun D => (qBn s_ifne2 43 (by decide) D (s_keep [true, true, true, true, false, false] fun _ _ _ h => h) fun D => (q1 (s_aldn (n := 0) (i := 0) rfl) D fun D => (q1 (s_sipush (n := 270) (v := 270) (by decide)) D fun D => (qX (s_callV kX2 rfl ok_X2_skip mo_X2_skip (ch_3_3_ok.2.2.2.2.1.1 rfl) (ch_3_3_ok.2.2.2.2.2.2.1.1 rfl) (pv_0.2.2.2.2.2.2.2.2.2.2.2.1)) rfl (by decide) D fun D => (qBn s_ifne2 43 (by decide) D (s_keep [true, true, true, true, false, false] fun _ _ _ h => h) fun D => (q1 (s_aldn (n := 0) (i := 0) rfl) D fun D => (q1 (s_sipush (n := 271) (v := 271) (by decide)) D fun D => (qX (s_callV kX2 rfl ok_X2_skip mo_X2_skip (ch_3_3_ok.2.2.2.2.1.1 rfl) (ch_3_3_ok.2.2.2.2.2.2.1.1 rfl) (pv_0.2.2.2.2.2.2.2.2.2.2.2.1)) rfl (by decide) D fun D => (qB s_ifeq 58 (by decide) D (q1 (s_ildn (n := 3) (i := 3) rfl) D_X2_readTest_58 fun D => (q1 (s_sipush (n := 262) (v := 262) (by decide)) D fun D => (qB s_cmplt 72 (by decide) D (q1 (s_iconst (n := 0) (v := 0) (by decide)) D_X2_readTest_72 fun D => (qZ rfl D)) fun D => (q1 (s_ildn (n := 3) (i := 3) rfl) D fun D => (q1 (s_sipush (n := 268) (v := 268) (by decide)) D fun D => (qB s_cmple 74 (by decide) D (q1 (s_aldn (n := 0) (i := 0) rfl) D_X2_readTest_74 fun D => (q1 (s_ildn (n := 3) (i := 3) rfl) D fun D => (qX (s_callV kX2 rfl ok_X2_skip mo_X2_skip (ch_3_3_ok.2.2.2.2.1.1 rfl) (ch_3_3_ok.2.2.2.2.2.2.1.1 rfl) (pv_0.2.2.2.2.2.2.2.2.2.2.2.1)) rfl (by decide) D fun D => (q1 s_pop D fun D => (q1 (s_aldn (n := 0) (i := 0) rfl) D fun D => (qX (s_callV kX2 rfl ok_X2_kind mo_X2_kind (ch_3_2_ok.2.2.2.2.2.2.2.2.1.1 rfl) (ch_3_2_ok.2.2.2.2.2.2.2.2.2.2.1.1 rfl) (pv_0.2.2.2.2.2.2.2.2.1)) rfl (by decide) D fun D => (qL s_ist (by decide) D fun D => (q1 (s_aldn (n := 0) (i := 0) rfl) D fun D => (q1 (s_bipush (n := 60) (v := 60) (by decide)) D fun D => (qX (s_callV kX2 rfl ok_X2_skip mo_X2_skip (ch_3_3_ok.2.2.2.2.1.1 rfl) (ch_3_3_ok.2.2.2.2.2.2.1.1 rfl) (pv_0.2.2.2.2.2.2.2.2.2.2.2.1)) rfl (by decide) D fun D => (qBn s_ifne2 115 (by decide) D (s_keep [true, true, true, true, true, false] fun _ _ _ h => h) fun D => (q1 (s_aldn (n := 0) (i := 0) rfl) D fun D => (q1 (s_bipush (n := 62) (v := 62) (by decide)) D fun D => (qX (s_callV kX2 rfl ok_X2_skip mo_X2_skip (ch_3_3_ok.2.2.2.2.1.1 rfl) (ch_3_3_ok.2.2.2.2.2.2.1.1 rfl) (pv_0.2.2.2.2.2.2.2.2.2.2.2.1)) rfl (by decide) D fun D => (qBn s_ifne2 115 (by decide) D (s_keep [true, true, true, true, true, false] fun _ _ _ h => h) fun D => (q1 (s_aldn (n := 0) (i := 0) rfl) D fun D => (q1 (s_bipush (n := 61) (v := 61) (by decide)) D fun D => (qX (s_callV kX2 rfl ok_X2_skip mo_X2_skip (ch_3_3_ok.2.2.2.2.1.1 rfl) (ch_3_3_ok.2.2.2.2.2.2.1.1 rfl) (pv_0.2.2.2.2.2.2.2.2.2.2.2.1)) rfl (by decide) D fun D => (qBn s_ifne2 115 (by decide) D (s_keep [true, true, true, true, true, false] fun _ _ _ h => h) fun D => (q1 (s_iconst (n := 0) (v := 0) (by decide)) D fun D => (qZ rfl D))))))))))))))))))))) fun D => (q1 (s_iconst (n := 0) (v := 0) (by decide)) D fun D => (qZ rfl D)))))))) fun D => (s_keep [true, true, true, true, false, false] fun _ _ _ h => h))))))))))))))))))))
def b_X2_readTest_43 (Q : Option Value → Hp → Prop) : Kt := i_ald 0 (i_getR 2 3 (i_ild 1 (i_ild 2 (i_ild 3 (i_push (.int 61) (i_push (.int 1) (i_callV 7 5 T_X7_addTest (c_X2_readTest_56 Q))))))))
set_option maxRecDepth 100000 in
theorem s_X2_readTest_43 (Q : Option Value → Hp → Prop) : ∀ A st h, b_X2_readTest_43 Q A st h → wp 2 MX2_readTest Q 43 A st h := (q1 (s_aldn (n := 0) (i := 0) rfl) D_X2_readTest_43 fun D => (qC fl_X2_18 rfl D fun D => (q1 (s_ildn (n := 1) (i := 1) rfl) D fun D => (q1 (s_ildn (n := 2) (i := 2) rfl) D fun D => (q1 (s_ildn (n := 3) (i := 3) rfl) D fun D => (q1 (s_bipush (n := 61) (v := 61) (by decide)) D fun D => (q1 (s_iconst (n := 1) (v := 1) (by decide)) D fun D => (qX (s_callV kX7 rfl ok_X7_addTest mo_X7_addTest (ch_3_4_ok.1.1 rfl) (ch_3_4_ok.2.1.1 rfl) (ch_3_4_ok.2.2.1.1 rfl)) rfl (by decide) D fun D => (q1 (s_iconst (n := 1) (v := 1) (by decide)) D fun D => (qZ rfl D))))))))))
def b_X2_readTest_115 (Q : Option Value → Hp → Prop) : Kt := i_ald 0 (i_getR 2 0 (i_getR 10 4 (i_ald 0 (i_getI 2 1 (i_iald (i_ist 5 (i_ald 0 (i_push (.int 2) (i_callV 2 1 T_X2_skip (c_X2_readTest_134 Q))))))))))
set_option maxRecDepth 100000 in
theorem s_X2_readTest_115 (Q : Option Value → Hp → Prop) : ∀ A st h, b_X2_readTest_115 Q A st h → wp 2 MX2_readTest Q 115 A st h := (q1 (s_aldn (n := 0) (i := 0) rfl) D_X2_readTest_115 fun D => (qC fl_X2_28 rfl D fun D => (qC fl_X2_69 rfl D fun D => (q1 (s_aldn (n := 0) (i := 0) rfl) D fun D => (qC fl_X2_46 rfl D fun D => (q1 s_iald D fun D => (qL s_ist (by decide) D fun D => (q1 (s_aldn (n := 0) (i := 0) rfl) D fun D => (q1 (s_iconst (n := 2) (v := 2) (by decide)) D fun D => (qX (s_callV kX2 rfl ok_X2_skip mo_X2_skip (ch_3_3_ok.2.2.2.2.1.1 rfl) (ch_3_3_ok.2.2.2.2.2.2.1.1 rfl) (pv_0.2.2.2.2.2.2.2.2.2.2.2.1)) rfl (by decide) D fun D => (qBn s_ifne2 139 (by decide) D (q1 (s_aldn (n := 0) (i := 0) rfl) D_X2_readTest_139 fun D => (qC fl_X2_18 rfl D fun D => (q1 (s_ildn (n := 1) (i := 1) rfl) D fun D => (q1 (s_ildn (n := 2) (i := 2) rfl) D fun D => (q1 (s_ildn (n := 3) (i := 3) rfl) D fun D => (q1 s_ild D fun D => (q1 s_ild D fun D => (qX (s_callV kX7 rfl ok_X7_addTest mo_X7_addTest (ch_3_4_ok.1.1 rfl) (ch_3_4_ok.2.1.1 rfl) (ch_3_4_ok.2.2.1.1 rfl)) rfl (by decide) D fun D => (q1 (s_iconst (n := 1) (v := 1) (by decide)) D fun D => (qZ rfl D)))))))))) fun D => (q1 (s_iconst (n := 0) (v := 0) (by decide)) D fun D => (qZ rfl D)))))))))))))

set_option maxRecDepth 100000 in
set_option maxHeartbeats 1000000 in
theorem xrt_0 (Q : Option Value → Hp → Prop) (h : Hp) (y q z : Nat) (B : Nat → Int32) (L N : Nat) (f0 M : Mem) (k n s : Nat) (he : PEn h y q z B L N f0) (hk : k ≤ 1000) (hps : PSt f0 (hI h) M y q N k n s)
    (hq1 : ∀ f', (rT B L (lI k) n M s).1 = true → PSt f0 f' (rT B L (lI k) n M s).2.1 y q N k (n + 1) (rT B L (lI k) n M s).2.2 → Q (some (.int 1)) (wI h f'))
    (hq0 : ∀ f', (rT B L (lI k) n M s).1 = false → PO f0 f' y q → f' y 1 = nI (rT B L (lI k) n M s).2.2 → (rT B L (lI k) n M s).2.2 ≤ N → Q (some (.int 0)) (wI h f')) : b_X2_readTest_0 Q [some (.ref y), some (.int (nI k)), none, none, none, none] [] h := by
  obtain ⟨⟨a1, a2, a3, a4⟩, z90, ey, eq⟩ := he.f
  have hlt := he.2.1
  have hlr := he.2.2.1
  have hL := he.2.2.2.2.2.2.2.2.1
  obtain ⟨p1, p2, p3, p4, p5, p6⟩ := id hps
  have htk := PO.tk he p1
  have hNL := htk.2.2.1
  -- the memory with the parser at token s'
  have fo : ∀ s', PO f0 (u2 (hI h) y 1 (nI s')) y q := fun s' => p1.at _
  have f1 : ∀ s', u2 (hI h) y 1 (nI s') y 1 = nI s' := fun s' => u2_eq
  have ff : ∀ s' s2, u2 (u2 (hI h) y 1 (nI s')) y 1 (nI s2) = u2 (hI h) y 1 (nI s2) := fun s' s2 => u2_at _ _ _ _ _
  have fs : u2 (hI h) y 1 (nI s) = hI h := u2_id p2
  have hh : wI h (u2 (hI h) y 1 (nI s)) = h := by rw [fs]; rfl
  -- a skip from token s'
  have sk : ∀ (s' : Nat) (c : Int32) (Q' : Option Value → Hp → Prop), s' ≤ N → ¬ c = 1 → (K B L s' = c → s' + 1 ≤ N → Q' (some (.int 1)) (wI h (u2 (hI h) y 1 (nI (s' + 1))))) → (¬ K B L s' = c → Q' (some (.int 0)) (wI h (u2 (hI h) y 1 (nI s')))) → T_X2_skip [.ref y, .int c] (wI h (u2 (hI h) y 1 (nI s'))) Q' := fun s' c Q' hs' hc h1 h0 => skip_go he (fo s') hs' (f1 s') hc (fun e1 e2 => by rw [ff]; exact h1 e1 e2) h0
  have kd : ∀ (s' : Nat) (Q' : Option Value → Hp → Prop), s' ≤ N → Q' (some (.int (K B L s'))) (wI h (u2 (hI h) y 1 (nI s'))) → T_X2_kind [.ref y] (wI h (u2 (hI h) y 1 (nI s'))) Q' := fun s' Q' hs' h1 => kind_go he (fo s') hs' (f1 s') h1
  -- the fields, whatever the ints are
  have b1 : ∀ g, y < hT (wI h g) := fun _ => a1
  have b2 : ∀ g, hK (wI h g) y = 2 := fun _ => a2
  have b3 : ∀ g, hR (wI h g) y 0 = some z := fun _ => a3
  have b4 : ∀ g, hR (wI h g) y 3 = some q := fun _ => a4
  have hrt : rT B L (lI k) n M s = rT B L (lI k) n M s := rfl
  obtain ⟨t1, ht1⟩ : ∃ t1, t1 = t1T B L s := ⟨_, rfl⟩
  -- adding the test, from token s2
  have hadd : ∀ (s2 w : Nat) (nt sg nu : Int32), s2 ≤ N → w ≤ 9 → (nt = 0 ∧ wT B L s = nI w ∨ nt = 1 ∧ wT B L s = nI (w + 16)) → ∀ (Q' : Option Value → Hp → Prop), (∀ g, PSt f0 g (pWr M (lI k) n (wT B L s) sg nu) y q N k (n + 1) s2 → Q' none (wI h g)) → T_X7_addTest [.ref q, .int (nI k), .int nt, .int (nI (w + 262)), .int sg, .int nu] (wI h (u2 (hI h) y 1 (nI s2))) Q' := by
    intro s2 w nt sg nu hs2 hw hnt Q' hQ'
    have hm : k < 16 → cap4 n ≤ 4 ∧ u2 (hI h) y 1 (nI s2) (q + 1) k = nI (cap4 n) := fun c => ⟨by unfold cap4; split <;> omega, by rw [u2_ne (by omega)]; exact (p5 c).1⟩
    have hres := fun (g : Mem) hg => hQ' g (PSt_add (by omega) hps hs2 hw hnt rfl (g := g) (sg := sg) (nu := nu) hg)
    exact add_go hlr (by omega) hm (by rcases hnt with z | z; exact Or.inl z.1; exact Or.inr z.1) (fun c1 c2 => hres _ (by rw [if_pos ⟨c1, c2⟩])) (fun c => hres _ (by rw [if_neg c]))
  -- from the subject on; nt says whether there was a 'not'
  have h12 : ∀ nt : Int32, (nt = 0 ∧ ¬ K B L s = 258 ∨ nt = 1 ∧ K B L s = 258) → t1 ≤ N → c_X2_readTest_12 Q [some (.ref y), some (.int (nI k)), some (.int nt), none, none, none] [.int (K B L t1)] (wI h (u2 (hI h) y 1 (nI t1))) := by
    intro nt hnt htN
    have hntw : ∀ w, w ≤ 9 → K B L t1 = nI (w + 262) → (nt = 0 ∧ wT B L s = nI w ∨ nt = 1 ∧ wT B L s = nI (w + 16)) := fun w hw e => by
      rw [ht1] at e
      rw [wT_is e hw]
      rcases hnt with ⟨z1, z2⟩ | ⟨z1, z2⟩
      · rw [if_neg z2]; exact Or.inl ⟨z1, rfl⟩
      · rw [if_pos z2]; exact Or.inr ⟨z1, rfl⟩
    -- 43: dog, climbs, here
    have h43 : 269 ≤ K B L t1 → K B L t1 ≤ 271 → t1 + 1 ≤ N → wp 2 MX2_readTest Q 43 [some (.ref y), some (.int (nI k)), some (.int nt), some (.int (K B L t1)), none, none] [] (wI h (u2 (hI h) y 1 (nI (t1 + 1)))) := by
      intro z1 z2 htN1
      obtain ⟨w, hw, ew⟩ := K_word (Int32.le_trans (by decide) z1) z2
      have hr1 : rT B L (lI k) n M s = (true, pWr M (lI k) n (wT B L s) 61 1, t1 + 1) := by
        unfold rT
        rw [← ht1, if_neg (fun c => absurd (Int32.le_trans z1 c.2) (by decide)), if_pos ⟨z1, z2⟩]
      have hcall := hadd (t1 + 1) w nt 61 1 htN1 hw (hntw w hw ew) (fun r h' => c_X2_readTest_56 Q [some (.ref y), some (.int (nI k)), some (.int nt), some (.int (nI (w + 262))), none, none] (r.toList ++ []) h') (fun g hg => by
        have hgo := hq1 g (by rw [hr1]) (by rw [hr1]; exact hg)
        show c_X2_readTest_56 Q _ [] (wI h g)
        generalize wI h g = H at hgo ⊢
        simp only [c_X2_readTest_56, i_push, i_ild, i_ald, i_ist, i_ast, i_inc, i_bin, i_un, i_divs, i_i2l, i_lshl, i_lor, i_dup, i_dup2, i_pop, i_if, i_cmp, i_nul, i_vret, i_iret, i_zret, i_aret, i_keep, keep, lget, lset, ent, i_getI, i_getJ, i_getR, i_getN, i_putI, i_putZ, i_putJ, i_putR, i_iald, i_bald, i_alen, i_aald, i_iast, i_bast, i_aast, i_new, i_newa, i_anew, i_oini, i_callS, i_callV, i_callI, popn, sh4, i_sw, swP, i_copy, i_binS, List.map, Option.toList_none, Option.toList_some, List.append, List.nil_append, List.cons_append, List.length_cons, List.length_nil, List.replicate, Nat.sub_self, Nat.reduceSub, Nat.reduceAdd, hK_pI, hL_pI, hI_pI, hR_pI, hJ_pI, hT_pI, hS_pI, hK_pR, hL_pR, hI_pR, hR_pR, hJ_pR, hT_pR, hS_pR, hK_pJ, hL_pJ, hI_pJ, hR_pJ, hJ_pJ, hT_pJ, hS_pJ, hK_wI, hL_wI, hI_wI, hR_wI, hJ_wI, hT_wI, hS_wI, eq_self, and_true, true_and, and_false, false_and, or_true, true_or, or_false, false_or, if_true, if_false, not_true_eq_false, not_false_eq_true, forall_const, implies_true, false_implies, true_implies, Option.some.injEq, forall_eq', exists_eq_left', reduceCtorEq, Nat.reduceEqDiff, c1, T_X12_in, T_X12_ones, T_X11_within, T_X11_bit, T_X11_isIn, T_X11_oneIfIn, T_J6_bitCount_0f7a4]
        exact hgo)
      rw [ew]
      have c1 := b1 (u2 (hI h) y 1 (nI (t1 + 1)))
      have c2 := b2 (u2 (hI h) y 1 (nI (t1 + 1)))
      have c4 := b4 (u2 (hI h) y 1 (nI (t1 + 1)))
      have hlr2 : LayR (wI h (u2 (hI h) y 1 (nI (t1 + 1)))) q := hlr
      refine s_X2_readTest_43 Q _ _ _ ?_
      generalize wI h (u2 (hI h) y 1 (nI (t1 + 1))) = H at c1 c2 c4 hlr2 hcall ⊢
      have hf := hlr2.f
      simp only [b_X2_readTest_43, i_push, i_ild, i_ald, i_ist, i_ast, i_inc, i_bin, i_un, i_divs, i_i2l, i_lshl, i_lor, i_dup, i_dup2, i_pop, i_if, i_cmp, i_nul, i_vret, i_iret, i_zret, i_aret, i_keep, keep, lget, lset, ent, i_getI, i_getJ, i_getR, i_getN, i_putI, i_putZ, i_putJ, i_putR, i_iald, i_bald, i_alen, i_aald, i_iast, i_bast, i_aast, i_new, i_newa, i_anew, i_oini, i_callS, i_callV, i_callI, popn, sh4, i_sw, swP, i_copy, i_binS, List.map, Option.toList_none, Option.toList_some, List.append, List.nil_append, List.cons_append, List.length_cons, List.length_nil, List.replicate, Nat.sub_self, Nat.reduceSub, Nat.reduceAdd, hK_pI, hL_pI, hI_pI, hR_pI, hJ_pI, hT_pI, hS_pI, hK_pR, hL_pR, hI_pR, hR_pR, hJ_pR, hT_pR, hS_pR, hK_pJ, hL_pJ, hI_pJ, hR_pJ, hJ_pJ, hT_pJ, hS_pJ, hK_wI, hL_wI, hI_wI, hR_wI, hJ_wI, hT_wI, hS_wI, eq_self, and_true, true_and, and_false, false_and, or_true, true_or, or_false, false_or, if_true, if_false, not_true_eq_false, not_false_eq_true, forall_const, implies_true, false_implies, true_implies, Option.some.injEq, forall_eq', exists_eq_left', reduceCtorEq, Nat.reduceEqDiff, c1, T_X12_in, T_X12_ones, T_X11_within, T_X11_bit, T_X11_isIn, T_X11_oneIfIn, T_J6_bitCount_0f7a4, c1, c2, c4, hf]
      exact hcall
    -- 115: the number
    have h115 : ∀ sg : Int32, K B L (t1 + 1) = sg → (sg = 60 ∨ sg = 62 ∨ sg = 61) → 262 ≤ K B L t1 → K B L t1 ≤ 268 → t1 + 2 ≤ N → wp 2 MX2_readTest Q 115 [some (.ref y), some (.int (nI k)), some (.int nt), some (.int (K B L t1)), some (.int sg), none] [] (wI h (u2 (hI h) y 1 (nI (t1 + 2)))) := by
      intro sg hsg hsg3 z1 z2 htN2
      obtain ⟨w, hw, ew⟩ := K_word z1 (Int32.le_trans z2 (by decide))
      have hval : hI (wI h (u2 (hI h) y 1 (nI (t1 + 2)))) (z + 3) (t1 + 2) = hI h (z + 3) (t1 + 2) := u2_ne (by omega)
      have hv2 : K B L (t1 + 2) = 2 → hI h (z + 3) (t1 + 2) = V B L (t1 + 2) := (htk.2.2.2.2 (t1 + 2) htN2).2.2
      have h134 : ∀ v : Int32, (v = 1 ∧ K B L (t1 + 2) = 2 ∧ t1 + 3 ≤ N ∨ v = 0 ∧ ¬ K B L (t1 + 2) = 2) → c_X2_readTest_134 Q [some (.ref y), some (.int (nI k)), some (.int nt), some (.int (nI (w + 262))), some (.int sg), some (.int (hI h (z + 3) (t1 + 2)))] [.int v] (wI h (u2 (hI h) y 1 (nI (if K B L (t1 + 2) = 2 then t1 + 3 else t1 + 2)))) := by
        intro v hv
        rcases hv with ⟨rfl, c, htN3⟩ | ⟨rfl, c⟩
        · rw [if_pos c]
          have hr1 : rT B L (lI k) n M s = (true, pWr M (lI k) n (wT B L s) sg (V B L (t1 + 2)), t1 + 3) := by
            unfold rT
            rw [← ht1, if_pos ⟨z1, z2⟩, if_pos (by rw [hsg]; exact hsg3), if_pos c, hsg]
          have hcall := hadd (t1 + 3) w nt sg (V B L (t1 + 2)) htN3 hw (hntw w hw ew) (fun r h' => c_X2_readTest_153 Q [some (.ref y), some (.int (nI k)), some (.int nt), some (.int (nI (w + 262))), some (.int sg), some (.int (hI h (z + 3) (t1 + 2)))] (r.toList ++ []) h') (fun g hg => by
            have hgo := hq1 g (by rw [hr1]) (by rw [hr1]; exact hg)
            show c_X2_readTest_153 Q _ [] (wI h g)
            generalize wI h g = H at hgo ⊢
            simp only [c_X2_readTest_153, i_push, i_ild, i_ald, i_ist, i_ast, i_inc, i_bin, i_un, i_divs, i_i2l, i_lshl, i_lor, i_dup, i_dup2, i_pop, i_if, i_cmp, i_nul, i_vret, i_iret, i_zret, i_aret, i_keep, keep, lget, lset, ent, i_getI, i_getJ, i_getR, i_getN, i_putI, i_putZ, i_putJ, i_putR, i_iald, i_bald, i_alen, i_aald, i_iast, i_bast, i_aast, i_new, i_newa, i_anew, i_oini, i_callS, i_callV, i_callI, popn, sh4, i_sw, swP, i_copy, i_binS, List.map, Option.toList_none, Option.toList_some, List.append, List.nil_append, List.cons_append, List.length_cons, List.length_nil, List.replicate, Nat.sub_self, Nat.reduceSub, Nat.reduceAdd, hK_pI, hL_pI, hI_pI, hR_pI, hJ_pI, hT_pI, hS_pI, hK_pR, hL_pR, hI_pR, hR_pR, hJ_pR, hT_pR, hS_pR, hK_pJ, hL_pJ, hI_pJ, hR_pJ, hJ_pJ, hT_pJ, hS_pJ, hK_wI, hL_wI, hI_wI, hR_wI, hJ_wI, hT_wI, hS_wI, eq_self, and_true, true_and, and_false, false_and, or_true, true_or, or_false, false_or, if_true, if_false, not_true_eq_false, not_false_eq_true, forall_const, implies_true, false_implies, true_implies, Option.some.injEq, forall_eq', exists_eq_left', reduceCtorEq, Nat.reduceEqDiff, c1, T_X12_in, T_X12_ones, T_X11_within, T_X11_bit, T_X11_isIn, T_X11_oneIfIn, T_J6_bitCount_0f7a4]
            exact hgo)
          rw [hv2 c] at hcall ⊢
          have c1 := b1 (u2 (hI h) y 1 (nI (t1 + 3)))
          have c2 := b2 (u2 (hI h) y 1 (nI (t1 + 3)))
          have c4 := b4 (u2 (hI h) y 1 (nI (t1 + 3)))
          have hlr2 : LayR (wI h (u2 (hI h) y 1 (nI (t1 + 3)))) q := hlr
          generalize wI h (u2 (hI h) y 1 (nI (t1 + 3))) = H at c1 c2 c4 hlr2 hcall ⊢
          generalize V B L (t1 + 2) = X at hcall ⊢
          have hf := hlr2.f
          simp only [c_X2_readTest_134, i_push, i_ild, i_ald, i_ist, i_ast, i_inc, i_bin, i_un, i_divs, i_i2l, i_lshl, i_lor, i_dup, i_dup2, i_pop, i_if, i_cmp, i_nul, i_vret, i_iret, i_zret, i_aret, i_keep, keep, lget, lset, ent, i_getI, i_getJ, i_getR, i_getN, i_putI, i_putZ, i_putJ, i_putR, i_iald, i_bald, i_alen, i_aald, i_iast, i_bast, i_aast, i_new, i_newa, i_anew, i_oini, i_callS, i_callV, i_callI, popn, sh4, i_sw, swP, i_copy, i_binS, List.map, Option.toList_none, Option.toList_some, List.append, List.nil_append, List.cons_append, List.length_cons, List.length_nil, List.replicate, Nat.sub_self, Nat.reduceSub, Nat.reduceAdd, hK_pI, hL_pI, hI_pI, hR_pI, hJ_pI, hT_pI, hS_pI, hK_pR, hL_pR, hI_pR, hR_pR, hJ_pR, hT_pR, hS_pR, hK_pJ, hL_pJ, hI_pJ, hR_pJ, hJ_pJ, hT_pJ, hS_pJ, hK_wI, hL_wI, hI_wI, hR_wI, hJ_wI, hT_wI, hS_wI, eq_self, and_true, true_and, and_false, false_and, or_true, true_or, or_false, false_or, if_true, if_false, not_true_eq_false, not_false_eq_true, forall_const, implies_true, false_implies, true_implies, Option.some.injEq, forall_eq', exists_eq_left', reduceCtorEq, Nat.reduceEqDiff, c1, T_X12_in, T_X12_ones, T_X11_within, T_X11_bit, T_X11_isIn, T_X11_oneIfIn, T_J6_bitCount_0f7a4, c1, c2, c4, hf, show ¬ (1 : Int32) = 0 by decide]
          exact hcall
        · rw [if_neg c]
          have hr1 : rT B L (lI k) n M s = (false, pFail M (nI (bgT B L (t1 + 2))), t1 + 2) := by
            unfold rT
            rw [← ht1, if_pos ⟨z1, z2⟩, if_pos (by rw [hsg]; exact hsg3), if_neg c]
          have hgo := hq0 (u2 (hI h) y 1 (nI (t1 + 2))) (by rw [hr1]) (fo _) (by rw [hr1]; exact f1 _) (by rw [hr1]; exact htN2)
          generalize wI h (u2 (hI h) y 1 (nI (t1 + 2))) = H at hgo ⊢
          simp only [c_X2_readTest_134, i_push, i_ild, i_ald, i_ist, i_ast, i_inc, i_bin, i_un, i_divs, i_i2l, i_lshl, i_lor, i_dup, i_dup2, i_pop, i_if, i_cmp, i_nul, i_vret, i_iret, i_zret, i_aret, i_keep, keep, lget, lset, ent, i_getI, i_getJ, i_getR, i_getN, i_putI, i_putZ, i_putJ, i_putR, i_iald, i_bald, i_alen, i_aald, i_iast, i_bast, i_aast, i_new, i_newa, i_anew, i_oini, i_callS, i_callV, i_callI, popn, sh4, i_sw, swP, i_copy, i_binS, List.map, Option.toList_none, Option.toList_some, List.append, List.nil_append, List.cons_append, List.length_cons, List.length_nil, List.replicate, Nat.sub_self, Nat.reduceSub, Nat.reduceAdd, hK_pI, hL_pI, hI_pI, hR_pI, hJ_pI, hT_pI, hS_pI, hK_pR, hL_pR, hI_pR, hR_pR, hJ_pR, hT_pR, hS_pR, hK_pJ, hL_pJ, hI_pJ, hR_pJ, hJ_pJ, hT_pJ, hS_pJ, hK_wI, hL_wI, hI_wI, hR_wI, hJ_wI, hT_wI, hS_wI, eq_self, and_true, true_and, and_false, false_and, or_true, true_or, or_false, false_or, if_true, if_false, not_true_eq_false, not_false_eq_true, forall_const, implies_true, false_implies, true_implies, Option.some.injEq, forall_eq', exists_eq_left', reduceCtorEq, Nat.reduceEqDiff, c1, T_X12_in, T_X12_ones, T_X11_within, T_X11_bit, T_X11_isIn, T_X11_oneIfIn, T_J6_bitCount_0f7a4]
          exact hgo
      have hsk := sk (t1 + 2) 2 (fun r h' => c_X2_readTest_134 Q [some (.ref y), some (.int (nI k)), some (.int nt), some (.int (nI (w + 262))), some (.int sg), some (.int (hI h (z + 3) (t1 + 2)))] (r.toList ++ []) h') htN2 (by decide) (fun c c2 => by
        have := h134 1 (Or.inl ⟨rfl, c, c2⟩)
        rw [if_pos c] at this
        exact this) (fun c => by
        have := h134 0 (Or.inr ⟨rfl, c⟩)
        rw [if_neg c] at this
        exact this)
      rw [ew]
      have c1 := b1 (u2 (hI h) y 1 (nI (t1 + 2)))
      have c2 := b2 (u2 (hI h) y 1 (nI (t1 + 2)))
      have c3 := b3 (u2 (hI h) y 1 (nI (t1 + 2)))
      have e1 : hI (wI h (u2 (hI h) y 1 (nI (t1 + 2)))) y 1 = nI (t1 + 2) := f1 _
      have hlt2 : LayT (wI h (u2 (hI h) y 1 (nI (t1 + 2)))) z L := hlt
      refine s_X2_readTest_115 Q _ _ _ ?_
      generalize wI h (u2 (hI h) y 1 (nI (t1 + 2))) = H at c1 c2 c3 e1 hlt2 hval hsk ⊢
      have hf := hlt2.f
      simp only [b_X2_readTest_115, i_push, i_ild, i_ald, i_ist, i_ast, i_inc, i_bin, i_un, i_divs, i_i2l, i_lshl, i_lor, i_dup, i_dup2, i_pop, i_if, i_cmp, i_nul, i_vret, i_iret, i_zret, i_aret, i_keep, keep, lget, lset, ent, i_getI, i_getJ, i_getR, i_getN, i_putI, i_putZ, i_putJ, i_putR, i_iald, i_bald, i_alen, i_aald, i_iast, i_bast, i_aast, i_new, i_newa, i_anew, i_oini, i_callS, i_callV, i_callI, popn, sh4, i_sw, swP, i_copy, i_binS, List.map, Option.toList_none, Option.toList_some, List.append, List.nil_append, List.cons_append, List.length_cons, List.length_nil, List.replicate, Nat.sub_self, Nat.reduceSub, Nat.reduceAdd, hK_pI, hL_pI, hI_pI, hR_pI, hJ_pI, hT_pI, hS_pI, hK_pR, hL_pR, hI_pR, hR_pR, hJ_pR, hT_pR, hS_pR, hK_pJ, hL_pJ, hI_pJ, hR_pJ, hJ_pJ, hT_pJ, hS_pJ, hK_wI, hL_wI, hI_wI, hR_wI, hJ_wI, hT_wI, hS_wI, eq_self, and_true, true_and, and_false, false_and, or_true, true_or, or_false, false_or, if_true, if_false, not_true_eq_false, not_false_eq_true, forall_const, implies_true, false_implies, true_implies, Option.some.injEq, forall_eq', exists_eq_left', reduceCtorEq, Nat.reduceEqDiff, c1, T_X12_in, T_X12_ones, T_X11_within, T_X11_bit, T_X11_isIn, T_X11_oneIfIn, T_J6_bitCount_0f7a4, c1, c2, c3, e1, hf, cl_nI (show t1 + 2 < 2147483648 by omega), in_nI (show t1 + 2 < L + 1 by omega) (by omega), hval]
      exact hsk
    -- 84: the sign
    have h84 : 262 ≤ K B L t1 → K B L t1 ≤ 268 → t1 + 1 ≤ N → c_X2_readTest_84 Q [some (.ref y), some (.int (nI k)), some (.int nt), some (.int (K B L t1)), none, none] [.int (K B L (t1 + 1))] (wI h (u2 (hI h) y 1 (nI (t1 + 1)))) := by
      intro z1 z2 htN1
      have c1 := b1 (u2 (hI h) y 1 (nI (t1 + 1)))
      have c2 := b2 (u2 (hI h) y 1 (nI (t1 + 1)))
      have hfail : ¬ (K B L (t1 + 1) = 60 ∨ K B L (t1 + 1) = 62 ∨ K B L (t1 + 1) = 61) → Q (some (.int 0)) (wI h (u2 (hI h) y 1 (nI (t1 + 1)))) := fun c => by
        have hr1 : rT B L (lI k) n M s = (false, pFail M (nI (bgT B L (t1 + 1))), t1 + 1) := by
          unfold rT
          rw [← ht1, if_pos ⟨z1, z2⟩, if_neg c]
        exact hq0 _ (by rw [hr1]) (fo _) (by rw [hr1]; exact f1 _) (by rw [hr1]; exact htN1)
      have g110 : ¬ K B L (t1 + 1) = 60 → ¬ K B L (t1 + 1) = 62 → T_X2_skip [.ref y, .int 61] (wI h (u2 (hI h) y 1 (nI (t1 + 1)))) (fun r h' => c_X2_readTest_110 Q [some (.ref y), some (.int (nI k)), some (.int nt), some (.int (K B L t1)), some (.int (K B L (t1 + 1))), none] (r.toList ++ []) h') := fun d1 d2 => by
        refine sk (t1 + 1) 61 _ htN1 (by decide) (fun c c2 => ?_) (fun c => ?_)
        · have hgo := h115 (K B L (t1 + 1)) rfl (Or.inr (Or.inr c)) z1 z2 c2
          show c_X2_readTest_110 Q _ [.int 1] (wI h (u2 (hI h) y 1 (nI (t1 + 2))))
          generalize wI h (u2 (hI h) y 1 (nI (t1 + 2))) = H at hgo ⊢
          generalize K B L (t1 + 1) = X at hgo ⊢
          generalize K B L t1 = Y at hgo ⊢
          simp only [c_X2_readTest_110, i_push, i_ild, i_ald, i_ist, i_ast, i_inc, i_bin, i_un, i_divs, i_i2l, i_lshl, i_lor, i_dup, i_dup2, i_pop, i_if, i_cmp, i_nul, i_vret, i_iret, i_zret, i_aret, i_keep, keep, lget, lset, ent, i_getI, i_getJ, i_getR, i_getN, i_putI, i_putZ, i_putJ, i_putR, i_iald, i_bald, i_alen, i_aald, i_iast, i_bast, i_aast, i_new, i_newa, i_anew, i_oini, i_callS, i_callV, i_callI, popn, sh4, i_sw, swP, i_copy, i_binS, List.map, Option.toList_none, Option.toList_some, List.append, List.nil_append, List.cons_append, List.length_cons, List.length_nil, List.replicate, Nat.sub_self, Nat.reduceSub, Nat.reduceAdd, hK_pI, hL_pI, hI_pI, hR_pI, hJ_pI, hT_pI, hS_pI, hK_pR, hL_pR, hI_pR, hR_pR, hJ_pR, hT_pR, hS_pR, hK_pJ, hL_pJ, hI_pJ, hR_pJ, hJ_pJ, hT_pJ, hS_pJ, hK_wI, hL_wI, hI_wI, hR_wI, hJ_wI, hT_wI, hS_wI, eq_self, and_true, true_and, and_false, false_and, or_true, true_or, or_false, false_or, if_true, if_false, not_true_eq_false, not_false_eq_true, forall_const, implies_true, false_implies, true_implies, Option.some.injEq, forall_eq', exists_eq_left', reduceCtorEq, Nat.reduceEqDiff, c1, T_X12_in, T_X12_ones, T_X11_within, T_X11_bit, T_X11_isIn, T_X11_oneIfIn, T_J6_bitCount_0f7a4, show ¬ (1 : Int32) = 0 by decide]
          exact hgo
        · have hgo := hfail (fun w => by rcases w with w | w | w; exact d1 w; exact d2 w; exact c w)
          show c_X2_readTest_110 Q _ [.int 0] (wI h (u2 (hI h) y 1 (nI (t1 + 1))))
          generalize wI h (u2 (hI h) y 1 (nI (t1 + 1))) = H at hgo ⊢
          simp only [c_X2_readTest_110, i_push, i_ild, i_ald, i_ist, i_ast, i_inc, i_bin, i_un, i_divs, i_i2l, i_lshl, i_lor, i_dup, i_dup2, i_pop, i_if, i_cmp, i_nul, i_vret, i_iret, i_zret, i_aret, i_keep, keep, lget, lset, ent, i_getI, i_getJ, i_getR, i_getN, i_putI, i_putZ, i_putJ, i_putR, i_iald, i_bald, i_alen, i_aald, i_iast, i_bast, i_aast, i_new, i_newa, i_anew, i_oini, i_callS, i_callV, i_callI, popn, sh4, i_sw, swP, i_copy, i_binS, List.map, Option.toList_none, Option.toList_some, List.append, List.nil_append, List.cons_append, List.length_cons, List.length_nil, List.replicate, Nat.sub_self, Nat.reduceSub, Nat.reduceAdd, hK_pI, hL_pI, hI_pI, hR_pI, hJ_pI, hT_pI, hS_pI, hK_pR, hL_pR, hI_pR, hR_pR, hJ_pR, hT_pR, hS_pR, hK_pJ, hL_pJ, hI_pJ, hR_pJ, hJ_pJ, hT_pJ, hS_pJ, hK_wI, hL_wI, hI_wI, hR_wI, hJ_wI, hT_wI, hS_wI, eq_self, and_true, true_and, and_false, false_and, or_true, true_or, or_false, false_or, if_true, if_false, not_true_eq_false, not_false_eq_true, forall_const, implies_true, false_implies, true_implies, Option.some.injEq, forall_eq', exists_eq_left', reduceCtorEq, Nat.reduceEqDiff, c1, T_X12_in, T_X12_ones, T_X11_within, T_X11_bit, T_X11_isIn, T_X11_oneIfIn, T_J6_bitCount_0f7a4]
          exact hgo
      have g101 : ¬ K B L (t1 + 1) = 60 → T_X2_skip [.ref y, .int 62] (wI h (u2 (hI h) y 1 (nI (t1 + 1)))) (fun r h' => c_X2_readTest_101 Q [some (.ref y), some (.int (nI k)), some (.int nt), some (.int (K B L t1)), some (.int (K B L (t1 + 1))), none] (r.toList ++ []) h') := fun d1 => by
        refine sk (t1 + 1) 62 _ htN1 (by decide) (fun c c2 => ?_) (fun c => ?_)
        · have hgo := h115 (K B L (t1 + 1)) rfl (Or.inr (Or.inl c)) z1 z2 c2
          show c_X2_readTest_101 Q _ [.int 1] (wI h (u2 (hI h) y 1 (nI (t1 + 2))))
          generalize wI h (u2 (hI h) y 1 (nI (t1 + 2))) = H at hgo ⊢
          generalize K B L (t1 + 1) = X at hgo ⊢
          generalize K B L t1 = Y at hgo ⊢
          simp only [c_X2_readTest_101, i_push, i_ild, i_ald, i_ist, i_ast, i_inc, i_bin, i_un, i_divs, i_i2l, i_lshl, i_lor, i_dup, i_dup2, i_pop, i_if, i_cmp, i_nul, i_vret, i_iret, i_zret, i_aret, i_keep, keep, lget, lset, ent, i_getI, i_getJ, i_getR, i_getN, i_putI, i_putZ, i_putJ, i_putR, i_iald, i_bald, i_alen, i_aald, i_iast, i_bast, i_aast, i_new, i_newa, i_anew, i_oini, i_callS, i_callV, i_callI, popn, sh4, i_sw, swP, i_copy, i_binS, List.map, Option.toList_none, Option.toList_some, List.append, List.nil_append, List.cons_append, List.length_cons, List.length_nil, List.replicate, Nat.sub_self, Nat.reduceSub, Nat.reduceAdd, hK_pI, hL_pI, hI_pI, hR_pI, hJ_pI, hT_pI, hS_pI, hK_pR, hL_pR, hI_pR, hR_pR, hJ_pR, hT_pR, hS_pR, hK_pJ, hL_pJ, hI_pJ, hR_pJ, hJ_pJ, hT_pJ, hS_pJ, hK_wI, hL_wI, hI_wI, hR_wI, hJ_wI, hT_wI, hS_wI, eq_self, and_true, true_and, and_false, false_and, or_true, true_or, or_false, false_or, if_true, if_false, not_true_eq_false, not_false_eq_true, forall_const, implies_true, false_implies, true_implies, Option.some.injEq, forall_eq', exists_eq_left', reduceCtorEq, Nat.reduceEqDiff, c1, T_X12_in, T_X12_ones, T_X11_within, T_X11_bit, T_X11_isIn, T_X11_oneIfIn, T_J6_bitCount_0f7a4, show ¬ (1 : Int32) = 0 by decide]
          exact hgo
        · have hgo := g110 d1 c
          show c_X2_readTest_101 Q _ [.int 0] (wI h (u2 (hI h) y 1 (nI (t1 + 1))))
          generalize wI h (u2 (hI h) y 1 (nI (t1 + 1))) = H at c1 c2 hgo ⊢
          generalize K B L (t1 + 1) = X at hgo ⊢
          generalize K B L t1 = Y at hgo ⊢
          simp only [c_X2_readTest_101, i_push, i_ild, i_ald, i_ist, i_ast, i_inc, i_bin, i_un, i_divs, i_i2l, i_lshl, i_lor, i_dup, i_dup2, i_pop, i_if, i_cmp, i_nul, i_vret, i_iret, i_zret, i_aret, i_keep, keep, lget, lset, ent, i_getI, i_getJ, i_getR, i_getN, i_putI, i_putZ, i_putJ, i_putR, i_iald, i_bald, i_alen, i_aald, i_iast, i_bast, i_aast, i_new, i_newa, i_anew, i_oini, i_callS, i_callV, i_callI, popn, sh4, i_sw, swP, i_copy, i_binS, List.map, Option.toList_none, Option.toList_some, List.append, List.nil_append, List.cons_append, List.length_cons, List.length_nil, List.replicate, Nat.sub_self, Nat.reduceSub, Nat.reduceAdd, hK_pI, hL_pI, hI_pI, hR_pI, hJ_pI, hT_pI, hS_pI, hK_pR, hL_pR, hI_pR, hR_pR, hJ_pR, hT_pR, hS_pR, hK_pJ, hL_pJ, hI_pJ, hR_pJ, hJ_pJ, hT_pJ, hS_pJ, hK_wI, hL_wI, hI_wI, hR_wI, hJ_wI, hT_wI, hS_wI, eq_self, and_true, true_and, and_false, false_and, or_true, true_or, or_false, false_or, if_true, if_false, not_true_eq_false, not_false_eq_true, forall_const, implies_true, false_implies, true_implies, Option.some.injEq, forall_eq', exists_eq_left', reduceCtorEq, Nat.reduceEqDiff, c1, T_X12_in, T_X12_ones, T_X11_within, T_X11_bit, T_X11_isIn, T_X11_oneIfIn, T_J6_bitCount_0f7a4, c1, c2]
          exact hgo
      have g92 : T_X2_skip [.ref y, .int 60] (wI h (u2 (hI h) y 1 (nI (t1 + 1)))) (fun r h' => c_X2_readTest_92 Q [some (.ref y), some (.int (nI k)), some (.int nt), some (.int (K B L t1)), some (.int (K B L (t1 + 1))), none] (r.toList ++ []) h') := by
        refine sk (t1 + 1) 60 _ htN1 (by decide) (fun c c2 => ?_) (fun c => ?_)
        · have hgo := h115 (K B L (t1 + 1)) rfl (Or.inl c) z1 z2 c2
          show c_X2_readTest_92 Q _ [.int 1] (wI h (u2 (hI h) y 1 (nI (t1 + 2))))
          generalize wI h (u2 (hI h) y 1 (nI (t1 + 2))) = H at hgo ⊢
          generalize K B L (t1 + 1) = X at hgo ⊢
          generalize K B L t1 = Y at hgo ⊢
          simp only [c_X2_readTest_92, i_push, i_ild, i_ald, i_ist, i_ast, i_inc, i_bin, i_un, i_divs, i_i2l, i_lshl, i_lor, i_dup, i_dup2, i_pop, i_if, i_cmp, i_nul, i_vret, i_iret, i_zret, i_aret, i_keep, keep, lget, lset, ent, i_getI, i_getJ, i_getR, i_getN, i_putI, i_putZ, i_putJ, i_putR, i_iald, i_bald, i_alen, i_aald, i_iast, i_bast, i_aast, i_new, i_newa, i_anew, i_oini, i_callS, i_callV, i_callI, popn, sh4, i_sw, swP, i_copy, i_binS, List.map, Option.toList_none, Option.toList_some, List.append, List.nil_append, List.cons_append, List.length_cons, List.length_nil, List.replicate, Nat.sub_self, Nat.reduceSub, Nat.reduceAdd, hK_pI, hL_pI, hI_pI, hR_pI, hJ_pI, hT_pI, hS_pI, hK_pR, hL_pR, hI_pR, hR_pR, hJ_pR, hT_pR, hS_pR, hK_pJ, hL_pJ, hI_pJ, hR_pJ, hJ_pJ, hT_pJ, hS_pJ, hK_wI, hL_wI, hI_wI, hR_wI, hJ_wI, hT_wI, hS_wI, eq_self, and_true, true_and, and_false, false_and, or_true, true_or, or_false, false_or, if_true, if_false, not_true_eq_false, not_false_eq_true, forall_const, implies_true, false_implies, true_implies, Option.some.injEq, forall_eq', exists_eq_left', reduceCtorEq, Nat.reduceEqDiff, c1, T_X12_in, T_X12_ones, T_X11_within, T_X11_bit, T_X11_isIn, T_X11_oneIfIn, T_J6_bitCount_0f7a4, show ¬ (1 : Int32) = 0 by decide]
          exact hgo
        · have hgo := g101 c
          show c_X2_readTest_92 Q _ [.int 0] (wI h (u2 (hI h) y 1 (nI (t1 + 1))))
          generalize wI h (u2 (hI h) y 1 (nI (t1 + 1))) = H at c1 c2 hgo ⊢
          generalize K B L (t1 + 1) = X at hgo ⊢
          generalize K B L t1 = Y at hgo ⊢
          simp only [c_X2_readTest_92, i_push, i_ild, i_ald, i_ist, i_ast, i_inc, i_bin, i_un, i_divs, i_i2l, i_lshl, i_lor, i_dup, i_dup2, i_pop, i_if, i_cmp, i_nul, i_vret, i_iret, i_zret, i_aret, i_keep, keep, lget, lset, ent, i_getI, i_getJ, i_getR, i_getN, i_putI, i_putZ, i_putJ, i_putR, i_iald, i_bald, i_alen, i_aald, i_iast, i_bast, i_aast, i_new, i_newa, i_anew, i_oini, i_callS, i_callV, i_callI, popn, sh4, i_sw, swP, i_copy, i_binS, List.map, Option.toList_none, Option.toList_some, List.append, List.nil_append, List.cons_append, List.length_cons, List.length_nil, List.replicate, Nat.sub_self, Nat.reduceSub, Nat.reduceAdd, hK_pI, hL_pI, hI_pI, hR_pI, hJ_pI, hT_pI, hS_pI, hK_pR, hL_pR, hI_pR, hR_pR, hJ_pR, hT_pR, hS_pR, hK_pJ, hL_pJ, hI_pJ, hR_pJ, hJ_pJ, hT_pJ, hS_pJ, hK_wI, hL_wI, hI_wI, hR_wI, hJ_wI, hT_wI, hS_wI, eq_self, and_true, true_and, and_false, false_and, or_true, true_or, or_false, false_or, if_true, if_false, not_true_eq_false, not_false_eq_true, forall_const, implies_true, false_implies, true_implies, Option.some.injEq, forall_eq', exists_eq_left', reduceCtorEq, Nat.reduceEqDiff, c1, T_X12_in, T_X12_ones, T_X11_within, T_X11_bit, T_X11_isIn, T_X11_oneIfIn, T_J6_bitCount_0f7a4, c1, c2]
          exact hgo
      generalize wI h (u2 (hI h) y 1 (nI (t1 + 1))) = H at c1 c2 g92 ⊢
      generalize K B L (t1 + 1) = X at g92 ⊢
      generalize K B L t1 = Y at g92 ⊢
      simp only [c_X2_readTest_84, i_push, i_ild, i_ald, i_ist, i_ast, i_inc, i_bin, i_un, i_divs, i_i2l, i_lshl, i_lor, i_dup, i_dup2, i_pop, i_if, i_cmp, i_nul, i_vret, i_iret, i_zret, i_aret, i_keep, keep, lget, lset, ent, i_getI, i_getJ, i_getR, i_getN, i_putI, i_putZ, i_putJ, i_putR, i_iald, i_bald, i_alen, i_aald, i_iast, i_bast, i_aast, i_new, i_newa, i_anew, i_oini, i_callS, i_callV, i_callI, popn, sh4, i_sw, swP, i_copy, i_binS, List.map, Option.toList_none, Option.toList_some, List.append, List.nil_append, List.cons_append, List.length_cons, List.length_nil, List.replicate, Nat.sub_self, Nat.reduceSub, Nat.reduceAdd, hK_pI, hL_pI, hI_pI, hR_pI, hJ_pI, hT_pI, hS_pI, hK_pR, hL_pR, hI_pR, hR_pR, hJ_pR, hT_pR, hS_pR, hK_pJ, hL_pJ, hI_pJ, hR_pJ, hJ_pJ, hT_pJ, hS_pJ, hK_wI, hL_wI, hI_wI, hR_wI, hJ_wI, hT_wI, hS_wI, eq_self, and_true, true_and, and_false, false_and, or_true, true_or, or_false, false_or, if_true, if_false, not_true_eq_false, not_false_eq_true, forall_const, implies_true, false_implies, true_implies, Option.some.injEq, forall_eq', exists_eq_left', reduceCtorEq, Nat.reduceEqDiff, c1, T_X12_in, T_X12_ones, T_X11_within, T_X11_bit, T_X11_isIn, T_X11_oneIfIn, T_J6_bitCount_0f7a4, c1, c2]
      exact g92
    -- 79: behind the subject
    have h79 : ∀ v : Int32, 262 ≤ K B L t1 → K B L t1 ≤ 268 → t1 + 1 ≤ N → c_X2_readTest_79 Q [some (.ref y), some (.int (nI k)), some (.int nt), some (.int (K B L t1)), none, none] [.int v] (wI h (u2 (hI h) y 1 (nI (t1 + 1)))) := by
      intro v z1 z2 htN1
      have hgo := kd (t1 + 1) (fun r h' => c_X2_readTest_84 Q [some (.ref y), some (.int (nI k)), some (.int nt), some (.int (K B L t1)), none, none] (r.toList ++ []) h') htN1 (h84 z1 z2 htN1)
      have c1 := b1 (u2 (hI h) y 1 (nI (t1 + 1)))
      have c2 := b2 (u2 (hI h) y 1 (nI (t1 + 1)))
      generalize wI h (u2 (hI h) y 1 (nI (t1 + 1))) = H at c1 c2 hgo ⊢
      generalize K B L t1 = Y at hgo ⊢
      simp only [c_X2_readTest_79, i_push, i_ild, i_ald, i_ist, i_ast, i_inc, i_bin, i_un, i_divs, i_i2l, i_lshl, i_lor, i_dup, i_dup2, i_pop, i_if, i_cmp, i_nul, i_vret, i_iret, i_zret, i_aret, i_keep, keep, lget, lset, ent, i_getI, i_getJ, i_getR, i_getN, i_putI, i_putZ, i_putJ, i_putR, i_iald, i_bald, i_alen, i_aald, i_iast, i_bast, i_aast, i_new, i_newa, i_anew, i_oini, i_callS, i_callV, i_callI, popn, sh4, i_sw, swP, i_copy, i_binS, List.map, Option.toList_none, Option.toList_some, List.append, List.nil_append, List.cons_append, List.length_cons, List.length_nil, List.replicate, Nat.sub_self, Nat.reduceSub, Nat.reduceAdd, hK_pI, hL_pI, hI_pI, hR_pI, hJ_pI, hT_pI, hS_pI, hK_pR, hL_pR, hI_pR, hR_pR, hJ_pR, hT_pR, hS_pR, hK_pJ, hL_pJ, hI_pJ, hR_pJ, hJ_pJ, hT_pJ, hS_pJ, hK_wI, hL_wI, hI_wI, hR_wI, hJ_wI, hT_wI, hS_wI, eq_self, and_true, true_and, and_false, false_and, or_true, true_or, or_false, false_or, if_true, if_false, not_true_eq_false, not_false_eq_true, forall_const, implies_true, false_implies, true_implies, Option.some.injEq, forall_eq', exists_eq_left', reduceCtorEq, Nat.reduceEqDiff, c1, T_X12_in, T_X12_ones, T_X11_within, T_X11_bit, T_X11_isIn, T_X11_oneIfIn, T_J6_bitCount_0f7a4, c1, c2]
      exact hgo
    -- 40 with none of the three: the range
    have c1 := b1 (u2 (hI h) y 1 (nI t1))
    have c2 := b2 (u2 (hI h) y 1 (nI t1))
    have hrange : ¬ K B L t1 = 269 → ¬ K B L t1 = 270 → ¬ K B L t1 = 271 → c_X2_readTest_40 Q [some (.ref y), some (.int (nI k)), some (.int nt), some (.int (K B L t1)), none, none] [.int 0] (wI h (u2 (hI h) y 1 (nI t1))) := by
      intro d1 d2 d3
      have hno : ¬ (269 ≤ K B L t1 ∧ K B L t1 ≤ 271) := fun c => by
        obtain ⟨w, hw, ew⟩ := K_word (Int32.le_trans (by decide) c.1) c.2
        rw [ew] at d1 d2 d3 c
        have q1 : ¬ w + 262 = 269 := fun e => d1 (by rw [e]; rfl)
        have q2 : ¬ w + 262 = 270 := fun e => d2 (by rw [e]; rfl)
        have q3 : ¬ w + 262 = 271 := fun e => d3 (by rw [e]; rfl)
        have a1 : (269 : Int32) ≤ nI (w + 262) ↔ 269 ≤ w + 262 := nI_leI (a := 269) (by decide) (by omega)
        have := a1.mp c.1
        omega
      have hfail : ¬ (262 ≤ K B L t1 ∧ K B L t1 ≤ 268) → Q (some (.int 0)) (wI h (u2 (hI h) y 1 (nI t1))) := fun c => by
        have hr1 : rT B L (lI k) n M s = (false, pFail M (nI (bgT B L t1)), t1) := by
          unfold rT
          rw [← ht1, if_neg c, if_neg hno]
        exact hq0 _ (by rw [hr1]) (fo _) (by rw [hr1]; exact f1 _) (by rw [hr1]; exact htN)
      have hgo : 262 ≤ K B L t1 → K B L t1 ≤ 268 → T_X2_skip [.ref y, .int (K B L t1)] (wI h (u2 (hI h) y 1 (nI t1))) (fun r h' => c_X2_readTest_79 Q [some (.ref y), some (.int (nI k)), some (.int nt), some (.int (K B L t1)), none, none] (r.toList ++ []) h') := fun z1 z2 => sk t1 (K B L t1) _ htN (fun e => by rw [e] at z1; exact absurd z1 (by decide)) (fun _ c2 => h79 1 z1 z2 c2) (fun c => absurd rfl c)
      generalize wI h (u2 (hI h) y 1 (nI t1)) = H at c1 c2 hfail hgo ⊢
      generalize K B L t1 = Y at hfail hgo ⊢
      simp only [c_X2_readTest_40, i_push, i_ild, i_ald, i_ist, i_ast, i_inc, i_bin, i_un, i_divs, i_i2l, i_lshl, i_lor, i_dup, i_dup2, i_pop, i_if, i_cmp, i_nul, i_vret, i_iret, i_zret, i_aret, i_keep, keep, lget, lset, ent, i_getI, i_getJ, i_getR, i_getN, i_putI, i_putZ, i_putJ, i_putR, i_iald, i_bald, i_alen, i_aald, i_iast, i_bast, i_aast, i_new, i_newa, i_anew, i_oini, i_callS, i_callV, i_callI, popn, sh4, i_sw, swP, i_copy, i_binS, List.map, Option.toList_none, Option.toList_some, List.append, List.nil_append, List.cons_append, List.length_cons, List.length_nil, List.replicate, Nat.sub_self, Nat.reduceSub, Nat.reduceAdd, hK_pI, hL_pI, hI_pI, hR_pI, hJ_pI, hT_pI, hS_pI, hK_pR, hL_pR, hI_pR, hR_pR, hJ_pR, hT_pR, hS_pR, hK_pJ, hL_pJ, hI_pJ, hR_pJ, hJ_pJ, hT_pJ, hS_pJ, hK_wI, hL_wI, hI_wI, hR_wI, hJ_wI, hT_wI, hS_wI, eq_self, and_true, true_and, and_false, false_and, or_true, true_or, or_false, false_or, if_true, if_false, not_true_eq_false, not_false_eq_true, forall_const, implies_true, false_implies, true_implies, Option.some.injEq, forall_eq', exists_eq_left', reduceCtorEq, Nat.reduceEqDiff, c1, T_X12_in, T_X12_ones, T_X11_within, T_X11_bit, T_X11_isIn, T_X11_oneIfIn, T_J6_bitCount_0f7a4, c1, c2]
      refine ⟨fun w => hfail (fun v => absurd v.1 (Int32.not_le.mpr w)), fun w => ⟨fun v => hgo (Int32.not_lt.mp w) v, fun v => hfail (fun u => v u.2)⟩⟩
    have g40 : ¬ K B L t1 = 269 → ¬ K B L t1 = 270 → T_X2_skip [.ref y, .int 271] (wI h (u2 (hI h) y 1 (nI t1))) (fun r h' => c_X2_readTest_40 Q [some (.ref y), some (.int (nI k)), some (.int nt), some (.int (K B L t1)), none, none] (r.toList ++ []) h') := fun d1 d2 => by
      refine sk t1 271 _ htN (by decide) (fun c cN => ?_) (fun c => hrange d1 d2 c)
      have hgo := h43 (by rw [c]; decide) (by rw [c]; decide) cN
      show c_X2_readTest_40 Q _ [.int 1] (wI h (u2 (hI h) y 1 (nI (t1 + 1))))
      generalize wI h (u2 (hI h) y 1 (nI (t1 + 1))) = H at hgo ⊢
      generalize K B L t1 = Y at hgo ⊢
      simp only [c_X2_readTest_40, i_push, i_ild, i_ald, i_ist, i_ast, i_inc, i_bin, i_un, i_divs, i_i2l, i_lshl, i_lor, i_dup, i_dup2, i_pop, i_if, i_cmp, i_nul, i_vret, i_iret, i_zret, i_aret, i_keep, keep, lget, lset, ent, i_getI, i_getJ, i_getR, i_getN, i_putI, i_putZ, i_putJ, i_putR, i_iald, i_bald, i_alen, i_aald, i_iast, i_bast, i_aast, i_new, i_newa, i_anew, i_oini, i_callS, i_callV, i_callI, popn, sh4, i_sw, swP, i_copy, i_binS, List.map, Option.toList_none, Option.toList_some, List.append, List.nil_append, List.cons_append, List.length_cons, List.length_nil, List.replicate, Nat.sub_self, Nat.reduceSub, Nat.reduceAdd, hK_pI, hL_pI, hI_pI, hR_pI, hJ_pI, hT_pI, hS_pI, hK_pR, hL_pR, hI_pR, hR_pR, hJ_pR, hT_pR, hS_pR, hK_pJ, hL_pJ, hI_pJ, hR_pJ, hJ_pJ, hT_pJ, hS_pJ, hK_wI, hL_wI, hI_wI, hR_wI, hJ_wI, hT_wI, hS_wI, eq_self, and_true, true_and, and_false, false_and, or_true, true_or, or_false, false_or, if_true, if_false, not_true_eq_false, not_false_eq_true, forall_const, implies_true, false_implies, true_implies, Option.some.injEq, forall_eq', exists_eq_left', reduceCtorEq, Nat.reduceEqDiff, c1, T_X12_in, T_X12_ones, T_X11_within, T_X11_bit, T_X11_isIn, T_X11_oneIfIn, T_J6_bitCount_0f7a4, show ¬ (1 : Int32) = 0 by decide]
      exact hgo
    have g30 : ¬ K B L t1 = 269 → T_X2_skip [.ref y, .int 270] (wI h (u2 (hI h) y 1 (nI t1))) (fun r h' => c_X2_readTest_30 Q [some (.ref y), some (.int (nI k)), some (.int nt), some (.int (K B L t1)), none, none] (r.toList ++ []) h') := fun d1 => by
      refine sk t1 270 _ htN (by decide) (fun c cN => ?_) (fun c => ?_)
      · have hgo := h43 (by rw [c]; decide) (by rw [c]; decide) cN
        show c_X2_readTest_30 Q _ [.int 1] (wI h (u2 (hI h) y 1 (nI (t1 + 1))))
        generalize wI h (u2 (hI h) y 1 (nI (t1 + 1))) = H at hgo ⊢
        generalize K B L t1 = Y at hgo ⊢
        simp only [c_X2_readTest_30, i_push, i_ild, i_ald, i_ist, i_ast, i_inc, i_bin, i_un, i_divs, i_i2l, i_lshl, i_lor, i_dup, i_dup2, i_pop, i_if, i_cmp, i_nul, i_vret, i_iret, i_zret, i_aret, i_keep, keep, lget, lset, ent, i_getI, i_getJ, i_getR, i_getN, i_putI, i_putZ, i_putJ, i_putR, i_iald, i_bald, i_alen, i_aald, i_iast, i_bast, i_aast, i_new, i_newa, i_anew, i_oini, i_callS, i_callV, i_callI, popn, sh4, i_sw, swP, i_copy, i_binS, List.map, Option.toList_none, Option.toList_some, List.append, List.nil_append, List.cons_append, List.length_cons, List.length_nil, List.replicate, Nat.sub_self, Nat.reduceSub, Nat.reduceAdd, hK_pI, hL_pI, hI_pI, hR_pI, hJ_pI, hT_pI, hS_pI, hK_pR, hL_pR, hI_pR, hR_pR, hJ_pR, hT_pR, hS_pR, hK_pJ, hL_pJ, hI_pJ, hR_pJ, hJ_pJ, hT_pJ, hS_pJ, hK_wI, hL_wI, hI_wI, hR_wI, hJ_wI, hT_wI, hS_wI, eq_self, and_true, true_and, and_false, false_and, or_true, true_or, or_false, false_or, if_true, if_false, not_true_eq_false, not_false_eq_true, forall_const, implies_true, false_implies, true_implies, Option.some.injEq, forall_eq', exists_eq_left', reduceCtorEq, Nat.reduceEqDiff, c1, T_X12_in, T_X12_ones, T_X11_within, T_X11_bit, T_X11_isIn, T_X11_oneIfIn, T_J6_bitCount_0f7a4, show ¬ (1 : Int32) = 0 by decide]
        exact hgo
      · have hgo := g40 d1 c
        show c_X2_readTest_30 Q _ [.int 0] (wI h (u2 (hI h) y 1 (nI t1)))
        generalize wI h (u2 (hI h) y 1 (nI t1)) = H at c1 c2 hgo ⊢
        generalize K B L t1 = Y at hgo ⊢
        simp only [c_X2_readTest_30, i_push, i_ild, i_ald, i_ist, i_ast, i_inc, i_bin, i_un, i_divs, i_i2l, i_lshl, i_lor, i_dup, i_dup2, i_pop, i_if, i_cmp, i_nul, i_vret, i_iret, i_zret, i_aret, i_keep, keep, lget, lset, ent, i_getI, i_getJ, i_getR, i_getN, i_putI, i_putZ, i_putJ, i_putR, i_iald, i_bald, i_alen, i_aald, i_iast, i_bast, i_aast, i_new, i_newa, i_anew, i_oini, i_callS, i_callV, i_callI, popn, sh4, i_sw, swP, i_copy, i_binS, List.map, Option.toList_none, Option.toList_some, List.append, List.nil_append, List.cons_append, List.length_cons, List.length_nil, List.replicate, Nat.sub_self, Nat.reduceSub, Nat.reduceAdd, hK_pI, hL_pI, hI_pI, hR_pI, hJ_pI, hT_pI, hS_pI, hK_pR, hL_pR, hI_pR, hR_pR, hJ_pR, hT_pR, hS_pR, hK_pJ, hL_pJ, hI_pJ, hR_pJ, hJ_pJ, hT_pJ, hS_pJ, hK_wI, hL_wI, hI_wI, hR_wI, hJ_wI, hT_wI, hS_wI, eq_self, and_true, true_and, and_false, false_and, or_true, true_or, or_false, false_or, if_true, if_false, not_true_eq_false, not_false_eq_true, forall_const, implies_true, false_implies, true_implies, Option.some.injEq, forall_eq', exists_eq_left', reduceCtorEq, Nat.reduceEqDiff, c1, T_X12_in, T_X12_ones, T_X11_within, T_X11_bit, T_X11_isIn, T_X11_oneIfIn, T_J6_bitCount_0f7a4, c1, c2]
        exact hgo
    have g20 : T_X2_skip [.ref y, .int 269] (wI h (u2 (hI h) y 1 (nI t1))) (fun r h' => c_X2_readTest_20 Q [some (.ref y), some (.int (nI k)), some (.int nt), some (.int (K B L t1)), none, none] (r.toList ++ []) h') := by
      refine sk t1 269 _ htN (by decide) (fun c cN => ?_) (fun c => ?_)
      · have hgo := h43 (by rw [c]; decide) (by rw [c]; decide) cN
        show c_X2_readTest_20 Q _ [.int 1] (wI h (u2 (hI h) y 1 (nI (t1 + 1))))
        generalize wI h (u2 (hI h) y 1 (nI (t1 + 1))) = H at hgo ⊢
        generalize K B L t1 = Y at hgo ⊢
        simp only [c_X2_readTest_20, i_push, i_ild, i_ald, i_ist, i_ast, i_inc, i_bin, i_un, i_divs, i_i2l, i_lshl, i_lor, i_dup, i_dup2, i_pop, i_if, i_cmp, i_nul, i_vret, i_iret, i_zret, i_aret, i_keep, keep, lget, lset, ent, i_getI, i_getJ, i_getR, i_getN, i_putI, i_putZ, i_putJ, i_putR, i_iald, i_bald, i_alen, i_aald, i_iast, i_bast, i_aast, i_new, i_newa, i_anew, i_oini, i_callS, i_callV, i_callI, popn, sh4, i_sw, swP, i_copy, i_binS, List.map, Option.toList_none, Option.toList_some, List.append, List.nil_append, List.cons_append, List.length_cons, List.length_nil, List.replicate, Nat.sub_self, Nat.reduceSub, Nat.reduceAdd, hK_pI, hL_pI, hI_pI, hR_pI, hJ_pI, hT_pI, hS_pI, hK_pR, hL_pR, hI_pR, hR_pR, hJ_pR, hT_pR, hS_pR, hK_pJ, hL_pJ, hI_pJ, hR_pJ, hJ_pJ, hT_pJ, hS_pJ, hK_wI, hL_wI, hI_wI, hR_wI, hJ_wI, hT_wI, hS_wI, eq_self, and_true, true_and, and_false, false_and, or_true, true_or, or_false, false_or, if_true, if_false, not_true_eq_false, not_false_eq_true, forall_const, implies_true, false_implies, true_implies, Option.some.injEq, forall_eq', exists_eq_left', reduceCtorEq, Nat.reduceEqDiff, c1, T_X12_in, T_X12_ones, T_X11_within, T_X11_bit, T_X11_isIn, T_X11_oneIfIn, T_J6_bitCount_0f7a4, show ¬ (1 : Int32) = 0 by decide]
        exact hgo
      · have hgo := g30 c
        show c_X2_readTest_20 Q _ [.int 0] (wI h (u2 (hI h) y 1 (nI t1)))
        generalize wI h (u2 (hI h) y 1 (nI t1)) = H at c1 c2 hgo ⊢
        generalize K B L t1 = Y at hgo ⊢
        simp only [c_X2_readTest_20, i_push, i_ild, i_ald, i_ist, i_ast, i_inc, i_bin, i_un, i_divs, i_i2l, i_lshl, i_lor, i_dup, i_dup2, i_pop, i_if, i_cmp, i_nul, i_vret, i_iret, i_zret, i_aret, i_keep, keep, lget, lset, ent, i_getI, i_getJ, i_getR, i_getN, i_putI, i_putZ, i_putJ, i_putR, i_iald, i_bald, i_alen, i_aald, i_iast, i_bast, i_aast, i_new, i_newa, i_anew, i_oini, i_callS, i_callV, i_callI, popn, sh4, i_sw, swP, i_copy, i_binS, List.map, Option.toList_none, Option.toList_some, List.append, List.nil_append, List.cons_append, List.length_cons, List.length_nil, List.replicate, Nat.sub_self, Nat.reduceSub, Nat.reduceAdd, hK_pI, hL_pI, hI_pI, hR_pI, hJ_pI, hT_pI, hS_pI, hK_pR, hL_pR, hI_pR, hR_pR, hJ_pR, hT_pR, hS_pR, hK_pJ, hL_pJ, hI_pJ, hR_pJ, hJ_pJ, hT_pJ, hS_pJ, hK_wI, hL_wI, hI_wI, hR_wI, hJ_wI, hT_wI, hS_wI, eq_self, and_true, true_and, and_false, false_and, or_true, true_or, or_false, false_or, if_true, if_false, not_true_eq_false, not_false_eq_true, forall_const, implies_true, false_implies, true_implies, Option.some.injEq, forall_eq', exists_eq_left', reduceCtorEq, Nat.reduceEqDiff, c1, T_X12_in, T_X12_ones, T_X11_within, T_X11_bit, T_X11_isIn, T_X11_oneIfIn, T_J6_bitCount_0f7a4, c1, c2]
        exact hgo
    generalize wI h (u2 (hI h) y 1 (nI t1)) = H at c1 c2 g20 ⊢
    generalize K B L t1 = Y at g20 ⊢
    simp only [c_X2_readTest_12, i_push, i_ild, i_ald, i_ist, i_ast, i_inc, i_bin, i_un, i_divs, i_i2l, i_lshl, i_lor, i_dup, i_dup2, i_pop, i_if, i_cmp, i_nul, i_vret, i_iret, i_zret, i_aret, i_keep, keep, lget, lset, ent, i_getI, i_getJ, i_getR, i_getN, i_putI, i_putZ, i_putJ, i_putR, i_iald, i_bald, i_alen, i_aald, i_iast, i_bast, i_aast, i_new, i_newa, i_anew, i_oini, i_callS, i_callV, i_callI, popn, sh4, i_sw, swP, i_copy, i_binS, List.map, Option.toList_none, Option.toList_some, List.append, List.nil_append, List.cons_append, List.length_cons, List.length_nil, List.replicate, Nat.sub_self, Nat.reduceSub, Nat.reduceAdd, hK_pI, hL_pI, hI_pI, hR_pI, hJ_pI, hT_pI, hS_pI, hK_pR, hL_pR, hI_pR, hR_pR, hJ_pR, hT_pR, hS_pR, hK_pJ, hL_pJ, hI_pJ, hR_pJ, hJ_pJ, hT_pJ, hS_pJ, hK_wI, hL_wI, hI_wI, hR_wI, hJ_wI, hT_wI, hS_wI, eq_self, and_true, true_and, and_false, false_and, or_true, true_or, or_false, false_or, if_true, if_false, not_true_eq_false, not_false_eq_true, forall_const, implies_true, false_implies, true_implies, Option.some.injEq, forall_eq', exists_eq_left', reduceCtorEq, Nat.reduceEqDiff, c1, T_X12_in, T_X12_ones, T_X11_within, T_X11_bit, T_X11_isIn, T_X11_oneIfIn, T_J6_bitCount_0f7a4, c1, c2]
    exact g20
  have h7 : ∀ nt : Int32, (nt = 0 ∧ ¬ K B L s = 258 ∨ nt = 1 ∧ K B L s = 258) → t1 ≤ N → c_X2_readTest_7 Q [some (.ref y), some (.int (nI k)), none, none, none, none] [.int nt] (wI h (u2 (hI h) y 1 (nI t1))) := by
    intro nt hnt htN
    have hgo := kd t1 (fun r h' => c_X2_readTest_12 Q [some (.ref y), some (.int (nI k)), some (.int nt), none, none, none] (r.toList ++ []) h') htN (h12 nt hnt htN)
    have c1 := b1 (u2 (hI h) y 1 (nI t1))
    have c2 := b2 (u2 (hI h) y 1 (nI t1))
    generalize wI h (u2 (hI h) y 1 (nI t1)) = H at c1 c2 hgo ⊢
    simp only [c_X2_readTest_7, i_push, i_ild, i_ald, i_ist, i_ast, i_inc, i_bin, i_un, i_divs, i_i2l, i_lshl, i_lor, i_dup, i_dup2, i_pop, i_if, i_cmp, i_nul, i_vret, i_iret, i_zret, i_aret, i_keep, keep, lget, lset, ent, i_getI, i_getJ, i_getR, i_getN, i_putI, i_putZ, i_putJ, i_putR, i_iald, i_bald, i_alen, i_aald, i_iast, i_bast, i_aast, i_new, i_newa, i_anew, i_oini, i_callS, i_callV, i_callI, popn, sh4, i_sw, swP, i_copy, i_binS, List.map, Option.toList_none, Option.toList_some, List.append, List.nil_append, List.cons_append, List.length_cons, List.length_nil, List.replicate, Nat.sub_self, Nat.reduceSub, Nat.reduceAdd, hK_pI, hL_pI, hI_pI, hR_pI, hJ_pI, hT_pI, hS_pI, hK_pR, hL_pR, hI_pR, hR_pR, hJ_pR, hT_pR, hS_pR, hK_pJ, hL_pJ, hI_pJ, hR_pJ, hJ_pJ, hT_pJ, hS_pJ, hK_wI, hL_wI, hI_wI, hR_wI, hJ_wI, hT_wI, hS_wI, eq_self, and_true, true_and, and_false, false_and, or_true, true_or, or_false, false_or, if_true, if_false, not_true_eq_false, not_false_eq_true, forall_const, implies_true, false_implies, true_implies, Option.some.injEq, forall_eq', exists_eq_left', reduceCtorEq, Nat.reduceEqDiff, c1, T_X12_in, T_X12_ones, T_X11_within, T_X11_bit, T_X11_isIn, T_X11_oneIfIn, T_J6_bitCount_0f7a4, c1, c2]
    exact hgo
  have hfirst := sk s 258 (fun r h' => c_X2_readTest_7 Q [some (.ref y), some (.int (nI k)), none, none, none, none] (r.toList ++ []) h') p3 (by decide) (fun c cN => by
    have e : t1 = s + 1 := by rw [ht1]; exact if_pos c
    have := h7 1 (Or.inr ⟨rfl, c⟩) (by omega)
    rw [e] at this
    exact this) (fun c => by
    have e : t1 = s := by rw [ht1]; exact if_neg c
    have := h7 0 (Or.inl ⟨rfl, c⟩) (by omega)
    rw [e] at this
    exact this)
  rw [hh] at hfirst
  simp only [b_X2_readTest_0, i_push, i_ild, i_ald, i_ist, i_ast, i_inc, i_bin, i_un, i_divs, i_i2l, i_lshl, i_lor, i_dup, i_dup2, i_pop, i_if, i_cmp, i_nul, i_vret, i_iret, i_zret, i_aret, i_keep, keep, lget, lset, ent, i_getI, i_getJ, i_getR, i_getN, i_putI, i_putZ, i_putJ, i_putR, i_iald, i_bald, i_alen, i_aald, i_iast, i_bast, i_aast, i_new, i_newa, i_anew, i_oini, i_callS, i_callV, i_callI, popn, sh4, i_sw, swP, i_copy, i_binS, List.map, Option.toList_none, Option.toList_some, List.append, List.nil_append, List.cons_append, List.length_cons, List.length_nil, List.replicate, Nat.sub_self, Nat.reduceSub, Nat.reduceAdd, hK_pI, hL_pI, hI_pI, hR_pI, hJ_pI, hT_pI, hS_pI, hK_pR, hL_pR, hI_pR, hR_pR, hJ_pR, hT_pR, hS_pR, hK_pJ, hL_pJ, hI_pJ, hR_pJ, hJ_pJ, hT_pJ, hS_pJ, hK_wI, hL_wI, hI_wI, hR_wI, hJ_wI, hT_wI, hS_wI, eq_self, and_true, true_and, and_false, false_and, or_true, true_or, or_false, false_or, if_true, if_false, not_true_eq_false, not_false_eq_true, forall_const, implies_true, false_implies, true_implies, Option.some.injEq, forall_eq', exists_eq_left', reduceCtorEq, Nat.reduceEqDiff, c1, T_X12_in, T_X12_ones, T_X11_within, T_X11_bit, T_X11_isIn, T_X11_oneIfIn, T_J6_bitCount_0f7a4, a1, a2]
  exact hfirst
set_option maxRecDepth 100000 in
set_option maxHeartbeats 4000000 in
theorem ok_X2_readTest : ctr 2 MX2_readTest T_X2_readTest := by
  refine ctr_of pn_X2 wc_X2_readTest (fun av h Q hT => ?_)
  unfold T_X2_readTest at hT
  split at hT
  · rename_i y x
    refine ⟨⟨by simp [Value.category], Nat.le_of_ble_eq_true rfl⟩, s_X2_readTest_0 Q _ _ _ ?_⟩
    obtain ⟨q, z, B, L, N, f0, M, k, n, s, he, rfl, hk, hps, hq1, hq0⟩ := hT
    exact xrt_0 Q h y q z B L N f0 M k n s he hk hps hq1 hq0
  · exact hT.elim
