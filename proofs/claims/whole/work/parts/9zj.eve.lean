/-! ===== steps: evening; what class and reference leave, row by row ===== -/
theorem ordS_congr {f g : Mem} (h : sameP f g) (E Ln : Nat) (door cold : Int32) : ∀ p, ordS f E Ln door cold p = ordS g E Ln door cold p
  | 0 => rfl
  | p + 1 => by
    have ih := ordS_congr h E Ln door cold p
    have hp : (fun q => ptsF f E q Ln cold) = fun q => ptsF g E q Ln cold := funext fun q => ptsF_congr h E q Ln cold
    have hin : inO f E Ln door cold p = inO g E Ln door cold p := by
      unfold inO
      rw [h 61 (by decide) (by decide), ptsF_congr h]
    rw [ordS, ordS, hin, hp, h 59 (by decide) (by decide), ih]
theorem whyF_congr {f g : Mem} (h : sameP f g) (E Ln : Nat) (door cold : Int32) (p : Nat) : whyF f E Ln door cold p = whyF g E Ln door cold p := by
  unfold whyF
  rw [h 61 (by decide) (by decide), ptsF_congr h]
theorem calF_can (I : Mem) (H d : Nat) (hH : H ≤ 8) : ∀ t i, bt (calF I H d t) i = true → I 68 i < I 66 i
  | 0, i, hi => by rw [calF, b_0] at hi; cases hi
  | t + 1, i, hi => by
    rw [calF] at hi
    cases hb : bstF I d (calF I H d t) H with
    | none =>
      rw [hb] at hi
      exact calF_can I H d hH t i hi
    | some b =>
      rw [hb] at hi
      obtain ⟨hbH, hc⟩ := bstF_lt _ _ _ _ _ hb
      have hi2 : bt (calF I H d t ||| bitI b) i = true := hi
      rw [b_orI (by omega), Bool.or_eq_true, decide_eq_true_eq] at hi2
      rcases hi2 with z | z
      · exact calF_can I H d hH t i z
      · rw [z]; exact hc.2.2
/-! the reference's rows behind an evening -/
section
variable (I : Mem) (R P H E : Nat) (T those : Int32) (F : Nat → Nat)
theorem evD_o (a i : Nat) (h0 : a ≠ 58) (h1 : a ≠ 59) (h2 : a ≠ 60) (h3 : a ≠ 67) (h4 : a ≠ 68) (h5 : a ≠ 77) (h6 : a ≠ 76) : evD I R P H E T those F a i = I a i := by
  unfold evD
  rw [u2_ne (fun z => h6 z.1), ppM_o _ _ _ _ _ h0 h1 h2, bb_o _ _ _ _ _ _ _ _ _ _ _ _ h3 h4 h5]
theorem evD_p (a i : Nat) (h : a = 58 ∨ a = 59 ∨ a = 60) : evD I R P H E T those F a i = ppM I T those F P a i := by
  unfold evD
  rw [u2_ne (by omega)]
  unfold ppM
  rw [bb_o _ _ _ _ _ _ _ _ _ _ 58 i (by decide) (by decide) (by decide), bb_o _ _ _ _ _ _ _ _ _ _ 59 i (by decide) (by decide) (by decide), bb_o _ _ _ _ _ _ _ _ _ _ a i (by omega) (by omega) (by omega)]
theorem evD_h (a i : Nat) (h : a = 67 ∨ a = 68) : evD I R P H E T those F a i = hlM I (evC I R H E T) (E % 7) H a i := by
  unfold evD
  rw [u2_ne (by omega), ppM_o _ _ _ _ _ (by omega) (by omega) (by omega), bkL_o _ _ _ _ (by omega), bk0_o _ _ _ _ _ _ _ _ (by omega)]
theorem evD_76 : evD I R P H E T those F 76 0 = nI (E + 1) := by
  unfold evD
  rw [u2_eq]
theorem evD_76i (i : Nat) (h : i ≠ 0) : evD I R P H E T those F 76 i = I 76 i := by
  unfold evD
  rw [u2_ne (fun z => h z.2), ppM_o _ _ _ _ _ (by decide) (by decide) (by decide), bb_o _ _ _ _ _ _ _ _ _ _ _ _ (by decide) (by decide) (by decide)]
theorem evD_77 (i : Nat) : evD I R P H E T those F 77 i = bkL (bk0 (hlM I (evC I R H E T) (E % 7) H) R E T those (evC I R H E T) (wnF I T R) (I 44 56)) R E 4 77 i := by
  unfold evD
  rw [u2_ne (by omega), ppM_o _ _ _ _ _ (by decide) (by decide) (by decide)]
theorem evD_77o (i : Nat) (h : i < 10 * E ∨ 10 * E + 10 ≤ i) : evD I R P H E T those F 77 i = I 77 i := by
  rw [evD_77]
  unfold bkL
  rw [if_neg (by omega)]
  unfold bk0
  rw [u2_ne (by omega), u2_ne (by omega), u2_ne (by omega), u2_ne (by omega), u2_ne (by omega), u2_ne (by omega), hlM_o _ _ _ _ (by decide) (by decide)]
theorem evD_77f : evD I R P H E T those F 77 (10 * E) = those ∧ evD I R P H E T those F 77 (10 * E + 1) = T ∧ evD I R P H E T those F 77 (10 * E + 2) = evC I R H E T ∧ evD I R P H E T those F 77 (10 * E + 3) = nI (wnF I T R) - nI (pct (evC I R H E T)) ∧ evD I R P H E T those F 77 (10 * E + 4) = I 44 56 ∧ evD I R P H E T those F 77 (10 * E + 9) = nI R := by
  rw [evD_77, evD_77, evD_77, evD_77, evD_77, evD_77]
  unfold bkL
  rw [if_neg (by omega), if_neg (by omega), if_neg (by omega), if_neg (by omega), if_neg (by omega), if_neg (by omega)]
  unfold bk0
  refine ⟨?_, ?_, ?_, ?_, ?_, ?_⟩
  · rw [u2_ne (by omega), u2_ne (by omega), u2_ne (by omega), u2_ne (by omega), u2_eq]
  · rw [u2_ne (by omega), u2_ne (by omega), u2_ne (by omega), u2_eq]
  · rw [u2_ne (by omega), u2_ne (by omega), u2_eq]
  · rw [u2_ne (by omega), u2_eq]
  · rw [u2_eq]
  · rw [u2_ne (by omega), u2_ne (by omega), u2_ne (by omega), u2_ne (by omega), u2_ne (by omega), u2_eq]
theorem evD_77r (r : Nat) (h : r < 4) (hr : r < R) : evD I R P H E T those F 77 (10 * E + 5 + r) = I 88 r := by
  rw [evD_77]
  unfold bkL
  rw [if_pos ⟨rfl, by omega, by omega⟩, show 10 * E + 5 + r - (10 * E + 5) = r by omega, if_pos hr, bk0_o _ _ _ _ _ _ _ _ (by decide), hlM_o _ _ _ _ (by decide) (by decide)]
end
theorem cd_pp {f I : Mem} {T those : Int32} {F : Nat → Nat} {P p : Nat} (e8 : f 20 p = I 58 p) (e9 : f 21 p = I 59 p) (e0 : f 22 p = I 60 p) : cdM f T those F P 20 p = ppM I T those F P 58 p ∧ cdM f T those F P 21 p = ppM I T those F P 59 p ∧ cdM f T those F P 22 p = ppM I T those F P 60 p := by
  unfold cdM ppM
  simp only [Nat.reduceEqDiff, false_and, true_and, if_false, eq_self, e8, e9, e0, and_self]
theorem NC_lo {h : Hp} {J I : Mem} : ∀ {e : Nat} {o : Option Nat}, (∀ i, i < 10 * e → I 77 i = J 77 i) → NC h J e o → NC h I e o
  | 0, _, _, hn => hn
  | e + 1, _, hj, hn => by
    obtain ⟨n, Rn, a1, a2, a3, a4, a5, a6, a7, a8, a9, a10, a11, a12, a13⟩ := hn
    refine ⟨n, Rn, a1, a2, a3, a4, ?_, ?_, ?_, ?_, ?_, a10, ?_, fun r hr => ?_, NC_lo (fun i hi => hj i (by omega)) a13⟩
    · rw [hj _ (by omega)]; exact a5
    · rw [hj _ (by omega)]; exact a6
    · rw [hj _ (by omega)]; exact a7
    · rw [hj _ (by omega)]; exact a8
    · rw [hj _ (by omega)]; exact a9
    · rw [hj _ (by omega)]; exact a11
    · rw [hj _ (by omega)]; exact a12 r hr
theorem EvOk_c {I I' : Mem} {R P H E Ln : Nat} (h : ∀ a, 44 < a → a < 90 → I' a = I a) (hk : EvOk I R P H E Ln) : EvOk I' R P H E Ln := by
  unfold EvOk linOk Sy Tg slpOk at hk ⊢
  rw [h 46 (by decide) (by decide), h 52 (by decide) (by decide), h 64 (by decide) (by decide), h 76 (by decide) (by decide), h 69 (by decide) (by decide), h 70 (by decide) (by decide), h 47 (by decide) (by decide), h 48 (by decide) (by decide), h 62 (by decide) (by decide), h 63 (by decide) (by decide), h 60 (by decide) (by decide)]
  exact hk
