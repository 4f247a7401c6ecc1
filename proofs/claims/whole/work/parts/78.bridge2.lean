/-! ===== placings of parties are placings of people ===== -/
def TU (f : Mem) : Nat → Int32
  | 0 => 0
  | n + 1 => TU f n ||| f 34 n
theorem b_TU (f : Mem) (p : Nat) : ∀ n, bt (TU f n) p = true ↔ ∃ i, i < n ∧ bt (f 34 i) p = true
  | 0 => by rw [TU, b_0]; exact ⟨fun z => (by cases z), fun ⟨i, hi, _⟩ => absurd hi (Nat.not_lt_zero _)⟩
  | n + 1 => by
    rw [TU, b_or, Bool.or_eq_true, b_TU f p n]
    constructor
    · rintro (⟨i, a, b⟩ | b)
      · exact ⟨i, by omega, b⟩
      · exact ⟨n, by omega, b⟩
    · rintro ⟨i, a, b⟩
      by_cases e : i = n
      · rw [e] at b; exact Or.inr b
      · exact Or.inl ⟨i, by omega, b⟩
/-- the rows of Placer speak of parties of the reference's people -/
def FAM (f J : Mem) (R P n : Nat) (sz cp : Nat → Nat) : Prop := PS f R n sz cp ∧ (∀ i, i < n → inP (f 34 i) P ∧ (∀ p q, bt (f 34 i) p = true → bt (J 63 p) q = true → bt (f 34 i) q = true) ∧ (∀ p q, bt (f 34 i) p = true → bt (f 34 i) q = true → Rch J P (-1) p q) ∧ sz i = pct (f 34 i) ∧ f 36 i = ilF f (f 34 i) P ∧ f 37 i = foS f (f 34 i) P ∧ f 38 i = rfF f (f 34 i) R P) ∧ ∀ r, r < R → cp r = capN J r
theorem disj {f : Mem} {R n : Nat} {sz cp : Nat → Nat} (hs : PS f R n sz cp) {i j p : Nat} (hi : i < n) (hj : j < n) (h1 : bt (f 34 i) p = true) (h2 : bt (f 34 j) p = true) : i = j := by
  refine Classical.byContradiction fun e => ?_
  have := and0.mp (hs.2.2.2.2.2.1 i j hi hj e) p h1
  rw [h2] at this; cases this
theorem cnt_fam {f : Mem} {F w : Nat → Nat} {sz : Nat → Nat} (r : Nat) : ∀ n, (∀ i j p, i < n → j < n → bt (f 34 i) p = true → bt (f 34 j) p = true → i = j) → (∀ i, i < n → sz i = pct (f 34 i)) → (∀ i p, i < n → bt (f 34 i) p = true → F p = w i) → fb_ct (fun p => bt (TU f n) p && decide (F p = r)) 32 = fb_sm (fun i => if w i = r then sz i else 0) n
  | 0, _, _, _ => by
    have : fb_ct (fun p => bt (TU f 0) p && decide (F p = r)) 32 = 0 := fb_ct_zero.mpr (fun p _ => by rw [TU, b_0]; rfl)
    rw [this]; rfl
  | n + 1, hd, hz, hF => by
    have ih := cnt_fam (F := F) (w := w) (sz := sz) r n (fun i j p hi hj => hd i j p (by omega) (by omega)) (fun i hi => hz i (by omega)) (fun i p hi => hF i p (by omega))
    have e1 : fb_ct (fun p => bt (TU f (n + 1)) p && decide (F p = r)) 32 = fb_ct (fun p => (bt (TU f n) p && decide (F p = r)) || (bt (f 34 n) p && decide (F p = r))) 32 := by
      refine fb_ct_cong (fun p _ => ?_)
      rw [TU, b_or]
      cases bt (TU f n) p <;> cases bt (f 34 n) p <;> cases decide (F p = r) <;> rfl
    rw [e1, fb_ct_or (fun p _ z => ?_), ih, fb_sm_succ]
    · congr 1
      by_cases c : w n = r
      · rw [if_pos c, hz n (by omega), pct_ct]
        refine fb_ct_cong (fun p _ => ?_)
        cases hb : bt (f 34 n) p with
        | false => rfl
        | true => rw [hF n p (by omega) hb, c]; simp
      · rw [if_neg c]
        refine fb_ct_zero.mpr (fun p _ => ?_)
        cases hb : bt (f 34 n) p with
        | false => rfl
        | true => rw [hF n p (by omega) hb]; simp [c]
    · simp only [Bool.and_eq_true] at z
      obtain ⟨i, hi, hb⟩ := (b_TU f p n).mp z.1.1
      have := hd i n p (by omega) (by omega) hb z.2.1
      omega
noncomputable def ixP (f : Mem) (p : Nat) : Nat := lst (fun i => bt (f 34 i) p = true)
theorem ixP_is {f : Mem} {R n : Nat} {sz cp : Nat → Nat} (hs : PS f R n sz cp) {i p : Nat} (hi : i < n) (hb : bt (f 34 i) p = true) : ixP f p = i := by
  refine lst_is hb (fun j hj z => ?_)
  have := disj hs hi (by omega) hb z
  omega
theorem fam_ill {f J : Mem} {R P n : Nat} {sz cp : Nat → Nat} (hf : FAM f J R P n sz cp) (he : EC f J R P) {i p : Nat} (hi : i < n) (hp : bt (f 34 i) p = true) (hall : ∀ a b, bt (f 34 i) a = true → bt (f 34 i) b = true → J 57 a = J 57 b) : f 36 i = J 57 p := by
  obtain ⟨h1, h2, h3, h4, h5, h6, h7⟩ := hf.2.1 i hi
  rw [h5, ilF_is (h1 p hp) hp (fun q hq hb => by rw [(he.2 q hq).2.1, (he.2 p (h1 p hp)).2.1]; exact hall q p hb hp)]
  exact (he.2 p (h1 p hp)).2.1
theorem VF_Ok {f J : Mem} {R P n : Nat} {sz cp : Nat → Nat} (hf : FAM f J R P n sz cp) (he : EC f J R P) (hR : R ≤ 4) (hP : P ≤ 24) (hsy : Sy J) (hns : noS J P) (hk : ilOk f P) {w : Nat → Nat} (hv : VF f R n sz cp w) {F : Nat → Nat} (hF : ∀ i p, i < n → bt (f 34 i) p = true → F p = w i) : Ok (rmI J 4 0) R (TU f n) F := by
  have hs := hf.1
  have hfa : ∀ i, i < n → FAI J R P (f 34 i) (w i) := fun i hi => by
    obtain ⟨h1, h2, h3, h4, h5, h6, h7⟩ := hf.2.1 i hi
    have := (hv.1 i hi).2
    rw [h7] at this
    exact ((rfF_iff he hR hP hsy hns h1 (hs.2.2.2.2.1 i hi).2.2 hk).mp this).2
  have hfi : ∀ i, i < n → (pct (f 34 i) ≤ capN J (w i) ∧ ∀ p, bt (f 34 i) p = true → okS J p (w i)) ∧ one1 J (f 34 i) := fun i hi => by
    obtain ⟨h1, _⟩ := hf.2.1 i hi
    exact (FAI_iff hR hP hsy (hv.1 i hi).1 h1 (hs.2.2.2.2.1 i hi).2.2 (he.1 (w i) (hv.1 i hi).1).1).mp (hfa i hi)
  have hill : ∀ i p, i < n → bt (f 34 i) p = true → f 36 i = J 57 p := fun i p hi hp => fam_ill hf he hi hp (fun a b ha hb => by
    by_cases e : a = b
    · rw [e]
    · exact ((hfi i hi).2 a b ha hb e).2)
  refine ⟨fun p hp => ?_, fun r hr => ?_⟩
  · obtain ⟨i, hi, hb⟩ := (b_TU f p n).mp hp
    have hFp := hF i p hi hb
    have hwr := (hv.1 i hi).1
    refine ⟨by rw [hFp]; exact hwr, ?_, ?_, fun j hj => ?_, fun q hq _ => ?_, fun p2 hp2 hne => ⟨fun e => ?_, fun hb2 => ?_⟩⟩
    · rw [hFp]
      unfold okS my1 my2 my3
      rw [rmI_ne J 4 0 (by decide), rmI_ne J 4 0 (by decide), rmI_ne J 4 0 (by decide), rmI_ne J 4 0 (by decide), rmI_ne J 4 0 (by decide), rmI_ne J 4 0 (by decide)]
      exact (hfi i hi).1.2 p hb
    · rw [hFp, rmI_0 J (by omega)]; exact and_0 _
    · rw [hFp, rmI_0 J (by omega), b_0] at hj; cases hj
    · rw [rmI_0 J (by omega)]; exact and_0 _
    · rw [rmI_ne J 4 0 (by decide), rmI_ne J 4 0 (by decide)]
      obtain ⟨i2, hi2, hb2⟩ := (b_TU f p2 n).mp hp2
      rw [hFp, hF i2 p2 hi2 hb2] at e
      by_cases ei : i2 = i
      · subst ei
        have := (hfi i2 hi).2 p p2 hb hb2 (fun z => hne z.symm)
        exact ⟨this.1, this.2.symm⟩
      · obtain ⟨v1, v2⟩ := hv.2.1 i i2 hi hi2 (fun z => ei z.symm) e.symm
        refine ⟨?_, by rw [← hill i p hi hb, ← hill i2 p2 hi2 hb2, v1]⟩
        cases hx : bt (J 62 p) p2 with
        | false => rfl
        | true =>
          obtain ⟨h1, h2, h3, h4, h5, h6, h7⟩ := hf.2.1 i hi
          rw [h6] at v2
          have := and0.mp v2 p2 ((foS_b he h1 p2).mpr ⟨p, hb, hx⟩)
          rw [hb2] at this; cases this
    · rw [rmI_ne J 4 0 (by decide)] at hb2
      rw [hFp, hF i p2 hi ((hf.2.1 i hi).2.1 p p2 hb hb2)]
  · rw [rmI_0 J (by omega), pct_0, Nat.zero_add, cnt_fam (F := F) (w := w) (sz := sz) r n (fun i j p hi hj => disj hs hi hj) (fun i hi => (hf.2.1 i hi).2.2.2.1) hF]
    have := hv.2.2 r hr
    rw [hf.2.2 r hr] at this
    have e : capN (rmI J 4 0) r = capN J r := by unfold capN; rw [capF_rmI]
    rw [e]; exact this
theorem Ok_con {f J : Mem} {R P n : Nat} {sz cp : Nat → Nat} (hf : FAM f J R P n sz cp) {F : Nat → Nat} (ho : Ok (rmI J 4 0) R (TU f n) F) {i : Nat} (hi : i < n) {p q : Nat} (hp : bt (f 34 i) p = true) (hq : bt (f 34 i) q = true) : F q = F p := by
  obtain ⟨h1, h2, h3, _⟩ := hf.2.1 i hi
  have := h3 p q hp hq (fun x => bt (f 34 i) x = true ∧ F x = F p) ⟨hp, rfl⟩ (fun x y hx hs hb _ => by
    refine ⟨h2 x y hs.1 hb, ?_⟩
    by_cases e : y = x
    · rw [e]; exact hs.2
    · have hy := h2 x y hs.1 hb
      have := ((ho.1 x ((b_TU f x n).mpr ⟨i, hi, hs.1⟩)).2.2.2.2.2 y ((b_TU f y n).mpr ⟨i, hi, hy⟩) e).2
      rw [rmI_ne J 4 0 (by decide)] at this
      rw [this hb, hs.2])
  exact this.2
theorem Ok_VF {f J : Mem} {R P n : Nat} {sz cp : Nat → Nat} (hf : FAM f J R P n sz cp) (he : EC f J R P) (hR : R ≤ 4) (hP : P ≤ 24) (hsy : Sy J) (hns : noS J P) (hk : ilOk f P) {F : Nat → Nat} (ho : Ok (rmI J 4 0) R (TU f n) F) {w : Nat → Nat} (hF : ∀ i p, i < n → bt (f 34 i) p = true → F p = w i) : VF f R n sz cp w := by
  have hs := hf.1
  have hmem : ∀ i, i < n → ∃ p, bt (f 34 i) p = true := fun i hi => by
    obtain ⟨l, _, h⟩ := low_ex (hs.2.2.2.2.1 i hi).2.2
    exact ⟨l, h.1⟩
  have hT : ∀ i p, i < n → bt (f 34 i) p = true → bt (TU f n) p = true := fun i p hi hp => (b_TU f p n).mpr ⟨i, hi, hp⟩
  have hcnt := fun r => cnt_fam (F := F) (w := w) (sz := sz) r n (fun i j p hi hj => disj hs hi hj) (fun i hi => (hf.2.1 i hi).2.2.2.1) hF
  have hcap : ∀ r, r < R → fb_sm (fun i => if w i = r then sz i else 0) n ≤ capN J r := fun r hr => by
    have := ho.2 r hr
    rw [rmI_0 J (by omega), pct_0, Nat.zero_add, hcnt r] at this
    have e : capN (rmI J 4 0) r = capN J r := by unfold capN; rw [capF_rmI]
    rw [e] at this; exact this
  have hwR : ∀ i, i < n → w i < R := fun i hi => by
    obtain ⟨p, hp⟩ := hmem i hi
    rw [← hF i p hi hp]; exact (ho.1 p (hT i p hi hp)).1
  have hpair : ∀ i j p q, i < n → j < n → bt (f 34 i) p = true → bt (f 34 j) q = true → q ≠ p → w j = w i → bt (J 62 p) q = false ∧ J 57 q = J 57 p := fun i j p q hi hj hp hq hne e => by
    have := ((ho.1 p (hT i p hi hp)).2.2.2.2.2 q (hT j q hj hq) hne).1 (by rw [hF i p hi hp, hF j q hj hq, e])
    rw [rmI_ne J 4 0 (by decide), rmI_ne J 4 0 (by decide)] at this
    exact this
  have hill : ∀ i p, i < n → bt (f 34 i) p = true → f 36 i = J 57 p := fun i p hi hp => fam_ill hf he hi hp (fun a b ha hb => by
    by_cases e : a = b
    · rw [e]
    · exact (hpair i i b a hi hi hb ha e rfl).2)
  refine ⟨fun i hi => ⟨hwR i hi, ?_⟩, fun i j hi hj hij e => ⟨?_, ?_⟩, fun r hr => ?_⟩
  · obtain ⟨h1, h2, h3, h4, h5, h6, h7⟩ := hf.2.1 i hi
    rw [h7]
    refine (rfF_iff he hR hP hsy hns h1 (hs.2.2.2.2.1 i hi).2.2 hk).mpr ⟨hwR i hi, (FAI_iff hR hP hsy (hwR i hi) h1 (hs.2.2.2.2.1 i hi).2.2 (he.1 _ (hwR i hi)).1).mpr ⟨⟨?_, fun p hp => ?_⟩, fun p q hp hq hne => ?_⟩⟩
    · have h8 := hcap (w i) (hwR i hi)
      have h9 := fb_sm_part (fun k => if w k = w i then sz k else 0) hi
      simp only [if_true] at h9
      omega
    · have := (ho.1 p (hT i p hi hp)).2.1
      unfold okS my1 my2 my3 at this
      rw [rmI_ne J 4 0 (by decide), rmI_ne J 4 0 (by decide), rmI_ne J 4 0 (by decide), rmI_ne J 4 0 (by decide), rmI_ne J 4 0 (by decide), rmI_ne J 4 0 (by decide), hF i p hi hp] at this
      exact this
    · have := hpair i i p q hi hi hp hq (fun z => hne z.symm) rfl
      exact ⟨this.1, this.2.symm⟩
  · obtain ⟨p, hp⟩ := hmem i hi
    obtain ⟨q, hq⟩ := hmem j hj
    have hne : q ≠ p := fun z => hij (disj hs hi hj hp (by rw [← z]; exact hq))
    rw [hill i p hi hp, hill j q hj hq]
    exact (hpair i j p q hi hj hp hq hne e.symm).2.symm
  · obtain ⟨h1, h2, h3, h4, h5, h6, h7⟩ := hf.2.1 i hi
    rw [h6]
    refine and0.mpr (fun q hq => ?_)
    obtain ⟨p, hp, hb⟩ := (foS_b he h1 q).mp hq
    cases hbq : bt (f 34 j) q with
    | false => rfl
    | true =>
      have hne : q ≠ p := fun z => hij (disj hs hi hj hp (by rw [← z]; exact hbq))
      rw [(hpair i j p q hi hj hp hbq hne e.symm).1] at hb; cases hb
  · rw [hf.2.2 r hr]; exact hcap r hr
theorem fam_fit {f J : Mem} {R P n : Nat} {sz cp : Nat → Nat} (hf : FAM f J R P n sz cp) (he : EC f J R P) (hR : R ≤ 4) (hP : P ≤ 24) (hsy : Sy J) (hns : noS J P) (hk : ilOk f P) : (∃ w, VF f R n sz cp w) ↔ Fit (rmI J 4 0) R (TU f n) := by
  constructor
  · rintro ⟨w, hw⟩
    exact ⟨fun p => w (ixP f p), VF_Ok hf he hR hP hsy hns hk hw (fun i p hi hb => by simp only [ixP_is hf.1 hi hb])⟩
  · rintro ⟨F, ho⟩
    refine ⟨fun i => F (lst (fun p => bt (f 34 i) p = true)), Ok_VF hf he hR hP hsy hns hk ho (fun i p hi hb => ?_)⟩
    exact Ok_con hf ho hi (lst_ok (S := fun p => bt (f 34 i) p = true) ⟨p, hb⟩).1 hb
