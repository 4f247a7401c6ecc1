/-! ===== settling, pure: what Placer can settle is what the reference may choose ===== -/
/-- the parties with one below p are settled, where the reference puts them -/
def stP (f J : Mem) (R m : Nat) (T : Int32) (wh : Nat → Option Nat) (p : Nat) : Prop := (∀ i, i < m → (¬ f 40 i = 0 ↔ ∃ q, q < p ∧ bt (f 34 i) q = true)) ∧ ∀ i, i < m → ∀ q, q < p → bt (f 34 i) q = true → wh i = some (plF (rmI J 4 0) R T p q)
theorem ext_iff {f J : Mem} {R P m : Nat} {sz cp : Nat → Nat} (hf : FAM f J R P m sz cp) (he : EC f J R P) (hR : R ≤ 4) (hP : P ≤ 24) (hsy : Sy J) (hns : noS J P) (hk : ilOk f P) {wh : Nat → Option Nat} {p i r : Nat} (hst : stP f J R m (TU f m) wh p) (hi : i < m) (hb : bt (f 34 i) p = true) : (∃ w, VF f R m sz cp w ∧ stW f m wh w ∧ w i = r) ↔ Ext (rmI J 4 0) R (TU f m) (plF (rmI J 4 0) R (TU f m) p) p r := by
  constructor
  · rintro ⟨w, hv, hw, hr⟩
    refine ⟨fun q => w (ixP f q), VF_Ok hf he hR hP hsy hns hk hv (fun j q hj hq => by simp only [ixP_is hf.1 hj hq]), fun q hq hT => ?_, by simp only [ixP_is hf.1 hi hb]; exact hr⟩
    obtain ⟨j, hj, hbj⟩ := (b_TU f q m).mp hT
    simp only [ixP_is hf.1 hj hbj]
    have h1 := hw j hj ((hst.1 j hj).mpr ⟨q, hq, hbj⟩)
    have h2 := hst.2 j hj q hq hbj
    exact Option.some.inj (h1.symm.trans h2)
  · rintro ⟨F, ho, hF, hr⟩
    have hcon : ∀ j q, j < m → bt (f 34 j) q = true → F q = F (lst (fun p => bt (f 34 j) p = true)) := fun j q hj hq => Ok_con hf ho hj (lst_ok (S := fun p => bt (f 34 j) p = true) ⟨q, hq⟩).1 hq
    refine ⟨fun j => F (lst (fun p => bt (f 34 j) p = true)), Ok_VF hf he hR hP hsy hns hk ho hcon, fun j hj hz => ?_, (hcon i p hi hb).symm.trans hr⟩
    obtain ⟨q, hq, hbq⟩ := (hst.1 j hj).mp hz
    rw [hst.2 j hj q hq hbq]
    exact congrArg some ((hF q hq ((b_TU f q m).mpr ⟨j, hj, hbq⟩)).symm.trans (hcon j q hj hbq))
/-- a party that is settled: the reference puts p with it -/
theorem pick_set {f J : Mem} {R P m : Nat} {sz cp : Nat → Nat} (hf : FAM f J R P m sz cp) (hR : R ≤ 4) (hfit : Fit (rmI J 4 0) R (TU f m)) {wh : Nat → Option Nat} {p i : Nat} (hst : stP f J R m (TU f m) wh p) (hi : i < m) (hb : bt (f 34 i) p = true) (hs : ¬ f 40 i = 0) : wh i = some (plF (rmI J 4 0) R (TU f m) (p + 1) p) := by
  obtain ⟨q, hq, hbq⟩ := (hst.1 i hi).mp hs
  rw [hst.2 i hi q hq hbq]
  have hTp : bt (TU f m) p = true := (b_TU f p m).mpr ⟨i, hi, hb⟩
  have hTq : bt (TU f m) q = true := (b_TU f q m).mpr ⟨i, hi, hbq⟩
  obtain ⟨F, ho, hF⟩ := plF_ext hR hfit p
  obtain ⟨F2, ho2, hF2, hr2⟩ := pick_ext (p := p) (F := plF (rmI J 4 0) R (TU f m) p) hR ⟨F p, F, ho, hF, rfl⟩
  rw [plF_at hTp, ← hr2, Ok_con hf ho2 hi hbq hb, hF2 q hq hTq]
theorem stP_skip {f J : Mem} {R m : Nat} {T : Int32} {wh : Nat → Option Nat} {p : Nat} (hst : stP f J R m T wh p) (hno : ∀ i, i < m → bt (f 34 i) p = false) : stP f J R m T wh (p + 1) := by
  refine ⟨fun i hi => ?_, fun i hi q hq hb => ?_⟩
  · rw [hst.1 i hi]
    refine ⟨fun ⟨q, a, b⟩ => ⟨q, by omega, b⟩, fun ⟨q, a, b⟩ => ⟨q, ?_, b⟩⟩
    by_cases e : q = p
    · rw [e, hno i hi] at b; cases b
    · omega
  · have e : q ≠ p := fun z => by rw [z, hno i hi] at hb; cases hb
    rw [plF_keep _ _ _ _ _ e]
    exact hst.2 i hi q (by omega) hb
theorem stP_old {f J : Mem} {R P m : Nat} {sz cp : Nat → Nat} (hf : FAM f J R P m sz cp) (hR : R ≤ 4) (hfit : Fit (rmI J 4 0) R (TU f m)) {wh : Nat → Option Nat} {p i : Nat} (hst : stP f J R m (TU f m) wh p) (hi : i < m) (hb : bt (f 34 i) p = true) (hs : ¬ f 40 i = 0) : stP f J R m (TU f m) wh (p + 1) := by
  refine ⟨fun j hj => ?_, fun j hj q hq hbq => ?_⟩
  · rw [hst.1 j hj]
    refine ⟨fun ⟨q, a, b⟩ => ⟨q, by omega, b⟩, fun ⟨q, a, b⟩ => ?_⟩
    by_cases e : q = p
    · rw [e] at b
      have := disj hf.1 hj hi b hb
      subst this
      exact (hst.1 j hj).mp hs
    · exact ⟨q, by omega, b⟩
  · by_cases e : q = p
    · rw [e] at hbq ⊢
      have := disj hf.1 hj hi hbq hb
      subst this
      exact pick_set hf hR hfit hst hj hb hs
    · rw [plF_keep _ _ _ _ _ e]
      exact hst.2 j hj q (by omega) hbq
theorem stP_new {f f2 J : Mem} {R P m : Nat} {sz cp : Nat → Nat} (hf : FAM f J R P m sz cp) {wh : Nat → Option Nat} {w : Nat → Nat} {p i r : Nat} (hst : stP f J R m (TU f m) wh p) (hi : i < m) (hb : bt (f 34 i) p = true) (hs : f 40 i = 0) (h33 : f2 34 = f 34) (h39 : ∀ j, j < m → f2 40 j = if j = i then 1 else f 40 j) (hw : stW f m wh w) (hr : w i = r) (hp : pick (rmI J 4 0) R (TU f m) (plF (rmI J 4 0) R (TU f m) p) p = r) : stP f2 J R m (TU f m) (fun j => some (w j)) (p + 1) := by
  have hTp : bt (TU f m) p = true := (b_TU f p m).mpr ⟨i, hi, hb⟩
  refine ⟨fun j hj => ?_, fun j hj q hq hbq => ?_⟩
  · rw [h39 j hj, h33]
    by_cases e : j = i
    · rw [if_pos e]
      exact ⟨fun _ => ⟨p, by omega, by rw [e]; exact hb⟩, fun _ => by decide⟩
    · rw [if_neg e, hst.1 j hj]
      refine ⟨fun ⟨q, a, b⟩ => ⟨q, by omega, b⟩, fun ⟨q, a, b⟩ => ⟨q, ?_, b⟩⟩
      by_cases e2 : q = p
      · rw [e2] at b
        exact absurd (disj hf.1 hj hi b hb) e
      · omega
  · rw [h33] at hbq
    by_cases e : q = p
    · rw [e] at hbq ⊢
      have := disj hf.1 hj hi hbq hb
      subst this
      rw [plF_at hTp, hp]
      exact congrArg some hr
    · rw [plF_keep _ _ _ _ _ e]
      have hz : ¬ f 40 j = 0 := (hst.1 j hj).mpr ⟨q, by omega, hbq⟩
      exact (hw j hj hz).symm.trans (hst.2 j hj q (by omega) hbq)
