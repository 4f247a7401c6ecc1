/-! ===== arrays ===== -/
def i_iald (K : Kt) : Kt := fun A st h => match st with
  | .int i :: .ref a :: st => a < hT h ∧ hK h a = 14 ∧ vp_in i (hL h a) ∧ K A (.int (hI h a i.toNatClampNeg) :: st) h
  | _ => False
theorem s_iald : sfor .iaload 1 i_iald := by
  intro d M Q pc K hd hKt A st h hx
  unfold i_iald at hx
  split at hx
  · rename_i i a st
    obtain ⟨h1, h2, h3, h4⟩ := hx
    obtain ⟨r, h', hq, hRn⟩ := hKt _ _ _ h4
    refine ⟨r, h', hq, hRn.go fun G p l e R s m args below meth c H locs cells slots ls Qp hC hH hLr hk => ?_⟩
    have he : (plist G h)[a]? = some (gB G + a, .inl (gA G 1, hL h a, .inl (hI h a))) := by rw [plist_at h1, cellE_arr h2 (by omega) (by omega)]
    exact va_iald hC.1 hC.2.1 hC.2.2.2.2.2.2.1.1 hH.2 a 1 he rfl h3 hd (hk ls hLr)
  · exact hx.elim
/-- bytes and truths -/
def i_bald (K : Kt) : Kt := fun A st h => match st with
  | .int i :: .ref a :: st => a < hT h ∧ (hK h a = 13 ∨ hK h a = 15) ∧ vp_in i (hL h a) ∧ K A (.int (hI h a i.toNatClampNeg) :: st) h
  | _ => False
theorem s_bald : sfor .baload 1 i_bald := by
  intro d M Q pc K hd hKt A st h hx
  unfold i_bald at hx
  split at hx
  · rename_i i a st
    obtain ⟨h1, h2, h3, h4⟩ := hx
    obtain ⟨r, h', hq, hRn⟩ := hKt _ _ _ h4
    refine ⟨r, h', hq, hRn.go fun G p l e R s m args below meth c H locs cells slots ls Qp hC hH hLr hk => ?_⟩
    rcases h2 with h2 | h2
    · have he : (plist G h)[a]? = some (gB G + a, .inl (gA G 0, hL h a, .inl (hI h a))) := by rw [plist_at h1, cellE_arr h2 (by omega) (by omega)]
      exact va_bald hC.1 hC.2.1 hC.2.2.2.2.2.2.1.1 hH.2 a 0 he rfl h3 hd (hk ls hLr)
    · have he : (plist G h)[a]? = some (gB G + a, .inl (gA G 2, hL h a, .inl (hI h a))) := by rw [plist_at h1, cellE_arr h2 (by omega) (by omega)]
      exact va_zald hC.1 hC.2.1 hC.2.2.2.2.2.2.1.1 hH.2 a 2 he rfl h3 hd (hk ls hLr)
  · exact hx.elim
def i_alen (K : Kt) : Kt := fun A st h => match st with
  | .ref a :: st => a < hT h ∧ 13 ≤ hK h a ∧ hK h a ≤ 16 ∧ K A (.int (Int32.ofNat (hL h a)) :: st) h
  | _ => False
theorem s_alen : sfor .arraylength 1 i_alen := by
  intro d M Q pc K hd hKt A st h hx
  unfold i_alen at hx
  split at hx
  · rename_i a st
    obtain ⟨h1, h2, h2', h4⟩ := hx
    obtain ⟨r, h', hq, hRn⟩ := hKt _ _ _ h4
    refine ⟨r, h', hq, hRn.go fun G p l e R s m args below meth c H locs cells slots ls Qp hC hH hLr hk => ?_⟩
    by_cases h16 : hK h a = 16
    · have he : (plist G h)[a]? = some (gB G + a, .inl (gA G 3, hL h a, .inr (.inr (.inr (.inr (fun j => (hR h a j).map (fun x => gB G + x))))))) := by rw [plist_at h1, cellE_rarr h16]
      exact va_alen hC.1 hC.2.1 hC.2.2.2.2.2.2.1.1 hH.2 a 3 he rfl rfl hd (hk ls hLr)
    · have he : (plist G h)[a]? = some (gB G + a, .inl (gA G (hK h a - 13), hL h a, .inl (hI h a))) := by rw [plist_at h1, cellE_arr rfl h2 h16]
      have ht : (gT G)[hK h a - 13]? = some (gA G (hK h a - 13), [FieldType.byte, .int, .boolean].getD (hK h a - 13) .int) := by
        have : hK h a - 13 < 3 := by omega
        generalize hK h a - 13 = z at this ⊢
        match z, this with
        | 0, _ => rfl
        | 1, _ => rfl
        | 2, _ => rfl
      exact va_alen hC.1 hC.2.1 hC.2.2.2.2.2.2.1.1 hH.2 a _ he ht rfl hd (hk ls hLr)
  · exact hx.elim
def i_aald (K : Kt) : Kt := fun A st h => match st with
  | .int i :: .ref a :: st => a < hT h ∧ hK h a = 16 ∧ vp_in i (hL h a) ∧ (∀ b, hR h a i.toNatClampNeg = some b → K A (.ref b :: st) h) ∧ (hR h a i.toNatClampNeg = none → K A (.null :: st) h)
  | _ => False
theorem s_aald : sfor .aaload 1 i_aald := by
  intro d M Q pc K hd hKt A st h hx
  unfold i_aald at hx
  split at hx
  · rename_i i a st
    obtain ⟨h1, h2, h3, h4, h5⟩ := hx
    cases hv : hR h a i.toNatClampNeg with
    | some b =>
      obtain ⟨r, h', hq, hRn⟩ := hKt _ _ _ (h4 b hv)
      refine ⟨r, h', hq, hRn.go fun G p l e R s m args below meth c H locs cells slots ls Qp hC hH hLr hk => ?_⟩
      have he : (plist G h)[a]? = some (gB G + a, .inl (gA G 3, hL h a, .inr (.inr (.inr (.inr (fun j => (hR h a j).map (fun x => gB G + x))))))) := by rw [plist_at h1, cellE_rarr h2]
      exact va_aldq hC.1 hC.2.1 hC.2.2.2.2.2.2.1.1 hH.2 a 3 he rfl h3 hd (by rw [hv]; exact hk ls hLr)
    | none =>
      obtain ⟨r, h', hq, hRn⟩ := hKt _ _ _ (h5 hv)
      refine ⟨r, h', hq, hRn.go fun G p l e R s m args below meth c H locs cells slots ls Qp hC hH hLr hk => ?_⟩
      have he : (plist G h)[a]? = some (gB G + a, .inl (gA G 3, hL h a, .inr (.inr (.inr (.inr (fun j => (hR h a j).map (fun x => gB G + x))))))) := by rw [plist_at h1, cellE_rarr h2]
      exact va_aldq hC.1 hC.2.1 hC.2.2.2.2.2.2.1.1 hH.2 a 3 he rfl h3 hd (by rw [hv]; exact hk ls hLr)
  · exact hx.elim
theorem hI_row {h : Hp} {a j : Nat} {v : Int32} : hI (pI h a j v) a = upd (hI h a) j v := by
  funext i
  rw [hI_pI]
  simp only [upd]
  by_cases e : i = j <;> simp [e]
def i_iast (K : Kt) : Kt := fun A st h => match st with
  | .int v :: .int i :: .ref a :: st => a < hT h ∧ hK h a = 14 ∧ vp_in i (hL h a) ∧ K A st (pI h a i.toNatClampNeg v)
  | _ => False
theorem s_iast : sfor .iastore 1 i_iast := by
  intro d M Q pc K hd hKt A st h hx
  unfold i_iast at hx
  split at hx
  · rename_i v i a st
    obtain ⟨h1, h2, h3, h4⟩ := hx
    obtain ⟨r, h', hq, hRn⟩ := hKt _ _ _ h4
    refine ⟨r, h', hq, Runs.upd (h1 := pI h a i.toNatClampNeg v) rfl rfl hRn fun G p l e R s m args below meth c H locs cells slots ls Qp hC hH hS hk => ?_⟩
    have he : (plist G h)[a]? = some (gB G + a, .inl (gA G 1, hL h a, .inl (hI h a))) := by rw [plist_at h1, cellE_arr h2 (by omega) (by omega)]
    have hE2 : cellE G (pI h a i.toNatClampNeg v) a = .inl (gA G 1, hL h a, .inl (upd (hI h a) i.toNatClampNeg v)) := by
      rw [cellE_arr (k := 14) (by rw [hK_pI]; exact h2) (by omega) (by omega), hI_row]; rfl
    refine W.iast hC.1 hC.2.1 (hH.2 a _ he) ((hC.2.2.2.2.2.2.1.1.2 1 _ rfl).1 (hL h a) (fun j => .int (hI h a j))) (fun q => by cases q) (by show ¬ (i < 0 ∨ (arrV _ _ _).slots.size ≤ _); rw [arrV_size]; exact h3) rfl rfl hd fun H1 e z oq => ?_
    refine hk H1 _ z ?_ (hS.put z oq (Nat.le_add_right _ _))
    rw [← plist_set (G := G) (h := h) (h' := pI h a i.toNatClampNeg v) (a := a) rfl hE2 (fun b hb => cell_pI G h a _ v b hb)]
    refine hH.2.set (plist_D G h) he ?_ oq
    show H1[gB G + a]? = some (vp_cell _ _)
    rw [e, vp_cell_i, vp_cell_i, arrV_store]
    congr 2
    funext q
    by_cases hq : q = i.toNatClampNeg
    · subst hq
      simp [updV, upd]
    · simp [updV, upd, hq]
  · exact hx.elim
/-- a byte that was narrowed, or a truth -/
def i_bast (K : Kt) : Kt := fun A st h => match st with
  | .int v :: .int i :: .ref a :: st => a < hT h ∧ ((hK h a = 13 ∧ v.toInt8.toInt32 = v) ∨ (hK h a = 15 ∧ (v = 0 ∨ v = 1))) ∧ vp_in i (hL h a) ∧ K A st (pI h a i.toNatClampNeg v)
  | _ => False
theorem s_bast : sfor .bastore 1 i_bast := by
  intro d M Q pc K hd hKt A st h hx
  unfold i_bast at hx
  split at hx
  · rename_i v i a st
    obtain ⟨h1, h2, h3, h4⟩ := hx
    obtain ⟨r, h', hq, hRn⟩ := hKt _ _ _ h4
    refine ⟨r, h', hq, Runs.upd (h1 := pI h a i.toNatClampNeg v) rfl rfl hRn fun G p l e R s m args below meth c H locs cells slots ls Qp hC hH hS hk => ?_⟩
    rcases h2 with ⟨h2, hn⟩ | ⟨h2, hn⟩
    · have he : (plist G h)[a]? = some (gB G + a, .inl (gA G 0, hL h a, .inl (hI h a))) := by rw [plist_at h1, cellE_arr h2 (by omega) (by omega)]
      have hE2 : cellE G (pI h a i.toNatClampNeg v) a = .inl (gA G 0, hL h a, .inl (upd (hI h a) i.toNatClampNeg v)) := by
        rw [cellE_arr (k := 13) (by rw [hK_pI]; exact h2) (by omega) (by omega), hI_row]; rfl
      refine W.bast hC.1 hC.2.1 (hH.2 a _ he) ((hC.2.2.2.2.2.2.1.1.2 0 _ rfl).1 (hL h a) (fun j => .int (hI h a j))) (fun q => by cases q) (by show ¬ (i < 0 ∨ (arrV _ _ _).slots.size ≤ _); rw [arrV_size]; exact h3) rfl rfl hd fun H1 e z oq => ?_
      refine hk H1 _ z ?_ (hS.put z oq (Nat.le_add_right _ _))
      rw [← plist_set (G := G) (h := h) (h' := pI h a i.toNatClampNeg v) (a := a) rfl hE2 (fun b hb => cell_pI G h a _ v b hb)]
      refine hH.2.set (plist_D G h) he ?_ oq
      show H1[gB G + a]? = some (vp_cell _ _)
      rw [e, vp_cell_i, vp_cell_i, arrV_store]
      congr 2
      funext q
      by_cases hq : q = i.toNatClampNeg
      · subst hq
        simp only [updV, upd, if_true]
        show narrow .byte (.int v) = _
        rw [narrow_byte, hn]
      · simp [updV, upd, hq]
    · have he : (plist G h)[a]? = some (gB G + a, .inl (gA G 2, hL h a, .inl (hI h a))) := by rw [plist_at h1, cellE_arr h2 (by omega) (by omega)]
      have hE2 : cellE G (pI h a i.toNatClampNeg v) a = .inl (gA G 2, hL h a, .inl (upd (hI h a) i.toNatClampNeg v)) := by
        rw [cellE_arr (k := 15) (by rw [hK_pI]; exact h2) (by omega) (by omega), hI_row]; rfl
      refine W.zast hC.1 hC.2.1 (hH.2 a _ he) ((hC.2.2.2.2.2.2.1.1.2 2 _ rfl).1 (hL h a) (fun j => .int (hI h a j))) (fun q => by cases q) (by show ¬ (i < 0 ∨ (arrV _ _ _).slots.size ≤ _); rw [arrV_size]; exact h3) rfl rfl hd fun H1 e z oq => ?_
      refine hk H1 _ z ?_ (hS.put z oq (Nat.le_add_right _ _))
      rw [← plist_set (G := G) (h := h) (h' := pI h a i.toNatClampNeg v) (a := a) rfl hE2 (fun b hb => cell_pI G h a _ v b hb)]
      refine hH.2.set (plist_D G h) he ?_ oq
      show H1[gB G + a]? = some (vp_cell _ _)
      rw [e, vp_cell_i, vp_cell_i, arrV_store]
      congr 2
      funext q
      by_cases hq : q = i.toNatClampNeg
      · subst hq
        simp only [updV, upd, if_true]
        show narrow .boolean (.int v) = _
        rcases hn with rfl | rfl <;> rfl
      · simp [updV, upd, hq]
  · exact hx.elim
