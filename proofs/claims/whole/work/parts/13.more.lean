/-! ===== switches, copies, arrays of objects ===== -/
def swP (x : Int32) (D : Prop) : List (Int32 × Prop) → Prop
  | [] => D
  | (c, P) :: t => (x = c → P) ∧ (¬ x = c → swP x D t)
def i_sw (L : List (Int32 × Kt)) (Kd : Kt) : Kt := fun A st h => match st with
  | .int x :: st => swP x (Kd A st h) (L.map (fun q => (q.1, q.2 A st h)))
  | _ => False
theorem swP_cases {x : Int32} {A : Lc} {st : List Value} {h : Hp} {Kd : Kt} : ∀ {L : List (Int32 × Kt)}, swP x (Kd A st h) (L.map (fun q => (q.1, q.2 A st h))) → (∃ (k : Nat) (c : Int32) (K : Kt), L[k]? = some (c, K) ∧ x = c ∧ K A st h) ∨ (Kd A st h ∧ ∀ (k : Nat) (c : Int32) (K : Kt), L[k]? = some (c, K) → ¬ x = c)
  | [], hx => Or.inr ⟨hx, fun k c K hk => by cases hk⟩
  | (c, K) :: t, hx => by
    obtain ⟨h1, h2⟩ := hx
    by_cases e : x = c
    · exact Or.inl ⟨0, c, K, rfl, e, h1 e⟩
    · rcases swP_cases (L := t) (h2 e) with ⟨k, c2, K2, g1, g2, g3⟩ | ⟨g1, g2⟩
      · exact Or.inl ⟨k + 1, c2, K2, g1, g2, g3⟩
      · refine Or.inr ⟨g1, fun k c2 K2 hk => ?_⟩
        cases k with
        | zero => cases hk; exact e
        | succ k => exact g2 k c2 K2 hk
theorem s_tab {d : Nat} {M : Mt} {Q : Option Value → Hp → Prop} {pc len : Nat} {dflt lo hi : Int} {offs : Array Int} {L : List (Int32 × Kt)} {Kd : Kt} (td : Nat) (hd : decode M.2.1 pc = .ok (.tableswitch dflt lo hi offs, len)) (hhi : hi + 1 = lo + L.length) (htd : (pc : Int) + dflt = (td : Int)) (hKd : ∀ A st h, Kd A st h → wp d M Q td A st h)
    (hc : ∀ (k : Nat) (c : Int32) (K : Kt), L[k]? = some (c, K) → c.toInt = lo + k ∧ ∃ (t : Nat) (o : Int), offs[k]? = some o ∧ (pc : Int) + o = (t : Int) ∧ ∀ A st h, K A st h → wp d M Q t A st h) : ∀ A st h, i_sw L Kd A st h → wp d M Q pc A st h := by
  intro A st h hx
  unfold i_sw at hx
  split at hx
  · rename_i x st
    rcases swP_cases hx with ⟨k, c, K, g1, g2, g3⟩ | ⟨g1, g2⟩
    · obtain ⟨hc1, t, o, ho, ht, hK⟩ := hc k c K g1
      obtain ⟨r, h', hq, hRn⟩ := hK _ _ _ g3
      have hk : k < L.length := (List.getElem?_eq_some_iff.mp g1).1
      subst g2
      refine ⟨r, h', hq, hRn.go fun G p l e R s m args below meth c H locs cells slots ls Qp hC hH hLr hk2 => ?_⟩
      exact lv_tableIn hC.1 hC.2.1 hd (by omega) (by omega) (by rw [hc1, show (lo + (k : Int) - lo).toNat = k by omega]; exact ho) ht (hk2 ls hLr)
    · obtain ⟨r, h', hq, hRn⟩ := hKd _ _ _ g1
      have hout : x.toInt < lo ∨ hi < x.toInt := by
        rcases Classical.em (x.toInt < lo ∨ hi < x.toInt) with q | q
        · exact q
        · exfalso
          have hk : (x.toInt - lo).toNat < L.length := by omega
          rcases hcK : L[(x.toInt - lo).toNat] with ⟨c, K⟩
          have hg : L[(x.toInt - lo).toNat]? = some (c, K) := by rw [List.getElem?_eq_getElem hk, hcK]
          have h1 := (hc _ c K hg).1
          refine g2 _ c K hg (Int32.toInt_inj.mp ?_)
          omega
      refine ⟨r, h', hq, hRn.go fun G p l e R s m args below meth c H locs cells slots ls Qp hC hH hLr hk2 => ?_⟩
      exact lv_tableOut hC.1 hC.2.1 hd hout htd (hk2 ls hLr)
  · exact hx.elim
/-- two cases, by their numbers -/
theorem s_look {d : Nat} {M : Mt} {Q : Option Value → Hp → Prop} {pc len : Nat} {dflt a1 o1 a2 o2 : Int} {c1 c2 : Int32} {K1 K2 Kd : Kt} (td t1 t2 : Nat) (hd : decode M.2.1 pc = .ok (.lookupswitch dflt #[(a1, o1), (a2, o2)], len)) (hlt : a1 < a2) (hc1 : c1.toInt = a1) (hc2 : c2.toInt = a2) (htd : (pc : Int) + dflt = (td : Int)) (ht1 : (pc : Int) + o1 = (t1 : Int)) (ht2 : (pc : Int) + o2 = (t2 : Int))
    (hKd : ∀ A st h, Kd A st h → wp d M Q td A st h) (hK1 : ∀ A st h, K1 A st h → wp d M Q t1 A st h) (hK2 : ∀ A st h, K2 A st h → wp d M Q t2 A st h) : ∀ A st h, i_sw [(c1, K1), (c2, K2)] Kd A st h → wp d M Q pc A st h := by
  have hp : ((#[(a1, o1), (a2, o2)] : Array (Int × Int)).toList.zip ((#[(a1, o1), (a2, o2)] : Array (Int × Int)).toList.drop 1)).all (fun (a, next) => a.1 < next.1) = true := by simp [hlt]
  intro A st h hx
  unfold i_sw at hx
  split at hx
  · rename_i x st
    obtain ⟨g1, g2⟩ := hx
    by_cases e1 : x = c1
    · obtain ⟨r, h', hq, hRn⟩ := hK1 _ _ _ (g1 e1)
      refine ⟨r, h', hq, hRn.go fun G p l e R s m args below meth c H locs cells slots ls Qp hC hH hLr hk2 => ?_⟩
      exact lv_lookup hC.1 hC.2.1 hd hp (by rw [e1, hc1]; show Op.lookupswitch.offset ((a1, o1) :: _) _ _ = o1; rw [Op.lookupswitch.offset_cons, if_pos rfl]) ht1 (hk2 ls hLr)
    · obtain ⟨g3, g4⟩ := g2 e1
      by_cases e2 : x = c2
      · obtain ⟨r, h', hq, hRn⟩ := hK2 _ _ _ (g3 e2)
        refine ⟨r, h', hq, hRn.go fun G p l e R s m args below meth c H locs cells slots ls Qp hC hH hLr hk2 => ?_⟩
        refine lv_lookup (off := o2) hC.1 hC.2.1 hd hp ?_ ht2 (hk2 ls hLr)
        show Op.lookupswitch.offset ((a1, o1) :: (a2, o2) :: []) _ _ = o2
        rw [lv_osw e1 hc1, e2, hc2, Op.lookupswitch.offset_cons, if_pos rfl]
      · obtain ⟨r, h', hq, hRn⟩ := hKd _ _ _ (g4 e2)
        refine ⟨r, h', hq, hRn.go fun G p l e R s m args below meth c H locs cells slots ls Qp hC hH hLr hk2 => ?_⟩
        refine lv_lookup (off := dflt) hC.1 hC.2.1 hd hp ?_ htd (hk2 ls hLr)
        show Op.lookupswitch.offset ((a1, o1) :: (a2, o2) :: []) _ _ = dflt
        rw [lv_osw e1 hc1, lv_osw e2 hc2]
        rfl
  · exact hx.elim
/-! arrays of the class's states -/
def i_aast (K : Kt) : Kt := fun A st h => match st with
  | .ref b :: .int i :: .ref a :: st => a < hT h ∧ hK h a = 16 ∧ b < hT h ∧ hK h b = 8 ∧ vp_in i (hL h a) ∧ K A st (pR h a i.toNatClampNeg (some b))
  | _ => False
theorem s_aast (hk8 : clsOk 8 RX8 TX8 5) : sfor .aastore 1 i_aast := by
  intro d M Q pc K hd hKt A st h hx
  unfold i_aast at hx
  split at hx
  · rename_i b i a st
    obtain ⟨h1, h2, h3, h3', hin, h4⟩ := hx
    obtain ⟨r, h', hq, hRn⟩ := hKt _ _ _ h4
    refine ⟨r, h', hq, Runs.upd (h1 := pR h a i.toNatClampNeg (some b)) rfl rfl hRn fun G p l e R s m args below meth c H locs cells slots ls Qp hC hH hS hk => ?_⟩
    have he : (plist G h)[a]? = some (gB G + a, .inl (gA G 3, hL h a, .inr (.inr (.inr (.inr (fun j => (hR h a j).map (fun x => gB G + x))))))) := by rw [plist_at h1, cellE_rarr h2]
    have hv : (plist G h)[b]? = some (gB G + b, .inr (8, flds G h b 8)) := by rw [plist_at h3, cellE_obj h3' (by decide)]
    have hE2 : cellE G (pR h a i.toNatClampNeg (some b)) a = .inl (gA G 3, hL h a, .inr (.inr (.inr (.inr (va_up (fun j => (hR h a j).map (fun x => gB G + x)) i.toNatClampNeg (some (gB G + b))))))) := by
      rw [cellE_rarr (by rw [hK_pR]; exact h2), hL_pR]
      congr 7
      funext j
      rw [hR_pR]
      unfold va_up
      by_cases e : j = i.toNatClampNeg <;> simp [e]
    have hlt : i.toNatClampNeg < hL h a := Nat.not_le.mp fun q => hin (Or.inr q)
    have h0 : ¬ i < 0 := fun q => hin (Or.inl q)
    obtain ⟨r', hr', cellV, g1, g2, g3, -⟩ := hH.2 b _ hv
    have hKa := hC.2.2.2.2.2.2.1.1
    have hcls := (hKa.1 8 _ hk8.1).2
    obtain ⟨kA, comp, k1, k2, k3, -⟩ := (hKa.2 3 _ (show (gT G)[3]? = some (gA G 3, .object RX8) from rfl)).2
    have hcomp : comp = (gD G).1 8 := Option.some.inj (k3.symm.trans hcls.1)
    subst hcomp
    obtain ⟨kC, hkC, -⟩ := hcls.2
    refine W.aast hC.1 hC.2.1 (hH.2 a _ he) (fun q h => by cases h) (fun h => by cases h) k1 k2 rfl hkC ⟨h0, by show _ < (arrV _ _ _).slots.size; rw [arrV_size]; exact hlt⟩ g1 (fun q h => by rw [g3] at h; cases h) (by rw [g2]; exact hkC) (by rw [g2]; exact va_assign hcls) rfl rfl hd fun H1 e z oq => ?_
    refine hk H1 _ z ?_ (hS.put z oq (Nat.le_add_right _ _))
    rw [← plist_set (G := G) (h := h) (h' := pR h a i.toNatClampNeg (some b)) (a := a) rfl hE2 (fun b' hb => cell_pR G h a _ _ b' hb)]
    refine hH.2.set (plist_D G h) he ?_ oq
    show H1[gB G + a]? = some (vp_cell _ _)
    rw [e, vp_cell_q, vp_cell_q, arrV_store]
    congr 2
    funext q
    by_cases hq : q = i.toNatClampNeg
    · subst hq
      simp [updV, va_up, va_rf]
    · simp [updV, va_up, hq]
  · exact hx.elim
def i_anew (K : Kt) : Kt := fun A st h => match st with
  | .int n :: st => ¬ n < 0 ∧ n.toNatClampNeg ≤ 100000 ∧ K A (.ref (hT h) :: st) (nC h 16 n.toNatClampNeg)
  | _ => False
theorem s_anew {own : String} {idx : Nat} (hw1 : Cond.classLink own idx RX8 ∈ gw) : sforC own (.anewarray idx) 3 i_anew := by
  intro d M Q pc K ho hd hKt A st h hx
  unfold i_anew at hx
  split at hx
  · rename_i n st
    obtain ⟨h1, h2, h4⟩ := hx
    obtain ⟨r, h', hq, hRn⟩ := hKt _ _ _ h4
    refine ⟨r, h', hq, Runs.alloc (k := 16) (n := n.toNatClampNeg) hRn fun G p l e R s m args below meth c H locs cells slots ls Qp hC hH c1 c2 hk2 => ?_⟩
    refine W.anew hC.1 hC.2.1 (by rw [← ho]; exact hC.2.2.2.2.1) (hC.2.2.2.2.2.1 _ hw1) (va_AO.use hC.2.2.2.2.2.2.1.2.2.2.2.2.2.2) rfl hd rfl h1 (by omega) c1 c2 fun cA kA comp g1 g2 g3 g4 => ?_
    refine hk2 _ (by simp) (fun q hq => by rw [Array.getElem?_push, if_neg (by omega)]) ?_
    obtain ⟨kA', comp', k1, k2, k3, k4⟩ := (hC.2.2.2.2.2.2.1.1.2 3 _ (show (gT G)[3]? = some (gA G 3, .object RX8) from rfl)).2
    have hcA : cA = gA G 3 := Option.some.inj (g1.symm.trans k4)
    rw [cellE_rarr (by rw [hK_nC, if_pos rfl])]
    show (H.push _)[H.size]? = some (vp_cell _ _)
    rw [Array.getElem?_push, if_pos rfl, hcA, vp_cell_q, hL_nC, if_pos rfl]
    congr 1
    unfold arrV
    congr 1
    apply Array.ext
    · simp
    · intro j j1 j2
      simp [hR_nC, va_rf]
  · exact hx.elim
/-- System.arraycopy of ints -/
def cpI (h : Hp) (a b sp dp n : Nat) : Hp := wI h (fun x i => if x = b ∧ dp ≤ i ∧ i < dp + n then hI h a (sp + (i - dp)) else hI h x i)
def i_copy (K : Kt) : Kt := fun A st h => match st with
  | .int n :: .int dp :: .ref b :: .int sp :: .ref a :: st => a < hT h ∧ b < hT h ∧ hK h a = 14 ∧ hK h b = 14 ∧ ¬ sp < 0 ∧ ¬ dp < 0 ∧ ¬ n < 0 ∧ sp.toNatClampNeg + n.toNatClampNeg ≤ hL h a ∧ dp.toNatClampNeg + n.toNatClampNeg ≤ hL h b ∧ st.length ≤ 4 ∧ K A st (cpI h a b sp.toNatClampNeg dp.toNatClampNeg n.toNatClampNeg)
  | _ => False
theorem s_copy {own : String} {idx : Nat} (hw1 : Cond.methodLink own idx arraycopyName ∈ gw) (hw2 : Cond.native arraycopyName ∈ gw) (hw3 : Cond.static arraycopyName ∈ gw) (hw4 : Cond.initialized "java/lang/System" ∈ gw) : ∀ (d : Nat) (M : Mt) (Q : Option Value → Hp → Prop) (pc : Nat) (K : Kt), M.1.cls = own → 1 ≤ d → decode M.2.1 pc = .ok (.invokestatic idx, 3) → (∀ A st h, K A st h → wp d M Q (pc + 3) A st h) → ∀ A st h, i_copy K A st h → wp d M Q pc A st h := by
  intro d M Q pc K ho hd1 hd hKt A st h hx
  unfold i_copy at hx
  split at hx
  · rename_i n dp b sp a st
    obtain ⟨ha, hb2, hka, hkb, h1, h2, h3, h4, h5, hst, hx⟩ := hx
    obtain ⟨r, h', hq, hRn⟩ := hKt _ _ _ hx
    have t1 := hRn.1
    have t2 := hRn.2.1
    refine ⟨r, h', hq, t1, t2, fun G p l e R s m args below meth c H locs cells slots ls hC hH hg hS hL q1 q2 q3 q4 => ?_⟩
    obtain ⟨hx, hb, hr, hml, hown, hts, hE, hlk, hnm⟩ := hC
    rw [ho] at hown
    have he0 : (plist G h)[a]? = some (gB G + a, .inl (gA G 1, Jvm.Pilot.CNightShelterLaw_law_r7253_40259b.hL h a, .inl (hI h a))) := by rw [plist_at ha, cellE_arr hka (by omega) (by omega)]
    have he1 : (plist G h)[b]? = some (gB G + b, .inl (gA G 1, Jvm.Pilot.CNightShelterLaw_law_r7253_40259b.hL h b, .inl (hI h b))) := by rw [plist_at hb2, cellE_arr hkb (by omega) (by omega)]
    have hc0 : H[gB G + a]? = some (vp_cell (gA G 1) (Jvm.Pilot.CNightShelterLaw_law_r7253_40259b.hL h a, .inl (hI h a))) := hH.2 a _ he0
    have hc1 : H[gB G + b]? = some (vp_cell (gA G 1) (Jvm.Pilot.CNightShelterLaw_law_r7253_40259b.hL h b, .inl (hI h b))) := hH.2 b _ he1
    have hE2 : cellE G (cpI h a b sp.toNatClampNeg dp.toNatClampNeg n.toNatClampNeg) b = .inl (gA G 1, Jvm.Pilot.CNightShelterLaw_law_r7253_40259b.hL h b, .inl (va_cpy (hI h a) (hI h b) sp.toNatClampNeg dp.toNatClampNeg n.toNatClampNeg)) := by
      have hrow : hI (cpI h a b sp.toNatClampNeg dp.toNatClampNeg n.toNatClampNeg) b = va_cpy (hI h a) (hI h b) sp.toNatClampNeg dp.toNatClampNeg n.toNatClampNeg := by
        funext i
        show (if b = b ∧ dp.toNatClampNeg ≤ i ∧ i < dp.toNatClampNeg + n.toNatClampNeg then _ else _) = (if _ then _ else _)
        simp
      rw [cellE_arr (k := 14) (by exact hkb) (by omega) (by omega), hrow]
      rfl
    have hob : ∀ b', b' ≠ b → cellE G (cpI h a b sp.toNatClampNeg dp.toNatClampNeg n.toNatClampNeg) b' = cellE G h b' := fun b' hb' => cellE_congr rfl rfl (by
      funext i
      show (if b' = b ∧ _ ∧ _ then _ else _) = _
      rw [if_neg (fun q => hb' q.1)]) rfl rfl
    have nn : ∀ z : Int32, ¬ z < 0 → z.toInt = (z.toNatClampNeg : Int) := by
      intro z hz
      have hz0 : (0 : Int) ≤ z.toInt := by
        have := Int32.not_lt.mp hz
        simpa using Int32.le_iff_toInt_le.mp this
      show z.toInt = ((z.toInt.toNat : Nat) : Int)
      omega
    intro T hT X
    obtain ⟨-, k0, hk0, cm0, hkk0⟩ := (hE.1.2 1 _ (show (gT G)[1]? = some (gA G 1, .int) from rfl)).1 (Jvm.Pilot.CNightShelterLaw_law_r7253_40259b.hL h a) (fun j => .int (hI h a j))
    obtain ⟨-, k1, hk1, cm1, hkk1⟩ := (hE.1.2 1 _ (show (gT G)[1]? = some (gA G 1, .int) from rfl)).1 (Jvm.Pilot.CNightShelterLaw_law_r7253_40259b.hL h b) (fun j => .int (hI h b j))
    have hcs := cat_sum G st hst
    have hnf : nativeFrameWords "java/lang/System" "arraycopy" 5 + 11 ≤ 33 := by decide +kernel
    obtain ⟨vm', X', step⟩ := X.arraycopy hx hown (hts _ hw1) (hts _ hw2) (hts _ hw3) (hts _ hw4) (src := gB G + a) (dst := gB G + b) (cs := vp_cell (gA G 1) (Jvm.Pilot.CNightShelterLaw_law_r7253_40259b.hL h a, .inl (hI h a))) (cd := vp_cell (gA G 1) (Jvm.Pilot.CNightShelterLaw_law_r7253_40259b.hL h b, .inl (hI h b))) (srcPos := sp) (destPos := dp) (n := n) (by rw [hT]; exact hc0) (by rw [hT]; exact hc1)
      (fun _ h => by cases h) (fun _ h => by cases h) (fun h => by cases h) (fun h => by cases h) hk0 hk1 hkk0 hkk1 (by simp [refKind]) h1 h2 h3
      (by rw [nn sp h1, nn n h3]; show ¬ _ > ((arrV (gA G 1) _ (fun j => .int (hI h a j))).slots.size : Int); rw [arrV_size]; omega)
      (by rw [nn dp h2, nn n h3]; show ¬ _ > ((arrV (gA G 1) _ (fun j => .int (hI h b j))).slots.size : Int); rw [arrV_size]; omega)
      (fun vm₁ _ i hi => by
        have e : (vp_cell (gA G 1) (Jvm.Pilot.CNightShelterLaw_law_r7253_40259b.hL h a, .inl (hI h a))).slots.getD (sp.toNatClampNeg + i) .null = .int (hI h a (sp.toNatClampNeg + i)) := by
          show (arrV (gA G 1) _ (fun j => .int (hI h a j))).slots.getD _ _ = _
          rw [Array.getD_eq_getD_getElem?, arrV_read _ _ (by omega)]
          rfl
        refine ⟨?_, ?_⟩
        · rw [e]; rfl
        · rw [e]
          exact trivial)
      (g := F0 m pc ls ((.int n :: .int dp :: .ref b :: .int sp :: .ref a :: st).map (cz G))) rfl (by rw [hml]; exact hL.1.1) (rest := st.map (cz G)) rfl (by rw [hb]; exact hd) (by omega) (by show 2 * 0 + _ + (nativeFrameWords "java/lang/System" "arraycopy" 5 + 11) ≤ _; omega)
    have e1 : copied (vp_cell (gA G 1) (Jvm.Pilot.CNightShelterLaw_law_r7253_40259b.hL h a, .inl (hI h a))) (vp_cell (gA G 1) (Jvm.Pilot.CNightShelterLaw_law_r7253_40259b.hL h b, .inl (hI h b))) sp dp n = vp_cell (gA G 1) (Jvm.Pilot.CNightShelterLaw_law_r7253_40259b.hL h b, .inl (va_cpy (hI h a) (hI h b) sp.toNatClampNeg dp.toNatClampNeg n.toNatClampNeg)) := va_copied (fun z => .int z) (gA G 1) (gA G 1) (hI h a) (hI h b) h4
    rw [e1] at X' step
    have hl : gB G + b < H.size := (Array.getElem?_eq_some_iff.mp hc1).1
    have oq : ∀ q : Nat, q ≠ gB G + b → (H.setIfInBounds (gB G + b) (vp_cell (gA G 1) (Jvm.Pilot.CNightShelterLaw_law_r7253_40259b.hL h b, .inl (va_cpy (hI h a) (hI h b) sp.toNatClampNeg dp.toNatClampNeg n.toNatClampNeg))))[q]? = H[q]? := fun q hq => by simp [Array.getElem?_setIfInBounds, Ne.symm hq]
    have hP1 : va_P (gD G) vwCl (plist G (cpI h a b sp.toNatClampNeg dp.toNatClampNeg n.toNatClampNeg)) (H.setIfInBounds (gB G + b) (vp_cell (gA G 1) (Jvm.Pilot.CNightShelterLaw_law_r7253_40259b.hL h b, .inl (va_cpy (hI h a) (hI h b) sp.toNatClampNeg dp.toNatClampNeg n.toNatClampNeg)))) := by
      rw [← plist_set (G := G) (h := h) (h' := cpI h a b sp.toNatClampNeg dp.toNatClampNeg n.toNatClampNeg) (a := b) rfl hE2 hob]
      exact hH.2.set (plist_D G h) he1 (show (H.setIfInBounds (gB G + b) _)[gB G + b]? = some _ by simp [Array.getElem?_setIfInBounds, hl]) oq
    have hS2 : ∀ L : List Loc, (∀ q ∈ L, q.base = gB G + b) → va_S (fun q => gB G ≤ q) s.heap (H.setIfInBounds (gB G + b) (vp_cell (gA G 1) (Jvm.Pilot.CNightShelterLaw_law_r7253_40259b.hL h b, .inl (va_cpy (hI h a) (hI h b) sp.toNatClampNeg dp.toNatClampNeg n.toNatClampNeg)))) (locs ++ L) := fun L hLL => ⟨by simp; exact hS.1, fun q g1 g2 => by
        rw [oq q (fun e => g2 (by rw [e]; exact Nat.le_add_right _ _))]
        exact hS.2.1 q g1 g2, fun q hq => by
        rcases List.mem_append.mp hq with h | h
        · exact hS.2.2 q h
        · rw [hLL q h]; exact Nat.le_add_right _ _⟩
    obtain ⟨t, a1, b1⟩ := hRn.2.2 G p l e R s m args below meth c (H.setIfInBounds (gB G + b) (vp_cell (gA G 1) (Jvm.Pilot.CNightShelterLaw_law_r7253_40259b.hL h b, .inl (va_cpy (hI h a) (hI h b) sp.toNatClampNeg dp.toNatClampNeg n.toNatClampNeg)))) _ cells slots ls ⟨hx, hb, hr, hml, by rw [ho]; exact hown, hts, hE, hlk, hnm⟩ ⟨by simp; exact hH.1, hP1⟩ hg (hS2 _ (fun q hq => by
      obtain ⟨z, -, hz⟩ := List.mem_map.mp hq
      rw [← hz])) hL q1 q2 q3 q4 _ (by rw [← hT]; rfl) X'
    exact ⟨t, step t a1, b1⟩
  · exact hx.elim
/-! Math -/
def i_binS (f : Int32 → Int32 → Int32) (K : Kt) : Kt := fun A st h => match st with
  | .int y :: .int x :: st => sh4 st (K A (.int (f x y) :: st) h)
  | _ => False
theorem s_max {own : String} {idx : Nat} (hw1 : Cond.methodLink own idx Lib.Math.max.name ∈ gw) (hw2 : Cond.static Lib.Math.max.name ∈ gw) (hw3 : Cond.initialized "java/lang/Math" ∈ gw) (hw4 : Cond.code Lib.Math.max.name Lib.Math.max.code 2 (some .int) ∈ gw) : scall own 0 (.invokestatic idx) (i_binS (fun x y => if x < y then y else x)) := by
  intro d M Q pc K ho hdc hd hKt A st h hx
  unfold i_binS at hx
  split at hx
  · rename_i y x st
    obtain ⟨hsh, hx⟩ := sh4_of hx
    obtain ⟨r, h', hq, hRn⟩ := hKt _ _ _ hx
    refine ⟨r, h', hq, hRn.1, hRn.2.1, fun G p l e R s m args below meth c H locs cells slots ls hC hH hg hS hL q1 q2 q3 q4 => ?_⟩
    have hk := hRn.2.2 G p l e R s m args below meth c H locs cells slots ls hC hH hg hS hL q1 q2 q3 q4
    have hcs := cat_sum G st hsh
    exact va_mmax hC.1 hC.2.1 (by rw [hC.2.2.2.1]; exact hL.1.1.symm) (by rw [← ho]; exact hC.2.2.2.2.1) (hC.2.2.2.2.2.1 _ hw1) (hC.2.2.2.2.2.1 _ hw2) (hC.2.2.2.2.2.1 _ hw3) (hC.2.2.2.2.2.1 _ hw4) (by omega) (by omega) (by omega) (by omega) hd hk
  · exact hx.elim
theorem s_min {own : String} {idx : Nat} (hw1 : Cond.methodLink own idx Lib.Math.min.name ∈ gw) (hw2 : Cond.static Lib.Math.min.name ∈ gw) (hw3 : Cond.initialized "java/lang/Math" ∈ gw) (hw4 : Cond.code Lib.Math.min.name Lib.Math.min.code 2 (some .int) ∈ gw) : scall own 0 (.invokestatic idx) (i_binS (fun x y => if y < x then y else x)) := by
  intro d M Q pc K ho hdc hd hKt A st h hx
  unfold i_binS at hx
  split at hx
  · rename_i y x st
    obtain ⟨hsh, hx⟩ := sh4_of hx
    obtain ⟨r, h', hq, hRn⟩ := hKt _ _ _ hx
    refine ⟨r, h', hq, hRn.1, hRn.2.1, fun G p l e R s m args below meth c H locs cells slots ls hC hH hg hS hL q1 q2 q3 q4 => ?_⟩
    have hk := hRn.2.2 G p l e R s m args below meth c H locs cells slots ls hC hH hg hS hL q1 q2 q3 q4
    have hcs := cat_sum G st hsh
    exact va_mmin hC.1 hC.2.1 (by rw [hC.2.2.2.1]; exact hL.1.1.symm) (by rw [← ho]; exact hC.2.2.2.2.1) (hC.2.2.2.2.2.1 _ hw1) (hC.2.2.2.2.2.1 _ hw2) (hC.2.2.2.2.2.1 _ hw3) (hC.2.2.2.2.2.1 _ hw4) (by omega) (by omega) (by omega) (by omega) hd hk
  · exact hx.elim
