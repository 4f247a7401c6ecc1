/-! ===== fields and arrays ===== -/
theorem cellE_congr {G : Gm} {h h' : Hp} {b : Nat} (h1 : hK h' b = hK h b) (h2 : hL h' b = hL h b) (h3 : hI h' b = hI h b) (h4 : hR h' b = hR h b) (h5 : hJ h' b = hJ h b) : cellE G h' b = cellE G h b := by
  have hf : ∀ k, flds G h' b k = flds G h b k := fun k => by
    unfold flds
    apply List.map_congr_left
    intro j _
    unfold fv fvT
    rw [h3, h4, h5]
  unfold cellE
  rw [h1, h2, h3, h4, hf]
theorem flds_len (G : Gm) (h : Hp) (a k : Nat) : (flds G h a k).length = fN k := by simp [flds]
theorem flds_at {G : Gm} {h : Hp} {a k j : Nat} (hj : j < fN k) : (flds G h a k)[j]? = some (cz G (fv h a k j)) := by simp [flds, hj]
theorem flds_set {G : Gm} {h h' : Hp} {a k j : Nat} {v : Value} (hv : fv h' a k j = v) (ho : ∀ i, i ≠ j → fv h' a k i = fv h a k i) : (flds G h a k).set j (cz G v) = flds G h' a k := by
  apply List.ext_getElem?
  intro i
  rw [List.getElem?_set]
  by_cases hi : i < fN k
  · by_cases e : j = i
    · subst e
      rw [flds_at (h := h') hi, if_pos rfl, if_pos (by rw [flds_len]; exact hi), hv]
    · rw [if_neg e, flds_at hi, flds_at (h := h') hi, ho i (fun q => e q.symm)]
  · have h1 : (flds G h a k)[i]? = none := List.getElem?_eq_none (by rw [flds_len]; omega)
    have h2 : (flds G h' a k)[i]? = none := List.getElem?_eq_none (by rw [flds_len]; omega)
    rw [h2]
    split
    · rw [flds_len] at *
      split <;> first | rfl | omega
    · exact h1
theorem cellE_obj {G : Gm} {h : Hp} {a k : Nat} (hk : hK h a = k) (h13 : k < 13) : cellE G h a = .inr (k, flds G h a k) := by
  unfold cellE
  rw [hk, if_pos h13]
theorem cellE_arr {G : Gm} {h : Hp} {a k : Nat} (hk : hK h a = k) (h13 : 13 ≤ k) (h16 : k ≠ 16) : cellE G h a = .inl (gA G (k - 13), hL h a, .inl (hI h a)) := by
  unfold cellE
  rw [hk, if_neg (by omega), if_neg h16]
theorem cellE_rarr {G : Gm} {h : Hp} {a : Nat} (hk : hK h a = 16) : cellE G h a = .inl (gA G 3, hL h a, .inr (.inr (.inr (.inr (fun j => (hR h a j).map (fun x => gB G + x)))))) := by
  unfold cellE
  rw [hk, if_neg (by omega), if_pos rfl]
/-- a class, by its number: what the tables say of it -/
def clsOk (k : Nat) (C : String) (T : u_T) (N : Nat) : Prop := vwCl[k]? = some (C, T, N) ∧ fN k = N ∧ k < 13 ∧ (∀ w ∈ u_ws C T N, w ∈ gw) ∧ (∀ j, j < N → parseFieldDescriptor (T j).2.2.1 = some (fty k j)) ∧ (∀ a, a < N → ∀ b, b < N → a ≠ b → (T a).2.1 ≠ (T b).2.1)
def i_getI (k j : Nat) (K : Kt) : Kt := fun A st h => match st with
  | .ref a :: st => a < hT h ∧ hK h a = k ∧ K A (.int (hI h a j) :: st) h
  | _ => False
def i_getJ (k j : Nat) (K : Kt) : Kt := fun A st h => match st with
  | .ref a :: st => a < hT h ∧ hK h a = k ∧ K A (.long (hJ h a j) :: st) h
  | _ => False
def i_getN (k j : Nat) (K : Kt) : Kt := fun A st h => match st with
  | .ref a :: st => a < hT h ∧ hK h a = k ∧ (∀ b, hR h a j = some b → K A (.ref b :: st) h) ∧ (hR h a j = none → K A (.null :: st) h)
  | _ => False
/-- a reference that isn't null -/
def i_getR (k j : Nat) (K : Kt) : Kt := fun A st h => match st with
  | .ref a :: st => a < hT h ∧ hK h a = k ∧ ∃ b, hR h a j = some b ∧ K A (.ref b :: st) h
  | _ => False
theorem Runs.getf {d : Nat} {M : Mt} {pc : Nat} {A : Lc} {st : List Value} {h h' : Hp} {r : Option Value} {own C : String} {k j idx N a : Nat} {T : u_T} (hk : clsOk k C T N) (hj : j < N) (hw : Cond.fieldLink own idx (T j).1 (T j).2.1 (T j).2.2.1 ∈ gw) (ho : M.1.cls = own) (hd : decode M.2.1 pc = .ok (.getfield idx, 3)) (ha : a < hT h) (hka : hK h a = k)
    (hR : Runs d M (pc + 3) A (fv h a k j :: st) h r h') : Runs d M pc A (.ref a :: st) h r h' := by
  refine hR.go fun G p l e R s m args below meth c H locs cells slots ls Qp hC hH hL hk2 => ?_
  have he : (plist G h)[a]? = some (gB G + a, .inr (k, flds G h a k)) := by rw [plist_at ha, cellE_obj hka hk.2.2.1]
  exact va_get (C := C) (T := T) (N := N) (own := own) (ref := (T j).1) (index := idx) hC.1 hC.2.1 hC.2.2.2.2.2.1 hk.2.2.2.1 (by rw [← ho]; exact hC.2.2.2.2.1) hC.2.2.2.2.2.2.1.1 hH.2 a he hk.1 j hj (hC.2.2.2.2.2.1 _ hw) (fun _ h9 => h9) (flds_at (by rw [hk.2.1]; exact hj)) hd (hk2 ls hL)
theorem s_getI {own C : String} {k j idx N : Nat} {T : u_T} (hk : clsOk k C T N) (hj : j < N) (hf : ∀ h a, fv h a k j = .int (hI h a j)) (hw : Cond.fieldLink own idx (T j).1 (T j).2.1 (T j).2.2.1 ∈ gw) : sforC own (.getfield idx) 3 (i_getI k j) := by
  intro d M Q pc K ho hd hK A st h hx
  unfold i_getI at hx
  split at hx
  · obtain ⟨h1, h2, h3⟩ := hx
    obtain ⟨r, h', hq, hR⟩ := hK _ _ _ h3
    exact ⟨r, h', hq, Runs.getf hk hj hw ho hd h1 h2 (by rw [hf]; exact hR)⟩
  · exact hx.elim
theorem s_getJ {own C : String} {k j idx N : Nat} {T : u_T} (hk : clsOk k C T N) (hj : j < N) (hf : ∀ h a, fv h a k j = .long (hJ h a j)) (hw : Cond.fieldLink own idx (T j).1 (T j).2.1 (T j).2.2.1 ∈ gw) : sforC own (.getfield idx) 3 (i_getJ k j) := by
  intro d M Q pc K ho hd hK A st h hx
  unfold i_getJ at hx
  split at hx
  · obtain ⟨h1, h2, h3⟩ := hx
    obtain ⟨r, h', hq, hR⟩ := hK _ _ _ h3
    exact ⟨r, h', hq, Runs.getf hk hj hw ho hd h1 h2 (by rw [hf]; exact hR)⟩
  · exact hx.elim
theorem s_getN {own C : String} {k j idx N : Nat} {T : u_T} (hk : clsOk k C T N) (hj : j < N) (hf : ∀ h a, fv h a k j = va_rf (hR h a j)) (hw : Cond.fieldLink own idx (T j).1 (T j).2.1 (T j).2.2.1 ∈ gw) : sforC own (.getfield idx) 3 (i_getN k j) := by
  intro d M Q pc K ho hd hK A st h hx
  unfold i_getN at hx
  split at hx
  · rename_i a st
    obtain ⟨h1, h2, h3, h4⟩ := hx
    cases hv : hR h a j with
    | some b =>
      obtain ⟨r, h', hq, hR⟩ := hK _ _ _ (h3 b hv)
      exact ⟨r, h', hq, Runs.getf hk hj hw ho hd h1 h2 (by rw [hf, hv]; exact hR)⟩
    | none =>
      obtain ⟨r, h', hq, hR⟩ := hK _ _ _ (h4 hv)
      exact ⟨r, h', hq, Runs.getf hk hj hw ho hd h1 h2 (by rw [hf, hv]; exact hR)⟩
  · exact hx.elim
theorem s_getR {own C : String} {k j idx N : Nat} {T : u_T} (hk : clsOk k C T N) (hj : j < N) (hf : ∀ h a, fv h a k j = va_rf (hR h a j)) (hw : Cond.fieldLink own idx (T j).1 (T j).2.1 (T j).2.2.1 ∈ gw) : sforC own (.getfield idx) 3 (i_getR k j) := by
  intro d M Q pc K ho hd hK A st h hx
  unfold i_getR at hx
  split at hx
  · obtain ⟨h1, h2, b, hv, h3⟩ := hx
    obtain ⟨r, h', hq, hR⟩ := hK _ _ _ h3
    exact ⟨r, h', hq, Runs.getf hk hj hw ho hd h1 h2 (by rw [hf, hv]; exact hR)⟩
  · exact hx.elim
/-- a step that changes what cells hold, and makes none -/
theorem Runs.upd {d : Nat} {M : Mt} {pc pc' : Nat} {A : Lc} {st st' : List Value} {h h1 h' : Hp} {r : Option Value} (hT1 : hT h1 = hT h) (hS1 : hS h1 = hS h) (hR : Runs d M pc' A st' h1 r h')
    (hW : ∀ (G : Gm) (p : Program) (l : Launch) (e : Env) (R : Room) (s : State) (m : MethodId) (args : Array Value) (below : List Frame) (meth : Method) (c : Code) (H : Heap) (locs : List Loc) (cells slots : Nat) (ls : Array Slot) (Qp : State → Prop),
      Ctx G M p s m args meth c → HR G h H → va_S (fun q => gB G ≤ q) s.heap H locs → (∀ (H1 : Heap) (locs1 : List Loc), H1.size = H.size → va_P (gD G) vwCl (plist G h1) H1 → va_S (fun q => gB G ≤ q) s.heap H1 locs1 → W p l e R s m args below meth c H1 locs1 cells slots Qp (F0 m pc' ls (st'.map (cz G)))) → W p l e R s m args below meth c H locs cells slots Qp (F0 m pc ls (st.map (cz G)))) : Runs d M pc A st h r h' := by
  refine ⟨by rw [← hT1]; exact hR.1, by rw [← hS1]; exact hR.2.1, fun G p l e R s m args below meth c H locs cells slots ls hC hH hg hS hL q1 q2 q3 q4 => ?_⟩
  refine hW G p l e R s m args below meth c H locs cells slots ls _ hC hH hS fun H1 locs1 z hP hS1' => ?_
  have h9 := hR.2.2 G p l e R s m args below meth c H1 locs1 cells slots ls hC ⟨by rw [z, hT1]; exact hH.1, hP⟩ hg hS1' hL q1 q2 (by rw [hT1]; exact q3) (by rw [hS1]; exact q4)
  rw [hT1, hS1] at h9
  exact h9
theorem Runs.putf {d : Nat} {M : Mt} {pc : Nat} {A : Lc} {st : List Value} {h h1 h' : Hp} {r : Option Value} {own C : String} {k j idx N a : Nat} {T : u_T} {v : Value} (hk : clsOk k C T N) (hj : j < N) (hw : Cond.fieldLink own idx (T j).1 (T j).2.1 (T j).2.2.1 ∈ gw) (hfin : (T j).2.2.2 = false ∨ ((T j).2.2.2 = true ∧ M.1.name = "<init>" ∧ (T j).1 = own)) (ho : M.1.cls = own) (hd : decode M.2.1 pc = .ok (.putfield idx, 3)) (ha : a < hT h) (hka : hK h a = k)
    (hT1 : hT h1 = hT h) (hS1 : hS h1 = hS h) (hn : ∀ G, narrow (fty k j) (cz G v) = cz G v) (hfit : ∀ G, fits (fty k j) (cz G v) = true) (hkd : hK h1 = hK h) (hv : fv h1 a k j = v) (hoj : ∀ i, i ≠ j → fv h1 a k i = fv h a k i) (hob : ∀ G b, b ≠ a → cellE G h1 b = cellE G h b)
    (hR : Runs d M (pc + 3) A st h1 r h') : Runs d M pc A (v :: .ref a :: st) h r h' := by
  refine Runs.upd hT1 hS1 hR fun G p l e R s m args below meth c H locs cells slots ls Qp hC hH hS hk2 => ?_
  obtain ⟨hx, hb, hr, hml, hown, hts, hE, hlk, hnm⟩ := hC
  rw [ho] at hown
  have he : (plist G h)[a]? = some (gB G + a, .inr (k, flds G h a k)) := by rw [plist_at ha, cellE_obj hka hk.2.2.1]
  have hap := va_apart (own := own) hts hk.2.2.2.1 (fty k) hk.2.2.2.2.1 hk.2.2.2.2.2 hE.1 hk.1
  have hE2 : cellE G h1 a = .inr (k, (flds G h a k).set j (cz G v)) := by rw [cellE_obj (by rw [hkd]; exact hka) hk.2.2.1, flds_set hv hoj]
  have hPs := plist_set (G := G) (h := h) (h' := h1) (a := a) hT1 hE2 (hob G)
  obtain ⟨rr, h1', cell, q1, q2, q3, q4⟩ := hH.2 a _ he
  have hrr : rr = (C, T, N) := Option.some.inj (h1'.symm.trans hk.1)
  subst hrr
  obtain ⟨hSl, hfc, kC, hkC, hkind⟩ := hE.1.1 k _ hk.1
  obtain ⟨cf, kf, fi, f, hi, hsl⟩ := hSl j hj
  have hst := (u_facts hfc hkC (u_lays hts hk.2.2.2.1 hj) hi).1
  have hlay := hts _ (hk.2.2.2.1 _ (u_in_lay hj))
  have fin : ∀ H' : Heap, H'[gB G + a]? = some (cell.setSlot (G.2.1 k j) (cz G v)) → H'.size = H.size → (∀ q, q ≠ gB G + a → H'[q]? = H[q]?) → W p l e R s m args below meth c H' (locs ++ [⟨gB G + a, G.2.1 k j⟩]) cells slots Qp (F0 m (pc + 3) ls (st.map (cz G))) := by
    intro H' e1 e2 e3
    refine hk2 H' _ e2 ?_ (hS.put e2 e3 (Nat.le_add_right _ _))
    rw [← hPs]
    exact hH.2.set (plist_D G h) he ⟨_, hk.1, t_OB.to (V := updV (vp_V (flds G h a k)) j (cz G v)) ⟨_, e1, q2, q3, t_set q4 hap hj (cz G v)⟩ (fun i _ => vp_updV_set (by rw [flds_len, hk.2.1]; exact hj) (cz G v) i)⟩ e3
  rcases hfin with hf0 | ⟨hf1, hin2, hdecl⟩
  · unfold u_lay at hlay
    rw [if_neg (by rw [hf0]; decide)] at hlay
    have h6 := u_store hfc hkC hkind hlay hi (hk.2.2.2.2.1 j hj) (hn G) (hfit G)
    refine W.putK hx hb (f := f) ⟨hown, hts _ hw, ⟨_, _, _, hi⟩, hst⟩ (by rw [q2]; exact h6) q1 q3 (by rw [hsl]; exact k2_hasslot (q4 j hj)) rfl rfl hd fun H' e1 e2 e3 => ?_
    rw [hsl] at e1 ⊢
    exact fin H' e1 e2 e3
  · unfold u_lay at hlay
    rw [if_pos hf1] at hlay
    have hcf : m.cls = cf := by
      obtain ⟨_, _, c', _, _, _, -, -, hf', -, -, -, hown2, -⟩ := Cond.laysFinal_spec hlay
      have e1 : c' = cf := by have := hi.symm.trans hf'; simp at this; exact this.1.symm
      rw [hdecl] at hown2
      rw [← e1]; exact Option.some.inj (hown.symm.trans hown2)
    have h6 := u_fits hfc hkC hkind (Or.inr hlay) hi (hk.2.2.2.2.1 j hj) (hn G) (hfit G)
    refine W.putFinK hx hb hown (hts _ hw) hi hst hcf (hnm.trans hin2) (by rw [q2]; exact h6) q1 q3 (by rw [hsl]; exact k2_hasslot (q4 j hj)) rfl rfl hd fun H' e1 e2 e3 => ?_
    rw [hsl] at e1 ⊢
    exact fin H' e1 e2 e3
theorem fvT_ne {h : Hp} {a j i : Nat} {v : Int32} (hi : i ≠ j) (t : FieldType) : fvT (pI h a j v) a i t = fvT h a i t := by
  unfold fvT
  split <;> first | rfl | (rw [hI_pI, if_neg (fun q => hi q.2)])
theorem cell_pI (G : Gm) (h : Hp) (a j : Nat) (v : Int32) (b : Nat) (hb : b ≠ a) : cellE G (pI h a j v) b = cellE G h b :=
  cellE_congr rfl rfl (by funext i; rw [hI_pI, if_neg (fun q => hb q.1)]) rfl rfl
theorem cell_pR (G : Gm) (h : Hp) (a j : Nat) (v : Option Nat) (b : Nat) (hb : b ≠ a) : cellE G (pR h a j v) b = cellE G h b :=
  cellE_congr rfl rfl rfl (by funext i; rw [hR_pR, if_neg (fun q => hb q.1)]) rfl
theorem cell_pJ (G : Gm) (h : Hp) (a j : Nat) (v : Int64) (b : Nat) (hb : b ≠ a) : cellE G (pJ h a j v) b = cellE G h b :=
  cellE_congr rfl rfl rfl rfl (by funext i; rw [hJ_pJ, if_neg (fun q => hb q.1)])
/-- an int field -/
def i_putI (k j : Nat) (K : Kt) : Kt := fun A st h => match st with
  | .int v :: .ref a :: st => a < hT h ∧ hK h a = k ∧ K A st (pI h a j v)
  | _ => False
/-- a truth's field -/
def i_putZ (k j : Nat) (K : Kt) : Kt := fun A st h => match st with
  | .int v :: .ref a :: st => a < hT h ∧ hK h a = k ∧ (v = 0 ∨ v = 1) ∧ K A st (pI h a j v)
  | _ => False
def i_putJ (k j : Nat) (K : Kt) : Kt := fun A st h => match st with
  | .long v :: .ref a :: st => a < hT h ∧ hK h a = k ∧ K A st (pJ h a j v)
  | _ => False
def i_putR (k j : Nat) (K : Kt) : Kt := fun A st h => match st with
  | .ref b :: .ref a :: st => a < hT h ∧ hK h a = k ∧ K A st (pR h a j (some b))
  | .null :: .ref a :: st => a < hT h ∧ hK h a = k ∧ K A st (pR h a j none)
  | _ => False
/-- puts, with what allows them: the field isn't final, or the method is its class's constructor -/
def sput (own : String) (fin : Bool) (idx : Nat) (tr : Kt → Kt) : Prop := ∀ (d : Nat) (M : Mt) (Q : Option Value → Hp → Prop) (pc : Nat) (K : Kt), M.1.cls = own → (fin = false ∨ M.1.name = "<init>") → decode M.2.1 pc = .ok (.putfield idx, 3) → (∀ A st h, K A st h → wp d M Q (pc + 3) A st h) → ∀ A st h, tr K A st h → wp d M Q pc A st h
theorem fin_of {own : String} {T : u_T} {j : Nat} {M : Mt} (hd : (T j).1 = own ∨ (T j).2.2.2 = false) (hf : (T j).2.2.2 = false ∨ M.1.name = "<init>") : (T j).2.2.2 = false ∨ ((T j).2.2.2 = true ∧ M.1.name = "<init>" ∧ (T j).1 = own) := by
  cases hb : (T j).2.2.2 with
  | false => exact Or.inl rfl
  | true =>
    rw [hb] at hd hf
    rcases hd with hd | hd
    · rcases hf with hf | hf
      · cases hf
      · exact Or.inr ⟨rfl, hf, hd⟩
    · cases hd
theorem s_putI {own C : String} {k j idx N : Nat} {T : u_T} (hk : clsOk k C T N) (hj : j < N) (hf : fty k j = .int) (hd2 : (T j).1 = own ∨ (T j).2.2.2 = false) (hw : Cond.fieldLink own idx (T j).1 (T j).2.1 (T j).2.2.1 ∈ gw) : sput own (T j).2.2.2 idx (i_putI k j) := by
  intro d M Q pc K ho hfin hd hK A st h hx
  unfold i_putI at hx
  split at hx
  · rename_i v a st
    obtain ⟨h1, h2, h3⟩ := hx
    obtain ⟨r, h', hq, hR⟩ := hK _ _ _ h3
    refine ⟨r, h', hq, Runs.putf (h1 := pI h a j v) hk hj hw (fin_of hd2 hfin) ho hd h1 h2 rfl rfl (fun G => by rw [hf]; rfl) (fun G => by rw [hf]; rfl) rfl ?_ (fun i hi => fvT_ne hi _) (fun G b hb => cell_pI G h a j v b hb) hR⟩
    unfold fv; rw [hf]; show Value.int (hI (pI h a j v) a j) = _; rw [hI_pI, if_pos ⟨rfl, rfl⟩]
  · exact hx.elim
theorem s_putZ {own C : String} {k j idx N : Nat} {T : u_T} (hk : clsOk k C T N) (hj : j < N) (hf : fty k j = .boolean) (hd2 : (T j).1 = own ∨ (T j).2.2.2 = false) (hw : Cond.fieldLink own idx (T j).1 (T j).2.1 (T j).2.2.1 ∈ gw) : sput own (T j).2.2.2 idx (i_putZ k j) := by
  intro d M Q pc K ho hfin hd hK A st h hx
  unfold i_putZ at hx
  split at hx
  · rename_i v a st
    obtain ⟨h1, h2, hv, h3⟩ := hx
    obtain ⟨r, h', hq, hR⟩ := hK _ _ _ h3
    refine ⟨r, h', hq, Runs.putf (h1 := pI h a j v) hk hj hw (fin_of hd2 hfin) ho hd h1 h2 rfl rfl (fun G => ?_) (fun G => ?_) rfl ?_ (fun i hi => fvT_ne hi _) (fun G b hb => cell_pI G h a j v b hb) hR⟩
    · rw [hf]; rcases hv with rfl | rfl <;> rfl
    · rw [hf]; rcases hv with rfl | rfl <;> rfl
    · unfold fv; rw [hf]; show Value.int (hI (pI h a j v) a j) = _; rw [hI_pI, if_pos ⟨rfl, rfl⟩]
  · exact hx.elim
theorem fvT_neJ {h : Hp} {a j i : Nat} {v : Int64} (hi : i ≠ j) (t : FieldType) : fvT (pJ h a j v) a i t = fvT h a i t := by
  unfold fvT
  split <;> first | rfl | (rw [hJ_pJ, if_neg (fun q => hi q.2)])
theorem fvT_neR {h : Hp} {a j i : Nat} {v : Option Nat} (hi : i ≠ j) (t : FieldType) : fvT (pR h a j v) a i t = fvT h a i t := by
  unfold fvT
  split <;> first | rfl | (rw [hR_pR, if_neg (fun q => hi q.2)])
theorem s_putJ {own C : String} {k j idx N : Nat} {T : u_T} (hk : clsOk k C T N) (hj : j < N) (hf : fty k j = .long) (hd2 : (T j).1 = own ∨ (T j).2.2.2 = false) (hw : Cond.fieldLink own idx (T j).1 (T j).2.1 (T j).2.2.1 ∈ gw) : sput own (T j).2.2.2 idx (i_putJ k j) := by
  intro d M Q pc K ho hfin hd hK A st h hx
  unfold i_putJ at hx
  split at hx
  · rename_i v a st
    obtain ⟨h1, h2, h3⟩ := hx
    obtain ⟨r, h', hq, hR⟩ := hK _ _ _ h3
    refine ⟨r, h', hq, Runs.putf (h1 := pJ h a j v) hk hj hw (fin_of hd2 hfin) ho hd h1 h2 rfl rfl (fun G => by rw [hf]; rfl) (fun G => by rw [hf]; rfl) rfl ?_ (fun i hi => fvT_neJ hi _) (fun G b hb => cell_pJ G h a j v b hb) hR⟩
    unfold fv; rw [hf]; show Value.long (hJ (pJ h a j v) a j) = _; rw [hJ_pJ, if_pos ⟨rfl, rfl⟩]
  · exact hx.elim
theorem s_putR {own C : String} {k j idx N : Nat} {T : u_T} (hk : clsOk k C T N) (hj : j < N) (hf : (∃ n, fty k j = .object n) ∨ ∃ t, fty k j = .array t) (hd2 : (T j).1 = own ∨ (T j).2.2.2 = false) (hw : Cond.fieldLink own idx (T j).1 (T j).2.1 (T j).2.2.1 ∈ gw) : sput own (T j).2.2.2 idx (i_putR k j) := by
  intro d M Q pc K ho hfin hd hK A st h hx
  unfold i_putR at hx
  split at hx
  · rename_i b a st
    obtain ⟨h1, h2, h3⟩ := hx
    obtain ⟨r, h', hq, hRn⟩ := hK _ _ _ h3
    refine ⟨r, h', hq, Runs.putf (h1 := pR h a j (some b)) (v := .ref b) hk hj hw (fin_of hd2 hfin) ho hd h1 h2 rfl rfl (fun G => ?_) (fun G => ?_) rfl ?_ (fun i hi => fvT_neR hi _) (fun G b' hb => cell_pR G h a j (some b) b' hb) hRn⟩
    · rcases hf with ⟨n, hf⟩ | ⟨n, hf⟩ <;> rw [hf] <;> rfl
    · rcases hf with ⟨n, hf⟩ | ⟨n, hf⟩ <;> rw [hf] <;> rfl
    · unfold fv; rcases hf with ⟨n, hf⟩ | ⟨n, hf⟩ <;> rw [hf] <;> (show va_rf (hR (pR h a j (some b)) a j) = _; rw [hR_pR, if_pos ⟨rfl, rfl⟩]; rfl)
  · rename_i a st
    obtain ⟨h1, h2, h3⟩ := hx
    obtain ⟨r, h', hq, hRn⟩ := hK _ _ _ h3
    refine ⟨r, h', hq, Runs.putf (h1 := pR h a j none) (v := .null) hk hj hw (fin_of hd2 hfin) ho hd h1 h2 rfl rfl (fun G => ?_) (fun G => ?_) rfl ?_ (fun i hi => fvT_neR hi _) (fun G b' hb => cell_pR G h a j none b' hb) hRn⟩
    · rcases hf with ⟨n, hf⟩ | ⟨n, hf⟩ <;> rw [hf] <;> rfl
    · rcases hf with ⟨n, hf⟩ | ⟨n, hf⟩ <;> rw [hf] <;> rfl
    · unfold fv; rcases hf with ⟨n, hf⟩ | ⟨n, hf⟩ <;> rw [hf] <;> (show va_rf (hR (pR h a j none) a j) = _; rw [hR_pR, if_pos ⟨rfl, rfl⟩]; rfl)
  · exact hx.elim
