/-! ===== new cells, calls ===== -/
def okTy : FieldType → Bool
  | .int | .boolean | .long | .object _ | .array _ => true
  | _ => false
theorem fv_new {G : Gm} {h : Hp} {k n j : Nat} {t : FieldType} (ht : okTy t = true) : defaultValue t = cz G (fvT (nC h k n) (hT h) j t) := by
  cases t <;> first | (cases ht; done) | skip
  all_goals first
    | (show Value.int 0 = Value.int (hI (nC h k n) (hT h) j); rw [hI_nC, if_pos rfl])
    | (show Value.long 0 = Value.long (hJ (nC h k n) (hT h) j); rw [hJ_nC, if_pos rfl])
    | (show Value.null = cz G (va_rf (hR (nC h k n) (hT h) j)); rw [hR_nC, if_pos rfl]; rfl)
theorem cell_nC {G : Gm} {h : Hp} {k n b : Nat} (hb : b < hT h) : cellE G (nC h k n) b = cellE G h b := by
  have hne : ¬ b = hT h := by omega
  refine cellE_congr ?_ ?_ ?_ ?_ ?_
  · rw [hK_nC, if_neg hne]
  · rw [hL_nC, if_neg hne]
  · funext i; rw [hI_nC, if_neg hne]
  · funext i; rw [hR_nC, if_neg hne]
  · funext i; rw [hJ_nC, if_neg hne]
theorem Runs.alloc {d : Nat} {M : Mt} {pc pc' : Nat} {A : Lc} {st st' : List Value} {h h' : Hp} {r : Option Value} {k n : Nat} (hR : Runs d M pc' A (.ref (hT h) :: st') (nC h k n) r h')
    (hW : ∀ (G : Gm) (p : Program) (l : Launch) (e : Env) (R : Room) (s : State) (m : MethodId) (args : Array Value) (below : List Frame) (meth : Method) (c : Code) (H : Heap) (locs : List Loc) (cells slots : Nat) (ls : Array Slot) (Qp : State → Prop),
      Ctx G M p s m args meth c → HR G h H → cells + 1 ≤ R.cells → slots + n ≤ R.slots → (∀ (H1 : Heap), H1.size = H.size + 1 → (∀ q, q < H.size → H1[q]? = H[q]?) → va_at (gD G) vwCl (H.size, cellE G (nC h k n) (hT h)) H1 → W p l e R s m args below meth c H1 locs (cells + 1) (slots + n) Qp (F0 m pc' ls (.ref H.size :: st'.map (cz G)))) → W p l e R s m args below meth c H locs cells slots Qp (F0 m pc ls (st.map (cz G)))) : Runs d M pc A st h r h' := by
  have t1 := hR.1
  have t2 := hR.2.1
  rw [hT_nC] at t1
  rw [hS_nC] at t2
  refine ⟨by omega, by omega, fun G p l e R s m args below meth c H locs cells slots ls hC hH hg hS hL q1 q2 q3 q4 => ?_⟩
  refine hW G p l e R s m args below meth c H locs cells slots ls _ hC hH (by omega) (by omega) fun H1 z oq hat => ?_
  have hP1 : va_P (gD G) vwCl (plist G (nC h k n)) H1 := by
    rw [← plist_new (G := G) (h := h) (h' := nC h k n) rfl rfl (fun b hb => cell_nC hb)]
    refine (hH.2.kept (fun k q hk => oq q.1 ((hH.2 k q hk).lt))).app (fun k q hk => ?_)
    have hz : k < 1 := (List.getElem?_eq_some_iff.mp hk).1
    rw [show k = 0 by omega] at hk
    cases hk
    rw [hH.1] at hat
    exact hat
  have h9 := hR.2.2 G p l e R s m args below meth c H1 locs (cells + 1) (slots + n) ls hC ⟨by rw [z, hH.1, hT_nC]; omega, hP1⟩ hg ⟨Nat.le_trans hS.1 (by omega), fun q a1 a2 => (oq q (Nat.lt_of_lt_of_le a1 hS.1)).trans (hS.2.1 q a1 a2), hS.2.2⟩ hL q1 q2 (by rw [hT_nC]; omega) (by rw [hS_nC]; omega)
  rw [hT_nC, hS_nC] at h9
  rw [show cells + 1 + (hT h' - (hT h + 1)) = cells + (hT h' - hT h) by omega, show slots + n + (Jvm.Pilot.CNightShelterLaw_law_r7253_40259b.hS h' - (Jvm.Pilot.CNightShelterLaw_law_r7253_40259b.hS h + n)) = slots + (Jvm.Pilot.CNightShelterLaw_law_r7253_40259b.hS h' - Jvm.Pilot.CNightShelterLaw_law_r7253_40259b.hS h) by omega] at h9
  have e9 : ((.ref (hT h) :: st').map (cz G)) = Value.ref H.size :: st'.map (cz G) := by rw [hH.1]; rfl
  rw [e9] at h9
  exact h9
def i_new (k : Nat) (K : Kt) : Kt := fun A st h => K A (.ref (hT h) :: st) (nC h k (fN k))
theorem s_new {own C : String} {k idx N : Nat} {T : u_T} (hk : clsOk k C T N) (hty : ∀ j, j < N → okTy (fty k j) = true) (hw1 : Cond.classLink own idx C ∈ gw) (hw2 : Cond.instantiable C N ∈ gw) (hw3 : Cond.initialized C ∈ gw) : sforC own (.new idx) 3 (i_new k) := by
  intro d M Q pc K ho hd hKt A st h hx
  obtain ⟨r, h', hq, hRn⟩ := hKt _ _ _ hx
  refine ⟨r, h', hq, Runs.alloc (k := k) (n := fN k) hRn fun G p l e R s m args below meth c H locs cells slots ls Qp hC hH c1 c2 hk2 => ?_⟩
  obtain ⟨hx, hb, hr, hml, hown, hts, hE, hlk, hnm⟩ := hC
  rw [ho] at hown
  have hKn := hE.1.1 k _ hk.1
  rw [hk.2.1] at c2 hk2
  refine W.newcK hx hb hown (hts _ hw1) (hts _ hw2) (hts _ hw3) rfl hd c1 c2 hKn.2.1 rfl fun H1 kC hkC e1 z1 o1 => ?_
  refine hk2 H1 z1 o1 ?_
  rw [cellE_obj (k := k) (by rw [hK_nC, if_pos rfl]) hk.2.2.1]
  refine ⟨_, hk.1, (u_born (fty k) hts hk.2.2.2.1 hKn hkC e1 hk.2.2.2.2.1).to (fun j hj => ?_)⟩
  show defaultValue (fty k j) = vp_V (flds G _ _ _) j
  have hj2 : j < fN k := by rw [hk.2.1]; exact hj
  rw [vp_V, List.getD_eq_getElem?_getD, flds_at hj2]
  exact fv_new (hty j hj)
/-- a new array of bytes (13), ints (14), truths (15) -/
def i_newa (k : Nat) (K : Kt) : Kt := fun A st h => match st with
  | .int n :: st => ¬ n < 0 ∧ n.toNatClampNeg ≤ 100000 ∧ K A (.ref (hT h) :: st) (nC h k n.toNatClampNeg)
  | _ => False
theorem s_newa {at_ : ArrayType} {t k : Nat} {ty : FieldType} (hty : newarray.typeOf at_ = ty) (hk : k = 13 + t) (h3 : t < 3) (hT4 : ∀ G : Gm, (gT G)[t]? = some (gA G t, ty)) (hdv : defaultValue ty = .int 0) (hcb : componentBytes ty ≤ 4) (hRA : ∀ (U : State) (cA : ClassId), va_RA U cA ty → U.vm.findClass ("[" ++ ty.toString) = some cA) (hw : Cond.arrayClass ty ∈ gw) : sfor (.newarray at_) 2 (i_newa k) := by
  intro d M Q pc K hd hKt A st h hx
  unfold i_newa at hx
  split at hx
  · rename_i n st
    obtain ⟨h1, h2, h4⟩ := hx
    obtain ⟨r, h', hq, hRn⟩ := hKt _ _ _ h4
    refine ⟨r, h', hq, Runs.alloc (k := k) (n := n.toNatClampNeg) hRn fun G p l e R s m args below meth c H locs cells slots ls Qp hC hH c1 c2 hk2 => ?_⟩
    subst hty
    refine va_newaK hC.1 hC.2.1 (hC.2.2.2.2.2.1 _ hw) rfl hd rfl h1 rfl (by
      have : n.toNatClampNeg * componentBytes (newarray.typeOf at_) ≤ 100000 * 4 := Nat.mul_le_mul h2 hcb
      omega) c1 c2 rfl fun H1 cA e1 z1 o1 hAr hNm => ?_
    refine hk2 H1 z1 o1 ?_
    have hcA : cA = gA G t := Option.some.inj (hNm.symm.trans (hRA s _ (hC.2.2.2.2.2.2.1.1.2 t _ (hT4 G)).2))
    rw [cellE_arr (k := k) (by rw [hK_nC, if_pos rfl]) (by omega) (by omega)]
    show H1[H.size]? = some (vp_cell _ _)
    rw [e1, hcA, vp_cell_i, hdv, hL_nC, if_pos rfl, show k - 13 = t by omega]
    congr 2
    funext j
    rw [hI_nC, if_pos rfl]
  · exact hx.elim
/-- the new object's own first constructor -/
def i_oini (K : Kt) : Kt := fun A st h => match st with
  | .ref _ :: st => st.length ≤ 4 ∧ K A st h
  | _ => False
theorem cat2 (v : Value) : v.category ≤ 2 := by cases v <;> simp [Value.category]
theorem cat_sum (G : Gm) (st : List Value) (h : st.length ≤ 4) : ((st.map (cz G)).map fun v => v.category).sum ≤ 8 := by
  have : ∀ l : List Value, (l.map fun v => v.category).sum ≤ 2 * l.length := by
    intro l
    induction l with
    | nil => simp
    | cons a t ih =>
      have := cat2 a
      simp only [List.map_cons, List.sum_cons, List.length_cons]
      omega
  have h1 := this (st.map (cz G))
  rw [List.length_map] at h1
  omega
theorem s_oini {own : String} {idx : Nat} (hw1 : Cond.methodLink own idx objectInit ∈ gw) (hw2 : Cond.instanceMethod objectInit ∈ gw) (hw3 : Cond.code objectInit ⟨#[0xb1]⟩ 1 none ∈ gw) : ∀ (d : Nat) (M : Mt) (Q : Option Value → Hp → Prop) (pc : Nat) (K : Kt), M.1.cls = own → 1 ≤ d → decode M.2.1 pc = .ok (.invokespecial idx, 3) → (∀ A st h, K A st h → wp d M Q (pc + 3) A st h) → ∀ A st h, i_oini K A st h → wp d M Q pc A st h := by
  intro d M Q pc K ho hd1 hd hKt A st h hx
  unfold i_oini at hx
  split at hx
  · rename_i a st
    obtain ⟨h1, h4⟩ := hx
    obtain ⟨r, h', hq, hRn⟩ := hKt _ _ _ h4
    refine ⟨r, h', hq, hRn.1, hRn.2.1, fun G p l e R s m args below meth c H locs cells slots ls hC hH hg hS hL q1 q2 q3 q4 => ?_⟩
    have hk := hRn.2.2 G p l e R s m args below meth c H locs cells slots ls hC hH hg hS hL q1 q2 q3 q4
    have hcs := cat_sum G st h1
    exact W.objInit hC.1 hC.2.1 (by rw [← ho]; exact hC.2.2.2.2.1) (hC.2.2.2.2.2.1 _ hw1) (hC.2.2.2.2.2.1 _ hw2) (hC.2.2.2.2.2.1 _ hw3) rfl (by rw [hC.2.2.2.1]; exact hL.1.1) rfl hd (by omega) (by show 2 * 0 + _ + 12 ≤ _; omega) hk
  · exact hx.elim
/-- a contract: what a call does, told as what must hold for Q to hold behind it -/
abbrev Tr : Type := List Value → Hp → (Option Value → Hp → Prop) → Prop
def ctr (d : Nat) (M : Mt) (T : Tr) : Prop := ∀ av h Q, T av h Q → cal d M av h Q
def popn : Nat → List Value → List Value → Option (List Value × List Value)
  | 0, acc, st => some (acc, st)
  | n + 1, acc, v :: st => popn n (v :: acc) st
  | _ + 1, _, [] => none
theorem popn_spec : ∀ (n : Nat) (acc st av rest : List Value), popn n acc st = some (av, rest) → ∃ as : List Value, av = as ++ acc ∧ as.length = n ∧ st = as.reverse ++ rest
  | 0, acc, st, av, rest, h => by cases h; exact ⟨[], rfl, rfl, rfl⟩
  | n + 1, acc, v :: st, av, rest, h => by
    obtain ⟨as, h1, h2, h3⟩ := popn_spec n (v :: acc) st av rest h
    exact ⟨as ++ [v], by rw [h1]; simp, by simp [h2], by rw [h3]; simp⟩
  | n + 1, acc, [], av, rest, h => by cases h
/-- what the tables say of a method that is called -/
def mOk (M : Mt) (n : Nat) : Prop := Cond.code M.1 M.2.1 M.2.2.1 M.2.2.2 ∈ gw ∧ Cond.initialized M.1.cls ∈ gw ∧ (M.1.cls ≠ "java/lang/invoke/MethodHandle" ∧ M.1.cls ≠ "java/lang/invoke/VarHandle" ∧ (parseMethodDescriptor M.1.desc).map (fun d => d.parameters.length) = some n) ∧ M.2.2.1 ≤ 22
theorem good_wsM {M : Mt} (h : Cond.code M.1 M.2.1 M.2.2.1 M.2.2.2 ∈ gw) : GoodIn gw (wsM M) := fun w hw => by
  rcases List.mem_cons.mp hw with e | e
  · rw [e]; exact gw_good _ h
  · exact gw_good _ e
/-- short stacks -/
def sh4 : List Value → Prop → Prop
  | [], P => P
  | [_], P => P
  | [_, _], P => P
  | [_, _, _], P => P
  | [_, _, _, _], P => P
  | _, _ => False
theorem sh4_of {st : List Value} {P : Prop} (h : sh4 st P) : st.length ≤ 4 ∧ P := by
  match st, h with
  | [], h => exact ⟨by decide, h⟩
  | [_], h => exact ⟨by simp, h⟩
  | [_, _], h => exact ⟨by simp, h⟩
  | [_, _, _], h => exact ⟨by simp, h⟩
  | [_, _, _, _], h => exact ⟨by simp, h⟩
  | _ :: _ :: _ :: _ :: _ :: _, h => exact h.elim
def i_callS (n : Nat) (T : Tr) (K : Kt) : Kt := fun A st h => match popn n [] st with
  | some (av, st) => sh4 st (T av h (fun r h' => K A (r.toList ++ st) h'))
  | none => False
def i_callV (k n : Nat) (T : Tr) (K : Kt) : Kt := fun A st h => match popn n [] st with
  | some (av, .ref a :: st) => a < hT h ∧ hK h a = k ∧ sh4 st (T (.ref a :: av) h (fun r h' => K A (r.toList ++ st) h'))
  | _ => False
def i_callI (n : Nat) (T : Tr) (K : Kt) : Kt := fun A st h => match popn n [] st with
  | some (av, .ref a :: st) => sh4 st (T (.ref a :: av) h (fun r h' => K A (r.toList ++ st) h'))
  | _ => False
theorem pc_blind {G : Gm} {av : List Value} {h : Hp} : FrameBlind (va_Pc (av.map (cz G)) (fun U => EW G U ∧ HR G h U.heap ∧ gB G ≤ U.heap.size)) := by
  intro a U g mk q
  obtain ⟨q0, qE, qH, qg⟩ := q
  exact ⟨q0, EW.same (u := U) (U := U.calling g mk a) rfl rfl qE, qH, qg⟩
theorem Runs.call {d : Nat} {M : Mt} {pc : Nat} {A : Lc} {st rest : List Value} {h h1 h' : Hp} {r rc : Option Value} (hT1 : hT h ≤ hT h1) (hS1 : hS h ≤ hS h1) (hR : Runs d M (pc + 3) A (rc.toList ++ rest) h1 r h')
    (hW : ∀ (G : Gm) (p : Program) (l : Launch) (e : Env) (R : Room) (s : State) (m : MethodId) (args : Array Value) (below : List Frame) (meth : Method) (c : Code) (H : Heap) (locs : List Loc) (cells slots : Nat) (ls : Array Slot),
      Ctx G M p s m args meth c → HR G h H → gB G ≤ H.size → va_S (fun q => gB G ≤ q) s.heap H locs → ls.size = M.2.2.1 → d ≤ R.frames → 41 * d ≤ R.locals → cells + (hT h1 - hT h) ≤ R.cells → slots + (hS h1 - hS h) ≤ R.slots →
      ∃ a, va_Run p l e R s m args below meth c H locs cells slots (hT h1 - hT h) (hS h1 - hS h) (F0 m pc ls (st.map (cz G))) (rest.map (cz G)) (QC G rc h1 a) (fun q => gB G ≤ q)) : Runs d M pc A st h r h' := by
  have t1 := hR.1
  have t2 := hR.2.1
  refine ⟨by omega, by omega, fun G p l e R s m args below meth c H locs cells slots ls hC hH hg hS hL q1 q2 q3 q4 => ?_⟩
  obtain ⟨a, hrun⟩ := hW G p l e R s m args below meth c H locs cells slots ls hC hH (Nat.le_trans hg hS.1) hS hL.1.1 q1 q2 (by omega) (by omega)
  intro T hT0 X
  obtain ⟨v, st₀, t, T', L, e0, X', hL2, e1, e2, ⟨hv, hH1, hE1, hF1⟩, go⟩ := hrun T hT0 X
  have hv2 : v = rc.map (cz G) := by cases hv; rfl
  subst hv2
  have hS2 : va_S (fun q => gB G ≤ q) s.heap T'.heap (locs ++ L) := by
    rw [e1]
    refine ⟨Nat.le_trans hS.1 (by rw [← e0]; exact hF1.1), fun q a1 a2 => ?_, fun q hq => ?_⟩
    · rw [hF1.2 q (by rw [e0]; exact Nat.lt_of_lt_of_le a1 hS.1) a2, e0]
      exact hS.2.1 q a1 a2
    · rcases List.mem_append.mp hq with hq | hq
      · exact hS.2.2 q hq
      · exact hL2 q hq
  have h9 := hR.2.2 G p l e R s m args below meth c T'.heap (locs ++ L) (cells + (hT h1 - hT h)) (slots + (Jvm.Pilot.CNightShelterLaw_law_r7253_40259b.hS h1 - Jvm.Pilot.CNightShelterLaw_law_r7253_40259b.hS h)) ls hC (by rw [e1]; exact hH1) hg hS2 hL q1 q2 (by omega) (by omega)
  rw [show cells + (hT h1 - hT h) + (hT h' - hT h1) = cells + (hT h' - hT h) by omega, show slots + (Jvm.Pilot.CNightShelterLaw_law_r7253_40259b.hS h1 - Jvm.Pilot.CNightShelterLaw_law_r7253_40259b.hS h) + (Jvm.Pilot.CNightShelterLaw_law_r7253_40259b.hS h' - Jvm.Pilot.CNightShelterLaw_law_r7253_40259b.hS h1) = slots + (Jvm.Pilot.CNightShelterLaw_law_r7253_40259b.hS h' - Jvm.Pilot.CNightShelterLaw_law_r7253_40259b.hS h) by omega] at h9
  have e9 : (rc.toList ++ rest).map (cz G) = (rc.map (cz G)).toList ++ rest.map (cz G) := by cases rc <;> simp
  rw [e9] at h9
  obtain ⟨t3, a3, b3⟩ := h9 T' rfl X'
  exact ⟨t3, go t3 a3, b3⟩
