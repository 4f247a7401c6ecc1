/-! ===== locals, contexts, runs ===== -/
abbrev Lc : Type := List (Option Value)
def lget : Lc → Nat → Option Value
  | [], _ => none
  | o :: _, 0 => o
  | _ :: t, n + 1 => lget t n
def lset : Lc → Nat → Value → Lc
  | [], _, _ => []
  | _ :: t, 0, v => some v :: t
  | o :: t, n + 1, v => o :: lset t n v
theorem lset_len (A : Lc) (n : Nat) (v : Value) : (lset A n v).length = A.length := by
  induction A generalizing n with
  | nil => rfl
  | cons o t ih => cases n with
    | zero => rfl
    | succ n => simp [lset, ih]
theorem lget_lset (A : Lc) (n j : Nat) (v w : Value) (h : lget (lset A n v) j = some w) : (j = n ∧ w = v) ∨ (j ≠ n ∧ lget A j = some w) := by
  induction A generalizing n j with
  | nil => cases h
  | cons o t ih => cases n with
    | zero => cases j with
      | zero => left; exact ⟨rfl, (Option.some.inj h).symm⟩
      | succ j => right; exact ⟨by omega, h⟩
    | succ n => cases j with
      | zero => right; exact ⟨by omega, h⟩
      | succ j =>
        rcases ih n j h with ⟨e, r⟩ | ⟨e, r⟩
        · left; exact ⟨by omega, r⟩
        · right; exact ⟨by omega, r⟩
theorem lget_lt {A : Lc} {j : Nat} {w : Value} (h : lget A j = some w) : j < A.length := by
  induction A generalizing j with
  | nil => cases h
  | cons o t ih => cases j with
    | zero => simp
    | succ j => have := ih h; simp; omega
theorem cz_cat (G : Gm) (v : Value) : (cz G v).category = v.category := by cases v <;> rfl
def prs (G : Gm) (A : Lc) : List (Nat × Value) := (List.range A.length).filterMap (fun i => (lget A i).map (fun v => (i, cz G v)))
theorem prs_mem {G : Gm} {A : Lc} {q : Nat × Value} : q ∈ prs G A ↔ ∃ v, lget A q.1 = some v ∧ q.2 = cz G v := by
  constructor
  · intro h
    obtain ⟨i, -, hi⟩ := List.mem_filterMap.mp h
    cases hl : lget A i with
    | none => rw [hl] at hi; cases hi
    | some v => rw [hl] at hi; cases hi; exact ⟨v, hl, rfl⟩
  · rintro ⟨v, h1, h2⟩
    refine List.mem_filterMap.mpr ⟨q.1, List.mem_range.mpr (lget_lt h1), ?_⟩
    rw [h1]
    obtain ⟨a, b⟩ := q
    cases h2
    rfl
def LR (G : Gm) (A : Lc) (nL : Nat) (ls : Array Slot) : Prop := lv_has ls nL (prs G A) ∧ A.length = nL ∧ ∀ i v, lget A i = some v → v.category = 1
theorem LR.at {G : Gm} {A : Lc} {nL : Nat} {ls : Array Slot} (h : LR G A nL ls) {i : Nat} {v : Value} (hv : lget A i = some v) : ls[i]? = some (.val (cz G v)) := h.1.2.2 (i, cz G v) (prs_mem.mpr ⟨v, hv, rfl⟩)
theorem LR.store {G : Gm} {A : Lc} {nL : Nat} {ls ls' : Array Slot} {i : Nat} {v : Value} (h : LR G A nL ls) (hc : v.category = 1) (h' : lv_has ls' nL ((i, cz G v) :: (prs G A).filter (fun q => !(q.1 == i) && !(q.1 + 1 == i && q.2.category == 2)))) : LR G (lset A i v) nL ls' := by
  refine ⟨⟨h'.1, h'.2.1, fun q hq => ?_⟩, by rw [lset_len]; exact h.2.1, fun j w hj => ?_⟩
  · obtain ⟨w, h1, h2⟩ := prs_mem.mp hq
    rcases lget_lset A i q.1 v w h1 with ⟨e, r⟩ | ⟨e, r⟩
    · obtain ⟨a, b⟩ := q
      simp only at e h2 r
      subst e; subst r; subst h2
      exact h'.2.2 _ List.mem_cons_self
    · refine h'.2.2 q (List.mem_cons_of_mem _ (List.mem_filter.mpr ⟨prs_mem.mpr ⟨w, r, h2⟩, ?_⟩))
      have h3 : q.2.category = 1 := by rw [h2, cz_cat]; exact h.2.2 _ _ r
      simp [e, h3]
  · rcases lget_lset A i j v w hj with ⟨e, r⟩ | ⟨e, r⟩
    · rw [r]; exact hc
    · exact h.2.2 _ _ r
/-- less is known -/
def lle : Lc → Lc → Prop
  | [], [] => True
  | none :: s, _ :: t => lle s t
  | some v :: s, some w :: t => v = w ∧ lle s t
  | _, _ => False
theorem lle_get : ∀ {A B : Lc}, lle A B → A.length = B.length ∧ ∀ i v, lget A i = some v → lget B i = some v
  | [], [], _ => ⟨rfl, fun _ _ h => h⟩
  | none :: s, b :: t, h => by
    obtain ⟨h1, h2⟩ := lle_get (A := s) (B := t) h
    refine ⟨by simp [h1], fun i v hv => ?_⟩
    cases i with
    | zero => cases hv
    | succ i => exact h2 i v hv
  | some v :: s, some w :: t, h => by
    obtain ⟨h1, h2⟩ := lle_get (A := s) (B := t) h.2
    refine ⟨by simp [h1], fun i u hu => ?_⟩
    cases i with
    | zero => rw [← h.1]; exact hu
    | succ i => exact h2 i u hu
  | [], _ :: _, h => h.elim
  | some _ :: _, none :: _, h => h.elim
  | some _ :: _, [], h => h.elim
  | none :: _, [], h => h.elim
theorem LR.less {G : Gm} {A B : Lc} {nL : Nat} {ls : Array Slot} (h : LR G B nL ls) (hAB : lle A B) : LR G A nL ls := by
  obtain ⟨h1, h2⟩ := lle_get hAB
  refine ⟨⟨h.1.1, h.1.2.1, fun q hq => ?_⟩, by rw [h1]; exact h.2.1, fun i v hv => h.2.2 i v (h2 i v hv)⟩
  obtain ⟨v, h3, h4⟩ := prs_mem.mp hq
  exact h.1.2.2 q (prs_mem.mpr ⟨v, h2 _ _ h3, h4⟩)
/-! words -/
def gw : List Cond := lw_tbl.filter goodWord
def isNest : Cond → Bool
  | .methodLinkNest _ _ _ _ => true
  | _ => false
def nstW : List Cond := lw_tbl.filter isNest
theorem gw_mem {w : Cond} (h : w ∈ lw_tbl) (hg : goodWord w = true) : w ∈ gw := List.mem_filter.mpr ⟨h, hg⟩
theorem gw_good : GoodIn gw gw := fun w h => ⟨h, good_of_word (List.mem_filter.mp h).2⟩
/-- the String constants of the class: places, texts, lengths, bytes -/
def sIdx : List Nat := [74, 80, 82, 84, 86, 88, 90, 92, 94, 96, 98, 100, 102, 104, 106, 108]
def sTxt : List String := ["when", "and", "not", "add", "bar", "last", "age", "kind", "ill", "nights", "turned", "cold", "day", "dog", "climbs", "here"]
def sByt : List (List Int32) := [[119, 104, 101, 110], [97, 110, 100], [110, 111, 116], [97, 100, 100], [98, 97, 114], [108, 97, 115, 116], [97, 103, 101], [107, 105, 110, 100], [105, 108, 108], [110, 105, 103, 104, 116, 115], [116, 117, 114, 110, 101, 100], [99, 111, 108, 100], [100, 97, 121], [100, 111, 103], [99, 108, 105, 109, 98, 115], [104, 101, 114, 101]]
def sLen : List Nat := [4, 3, 3, 3, 3, 4, 3, 4, 3, 6, 6, 4, 3, 3, 6, 4]
/-- what holds of the machine's tables and of the old cells at every state of a run -/
def EW (G : Gm) (U : State) : Prop := va_K (gD G) vwCl (gT G) U ∧ (∀ w ∈ nstW, va_Nw w U) ∧ (∀ i, i < 16 → vk_R RX10 (sIdx.getD i 0) (sTxt.getD i "") (gS G i) U) ∧ vk_S 16 sLen sByt (gS G) (gV G) (fun q => gB G ≤ q) U U.heap ∧ va_Z RJ0 "COMPACT_STRINGS" "Z" (.int 1) (fun q => gB G ≤ q) U U.heap ∧ (va_Z "jdk/internal/util/Preconditions" "SIOOBE_FORMATTER" "Ljava/util/function/BiFunction;" .null (fun q => gB G ≤ q) U U.heap ∨ va_Z "jdk/internal/util/Preconditions" "SIOOBE_FORMATTER" "Ljava/util/function/BiFunction;" (.ref (gS G 32)) (fun q => gB G ≤ q) U U.heap) ∧ (∀ i, i < 16 → gS G (16 + i) = gV G i) ∧ va_AO RX8 U
theorem nst_form {w : Cond} (h : w ∈ nstW) : ∃ a i x b, w = .methodLinkNest a i x b := by
  have h1 := (List.mem_filter.mp h).2
  cases w <;> first | exact ⟨_, _, _, _, rfl⟩ | cases h1
theorem EW.moved {G : Gm} {s U : State} (h : EW G s) (hW : s.WarmedH U.vm) (hF : va_F (fun q => gB G ≤ q) s U) : EW G U := by
  obtain ⟨h1, h2, h3, h4, h5, h6, h7, h8⟩ := h
  refine ⟨va_K.moved hW.alike h1, fun w hw => ?_, fun i hi => vk_R.warm hW (h3 i hi), (vk_S.moved hW.alike h4).kept hF.2, (va_Z.moved hW.alike h5).kept hF.2, h6.elim (fun z => Or.inl ((va_Z.moved hW.alike z).kept hF.2)) (fun z => Or.inr ((va_Z.moved hW.alike z).kept hF.2)), h7, va_AO.moved hW.alike h8⟩
  obtain ⟨a, i, x, b, rfl⟩ := nst_form hw
  exact va_Nw.warmM hW (h2 _ hw)
theorem EW.same {G : Gm} {u U : State} (hv : u.vm = U.vm) (hh : u.heap = U.heap) (h : EW G u) : EW G U := by
  obtain ⟨h1, h2, h3, h4, h5, h6, h7, h8⟩ := h
  have ha : u.vm.Alike U.vm := by rw [hv]; exact Vm.Alike.refl _
  refine ⟨va_K.moved ha h1, fun w hw => ?_, fun i hi => vk_R.same hv.symm (h3 i hi), ?_, ?_, ?_, h7, va_AO.moved ha h8⟩
  · obtain ⟨a, i, x, b, rfl⟩ := nst_form hw
    exact va_Nw.same rfl hv (h2 _ hw)
  · rw [← hh]; exact vk_S.moved ha h4
  · rw [← hh]; exact va_Z.moved ha h5
  · rw [← hh]; exact h6.elim (fun z => Or.inl (va_Z.moved ha z)) (fun z => Or.inr (va_Z.moved ha z))
/-- a method: its name, its bytes, how many locals, what it returns -/
abbrev Mt : Type := MethodName × ByteArray × Nat × Option FieldType
def wsM (M : Mt) : List Cond := Cond.code M.1 M.2.1 M.2.2.1 M.2.2.2 :: gw
def Ctx (G : Gm) (M : Mt) (p : Program) (s : State) (m : MethodId) (args : Array Value) (meth : Method) (c : Code) : Prop :=
  p.tables.exec = Jvm.exec ∧ c.code = M.2.1 ∧ meth.sig.returnType = M.2.2.2 ∧ c.maxLocals = M.2.2.1 ∧ s.vm.findClass M.1.cls = some m.cls ∧ (∀ w ∈ gw, w.before args s = true) ∧ EW G s ∧ meth.locks = false ∧ meth.name = M.1.name
def QC (G : Gm) (r : Option Value) (h' : Hp) : Array Value → State → Outcome → State → Prop := fun _ st oc t => oc = .returned (r.map (cz G)) ∧ HR G h' t.heap ∧ EW G t ∧ va_F (fun q => gB G ≤ q) st t
/-- from here the method returns r, and the heap is h' then -/
def Runs (d : Nat) (M : Mt) (pc : Nat) (A : Lc) (st : List Value) (h : Hp) (r : Option Value) (h' : Hp) : Prop :=
  hT h ≤ hT h' ∧ hS h ≤ hS h' ∧ ∀ (G : Gm) (p : Program) (l : Launch) (e : Env) (R : Room) (s : State) (m : MethodId) (args : Array Value) (below : List Frame) (meth : Method) (c : Code) (H : Heap) (locs : List Loc) (cells slots : Nat) (ls : Array Slot),
    Ctx G M p s m args meth c → HR G h H → gB G ≤ s.heap.size → va_S (fun q => gB G ≤ q) s.heap H locs → LR G A M.2.2.1 ls → d ≤ R.frames → 41 * d ≤ R.locals → cells + (hT h' - hT h) ≤ R.cells → slots + (hS h' - hS h) ≤ R.slots →
    W p l e R s m args below meth c H locs cells slots (MQ below (QC G r h') args s (cells + (hT h' - hT h)) (slots + (hS h' - hS h)) (fun q => gB G ≤ q)) (F0 m pc ls (st.map (cz G)))
def rmD (d mc ms : Nat) : Room := { frames := d, cells := mc, slots := ms, locals := 41 * d }
/-- a call: with these arguments in this heap the method returns r, and the heap is h' then -/
def Big (d : Nat) (M : Mt) (av : List Value) (h : Hp) (r : Option Value) (h' : Hp) : Prop :=
  hT h ≤ hT h' ∧ hS h ≤ hS h' ∧ ∀ (G : Gm) (l : Launch), Met l M.1 (wsM M) (rmD d (hT h' - hT h) (hS h' - hS h)) (va_Pc (av.map (cz G)) (fun U => EW G U ∧ HR G h U.heap ∧ gB G ≤ U.heap.size)) (QC G r h') (hT h' - hT h) (hS h' - hS h) (fun q => gB G ≤ q)
abbrev Kt : Type := Lc → List Value → Hp → Prop
def wp (d : Nat) (M : Mt) (Q : Option Value → Hp → Prop) (pc : Nat) : Kt := fun A st h => ∃ r h', Q r h' ∧ Runs d M pc A st h r h'
def cal (d : Nat) (M : Mt) (av : List Value) (h : Hp) (Q : Option Value → Hp → Prop) : Prop := ∃ r h', Q r h' ∧ Big d M av h r h'
/-- the locals at the entry -/
def ent (n : Nat) (av : List Value) : Lc := av.map some ++ List.replicate (n - av.length) none
theorem lget_ent {n : Nat} {av : List Value} {i : Nat} {v : Value} (h : lget (ent n av) i = some v) : av[i]? = some v := by
  unfold ent at h
  induction av generalizing i n with
  | nil =>
    simp only [List.map_nil, List.nil_append, List.length_nil, Nat.sub_zero] at h
    exfalso
    induction n generalizing i with
    | zero => cases h
    | succ n ih => cases i with
      | zero => cases h
      | succ i => exact ih h
  | cons a t ih => cases i with
    | zero => simpa [lget] using h
    | succ i =>
      simp only [List.map_cons, List.cons_append, List.length_cons] at h
      have h1 : lget (t.map some ++ List.replicate ((n - 1) - t.length) none) i = some v := by
        rw [show n - 1 - t.length = n - (t.length + 1) by omega]; exact h
      simpa using ih h1
theorem lg_sl1 {vs : List Value} (h : ∀ v ∈ vs, v.category = 1) : lg_sl vs = vs.map Slot.val := by
  induction vs with
  | nil => rfl
  | cons a t ih =>
    have h1 := h a List.mem_cons_self
    have h2 := ih (fun v hv => h v (List.mem_cons_of_mem _ hv))
    simp only [lg_sl, List.flatMap_cons, h1] at h2 ⊢
    rw [h2]
    rfl
theorem LR.entry (G : Gm) (n : Nat) (av : List Value) (hc : ∀ v ∈ av, v.category = 1) (hn : av.length ≤ n) : LR G (ent n av) n ((lg_sl (av.map (cz G)) ++ List.replicate (n - (lg_sl (av.map (cz G))).length) Slot.unset).toArray) := by
  have hc' : ∀ v ∈ av.map (cz G), v.category = 1 := fun v hv => by
    obtain ⟨w, h1, rfl⟩ := List.mem_map.mp hv
    rw [cz_cat]; exact hc w h1
  have hl : (lg_sl (av.map (cz G))).length = av.length := by rw [lg_sl1 hc']; simp
  have hh := lv_entry (av.map (cz G)) (n := n) (by rw [hl]; exact hn)
  refine ⟨⟨hh.1, hh.2.1, fun q hq => ?_⟩, by simp [ent]; omega, fun i v hv => hc v (List.mem_of_getElem? (lget_ent hv))⟩
  obtain ⟨v, h1, h2⟩ := prs_mem.mp hq
  have h3 := lget_ent h1
  rw [h2, hl, lg_sl1 hc']
  have h5 := (List.getElem?_eq_some_iff.mp h3).1
  rw [List.getElem?_toArray, List.getElem?_append_left (by simp; exact h5)]
  simp [h3]
theorem Big.of {d : Nat} {M : Mt} {av : List Value} {h h' : Hp} {r : Option Value} (hy : plainName M.1.cls = true) (hcode : Cond.code M.1 M.2.1 M.2.2.1 M.2.2.2 ∈ lw_tbl) (hc : ∀ v ∈ av, v.category = 1) (hn : av.length ≤ M.2.2.1) (hR : Runs d M 0 (ent M.2.2.1 av) [] h r h') : Big d M av h r h' := by
  refine ⟨hR.1, hR.2.1, fun G l => ?_⟩
  refine Met.ofW (cc := M.2.1) (maxL := M.2.2.1) (ret := M.2.2.2) hy rfl ?_
  intro p e s m args below meth c s₁ B hml hv
  obtain ⟨rfl, hE, hH, hgb⟩ := hv
  have hts := atoms_spec (ws := wsM M) B.pre
  have hown : s.vm.findClass M.1.cls = some m.cls := findClass_of_methodNamed B.named
  have hnm : meth.name = M.1.name := (name_of_methodNamed B.named B.method).1
  rw [lg_entry_eq]
  have hW := hR.2.2 G p l e (rmD d (hT h' - hT h) (hS h' - hS h)) s m (av.map (cz G)).toArray below meth c s.heap [] 0 0 _ ⟨B.exec, B.bytes, B.returns, hml, hown, fun w hw => hts w (List.mem_cons_of_mem _ hw), hE, B.notSynchronized, hnm⟩ hH hgb va_S.rf (LR.entry G M.2.2.1 av hc hn) (Nat.le_refl _) (Nat.le_refl _) (by simp [rmD]) (by simp [rmD])
  simp only [Nat.zero_add] at hW
  exact hW
theorem Runs.mono {d d' : Nat} {M : Mt} {pc : Nat} {A : Lc} {st : List Value} {h h' : Hp} {r : Option Value} (hd : d ≤ d') (hR : Runs d M pc A st h r h') : Runs d' M pc A st h r h' :=
  ⟨hR.1, hR.2.1, fun G p l e R s m args below meth c H locs cells slots ls hC hH hg hS hL h1 h2 h3 h4 => hR.2.2 G p l e R s m args below meth c H locs cells slots ls hC hH hg hS hL (by omega) (by omega) h3 h4⟩
theorem Runs.less {d : Nat} {M : Mt} {pc : Nat} {A B : Lc} {st : List Value} {h h' : Hp} {r : Option Value} (hAB : lle A B) (hR : Runs d M pc A st h r h') : Runs d M pc B st h r h' :=
  ⟨hR.1, hR.2.1, fun G p l e R s m args below meth c H locs cells slots ls hC hH hg hS hL h1 h2 h3 h4 => hR.2.2 G p l e R s m args below meth c H locs cells slots ls hC hH hg hS (hL.less hAB) h1 h2 h3 h4⟩
