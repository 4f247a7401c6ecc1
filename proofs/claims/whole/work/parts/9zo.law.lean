/-! THE CLAIM OUT OF ONE WALK OF THE LAW'S BODY. Your part is whole_start (and what it stands on); all else here is the same for every law, but numbers. -/
def R_law : String := "NightShelterLaw"
def lw_P (b : Addr) (xs : List Int32) (args : Array Value) (s : State) : Prop := args = #[.ref b] ∧ s.IntsAt b xs ∧ xs.length ≤ 3072 ∧ (Jvm.Cond.and given_1 narrow_1).before args s = true
def lw_Q (_ : Array Value) (s : State) (o : Outcome) (t : State) : Prop := o = .returned (some (.int 1)) ∧ Framed s o t [] 600000 7302250
def lw_Z (below : List Frame) (a : Array Value) (s : State) : State → Prop := fun t => ∃ o, t.status = .running ∧ Ended t below o ∧ lw_Q a s o t
/-- the law's own end, with 1 on the stack, nothing written that was there before, its room as the claim has it -/
theorem lw_ret {p : Program} {l : Launch} {e : Env} {s : State} {m : MethodId} {below : List Frame} {meth : Method} {c : Code} {b : Nat} (hx : p.tables.exec = Jvm.exec) (hb : c.code = code) (hr : meth.sig.returnType = ret) (hlocks : meth.locks = false) {pc : Nat} {H : Heap} {ls : Array Slot} (hdg : decode code pc = .ok (.ireturn, 1)) : W p l e room_1 s m #[Value.ref b] below meth c H [] 600000 7302250 (lw_Z below #[Value.ref b] s) (F0 m pc ls [.int 1]) := by
  intro T hT X
  obtain ⟨fs, hret, hrun, hended, hW, hframe⟩ := X.leave (v := some (.int 1)) (hlocks := hlocks) (fun h => by rw [hr] at h; cases h)
  have hmeth' : T.vm.method? m = some meth := X.method'
  refine ⟨T.setFrames fs, ?_, .returned (some (.int 1)), hrun, hended, rfl, ⟨_, rfl⟩, hW, hframe⟩
  jvm_step X.here [X.here.top, hx, hb, hdg, hmeth', hr, ret, narrow_b1]
  (try refine ⟨rfl, ?_⟩); (try refine ⟨rfl, ?_⟩)
  first | (intro acts; rw [hret _ acts rfl rfl rfl]) | rw [hret _ _ rfl rfl rfl]
  exact Steps.refl _
/-- what holds at the law's entry: the machine, the code, the tables' words (any of lw_tbl by 'hts w (by decide +kernel)'), the script of L ints xs at the cell b, what the Statement gives of the start (any of its parts by flat_of_before) -/
def lw_At (p : Program) (s : State) (m : MethodId) (meth : Method) (c : Code) (b L : Nat) (xs : Nat → Int32) : Prop :=
  p.tables.exec = Jvm.exec ∧ c.code = code ∧ meth.sig.returnType = ret ∧ c.maxLocals = 4 ∧ s.vm.findClass R_law = some m.cls ∧ (∀ w ∈ lw_tbl, w.before #[Value.ref b] s = true) ∧ va_X b L xs s s.heap ∧ b < s.heap.size ∧ meth.locks = false ∧ (Jvm.Cond.and given_1 narrow_1).before #[Value.ref b] s = true
abbrev Lx : Type := Program × Launch × Env × State × MethodId × List Frame × Method × Code × Nat × Nat × (Nat → Int32) × Gm
abbrev xP (Λ : Lx) : Program := Λ.1
abbrev xL (Λ : Lx) : Launch := Λ.2.1
abbrev xE (Λ : Lx) : Env := Λ.2.2.1
abbrev xS (Λ : Lx) : State := Λ.2.2.2.1
abbrev xM (Λ : Lx) : MethodId := Λ.2.2.2.2.1
abbrev xW (Λ : Lx) : List Frame := Λ.2.2.2.2.2.1
abbrev xT (Λ : Lx) : Method := Λ.2.2.2.2.2.2.1
abbrev xC (Λ : Lx) : Code := Λ.2.2.2.2.2.2.2.1
abbrev xb (Λ : Lx) : Nat := Λ.2.2.2.2.2.2.2.2.1
abbrev xn (Λ : Lx) : Nat := Λ.2.2.2.2.2.2.2.2.2.1
abbrev xx (Λ : Lx) : Nat → Int32 := Λ.2.2.2.2.2.2.2.2.2.2.1
abbrev xG (Λ : Lx) : Gm := Λ.2.2.2.2.2.2.2.2.2.2.2
/-- what holds of the law's frame -/
def LwC (Λ : Lx) : Prop := lw_At (xP Λ) (xS Λ) (xM Λ) (xT Λ) (xC Λ) (xb Λ) (xn Λ) (xx Λ) ∧ EW (xG Λ) (xS Λ) ∧ gB (xG Λ) = (xS Λ).heap.size ∧ gS (xG Λ) 33 = xb Λ ∧ xn Λ ≤ 3072
/-- from here the law comes to its end with true; cells and slots are the heap's -/
def lwp (Λ : Lx) (pc : Nat) : Kt := fun A st h => ∀ (H : Heap) (locs : List Loc) (ls : Array Slot), HR (xG Λ) h H → va_S (fun q => gB (xG Λ) ≤ q) (xS Λ).heap H locs → LR (xG Λ) A 4 ls → W (xP Λ) (xL Λ) (xE Λ) room_1 (xS Λ) (xM Λ) #[Value.ref (xb Λ)] (xW Λ) (xT Λ) (xC Λ) H locs (hT h) (hS h) (lw_Z (xW Λ) #[Value.ref (xb Λ)] (xS Λ)) (F0 (xM Λ) pc ls (st.map (cz (xG Λ))))
section LawRows
variable {Λ : Lx} {pc : Nat} {A : Lc} {st : List Value} {h : Hp}
theorem t_iconst (hC : LwC Λ) {n : Int} {v : Int32} (hd : decode code pc = .ok (.iconst n, 1)) (hv : Int32.ofInt n = v) (k : lwp Λ (pc + 1) A (.int v :: st) h) : lwp Λ pc A st h := fun H locs ls hH hS hL => lv_iconst hC.1.1 hC.1.2.1 hd hv (k H locs ls hH hS hL)
theorem t_bipush (hC : LwC Λ) {n : Int} {v : Int32} (hd : decode code pc = .ok (.bipush n, 2)) (hv : (Int8.ofInt n).toInt32 = v) (k : lwp Λ (pc + 2) A (.int v :: st) h) : lwp Λ pc A st h := fun H locs ls hH hS hL => lv_bipush hC.1.1 hC.1.2.1 hd hv (k H locs ls hH hS hL)
theorem t_ild (hC : LwC Λ) {n : Fin 4} {i : Nat} {x : Int32} (hd : decode code pc = .ok (.iload_n n, 1)) (hi : (n : Nat) = i) (hx : lget A i = some (.int x)) (k : lwp Λ (pc + 1) A (.int x :: st) h) : lwp Λ pc A st h := fun H locs ls hH hS hL => lv_iload_n hC.1.1 hC.1.2.1 hd hi (hL.at hx) (k H locs ls hH hS hL)
theorem t_ald (hC : LwC Λ) {n : Fin 4} {i x : Nat} (hd : decode code pc = .ok (.aload_n n, 1)) (hi : (n : Nat) = i) (hx : lget A i = some (.ref x)) (k : lwp Λ (pc + 1) A (.ref x :: st) h) : lwp Λ pc A st h := fun H locs ls hH hS hL => lv_aload_n hC.1.1 hC.1.2.1 hd hi (hL.at hx) (k H locs ls hH hS hL)
theorem t_als (hC : LwC Λ) {n : Fin 4} {i x : Nat} (hd : decode code pc = .ok (.aload_n n, 1)) (hi : (n : Nat) = i) (hx : lget A i = some (.retAddr x)) (k : lwp Λ (pc + 1) A (.retAddr x :: st) h) : lwp Λ pc A st h := fun H locs ls hH hS hL => lv_aload_n hC.1.1 hC.1.2.1 hd hi (hL.at hx) (k H locs ls hH hS hL)
theorem t_ist (hC : LwC Λ) {n : Fin 4} {i : Nat} {x : Int32} (hd : decode code pc = .ok (.istore_n n, 1)) (hi : (n : Nat) = i) (hn : i < 4) (k : lwp Λ (pc + 1) (lset A i (.int x)) st h) : lwp Λ pc A (.int x :: st) h := fun H locs ls hH hS hL => lv_istore_n hC.1.1 hC.1.2.1 hd hi hL.1 hn rfl (fun ls' h' => k H locs ls' hH hS (hL.store (v := .int x) rfl h'))
theorem t_ast (hC : LwC Λ) {n : Fin 4} {i x : Nat} (hd : decode code pc = .ok (.astore_n n, 1)) (hi : (n : Nat) = i) (hn : i < 4) (k : lwp Λ (pc + 1) (lset A i (.ref x)) st h) : lwp Λ pc A (.ref x :: st) h := fun H locs ls hH hS hL => lv_astore_n hC.1.1 hC.1.2.1 hd hi hL.1 hn rfl (fun ls' h' => k H locs ls' hH hS (hL.store (v := .ref x) rfl h'))
theorem t_inc (hC : LwC Λ) {i : Nat} {n : Int} {x v : Int32} (hd : decode code pc = .ok (.iinc i n, 3)) (hv : Int32.ofInt n = v) (hn : i < 4) (hx : lget A i = some (.int x)) (k : lwp Λ (pc + 3) (lset A i (.int (x + v))) st h) : lwp Λ pc A st h := fun H locs ls hH hS hL => by
  obtain ⟨kk, hk2⟩ := List.getElem?_of_mem (prs_mem (G := xG Λ) (q := (i, .int x)).mpr ⟨.int x, hx, rfl⟩)
  exact lv_iinc (v := x + v) hC.1.1 hC.1.2.1 hd hL.1 hk2 (by rw [hv]) hn rfl (fun ls' h' => k H locs ls' hH hS (hL.store (v := .int (x + v)) rfl h'))
theorem t_dup (hC : LwC Λ) {x : Nat} (hd : decode code pc = .ok (.dup, 1)) (k : lwp Λ (pc + 1) A (.ref x :: .ref x :: st) h) : lwp Λ pc A (.ref x :: st) h := fun H locs ls hH hS hL => lv_dup hC.1.1 hC.1.2.1 hd rfl (k H locs ls hH hS hL)
theorem t_add (hC : LwC Λ) {x y : Int32} (hd : decode code pc = .ok (.iadd, 1)) (k : lwp Λ (pc + 1) A (.int (x + y) :: st) h) : lwp Λ pc A (.int y :: .int x :: st) h := fun H locs ls hH hS hL => lv_iadd hC.1.1 hC.1.2.1 hd (k H locs ls hH hS hL)
theorem t_sub (hC : LwC Λ) {x y : Int32} (hd : decode code pc = .ok (.isub, 1)) (k : lwp Λ (pc + 1) A (.int (x - y) :: st) h) : lwp Λ pc A (.int y :: .int x :: st) h := fun H locs ls hH hS hL => lv_isub hC.1.1 hC.1.2.1 hd (k H locs ls hH hS hL)
theorem t_and (hC : LwC Λ) {x y : Int32} (hd : decode code pc = .ok (.iand, 1)) (k : lwp Λ (pc + 1) A (.int (x &&& y) :: st) h) : lwp Λ pc A (.int y :: .int x :: st) h := fun H locs ls hH hS hL => lv_iand hC.1.1 hC.1.2.1 hd (k H locs ls hH hS hL)
theorem t_ifeq (hC : LwC Λ) {x : Int32} {off : Int} {tgt : Nat} (hd : decode code pc = .ok (.ifCond .eq off, 3)) (ht : (pc : Int) + off = (tgt : Int)) (k1 : x = 0 → lwp Λ tgt A st h) (k2 : ¬ x = 0 → lwp Λ (pc + 3) A st h) : lwp Λ pc A (.int x :: st) h := fun H locs ls hH hS hL => lv_if_eq hC.1.1 hC.1.2.1 hd ht (fun q => k1 q H locs ls hH hS hL) (fun q => k2 q H locs ls hH hS hL)
theorem t_cmpeq (hC : LwC Λ) {x y : Int32} {off : Int} {tgt : Nat} (hd : decode code pc = .ok (.if_icmp .eq off, 3)) (ht : (pc : Int) + off = (tgt : Int)) (k1 : x = y → lwp Λ tgt A st h) (k2 : ¬ x = y → lwp Λ (pc + 3) A st h) : lwp Λ pc A (.int y :: .int x :: st) h := fun H locs ls hH hS hL => lv_icmp_eq hC.1.1 hC.1.2.1 hd ht (fun q => k1 q H locs ls hH hS hL) (fun q => k2 q H locs ls hH hS hL)
theorem t_cmpgt (hC : LwC Λ) {x y : Int32} {off : Int} {tgt : Nat} (hd : decode code pc = .ok (.if_icmp .gt off, 3)) (ht : (pc : Int) + off = (tgt : Int)) (k1 : y < x → lwp Λ tgt A st h) (k2 : ¬ y < x → lwp Λ (pc + 3) A st h) : lwp Λ pc A (.int y :: .int x :: st) h := fun H locs ls hH hS hL => lv_icmp_gt hC.1.1 hC.1.2.1 hd ht (fun q => k1 q H locs ls hH hS hL) (fun q => k2 q H locs ls hH hS hL)
theorem t_goto (hC : LwC Λ) {off : Int} {tgt : Nat} (hd : decode code pc = .ok (.goto off, 3)) (ht : (pc : Int) + off = (tgt : Int)) (k : lwp Λ tgt A st h) : lwp Λ pc A st h := fun H locs ls hH hS hL => lv_goto hC.1.1 hC.1.2.1 hd ht (k H locs ls hH hS hL)
theorem t_tabIn (hC : LwC Λ) {y : Int32} {len j t : Nat} {dflt lo hi o : Int} {offs : Array Int} (hd : decode code pc = .ok (.tableswitch dflt lo hi offs, len)) (hy : y.toInt = lo + j) (h1 : lo + j ≤ hi) (ho : offs[j]? = some o) (ht : (pc : Int) + o = (t : Int)) (k : lwp Λ t A st h) : lwp Λ pc A (.int y :: st) h := fun H locs ls hH hS hL => lv_tableIn hC.1.1 hC.1.2.1 hd (by omega) (by omega) (by rw [hy, show (lo + (j : Int) - lo).toNat = j by omega]; exact ho) ht (k H locs ls hH hS hL)
theorem t_tabOut (hC : LwC Λ) {y : Int32} {len t : Nat} {dflt lo hi : Int} {offs : Array Int} (hd : decode code pc = .ok (.tableswitch dflt lo hi offs, len)) (hy : y.toInt < lo ∨ hi < y.toInt) (ht : (pc : Int) + dflt = (t : Int)) (k : lwp Λ t A st h) : lwp Λ pc A (.int y :: st) h := fun H locs ls hH hS hL => lv_tableOut hC.1.1 hC.1.2.1 hd hy ht (k H locs ls hH hS hL)
theorem t_slen (hC : LwC Λ) (hd : decode code pc = .ok (.arraylength, 1)) (k : lwp Λ (pc + 1) A (.int (Int32.ofNat (xn Λ)) :: st) h) : lwp Λ pc A (.retAddr 33 :: st) h := fun H locs ls hH hS hL => by
  obtain ⟨⟨hx, hb, _, _, _, _, hX, hbl, _⟩, _, hg, h33, _⟩ := hC
  show W _ _ _ _ _ _ _ _ _ _ _ _ _ _ _ (F0 _ pc ls (.ref (gS (xG Λ) 33) :: st.map (cz (xG Λ))))
  rw [h33]
  exact va_slen hx hb hX hbl (by rw [hg]; omega) hS hd (k H locs ls hH hS hL)
theorem t_sld (hC : LwC Λ) {i : Int32} (hin : vp_in i (xn Λ)) (hd : decode code pc = .ok (.iaload, 1)) (k : lwp Λ (pc + 1) A (.int (xx Λ i.toNatClampNeg) :: st) h) : lwp Λ pc A (.int i :: .retAddr 33 :: st) h := fun H locs ls hH hS hL => by
  obtain ⟨⟨hx, hb, _, _, _, _, hX, hbl, _⟩, _, hg, h33, _⟩ := hC
  show W _ _ _ _ _ _ _ _ _ _ _ _ _ _ _ (F0 _ pc ls (.int i :: .ref (gS (xG Λ) 33) :: st.map (cz (xG Λ))))
  rw [h33]
  exact va_sld hx hb hX hbl (by rw [hg]; omega) hS hin hd (k H locs ls hH hS hL)
theorem lw_gw (hC : LwC Λ) : ∀ w ∈ gw, w.before #[Value.ref (xb Λ)] (xS Λ) = true := fun w hw => hC.1.2.2.2.2.2.1 w (List.mem_filter.mp hw).1
theorem t_new (hC : LwC Λ) {C : String} {k idx N : Nat} {T : u_T} (hk : clsOk k C T N) (hty : ∀ j, j < N → okTy (fty k j) = true) (hw1 : Cond.classLink R_law idx C ∈ gw) (hw2 : Cond.instantiable C N ∈ gw) (hw3 : Cond.initialized C ∈ gw) (hd : decode code pc = .ok (.new idx, 3)) (c1' : hT h + 1 ≤ 600000) (c2' : hS h + fN k ≤ 7302250) (kk : lwp Λ (pc + 3) A (.ref (hT h) :: st) (nC h k (fN k))) : lwp Λ pc A st h := fun H locs ls hH hSl hL => by
  have hts := lw_gw hC
  obtain ⟨⟨hx, hb, _, _, hown, _, hX, hbl, _⟩, hE, hg, h33, _⟩ := hC
  have hKn := hE.1.1 k _ hk.1
  have c2 : hS h + N ≤ 7302250 := by rw [← hk.2.1]; exact c2'
  refine W.newcK hx hb hown (hts _ hw1) (hts _ hw2) (hts _ hw3) rfl hd c1' c2 hKn.2.1 rfl fun H1 kC hkC e1 z1 o1 => ?_
  have hat : va_at (gD (xG Λ)) vwCl (H.size, cellE (xG Λ) (nC h k (fN k)) (hT h)) H1 := by
    rw [cellE_obj (k := k) (by rw [hK_nC, if_pos rfl]) hk.2.2.1]
    refine ⟨_, hk.1, (u_born (fty k) hts hk.2.2.2.1 hKn hkC e1 hk.2.2.2.2.1).to (fun j hj => ?_)⟩
    show defaultValue (fty k j) = vp_V (flds (xG Λ) _ _ _) j
    have hj2 : j < fN k := by rw [hk.2.1]; exact hj
    rw [vp_V, List.getD_eq_getElem?_getD, flds_at hj2]
    exact fv_new (hty j hj)
  have hP1 : va_P (gD (xG Λ)) vwCl (plist (xG Λ) (nC h k (fN k))) H1 := by
    rw [← plist_new (G := xG Λ) (h := h) (h' := nC h k (fN k)) rfl rfl (fun b hb => cell_nC hb)]
    refine (hH.2.kept (fun k q hk => o1 q.1 ((hH.2 k q hk).lt))).app (fun k q hk => ?_)
    have hz : k < 1 := (List.getElem?_eq_some_iff.mp hk).1
    rw [show k = 0 by omega] at hk
    cases hk
    rw [hH.1] at hat
    exact hat
  have h9 := kk H1 locs ls ⟨by rw [z1, hH.1, hT_nC]; omega, hP1⟩ ⟨Nat.le_trans hSl.1 (by omega), fun q a1 a2 => (o1 q (Nat.lt_of_lt_of_le a1 hSl.1)).trans (hSl.2.1 q a1 a2), hSl.2.2⟩ hL
  rw [hT_nC, hS_nC, hk.2.1] at h9
  have e9 : ((.ref (hT h) :: st).map (cz (xG Λ))) = Value.ref H.size :: st.map (cz (xG Λ)) := by rw [hH.1]; rfl
  rw [e9] at h9
  exact h9
theorem lwp_call (hC : LwC Λ) {rest : List Value} {h1 : Hp} {rc : Option Value} (hT1 : hT h ≤ hT h1) (hS1 : hS h ≤ hS h1) (k : lwp Λ (pc + 3) A (rc.toList ++ rest) h1)
    (hW : ∀ (H : Heap) (locs : List Loc) (ls : Array Slot), HR (xG Λ) h H → gB (xG Λ) ≤ H.size → va_S (fun q => gB (xG Λ) ≤ q) (xS Λ).heap H locs → ls.size = 4 →
      ∃ a, va_Run (xP Λ) (xL Λ) (xE Λ) room_1 (xS Λ) (xM Λ) #[Value.ref (xb Λ)] (xW Λ) (xT Λ) (xC Λ) H locs (hT h) (hS h) (hT h1 - hT h) (hS h1 - hS h) (F0 (xM Λ) pc ls (st.map (cz (xG Λ)))) (rest.map (cz (xG Λ))) (QC (xG Λ) rc h1 a) (fun q => gB (xG Λ) ≤ q)) : lwp Λ pc A st h := fun H locs ls hH hSl hL => by
  have hg : gB (xG Λ) ≤ (xS Λ).heap.size := by rw [hC.2.2.1]; exact Nat.le_refl _
  obtain ⟨a, hrun⟩ := hW H locs ls hH (Nat.le_trans hg hSl.1) hSl hL.1.1
  intro T hT0 X
  obtain ⟨v, st₀, t, T', L, e0, X', hL2, e1, e2, ⟨hv, hH1, hE1, hF1⟩, go⟩ := hrun T hT0 X
  have hv2 : v = rc.map (cz (xG Λ)) := by cases hv; rfl
  subst hv2
  have hS2 : va_S (fun q => gB (xG Λ) ≤ q) (xS Λ).heap T'.heap (locs ++ L) := by
    rw [e1]
    refine ⟨Nat.le_trans hSl.1 (by rw [← e0]; exact hF1.1), fun q a1 a2 => ?_, fun q hq => ?_⟩
    · rw [hF1.2 q (by rw [e0]; exact Nat.lt_of_lt_of_le a1 hSl.1) a2, e0]
      exact hSl.2.1 q a1 a2
    · rcases List.mem_append.mp hq with hq | hq
      · exact hSl.2.2 q hq
      · exact hL2 q hq
  have h9 := k T'.heap (locs ++ L) ls (by rw [e1]; exact hH1) hS2 hL
  have e9 : (rc.toList ++ rest).map (cz (xG Λ)) = (rc.map (cz (xG Λ))).toList ++ rest.map (cz (xG Λ)) := by cases rc <;> simp
  rw [e9] at h9
  have eT : hT h + (hT h1 - hT h) = hT h1 := by omega
  have eS : hS h + (hS h1 - hS h) = hS h1 := by omega
  rw [eT, eS] at X'
  obtain ⟨t3, a3, b3⟩ := h9 T' rfl X'
  exact ⟨t3, go t3 a3, b3⟩
theorem lw_room {dc mc ms mL : Nat} (hdc : dc ≤ 40) (hm : mL ≤ 22) : (rmD dc mc ms).frames + 1 ≤ room_1.frames ∧ 8 + (mL + 11) + (rmD dc mc ms).locals ≤ room_1.locals := by
  constructor
  · show dc + 1 ≤ 2048; omega
  · show 8 + (mL + 11) + 41 * dc ≤ 84000; omega
theorem t_callV (hC : LwC Λ) {idx n dc k N a : Nat} {Mc : Mt} {C : String} {U : u_T} (hk : clsOk k C U N) (hC2 : Mc.1.cls = C) (hm : mOk Mc n) (hw1 : Cond.methodLink R_law idx Mc.1 ∈ gw) (hw2 : Cond.instanceMethod Mc.1 ∈ gw) (hw3 : Cond.selects C Mc.1 Mc.1 ∈ gw) (hdc : dc ≤ 40) {av rest : List Value} (en : av.length = n) (ha : a < hT h) (hka : hK h a = k) (hr : rest.length ≤ 4) {rc : Option Value} {h1 : Hp} (hB : Big dc Mc (.ref a :: av) h rc h1) (b1 : hT h1 ≤ 600000) (b2 : hS h1 ≤ 7302250) (hd : decode code pc = .ok (.invokevirtual idx, 3)) (kk : lwp Λ (pc + 3) A (rc.toList ++ rest) h1) : lwp Λ pc A (av.reverse ++ .ref a :: rest) h := by
  refine lwp_call hC hB.1 hB.2.1 kk fun H locs ls hH hg hSl hls => ⟨#[], ?_⟩
  have hts := lw_gw hC
  obtain ⟨⟨hx, hb, _, hml, hown, _, hX, hbl, _⟩, hE, hg0, h33, _⟩ := hC
  have he : (plist (xG Λ) h)[a]? = some (gB (xG Λ) + a, .inr (k, flds (xG Λ) h a k)) := by rw [plist_at ha, cellE_obj hka hk.2.2.1]
  have t1 := hB.1
  have t2 := hB.2.1
  exact va_runV (C := C) (b := gB (xG Λ) + a) (As := av.map (cz (xG Λ))) (rest := rest.map (cz (xG Λ))) (n := n) ⟨hx, hb, hml, hown, hts⟩ (hB.2.2 (xG Λ) (xL Λ)) ⟨callB_of n hts (good_wsM hm.1) rfl rfl rfl (hts _ hm.2.1) (hts _ hw1) hm.2.2.1 (lw_room hdc hm.2.2.2), hts _ hw2, hts _ hw3⟩ ⟨pc_blind, va_recv hE.1 hH.2 hk.1 he, pre_ok (av := .ref a :: av) hE hH hg hSl⟩ rfl (by rw [List.length_map]; exact en) hls (by simp [cz]) (lv_room (cat_sum (xG Λ) rest hr)) hd ⟨by show hT h + (hT h1 - hT h) ≤ 600000; omega, by show hS h + (hS h1 - hS h) ≤ 7302250; omega⟩
theorem t_callI (hC : LwC Λ) {idx n dc a : Nat} {Mc : Mt} (hm : mOk Mc n) (hr0 : Mc.2.2.2 = none) (hn0 : Mc.1.name = "<init>") (hw1 : Cond.methodLink R_law idx Mc.1 ∈ gw) (hw2 : Cond.instanceMethod Mc.1 ∈ gw) (hdc : dc ≤ 40) {av rest : List Value} (en : av.length = n) (hr : rest.length ≤ 4) {rc : Option Value} {h1 : Hp} (hB : Big dc Mc (.ref a :: av) h rc h1) (b1 : hT h1 ≤ 600000) (b2 : hS h1 ≤ 7302250) (hd : decode code pc = .ok (.invokespecial idx, 3)) (kk : lwp Λ (pc + 3) A (rc.toList ++ rest) h1) : lwp Λ pc A (av.reverse ++ .ref a :: rest) h := by
  refine lwp_call hC hB.1 hB.2.1 kk fun H locs ls hH hg hSl hls => ⟨#[], ?_⟩
  have hts := lw_gw hC
  obtain ⟨⟨hx, hb, _, hml, hown, _, hX, hbl, _⟩, hE, hg0, h33, _⟩ := hC
  have t1 := hB.1
  have t2 := hB.2.1
  exact va_runI (b := gB (xG Λ) + a) (As := av.map (cz (xG Λ))) (rest := rest.map (cz (xG Λ))) (n := n) ⟨hx, hb, hml, hown, hts⟩ (hB.2.2 (xG Λ) (xL Λ)) ⟨callB_of n hts (good_wsM hm.1) (by rw [← hr0]; rfl) rfl rfl (hts _ hm.2.1) (hts _ hw1) hm.2.2.1 (lw_room hdc hm.2.2.2), hn0, hts _ hw2⟩ ⟨pc_blind, pre_ok (av := .ref a :: av) hE hH hg hSl⟩ rfl (by rw [List.length_map]; exact en) hls (by simp [cz]) (lv_room (cat_sum (xG Λ) rest hr)) hd ⟨by show hT h + (hT h1 - hT h) ≤ 600000; omega, by show hS h + (hS h1 - hS h) ≤ 7302250; omega⟩
theorem t_ret (hC : LwC Λ) (hd : decode code pc = .ok (.ireturn, 1)) (b1 : hT h ≤ 600000) (b2 : hS h ≤ 7302250) : lwp Λ pc A [.int 1] h := fun H locs ls hH hSl hL => by
  obtain ⟨⟨hx, hb, hr, _, _, _, _, _, hlk, _⟩, _, hg, _, _⟩ := hC
  refine va_forget (fun q hq => by rw [← hg]; exact hSl.2.2 q hq) ?_
  exact W.widen b1 b2 (lw_ret hx hb hr hlk hd)
end LawRows
