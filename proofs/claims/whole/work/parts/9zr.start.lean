/-! ===== the law: what the Statement gives at its start ===== -/
theorem tbl {w : Cond} (i : Nat) (h : tables_1[i]? = some w) : w ∈ lw_tbl := List.mem_append_right _ (List.mem_of_getElem? h)
theorem ew_arr {s : State} {b : Nat} {ty : FieldType} (h : (Cond.arrayClass ty).before #[Value.ref b] s = true) : ∃ cA, ArrOfT s cA ty ∧ s.vm.findClass ("[" ++ ty.toString) = some cA := by
  obtain ⟨cA, kA, comp, f1, f2, f3⟩ := Cond.arrayClass_spec h
  exact ⟨cA, fun n z => ⟨fun k h => (by cases h), kA, f2, comp, f3⟩, f1⟩
theorem ew_obj {s : State} {b : Nat} {C : String} (h : (Cond.arrayOver (.object C)).before #[Value.ref b] s = true) : ∃ cA, ArrOfT s cA (.object C) ∧ va_RA s cA (.object C) := by
  obtain ⟨comp, cA, kA, f1, _, f3, f4, f5⟩ := Cond.arrayOver_spec h
  exact ⟨cA, fun n z => ⟨fun k h => (by cases h), kA, f3, comp, f4⟩, kA, comp, f3, f4, f1, f5⟩
def sTm (i : Nat) : Term := .string RX10 (sIdx.getD i 0)
def nrw : List Cond := flatC (Jvm.Cond.and given_1 narrow_1)
theorem nw_ex : ∀ i, i < 16 → Cond.exactly (sTm i) "java/lang/String" ∈ nrw := by decide +kernel
theorem nw_co : ∀ i, i < 16 → Cond.eq (.field (sTm i) "java/lang/String" "coder" "B") (.int 0) ∈ nrw := by decide +kernel
theorem nw_ar : ∀ i, i < 16 → Cond.arrayOf (.field (sTm i) "java/lang/String" "value" "[B") .byte ∈ nrw := by decide +kernel
theorem nw_le : ∀ i, i < 16 → Cond.eq (.length (.field (sTm i) "java/lang/String" "value" "[B")) (.int (Int32.ofNat (sLen.getD i 0))) ∈ nrw := by decide +kernel
theorem nw_el : ∀ i, i < 16 → ∀ j, j < sLen.getD i 0 → Cond.eq (.elem (.field (sTm i) "java/lang/String" "value" "[B") (.int (Int32.ofNat j))) (.int ((sByt.getD i []).getD j 0)) ∈ nrw := by decide +kernel
theorem nw_ne : ∀ j, j < 16 → ∀ i, i < j → Cond.not (Cond.eq (sTm i) (sTm j)) ∈ nrw := by decide +kernel
theorem nw_cs : Cond.eq (.static RJ0 "COMPACT_STRINGS" "Z") (.int 1) ∈ nrw := by decide +kernel
theorem nw_si : Cond.isRef (.static "jdk/internal/util/Preconditions" "SIOOBE_FORMATTER" "Ljava/util/function/BiFunction;") ∈ nrw := by decide +kernel
theorem nw_sr : ∀ i, i < 16 → Cond.stringRef RX10 (sIdx.getD i 0) (sTxt.getD i "") ∈ tables_1 := by decide +kernel
set_option maxRecDepth 100000 in
theorem ew_start {s : State} {b : Nat} (hts : ∀ w ∈ lw_tbl, w.before #[Value.ref b] s = true) (hgv : (Jvm.Cond.and given_1 narrow_1).before #[Value.ref b] s = true) : ∃ G : Gm, EW G s ∧ gB G = s.heap.size ∧ gS G 33 = b := by
  have hg : ∀ w ∈ gw, w.before #[Value.ref b] s = true := fun w hw => hts w (List.mem_filter.mp hw).1
  have hn : ∀ w ∈ nrw, w.before #[Value.ref b] s = true := flat_of_before _ hgv
  obtain ⟨c0', i0, u0⟩ := u_known (C := RX0) (T := TX0) (N := 5) (n := 5) hg lw_X0 (hg _ (ch_1_12_ok.2.2.2.2.2.2.2.1.1 rfl))
  obtain ⟨c1', i1, u1⟩ := u_known (C := RX1) (T := TX1) (N := 12) (n := 12) hg lw_X1 (hg _ (ch_3_9_ok.2.2.2.2.2.2.2.2.2.2.2.2.2.2.1.1 rfl))
  obtain ⟨c2', i2, u2⟩ := u_known (C := RX2) (T := TX2) (N := 6) (n := 6) hg lw_X2 (hg _ (ch_3_0_ok.2.2.2.2.2.2.2.1.1 rfl))
  obtain ⟨c3', i3, u3⟩ := u_known (C := RX3) (T := TX3) (N := 13) (n := 13) hg lw_X3 (hg _ (ch_1_7_ok.2.2.2.2.2.2.2.2.2.2.1.1 rfl))
  obtain ⟨c4', i4, u4⟩ := u_known (C := RX4) (T := TX4) (N := 13) (n := 13) hg lw_X4 (hg _ (ch_2_1_ok.2.2.1.1 rfl))
  obtain ⟨c5', i5, u5⟩ := u_known (C := RX5) (T := TX5) (N := 3) (n := 3) hg lw_X5 (hg _ (ch_2_0_ok.2.2.2.2.2.2.2.2.2.2.2.2.1.1 rfl))
  obtain ⟨c6', i6, u6⟩ := u_known (C := RX6) (T := TX6) (N := 6) (n := 6) hg lw_X6 (hg _ (ch_1_5_ok.2.2.2.2.2.2.2.2.2.2.2.1.1 rfl))
  obtain ⟨c7', i7, u7⟩ := u_known (C := RX7) (T := TX7) (N := 8) (n := 8) hg lw_X7 (hg _ (ch_1_3_ok.2.2.1.1 rfl))
  obtain ⟨c8', i8, u8⟩ := u_known (C := RX8) (T := TX8) (N := 5) (n := 5) hg lw_X8 (hg _ (ch_1_3_ok.1.1 rfl))
  obtain ⟨c9', i9, u9⟩ := u_known (C := RX9) (T := TX9) (N := 2) (n := 2) hg lw_X9 (hg _ (ch_1_1_ok.2.2.2.2.2.2.2.2.2.2.2.2.2.2.2.1.1 rfl))
  obtain ⟨c10', i10, u10⟩ := u_known (C := RX10) (T := TX10) (N := 6) (n := 6) hg lw_X10 (hg _ (ch_2_6_ok.2.2.2.2.2.2.2.2.2.2.2.2.2.1.1 rfl))
  obtain ⟨c11', i11, u11⟩ := u_known (C := RX11) (T := TX11) (N := 6) (n := 6) hg lw_X11 (hg _ (ch_1_1_ok.2.2.2.2.2.2.2.1.1 rfl))
  obtain ⟨c12', i12, u12⟩ := u_known (C := RX12) (T := TX12) (N := 59) (n := 59) hg lw_X12 (hg _ (ch_5_1_ok.2.2.2.2.2.1.1 rfl))
  obtain ⟨a0, r0, s0⟩ := ew_arr (hts _ (tbl 46 (by decide +kernel)) : (Cond.arrayClass .byte).before #[Value.ref b] s = true)
  obtain ⟨a1, r1, s1⟩ := ew_arr (hts _ (tbl 84 (by decide +kernel)) : (Cond.arrayClass .int).before #[Value.ref b] s = true)
  obtain ⟨a2, r2, s2⟩ := ew_arr (hts _ (tbl 85 (by decide +kernel)) : (Cond.arrayClass .boolean).before #[Value.ref b] s = true)
  have hao : (Cond.arrayOver (.object RX8)).before #[Value.ref b] s = true := hts _ (tbl 250 (by decide +kernel))
  obtain ⟨a3, r3, s3⟩ := ew_obj hao
  have hA : ∀ a : Nat, a < s.heap.size → ¬ (fun q : Nat => s.heap.size ≤ q) a := fun a ha => Nat.not_le.mpr ha
  obtain ⟨adK, adV, hSt, hev⟩ := vk_Sof (args := #[Value.ref b]) (s := s) (N := 16) (tm := sTm) (len := sLen) (byt := sByt) (A := fun q : Nat => s.heap.size ≤ q) (by decide) (fun i hi => hn _ (nw_ex i hi)) (fun i hi => hn _ (nw_co i hi)) (fun i hi => hn _ (nw_ar i hi)) (fun i hi => hn _ (nw_le i hi)) (fun i hi j hj => hn _ (nw_el i hi j hj)) (fun i j hi hj hij => by
    rcases Nat.lt_or_gt_of_ne hij with c | c
    · exact Or.inl (hn _ (nw_ne j hj i c))
    · exact Or.inr (hn _ (nw_ne i hi j c))) hA
  have hcs : va_Z RJ0 "COMPACT_STRINGS" "Z" (.int 1) (fun q : Nat => s.heap.size ≤ q) s s.heap := va_Zof (hts _ (tbl 418 (by decide +kernel))) (hg _ (ch_1_0_ok.2.2.2.2.2.2.2.2.2.2.2.2.1.1 rfl)) (va_eqi (hn _ nw_cs)) hA
  have hsi : va_Zq "jdk/internal/util/Preconditions" "SIOOBE_FORMATTER" "Ljava/util/function/BiFunction;" (fun q : Nat => s.heap.size ≤ q) s s.heap := va_Zqof (hts _ (tbl 434 (by decide +kernel))) (hg _ (ch_1_0_ok.2.2.2.2.2.2.2.2.2.2.2.2.2.2.1.1 rfl)) (hn _ nw_si) hA
  obtain ⟨t0, hs0⟩ : ∃ t0 : Nat, va_Z "jdk/internal/util/Preconditions" "SIOOBE_FORMATTER" "Ljava/util/function/BiFunction;" .null (fun q : Nat => s.heap.size ≤ q) s s.heap ∨ va_Z "jdk/internal/util/Preconditions" "SIOOBE_FORMATTER" "Ljava/util/function/BiFunction;" (.ref t0) (fun q : Nat => s.heap.size ≤ q) s s.heap := by
    rcases hsi with z | ⟨t, z⟩
    · exact ⟨0, Or.inl z⟩
    · exact ⟨t, Or.inr z⟩
  refine ⟨(fun k => if k = 0 then c0' else if k = 1 then c1' else if k = 2 then c2' else if k = 3 then c3' else if k = 4 then c4' else if k = 5 then c5' else if k = 6 then c6' else if k = 7 then c7' else if k = 8 then c8' else if k = 9 then c9' else if k = 10 then c10' else if k = 11 then c11' else c12', fun k => if k = 0 then i0 else if k = 1 then i1 else if k = 2 then i2 else if k = 3 then i3 else if k = 4 then i4 else if k = 5 then i5 else if k = 6 then i6 else if k = 7 then i7 else if k = 8 then i8 else if k = 9 then i9 else if k = 10 then i10 else if k = 11 then i11 else i12, fun t => if t = 0 then a0 else if t = 1 then a1 else if t = 2 then a2 else a3, s.heap.size, fun k => if k < 16 then adK k else if k < 32 then adV (k - 16) else if k = 32 then t0 else b, adV), ⟨⟨?_, ?_⟩, ?_, ?_, ?_, hcs, hs0, ?_, va_AO.of hao⟩, rfl, rfl⟩
  · intro k q hq
    match k, hq with
      | 0, hq => cases hq; exact u0
      | 1, hq => cases hq; exact u1
      | 2, hq => cases hq; exact u2
      | 3, hq => cases hq; exact u3
      | 4, hq => cases hq; exact u4
      | 5, hq => cases hq; exact u5
      | 6, hq => cases hq; exact u6
      | 7, hq => cases hq; exact u7
      | 8, hq => cases hq; exact u8
      | 9, hq => cases hq; exact u9
      | 10, hq => cases hq; exact u10
      | 11, hq => cases hq; exact u11
      | 12, hq => cases hq; exact u12
      | k + 13, hq => simp [vwCl] at hq
  · intro k q hq
    match k, hq with
      | 0, hq => cases hq; exact ⟨r0, s0⟩
      | 1, hq => cases hq; exact ⟨r1, s1⟩
      | 2, hq => cases hq; exact ⟨r2, s2⟩
      | 3, hq => cases hq; exact ⟨r3, s3⟩
      | k + 4, hq => simp [gT] at hq
  · intro w hw
    have hm := (List.mem_filter.mp hw).1
    obtain ⟨a, i, x, b', rfl⟩ := nst_form hw
    exact va_Nw.of rfl (hts _ hm)
  · intro i hi
    show vk_R RX10 (sIdx.getD i 0) (sTxt.getD i "") (if i < 16 then adK i else _) s
    rw [if_pos hi]
    exact vk_R.of (hts _ (List.mem_append_right _ (nw_sr i hi))) (hev i hi)
  · refine ⟨fun i hi => ?_, fun i j hi hj e => ?_⟩
    · show va_O "java/lang/String" (if i < 16 then adK i else _) _ s s.heap ∧ va_OF "java/lang/String" "coder" "B" (.int 0) (if i < 16 then adK i else _) _ s s.heap ∧ va_OF "java/lang/String" "value" "[B" (.ref (adV i)) (if i < 16 then adK i else _) _ s s.heap ∧ _
      rw [if_pos hi]
      exact hSt.1 i hi
    · have e' : (if i < 16 then adK i else if i < 32 then adV (i - 16) else if i = 32 then t0 else b) = (if j < 16 then adK j else if j < 32 then adV (j - 16) else if j = 32 then t0 else b) := e
      rw [if_pos hi, if_pos hj] at e'
      exact hSt.2 i j hi hj e'
  · intro i hi
    show (if 16 + i < 16 then adK (16 + i) else if 16 + i < 32 then adV (16 + i - 16) else _) = adV i
    rw [if_neg (by omega), if_pos (by omega), show 16 + i - 16 = i by omega]
theorem whole_start {p : Program} {e : Env} {s : State} {m : MethodId} {below : List Frame} {meth : Method} {c : Code} (l : Launch) {b L : Nat} {xs : Nat → Int32} (hL3 : L ≤ 3072) (C0 : lw_At p s m meth c b L xs) : W p l e room_1 s m #[Value.ref b] below meth c s.heap [] 0 0 (lw_Z below #[Value.ref b] s) (entryFrame m ([Value.ref b] : List Value).toArray 4) := by
  have hts := C0.2.2.2.2.2.1
  have hgv := C0.2.2.2.2.2.2.2.2.2
  obtain ⟨G, hE, hgB, h33⟩ := ew_start hts hgv
  have hC : LwC (p, l, e, s, m, below, meth, c, b, L, xs, G) := ⟨C0, hE, hgB, h33, hL3⟩
  have hw := law_start hC
  have hl := LR.entry G 4 [.retAddr 33] (by decide) (by decide)
  have e33 : ([.retAddr 33] : List Value).map (cz G) = [Value.ref b] := by
    show [Value.ref (gS G 33)] = _
    rw [h33]
  rw [e33] at hl
  rw [lg_entry_eq]
  exact hw s.heap [] _ ⟨by rw [hgB]; rfl, fun k q hk => by cases hk⟩ va_S.rf hl
set_option maxHeartbeats 4000000 in
theorem lw_walk (l : Launch) (b : Addr) (xs : List Int32) : MetFree l x (headSpec (Jvm.Cond.code x code maxLocals ret :: tables_1) room_1) (lw_P b xs) (fun _ _ _ _ _ => True) lw_Q := by
  refine MetFree.of_bodyS (code := code) (maxLocals := maxLocals) (ret := ret) (by decide) ?_ ?_
  · intro args s m h hn
    obtain ⟨meth, c, h1, h2, h3, h4, h5, h6, -, -⟩ := Cond.code_spec hn (atoms_spec (ws := Jvm.Cond.code x code maxLocals ret :: tables_1) h _ List.mem_cons_self)
    exact ⟨meth, c, h1, h2, h3, h4, h5, h6⟩
  · intro p e s m args below meth c s₁ B hml0 hP _
    obtain ⟨rfl, hx, hbd, hgv⟩ := hP
    obtain ⟨scr, harrAt, hlist, hof, hsmall⟩ := hx
    obtain ⟨hcb, hkn, -, -⟩ := State.arrayAt?_spec harrAt
    have hown : s.vm.findClass R_law = some m.cls := findClass_of_methodNamed B.named
    have hts0 : ∀ c ∈ (Jvm.Cond.code x code maxLocals ret :: tables_1), c.before #[Value.ref b] s = true := atoms_spec (ws := Jvm.Cond.code x code maxLocals ret :: tables_1) B.pre
    have hts : ∀ w ∈ lw_tbl, w.before #[Value.ref b] s = true := k2_hts_sels lw_privs (fun w hw => hts0 w (List.mem_cons_of_mem _ hw)) lw_privs_ok
    have hml : c.maxLocals = 4 := B.maxLocals_eq (hts0 _ List.mem_cons_self)
    have X₀ : Stand p l e room_1 s m #[Value.ref b] below meth c s₁ [] 0 0 := Stand.of_body B
    have hh0 : s₁.heap = s.heap := by rw [B.state]; rfl
    have hsz : scr.slots.size = xs.length := by rw [← Array.length_toList, hlist, List.length_map]
    have hval : ∀ j : Nat, j < xs.length → scr.slots[j]? = some (.int (xs.getD j 0)) := fun j hj => by
      rw [← Array.getElem?_toList, hlist]
      simp [hj]
    have hbl : b < s.heap.size := (Array.getElem?_eq_some_iff.mp hcb).1
    have hX : va_X b xs.length (fun j => xs.getD j 0) s s.heap := ⟨scr, hcb, hof, hkn, hsz, hval⟩
    have K : W p l e room_1 s m #[Value.ref b] below meth c s₁.heap [] 0 0 (lw_Z below #[Value.ref b] s) (entryFrame m ([Value.ref b] : List Value).toArray 4) := by
      rw [hh0]
      exact whole_start l hbd ⟨B.exec, B.bytes, B.returns, hml, hown, hts, hX, hbl, B.notSynchronized, hgv⟩
    obtain ⟨t, a1, o, b1, b2, b3⟩ := K s₁ rfl X₀
    exact ⟨t, o, a1, b1, b2, b3⟩
theorem lw_pre_spec {args : Array Value} {s : State} (h : (Jvm.Cond.and given_1 narrow_1).before args s = true) (hr : rest_1_c.before args s = true) : ∃ (b : Addr) (xs : List Int32), lw_P b xs args s := by
  have hs := flat_of_before _ h
  have hq := flat_of_before _ hr
  have hc : (Cond.count 1).before args s = true := hs _ (by decide +kernel)
  have harr : (Cond.arrayOf (.arg 0) .int).before args s = true := hs _ (by decide +kernel)
  have hle : (Cond.le (.length (.arg 0)) (.int 3072)).before args s = true := hs _ (by decide +kernel)
  have hlen : (Cond.isInt (.length (.arg 0))).before args s = true := hq _ (by decide +kernel)
  have hall : (Cond.all (.arg 0) (.isInt (.elem (.arg 0) (.index 0)))).before args s = true := hq _ (by decide +kernel)
  obtain ⟨b, xs, hb, hx⟩ := State.ints_of_pre rfl harr hlen hall
  have hsm : xs.length < 2 ^ 31 := hx.choose_spec.2.2.2
  have hev : (Term.length (.arg 0)).eval args s none [] s = some (.int xs.length.toInt32) := hx.length_eval hb
  have hv := Cond.le_ints hev (show (Term.int 3072).eval args s none [] s = some (.int 3072) from rfl)
  have hd : xs.length.toInt32 ≤ 3072 := by
    simpa [Cond.before, Cond.holds, hv] using hle
  have hN : xs.length ≤ 3072 := (Int32.ofNat_le_ofNat hsm (by decide)).mp (show Int32.ofNat xs.length ≤ Int32.ofNat 3072 from hd)
  exact ⟨b, xs, Cond.one_arg hc (show args[0]? = some (.ref b) from hb), hx, hN, h⟩
theorem lw_comes (l : Launch) : Comes l x (Jvm.Cond.code x code maxLocals ret :: tables_1) room_1 (fun tb e args s => Calls_1 tb e args s ∧ rest_1 tb e args s ∧ Pre_1 tb e args s)
    (fun _ _ args s o t => lw_Q args s o t) := by
  intro p e ha hc hk s m args below hf hfit hheap happ hpre
  obtain ⟨b, xs, hP⟩ := lw_pre_spec hpre.2.2 hpre.2.1
  obtain ⟨k, o, h1, h2, h3, hQ⟩ := lw_walk l b xs p e ha hc hk s m args below hf ((Spec.applies_iff_loose hf).mp happ).1 hP trivial
  exact ⟨k, o, h1, h2, h3, hQ⟩
theorem lw_frame {s t : State} {o : Outcome} {args : Array Value} (h : Framed s o t [] 600000 7302250) :
    Framed s o t (fieldLocs frame_1_writes args s ++ arrayLocs frame_1_arrays args s ++ staticLocs frame_1_statics s) 600000 7302250 := h
theorem lw_limb (L : Cond) (hL : ∀ (args : Array Value) (s t : State), L.after args s (.returned (some (.int 1))) t = true) :
    ArmFor flags0 classFile x code maxLocals ret World_1 tables_1 room_1 Calls_1 rest_1 Pre_1
      (fun tb e a s o t => postC L tb e a s o t ∧ Framed s o t (fieldLocs frame_1_writes a s ++ arrayLocs frame_1_arrays a s ++ staticLocs frame_1_statics s) 600000 7302250) := by
  intro l _ _ _ p e ha hc hk s m args below hf hfit hheap happ hpre
  obtain ⟨k, o, h1, h2, h3, rfl, hF⟩ := lw_comes l p e ha hc hk s m args below hf hfit hheap happ hpre
  exact ⟨k, _, h1, h2, h3, hL args s _, lw_frame hF⟩
theorem i_vc : Claimed_1_1 ∧ Claimed_1_2 := ⟨lw_limb limb_1_1 (fun args s t => by simp [limb_1_1, Cond.after, Cond.holds, Cond.value]), lw_limb limb_1_2 (fun args s t => Cond.after_iff.mpr (by
  first | (rw [show limb_1_2 = Cond.eq .result (.int 1) from rfl, Cond.eq_ints (x := 1) (y := 1) rfl rfl]; simp; done) | (simp [limb_1_2, Cond.value, Term.eval]; done)))⟩
