/-! ===== String constants: a text is .retAddr i (i < 16), its bytes are .retAddr (16 + i) ===== -/
theorem Runs.goS {d : Nat} {M : Mt} {pc pc' : Nat} {A A' : Lc} {st st' : List Value} {h h' : Hp} {r : Option Value} (hR : Runs d M pc' A' st' h r h')
    (hW : ∀ (G : Gm) (p : Program) (l : Launch) (e : Env) (R : Room) (s : State) (m : MethodId) (args : Array Value) (below : List Frame) (meth : Method) (c : Code) (H : Heap) (locs : List Loc) (cells slots : Nat) (ls : Array Slot) (Qp : State → Prop),
      Ctx G M p s m args meth c → HR G h H → va_S (fun q => gB G ≤ q) s.heap H locs → LR G A M.2.2.1 ls → (∀ ls', LR G A' M.2.2.1 ls' → W p l e R s m args below meth c H locs cells slots Qp (F0 m pc' ls' (st'.map (cz G)))) → W p l e R s m args below meth c H locs cells slots Qp (F0 m pc ls (st.map (cz G)))) : Runs d M pc A st h r h' :=
  ⟨hR.1, hR.2.1, fun G p l e R s m args below meth c H locs cells slots ls hC hH hg hS hL h1 h2 h3 h4 => hW G p l e R s m args below meth c H locs cells slots ls _ hC hH hS hL (fun ls' hL' => hR.2.2 G p l e R s m args below meth c H locs cells slots ls' hC hH hg hS hL' h1 h2 h3 h4)⟩
def i_no : Kt := fun _ _ _ => False
def i_sval (K : Kt) : Kt := fun A st h => match st with
  | .retAddr i :: st => i < 16 ∧ K A (.retAddr (16 + i) :: st) h
  | _ => False
def i_scod (K : Kt) : Kt := fun A st h => match st with
  | .retAddr i :: st => i < 16 ∧ K A (.int 0 :: st) h
  | _ => False
def i_slen (K : Kt) : Kt := fun A st h => match st with
  | .retAddr k :: st => 16 ≤ k ∧ k < 32 ∧ K A (.int (nI (sLen.getD (k - 16) 0)) :: st) h
  | _ => False
def i_sbald (K : Kt) : Kt := fun A st h => match st with
  | .int i :: .retAddr k :: st => 16 ≤ k ∧ k < 32 ∧ vp_in i (sLen.getD (k - 16) 0) ∧ K A (.int ((sByt.getD (k - 16) []).getD i.toNatClampNeg 0) :: st) h
  | _ => False
def i_tret (ty : FieldType) (Q : Option Value → Hp → Prop) : Kt := fun _ st h => match st with
  | [.int x] => narrow ty (.int x) = .int x ∧ Q (some (.int x)) h
  | _ => False
theorem s_sval {own : String} {idx : Nat} (hw : Cond.fieldLink own idx "java/lang/String" "value" "[B" ∈ gw) : sforC own (.getfield idx) 3 i_sval := by
  intro d M Q pc K ho hd hKt A st h hx
  unfold i_sval at hx
  split at hx
  · rename_i i st
    obtain ⟨h1, h2⟩ := hx
    obtain ⟨r, h', hq, hRn⟩ := hKt _ _ _ h2
    refine ⟨r, h', hq, hRn.goS fun G p l e R s m args below meth c H locs cells slots ls Qp hC hH hS hL hk => ?_⟩
    have hE := hC.2.2.2.2.2.2.1
    have hk2 := hk ls hL
    refine vk_getf (own := own) (ref := "java/lang/String") (index := idx) hC.1 hC.2.1 (hE.2.2.2.1.1 i h1).2.2.1 hS (by rw [← ho]; exact hC.2.2.2.2.1) (hC.2.2.2.2.2.1 _ hw) (fun _ h9 => h9) hd ?_
    rw [← hE.2.2.2.2.2.2.1 i h1]
    exact hk2
  · exact hx.elim
theorem s_scod {own : String} {idx : Nat} (hw : Cond.fieldLink own idx "java/lang/String" "coder" "B" ∈ gw) : sforC own (.getfield idx) 3 i_scod := by
  intro d M Q pc K ho hd hKt A st h hx
  unfold i_scod at hx
  split at hx
  · rename_i i st
    obtain ⟨h1, h2⟩ := hx
    obtain ⟨r, h', hq, hRn⟩ := hKt _ _ _ h2
    refine ⟨r, h', hq, hRn.goS fun G p l e R s m args below meth c H locs cells slots ls Qp hC hH hS hL hk => ?_⟩
    have hE := hC.2.2.2.2.2.2.1
    exact vk_getf (own := own) (ref := "java/lang/String") (index := idx) hC.1 hC.2.1 (hE.2.2.2.1.1 i h1).2.1 hS (by rw [← ho]; exact hC.2.2.2.2.1) (hC.2.2.2.2.2.1 _ hw) (fun _ h9 => h9) hd (hk ls hL)
  · exact hx.elim
theorem s_slen : sfor .arraylength 1 i_slen := by
  intro d M Q pc K hd hKt A st h hx
  unfold i_slen at hx
  split at hx
  · rename_i k st
    obtain ⟨h0, h1, h2⟩ := hx
    obtain ⟨r, h', hq, hRn⟩ := hKt _ _ _ h2
    refine ⟨r, h', hq, hRn.goS fun G p l e R s m args below meth c H locs cells slots ls Qp hC hH hS hL hk => ?_⟩
    have hE := hC.2.2.2.2.2.2.1
    have hk2 := hk ls hL
    obtain ⟨i, rfl⟩ : ∃ i, k = 16 + i := ⟨k - 16, by omega⟩
    rw [show 16 + i - 16 = i by omega] at hk2
    have hv := hE.2.2.2.2.2.2.1 i (by omega)
    show W p l e R s m args below meth c H locs cells slots Qp (F0 m pc ls (.ref (gS G (16 + i)) :: st.map (cz G)))
    rw [hv]
    exact va_tlen hC.1 hC.2.1 (hE.2.2.2.1.1 i (by omega)).2.2.2 hS rfl hd hk2
  · exact hx.elim
theorem s_sbald : sfor .baload 1 i_sbald := by
  intro d M Q pc K hd hKt A st h hx
  unfold i_sbald at hx
  split at hx
  · rename_i j k st
    obtain ⟨h0, h1, hin, h2⟩ := hx
    obtain ⟨r, h', hq, hRn⟩ := hKt _ _ _ h2
    refine ⟨r, h', hq, hRn.goS fun G p l e R s m args below meth c H locs cells slots ls Qp hC hH hS hL hk => ?_⟩
    have hE := hC.2.2.2.2.2.2.1
    have hk2 := hk ls hL
    obtain ⟨i, rfl⟩ : ∃ i, k = 16 + i := ⟨k - 16, by omega⟩
    rw [show 16 + i - 16 = i by omega] at hk2 hin
    have hv := hE.2.2.2.2.2.2.1 i (by omega)
    show W p l e R s m args below meth c H locs cells slots Qp (F0 m pc ls (.int j :: .ref (gS G (16 + i)) :: st.map (cz G)))
    rw [hv]
    exact va_tb hC.1 hC.2.1 (hE.2.2.2.1.1 i (by omega)).2.2.2 hS hin rfl hd hk2
  · exact hx.elim
theorem s_gcs {own : String} {idx : Nat} (hw : Cond.fieldLink own idx "java/lang/String" "COMPACT_STRINGS" "Z" ∈ gw) : sforC own (.getstatic idx) 3 (i_push (.int 1)) := by
  intro d M Q pc K ho hd hKt A st h hx
  obtain ⟨r, h', hq, hRn⟩ := hKt _ _ _ hx
  refine ⟨r, h', hq, hRn.goS fun G p l e R s m args below meth c H locs cells slots ls Qp hC hH hS hL hk => ?_⟩
  have hE := hC.2.2.2.2.2.2.1
  exact va_gets (own := own) (ref := "java/lang/String") (index := idx) hC.1 hC.2.1 hE.2.2.2.2.1 hS (by rw [← ho]; exact hC.2.2.2.2.1) (hC.2.2.2.2.2.1 _ hw) (fun _ h9 => h9) hd (hk ls hL)
theorem Runs.gsq {d : Nat} {M : Mt} {pc : Nat} {A : Lc} {st : List Value} {h h' : Hp} {r : Option Value} {own : String} {idx : Nat} (hw : Cond.fieldLink own idx "jdk/internal/util/Preconditions" "SIOOBE_FORMATTER" "Ljava/util/function/BiFunction;" ∈ gw) (ho : M.1.cls = own) (hd : decode M.2.1 pc = .ok (.getstatic idx, 3)) (h1 : Runs d M (pc + 3) A (.null :: st) h r h') (h2 : Runs d M (pc + 3) A (.retAddr 32 :: st) h r h') : Runs d M pc A st h r h' := by
  refine ⟨h1.1, h1.2.1, fun G p l e R s m args below meth c H locs cells slots ls hC hH hg hS hL q1 q2 q3 q4 => ?_⟩
  have hE := hC.2.2.2.2.2.2.1
  rcases hE.2.2.2.2.2.1 with z | z
  · exact va_gets (own := own) (ref := "jdk/internal/util/Preconditions") (index := idx) hC.1 hC.2.1 z hS (by rw [← ho]; exact hC.2.2.2.2.1) (hC.2.2.2.2.2.1 _ hw) (fun _ h9 => h9) hd (h1.2.2 G p l e R s m args below meth c H locs cells slots ls hC hH hg hS hL q1 q2 q3 q4)
  · exact va_gets (own := own) (ref := "jdk/internal/util/Preconditions") (index := idx) hC.1 hC.2.1 z hS (by rw [← ho]; exact hC.2.2.2.2.1) (hC.2.2.2.2.2.1 _ hw) (fun _ h9 => h9) hd (h2.2.2 G p l e R s m args below meth c H locs cells slots ls hC hH hg hS hL q1 q2 q3 q4)
theorem s_i2c : sfor .i2c 1 (i_un (fun x => (x.toUInt32 % 65536).toInt32)) := by
  intro d M Q pc K hd hKt A st h hx
  unfold i_un at hx
  split at hx
  · obtain ⟨r, h', hq, hRn⟩ := hKt _ _ _ hx
    exact ⟨r, h', hq, hRn.go fun G p l e R s m args below meth c H locs cells slots ls Qp hC hH hL hk => lv_i2c hC.1 hC.2.1 hd rfl (hk ls hL)⟩
  · exact hx.elim
theorem s_tret {ty : FieldType} : ∀ (d : Nat) (M : Mt) (Q : Option Value → Hp → Prop) (pc : Nat), M.2.2.2 = some ty → decode M.2.1 pc = .ok (.ireturn, 1) → ∀ A st h, i_tret ty Q A st h → wp d M Q pc A st h := by
  intro d M Q pc hr hd A st h hw
  unfold i_tret at hw
  split at hw
  · exact ⟨_, h, hw.2, Runs.ret fun G p l e R s m args below meth c H locs cells slots ls hC hq hf => W.zret hC.1 hC.2.1 (hC.2.2.1.trans hr) hw.1 hq hf hd hC.2.2.2.2.2.2.2.1⟩
  · exact hw.elim
theorem qT {d : Nat} {M : Mt} {Q : Option Value → Hp → Prop} {pc : Nat} {L : List (Instr × Nat)} {ty : FieldType} (hr : M.2.2.2 = some ty) (D : dseq M.2.1 pc ((.ireturn, 1) :: L)) : ∀ A st h, i_tret ty Q A st h → wp d M Q pc A st h := s_tret d M Q pc hr D.1
theorem s_ldcS {i k : Nat} (hi : i < 16) (hk : k = sIdx.getD i 0) : sforC RX10 (.ldc k) 2 (i_push (.retAddr i)) := by
  intro d M Q pc K ho hd hKt A st h hx
  obtain ⟨r, h', hq, hRn⟩ := hKt _ _ _ hx
  subst hk
  refine ⟨r, h', hq, hRn.go fun G p l e R s m args below meth c H locs cells slots ls Qp hC hH hL hk => ?_⟩
  have hE := hC.2.2.2.2.2.2.1
  exact va_ldcS (own := RX10) hC.1 hC.2.1 (by rw [← ho]; exact hC.2.2.2.2.1) (hE.2.2.1 i hi) hd (hk ls hL)
def i_callW (n : Nat) (T : Tr) (K : Kt) : Kt := fun A st h => match popn n [] st with
  | some (av, .retAddr i :: st) => i < 16 ∧ sh4 st (T (.retAddr i :: av) h (fun r h' => K A (r.toList ++ st) h'))
  | _ => False
theorem s_callW {own : String} {idx n dc : Nat} {Mc : Mt} {T : Tr} (hT2 : ctr dc Mc T) (hm : mOk Mc n) (hC2 : Mc.1.cls = RJ0) (hw1 : Cond.methodLink own idx Mc.1 ∈ gw) (hw2 : Cond.instanceMethod Mc.1 ∈ gw) (hw3 : Cond.selects RJ0 Mc.1 Mc.1 ∈ gw) : scall own dc (.invokevirtual idx) (i_callW n T) := by
  intro d M Q pc K ho hdc hd hKt A st h hx
  unfold i_callW at hx
  split at hx
  · rename_i av i rest hp
    obtain ⟨hi, hx⟩ := hx
    obtain ⟨hsh, hx⟩ := sh4_of hx
    obtain ⟨rc, h1, hK1, hB⟩ := hT2 _ _ _ hx
    obtain ⟨r, h', hq, hRn⟩ := hKt _ _ _ hK1
    obtain ⟨as, ea, en, est⟩ := popn_spec _ _ _ _ _ hp
    rw [List.append_nil] at ea
    subst ea
    refine ⟨r, h', hq, Runs.call hB.1 hB.2.1 hRn fun G p l e R s m args below meth c H locs cells slots ls hC hH hg hS hls q1 q2 q3 q4 => ⟨#[], ?_⟩⟩
    obtain ⟨hx, hb, hr, hml, hown, hts, hE, hlk, hnm⟩ := hC
    rw [ho] at hown
    exact va_runV (C := RJ0) (b := gS G i) (As := av.map (cz G)) (rest := rest.map (cz G)) (n := n) ⟨hx, hb, hml, hown, hts⟩ (hB.2.2 G l) ⟨callB_of n hts (good_wsM hm.1) rfl rfl rfl (hts _ hm.2.1) (hts _ hw1) hm.2.2.1 (room_ok q1 q2 hdc hm.2.2.2), hts _ hw2, hts _ hw3⟩ ⟨pc_blind, vk_recv hE.2.2.2.1 hi hS, pre_ok (av := .retAddr i :: av) hE hH hg hS⟩ rfl (by rw [List.length_map]; exact en) hls (by rw [est]; simp [cz]) (lv_room (cat_sum G rest hsh)) hd ⟨q3, q4⟩
  · exact hx.elim
theorem ne_J0 : RJ0 ≠ "java/lang/invoke/MethodHandle" ∧ RJ0 ≠ "java/lang/invoke/VarHandle" := by decide +kernel
theorem pn_J0 : plainName RJ0 = true := by decide +kernel
theorem ne_J1 : RJ1 ≠ "java/lang/invoke/MethodHandle" ∧ RJ1 ≠ "java/lang/invoke/VarHandle" := by decide +kernel
theorem pn_J1 : plainName RJ1 = true := by decide +kernel
theorem ne_J3 : RJ3 ≠ "java/lang/invoke/MethodHandle" ∧ RJ3 ≠ "java/lang/invoke/VarHandle" := by decide +kernel
theorem pn_J3 : plainName RJ3 = true := by decide +kernel
def MJ0_coder_7d493 : Mt := (yJ0_coder_7d493, cJ0_coder_7d493, 1, some .byte)
theorem wc_J0_coder_7d493 : Cond.code MJ0_coder_7d493.1 MJ0_coder_7d493.2.1 MJ0_coder_7d493.2.2.1 MJ0_coder_7d493.2.2.2 ∈ gw := ch_2_11_ok.1.1 rfl
theorem mo_J0_coder_7d493 : mOk MJ0_coder_7d493 0 := ⟨wc_J0_coder_7d493, ch_1_0_ok.2.2.2.2.2.2.2.2.2.2.2.2.1.1 rfl, ⟨ne_J0.1, ne_J0.2, by decide +kernel⟩, by decide⟩
def MJ0_isLatin1_aae02 : Mt := (yJ0_isLatin1_aae02, cJ0_isLatin1_aae02, 1, some .boolean)
theorem wc_J0_isLatin1_aae02 : Cond.code MJ0_isLatin1_aae02.1 MJ0_isLatin1_aae02.2.1 MJ0_isLatin1_aae02.2.2.1 MJ0_isLatin1_aae02.2.2.2 ∈ gw := ch_2_11_ok.2.2.2.2.2.2.2.2.2.2.1.1 rfl
theorem mo_J0_isLatin1_aae02 : mOk MJ0_isLatin1_aae02 0 := ⟨wc_J0_isLatin1_aae02, ch_1_0_ok.2.2.2.2.2.2.2.2.2.2.2.2.1.1 rfl, ⟨ne_J0.1, ne_J0.2, by decide +kernel⟩, by decide⟩
def MJ3_checkIndex_8e157 : Mt := (yJ3_checkIndex_8e157, cJ3_checkIndex_8e157, 3, some .int)
theorem wc_J3_checkIndex_8e157 : Cond.code MJ3_checkIndex_8e157.1 MJ3_checkIndex_8e157.2.1 MJ3_checkIndex_8e157.2.2.1 MJ3_checkIndex_8e157.2.2.2 ∈ gw := ch_2_12_ok.2.2.2.2.2.1.1 rfl
theorem mo_J3_checkIndex_8e157 : mOk MJ3_checkIndex_8e157 3 := ⟨wc_J3_checkIndex_8e157, ch_1_0_ok.2.2.2.2.2.2.2.2.2.2.2.2.2.2.1.1 rfl, ⟨ne_J3.1, ne_J3.2, by decide +kernel⟩, by decide⟩
def MJ0_checkIndex_df160 : Mt := (yJ0_checkIndex_df160, cJ0_checkIndex_df160, 2, none)
theorem wc_J0_checkIndex_df160 : Cond.code MJ0_checkIndex_df160.1 MJ0_checkIndex_df160.2.1 MJ0_checkIndex_df160.2.2.1 MJ0_checkIndex_df160.2.2.2 ∈ gw := ch_2_12_ok.1.1 rfl
theorem mo_J0_checkIndex_df160 : mOk MJ0_checkIndex_df160 2 := ⟨wc_J0_checkIndex_df160, ch_1_0_ok.2.2.2.2.2.2.2.2.2.2.2.2.1.1 rfl, ⟨ne_J0.1, ne_J0.2, by decide +kernel⟩, by decide⟩
def MJ1_charAt_3b067 : Mt := (yJ1_charAt_3b067, cJ1_charAt_3b067, 2, some .char)
theorem wc_J1_charAt_3b067 : Cond.code MJ1_charAt_3b067.1 MJ1_charAt_3b067.2.1 MJ1_charAt_3b067.2.2.1 MJ1_charAt_3b067.2.2.2 ∈ gw := ch_2_11_ok.2.2.2.2.2.2.2.2.2.2.2.2.2.1.1 rfl
theorem mo_J1_charAt_3b067 : mOk MJ1_charAt_3b067 2 := ⟨wc_J1_charAt_3b067, ch_1_0_ok.2.2.2.2.2.2.2.2.2.2.2.2.2.1.1 rfl, ⟨ne_J1.1, ne_J1.2, by decide +kernel⟩, by decide⟩
def MJ0_charAt_5068e : Mt := (yJ0_charAt_5068e, cJ0_charAt_5068e, 2, some .char)
theorem wc_J0_charAt_5068e : Cond.code MJ0_charAt_5068e.1 MJ0_charAt_5068e.2.1 MJ0_charAt_5068e.2.2.1 MJ0_charAt_5068e.2.2.2 ∈ gw := ch_2_11_ok.2.2.2.2.2.2.1.1 rfl
theorem mo_J0_charAt_5068e : mOk MJ0_charAt_5068e 1 := ⟨wc_J0_charAt_5068e, ch_1_0_ok.2.2.2.2.2.2.2.2.2.2.2.2.1.1 rfl, ⟨ne_J0.1, ne_J0.2, by decide +kernel⟩, by decide⟩
def MJ0_length_8abf5 : Mt := (yJ0_length_8abf5, cJ0_length_8abf5, 1, some .int)
theorem wc_J0_length_8abf5 : Cond.code MJ0_length_8abf5.1 MJ0_length_8abf5.2.1 MJ0_length_8abf5.2.2.1 MJ0_length_8abf5.2.2.2 ∈ gw := ch_2_10_ok.2.2.2.2.2.2.2.2.2.2.2.2.1.1 rfl
theorem mo_J0_length_8abf5 : mOk MJ0_length_8abf5 0 := ⟨wc_J0_length_8abf5, ch_1_0_ok.2.2.2.2.2.2.2.2.2.2.2.2.1.1 rfl, ⟨ne_J0.1, ne_J0.2, by decide +kernel⟩, by decide⟩
