/-! ===== the reference: isWord (a long argument: walked by hand) ===== -/
def L_X12_isWord : List UInt8 := [42, 180, 0, 189, 5, 160, 0, 16, 42, 180, 0, 185, 31, 148, 154, 0, 7, 4, 167, 0, 4, 3, 172]
theorem Lc_X12_isWord : MX12_isWord.2.1 = ⟨L_X12_isWord.toArray⟩ := rfl
theorem D_X12_isWord_0 : dseq MX12_isWord.2.1 0 [(.aload_n 0, 1), (.getfield 189, 3), (.iconst 2, 1), (.if_icmp .ne 16, 3), (.aload_n 0, 1), (.getfield 185, 3), (.lload_n 1, 1), (.lcmp, 1), (.ifCond .ne 7, 3), (.iconst 1, 1), (.goto 4, 3), (.iconst 0, 1), (.ireturn, 1)] := dq Lc_X12_isWord 0 _ (by decide +kernel)
theorem D_X12_isWord_21 : dseq MX12_isWord.2.1 21 [(.iconst 0, 1), (.ireturn, 1)] := dq Lc_X12_isWord 21 _ (by decide +kernel)
theorem D_X12_isWord_22 : dseq MX12_isWord.2.1 22 [(.ireturn, 1)] := dq Lc_X12_isWord 22 _ (by decide +kernel)
noncomputable def wdV (h : Hp) (w : Int64) : Int32 := cif (hI h 44 40 = 2 ∧ hJ h 44 42 = w) 1 0
def T_X12_isWord : Tr := fun av h Q => match av with
  | [.ref o, .long w] => o = 44 ∧ LayM h ∧ Q (some (.int (wdV h w))) h
  | _ => False
theorem r_isWord_21 (h : Hp) (r : Option Value) (hr : r = some (.int 0)) : Runs 0 MX12_isWord 21 [none, none, none] [] h r h := by
  have := (q1 (d := 0) (M := MX12_isWord) (Q := fun r' h' => r' = some (.int 0) ∧ h' = h) (s_iconst (n := 0) (v := 0) (by decide)) D_X12_isWord_21 fun D => (qZ rfl D)) [none, none, none] [] h ⟨Or.inl rfl, rfl, rfl⟩
  obtain ⟨r', h', ⟨e1, e2⟩, hR⟩ := this
  subst e1 e2 hr; exact hR
theorem r_isWord_17 (h : Hp) (r : Option Value) (hr : r = some (.int 1)) : Runs 0 MX12_isWord 17 [none, none, none] [] h r h := by
  have := (q1 (d := 0) (M := MX12_isWord) (Q := fun r' h' => r' = some (.int 1) ∧ h' = h) (s_iconst (n := 1) (v := 1) (by decide)) D_X12_isWord_0.2.2.2.2.2.2.2.2.2 fun D => (qG 22 (by decide) D (qZ rfl D_X12_isWord_22))) [none, none, none] [] h ⟨Or.inr rfl, rfl, rfl⟩
  obtain ⟨r', h', ⟨e1, e2⟩, hR⟩ := this
  subst e1 e2 hr; exact hR
theorem big_isWord (h : Hp) (hl : LayM h) (w : Int64) : Big 0 MX12_isWord [.ref 44, .long w] h (some (.int (wdV h w))) h := by
  have hkk : hK h 44 = 12 := (lm_k hl).1
  have htt : 44 < hT h := (lm_t hl).1
  refine ⟨Nat.le_refl _, Nat.le_refl _, fun G l => ?_⟩
  refine Met.ofW (cc := MX12_isWord.2.1) (maxL := MX12_isWord.2.2.1) (ret := MX12_isWord.2.2.2) pn_X12 rfl ?_
  intro p e s m args below meth c s₁ B hml hv
  obtain ⟨rfl, hE, hH, hgb⟩ := hv
  have hts := atoms_spec (ws := wsM MX12_isWord) B.pre
  have hown : s.vm.findClass MX12_isWord.1.cls = some m.cls := findClass_of_methodNamed B.named
  have hnm : meth.name = MX12_isWord.1.name := (name_of_methodNamed B.named B.method).1
  rw [lg_entry_eq]
  have hC : Ctx G MX12_isWord p s m ([Value.ref 44, .long w].map (cz G)).toArray meth c := ⟨B.exec, B.bytes, B.returns, hml, hown, fun w hw => hts w (List.mem_cons_of_mem _ hw), hE, B.notSynchronized, hnm⟩
  have hL := lv_entry ([Value.ref 44, .long w].map (cz G)) (n := 3) (by simp [lg_sl, cz, Value.category])
  generalize hls : (lg_sl ([Value.ref 44, .long w].map (cz G)) ++ List.replicate (3 - (lg_sl ([Value.ref 44, .long w].map (cz G))).length) Slot.unset).toArray = ls at hL
  have hls2 : (lg_sl (List.map (cz G) [Value.ref 44, Value.long w]) ++ List.replicate (MX12_isWord.2.2.1 - (lg_sl (List.map (cz G) [Value.ref 44, Value.long w])).length) Slot.unset).toArray = ls := hls
  rw [hls2]
  have h0 : ls[0]? = some (.val (.ref (gB G + 44))) := hL.2.2 (0, .ref (gB G + 44)) (by simp [lv_args, cz])
  have h1 : ls[1]? = some (.val (.long w)) := hL.2.2 (1, .long w) (by simp [lv_args, cz, Value.category])
  have hLR : LR G [none, none, none] MX12_isWord.2.2.1 ls := by
    refine ⟨⟨hL.1, hL.2.1, fun q hq => ?_⟩, rfl, fun i v hv => ?_⟩
    · obtain ⟨v, h1, h2⟩ := prs_mem.mp hq
      exfalso
      rcases hi : q.1 with _ | _ | _ | n <;> rw [hi] at h1 <;> cases h1
    · exfalso
      rcases i with _ | _ | _ | n <;> cases hv
  have D := D_X12_isWord_0
  have he : (plist G h)[44]? = some (gB G + 44, .inr (12, flds G h 44 12)) := by rw [plist_at htt, cellE_obj hkk kX12.2.2.1]
  have fin : ∀ pc st r, r = some (.int (wdV h w)) → Runs 0 MX12_isWord pc [none, none, none] st h r h → W p l e (rmD 0 (hT h - hT h) (hS h - hS h)) s m ([Value.ref 44, .long w].map (cz G)).toArray below meth c s.heap [] 0 0 (MQ below (QC G (some (.int (wdV h w))) h) ([Value.ref 44, .long w].map (cz G)).toArray s (0 + (hT h - hT h)) (0 + (hS h - hS h)) (fun q => gB G ≤ q)) (F0 m pc ls (st.map (cz G))) := by
    intro pc st r hr hR
    subst hr
    exact hR.2.2 G p l e (rmD 0 (hT h - hT h) (hS h - hS h)) s m _ below meth c s.heap [] 0 0 ls hC hH hgb va_S.rf hLR (Nat.le_refl _) (Nat.le_refl _) (by simp [rmD]) (by simp [rmD])
  simp only [Nat.zero_add] at fin
  refine lv_aload_n hC.1 hC.2.1 D.1 rfl h0 ?_
  refine va_get (C := RX12) (T := TX12) (N := 59) (own := RX12) (ref := (TX12 40).1) (index := 189) hC.1 hC.2.1 hC.2.2.2.2.2.1 kX12.2.2.2.1 hown hC.2.2.2.2.2.2.1.1 hH.2 44 he kX12.1 40 (by decide) (hC.2.2.2.2.2.1 _ (ch_5_4_ok.2.2.1.1 rfl)) (fun _ h9 => h9) (flds_at (j := 40) (by rw [kX12.2.1]; decide)) D.2.1 ?_
  refine lv_iconst hC.1 hC.2.1 D.2.2.1 (v := 2) (by decide) ?_
  refine lv_icmp_ne (x := hI h 44 40) hC.1 hC.2.1 D.2.2.2.1 (tgt := 21) (by decide) (fun c1 => ?_) (fun c1 => ?_)
  · exact fin 21 [] _ rfl (r_isWord_21 h _ (by unfold wdV; rw [cif_f (fun z => c1 z.1)]))
  · refine lv_aload_n hC.1 hC.2.1 D.2.2.2.2.1 rfl h0 ?_
    refine va_get (C := RX12) (T := TX12) (N := 59) (own := RX12) (ref := (TX12 42).1) (index := 185) hC.1 hC.2.1 hC.2.2.2.2.2.1 kX12.2.2.2.1 hown hC.2.2.2.2.2.2.1.1 hH.2 44 he kX12.1 42 (by decide) (hC.2.2.2.2.2.1 _ (ch_5_4_ok.2.2.2.2.1.1 rfl)) (fun _ h9 => h9) (flds_at (j := 42) (by rw [kX12.2.1]; decide)) D.2.2.2.2.2.1 ?_
    refine lv_lload_n hC.1 hC.2.1 D.2.2.2.2.2.2.1 rfl h1 ?_
    refine W.lcmp (x := hJ h 44 42) hC.1 hC.2.1 D.2.2.2.2.2.2.2.1 ?_
    refine lv_if_ne hC.1 hC.2.1 D.2.2.2.2.2.2.2.2.1 (tgt := 21) (by decide) (fun c2 => ?_) (fun c2 => ?_)
    · exact fin 21 [] _ rfl (r_isWord_21 h _ (by unfold wdV; rw [cif_f (fun z => c2 ((lg_cmp_eq _ _).mpr z.2))]))
    · exact fin 17 [] _ rfl (r_isWord_17 h _ (by unfold wdV; rw [cif_t ⟨c1, (lg_cmp_eq _ _).mp c2⟩]))
theorem ok_X12_isWord : ctr 0 MX12_isWord T_X12_isWord := by
  intro av h Q hT
  unfold T_X12_isWord at hT
  split at hT
  · obtain ⟨rfl, hl, hq⟩ := hT
    exact ⟨_, _, hq, big_isWord h hl _⟩
  · exact hT.elim
