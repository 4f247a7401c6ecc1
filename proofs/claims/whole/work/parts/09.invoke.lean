/-! ===== the invokes ===== -/
/-- a call of n bytes of operands: an instruction with a contract -/
def scall (own : String) (dc : Nat) (i : Instr) (tr : Kt → Kt) : Prop := ∀ (d : Nat) (M : Mt) (Q : Option Value → Hp → Prop) (pc : Nat) (K : Kt), M.1.cls = own → dc + 1 ≤ d → decode M.2.1 pc = .ok (i, 3) → (∀ A st h, K A st h → wp d M Q (pc + 3) A st h) → ∀ A st h, tr K A st h → wp d M Q pc A st h
theorem room_ok {R : Room} {d dc mL mc ms : Nat} (h1 : d ≤ R.frames) (h2 : 41 * d ≤ R.locals) (hd : dc + 1 ≤ d) (hm : mL ≤ 22) : (rmD dc mc ms).frames + 1 ≤ R.frames ∧ 8 + (mL + 11) + (rmD dc mc ms).locals ≤ R.locals := by
  constructor
  · show dc + 1 ≤ _; omega
  · show 8 + (mL + 11) + 41 * dc ≤ _; omega
theorem pre_ok {G : Gm} {s : State} {H : Heap} {locs : List Loc} {h : Hp} {av : List Value} (hE : EW G s) (hH : HR G h H) (hg : gB G ≤ H.size) (hS : va_S (fun q => gB G ≤ q) s.heap H locs) : ∀ U : State, U.heap = H → s.WarmedH U.vm → va_Pc (av.map (cz G)) (fun U => EW G U ∧ HR G h U.heap ∧ gB G ≤ U.heap.size) (av.map (cz G)).toArray U :=
  fun U hU hW => ⟨rfl, hE.moved hW (hS.F hU), by rw [hU]; exact hH, by rw [hU]; exact hg⟩
theorem s_callS {own : String} {idx n dc : Nat} {Mc : Mt} {T : Tr} (hT2 : ctr dc Mc T) (hm : mOk Mc n) (hw1 : Cond.methodLink own idx Mc.1 ∈ gw) (hw2 : Cond.static Mc.1 ∈ gw) : scall own dc (.invokestatic idx) (i_callS n T) := by
  intro d M Q pc K ho hdc hd hKt A st h hx
  unfold i_callS at hx
  split at hx
  · rename_i av rest hp
    obtain ⟨hsh, hx⟩ := sh4_of hx
    obtain ⟨rc, h1, hK1, hB⟩ := hT2 _ _ _ hx
    obtain ⟨r, h', hq, hRn⟩ := hKt _ _ _ hK1
    obtain ⟨as, ea, en, est⟩ := popn_spec _ _ _ _ _ hp
    rw [List.append_nil] at ea
    subst ea
    refine ⟨r, h', hq, Runs.call hB.1 hB.2.1 hRn fun G p l e R s m args below meth c H locs cells slots ls hC hH hg hS hls q1 q2 q3 q4 => ⟨#[], ?_⟩⟩
    obtain ⟨hx, hb, hr, hml, hown, hts, hE, hlk, hnm⟩ := hC
    rw [ho] at hown
    exact va_runS (As := av.map (cz G)) (rest := rest.map (cz G)) (n := n) ⟨hx, hb, hml, hown, hts⟩ (hB.2.2 G l) ⟨callB_of n hts (good_wsM hm.1) rfl rfl rfl (hts _ hm.2.1) (hts _ hw1) hm.2.2.1 (room_ok q1 q2 hdc hm.2.2.2), hts _ hw2⟩ ⟨pc_blind, pre_ok hE hH hg hS⟩ rfl (by rw [List.length_map]; exact en) hls (by rw [est]; simp) (lv_room (cat_sum G rest hsh)) hd ⟨q3, q4⟩
  · exact hx.elim
theorem s_callSN {own : String} {idx n dc : Nat} {Mc : Mt} {T : Tr} (hT2 : ctr dc Mc T) (hm : mOk Mc n) (hw1 : Cond.methodLinkNest own idx Mc.1 "NightShelter" ∈ nstW) (hw2 : Cond.static Mc.1 ∈ gw) : scall own dc (.invokestatic idx) (i_callS n T) := by
  intro d M Q pc K ho hdc hd hKt A st h hx
  unfold i_callS at hx
  split at hx
  · rename_i av rest hp
    obtain ⟨hsh, hx⟩ := sh4_of hx
    obtain ⟨rc, h1, hK1, hB⟩ := hT2 _ _ _ hx
    obtain ⟨r, h', hq, hRn⟩ := hKt _ _ _ hK1
    obtain ⟨as, ea, en, est⟩ := popn_spec _ _ _ _ _ hp
    rw [List.append_nil] at ea
    subst ea
    refine ⟨r, h', hq, Runs.call hB.1 hB.2.1 hRn fun G p l e R s m args below meth c H locs cells slots ls hC hH hg hS hls q1 q2 q3 q4 => ⟨#[], ?_⟩⟩
    obtain ⟨hx, hb, hr, hml, hown, hts, hE, hlk, hnm⟩ := hC
    rw [ho] at hown
    exact va_runSN (As := av.map (cz G)) (rest := rest.map (cz G)) (n := n) ⟨hx, hb, hml, hown, hts⟩ (hB.2.2 G l) ⟨va_cnB n hts (good_wsM hm.1) rfl rfl rfl (hE.2.1 _ hw1) (hts _ hm.2.1) hm.2.2.1 (room_ok q1 q2 hdc hm.2.2.2), hts _ hw2, trivial⟩ ⟨pc_blind, pre_ok hE hH hg hS⟩ rfl (by rw [List.length_map]; exact en) hls (by rw [est]; simp) (lv_room (cat_sum G rest hsh)) hd ⟨q3, q4⟩
  · exact hx.elim
theorem s_callV {own : String} {idx n dc k N : Nat} {Mc : Mt} {T : Tr} {C : String} {U : u_T} (hk : clsOk k C U N) (hC2 : Mc.1.cls = C) (hT2 : ctr dc Mc T) (hm : mOk Mc n) (hw1 : Cond.methodLink own idx Mc.1 ∈ gw) (hw2 : Cond.instanceMethod Mc.1 ∈ gw) (hw3 : Cond.selects C Mc.1 Mc.1 ∈ gw) : scall own dc (.invokevirtual idx) (i_callV k n T) := by
  intro d M Q pc K ho hdc hd hKt A st h hx
  unfold i_callV at hx
  split at hx
  · rename_i av a rest hp
    obtain ⟨ha, hka, hx⟩ := hx
    obtain ⟨hsh, hx⟩ := sh4_of hx
    obtain ⟨rc, h1, hK1, hB⟩ := hT2 _ _ _ hx
    obtain ⟨r, h', hq, hRn⟩ := hKt _ _ _ hK1
    obtain ⟨as, ea, en, est⟩ := popn_spec _ _ _ _ _ hp
    rw [List.append_nil] at ea
    subst ea
    refine ⟨r, h', hq, Runs.call hB.1 hB.2.1 hRn fun G p l e R s m args below meth c H locs cells slots ls hC hH hg hS hls q1 q2 q3 q4 => ⟨#[], ?_⟩⟩
    obtain ⟨hx, hb, hr, hml, hown, hts, hE, hlk, hnm⟩ := hC
    rw [ho] at hown
    have he : (plist G h)[a]? = some (gB G + a, .inr (k, flds G h a k)) := by rw [plist_at ha, cellE_obj hka hk.2.2.1]
    exact va_runV (C := C) (b := gB G + a) (As := av.map (cz G)) (rest := rest.map (cz G)) (n := n) ⟨hx, hb, hml, hown, hts⟩ (hB.2.2 G l) ⟨callB_of n hts (good_wsM hm.1) rfl rfl rfl (hts _ hm.2.1) (hts _ hw1) hm.2.2.1 (room_ok q1 q2 hdc hm.2.2.2), hts _ hw2, hts _ hw3⟩ ⟨pc_blind, va_recv hE.1 hH.2 hk.1 he, pre_ok (av := .ref a :: av) hE hH hg hS⟩ rfl (by rw [List.length_map]; exact en) hls (by rw [est]; simp [cz]) (lv_room (cat_sum G rest hsh)) hd ⟨q3, q4⟩
  · exact hx.elim
theorem s_callI {own : String} {idx n dc : Nat} {Mc : Mt} {T : Tr} (hT2 : ctr dc Mc T) (hm : mOk Mc n) (hr0 : Mc.2.2.2 = none) (hn0 : Mc.1.name = "<init>") (hw1 : Cond.methodLink own idx Mc.1 ∈ gw) (hw2 : Cond.instanceMethod Mc.1 ∈ gw) : scall own dc (.invokespecial idx) (i_callI n T) := by
  intro d M Q pc K ho hdc hd hKt A st h hx
  unfold i_callI at hx
  split at hx
  · rename_i av a rest hp
    obtain ⟨hsh, hx⟩ := sh4_of hx
    obtain ⟨rc, h1, hK1, hB⟩ := hT2 _ _ _ hx
    obtain ⟨r, h', hq, hRn⟩ := hKt _ _ _ hK1
    obtain ⟨as, ea, en, est⟩ := popn_spec _ _ _ _ _ hp
    rw [List.append_nil] at ea
    subst ea
    refine ⟨r, h', hq, Runs.call hB.1 hB.2.1 hRn fun G p l e R s m args below meth c H locs cells slots ls hC hH hg hS hls q1 q2 q3 q4 => ⟨#[], ?_⟩⟩
    obtain ⟨hx, hb, hr, hml, hown, hts, hE, hlk, hnm⟩ := hC
    rw [ho] at hown
    exact va_runI (b := gB G + a) (As := av.map (cz G)) (rest := rest.map (cz G)) (n := n) ⟨hx, hb, hml, hown, hts⟩ (hB.2.2 G l) ⟨callB_of n hts (good_wsM hm.1) (by rw [← hr0]; rfl) rfl rfl (hts _ hm.2.1) (hts _ hw1) hm.2.2.1 (room_ok q1 q2 hdc hm.2.2.2), hn0, hts _ hw2⟩ ⟨pc_blind, pre_ok (av := .ref a :: av) hE hH hg hS⟩ rfl (by rw [List.length_map]; exact en) hls (by rw [est]; simp [cz]) (lv_room (cat_sum G rest hsh)) hd ⟨q3, q4⟩
  · exact hx.elim
theorem s_callIN {own : String} {idx n dc : Nat} {Mc : Mt} {T : Tr} (hT2 : ctr dc Mc T) (hm : mOk Mc n) (hr0 : Mc.2.2.2 = none) (hn0 : Mc.1.name = "<init>") (hw1 : Cond.methodLinkNest own idx Mc.1 "NightShelter" ∈ nstW) (hw2 : Cond.instanceMethod Mc.1 ∈ gw) : scall own dc (.invokespecial idx) (i_callI n T) := by
  intro d M Q pc K ho hdc hd hKt A st h hx
  unfold i_callI at hx
  split at hx
  · rename_i av a rest hp
    obtain ⟨hsh, hx⟩ := sh4_of hx
    obtain ⟨rc, h1, hK1, hB⟩ := hT2 _ _ _ hx
    obtain ⟨r, h', hq, hRn⟩ := hKt _ _ _ hK1
    obtain ⟨as, ea, en, est⟩ := popn_spec _ _ _ _ _ hp
    rw [List.append_nil] at ea
    subst ea
    refine ⟨r, h', hq, Runs.call hB.1 hB.2.1 hRn fun G p l e R s m args below meth c H locs cells slots ls hC hH hg hS hls q1 q2 q3 q4 => ⟨#[], ?_⟩⟩
    obtain ⟨hx, hb, hr, hml, hown, hts, hE, hlk, hnm⟩ := hC
    rw [ho] at hown
    exact va_runIN (b := gB G + a) (As := av.map (cz G)) (rest := rest.map (cz G)) (n := n) ⟨hx, hb, hml, hown, hts⟩ (hB.2.2 G l) ⟨va_cnB n hts (good_wsM hm.1) (by rw [← hr0]; rfl) rfl rfl (hE.2.1 _ hw1) (hts _ hm.2.1) hm.2.2.1 (room_ok q1 q2 hdc hm.2.2.2), hn0, hts _ hw2⟩ ⟨pc_blind, pre_ok (av := .ref a :: av) hE hH hg hS⟩ rfl (by rw [List.length_map]; exact en) hls (by rw [est]; simp [cz]) (lv_room (cat_sum G rest hsh)) hd ⟨q3, q4⟩
  · exact hx.elim
/-- a method's contract out of its body -/
theorem ctr_of {d : Nat} {M : Mt} {T : Tr} (hy : plainName M.1.cls = true) (hcode : Cond.code M.1 M.2.1 M.2.2.1 M.2.2.2 ∈ gw) (hT2 : ∀ av h Q, T av h Q → ((∀ v ∈ av, v.category = 1) ∧ av.length ≤ M.2.2.1) ∧ wp d M Q 0 (ent M.2.2.1 av) [] h) : ctr d M T := by
  intro av h Q hx
  obtain ⟨⟨hc, hn⟩, r, h', hq, hR⟩ := hT2 av h Q hx
  exact ⟨r, h', hq, Big.of hy (List.mem_filter.mp hcode).1 hc hn hR⟩
