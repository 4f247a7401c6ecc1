/-! ===== the class: placeRest ===== -/
def smP (f g : Mem) : Prop := ∀ a j, a ≠ 39 → a ≠ 41 → a ≠ 42 → a ≠ 43 → f a j = g a j
theorem smP.rf (f : Mem) : smP f f := fun _ _ _ _ _ _ => rfl
theorem smP.tr {f g k : Mem} (h : smP f g) (h2 : smP g k) : smP f k := fun a j a1 a2 a3 a4 => (h a j a1 a2 a3 a4).trans (h2 a j a1 a2 a3 a4)
theorem smP.r {f g : Mem} (h : smP f g) (a : Nat) (ha : a ≠ 39 ∧ a ≠ 41 ∧ a ≠ 42 ∧ a ≠ 43) : f a = g a := funext fun j => h a j ha.1 ha.2.1 ha.2.2.1 ha.2.2.2
theorem smP.put (f : Mem) (i r : Nat) : smP (putM f i r) f := fun a j a1 a2 a3 a4 => putM_o f i r ⟨a1, a2, a3, a4⟩ j
theorem smP.out (f : Mem) (i r : Nat) : smP (outM f i r) f := fun a j a1 a2 a3 a4 => outM_o f i r ⟨a1, a2, a4⟩ j
theorem alk_sm {f g : Mem} (h : smP f g) (i j : Nat) : alk f i j ↔ alk g i j := by
  unfold alk
  rw [h.r 35 (by decide), h.r 36 (by decide), h.r 37 (by decide), h.r 38 (by decide)]
def sol (f : Mem) (R n : Nat) (sz cp : Nat → Nat) (wh : Nat → Option Nat) (w : Nat → Nat) : Prop := VF f R n sz cp w ∧ MF f n w ∧ EX n wh w
theorem VF_sm {f g : Mem} (h : smP f g) {R n : Nat} {sz cp : Nat → Nat} {w : Nat → Nat} : VF f R n sz cp w ↔ VF g R n sz cp w := by
  unfold VF
  rw [h.r 34 (by decide), h.r 36 (by decide), h.r 37 (by decide), h.r 38 (by decide)]
theorem MF_sm {f g : Mem} (h : smP f g) {n : Nat} {w : Nat → Nat} : MF f n w ↔ MF g n w := by
  unfold MF
  simp only [alk_sm h, h.r 40 (by decide)]
theorem sol_sm {f g : Mem} (h : smP f g) {R n : Nat} {sz cp : Nat → Nat} {wh : Nat → Option Nat} {w : Nat → Nat} : sol f R n sz cp wh w ↔ sol g R n sz cp wh w := by
  unfold sol
  rw [VF_sm h, MF_sm h]
def MPt (f : Mem) (n : Nat) (wh : Nat → Option Nat) : Prop := ∀ i j, i < j → j < n → f 40 i = 0 → f 40 j = 0 → alk f i j → ∀ a b, wh i = some a → wh j = some b → a ≤ b
theorem MPt_sm {f g : Mem} (h : smP f g) {n : Nat} {wh : Nat → Option Nat} : MPt f n wh ↔ MPt g n wh := by
  unfold MPt
  simp only [alk_sm h, h.r 40 (by decide)]
def uN (wh : Nat → Option Nat) (n : Nat) : Nat := fb_sm (fun i => if wh i = none then 1 else 0) n
theorem uN_put {wh : Nat → Option Nat} {n i : Nat} (hi : i < n) (hw : wh i = none) (r : Nat) : uN (updO wh i (some r)) n + 1 = uN wh n := by
  have h := fb_sm_upd (fun k => if wh k = none then 1 else 0) 0 hi
  rw [if_pos hw] at h
  have e : uN (updO wh i (some r)) n = fb_sm (fun k => if k = i then 0 else (if wh k = none then 1 else 0)) n := by
    refine fb_sm_cong (fun k _ => ?_)
    unfold updO
    by_cases e : k = i
    · rw [if_pos e, if_pos e, if_neg (by simp)]
    · rw [if_neg e, if_neg e]
  rw [e]
  unfold uN
  omega
theorem uN_0 {wh : Nat → Option Nat} {n : Nat} (h : uN wh n = 0) : ∀ i, i < n → wh i ≠ none := fun i hi z => by
  have := fb_sm_zero h i hi
  rw [if_pos z] at this; cases this
/-- all stand in rooms: that is a placing -/
theorem full_sol {f : Mem} {R n : Nat} {sz cp : Nat → Nat} {wh : Nat → Option Nat} (hd : PD f R n sz cp wh) (hm : MPt f n wh) (ha : ∀ i, i < n → wh i ≠ none) : ∃ w : Nat → Nat, (∀ i, i < n → wh i = some (w i)) ∧ sol f R n sz cp wh w := by
  have hw : ∀ i, i < n → wh i = some ((wh i).getD 0) := fun i hi => by
    cases h : wh i with
    | none => exact absurd h (ha i hi)
    | some a => rfl
  refine ⟨fun i => (wh i).getD 0, hw, ⟨fun i hi => ?_, fun i j hi hj hij e => ?_, fun r hr => ?_⟩, fun i j hij hj s1 s2 hal => ?_, fun i hi r hr => by simp only [hr]; rfl⟩
  · obtain ⟨a, b, _⟩ := (hd.1 i hi).2 _ (hw i hi)
    exact ⟨a, b⟩
  · have h1 := hw i hi
    have h2 := hw j hj
    simp only at e
    rw [← e] at h2
    refine ⟨?_, hd.2.2.2 i j hi hj hij _ h1 h2⟩
    rw [← ((hd.1 i hi).2 _ h1).2.2, ((hd.1 j hj).2 _ h2).2.2]
  · have : fb_sm (fun i => if (wh i).getD 0 = r then sz i else 0) n = usd wh sz n r := by
      refine fb_sm_cong (fun i hi => ?_)
      have h1 := hw i hi
      generalize (wh i).getD 0 = a at h1
      rw [h1]
      by_cases e : a = r
      · rw [if_pos e, if_pos (by rw [e])]
      · rw [if_neg e, if_neg (fun z => e (Option.some.inj z))]
    rw [this]
    exact (hd.2.1 r hr).1
  · exact hm i j hij hj s1 s2 hal _ _ (hw i (by omega)) (hw j hj)
theorem opS_sm {f g : Mem} {R n : Nat} {sz cp : Nat → Nat} {wh : Nat → Option Nat} (hs : PS g R n sz cp) (h : smP f g) (hf : PD f R n sz cp wh) (hg : PD g R n sz cp wh) {i r : Nat} (hr : r < R) (ho : opS g i r) : opS f i r := by
  have e40 : f 41 r = g 41 r := b_ext fun x _ => by
    have h1 := hf.2.2.1 r hr x
    have h2 := hg.2.2.1 r hr x
    rw [h.r 34 (by decide)] at h1
    have h3 := h1.trans h2.symm
    cases ha : bt (f 41 r) x with
    | true => exact (h3.mp ha).symm
    | false =>
      cases hb : bt (g 41 r) x with
      | false => rfl
      | true => rw [h3.mpr hb] at ha; cases ha
  obtain ⟨o1, o2, o3, o4⟩ := ho
  refine ⟨?_, ?_, ?_, ?_⟩
  · rw [h.r 38 (by decide)]; exact o1
  · rw [h.r 35 (by decide), (hf.2.1 r hr).2, ← (hg.2.1 r hr).2]; exact o2
  · rw [h.r 37 (by decide), e40]; exact o3
  · rw [h.r 36 (by decide), e40]
    rcases Classical.em (g 41 r = 0) with c | c
    · exact Or.inl c
    · right
      have : ∃ x, bt (g 41 r) x = true := Classical.not_not.mp (fun z => c (b_ext fun x _ => by
        rw [b_0]
        cases hb : bt (g 41 r) x with
        | false => rfl
        | true => exact absurd ⟨x, hb⟩ z))
      obtain ⟨x, hx⟩ := this
      obtain ⟨k, hk, hwk, _⟩ := (hg.2.2.1 r hr x).mp hx
      have e1 := ((hf.1 k hk).2 r hwk).2.2
      have e2 := ((hg.1 k hk).2 r hwk).2.2
      rw [h.r 36 (by decide)] at e1
      rw [e1, ← e2]
      rcases o4 with q | q
      · exact absurd q c
      · exact q
def TPl (u : Nat) : Tr := fun av h Q => match av with
  | [.ref o, .int d] => o = 33 ∧ LayX h ∧ hR h 33 0 = some 3 ∧ ∃ R n sz cp wh d', d = nI d' ∧ PS (hI h) R n sz cp ∧ PD (hI h) R n sz cp wh ∧ MPt (hI h) n wh ∧ (∀ i, i < n → wh i = none → hI h 40 i = 0) ∧ uN wh n ≤ u ∧ d' + uN wh n ≤ 10 ∧ (∀ f w, smP f (hI h) → PD f R n sz cp (fun i => some (w i)) → sol (hI h) R n sz cp wh w → Q (some (.int 1)) (wI h f)) ∧ ((¬ ∃ w, sol (hI h) R n sz cp wh w) → ∀ f, smP f (hI h) → PD f R n sz cp wh → Q (some (.int 0)) (wI h f))
  | _ => False
def L_X4_placeRest : List UInt8 := [42, 182, 0, 145, 61, 28, 2, 160, 0, 5, 4, 172, 27, 16, 10, 162, 0, 10, 42, 182, 0, 149, 153, 0, 5, 3, 172, 42, 28, 182, 0, 134, 62, 3, 54, 4, 21, 4, 42, 180, 0, 43, 180, 0, 55, 180, 0, 61, 162, 0, 42, 29, 21, 4, 184, 0, 90, 153, 0, 27, 42, 28, 21, 4, 182, 0, 137, 42, 27, 4, 96, 182, 0, 124, 153, 0, 5, 4, 172, 42, 28, 182, 0, 141, 132, 4, 1, 167, 255, 205, 3, 172]
theorem Lc_X4_placeRest : MX4_placeRest.2.1 = ⟨L_X4_placeRest.toArray⟩ := rfl
theorem D_X4_placeRest_0 : dseq MX4_placeRest.2.1 0 [(.aload_n 0, 1), (.invokevirtual 145, 3), (.istore_n 2, 1), (.iload_n 2, 1), (.iconst (-1), 1), (.if_icmp .ne 5, 3), (.iconst 1, 1), (.ireturn, 1)] := dq Lc_X4_placeRest 0 _ (by decide +kernel)
theorem D_X4_placeRest_12 : dseq MX4_placeRest.2.1 12 [(.iload_n 1, 1), (.bipush 10, 2), (.if_icmp .ge 10, 3), (.aload_n 0, 1), (.invokevirtual 149, 3), (.ifCond .eq 5, 3), (.iconst 0, 1), (.ireturn, 1)] := dq Lc_X4_placeRest 12 _ (by decide +kernel)
theorem D_X4_placeRest_25 : dseq MX4_placeRest.2.1 25 [(.iconst 0, 1), (.ireturn, 1)] := dq Lc_X4_placeRest 25 _ (by decide +kernel)
theorem D_X4_placeRest_27 : dseq MX4_placeRest.2.1 27 [(.aload_n 0, 1), (.iload_n 2, 1), (.invokevirtual 134, 3), (.istore_n 3, 1), (.iconst 0, 1), (.istore 4, 2)] := dq Lc_X4_placeRest 27 _ (by decide +kernel)
theorem D_X4_placeRest_36 : dseq MX4_placeRest.2.1 36 [(.iload 4, 2), (.aload_n 0, 1), (.getfield 43, 3), (.getfield 55, 3), (.getfield 61, 3), (.if_icmp .ge 42, 3), (.iload_n 3, 1), (.iload 4, 2), (.invokestatic 90, 3), (.ifCond .eq 27, 3), (.aload_n 0, 1), (.iload_n 2, 1), (.iload 4, 2), (.invokevirtual 137, 3), (.aload_n 0, 1), (.iload_n 1, 1), (.iconst 1, 1), (.iadd, 1), (.invokevirtual 124, 3), (.ifCond .eq 5, 3), (.iconst 1, 1), (.ireturn, 1)] := dq Lc_X4_placeRest 36 _ (by decide +kernel)
theorem D_X4_placeRest_90 : dseq MX4_placeRest.2.1 90 [(.iconst 0, 1), (.ireturn, 1)] := dq Lc_X4_placeRest 90 _ (by decide +kernel)
theorem D_X4_placeRest_79 : dseq MX4_placeRest.2.1 79 [(.aload_n 0, 1), (.iload_n 2, 1), (.invokevirtual 141, 3)] := dq Lc_X4_placeRest 79 _ (by decide +kernel)
theorem D_X4_placeRest_84 : dseq MX4_placeRest.2.1 84 [(.iinc 4 1, 3), (.goto (-51), 3)] := dq Lc_X4_placeRest 84 _ (by decide +kernel)
def c_X4_placeRest_32 (d : Nat) (dr : Nat) (Trec : Tr) (hd : 3 ≤ d) (hdr : dr + 1 ≤ d) (hrec : ctr dr MX4_placeRest Trec) (Q : Option Value → Hp → Prop) : Kt := i_ist 3 (i_push (.int 0) (i_ist 4 (i_keep [true, true, true, true, true] (wp d MX4_placeRest Q 36))))
def c_X4_placeRest_22 (d : Nat) (dr : Nat) (Trec : Tr) (hd : 3 ≤ d) (hdr : dr + 1 ≤ d) (hrec : ctr dr MX4_placeRest Trec) (Q : Option Value → Hp → Prop) : Kt := i_if (fun x => x = 0) (i_ald 0 (i_ild 2 (i_callV 4 1 T_X4_openRooms (c_X4_placeRest_32 d dr Trec hd hdr hrec Q)))) (i_push (.int 0) (i_zret Q))
def c_X4_placeRest_4 (d : Nat) (dr : Nat) (Trec : Tr) (hd : 3 ≤ d) (hdr : dr + 1 ≤ d) (hrec : ctr dr MX4_placeRest Trec) (Q : Option Value → Hp → Prop) : Kt := i_ist 2 (i_ild 2 (i_push (.int (-1)) (i_cmp (fun x y => x = y) (i_push (.int 1) (i_zret Q)) (i_ild 1 (i_push (.int 10) (i_cmp (fun x y => y ≤ x) (i_push (.int 0) (i_zret Q)) (i_ald 0 (i_callV 4 0 T_X4_isCrowded (c_X4_placeRest_22 d dr Trec hd hdr hrec Q)))))))))
def c_X4_placeRest_84 (d : Nat) (dr : Nat) (Trec : Tr) (hd : 3 ≤ d) (hdr : dr + 1 ≤ d) (hrec : ctr dr MX4_placeRest Trec) (Q : Option Value → Hp → Prop) : Kt := i_keep [true, true, true, true, true] (wp d MX4_placeRest Q 84)
def c_X4_placeRest_74 (d : Nat) (dr : Nat) (Trec : Tr) (hd : 3 ≤ d) (hdr : dr + 1 ≤ d) (hrec : ctr dr MX4_placeRest Trec) (Q : Option Value → Hp → Prop) : Kt := i_if (fun x => x = 0) (i_ald 0 (i_ild 2 (i_callV 4 1 T_X4_takeOut (c_X4_placeRest_84 d dr Trec hd hdr hrec Q)))) (i_push (.int 1) (i_zret Q))
def c_X4_placeRest_67 (d : Nat) (dr : Nat) (Trec : Tr) (hd : 3 ≤ d) (hdr : dr + 1 ≤ d) (hrec : ctr dr MX4_placeRest Trec) (Q : Option Value → Hp → Prop) : Kt := i_ald 0 (i_ild 1 (i_push (.int 1) (i_bin (fun x y => x + y) (i_callV 4 1 Trec (c_X4_placeRest_74 d dr Trec hd hdr hrec Q)))))
def b_X4_placeRest_0 (d : Nat) (dr : Nat) (Trec : Tr) (hd : 3 ≤ d) (hdr : dr + 1 ≤ d) (hrec : ctr dr MX4_placeRest Trec) (Q : Option Value → Hp → Prop) : Kt := i_ald 0 (i_callV 4 0 T_X4_tightest (c_X4_placeRest_4 d dr Trec hd hdr hrec Q))
set_option maxRecDepth 100000 in
theorem s_X4_placeRest_0 (d : Nat) (dr : Nat) (Trec : Tr) (hd : 3 ≤ d) (hdr : dr + 1 ≤ d) (hrec : ctr dr MX4_placeRest Trec) (Q : Option Value → Hp → Prop) : ∀ A st h, b_X4_placeRest_0 d dr Trec hd hdr hrec Q A st h → wp d MX4_placeRest Q 0 A st h := (q1 (s_aldn (n := 0) (i := 0) rfl) D_X4_placeRest_0 fun D => (qX (s_callV kX4 rfl ok_X4_tightest mo_X4_tightest (ch_4_4_ok.2.2.2.2.2.2.2.2.2.2.1.1 rfl) (ch_4_4_ok.2.2.2.2.2.2.2.2.2.2.2.2.1.1 rfl) (pv_1.2.2.2.2.2.2.2.2.2.1)) rfl (by omega) D fun D => (qL (s_istn (n := 2) (i := 2) rfl) (by decide) D fun D => (q1 (s_ildn (n := 2) (i := 2) rfl) D fun D => (q1 (s_iconst (n := (-1)) (v := (-1)) (by decide)) D fun D => (qBn s_cmpne2 12 (by decide) D (q1 (s_ildn (n := 1) (i := 1) rfl) D_X4_placeRest_12 fun D => (q1 (s_bipush (n := 10) (v := 10) (by decide)) D fun D => (qB s_cmpge 25 (by decide) D (q1 (s_iconst (n := 0) (v := 0) (by decide)) D_X4_placeRest_25 fun D => (qZ rfl D)) fun D => (q1 (s_aldn (n := 0) (i := 0) rfl) D fun D => (qX (s_callV kX4 rfl ok_X4_isCrowded mo_X4_isCrowded (ch_4_6_ok.2.2.2.2.1.1 rfl) (ch_4_6_ok.2.2.2.2.2.2.1.1 rfl) (pv_1.2.2.2.2.2.2.2.2.2.2.2.2.2.2.1)) rfl (by omega) D fun D => (qB s_ifeq 27 (by decide) D (q1 (s_aldn (n := 0) (i := 0) rfl) D_X4_placeRest_27 fun D => (q1 (s_ildn (n := 2) (i := 2) rfl) D fun D => (qX (s_callV kX4 rfl ok_X4_openRooms mo_X4_openRooms (ch_4_4_ok.2.2.2.2.2.2.2.2.2.2.2.2.2.2.1.1 rfl) (ch_4_5_ok.1.1 rfl) (pv_1.2.2.2.2.2.2.2.2.2.2.1)) rfl (by omega) D fun D => (qL (s_istn (n := 3) (i := 3) rfl) (by decide) D fun D => (q1 (s_iconst (n := 0) (v := 0) (by decide)) D fun D => (qL s_ist (by decide) D fun D => (s_keep [true, true, true, true, true] fun _ _ _ h => h))))))) fun D => (q1 (s_iconst (n := 0) (v := 0) (by decide)) D fun D => (qZ rfl D)))))))) fun D => (q1 (s_iconst (n := 1) (v := 1) (by decide)) D fun D => (qZ rfl D))))))))
def b_X4_placeRest_36 (d : Nat) (dr : Nat) (Trec : Tr) (hd : 3 ≤ d) (hdr : dr + 1 ≤ d) (hrec : ctr dr MX4_placeRest Trec) (Q : Option Value → Hp → Prop) : Kt := i_ild 4 (i_ald 0 (i_getR 4 0 (i_getR 8 0 (i_getI 6 0 (i_cmp (fun x y => y ≤ x) (i_push (.int 0) (i_zret Q)) (i_ild 3 (i_ild 4 (i_callS 2 T_X11_isIn (i_if (fun x => x = 0) (i_keep [true, true, true, true, true] (wp d MX4_placeRest Q 84)) (i_ald 0 (i_ild 2 (i_ild 4 (i_callV 4 2 T_X4_put (c_X4_placeRest_67 d dr Trec hd hdr hrec Q))))))))))))))
set_option maxRecDepth 100000 in
theorem s_X4_placeRest_36 (d : Nat) (dr : Nat) (Trec : Tr) (hd : 3 ≤ d) (hdr : dr + 1 ≤ d) (hrec : ctr dr MX4_placeRest Trec) (Q : Option Value → Hp → Prop) : ∀ A st h, b_X4_placeRest_36 d dr Trec hd hdr hrec Q A st h → wp d MX4_placeRest Q 36 A st h := (q1 s_ild D_X4_placeRest_36 fun D => (q1 (s_aldn (n := 0) (i := 0) rfl) D fun D => (qC fl_X4_43 rfl D fun D => (qC fl_X4_55 rfl D fun D => (qC fl_X4_61 rfl D fun D => (qB s_cmpge 90 (by decide) D (q1 (s_iconst (n := 0) (v := 0) (by decide)) D_X4_placeRest_90 fun D => (qZ rfl D)) fun D => (q1 (s_ildn (n := 3) (i := 3) rfl) D fun D => (q1 s_ild D fun D => (qX (s_callSN ok_X11_isIn mo_X11_isIn (ch_4_3_ok.2.2.1.2 rfl) (ch_3_7_ok.2.2.2.2.1.1 rfl)) rfl (by omega) D fun D => (qB s_ifeq 84 (by decide) D (s_keep [true, true, true, true, true] fun _ _ _ h => h) fun D => (q1 (s_aldn (n := 0) (i := 0) rfl) D fun D => (q1 (s_ildn (n := 2) (i := 2) rfl) D fun D => (q1 s_ild D fun D => (qX (s_callV kX4 rfl ok_X4_put mo_X4_put (ch_4_6_ok.2.2.2.2.2.2.2.2.2.2.2.2.1.1 rfl) (ch_4_6_ok.2.2.2.2.2.2.2.2.2.2.2.2.2.2.1.1 rfl) (pv_2.1)) rfl (by omega) D fun D => (q1 (s_aldn (n := 0) (i := 0) rfl) D fun D => (q1 (s_ildn (n := 1) (i := 1) rfl) D fun D => (q1 (s_iconst (n := 1) (v := 1) (by decide)) D fun D => (q1 s_add D fun D => (qX (s_callV kX4 rfl hrec mo_X4_placeRest (ch_4_4_ok.2.2.2.2.2.2.1.1 rfl) (ch_4_4_ok.2.2.2.2.2.2.2.2.1.1 rfl) (pv_1.2.2.2.2.2.2.2.2.1)) rfl (by omega) D fun D => (qB s_ifeq 79 (by decide) D (q1 (s_aldn (n := 0) (i := 0) rfl) D_X4_placeRest_79 fun D => (q1 (s_ildn (n := 2) (i := 2) rfl) D fun D => (qX (s_callV kX4 rfl ok_X4_takeOut mo_X4_takeOut (ch_4_7_ok.1.1 rfl) (ch_4_7_ok.2.2.1.1 rfl) (pv_2.2.1)) rfl (by omega) D fun D => (s_keep [true, true, true, true, true] fun _ _ _ h => h)))) fun D => (q1 (s_iconst (n := 1) (v := 1) (by decide)) D fun D => (qZ rfl D))))))))))))))))))))))
def b_X4_placeRest_84 (d : Nat) (dr : Nat) (Trec : Tr) (hd : 3 ≤ d) (hdr : dr + 1 ≤ d) (hrec : ctr dr MX4_placeRest Trec) (Q : Option Value → Hp → Prop) : Kt := i_inc 4 1 (i_keep [true, true, true, true, true] (wp d MX4_placeRest Q 36))
set_option maxRecDepth 100000 in
theorem s_X4_placeRest_84 (d : Nat) (dr : Nat) (Trec : Tr) (hd : 3 ≤ d) (hdr : dr + 1 ≤ d) (hrec : ctr dr MX4_placeRest Trec) (Q : Option Value → Hp → Prop) : ∀ A st h, b_X4_placeRest_84 d dr Trec hd hdr hrec Q A st h → wp d MX4_placeRest Q 84 A st h := (qL (s_inc (i := 4) (n := 1) (v := 1) (by decide)) (by decide) D_X4_placeRest_84 fun D => (qG 36 (by decide) D (s_keep [true, true, true, true, true] fun _ _ _ h => h)))

theorem PD_c {f : Mem} {R n : Nat} {sz cp : Nat → Nat} {wh wh2 : Nat → Option Nat} (h : ∀ i, i < n → wh i = wh2 i) (hd : PD f R n sz cp wh) : PD f R n sz cp wh2 := by
  have hu : ∀ r, usd wh2 sz n r = usd wh sz n r := fun r => fb_sm_cong (fun i hi => by rw [h i hi])
  refine ⟨fun i hi => ?_, fun r hr => ?_, fun r hr x => ?_, fun i j hi hj hij r h1 h2 => ?_⟩
  · rw [← h i hi]; exact hd.1 i hi
  · rw [hu]; exact hd.2.1 r hr
  · rw [hd.2.2.1 r hr x]
    exact ⟨fun ⟨i, a, b, c⟩ => ⟨i, a, by rw [← h i a]; exact b, c⟩, fun ⟨i, a, b, c⟩ => ⟨i, a, by rw [h i a]; exact b, c⟩⟩
  · rw [← h i hi] at h1
    rw [← h j hj] at h2
    exact hd.2.2.2 i j hi hj hij r h1 h2
theorem whOk_of {f : Mem} {R n : Nat} {sz cp : Nat → Nat} {wh : Nat → Option Nat} (hd : PD f R n sz cp wh) : whOk f R n := fun o ho => by
  rw [(hd.1 o ho).1]
  cases h : wh o with
  | none => exact Or.inl rfl
  | some r => exact Or.inr ⟨r, ((hd.1 o ho).2 r h).1, rfl⟩
set_option maxRecDepth 100000 in
set_option maxHeartbeats 400000 in
theorem rest_36 (d dr u : Nat) (hd3 : 3 ≤ d) (hdr : dr + 1 ≤ d) (hrec : ctr dr MX4_placeRest (TPl u)) (Q : Option Value → Hp → Prop) (h : Hp) (hl : LayX h) (hst : hR h 33 0 = some 3) (R n : Nat) (sz cp : Nat → Nat) (wh : Nat → Option Nat) (dd i : Nat) (hs : PS (hI h) R n sz cp) (hd : PD (hI h) R n sz cp wh) (hm : MPt (hI h) n wh) (hun : ∀ i, i < n → wh i = none → hI h 40 i = 0) (hu : uN wh n ≤ u + 1) (hdd : dd + uN wh n ≤ 10) (hi : i < n) (hwi : wh i = none) (X : Int32) (hX : ∀ r, bt X r = true ↔ opn (hI h) R n i r)
    (hq1 : ∀ f w, smP f (hI h) → PD f R n sz cp (fun i => some (w i)) → sol (hI h) R n sz cp wh w → Q (some (.int 1)) (wI h f)) (hq0 : (¬ ∃ w, sol (hI h) R n sz cp wh w) → ∀ f, smP f (hI h) → PD f R n sz cp wh → Q (some (.int 0)) (wI h f)) :
    ∀ (m r : Nat) (f : Mem), m = R - r → r ≤ R → smP f (hI h) → PD f R n sz cp wh → (∀ w, sol (hI h) R n sz cp wh w → ¬ w i < r) → wp d MX4_placeRest Q 36 [some (.ref 33), some (.int (nI dd)), some (.int (nI i)), some (.int X), some (.int (nI r))] [] (wI h f) := by
  have hn10 := hs.2.1
  intro m
  induction m with
  | zero =>
    intro r f hm2 hr hsm hdf hlo
    have e : r = R := by omega
    subst e
    have hfin := hq0 (fun ⟨w, hw⟩ => hlo w hw (hw.1.1 i hi).1) f hsm hdf
    have hl2 : LayX (wI h f) := hl
    have hst2 : hR (wI h f) 33 0 = some 3 := hst
    have h12 : hI (wI h f) 12 0 = nI r := (hsm 12 0 (by decide) (by decide) (by decide) (by decide)).trans hs.2.2.1
    refine s_X4_placeRest_36 d dr (TPl u) hd3 hdr hrec Q _ _ _ ?_
    generalize wI h f = H at hl2 hst2 h12 hfin ⊢
    have hl := hl2
    simp only [b_X4_placeRest_36, lx_pI, lx_wI, lx_t hl, lx_k hl, lx_r hl, lx_l hl, i_push, i_ild, i_ald, i_ist, i_ast, i_inc, i_bin, i_un, i_divs, i_i2l, i_lshl, i_lor, i_dup, i_dup2, i_pop, i_if, i_cmp, i_nul, i_vret, i_iret, i_zret, i_aret, i_keep, keep, lget, lset, ent, i_getI, i_getJ, i_getR, i_getN, i_putI, i_putZ, i_putJ, i_putR, i_iald, i_bald, i_alen, i_aald, i_iast, i_bast, i_aast, i_new, i_newa, i_anew, i_oini, i_callS, i_callV, i_callI, popn, sh4, i_sw, swP, i_copy, i_binS, List.map, Option.toList_none, Option.toList_some, List.append, List.nil_append, List.cons_append, List.length_cons, List.length_nil, List.replicate, Nat.sub_self, Nat.reduceSub, Nat.reduceAdd, hK_pI, hL_pI, hI_pI, hR_pI, hJ_pI, hT_pI, hS_pI, hK_pR, hL_pR, hI_pR, hR_pR, hJ_pR, hT_pR, hS_pR, hK_pJ, hL_pJ, hI_pJ, hR_pJ, hJ_pJ, hT_pJ, hS_pJ, hK_wI, hL_wI, hI_wI, hR_wI, hJ_wI, hT_wI, hS_wI, eq_self, and_true, true_and, and_false, false_and, or_true, true_or, or_false, false_or, if_true, if_false, not_true_eq_false, not_false_eq_true, forall_const, implies_true, false_implies, true_implies, Option.some.injEq, forall_eq', exists_eq_left', reduceCtorEq, Nat.reduceEqDiff, c1, T_X12_in, T_X12_ones, T_X11_within, T_X11_bit, T_X11_isIn, T_X11_oneIfIn, T_J6_bitCount_0f7a4, hst2, h12]
    exact ⟨fun _ => hfin, fun z => absurd (nI_le (Nat.le_refl _) (by have := hs.1; omega)) z⟩
  | succ m ih =>
    intro r f hm2 hr hsm hdf hlo
    have hR4 := hs.1
    have hl2 : LayX (wI h f) := hl
    have hst2 : hR (wI h f) 33 0 = some 3 := hst
    have h12 : hI (wI h f) 12 0 = nI R := (hsm 12 0 (by decide) (by decide) (by decide) (by decide)).trans hs.2.2.1
    have h84 : ∀ f', smP f' (hI h) → PD f' R n sz cp wh → (∀ w, sol (hI h) R n sz cp wh w → ¬ w i = r) → wp d MX4_placeRest Q 84 [some (.ref 33), some (.int (nI dd)), some (.int (nI i)), some (.int X), some (.int (nI r))] [] (wI h f') := by
      intro f' hsm' hdf' hne
      have := ih (r + 1) f' (by omega) (by omega) hsm' hdf' (fun w hw z => by
        have h1 := hlo w hw
        have h2 := hne w hw
        omega)
      refine s_X4_placeRest_84 d dr (TPl u) hd3 hdr hrec Q _ _ _ ?_
      generalize wI h f' = H at this ⊢
      simp only [b_X4_placeRest_84, i_push, i_ild, i_ald, i_ist, i_ast, i_inc, i_bin, i_un, i_divs, i_i2l, i_lshl, i_lor, i_dup, i_dup2, i_pop, i_if, i_cmp, i_nul, i_vret, i_iret, i_zret, i_aret, i_keep, keep, lget, lset, ent, i_getI, i_getJ, i_getR, i_getN, i_putI, i_putZ, i_putJ, i_putR, i_iald, i_bald, i_alen, i_aald, i_iast, i_bast, i_aast, i_new, i_newa, i_anew, i_oini, i_callS, i_callV, i_callI, popn, sh4, i_sw, swP, i_copy, i_binS, List.map, Option.toList_none, Option.toList_some, List.append, List.nil_append, List.cons_append, List.length_cons, List.length_nil, List.replicate, Nat.sub_self, Nat.reduceSub, Nat.reduceAdd, hK_pI, hL_pI, hI_pI, hR_pI, hJ_pI, hT_pI, hS_pI, hK_pR, hL_pR, hI_pR, hR_pR, hJ_pR, hT_pR, hS_pR, hK_pJ, hL_pJ, hI_pJ, hR_pJ, hJ_pJ, hT_pJ, hS_pJ, hK_wI, hL_wI, hI_wI, hR_wI, hJ_wI, hT_wI, hS_wI, eq_self, and_true, true_and, and_false, false_and, or_true, true_or, or_false, false_or, if_true, if_false, not_true_eq_false, not_false_eq_true, forall_const, implies_true, false_implies, true_implies, Option.some.injEq, forall_eq', exists_eq_left', reduceCtorEq, Nat.reduceEqDiff, c1, T_X12_in, T_X12_ones, T_X11_within, T_X11_bit, T_X11_isIn, T_X11_oneIfIn, T_J6_bitCount_0f7a4, nI_1]
      exact this
    have hskip : bt X r = false → wp d MX4_placeRest Q 84 [some (.ref 33), some (.int (nI dd)), some (.int (nI i)), some (.int X), some (.int (nI r))] [] (wI h f) := fun hb => h84 f hsm hdf (fun w hw z => by
      have h1 := sol_open hs hd hw.1 hw.2.1 hw.2.2 hi (hun i hi hwi) hwi
      rw [z] at h1
      rw [(hX r).mpr h1] at hb; cases hb)
    have hgo : bt X r = true → T_X4_put [.ref 33, .int (nI i), .int (nI r)] (wI h f) (fun x h' => c_X4_placeRest_67 d dr (TPl u) hd3 hdr hrec Q [some (.ref 33), some (.int (nI dd)), some (.int (nI i)), some (.int X), some (.int (nI r))] (x.toList ++ []) h') := by
      intro hb
      obtain ⟨hrR, hcn, hop⟩ := (hX r).mp hb
      have hopf : opS f i r := opS_sm hs hsm hdf hd hrR hop
      have hsf : PS f R n sz cp := hs.c hsm
      have hdp := PD.put hsf hdf hi hwi hrR hopf
      have hsmp : smP (putM f i r) (hI h) := (smP.put f i r).tr hsm
      have hsp : PS (putM f i r) R n sz cp := hs.c hsmp
      have hun2 : ∀ k, k ≠ i → updO wh i (some r) k = wh k := fun k hk => if_neg hk
      have hui : updO wh i (some r) i = some r := if_pos rfl
      have hmp : MPt (putM f i r) n (updO wh i (some r)) := by
        rw [MPt_sm hsmp]
        intro a b hab hb s1 s2 hal x y hx hy
        by_cases ea : a = i
        · subst ea
          rw [hui] at hx; cases hx
          rw [hun2 b (by omega)] at hy
          have e38 := (hd.1 b hb).1
          rw [hy] at e38
          have hyR := ((hd.1 b hb).2 y hy).1
          have := (hcn b hb ⟨by rw [e38]; exact nI_m1 y (by omega), s2, hal⟩).2 (by omega)
          rw [e38] at this
          exact (nI_leI (by omega) (by omega)).mp this
        · rw [hun2 a ea] at hx
          by_cases eb : b = i
          · subst eb
            rw [hui] at hy; cases hy
            have e38 := (hd.1 a (by omega)).1
            rw [hx] at e38
            have hxR := ((hd.1 a (by omega)).2 x hx).1
            have := (hcn a (by omega) ⟨by rw [e38]; exact nI_m1 x (by omega), s1, hal.1.symm, hal.2.1.symm, hal.2.2.1.symm, hal.2.2.2.symm⟩).1 hab
            rw [e38] at this
            exact (nI_leI (by omega) (by omega)).mp this
          · rw [hun2 b eb] at hy
            exact hm a b hab hb s1 s2 hal x y hx hy
      have huN := uN_put hi hwi r
      have hex : ∀ w, EX n (updO wh i (some r)) w ↔ EX n wh w ∧ w i = r := fun w => by
        constructor
        · intro z
          refine ⟨fun k hk q hq => ?_, z i hi r hui⟩
          have : k ≠ i := fun y => by rw [y, hwi] at hq; cases hq
          exact z k hk q (by rw [hun2 k this]; exact hq)
        · rintro ⟨z, y⟩ k hk q hq
          by_cases e : k = i
          · subst e; rw [hui] at hq; cases hq; exact y
          · rw [hun2 k e] at hq; exact z k hk q hq
      refine put_ok hl2 (by omega) (by omega) ?_
      show c_X4_placeRest_67 d dr (TPl u) hd3 hdr hrec Q _ [] (wI h (putM f i r))
      have hc : TPl u [.ref 33, .int (nI (dd + 1))] (wI h (putM f i r)) (fun x h' => c_X4_placeRest_74 d dr (TPl u) hd3 hdr hrec Q [some (.ref 33), some (.int (nI dd)), some (.int (nI i)), some (.int X), some (.int (nI r))] (x.toList ++ []) h') := by
        refine ⟨rfl, hl, hst, R, n, sz, cp, updO wh i (some r), dd + 1, rfl, hsp, hdp, hmp, fun k hk hwk => ?_, by omega, by omega, fun f2 w h1 h2 h3 => ?_, fun hno f2 h1 h2 => ?_⟩
        · have : k ≠ i := fun y => by rw [y, hui] at hwk; cases hwk
          rw [hun2 k this] at hwk
          show putM f i r 40 k = 0
          rw [hsmp 40 k (by decide) (by decide) (by decide) (by decide)]
          exact hun k hk hwk
        · show c_X4_placeRest_74 d dr (TPl u) hd3 hdr hrec Q _ [.int 1] (wI h f2)
          have h3' : sol (putM f i r) R n sz cp (updO wh i (some r)) w := h3
          rw [sol_sm hsmp] at h3'
          have := hq1 f2 w (smP.tr h1 hsmp) h2 ⟨h3'.1, h3'.2.1, ((hex w).mp h3'.2.2).1⟩
          generalize wI h f2 = H at this ⊢
          simp only [c_X4_placeRest_74, i_push, i_ild, i_ald, i_ist, i_ast, i_inc, i_bin, i_un, i_divs, i_i2l, i_lshl, i_lor, i_dup, i_dup2, i_pop, i_if, i_cmp, i_nul, i_vret, i_iret, i_zret, i_aret, i_keep, keep, lget, lset, ent, i_getI, i_getJ, i_getR, i_getN, i_putI, i_putZ, i_putJ, i_putR, i_iald, i_bald, i_alen, i_aald, i_iast, i_bast, i_aast, i_new, i_newa, i_anew, i_oini, i_callS, i_callV, i_callI, popn, sh4, i_sw, swP, i_copy, i_binS, List.map, Option.toList_none, Option.toList_some, List.append, List.nil_append, List.cons_append, List.length_cons, List.length_nil, List.replicate, Nat.sub_self, Nat.reduceSub, Nat.reduceAdd, hK_pI, hL_pI, hI_pI, hR_pI, hJ_pI, hT_pI, hS_pI, hK_pR, hL_pR, hI_pR, hR_pR, hJ_pR, hT_pR, hS_pR, hK_pJ, hL_pJ, hI_pJ, hR_pJ, hJ_pJ, hT_pJ, hS_pJ, hK_wI, hL_wI, hI_wI, hR_wI, hJ_wI, hT_wI, hS_wI, eq_self, and_true, true_and, and_false, false_and, or_true, true_or, or_false, false_or, if_true, if_false, not_true_eq_false, not_false_eq_true, forall_const, implies_true, false_implies, true_implies, Option.some.injEq, forall_eq', exists_eq_left', reduceCtorEq, Nat.reduceEqDiff, c1, T_X12_in, T_X12_ones, T_X11_within, T_X11_bit, T_X11_isIn, T_X11_oneIfIn, T_J6_bitCount_0f7a4, show ¬ (1 : Int32) = 0 by decide]
          exact this
        · show c_X4_placeRest_74 d dr (TPl u) hd3 hdr hrec Q _ [.int 0] (wI h f2)
          have hsm2 : smP f2 (hI h) := smP.tr h1 hsmp
          have hs2 : PS f2 R n sz cp := hs.c hsm2
          have ho := PD.out hs2 h2 hi hui
          have ho' : PD (outM f2 i r) R n sz cp wh := PD_c (fun k hk => by
            unfold updO
            by_cases e : k = i
            · rw [if_pos e, e, hwi]
            · rw [if_neg e, if_neg e]) ho
          have h84' := h84 (outM f2 i r) ((smP.out f2 i r).tr hsm2) ho' (fun w hw z => hno ⟨w, by
            show sol (putM f i r) R n sz cp (updO wh i (some r)) w
            rw [sol_sm hsmp]
            exact ⟨hw.1, hw.2.1, (hex w).mpr ⟨hw.2.2, z⟩⟩⟩)
          have hl3 : LayX (wI h f2) := hl
          have e38 : hI (wI h f2) 39 i = nI r := by
            have := (h2.1 i hi).1
            rw [hui] at this; exact this
          have hto : T_X4_takeOut [.ref 33, .int (nI i)] (wI h f2) (fun x h' => wp d MX4_placeRest Q 84 [some (.ref 33), some (.int (nI dd)), some (.int (nI i)), some (.int X), some (.int (nI r))] (x.toList ++ []) h') := out_ok hl3 (by omega) (by omega) e38 h84'
          generalize wI h f2 = H at hl3 hto ⊢
          have hl := hl3
          simp only [c_X4_placeRest_74, lx_pI, lx_wI, lx_t hl, lx_k hl, lx_r hl, lx_l hl, i_push, i_ild, i_ald, i_ist, i_ast, i_inc, i_bin, i_un, i_divs, i_i2l, i_lshl, i_lor, i_dup, i_dup2, i_pop, i_if, i_cmp, i_nul, i_vret, i_iret, i_zret, i_aret, i_keep, keep, lget, lset, ent, i_getI, i_getJ, i_getR, i_getN, i_putI, i_putZ, i_putJ, i_putR, i_iald, i_bald, i_alen, i_aald, i_iast, i_bast, i_aast, i_new, i_newa, i_anew, i_oini, i_callS, i_callV, i_callI, popn, sh4, i_sw, swP, i_copy, i_binS, List.map, Option.toList_none, Option.toList_some, List.append, List.nil_append, List.cons_append, List.length_cons, List.length_nil, List.replicate, Nat.sub_self, Nat.reduceSub, Nat.reduceAdd, hK_pI, hL_pI, hI_pI, hR_pI, hJ_pI, hT_pI, hS_pI, hK_pR, hL_pR, hI_pR, hR_pR, hJ_pR, hT_pR, hS_pR, hK_pJ, hL_pJ, hI_pJ, hR_pJ, hJ_pJ, hT_pJ, hS_pJ, hK_wI, hL_wI, hI_wI, hR_wI, hJ_wI, hT_wI, hS_wI, eq_self, and_true, true_and, and_false, false_and, or_true, true_or, or_false, false_or, if_true, if_false, not_true_eq_false, not_false_eq_true, forall_const, implies_true, false_implies, true_implies, Option.some.injEq, forall_eq', exists_eq_left', reduceCtorEq, Nat.reduceEqDiff, c1, T_X12_in, T_X12_ones, T_X11_within, T_X11_bit, T_X11_isIn, T_X11_oneIfIn, T_J6_bitCount_0f7a4]
          exact hto
      have hl3 : LayX (wI h (putM f i r)) := hl
      generalize wI h (putM f i r) = H at hl3 hc ⊢
      have hl := hl3
      simp only [c_X4_placeRest_67, lx_pI, lx_wI, lx_t hl, lx_k hl, lx_r hl, lx_l hl, i_push, i_ild, i_ald, i_ist, i_ast, i_inc, i_bin, i_un, i_divs, i_i2l, i_lshl, i_lor, i_dup, i_dup2, i_pop, i_if, i_cmp, i_nul, i_vret, i_iret, i_zret, i_aret, i_keep, keep, lget, lset, ent, i_getI, i_getJ, i_getR, i_getN, i_putI, i_putZ, i_putJ, i_putR, i_iald, i_bald, i_alen, i_aald, i_iast, i_bast, i_aast, i_new, i_newa, i_anew, i_oini, i_callS, i_callV, i_callI, popn, sh4, i_sw, swP, i_copy, i_binS, List.map, Option.toList_none, Option.toList_some, List.append, List.nil_append, List.cons_append, List.length_cons, List.length_nil, List.replicate, Nat.sub_self, Nat.reduceSub, Nat.reduceAdd, hK_pI, hL_pI, hI_pI, hR_pI, hJ_pI, hT_pI, hS_pI, hK_pR, hL_pR, hI_pR, hR_pR, hJ_pR, hT_pR, hS_pR, hK_pJ, hL_pJ, hI_pJ, hR_pJ, hJ_pJ, hT_pJ, hS_pJ, hK_wI, hL_wI, hI_wI, hR_wI, hJ_wI, hT_wI, hS_wI, eq_self, and_true, true_and, and_false, false_and, or_true, true_or, or_false, false_or, if_true, if_false, not_true_eq_false, not_false_eq_true, forall_const, implies_true, false_implies, true_implies, Option.some.injEq, forall_eq', exists_eq_left', reduceCtorEq, Nat.reduceEqDiff, c1, T_X12_in, T_X12_ones, T_X11_within, T_X11_bit, T_X11_isIn, T_X11_oneIfIn, T_J6_bitCount_0f7a4, nI_1]
      exact hc
    refine s_X4_placeRest_36 d dr (TPl u) hd3 hdr hrec Q _ _ _ ?_
    generalize wI h f = H at hl2 hst2 h12 hskip hgo ⊢
    have hl := hl2
    simp only [b_X4_placeRest_36, lx_pI, lx_wI, lx_t hl, lx_k hl, lx_r hl, lx_l hl, i_push, i_ild, i_ald, i_ist, i_ast, i_inc, i_bin, i_un, i_divs, i_i2l, i_lshl, i_lor, i_dup, i_dup2, i_pop, i_if, i_cmp, i_nul, i_vret, i_iret, i_zret, i_aret, i_keep, keep, lget, lset, ent, i_getI, i_getJ, i_getR, i_getN, i_putI, i_putZ, i_putJ, i_putR, i_iald, i_bald, i_alen, i_aald, i_iast, i_bast, i_aast, i_new, i_newa, i_anew, i_oini, i_callS, i_callV, i_callI, popn, sh4, i_sw, swP, i_copy, i_binS, List.map, Option.toList_none, Option.toList_some, List.append, List.nil_append, List.cons_append, List.length_cons, List.length_nil, List.replicate, Nat.sub_self, Nat.reduceSub, Nat.reduceAdd, hK_pI, hL_pI, hI_pI, hR_pI, hJ_pI, hT_pI, hS_pI, hK_pR, hL_pR, hI_pR, hR_pR, hJ_pR, hT_pR, hS_pR, hK_pJ, hL_pJ, hI_pJ, hR_pJ, hJ_pJ, hT_pJ, hS_pJ, hK_wI, hL_wI, hI_wI, hR_wI, hJ_wI, hT_wI, hS_wI, eq_self, and_true, true_and, and_false, false_and, or_true, true_or, or_false, false_or, if_true, if_false, not_true_eq_false, not_false_eq_true, forall_const, implies_true, false_implies, true_implies, Option.some.injEq, forall_eq', exists_eq_left', reduceCtorEq, Nat.reduceEqDiff, c1, T_X12_in, T_X12_ones, T_X11_within, T_X11_bit, T_X11_isIn, T_X11_oneIfIn, T_J6_bitCount_0f7a4, hst2, h12, sh_bt X (show r < 32 by omega), b2i_0, Classical.not_not]
    exact ⟨fun z => absurd z (nI_ge (by omega) (by omega)), fun _ => ⟨hskip, fun z => hgo (by simpa using z)⟩⟩
theorem rest_body (d dr u : Nat) (hd3 : 3 ≤ d) (hdr : dr + 1 ≤ d) (hrec : ctr dr MX4_placeRest (TPl u)) : ctr d MX4_placeRest (TPl (u + 1)) := by
  refine ctr_of pn_X4 wc_X4_placeRest (fun av h Q hT => ?_)
  unfold TPl at hT
  split at hT
  · rename_i o dp
    obtain ⟨rfl, hl, hst, R, n, sz, cp, wh, dd, rfl, hs, hd, hm, hun, hu, hdd, hq1, hq0⟩ := hT
    refine ⟨⟨by simp [Value.category], Nat.le_of_ble_eq_true rfl⟩, s_X4_placeRest_0 d dr (TPl u) hd3 hdr hrec Q _ _ _ ?_⟩
    have hR4 := hs.1
    have hn10 := hs.2.1
    have hoN : ∀ i, i < n → (hI h 39 i = -1 ↔ wh i = none) := fun i hi => by
      rw [(hd.1 i hi).1]
      exact oB_none (fun b hb => by have := ((hd.1 i hi).2 b hb).1; omega)
    have hti : T_X4_tightest [.ref 33] h (fun x h' => c_X4_placeRest_4 d dr (TPl u) hd3 hdr hrec Q [some (.ref 33), some (.int (nI dd)), none, none, none] (x.toList ++ []) h') := by
      refine ⟨rfl, hl, hst, R, n, hR4, hn10, hs.2.2.1, hs.2.2.2.1, whOk_of hd, fun hall => ?_, fun i hi hwi' => ?_⟩
      · obtain ⟨w, hw, hsol⟩ := full_sol hd hm (fun i hi z => hall i hi ((hoN i hi).mpr z))
        have := hq1 (hI h) w (smP.rf _) (PD_c hw hd) hsol
        show c_X4_placeRest_4 d dr (TPl u) hd3 hdr hrec Q _ [.int (-1)] h
        have e : wI h (hI h) = h := rfl
        rw [e] at this
        simp only [c_X4_placeRest_4, i_push, i_ild, i_ald, i_ist, i_ast, i_inc, i_bin, i_un, i_divs, i_i2l, i_lshl, i_lor, i_dup, i_dup2, i_pop, i_if, i_cmp, i_nul, i_vret, i_iret, i_zret, i_aret, i_keep, keep, lget, lset, ent, i_getI, i_getJ, i_getR, i_getN, i_putI, i_putZ, i_putJ, i_putR, i_iald, i_bald, i_alen, i_aald, i_iast, i_bast, i_aast, i_new, i_newa, i_anew, i_oini, i_callS, i_callV, i_callI, popn, sh4, i_sw, swP, i_copy, i_binS, List.map, Option.toList_none, Option.toList_some, List.append, List.nil_append, List.cons_append, List.length_cons, List.length_nil, List.replicate, Nat.sub_self, Nat.reduceSub, Nat.reduceAdd, hK_pI, hL_pI, hI_pI, hR_pI, hJ_pI, hT_pI, hS_pI, hK_pR, hL_pR, hI_pR, hR_pR, hJ_pR, hT_pR, hS_pR, hK_pJ, hL_pJ, hI_pJ, hR_pJ, hJ_pJ, hT_pJ, hS_pJ, hK_wI, hL_wI, hI_wI, hR_wI, hJ_wI, hT_wI, hS_wI, eq_self, and_true, true_and, and_false, false_and, or_true, true_or, or_false, false_or, if_true, if_false, not_true_eq_false, not_false_eq_true, forall_const, implies_true, false_implies, true_implies, Option.some.injEq, forall_eq', exists_eq_left', reduceCtorEq, Nat.reduceEqDiff, c1, T_X12_in, T_X12_ones, T_X11_within, T_X11_bit, T_X11_isIn, T_X11_oneIfIn, T_J6_bitCount_0f7a4]
        exact this
      · have hwi := (hoN i hi).mp hwi'
        have hup : 0 < uN wh n := Nat.pos_of_ne_zero (fun z => uN_0 z i hi hwi)
        have hd10 : ¬ (10 : Int32) ≤ nI dd := nI_ge (b := 10) (by omega) (by decide)
        have him : ¬ nI i = -1 := nI_m1 i (by omega)
        have hcr : T_X4_isCrowded [.ref 33] h (fun x h' => c_X4_placeRest_22 d dr (TPl u) hd3 hdr hrec Q [some (.ref 33), some (.int (nI dd)), some (.int (nI i)), none, none] (x.toList ++ []) h') := by
          refine ⟨rfl, hl, hst, R, n, sz, cp, wh, hs, hd, fun c => ?_, fun c => ?_⟩
          · have := hq0 (fun ⟨w, hw⟩ => absurd (crowd hd hw.1 hw.2.2 (fun i hi hwi => (sol_open hs hd hw.1 hw.2.1 hw.2.2 hi (hun i hi hwi) hwi).2.2)) (Nat.not_le_of_lt c)) (hI h) (smP.rf _) hd
            show c_X4_placeRest_22 d dr (TPl u) hd3 hdr hrec Q _ [.int 1] h
            have e : wI h (hI h) = h := rfl
            rw [e] at this
            simp only [c_X4_placeRest_22, i_push, i_ild, i_ald, i_ist, i_ast, i_inc, i_bin, i_un, i_divs, i_i2l, i_lshl, i_lor, i_dup, i_dup2, i_pop, i_if, i_cmp, i_nul, i_vret, i_iret, i_zret, i_aret, i_keep, keep, lget, lset, ent, i_getI, i_getJ, i_getR, i_getN, i_putI, i_putZ, i_putJ, i_putR, i_iald, i_bald, i_alen, i_aald, i_iast, i_bast, i_aast, i_new, i_newa, i_anew, i_oini, i_callS, i_callV, i_callI, popn, sh4, i_sw, swP, i_copy, i_binS, List.map, Option.toList_none, Option.toList_some, List.append, List.nil_append, List.cons_append, List.length_cons, List.length_nil, List.replicate, Nat.sub_self, Nat.reduceSub, Nat.reduceAdd, hK_pI, hL_pI, hI_pI, hR_pI, hJ_pI, hT_pI, hS_pI, hK_pR, hL_pR, hI_pR, hR_pR, hJ_pR, hT_pR, hS_pR, hK_pJ, hL_pJ, hI_pJ, hR_pJ, hJ_pJ, hT_pJ, hS_pJ, hK_wI, hL_wI, hI_wI, hR_wI, hJ_wI, hT_wI, hS_wI, eq_self, and_true, true_and, and_false, false_and, or_true, true_or, or_false, false_or, if_true, if_false, not_true_eq_false, not_false_eq_true, forall_const, implies_true, false_implies, true_implies, Option.some.injEq, forall_eq', exists_eq_left', reduceCtorEq, Nat.reduceEqDiff, c1, T_X12_in, T_X12_ones, T_X11_within, T_X11_bit, T_X11_isIn, T_X11_oneIfIn, T_J6_bitCount_0f7a4, show ¬ (1 : Int32) = 0 by decide]
            exact this
          · have hor : T_X4_openRooms [.ref 33, .int (nI i)] h (fun x h' => c_X4_placeRest_32 d dr (TPl u) hd3 hdr hrec Q [some (.ref 33), some (.int (nI dd)), some (.int (nI i)), none, none] (x.toList ++ []) h') := by
              refine ⟨rfl, hl, hst, R, n, i, hR4, hn10, hs.2.2.1, hs.2.2.2.1, rfl, by omega, whOk_of hd, fun X hX => ?_⟩
              have := rest_36 d dr u hd3 hdr hrec Q h hl hst R n sz cp wh dd i hs hd hm hun hu hdd hi hwi X hX hq1 hq0 R 0 (hI h) (by omega) (by omega) (smP.rf _) hd (fun w _ z => absurd z (Nat.not_lt_zero _))
              show c_X4_placeRest_32 d dr (TPl u) hd3 hdr hrec Q _ [.int X] h
              have e : wI h (hI h) = h := rfl
              rw [e] at this
              simp only [c_X4_placeRest_32, i_push, i_ild, i_ald, i_ist, i_ast, i_inc, i_bin, i_un, i_divs, i_i2l, i_lshl, i_lor, i_dup, i_dup2, i_pop, i_if, i_cmp, i_nul, i_vret, i_iret, i_zret, i_aret, i_keep, keep, lget, lset, ent, i_getI, i_getJ, i_getR, i_getN, i_putI, i_putZ, i_putJ, i_putR, i_iald, i_bald, i_alen, i_aald, i_iast, i_bast, i_aast, i_new, i_newa, i_anew, i_oini, i_callS, i_callV, i_callI, popn, sh4, i_sw, swP, i_copy, i_binS, List.map, Option.toList_none, Option.toList_some, List.append, List.nil_append, List.cons_append, List.length_cons, List.length_nil, List.replicate, Nat.sub_self, Nat.reduceSub, Nat.reduceAdd, hK_pI, hL_pI, hI_pI, hR_pI, hJ_pI, hT_pI, hS_pI, hK_pR, hL_pR, hI_pR, hR_pR, hJ_pR, hT_pR, hS_pR, hK_pJ, hL_pJ, hI_pJ, hR_pJ, hJ_pJ, hT_pJ, hS_pJ, hK_wI, hL_wI, hI_wI, hR_wI, hJ_wI, hT_wI, hS_wI, eq_self, and_true, true_and, and_false, false_and, or_true, true_or, or_false, false_or, if_true, if_false, not_true_eq_false, not_false_eq_true, forall_const, implies_true, false_implies, true_implies, Option.some.injEq, forall_eq', exists_eq_left', reduceCtorEq, Nat.reduceEqDiff, c1, T_X12_in, T_X12_ones, T_X11_within, T_X11_bit, T_X11_isIn, T_X11_oneIfIn, T_J6_bitCount_0f7a4]
              exact this
            show c_X4_placeRest_22 d dr (TPl u) hd3 hdr hrec Q _ [.int 0] h
            simp only [c_X4_placeRest_22, lx_pI, lx_wI, lx_t hl, lx_k hl, lx_r hl, lx_l hl, i_push, i_ild, i_ald, i_ist, i_ast, i_inc, i_bin, i_un, i_divs, i_i2l, i_lshl, i_lor, i_dup, i_dup2, i_pop, i_if, i_cmp, i_nul, i_vret, i_iret, i_zret, i_aret, i_keep, keep, lget, lset, ent, i_getI, i_getJ, i_getR, i_getN, i_putI, i_putZ, i_putJ, i_putR, i_iald, i_bald, i_alen, i_aald, i_iast, i_bast, i_aast, i_new, i_newa, i_anew, i_oini, i_callS, i_callV, i_callI, popn, sh4, i_sw, swP, i_copy, i_binS, List.map, Option.toList_none, Option.toList_some, List.append, List.nil_append, List.cons_append, List.length_cons, List.length_nil, List.replicate, Nat.sub_self, Nat.reduceSub, Nat.reduceAdd, hK_pI, hL_pI, hI_pI, hR_pI, hJ_pI, hT_pI, hS_pI, hK_pR, hL_pR, hI_pR, hR_pR, hJ_pR, hT_pR, hS_pR, hK_pJ, hL_pJ, hI_pJ, hR_pJ, hJ_pJ, hT_pJ, hS_pJ, hK_wI, hL_wI, hI_wI, hR_wI, hJ_wI, hT_wI, hS_wI, eq_self, and_true, true_and, and_false, false_and, or_true, true_or, or_false, false_or, if_true, if_false, not_true_eq_false, not_false_eq_true, forall_const, implies_true, false_implies, true_implies, Option.some.injEq, forall_eq', exists_eq_left', reduceCtorEq, Nat.reduceEqDiff, c1, T_X12_in, T_X12_ones, T_X11_within, T_X11_bit, T_X11_isIn, T_X11_oneIfIn, T_J6_bitCount_0f7a4]
            exact hor
        show c_X4_placeRest_4 d dr (TPl u) hd3 hdr hrec Q _ [.int (nI i)] h
        simp only [c_X4_placeRest_4, lx_pI, lx_wI, lx_t hl, lx_k hl, lx_r hl, lx_l hl, i_push, i_ild, i_ald, i_ist, i_ast, i_inc, i_bin, i_un, i_divs, i_i2l, i_lshl, i_lor, i_dup, i_dup2, i_pop, i_if, i_cmp, i_nul, i_vret, i_iret, i_zret, i_aret, i_keep, keep, lget, lset, ent, i_getI, i_getJ, i_getR, i_getN, i_putI, i_putZ, i_putJ, i_putR, i_iald, i_bald, i_alen, i_aald, i_iast, i_bast, i_aast, i_new, i_newa, i_anew, i_oini, i_callS, i_callV, i_callI, popn, sh4, i_sw, swP, i_copy, i_binS, List.map, Option.toList_none, Option.toList_some, List.append, List.nil_append, List.cons_append, List.length_cons, List.length_nil, List.replicate, Nat.sub_self, Nat.reduceSub, Nat.reduceAdd, hK_pI, hL_pI, hI_pI, hR_pI, hJ_pI, hT_pI, hS_pI, hK_pR, hL_pR, hI_pR, hR_pR, hJ_pR, hT_pR, hS_pR, hK_pJ, hL_pJ, hI_pJ, hR_pJ, hJ_pJ, hT_pJ, hS_pJ, hK_wI, hL_wI, hI_wI, hR_wI, hJ_wI, hT_wI, hS_wI, eq_self, and_true, true_and, and_false, false_and, or_true, true_or, or_false, false_or, if_true, if_false, not_true_eq_false, not_false_eq_true, forall_const, implies_true, false_implies, true_implies, Option.some.injEq, forall_eq', exists_eq_left', reduceCtorEq, Nat.reduceEqDiff, c1, T_X12_in, T_X12_ones, T_X11_within, T_X11_bit, T_X11_isIn, T_X11_oneIfIn, T_J6_bitCount_0f7a4, him, hd10]
        exact hcr
    simp only [MX4_placeRest, b_X4_placeRest_0, lx_pI, lx_wI, lx_t hl, lx_k hl, lx_r hl, lx_l hl, i_push, i_ild, i_ald, i_ist, i_ast, i_inc, i_bin, i_un, i_divs, i_i2l, i_lshl, i_lor, i_dup, i_dup2, i_pop, i_if, i_cmp, i_nul, i_vret, i_iret, i_zret, i_aret, i_keep, keep, lget, lset, ent, i_getI, i_getJ, i_getR, i_getN, i_putI, i_putZ, i_putJ, i_putR, i_iald, i_bald, i_alen, i_aald, i_iast, i_bast, i_aast, i_new, i_newa, i_anew, i_oini, i_callS, i_callV, i_callI, popn, sh4, i_sw, swP, i_copy, i_binS, List.map, Option.toList_none, Option.toList_some, List.append, List.nil_append, List.cons_append, List.length_cons, List.length_nil, List.replicate, Nat.sub_self, Nat.reduceSub, Nat.reduceAdd, hK_pI, hL_pI, hI_pI, hR_pI, hJ_pI, hT_pI, hS_pI, hK_pR, hL_pR, hI_pR, hR_pR, hJ_pR, hT_pR, hS_pR, hK_pJ, hL_pJ, hI_pJ, hR_pJ, hJ_pJ, hT_pJ, hS_pJ, hK_wI, hL_wI, hI_wI, hR_wI, hJ_wI, hT_wI, hS_wI, eq_self, and_true, true_and, and_false, false_and, or_true, true_or, or_false, false_or, if_true, if_false, not_true_eq_false, not_false_eq_true, forall_const, implies_true, false_implies, true_implies, Option.some.injEq, forall_eq', exists_eq_left', reduceCtorEq, Nat.reduceEqDiff, c1, T_X12_in, T_X12_ones, T_X11_within, T_X11_bit, T_X11_isIn, T_X11_oneIfIn, T_J6_bitCount_0f7a4]
    exact hti
  · exact hT.elim
