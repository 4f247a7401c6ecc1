/-! ===== branches ===== -/
def i_if (c : Int32 → Prop) (Kt1 Kf : Kt) : Kt := fun A st h => match st with
  | .int x :: st => (c x → Kt1 A st h) ∧ (¬ c x → Kf A st h)
  | _ => False
def i_cmp (c : Int32 → Int32 → Prop) (Kt1 Kf : Kt) : Kt := fun A st h => match st with
  | .int y :: .int x :: st => (c x y → Kt1 A st h) ∧ (¬ c x y → Kf A st h)
  | _ => False
/-- a branch of three bytes: where it goes, by its offset -/
def sbr (i : Int → Instr) (tr : Kt → Kt → Kt) : Prop := ∀ (d : Nat) (M : Mt) (Q : Option Value → Hp → Prop) (pc : Nat) (off : Int) (tgt : Nat) (Kt1 Kf : Kt), (pc : Int) + off = (tgt : Int) → decode M.2.1 pc = .ok (i off, 3) → (∀ A st h, Kt1 A st h → wp d M Q tgt A st h) → (∀ A st h, Kf A st h → wp d M Q (pc + 3) A st h) → ∀ A st h, tr Kt1 Kf A st h → wp d M Q pc A st h
theorem s_ifeq : sbr (.ifCond .eq) (i_if (fun x => x = 0)) := by
  intro d M Q pc off tgt Kt1 Kf ht hd hKt hKf A st h hw
  simp only [i_if] at hw
  split at hw
  · rename_i x st
    rcases Classical.em (x = 0) with hc | hc
    · obtain ⟨r, h2, hq, hR⟩ := hKt _ _ _ (hw.1 hc)
      exact ⟨r, h2, hq, hR.go fun G p l e R s m args below meth c H locs cells slots ls Qp hC hH hL hk => lv_if_eq hC.1 hC.2.1 hd ht (fun _ => hk ls hL) (fun q => absurd hc q)⟩
    · obtain ⟨r, h2, hq, hR⟩ := hKf _ _ _ (hw.2 hc)
      exact ⟨r, h2, hq, hR.go fun G p l e R s m args below meth c H locs cells slots ls Qp hC hH hL hk => lv_if_eq hC.1 hC.2.1 hd ht (fun q => absurd q hc) (fun _ => hk ls hL)⟩
  · exact hw.elim
theorem s_cmpeq : sbr (.if_icmp .eq) (i_cmp (fun x y => x = y)) := by
  intro d M Q pc off tgt Kt1 Kf ht hd hKt hKf A st h hw
  simp only [i_cmp] at hw
  split at hw
  · rename_i y x st
    rcases Classical.em (x = y) with hc | hc
    · obtain ⟨r, h2, hq, hR⟩ := hKt _ _ _ (hw.1 hc)
      exact ⟨r, h2, hq, hR.go fun G p l e R s m args below meth c H locs cells slots ls Qp hC hH hL hk => lv_icmp_eq hC.1 hC.2.1 hd ht (fun _ => hk ls hL) (fun q => absurd hc q)⟩
    · obtain ⟨r, h2, hq, hR⟩ := hKf _ _ _ (hw.2 hc)
      exact ⟨r, h2, hq, hR.go fun G p l e R s m args below meth c H locs cells slots ls Qp hC hH hL hk => lv_icmp_eq hC.1 hC.2.1 hd ht (fun q => absurd q hc) (fun _ => hk ls hL)⟩
  · exact hw.elim
theorem s_ifne : sbr (.ifCond .ne) (fun Kt1 Kf => i_if (fun x => x = 0) Kf Kt1) := by
  intro d M Q pc off tgt Kt1 Kf ht hd hKt hKf A st h hw
  simp only [i_if] at hw
  split at hw
  · rename_i x st
    rcases Classical.em (x = 0) with hc | hc
    · obtain ⟨r, h2, hq, hR⟩ := hKf _ _ _ (hw.1 hc)
      exact ⟨r, h2, hq, hR.go fun G p l e R s m args below meth c H locs cells slots ls Qp hC hH hL hk => lv_if_ne hC.1 hC.2.1 hd ht (fun q => absurd hc q) (fun _ => hk ls hL)⟩
    · obtain ⟨r, h2, hq, hR⟩ := hKt _ _ _ (hw.2 hc)
      exact ⟨r, h2, hq, hR.go fun G p l e R s m args below meth c H locs cells slots ls Qp hC hH hL hk => lv_if_ne hC.1 hC.2.1 hd ht (fun _ => hk ls hL) (fun q => absurd q hc)⟩
  · exact hw.elim
theorem s_cmpne : sbr (.if_icmp .ne) (fun Kt1 Kf => i_cmp (fun x y => x = y) Kf Kt1) := by
  intro d M Q pc off tgt Kt1 Kf ht hd hKt hKf A st h hw
  simp only [i_cmp] at hw
  split at hw
  · rename_i y x st
    rcases Classical.em (x = y) with hc | hc
    · obtain ⟨r, h2, hq, hR⟩ := hKf _ _ _ (hw.1 hc)
      exact ⟨r, h2, hq, hR.go fun G p l e R s m args below meth c H locs cells slots ls Qp hC hH hL hk => lv_icmp_ne hC.1 hC.2.1 hd ht (fun q => absurd hc q) (fun _ => hk ls hL)⟩
    · obtain ⟨r, h2, hq, hR⟩ := hKt _ _ _ (hw.2 hc)
      exact ⟨r, h2, hq, hR.go fun G p l e R s m args below meth c H locs cells slots ls Qp hC hH hL hk => lv_icmp_ne hC.1 hC.2.1 hd ht (fun _ => hk ls hL) (fun q => absurd q hc)⟩
  · exact hw.elim
theorem s_iflt : sbr (.ifCond .lt) (i_if (fun x => x < 0)) := by
  intro d M Q pc off tgt Kt1 Kf ht hd hKt hKf A st h hw
  simp only [i_if] at hw
  split at hw
  · rename_i x st
    rcases Classical.em (x < 0) with hc | hc
    · obtain ⟨r, h2, hq, hR⟩ := hKt _ _ _ (hw.1 hc)
      exact ⟨r, h2, hq, hR.go fun G p l e R s m args below meth c H locs cells slots ls Qp hC hH hL hk => lv_if_lt hC.1 hC.2.1 hd ht (fun _ => hk ls hL) (fun q => absurd hc q)⟩
    · obtain ⟨r, h2, hq, hR⟩ := hKf _ _ _ (hw.2 hc)
      exact ⟨r, h2, hq, hR.go fun G p l e R s m args below meth c H locs cells slots ls Qp hC hH hL hk => lv_if_lt hC.1 hC.2.1 hd ht (fun q => absurd q hc) (fun _ => hk ls hL)⟩
  · exact hw.elim
theorem s_cmplt : sbr (.if_icmp .lt) (i_cmp (fun x y => x < y)) := by
  intro d M Q pc off tgt Kt1 Kf ht hd hKt hKf A st h hw
  simp only [i_cmp] at hw
  split at hw
  · rename_i y x st
    rcases Classical.em (x < y) with hc | hc
    · obtain ⟨r, h2, hq, hR⟩ := hKt _ _ _ (hw.1 hc)
      exact ⟨r, h2, hq, hR.go fun G p l e R s m args below meth c H locs cells slots ls Qp hC hH hL hk => lv_icmp_lt hC.1 hC.2.1 hd ht (fun _ => hk ls hL) (fun q => absurd hc q)⟩
    · obtain ⟨r, h2, hq, hR⟩ := hKf _ _ _ (hw.2 hc)
      exact ⟨r, h2, hq, hR.go fun G p l e R s m args below meth c H locs cells slots ls Qp hC hH hL hk => lv_icmp_lt hC.1 hC.2.1 hd ht (fun q => absurd q hc) (fun _ => hk ls hL)⟩
  · exact hw.elim
theorem s_ifge : sbr (.ifCond .ge) (i_if (fun x => 0 ≤ x)) := by
  intro d M Q pc off tgt Kt1 Kf ht hd hKt hKf A st h hw
  simp only [i_if] at hw
  split at hw
  · rename_i x st
    rcases Classical.em (0 ≤ x) with hc | hc
    · obtain ⟨r, h2, hq, hR⟩ := hKt _ _ _ (hw.1 hc)
      exact ⟨r, h2, hq, hR.go fun G p l e R s m args below meth c H locs cells slots ls Qp hC hH hL hk => lv_if_ge hC.1 hC.2.1 hd ht (fun _ => hk ls hL) (fun q => absurd hc q)⟩
    · obtain ⟨r, h2, hq, hR⟩ := hKf _ _ _ (hw.2 hc)
      exact ⟨r, h2, hq, hR.go fun G p l e R s m args below meth c H locs cells slots ls Qp hC hH hL hk => lv_if_ge hC.1 hC.2.1 hd ht (fun q => absurd q hc) (fun _ => hk ls hL)⟩
  · exact hw.elim
theorem s_cmpge : sbr (.if_icmp .ge) (i_cmp (fun x y => y ≤ x)) := by
  intro d M Q pc off tgt Kt1 Kf ht hd hKt hKf A st h hw
  simp only [i_cmp] at hw
  split at hw
  · rename_i y x st
    rcases Classical.em (y ≤ x) with hc | hc
    · obtain ⟨r, h2, hq, hR⟩ := hKt _ _ _ (hw.1 hc)
      exact ⟨r, h2, hq, hR.go fun G p l e R s m args below meth c H locs cells slots ls Qp hC hH hL hk => lv_icmp_ge hC.1 hC.2.1 hd ht (fun _ => hk ls hL) (fun q => absurd hc q)⟩
    · obtain ⟨r, h2, hq, hR⟩ := hKf _ _ _ (hw.2 hc)
      exact ⟨r, h2, hq, hR.go fun G p l e R s m args below meth c H locs cells slots ls Qp hC hH hL hk => lv_icmp_ge hC.1 hC.2.1 hd ht (fun q => absurd q hc) (fun _ => hk ls hL)⟩
  · exact hw.elim
theorem s_ifgt : sbr (.ifCond .gt) (i_if (fun x => 0 < x)) := by
  intro d M Q pc off tgt Kt1 Kf ht hd hKt hKf A st h hw
  simp only [i_if] at hw
  split at hw
  · rename_i x st
    rcases Classical.em (0 < x) with hc | hc
    · obtain ⟨r, h2, hq, hR⟩ := hKt _ _ _ (hw.1 hc)
      exact ⟨r, h2, hq, hR.go fun G p l e R s m args below meth c H locs cells slots ls Qp hC hH hL hk => lv_if_gt hC.1 hC.2.1 hd ht (fun _ => hk ls hL) (fun q => absurd hc q)⟩
    · obtain ⟨r, h2, hq, hR⟩ := hKf _ _ _ (hw.2 hc)
      exact ⟨r, h2, hq, hR.go fun G p l e R s m args below meth c H locs cells slots ls Qp hC hH hL hk => lv_if_gt hC.1 hC.2.1 hd ht (fun q => absurd q hc) (fun _ => hk ls hL)⟩
  · exact hw.elim
theorem s_cmpgt : sbr (.if_icmp .gt) (i_cmp (fun x y => y < x)) := by
  intro d M Q pc off tgt Kt1 Kf ht hd hKt hKf A st h hw
  simp only [i_cmp] at hw
  split at hw
  · rename_i y x st
    rcases Classical.em (y < x) with hc | hc
    · obtain ⟨r, h2, hq, hR⟩ := hKt _ _ _ (hw.1 hc)
      exact ⟨r, h2, hq, hR.go fun G p l e R s m args below meth c H locs cells slots ls Qp hC hH hL hk => lv_icmp_gt hC.1 hC.2.1 hd ht (fun _ => hk ls hL) (fun q => absurd hc q)⟩
    · obtain ⟨r, h2, hq, hR⟩ := hKf _ _ _ (hw.2 hc)
      exact ⟨r, h2, hq, hR.go fun G p l e R s m args below meth c H locs cells slots ls Qp hC hH hL hk => lv_icmp_gt hC.1 hC.2.1 hd ht (fun q => absurd q hc) (fun _ => hk ls hL)⟩
  · exact hw.elim
theorem s_ifle : sbr (.ifCond .le) (i_if (fun x => x ≤ 0)) := by
  intro d M Q pc off tgt Kt1 Kf ht hd hKt hKf A st h hw
  simp only [i_if] at hw
  split at hw
  · rename_i x st
    rcases Classical.em (x ≤ 0) with hc | hc
    · obtain ⟨r, h2, hq, hR⟩ := hKt _ _ _ (hw.1 hc)
      exact ⟨r, h2, hq, hR.go fun G p l e R s m args below meth c H locs cells slots ls Qp hC hH hL hk => lv_if_le hC.1 hC.2.1 hd ht (fun _ => hk ls hL) (fun q => absurd hc q)⟩
    · obtain ⟨r, h2, hq, hR⟩ := hKf _ _ _ (hw.2 hc)
      exact ⟨r, h2, hq, hR.go fun G p l e R s m args below meth c H locs cells slots ls Qp hC hH hL hk => lv_if_le hC.1 hC.2.1 hd ht (fun q => absurd q hc) (fun _ => hk ls hL)⟩
  · exact hw.elim
theorem s_cmple : sbr (.if_icmp .le) (i_cmp (fun x y => x ≤ y)) := by
  intro d M Q pc off tgt Kt1 Kf ht hd hKt hKf A st h hw
  simp only [i_cmp] at hw
  split at hw
  · rename_i y x st
    rcases Classical.em (x ≤ y) with hc | hc
    · obtain ⟨r, h2, hq, hR⟩ := hKt _ _ _ (hw.1 hc)
      exact ⟨r, h2, hq, hR.go fun G p l e R s m args below meth c H locs cells slots ls Qp hC hH hL hk => lv_icmp_le hC.1 hC.2.1 hd ht (fun _ => hk ls hL) (fun q => absurd hc q)⟩
    · obtain ⟨r, h2, hq, hR⟩ := hKf _ _ _ (hw.2 hc)
      exact ⟨r, h2, hq, hR.go fun G p l e R s m args below meth c H locs cells slots ls Qp hC hH hL hk => lv_icmp_le hC.1 hC.2.1 hd ht (fun q => absurd q hc) (fun _ => hk ls hL)⟩
  · exact hw.elim
theorem s_goto : ∀ (d : Nat) (M : Mt) (Q : Option Value → Hp → Prop) (pc : Nat) (off : Int) (tgt : Nat) (K : Kt), (pc : Int) + off = (tgt : Int) → decode M.2.1 pc = .ok (.goto off, 3) → (∀ A st h, K A st h → wp d M Q tgt A st h) → ∀ A st h, K A st h → wp d M Q pc A st h := by
  intro d M Q pc off tgt K ht hd hK A st h hw
  obtain ⟨r, h2, hq, hR⟩ := hK _ _ _ hw
  exact ⟨r, h2, hq, hR.go fun G p l e R s m args below meth c H locs cells slots ls Qp hC hH hL hk => lv_goto hC.1 hC.2.1 hd ht (hk ls hL)⟩
def i_nul (Kt1 Kf : Kt) : Kt := fun A st h => match st with
  | .null :: st => Kt1 A st h
  | .ref _ :: st => Kf A st h
  | _ => False
theorem s_ifnull : sbr .ifnull i_nul := by
  intro d M Q pc off tgt Kt1 Kf ht hd hKt hKf A st h hw
  simp only [i_nul] at hw
  split at hw
  · obtain ⟨r, h2, hq, hR⟩ := hKt _ _ _ hw
    exact ⟨r, h2, hq, hR.go fun G p l e R s m args below meth c H locs cells slots ls Qp hC hH hL hk => lv_ifnullN hC.1 hC.2.1 hd ht (hk ls hL)⟩
  · obtain ⟨r, h2, hq, hR⟩ := hKf _ _ _ hw
    exact ⟨r, h2, hq, hR.go fun G p l e R s m args below meth c H locs cells slots ls Qp hC hH hL hk => lv_ifnull hC.1 hC.2.1 hd (hk ls hL)⟩
  · exact hw.elim
theorem s_ifnonnull : sbr .ifnonnull (fun Kt1 Kf => i_nul Kf Kt1) := by
  intro d M Q pc off tgt Kt1 Kf ht hd hKt hKf A st h hw
  simp only [i_nul] at hw
  split at hw
  · obtain ⟨r, h2, hq, hR⟩ := hKf _ _ _ hw
    exact ⟨r, h2, hq, hR.go fun G p l e R s m args below meth c H locs cells slots ls Qp hC hH hL hk => lv_ifnonnullN hC.1 hC.2.1 hd (hk ls hL)⟩
  · obtain ⟨r, h2, hq, hR⟩ := hKt _ _ _ hw
    exact ⟨r, h2, hq, hR.go fun G p l e R s m args below meth c H locs cells slots ls Qp hC hH hL hk => lv_ifnonnull hC.1 hC.2.1 hd ht (hk ls hL)⟩
  · exact hw.elim
/-! ===== returns ===== -/
theorem Runs.ret {d : Nat} {M : Mt} {pc : Nat} {A : Lc} {st : List Value} {h : Hp} {r : Option Value}
    (hW : ∀ (G : Gm) (p : Program) (l : Launch) (e : Env) (R : Room) (s : State) (m : MethodId) (args : Array Value) (below : List Frame) (meth : Method) (c : Code) (H : Heap) (locs : List Loc) (cells slots : Nat) (ls : Array Slot),
      Ctx G M p s m args meth c → (∀ t : State, t.heap = H → s.WarmedH t.vm → QC G r h args s (.returned (r.map (cz G))) t) → (∀ q ∈ locs, gB G ≤ q.base) → W p l e R s m args below meth c H locs cells slots (MQ below (QC G r h) args s cells slots (fun q => gB G ≤ q)) (F0 m pc ls (st.map (cz G)))) : Runs d M pc A st h r h := by
  refine ⟨Nat.le_refl _, Nat.le_refl _, fun G p l e R s m args below meth c H locs cells slots ls hC hH hg hS hL h1 h2 h3 h4 => ?_⟩
  rw [Nat.sub_self, Nat.sub_self, Nat.add_zero, Nat.add_zero]
  exact hW G p l e R s m args below meth c H locs cells slots ls hC (fun t ht hW => ⟨rfl, by rw [ht]; exact hH, hC.2.2.2.2.2.2.1.moved hW (hS.F ht), hS.F ht⟩) hS.2.2
def i_vret (Q : Option Value → Hp → Prop) : Kt := fun _ st h => match st with
  | [] => Q none h
  | _ => False
theorem s_vret : ∀ (d : Nat) (M : Mt) (Q : Option Value → Hp → Prop) (pc : Nat), M.2.2.2 = none → decode M.2.1 pc = .ok (.return_, 1) → ∀ A st h, i_vret Q A st h → wp d M Q pc A st h := by
  intro d M Q pc hr hd A st h hw
  unfold i_vret at hw
  split at hw
  · exact ⟨none, h, hw, Runs.ret fun G p l e R s m args below meth c H locs cells slots ls hC hq hf => W.vret hC.1 hC.2.1 (hC.2.2.1.trans hr) hq hf hd hC.2.2.2.2.2.2.2.1⟩
  · exact hw.elim
def i_iret (Q : Option Value → Hp → Prop) : Kt := fun _ st h => match st with
  | [.int x] => Q (some (.int x)) h
  | _ => False
theorem s_iret : ∀ (d : Nat) (M : Mt) (Q : Option Value → Hp → Prop) (pc : Nat), M.2.2.2 = some .int → decode M.2.1 pc = .ok (.ireturn, 1) → ∀ A st h, i_iret Q A st h → wp d M Q pc A st h := by
  intro d M Q pc hr hd A st h hw
  unfold i_iret at hw
  split at hw
  · exact ⟨_, h, hw, Runs.ret fun G p l e R s m args below meth c H locs cells slots ls hC hq hf => W.iret hC.1 hC.2.1 (hC.2.2.1.trans hr) hq hf hd hC.2.2.2.2.2.2.2.1⟩
  · exact hw.elim
/-- a truth: 0 or 1 -/
def i_zret (Q : Option Value → Hp → Prop) : Kt := fun _ st h => match st with
  | [.int x] => (x = 0 ∨ x = 1) ∧ Q (some (.int x)) h
  | _ => False
theorem s_zret : ∀ (d : Nat) (M : Mt) (Q : Option Value → Hp → Prop) (pc : Nat), M.2.2.2 = some .boolean → decode M.2.1 pc = .ok (.ireturn, 1) → ∀ A st h, i_zret Q A st h → wp d M Q pc A st h := by
  intro d M Q pc hr hd A st h hw
  unfold i_zret at hw
  split at hw
  · rename_i x
    refine ⟨_, h, hw.2, Runs.ret fun G p l e R s m args below meth c H locs cells slots ls hC hq hf => W.zret (v := x) hC.1 hC.2.1 (hC.2.2.1.trans hr) ?_ hq hf hd hC.2.2.2.2.2.2.2.1⟩
    rcases hw.1 with rfl | rfl <;> rfl
  · exact hw.elim
def i_aret (Q : Option Value → Hp → Prop) : Kt := fun _ st h => match st with
  | [.ref x] => Q (some (.ref x)) h
  | [.null] => Q (some .null) h
  | _ => False
theorem s_aret {C : String} : ∀ (d : Nat) (M : Mt) (Q : Option Value → Hp → Prop) (pc : Nat), M.2.2.2 = some (.object C) → decode M.2.1 pc = .ok (.areturn, 1) → ∀ A st h, i_aret Q A st h → wp d M Q pc A st h := by
  intro d M Q pc hr hd A st h hw
  unfold i_aret at hw
  split at hw
  · exact ⟨_, h, hw, Runs.ret fun G p l e R s m args below meth c H locs cells slots ls hC hq hf => W.aret hC.1 hC.2.1 (hC.2.2.1.trans hr) (Or.inl ⟨_, rfl⟩) (Or.inr ⟨_, rfl⟩) hq hf hd hC.2.2.2.2.2.2.2.1⟩
  · exact ⟨_, h, hw, Runs.ret fun G p l e R s m args below meth c H locs cells slots ls hC hq hf => W.aret hC.1 hC.2.1 (hC.2.2.1.trans hr) (Or.inl ⟨_, rfl⟩) (Or.inl rfl) hq hf hd hC.2.2.2.2.2.2.2.1⟩
  · exact hw.elim
/-- less is known of the locals -/
def i_live (f : Lc → Lc) (K : Kt) : Kt := fun A st h => K (f A) st h
theorem wp_less {d : Nat} {M : Mt} {Q : Option Value → Hp → Prop} {pc : Nat} {A B : Lc} {st : List Value} {h : Hp} (hAB : lle A B) (hw : wp d M Q pc A st h) : wp d M Q pc B st h := by
  obtain ⟨r, h2, hq, hR⟩ := hw
  exact ⟨r, h2, hq, hR.less hAB⟩
/-- keep the locals that the mask names -/
def keep : List Bool → Lc → Lc
  | true :: m, o :: t => o :: keep m t
  | false :: m, _ :: t => none :: keep m t
  | [], t => t
  | _, [] => []
theorem lle_rf : ∀ (A : Lc), lle A A
  | [] => trivial
  | none :: t => lle_rf t
  | some _ :: t => ⟨rfl, lle_rf t⟩
theorem lle_keep : ∀ (m : List Bool) (A : Lc), lle (keep m A) A
  | true :: m, none :: t => lle_keep m t
  | true :: m, some _ :: t => ⟨rfl, lle_keep m t⟩
  | false :: m, none :: t => lle_keep m t
  | false :: m, some _ :: t => lle_keep m t
  | [], t => lle_rf t
  | true :: _, [] => trivial
  | false :: _, [] => trivial
def i_keep (m : List Bool) (K : Kt) : Kt := fun A st h => K (keep m A) st h
theorem s_keep {d : Nat} {M : Mt} {Q : Option Value → Hp → Prop} {pc : Nat} {K : Kt} (m : List Bool) (hK : ∀ A st h, K A st h → wp d M Q pc A st h) : ∀ A st h, i_keep m K A st h → wp d M Q pc A st h := fun A st h hw => wp_less (lle_keep m A) (hK _ _ _ hw)
