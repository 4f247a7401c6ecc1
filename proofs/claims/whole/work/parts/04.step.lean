/-! ===== one instruction, one row ===== -/
/-- an instruction i of n bytes does what tr says -/
def sfor (i : Instr) (n : Nat) (tr : Kt → Kt) : Prop := ∀ (d : Nat) (M : Mt) (Q : Option Value → Hp → Prop) (pc : Nat) (K : Kt), decode M.2.1 pc = .ok (i, n) → (∀ A st h, K A st h → wp d M Q (pc + n) A st h) → ∀ A st h, tr K A st h → wp d M Q pc A st h
theorem Runs.go {d : Nat} {M : Mt} {pc pc' : Nat} {A A' : Lc} {st st' : List Value} {h h' : Hp} {r : Option Value} (hR : Runs d M pc' A' st' h r h')
    (hW : ∀ (G : Gm) (p : Program) (l : Launch) (e : Env) (R : Room) (s : State) (m : MethodId) (args : Array Value) (below : List Frame) (meth : Method) (c : Code) (H : Heap) (locs : List Loc) (cells slots : Nat) (ls : Array Slot) (Qp : State → Prop),
      Ctx G M p s m args meth c → HR G h H → LR G A M.2.2.1 ls → (∀ ls', LR G A' M.2.2.1 ls' → W p l e R s m args below meth c H locs cells slots Qp (F0 m pc' ls' (st'.map (cz G)))) → W p l e R s m args below meth c H locs cells slots Qp (F0 m pc ls (st.map (cz G)))) : Runs d M pc A st h r h' :=
  ⟨hR.1, hR.2.1, fun G p l e R s m args below meth c H locs cells slots ls hC hH hg hS hL h1 h2 h3 h4 => hW G p l e R s m args below meth c H locs cells slots ls _ hC hH hL (fun ls' hL' => hR.2.2 G p l e R s m args below meth c H locs cells slots ls' hC hH hg hS hL' h1 h2 h3 h4)⟩
/-! constants -/
def i_push (v : Value) (K : Kt) : Kt := fun A st h => K A (v :: st) h
theorem s_iconst {n : Int} {v : Int32} (hv : Int32.ofInt n = v) : sfor (.iconst n) 1 (i_push (.int v)) := by
  intro d M Q pc K hd hK A st h hw
  obtain ⟨r, h', hq, hR⟩ := hK _ _ _ hw
  exact ⟨r, h', hq, hR.go fun G p l e R s m args below meth c H locs cells slots ls Qp hC hH hL hk => lv_iconst hC.1 hC.2.1 hd hv (hk ls hL)⟩
theorem s_bipush {n : Int} {v : Int32} (hv : (Int8.ofInt n).toInt32 = v) : sfor (.bipush n) 2 (i_push (.int v)) := by
  intro d M Q pc K hd hK A st h hw
  obtain ⟨r, h', hq, hR⟩ := hK _ _ _ hw
  exact ⟨r, h', hq, hR.go fun G p l e R s m args below meth c H locs cells slots ls Qp hC hH hL hk => lv_bipush hC.1 hC.2.1 hd hv (hk ls hL)⟩
theorem s_sipush {n : Int} {v : Int32} (hv : (Int16.ofInt n).toInt32 = v) : sfor (.sipush n) 3 (i_push (.int v)) := by
  intro d M Q pc K hd hK A st h hw
  obtain ⟨r, h', hq, hR⟩ := hK _ _ _ hw
  exact ⟨r, h', hq, hR.go fun G p l e R s m args below meth c H locs cells slots ls Qp hC hH hL hk => lv_sipush hC.1 hC.2.1 hd hv (hk ls hL)⟩
theorem s_lconst {n : Fin 2} {v : Int64} (hv : Int64.ofNat (n : Nat) = v) : sfor (.lconst n) 1 (i_push (.long v)) := by
  intro d M Q pc K hd hK A st h hw
  obtain ⟨r, h', hq, hR⟩ := hK _ _ _ hw
  exact ⟨r, h', hq, hR.go fun G p l e R s m args below meth c H locs cells slots ls Qp hC hH hL hk => lv_lconst hC.1 hC.2.1 hd hv (hk ls hL)⟩
theorem s_null : sfor .aconst_null 1 (i_push .null) := by
  intro d M Q pc K hd hK A st h hw
  obtain ⟨r, h', hq, hR⟩ := hK _ _ _ hw
  exact ⟨r, h', hq, hR.go fun G p l e R s m args below meth c H locs cells slots ls Qp hC hH hL hk => lv_null hC.1 hC.2.1 hd (hk ls hL)⟩
/-- constants of the pool: the class that owns the method is said -/
def sforC (own : String) (i : Instr) (n : Nat) (tr : Kt → Kt) : Prop := ∀ (d : Nat) (M : Mt) (Q : Option Value → Hp → Prop) (pc : Nat) (K : Kt), M.1.cls = own → decode M.2.1 pc = .ok (i, n) → (∀ A st h, K A st h → wp d M Q (pc + n) A st h) → ∀ A st h, tr K A st h → wp d M Q pc A st h
theorem s_ldc {own : String} {k : Nat} {v : Int32} (hw : Cond.constant own k v ∈ gw) : sforC own (.ldc k) 2 (i_push (.int v)) := by
  intro d M Q pc K ho hd hK A st h hx
  obtain ⟨r, h', hq, hR⟩ := hK _ _ _ hx
  exact ⟨r, h', hq, hR.go fun G p l e R s m args below meth c H locs cells slots ls Qp hC hH hL hk => lv_ldc hC.1 hC.2.1 (by rw [← ho]; exact hC.2.2.2.2.1) (hC.2.2.2.2.2.1 _ hw) hd (hk ls hL)⟩
theorem s_ldcw {own : String} {k : Nat} {v : Int32} (hw : Cond.constant own k v ∈ gw) : sforC own (.ldc_w k) 3 (i_push (.int v)) := by
  intro d M Q pc K ho hd hK A st h hx
  obtain ⟨r, h', hq, hR⟩ := hK _ _ _ hx
  exact ⟨r, h', hq, hR.go fun G p l e R s m args below meth c H locs cells slots ls Qp hC hH hL hk => lv_ldcw hC.1 hC.2.1 (by rw [← ho]; exact hC.2.2.2.2.1) (hC.2.2.2.2.2.1 _ hw) hd (hk ls hL)⟩
theorem s_ldc2 {own : String} {k : Nat} {v : Int64} (hw : Cond.constantLong own k v ∈ gw) : sforC own (.ldc2_w k) 3 (i_push (.long v)) := by
  intro d M Q pc K ho hd hK A st h hx
  obtain ⟨r, h', hq, hR⟩ := hK _ _ _ hx
  exact ⟨r, h', hq, hR.go fun G p l e R s m args below meth c H locs cells slots ls Qp hC hH hL hk => lv_ldc2 hC.1 hC.2.1 (by rw [← ho]; exact hC.2.2.2.2.1) (hC.2.2.2.2.2.1 _ hw) hd (hk ls hL)⟩
/-! locals -/
def i_ild (n : Nat) (K : Kt) : Kt := fun A st h => match lget A n with
  | some (.int x) => K A (.int x :: st) h
  | _ => False
def i_ald (n : Nat) (K : Kt) : Kt := fun A st h => match lget A n with
  | some (.ref x) => K A (.ref x :: st) h
  | some (.retAddr x) => K A (.retAddr x :: st) h
  | some .null => K A (.null :: st) h
  | _ => False
def i_ist (n : Nat) (K : Kt) : Kt := fun A st h => match st with
  | .int x :: st => K (lset A n (.int x)) st h
  | _ => False
def i_ast (n : Nat) (K : Kt) : Kt := fun A st h => match st with
  | .ref x :: st => K (lset A n (.ref x)) st h
  | .null :: st => K (lset A n .null) st h
  | _ => False
def i_inc (n : Nat) (v : Int32) (K : Kt) : Kt := fun A st h => match lget A n with
  | some (.int x) => K (lset A n (.int (x + v))) st h
  | _ => False
theorem s_ild {n : Nat} : sfor (.iload n) 2 (i_ild n) := by
  intro d M Q pc K hd hK A st h hw
  unfold i_ild at hw
  split at hw
  · rename_i x hx
    obtain ⟨r, h', hq, hR⟩ := hK _ _ _ hw
    exact ⟨r, h', hq, hR.go fun G p l e R s m args below meth c H locs cells slots ls Qp hC hH hL hk => lv_iload hC.1 hC.2.1 hd (hL.at hx) (hk ls hL)⟩
  · exact hw.elim
theorem s_ildn {n : Fin 4} {i : Nat} (hi : (n : Nat) = i) : sfor (.iload_n n) 1 (i_ild i) := by
  intro d M Q pc K hd hK A st h hw
  unfold i_ild at hw
  split at hw
  · rename_i x hx
    obtain ⟨r, h', hq, hR⟩ := hK _ _ _ hw
    exact ⟨r, h', hq, hR.go fun G p l e R s m args below meth c H locs cells slots ls Qp hC hH hL hk => lv_iload_n hC.1 hC.2.1 hd hi (hL.at hx) (hk ls hL)⟩
  · exact hw.elim
theorem s_ald {n : Nat} : sfor (.aload n) 2 (i_ald n) := by
  intro d M Q pc K hd hK A st h hw
  unfold i_ald at hw
  split at hw
  · rename_i x hx
    obtain ⟨r, h', hq, hR⟩ := hK _ _ _ hw
    exact ⟨r, h', hq, hR.go fun G p l e R s m args below meth c H locs cells slots ls Qp hC hH hL hk => lv_aload hC.1 hC.2.1 hd (hL.at hx) (hk ls hL)⟩
  · rename_i x hx
    obtain ⟨r, h', hq, hR⟩ := hK _ _ _ hw
    exact ⟨r, h', hq, hR.go fun G p l e R s m args below meth c H locs cells slots ls Qp hC hH hL hk => lv_aload hC.1 hC.2.1 hd (hL.at hx) (hk ls hL)⟩
  · rename_i hx
    obtain ⟨r, h', hq, hR⟩ := hK _ _ _ hw
    exact ⟨r, h', hq, hR.go fun G p l e R s m args below meth c H locs cells slots ls Qp hC hH hL hk => lv_aloadN hC.1 hC.2.1 hd (hL.at hx) (hk ls hL)⟩
  · exact hw.elim
theorem s_aldn {n : Fin 4} {i : Nat} (hi : (n : Nat) = i) : sfor (.aload_n n) 1 (i_ald i) := by
  intro d M Q pc K hd hK A st h hw
  unfold i_ald at hw
  split at hw
  · rename_i x hx
    obtain ⟨r, h', hq, hR⟩ := hK _ _ _ hw
    exact ⟨r, h', hq, hR.go fun G p l e R s m args below meth c H locs cells slots ls Qp hC hH hL hk => lv_aload_n hC.1 hC.2.1 hd hi (hL.at hx) (hk ls hL)⟩
  · rename_i x hx
    obtain ⟨r, h', hq, hR⟩ := hK _ _ _ hw
    exact ⟨r, h', hq, hR.go fun G p l e R s m args below meth c H locs cells slots ls Qp hC hH hL hk => lv_aload_n hC.1 hC.2.1 hd hi (hL.at hx) (hk ls hL)⟩
  · rename_i hx
    obtain ⟨r, h', hq, hR⟩ := hK _ _ _ hw
    exact ⟨r, h', hq, hR.go fun G p l e R s m args below meth c H locs cells slots ls Qp hC hH hL hk => lv_aload_nN hC.1 hC.2.1 hd hi (hL.at hx) (hk ls hL)⟩
  · exact hw.elim
theorem s_ist {n : Nat} : ∀ (d : Nat) (M : Mt) (Q : Option Value → Hp → Prop) (pc : Nat) (K : Kt), n < M.2.2.1 → decode M.2.1 pc = .ok (.istore n, 2) → (∀ A st h, K A st h → wp d M Q (pc + 2) A st h) → ∀ A st h, i_ist n K A st h → wp d M Q pc A st h := by
  intro d M Q pc K hn hd hK A st h hw
  unfold i_ist at hw
  split at hw
  · rename_i x st
    obtain ⟨r, h', hq, hR⟩ := hK _ _ _ hw
    exact ⟨r, h', hq, hR.go fun G p l e R s m args below meth c H locs cells slots ls Qp hC hH hL hk => lv_istore hC.1 hC.2.1 hd hL.1 hn rfl (fun ls' h' => hk ls' (hL.store (v := .int x) rfl h'))⟩
  · exact hw.elim
theorem s_istn {n : Fin 4} {i : Nat} (hi : (n : Nat) = i) : ∀ (d : Nat) (M : Mt) (Q : Option Value → Hp → Prop) (pc : Nat) (K : Kt), i < M.2.2.1 → decode M.2.1 pc = .ok (.istore_n n, 1) → (∀ A st h, K A st h → wp d M Q (pc + 1) A st h) → ∀ A st h, i_ist i K A st h → wp d M Q pc A st h := by
  intro d M Q pc K hn hd hK A st h hw
  unfold i_ist at hw
  split at hw
  · rename_i x st
    obtain ⟨r, h', hq, hR⟩ := hK _ _ _ hw
    exact ⟨r, h', hq, hR.go fun G p l e R s m args below meth c H locs cells slots ls Qp hC hH hL hk => lv_istore_n hC.1 hC.2.1 hd hi hL.1 hn rfl (fun ls' h' => hk ls' (hL.store (v := .int x) rfl h'))⟩
  · exact hw.elim
theorem s_ast {n : Nat} : ∀ (d : Nat) (M : Mt) (Q : Option Value → Hp → Prop) (pc : Nat) (K : Kt), n < M.2.2.1 → decode M.2.1 pc = .ok (.astore n, 2) → (∀ A st h, K A st h → wp d M Q (pc + 2) A st h) → ∀ A st h, i_ast n K A st h → wp d M Q pc A st h := by
  intro d M Q pc K hn hd hK A st h hw
  unfold i_ast at hw
  split at hw
  · rename_i x st
    obtain ⟨r, h', hq, hR⟩ := hK _ _ _ hw
    exact ⟨r, h', hq, hR.go fun G p l e R s m args below meth c H locs cells slots ls Qp hC hH hL hk => lv_astore hC.1 hC.2.1 hd hL.1 hn rfl (fun ls' h' => hk ls' (hL.store (v := .ref x) rfl h'))⟩
  · rename_i st
    obtain ⟨r, h', hq, hR⟩ := hK _ _ _ hw
    exact ⟨r, h', hq, hR.go fun G p l e R s m args below meth c H locs cells slots ls Qp hC hH hL hk => lv_astoreN hC.1 hC.2.1 hd hL.1 hn rfl (fun ls' h' => hk ls' (hL.store (v := .null) rfl h'))⟩
  · exact hw.elim
theorem s_astn {n : Fin 4} {i : Nat} (hi : (n : Nat) = i) : ∀ (d : Nat) (M : Mt) (Q : Option Value → Hp → Prop) (pc : Nat) (K : Kt), i < M.2.2.1 → decode M.2.1 pc = .ok (.astore_n n, 1) → (∀ A st h, K A st h → wp d M Q (pc + 1) A st h) → ∀ A st h, i_ast i K A st h → wp d M Q pc A st h := by
  intro d M Q pc K hn hd hK A st h hw
  unfold i_ast at hw
  split at hw
  · rename_i x st
    obtain ⟨r, h', hq, hR⟩ := hK _ _ _ hw
    exact ⟨r, h', hq, hR.go fun G p l e R s m args below meth c H locs cells slots ls Qp hC hH hL hk => lv_astore_n hC.1 hC.2.1 hd hi hL.1 hn rfl (fun ls' h' => hk ls' (hL.store (v := .ref x) rfl h'))⟩
  · rename_i st
    obtain ⟨r, h', hq, hR⟩ := hK _ _ _ hw
    exact ⟨r, h', hq, hR.go fun G p l e R s m args below meth c H locs cells slots ls Qp hC hH hL hk => lv_astore_nN hC.1 hC.2.1 hd hi hL.1 hn rfl (fun ls' h' => hk ls' (hL.store (v := .null) rfl h'))⟩
  · exact hw.elim
theorem s_inc {i : Nat} {n : Int} {v : Int32} (hv : Int32.ofInt n = v) : ∀ (d : Nat) (M : Mt) (Q : Option Value → Hp → Prop) (pc : Nat) (K : Kt), i < M.2.2.1 → decode M.2.1 pc = .ok (.iinc i n, 3) → (∀ A st h, K A st h → wp d M Q (pc + 3) A st h) → ∀ A st h, i_inc i v K A st h → wp d M Q pc A st h := by
  intro d M Q pc K hn hd hK A st h hw
  unfold i_inc at hw
  split at hw
  · rename_i x hx
    obtain ⟨r, h', hq, hR⟩ := hK _ _ _ hw
    refine ⟨r, h', hq, hR.go fun G p l e R s m args below meth c H locs cells slots ls Qp hC hH hL hk => ?_⟩
    obtain ⟨k, hk2⟩ := List.getElem?_of_mem (prs_mem (G := G) (q := (i, .int x)).mpr ⟨.int x, hx, rfl⟩)
    exact lv_iinc (v := x + v) hC.1 hC.2.1 hd hL.1 hk2 (by rw [hv]) hn rfl (fun ls' h' => hk ls' (hL.store (v := .int (x + v)) rfl h'))
  · exact hw.elim
/-! numbers -/
def i_bin (f : Int32 → Int32 → Int32) (K : Kt) : Kt := fun A st h => match st with
  | .int y :: .int x :: st => K A (.int (f x y) :: st) h
  | _ => False
def i_un (f : Int32 → Int32) (K : Kt) : Kt := fun A st h => match st with
  | .int x :: st => K A (.int (f x) :: st) h
  | _ => False
def i_divs (f : Int32 → Int32 → Int32) (K : Kt) : Kt := fun A st h => match st with
  | .int y :: .int x :: st => ¬ y = 0 ∧ K A (.int (f x y) :: st) h
  | _ => False
theorem s_add : sfor .iadd 1 (i_bin (fun x y => x + y)) := by
  intro d M Q pc K hd hK A st h hw
  unfold i_bin at hw
  split at hw
  · obtain ⟨r, h', hq, hR⟩ := hK _ _ _ hw
    exact ⟨r, h', hq, hR.go fun G p l e R s m args below meth c H locs cells slots ls Qp hC hH hL hk => lv_iadd hC.1 hC.2.1 hd (hk ls hL)⟩
  · exact hw.elim
theorem s_sub : sfor .isub 1 (i_bin (fun x y => x - y)) := by
  intro d M Q pc K hd hK A st h hw
  unfold i_bin at hw
  split at hw
  · obtain ⟨r, h', hq, hR⟩ := hK _ _ _ hw
    exact ⟨r, h', hq, hR.go fun G p l e R s m args below meth c H locs cells slots ls Qp hC hH hL hk => lv_isub hC.1 hC.2.1 hd (hk ls hL)⟩
  · exact hw.elim
theorem s_mul : sfor .imul 1 (i_bin (fun x y => x * y)) := by
  intro d M Q pc K hd hK A st h hw
  unfold i_bin at hw
  split at hw
  · obtain ⟨r, h', hq, hR⟩ := hK _ _ _ hw
    exact ⟨r, h', hq, hR.go fun G p l e R s m args below meth c H locs cells slots ls Qp hC hH hL hk => lv_imul hC.1 hC.2.1 hd (hk ls hL)⟩
  · exact hw.elim
theorem s_and : sfor .iand 1 (i_bin (fun x y => x &&& y)) := by
  intro d M Q pc K hd hK A st h hw
  unfold i_bin at hw
  split at hw
  · obtain ⟨r, h', hq, hR⟩ := hK _ _ _ hw
    exact ⟨r, h', hq, hR.go fun G p l e R s m args below meth c H locs cells slots ls Qp hC hH hL hk => lv_iand hC.1 hC.2.1 hd (hk ls hL)⟩
  · exact hw.elim
theorem s_or : sfor .ior 1 (i_bin (fun x y => x ||| y)) := by
  intro d M Q pc K hd hK A st h hw
  unfold i_bin at hw
  split at hw
  · obtain ⟨r, h', hq, hR⟩ := hK _ _ _ hw
    exact ⟨r, h', hq, hR.go fun G p l e R s m args below meth c H locs cells slots ls Qp hC hH hL hk => lv_ior hC.1 hC.2.1 hd (hk ls hL)⟩
  · exact hw.elim
theorem s_xor : sfor .ixor 1 (i_bin (fun x y => x ^^^ y)) := by
  intro d M Q pc K hd hK A st h hw
  unfold i_bin at hw
  split at hw
  · obtain ⟨r, h', hq, hR⟩ := hK _ _ _ hw
    exact ⟨r, h', hq, hR.go fun G p l e R s m args below meth c H locs cells slots ls Qp hC hH hL hk => lv_ixor hC.1 hC.2.1 hd (hk ls hL)⟩
  · exact hw.elim
theorem s_shl : sfor .ishl 1 (i_bin (fun x y => x <<< (y &&& 31))) := by
  intro d M Q pc K hd hK A st h hw
  unfold i_bin at hw
  split at hw
  · obtain ⟨r, h', hq, hR⟩ := hK _ _ _ hw
    exact ⟨r, h', hq, hR.go fun G p l e R s m args below meth c H locs cells slots ls Qp hC hH hL hk => lv_ishl hC.1 hC.2.1 hd (hk ls hL)⟩
  · exact hw.elim
theorem s_shr : sfor .ishr 1 (i_bin (fun x y => x >>> (y &&& 31))) := by
  intro d M Q pc K hd hK A st h hw
  unfold i_bin at hw
  split at hw
  · obtain ⟨r, h', hq, hR⟩ := hK _ _ _ hw
    exact ⟨r, h', hq, hR.go fun G p l e R s m args below meth c H locs cells slots ls Qp hC hH hL hk => lv_ishr hC.1 hC.2.1 hd (hk ls hL)⟩
  · exact hw.elim
theorem s_ushr : sfor .iushr 1 (i_bin (fun x y => (x.toUInt32 >>> (y.toUInt32 &&& Int32.toUInt32 31)).toInt32)) := by
  intro d M Q pc K hd hK A st h hw
  unfold i_bin at hw
  split at hw
  · obtain ⟨r, h', hq, hR⟩ := hK _ _ _ hw
    exact ⟨r, h', hq, hR.go fun G p l e R s m args below meth c H locs cells slots ls Qp hC hH hL hk => lv_iushr hC.1 hC.2.1 hd rfl (hk ls hL)⟩
  · exact hw.elim
theorem s_neg : sfor .ineg 1 (i_un (fun x => -x)) := by
  intro d M Q pc K hd hK A st h hw
  unfold i_un at hw
  split at hw
  · obtain ⟨r, h', hq, hR⟩ := hK _ _ _ hw
    exact ⟨r, h', hq, hR.go fun G p l e R s m args below meth c H locs cells slots ls Qp hC hH hL hk => lv_ineg hC.1 hC.2.1 hd (hk ls hL)⟩
  · exact hw.elim
theorem s_i2b : sfor .i2b 1 (i_un (fun x => x.toInt8.toInt32)) := by
  intro d M Q pc K hd hK A st h hw
  unfold i_un at hw
  split at hw
  · obtain ⟨r, h', hq, hR⟩ := hK _ _ _ hw
    exact ⟨r, h', hq, hR.go fun G p l e R s m args below meth c H locs cells slots ls Qp hC hH hL hk => lv_i2b hC.1 hC.2.1 hd rfl (hk ls hL)⟩
  · exact hw.elim
theorem s_div : sfor .idiv 1 (i_divs (fun x y => x / y)) := by
  intro d M Q pc K hd hK A st h hw
  unfold i_divs at hw
  split at hw
  · obtain ⟨r, h', hq, hR⟩ := hK _ _ _ hw.2
    exact ⟨r, h', hq, hR.go fun G p l e R s m args below meth c H locs cells slots ls Qp hC hH hL hk => lv_idiv hC.1 hC.2.1 hd hw.1 (hk ls hL)⟩
  · exact hw.elim
theorem s_rem : sfor .irem 1 (i_divs (fun x y => x - x / y * y)) := by
  intro d M Q pc K hd hK A st h hw
  unfold i_divs at hw
  split at hw
  · obtain ⟨r, h', hq, hR⟩ := hK _ _ _ hw.2
    exact ⟨r, h', hq, hR.go fun G p l e R s m args below meth c H locs cells slots ls Qp hC hH hL hk => lv_irem hC.1 hC.2.1 hd hw.1 (hk ls hL)⟩
  · exact hw.elim
def i_i2l (K : Kt) : Kt := fun A st h => match st with
  | .int x :: st => K A (.long x.toInt64 :: st) h
  | _ => False
theorem s_i2l : sfor .i2l 1 i_i2l := by
  intro d M Q pc K hd hK A st h hw
  unfold i_i2l at hw
  split at hw
  · obtain ⟨r, h', hq, hR⟩ := hK _ _ _ hw
    exact ⟨r, h', hq, hR.go fun G p l e R s m args below meth c H locs cells slots ls Qp hC hH hL hk => lv_i2l hC.1 hC.2.1 hd rfl (hk ls hL)⟩
  · exact hw.elim
def i_lshl (K : Kt) : Kt := fun A st h => match st with
  | .int y :: .long x :: st => K A (.long (x <<< (y.toInt64 &&& 63)) :: st) h
  | _ => False
theorem s_lshl : sfor .lshl 1 i_lshl := by
  intro d M Q pc K hd hK A st h hw
  unfold i_lshl at hw
  split at hw
  · obtain ⟨r, h', hq, hR⟩ := hK _ _ _ hw
    exact ⟨r, h', hq, hR.go fun G p l e R s m args below meth c H locs cells slots ls Qp hC hH hL hk => lv_lshl hC.1 hC.2.1 hd rfl (hk ls hL)⟩
  · exact hw.elim
def i_lor (K : Kt) : Kt := fun A st h => match st with
  | .long y :: .long x :: st => K A (.long (x ||| y) :: st) h
  | _ => False
theorem s_lor : sfor .lor 1 i_lor := by
  intro d M Q pc K hd hK A st h hw
  unfold i_lor at hw
  split at hw
  · obtain ⟨r, h', hq, hR⟩ := hK _ _ _ hw
    exact ⟨r, h', hq, hR.go fun G p l e R s m args below meth c H locs cells slots ls Qp hC hH hL hk => lv_lor hC.1 hC.2.1 hd (hk ls hL)⟩
  · exact hw.elim
/-! the stack -/
def i_dup (K : Kt) : Kt := fun A st h => match st with
  | .int x :: st => K A (.int x :: .int x :: st) h
  | .ref x :: st => K A (.ref x :: .ref x :: st) h
  | _ => False
theorem s_dup : sfor .dup 1 i_dup := by
  intro d M Q pc K hd hK A st h hw
  unfold i_dup at hw
  split at hw
  · obtain ⟨r, h', hq, hR⟩ := hK _ _ _ hw
    exact ⟨r, h', hq, hR.go fun G p l e R s m args below meth c H locs cells slots ls Qp hC hH hL hk => lv_dup hC.1 hC.2.1 hd rfl (hk ls hL)⟩
  · obtain ⟨r, h', hq, hR⟩ := hK _ _ _ hw
    exact ⟨r, h', hq, hR.go fun G p l e R s m args below meth c H locs cells slots ls Qp hC hH hL hk => lv_dup hC.1 hC.2.1 hd rfl (hk ls hL)⟩
  · exact hw.elim
def i_dup2 (K : Kt) : Kt := fun A st h => match st with
  | .int x :: .ref y :: st => K A (.int x :: .ref y :: .int x :: .ref y :: st) h
  | _ => False
theorem s_dup2 : sfor .dup2 1 i_dup2 := by
  intro d M Q pc K hd hK A st h hw
  unfold i_dup2 at hw
  split at hw
  · obtain ⟨r, h', hq, hR⟩ := hK _ _ _ hw
    exact ⟨r, h', hq, hR.go fun G p l e R s m args below meth c H locs cells slots ls Qp hC hH hL hk => lv_dup2_11 hC.1 hC.2.1 hd rfl rfl (hk ls hL)⟩
  · exact hw.elim
def i_pop (K : Kt) : Kt := fun A st h => match st with
  | .int _ :: st => K A st h
  | .ref _ :: st => K A st h
  | _ => False
theorem s_pop : sfor .pop 1 i_pop := by
  intro d M Q pc K hd hK A st h hw
  unfold i_pop at hw
  split at hw
  · obtain ⟨r, h', hq, hR⟩ := hK _ _ _ hw
    exact ⟨r, h', hq, hR.go fun G p l e R s m args below meth c H locs cells slots ls Qp hC hH hL hk => lv_pop hC.1 hC.2.1 hd rfl (hk ls hL)⟩
  · obtain ⟨r, h', hq, hR⟩ := hK _ _ _ hw
    exact ⟨r, h', hq, hR.go fun G p l e R s m args below meth c H locs cells slots ls Qp hC hH hL hk => lv_pop hC.1 hC.2.1 hd rfl (hk ls hL)⟩
  · exact hw.elim
