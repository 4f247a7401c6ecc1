/-- a branch that goes where its condition does not hold -/
theorem qBn {d : Nat} {M : Mt} {Q : Option Value → Hp → Prop} {pc : Nat} {K K2 : Kt} {L : List (Instr × Nat)} {ib : Int → Instr} {off : Int} {trb : Kt → Kt → Kt} (s : sbr ib (fun a b => trb b a)) (tgt : Nat) (ht : (pc : Int) + off = (tgt : Int)) (D : dseq M.2.1 pc ((ib off, 3) :: L)) (kt : ∀ A st h, K A st h → wp d M Q tgt A st h) (kf : dseq M.2.1 (pc + 3) L → ∀ A st h, K2 A st h → wp d M Q (pc + 3) A st h) : ∀ A st h, trb K2 K A st h → wp d M Q pc A st h := s d M Q pc off tgt K K2 ht D.1 kt (kf D.2)
theorem s_ifne2 : sbr (.ifCond .ne) (fun a b => i_if (fun x => x = 0) b a) := s_ifne
theorem s_cmpne2 : sbr (.if_icmp .ne) (fun a b => i_cmp (fun x y => x = y) b a) := s_cmpne
theorem s_ifnonnull2 : sbr .ifnonnull (fun a b => i_nul b a) := s_ifnonnull
/-- arguments of one word each, at most n -/
def c1 : Nat → List Value → Prop
  | _, [] => True
  | n + 1, .int _ :: t => c1 n t
  | n + 1, .ref _ :: t => c1 n t
  | n + 1, .null :: t => c1 n t
  | n + 1, .retAddr _ :: t => c1 n t
  | _, _ => False
theorem c1_ok : ∀ {n : Nat} {av : List Value}, c1 n av → (∀ v ∈ av, v.category = 1) ∧ av.length ≤ n
  | n, [], _ => ⟨fun v hv => (by cases hv), Nat.zero_le _⟩
  | n + 1, .int x :: t, h => by
    obtain ⟨h1, h2⟩ := c1_ok (n := n) (av := t) h
    exact ⟨fun v hv => (List.mem_cons.mp hv).elim (fun e => by rw [e]; rfl) (h1 v), Nat.succ_le_succ h2⟩
  | n + 1, .ref x :: t, h => by
    obtain ⟨h1, h2⟩ := c1_ok (n := n) (av := t) h
    exact ⟨fun v hv => (List.mem_cons.mp hv).elim (fun e => by rw [e]; rfl) (h1 v), Nat.succ_le_succ h2⟩
  | n + 1, .null :: t, h => by
    obtain ⟨h1, h2⟩ := c1_ok (n := n) (av := t) h
    exact ⟨fun v hv => (List.mem_cons.mp hv).elim (fun e => by rw [e]; rfl) (h1 v), Nat.succ_le_succ h2⟩
  | n + 1, .retAddr x :: t, h => by
    obtain ⟨h1, h2⟩ := c1_ok (n := n) (av := t) h
    exact ⟨fun v hv => (List.mem_cons.mp hv).elim (fun e => by rw [e]; rfl) (h1 v), Nat.succ_le_succ h2⟩
  | 0, v :: _, h => by cases v <;> exact h.elim
  | n + 1, .long _ :: _, h => by cases h
  | n + 1, .float _ :: _, h => by cases h
  | n + 1, .double _ :: _, h => by cases h
