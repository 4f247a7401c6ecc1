/-! ===== truths as numbers ===== -/
def b2i (p : Prop) [Decidable p] : Int32 := if p then 1 else 0
theorem b2i_t {p : Prop} [Decidable p] (h : p) : b2i p = 1 := if_pos h
theorem b2i_f {p : Prop} [Decidable p] (h : ¬ p) : b2i p = 0 := if_neg h
theorem b2i_0 {p : Prop} [Decidable p] : b2i p = 0 ↔ ¬ p := by unfold b2i; split <;> simp_all
theorem b2i_01 (p : Prop) [Decidable p] : b2i p = 0 ∨ b2i p = 1 := by unfold b2i; split <;> simp
theorem qY {d : Nat} {M : Mt} {Q : Option Value → Hp → Prop} {pc : Nat} {K : Kt} {L : List (Instr × Nat)} {tr : Kt → Kt} {own : String} {idx : Nat} (s : ∀ (d : Nat) (M : Mt) (Q : Option Value → Hp → Prop) (pc : Nat) (K : Kt), M.1.cls = own → 1 ≤ d → decode M.2.1 pc = .ok (.invokestatic idx, 3) → (∀ A st h, K A st h → wp d M Q (pc + 3) A st h) → ∀ A st h, tr K A st h → wp d M Q pc A st h) (ho : M.1.cls = own) (hd : 1 ≤ d) (D : dseq M.2.1 pc ((.invokestatic idx, 3) :: L)) (k : dseq M.2.1 (pc + 3) L → ∀ A st h, K A st h → wp d M Q (pc + 3) A st h) : ∀ A st h, tr K A st h → wp d M Q pc A st h := s d M Q pc K ho hd D.1 (k D.2)
