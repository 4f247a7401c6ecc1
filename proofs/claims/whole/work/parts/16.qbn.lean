/-- a branch that goes where its condition does not hold -/
theorem qBn {d : Nat} {M : Mt} {Q : Option Value → Hp → Prop} {pc : Nat} {K K2 : Kt} {L : List (Instr × Nat)} {ib : Int → Instr} {off : Int} {trb : Kt → Kt → Kt} (s : sbr ib (fun a b => trb b a)) (tgt : Nat) (ht : (pc : Int) + off = (tgt : Int)) (D : dseq M.2.1 pc ((ib off, 3) :: L)) (kt : ∀ A st h, K A st h → wp d M Q tgt A st h) (kf : dseq M.2.1 (pc + 3) L → ∀ A st h, K2 A st h → wp d M Q (pc + 3) A st h) : ∀ A st h, trb K2 K A st h → wp d M Q pc A st h := s d M Q pc off tgt K K2 ht D.1 kt (kf D.2)
theorem s_ifne2 : sbr (.ifCond .ne) (fun a b => i_if (fun x => x = 0) b a) := s_ifne
theorem s_cmpne2 : sbr (.if_icmp .ne) (fun a b => i_cmp (fun x y => x = y) b a) := s_cmpne
theorem s_ifnonnull2 : sbr .ifnonnull (fun a b => i_nul b a) := s_ifnonnull
