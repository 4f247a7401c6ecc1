/-! ===== the law: arguments, a case ===== -/
def bz (x : Int32) : Int32 := if x = 0 then 0 else 1
theorem bz_01 (x : Int32) : bz x = 0 ∨ bz x = 1 := by
  unfold bz
  split
  · exact Or.inl rfl
  · exact Or.inr rfl
/-- the instructions that push script[i + k], or script[i + k] != 0 -/
def aI : List (Nat × Bool) → List (Instr × Nat)
  | [] => []
  | (k, false) :: t => (.aload_n 0, 1) :: (.iload_n 3, 1) :: (.iconst k, 1) :: (.iadd, 1) :: (.iaload, 1) :: aI t
  | (k, true) :: t => (.aload_n 0, 1) :: (.iload_n 3, 1) :: (.iconst k, 1) :: (.iadd, 1) :: (.iaload, 1) :: (.ifCond .eq 7, 3) :: (.iconst 1, 1) :: (.goto 4, 3) :: (.iconst 0, 1) :: aI t
def aN : List (Nat × Bool) → Nat
  | [] => 0
  | (_, false) :: t => 5 + aN t
  | (_, true) :: t => 13 + aN t
def aV (xs : Nat → Int32) (i : Nat) : List (Nat × Bool) → List Value
  | [] => []
  | (k, false) :: t => .int (xs (i + k)) :: aV xs i t
  | (k, true) :: t => .int (bz (xs (i + k))) :: aV xs i t
theorem aV_len (xs : Nat → Int32) (i : Nat) : ∀ as, (aV xs i as).length = as.length
  | [] => rfl
  | (_, false) :: t => by rw [aV, List.length_cons, List.length_cons, aV_len xs i t]
  | (_, true) :: t => by rw [aV, List.length_cons, List.length_cons, aV_len xs i t]
/-- the law's locals -/
def lwA (i : Nat) : Lc := [some (.retAddr 33), some (.ref 0), some (.ref 44), some (.int (nI i))]
section LawCase
variable {Λ : Lx} {h : Hp}
theorem arg_go (hC : LwC Λ) {i k pc : Nat} {st : List Value} (hi : i + 6 ≤ xn Λ) (hk1 : 1 ≤ k) (hk : k ≤ 5) (d1 : decode code pc = .ok (.aload_n 0, 1)) (d2 : decode code (pc + 1) = .ok (.iload_n 3, 1)) (d3 : decode code (pc + 1 + 1) = .ok (.iconst k, 1)) (d4 : decode code (pc + 1 + 1 + 1) = .ok (.iadd, 1)) (d5 : decode code (pc + 1 + 1 + 1 + 1) = .ok (.iaload, 1)) (kk : lwp Λ (pc + 1 + 1 + 1 + 1 + 1) (lwA i) (.int (xx Λ (i + k)) :: st) h) : lwp Λ pc (lwA i) st h := by
  have hn := hC.2.2.2.2
  have hv : Int32.ofInt (k : Int) = nI k := by
    have : k = 1 ∨ k = 2 ∨ k = 3 ∨ k = 4 ∨ k = 5 := by omega
    rcases this with rfl | rfl | rfl | rfl | rfl <;> decide
  refine t_als hC (i := 0) d1 rfl rfl (t_ild hC (i := 3) d2 rfl rfl (t_iconst hC d3 hv (t_add hC d4 ?_)))
  rw [nI_add]
  refine t_sld hC (in_nI (by omega) (by omega)) d5 ?_
  rw [cl_nI (by omega)]
  exact kk
theorem args_go (hC : LwC Λ) {i : Nat} (hi : i + 6 ≤ xn Λ) : ∀ (as : List (Nat × Bool)) (pc : Nat) (st : List Value) (rest : List (Instr × Nat)), (∀ q ∈ as, 1 ≤ q.1 ∧ q.1 ≤ 5) → dseq code pc (aI as ++ rest) → (dseq code (pc + aN as) rest → lwp Λ (pc + aN as) (lwA i) ((aV (xx Λ) i as).reverse ++ st) h) → lwp Λ pc (lwA i) st h
  | [], pc, st, rest, _, D, kk => kk D
  | (k, false) :: t, pc, st, rest, ha, D, kk => by
    obtain ⟨d1, d2, d3, d4, d5, D⟩ := D
    have hk := ha (k, false) List.mem_cons_self
    refine arg_go hC hi hk.1 hk.2 d1 d2 d3 d4 d5 (args_go hC hi t _ _ rest (fun q hq => ha q (List.mem_cons_of_mem _ hq)) D (fun D2 => ?_))
    have e : pc + aN ((k, false) :: t) = pc + 1 + 1 + 1 + 1 + 1 + aN t := by rw [aN]; omega
    rw [e, aV, List.reverse_cons, List.append_assoc] at kk
    exact kk D2
  | (k, true) :: t, pc, st, rest, ha, D, kk => by
    obtain ⟨d1, d2, d3, d4, d5, d6, d7, d8, d9, D⟩ := D
    have hk := ha (k, true) List.mem_cons_self
    have hgo : ∀ v, v = bz (xx Λ (i + k)) → lwp Λ (pc + 1 + 1 + 1 + 1 + 1 + 3 + 1 + 3 + 1) (lwA i) (.int v :: st) h := fun v hv => by
      subst hv
      refine args_go hC hi t _ _ rest (fun q hq => ha q (List.mem_cons_of_mem _ hq)) D (fun D2 => ?_)
      have e : pc + aN ((k, true) :: t) = pc + 1 + 1 + 1 + 1 + 1 + 3 + 1 + 3 + 1 + aN t := by rw [aN]; omega
      rw [e, aV, List.reverse_cons, List.append_assoc] at kk
      exact kk D2
    refine arg_go hC hi hk.1 hk.2 d1 d2 d3 d4 d5 (t_ifeq hC (tgt := pc + 1 + 1 + 1 + 1 + 1 + 3 + 1 + 3) d6 (by omega) (fun z => ?_) (fun z => ?_))
    · refine t_iconst hC d9 (v := 0) (by decide) (hgo 0 ?_)
      unfold bz
      rw [if_pos z]
    · refine t_iconst hC d7 (v := 1) (by decide) (t_goto hC (tgt := pc + 1 + 1 + 1 + 1 + 1 + 3 + 1 + 3 + 1) d8 (by omega) (hgo 1 ?_))
      unfold bz
      rw [if_neg z]
/-- one case of the law: both are asked the same, and they answer alike -/
theorem case_go (hC : LwC Λ) {i pc dX dM i1 i2 n NX NM : Nat} {MX MM : Mt} {CX CM : String} {UX UM : u_T} {off : Int} (hi : i + 6 ≤ xn Λ) (as : List (Nat × Bool)) (ha : ∀ q ∈ as, 1 ≤ q.1 ∧ q.1 ≤ 5) (en : as.length = n)
    (D : dseq code pc ((.aload_n 1, 1) :: (aI as ++ (.invokevirtual i1, 3) :: (.aload_n 2, 1) :: (aI as ++ [(.invokevirtual i2, 3), (.if_icmp .eq off, 3)])))) (ht : ((pc + 1 + aN as + 3 + 1 + aN as + 3 : Nat) : Int) + off = (910 : Nat))
    (kX : clsOk 11 CX UX NX) (cX : MX.1.cls = CX) (mX : mOk MX n) (wX1 : Cond.methodLink R_law i1 MX.1 ∈ gw) (wX2 : Cond.instanceMethod MX.1 ∈ gw) (wX3 : Cond.selects CX MX.1 MX.1 ∈ gw) (dX4 : dX ≤ 40)
    (kM : clsOk 12 CM UM NM) (cM : MM.1.cls = CM) (mM : mOk MM n) (wM1 : Cond.methodLink R_law i2 MM.1 ∈ gw) (wM2 : Cond.instanceMethod MM.1 ∈ gw) (wM3 : Cond.selects CM MM.1 MM.1 ∈ gw) (dM4 : dM ≤ 40)
    (hcp : CP h) (hs : SOK dX MX dM MM (aV (xx Λ) i as) h) (b1 : hT h + 20 ≤ 600000) (b2 : hS h + 2000 ≤ 7302250) (kk : ∀ h2, CP h2 → hT h2 ≤ hT h + 20 → hS h2 ≤ hS h + 2000 → lwp Λ 910 (lwA i) [] h2) : lwp Λ pc (lwA i) [] h := by
  obtain ⟨d0, D⟩ := D
  obtain ⟨r, h1, ⟨x, rfl, hk44, r2, h2, ⟨rfl, hcp2, t1, t2⟩, hB2⟩, hB1⟩ := hs
  have g1 := hB2.1
  have g2 := hB2.2.1
  have f1 := hB1.1
  have f2 := hB1.2.1
  have hl := hcp.1
  have hm := hcp.2.1
  have t9 := hl.1
  have hk0 : hK h 0 = 11 := (lx_k hl).1
  have hlen : (aV (xx Λ) i as).length = n := by rw [aV_len]; exact en
  refine t_ald hC (i := 1) d0 rfl rfl (args_go hC hi as _ _ _ ha D (fun D => ?_))
  obtain ⟨d1, d2, D⟩ := D
  refine t_callV hC kX cX mX wX1 wX2 wX3 dX4 hlen (by omega) hk0 (by decide) hB1 (by omega) (by omega) d1 ?_
  refine t_ald hC (i := 2) d2 rfl rfl (args_go hC hi as _ _ _ ha D (fun D => ?_))
  obtain ⟨d3, d4, _⟩ := D
  refine t_callV hC kM cM mM wM1 wM2 wM3 dM4 (rest := [.int x]) hlen (by omega) hk44 (Nat.le_of_ble_eq_true rfl) hB2 (by omega) (by omega) d3 ?_
  exact t_cmpeq hC (tgt := 910) d4 ht (fun _ => kk h2 hcp2 t1 t2) (fun z => absurd rfl z)
end LawCase
