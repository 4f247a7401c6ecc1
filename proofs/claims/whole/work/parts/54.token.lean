/-! ===== TOKENS of a tape as pure things ===== -/
noncomputable def nxN (S : Nat → Prop) (a : Nat) : Nat := lst (fun k => a ≤ k ∧ ¬ S k)
theorem nxN_stop {S : Nat → Prop} {a : Nat} (h : ¬ S a) : nxN S a = a := lst_is ⟨Nat.le_refl _, h⟩ (fun j hj z => by omega)
theorem nxN_ok {S : Nat → Prop} {L : Nat} (hS : ∀ k, S k → k < L) (a : Nat) : a ≤ nxN S a ∧ ¬ S (nxN S a) ∧ ∀ k, a ≤ k → k < nxN S a → S k := by
  obtain ⟨h1, h2⟩ := lst_ok (S := fun k => a ≤ k ∧ ¬ S k) ⟨a + L, by omega, fun z => by have := hS _ z; omega⟩
  exact ⟨h1.1, h1.2, fun k hk hk2 => Classical.not_not.mp (fun z => h2 k hk2 ⟨hk, z⟩)⟩
theorem nxN_go {S : Nat → Prop} {L : Nat} (hS : ∀ k, S k → k < L) {a : Nat} (h : S a) : nxN S a = nxN S (a + 1) := by
  obtain ⟨h1, h2, h3⟩ := nxN_ok hS (a + 1)
  refine lst_is ⟨by omega, h2⟩ (fun j hj z => z.2 ?_)
  by_cases e : j = a
  · rw [e]; exact h
  · exact h3 j (by omega) hj
theorem nxN_le {S : Nat → Prop} {L : Nat} (hS : ∀ k, S k → k < L) {a : Nat} (ha : a ≤ L) : nxN S a ≤ L := by
  obtain ⟨h1, h2, h3⟩ := nxN_ok hS a
  rcases Nat.lt_or_ge L (nxN S a) with q | q
  · have := hS _ (h3 L ha q); omega
  · exact q
def isBl (c : Int32) : Prop := c = 10 ∨ c = 32
def isLe (c : Int32) : Prop := 97 ≤ c ∧ c ≤ 122
def isDi (c : Int32) : Prop := 48 ≤ c ∧ c ≤ 57
def isSg (c : Int32) : Prop := c = 58 ∨ c = 59 ∨ c = 60 ∨ c = 62 ∨ c = 61 ∨ c = 45
def sBl (B : Nat → Int32) (L : Nat) (k : Nat) : Prop := k < L ∧ isBl (B k)
def sLe (B : Nat → Int32) (L : Nat) (k : Nat) : Prop := k < L ∧ isLe (B k)
def sDi (B : Nat → Int32) (L : Nat) (k : Nat) : Prop := k < L ∧ isDi (B k)
noncomputable def kB (B : Nat → Int32) (L a : Nat) : Nat := nxN (sBl B L) a
noncomputable def eL (B : Nat → Int32) (L a : Nat) : Nat := nxN (sLe B L) a
noncomputable def eD (B : Nat → Int32) (L a : Nat) : Nat := nxN (sDi B L) a
def wv (B : Nat → Int32) (a : Nat) : Nat → Int64
  | 0 => 0
  | n + 1 => wv B a n <<< (Int32.toInt64 8 &&& 63) ||| (B (a + n)).toInt64
def nv (B : Nat → Int32) (a : Nat) : Nat → Int32
  | 0 => 0
  | n + 1 => if n < 4 then 10 * nv B a n + B (a + n) - 48 else nv B a n
noncomputable def tkE (B : Nat → Int32) (L b : Nat) : Nat := cif (b < L) (cif (isLe (B b)) (eL B L b) (cif (isDi (B b)) (eD B L b) (b + 1))) b
noncomputable def tkO (B : Nat → Int32) (L b : Nat) : Int32 := cif (b < L) (cif (isLe (B b)) 2 (cif (isDi (B b)) (if 4 < eD B L b - b then 1 else 3) (cif (isSg (B b)) 4 1))) 0
noncomputable def tkV (B : Nat → Int32) (L b : Nat) : Int32 := cif (b < L) (cif (isLe (B b)) (B b) (cif (isDi (B b)) (nv B b (eD B L b - b)) (B b))) (-1)
noncomputable def tkW (B : Nat → Int32) (L b : Nat) : Int64 := cif (b < L) (cif (isLe (B b)) (if 8 < eL B L b - b then 0 else wv B b (eL B L b - b)) 0) 0
def sB (B : Nat → Int32) (L k : Nat) : Int32 := if k < L then B k else -1
theorem by255 (x : Int32) : ∃ n, n ≤ 255 ∧ x &&& 255 = nI n := by
  refine ⟨(x &&& 255).toBitVec.toNat, ?_, ?_⟩
  · rw [Int32.toBitVec_and, BitVec.toNat_and]
    exact Nat.and_le_right
  · unfold nI
    apply Int32.toBitVec_inj.mp
    rw [Int32.toBitVec_ofNat']
    rw [BitVec.ofNat_toNat, BitVec.setWidth_eq]
def wIJ (h : Hp) (f : Nat → Nat → Int32) (g : Nat → Nat → Int64) : Hp := (hK h, hL h, f, hR h, g, hT h, hS h)
theorem LayM.wIJ {h : Hp} (hl : LayM h) (f : Nat → Nat → Int32) (g : Nat → Nat → Int64) : LayM (wIJ h f g) := hl
def NX (I f : Nat → Nat → Int32) (J g : Nat → Nat → Int64) (L a : Nat) : Prop :=
  f 44 37 = nI (tkE (fun k => I 45 k &&& 255) L (kB (fun k => I 45 k &&& 255) L a)) ∧ f 44 39 = nI (kB (fun k => I 45 k &&& 255) L a) ∧ f 44 40 = tkO (fun k => I 45 k &&& 255) L (kB (fun k => I 45 k &&& 255) L a) ∧ f 44 41 = tkV (fun k => I 45 k &&& 255) L (kB (fun k => I 45 k &&& 255) L a) ∧ g 44 42 = tkW (fun k => I 45 k &&& 255) L (kB (fun k => I 45 k &&& 255) L a) ∧ (∀ x i, ¬ (x = 44 ∧ (i = 37 ∨ i = 39 ∨ i = 40 ∨ i = 41)) → f x i = I x i) ∧ ∀ x i, ¬ (x = 44 ∧ i = 42) → g x i = J x i
def T_X12_next : Tr := fun av h Q => match av with
  | [.ref o] => o = 44 ∧ LayM h ∧ ∃ a L, a ≤ L ∧ L ≤ 500 ∧ hI h 44 37 = nI a ∧ hI h 44 38 = nI L ∧ ∀ f g, NX (hI h) f (hJ h) g L a → Q none (wIJ h f g)
  | _ => False
theorem see_ok {H : Hp} (hl : LayM H) {k L : Nat} (hk : k ≤ 500) (hL : L ≤ 500) (e37 : hI H 44 37 = nI k) (e38 : hI H 44 38 = nI L) {B : Nat → Int32} (eB : ∀ i, hI H 45 i &&& 255 = B i) {Q : Option Value → Hp → Prop} (hq : Q (some (.int (sB B L k))) H) : T_X12_see [.ref 44] H Q := by
  unfold T_X12_see
  simp only [b_X12_see_0, hl, lay_pI, lay_wI, lay_pJ, lm_t hl, lm_k hl, lm_r hl, lm_l hl, i_push, i_ild, i_ald, i_ist, i_ast, i_inc, i_bin, i_un, i_divs, i_i2l, i_lshl, i_lor, i_dup, i_dup2, i_pop, i_if, i_cmp, i_nul, i_vret, i_iret, i_zret, i_aret, i_keep, keep, lget, lset, ent, i_getI, i_getJ, i_getR, i_getN, i_putI, i_putZ, i_putJ, i_putR, i_iald, i_bald, i_alen, i_aald, i_iast, i_bast, i_aast, i_new, i_newa, i_anew, i_oini, i_callS, i_callV, i_callI, popn, sh4, i_sw, swP, i_copy, i_binS, List.map, Option.toList_none, Option.toList_some, List.append, List.nil_append, List.cons_append, List.length_cons, List.length_nil, List.replicate, Nat.sub_self, Nat.reduceSub, Nat.reduceAdd, hK_pI, hL_pI, hI_pI, hR_pI, hJ_pI, hT_pI, hS_pI, hK_pR, hL_pR, hI_pR, hR_pR, hJ_pR, hT_pR, hS_pR, hK_pJ, hL_pJ, hI_pJ, hR_pJ, hJ_pJ, hT_pJ, hS_pJ, hK_wI, hL_wI, hI_wI, hR_wI, hJ_wI, hT_wI, hS_wI, eq_self, and_true, true_and, and_false, false_and, or_true, true_or, or_false, false_or, if_true, if_false, not_true_eq_false, not_false_eq_true, forall_const, implies_true, false_implies, true_implies, Option.some.injEq, forall_eq', exists_eq_left', reduceCtorEq, Nat.reduceEqDiff, c1, T_X12_in, T_X12_ones, T_X11_within, T_X11_bit, T_X11_isIn, T_X11_oneIfIn, T_J6_bitCount_0f7a4, e37, e38, cl_nI (show k < 2147483648 by omega), eB]
  unfold sB at hq
  refine ⟨fun z => ?_, fun z => ?_⟩
  · rw [if_neg (fun c => absurd z (nI_ge c (by omega)))] at hq; exact hq
  · have : k < L := Nat.lt_of_not_le (fun c => z (nI_le c (by omega)))
    rw [if_pos this] at hq
    exact ⟨in_nI (by omega) (by decide), hq⟩
def L_X12_next : List UInt8 := [42, 182, 0, 175, 16, 10, 159, 0, 12, 42, 182, 0, 175, 16, 32, 160, 0, 16, 42, 89, 180, 0, 169, 4, 96, 181, 0, 169, 167, 255, 228, 42, 42, 180, 0, 169, 181, 0, 179, 42, 182, 0, 175, 60, 42, 27, 181, 0, 182, 42, 9, 181, 0, 185, 27, 156, 0, 11, 42, 3, 181, 0, 189, 167, 0, 240, 27, 16, 97, 16, 122, 184, 0, 165, 153, 0, 78, 3, 61, 42, 182, 0, 175, 16, 97, 16, 122, 184, 0, 165, 153, 0, 36, 42, 42, 180, 0, 185, 16, 8, 121, 42, 182, 0, 175, 133, 129, 181, 0, 185, 42, 89, 180, 0, 169, 4, 96, 181, 0, 169, 132, 2, 1, 167, 255, 212, 42, 28, 16, 8, 164, 0, 7, 9, 167, 0, 7, 42, 180, 0, 185, 181, 0, 185, 42, 5, 181, 0, 189, 167, 0, 154, 27, 16, 48, 16, 57, 184, 0, 165, 153, 0, 88, 3, 61, 42, 3, 181, 0, 182, 42, 182, 0, 175, 16, 48, 16, 57, 184, 0, 165, 153, 0, 50, 42, 28, 7, 162, 0, 21, 16, 10, 42, 180, 0, 182, 104, 42, 182, 0, 175, 96, 16, 48, 100, 167, 0, 7, 42, 180, 0, 182, 181, 0, 182, 42, 89, 180, 0, 169, 4, 96, 181, 0, 169, 132, 2, 1, 167, 255, 198, 42, 28, 7, 164, 0, 7, 4, 167, 0, 4, 6, 181, 0, 189, 167, 0, 58, 42, 89, 180, 0, 169, 4, 96, 181, 0, 169, 42, 27, 16, 58, 159, 0, 33, 27, 16, 59, 159, 0, 27, 27, 16, 60, 159, 0, 21, 27, 16, 62, 159, 0, 15, 27, 16, 61, 159, 0, 9, 27, 16, 45, 160, 0, 7, 7, 167, 0, 4, 4, 181, 0, 189, 177]
theorem Lc_X12_next : MX12_next.2.1 = ⟨L_X12_next.toArray⟩ := rfl
theorem D_X12_next_0 : dseq MX12_next.2.1 0 [(.aload_n 0, 1), (.invokevirtual 175, 3), (.bipush 10, 2), (.if_icmp .eq 12, 3), (.aload_n 0, 1), (.invokevirtual 175, 3), (.bipush 32, 2), (.if_icmp .ne 16, 3)] := dq Lc_X12_next 0 _ (by decide +kernel)
theorem D_X12_next_31 : dseq MX12_next.2.1 31 [(.aload_n 0, 1), (.aload_n 0, 1), (.getfield 169, 3), (.putfield 179, 3), (.aload_n 0, 1), (.invokevirtual 175, 3), (.istore_n 1, 1), (.aload_n 0, 1), (.iload_n 1, 1), (.putfield 182, 3), (.aload_n 0, 1), (.lconst 0, 1), (.putfield 185, 3), (.iload_n 1, 1), (.ifCond .ge 11, 3), (.aload_n 0, 1), (.iconst 0, 1), (.putfield 189, 3), (.goto 240, 3)] := dq Lc_X12_next 31 _ (by decide +kernel)
theorem D_X12_next_66 : dseq MX12_next.2.1 66 [(.iload_n 1, 1), (.bipush 97, 2), (.bipush 122, 2), (.invokestatic 165, 3), (.ifCond .eq 78, 3), (.iconst 0, 1), (.istore_n 2, 1)] := dq Lc_X12_next 66 _ (by decide +kernel)
theorem D_X12_next_152 : dseq MX12_next.2.1 152 [(.iload_n 1, 1), (.bipush 48, 2), (.bipush 57, 2), (.invokestatic 165, 3), (.ifCond .eq 88, 3), (.iconst 0, 1), (.istore_n 2, 1), (.aload_n 0, 1), (.iconst 0, 1), (.putfield 182, 3)] := dq Lc_X12_next 152 _ (by decide +kernel)
theorem D_X12_next_248 : dseq MX12_next.2.1 248 [(.aload_n 0, 1), (.dup, 1), (.getfield 169, 3), (.iconst 1, 1), (.iadd, 1), (.putfield 169, 3), (.aload_n 0, 1), (.iload_n 1, 1), (.bipush 58, 2), (.if_icmp .eq 33, 3), (.iload_n 1, 1), (.bipush 59, 2), (.if_icmp .eq 27, 3), (.iload_n 1, 1), (.bipush 60, 2), (.if_icmp .eq 21, 3), (.iload_n 1, 1), (.bipush 62, 2), (.if_icmp .eq 15, 3), (.iload_n 1, 1), (.bipush 61, 2), (.if_icmp .eq 9, 3), (.iload_n 1, 1), (.bipush 45, 2), (.if_icmp .ne 7, 3)] := dq Lc_X12_next 248 _ (by decide +kernel)
theorem D_X12_next_299 : dseq MX12_next.2.1 299 [(.iconst 1, 1), (.putfield 189, 3), (.return_, 1)] := dq Lc_X12_next 299 _ (by decide +kernel)
theorem D_X12_next_303 : dseq MX12_next.2.1 303 [(.return_, 1)] := dq Lc_X12_next 303 _ (by decide +kernel)
theorem D_X12_next_18 : dseq MX12_next.2.1 18 [(.aload_n 0, 1), (.dup, 1), (.getfield 169, 3), (.iconst 1, 1), (.iadd, 1), (.putfield 169, 3), (.goto (-28), 3)] := dq Lc_X12_next 18 _ (by decide +kernel)
theorem D_X12_next_79 : dseq MX12_next.2.1 79 [(.aload_n 0, 1), (.invokevirtual 175, 3), (.bipush 97, 2), (.bipush 122, 2), (.invokestatic 165, 3), (.ifCond .eq 36, 3), (.aload_n 0, 1), (.aload_n 0, 1), (.getfield 185, 3), (.bipush 8, 2), (.lshl, 1), (.aload_n 0, 1), (.invokevirtual 175, 3), (.i2l, 1), (.lor, 1), (.putfield 185, 3), (.aload_n 0, 1), (.dup, 1), (.getfield 169, 3), (.iconst 1, 1), (.iadd, 1), (.putfield 169, 3), (.iinc 2 1, 3), (.goto (-44), 3)] := dq Lc_X12_next 79 _ (by decide +kernel)
theorem D_X12_next_126 : dseq MX12_next.2.1 126 [(.aload_n 0, 1), (.iload_n 2, 1), (.bipush 8, 2), (.if_icmp .le 7, 3), (.lconst 0, 1), (.goto 7, 3)] := dq Lc_X12_next 126 _ (by decide +kernel)
theorem D_X12_next_137 : dseq MX12_next.2.1 137 [(.aload_n 0, 1), (.getfield 185, 3)] := dq Lc_X12_next 137 _ (by decide +kernel)
theorem D_X12_next_141 : dseq MX12_next.2.1 141 [(.putfield 185, 3), (.aload_n 0, 1), (.iconst 2, 1), (.putfield 189, 3), (.goto 154, 3)] := dq Lc_X12_next 141 _ (by decide +kernel)
theorem D_X12_next_170 : dseq MX12_next.2.1 170 [(.aload_n 0, 1), (.invokevirtual 175, 3), (.bipush 48, 2), (.bipush 57, 2), (.invokestatic 165, 3), (.ifCond .eq 50, 3), (.aload_n 0, 1), (.iload_n 2, 1), (.iconst 4, 1), (.if_icmp .ge 21, 3), (.bipush 10, 2), (.aload_n 0, 1), (.getfield 182, 3), (.imul, 1), (.aload_n 0, 1), (.invokevirtual 175, 3), (.iadd, 1), (.bipush 48, 2), (.isub, 1), (.goto 7, 3)] := dq Lc_X12_next 170 _ (by decide +kernel)
theorem D_X12_next_231 : dseq MX12_next.2.1 231 [(.aload_n 0, 1), (.iload_n 2, 1), (.iconst 4, 1), (.if_icmp .le 7, 3), (.iconst 1, 1), (.goto 4, 3)] := dq Lc_X12_next 231 _ (by decide +kernel)
theorem D_X12_next_241 : dseq MX12_next.2.1 241 [(.iconst 3, 1)] := dq Lc_X12_next 241 _ (by decide +kernel)
theorem D_X12_next_208 : dseq MX12_next.2.1 208 [(.aload_n 0, 1), (.getfield 182, 3)] := dq Lc_X12_next 208 _ (by decide +kernel)
theorem D_X12_next_212 : dseq MX12_next.2.1 212 [(.putfield 182, 3), (.aload_n 0, 1), (.dup, 1), (.getfield 169, 3), (.iconst 1, 1), (.iadd, 1), (.putfield 169, 3), (.iinc 2 1, 3), (.goto (-58), 3)] := dq Lc_X12_next 212 _ (by decide +kernel)
theorem D_X12_next_242 : dseq MX12_next.2.1 242 [(.putfield 189, 3), (.goto 58, 3)] := dq Lc_X12_next 242 _ (by decide +kernel)
theorem D_X12_next_295 : dseq MX12_next.2.1 295 [(.iconst 4, 1), (.goto 4, 3)] := dq Lc_X12_next 295 _ (by decide +kernel)
theorem D_X12_next_300 : dseq MX12_next.2.1 300 [(.putfield 189, 3), (.return_, 1)] := dq Lc_X12_next 300 _ (by decide +kernel)
def c_X12_next_43 (Q : Option Value → Hp → Prop) : Kt := i_ist 1 (i_ald 0 (i_ild 1 (i_putI 12 41 (i_ald 0 (i_push (.long 0) (i_putJ 12 42 (i_ild 1 (i_if (fun x => 0 ≤ x) (i_ild 1 (i_push (.int 97) (i_push (.int 122) (i_callS 3 T_X12_in (i_if (fun x => x = 0) (i_ild 1 (i_push (.int 48) (i_push (.int 57) (i_callS 3 T_X12_in (i_if (fun x => x = 0) (i_ald 0 (i_dup (i_getI 12 37 (i_push (.int 1) (i_bin (fun x y => x + y) (i_putI 12 37 (i_ald 0 (i_ild 1 (i_push (.int 58) (i_cmp (fun x y => x = y) (i_keep [false, false, false] (wp 1 MX12_next Q 295)) (i_ild 1 (i_push (.int 59) (i_cmp (fun x y => x = y) (i_keep [false, false, false] (wp 1 MX12_next Q 295)) (i_ild 1 (i_push (.int 60) (i_cmp (fun x y => x = y) (i_keep [false, false, false] (wp 1 MX12_next Q 295)) (i_ild 1 (i_push (.int 62) (i_cmp (fun x y => x = y) (i_keep [false, false, false] (wp 1 MX12_next Q 295)) (i_ild 1 (i_push (.int 61) (i_cmp (fun x y => x = y) (i_keep [false, false, false] (wp 1 MX12_next Q 295)) (i_ild 1 (i_push (.int 45) (i_cmp (fun x y => x = y) (i_keep [false, false, false] (wp 1 MX12_next Q 295)) (i_push (.int 1) (i_putI 12 40 (i_vret Q)))))))))))))))))))))))))))) (i_push (.int 0) (i_ist 2 (i_ald 0 (i_push (.int 0) (i_putI 12 41 (i_keep [true, false, true] (wp 1 MX12_next Q 170)))))))))))) (i_push (.int 0) (i_ist 2 (i_keep [true, false, true] (wp 1 MX12_next Q 79))))))))) (i_ald 0 (i_push (.int 0) (i_putI 12 40 (i_vret Q))))))))))))
def c_X12_next_13 (Q : Option Value → Hp → Prop) : Kt := i_push (.int 32) (i_cmp (fun x y => x = y) (i_keep [true, false, false] (wp 1 MX12_next Q 18)) (i_ald 0 (i_ald 0 (i_getI 12 37 (i_putI 12 39 (i_ald 0 (i_callV 12 0 T_X12_see (c_X12_next_43 Q))))))))
def c_X12_next_4 (Q : Option Value → Hp → Prop) : Kt := i_push (.int 10) (i_cmp (fun x y => x = y) (i_keep [true, false, false] (wp 1 MX12_next Q 18)) (i_ald 0 (i_callV 12 0 T_X12_see (c_X12_next_13 Q))))
def c_X12_next_105 (Q : Option Value → Hp → Prop) : Kt := i_i2l (i_lor (i_putJ 12 42 (i_ald 0 (i_dup (i_getI 12 37 (i_push (.int 1) (i_bin (fun x y => x + y) (i_putI 12 37 (i_inc 2 1 (i_keep [true, false, true] (wp 1 MX12_next Q 79)))))))))))
def c_X12_next_83 (Q : Option Value → Hp → Prop) : Kt := i_push (.int 97) (i_push (.int 122) (i_callS 3 T_X12_in (i_if (fun x => x = 0) (i_ald 0 (i_ild 2 (i_push (.int 8) (i_cmp (fun x y => x ≤ y) (i_ald 0 (i_getJ 12 42 (i_keep [true, false, false] (wp 1 MX12_next Q 141)))) (i_push (.long 0) (i_keep [true, false, false] (wp 1 MX12_next Q 141))))))) (i_ald 0 (i_ald 0 (i_getJ 12 42 (i_push (.int 8) (i_lshl (i_ald 0 (i_callV 12 0 T_X12_see (c_X12_next_105 Q)))))))))))
def c_X12_next_201 (Q : Option Value → Hp → Prop) : Kt := i_bin (fun x y => x + y) (i_push (.int 48) (i_bin (fun x y => x - y) (i_keep [true, false, true] (wp 1 MX12_next Q 212))))
def c_X12_next_174 (Q : Option Value → Hp → Prop) : Kt := i_push (.int 48) (i_push (.int 57) (i_callS 3 T_X12_in (i_if (fun x => x = 0) (i_ald 0 (i_ild 2 (i_push (.int 4) (i_cmp (fun x y => x ≤ y) (i_push (.int 3) (i_keep [false, false, false] (wp 1 MX12_next Q 242))) (i_push (.int 1) (i_keep [false, false, false] (wp 1 MX12_next Q 242))))))) (i_ald 0 (i_ild 2 (i_push (.int 4) (i_cmp (fun x y => y ≤ x) (i_ald 0 (i_getI 12 41 (i_keep [true, false, true] (wp 1 MX12_next Q 212)))) (i_push (.int 10) (i_ald 0 (i_getI 12 41 (i_bin (fun x y => x * y) (i_ald 0 (i_callV 12 0 T_X12_see (c_X12_next_201 Q))))))))))))))
def b_X12_next_0 (Q : Option Value → Hp → Prop) : Kt := i_ald 0 (i_callV 12 0 T_X12_see (c_X12_next_4 Q))
set_option maxRecDepth 100000 in
theorem s_X12_next_0 (Q : Option Value → Hp → Prop) : ∀ A st h, b_X12_next_0 Q A st h → wp 1 MX12_next Q 0 A st h := (q1 (s_aldn (n := 0) (i := 0) rfl) D_X12_next_0 fun D => (qX (s_callV kX12 rfl ok_X12_see mo_X12_see (ch_5_14_ok.2.2.2.1.1 rfl) (ch_5_14_ok.2.2.2.2.2.1.1 rfl) (pv_2.2.2.2.2.2.2.1)) rfl (by decide) D fun D => (q1 (s_bipush (n := 10) (v := 10) (by decide)) D fun D => (qB s_cmpeq 18 (by decide) D (s_keep [true, false, false] fun _ _ _ h => h) fun D => (q1 (s_aldn (n := 0) (i := 0) rfl) D fun D => (qX (s_callV kX12 rfl ok_X12_see mo_X12_see (ch_5_14_ok.2.2.2.1.1 rfl) (ch_5_14_ok.2.2.2.2.2.1.1 rfl) (pv_2.2.2.2.2.2.2.1)) rfl (by decide) D fun D => (q1 (s_bipush (n := 32) (v := 32) (by decide)) D fun D => (qBn s_cmpne2 31 (by decide) D (q1 (s_aldn (n := 0) (i := 0) rfl) D_X12_next_31 fun D => (q1 (s_aldn (n := 0) (i := 0) rfl) D fun D => (qC fl_X12_169 rfl D fun D => (qP pl_X12_179 rfl (Or.inl rfl) D fun D => (q1 (s_aldn (n := 0) (i := 0) rfl) D fun D => (qX (s_callV kX12 rfl ok_X12_see mo_X12_see (ch_5_14_ok.2.2.2.1.1 rfl) (ch_5_14_ok.2.2.2.2.2.1.1 rfl) (pv_2.2.2.2.2.2.2.1)) rfl (by decide) D fun D => (qL (s_istn (n := 1) (i := 1) rfl) (by decide) D fun D => (q1 (s_aldn (n := 0) (i := 0) rfl) D fun D => (q1 (s_ildn (n := 1) (i := 1) rfl) D fun D => (qP pl_X12_182 rfl (Or.inl rfl) D fun D => (q1 (s_aldn (n := 0) (i := 0) rfl) D fun D => (q1 (s_lconst (n := 0) (v := 0) (by decide)) D fun D => (qP pl_X12_185 rfl (Or.inl rfl) D fun D => (q1 (s_ildn (n := 1) (i := 1) rfl) D fun D => (qB s_ifge 66 (by decide) D (q1 (s_ildn (n := 1) (i := 1) rfl) D_X12_next_66 fun D => (q1 (s_bipush (n := 97) (v := 97) (by decide)) D fun D => (q1 (s_bipush (n := 122) (v := 122) (by decide)) D fun D => (qX (s_callS ok_X12_in mo_X12_in (ch_5_13_ok.2.2.2.2.2.2.2.2.1.1 rfl) (ch_5_13_ok.2.2.2.2.2.2.2.2.2.1.1 rfl)) rfl (by decide) D fun D => (qB s_ifeq 152 (by decide) D (q1 (s_ildn (n := 1) (i := 1) rfl) D_X12_next_152 fun D => (q1 (s_bipush (n := 48) (v := 48) (by decide)) D fun D => (q1 (s_bipush (n := 57) (v := 57) (by decide)) D fun D => (qX (s_callS ok_X12_in mo_X12_in (ch_5_13_ok.2.2.2.2.2.2.2.2.1.1 rfl) (ch_5_13_ok.2.2.2.2.2.2.2.2.2.1.1 rfl)) rfl (by decide) D fun D => (qB s_ifeq 248 (by decide) D (q1 (s_aldn (n := 0) (i := 0) rfl) D_X12_next_248 fun D => (q1 s_dup D fun D => (qC fl_X12_169 rfl D fun D => (q1 (s_iconst (n := 1) (v := 1) (by decide)) D fun D => (q1 s_add D fun D => (qP pl_X12_169 rfl (Or.inl rfl) D fun D => (q1 (s_aldn (n := 0) (i := 0) rfl) D fun D => (q1 (s_ildn (n := 1) (i := 1) rfl) D fun D => (q1 (s_bipush (n := 58) (v := 58) (by decide)) D fun D => (qB s_cmpeq 295 (by decide) D (s_keep [false, false, false] fun _ _ _ h => h) fun D => (q1 (s_ildn (n := 1) (i := 1) rfl) D fun D => (q1 (s_bipush (n := 59) (v := 59) (by decide)) D fun D => (qB s_cmpeq 295 (by decide) D (s_keep [false, false, false] fun _ _ _ h => h) fun D => (q1 (s_ildn (n := 1) (i := 1) rfl) D fun D => (q1 (s_bipush (n := 60) (v := 60) (by decide)) D fun D => (qB s_cmpeq 295 (by decide) D (s_keep [false, false, false] fun _ _ _ h => h) fun D => (q1 (s_ildn (n := 1) (i := 1) rfl) D fun D => (q1 (s_bipush (n := 62) (v := 62) (by decide)) D fun D => (qB s_cmpeq 295 (by decide) D (s_keep [false, false, false] fun _ _ _ h => h) fun D => (q1 (s_ildn (n := 1) (i := 1) rfl) D fun D => (q1 (s_bipush (n := 61) (v := 61) (by decide)) D fun D => (qB s_cmpeq 295 (by decide) D (s_keep [false, false, false] fun _ _ _ h => h) fun D => (q1 (s_ildn (n := 1) (i := 1) rfl) D fun D => (q1 (s_bipush (n := 45) (v := 45) (by decide)) D fun D => (qBn s_cmpne2 299 (by decide) D (q1 (s_iconst (n := 1) (v := 1) (by decide)) D_X12_next_299 fun D => (qP pl_X12_189 rfl (Or.inl rfl) D fun D => (qV rfl D))) fun D => (s_keep [false, false, false] fun _ _ _ h => h)))))))))))))))))))))))))) fun D => (q1 (s_iconst (n := 0) (v := 0) (by decide)) D fun D => (qL (s_istn (n := 2) (i := 2) rfl) (by decide) D fun D => (q1 (s_aldn (n := 0) (i := 0) rfl) D fun D => (q1 (s_iconst (n := 0) (v := 0) (by decide)) D fun D => (qP pl_X12_182 rfl (Or.inl rfl) D fun D => (s_keep [true, false, true] fun _ _ _ h => h))))))))))) fun D => (q1 (s_iconst (n := 0) (v := 0) (by decide)) D fun D => (qL (s_istn (n := 2) (i := 2) rfl) (by decide) D fun D => (s_keep [true, false, true] fun _ _ _ h => h)))))))) fun D => (q1 (s_aldn (n := 0) (i := 0) rfl) D fun D => (q1 (s_iconst (n := 0) (v := 0) (by decide)) D fun D => (qP pl_X12_189 rfl (Or.inl rfl) D fun D => (qG 303 (by decide) D (qV rfl D_X12_next_303)))))))))))))))))))) fun D => (s_keep [true, false, false] fun _ _ _ h => h)))))))))
def b_X12_next_18 (Q : Option Value → Hp → Prop) : Kt := i_ald 0 (i_dup (i_getI 12 37 (i_push (.int 1) (i_bin (fun x y => x + y) (i_putI 12 37 (i_keep [true, false, false] (wp 1 MX12_next Q 0)))))))
set_option maxRecDepth 100000 in
theorem s_X12_next_18 (Q : Option Value → Hp → Prop) : ∀ A st h, b_X12_next_18 Q A st h → wp 1 MX12_next Q 18 A st h := (q1 (s_aldn (n := 0) (i := 0) rfl) D_X12_next_18 fun D => (q1 s_dup D fun D => (qC fl_X12_169 rfl D fun D => (q1 (s_iconst (n := 1) (v := 1) (by decide)) D fun D => (q1 s_add D fun D => (qP pl_X12_169 rfl (Or.inl rfl) D fun D => (qG 0 (by decide) D (s_keep [true, false, false] fun _ _ _ h => h))))))))
def b_X12_next_79 (Q : Option Value → Hp → Prop) : Kt := i_ald 0 (i_callV 12 0 T_X12_see (c_X12_next_83 Q))
set_option maxRecDepth 100000 in
theorem s_X12_next_79 (Q : Option Value → Hp → Prop) : ∀ A st h, b_X12_next_79 Q A st h → wp 1 MX12_next Q 79 A st h := (q1 (s_aldn (n := 0) (i := 0) rfl) D_X12_next_79 fun D => (qX (s_callV kX12 rfl ok_X12_see mo_X12_see (ch_5_14_ok.2.2.2.1.1 rfl) (ch_5_14_ok.2.2.2.2.2.1.1 rfl) (pv_2.2.2.2.2.2.2.1)) rfl (by decide) D fun D => (q1 (s_bipush (n := 97) (v := 97) (by decide)) D fun D => (q1 (s_bipush (n := 122) (v := 122) (by decide)) D fun D => (qX (s_callS ok_X12_in mo_X12_in (ch_5_13_ok.2.2.2.2.2.2.2.2.1.1 rfl) (ch_5_13_ok.2.2.2.2.2.2.2.2.2.1.1 rfl)) rfl (by decide) D fun D => (qB s_ifeq 126 (by decide) D (q1 (s_aldn (n := 0) (i := 0) rfl) D_X12_next_126 fun D => (q1 (s_ildn (n := 2) (i := 2) rfl) D fun D => (q1 (s_bipush (n := 8) (v := 8) (by decide)) D fun D => (qB s_cmple 137 (by decide) D (q1 (s_aldn (n := 0) (i := 0) rfl) D_X12_next_137 fun D => (qC fl_X12_185 rfl D fun D => (s_keep [true, false, false] fun _ _ _ h => h))) fun D => (q1 (s_lconst (n := 0) (v := 0) (by decide)) D fun D => (qG 141 (by decide) D (s_keep [true, false, false] fun _ _ _ h => h))))))) fun D => (q1 (s_aldn (n := 0) (i := 0) rfl) D fun D => (q1 (s_aldn (n := 0) (i := 0) rfl) D fun D => (qC fl_X12_185 rfl D fun D => (q1 (s_bipush (n := 8) (v := 8) (by decide)) D fun D => (q1 s_lshl D fun D => (q1 (s_aldn (n := 0) (i := 0) rfl) D fun D => (qX (s_callV kX12 rfl ok_X12_see mo_X12_see (ch_5_14_ok.2.2.2.1.1 rfl) (ch_5_14_ok.2.2.2.2.2.1.1 rfl) (pv_2.2.2.2.2.2.2.1)) rfl (by decide) D fun D => (q1 s_i2l D fun D => (q1 s_lor D fun D => (qP pl_X12_185 rfl (Or.inl rfl) D fun D => (q1 (s_aldn (n := 0) (i := 0) rfl) D fun D => (q1 s_dup D fun D => (qC fl_X12_169 rfl D fun D => (q1 (s_iconst (n := 1) (v := 1) (by decide)) D fun D => (q1 s_add D fun D => (qP pl_X12_169 rfl (Or.inl rfl) D fun D => (qL (s_inc (i := 2) (n := 1) (v := 1) (by decide)) (by decide) D fun D => (qG 79 (by decide) D (s_keep [true, false, true] fun _ _ _ h => h)))))))))))))))))))))))))
def b_X12_next_141 (Q : Option Value → Hp → Prop) : Kt := i_putJ 12 42 (i_ald 0 (i_push (.int 2) (i_putI 12 40 (i_vret Q))))
set_option maxRecDepth 100000 in
theorem s_X12_next_141 (Q : Option Value → Hp → Prop) : ∀ A st h, b_X12_next_141 Q A st h → wp 1 MX12_next Q 141 A st h := (qP pl_X12_185 rfl (Or.inl rfl) D_X12_next_141 fun D => (q1 (s_aldn (n := 0) (i := 0) rfl) D fun D => (q1 (s_iconst (n := 2) (v := 2) (by decide)) D fun D => (qP pl_X12_189 rfl (Or.inl rfl) D fun D => (qG 303 (by decide) D (qV rfl D_X12_next_303))))))
def b_X12_next_170 (Q : Option Value → Hp → Prop) : Kt := i_ald 0 (i_callV 12 0 T_X12_see (c_X12_next_174 Q))
set_option maxRecDepth 100000 in
theorem s_X12_next_170 (Q : Option Value → Hp → Prop) : ∀ A st h, b_X12_next_170 Q A st h → wp 1 MX12_next Q 170 A st h := (q1 (s_aldn (n := 0) (i := 0) rfl) D_X12_next_170 fun D => (qX (s_callV kX12 rfl ok_X12_see mo_X12_see (ch_5_14_ok.2.2.2.1.1 rfl) (ch_5_14_ok.2.2.2.2.2.1.1 rfl) (pv_2.2.2.2.2.2.2.1)) rfl (by decide) D fun D => (q1 (s_bipush (n := 48) (v := 48) (by decide)) D fun D => (q1 (s_bipush (n := 57) (v := 57) (by decide)) D fun D => (qX (s_callS ok_X12_in mo_X12_in (ch_5_13_ok.2.2.2.2.2.2.2.2.1.1 rfl) (ch_5_13_ok.2.2.2.2.2.2.2.2.2.1.1 rfl)) rfl (by decide) D fun D => (qB s_ifeq 231 (by decide) D (q1 (s_aldn (n := 0) (i := 0) rfl) D_X12_next_231 fun D => (q1 (s_ildn (n := 2) (i := 2) rfl) D fun D => (q1 (s_iconst (n := 4) (v := 4) (by decide)) D fun D => (qB s_cmple 241 (by decide) D (q1 (s_iconst (n := 3) (v := 3) (by decide)) D_X12_next_241 fun D => (s_keep [false, false, false] fun _ _ _ h => h)) fun D => (q1 (s_iconst (n := 1) (v := 1) (by decide)) D fun D => (qG 242 (by decide) D (s_keep [false, false, false] fun _ _ _ h => h))))))) fun D => (q1 (s_aldn (n := 0) (i := 0) rfl) D fun D => (q1 (s_ildn (n := 2) (i := 2) rfl) D fun D => (q1 (s_iconst (n := 4) (v := 4) (by decide)) D fun D => (qB s_cmpge 208 (by decide) D (q1 (s_aldn (n := 0) (i := 0) rfl) D_X12_next_208 fun D => (qC fl_X12_182 rfl D fun D => (s_keep [true, false, true] fun _ _ _ h => h))) fun D => (q1 (s_bipush (n := 10) (v := 10) (by decide)) D fun D => (q1 (s_aldn (n := 0) (i := 0) rfl) D fun D => (qC fl_X12_182 rfl D fun D => (q1 s_mul D fun D => (q1 (s_aldn (n := 0) (i := 0) rfl) D fun D => (qX (s_callV kX12 rfl ok_X12_see mo_X12_see (ch_5_14_ok.2.2.2.1.1 rfl) (ch_5_14_ok.2.2.2.2.2.1.1 rfl) (pv_2.2.2.2.2.2.2.1)) rfl (by decide) D fun D => (q1 s_add D fun D => (q1 (s_bipush (n := 48) (v := 48) (by decide)) D fun D => (q1 s_sub D fun D => (qG 212 (by decide) D (s_keep [true, false, true] fun _ _ _ h => h)))))))))))))))))))))
def b_X12_next_212 (Q : Option Value → Hp → Prop) : Kt := i_putI 12 41 (i_ald 0 (i_dup (i_getI 12 37 (i_push (.int 1) (i_bin (fun x y => x + y) (i_putI 12 37 (i_inc 2 1 (i_keep [true, false, true] (wp 1 MX12_next Q 170)))))))))
set_option maxRecDepth 100000 in
theorem s_X12_next_212 (Q : Option Value → Hp → Prop) : ∀ A st h, b_X12_next_212 Q A st h → wp 1 MX12_next Q 212 A st h := (qP pl_X12_182 rfl (Or.inl rfl) D_X12_next_212 fun D => (q1 (s_aldn (n := 0) (i := 0) rfl) D fun D => (q1 s_dup D fun D => (qC fl_X12_169 rfl D fun D => (q1 (s_iconst (n := 1) (v := 1) (by decide)) D fun D => (q1 s_add D fun D => (qP pl_X12_169 rfl (Or.inl rfl) D fun D => (qL (s_inc (i := 2) (n := 1) (v := 1) (by decide)) (by decide) D fun D => (qG 170 (by decide) D (s_keep [true, false, true] fun _ _ _ h => h))))))))))
def b_X12_next_242 (Q : Option Value → Hp → Prop) : Kt := i_putI 12 40 (i_vret Q)
set_option maxRecDepth 100000 in
theorem s_X12_next_242 (Q : Option Value → Hp → Prop) : ∀ A st h, b_X12_next_242 Q A st h → wp 1 MX12_next Q 242 A st h := (qP pl_X12_189 rfl (Or.inl rfl) D_X12_next_242 fun D => (qG 303 (by decide) D (qV rfl D_X12_next_303)))
def b_X12_next_295 (Q : Option Value → Hp → Prop) : Kt := i_push (.int 4) (i_putI 12 40 (i_vret Q))
set_option maxRecDepth 100000 in
theorem s_X12_next_295 (Q : Option Value → Hp → Prop) : ∀ A st h, b_X12_next_295 Q A st h → wp 1 MX12_next Q 295 A st h := (q1 (s_iconst (n := 4) (v := 4) (by decide)) D_X12_next_295 fun D => (qG 300 (by decide) D (qP pl_X12_189 rfl (Or.inl rfl) D_X12_next_300 fun D => (qV rfl D))))

theorem u2_u2 {α : Type} (f : Nat → Nat → α) (a j : Nat) (x y : α) : u2 (u2 f a j x) a j y = u2 f a j y := by
  funext b i
  unfold u2
  split <;> rfl
theorem u2_4 {α : Type} (f : Nat → Nat → α) (a j i : Nat) (h : i ≠ j) (x y x2 y2 : α) : u2 (u2 (u2 (u2 f a i x) a j y) a i x2) a j y2 = u2 (u2 f a i x2) a j y2 := by
  funext b k
  unfold u2
  by_cases c : b = a ∧ k = j
  · rw [if_pos c, if_pos c]
  · rw [if_neg c, if_neg c]
    by_cases c2 : b = a ∧ k = i
    · rw [if_pos c2, if_neg c, if_pos c2]
    · rw [if_neg c2, if_neg c, if_neg c2, if_neg c2]
theorem pI_pI (h : Hp) (a j : Nat) (x y : Int32) : pI (pI h a j x) a j y = pI h a j y := by
  show (hK h, hL h, u2 (u2 (hI h) a j x) a j y, hR h, hJ h, hT h, hS h) = _
  rw [u2_u2]; rfl
def hw (G : Hp) (k : Nat) (w : Int64) : Hp := pJ (pI G 44 37 (nI k)) 44 42 w
theorem hw_s (G : Hp) (k k2 : Nat) (w w2 : Int64) : pI (pJ (hw G k w) 44 42 w2) 44 37 (nI k2) = hw G k2 w2 := by
  show (hK G, hL G, u2 (u2 (hI G) 44 37 (nI k)) 44 37 (nI k2), hR G, u2 (u2 (hJ G) 44 42 w) 44 42 w2, hT G, hS G) = _
  rw [u2_u2, u2_u2]; rfl
theorem hw_w (G : Hp) (k : Nat) (w w2 : Int64) : pJ (hw G k w) 44 42 w2 = hw G k w2 := by
  show (hK G, hL G, u2 (hI G) 44 37 (nI k), hR G, u2 (u2 (hJ G) 44 42 w) 44 42 w2, hT G, hS G) = _
  rw [u2_u2]; rfl
def hd (G : Hp) (k : Nat) (v : Int32) : Hp := pI (pI G 44 41 v) 44 37 (nI k)
theorem hd_s (G : Hp) (k k2 : Nat) (v v2 : Int32) : pI (pI (hd G k v) 44 41 v2) 44 37 (nI k2) = hd G k2 v2 := by
  show (hK G, hL G, u2 (u2 (u2 (u2 (hI G) 44 41 v) 44 37 (nI k)) 44 41 v2) 44 37 (nI k2), hR G, hJ G, hT G, hS G) = _
  rw [u2_4 _ _ _ _ (by decide)]; rfl
theorem hw_37 (G : Hp) (k : Nat) (w : Int64) : hI (hw G k w) 44 37 = nI k := by
  show u2 (hI G) 44 37 (nI k) 44 37 = nI k
  exact u2_eq
theorem hw_o (G : Hp) (k : Nat) (w : Int64) {a i : Nat} (h : ¬ (a = 44 ∧ i = 37)) : hI (hw G k w) a i = hI G a i := u2_ne h
theorem hw_B (G : Hp) (k : Nat) (w : Int64) (i : Nat) : hI (hw G k w) 45 i &&& 255 = hI G 45 i &&& 255 := by rw [hw_o G k w (fun z => absurd z.1 (by decide))]
theorem hw_J (G : Hp) (k : Nat) (w : Int64) : hJ (hw G k w) 44 42 = w := by
  show u2 (hJ G) 44 42 w 44 42 = w
  exact if_pos ⟨rfl, rfl⟩
theorem hw_l {G : Hp} (hl : LayM G) (k : Nat) (w : Int64) : LayM (hw G k w) := hl
theorem hd_37 (G : Hp) (k : Nat) (v : Int32) : hI (hd G k v) 44 37 = nI k := by
  show u2 (u2 (hI G) 44 41 v) 44 37 (nI k) 44 37 = nI k
  exact u2_eq
theorem hd_o (G : Hp) (k : Nat) (v : Int32) {a i : Nat} (h : ¬ (a = 44 ∧ i = 37)) (h2 : ¬ (a = 44 ∧ i = 41)) : hI (hd G k v) a i = hI G a i := (u2_ne h).trans (u2_ne h2)
theorem hd_41 (G : Hp) (k : Nat) (v : Int32) : hI (hd G k v) 44 41 = v := by
  show u2 (u2 (hI G) 44 41 v) 44 37 (nI k) 44 41 = v
  rw [u2_ne (fun z => absurd z.2 (by decide)), u2_eq]
theorem hd_B (G : Hp) (k : Nat) (v : Int32) (i : Nat) : hI (hd G k v) 45 i &&& 255 = hI G 45 i &&& 255 := by rw [hd_o G k v (fun z => absurd z.1 (by decide)) (fun z => absurd z.1 (by decide))]
theorem hd_l {G : Hp} (hl : LayM G) (k : Nat) (v : Int32) : LayM (hd G k v) := hl
theorem nxN_at {S : Nat → Prop} {b e : Nat} (h0 : b ≤ e) (h1 : ∀ k, b ≤ k → k < e → S k) (h2 : ¬ S e) : nxN S b = e := lst_is ⟨h0, h2⟩ (fun j hj z => z.2 (h1 j z.1 hj))
theorem sB_le {B : Nat → Int32} {L k : Nat} : (97 ≤ sB B L k ∧ sB B L k ≤ 122) ↔ sLe B L k := by
  unfold sB sLe isLe
  by_cases c : k < L
  · rw [if_pos c]; exact ⟨fun z => ⟨c, z⟩, fun z => z.2⟩
  · rw [if_neg c]; exact ⟨fun z => absurd z.1 (by decide), fun z => absurd z.1 c⟩
theorem sB_di {B : Nat → Int32} {L k : Nat} : (48 ≤ sB B L k ∧ sB B L k ≤ 57) ↔ sDi B L k := by
  unfold sB sDi isDi
  by_cases c : k < L
  · rw [if_pos c]; exact ⟨fun z => ⟨c, z⟩, fun z => z.2⟩
  · rw [if_neg c]; exact ⟨fun z => absurd z.1 (by decide), fun z => absurd z.1 c⟩
