/-! ===== instructions out of bytes ===== -/
theorem dc_u1 {code : ByteArray} {p : Nat} {b : UInt8} (h : code[p]? = some b) : (Reader.u1 (ε := DecodeError)) code p = .ok (b.toNat, p + 1) := by
  have hlt : p < code.size := by
    rcases Nat.lt_or_ge p code.size with q | q
    · exact q
    · simp [getElem?_neg, Nat.not_lt.mpr q] at h
  have hb : code[p] = b := by
    rw [getElem?_pos code p hlt] at h
    exact Option.some.inj h
  show (if h : p < code.size then _ else _ : Reader DecodeError Nat) code p = _
  rw [dif_pos hlt]
  show Except.ok (code[p].toNat, p + 1) = _
  rw [hb]
theorem dc_bind {α β : Type} {m : Reader DecodeError α} {f : α → Reader DecodeError β} {code : ByteArray} {p p2 : Nat} {a : α} (h : m code p = .ok (a, p2)) : (m >>= f) code p = f a code p2 := by
  show Except.bind (m code p) (fun q => f q.1 code q.2) = _
  rw [h]
  rfl
theorem dc_fin {code : ByteArray} {pc q n : Nat} {i : Instr} (h : Decoder.instr pc code pc = .ok (i, q)) (hq : q = pc + n) : decode code pc = .ok (i, n) := by
  show Except.bind (Decoder.instr pc code pc) (fun r => Except.ok (r.1, r.2 - pc)) = _
  rw [h, hq]
  show Except.ok (i, pc + n - pc) = _
  rw [Nat.add_sub_cancel_left]
theorem dc_u2 {code : ByteArray} {p : Nat} {x y : UInt8} (h2 : code[p]? = some x) (h3 : code[p + 1]? = some y) : (Reader.u2 (ε := DecodeError)) code p = .ok (x.toNat * 256 + y.toNat, p + 1 + 1) := by
  refine (dc_bind (dc_u1 h2)).trans ?_
  exact (dc_bind (dc_u1 h3)).trans rfl
theorem dc_s1 {code : ByteArray} {p : Nat} {x : UInt8} (h2 : code[p]? = some x) : (Reader.s1 (ε := DecodeError)) code p = .ok (Reader.signed 8 x.toNat, p + 1) := by
  show Except.map (fun q => (Reader.signed 8 q.1, q.2)) ((Reader.u1 (ε := DecodeError)) code p) = _
  rw [dc_u1 h2]; rfl
theorem dc_s2 {code : ByteArray} {p : Nat} {x y : UInt8} (h2 : code[p]? = some x) (h3 : code[p + 1]? = some y) : (Reader.s2 (ε := DecodeError)) code p = .ok (Reader.signed 16 (x.toNat * 256 + y.toNat), p + 1 + 1) := by
  show Except.map (fun q => (Reader.signed 16 q.1, q.2)) ((Reader.u2 (ε := DecodeError)) code p) = _
  rw [dc_u2 h2 h3]; rfl
/-- the bytes stand there -/
def dc_at (code : ByteArray) (pc : Nat) (bs : List UInt8) : Prop := ∀ k b, bs[k]? = some b → code[pc + k]? = some b
def e0 (o n : Nat) (bs : List UInt8) : Bool := match bs with
  | b :: _ => n == 1 && b.toNat == o
  | _ => false
def e1u (o k n : Nat) (bs : List UInt8) : Bool := match bs with
  | b :: x :: _ => n == 2 && b.toNat == o && x.toNat == k
  | _ => false
def e1s (o : Nat) (k : Int) (n : Nat) (bs : List UInt8) : Bool := match bs with
  | b :: x :: _ => n == 2 && b.toNat == o && Reader.signed 8 x.toNat == k
  | _ => false
def e2u (o k n : Nat) (bs : List UInt8) : Bool := match bs with
  | b :: x :: y :: _ => n == 3 && b.toNat == o && x.toNat * 256 + y.toNat == k
  | _ => false
def e2s (o : Nat) (k : Int) (n : Nat) (bs : List UInt8) : Bool := match bs with
  | b :: x :: y :: _ => n == 3 && b.toNat == o && Reader.signed 16 (x.toNat * 256 + y.toNat) == k
  | _ => false
def ei (i : Nat) (k : Int) (n : Nat) (bs : List UInt8) : Bool := match bs with
  | b :: x :: y :: _ => n == 3 && b.toNat == 132 && x.toNat == i && Reader.signed 8 y.toNat == k
  | _ => false
theorem dc_hd {code : ByteArray} {pc o : Nat} {b : UInt8} {t : List UInt8} (h : dc_at code pc (b :: t)) (hb : b.toNat = o) : code[pc]? = some (UInt8.ofNat o) := by
  have h1 := h 0 b rfl
  rw [Nat.add_zero] at h1
  rw [h1, ← hb]
  simp
theorem e0_ok {o n pc : Nat} {bs : List UInt8} {code : ByteArray} {i : Instr} (hL : ∀ code pc, code[pc]? = some (UInt8.ofNat o) → decode code pc = .ok (i, 1)) (h : e0 o n bs = true) (ha : dc_at code pc bs) : decode code pc = .ok (i, n) := by
  unfold e0 at h
  split at h
  · simp only [Bool.and_eq_true, beq_iff_eq] at h
    rw [h.1]; exact hL _ _ (dc_hd ha h.2)
  · cases h
theorem e1u_ok {o k n pc : Nat} {bs : List UInt8} {code : ByteArray} {i : Nat → Instr} (hL : ∀ code pc x, code[pc]? = some (UInt8.ofNat o) → code[pc + 1]? = some x → decode code pc = .ok (i x.toNat, 2)) (h : e1u o k n bs = true) (ha : dc_at code pc bs) : decode code pc = .ok (i k, n) := by
  unfold e1u at h
  split at h
  · simp only [Bool.and_eq_true, beq_iff_eq] at h
    rw [h.1.1, ← h.2]; exact hL _ _ _ (dc_hd ha h.1.2) (ha 1 _ rfl)
  · cases h
theorem e1s_ok {o n pc : Nat} {k : Int} {bs : List UInt8} {code : ByteArray} {i : Int → Instr} (hL : ∀ code pc x, code[pc]? = some (UInt8.ofNat o) → code[pc + 1]? = some x → decode code pc = .ok (i (Reader.signed 8 x.toNat), 2)) (h : e1s o k n bs = true) (ha : dc_at code pc bs) : decode code pc = .ok (i k, n) := by
  unfold e1s at h
  split at h
  · simp only [Bool.and_eq_true, beq_iff_eq] at h
    rw [h.1.1, ← h.2]; exact hL _ _ _ (dc_hd ha h.1.2) (ha 1 _ rfl)
  · cases h
theorem e2u_ok {o k n pc : Nat} {bs : List UInt8} {code : ByteArray} {i : Nat → Instr} (hL : ∀ code pc x y, code[pc]? = some (UInt8.ofNat o) → code[pc + 1]? = some x → code[pc + 1 + 1]? = some y → decode code pc = .ok (i (x.toNat * 256 + y.toNat), 3)) (h : e2u o k n bs = true) (ha : dc_at code pc bs) : decode code pc = .ok (i k, n) := by
  unfold e2u at h
  split at h
  · simp only [Bool.and_eq_true, beq_iff_eq] at h
    rw [h.1.1, ← h.2]; exact hL _ _ _ _ (dc_hd ha h.1.2) (ha 1 _ rfl) (ha 2 _ rfl)
  · cases h
theorem e2s_ok {o n pc : Nat} {k : Int} {bs : List UInt8} {code : ByteArray} {i : Int → Instr} (hL : ∀ code pc x y, code[pc]? = some (UInt8.ofNat o) → code[pc + 1]? = some x → code[pc + 1 + 1]? = some y → decode code pc = .ok (i (Reader.signed 16 (x.toNat * 256 + y.toNat)), 3)) (h : e2s o k n bs = true) (ha : dc_at code pc bs) : decode code pc = .ok (i k, n) := by
  unfold e2s at h
  split at h
  · simp only [Bool.and_eq_true, beq_iff_eq] at h
    rw [h.1.1, ← h.2]; exact hL _ _ _ _ (dc_hd ha h.1.2) (ha 1 _ rfl) (ha 2 _ rfl)
  · cases h
theorem ei_ok {j n pc : Nat} {k : Int} {bs : List UInt8} {code : ByteArray} (hL : ∀ code pc x y, code[pc]? = some (UInt8.ofNat 132) → code[pc + 1]? = some x → code[pc + 1 + 1]? = some y → decode code pc = .ok (.iinc x.toNat (Reader.signed 8 y.toNat), 3)) (h : ei j k n bs = true) (ha : dc_at code pc bs) : decode code pc = .ok (.iinc j k, n) := by
  unfold ei at h
  split at h
  · simp only [Bool.and_eq_true, beq_iff_eq] at h
    rw [h.1.1.1, ← h.1.2, ← h.2]; exact hL _ _ _ _ (dc_hd ha h.1.1.2) (ha 1 _ rfl) (ha 2 _ rfl)
  · cases h
theorem dc_50 : ∀ code pc, code[pc]? = some (UInt8.ofNat 50) → decode code pc = .ok (.aaload, 1) := fun code pc h => dc_fin (q := pc + 1) ((dc_bind (dc_u1 h)).trans rfl) rfl
theorem dc_83 : ∀ code pc, code[pc]? = some (UInt8.ofNat 83) → decode code pc = .ok (.aastore, 1) := fun code pc h => dc_fin (q := pc + 1) ((dc_bind (dc_u1 h)).trans rfl) rfl
theorem dc_1 : ∀ code pc, code[pc]? = some (UInt8.ofNat 1) → decode code pc = .ok (.aconst_null, 1) := fun code pc h => dc_fin (q := pc + 1) ((dc_bind (dc_u1 h)).trans rfl) rfl
theorem dc_176 : ∀ code pc, code[pc]? = some (UInt8.ofNat 176) → decode code pc = .ok (.areturn, 1) := fun code pc h => dc_fin (q := pc + 1) ((dc_bind (dc_u1 h)).trans rfl) rfl
theorem dc_190 : ∀ code pc, code[pc]? = some (UInt8.ofNat 190) → decode code pc = .ok (.arraylength, 1) := fun code pc h => dc_fin (q := pc + 1) ((dc_bind (dc_u1 h)).trans rfl) rfl
theorem dc_191 : ∀ code pc, code[pc]? = some (UInt8.ofNat 191) → decode code pc = .ok (.athrow, 1) := fun code pc h => dc_fin (q := pc + 1) ((dc_bind (dc_u1 h)).trans rfl) rfl
theorem dc_51 : ∀ code pc, code[pc]? = some (UInt8.ofNat 51) → decode code pc = .ok (.baload, 1) := fun code pc h => dc_fin (q := pc + 1) ((dc_bind (dc_u1 h)).trans rfl) rfl
theorem dc_84 : ∀ code pc, code[pc]? = some (UInt8.ofNat 84) → decode code pc = .ok (.bastore, 1) := fun code pc h => dc_fin (q := pc + 1) ((dc_bind (dc_u1 h)).trans rfl) rfl
theorem dc_89 : ∀ code pc, code[pc]? = some (UInt8.ofNat 89) → decode code pc = .ok (.dup, 1) := fun code pc h => dc_fin (q := pc + 1) ((dc_bind (dc_u1 h)).trans rfl) rfl
theorem dc_92 : ∀ code pc, code[pc]? = some (UInt8.ofNat 92) → decode code pc = .ok (.dup2, 1) := fun code pc h => dc_fin (q := pc + 1) ((dc_bind (dc_u1 h)).trans rfl) rfl
theorem dc_145 : ∀ code pc, code[pc]? = some (UInt8.ofNat 145) → decode code pc = .ok (.i2b, 1) := fun code pc h => dc_fin (q := pc + 1) ((dc_bind (dc_u1 h)).trans rfl) rfl
theorem dc_146 : ∀ code pc, code[pc]? = some (UInt8.ofNat 146) → decode code pc = .ok (.i2c, 1) := fun code pc h => dc_fin (q := pc + 1) ((dc_bind (dc_u1 h)).trans rfl) rfl
theorem dc_133 : ∀ code pc, code[pc]? = some (UInt8.ofNat 133) → decode code pc = .ok (.i2l, 1) := fun code pc h => dc_fin (q := pc + 1) ((dc_bind (dc_u1 h)).trans rfl) rfl
theorem dc_96 : ∀ code pc, code[pc]? = some (UInt8.ofNat 96) → decode code pc = .ok (.iadd, 1) := fun code pc h => dc_fin (q := pc + 1) ((dc_bind (dc_u1 h)).trans rfl) rfl
theorem dc_46 : ∀ code pc, code[pc]? = some (UInt8.ofNat 46) → decode code pc = .ok (.iaload, 1) := fun code pc h => dc_fin (q := pc + 1) ((dc_bind (dc_u1 h)).trans rfl) rfl
theorem dc_126 : ∀ code pc, code[pc]? = some (UInt8.ofNat 126) → decode code pc = .ok (.iand, 1) := fun code pc h => dc_fin (q := pc + 1) ((dc_bind (dc_u1 h)).trans rfl) rfl
theorem dc_79 : ∀ code pc, code[pc]? = some (UInt8.ofNat 79) → decode code pc = .ok (.iastore, 1) := fun code pc h => dc_fin (q := pc + 1) ((dc_bind (dc_u1 h)).trans rfl) rfl
theorem dc_108 : ∀ code pc, code[pc]? = some (UInt8.ofNat 108) → decode code pc = .ok (.idiv, 1) := fun code pc h => dc_fin (q := pc + 1) ((dc_bind (dc_u1 h)).trans rfl) rfl
theorem dc_104 : ∀ code pc, code[pc]? = some (UInt8.ofNat 104) → decode code pc = .ok (.imul, 1) := fun code pc h => dc_fin (q := pc + 1) ((dc_bind (dc_u1 h)).trans rfl) rfl
theorem dc_116 : ∀ code pc, code[pc]? = some (UInt8.ofNat 116) → decode code pc = .ok (.ineg, 1) := fun code pc h => dc_fin (q := pc + 1) ((dc_bind (dc_u1 h)).trans rfl) rfl
theorem dc_128 : ∀ code pc, code[pc]? = some (UInt8.ofNat 128) → decode code pc = .ok (.ior, 1) := fun code pc h => dc_fin (q := pc + 1) ((dc_bind (dc_u1 h)).trans rfl) rfl
theorem dc_112 : ∀ code pc, code[pc]? = some (UInt8.ofNat 112) → decode code pc = .ok (.irem, 1) := fun code pc h => dc_fin (q := pc + 1) ((dc_bind (dc_u1 h)).trans rfl) rfl
theorem dc_172 : ∀ code pc, code[pc]? = some (UInt8.ofNat 172) → decode code pc = .ok (.ireturn, 1) := fun code pc h => dc_fin (q := pc + 1) ((dc_bind (dc_u1 h)).trans rfl) rfl
theorem dc_120 : ∀ code pc, code[pc]? = some (UInt8.ofNat 120) → decode code pc = .ok (.ishl, 1) := fun code pc h => dc_fin (q := pc + 1) ((dc_bind (dc_u1 h)).trans rfl) rfl
theorem dc_122 : ∀ code pc, code[pc]? = some (UInt8.ofNat 122) → decode code pc = .ok (.ishr, 1) := fun code pc h => dc_fin (q := pc + 1) ((dc_bind (dc_u1 h)).trans rfl) rfl
theorem dc_100 : ∀ code pc, code[pc]? = some (UInt8.ofNat 100) → decode code pc = .ok (.isub, 1) := fun code pc h => dc_fin (q := pc + 1) ((dc_bind (dc_u1 h)).trans rfl) rfl
theorem dc_124 : ∀ code pc, code[pc]? = some (UInt8.ofNat 124) → decode code pc = .ok (.iushr, 1) := fun code pc h => dc_fin (q := pc + 1) ((dc_bind (dc_u1 h)).trans rfl) rfl
theorem dc_130 : ∀ code pc, code[pc]? = some (UInt8.ofNat 130) → decode code pc = .ok (.ixor, 1) := fun code pc h => dc_fin (q := pc + 1) ((dc_bind (dc_u1 h)).trans rfl) rfl
theorem dc_148 : ∀ code pc, code[pc]? = some (UInt8.ofNat 148) → decode code pc = .ok (.lcmp, 1) := fun code pc h => dc_fin (q := pc + 1) ((dc_bind (dc_u1 h)).trans rfl) rfl
theorem dc_129 : ∀ code pc, code[pc]? = some (UInt8.ofNat 129) → decode code pc = .ok (.lor, 1) := fun code pc h => dc_fin (q := pc + 1) ((dc_bind (dc_u1 h)).trans rfl) rfl
theorem dc_121 : ∀ code pc, code[pc]? = some (UInt8.ofNat 121) → decode code pc = .ok (.lshl, 1) := fun code pc h => dc_fin (q := pc + 1) ((dc_bind (dc_u1 h)).trans rfl) rfl
theorem dc_87 : ∀ code pc, code[pc]? = some (UInt8.ofNat 87) → decode code pc = .ok (.pop, 1) := fun code pc h => dc_fin (q := pc + 1) ((dc_bind (dc_u1 h)).trans rfl) rfl
theorem dc_177 : ∀ code pc, code[pc]? = some (UInt8.ofNat 177) → decode code pc = .ok (.return_, 1) := fun code pc h => dc_fin (q := pc + 1) ((dc_bind (dc_u1 h)).trans rfl) rfl
theorem dc_42 : ∀ code pc, code[pc]? = some (UInt8.ofNat 42) → decode code pc = .ok (.aload_n 0, 1) := fun code pc h => dc_fin (q := pc + 1) ((dc_bind (dc_u1 h)).trans rfl) rfl
theorem dc_43 : ∀ code pc, code[pc]? = some (UInt8.ofNat 43) → decode code pc = .ok (.aload_n 1, 1) := fun code pc h => dc_fin (q := pc + 1) ((dc_bind (dc_u1 h)).trans rfl) rfl
theorem dc_44 : ∀ code pc, code[pc]? = some (UInt8.ofNat 44) → decode code pc = .ok (.aload_n 2, 1) := fun code pc h => dc_fin (q := pc + 1) ((dc_bind (dc_u1 h)).trans rfl) rfl
theorem dc_45 : ∀ code pc, code[pc]? = some (UInt8.ofNat 45) → decode code pc = .ok (.aload_n 3, 1) := fun code pc h => dc_fin (q := pc + 1) ((dc_bind (dc_u1 h)).trans rfl) rfl
theorem dc_75 : ∀ code pc, code[pc]? = some (UInt8.ofNat 75) → decode code pc = .ok (.astore_n 0, 1) := fun code pc h => dc_fin (q := pc + 1) ((dc_bind (dc_u1 h)).trans rfl) rfl
theorem dc_76 : ∀ code pc, code[pc]? = some (UInt8.ofNat 76) → decode code pc = .ok (.astore_n 1, 1) := fun code pc h => dc_fin (q := pc + 1) ((dc_bind (dc_u1 h)).trans rfl) rfl
theorem dc_77 : ∀ code pc, code[pc]? = some (UInt8.ofNat 77) → decode code pc = .ok (.astore_n 2, 1) := fun code pc h => dc_fin (q := pc + 1) ((dc_bind (dc_u1 h)).trans rfl) rfl
theorem dc_78 : ∀ code pc, code[pc]? = some (UInt8.ofNat 78) → decode code pc = .ok (.astore_n 3, 1) := fun code pc h => dc_fin (q := pc + 1) ((dc_bind (dc_u1 h)).trans rfl) rfl
theorem dc_26 : ∀ code pc, code[pc]? = some (UInt8.ofNat 26) → decode code pc = .ok (.iload_n 0, 1) := fun code pc h => dc_fin (q := pc + 1) ((dc_bind (dc_u1 h)).trans rfl) rfl
theorem dc_27 : ∀ code pc, code[pc]? = some (UInt8.ofNat 27) → decode code pc = .ok (.iload_n 1, 1) := fun code pc h => dc_fin (q := pc + 1) ((dc_bind (dc_u1 h)).trans rfl) rfl
theorem dc_28 : ∀ code pc, code[pc]? = some (UInt8.ofNat 28) → decode code pc = .ok (.iload_n 2, 1) := fun code pc h => dc_fin (q := pc + 1) ((dc_bind (dc_u1 h)).trans rfl) rfl
theorem dc_29 : ∀ code pc, code[pc]? = some (UInt8.ofNat 29) → decode code pc = .ok (.iload_n 3, 1) := fun code pc h => dc_fin (q := pc + 1) ((dc_bind (dc_u1 h)).trans rfl) rfl
theorem dc_59 : ∀ code pc, code[pc]? = some (UInt8.ofNat 59) → decode code pc = .ok (.istore_n 0, 1) := fun code pc h => dc_fin (q := pc + 1) ((dc_bind (dc_u1 h)).trans rfl) rfl
theorem dc_60 : ∀ code pc, code[pc]? = some (UInt8.ofNat 60) → decode code pc = .ok (.istore_n 1, 1) := fun code pc h => dc_fin (q := pc + 1) ((dc_bind (dc_u1 h)).trans rfl) rfl
theorem dc_61 : ∀ code pc, code[pc]? = some (UInt8.ofNat 61) → decode code pc = .ok (.istore_n 2, 1) := fun code pc h => dc_fin (q := pc + 1) ((dc_bind (dc_u1 h)).trans rfl) rfl
theorem dc_62 : ∀ code pc, code[pc]? = some (UInt8.ofNat 62) → decode code pc = .ok (.istore_n 3, 1) := fun code pc h => dc_fin (q := pc + 1) ((dc_bind (dc_u1 h)).trans rfl) rfl
theorem dc_30 : ∀ code pc, code[pc]? = some (UInt8.ofNat 30) → decode code pc = .ok (.lload_n 0, 1) := fun code pc h => dc_fin (q := pc + 1) ((dc_bind (dc_u1 h)).trans rfl) rfl
theorem dc_31 : ∀ code pc, code[pc]? = some (UInt8.ofNat 31) → decode code pc = .ok (.lload_n 1, 1) := fun code pc h => dc_fin (q := pc + 1) ((dc_bind (dc_u1 h)).trans rfl) rfl
theorem dc_32 : ∀ code pc, code[pc]? = some (UInt8.ofNat 32) → decode code pc = .ok (.lload_n 2, 1) := fun code pc h => dc_fin (q := pc + 1) ((dc_bind (dc_u1 h)).trans rfl) rfl
theorem dc_33 : ∀ code pc, code[pc]? = some (UInt8.ofNat 33) → decode code pc = .ok (.lload_n 3, 1) := fun code pc h => dc_fin (q := pc + 1) ((dc_bind (dc_u1 h)).trans rfl) rfl
theorem dc_9 : ∀ code pc, code[pc]? = some (UInt8.ofNat 9) → decode code pc = .ok (.lconst 0, 1) := fun code pc h => dc_fin (q := pc + 1) ((dc_bind (dc_u1 h)).trans rfl) rfl
theorem dc_10 : ∀ code pc, code[pc]? = some (UInt8.ofNat 10) → decode code pc = .ok (.lconst 1, 1) := fun code pc h => dc_fin (q := pc + 1) ((dc_bind (dc_u1 h)).trans rfl) rfl
theorem dc_2 : ∀ code pc, code[pc]? = some (UInt8.ofNat 2) → decode code pc = .ok (.iconst (-1), 1) := fun code pc h => dc_fin (q := pc + 1) ((dc_bind (dc_u1 h)).trans rfl) rfl
theorem dc_3 : ∀ code pc, code[pc]? = some (UInt8.ofNat 3) → decode code pc = .ok (.iconst (0), 1) := fun code pc h => dc_fin (q := pc + 1) ((dc_bind (dc_u1 h)).trans rfl) rfl
theorem dc_4 : ∀ code pc, code[pc]? = some (UInt8.ofNat 4) → decode code pc = .ok (.iconst (1), 1) := fun code pc h => dc_fin (q := pc + 1) ((dc_bind (dc_u1 h)).trans rfl) rfl
theorem dc_5 : ∀ code pc, code[pc]? = some (UInt8.ofNat 5) → decode code pc = .ok (.iconst (2), 1) := fun code pc h => dc_fin (q := pc + 1) ((dc_bind (dc_u1 h)).trans rfl) rfl
theorem dc_6 : ∀ code pc, code[pc]? = some (UInt8.ofNat 6) → decode code pc = .ok (.iconst (3), 1) := fun code pc h => dc_fin (q := pc + 1) ((dc_bind (dc_u1 h)).trans rfl) rfl
theorem dc_7 : ∀ code pc, code[pc]? = some (UInt8.ofNat 7) → decode code pc = .ok (.iconst (4), 1) := fun code pc h => dc_fin (q := pc + 1) ((dc_bind (dc_u1 h)).trans rfl) rfl
theorem dc_8 : ∀ code pc, code[pc]? = some (UInt8.ofNat 8) → decode code pc = .ok (.iconst (5), 1) := fun code pc h => dc_fin (q := pc + 1) ((dc_bind (dc_u1 h)).trans rfl) rfl
theorem dc_25 : ∀ code pc x, code[pc]? = some (UInt8.ofNat 25) → code[pc + 1]? = some x → decode code pc = .ok (.aload x.toNat, 2) := fun code pc x h h2 => dc_fin (q := pc + 1 + 1) ((dc_bind (dc_u1 h)).trans ((dc_bind (dc_u1 h2)).trans rfl)) rfl
theorem dc_58 : ∀ code pc x, code[pc]? = some (UInt8.ofNat 58) → code[pc + 1]? = some x → decode code pc = .ok (.astore x.toNat, 2) := fun code pc x h h2 => dc_fin (q := pc + 1 + 1) ((dc_bind (dc_u1 h)).trans ((dc_bind (dc_u1 h2)).trans rfl)) rfl
theorem dc_21 : ∀ code pc x, code[pc]? = some (UInt8.ofNat 21) → code[pc + 1]? = some x → decode code pc = .ok (.iload x.toNat, 2) := fun code pc x h h2 => dc_fin (q := pc + 1 + 1) ((dc_bind (dc_u1 h)).trans ((dc_bind (dc_u1 h2)).trans rfl)) rfl
theorem dc_54 : ∀ code pc x, code[pc]? = some (UInt8.ofNat 54) → code[pc + 1]? = some x → decode code pc = .ok (.istore x.toNat, 2) := fun code pc x h h2 => dc_fin (q := pc + 1 + 1) ((dc_bind (dc_u1 h)).trans ((dc_bind (dc_u1 h2)).trans rfl)) rfl
theorem dc_18 : ∀ code pc x, code[pc]? = some (UInt8.ofNat 18) → code[pc + 1]? = some x → decode code pc = .ok (.ldc x.toNat, 2) := fun code pc x h h2 => dc_fin (q := pc + 1 + 1) ((dc_bind (dc_u1 h)).trans ((dc_bind (dc_u1 h2)).trans rfl)) rfl
theorem dc_189 : ∀ code pc x y, code[pc]? = some (UInt8.ofNat 189) → code[pc + 1]? = some x → code[pc + 1 + 1]? = some y → decode code pc = .ok (.anewarray (x.toNat * 256 + y.toNat), 3) := fun code pc x y h h2 h3 => dc_fin (q := pc + 1 + 1 + 1) ((dc_bind (dc_u1 h)).trans ((dc_bind (dc_u2 h2 h3)).trans rfl)) rfl
theorem dc_180 : ∀ code pc x y, code[pc]? = some (UInt8.ofNat 180) → code[pc + 1]? = some x → code[pc + 1 + 1]? = some y → decode code pc = .ok (.getfield (x.toNat * 256 + y.toNat), 3) := fun code pc x y h h2 h3 => dc_fin (q := pc + 1 + 1 + 1) ((dc_bind (dc_u1 h)).trans ((dc_bind (dc_u2 h2 h3)).trans rfl)) rfl
theorem dc_178 : ∀ code pc x y, code[pc]? = some (UInt8.ofNat 178) → code[pc + 1]? = some x → code[pc + 1 + 1]? = some y → decode code pc = .ok (.getstatic (x.toNat * 256 + y.toNat), 3) := fun code pc x y h h2 h3 => dc_fin (q := pc + 1 + 1 + 1) ((dc_bind (dc_u1 h)).trans ((dc_bind (dc_u2 h2 h3)).trans rfl)) rfl
theorem dc_183 : ∀ code pc x y, code[pc]? = some (UInt8.ofNat 183) → code[pc + 1]? = some x → code[pc + 1 + 1]? = some y → decode code pc = .ok (.invokespecial (x.toNat * 256 + y.toNat), 3) := fun code pc x y h h2 h3 => dc_fin (q := pc + 1 + 1 + 1) ((dc_bind (dc_u1 h)).trans ((dc_bind (dc_u2 h2 h3)).trans rfl)) rfl
theorem dc_184 : ∀ code pc x y, code[pc]? = some (UInt8.ofNat 184) → code[pc + 1]? = some x → code[pc + 1 + 1]? = some y → decode code pc = .ok (.invokestatic (x.toNat * 256 + y.toNat), 3) := fun code pc x y h h2 h3 => dc_fin (q := pc + 1 + 1 + 1) ((dc_bind (dc_u1 h)).trans ((dc_bind (dc_u2 h2 h3)).trans rfl)) rfl
theorem dc_182 : ∀ code pc x y, code[pc]? = some (UInt8.ofNat 182) → code[pc + 1]? = some x → code[pc + 1 + 1]? = some y → decode code pc = .ok (.invokevirtual (x.toNat * 256 + y.toNat), 3) := fun code pc x y h h2 h3 => dc_fin (q := pc + 1 + 1 + 1) ((dc_bind (dc_u1 h)).trans ((dc_bind (dc_u2 h2 h3)).trans rfl)) rfl
theorem dc_20 : ∀ code pc x y, code[pc]? = some (UInt8.ofNat 20) → code[pc + 1]? = some x → code[pc + 1 + 1]? = some y → decode code pc = .ok (.ldc2_w (x.toNat * 256 + y.toNat), 3) := fun code pc x y h h2 h3 => dc_fin (q := pc + 1 + 1 + 1) ((dc_bind (dc_u1 h)).trans ((dc_bind (dc_u2 h2 h3)).trans rfl)) rfl
theorem dc_19 : ∀ code pc x y, code[pc]? = some (UInt8.ofNat 19) → code[pc + 1]? = some x → code[pc + 1 + 1]? = some y → decode code pc = .ok (.ldc_w (x.toNat * 256 + y.toNat), 3) := fun code pc x y h h2 h3 => dc_fin (q := pc + 1 + 1 + 1) ((dc_bind (dc_u1 h)).trans ((dc_bind (dc_u2 h2 h3)).trans rfl)) rfl
theorem dc_187 : ∀ code pc x y, code[pc]? = some (UInt8.ofNat 187) → code[pc + 1]? = some x → code[pc + 1 + 1]? = some y → decode code pc = .ok (.new (x.toNat * 256 + y.toNat), 3) := fun code pc x y h h2 h3 => dc_fin (q := pc + 1 + 1 + 1) ((dc_bind (dc_u1 h)).trans ((dc_bind (dc_u2 h2 h3)).trans rfl)) rfl
theorem dc_181 : ∀ code pc x y, code[pc]? = some (UInt8.ofNat 181) → code[pc + 1]? = some x → code[pc + 1 + 1]? = some y → decode code pc = .ok (.putfield (x.toNat * 256 + y.toNat), 3) := fun code pc x y h h2 h3 => dc_fin (q := pc + 1 + 1 + 1) ((dc_bind (dc_u1 h)).trans ((dc_bind (dc_u2 h2 h3)).trans rfl)) rfl
theorem dc_16 : ∀ code pc x, code[pc]? = some (UInt8.ofNat 16) → code[pc + 1]? = some x → decode code pc = .ok (.bipush (Reader.signed 8 x.toNat), 2) := fun code pc x h h2 => dc_fin (q := pc + 1 + 1) ((dc_bind (dc_u1 h)).trans ((dc_bind (dc_s1 h2)).trans rfl)) rfl
theorem dc_167 : ∀ code pc x y, code[pc]? = some (UInt8.ofNat 167) → code[pc + 1]? = some x → code[pc + 1 + 1]? = some y → decode code pc = .ok (.goto (Reader.signed 16 (x.toNat * 256 + y.toNat)), 3) := fun code pc x y h h2 h3 => dc_fin (q := pc + 1 + 1 + 1) ((dc_bind (dc_u1 h)).trans ((dc_bind (dc_s2 h2 h3)).trans rfl)) rfl
theorem dc_198 : ∀ code pc x y, code[pc]? = some (UInt8.ofNat 198) → code[pc + 1]? = some x → code[pc + 1 + 1]? = some y → decode code pc = .ok (.ifnull (Reader.signed 16 (x.toNat * 256 + y.toNat)), 3) := fun code pc x y h h2 h3 => dc_fin (q := pc + 1 + 1 + 1) ((dc_bind (dc_u1 h)).trans ((dc_bind (dc_s2 h2 h3)).trans rfl)) rfl
theorem dc_199 : ∀ code pc x y, code[pc]? = some (UInt8.ofNat 199) → code[pc + 1]? = some x → code[pc + 1 + 1]? = some y → decode code pc = .ok (.ifnonnull (Reader.signed 16 (x.toNat * 256 + y.toNat)), 3) := fun code pc x y h h2 h3 => dc_fin (q := pc + 1 + 1 + 1) ((dc_bind (dc_u1 h)).trans ((dc_bind (dc_s2 h2 h3)).trans rfl)) rfl
theorem dc_17 : ∀ code pc x y, code[pc]? = some (UInt8.ofNat 17) → code[pc + 1]? = some x → code[pc + 1 + 1]? = some y → decode code pc = .ok (.sipush (Reader.signed 16 (x.toNat * 256 + y.toNat)), 3) := fun code pc x y h h2 h3 => dc_fin (q := pc + 1 + 1 + 1) ((dc_bind (dc_u1 h)).trans ((dc_bind (dc_s2 h2 h3)).trans rfl)) rfl
theorem dc_153 : ∀ code pc x y, code[pc]? = some (UInt8.ofNat 153) → code[pc + 1]? = some x → code[pc + 1 + 1]? = some y → decode code pc = .ok (.ifCond .eq (Reader.signed 16 (x.toNat * 256 + y.toNat)), 3) := fun code pc x y h h2 h3 => dc_fin (q := pc + 1 + 1 + 1) ((dc_bind (dc_u1 h)).trans ((dc_bind (dc_s2 h2 h3)).trans rfl)) rfl
theorem dc_154 : ∀ code pc x y, code[pc]? = some (UInt8.ofNat 154) → code[pc + 1]? = some x → code[pc + 1 + 1]? = some y → decode code pc = .ok (.ifCond .ne (Reader.signed 16 (x.toNat * 256 + y.toNat)), 3) := fun code pc x y h h2 h3 => dc_fin (q := pc + 1 + 1 + 1) ((dc_bind (dc_u1 h)).trans ((dc_bind (dc_s2 h2 h3)).trans rfl)) rfl
theorem dc_155 : ∀ code pc x y, code[pc]? = some (UInt8.ofNat 155) → code[pc + 1]? = some x → code[pc + 1 + 1]? = some y → decode code pc = .ok (.ifCond .lt (Reader.signed 16 (x.toNat * 256 + y.toNat)), 3) := fun code pc x y h h2 h3 => dc_fin (q := pc + 1 + 1 + 1) ((dc_bind (dc_u1 h)).trans ((dc_bind (dc_s2 h2 h3)).trans rfl)) rfl
theorem dc_156 : ∀ code pc x y, code[pc]? = some (UInt8.ofNat 156) → code[pc + 1]? = some x → code[pc + 1 + 1]? = some y → decode code pc = .ok (.ifCond .ge (Reader.signed 16 (x.toNat * 256 + y.toNat)), 3) := fun code pc x y h h2 h3 => dc_fin (q := pc + 1 + 1 + 1) ((dc_bind (dc_u1 h)).trans ((dc_bind (dc_s2 h2 h3)).trans rfl)) rfl
theorem dc_157 : ∀ code pc x y, code[pc]? = some (UInt8.ofNat 157) → code[pc + 1]? = some x → code[pc + 1 + 1]? = some y → decode code pc = .ok (.ifCond .gt (Reader.signed 16 (x.toNat * 256 + y.toNat)), 3) := fun code pc x y h h2 h3 => dc_fin (q := pc + 1 + 1 + 1) ((dc_bind (dc_u1 h)).trans ((dc_bind (dc_s2 h2 h3)).trans rfl)) rfl
theorem dc_158 : ∀ code pc x y, code[pc]? = some (UInt8.ofNat 158) → code[pc + 1]? = some x → code[pc + 1 + 1]? = some y → decode code pc = .ok (.ifCond .le (Reader.signed 16 (x.toNat * 256 + y.toNat)), 3) := fun code pc x y h h2 h3 => dc_fin (q := pc + 1 + 1 + 1) ((dc_bind (dc_u1 h)).trans ((dc_bind (dc_s2 h2 h3)).trans rfl)) rfl
theorem dc_159 : ∀ code pc x y, code[pc]? = some (UInt8.ofNat 159) → code[pc + 1]? = some x → code[pc + 1 + 1]? = some y → decode code pc = .ok (.if_icmp .eq (Reader.signed 16 (x.toNat * 256 + y.toNat)), 3) := fun code pc x y h h2 h3 => dc_fin (q := pc + 1 + 1 + 1) ((dc_bind (dc_u1 h)).trans ((dc_bind (dc_s2 h2 h3)).trans rfl)) rfl
theorem dc_160 : ∀ code pc x y, code[pc]? = some (UInt8.ofNat 160) → code[pc + 1]? = some x → code[pc + 1 + 1]? = some y → decode code pc = .ok (.if_icmp .ne (Reader.signed 16 (x.toNat * 256 + y.toNat)), 3) := fun code pc x y h h2 h3 => dc_fin (q := pc + 1 + 1 + 1) ((dc_bind (dc_u1 h)).trans ((dc_bind (dc_s2 h2 h3)).trans rfl)) rfl
theorem dc_161 : ∀ code pc x y, code[pc]? = some (UInt8.ofNat 161) → code[pc + 1]? = some x → code[pc + 1 + 1]? = some y → decode code pc = .ok (.if_icmp .lt (Reader.signed 16 (x.toNat * 256 + y.toNat)), 3) := fun code pc x y h h2 h3 => dc_fin (q := pc + 1 + 1 + 1) ((dc_bind (dc_u1 h)).trans ((dc_bind (dc_s2 h2 h3)).trans rfl)) rfl
theorem dc_162 : ∀ code pc x y, code[pc]? = some (UInt8.ofNat 162) → code[pc + 1]? = some x → code[pc + 1 + 1]? = some y → decode code pc = .ok (.if_icmp .ge (Reader.signed 16 (x.toNat * 256 + y.toNat)), 3) := fun code pc x y h h2 h3 => dc_fin (q := pc + 1 + 1 + 1) ((dc_bind (dc_u1 h)).trans ((dc_bind (dc_s2 h2 h3)).trans rfl)) rfl
theorem dc_163 : ∀ code pc x y, code[pc]? = some (UInt8.ofNat 163) → code[pc + 1]? = some x → code[pc + 1 + 1]? = some y → decode code pc = .ok (.if_icmp .gt (Reader.signed 16 (x.toNat * 256 + y.toNat)), 3) := fun code pc x y h h2 h3 => dc_fin (q := pc + 1 + 1 + 1) ((dc_bind (dc_u1 h)).trans ((dc_bind (dc_s2 h2 h3)).trans rfl)) rfl
theorem dc_164 : ∀ code pc x y, code[pc]? = some (UInt8.ofNat 164) → code[pc + 1]? = some x → code[pc + 1 + 1]? = some y → decode code pc = .ok (.if_icmp .le (Reader.signed 16 (x.toNat * 256 + y.toNat)), 3) := fun code pc x y h h2 h3 => dc_fin (q := pc + 1 + 1 + 1) ((dc_bind (dc_u1 h)).trans ((dc_bind (dc_s2 h2 h3)).trans rfl)) rfl
theorem dc_132 : ∀ code pc x y, code[pc]? = some (UInt8.ofNat 132) → code[pc + 1]? = some x → code[pc + 1 + 1]? = some y → decode code pc = .ok (.iinc x.toNat (Reader.signed 8 y.toNat), 3) := fun code pc x y h h2 h3 => dc_fin (q := pc + 1 + 1 + 1) ((dc_bind (dc_u1 h)).trans ((dc_bind (dc_u1 h2)).trans ((dc_bind (dc_s1 h3)).trans rfl))) rfl
theorem dc_188_4 : ∀ code pc, code[pc]? = some (UInt8.ofNat 188) → code[pc + 1]? = some (UInt8.ofNat 4) → decode code pc = .ok (.newarray .boolean, 2) := fun code pc h h2 => dc_fin (q := pc + 1 + 1) ((dc_bind (dc_u1 h)).trans ((dc_bind (dc_u1 h2)).trans rfl)) rfl
theorem dc_188_8 : ∀ code pc, code[pc]? = some (UInt8.ofNat 188) → code[pc + 1]? = some (UInt8.ofNat 8) → decode code pc = .ok (.newarray .byte, 2) := fun code pc h h2 => dc_fin (q := pc + 1 + 1) ((dc_bind (dc_u1 h)).trans ((dc_bind (dc_u1 h2)).trans rfl)) rfl
theorem dc_188_10 : ∀ code pc, code[pc]? = some (UInt8.ofNat 188) → code[pc + 1]? = some (UInt8.ofNat 10) → decode code pc = .ok (.newarray .int, 2) := fun code pc h h2 => dc_fin (q := pc + 1 + 1) ((dc_bind (dc_u1 h)).trans ((dc_bind (dc_u1 h2)).trans rfl)) rfl
def encOk (i : Instr) (n : Nat) (bs : List UInt8) : Bool := match i with
  | .aaload => e0 50 n bs
  | .aastore => e0 83 n bs
  | .aconst_null => e0 1 n bs
  | .areturn => e0 176 n bs
  | .arraylength => e0 190 n bs
  | .athrow => e0 191 n bs
  | .baload => e0 51 n bs
  | .bastore => e0 84 n bs
  | .dup => e0 89 n bs
  | .dup2 => e0 92 n bs
  | .i2b => e0 145 n bs
  | .i2c => e0 146 n bs
  | .i2l => e0 133 n bs
  | .iadd => e0 96 n bs
  | .iaload => e0 46 n bs
  | .iand => e0 126 n bs
  | .iastore => e0 79 n bs
  | .idiv => e0 108 n bs
  | .imul => e0 104 n bs
  | .ineg => e0 116 n bs
  | .ior => e0 128 n bs
  | .irem => e0 112 n bs
  | .ireturn => e0 172 n bs
  | .ishl => e0 120 n bs
  | .ishr => e0 122 n bs
  | .isub => e0 100 n bs
  | .iushr => e0 124 n bs
  | .ixor => e0 130 n bs
  | .lcmp => e0 148 n bs
  | .lor => e0 129 n bs
  | .lshl => e0 121 n bs
  | .pop => e0 87 n bs
  | .return_ => e0 177 n bs
  | .aload_n k => e0 (42 + k.val) n bs
  | .astore_n k => e0 (75 + k.val) n bs
  | .iload_n k => e0 (26 + k.val) n bs
  | .istore_n k => e0 (59 + k.val) n bs
  | .lload_n k => e0 (30 + k.val) n bs
  | .lconst k => e0 (9 + k.val) n bs
  | .iconst k => decide (-1 ≤ k ∧ k ≤ 5) && e0 (k + 3).toNat n bs
  | .aload k => e1u 25 k n bs
  | .astore k => e1u 58 k n bs
  | .iload k => e1u 21 k n bs
  | .istore k => e1u 54 k n bs
  | .ldc k => e1u 18 k n bs
  | .anewarray k => e2u 189 k n bs
  | .getfield k => e2u 180 k n bs
  | .getstatic k => e2u 178 k n bs
  | .invokespecial k => e2u 183 k n bs
  | .invokestatic k => e2u 184 k n bs
  | .invokevirtual k => e2u 182 k n bs
  | .ldc2_w k => e2u 20 k n bs
  | .ldc_w k => e2u 19 k n bs
  | .new k => e2u 187 k n bs
  | .putfield k => e2u 181 k n bs
  | .bipush k => e1s 16 k n bs
  | .goto k => e2s 167 k n bs
  | .ifnull k => e2s 198 k n bs
  | .ifnonnull k => e2s 199 k n bs
  | .sipush k => e2s 17 k n bs
  | .ifCond .eq k => e2s 153 k n bs
  | .ifCond .ne k => e2s 154 k n bs
  | .ifCond .lt k => e2s 155 k n bs
  | .ifCond .ge k => e2s 156 k n bs
  | .ifCond .gt k => e2s 157 k n bs
  | .ifCond .le k => e2s 158 k n bs
  | .if_icmp .eq k => e2s 159 k n bs
  | .if_icmp .ne k => e2s 160 k n bs
  | .if_icmp .lt k => e2s 161 k n bs
  | .if_icmp .ge k => e2s 162 k n bs
  | .if_icmp .gt k => e2s 163 k n bs
  | .if_icmp .le k => e2s 164 k n bs
  | .iinc j k => ei j k n bs
  | .newarray .boolean => e1u 188 4 n bs
  | .newarray .byte => e1u 188 8 n bs
  | .newarray .int => e1u 188 10 n bs
  | _ => false
set_option maxHeartbeats 4000000 in
theorem enc_ok {i : Instr} {n pc : Nat} {bs : List UInt8} {code : ByteArray} (h : encOk i n bs = true) (ha : dc_at code pc bs) : decode code pc = .ok (i, n) := by
  unfold encOk at h
  split at h
  · exact e0_ok dc_50 h ha
  · exact e0_ok dc_83 h ha
  · exact e0_ok dc_1 h ha
  · exact e0_ok dc_176 h ha
  · exact e0_ok dc_190 h ha
  · exact e0_ok dc_191 h ha
  · exact e0_ok dc_51 h ha
  · exact e0_ok dc_84 h ha
  · exact e0_ok dc_89 h ha
  · exact e0_ok dc_92 h ha
  · exact e0_ok dc_145 h ha
  · exact e0_ok dc_146 h ha
  · exact e0_ok dc_133 h ha
  · exact e0_ok dc_96 h ha
  · exact e0_ok dc_46 h ha
  · exact e0_ok dc_126 h ha
  · exact e0_ok dc_79 h ha
  · exact e0_ok dc_108 h ha
  · exact e0_ok dc_104 h ha
  · exact e0_ok dc_116 h ha
  · exact e0_ok dc_128 h ha
  · exact e0_ok dc_112 h ha
  · exact e0_ok dc_172 h ha
  · exact e0_ok dc_120 h ha
  · exact e0_ok dc_122 h ha
  · exact e0_ok dc_100 h ha
  · exact e0_ok dc_124 h ha
  · exact e0_ok dc_130 h ha
  · exact e0_ok dc_148 h ha
  · exact e0_ok dc_129 h ha
  · exact e0_ok dc_121 h ha
  · exact e0_ok dc_87 h ha
  · exact e0_ok dc_177 h ha
  · rename_i k
    match k, h with
    | 0, h => exact e0_ok dc_42 h ha
    | 1, h => exact e0_ok dc_43 h ha
    | 2, h => exact e0_ok dc_44 h ha
    | 3, h => exact e0_ok dc_45 h ha
  · rename_i k
    match k, h with
    | 0, h => exact e0_ok dc_75 h ha
    | 1, h => exact e0_ok dc_76 h ha
    | 2, h => exact e0_ok dc_77 h ha
    | 3, h => exact e0_ok dc_78 h ha
  · rename_i k
    match k, h with
    | 0, h => exact e0_ok dc_26 h ha
    | 1, h => exact e0_ok dc_27 h ha
    | 2, h => exact e0_ok dc_28 h ha
    | 3, h => exact e0_ok dc_29 h ha
  · rename_i k
    match k, h with
    | 0, h => exact e0_ok dc_59 h ha
    | 1, h => exact e0_ok dc_60 h ha
    | 2, h => exact e0_ok dc_61 h ha
    | 3, h => exact e0_ok dc_62 h ha
  · rename_i k
    match k, h with
    | 0, h => exact e0_ok dc_30 h ha
    | 1, h => exact e0_ok dc_31 h ha
    | 2, h => exact e0_ok dc_32 h ha
    | 3, h => exact e0_ok dc_33 h ha
  · rename_i k
    match k, h with
    | 0, h => exact e0_ok dc_9 h ha
    | 1, h => exact e0_ok dc_10 h ha
  · rename_i k
    simp only [Bool.and_eq_true, decide_eq_true_eq] at h
    obtain ⟨⟨h1, h2⟩, h⟩ := h
    have hk : k = -1 ∨ k = 0 ∨ k = 1 ∨ k = 2 ∨ k = 3 ∨ k = 4 ∨ k = 5 := by omega
    rcases hk with rfl | rfl | rfl | rfl | rfl | rfl | rfl
    · exact e0_ok dc_2 h ha
    · exact e0_ok dc_3 h ha
    · exact e0_ok dc_4 h ha
    · exact e0_ok dc_5 h ha
    · exact e0_ok dc_6 h ha
    · exact e0_ok dc_7 h ha
    · exact e0_ok dc_8 h ha
  · rename_i k
    exact e1u_ok dc_25 h ha
  · rename_i k
    exact e1u_ok dc_58 h ha
  · rename_i k
    exact e1u_ok dc_21 h ha
  · rename_i k
    exact e1u_ok dc_54 h ha
  · rename_i k
    exact e1u_ok dc_18 h ha
  · rename_i k
    exact e2u_ok dc_189 h ha
  · rename_i k
    exact e2u_ok dc_180 h ha
  · rename_i k
    exact e2u_ok dc_178 h ha
  · rename_i k
    exact e2u_ok dc_183 h ha
  · rename_i k
    exact e2u_ok dc_184 h ha
  · rename_i k
    exact e2u_ok dc_182 h ha
  · rename_i k
    exact e2u_ok dc_20 h ha
  · rename_i k
    exact e2u_ok dc_19 h ha
  · rename_i k
    exact e2u_ok dc_187 h ha
  · rename_i k
    exact e2u_ok dc_181 h ha
  · rename_i k
    exact e1s_ok dc_16 h ha
  · rename_i k
    exact e2s_ok dc_167 h ha
  · rename_i k
    exact e2s_ok dc_198 h ha
  · rename_i k
    exact e2s_ok dc_199 h ha
  · rename_i k
    exact e2s_ok dc_17 h ha
  · rename_i k
    exact e2s_ok (i := fun k => .ifCond .eq k) dc_153 h ha
  · rename_i k
    exact e2s_ok (i := fun k => .ifCond .ne k) dc_154 h ha
  · rename_i k
    exact e2s_ok (i := fun k => .ifCond .lt k) dc_155 h ha
  · rename_i k
    exact e2s_ok (i := fun k => .ifCond .ge k) dc_156 h ha
  · rename_i k
    exact e2s_ok (i := fun k => .ifCond .gt k) dc_157 h ha
  · rename_i k
    exact e2s_ok (i := fun k => .ifCond .le k) dc_158 h ha
  · rename_i k
    exact e2s_ok (i := fun k => .if_icmp .eq k) dc_159 h ha
  · rename_i k
    exact e2s_ok (i := fun k => .if_icmp .ne k) dc_160 h ha
  · rename_i k
    exact e2s_ok (i := fun k => .if_icmp .lt k) dc_161 h ha
  · rename_i k
    exact e2s_ok (i := fun k => .if_icmp .ge k) dc_162 h ha
  · rename_i k
    exact e2s_ok (i := fun k => .if_icmp .gt k) dc_163 h ha
  · rename_i k
    exact e2s_ok (i := fun k => .if_icmp .le k) dc_164 h ha
  · rename_i j k
    exact ei_ok dc_132 h ha
  · unfold e1u at h
    split at h
    · simp only [Bool.and_eq_true, beq_iff_eq] at h
      rw [h.1.1]
      refine dc_188_4 _ _ (dc_hd ha h.1.2) ?_
      rw [ha 1 _ rfl, ← h.2]; simp
    · cases h
  · unfold e1u at h
    split at h
    · simp only [Bool.and_eq_true, beq_iff_eq] at h
      rw [h.1.1]
      refine dc_188_8 _ _ (dc_hd ha h.1.2) ?_
      rw [ha 1 _ rfl, ← h.2]; simp
    · cases h
  · unfold e1u at h
    split at h
    · simp only [Bool.and_eq_true, beq_iff_eq] at h
      rw [h.1.1]
      refine dc_188_10 _ _ (dc_hd ha h.1.2) ?_
      rw [ha 1 _ rfl, ← h.2]; simp
    · cases h
  · cases h
/-- the instructions of a stretch, one behind the other -/
def dseq (cc : ByteArray) : Nat → List (Instr × Nat) → Prop
  | _, [] => True
  | pc, (i, n) :: t => decode cc pc = .ok (i, n) ∧ dseq cc (pc + n) t
def ckL : List UInt8 → List (Instr × Nat) → Bool
  | _, [] => true
  | bs, (i, n) :: t => encOk i n bs && ckL (bs.drop n) t
theorem ckL_ok {cc : ByteArray} : ∀ (l : List (Instr × Nat)) (bs : List UInt8) (pc : Nat), ckL bs l = true → dc_at cc pc bs → dseq cc pc l
  | [], _, _, _, _ => trivial
  | (i, n) :: t, bs, pc, h, ha => by
    have h1 : (encOk i n bs && ckL (bs.drop n) t) = true := h
    simp only [Bool.and_eq_true] at h1
    refine ⟨enc_ok h1.1 ha, ckL_ok t (bs.drop n) (pc + n) h1.2 (fun k b hk => ?_)⟩
    rw [List.getElem?_drop] at hk
    rw [Nat.add_assoc]
    exact ha _ _ hk
theorem dq {cc : ByteArray} {L : List UInt8} (hc : cc = ⟨L.toArray⟩) (pc : Nat) (l : List (Instr × Nat)) (h : ckL (L.drop pc) l = true) : dseq cc pc l := by
  refine ckL_ok l _ pc h (fun k b hk => ?_)
  rw [List.getElem?_drop] at hk
  subst hc
  have hlt := (List.getElem?_eq_some_iff.mp hk).1
  have hv := (List.getElem?_eq_some_iff.mp hk).2
  have hs : pc + k < (⟨L.toArray⟩ : ByteArray).size := hlt
  rw [getElem?_pos (⟨L.toArray⟩ : ByteArray) (pc + k) hs]
  exact congrArg some hv
theorem dq_head {cc : ByteArray} {pc n : Nat} {i : Instr} {t : List (Instr × Nat)} (h : dseq cc pc ((i, n) :: t)) : decode cc pc = .ok (i, n) := h.1
theorem dq_tail {cc : ByteArray} {pc n : Nat} {i : Instr} {t : List (Instr × Nat)} (h : dseq cc pc ((i, n) :: t)) : dseq cc (pc + n) t := h.2
