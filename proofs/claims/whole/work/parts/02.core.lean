/-! ===== the plain machine: values, heaps, worlds ===== -/
/-- the fixed things of a run: class ids, field slots, array classes, the first address, the String constants and their bytes -/
abbrev Gm : Type := (Nat → ClassId) × (Nat → Nat → Nat) × (Nat → ClassId) × Nat × (Nat → Nat) × (Nat → Nat)
def gD (G : Gm) : va_G := (G.1, G.2.1)
def gA (G : Gm) (k : Nat) : ClassId := G.2.2.1 k
def gB (G : Gm) : Nat := G.2.2.2.1
def gS (G : Gm) (k : Nat) : Nat := G.2.2.2.2.1 k
def gV (G : Gm) (k : Nat) : Nat := G.2.2.2.2.2 k
def gT (G : Gm) : List (ClassId × FieldType) := [(gA G 0, .byte), (gA G 1, .int), (gA G 2, .boolean), (gA G 3, .object RX8)]
/-- a plain value as the machine has it: addresses count from the first one, a constant text is its number -/
def cz (G : Gm) : Value → Value
  | .ref a => .ref (gB G + a)
  | .retAddr k => .ref (gS G k)
  | v => v
/-- a plain heap: kinds, lengths, ints, references, longs, how many cells, how many slots -/
abbrev Hp : Type := (Nat → Nat) × (Nat → Nat) × (Nat → Nat → Int32) × (Nat → Nat → Option Nat) × (Nat → Nat → Int64) × Nat × Nat
def hK (h : Hp) : Nat → Nat := h.1
def hL (h : Hp) : Nat → Nat := h.2.1
def hI (h : Hp) : Nat → Nat → Int32 := h.2.2.1
def hR (h : Hp) : Nat → Nat → Option Nat := h.2.2.2.1
def hJ (h : Hp) : Nat → Nat → Int64 := h.2.2.2.2.1
def hT (h : Hp) : Nat := h.2.2.2.2.2.1
def hS (h : Hp) : Nat := h.2.2.2.2.2.2
def u2 {α : Type} (f : Nat → Nat → α) (a j : Nat) (v : α) : Nat → Nat → α := fun b i => if b = a ∧ i = j then v else f b i
def u1 {α : Type} (f : Nat → α) (a : Nat) (v : α) : Nat → α := fun b => if b = a then v else f b
def pI (h : Hp) (a j : Nat) (v : Int32) : Hp := (hK h, hL h, u2 (hI h) a j v, hR h, hJ h, hT h, hS h)
def pR (h : Hp) (a j : Nat) (v : Option Nat) : Hp := (hK h, hL h, hI h, u2 (hR h) a j v, hJ h, hT h, hS h)
def pJ (h : Hp) (a j : Nat) (v : Int64) : Hp := (hK h, hL h, hI h, hR h, u2 (hJ h) a j v, hT h, hS h)
/-- the ints as a whole -/
def wI (h : Hp) (f : Nat → Nat → Int32) : Hp := (hK h, hL h, f, hR h, hJ h, hT h, hS h)
/-- a new cell of kind k with n slots, all at their first values -/
def nC (h : Hp) (k n : Nat) : Hp := (u1 (hK h) (hT h) k, u1 (hL h) (hT h) n, u1 (hI h) (hT h) (fun _ => 0), u1 (hR h) (hT h) (fun _ => none), u1 (hJ h) (hT h) (fun _ => 0), hT h + 1, hS h + n)
/-- the fields' types by class and place; how many fields a class has -/
def fty (k : Nat) : Nat → FieldType := match k with
  | 0 => tyX0 | 1 => tyX1 | 2 => tyX2 | 3 => tyX3 | 4 => tyX4 | 5 => tyX5 | 6 => tyX6 | 7 => tyX7 | 8 => tyX8 | 9 => tyX9 | 10 => tyX10 | 11 => tyX11 | _ => tyX12
def fN (k : Nat) : Nat := match k with
  | 0 => 5 | 1 => 12 | 2 => 6 | 3 => 13 | 4 => 13 | 5 => 3 | 6 => 6 | 7 => 8 | 8 => 5 | 9 => 2 | 10 => 6 | 11 => 6 | _ => 59
/-- what a field holds, by its type -/
def fvT (h : Hp) (a j : Nat) : FieldType → Value
  | .long => .long (hJ h a j)
  | .object _ => va_rf (hR h a j)
  | .array _ => va_rf (hR h a j)
  | _ => .int (hI h a j)
def fv (h : Hp) (a k j : Nat) : Value := fvT h a j (fty k j)
def flds (G : Gm) (h : Hp) (a k : Nat) : List Value := (List.range (fN k)).map (fun j => cz G (fv h a k j))
def cellE (G : Gm) (h : Hp) (a : Nat) : va_E :=
  if hK h a < 13 then .inr (hK h a, flds G h a (hK h a))
  else if hK h a = 16 then .inl (gA G 3, hL h a, .inr (.inr (.inr (.inr (fun j => (hR h a j).map (fun x => gB G + x))))))
  else .inl (gA G (hK h a - 13), hL h a, .inl (hI h a))
def plist (G : Gm) (h : Hp) : va_W := (List.range (hT h)).map (fun a => (gB G + a, cellE G h a))
def HR (G : Gm) (h : Hp) (H : Heap) : Prop := H.size = gB G + hT h ∧ va_P (gD G) vwCl (plist G h) H
theorem plist_at {G : Gm} {h : Hp} {a : Nat} (ha : a < hT h) : (plist G h)[a]? = some (gB G + a, cellE G h a) := by
  simp [plist, ha]
theorem plist_len (G : Gm) (h : Hp) : (plist G h).length = hT h := by simp [plist]
theorem plist_D (G : Gm) (h : Hp) : va_D (fun q => gB G ≤ q) (plist G h) := by
  refine ⟨fun i j p q hi hj e => ?_, fun k q hk => ?_⟩
  · have hi' := (List.getElem?_eq_some_iff.mp hi).1
    have hj' := (List.getElem?_eq_some_iff.mp hj).1
    rw [plist_len] at hi' hj'
    rw [plist_at hi'] at hi
    rw [plist_at hj'] at hj
    cases hi; cases hj
    simp only at e
    omega
  · have hk' := (List.getElem?_eq_some_iff.mp hk).1
    rw [plist_len] at hk'
    rw [plist_at hk'] at hk
    cases hk
    exact Nat.le_add_right _ _
/-- one cell is another: the list of cells -/
theorem plist_set {G : Gm} {h h' : Hp} {a : Nat} {E : va_E} (hT' : hT h' = hT h) (hE : cellE G h' a = E) (ho : ∀ b, b ≠ a → cellE G h' b = cellE G h b) : (plist G h).set a (gB G + a, E) = plist G h' := by
  apply List.ext_getElem?
  intro i
  rw [List.getElem?_set]
  by_cases hi : i < hT h
  · by_cases e : a = i
    · subst e
      rw [plist_at (h := h') (by omega), if_pos rfl, if_pos (by rw [plist_len]; exact hi), hE]
    · rw [if_neg e, plist_at hi, plist_at (h := h') (by omega), ho i (fun q => e q.symm)]
  · have h1 : (plist G h)[i]? = none := List.getElem?_eq_none (by rw [plist_len]; omega)
    have h2 : (plist G h')[i]? = none := List.getElem?_eq_none (by rw [plist_len, hT']; omega)
    rw [h2]
    split
    · rw [plist_len] at *
      split <;> first | rfl | omega
    · exact h1
theorem plist_new {G : Gm} {h h' : Hp} {E : va_E} (hT' : hT h' = hT h + 1) (hE : cellE G h' (hT h) = E) (ho : ∀ b, b < hT h → cellE G h' b = cellE G h b) : plist G h ++ [(gB G + hT h, E)] = plist G h' := by
  unfold plist
  rw [hT', List.range_succ, List.map_append, List.map_singleton, hE]
  congr 1
  apply List.map_congr_left
  intro a ha
  rw [ho a (List.mem_range.mp ha)]
/-! reading a heap that was written -/
section HpLaws
variable (h : Hp) (a b i j k n : Nat) (v : Int32) (r : Option Nat) (w : Int64) (f : Nat → Nat → Int32)
theorem hK_pI : hK (pI h a j v) = hK h := rfl
theorem hL_pI : hL (pI h a j v) = hL h := rfl
theorem hI_pI : hI (pI h a j v) b i = if b = a ∧ i = j then v else hI h b i := rfl
theorem hR_pI : hR (pI h a j v) = hR h := rfl
theorem hJ_pI : hJ (pI h a j v) = hJ h := rfl
theorem hT_pI : hT (pI h a j v) = hT h := rfl
theorem hS_pI : hS (pI h a j v) = hS h := rfl
theorem hK_pR : hK (pR h a j r) = hK h := rfl
theorem hL_pR : hL (pR h a j r) = hL h := rfl
theorem hI_pR : hI (pR h a j r) = hI h := rfl
theorem hR_pR : hR (pR h a j r) b i = if b = a ∧ i = j then r else hR h b i := rfl
theorem hJ_pR : hJ (pR h a j r) = hJ h := rfl
theorem hT_pR : hT (pR h a j r) = hT h := rfl
theorem hS_pR : hS (pR h a j r) = hS h := rfl
theorem hK_pJ : hK (pJ h a j w) = hK h := rfl
theorem hL_pJ : hL (pJ h a j w) = hL h := rfl
theorem hI_pJ : hI (pJ h a j w) = hI h := rfl
theorem hR_pJ : hR (pJ h a j w) = hR h := rfl
theorem hJ_pJ : hJ (pJ h a j w) b i = if b = a ∧ i = j then w else hJ h b i := rfl
theorem hT_pJ : hT (pJ h a j w) = hT h := rfl
theorem hS_pJ : hS (pJ h a j w) = hS h := rfl
theorem hK_wI : hK (wI h f) = hK h := rfl
theorem hL_wI : hL (wI h f) = hL h := rfl
theorem hI_wI : hI (wI h f) = f := rfl
theorem hR_wI : hR (wI h f) = hR h := rfl
theorem hJ_wI : hJ (wI h f) = hJ h := rfl
theorem hT_wI : hT (wI h f) = hT h := rfl
theorem hS_wI : hS (wI h f) = hS h := rfl
theorem hK_nC : hK (nC h k n) b = if b = hT h then k else hK h b := rfl
theorem hL_nC : hL (nC h k n) b = if b = hT h then n else hL h b := rfl
theorem hI_nC : hI (nC h k n) b i = if b = hT h then 0 else hI h b i := by
  show (u1 (hI h) (hT h) (fun _ => 0)) b i = _
  unfold u1; split <;> rfl
theorem hR_nC : hR (nC h k n) b i = if b = hT h then none else hR h b i := by
  show (u1 (hR h) (hT h) (fun _ => none)) b i = _
  unfold u1; split <;> rfl
theorem hJ_nC : hJ (nC h k n) b i = if b = hT h then 0 else hJ h b i := by
  show (u1 (hJ h) (hT h) (fun _ => 0)) b i = _
  unfold u1; split <;> rfl
theorem hT_nC : hT (nC h k n) = hT h + 1 := rfl
theorem hS_nC : hS (nC h k n) = hS h + n := rfl
end HpLaws
