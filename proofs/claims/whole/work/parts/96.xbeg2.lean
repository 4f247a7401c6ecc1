/-! ===== the class: an evening begins, what stands then ===== -/
def BgP (h h' : Hp) (n R E : Nat) (door cold : Int32) : Prop :=
  hT h' = n + 4 ∧ hS h' = hS h + (46 + R) ∧ (∀ a, a < n → hK h' a = hK h a ∧ hL h' a = hL h a ∧ hJ h' a = hJ h a) ∧ (∀ a i, a < n → hR h' a i = hR h a i) ∧ LayN h' n R ∧ hR h' n 0 = hR h 3 4 ∧ (∀ a i, a < n → hI h' a i = hI h a i) ∧ hI h' n 1 = nI E ∧ hI h' n 2 = door ∧ hI h' n 3 = cold ∧ (∀ i, 4 ≤ i → hI h' n i = 0) ∧ (∀ i, hI h' (n + 1) i = 0) ∧ (∀ i, i < 24 → hI h' (n + 2) i = -1) ∧ ∀ i, hI h' (n + 3) i = 0
def bgH (h : Hp) (n R E : Nat) (door cold : Int32) : Hp := niH (nC h 1 12) n R E door cold
section
variable (h : Hp) (n R E : Nat) (door cold : Int32)
theorem bgH_T (hn : n = hT h) : hT (bgH h n R E door cold) = n + 4 := by rw [hn]; rfl
theorem bgH_S : hS (bgH h n R E door cold) = hS h + (46 + R) := by
  show hS h + 12 + 10 + 24 + R = _
  omega
theorem bgH_K (hn : n = hT h) (a : Nat) : hK (bgH h n R E door cold) a = if a = n + 3 then 14 else if a = n + 2 then 14 else if a = n + 1 then 14 else if a = n then 1 else hK h a := by rw [hn]; rfl
theorem bgH_L (hn : n = hT h) (a : Nat) : hL (bgH h n R E door cold) a = if a = n + 3 then R else if a = n + 2 then 24 else if a = n + 1 then 10 else if a = n then 12 else hL h a := by rw [hn]; rfl
theorem bgH_J (hn : n = hT h) (a : Nat) (ha : a < n) : hJ (bgH h n R E door cold) a = hJ h a := by
  subst hn
  have e0 : ¬ a = hT h := by omega
  have e1 : ¬ a = hT h + 1 := by omega
  have e2 : ¬ a = hT h + 1 + 1 := by omega
  have e3 : ¬ a = hT h + 1 + 1 + 1 := by omega
  funext i
  simp only [bgH, niH, niB, niA, hJ_wI, hJ_pR, hJ_pI, hJ_nC, hT_pR, hT_pI, hT_nC, e0, e1, e2, e3, if_false]
theorem bgH_R (hn : n = hT h) (a i : Nat) (ha : a < n) : hR (bgH h n R E door cold) a i = hR h a i := by
  subst hn
  have e0 : ¬ a = hT h := by omega
  have e1 : ¬ a = hT h + 1 := by omega
  have e2 : ¬ a = hT h + 1 + 1 := by omega
  have e3 : ¬ a = hT h + 1 + 1 + 1 := by omega
  simp only [bgH, niH, niB, niA, hR_wI, hR_pR, hR_pI, hR_nC, hT_pR, hT_pI, hT_nC, e0, e1, e2, e3, if_false, false_and]
theorem bgH_Rn (hn : n = hT h) (hn9 : 90 ≤ n) : hR (bgH h n R E door cold) n 0 = hR h 3 4 ∧ hR (bgH h n R E door cold) n 9 = some (n + 1) ∧ hR (bgH h n R E door cold) n 10 = some (n + 2) ∧ hR (bgH h n R E door cold) n 11 = some (n + 3) := by
  subst hn
  have e1 : ¬ hT h = hT h + 1 := by omega
  have e2 : ¬ hT h = hT h + 1 + 1 := by omega
  have e3 : ¬ hT h = hT h + 1 + 1 + 1 := by omega
  have e4 : ¬ 3 = hT h := by omega
  refine ⟨?_, ?_, ?_, ?_⟩ <;> simp only [bgH, niH, niB, niA, hR_wI, hR_pR, hR_pI, hR_nC, hT_pR, hT_pI, hT_nC, e1, e2, e3, e4, if_false, false_and, true_and, if_true, eq_self, Nat.reduceEqDiff]
theorem bgH_I (hn : n = hT h) (a i : Nat) (ha : a < n) : hI (bgH h n R E door cold) a i = hI h a i := by
  subst hn
  have e0 : ¬ a = hT h := by omega
  have e1 : ¬ a = hT h + 1 := by omega
  have e2 : ¬ a = hT h + 1 + 1 := by omega
  have e2' : ¬ a = hT h + 2 := by omega
  have e3 : ¬ a = hT h + 1 + 1 + 1 := by omega
  simp only [bgH, niH, niB, niA, hI_wI, hI_pR, hI_pI, hI_nC, flM, hT_pR, hT_pI, hT_nC, e0, e1, e2, e2', e3, if_false, false_and]
theorem bgH_In (hn : n = hT h) (i : Nat) : hI (bgH h n R E door cold) n i = if i = 3 then cold else if i = 2 then door else if i = 1 then nI E else 0 := by
  subst hn
  have e1 : ¬ hT h = hT h + 1 := by omega
  have e2 : ¬ hT h = hT h + 1 + 1 := by omega
  have e2' : ¬ hT h = hT h + 2 := by omega
  have e3 : ¬ hT h = hT h + 1 + 1 + 1 := by omega
  simp only [bgH, niH, niB, niA, hI_wI, hI_pR, hI_pI, hI_nC, flM, hT_pR, hT_pI, hT_nC, e1, e2, e2', e3, if_false, false_and, true_and, if_true]
theorem bgH_I1 (hn : n = hT h) (i : Nat) : hI (bgH h n R E door cold) (n + 1) i = 0 := by
  subst hn
  have e0 : ¬ hT h + 1 = hT h := by omega
  have e2 : ¬ hT h + 1 = hT h + 1 + 1 := by omega
  have e2' : ¬ hT h + 1 = hT h + 2 := by omega
  have e3 : ¬ hT h + 1 = hT h + 1 + 1 + 1 := by omega
  simp only [bgH, niH, niB, niA, hI_wI, hI_pR, hI_pI, hI_nC, flM, hT_pR, hT_pI, hT_nC, e0, e2, e2', e3, if_false, false_and, true_and, if_true]
theorem bgH_I2 (i : Nat) (hi : i < 24) : hI (bgH h n R E door cold) (n + 2) i = -1 := by
  simp only [bgH, niH, hI_wI, hI_pR, flM, true_and, hi, if_true]
theorem bgH_I3 (hn : n = hT h) (i : Nat) : hI (bgH h n R E door cold) (n + 3) i = 0 := by
  subst hn
  have e0 : ¬ hT h + 3 = hT h + 2 := by omega
  have e3 : hT h + 3 = hT h + 1 + 1 + 1 := by omega
  simp only [bgH, niH, niB, niA, hI_wI, hI_pR, hI_pI, hI_nC, flM, hT_pR, hT_pI, hT_nC, e0, if_false, false_and, e3, if_true]
end
theorem bgH_P (h : Hp) (n R E : Nat) (door cold : Int32) (hn : n = hT h) (hn9 : 90 ≤ n) : BgP h (bgH h n R E door cold) n R E door cold := by
  obtain ⟨r0, r9, r10, r11⟩ := bgH_Rn h n R E door cold hn hn9
  refine ⟨?_, bgH_S h n R E door cold, fun a ha => ⟨?_, ?_, ?_⟩, fun a i ha => bgH_R _ _ _ _ _ _ hn a i ha, ⟨hn9, ?_, ?_, ?_, ?_, ?_, r9, r10, r11, ?_, ?_, ?_⟩, r0, fun a i ha => bgH_I _ _ _ _ _ _ hn a i ha, ?_, ?_, ?_, fun i hi => ?_, fun i => bgH_I1 _ _ _ _ _ _ hn i, fun i hi => bgH_I2 _ _ _ _ _ _ i hi, fun i => bgH_I3 _ _ _ _ _ _ hn i⟩
  · rw [bgH_T _ _ _ _ _ _ hn]
  · rw [bgH_K _ _ _ _ _ _ hn, if_neg (by omega), if_neg (by omega), if_neg (by omega), if_neg (by omega)]
  · rw [bgH_L _ _ _ _ _ _ hn, if_neg (by omega), if_neg (by omega), if_neg (by omega), if_neg (by omega)]
  · exact bgH_J _ _ _ _ _ _ hn a ha
  · rw [bgH_T _ _ _ _ _ _ hn]; omega
  · rw [bgH_K _ _ _ _ _ _ hn, if_neg (by omega), if_neg (by omega), if_neg (by omega), if_pos rfl]
  · rw [bgH_K _ _ _ _ _ _ hn, if_neg (by omega), if_neg (by omega), if_pos rfl]
  · rw [bgH_K _ _ _ _ _ _ hn, if_neg (by omega), if_pos rfl]
  · rw [bgH_K _ _ _ _ _ _ hn, if_pos rfl]
  · rw [bgH_L _ _ _ _ _ _ hn, if_neg (by omega), if_neg (by omega), if_pos rfl]
  · rw [bgH_L _ _ _ _ _ _ hn, if_neg (by omega), if_pos rfl]
  · rw [bgH_L _ _ _ _ _ _ hn, if_pos rfl]
  · rw [bgH_In _ _ _ _ _ _ hn, if_neg (by decide), if_neg (by decide), if_pos rfl]
  · rw [bgH_In _ _ _ _ _ _ hn, if_neg (by decide), if_pos rfl]
  · rw [bgH_In _ _ _ _ _ _ hn, if_pos rfl]
  · rw [bgH_In _ _ _ _ _ _ hn, if_neg (by omega), if_neg (by omega), if_neg (by omega)]
/-- the new Night -/
theorem ngt_go (Q : Option Value → Hp → Prop) (h : Hp) (n R E : Nat) (J : Mem) (door cold : Int32) (hl : LayX h) (hn : n = hT h) (hc : cold = 0 ∨ cold = 1) (hR4 : R ≤ 4) (h12 : hI h 12 0 = nI R) (hE : LtC h J E) (hq : ∀ h', BgP h h' n R E door cold → Q none h') : T_X1_init [.ref n, .ref 3, .int door, .int cold] (nC h 1 12) Q := by
  have hn9 : 90 ≤ n := by rw [hn]; exact hl.1
  have hX2 : LayX (nC h 1 12) := hl.nC _ _
  have r34 : hR (nC h 1 12) 3 4 = hR h 3 4 := by
    rw [hR_nC, if_neg (by omega)]
  have hnn : ¬ hR (nC h 1 12) 3 4 = some n := by
    rw [r34]
    intro z
    obtain ⟨_, e0, e1⟩ := hE
    cases E with
    | zero => rw [e0 rfl] at z; cases z
    | succ e =>
      obtain ⟨m, c1, c2, _⟩ := e1 e rfl
      rw [c1] at z
      cases z
      omega
  have hE2 : LtC (nC h 1 12) J E := LtC_w r34 (show hT h ≤ hT h + 1 by omega) (fun a ha => by rw [hK_nC, if_neg (by omega)]) (fun a i _ _ ha => by rw [hI_nC, if_neg (by omega)]) hE
  refine ⟨rfl, hX2, by rw [hn]; rfl, hn9, ?_, hc, hnn, R, J, E, hR4, ?_, hE2, hq _ (bgH_P h n R E door cold hn hn9)⟩
  · rw [hK_nC, if_pos hn]
  · rw [hI_nC, if_neg (by omega)]; exact h12
