/-! ===== classes, methods, fields: what the tables say ===== -/
theorem lw_X0 : ∀ w ∈ u_ws RX0 TX0 5, w ∈ gw := by
  intro w hw
  obtain ⟨k, hk, rfl⟩ := List.mem_map.mp hw
  have hk2 := List.mem_range.mp hk
  match k, hk2 with
  | 0, _ => exact ch_1_13_ok.2.2.2.1.1 rfl
  | 1, _ => exact ch_1_13_ok.2.2.2.2.2.1.1 rfl
  | 2, _ => exact ch_1_13_ok.2.2.2.2.2.2.2.1.1 rfl
  | 3, _ => exact ch_1_13_ok.2.2.2.2.2.2.2.2.2.1.1 rfl
  | 4, _ => exact ch_1_13_ok.2.2.2.2.2.2.2.2.2.2.2.1.1 rfl
  | n + 5, h => exact absurd h (by omega)
theorem kX0 : clsOk 0 RX0 TX0 5 := ⟨rfl, rfl, by decide, lw_X0, tyX0_ok, nmX0⟩
theorem ot_X0 : ∀ j, j < 5 → okTy (fty 0 j) = true := by decide +kernel
theorem lw_X1 : ∀ w ∈ u_ws RX1 TX1 12, w ∈ gw := by
  intro w hw
  obtain ⟨k, hk, rfl⟩ := List.mem_map.mp hw
  have hk2 := List.mem_range.mp hk
  match k, hk2 with
  | 0, _ => exact ch_3_12_ok.2.2.2.1.1 rfl
  | 1, _ => exact ch_3_12_ok.2.2.2.2.2.1.1 rfl
  | 2, _ => exact ch_3_12_ok.2.2.2.2.2.2.2.1.1 rfl
  | 3, _ => exact ch_3_12_ok.2.2.2.2.2.2.2.2.2.1.1 rfl
  | 4, _ => exact ch_3_12_ok.2.2.2.2.2.2.2.2.2.2.2.1.1 rfl
  | 5, _ => exact ch_3_12_ok.2.2.2.2.2.2.2.2.2.2.2.2.2.1.1 rfl
  | 6, _ => exact ch_3_12_ok.2.2.2.2.2.2.2.2.2.2.2.2.2.2.2.1.1 rfl
  | 7, _ => exact ch_3_13_ok.2.1.1 rfl
  | 8, _ => exact ch_3_13_ok.2.2.2.1.1 rfl
  | 9, _ => exact ch_3_13_ok.2.2.2.2.2.1.1 rfl
  | 10, _ => exact ch_3_13_ok.2.2.2.2.2.2.2.1.1 rfl
  | 11, _ => exact ch_3_13_ok.2.2.2.2.2.2.2.2.2.1.1 rfl
  | n + 12, h => exact absurd h (by omega)
theorem kX1 : clsOk 1 RX1 TX1 12 := ⟨rfl, rfl, by decide, lw_X1, tyX1_ok, nmX1⟩
theorem ot_X1 : ∀ j, j < 12 → okTy (fty 1 j) = true := by decide +kernel
theorem lw_X2 : ∀ w ∈ u_ws RX2 TX2 6, w ∈ gw := by
  intro w hw
  obtain ⟨k, hk, rfl⟩ := List.mem_map.mp hw
  have hk2 := List.mem_range.mp hk
  match k, hk2 with
  | 0, _ => exact ch_3_1_ok.2.2.2.2.2.2.2.1.1 rfl
  | 1, _ => exact ch_3_1_ok.2.2.2.2.2.2.2.2.2.1.1 rfl
  | 2, _ => exact ch_3_1_ok.2.2.2.2.2.2.2.2.2.2.2.1.1 rfl
  | 3, _ => exact ch_3_1_ok.2.2.2.2.2.2.2.2.2.2.2.2.2.1.1 rfl
  | 4, _ => exact ch_3_1_ok.2.2.2.2.2.2.2.2.2.2.2.2.2.2.2.1.1 rfl
  | 5, _ => exact ch_3_2_ok.2.1.1 rfl
  | n + 6, h => exact absurd h (by omega)
theorem kX2 : clsOk 2 RX2 TX2 6 := ⟨rfl, rfl, by decide, lw_X2, tyX2_ok, nmX2⟩
theorem ot_X2 : ∀ j, j < 6 → okTy (fty 2 j) = true := by decide +kernel
theorem lw_X3 : ∀ w ∈ u_ws RX3 TX3 13, w ∈ gw := by
  intro w hw
  obtain ⟨k, hk, rfl⟩ := List.mem_map.mp hw
  have hk2 := List.mem_range.mp hk
  match k, hk2 with
  | 0, _ => exact ch_1_10_ok.2.2.2.2.2.2.2.2.2.2.2.1.1 rfl
  | 1, _ => exact ch_1_10_ok.2.2.2.2.2.2.2.2.2.2.2.2.2.1.1 rfl
  | 2, _ => exact ch_1_10_ok.2.2.2.2.2.2.2.2.2.2.2.2.2.2.2.1.1 rfl
  | 3, _ => exact ch_1_11_ok.2.1.1 rfl
  | 4, _ => exact ch_1_11_ok.2.2.2.1.1 rfl
  | 5, _ => exact ch_1_11_ok.2.2.2.2.2.1.1 rfl
  | 6, _ => exact ch_1_11_ok.2.2.2.2.2.2.2.1.1 rfl
  | 7, _ => exact ch_1_11_ok.2.2.2.2.2.2.2.2.2.1.1 rfl
  | 8, _ => exact ch_1_11_ok.2.2.2.2.2.2.2.2.2.2.2.1.1 rfl
  | 9, _ => exact ch_1_11_ok.2.2.2.2.2.2.2.2.2.2.2.2.2.1.1 rfl
  | 10, _ => exact ch_1_11_ok.2.2.2.2.2.2.2.2.2.2.2.2.2.2.2.1.1 rfl
  | 11, _ => exact ch_1_12_ok.2.1.1 rfl
  | 12, _ => exact ch_1_12_ok.2.2.2.1.1 rfl
  | n + 13, h => exact absurd h (by omega)
theorem kX3 : clsOk 3 RX3 TX3 13 := ⟨rfl, rfl, by decide, lw_X3, tyX3_ok, nmX3⟩
theorem ot_X3 : ∀ j, j < 13 → okTy (fty 3 j) = true := by decide +kernel
theorem lw_X4 : ∀ w ∈ u_ws RX4 TX4 13, w ∈ gw := by
  intro w hw
  obtain ⟨k, hk, rfl⟩ := List.mem_map.mp hw
  have hk2 := List.mem_range.mp hk
  match k, hk2 with
  | 0, _ => exact ch_2_2_ok.2.2.2.2.1.1 rfl
  | 1, _ => exact ch_2_2_ok.2.2.2.2.2.2.1.1 rfl
  | 2, _ => exact ch_2_2_ok.2.2.2.2.2.2.2.2.1.1 rfl
  | 3, _ => exact ch_2_2_ok.2.2.2.2.2.2.2.2.2.2.1.1 rfl
  | 4, _ => exact ch_2_2_ok.2.2.2.2.2.2.2.2.2.2.2.2.1.1 rfl
  | 5, _ => exact ch_2_2_ok.2.2.2.2.2.2.2.2.2.2.2.2.2.2.1.1 rfl
  | 6, _ => exact ch_2_3_ok.1.1 rfl
  | 7, _ => exact ch_2_3_ok.2.2.1.1 rfl
  | 8, _ => exact ch_2_3_ok.2.2.2.2.1.1 rfl
  | 9, _ => exact ch_2_3_ok.2.2.2.2.2.2.1.1 rfl
  | 10, _ => exact ch_2_3_ok.2.2.2.2.2.2.2.2.1.1 rfl
  | 11, _ => exact ch_2_3_ok.2.2.2.2.2.2.2.2.2.2.1.1 rfl
  | 12, _ => exact ch_2_3_ok.2.2.2.2.2.2.2.2.2.2.2.2.1.1 rfl
  | n + 13, h => exact absurd h (by omega)
theorem kX4 : clsOk 4 RX4 TX4 13 := ⟨rfl, rfl, by decide, lw_X4, tyX4_ok, nmX4⟩
theorem ot_X4 : ∀ j, j < 13 → okTy (fty 4 j) = true := by decide +kernel
theorem lw_X5 : ∀ w ∈ u_ws RX5 TX5 3, w ∈ gw := by
  intro w hw
  obtain ⟨k, hk, rfl⟩ := List.mem_map.mp hw
  have hk2 := List.mem_range.mp hk
  match k, hk2 with
  | 0, _ => exact ch_2_4_ok.2.2.1.1 rfl
  | 1, _ => exact ch_2_4_ok.2.2.2.2.1.1 rfl
  | 2, _ => exact ch_2_4_ok.2.2.2.2.2.2.1.1 rfl
  | n + 3, h => exact absurd h (by omega)
theorem kX5 : clsOk 5 RX5 TX5 3 := ⟨rfl, rfl, by decide, lw_X5, tyX5_ok, nmX5⟩
theorem ot_X5 : ∀ j, j < 3 → okTy (fty 5 j) = true := by decide +kernel
theorem lw_X6 : ∀ w ∈ u_ws RX6 TX6 6, w ∈ gw := by
  intro w hw
  obtain ⟨k, hk, rfl⟩ := List.mem_map.mp hw
  have hk2 := List.mem_range.mp hk
  match k, hk2 with
  | 0, _ => exact ch_1_6_ok.2.2.2.2.2.2.2.2.2.2.2.2.1.1 rfl
  | 1, _ => exact ch_1_6_ok.2.2.2.2.2.2.2.2.2.2.2.2.2.2.1.1 rfl
  | 2, _ => exact ch_1_7_ok.1.1 rfl
  | 3, _ => exact ch_1_7_ok.2.2.1.1 rfl
  | 4, _ => exact ch_1_7_ok.2.2.2.2.1.1 rfl
  | 5, _ => exact ch_1_7_ok.2.2.2.2.2.2.1.1 rfl
  | n + 6, h => exact absurd h (by omega)
theorem kX6 : clsOk 6 RX6 TX6 6 := ⟨rfl, rfl, by decide, lw_X6, tyX6_ok, nmX6⟩
theorem ot_X6 : ∀ j, j < 6 → okTy (fty 6 j) = true := by decide +kernel
theorem lw_X7 : ∀ w ∈ u_ws RX7 TX7 8, w ∈ gw := by
  intro w hw
  obtain ⟨k, hk, rfl⟩ := List.mem_map.mp hw
  have hk2 := List.mem_range.mp hk
  match k, hk2 with
  | 0, _ => exact ch_1_4_ok.2.2.2.1.1 rfl
  | 1, _ => exact ch_1_4_ok.2.2.2.2.2.1.1 rfl
  | 2, _ => exact ch_1_4_ok.2.2.2.2.2.2.2.1.1 rfl
  | 3, _ => exact ch_1_4_ok.2.2.2.2.2.2.2.2.2.1.1 rfl
  | 4, _ => exact ch_1_4_ok.2.2.2.2.2.2.2.2.2.2.2.1.1 rfl
  | 5, _ => exact ch_1_4_ok.2.2.2.2.2.2.2.2.2.2.2.2.2.1.1 rfl
  | 6, _ => exact ch_1_4_ok.2.2.2.2.2.2.2.2.2.2.2.2.2.2.2.1.1 rfl
  | 7, _ => exact ch_1_5_ok.2.1.1 rfl
  | n + 8, h => exact absurd h (by omega)
theorem kX7 : clsOk 7 RX7 TX7 8 := ⟨rfl, rfl, by decide, lw_X7, tyX7_ok, nmX7⟩
theorem ot_X7 : ∀ j, j < 8 → okTy (fty 7 j) = true := by decide +kernel
theorem lw_X8 : ∀ w ∈ u_ws RX8 TX8 5, w ∈ gw := by
  intro w hw
  obtain ⟨k, hk, rfl⟩ := List.mem_map.mp hw
  have hk2 := List.mem_range.mp hk
  match k, hk2 with
  | 0, _ => exact ch_1_14_ok.2.2.2.2.2.2.2.2.2.2.2.2.2.2.2.1.1 rfl
  | 1, _ => exact ch_2_0_ok.2.1.1 rfl
  | 2, _ => exact ch_2_0_ok.2.2.2.1.1 rfl
  | 3, _ => exact ch_2_0_ok.2.2.2.2.2.1.1 rfl
  | 4, _ => exact ch_2_0_ok.2.2.2.2.2.2.2.1.1 rfl
  | n + 5, h => exact absurd h (by omega)
theorem kX8 : clsOk 8 RX8 TX8 5 := ⟨rfl, rfl, by decide, lw_X8, tyX8_ok, nmX8⟩
theorem ot_X8 : ∀ j, j < 5 → okTy (fty 8 j) = true := by decide +kernel
theorem lw_X9 : ∀ w ∈ u_ws RX9 TX9 2, w ∈ gw := by
  intro w hw
  obtain ⟨k, hk, rfl⟩ := List.mem_map.mp hw
  have hk2 := List.mem_range.mp hk
  match k, hk2 with
  | 0, _ => exact ch_1_2_ok.2.2.2.2.2.2.2.2.2.1.1 rfl
  | 1, _ => exact ch_1_2_ok.2.2.2.2.2.2.2.2.2.2.2.1.1 rfl
  | n + 2, h => exact absurd h (by omega)
theorem kX9 : clsOk 9 RX9 TX9 2 := ⟨rfl, rfl, by decide, lw_X9, tyX9_ok, nmX9⟩
theorem ot_X9 : ∀ j, j < 2 → okTy (fty 9 j) = true := by decide +kernel
theorem lw_X10 : ∀ w ∈ u_ws RX10 TX10 6, w ∈ gw := by
  intro w hw
  obtain ⟨k, hk, rfl⟩ := List.mem_map.mp hw
  have hk2 := List.mem_range.mp hk
  match k, hk2 with
  | 0, _ => exact ch_2_7_ok.2.2.2.2.2.2.2.2.2.2.2.2.1.1 rfl
  | 1, _ => exact ch_2_7_ok.2.2.2.2.2.2.2.2.2.2.2.2.2.2.1.1 rfl
  | 2, _ => exact ch_2_8_ok.1.1 rfl
  | 3, _ => exact ch_2_8_ok.2.2.1.1 rfl
  | 4, _ => exact ch_2_8_ok.2.2.2.2.1.1 rfl
  | 5, _ => exact ch_2_8_ok.2.2.2.2.2.2.1.1 rfl
  | n + 6, h => exact absurd h (by omega)
theorem kX10 : clsOk 10 RX10 TX10 6 := ⟨rfl, rfl, by decide, lw_X10, tyX10_ok, nmX10⟩
theorem ot_X10 : ∀ j, j < 6 → okTy (fty 10 j) = true := by decide +kernel
theorem lw_X11 : ∀ w ∈ u_ws RX11 TX11 6, w ∈ gw := by
  intro w hw
  obtain ⟨k, hk, rfl⟩ := List.mem_map.mp hw
  have hk2 := List.mem_range.mp hk
  match k, hk2 with
  | 0, _ => exact ch_2_4_ok.2.2.2.2.2.2.2.2.2.2.2.2.2.2.2.1.1 rfl
  | 1, _ => exact ch_2_5_ok.2.1.1 rfl
  | 2, _ => exact ch_2_5_ok.2.2.2.1.1 rfl
  | 3, _ => exact ch_2_5_ok.2.2.2.2.2.1.1 rfl
  | 4, _ => exact ch_2_5_ok.2.2.2.2.2.2.2.1.1 rfl
  | 5, _ => exact ch_2_5_ok.2.2.2.2.2.2.2.2.2.1.1 rfl
  | n + 6, h => exact absurd h (by omega)
theorem kX11 : clsOk 11 RX11 TX11 6 := ⟨rfl, rfl, by decide, lw_X11, tyX11_ok, nmX11⟩
theorem ot_X11 : ∀ j, j < 6 → okTy (fty 11 j) = true := by decide +kernel
theorem lw_X12 : ∀ w ∈ u_ws RX12 TX12 59, w ∈ gw := by
  intro w hw
  obtain ⟨k, hk, rfl⟩ := List.mem_map.mp hw
  have hk2 := List.mem_range.mp hk
  match k, hk2 with
  | 0, _ => exact ch_5_5_ok.2.2.2.2.2.1.1 rfl
  | 1, _ => exact ch_5_5_ok.2.2.2.2.2.2.2.1.1 rfl
  | 2, _ => exact ch_5_5_ok.2.2.2.2.2.2.2.2.2.1.1 rfl
  | 3, _ => exact ch_5_5_ok.2.2.2.2.2.2.2.2.2.2.2.1.1 rfl
  | 4, _ => exact ch_5_5_ok.2.2.2.2.2.2.2.2.2.2.2.2.2.1.1 rfl
  | 5, _ => exact ch_5_5_ok.2.2.2.2.2.2.2.2.2.2.2.2.2.2.2.1.1 rfl
  | 6, _ => exact ch_5_6_ok.2.1.1 rfl
  | 7, _ => exact ch_5_6_ok.2.2.2.1.1 rfl
  | 8, _ => exact ch_5_6_ok.2.2.2.2.2.1.1 rfl
  | 9, _ => exact ch_5_6_ok.2.2.2.2.2.2.2.1.1 rfl
  | 10, _ => exact ch_5_6_ok.2.2.2.2.2.2.2.2.2.1.1 rfl
  | 11, _ => exact ch_5_6_ok.2.2.2.2.2.2.2.2.2.2.2.1.1 rfl
  | 12, _ => exact ch_5_6_ok.2.2.2.2.2.2.2.2.2.2.2.2.2.1.1 rfl
  | 13, _ => exact ch_5_6_ok.2.2.2.2.2.2.2.2.2.2.2.2.2.2.2.1.1 rfl
  | 14, _ => exact ch_5_7_ok.2.1.1 rfl
  | 15, _ => exact ch_5_7_ok.2.2.2.1.1 rfl
  | 16, _ => exact ch_5_7_ok.2.2.2.2.2.1.1 rfl
  | 17, _ => exact ch_5_7_ok.2.2.2.2.2.2.2.1.1 rfl
  | 18, _ => exact ch_5_7_ok.2.2.2.2.2.2.2.2.2.1.1 rfl
  | 19, _ => exact ch_5_7_ok.2.2.2.2.2.2.2.2.2.2.2.1.1 rfl
  | 20, _ => exact ch_5_7_ok.2.2.2.2.2.2.2.2.2.2.2.2.2.1.1 rfl
  | 21, _ => exact ch_5_7_ok.2.2.2.2.2.2.2.2.2.2.2.2.2.2.2.1.1 rfl
  | 22, _ => exact ch_5_8_ok.2.1.1 rfl
  | 23, _ => exact ch_5_8_ok.2.2.2.1.1 rfl
  | 24, _ => exact ch_5_8_ok.2.2.2.2.2.1.1 rfl
  | 25, _ => exact ch_5_8_ok.2.2.2.2.2.2.2.1.1 rfl
  | 26, _ => exact ch_5_8_ok.2.2.2.2.2.2.2.2.2.1.1 rfl
  | 27, _ => exact ch_5_8_ok.2.2.2.2.2.2.2.2.2.2.2.1.1 rfl
  | 28, _ => exact ch_5_8_ok.2.2.2.2.2.2.2.2.2.2.2.2.2.1.1 rfl
  | 29, _ => exact ch_5_8_ok.2.2.2.2.2.2.2.2.2.2.2.2.2.2.2.1.1 rfl
  | 30, _ => exact ch_5_9_ok.2.1.1 rfl
  | 31, _ => exact ch_5_9_ok.2.2.2.1.1 rfl
  | 32, _ => exact ch_5_9_ok.2.2.2.2.2.1.1 rfl
  | 33, _ => exact ch_5_9_ok.2.2.2.2.2.2.2.1.1 rfl
  | 34, _ => exact ch_5_9_ok.2.2.2.2.2.2.2.2.2.1.1 rfl
  | 35, _ => exact ch_5_9_ok.2.2.2.2.2.2.2.2.2.2.2.1.1 rfl
  | 36, _ => exact ch_5_9_ok.2.2.2.2.2.2.2.2.2.2.2.2.2.1.1 rfl
  | 37, _ => exact ch_5_9_ok.2.2.2.2.2.2.2.2.2.2.2.2.2.2.2.1.1 rfl
  | 38, _ => exact ch_5_10_ok.2.1.1 rfl
  | 39, _ => exact ch_5_10_ok.2.2.2.1.1 rfl
  | 40, _ => exact ch_5_10_ok.2.2.2.2.2.1.1 rfl
  | 41, _ => exact ch_5_10_ok.2.2.2.2.2.2.2.1.1 rfl
  | 42, _ => exact ch_5_10_ok.2.2.2.2.2.2.2.2.2.1.1 rfl
  | 43, _ => exact ch_5_10_ok.2.2.2.2.2.2.2.2.2.2.2.1.1 rfl
  | 44, _ => exact ch_5_10_ok.2.2.2.2.2.2.2.2.2.2.2.2.2.1.1 rfl
  | 45, _ => exact ch_5_10_ok.2.2.2.2.2.2.2.2.2.2.2.2.2.2.2.1.1 rfl
  | 46, _ => exact ch_5_11_ok.2.1.1 rfl
  | 47, _ => exact ch_5_11_ok.2.2.2.1.1 rfl
  | 48, _ => exact ch_5_11_ok.2.2.2.2.2.1.1 rfl
  | 49, _ => exact ch_5_11_ok.2.2.2.2.2.2.2.1.1 rfl
  | 50, _ => exact ch_5_11_ok.2.2.2.2.2.2.2.2.2.1.1 rfl
  | 51, _ => exact ch_5_11_ok.2.2.2.2.2.2.2.2.2.2.2.1.1 rfl
  | 52, _ => exact ch_5_11_ok.2.2.2.2.2.2.2.2.2.2.2.2.2.1.1 rfl
  | 53, _ => exact ch_5_11_ok.2.2.2.2.2.2.2.2.2.2.2.2.2.2.2.1.1 rfl
  | 54, _ => exact ch_5_12_ok.2.1.1 rfl
  | 55, _ => exact ch_5_12_ok.2.2.2.1.1 rfl
  | 56, _ => exact ch_5_12_ok.2.2.2.2.2.1.1 rfl
  | 57, _ => exact ch_5_12_ok.2.2.2.2.2.2.2.1.1 rfl
  | 58, _ => exact ch_5_12_ok.2.2.2.2.2.2.2.2.2.1.1 rfl
  | n + 59, h => exact absurd h (by omega)
theorem kX12 : clsOk 12 RX12 TX12 59 := ⟨rfl, rfl, by decide, lw_X12, tyX12_ok, nmX12⟩
theorem ot_X12 : ∀ j, j < 59 → okTy (fty 12 j) = true := by decide +kernel
theorem w_oi2 : Cond.instanceMethod objectInit ∈ gw := ch_1_1_ok.2.2.2.2.2.2.2.2.2.2.2.2.1.1 rfl
theorem w_oi3 : Cond.code objectInit ⟨#[0xb1]⟩ 1 none ∈ gw := ch_1_1_ok.2.2.2.2.2.2.2.2.2.2.2.2.2.1.1 rfl
theorem w_ac2 : Cond.native arraycopyName ∈ gw := ch_5_0_ok.2.2.2.2.2.1.1 rfl
theorem w_ac3 : Cond.static arraycopyName ∈ gw := ch_5_0_ok.2.2.2.2.1.1 rfl
theorem w_max2 : Cond.static Lib.Math.max.name ∈ gw := ch_4_5_ok.2.2.2.2.2.2.2.1.1 rfl
theorem w_max4 : Cond.code Lib.Math.max.name Lib.Math.max.code 2 (some .int) ∈ gw := ch_4_5_ok.2.2.2.2.2.2.2.2.1.1 rfl
theorem w_min2 : Cond.static Lib.Math.min.name ∈ gw := ch_4_5_ok.2.2.2.2.2.2.2.2.2.2.1.1 rfl
theorem w_min4 : Cond.code Lib.Math.min.name Lib.Math.min.code 2 (some .int) ∈ gw := ch_4_5_ok.2.2.2.2.2.2.2.2.2.2.2.1.1 rfl
theorem w_math : Cond.initialized "java/lang/Math" ∈ gw := ch_1_1_ok.2.2.2.2.1.1 rfl
theorem w_ac4 : Cond.initialized "java/lang/System" ∈ gw := ch_1_1_ok.2.2.2.2.2.1.1 rfl
theorem na_byte : sfor (.newarray .byte) 2 (i_newa 13) := s_newa (t := 0) (ty := .byte) rfl rfl (by decide) (fun _ => rfl) rfl (by decide) (fun _ _ h => h) (ch_1_2_ok.2.2.2.2.2.2.2.2.2.2.2.2.2.2.1.1 rfl)
theorem na_int : sfor (.newarray .int) 2 (i_newa 14) := s_newa (t := 1) (ty := .int) rfl rfl (by decide) (fun _ => rfl) rfl (by decide) (fun _ _ h => h) (ch_1_5_ok.2.2.2.2.1.1 rfl)
theorem na_boolean : sfor (.newarray .boolean) 2 (i_newa 15) := s_newa (t := 2) (ty := .boolean) rfl rfl (by decide) (fun _ => rfl) rfl (by decide) (fun _ _ h => h) (ch_1_5_ok.2.2.2.2.2.1.1 rfl)
theorem ne_J6 : RJ6 ≠ "java/lang/invoke/MethodHandle" ∧ RJ6 ≠ "java/lang/invoke/VarHandle" := by decide +kernel
theorem pn_J6 : plainName RJ6 = true := by decide +kernel
theorem ne_J7 : RJ7 ≠ "java/lang/invoke/MethodHandle" ∧ RJ7 ≠ "java/lang/invoke/VarHandle" := by decide +kernel
theorem pn_J7 : plainName RJ7 = true := by decide +kernel
theorem ne_X0 : RX0 ≠ "java/lang/invoke/MethodHandle" ∧ RX0 ≠ "java/lang/invoke/VarHandle" := by decide +kernel
theorem pn_X0 : plainName RX0 = true := by decide +kernel
theorem ne_X1 : RX1 ≠ "java/lang/invoke/MethodHandle" ∧ RX1 ≠ "java/lang/invoke/VarHandle" := by decide +kernel
theorem pn_X1 : plainName RX1 = true := by decide +kernel
theorem ne_X10 : RX10 ≠ "java/lang/invoke/MethodHandle" ∧ RX10 ≠ "java/lang/invoke/VarHandle" := by decide +kernel
theorem pn_X10 : plainName RX10 = true := by decide +kernel
theorem ne_X11 : RX11 ≠ "java/lang/invoke/MethodHandle" ∧ RX11 ≠ "java/lang/invoke/VarHandle" := by decide +kernel
theorem pn_X11 : plainName RX11 = true := by decide +kernel
theorem ne_X12 : RX12 ≠ "java/lang/invoke/MethodHandle" ∧ RX12 ≠ "java/lang/invoke/VarHandle" := by decide +kernel
theorem pn_X12 : plainName RX12 = true := by decide +kernel
theorem ne_X2 : RX2 ≠ "java/lang/invoke/MethodHandle" ∧ RX2 ≠ "java/lang/invoke/VarHandle" := by decide +kernel
theorem pn_X2 : plainName RX2 = true := by decide +kernel
theorem ne_X3 : RX3 ≠ "java/lang/invoke/MethodHandle" ∧ RX3 ≠ "java/lang/invoke/VarHandle" := by decide +kernel
theorem pn_X3 : plainName RX3 = true := by decide +kernel
theorem ne_X4 : RX4 ≠ "java/lang/invoke/MethodHandle" ∧ RX4 ≠ "java/lang/invoke/VarHandle" := by decide +kernel
theorem pn_X4 : plainName RX4 = true := by decide +kernel
theorem ne_X5 : RX5 ≠ "java/lang/invoke/MethodHandle" ∧ RX5 ≠ "java/lang/invoke/VarHandle" := by decide +kernel
theorem pn_X5 : plainName RX5 = true := by decide +kernel
theorem ne_X6 : RX6 ≠ "java/lang/invoke/MethodHandle" ∧ RX6 ≠ "java/lang/invoke/VarHandle" := by decide +kernel
theorem pn_X6 : plainName RX6 = true := by decide +kernel
theorem ne_X7 : RX7 ≠ "java/lang/invoke/MethodHandle" ∧ RX7 ≠ "java/lang/invoke/VarHandle" := by decide +kernel
theorem pn_X7 : plainName RX7 = true := by decide +kernel
theorem ne_X8 : RX8 ≠ "java/lang/invoke/MethodHandle" ∧ RX8 ≠ "java/lang/invoke/VarHandle" := by decide +kernel
theorem pn_X8 : plainName RX8 = true := by decide +kernel
theorem ne_X9 : RX9 ≠ "java/lang/invoke/MethodHandle" ∧ RX9 ≠ "java/lang/invoke/VarHandle" := by decide +kernel
theorem pn_X9 : plainName RX9 = true := by decide +kernel
theorem pv_0 : memAll (fun w => w ∈ gw) (k2_sels lw_privs_1) := memAll_of (fun w hw => by
  obtain ⟨q, hq, rfl⟩ := List.mem_map.mp hw
  exact gw_mem (List.mem_append_left _ (List.mem_map.mpr ⟨q, List.mem_append_left _ hq, rfl⟩)) rfl)
theorem pv_1 : memAll (fun w => w ∈ gw) (k2_sels lw_privs_2) := memAll_of (fun w hw => by
  obtain ⟨q, hq, rfl⟩ := List.mem_map.mp hw
  exact gw_mem (List.mem_append_left _ (List.mem_map.mpr ⟨q, List.mem_append_right _ (List.mem_append_left _ hq), rfl⟩)) rfl)
theorem pv_2 : memAll (fun w => w ∈ gw) (k2_sels lw_privs_3) := memAll_of (fun w hw => by
  obtain ⟨q, hq, rfl⟩ := List.mem_map.mp hw
  exact gw_mem (List.mem_append_left _ (List.mem_map.mpr ⟨q, List.mem_append_right _ (List.mem_append_right _ (List.mem_append_left _ hq)), rfl⟩)) rfl)
theorem pv_3 : memAll (fun w => w ∈ gw) (k2_sels lw_privs_4) := memAll_of (fun w hw => by
  obtain ⟨q, hq, rfl⟩ := List.mem_map.mp hw
  exact gw_mem (List.mem_append_left _ (List.mem_map.mpr ⟨q, List.mem_append_right _ (List.mem_append_right _ (List.mem_append_right _ (List.mem_append_left _ hq))), rfl⟩)) rfl)
theorem pv_4 : memAll (fun w => w ∈ gw) (k2_sels lw_privs_5) := memAll_of (fun w hw => by
  obtain ⟨q, hq, rfl⟩ := List.mem_map.mp hw
  exact gw_mem (List.mem_append_left _ (List.mem_map.mpr ⟨q, List.mem_append_right _ (List.mem_append_right _ (List.mem_append_right _ (List.mem_append_right _ (hq)))), rfl⟩)) rfl)
def MX0_init : Mt := (yX0_init, cX0_init, 1, none)
theorem wc_X0_init : Cond.code MX0_init.1 MX0_init.2.1 MX0_init.2.2.1 MX0_init.2.2.2 ∈ gw := ch_1_12_ok.2.2.2.2.2.2.2.2.2.2.1.1 rfl
theorem mo_X0_init : mOk MX0_init 0 := ⟨wc_X0_init, ch_1_0_ok.2.2.2.2.2.2.2.1.1 rfl, ⟨ne_X0.1, ne_X0.2, by decide +kernel⟩, by decide⟩
def MX0_has : Mt := (yX0_has, cX0_has, 2, some .boolean)
theorem wc_X0_has : Cond.code MX0_has.1 MX0_has.2.1 MX0_has.2.2.1 MX0_has.2.2.2 ∈ gw := ch_4_12_ok.2.2.2.2.2.2.2.1.1 rfl
theorem mo_X0_has : mOk MX0_has 1 := ⟨wc_X0_has, ch_1_0_ok.2.2.2.2.2.2.2.1.1 rfl, ⟨ne_X0.1, ne_X0.2, by decide +kernel⟩, by decide⟩
def MX0_add : Mt := (yX0_add, cX0_add, 3, some .int)
theorem wc_X0_add : Cond.code MX0_add.1 MX0_add.2.1 MX0_add.2.2.1 MX0_add.2.2.2 ∈ gw := ch_3_8_ok.2.2.2.2.2.2.2.2.2.2.2.2.2.2.1.1 rfl
theorem mo_X0_add : mOk MX0_add 2 := ⟨wc_X0_add, ch_1_0_ok.2.2.2.2.2.2.2.1.1 rfl, ⟨ne_X0.1, ne_X0.2, by decide +kernel⟩, by decide⟩
def MX0_leftThisWeek : Mt := (yX0_leftThisWeek, cX0_leftThisWeek, 2, some .int)
theorem wc_X0_leftThisWeek : Cond.code MX0_leftThisWeek.1 MX0_leftThisWeek.2.1 MX0_leftThisWeek.2.2.1 MX0_leftThisWeek.2.2.2 ∈ gw := ch_4_9_ok.2.2.2.2.2.2.2.2.2.2.2.2.2.2.2.1.1 rfl
theorem mo_X0_leftThisWeek : mOk MX0_leftThisWeek 1 := ⟨wc_X0_leftThisWeek, ch_1_0_ok.2.2.2.2.2.2.2.1.1 rfl, ⟨ne_X0.1, ne_X0.2, by decide +kernel⟩, by decide⟩
def MX0_nextInTurn : Mt := (yX0_nextInTurn, cX0_nextInTurn, 6, some .int)
theorem wc_X0_nextInTurn : Cond.code MX0_nextInTurn.1 MX0_nextInTurn.2.1 MX0_nextInTurn.2.2.1 MX0_nextInTurn.2.2.2 ∈ gw := ch_4_9_ok.2.2.2.2.2.2.2.2.2.2.1.1 rfl
theorem mo_X0_nextInTurn : mOk MX0_nextInTurn 2 := ⟨wc_X0_nextInTurn, ch_1_0_ok.2.2.2.2.2.2.2.1.1 rfl, ⟨ne_X0.1, ne_X0.2, by decide +kernel⟩, by decide⟩
def MX0_takeNight : Mt := (yX0_takeNight, cX0_takeNight, 2, none)
theorem wc_X0_takeNight : Cond.code MX0_takeNight.1 MX0_takeNight.2.1 MX0_takeNight.2.2.1 MX0_takeNight.2.2.2 ∈ gw := ch_4_10_ok.2.2.2.1.1 rfl
theorem mo_X0_takeNight : mOk MX0_takeNight 1 := ⟨wc_X0_takeNight, ch_1_0_ok.2.2.2.2.2.2.2.1.1 rfl, ⟨ne_X0.1, ne_X0.2, by decide +kernel⟩, by decide⟩
def MX0_beginWeek : Mt := (yX0_beginWeek, cX0_beginWeek, 1, none)
theorem wc_X0_beginWeek : Cond.code MX0_beginWeek.1 MX0_beginWeek.2.1 MX0_beginWeek.2.2.1 MX0_beginWeek.2.2.2 ∈ gw := ch_4_10_ok.2.2.2.2.2.2.2.2.2.2.2.2.2.2.2.1.1 rfl
theorem mo_X0_beginWeek : mOk MX0_beginWeek 0 := ⟨wc_X0_beginWeek, ch_1_0_ok.2.2.2.2.2.2.2.1.1 rfl, ⟨ne_X0.1, ne_X0.2, by decide +kernel⟩, by decide⟩
def MX0_copyFrom : Mt := (yX0_copyFrom, cX0_copyFrom, 2, none)
theorem wc_X0_copyFrom : Cond.code MX0_copyFrom.1 MX0_copyFrom.2.1 MX0_copyFrom.2.2.1 MX0_copyFrom.2.2.2 ∈ gw := ch_5_0_ok.2.2.2.2.2.2.2.2.2.2.2.2.2.2.1.1 rfl
theorem mo_X0_copyFrom : mOk MX0_copyFrom 1 := ⟨wc_X0_copyFrom, ch_1_0_ok.2.2.2.2.2.2.2.1.1 rfl, ⟨ne_X0.1, ne_X0.2, by decide +kernel⟩, by decide⟩
def MX1_init : Mt := (yX1_init, cX1_init, 4, none)
theorem wc_X1_init : Cond.code MX1_init.1 MX1_init.2.1 MX1_init.2.2.1 MX1_init.2.2.2 ∈ gw := ch_3_10_ok.2.1.1 rfl
theorem mo_X1_init : mOk MX1_init 3 := ⟨wc_X1_init, ch_1_1_ok.2.2.1.1 rfl, ⟨ne_X1.1, ne_X1.2, by decide +kernel⟩, by decide⟩
def MX1_roomOf : Mt := (yX1_roomOf, cX1_roomOf, 3, some .int)
theorem wc_X1_roomOf : Cond.code MX1_roomOf.1 MX1_roomOf.2.1 MX1_roomOf.2.2.1 MX1_roomOf.2.2.2 ∈ gw := ch_4_10_ok.2.2.2.2.2.2.2.2.2.2.2.1.1 rfl
theorem mo_X1_roomOf : mOk MX1_roomOf 1 := ⟨wc_X1_roomOf, ch_1_1_ok.2.2.1.1 rfl, ⟨ne_X1.1, ne_X1.2, by decide +kernel⟩, by decide⟩
def MX1_placeOf : Mt := (yX1_placeOf, cX1_placeOf, 3, some .int)
theorem wc_X1_placeOf : Cond.code MX1_placeOf.1 MX1_placeOf.2.1 MX1_placeOf.2.2.1 MX1_placeOf.2.2.2 ∈ gw := ch_4_11_ok.2.2.2.2.2.2.2.2.2.2.2.2.2.2.2.1.1 rfl
theorem mo_X1_placeOf : mOk MX1_placeOf 1 := ⟨wc_X1_placeOf, ch_1_1_ok.2.2.1.1 rfl, ⟨ne_X1.1, ne_X1.2, by decide +kernel⟩, by decide⟩
def MX1_giveReason : Mt := (yX1_giveReason, cX1_giveReason, 4, none)
theorem wc_X1_giveReason : Cond.code MX1_giveReason.1 MX1_giveReason.2.1 MX1_giveReason.2.2.1 MX1_giveReason.2.2.2 ∈ gw := ch_4_7_ok.2.2.2.2.2.2.2.2.2.2.2.1.1 rfl
theorem mo_X1_giveReason : mOk MX1_giveReason 2 := ⟨wc_X1_giveReason, ch_1_1_ok.2.2.1.1 rfl, ⟨ne_X1.1, ne_X1.2, by decide +kernel⟩, by decide⟩
def MX2_init : Mt := (yX2_init, cX2_init, 2, none)
theorem wc_X2_init : Cond.code MX2_init.1 MX2_init.2.1 MX2_init.2.2.1 MX2_init.2.2.2 ∈ gw := ch_3_0_ok.2.2.2.2.2.2.2.2.2.2.1.1 rfl
theorem mo_X2_init : mOk MX2_init 1 := ⟨wc_X2_init, ch_1_1_ok.1.1 rfl, ⟨ne_X2.1, ne_X2.2, by decide +kernel⟩, by decide⟩
def MX2_parse : Mt := (yX2_parse, cX2_parse, 3, none)
theorem wc_X2_parse : Cond.code MX2_parse.1 MX2_parse.2.1 MX2_parse.2.2.1 MX2_parse.2.2.2 ∈ gw := ch_3_2_ok.2.2.2.2.2.2.2.1.1 rfl
theorem mo_X2_parse : mOk MX2_parse 0 := ⟨wc_X2_parse, ch_1_1_ok.1.1 rfl, ⟨ne_X2.1, ne_X2.2, by decide +kernel⟩, by decide⟩
def MX2_readLine : Mt := (yX2_readLine, cX2_readLine, 2, some .boolean)
theorem wc_X2_readLine : Cond.code MX2_readLine.1 MX2_readLine.2.1 MX2_readLine.2.2.1 MX2_readLine.2.2.2 ∈ gw := ch_3_2_ok.2.2.2.2.2.2.2.2.2.2.2.2.2.2.2.1.1 rfl
theorem mo_X2_readLine : mOk MX2_readLine 1 := ⟨wc_X2_readLine, ch_1_1_ok.1.1 rfl, ⟨ne_X2.1, ne_X2.2, by decide +kernel⟩, by decide⟩
def MX2_readTests : Mt := (yX2_readTests, cX2_readTests, 4, some .boolean)
theorem wc_X2_readTests : Cond.code MX2_readTests.1 MX2_readTests.2.1 MX2_readTests.2.2.1 MX2_readTests.2.2.2 ∈ gw := ch_3_3_ok.2.2.2.2.2.2.2.2.2.2.2.1.1 rfl
theorem mo_X2_readTests : mOk MX2_readTests 1 := ⟨wc_X2_readTests, ch_1_1_ok.1.1 rfl, ⟨ne_X2.1, ne_X2.2, by decide +kernel⟩, by decide⟩
def MX2_readTest : Mt := (yX2_readTest, cX2_readTest, 6, some .boolean)
theorem wc_X2_readTest : Cond.code MX2_readTest.1 MX2_readTest.2.1 MX2_readTest.2.2.1 MX2_readTest.2.2.2 ∈ gw := ch_3_3_ok.2.2.2.2.2.2.2.2.2.2.2.2.2.2.2.1.1 rfl
theorem mo_X2_readTest : mOk MX2_readTest 1 := ⟨wc_X2_readTest, ch_1_1_ok.1.1 rfl, ⟨ne_X2.1, ne_X2.2, by decide +kernel⟩, by decide⟩
def MX2_readAct : Mt := (yX2_readAct, cX2_readAct, 5, some .boolean)
theorem wc_X2_readAct : Cond.code MX2_readAct.1 MX2_readAct.2.1 MX2_readAct.2.2.1 MX2_readAct.2.2.2 ∈ gw := ch_3_4_ok.2.2.2.2.2.2.2.1.1 rfl
theorem mo_X2_readAct : mOk MX2_readAct 1 := ⟨wc_X2_readAct, ch_1_1_ok.1.1 rfl, ⟨ne_X2.1, ne_X2.2, by decide +kernel⟩, by decide⟩
def MX2_kind : Mt := (yX2_kind, cX2_kind, 1, some .int)
theorem wc_X2_kind : Cond.code MX2_kind.1 MX2_kind.2.1 MX2_kind.2.2.1 MX2_kind.2.2.2 ∈ gw := ch_3_2_ok.2.2.2.2.2.2.2.2.2.2.2.1.1 rfl
theorem mo_X2_kind : mOk MX2_kind 0 := ⟨wc_X2_kind, ch_1_1_ok.1.1 rfl, ⟨ne_X2.1, ne_X2.2, by decide +kernel⟩, by decide⟩
def MX2_skip : Mt := (yX2_skip, cX2_skip, 2, some .boolean)
theorem wc_X2_skip : Cond.code MX2_skip.1 MX2_skip.2.1 MX2_skip.2.2.1 MX2_skip.2.2.2 ∈ gw := ch_3_3_ok.2.2.2.2.2.2.2.1.1 rfl
theorem mo_X2_skip : mOk MX2_skip 1 := ⟨wc_X2_skip, ch_1_1_ok.1.1 rfl, ⟨ne_X2.1, ne_X2.2, by decide +kernel⟩, by decide⟩
def MX2_noteIfTooMany : Mt := (yX2_noteIfTooMany, cX2_noteIfTooMany, 3, none)
theorem wc_X2_noteIfTooMany : Cond.code MX2_noteIfTooMany.1 MX2_noteIfTooMany.2.1 MX2_noteIfTooMany.2.2.1 MX2_noteIfTooMany.2.2.2 ∈ gw := ch_3_3_ok.2.2.2.1.1 rfl
theorem mo_X2_noteIfTooMany : mOk MX2_noteIfTooMany 2 := ⟨wc_X2_noteIfTooMany, ch_1_1_ok.1.1 rfl, ⟨ne_X2.1, ne_X2.2, by decide +kernel⟩, by decide⟩
def MX3_init : Mt := (yX3_init, cX3_init, 1, none)
theorem wc_X3_init : Cond.code MX3_init.1 MX3_init.2.1 MX3_init.2.2.1 MX3_init.2.2.2 ∈ gw := ch_1_7_ok.2.2.2.2.2.2.2.2.2.2.2.2.2.1.1 rfl
theorem mo_X3_init : mOk MX3_init 0 := ⟨wc_X3_init, ch_1_0_ok.2.2.2.2.2.2.1.1 rfl, ⟨ne_X3.1, ne_X3.2, by decide +kernel⟩, by decide⟩
def MX3_has : Mt := (yX3_has, cX3_has, 2, some .boolean)
theorem wc_X3_has : Cond.code MX3_has.1 MX3_has.2.1 MX3_has.2.2.1 MX3_has.2.2.2 ∈ gw := ch_3_6_ok.2.2.2.2.2.2.2.2.2.2.2.2.2.2.1.1 rfl
theorem mo_X3_has : mOk MX3_has 1 := ⟨wc_X3_has, ch_1_0_ok.2.2.2.2.2.2.1.1 rfl, ⟨ne_X3.1, ne_X3.2, by decide +kernel⟩, by decide⟩
def MX3_add : Mt := (yX3_add, cX3_add, 5, some .int)
theorem wc_X3_add : Cond.code MX3_add.1 MX3_add.2.1 MX3_add.2.2.1 MX3_add.2.2.2 ∈ gw := ch_3_6_ok.2.2.2.2.2.1.1 rfl
theorem mo_X3_add : mOk MX3_add 4 := ⟨wc_X3_add, ch_1_0_ok.2.2.2.2.2.2.1.1 rfl, ⟨ne_X3.1, ne_X3.2, by decide +kernel⟩, by decide⟩
def MX3_changePair : Mt := (yX3_changePair, cX3_changePair, 5, some .boolean)
theorem wc_X3_changePair : Cond.code MX3_changePair.1 MX3_changePair.2.1 MX3_changePair.2.2.1 MX3_changePair.2.2.2 ∈ gw := ch_3_7_ok.2.2.2.2.2.2.2.2.2.2.2.2.2.2.1.1 rfl
theorem mo_X3_changePair : mOk MX3_changePair 3 := ⟨wc_X3_changePair, ch_1_0_ok.2.2.2.2.2.2.1.1 rfl, ⟨ne_X3.1, ne_X3.2, by decide +kernel⟩, by decide⟩
def MX3_howPaired : Mt := (yX3_howPaired, cX3_howPaired, 3, some .int)
theorem wc_X3_howPaired : Cond.code MX3_howPaired.1 MX3_howPaired.2.1 MX3_howPaired.2.2.1 MX3_howPaired.2.2.2 ∈ gw := ch_3_8_ok.2.2.1.1 rfl
theorem mo_X3_howPaired : mOk MX3_howPaired 2 := ⟨wc_X3_howPaired, ch_1_0_ok.2.2.2.2.2.2.1.1 rfl, ⟨ne_X3.1, ne_X3.2, by decide +kernel⟩, by decide⟩
def MX3_turnPair : Mt := (yX3_turnPair, cX3_turnPair, 3, none)
theorem wc_X3_turnPair : Cond.code MX3_turnPair.1 MX3_turnPair.2.1 MX3_turnPair.2.2.1 MX3_turnPair.2.2.2 ∈ gw := ch_3_8_ok.2.2.2.2.2.2.1.1 rfl
theorem mo_X3_turnPair : mOk MX3_turnPair 3 := ⟨wc_X3_turnPair, ch_1_0_ok.2.2.2.2.2.2.1.1 rfl, ⟨ne_X3.1, ne_X3.2, by decide +kernel⟩, by decide⟩
def MX3_partyOf : Mt := (yX3_partyOf, cX3_partyOf, 6, some .int)
theorem wc_X3_partyOf : Cond.code MX3_partyOf.1 MX3_partyOf.2.1 MX3_partyOf.2.2.1 MX3_partyOf.2.2.2 ∈ gw := ch_4_2_ok.2.2.2.2.2.1.1 rfl
theorem mo_X3_partyOf : mOk MX3_partyOf 1 := ⟨wc_X3_partyOf, ch_1_0_ok.2.2.2.2.2.2.1.1 rfl, ⟨ne_X3.1, ne_X3.2, by decide +kernel⟩, by decide⟩
def MX3_copyFrom : Mt := (yX3_copyFrom, cX3_copyFrom, 2, none)
theorem wc_X3_copyFrom : Cond.code MX3_copyFrom.1 MX3_copyFrom.2.1 MX3_copyFrom.2.2.1 MX3_copyFrom.2.2.2 ∈ gw := ch_5_0_ok.2.2.2.2.2.2.2.2.2.1.1 rfl
theorem mo_X3_copyFrom : mOk MX3_copyFrom 1 := ⟨wc_X3_copyFrom, ch_1_0_ok.2.2.2.2.2.2.1.1 rfl, ⟨ne_X3.1, ne_X3.2, by decide +kernel⟩, by decide⟩
def MX4_init : Mt := (yX4_init, cX4_init, 2, none)
theorem wc_X4_init : Cond.code MX4_init.1 MX4_init.2.1 MX4_init.2.2.1 MX4_init.2.2.2 ∈ gw := ch_2_1_ok.2.2.2.2.2.1.1 rfl
theorem mo_X4_init : mOk MX4_init 1 := ⟨wc_X4_init, ch_1_0_ok.2.2.2.2.2.2.2.2.2.1.1 rfl, ⟨ne_X4.1, ne_X4.2, by decide +kernel⟩, by decide⟩
def MX4_begin : Mt := (yX4_begin, cX4_begin, 3, none)
theorem wc_X4_begin : Cond.code MX4_begin.1 MX4_begin.2.1 MX4_begin.2.2.1 MX4_begin.2.2.2 ∈ gw := ch_4_1_ok.2.2.2.2.2.2.2.2.2.2.2.2.2.1.1 rfl
theorem mo_X4_begin : mOk MX4_begin 1 := ⟨wc_X4_begin, ch_1_0_ok.2.2.2.2.2.2.2.2.2.1.1 rfl, ⟨ne_X4.1, ne_X4.2, by decide +kernel⟩, by decide⟩
def MX4_peopleIn : Mt := (yX4_peopleIn, cX4_peopleIn, 2, some .int)
theorem wc_X4_peopleIn : Cond.code MX4_peopleIn.1 MX4_peopleIn.2.1 MX4_peopleIn.2.2.1 MX4_peopleIn.2.2.2 ∈ gw := ch_4_9_ok.1.1 rfl
theorem mo_X4_peopleIn : mOk MX4_peopleIn 1 := ⟨wc_X4_peopleIn, ch_1_0_ok.2.2.2.2.2.2.2.2.2.1.1 rfl, ⟨ne_X4.1, ne_X4.2, by decide +kernel⟩, by decide⟩
def MX4_roomsFor : Mt := (yX4_roomsFor, cX4_roomsFor, 4, some .int)
theorem wc_X4_roomsFor : Cond.code MX4_roomsFor.1 MX4_roomsFor.2.1 MX4_roomsFor.2.2.1 MX4_roomsFor.2.2.2 ∈ gw := ch_4_2_ok.2.2.2.2.2.2.2.2.2.2.2.2.2.1.1 rfl
theorem mo_X4_roomsFor : mOk MX4_roomsFor 1 := ⟨wc_X4_roomsFor, ch_1_0_ok.2.2.2.2.2.2.2.2.2.1.1 rfl, ⟨ne_X4.1, ne_X4.2, by decide +kernel⟩, by decide⟩
def MX4_illOf : Mt := (yX4_illOf, cX4_illOf, 4, some .int)
theorem wc_X4_illOf : Cond.code MX4_illOf.1 MX4_illOf.2.1 MX4_illOf.2.2.1 MX4_illOf.2.2.2 ∈ gw := ch_4_3_ok.2.1.1 rfl
theorem mo_X4_illOf : mOk MX4_illOf 1 := ⟨wc_X4_illOf, ch_1_0_ok.2.2.2.2.2.2.2.2.2.1.1 rfl, ⟨ne_X4.1, ne_X4.2, by decide +kernel⟩, by decide⟩
def MX4_foesOf : Mt := (yX4_foesOf, cX4_foesOf, 4, some .int)
theorem wc_X4_foesOf : Cond.code MX4_foesOf.1 MX4_foesOf.2.1 MX4_foesOf.2.2.1 MX4_foesOf.2.2.2 ∈ gw := ch_4_3_ok.2.2.2.2.2.2.1.1 rfl
theorem mo_X4_foesOf : mOk MX4_foesOf 1 := ⟨wc_X4_foesOf, ch_1_0_ok.2.2.2.2.2.2.2.2.2.1.1 rfl, ⟨ne_X4.1, ne_X4.2, by decide +kernel⟩, by decide⟩
def MX4_suits : Mt := (yX4_suits, cX4_suits, 5, some .boolean)
theorem wc_X4_suits : Cond.code MX4_suits.1 MX4_suits.2.1 MX4_suits.2.2.1 MX4_suits.2.2.2 ∈ gw := ch_4_3_ok.2.2.2.2.2.2.2.2.2.2.1.1 rfl
theorem mo_X4_suits : mOk MX4_suits 2 := ⟨wc_X4_suits, ch_1_0_ok.2.2.2.2.2.2.2.2.2.1.1 rfl, ⟨ne_X4.1, ne_X4.2, by decide +kernel⟩, by decide⟩
def MX4_areAllOfKind : Mt := (yX4_areAllOfKind, cX4_areAllOfKind, 4, some .boolean)
theorem wc_X4_areAllOfKind : Cond.code MX4_areAllOfKind.1 MX4_areAllOfKind.2.1 MX4_areAllOfKind.2.2.1 MX4_areAllOfKind.2.2.2 ∈ gw := ch_4_3_ok.2.2.2.2.2.2.2.2.2.2.2.2.2.2.2.1.1 rfl
theorem mo_X4_areAllOfKind : mOk MX4_areAllOfKind 2 := ⟨wc_X4_areAllOfKind, ch_1_0_ok.2.2.2.2.2.2.2.2.2.1.1 rfl, ⟨ne_X4.1, ne_X4.2, by decide +kernel⟩, by decide⟩
def MX4_takes : Mt := (yX4_takes, cX4_takes, 2, some .boolean)
theorem wc_X4_takes : Cond.code MX4_takes.1 MX4_takes.2.1 MX4_takes.2.2.1 MX4_takes.2.2.2 ∈ gw := ch_4_4_ok.2.2.2.2.1.1 rfl
theorem mo_X4_takes : mOk MX4_takes 1 := ⟨wc_X4_takes, ch_1_0_ok.2.2.2.2.2.2.2.2.2.1.1 rfl, ⟨ne_X4.1, ne_X4.2, by decide +kernel⟩, by decide⟩
def MX4_partyWith : Mt := (yX4_partyWith, cX4_partyWith, 3, some .int)
theorem wc_X4_partyWith : Cond.code MX4_partyWith.1 MX4_partyWith.2.1 MX4_partyWith.2.2.1 MX4_partyWith.2.2.2 ∈ gw := ch_4_8_ok.2.2.2.2.2.2.2.2.1.1 rfl
theorem mo_X4_partyWith : mOk MX4_partyWith 1 := ⟨wc_X4_partyWith, ch_1_0_ok.2.2.2.2.2.2.2.2.2.1.1 rfl, ⟨ne_X4.1, ne_X4.2, by decide +kernel⟩, by decide⟩
def MX4_hasSettled : Mt := (yX4_hasSettled, cX4_hasSettled, 3, some .boolean)
theorem wc_X4_hasSettled : Cond.code MX4_hasSettled.1 MX4_hasSettled.2.1 MX4_hasSettled.2.2.1 MX4_hasSettled.2.2.2 ∈ gw := ch_4_8_ok.2.2.2.2.1.1 rfl
theorem mo_X4_hasSettled : mOk MX4_hasSettled 1 := ⟨wc_X4_hasSettled, ch_1_0_ok.2.2.2.2.2.2.2.2.2.1.1 rfl, ⟨ne_X4.1, ne_X4.2, by decide +kernel⟩, by decide⟩
def MX4_settles : Mt := (yX4_settles, cX4_settles, 4, some .boolean)
theorem wc_X4_settles : Cond.code MX4_settles.1 MX4_settles.2.1 MX4_settles.2.2.1 MX4_settles.2.2.2 ∈ gw := ch_4_8_ok.2.2.2.2.2.2.2.2.2.2.2.2.1.1 rfl
theorem mo_X4_settles : mOk MX4_settles 2 := ⟨wc_X4_settles, ch_1_0_ok.2.2.2.2.2.2.2.2.2.1.1 rfl, ⟨ne_X4.1, ne_X4.2, by decide +kernel⟩, by decide⟩
def MX4_placeRest : Mt := (yX4_placeRest, cX4_placeRest, 5, some .boolean)
theorem wc_X4_placeRest : Cond.code MX4_placeRest.1 MX4_placeRest.2.1 MX4_placeRest.2.2.1 MX4_placeRest.2.2.2 ∈ gw := ch_4_4_ok.2.2.2.2.2.2.2.2.2.1.1 rfl
theorem mo_X4_placeRest : mOk MX4_placeRest 1 := ⟨wc_X4_placeRest, ch_1_0_ok.2.2.2.2.2.2.2.2.2.1.1 rfl, ⟨ne_X4.1, ne_X4.2, by decide +kernel⟩, by decide⟩
def MX4_tightest : Mt := (yX4_tightest, cX4_tightest, 7, some .int)
theorem wc_X4_tightest : Cond.code MX4_tightest.1 MX4_tightest.2.1 MX4_tightest.2.2.1 MX4_tightest.2.2.2 ∈ gw := ch_4_4_ok.2.2.2.2.2.2.2.2.2.2.2.2.2.1.1 rfl
theorem mo_X4_tightest : mOk MX4_tightest 0 := ⟨wc_X4_tightest, ch_1_0_ok.2.2.2.2.2.2.2.2.2.1.1 rfl, ⟨ne_X4.1, ne_X4.2, by decide +kernel⟩, by decide⟩
def MX4_clashesOf : Mt := (yX4_clashesOf, cX4_clashesOf, 5, some .int)
theorem wc_X4_clashesOf : Cond.code MX4_clashesOf.1 MX4_clashesOf.2.1 MX4_clashesOf.2.2.1 MX4_clashesOf.2.2.2 ∈ gw := ch_4_6_ok.2.2.2.1.1 rfl
theorem mo_X4_clashesOf : mOk MX4_clashesOf 1 := ⟨wc_X4_clashesOf, ch_1_0_ok.2.2.2.2.2.2.2.2.2.1.1 rfl, ⟨ne_X4.1, ne_X4.2, by decide +kernel⟩, by decide⟩
def MX4_isCrowded : Mt := (yX4_isCrowded, cX4_isCrowded, 3, some .boolean)
theorem wc_X4_isCrowded : Cond.code MX4_isCrowded.1 MX4_isCrowded.2.1 MX4_isCrowded.2.2.1 MX4_isCrowded.2.2.2 ∈ gw := ch_4_6_ok.2.2.2.2.2.2.2.1.1 rfl
theorem mo_X4_isCrowded : mOk MX4_isCrowded 0 := ⟨wc_X4_isCrowded, ch_1_0_ok.2.2.2.2.2.2.2.2.2.1.1 rfl, ⟨ne_X4.1, ne_X4.2, by decide +kernel⟩, by decide⟩
def MX4_waitingFor : Mt := (yX4_waitingFor, cX4_waitingFor, 4, some .int)
theorem wc_X4_waitingFor : Cond.code MX4_waitingFor.1 MX4_waitingFor.2.1 MX4_waitingFor.2.2.1 MX4_waitingFor.2.2.2 ∈ gw := ch_4_6_ok.2.2.2.2.2.2.2.2.2.2.2.1.1 rfl
theorem mo_X4_waitingFor : mOk MX4_waitingFor 1 := ⟨wc_X4_waitingFor, ch_1_0_ok.2.2.2.2.2.2.2.2.2.1.1 rfl, ⟨ne_X4.1, ne_X4.2, by decide +kernel⟩, by decide⟩
def MX4_openRooms : Mt := (yX4_openRooms, cX4_openRooms, 6, some .int)
theorem wc_X4_openRooms : Cond.code MX4_openRooms.1 MX4_openRooms.2.1 MX4_openRooms.2.2.1 MX4_openRooms.2.2.2 ∈ gw := ch_4_5_ok.2.1.1 rfl
theorem mo_X4_openRooms : mOk MX4_openRooms 1 := ⟨wc_X4_openRooms, ch_1_0_ok.2.2.2.2.2.2.2.2.2.1.1 rfl, ⟨ne_X4.1, ne_X4.2, by decide +kernel⟩, by decide⟩
def MX4_areAlike : Mt := (yX4_areAlike, cX4_areAlike, 3, some .boolean)
theorem wc_X4_areAlike : Cond.code MX4_areAlike.1 MX4_areAlike.2.1 MX4_areAlike.2.2.1 MX4_areAlike.2.2.2 ∈ gw := ch_4_5_ok.2.2.2.2.2.1.1 rfl
theorem mo_X4_areAlike : mOk MX4_areAlike 2 := ⟨wc_X4_areAlike, ch_1_0_ok.2.2.2.2.2.2.2.2.2.1.1 rfl, ⟨ne_X4.1, ne_X4.2, by decide +kernel⟩, by decide⟩
def MX4_isOpen : Mt := (yX4_isOpen, cX4_isOpen, 3, some .boolean)
theorem wc_X4_isOpen : Cond.code MX4_isOpen.1 MX4_isOpen.2.1 MX4_isOpen.2.2.1 MX4_isOpen.2.2.2 ∈ gw := ch_4_5_ok.2.2.2.2.2.2.2.2.2.2.2.2.2.2.2.1.1 rfl
theorem mo_X4_isOpen : mOk MX4_isOpen 2 := ⟨wc_X4_isOpen, ch_1_0_ok.2.2.2.2.2.2.2.2.2.1.1 rfl, ⟨ne_X4.1, ne_X4.2, by decide +kernel⟩, by decide⟩
def MX4_put : Mt := (yX4_put, cX4_put, 3, none)
theorem wc_X4_put : Cond.code MX4_put.1 MX4_put.2.1 MX4_put.2.2.1 MX4_put.2.2.2 ∈ gw := ch_4_6_ok.2.2.2.2.2.2.2.2.2.2.2.2.2.2.2.1.1 rfl
theorem mo_X4_put : mOk MX4_put 2 := ⟨wc_X4_put, ch_1_0_ok.2.2.2.2.2.2.2.2.2.1.1 rfl, ⟨ne_X4.1, ne_X4.2, by decide +kernel⟩, by decide⟩
def MX4_takeOut : Mt := (yX4_takeOut, cX4_takeOut, 3, none)
theorem wc_X4_takeOut : Cond.code MX4_takeOut.1 MX4_takeOut.2.1 MX4_takeOut.2.2.1 MX4_takeOut.2.2.2 ∈ gw := ch_4_7_ok.2.2.2.1.1 rfl
theorem mo_X4_takeOut : mOk MX4_takeOut 1 := ⟨wc_X4_takeOut, ch_1_0_ok.2.2.2.2.2.2.2.2.2.1.1 rfl, ⟨ne_X4.1, ne_X4.2, by decide +kernel⟩, by decide⟩
def MX4_takeOutUnsettled : Mt := (yX4_takeOutUnsettled, cX4_takeOutUnsettled, 2, none)
theorem wc_X4_takeOutUnsettled : Cond.code MX4_takeOutUnsettled.1 MX4_takeOutUnsettled.2.1 MX4_takeOutUnsettled.2.2.1 MX4_takeOutUnsettled.2.2.2 ∈ gw := ch_4_7_ok.2.2.2.2.2.2.2.1.1 rfl
theorem mo_X4_takeOutUnsettled : mOk MX4_takeOutUnsettled 0 := ⟨wc_X4_takeOutUnsettled, ch_1_0_ok.2.2.2.2.2.2.2.2.2.1.1 rfl, ⟨ne_X4.1, ne_X4.2, by decide +kernel⟩, by decide⟩
def MX5_init : Mt := (yX5_init, cX5_init, 2, none)
theorem wc_X5_init : Cond.code MX5_init.1 MX5_init.2.1 MX5_init.2.2.1 MX5_init.2.2.2 ∈ gw := ch_2_0_ok.2.2.2.2.2.2.2.2.2.2.2.2.2.2.2.1.1 rfl
theorem mo_X5_init : mOk MX5_init 1 := ⟨wc_X5_init, ch_1_0_ok.2.2.2.2.2.2.2.2.1.1 rfl, ⟨ne_X5.1, ne_X5.2, by decide +kernel⟩, by decide⟩
def MX5_lineUp : Mt := (yX5_lineUp, cX5_lineUp, 3, none)
theorem wc_X5_lineUp : Cond.code MX5_lineUp.1 MX5_lineUp.2.1 MX5_lineUp.2.2.1 MX5_lineUp.2.2.2 ∈ gw := ch_3_13_ok.2.2.2.2.2.2.2.2.2.2.2.2.2.2.2.1.1 rfl
theorem mo_X5_lineUp : mOk MX5_lineUp 1 := ⟨wc_X5_lineUp, ch_1_0_ok.2.2.2.2.2.2.2.2.1.1 rfl, ⟨ne_X5.1, ne_X5.2, by decide +kernel⟩, by decide⟩
def MX5_lookAt : Mt := (yX5_lookAt, cX5_lookAt, 4, none)
theorem wc_X5_lookAt : Cond.code MX5_lookAt.1 MX5_lookAt.2.1 MX5_lookAt.2.2.1 MX5_lookAt.2.2.2 ∈ gw := ch_3_14_ok.2.2.2.2.1.1 rfl
theorem mo_X5_lookAt : mOk MX5_lookAt 2 := ⟨wc_X5_lookAt, ch_1_0_ok.2.2.2.2.2.2.2.2.1.1 rfl, ⟨ne_X5.1, ne_X5.2, by decide +kernel⟩, by decide⟩
def MX5_putInOrder : Mt := (yX5_putInOrder, cX5_putInOrder, 5, none)
theorem wc_X5_putInOrder : Cond.code MX5_putInOrder.1 MX5_putInOrder.2.1 MX5_putInOrder.2.2.1 MX5_putInOrder.2.2.2 ∈ gw := ch_4_1_ok.1.1 rfl
theorem mo_X5_putInOrder : mOk MX5_putInOrder 3 := ⟨wc_X5_putInOrder, ch_1_0_ok.2.2.2.2.2.2.2.2.1.1 rfl, ⟨ne_X5.1, ne_X5.2, by decide +kernel⟩, by decide⟩
def MX5_isAhead : Mt := (yX5_isAhead, cX5_isAhead, 5, some .boolean)
theorem wc_X5_isAhead : Cond.code MX5_isAhead.1 MX5_isAhead.2.1 MX5_isAhead.2.2.1 MX5_isAhead.2.2.2 ∈ gw := ch_4_1_ok.2.2.2.2.1.1 rfl
theorem mo_X5_isAhead : mOk MX5_isAhead 4 := ⟨wc_X5_isAhead, ch_1_0_ok.2.2.2.2.2.2.2.2.1.1 rfl, ⟨ne_X5.1, ne_X5.2, by decide +kernel⟩, by decide⟩
def MX5_takeParties : Mt := (yX5_takeParties, cX5_takeParties, 7, none)
theorem wc_X5_takeParties : Cond.code MX5_takeParties.1 MX5_takeParties.2.1 MX5_takeParties.2.2.1 MX5_takeParties.2.2.2 ∈ gw := ch_4_1_ok.2.2.2.2.2.2.2.2.2.1.1 rfl
theorem mo_X5_takeParties : mOk MX5_takeParties 1 := ⟨wc_X5_takeParties, ch_1_0_ok.2.2.2.2.2.2.2.2.1.1 rfl, ⟨ne_X5.1, ne_X5.2, by decide +kernel⟩, by decide⟩
def MX5_reasonAgainst : Mt := (yX5_reasonAgainst, cX5_reasonAgainst, 3, some .int)
theorem wc_X5_reasonAgainst : Cond.code MX5_reasonAgainst.1 MX5_reasonAgainst.2.1 MX5_reasonAgainst.2.2.1 MX5_reasonAgainst.2.2.2 ∈ gw := ch_4_2_ok.2.2.2.2.2.2.2.2.2.1.1 rfl
theorem mo_X5_reasonAgainst : mOk MX5_reasonAgainst 2 := ⟨wc_X5_reasonAgainst, ch_1_0_ok.2.2.2.2.2.2.2.2.1.1 rfl, ⟨ne_X5.1, ne_X5.2, by decide +kernel⟩, by decide⟩
def MX5_settleParties : Mt := (yX5_settleParties, cX5_settleParties, 6, none)
theorem wc_X5_settleParties : Cond.code MX5_settleParties.1 MX5_settleParties.2.1 MX5_settleParties.2.2.1 MX5_settleParties.2.2.2 ∈ gw := ch_4_8_ok.1.1 rfl
theorem mo_X5_settleParties : mOk MX5_settleParties 1 := ⟨wc_X5_settleParties, ch_1_0_ok.2.2.2.2.2.2.2.2.1.1 rfl, ⟨ne_X5.1, ne_X5.2, by decide +kernel⟩, by decide⟩
def MX5_callHelpers : Mt := (yX5_callHelpers, cX5_callHelpers, 7, none)
theorem wc_X5_callHelpers : Cond.code MX5_callHelpers.1 MX5_callHelpers.2.1 MX5_callHelpers.2.2.1 MX5_callHelpers.2.2.2 ∈ gw := ch_4_9_ok.2.2.2.2.1.1 rfl
theorem mo_X5_callHelpers : mOk MX5_callHelpers 1 := ⟨wc_X5_callHelpers, ch_1_0_ok.2.2.2.2.2.2.2.2.1.1 rfl, ⟨ne_X5.1, ne_X5.2, by decide +kernel⟩, by decide⟩
def MX5_closeDoor : Mt := (yX5_closeDoor, cX5_closeDoor, 4, none)
theorem wc_X5_closeDoor : Cond.code MX5_closeDoor.1 MX5_closeDoor.2.1 MX5_closeDoor.2.2.1 MX5_closeDoor.2.2.2 ∈ gw := ch_4_10_ok.2.2.2.2.2.2.2.1.1 rfl
theorem mo_X5_closeDoor : mOk MX5_closeDoor 1 := ⟨wc_X5_closeDoor, ch_1_0_ok.2.2.2.2.2.2.2.2.1.1 rfl, ⟨ne_X5.1, ne_X5.2, by decide +kernel⟩, by decide⟩
def MX6_init : Mt := (yX6_init, cX6_init, 1, none)
theorem wc_X6_init : Cond.code MX6_init.1 MX6_init.2.1 MX6_init.2.2.1 MX6_init.2.2.2 ∈ gw := ch_1_5_ok.2.2.2.2.2.2.2.2.2.2.2.2.2.2.1.1 rfl
theorem mo_X6_init : mOk MX6_init 0 := ⟨wc_X6_init, ch_1_0_ok.2.2.2.2.2.1.1 rfl, ⟨ne_X6.1, ne_X6.2, by decide +kernel⟩, by decide⟩
def MX6_add : Mt := (yX6_add, cX6_add, 6, some .int)
theorem wc_X6_add : Cond.code MX6_add.1 MX6_add.2.1 MX6_add.2.2.1 MX6_add.2.2.2 ∈ gw := ch_3_5_ok.2.2.2.2.2.2.2.2.2.2.1.1 rfl
theorem mo_X6_add : mOk MX6_add 5 := ⟨wc_X6_add, ch_1_0_ok.2.2.2.2.2.1.1 rfl, ⟨ne_X6.1, ne_X6.2, by decide +kernel⟩, by decide⟩
def MX6_places : Mt := (yX6_places, cX6_places, 3, some .int)
theorem wc_X6_places : Cond.code MX6_places.1 MX6_places.2.1 MX6_places.2.2.1 MX6_places.2.2.2 ∈ gw := ch_4_2_ok.2.1.1 rfl
theorem mo_X6_places : mOk MX6_places 2 := ⟨wc_X6_places, ch_1_0_ok.2.2.2.2.2.1.1 rfl, ⟨ne_X6.1, ne_X6.2, by decide +kernel⟩, by decide⟩
def MX6_placesInAll : Mt := (yX6_placesInAll, cX6_placesInAll, 4, some .int)
theorem wc_X6_placesInAll : Cond.code MX6_placesInAll.1 MX6_placesInAll.2.1 MX6_placesInAll.2.2.1 MX6_placesInAll.2.2.2 ∈ gw := ch_4_14_ok.2.1.1 rfl
theorem mo_X6_placesInAll : mOk MX6_placesInAll 1 := ⟨wc_X6_placesInAll, ch_1_0_ok.2.2.2.2.2.1.1 rfl, ⟨ne_X6.1, ne_X6.2, by decide +kernel⟩, by decide⟩
def MX6_copyFrom : Mt := (yX6_copyFrom, cX6_copyFrom, 2, none)
theorem wc_X6_copyFrom : Cond.code MX6_copyFrom.1 MX6_copyFrom.2.1 MX6_copyFrom.2.2.1 MX6_copyFrom.2.2.2 ∈ gw := ch_4_14_ok.2.2.2.2.2.2.2.2.2.2.2.2.2.2.1.1 rfl
theorem mo_X6_copyFrom : mOk MX6_copyFrom 1 := ⟨wc_X6_copyFrom, ch_1_0_ok.2.2.2.2.2.1.1 rfl, ⟨ne_X6.1, ne_X6.2, by decide +kernel⟩, by decide⟩
def MX7_init : Mt := (yX7_init, cX7_init, 1, none)
theorem wc_X7_init : Cond.code MX7_init.1 MX7_init.2.1 MX7_init.2.2.1 MX7_init.2.2.2 ∈ gw := ch_1_3_ok.2.2.2.2.2.1.1 rfl
theorem mo_X7_init : mOk MX7_init 0 := ⟨wc_X7_init, ch_1_0_ok.2.2.2.2.1.1 rfl, ⟨ne_X7.1, ne_X7.2, by decide +kernel⟩, by decide⟩
def MX7_addTest : Mt := (yX7_addTest, cX7_addTest, 7, none)
theorem wc_X7_addTest : Cond.code MX7_addTest.1 MX7_addTest.2.1 MX7_addTest.2.2.1 MX7_addTest.2.2.2 ∈ gw := ch_3_4_ok.2.2.2.1.1 rfl
theorem mo_X7_addTest : mOk MX7_addTest 5 := ⟨wc_X7_addTest, ch_1_0_ok.2.2.2.2.1.1 rfl, ⟨ne_X7.1, ne_X7.2, by decide +kernel⟩, by decide⟩
def MX7_finishLine : Mt := (yX7_finishLine, cX7_finishLine, 4, none)
theorem wc_X7_finishLine : Cond.code MX7_finishLine.1 MX7_finishLine.2.1 MX7_finishLine.2.2.1 MX7_finishLine.2.2.2 ∈ gw := ch_3_4_ok.2.2.2.2.2.2.2.2.2.2.2.1.1 rfl
theorem mo_X7_finishLine : mOk MX7_finishLine 3 := ⟨wc_X7_finishLine, ch_1_0_ok.2.2.2.2.1.1 rfl, ⟨ne_X7.1, ne_X7.2, by decide +kernel⟩, by decide⟩
def MX7_lineHolds : Mt := (yX7_lineHolds, cX7_lineHolds, 8, some .boolean)
theorem wc_X7_lineHolds : Cond.code MX7_lineHolds.1 MX7_lineHolds.2.1 MX7_lineHolds.2.2.1 MX7_lineHolds.2.2.2 ∈ gw := ch_3_14_ok.2.2.2.2.2.2.2.2.2.2.2.2.1.1 rfl
theorem mo_X7_lineHolds : mOk MX7_lineHolds 4 := ⟨wc_X7_lineHolds, ch_1_0_ok.2.2.2.2.1.1 rfl, ⟨ne_X7.1, ne_X7.2, by decide +kernel⟩, by decide⟩
def MX7_compares : Mt := (yX7_compares, cX7_compares, 3, some .boolean)
theorem wc_X7_compares : Cond.code MX7_compares.1 MX7_compares.2.1 MX7_compares.2.2.1 MX7_compares.2.2.2 ∈ gw := ch_4_0_ok.2.2.2.2.2.2.2.2.2.2.1.1 rfl
theorem mo_X7_compares : mOk MX7_compares 3 := ⟨wc_X7_compares, ch_1_0_ok.2.2.2.2.1.1 rfl, ⟨ne_X7.1, ne_X7.2, by decide +kernel⟩, by decide⟩
def MX8_init : Mt := (yX8_init, cX8_init, 2, none)
theorem wc_X8_init : Cond.code MX8_init.1 MX8_init.2.1 MX8_init.2.2.1 MX8_init.2.2.2 ∈ gw := ch_1_5_ok.2.2.2.2.2.2.2.2.1.1 rfl
theorem mo_X8_init : mOk MX8_init 1 := ⟨wc_X8_init, ch_1_0_ok.2.2.2.1.1 rfl, ⟨ne_X8.1, ne_X8.2, by decide +kernel⟩, by decide⟩
def MX8_copyFrom : Mt := (yX8_copyFrom, cX8_copyFrom, 2, none)
theorem wc_X8_copyFrom : Cond.code MX8_copyFrom.1 MX8_copyFrom.2.1 MX8_copyFrom.2.2.1 MX8_copyFrom.2.2.2 ∈ gw := ch_4_14_ok.2.2.2.2.2.2.2.2.2.2.1.1 rfl
theorem mo_X8_copyFrom : mOk MX8_copyFrom 1 := ⟨wc_X8_copyFrom, ch_1_0_ok.2.2.2.1.1 rfl, ⟨ne_X8.1, ne_X8.2, by decide +kernel⟩, by decide⟩
def MX8_evenings : Mt := (yX8_evenings, cX8_evenings, 1, some .int)
theorem wc_X8_evenings : Cond.code MX8_evenings.1 MX8_evenings.2.1 MX8_evenings.2.2.1 MX8_evenings.2.2.2 ∈ gw := ch_3_9_ok.2.2.2.2.2.2.2.2.2.2.2.2.1.1 rfl
theorem mo_X8_evenings : mOk MX8_evenings 0 := ⟨wc_X8_evenings, ch_1_0_ok.2.2.2.1.1 rfl, ⟨ne_X8.1, ne_X8.2, by decide +kernel⟩, by decide⟩
def MX8_dayOfWeek : Mt := (yX8_dayOfWeek, cX8_dayOfWeek, 1, some .int)
theorem wc_X8_dayOfWeek : Cond.code MX8_dayOfWeek.1 MX8_dayOfWeek.2.1 MX8_dayOfWeek.2.2.1 MX8_dayOfWeek.2.2.2 ∈ gw := ch_4_0_ok.2.2.2.2.1.1 rfl
theorem mo_X8_dayOfWeek : mOk MX8_dayOfWeek 0 := ⟨wc_X8_dayOfWeek, ch_1_0_ok.2.2.2.1.1 rfl, ⟨ne_X8.1, ne_X8.2, by decide +kernel⟩, by decide⟩
def MX8_nightOf : Mt := (yX8_nightOf, cX8_nightOf, 3, some (.object "NightShelter$Night"))
theorem wc_X8_nightOf : Cond.code MX8_nightOf.1 MX8_nightOf.2.1 MX8_nightOf.2.2.1 MX8_nightOf.2.2.2 ∈ gw := ch_4_13_ok.2.2.2.2.2.2.2.2.2.1.1 rfl
theorem mo_X8_nightOf : mOk MX8_nightOf 1 := ⟨wc_X8_nightOf, ch_1_0_ok.2.2.2.1.1 rfl, ⟨ne_X8.1, ne_X8.2, by decide +kernel⟩, by decide⟩
def MX8_pointsOf : Mt := (yX8_pointsOf, cX8_pointsOf, 5, some .int)
theorem wc_X8_pointsOf : Cond.code MX8_pointsOf.1 MX8_pointsOf.2.1 MX8_pointsOf.2.2.1 MX8_pointsOf.2.2.2 ∈ gw := ch_3_14_ok.2.2.2.2.2.2.2.2.1.1 rfl
theorem mo_X8_pointsOf : mOk MX8_pointsOf 2 := ⟨wc_X8_pointsOf, ch_1_0_ok.2.2.2.1.1 rfl, ⟨ne_X8.1, ne_X8.2, by decide +kernel⟩, by decide⟩
def MX8_valueOf : Mt := (yX8_valueOf, cX8_valueOf, 4, some .int)
theorem wc_X8_valueOf : Cond.code MX8_valueOf.1 MX8_valueOf.2.1 MX8_valueOf.2.2.1 MX8_valueOf.2.2.2 ∈ gw := ch_4_0_ok.1.1 rfl
theorem mo_X8_valueOf : mOk MX8_valueOf 3 := ⟨wc_X8_valueOf, ch_1_0_ok.2.2.2.1.1 rfl, ⟨ne_X8.1, ne_X8.2, by decide +kernel⟩, by decide⟩
def MX9_init : Mt := (yX9_init, cX9_init, 1, none)
theorem wc_X9_init : Cond.code MX9_init.1 MX9_init.2.1 MX9_init.2.2.1 MX9_init.2.2.2 ∈ gw := ch_1_2_ok.2.2.1.1 rfl
theorem mo_X9_init : mOk MX9_init 0 := ⟨wc_X9_init, ch_1_0_ok.2.2.1.1 rfl, ⟨ne_X9.1, ne_X9.2, by decide +kernel⟩, by decide⟩
def MX9_append : Mt := (yX9_append, cX9_append, 3, none)
theorem wc_X9_append : Cond.code MX9_append.1 MX9_append.2.1 MX9_append.2.2.1 MX9_append.2.2.2 ∈ gw := ch_2_6_ok.2.2.2.1.1 rfl
theorem mo_X9_append : mOk MX9_append 1 := ⟨wc_X9_append, ch_1_0_ok.2.2.1.1 rfl, ⟨ne_X9.1, ne_X9.2, by decide +kernel⟩, by decide⟩
def MX10_init : Mt := (yX10_init, cX10_init, 2, none)
theorem wc_X10_init : Cond.code MX10_init.1 MX10_init.2.1 MX10_init.2.2.1 MX10_init.2.2.2 ∈ gw := ch_2_7_ok.1.1 rfl
theorem mo_X10_init : mOk MX10_init 1 := ⟨wc_X10_init, ch_1_0_ok.2.2.2.2.2.2.2.2.2.2.2.1.1 rfl, ⟨ne_X10.1, ne_X10.2, by decide +kernel⟩, by decide⟩
def MX10_readAll : Mt := (yX10_readAll, cX10_readAll, 2, none)
theorem wc_X10_readAll : Cond.code MX10_readAll.1 MX10_readAll.2.1 MX10_readAll.2.2.1 MX10_readAll.2.2.2 ∈ gw := ch_2_8_ok.2.2.2.2.2.2.2.2.2.2.2.2.1.1 rfl
theorem mo_X10_readAll : mOk MX10_readAll 0 := ⟨wc_X10_readAll, ch_1_0_ok.2.2.2.2.2.2.2.2.2.2.2.1.1 rfl, ⟨ne_X10.1, ne_X10.2, by decide +kernel⟩, by decide⟩
def MX10_byteAt : Mt := (yX10_byteAt, cX10_byteAt, 2, some .int)
theorem wc_X10_byteAt : Cond.code MX10_byteAt.1 MX10_byteAt.2.1 MX10_byteAt.2.2.1 MX10_byteAt.2.2.2 ∈ gw := ch_2_9_ok.2.2.2.2.1.1 rfl
theorem mo_X10_byteAt : mOk MX10_byteAt 1 := ⟨wc_X10_byteAt, ch_1_0_ok.2.2.2.2.2.2.2.2.2.2.2.1.1 rfl, ⟨ne_X10.1, ne_X10.2, by decide +kernel⟩, by decide⟩
def MX10_skipBlanks : Mt := (yX10_skipBlanks, cX10_skipBlanks, 1, none)
theorem wc_X10_skipBlanks : Cond.code MX10_skipBlanks.1 MX10_skipBlanks.2.1 MX10_skipBlanks.2.2.1 MX10_skipBlanks.2.2.2 ∈ gw := ch_2_9_ok.1.1 rfl
theorem mo_X10_skipBlanks : mOk MX10_skipBlanks 0 := ⟨wc_X10_skipBlanks, ch_1_0_ok.2.2.2.2.2.2.2.2.2.2.2.1.1 rfl, ⟨ne_X10.1, ne_X10.2, by decide +kernel⟩, by decide⟩
def MX10_readToken : Mt := (yX10_readToken, cX10_readToken, 3, some .int)
theorem wc_X10_readToken : Cond.code MX10_readToken.1 MX10_readToken.2.1 MX10_readToken.2.2.1 MX10_readToken.2.2.2 ∈ gw := ch_2_9_ok.2.2.2.2.2.2.2.2.1.1 rfl
theorem mo_X10_readToken : mOk MX10_readToken 1 := ⟨wc_X10_readToken, ch_1_0_ok.2.2.2.2.2.2.2.2.2.2.2.1.1 rfl, ⟨ne_X10.1, ne_X10.2, by decide +kernel⟩, by decide⟩
def MX10_readWord : Mt := (yX10_readWord, cX10_readWord, 3, some .int)
theorem wc_X10_readWord : Cond.code MX10_readWord.1 MX10_readWord.2.1 MX10_readWord.2.2.1 MX10_readWord.2.2.2 ∈ gw := ch_2_9_ok.2.2.2.2.2.2.2.2.2.2.2.2.2.2.2.1.1 rfl
theorem mo_X10_readWord : mOk MX10_readWord 0 := ⟨wc_X10_readWord, ch_1_0_ok.2.2.2.2.2.2.2.2.2.2.2.1.1 rfl, ⟨ne_X10.1, ne_X10.2, by decide +kernel⟩, by decide⟩
def MX10_readNumber : Mt := (yX10_readNumber, cX10_readNumber, 3, some .int)
theorem wc_X10_readNumber : Cond.code MX10_readNumber.1 MX10_readNumber.2.1 MX10_readNumber.2.2.1 MX10_readNumber.2.2.2 ∈ gw := ch_3_0_ok.2.2.1.1 rfl
theorem mo_X10_readNumber : mOk MX10_readNumber 1 := ⟨wc_X10_readNumber, ch_1_0_ok.2.2.2.2.2.2.2.2.2.2.2.1.1 rfl, ⟨ne_X10.1, ne_X10.2, by decide +kernel⟩, by decide⟩
def MX10_ruleWord : Mt := (yX10_ruleWord, cX10_ruleWord, 2, some .int)
theorem wc_X10_ruleWord : Cond.code MX10_ruleWord.1 MX10_ruleWord.2.1 MX10_ruleWord.2.2.1 MX10_ruleWord.2.2.2 ∈ gw := ch_2_10_ok.2.2.2.1.1 rfl
theorem mo_X10_ruleWord : mOk MX10_ruleWord 1 := ⟨wc_X10_ruleWord, ch_1_0_ok.2.2.2.2.2.2.2.2.2.2.2.1.1 rfl, ⟨ne_X10.1, ne_X10.2, by decide +kernel⟩, by decide⟩
def MX10_testWord : Mt := (yX10_testWord, cX10_testWord, 2, some .int)
theorem wc_X10_testWord : Cond.code MX10_testWord.1 MX10_testWord.2.1 MX10_testWord.2.2.1 MX10_testWord.2.2.2 ∈ gw := ch_2_14_ok.2.1.1 rfl
theorem mo_X10_testWord : mOk MX10_testWord 1 := ⟨wc_X10_testWord, ch_1_0_ok.2.2.2.2.2.2.2.2.2.2.2.1.1 rfl, ⟨ne_X10.1, ne_X10.2, by decide +kernel⟩, by decide⟩
def MX10_spells : Mt := (yX10_spells, cX10_spells, 4, some .boolean)
theorem wc_X10_spells : Cond.code MX10_spells.1 MX10_spells.2.1 MX10_spells.2.2.1 MX10_spells.2.2.2 ∈ gw := ch_2_10_ok.2.2.2.2.2.2.2.2.1.1 rfl
theorem mo_X10_spells : mOk MX10_spells 2 := ⟨wc_X10_spells, ch_1_0_ok.2.2.2.2.2.2.2.2.2.2.2.1.1 rfl, ⟨ne_X10.1, ne_X10.2, by decide +kernel⟩, by decide⟩
def MX10_isLetter : Mt := (yX10_isLetter, cX10_isLetter, 1, some .boolean)
theorem wc_X10_isLetter : Cond.code MX10_isLetter.1 MX10_isLetter.2.1 MX10_isLetter.2.2.1 MX10_isLetter.2.2.2 ∈ gw := ch_2_9_ok.2.2.2.2.2.2.2.2.2.2.2.1.1 rfl
theorem mo_X10_isLetter : mOk MX10_isLetter 1 := ⟨wc_X10_isLetter, ch_1_0_ok.2.2.2.2.2.2.2.2.2.2.2.1.1 rfl, ⟨ne_X10.1, ne_X10.2, by decide +kernel⟩, by decide⟩
def MX10_isDigit : Mt := (yX10_isDigit, cX10_isDigit, 1, some .boolean)
theorem wc_X10_isDigit : Cond.code MX10_isDigit.1 MX10_isDigit.2.1 MX10_isDigit.2.2.1 MX10_isDigit.2.2.2 ∈ gw := ch_2_14_ok.2.2.2.2.2.2.2.2.2.2.2.2.2.2.1.1 rfl
theorem mo_X10_isDigit : mOk MX10_isDigit 1 := ⟨wc_X10_isDigit, ch_1_0_ok.2.2.2.2.2.2.2.2.2.2.2.1.1 rfl, ⟨ne_X10.1, ne_X10.2, by decide +kernel⟩, by decide⟩
def MX10_isSign : Mt := (yX10_isSign, cX10_isSign, 1, some .boolean)
theorem wc_X10_isSign : Cond.code MX10_isSign.1 MX10_isSign.2.1 MX10_isSign.2.2.1 MX10_isSign.2.2.2 ∈ gw := ch_3_0_ok.2.2.2.2.2.1.1 rfl
theorem mo_X10_isSign : mOk MX10_isSign 1 := ⟨wc_X10_isSign, ch_1_0_ok.2.2.2.2.2.2.2.2.2.2.2.1.1 rfl, ⟨ne_X10.1, ne_X10.2, by decide +kernel⟩, by decide⟩
def MX11_init : Mt := (yX11_init, cX11_init, 1, none)
theorem wc_X11_init : Cond.code MX11_init.1 MX11_init.2.1 MX11_init.2.2.1 MX11_init.2.2.2 ∈ gw := ch_1_1_ok.2.2.2.2.2.2.2.2.2.2.1.1 rfl
theorem mo_X11_init : mOk MX11_init 0 := ⟨wc_X11_init, ch_1_0_ok.2.1.1 rfl, ⟨ne_X11.1, ne_X11.2, by decide +kernel⟩, by decide⟩
def MX11_feed : Mt := (yX11_feed, cX11_feed, 6, some .int)
theorem wc_X11_feed : Cond.code MX11_feed.1 MX11_feed.2.1 MX11_feed.2.2.1 MX11_feed.2.2.2 ∈ gw := ch_2_5_ok.2.2.2.2.2.2.2.2.2.2.2.2.2.2.2.1.1 rfl
theorem mo_X11_feed : mOk MX11_feed 5 := ⟨wc_X11_feed, ch_1_0_ok.2.1.1 rfl, ⟨ne_X11.1, ne_X11.2, by decide +kernel⟩, by decide⟩
def MX11_end : Mt := (yX11_end, cX11_end, 2, some .int)
theorem wc_X11_end : Cond.code MX11_end.1 MX11_end.2.1 MX11_end.2.2.1 MX11_end.2.2.2 ∈ gw := ch_2_6_ok.2.2.2.2.2.2.2.1.1 rfl
theorem mo_X11_end : mOk MX11_end 1 := ⟨wc_X11_end, ch_1_0_ok.2.1.1 rfl, ⟨ne_X11.1, ne_X11.2, by decide +kernel⟩, by decide⟩
def MX11_text : Mt := (yX11_text, cX11_text, 3, some .int)
theorem wc_X11_text : Cond.code MX11_text.1 MX11_text.2.1 MX11_text.2.2.1 MX11_text.2.2.2 ∈ gw := ch_2_6_ok.2.2.2.2.2.2.2.2.2.2.2.1.1 rfl
theorem mo_X11_text : mOk MX11_text 0 := ⟨wc_X11_text, ch_1_0_ok.2.1.1 rfl, ⟨ne_X11.1, ne_X11.2, by decide +kernel⟩, by decide⟩
def MX11_fault : Mt := (yX11_fault, cX11_fault, 2, some .int)
theorem wc_X11_fault : Cond.code MX11_fault.1 MX11_fault.2.1 MX11_fault.2.2.1 MX11_fault.2.2.2 ∈ gw := ch_3_4_ok.2.2.2.2.2.2.2.2.2.2.2.2.2.2.2.1.1 rfl
theorem mo_X11_fault : mOk MX11_fault 1 := ⟨wc_X11_fault, ch_1_0_ok.2.1.1 rfl, ⟨ne_X11.1, ne_X11.2, by decide +kernel⟩, by decide⟩
def MX11_room : Mt := (yX11_room, cX11_room, 6, some .int)
theorem wc_X11_room : Cond.code MX11_room.1 MX11_room.2.1 MX11_room.2.2.1 MX11_room.2.2.2 ∈ gw := ch_3_5_ok.2.2.2.1.1 rfl
theorem mo_X11_room : mOk MX11_room 5 := ⟨wc_X11_room, ch_1_0_ok.2.1.1 rfl, ⟨ne_X11.1, ne_X11.2, by decide +kernel⟩, by decide⟩
def MX11_person : Mt := (yX11_person, cX11_person, 5, some .int)
theorem wc_X11_person : Cond.code MX11_person.1 MX11_person.2.1 MX11_person.2.2.1 MX11_person.2.2.2 ∈ gw := ch_3_6_ok.2.1.1 rfl
theorem mo_X11_person : mOk MX11_person 4 := ⟨wc_X11_person, ch_1_0_ok.2.1.1 rfl, ⟨ne_X11.1, ne_X11.2, by decide +kernel⟩, by decide⟩
def MX11_ill : Mt := (yX11_ill, cX11_ill, 3, some .boolean)
theorem wc_X11_ill : Cond.code MX11_ill.1 MX11_ill.2.1 MX11_ill.2.2.1 MX11_ill.2.2.2 ∈ gw := ch_3_6_ok.2.2.2.2.2.2.2.2.2.2.1.1 rfl
theorem mo_X11_ill : mOk MX11_ill 2 := ⟨wc_X11_ill, ch_1_0_ok.2.1.1 rfl, ⟨ne_X11.1, ne_X11.2, by decide +kernel⟩, by decide⟩
def MX11_bar : Mt := (yX11_bar, cX11_bar, 4, some .boolean)
theorem wc_X11_bar : Cond.code MX11_bar.1 MX11_bar.2.1 MX11_bar.2.2.1 MX11_bar.2.2.2 ∈ gw := ch_3_7_ok.2.2.1.1 rfl
theorem mo_X11_bar : mOk MX11_bar 2 := ⟨wc_X11_bar, ch_1_0_ok.2.1.1 rfl, ⟨ne_X11.1, ne_X11.2, by decide +kernel⟩, by decide⟩
def MX11_pair : Mt := (yX11_pair, cX11_pair, 5, some .boolean)
theorem wc_X11_pair : Cond.code MX11_pair.1 MX11_pair.2.1 MX11_pair.2.2.1 MX11_pair.2.2.2 ∈ gw := ch_3_7_ok.2.2.2.2.2.2.2.2.2.2.1.1 rfl
theorem mo_X11_pair : mOk MX11_pair 3 := ⟨wc_X11_pair, ch_1_0_ok.2.1.1 rfl, ⟨ne_X11.1, ne_X11.2, by decide +kernel⟩, by decide⟩
def MX11_helper : Mt := (yX11_helper, cX11_helper, 3, some .int)
theorem wc_X11_helper : Cond.code MX11_helper.1 MX11_helper.2.1 MX11_helper.2.2.1 MX11_helper.2.2.2 ∈ gw := ch_3_8_ok.2.2.2.2.2.2.2.2.2.2.1.1 rfl
theorem mo_X11_helper : mOk MX11_helper 2 := ⟨wc_X11_helper, ch_1_0_ok.2.1.1 rfl, ⟨ne_X11.1, ne_X11.2, by decide +kernel⟩, by decide⟩
def MX11_evening : Mt := (yX11_evening, cX11_evening, 5, some .int)
theorem wc_X11_evening : Cond.code MX11_evening.1 MX11_evening.2.1 MX11_evening.2.2.1 MX11_evening.2.2.2 ∈ gw := ch_3_9_ok.2.2.1.1 rfl
theorem mo_X11_evening : mOk MX11_evening 2 := ⟨wc_X11_evening, ch_1_0_ok.2.1.1 rfl, ⟨ne_X11.1, ne_X11.2, by decide +kernel⟩, by decide⟩
def MX11_points : Mt := (yX11_points, cX11_points, 3, some .int)
theorem wc_X11_points : Cond.code MX11_points.1 MX11_points.2.1 MX11_points.2.2.1 MX11_points.2.2.2 ∈ gw := ch_4_11_ok.2.2.2.2.1.1 rfl
theorem mo_X11_points : mOk MX11_points 2 := ⟨wc_X11_points, ch_1_0_ok.2.1.1 rfl, ⟨ne_X11.1, ne_X11.2, by decide +kernel⟩, by decide⟩
def MX11_told : Mt := (yX11_told, cX11_told, 4, some .int)
theorem wc_X11_told : Cond.code MX11_told.1 MX11_told.2.1 MX11_told.2.2.1 MX11_told.2.2.2 ∈ gw := ch_4_11_ok.2.2.2.2.2.2.2.2.2.2.1.1 rfl
theorem mo_X11_told : mOk MX11_told 2 := ⟨wc_X11_told, ch_1_0_ok.2.1.1 rfl, ⟨ne_X11.1, ne_X11.2, by decide +kernel⟩, by decide⟩
def MX11_called : Mt := (yX11_called, cX11_called, 2, some .boolean)
theorem wc_X11_called : Cond.code MX11_called.1 MX11_called.2.1 MX11_called.2.2.1 MX11_called.2.2.2 ∈ gw := ch_4_12_ok.2.2.2.1.1 rfl
theorem mo_X11_called : mOk MX11_called 1 := ⟨wc_X11_called, ch_1_0_ok.2.1.1 rfl, ⟨ne_X11.1, ne_X11.2, by decide +kernel⟩, by decide⟩
def MX11_tell : Mt := (yX11_tell, cX11_tell, 4, some .int)
theorem wc_X11_tell : Cond.code MX11_tell.1 MX11_tell.2.1 MX11_tell.2.2.1 MX11_tell.2.2.2 ∈ gw := ch_4_12_ok.2.2.2.2.2.2.2.2.2.2.2.1.1 rfl
theorem mo_X11_tell : mOk MX11_tell 2 := ⟨wc_X11_tell, ch_1_0_ok.2.1.1 rfl, ⟨ne_X11.1, ne_X11.2, by decide +kernel⟩, by decide⟩
def MX11_duty : Mt := (yX11_duty, cX11_duty, 4, some .int)
theorem wc_X11_duty : Cond.code MX11_duty.1 MX11_duty.2.1 MX11_duty.2.2.1 MX11_duty.2.2.2 ∈ gw := ch_4_13_ok.1.1 rfl
theorem mo_X11_duty : mOk MX11_duty 2 := ⟨wc_X11_duty, ch_1_0_ok.2.1.1 rfl, ⟨ne_X11.1, ne_X11.2, by decide +kernel⟩, by decide⟩
def MX11_book : Mt := (yX11_book, cX11_book, 4, some .int)
theorem wc_X11_book : Cond.code MX11_book.1 MX11_book.2.1 MX11_book.2.2.1 MX11_book.2.2.2 ∈ gw := ch_4_13_ok.2.2.2.2.2.1.1 rfl
theorem mo_X11_book : mOk MX11_book 2 := ⟨wc_X11_book, ch_1_0_ok.2.1.1 rfl, ⟨ne_X11.1, ne_X11.2, by decide +kernel⟩, by decide⟩
def MX11_count : Mt := (yX11_count, cX11_count, 2, some .int)
theorem wc_X11_count : Cond.code MX11_count.1 MX11_count.2.1 MX11_count.2.2.1 MX11_count.2.2.2 ∈ gw := ch_4_13_ok.2.2.2.2.2.2.2.2.2.2.2.2.2.1.1 rfl
theorem mo_X11_count : mOk MX11_count 1 := ⟨wc_X11_count, ch_1_0_ok.2.1.1 rfl, ⟨ne_X11.1, ne_X11.2, by decide +kernel⟩, by decide⟩
def MX11_image : Mt := (yX11_image, cX11_image, 2, some .boolean)
theorem wc_X11_image : Cond.code MX11_image.1 MX11_image.2.1 MX11_image.2.2.1 MX11_image.2.2.2 ∈ gw := ch_4_14_ok.2.2.2.2.2.2.1.1 rfl
theorem mo_X11_image : mOk MX11_image 1 := ⟨wc_X11_image, ch_1_0_ok.2.1.1 rfl, ⟨ne_X11.1, ne_X11.2, by decide +kernel⟩, by decide⟩
def MX11_again : Mt := (yX11_again, cX11_again, 2, some .boolean)
theorem wc_X11_again : Cond.code MX11_again.1 MX11_again.2.1 MX11_again.2.2.1 MX11_again.2.2.2 ∈ gw := ch_5_1_ok.2.2.2.1.1 rfl
theorem mo_X11_again : mOk MX11_again 1 := ⟨wc_X11_again, ch_1_0_ok.2.1.1 rfl, ⟨ne_X11.1, ne_X11.2, by decide +kernel⟩, by decide⟩
def MX11_within : Mt := (yX11_within, cX11_within, 3, some .boolean)
theorem wc_X11_within : Cond.code MX11_within.1 MX11_within.2.1 MX11_within.2.2.1 MX11_within.2.2.2 ∈ gw := ch_3_5_ok.2.2.2.2.2.2.1.1 rfl
theorem mo_X11_within : mOk MX11_within 3 := ⟨wc_X11_within, ch_1_0_ok.2.1.1 rfl, ⟨ne_X11.1, ne_X11.2, by decide +kernel⟩, by decide⟩
def MX11_bit : Mt := (yX11_bit, cX11_bit, 1, some .int)
theorem wc_X11_bit : Cond.code MX11_bit.1 MX11_bit.2.1 MX11_bit.2.2.1 MX11_bit.2.2.2 ∈ gw := ch_3_5_ok.2.2.2.2.2.2.2.2.2.2.2.2.2.1.1 rfl
theorem mo_X11_bit : mOk MX11_bit 1 := ⟨wc_X11_bit, ch_1_0_ok.2.1.1 rfl, ⟨ne_X11.1, ne_X11.2, by decide +kernel⟩, by decide⟩
def MX11_isIn : Mt := (yX11_isIn, cX11_isIn, 2, some .boolean)
theorem wc_X11_isIn : Cond.code MX11_isIn.1 MX11_isIn.2.1 MX11_isIn.2.2.1 MX11_isIn.2.2.2 ∈ gw := ch_3_7_ok.2.2.2.2.2.1.1 rfl
theorem mo_X11_isIn : mOk MX11_isIn 2 := ⟨wc_X11_isIn, ch_1_0_ok.2.1.1 rfl, ⟨ne_X11.1, ne_X11.2, by decide +kernel⟩, by decide⟩
def MX11_oneIfIn : Mt := (yX11_oneIfIn, cX11_oneIfIn, 2, some .int)
theorem wc_X11_oneIfIn : Cond.code MX11_oneIfIn.1 MX11_oneIfIn.2.1 MX11_oneIfIn.2.2.1 MX11_oneIfIn.2.2.2 ∈ gw := ch_4_0_ok.2.2.2.2.2.2.2.1.1 rfl
theorem mo_X11_oneIfIn : mOk MX11_oneIfIn 2 := ⟨wc_X11_oneIfIn, ch_1_0_ok.2.1.1 rfl, ⟨ne_X11.1, ne_X11.2, by decide +kernel⟩, by decide⟩
def MX11_copy : Mt := (yX11_copy, cX11_copy, 2, none)
theorem wc_X11_copy : Cond.code MX11_copy.1 MX11_copy.2.1 MX11_copy.2.2.1 MX11_copy.2.2.2 ∈ gw := ch_5_0_ok.2.1.1 rfl
theorem mo_X11_copy : mOk MX11_copy 2 := ⟨wc_X11_copy, ch_1_0_ok.2.1.1 rfl, ⟨ne_X11.1, ne_X11.2, by decide +kernel⟩, by decide⟩
def MX12_init : Mt := (yX12_init, cX12_init, 2, none)
theorem wc_X12_init : Cond.code MX12_init.1 MX12_init.2.1 MX12_init.2.2.1 MX12_init.2.2.2 ∈ gw := ch_5_1_ok.2.2.2.2.2.2.2.2.1.1 rfl
theorem mo_X12_init : mOk MX12_init 0 := ⟨wc_X12_init, ch_1_0_ok.2.2.2.2.2.2.2.2.2.2.1.1 rfl, ⟨ne_X12.1, ne_X12.2, by decide +kernel⟩, by decide⟩
def MX12_in : Mt := (yX12_in, cX12_in, 3, some .boolean)
theorem wc_X12_in : Cond.code MX12_in.1 MX12_in.2.1 MX12_in.2.2.1 MX12_in.2.2.2 ∈ gw := ch_5_13_ok.2.2.2.2.2.2.2.2.2.2.1.1 rfl
theorem mo_X12_in : mOk MX12_in 3 := ⟨wc_X12_in, ch_1_0_ok.2.2.2.2.2.2.2.2.2.2.1.1 rfl, ⟨ne_X12.1, ne_X12.2, by decide +kernel⟩, by decide⟩
def MX12_ones : Mt := (yX12_ones, cX12_ones, 3, some .int)
theorem wc_X12_ones : Cond.code MX12_ones.1 MX12_ones.2.1 MX12_ones.2.2.1 MX12_ones.2.2.2 ∈ gw := ch_6_4_ok.2.2.2.2.2.1.1 rfl
theorem mo_X12_ones : mOk MX12_ones 1 := ⟨wc_X12_ones, ch_1_0_ok.2.2.2.2.2.2.2.2.2.2.1.1 rfl, ⟨ne_X12.1, ne_X12.2, by decide +kernel⟩, by decide⟩
def MX12_move : Mt := (yX12_move, cX12_move, 5, none)
theorem wc_X12_move : Cond.code MX12_move.1 MX12_move.2.1 MX12_move.2.2.1 MX12_move.2.2.2 ∈ gw := ch_6_12_ok.2.2.2.2.2.1.1 rfl
theorem mo_X12_move : mOk MX12_move 4 := ⟨wc_X12_move, ch_1_0_ok.2.2.2.2.2.2.2.2.2.2.1.1 rfl, ⟨ne_X12.1, ne_X12.2, by decide +kernel⟩, by decide⟩
def MX12_copy : Mt := (yX12_copy, cX12_copy, 3, none)
theorem wc_X12_copy : Cond.code MX12_copy.1 MX12_copy.2.1 MX12_copy.2.2.1 MX12_copy.2.2.2 ∈ gw := ch_6_12_ok.2.2.1.1 rfl
theorem mo_X12_copy : mOk MX12_copy 2 := ⟨wc_X12_copy, ch_1_0_ok.2.2.2.2.2.2.2.2.2.2.1.1 rfl, ⟨ne_X12.1, ne_X12.2, by decide +kernel⟩, by decide⟩
def MX12_feed : Mt := (yX12_feed, cX12_feed, 6, some .int)
theorem wc_X12_feed : Cond.code MX12_feed.1 MX12_feed.2.1 MX12_feed.2.2.1 MX12_feed.2.2.2 ∈ gw := ch_5_12_ok.2.2.2.2.2.2.2.2.2.2.2.2.2.2.2.1.1 rfl
theorem mo_X12_feed : mOk MX12_feed 5 := ⟨wc_X12_feed, ch_1_0_ok.2.2.2.2.2.2.2.2.2.2.1.1 rfl, ⟨ne_X12.1, ne_X12.2, by decide +kernel⟩, by decide⟩
def MX12_four : Mt := (yX12_four, cX12_four, 3, none)
theorem wc_X12_four : Cond.code MX12_four.1 MX12_four.2.1 MX12_four.2.2.1 MX12_four.2.2.2 ∈ gw := ch_5_13_ok.2.2.2.1.1 rfl
theorem mo_X12_four : mOk MX12_four 1 := ⟨wc_X12_four, ch_1_0_ok.2.2.2.2.2.2.2.2.2.2.1.1 rfl, ⟨ne_X12.1, ne_X12.2, by decide +kernel⟩, by decide⟩
def MX12_end : Mt := (yX12_end, cX12_end, 2, some .int)
theorem wc_X12_end : Cond.code MX12_end.1 MX12_end.2.1 MX12_end.2.2.1 MX12_end.2.2.2 ∈ gw := ch_5_13_ok.2.2.2.2.2.2.2.1.1 rfl
theorem mo_X12_end : mOk MX12_end 1 := ⟨wc_X12_end, ch_1_0_ok.2.2.2.2.2.2.2.2.2.2.1.1 rfl, ⟨ne_X12.1, ne_X12.2, by decide +kernel⟩, by decide⟩
def MX12_see : Mt := (yX12_see, cX12_see, 1, some .int)
theorem wc_X12_see : Cond.code MX12_see.1 MX12_see.2.1 MX12_see.2.2.1 MX12_see.2.2.2 ∈ gw := ch_5_14_ok.2.2.2.2.2.2.1.1 rfl
theorem mo_X12_see : mOk MX12_see 0 := ⟨wc_X12_see, ch_1_0_ok.2.2.2.2.2.2.2.2.2.2.1.1 rfl, ⟨ne_X12.1, ne_X12.2, by decide +kernel⟩, by decide⟩
def MX12_next : Mt := (yX12_next, cX12_next, 3, none)
theorem wc_X12_next : Cond.code MX12_next.1 MX12_next.2.1 MX12_next.2.2.1 MX12_next.2.2.2 ∈ gw := ch_5_14_ok.2.2.1.1 rfl
theorem mo_X12_next : mOk MX12_next 0 := ⟨wc_X12_next, ch_1_0_ok.2.2.2.2.2.2.2.2.2.2.1.1 rfl, ⟨ne_X12.1, ne_X12.2, by decide +kernel⟩, by decide⟩
def MX12_isWord : Mt := (yX12_isWord, cX12_isWord, 3, some .boolean)
theorem wc_X12_isWord : Cond.code MX12_isWord.1 MX12_isWord.2.1 MX12_isWord.2.2.1 MX12_isWord.2.2.2 ∈ gw := ch_6_0_ok.2.2.2.1.1 rfl
theorem mo_X12_isWord : mOk MX12_isWord 1 := ⟨wc_X12_isWord, ch_1_0_ok.2.2.2.2.2.2.2.2.2.2.1.1 rfl, ⟨ne_X12.1, ne_X12.2, by decide +kernel⟩, by decide⟩
def MX12_isSign : Mt := (yX12_isSign, cX12_isSign, 2, some .boolean)
theorem wc_X12_isSign : Cond.code MX12_isSign.1 MX12_isSign.2.1 MX12_isSign.2.2.1 MX12_isSign.2.2.2 ∈ gw := ch_6_1_ok.2.2.2.2.2.2.2.2.2.2.2.2.2.2.2.1.1 rfl
theorem mo_X12_isSign : mOk MX12_isSign 1 := ⟨wc_X12_isSign, ch_1_0_ok.2.2.2.2.2.2.2.2.2.2.1.1 rfl, ⟨ne_X12.1, ne_X12.2, by decide +kernel⟩, by decide⟩
def MX12_wrong : Mt := (yX12_wrong, cX12_wrong, 1, some .boolean)
theorem wc_X12_wrong : Cond.code MX12_wrong.1 MX12_wrong.2.1 MX12_wrong.2.2.1 MX12_wrong.2.2.2 ∈ gw := ch_6_1_ok.2.2.2.2.2.2.1.1 rfl
theorem mo_X12_wrong : mOk MX12_wrong 0 := ⟨wc_X12_wrong, ch_1_0_ok.2.2.2.2.2.2.2.2.2.2.1.1 rfl, ⟨ne_X12.1, ne_X12.2, by decide +kernel⟩, by decide⟩
def MX12_tooMany : Mt := (yX12_tooMany, cX12_tooMany, 2, none)
theorem wc_X12_tooMany : Cond.code MX12_tooMany.1 MX12_tooMany.2.1 MX12_tooMany.2.2.1 MX12_tooMany.2.2.2 ∈ gw := ch_5_14_ok.2.2.2.2.2.2.2.2.2.2.2.2.2.2.1.1 rfl
theorem mo_X12_tooMany : mOk MX12_tooMany 1 := ⟨wc_X12_tooMany, ch_1_0_ok.2.2.2.2.2.2.2.2.2.2.1.1 rfl, ⟨ne_X12.1, ne_X12.2, by decide +kernel⟩, by decide⟩
def MX12_need : Mt := (yX12_need, cX12_need, 2, some .boolean)
theorem wc_X12_need : Cond.code MX12_need.1 MX12_need.2.1 MX12_need.2.2.1 MX12_need.2.2.2 ∈ gw := ch_6_1_ok.2.2.2.2.2.2.2.2.2.2.2.1.1 rfl
theorem mo_X12_need : mOk MX12_need 1 := ⟨wc_X12_need, ch_1_0_ok.2.2.2.2.2.2.2.2.2.2.1.1 rfl, ⟨ne_X12.1, ne_X12.2, by decide +kernel⟩, by decide⟩
def MX12_oneLine : Mt := (yX12_oneLine, cX12_oneLine, 4, some .boolean)
theorem wc_X12_oneLine : Cond.code MX12_oneLine.1 MX12_oneLine.2.1 MX12_oneLine.2.2.1 MX12_oneLine.2.2.2 ∈ gw := ch_5_14_ok.2.2.2.2.2.2.2.2.2.2.1.1 rfl
theorem mo_X12_oneLine : mOk MX12_oneLine 0 := ⟨wc_X12_oneLine, ch_1_0_ok.2.2.2.2.2.2.2.2.2.2.1.1 rfl, ⟨ne_X12.1, ne_X12.2, by decide +kernel⟩, by decide⟩
def MX12_test : Mt := (yX12_test, cX12_test, 8, some .boolean)
theorem wc_X12_test : Cond.code MX12_test.1 MX12_test.2.1 MX12_test.2.2.1 MX12_test.2.2.2 ∈ gw := ch_6_0_ok.2.2.2.2.2.2.2.1.1 rfl
theorem mo_X12_test : mOk MX12_test 2 := ⟨wc_X12_test, ch_1_0_ok.2.2.2.2.2.2.2.2.2.2.1.1 rfl, ⟨ne_X12.1, ne_X12.2, by decide +kernel⟩, by decide⟩
def MX12_text : Mt := (yX12_text, cX12_text, 4, some .int)
theorem wc_X12_text : Cond.code MX12_text.1 MX12_text.2.1 MX12_text.2.2.1 MX12_text.2.2.2 ∈ gw := ch_5_13_ok.2.2.2.2.2.2.2.2.2.2.2.2.2.2.1.1 rfl
theorem mo_X12_text : mOk MX12_text 0 := ⟨wc_X12_text, ch_1_0_ok.2.2.2.2.2.2.2.2.2.2.1.1 rfl, ⟨ne_X12.1, ne_X12.2, by decide +kernel⟩, by decide⟩
def MX12_fault : Mt := (yX12_fault, cX12_fault, 2, some .int)
theorem wc_X12_fault : Cond.code MX12_fault.1 MX12_fault.2.1 MX12_fault.2.2.1 MX12_fault.2.2.2 ∈ gw := ch_6_2_ok.2.2.2.2.2.2.1.1 rfl
theorem mo_X12_fault : mOk MX12_fault 1 := ⟨wc_X12_fault, ch_1_0_ok.2.2.2.2.2.2.2.2.2.2.1.1 rfl, ⟨ne_X12.1, ne_X12.2, by decide +kernel⟩, by decide⟩
def MX12_room : Mt := (yX12_room, cX12_room, 7, some .int)
theorem wc_X12_room : Cond.code MX12_room.1 MX12_room.2.1 MX12_room.2.2.1 MX12_room.2.2.2 ∈ gw := ch_6_2_ok.2.2.2.2.2.2.2.2.2.2.1.1 rfl
theorem mo_X12_room : mOk MX12_room 5 := ⟨wc_X12_room, ch_1_0_ok.2.2.2.2.2.2.2.2.2.2.1.1 rfl, ⟨ne_X12.1, ne_X12.2, by decide +kernel⟩, by decide⟩
def MX12_person : Mt := (yX12_person, cX12_person, 6, some .int)
theorem wc_X12_person : Cond.code MX12_person.1 MX12_person.2.1 MX12_person.2.2.1 MX12_person.2.2.2 ∈ gw := ch_6_2_ok.2.2.2.2.2.2.2.2.2.2.2.2.2.2.1.1 rfl
theorem mo_X12_person : mOk MX12_person 4 := ⟨wc_X12_person, ch_1_0_ok.2.2.2.2.2.2.2.2.2.2.1.1 rfl, ⟨ne_X12.1, ne_X12.2, by decide +kernel⟩, by decide⟩
def MX12_isPerson : Mt := (yX12_isPerson, cX12_isPerson, 2, some .boolean)
theorem wc_X12_isPerson : Cond.code MX12_isPerson.1 MX12_isPerson.2.1 MX12_isPerson.2.2.1 MX12_isPerson.2.2.2 ∈ gw := ch_6_3_ok.2.2.2.2.2.2.1.1 rfl
theorem mo_X12_isPerson : mOk MX12_isPerson 1 := ⟨wc_X12_isPerson, ch_1_0_ok.2.2.2.2.2.2.2.2.2.2.1.1 rfl, ⟨ne_X12.1, ne_X12.2, by decide +kernel⟩, by decide⟩
def MX12_isHelper : Mt := (yX12_isHelper, cX12_isHelper, 2, some .boolean)
theorem wc_X12_isHelper : Cond.code MX12_isHelper.1 MX12_isHelper.2.1 MX12_isHelper.2.2.1 MX12_isHelper.2.2.2 ∈ gw := ch_6_10_ok.2.2.2.2.2.2.2.2.2.2.1.1 rfl
theorem mo_X12_isHelper : mOk MX12_isHelper 1 := ⟨wc_X12_isHelper, ch_1_0_ok.2.2.2.2.2.2.2.2.2.2.1.1 rfl, ⟨ne_X12.1, ne_X12.2, by decide +kernel⟩, by decide⟩
def MX12_ill : Mt := (yX12_ill, cX12_ill, 3, some .boolean)
theorem wc_X12_ill : Cond.code MX12_ill.1 MX12_ill.2.1 MX12_ill.2.2.1 MX12_ill.2.2.2 ∈ gw := ch_6_3_ok.2.2.1.1 rfl
theorem mo_X12_ill : mOk MX12_ill 2 := ⟨wc_X12_ill, ch_1_0_ok.2.2.2.2.2.2.2.2.2.2.1.1 rfl, ⟨ne_X12.1, ne_X12.2, by decide +kernel⟩, by decide⟩
def MX12_bar : Mt := (yX12_bar, cX12_bar, 3, some .boolean)
theorem wc_X12_bar : Cond.code MX12_bar.1 MX12_bar.2.1 MX12_bar.2.2.1 MX12_bar.2.2.2 ∈ gw := ch_6_3_ok.2.2.2.2.2.2.2.2.2.2.1.1 rfl
theorem mo_X12_bar : mOk MX12_bar 2 := ⟨wc_X12_bar, ch_1_0_ok.2.2.2.2.2.2.2.2.2.2.1.1 rfl, ⟨ne_X12.1, ne_X12.2, by decide +kernel⟩, by decide⟩
def MX12_pairs : Mt := (yX12_pairs, cX12_pairs, 3, some .int)
theorem wc_X12_pairs : Cond.code MX12_pairs.1 MX12_pairs.2.1 MX12_pairs.2.2.1 MX12_pairs.2.2.2 ∈ gw := ch_6_4_ok.2.2.1.1 rfl
theorem mo_X12_pairs : mOk MX12_pairs 0 := ⟨wc_X12_pairs, ch_1_0_ok.2.2.2.2.2.2.2.2.2.2.1.1 rfl, ⟨ne_X12.1, ne_X12.2, by decide +kernel⟩, by decide⟩
def MX12_pair : Mt := (yX12_pair, cX12_pair, 5, some .boolean)
theorem wc_X12_pair : Cond.code MX12_pair.1 MX12_pair.2.1 MX12_pair.2.2.1 MX12_pair.2.2.2 ∈ gw := ch_6_3_ok.2.2.2.2.2.2.2.2.2.2.2.2.2.2.1.1 rfl
theorem mo_X12_pair : mOk MX12_pair 3 := ⟨wc_X12_pair, ch_1_0_ok.2.2.2.2.2.2.2.2.2.2.1.1 rfl, ⟨ne_X12.1, ne_X12.2, by decide +kernel⟩, by decide⟩
def MX12_helper : Mt := (yX12_helper, cX12_helper, 4, some .int)
theorem wc_X12_helper : Cond.code MX12_helper.1 MX12_helper.2.1 MX12_helper.2.2.1 MX12_helper.2.2.2 ∈ gw := ch_6_4_ok.2.2.2.2.2.2.2.2.2.1.1 rfl
theorem mo_X12_helper : mOk MX12_helper 2 := ⟨wc_X12_helper, ch_1_0_ok.2.2.2.2.2.2.2.2.2.2.1.1 rfl, ⟨ne_X12.1, ne_X12.2, by decide +kernel⟩, by decide⟩
def MX12_wasHere : Mt := (yX12_wasHere, cX12_wasHere, 2, some .boolean)
theorem wc_X12_wasHere : Cond.code MX12_wasHere.1 MX12_wasHere.2.1 MX12_wasHere.2.2.1 MX12_wasHere.2.2.2 ∈ gw := ch_6_6_ok.2.1.1 rfl
theorem mo_X12_wasHere : mOk MX12_wasHere 1 := ⟨wc_X12_wasHere, ch_1_0_ok.2.2.2.2.2.2.2.2.2.2.1.1 rfl, ⟨ne_X12.1, ne_X12.2, by decide +kernel⟩, by decide⟩
def MX12_asked : Mt := (yX12_asked, cX12_asked, 4, some .int)
theorem wc_X12_asked : Cond.code MX12_asked.1 MX12_asked.2.1 MX12_asked.2.2.1 MX12_asked.2.2.2 ∈ gw := ch_6_5_ok.2.2.2.2.2.2.2.2.2.2.2.2.2.1.1 rfl
theorem mo_X12_asked : mOk MX12_asked 3 := ⟨wc_X12_asked, ch_1_0_ok.2.2.2.2.2.2.2.2.2.2.1.1 rfl, ⟨ne_X12.1, ne_X12.2, by decide +kernel⟩, by decide⟩
def MX12_holdsLine : Mt := (yX12_holdsLine, cX12_holdsLine, 7, some .boolean)
theorem wc_X12_holdsLine : Cond.code MX12_holdsLine.1 MX12_holdsLine.2.1 MX12_holdsLine.2.2.1 MX12_holdsLine.2.2.2 ∈ gw := ch_6_5_ok.2.2.2.2.2.2.2.2.2.1.1 rfl
theorem mo_X12_holdsLine : mOk MX12_holdsLine 3 := ⟨wc_X12_holdsLine, ch_1_0_ok.2.2.2.2.2.2.2.2.2.2.1.1 rfl, ⟨ne_X12.1, ne_X12.2, by decide +kernel⟩, by decide⟩
def MX12_pointsOf : Mt := (yX12_pointsOf, cX12_pointsOf, 5, some .int)
theorem wc_X12_pointsOf : Cond.code MX12_pointsOf.1 MX12_pointsOf.2.1 MX12_pointsOf.2.2.1 MX12_pointsOf.2.2.2 ∈ gw := ch_6_5_ok.2.2.2.2.2.1.1 rfl
theorem mo_X12_pointsOf : mOk MX12_pointsOf 2 := ⟨wc_X12_pointsOf, ch_1_0_ok.2.2.2.2.2.2.2.2.2.2.1.1 rfl, ⟨ne_X12.1, ne_X12.2, by decide +kernel⟩, by decide⟩
def MX12_isAhead : Mt := (yX12_isAhead, cX12_isAhead, 3, some .boolean)
theorem wc_X12_isAhead : Cond.code MX12_isAhead.1 MX12_isAhead.2.1 MX12_isAhead.2.2.1 MX12_isAhead.2.2.2 ∈ gw := ch_6_6_ok.2.2.2.2.2.2.1.1 rfl
theorem mo_X12_isAhead : mOk MX12_isAhead 2 := ⟨wc_X12_isAhead, ch_1_0_ok.2.2.2.2.2.2.2.2.2.2.1.1 rfl, ⟨ne_X12.1, ne_X12.2, by decide +kernel⟩, by decide⟩
def MX12_makeOrder : Mt := (yX12_makeOrder, cX12_makeOrder, 5, none)
theorem wc_X12_makeOrder : Cond.code MX12_makeOrder.1 MX12_makeOrder.2.1 MX12_makeOrder.2.2.1 MX12_makeOrder.2.2.2 ∈ gw := ch_6_5_ok.2.1.1 rfl
theorem mo_X12_makeOrder : mOk MX12_makeOrder 2 := ⟨wc_X12_makeOrder, ch_1_0_ok.2.2.2.2.2.2.2.2.2.2.1.1 rfl, ⟨ne_X12.1, ne_X12.2, by decide +kernel⟩, by decide⟩
def MX12_capacity : Mt := (yX12_capacity, cX12_capacity, 2, some .int)
theorem wc_X12_capacity : Cond.code MX12_capacity.1 MX12_capacity.2.1 MX12_capacity.2.2.1 MX12_capacity.2.2.2 ∈ gw := ch_6_8_ok.2.2.1.1 rfl
theorem mo_X12_capacity : mOk MX12_capacity 1 := ⟨wc_X12_capacity, ch_1_0_ok.2.2.2.2.2.2.2.2.2.2.1.1 rfl, ⟨ne_X12.1, ne_X12.2, by decide +kernel⟩, by decide⟩
def MX12_lowest : Mt := (yX12_lowest, cX12_lowest, 3, some .int)
theorem wc_X12_lowest : Cond.code MX12_lowest.1 MX12_lowest.2.1 MX12_lowest.2.2.1 MX12_lowest.2.2.2 ∈ gw := ch_6_8_ok.2.2.2.2.2.2.1.1 rfl
theorem mo_X12_lowest : mOk MX12_lowest 1 := ⟨wc_X12_lowest, ch_1_0_ok.2.2.2.2.2.2.2.2.2.2.1.1 rfl, ⟨ne_X12.1, ne_X12.2, by decide +kernel⟩, by decide⟩
def MX12_may : Mt := (yX12_may, cX12_may, 5, some .boolean)
theorem wc_X12_may : Cond.code MX12_may.1 MX12_may.2.1 MX12_may.2.2.1 MX12_may.2.2.2 ∈ gw := ch_6_7_ok.2.2.2.2.2.2.2.2.2.2.2.2.2.2.1.1 rfl
theorem mo_X12_may : mOk MX12_may 2 := ⟨wc_X12_may, ch_1_0_ok.2.2.2.2.2.2.2.2.2.2.1.1 rfl, ⟨ne_X12.1, ne_X12.2, by decide +kernel⟩, by decide⟩
def MX12_ways : Mt := (yX12_ways, cX12_ways, 4, some .int)
theorem wc_X12_ways : Cond.code MX12_ways.1 MX12_ways.2.1 MX12_ways.2.2.1 MX12_ways.2.2.2 ∈ gw := ch_6_8_ok.2.2.2.2.2.2.2.2.2.2.2.2.2.2.1.1 rfl
theorem mo_X12_ways : mOk MX12_ways 1 := ⟨wc_X12_ways, ch_1_0_ok.2.2.2.2.2.2.2.2.2.2.1.1 rfl, ⟨ne_X12.1, ne_X12.2, by decide +kernel⟩, by decide⟩
def MX12_canPlace : Mt := (yX12_canPlace, cX12_canPlace, 7, some .boolean)
theorem wc_X12_canPlace : Cond.code MX12_canPlace.1 MX12_canPlace.2.1 MX12_canPlace.2.2.1 MX12_canPlace.2.2.2 ∈ gw := ch_6_8_ok.2.2.2.2.2.2.2.2.2.2.1.1 rfl
theorem mo_X12_canPlace : mOk MX12_canPlace 1 := ⟨wc_X12_canPlace, ch_1_0_ok.2.2.2.2.2.2.2.2.2.2.1.1 rfl, ⟨ne_X12.1, ne_X12.2, by decide +kernel⟩, by decide⟩
def MX12_emptyRooms : Mt := (yX12_emptyRooms, cX12_emptyRooms, 2, none)
theorem wc_X12_emptyRooms : Cond.code MX12_emptyRooms.1 MX12_emptyRooms.2.1 MX12_emptyRooms.2.2.1 MX12_emptyRooms.2.2.2 ∈ gw := ch_6_7_ok.2.2.1.1 rfl
theorem mo_X12_emptyRooms : mOk MX12_emptyRooms 0 := ⟨wc_X12_emptyRooms, ch_1_0_ok.2.2.2.2.2.2.2.2.2.2.1.1 rfl, ⟨ne_X12.1, ne_X12.2, by decide +kernel⟩, by decide⟩
def MX12_fitsOne : Mt := (yX12_fitsOne, cX12_fitsOne, 5, some .boolean)
theorem wc_X12_fitsOne : Cond.code MX12_fitsOne.1 MX12_fitsOne.2.1 MX12_fitsOne.2.2.1 MX12_fitsOne.2.2.2 ∈ gw := ch_6_7_ok.2.2.2.2.2.2.2.2.2.2.1.1 rfl
theorem mo_X12_fitsOne : mOk MX12_fitsOne 1 := ⟨wc_X12_fitsOne, ch_1_0_ok.2.2.2.2.2.2.2.2.2.2.1.1 rfl, ⟨ne_X12.1, ne_X12.2, by decide +kernel⟩, by decide⟩
def MX12_placeAll : Mt := (yX12_placeAll, cX12_placeAll, 7, none)
theorem wc_X12_placeAll : Cond.code MX12_placeAll.1 MX12_placeAll.2.1 MX12_placeAll.2.2.1 MX12_placeAll.2.2.2 ∈ gw := ch_6_9_ok.2.2.1.1 rfl
theorem mo_X12_placeAll : mOk MX12_placeAll 1 := ⟨wc_X12_placeAll, ch_1_0_ok.2.2.2.2.2.2.2.2.2.2.1.1 rfl, ⟨ne_X12.1, ne_X12.2, by decide +kernel⟩, by decide⟩
def MX12_triesRoom : Mt := (yX12_triesRoom, cX12_triesRoom, 4, some .boolean)
theorem wc_X12_triesRoom : Cond.code MX12_triesRoom.1 MX12_triesRoom.2.1 MX12_triesRoom.2.2.1 MX12_triesRoom.2.2.2 ∈ gw := ch_6_9_ok.2.2.2.2.2.2.1.1 rfl
theorem mo_X12_triesRoom : mOk MX12_triesRoom 3 := ⟨wc_X12_triesRoom, ch_1_0_ok.2.2.2.2.2.2.2.2.2.2.1.1 rfl, ⟨ne_X12.1, ne_X12.2, by decide +kernel⟩, by decide⟩
def MX12_hanging : Mt := (yX12_hanging, cX12_hanging, 6, some .int)
theorem wc_X12_hanging : Cond.code MX12_hanging.1 MX12_hanging.2.1 MX12_hanging.2.2.1 MX12_hanging.2.2.2 ∈ gw := ch_6_6_ok.2.2.2.2.2.2.2.2.2.2.2.2.2.2.1.1 rfl
theorem mo_X12_hanging : mOk MX12_hanging 2 := ⟨wc_X12_hanging, ch_1_0_ok.2.2.2.2.2.2.2.2.2.2.1.1 rfl, ⟨ne_X12.1, ne_X12.2, by decide +kernel⟩, by decide⟩
def MX12_lacksOne : Mt := (yX12_lacksOne, cX12_lacksOne, 4, some .boolean)
theorem wc_X12_lacksOne : Cond.code MX12_lacksOne.1 MX12_lacksOne.2.1 MX12_lacksOne.2.2.1 MX12_lacksOne.2.2.2 ∈ gw := ch_6_7_ok.2.2.2.2.2.2.1.1 rfl
theorem mo_X12_lacksOne : mOk MX12_lacksOne 2 := ⟨wc_X12_lacksOne, ch_1_0_ok.2.2.2.2.2.2.2.2.2.2.1.1 rfl, ⟨ne_X12.1, ne_X12.2, by decide +kernel⟩, by decide⟩
def MX12_take : Mt := (yX12_take, cX12_take, 9, some .int)
theorem wc_X12_take : Cond.code MX12_take.1 MX12_take.2.1 MX12_take.2.2.1 MX12_take.2.2.2 ∈ gw := ch_6_6_ok.2.2.2.2.2.2.2.2.2.2.1.1 rfl
theorem mo_X12_take : mOk MX12_take 0 := ⟨wc_X12_take, ch_1_0_ok.2.2.2.2.2.2.2.2.2.2.1.1 rfl, ⟨ne_X12.1, ne_X12.2, by decide +kernel⟩, by decide⟩
def MX12_call : Mt := (yX12_call, cX12_call, 8, some .int)
theorem wc_X12_call : Cond.code MX12_call.1 MX12_call.2.1 MX12_call.2.2.1 MX12_call.2.2.2 ∈ gw := ch_6_9_ok.2.2.2.2.2.2.2.2.2.2.1.1 rfl
theorem mo_X12_call : mOk MX12_call 2 := ⟨wc_X12_call, ch_1_0_ok.2.2.2.2.2.2.2.2.2.2.1.1 rfl, ⟨ne_X12.1, ne_X12.2, by decide +kernel⟩, by decide⟩
def MX12_evening : Mt := (yX12_evening, cX12_evening, 11, some .int)
theorem wc_X12_evening : Cond.code MX12_evening.1 MX12_evening.2.1 MX12_evening.2.2.1 MX12_evening.2.2.2 ∈ gw := ch_6_4_ok.2.2.2.2.2.2.2.2.2.2.2.2.2.1.1 rfl
theorem mo_X12_evening : mOk MX12_evening 2 := ⟨wc_X12_evening, ch_1_0_ok.2.2.2.2.2.2.2.2.2.2.1.1 rfl, ⟨ne_X12.1, ne_X12.2, by decide +kernel⟩, by decide⟩
def MX12_points : Mt := (yX12_points, cX12_points, 3, some .int)
theorem wc_X12_points : Cond.code MX12_points.1 MX12_points.2.1 MX12_points.2.2.1 MX12_points.2.2.2 ∈ gw := ch_6_9_ok.2.2.2.2.2.2.2.2.2.2.2.2.2.2.1.1 rfl
theorem mo_X12_points : mOk MX12_points 2 := ⟨wc_X12_points, ch_1_0_ok.2.2.2.2.2.2.2.2.2.2.1.1 rfl, ⟨ne_X12.1, ne_X12.2, by decide +kernel⟩, by decide⟩
def MX12_told : Mt := (yX12_told, cX12_told, 3, some .int)
theorem wc_X12_told : Cond.code MX12_told.1 MX12_told.2.1 MX12_told.2.2.1 MX12_told.2.2.2 ∈ gw := ch_6_10_ok.2.2.1.1 rfl
theorem mo_X12_told : mOk MX12_told 2 := ⟨wc_X12_told, ch_1_0_ok.2.2.2.2.2.2.2.2.2.2.1.1 rfl, ⟨ne_X12.1, ne_X12.2, by decide +kernel⟩, by decide⟩
def MX12_called : Mt := (yX12_called, cX12_called, 2, some .boolean)
theorem wc_X12_called : Cond.code MX12_called.1 MX12_called.2.1 MX12_called.2.2.1 MX12_called.2.2.2 ∈ gw := ch_6_10_ok.2.2.2.2.2.2.1.1 rfl
theorem mo_X12_called : mOk MX12_called 1 := ⟨wc_X12_called, ch_1_0_ok.2.2.2.2.2.2.2.2.2.2.1.1 rfl, ⟨ne_X12.1, ne_X12.2, by decide +kernel⟩, by decide⟩
def MX12_tell : Mt := (yX12_tell, cX12_tell, 3, some .int)
theorem wc_X12_tell : Cond.code MX12_tell.1 MX12_tell.2.1 MX12_tell.2.2.1 MX12_tell.2.2.2 ∈ gw := ch_6_10_ok.2.2.2.2.2.2.2.2.2.2.2.2.2.2.1.1 rfl
theorem mo_X12_tell : mOk MX12_tell 2 := ⟨wc_X12_tell, ch_1_0_ok.2.2.2.2.2.2.2.2.2.2.1.1 rfl, ⟨ne_X12.1, ne_X12.2, by decide +kernel⟩, by decide⟩
def MX12_duty : Mt := (yX12_duty, cX12_duty, 3, some .int)
theorem wc_X12_duty : Cond.code MX12_duty.1 MX12_duty.2.1 MX12_duty.2.2.1 MX12_duty.2.2.2 ∈ gw := ch_6_11_ok.2.2.1.1 rfl
theorem mo_X12_duty : mOk MX12_duty 2 := ⟨wc_X12_duty, ch_1_0_ok.2.2.2.2.2.2.2.2.2.2.1.1 rfl, ⟨ne_X12.1, ne_X12.2, by decide +kernel⟩, by decide⟩
def MX12_book : Mt := (yX12_book, cX12_book, 3, some .int)
theorem wc_X12_book : Cond.code MX12_book.1 MX12_book.2.1 MX12_book.2.2.1 MX12_book.2.2.2 ∈ gw := ch_6_11_ok.2.2.2.2.2.2.1.1 rfl
theorem mo_X12_book : mOk MX12_book 2 := ⟨wc_X12_book, ch_1_0_ok.2.2.2.2.2.2.2.2.2.2.1.1 rfl, ⟨ne_X12.1, ne_X12.2, by decide +kernel⟩, by decide⟩
def MX12_count : Mt := (yX12_count, cX12_count, 4, some .int)
theorem wc_X12_count : Cond.code MX12_count.1 MX12_count.2.1 MX12_count.2.2.1 MX12_count.2.2.2 ∈ gw := ch_6_11_ok.2.2.2.2.2.2.2.2.2.2.1.1 rfl
theorem mo_X12_count : mOk MX12_count 1 := ⟨wc_X12_count, ch_1_0_ok.2.2.2.2.2.2.2.2.2.2.1.1 rfl, ⟨ne_X12.1, ne_X12.2, by decide +kernel⟩, by decide⟩
def MX12_image : Mt := (yX12_image, cX12_image, 2, some .boolean)
theorem wc_X12_image : Cond.code MX12_image.1 MX12_image.2.1 MX12_image.2.2.1 MX12_image.2.2.2 ∈ gw := ch_6_11_ok.2.2.2.2.2.2.2.2.2.2.2.2.2.2.1.1 rfl
theorem mo_X12_image : mOk MX12_image 1 := ⟨wc_X12_image, ch_1_0_ok.2.2.2.2.2.2.2.2.2.2.1.1 rfl, ⟨ne_X12.1, ne_X12.2, by decide +kernel⟩, by decide⟩
def MX12_again : Mt := (yX12_again, cX12_again, 2, some .boolean)
theorem wc_X12_again : Cond.code MX12_again.1 MX12_again.2.1 MX12_again.2.2.1 MX12_again.2.2.2 ∈ gw := ch_6_12_ok.2.2.2.2.2.2.2.2.2.1.1 rfl
theorem mo_X12_again : mOk MX12_again 1 := ⟨wc_X12_again, ch_1_0_ok.2.2.2.2.2.2.2.2.2.2.1.1 rfl, ⟨ne_X12.1, ne_X12.2, by decide +kernel⟩, by decide⟩
def MJ6_bitCount_0f7a4 : Mt := (yJ6_bitCount_0f7a4, cJ6_bitCount_0f7a4, 1, some .int)
theorem wc_J6_bitCount_0f7a4 : Cond.code MJ6_bitCount_0f7a4.1 MJ6_bitCount_0f7a4.2.1 MJ6_bitCount_0f7a4.2.2.1 MJ6_bitCount_0f7a4.2.2.2 ∈ gw := ch_3_9_ok.2.2.2.2.2.1.1 rfl
theorem mo_J6_bitCount_0f7a4 : mOk MJ6_bitCount_0f7a4 1 := ⟨wc_J6_bitCount_0f7a4, ch_1_1_ok.2.1.1 rfl, ⟨ne_J6.1, ne_J6.2, by decide +kernel⟩, by decide⟩
def MJ7_fill_53178 : Mt := (yJ7_fill_53178, cJ7_fill_53178, 4, none)
theorem wc_J7_fill_53178 : Cond.code MJ7_fill_53178.1 MJ7_fill_53178.2.1 MJ7_fill_53178.2.2.1 MJ7_fill_53178.2.2.2 ∈ gw := ch_3_10_ok.2.2.2.2.2.2.1.1 rfl
theorem mo_J7_fill_53178 : mOk MJ7_fill_53178 2 := ⟨wc_J7_fill_53178, ch_1_1_ok.2.2.2.1.1 rfl, ⟨ne_J7.1, ne_J7.2, by decide +kernel⟩, by decide⟩
theorem pl_X0_9 : sput RX0 true 9 (i_putR 0 1) := s_putR (T := TX0) (j := 1) kX0 (by decide) (Or.inr ⟨_, rfl⟩) (Or.inl rfl) (ch_1_12_ok.2.2.2.2.2.2.2.2.2.2.2.2.2.2.1.1 rfl)
theorem pl_X0_15 : sput RX0 true 15 (i_putR 0 2) := s_putR (T := TX0) (j := 2) kX0 (by decide) (Or.inr ⟨_, rfl⟩) (Or.inl rfl) (ch_1_12_ok.2.2.2.2.2.2.2.2.2.2.2.2.2.2.2.1.1 rfl)
theorem pl_X0_18 : sput RX0 true 18 (i_putR 0 3) := s_putR (T := TX0) (j := 3) kX0 (by decide) (Or.inr ⟨_, rfl⟩) (Or.inl rfl) (ch_1_13_ok.1.1 rfl)
theorem pl_X0_21 : sput RX0 true 21 (i_putR 0 4) := s_putR (T := TX0) (j := 4) kX0 (by decide) (Or.inr ⟨_, rfl⟩) (Or.inl rfl) (ch_1_13_ok.2.2.1.1 rfl)
theorem fl_X0_24 : sforC RX0 (.getfield 24) 3 (i_getI 0 0) := s_getI kX0 (by decide) (fun _ _ => rfl) (ch_1_12_ok.2.2.2.2.2.2.2.2.2.2.2.2.1.1 rfl)
theorem fl_X0_9 : sforC RX0 (.getfield 9) 3 (i_getR 0 1) := s_getR kX0 (by decide) (fun _ _ => rfl) (ch_1_12_ok.2.2.2.2.2.2.2.2.2.2.2.2.2.2.1.1 rfl)
theorem fl_X0_15 : sforC RX0 (.getfield 15) 3 (i_getR 0 2) := s_getR kX0 (by decide) (fun _ _ => rfl) (ch_1_12_ok.2.2.2.2.2.2.2.2.2.2.2.2.2.2.2.1.1 rfl)
theorem pl_X0_24 : sput RX0 false 24 (i_putI 0 0) := s_putI (T := TX0) (j := 0) kX0 (by decide) rfl (Or.inr rfl) (ch_1_12_ok.2.2.2.2.2.2.2.2.2.2.2.2.1.1 rfl)
theorem fl_X0_21 : sforC RX0 (.getfield 21) 3 (i_getR 0 4) := s_getR kX0 (by decide) (fun _ _ => rfl) (ch_1_13_ok.2.2.1.1 rfl)
theorem fl_X0_18 : sforC RX0 (.getfield 18) 3 (i_getR 0 3) := s_getR kX0 (by decide) (fun _ _ => rfl) (ch_1_13_ok.1.1 rfl)
theorem pl_X1_9 : sput RX1 true 9 (i_putR 1 9) := s_putR (T := TX1) (j := 9) kX1 (by decide) (Or.inr ⟨_, rfl⟩) (Or.inl rfl) (ch_3_11_ok.2.2.2.2.2.2.2.2.2.2.2.1.1 rfl)
theorem pl_X1_15 : sput RX1 true 15 (i_putR 1 10) := s_putR (T := TX1) (j := 10) kX1 (by decide) (Or.inr ⟨_, rfl⟩) (Or.inl rfl) (ch_3_11_ok.2.2.2.2.2.2.2.2.2.2.2.2.2.1.1 rfl)
theorem fl_X1_18 : sforC RX1 (.getfield 18) 3 (i_getN 8 4) := s_getN kX8 (by decide) (fun _ _ => rfl) (ch_1_14_ok.2.2.2.2.2.2.2.2.2.2.2.1.1 rfl)
theorem pl_X1_24 : sput RX1 true 24 (i_putR 1 0) := s_putR (T := TX1) (j := 0) kX1 (by decide) (Or.inl ⟨_, rfl⟩) (Or.inl rfl) (ch_3_10_ok.2.2.2.2.2.2.2.1.1 rfl)
theorem pl_X1_31 : sput RX1 true 31 (i_putI 1 1) := s_putI (T := TX1) (j := 1) kX1 (by decide) rfl (Or.inl rfl) (ch_3_10_ok.2.2.2.2.2.2.2.2.2.1.1 rfl)
theorem pl_X1_35 : sput RX1 true 35 (i_putI 1 2) := s_putI (T := TX1) (j := 2) kX1 (by decide) rfl (Or.inl rfl) (ch_3_10_ok.2.2.2.2.2.2.2.2.2.2.2.1.1 rfl)
theorem pl_X1_38 : sput RX1 true 38 (i_putZ 1 3) := s_putZ (T := TX1) (j := 3) kX1 (by decide) rfl (Or.inl rfl) (ch_3_10_ok.2.2.2.2.2.2.2.2.2.2.2.2.2.2.1.1 rfl)
theorem fl_X1_42 : sforC RX1 (.getfield 42) 3 (i_getR 8 0) := s_getR kX8 (by decide) (fun _ _ => rfl) (ch_1_13_ok.2.2.2.2.2.2.2.2.2.2.2.2.2.2.2.1.1 rfl)
theorem fl_X1_46 : sforC RX1 (.getfield 46) 3 (i_getI 6 0) := s_getI kX6 (by decide) (fun _ _ => rfl) (ch_1_6_ok.1.1 rfl)
theorem pl_X1_51 : sput RX1 true 51 (i_putR 1 11) := s_putR (T := TX1) (j := 11) kX1 (by decide) (Or.inr ⟨_, rfl⟩) (Or.inl rfl) (ch_3_12_ok.1.1 rfl)
theorem fl_X1_15 : sforC RX1 (.getfield 15) 3 (i_getR 1 10) := s_getR kX1 (by decide) (fun _ _ => rfl) (ch_3_11_ok.2.2.2.2.2.2.2.2.2.2.2.2.2.1.1 rfl)
theorem fl_X1_51 : sforC RX1 (.getfield 51) 3 (i_getR 1 11) := s_getR kX1 (by decide) (fun _ _ => rfl) (ch_3_12_ok.1.1 rfl)
theorem fl_X1_64 : sforC RX1 (.getfield 64) 3 (i_getI 1 8) := s_getI kX1 (by decide) (fun _ _ => rfl) (ch_3_11_ok.2.2.2.2.2.2.2.2.2.1.1 rfl)
theorem fl_X1_9 : sforC RX1 (.getfield 9) 3 (i_getR 1 9) := s_getR kX1 (by decide) (fun _ _ => rfl) (ch_3_11_ok.2.2.2.2.2.2.2.2.2.2.2.1.1 rfl)
theorem pl_X2_9 : sput RX2 false 9 (i_putI 2 2) := s_putI (T := TX2) (j := 2) kX2 (by decide) rfl (Or.inr rfl) (ch_3_1_ok.1.1 rfl)
theorem pl_X2_18 : sput RX2 true 18 (i_putR 2 3) := s_putR (T := TX2) (j := 3) kX2 (by decide) (Or.inl ⟨_, rfl⟩) (Or.inl rfl) (ch_3_1_ok.2.1.1 rfl)
theorem pl_X2_22 : sput RX2 false 22 (i_putI 2 4) := s_putI (T := TX2) (j := 4) kX2 (by decide) rfl (Or.inr rfl) (ch_3_1_ok.2.2.2.1.1 rfl)
theorem pl_X2_25 : sput RX2 false 25 (i_putI 2 5) := s_putI (T := TX2) (j := 5) kX2 (by decide) rfl (Or.inr rfl) (ch_3_1_ok.2.2.2.2.2.1.1 rfl)
theorem pl_X2_28 : sput RX2 true 28 (i_putR 2 0) := s_putR (T := TX2) (j := 0) kX2 (by decide) (Or.inl ⟨_, rfl⟩) (Or.inl rfl) (ch_3_0_ok.2.2.2.2.2.2.2.2.2.2.2.2.2.2.1.1 rfl)
theorem fl_X2_28 : sforC RX2 (.getfield 28) 3 (i_getR 2 0) := s_getR kX2 (by decide) (fun _ _ => rfl) (ch_3_0_ok.2.2.2.2.2.2.2.2.2.2.2.2.2.2.1.1 rfl)
theorem fl_X2_42 : sforC RX2 (.getfield 42) 3 (i_getR 10 3) := s_getR kX10 (by decide) (fun _ _ => rfl) (ch_2_7_ok.2.2.2.2.2.2.2.1.1 rfl)
theorem fl_X2_46 : sforC RX2 (.getfield 46) 3 (i_getI 2 1) := s_getI kX2 (by decide) (fun _ _ => rfl) (ch_3_0_ok.2.2.2.2.2.2.2.2.2.2.2.2.2.2.2.1.1 rfl)
theorem fl_X2_9 : sforC RX2 (.getfield 9) 3 (i_getI 2 2) := s_getI kX2 (by decide) (fun _ _ => rfl) (ch_3_1_ok.1.1 rfl)
theorem fl_X2_18 : sforC RX2 (.getfield 18) 3 (i_getR 2 3) := s_getR kX2 (by decide) (fun _ _ => rfl) (ch_3_1_ok.2.1.1 rfl)
theorem fl_X2_69 : sforC RX2 (.getfield 69) 3 (i_getR 10 4) := s_getR kX10 (by decide) (fun _ _ => rfl) (ch_2_7_ok.2.2.2.2.2.2.2.2.2.1.1 rfl)
theorem fl_X2_76 : sforC RX2 (.getfield 76) 3 (i_getR 10 2) := s_getR kX10 (by decide) (fun _ _ => rfl) (ch_2_7_ok.2.2.2.2.2.1.1 rfl)
theorem fl_X2_79 : sforC RX2 (.getfield 79) 3 (i_getI 10 5) := s_getI kX10 (by decide) (fun _ _ => rfl) (ch_2_7_ok.2.2.2.2.2.2.2.2.2.2.2.1.1 rfl)
theorem pl_X2_46 : sput RX2 false 46 (i_putI 2 1) := s_putI (T := TX2) (j := 1) kX2 (by decide) rfl (Or.inr rfl) (ch_3_0_ok.2.2.2.2.2.2.2.2.2.2.2.2.2.2.2.1.1 rfl)
theorem pl_X3_9 : sput RX3 true 9 (i_putR 3 2) := s_putR (T := TX3) (j := 2) kX3 (by decide) (Or.inr ⟨_, rfl⟩) (Or.inl rfl) (ch_1_8_ok.2.2.2.2.2.1.1 rfl)
theorem pl_X3_15 : sput RX3 true 15 (i_putR 3 3) := s_putR (T := TX3) (j := 3) kX3 (by decide) (Or.inr ⟨_, rfl⟩) (Or.inl rfl) (ch_1_8_ok.2.2.2.2.2.2.2.2.1.1 rfl)
theorem pl_X3_18 : sput RX3 true 18 (i_putR 3 4) := s_putR (T := TX3) (j := 4) kX3 (by decide) (Or.inr ⟨_, rfl⟩) (Or.inl rfl) (ch_1_8_ok.2.2.2.2.2.2.2.2.2.2.2.2.1.1 rfl)
theorem pl_X3_21 : sput RX3 true 21 (i_putR 3 5) := s_putR (T := TX3) (j := 5) kX3 (by decide) (Or.inr ⟨_, rfl⟩) (Or.inl rfl) (ch_1_9_ok.1.1 rfl)
theorem pl_X3_24 : sput RX3 true 24 (i_putR 3 6) := s_putR (T := TX3) (j := 6) kX3 (by decide) (Or.inr ⟨_, rfl⟩) (Or.inl rfl) (ch_1_9_ok.2.2.2.2.1.1 rfl)
theorem pl_X3_27 : sput RX3 true 27 (i_putR 3 7) := s_putR (T := TX3) (j := 7) kX3 (by decide) (Or.inr ⟨_, rfl⟩) (Or.inl rfl) (ch_1_9_ok.2.2.2.2.2.2.2.2.1.1 rfl)
theorem pl_X3_30 : sput RX3 true 30 (i_putR 3 8) := s_putR (T := TX3) (j := 8) kX3 (by decide) (Or.inr ⟨_, rfl⟩) (Or.inl rfl) (ch_1_9_ok.2.2.2.2.2.2.2.2.2.2.2.1.1 rfl)
theorem pl_X3_33 : sput RX3 true 33 (i_putR 3 9) := s_putR (T := TX3) (j := 9) kX3 (by decide) (Or.inr ⟨_, rfl⟩) (Or.inl rfl) (ch_1_9_ok.2.2.2.2.2.2.2.2.2.2.2.2.2.2.1.1 rfl)
theorem fl_X3_36 : sforC RX3 (.getfield 36) 3 (i_getI 3 0) := s_getI kX3 (by decide) (fun _ _ => rfl) (ch_1_7_ok.2.2.2.2.2.2.2.2.2.2.2.2.2.2.2.1.1 rfl)
theorem fl_X3_9 : sforC RX3 (.getfield 9) 3 (i_getR 3 2) := s_getR kX3 (by decide) (fun _ _ => rfl) (ch_1_8_ok.2.2.2.2.2.1.1 rfl)
theorem fl_X3_15 : sforC RX3 (.getfield 15) 3 (i_getR 3 3) := s_getR kX3 (by decide) (fun _ _ => rfl) (ch_1_8_ok.2.2.2.2.2.2.2.2.1.1 rfl)
theorem fl_X3_27 : sforC RX3 (.getfield 27) 3 (i_getR 3 7) := s_getR kX3 (by decide) (fun _ _ => rfl) (ch_1_9_ok.2.2.2.2.2.2.2.2.1.1 rfl)
theorem fl_X3_40 : sforC RX3 (.getfield 40) 3 (i_getI 3 10) := s_getI kX3 (by decide) (fun _ _ => rfl) (ch_1_10_ok.1.1 rfl)
theorem pl_X3_40 : sput RX3 false 40 (i_putI 3 10) := s_putI (T := TX3) (j := 10) kX3 (by decide) rfl (Or.inr rfl) (ch_1_10_ok.1.1 rfl)
theorem fl_X3_47 : sforC RX3 (.getfield 47) 3 (i_getI 3 11) := s_getI kX3 (by decide) (fun _ _ => rfl) (ch_1_10_ok.2.2.2.2.1.1 rfl)
theorem pl_X3_47 : sput RX3 false 47 (i_putI 3 11) := s_putI (T := TX3) (j := 11) kX3 (by decide) rfl (Or.inr rfl) (ch_1_10_ok.2.2.2.2.1.1 rfl)
theorem pl_X3_36 : sput RX3 false 36 (i_putI 3 0) := s_putI (T := TX3) (j := 0) kX3 (by decide) rfl (Or.inr rfl) (ch_1_7_ok.2.2.2.2.2.2.2.2.2.2.2.2.2.2.2.1.1 rfl)
theorem fl_X3_54 : sforC RX3 (.getfield 54) 3 (i_getI 3 1) := s_getI kX3 (by decide) (fun _ _ => rfl) (ch_1_8_ok.2.2.2.1.1 rfl)
theorem pl_X3_54 : sput RX3 false 54 (i_putI 3 1) := s_putI (T := TX3) (j := 1) kX3 (by decide) rfl (Or.inr rfl) (ch_1_8_ok.2.2.2.1.1 rfl)
theorem fl_X3_30 : sforC RX3 (.getfield 30) 3 (i_getR 3 8) := s_getR kX3 (by decide) (fun _ _ => rfl) (ch_1_9_ok.2.2.2.2.2.2.2.2.2.2.2.1.1 rfl)
theorem fl_X3_33 : sforC RX3 (.getfield 33) 3 (i_getR 3 9) := s_getR kX3 (by decide) (fun _ _ => rfl) (ch_1_9_ok.2.2.2.2.2.2.2.2.2.2.2.2.2.2.1.1 rfl)
theorem fl_X3_18 : sforC RX3 (.getfield 18) 3 (i_getR 3 4) := s_getR kX3 (by decide) (fun _ _ => rfl) (ch_1_8_ok.2.2.2.2.2.2.2.2.2.2.2.2.1.1 rfl)
theorem fl_X3_21 : sforC RX3 (.getfield 21) 3 (i_getR 3 5) := s_getR kX3 (by decide) (fun _ _ => rfl) (ch_1_9_ok.1.1 rfl)
theorem fl_X3_24 : sforC RX3 (.getfield 24) 3 (i_getR 3 6) := s_getR kX3 (by decide) (fun _ _ => rfl) (ch_1_9_ok.2.2.2.2.1.1 rfl)
theorem fl_X3_69 : sforC RX3 (.getfield 69) 3 (i_getI 3 12) := s_getI kX3 (by decide) (fun _ _ => rfl) (ch_1_10_ok.2.2.2.2.2.2.2.2.2.1.1 rfl)
theorem pl_X3_69 : sput RX3 false 69 (i_putI 3 12) := s_putI (T := TX3) (j := 12) kX3 (by decide) rfl (Or.inr rfl) (ch_1_10_ok.2.2.2.2.2.2.2.2.2.1.1 rfl)
theorem pl_X4_9 : sput RX4 true 9 (i_putR 4 3) := s_putR (T := TX4) (j := 3) kX4 (by decide) (Or.inr ⟨_, rfl⟩) (Or.inl rfl) (ch_2_1_ok.2.2.2.2.2.2.2.2.2.2.1.1 rfl)
theorem pl_X4_15 : sput RX4 true 15 (i_putR 4 4) := s_putR (T := TX4) (j := 4) kX4 (by decide) (Or.inr ⟨_, rfl⟩) (Or.inl rfl) (ch_2_1_ok.2.2.2.2.2.2.2.2.2.2.2.1.1 rfl)
theorem pl_X4_18 : sput RX4 true 18 (i_putR 4 5) := s_putR (T := TX4) (j := 5) kX4 (by decide) (Or.inr ⟨_, rfl⟩) (Or.inl rfl) (ch_2_1_ok.2.2.2.2.2.2.2.2.2.2.2.2.1.1 rfl)
theorem pl_X4_21 : sput RX4 true 21 (i_putR 4 6) := s_putR (T := TX4) (j := 6) kX4 (by decide) (Or.inr ⟨_, rfl⟩) (Or.inl rfl) (ch_2_1_ok.2.2.2.2.2.2.2.2.2.2.2.2.2.1.1 rfl)
theorem pl_X4_24 : sput RX4 true 24 (i_putR 4 7) := s_putR (T := TX4) (j := 7) kX4 (by decide) (Or.inr ⟨_, rfl⟩) (Or.inl rfl) (ch_2_1_ok.2.2.2.2.2.2.2.2.2.2.2.2.2.2.1.1 rfl)
theorem pl_X4_27 : sput RX4 true 27 (i_putR 4 8) := s_putR (T := TX4) (j := 8) kX4 (by decide) (Or.inr ⟨_, rfl⟩) (Or.inl rfl) (ch_2_1_ok.2.2.2.2.2.2.2.2.2.2.2.2.2.2.2.1.1 rfl)
theorem pl_X4_30 : sput RX4 true 30 (i_putR 4 9) := s_putR (T := TX4) (j := 9) kX4 (by decide) (Or.inr ⟨_, rfl⟩) (Or.inl rfl) (ch_2_2_ok.1.1 rfl)
theorem pl_X4_34 : sput RX4 true 34 (i_putR 4 10) := s_putR (T := TX4) (j := 10) kX4 (by decide) (Or.inr ⟨_, rfl⟩) (Or.inl rfl) (ch_2_2_ok.2.1.1 rfl)
theorem pl_X4_37 : sput RX4 true 37 (i_putR 4 11) := s_putR (T := TX4) (j := 11) kX4 (by decide) (Or.inr ⟨_, rfl⟩) (Or.inl rfl) (ch_2_2_ok.2.2.1.1 rfl)
theorem pl_X4_40 : sput RX4 true 40 (i_putR 4 12) := s_putR (T := TX4) (j := 12) kX4 (by decide) (Or.inr ⟨_, rfl⟩) (Or.inl rfl) (ch_2_2_ok.2.2.2.1.1 rfl)
theorem pl_X4_43 : sput RX4 true 43 (i_putR 4 0) := s_putR (T := TX4) (j := 0) kX4 (by decide) (Or.inl ⟨_, rfl⟩) (Or.inl rfl) (ch_2_1_ok.2.2.2.2.2.2.2.1.1 rfl)
theorem pl_X4_47 : sput RX4 false 47 (i_putZ 4 1) := s_putZ (T := TX4) (j := 1) kX4 (by decide) rfl (Or.inr rfl) (ch_2_1_ok.2.2.2.2.2.2.2.2.1.1 rfl)
theorem pl_X4_51 : sput RX4 false 51 (i_putI 4 2) := s_putI (T := TX4) (j := 2) kX4 (by decide) rfl (Or.inr rfl) (ch_2_1_ok.2.2.2.2.2.2.2.2.2.1.1 rfl)
theorem fl_X4_43 : sforC RX4 (.getfield 43) 3 (i_getR 4 0) := s_getR kX4 (by decide) (fun _ _ => rfl) (ch_2_1_ok.2.2.2.2.2.2.2.1.1 rfl)
theorem fl_X4_55 : sforC RX4 (.getfield 55) 3 (i_getR 8 0) := s_getR kX8 (by decide) (fun _ _ => rfl) (ch_1_14_ok.1.1 rfl)
theorem fl_X4_61 : sforC RX4 (.getfield 61) 3 (i_getI 6 0) := s_getI kX6 (by decide) (fun _ _ => rfl) (ch_1_6_ok.2.2.1.1 rfl)
theorem fl_X4_34 : sforC RX4 (.getfield 34) 3 (i_getR 4 10) := s_getR kX4 (by decide) (fun _ _ => rfl) (ch_2_2_ok.2.1.1 rfl)
theorem fl_X4_40 : sforC RX4 (.getfield 40) 3 (i_getR 4 12) := s_getR kX4 (by decide) (fun _ _ => rfl) (ch_2_2_ok.2.2.2.1.1 rfl)
theorem fl_X4_83 : sforC RX4 (.getfield 83) 3 (i_getR 8 1) := s_getR kX8 (by decide) (fun _ _ => rfl) (ch_1_14_ok.2.2.2.2.1.1 rfl)
theorem fl_X4_87 : sforC RX4 (.getfield 87) 3 (i_getI 3 0) := s_getI kX3 (by decide) (fun _ _ => rfl) (ch_1_8_ok.2.1.1 rfl)
theorem fl_X4_93 : sforC RX4 (.getfield 93) 3 (i_getR 3 4) := s_getR kX3 (by decide) (fun _ _ => rfl) (ch_1_8_ok.2.2.2.2.2.2.2.2.2.2.2.2.2.1.1 rfl)
theorem fl_X4_94 : sforC RX4 (.getfield 94) 3 (i_getR 3 8) := s_getR kX3 (by decide) (fun _ _ => rfl) (ch_1_9_ok.2.2.2.2.2.2.2.2.2.2.2.2.1.1 rfl)
theorem fl_X4_47 : sforC RX4 (.getfield 47) 3 (i_getI 4 1) := s_getI kX4 (by decide) (fun _ _ => rfl) (ch_2_1_ok.2.2.2.2.2.2.2.2.1.1 rfl)
theorem fl_X4_102 : sforC RX4 (.getfield 102) 3 (i_getI 6 4) := s_getI kX6 (by decide) (fun _ _ => rfl) (ch_1_6_ok.2.2.2.2.2.2.2.2.2.1.1 rfl)
theorem fl_X4_105 : sforC RX4 (.getfield 105) 3 (i_getI 3 10) := s_getI kX3 (by decide) (fun _ _ => rfl) (ch_1_10_ok.2.1.1 rfl)
theorem fl_X4_108 : sforC RX4 (.getfield 108) 3 (i_getI 6 5) := s_getI kX6 (by decide) (fun _ _ => rfl) (ch_1_6_ok.2.2.2.2.2.2.2.2.2.2.2.1.1 rfl)
theorem fl_X4_111 : sforC RX4 (.getfield 111) 3 (i_getI 3 11) := s_getI kX3 (by decide) (fun _ _ => rfl) (ch_1_10_ok.2.2.2.2.2.1.1 rfl)
theorem fl_X4_114 : sforC RX4 (.getfield 114) 3 (i_getR 6 3) := s_getR kX6 (by decide) (fun _ _ => rfl) (ch_1_6_ok.2.2.2.2.2.2.2.1.1 rfl)
theorem fl_X4_120 : sforC RX4 (.getfield 120) 3 (i_getR 3 3) := s_getR kX3 (by decide) (fun _ _ => rfl) (ch_1_8_ok.2.2.2.2.2.2.2.2.2.2.1.1 rfl)
theorem fl_X4_51 : sforC RX4 (.getfield 51) 3 (i_getI 4 2) := s_getI kX4 (by decide) (fun _ _ => rfl) (ch_2_1_ok.2.2.2.2.2.2.2.2.2.1.1 rfl)
theorem fl_X4_9 : sforC RX4 (.getfield 9) 3 (i_getR 4 3) := s_getR kX4 (by decide) (fun _ _ => rfl) (ch_2_1_ok.2.2.2.2.2.2.2.2.2.2.1.1 rfl)
theorem fl_X4_15 : sforC RX4 (.getfield 15) 3 (i_getR 4 4) := s_getR kX4 (by decide) (fun _ _ => rfl) (ch_2_1_ok.2.2.2.2.2.2.2.2.2.2.2.1.1 rfl)
theorem fl_X4_18 : sforC RX4 (.getfield 18) 3 (i_getR 4 5) := s_getR kX4 (by decide) (fun _ _ => rfl) (ch_2_1_ok.2.2.2.2.2.2.2.2.2.2.2.2.1.1 rfl)
theorem fl_X4_21 : sforC RX4 (.getfield 21) 3 (i_getR 4 6) := s_getR kX4 (by decide) (fun _ _ => rfl) (ch_2_1_ok.2.2.2.2.2.2.2.2.2.2.2.2.2.1.1 rfl)
theorem fl_X4_24 : sforC RX4 (.getfield 24) 3 (i_getR 4 7) := s_getR kX4 (by decide) (fun _ _ => rfl) (ch_2_1_ok.2.2.2.2.2.2.2.2.2.2.2.2.2.2.1.1 rfl)
theorem fl_X4_27 : sforC RX4 (.getfield 27) 3 (i_getR 4 8) := s_getR kX4 (by decide) (fun _ _ => rfl) (ch_2_1_ok.2.2.2.2.2.2.2.2.2.2.2.2.2.2.2.1.1 rfl)
theorem fl_X4_30 : sforC RX4 (.getfield 30) 3 (i_getR 4 9) := s_getR kX4 (by decide) (fun _ _ => rfl) (ch_2_2_ok.1.1 rfl)
theorem fl_X4_37 : sforC RX4 (.getfield 37) 3 (i_getR 4 11) := s_getR kX4 (by decide) (fun _ _ => rfl) (ch_2_2_ok.2.2.1.1 rfl)
theorem pl_X5_9 : sput RX5 true 9 (i_putR 5 2) := s_putR (T := TX5) (j := 2) kX5 (by decide) (Or.inr ⟨_, rfl⟩) (Or.inl rfl) (ch_2_4_ok.2.1.1 rfl)
theorem pl_X5_15 : sput RX5 true 15 (i_putR 5 0) := s_putR (T := TX5) (j := 0) kX5 (by decide) (Or.inl ⟨_, rfl⟩) (Or.inl rfl) (ch_2_3_ok.2.2.2.2.2.2.2.2.2.2.2.2.2.2.2.1.1 rfl)
theorem pl_X5_24 : sput RX5 true 24 (i_putR 5 1) := s_putR (T := TX5) (j := 1) kX5 (by decide) (Or.inl ⟨_, rfl⟩) (Or.inl rfl) (ch_2_4_ok.1.1 rfl)
theorem fl_X5_15 : sforC RX5 (.getfield 15) 3 (i_getR 5 0) := s_getR kX5 (by decide) (fun _ _ => rfl) (ch_2_3_ok.2.2.2.2.2.2.2.2.2.2.2.2.2.2.2.1.1 rfl)
theorem fl_X5_28 : sforC RX5 (.getfield 28) 3 (i_getR 8 1) := s_getR kX8 (by decide) (fun _ _ => rfl) (ch_1_14_ok.2.2.2.1.1 rfl)
theorem fl_X5_34 : sforC RX5 (.getfield 34) 3 (i_getI 3 0) := s_getI kX3 (by decide) (fun _ _ => rfl) (ch_1_8_ok.1.1 rfl)
theorem fl_X5_40 : sforC RX5 (.getfield 40) 3 (i_getI 1 2) := s_getI kX1 (by decide) (fun _ _ => rfl) (ch_3_10_ok.2.2.2.2.2.2.2.2.2.2.2.2.1.1 rfl)
theorem fl_X5_53 : sforC RX5 (.getfield 53) 3 (i_getI 1 3) := s_getI kX1 (by decide) (fun _ _ => rfl) (ch_3_10_ok.2.2.2.2.2.2.2.2.2.2.2.2.2.2.2.1.1 rfl)
theorem fl_X5_61 : sforC RX5 (.getfield 61) 3 (i_getI 3 12) := s_getI kX3 (by decide) (fun _ _ => rfl) (ch_1_10_ok.2.2.2.2.2.2.2.2.1.1 rfl)
theorem fl_X5_64 : sforC RX5 (.getfield 64) 3 (i_getR 1 10) := s_getR kX1 (by decide) (fun _ _ => rfl) (ch_3_11_ok.2.2.2.2.2.2.2.2.2.2.2.2.2.2.1.1 rfl)
theorem fl_X5_68 : sforC RX5 (.getfield 68) 3 (i_getI 1 8) := s_getI kX1 (by decide) (fun _ _ => rfl) (ch_3_11_ok.2.2.2.2.2.2.2.2.2.2.1.1 rfl)
theorem fl_X5_79 : sforC RX5 (.getfield 79) 3 (i_getR 1 9) := s_getR kX1 (by decide) (fun _ _ => rfl) (ch_3_11_ok.2.2.2.2.2.2.2.2.2.2.2.2.1.1 rfl)
theorem fl_X5_9 : sforC RX5 (.getfield 9) 3 (i_getR 5 2) := s_getR kX5 (by decide) (fun _ _ => rfl) (ch_2_4_ok.2.1.1 rfl)
theorem pl_X5_68 : sput RX5 false 68 (i_putI 1 8) := s_putI (T := TX1) (j := 8) kX1 (by decide) rfl (Or.inr rfl) (ch_3_11_ok.2.2.2.2.2.2.2.2.2.2.1.1 rfl)
theorem fl_X5_82 : sforC RX5 (.getfield 82) 3 (i_getI 1 7) := s_getI kX1 (by decide) (fun _ _ => rfl) (ch_3_11_ok.2.2.2.2.2.2.2.2.1.1 rfl)
theorem pl_X5_82 : sput RX5 false 82 (i_putI 1 7) := s_putI (T := TX1) (j := 7) kX1 (by decide) rfl (Or.inr rfl) (ch_3_11_ok.2.2.2.2.2.2.2.2.1.1 rfl)
theorem fl_X5_89 : sforC RX5 (.getfield 89) 3 (i_getR 3 6) := s_getR kX3 (by decide) (fun _ _ => rfl) (ch_1_9_ok.2.2.2.2.2.1.1 rfl)
theorem fl_X5_24 : sforC RX5 (.getfield 24) 3 (i_getR 5 1) := s_getR kX5 (by decide) (fun _ _ => rfl) (ch_2_4_ok.1.1 rfl)
theorem fl_X5_107 : sforC RX5 (.getfield 107) 3 (i_getI 1 4) := s_getI kX1 (by decide) (fun _ _ => rfl) (ch_3_11_ok.2.1.1 rfl)
theorem pl_X5_107 : sput RX5 false 107 (i_putI 1 4) := s_putI (T := TX1) (j := 4) kX1 (by decide) rfl (Or.inr rfl) (ch_3_11_ok.2.1.1 rfl)
theorem fl_X5_120 : sforC RX5 (.getfield 120) 3 (i_getR 1 11) := s_getR kX1 (by decide) (fun _ _ => rfl) (ch_3_12_ok.2.1.1 rfl)
theorem fl_X5_123 : sforC RX5 (.getfield 123) 3 (i_getR 3 7) := s_getR kX3 (by decide) (fun _ _ => rfl) (ch_1_9_ok.2.2.2.2.2.2.2.2.2.1.1 rfl)
theorem pl_X5_141 : sput RX5 false 141 (i_putI 1 6) := s_putI (T := TX1) (j := 6) kX1 (by decide) rfl (Or.inr rfl) (ch_3_11_ok.2.2.2.2.2.2.1.1 rfl)
theorem fl_X5_144 : sforC RX5 (.getfield 144) 3 (i_getR 8 2) := s_getR kX8 (by decide) (fun _ _ => rfl) (ch_1_14_ok.2.2.2.2.2.2.2.1.1 rfl)
theorem fl_X5_148 : sforC RX5 (.getfield 148) 3 (i_getI 1 5) := s_getI kX1 (by decide) (fun _ _ => rfl) (ch_3_11_ok.2.2.2.2.1.1 rfl)
theorem pl_X5_148 : sput RX5 false 148 (i_putI 1 5) := s_putI (T := TX1) (j := 5) kX1 (by decide) rfl (Or.inr rfl) (ch_3_11_ok.2.2.2.2.1.1 rfl)
theorem fl_X5_141 : sforC RX5 (.getfield 141) 3 (i_getI 1 6) := s_getI kX1 (by decide) (fun _ _ => rfl) (ch_3_11_ok.2.2.2.2.2.2.1.1 rfl)
theorem fl_X5_161 : sforC RX5 (.getfield 161) 3 (i_getR 3 5) := s_getR kX3 (by decide) (fun _ _ => rfl) (ch_1_9_ok.2.2.1.1 rfl)
theorem pl_X5_167 : sput RX5 false 167 (i_putR 8 4) := s_putR (T := TX8) (j := 4) kX8 (by decide) (Or.inl ⟨_, rfl⟩) (Or.inr rfl) (ch_1_14_ok.2.2.2.2.2.2.2.2.2.2.2.2.2.1.1 rfl)
theorem pl_X6_9 : sput RX6 true 9 (i_putR 6 1) := s_putR (T := TX6) (j := 1) kX6 (by decide) (Or.inr ⟨_, rfl⟩) (Or.inl rfl) (ch_1_6_ok.2.2.2.2.1.1 rfl)
theorem pl_X6_15 : sput RX6 true 15 (i_putR 6 2) := s_putR (T := TX6) (j := 2) kX6 (by decide) (Or.inr ⟨_, rfl⟩) (Or.inl rfl) (ch_1_6_ok.2.2.2.2.2.1.1 rfl)
theorem pl_X6_18 : sput RX6 true 18 (i_putR 6 3) := s_putR (T := TX6) (j := 3) kX6 (by decide) (Or.inr ⟨_, rfl⟩) (Or.inl rfl) (ch_1_6_ok.2.2.2.2.2.2.1.1 rfl)
theorem fl_X6_21 : sforC RX6 (.getfield 21) 3 (i_getI 6 0) := s_getI kX6 (by decide) (fun _ _ => rfl) (ch_1_6_ok.2.1.1 rfl)
theorem fl_X6_9 : sforC RX6 (.getfield 9) 3 (i_getR 6 1) := s_getR kX6 (by decide) (fun _ _ => rfl) (ch_1_6_ok.2.2.2.2.1.1 rfl)
theorem fl_X6_15 : sforC RX6 (.getfield 15) 3 (i_getR 6 2) := s_getR kX6 (by decide) (fun _ _ => rfl) (ch_1_6_ok.2.2.2.2.2.1.1 rfl)
theorem fl_X6_18 : sforC RX6 (.getfield 18) 3 (i_getR 6 3) := s_getR kX6 (by decide) (fun _ _ => rfl) (ch_1_6_ok.2.2.2.2.2.2.1.1 rfl)
theorem fl_X6_25 : sforC RX6 (.getfield 25) 3 (i_getI 6 4) := s_getI kX6 (by decide) (fun _ _ => rfl) (ch_1_6_ok.2.2.2.2.2.2.2.2.1.1 rfl)
theorem pl_X6_25 : sput RX6 false 25 (i_putI 6 4) := s_putI (T := TX6) (j := 4) kX6 (by decide) rfl (Or.inr rfl) (ch_1_6_ok.2.2.2.2.2.2.2.2.1.1 rfl)
theorem fl_X6_32 : sforC RX6 (.getfield 32) 3 (i_getI 6 5) := s_getI kX6 (by decide) (fun _ _ => rfl) (ch_1_6_ok.2.2.2.2.2.2.2.2.2.2.1.1 rfl)
theorem pl_X6_32 : sput RX6 false 32 (i_putI 6 5) := s_putI (T := TX6) (j := 5) kX6 (by decide) rfl (Or.inr rfl) (ch_1_6_ok.2.2.2.2.2.2.2.2.2.2.1.1 rfl)
theorem pl_X6_21 : sput RX6 false 21 (i_putI 6 0) := s_putI (T := TX6) (j := 0) kX6 (by decide) rfl (Or.inr rfl) (ch_1_6_ok.2.1.1 rfl)
theorem pl_X7_9 : sput RX7 true 9 (i_putR 7 1) := s_putR (T := TX7) (j := 1) kX7 (by decide) (Or.inr ⟨_, rfl⟩) (Or.inl rfl) (ch_1_3_ok.2.2.2.2.2.2.2.2.2.2.1.1 rfl)
theorem pl_X7_15 : sput RX7 true 15 (i_putR 7 2) := s_putR (T := TX7) (j := 2) kX7 (by decide) (Or.inr ⟨_, rfl⟩) (Or.inl rfl) (ch_1_3_ok.2.2.2.2.2.2.2.2.2.2.2.1.1 rfl)
theorem pl_X7_18 : sput RX7 true 18 (i_putR 7 3) := s_putR (T := TX7) (j := 3) kX7 (by decide) (Or.inr ⟨_, rfl⟩) (Or.inl rfl) (ch_1_3_ok.2.2.2.2.2.2.2.2.2.2.2.2.1.1 rfl)
theorem pl_X7_21 : sput RX7 true 21 (i_putR 7 4) := s_putR (T := TX7) (j := 4) kX7 (by decide) (Or.inr ⟨_, rfl⟩) (Or.inl rfl) (ch_1_3_ok.2.2.2.2.2.2.2.2.2.2.2.2.2.1.1 rfl)
theorem pl_X7_24 : sput RX7 true 24 (i_putR 7 5) := s_putR (T := TX7) (j := 5) kX7 (by decide) (Or.inr ⟨_, rfl⟩) (Or.inl rfl) (ch_1_3_ok.2.2.2.2.2.2.2.2.2.2.2.2.2.2.1.1 rfl)
theorem pl_X7_28 : sput RX7 true 28 (i_putR 7 6) := s_putR (T := TX7) (j := 6) kX7 (by decide) (Or.inr ⟨_, rfl⟩) (Or.inl rfl) (ch_1_3_ok.2.2.2.2.2.2.2.2.2.2.2.2.2.2.2.1.1 rfl)
theorem pl_X7_31 : sput RX7 true 31 (i_putR 7 7) := s_putR (T := TX7) (j := 7) kX7 (by decide) (Or.inr ⟨_, rfl⟩) (Or.inl rfl) (ch_1_4_ok.2.1.1 rfl)
theorem fl_X7_9 : sforC RX7 (.getfield 9) 3 (i_getR 7 1) := s_getR kX7 (by decide) (fun _ _ => rfl) (ch_1_3_ok.2.2.2.2.2.2.2.2.2.2.1.1 rfl)
theorem fl_X7_24 : sforC RX7 (.getfield 24) 3 (i_getR 7 5) := s_getR kX7 (by decide) (fun _ _ => rfl) (ch_1_3_ok.2.2.2.2.2.2.2.2.2.2.2.2.2.2.1.1 rfl)
theorem fl_X7_15 : sforC RX7 (.getfield 15) 3 (i_getR 7 2) := s_getR kX7 (by decide) (fun _ _ => rfl) (ch_1_3_ok.2.2.2.2.2.2.2.2.2.2.2.1.1 rfl)
theorem fl_X7_18 : sforC RX7 (.getfield 18) 3 (i_getR 7 3) := s_getR kX7 (by decide) (fun _ _ => rfl) (ch_1_3_ok.2.2.2.2.2.2.2.2.2.2.2.2.1.1 rfl)
theorem fl_X7_21 : sforC RX7 (.getfield 21) 3 (i_getR 7 4) := s_getR kX7 (by decide) (fun _ _ => rfl) (ch_1_3_ok.2.2.2.2.2.2.2.2.2.2.2.2.2.1.1 rfl)
theorem fl_X7_28 : sforC RX7 (.getfield 28) 3 (i_getR 7 6) := s_getR kX7 (by decide) (fun _ _ => rfl) (ch_1_3_ok.2.2.2.2.2.2.2.2.2.2.2.2.2.2.2.1.1 rfl)
theorem fl_X7_31 : sforC RX7 (.getfield 31) 3 (i_getR 7 7) := s_getR kX7 (by decide) (fun _ _ => rfl) (ch_1_4_ok.2.1.1 rfl)
theorem pl_X7_34 : sput RX7 false 34 (i_putI 7 0) := s_putI (T := TX7) (j := 0) kX7 (by decide) rfl (Or.inr rfl) (ch_1_3_ok.2.2.2.2.2.2.2.1.1 rfl)
theorem pl_X8_12 : sput RX8 true 12 (i_putR 8 0) := s_putR (T := TX8) (j := 0) kX8 (by decide) (Or.inl ⟨_, rfl⟩) (Or.inl rfl) (ch_1_13_ok.2.2.2.2.2.2.2.2.2.2.2.2.2.2.1.1 rfl)
theorem pl_X8_21 : sput RX8 true 21 (i_putR 8 1) := s_putR (T := TX8) (j := 1) kX8 (by decide) (Or.inl ⟨_, rfl⟩) (Or.inl rfl) (ch_1_14_ok.2.2.1.1 rfl)
theorem pl_X8_28 : sput RX8 true 28 (i_putR 8 2) := s_putR (T := TX8) (j := 2) kX8 (by decide) (Or.inl ⟨_, rfl⟩) (Or.inl rfl) (ch_1_14_ok.2.2.2.2.2.2.1.1 rfl)
theorem pl_X8_32 : sput RX8 false 32 (i_putR 8 3) := s_putR (T := TX8) (j := 3) kX8 (by decide) (Or.inl ⟨_, rfl⟩) (Or.inr rfl) (ch_1_14_ok.2.2.2.2.2.2.2.2.2.1.1 rfl)
theorem fl_X8_12 : sforC RX8 (.getfield 12) 3 (i_getR 8 0) := s_getR kX8 (by decide) (fun _ _ => rfl) (ch_1_13_ok.2.2.2.2.2.2.2.2.2.2.2.2.2.2.1.1 rfl)
theorem fl_X8_21 : sforC RX8 (.getfield 21) 3 (i_getR 8 1) := s_getR kX8 (by decide) (fun _ _ => rfl) (ch_1_14_ok.2.2.1.1 rfl)
theorem fl_X8_28 : sforC RX8 (.getfield 28) 3 (i_getR 8 2) := s_getR kX8 (by decide) (fun _ _ => rfl) (ch_1_14_ok.2.2.2.2.2.2.1.1 rfl)
theorem fl_X8_32 : sforC RX8 (.getfield 32) 3 (i_getR 8 3) := s_getR kX8 (by decide) (fun _ _ => rfl) (ch_1_14_ok.2.2.2.2.2.2.2.2.2.1.1 rfl)
theorem fl_X8_46 : sforC RX8 (.getfield 46) 3 (i_getN 8 4) := s_getN kX8 (by decide) (fun _ _ => rfl) (ch_1_14_ok.2.2.2.2.2.2.2.2.2.2.2.2.1.1 rfl)
theorem pl_X8_46 : sput RX8 false 46 (i_putR 8 4) := s_putR (T := TX8) (j := 4) kX8 (by decide) (Or.inl ⟨_, rfl⟩) (Or.inr rfl) (ch_1_14_ok.2.2.2.2.2.2.2.2.2.2.2.2.1.1 rfl)
theorem fl_X8_50 : sforC RX8 (.getfield 50) 3 (i_getI 1 1) := s_getI kX1 (by decide) (fun _ _ => rfl) (ch_3_10_ok.2.2.2.2.2.2.2.2.2.2.1.1 rfl)
theorem fl_X8_56 : sforC RX8 (.getfield 56) 3 (i_getN 1 0) := s_getN kX1 (by decide) (fun _ _ => rfl) (ch_3_10_ok.2.2.2.2.2.2.2.2.1.1 rfl)
theorem fl_X8_59 : sforC RX8 (.getfield 59) 3 (i_getI 7 0) := s_getI kX7 (by decide) (fun _ _ => rfl) (ch_1_3_ok.2.2.2.2.2.2.2.2.2.1.1 rfl)
theorem fl_X8_68 : sforC RX8 (.getfield 68) 3 (i_getR 7 6) := s_getR kX7 (by decide) (fun _ _ => rfl) (ch_1_4_ok.1.1 rfl)
theorem fl_X8_75 : sforC RX8 (.getfield 75) 3 (i_getR 7 7) := s_getR kX7 (by decide) (fun _ _ => rfl) (ch_1_4_ok.2.2.1.1 rfl)
theorem fl_X8_78 : sforC RX8 (.getfield 78) 3 (i_getR 3 2) := s_getR kX3 (by decide) (fun _ _ => rfl) (ch_1_8_ok.2.2.2.2.2.2.1.1 rfl)
theorem fl_X8_81 : sforC RX8 (.getfield 81) 3 (i_getR 3 3) := s_getR kX3 (by decide) (fun _ _ => rfl) (ch_1_8_ok.2.2.2.2.2.2.2.2.2.1.1 rfl)
theorem fl_X8_84 : sforC RX8 (.getfield 84) 3 (i_getR 3 4) := s_getR kX3 (by decide) (fun _ _ => rfl) (ch_1_8_ok.2.2.2.2.2.2.2.2.2.2.2.2.2.2.1.1 rfl)
theorem fl_X8_87 : sforC RX8 (.getfield 87) 3 (i_getR 3 5) := s_getR kX3 (by decide) (fun _ _ => rfl) (ch_1_9_ok.2.1.1 rfl)
theorem fl_X8_90 : sforC RX8 (.getfield 90) 3 (i_getR 3 6) := s_getR kX3 (by decide) (fun _ _ => rfl) (ch_1_9_ok.2.2.2.2.2.2.1.1 rfl)
theorem fl_X8_97 : sforC RX8 (.getfield 97) 3 (i_getI 3 11) := s_getI kX3 (by decide) (fun _ _ => rfl) (ch_1_10_ok.2.2.2.2.2.2.1.1 rfl)
theorem fl_X8_104 : sforC RX8 (.getfield 104) 3 (i_getI 3 10) := s_getI kX3 (by decide) (fun _ _ => rfl) (ch_1_10_ok.2.2.1.1 rfl)
theorem fl_X8_107 : sforC RX8 (.getfield 107) 3 (i_getI 1 4) := s_getI kX1 (by decide) (fun _ _ => rfl) (ch_3_11_ok.2.2.1.1 rfl)
theorem pl_X9_9 : sput RX9 true 9 (i_putR 9 0) := s_putR (T := TX9) (j := 0) kX9 (by decide) (Or.inr ⟨_, rfl⟩) (Or.inl rfl) (ch_1_2_ok.2.2.2.2.1.1 rfl)
theorem fl_X9_15 : sforC RX9 (.getfield 15) 3 (i_getI 9 1) := s_getI kX9 (by decide) (fun _ _ => rfl) (ch_1_2_ok.2.2.2.2.2.2.2.2.1.1 rfl)
theorem fl_X9_9 : sforC RX9 (.getfield 9) 3 (i_getR 9 0) := s_getR kX9 (by decide) (fun _ _ => rfl) (ch_1_2_ok.2.2.2.2.1.1 rfl)
theorem pl_X9_15 : sput RX9 false 15 (i_putI 9 1) := s_putI (T := TX9) (j := 1) kX9 (by decide) rfl (Or.inr rfl) (ch_1_2_ok.2.2.2.2.2.2.2.2.1.1 rfl)
theorem pl_X10_9 : sput RX10 true 9 (i_putR 10 0) := s_putR (T := TX10) (j := 0) kX10 (by decide) (Or.inl ⟨_, rfl⟩) (Or.inl rfl) (ch_2_7_ok.2.2.1.1 rfl)
theorem fl_X10_15 : sforC RX10 (.getfield 15) 3 (i_getI 9 1) := s_getI kX9 (by decide) (fun _ _ => rfl) (ch_1_2_ok.2.2.2.2.2.2.1.1 rfl)
theorem pl_X10_21 : sput RX10 true 21 (i_putR 10 2) := s_putR (T := TX10) (j := 2) kX10 (by decide) (Or.inr ⟨_, rfl⟩) (Or.inl rfl) (ch_2_7_ok.2.2.2.2.1.1 rfl)
theorem pl_X10_25 : sput RX10 true 25 (i_putR 10 3) := s_putR (T := TX10) (j := 3) kX10 (by decide) (Or.inr ⟨_, rfl⟩) (Or.inl rfl) (ch_2_7_ok.2.2.2.2.2.2.1.1 rfl)
theorem pl_X10_28 : sput RX10 true 28 (i_putR 10 4) := s_putR (T := TX10) (j := 4) kX10 (by decide) (Or.inr ⟨_, rfl⟩) (Or.inl rfl) (ch_2_7_ok.2.2.2.2.2.2.2.2.1.1 rfl)
theorem fl_X10_21 : sforC RX10 (.getfield 21) 3 (i_getR 10 2) := s_getR kX10 (by decide) (fun _ _ => rfl) (ch_2_7_ok.2.2.2.2.1.1 rfl)
theorem fl_X10_25 : sforC RX10 (.getfield 25) 3 (i_getR 10 3) := s_getR kX10 (by decide) (fun _ _ => rfl) (ch_2_7_ok.2.2.2.2.2.2.1.1 rfl)
theorem fl_X10_34 : sforC RX10 (.getfield 34) 3 (i_getI 10 1) := s_getI kX10 (by decide) (fun _ _ => rfl) (ch_2_7_ok.2.2.2.1.1 rfl)
theorem pl_X10_41 : sput RX10 false 41 (i_putI 10 5) := s_putI (T := TX10) (j := 5) kX10 (by decide) rfl (Or.inr rfl) (ch_2_7_ok.2.2.2.2.2.2.2.2.2.2.1.1 rfl)
theorem fl_X10_9 : sforC RX10 (.getfield 9) 3 (i_getR 10 0) := s_getR kX10 (by decide) (fun _ _ => rfl) (ch_2_7_ok.2.2.1.1 rfl)
theorem fl_X10_44 : sforC RX10 (.getfield 44) 3 (i_getR 9 0) := s_getR kX9 (by decide) (fun _ _ => rfl) (ch_1_2_ok.2.2.2.2.2.1.1 rfl)
theorem pl_X10_34 : sput RX10 false 34 (i_putI 10 1) := s_putI (T := TX10) (j := 1) kX10 (by decide) rfl (Or.inr rfl) (ch_2_7_ok.2.2.2.1.1 rfl)
theorem fl_X10_28 : sforC RX10 (.getfield 28) 3 (i_getR 10 4) := s_getR kX10 (by decide) (fun _ _ => rfl) (ch_2_7_ok.2.2.2.2.2.2.2.2.1.1 rfl)
theorem pl_X11_10 : sput RX11 true 10 (i_putR 11 0) := s_putR (T := TX11) (j := 0) kX11 (by decide) (Or.inl ⟨_, rfl⟩) (Or.inl rfl) (ch_2_4_ok.2.2.2.2.2.2.2.2.2.1.1 rfl)
theorem pl_X11_24 : sput RX11 true 24 (i_putR 11 1) := s_putR (T := TX11) (j := 1) kX11 (by decide) (Or.inl ⟨_, rfl⟩) (Or.inl rfl) (ch_2_4_ok.2.2.2.2.2.2.2.2.2.2.1.1 rfl)
theorem pl_X11_28 : sput RX11 true 28 (i_putR 11 2) := s_putR (T := TX11) (j := 2) kX11 (by decide) (Or.inr ⟨_, rfl⟩) (Or.inl rfl) (ch_2_4_ok.2.2.2.2.2.2.2.2.2.2.2.1.1 rfl)
theorem fl_X11_24 : sforC RX11 (.getfield 24) 3 (i_getR 11 1) := s_getR kX11 (by decide) (fun _ _ => rfl) (ch_2_4_ok.2.2.2.2.2.2.2.2.2.2.1.1 rfl)
theorem pl_X11_37 : sput RX11 true 37 (i_putR 11 3) := s_putR (T := TX11) (j := 3) kX11 (by decide) (Or.inl ⟨_, rfl⟩) (Or.inl rfl) (ch_2_4_ok.2.2.2.2.2.2.2.2.2.2.2.2.1.1 rfl)
theorem pl_X11_41 : sput RX11 false 41 (i_putI 11 4) := s_putI (T := TX11) (j := 4) kX11 (by decide) rfl (Or.inr rfl) (ch_2_4_ok.2.2.2.2.2.2.2.2.2.2.2.2.2.1.1 rfl)
theorem pl_X11_45 : sput RX11 false 45 (i_putI 11 5) := s_putI (T := TX11) (j := 5) kX11 (by decide) rfl (Or.inr rfl) (ch_2_4_ok.2.2.2.2.2.2.2.2.2.2.2.2.2.2.1.1 rfl)
theorem fl_X11_10 : sforC RX11 (.getfield 10) 3 (i_getR 11 0) := s_getR kX11 (by decide) (fun _ _ => rfl) (ch_2_4_ok.2.2.2.2.2.2.2.2.2.1.1 rfl)
theorem fl_X11_48 : sforC RX11 (.getfield 48) 3 (i_getI 9 1) := s_getI kX9 (by decide) (fun _ _ => rfl) (ch_1_2_ok.2.2.2.2.2.2.2.1.1 rfl)
theorem pl_X11_48 : sput RX11 false 48 (i_putI 9 1) := s_putI (T := TX9) (j := 1) kX9 (by decide) rfl (Or.inr rfl) (ch_1_2_ok.2.2.2.2.2.2.2.1.1 rfl)
theorem fl_X11_71 : sforC RX11 (.getfield 71) 3 (i_getI 2 4) := s_getI kX2 (by decide) (fun _ _ => rfl) (ch_3_1_ok.2.2.2.2.1.1 rfl)
theorem fl_X11_74 : sforC RX11 (.getfield 74) 3 (i_getI 2 5) := s_getI kX2 (by decide) (fun _ _ => rfl) (ch_3_1_ok.2.2.2.2.2.2.1.1 rfl)
theorem fl_X11_41 : sforC RX11 (.getfield 41) 3 (i_getI 11 4) := s_getI kX11 (by decide) (fun _ _ => rfl) (ch_2_4_ok.2.2.2.2.2.2.2.2.2.2.2.2.2.1.1 rfl)
theorem fl_X11_77 : sforC RX11 (.getfield 77) 3 (i_getR 2 3) := s_getR kX2 (by decide) (fun _ _ => rfl) (ch_3_1_ok.2.2.1.1 rfl)
theorem pl_X11_81 : sput RX11 false 81 (i_putR 8 3) := s_putR (T := TX8) (j := 3) kX8 (by decide) (Or.inl ⟨_, rfl⟩) (Or.inr rfl) (ch_1_14_ok.2.2.2.2.2.2.2.2.2.2.1.1 rfl)
theorem fl_X11_81 : sforC RX11 (.getfield 81) 3 (i_getR 8 3) := s_getR kX8 (by decide) (fun _ _ => rfl) (ch_1_14_ok.2.2.2.2.2.2.2.2.2.2.1.1 rfl)
theorem fl_X11_82 : sforC RX11 (.getfield 82) 3 (i_getI 7 0) := s_getI kX7 (by decide) (fun _ _ => rfl) (ch_1_3_ok.2.2.2.2.2.2.2.2.1.1 rfl)
theorem fl_X11_45 : sforC RX11 (.getfield 45) 3 (i_getI 11 5) := s_getI kX11 (by decide) (fun _ _ => rfl) (ch_2_4_ok.2.2.2.2.2.2.2.2.2.2.2.2.2.2.1.1 rfl)
theorem fl_X11_89 : sforC RX11 (.getfield 89) 3 (i_getR 8 0) := s_getR kX8 (by decide) (fun _ _ => rfl) (ch_1_14_ok.2.1.1 rfl)
theorem fl_X11_99 : sforC RX11 (.getfield 99) 3 (i_getR 8 1) := s_getR kX8 (by decide) (fun _ _ => rfl) (ch_1_14_ok.2.2.2.2.2.1.1 rfl)
theorem fl_X11_112 : sforC RX11 (.getfield 112) 3 (i_getR 3 4) := s_getR kX3 (by decide) (fun _ _ => rfl) (ch_1_8_ok.2.2.2.2.2.2.2.2.2.2.2.2.2.2.2.1.1 rfl)
theorem fl_X11_116 : sforC RX11 (.getfield 116) 3 (i_getI 3 12) := s_getI kX3 (by decide) (fun _ _ => rfl) (ch_1_10_ok.2.2.2.2.2.2.2.2.2.2.1.1 rfl)
theorem pl_X11_116 : sput RX11 false 116 (i_putI 3 12) := s_putI (T := TX3) (j := 12) kX3 (by decide) rfl (Or.inr rfl) (ch_1_10_ok.2.2.2.2.2.2.2.2.2.2.1.1 rfl)
theorem fl_X11_130 : sforC RX11 (.getfield 130) 3 (i_getR 8 2) := s_getR kX8 (by decide) (fun _ _ => rfl) (ch_1_14_ok.2.2.2.2.2.2.2.2.1.1 rfl)
theorem fl_X11_139 : sforC RX11 (.getfield 139) 3 (i_getI 3 0) := s_getI kX3 (by decide) (fun _ _ => rfl) (ch_1_8_ok.2.2.1.1 rfl)
theorem fl_X11_37 : sforC RX11 (.getfield 37) 3 (i_getR 11 3) := s_getR kX11 (by decide) (fun _ _ => rfl) (ch_2_4_ok.2.2.2.2.2.2.2.2.2.2.2.2.1.1 rfl)
theorem fl_X11_172 : sforC RX11 (.getfield 172) 3 (i_getI 1 4) := s_getI kX1 (by decide) (fun _ _ => rfl) (ch_3_11_ok.2.2.2.1.1 rfl)
theorem fl_X11_180 : sforC RX11 (.getfield 180) 3 (i_getN 8 4) := s_getN kX8 (by decide) (fun _ _ => rfl) (ch_1_14_ok.2.2.2.2.2.2.2.2.2.2.2.2.2.2.1.1 rfl)
theorem fl_X11_187 : sforC RX11 (.getfield 187) 3 (i_getR 1 10) := s_getR kX1 (by decide) (fun _ _ => rfl) (ch_3_11_ok.2.2.2.2.2.2.2.2.2.2.2.2.2.2.2.1.1 rfl)
theorem fl_X11_194 : sforC RX11 (.getfield 194) 3 (i_getI 1 5) := s_getI kX1 (by decide) (fun _ _ => rfl) (ch_3_11_ok.2.2.2.2.2.1.1 rfl)
theorem fl_X11_197 : sforC RX11 (.getfield 197) 3 (i_getR 3 2) := s_getR kX3 (by decide) (fun _ _ => rfl) (ch_1_8_ok.2.2.2.2.2.2.2.1.1 rfl)
theorem fl_X11_200 : sforC RX11 (.getfield 200) 3 (i_getR 3 3) := s_getR kX3 (by decide) (fun _ _ => rfl) (ch_1_8_ok.2.2.2.2.2.2.2.2.2.2.2.1.1 rfl)
theorem fl_X11_203 : sforC RX11 (.getfield 203) 3 (i_getR 3 5) := s_getR kX3 (by decide) (fun _ _ => rfl) (ch_1_9_ok.2.2.2.1.1 rfl)
theorem fl_X11_206 : sforC RX11 (.getfield 206) 3 (i_getR 3 6) := s_getR kX3 (by decide) (fun _ _ => rfl) (ch_1_9_ok.2.2.2.2.2.2.2.1.1 rfl)
theorem fl_X11_209 : sforC RX11 (.getfield 209) 3 (i_getR 3 7) := s_getR kX3 (by decide) (fun _ _ => rfl) (ch_1_9_ok.2.2.2.2.2.2.2.2.2.2.1.1 rfl)
theorem fl_X11_215 : sforC RX11 (.getfield 215) 3 (i_getI 3 10) := s_getI kX3 (by decide) (fun _ _ => rfl) (ch_1_10_ok.2.2.2.1.1 rfl)
theorem fl_X11_218 : sforC RX11 (.getfield 218) 3 (i_getI 3 11) := s_getI kX3 (by decide) (fun _ _ => rfl) (ch_1_10_ok.2.2.2.2.2.2.2.1.1 rfl)
theorem fl_X11_221 : sforC RX11 (.getfield 221) 3 (i_getR 3 8) := s_getR kX3 (by decide) (fun _ _ => rfl) (ch_1_9_ok.2.2.2.2.2.2.2.2.2.2.2.2.2.1.1 rfl)
theorem fl_X11_224 : sforC RX11 (.getfield 224) 3 (i_getR 3 9) := s_getR kX3 (by decide) (fun _ _ => rfl) (ch_1_9_ok.2.2.2.2.2.2.2.2.2.2.2.2.2.2.2.1.1 rfl)
theorem fl_X11_227 : sforC RX11 (.getfield 227) 3 (i_getR 0 3) := s_getR kX0 (by decide) (fun _ _ => rfl) (ch_1_13_ok.2.1.1 rfl)
theorem fl_X11_235 : sforC RX11 (.getfield 235) 3 (i_getI 1 2) := s_getI kX1 (by decide) (fun _ _ => rfl) (ch_3_10_ok.2.2.2.2.2.2.2.2.2.2.2.2.2.1.1 rfl)
theorem fl_X11_238 : sforC RX11 (.getfield 238) 3 (i_getI 1 6) := s_getI kX1 (by decide) (fun _ _ => rfl) (ch_3_11_ok.2.2.2.2.2.2.2.1.1 rfl)
theorem fl_X11_241 : sforC RX11 (.getfield 241) 3 (i_getI 1 3) := s_getI kX1 (by decide) (fun _ _ => rfl) (ch_3_11_ok.1.1 rfl)
theorem fl_X11_245 : sforC RX11 (.getfield 245) 3 (i_getR 1 11) := s_getR kX1 (by decide) (fun _ _ => rfl) (ch_3_12_ok.2.2.1.1 rfl)
theorem fl_X11_248 : sforC RX11 (.getfield 248) 3 (i_getI 6 0) := s_getI kX6 (by decide) (fun _ _ => rfl) (ch_1_6_ok.2.2.2.1.1 rfl)
theorem fl_X11_249 : sforC RX11 (.getfield 249) 3 (i_getI 3 1) := s_getI kX3 (by decide) (fun _ _ => rfl) (ch_1_8_ok.2.2.2.2.1.1 rfl)
theorem fl_X11_252 : sforC RX11 (.getfield 252) 3 (i_getI 0 0) := s_getI kX0 (by decide) (fun _ _ => rfl) (ch_1_12_ok.2.2.2.2.2.2.2.2.2.2.2.2.2.1.1 rfl)
theorem fl_X11_28 : sforC RX11 (.getfield 28) 3 (i_getR 11 2) := s_getR kX11 (by decide) (fun _ _ => rfl) (ch_2_4_ok.2.2.2.2.2.2.2.2.2.2.2.1.1 rfl)
theorem pl_X12_7 : sput RX12 true 7 (i_putR 12 1) := s_putR (T := TX12) (j := 1) kX12 (by decide) (Or.inr ⟨_, rfl⟩) (Or.inl rfl) (ch_5_1_ok.2.2.2.2.2.2.2.2.2.2.2.1.1 rfl)
theorem pl_X12_13 : sput RX12 true 13 (i_putR 12 3) := s_putR (T := TX12) (j := 3) kX12 (by decide) (Or.inr ⟨_, rfl⟩) (Or.inl rfl) (ch_5_1_ok.2.2.2.2.2.2.2.2.2.2.2.2.2.1.1 rfl)
theorem pl_X12_17 : sput RX12 true 17 (i_putR 12 4) := s_putR (T := TX12) (j := 4) kX12 (by decide) (Or.inr ⟨_, rfl⟩) (Or.inl rfl) (ch_5_1_ok.2.2.2.2.2.2.2.2.2.2.2.2.2.2.1.1 rfl)
theorem pl_X12_20 : sput RX12 true 20 (i_putR 12 5) := s_putR (T := TX12) (j := 5) kX12 (by decide) (Or.inr ⟨_, rfl⟩) (Or.inl rfl) (ch_5_1_ok.2.2.2.2.2.2.2.2.2.2.2.2.2.2.2.1.1 rfl)
theorem pl_X12_23 : sput RX12 true 23 (i_putR 12 6) := s_putR (T := TX12) (j := 6) kX12 (by decide) (Or.inr ⟨_, rfl⟩) (Or.inl rfl) (ch_5_2_ok.1.1 rfl)
theorem pl_X12_26 : sput RX12 true 26 (i_putR 12 7) := s_putR (T := TX12) (j := 7) kX12 (by decide) (Or.inr ⟨_, rfl⟩) (Or.inl rfl) (ch_5_2_ok.2.1.1 rfl)
theorem pl_X12_29 : sput RX12 true 29 (i_putR 12 8) := s_putR (T := TX12) (j := 8) kX12 (by decide) (Or.inr ⟨_, rfl⟩) (Or.inl rfl) (ch_5_2_ok.2.2.1.1 rfl)
theorem pl_X12_32 : sput RX12 true 32 (i_putR 12 9) := s_putR (T := TX12) (j := 9) kX12 (by decide) (Or.inr ⟨_, rfl⟩) (Or.inl rfl) (ch_5_2_ok.2.2.2.1.1 rfl)
theorem pl_X12_35 : sput RX12 true 35 (i_putR 12 10) := s_putR (T := TX12) (j := 10) kX12 (by decide) (Or.inr ⟨_, rfl⟩) (Or.inl rfl) (ch_5_2_ok.2.2.2.2.1.1 rfl)
theorem pl_X12_38 : sput RX12 true 38 (i_putR 12 11) := s_putR (T := TX12) (j := 11) kX12 (by decide) (Or.inr ⟨_, rfl⟩) (Or.inl rfl) (ch_5_2_ok.2.2.2.2.2.1.1 rfl)
theorem pl_X12_41 : sput RX12 true 41 (i_putR 12 12) := s_putR (T := TX12) (j := 12) kX12 (by decide) (Or.inr ⟨_, rfl⟩) (Or.inl rfl) (ch_5_2_ok.2.2.2.2.2.2.1.1 rfl)
theorem pl_X12_44 : sput RX12 true 44 (i_putR 12 13) := s_putR (T := TX12) (j := 13) kX12 (by decide) (Or.inr ⟨_, rfl⟩) (Or.inl rfl) (ch_5_2_ok.2.2.2.2.2.2.2.1.1 rfl)
theorem pl_X12_47 : sput RX12 true 47 (i_putR 12 14) := s_putR (T := TX12) (j := 14) kX12 (by decide) (Or.inr ⟨_, rfl⟩) (Or.inl rfl) (ch_5_2_ok.2.2.2.2.2.2.2.2.1.1 rfl)
theorem pl_X12_50 : sput RX12 true 50 (i_putR 12 15) := s_putR (T := TX12) (j := 15) kX12 (by decide) (Or.inr ⟨_, rfl⟩) (Or.inl rfl) (ch_5_2_ok.2.2.2.2.2.2.2.2.2.1.1 rfl)
theorem pl_X12_53 : sput RX12 true 53 (i_putR 12 16) := s_putR (T := TX12) (j := 16) kX12 (by decide) (Or.inr ⟨_, rfl⟩) (Or.inl rfl) (ch_5_2_ok.2.2.2.2.2.2.2.2.2.2.1.1 rfl)
theorem pl_X12_56 : sput RX12 true 56 (i_putR 12 17) := s_putR (T := TX12) (j := 17) kX12 (by decide) (Or.inr ⟨_, rfl⟩) (Or.inl rfl) (ch_5_2_ok.2.2.2.2.2.2.2.2.2.2.2.1.1 rfl)
theorem pl_X12_59 : sput RX12 true 59 (i_putR 12 18) := s_putR (T := TX12) (j := 18) kX12 (by decide) (Or.inr ⟨_, rfl⟩) (Or.inl rfl) (ch_5_2_ok.2.2.2.2.2.2.2.2.2.2.2.2.1.1 rfl)
theorem pl_X12_62 : sput RX12 true 62 (i_putR 12 19) := s_putR (T := TX12) (j := 19) kX12 (by decide) (Or.inr ⟨_, rfl⟩) (Or.inl rfl) (ch_5_2_ok.2.2.2.2.2.2.2.2.2.2.2.2.2.1.1 rfl)
theorem pl_X12_65 : sput RX12 true 65 (i_putR 12 20) := s_putR (T := TX12) (j := 20) kX12 (by decide) (Or.inr ⟨_, rfl⟩) (Or.inl rfl) (ch_5_2_ok.2.2.2.2.2.2.2.2.2.2.2.2.2.2.1.1 rfl)
theorem pl_X12_68 : sput RX12 true 68 (i_putR 12 21) := s_putR (T := TX12) (j := 21) kX12 (by decide) (Or.inr ⟨_, rfl⟩) (Or.inl rfl) (ch_5_2_ok.2.2.2.2.2.2.2.2.2.2.2.2.2.2.2.1.1 rfl)
theorem pl_X12_71 : sput RX12 true 71 (i_putR 12 22) := s_putR (T := TX12) (j := 22) kX12 (by decide) (Or.inr ⟨_, rfl⟩) (Or.inl rfl) (ch_5_3_ok.1.1 rfl)
theorem pl_X12_74 : sput RX12 true 74 (i_putR 12 23) := s_putR (T := TX12) (j := 23) kX12 (by decide) (Or.inr ⟨_, rfl⟩) (Or.inl rfl) (ch_5_3_ok.2.1.1 rfl)
theorem pl_X12_77 : sput RX12 true 77 (i_putR 12 24) := s_putR (T := TX12) (j := 24) kX12 (by decide) (Or.inr ⟨_, rfl⟩) (Or.inl rfl) (ch_5_3_ok.2.2.1.1 rfl)
theorem pl_X12_80 : sput RX12 true 80 (i_putR 12 25) := s_putR (T := TX12) (j := 25) kX12 (by decide) (Or.inr ⟨_, rfl⟩) (Or.inl rfl) (ch_5_3_ok.2.2.2.1.1 rfl)
theorem pl_X12_83 : sput RX12 true 83 (i_putR 12 26) := s_putR (T := TX12) (j := 26) kX12 (by decide) (Or.inr ⟨_, rfl⟩) (Or.inl rfl) (ch_5_3_ok.2.2.2.2.1.1 rfl)
theorem pl_X12_86 : sput RX12 true 86 (i_putR 12 27) := s_putR (T := TX12) (j := 27) kX12 (by decide) (Or.inr ⟨_, rfl⟩) (Or.inl rfl) (ch_5_3_ok.2.2.2.2.2.1.1 rfl)
theorem pl_X12_89 : sput RX12 true 89 (i_putR 12 28) := s_putR (T := TX12) (j := 28) kX12 (by decide) (Or.inr ⟨_, rfl⟩) (Or.inl rfl) (ch_5_3_ok.2.2.2.2.2.2.1.1 rfl)
theorem pl_X12_92 : sput RX12 true 92 (i_putR 12 29) := s_putR (T := TX12) (j := 29) kX12 (by decide) (Or.inr ⟨_, rfl⟩) (Or.inl rfl) (ch_5_3_ok.2.2.2.2.2.2.2.1.1 rfl)
theorem pl_X12_95 : sput RX12 true 95 (i_putR 12 30) := s_putR (T := TX12) (j := 30) kX12 (by decide) (Or.inr ⟨_, rfl⟩) (Or.inl rfl) (ch_5_3_ok.2.2.2.2.2.2.2.2.1.1 rfl)
theorem pl_X12_98 : sput RX12 true 98 (i_putR 12 31) := s_putR (T := TX12) (j := 31) kX12 (by decide) (Or.inr ⟨_, rfl⟩) (Or.inl rfl) (ch_5_3_ok.2.2.2.2.2.2.2.2.2.1.1 rfl)
theorem pl_X12_101 : sput RX12 true 101 (i_putR 12 32) := s_putR (T := TX12) (j := 32) kX12 (by decide) (Or.inr ⟨_, rfl⟩) (Or.inl rfl) (ch_5_3_ok.2.2.2.2.2.2.2.2.2.2.1.1 rfl)
theorem pl_X12_104 : sput RX12 true 104 (i_putR 12 33) := s_putR (T := TX12) (j := 33) kX12 (by decide) (Or.inr ⟨_, rfl⟩) (Or.inl rfl) (ch_5_3_ok.2.2.2.2.2.2.2.2.2.2.2.1.1 rfl)
theorem pl_X12_107 : sput RX12 true 107 (i_putR 12 34) := s_putR (T := TX12) (j := 34) kX12 (by decide) (Or.inr ⟨_, rfl⟩) (Or.inl rfl) (ch_5_3_ok.2.2.2.2.2.2.2.2.2.2.2.2.1.1 rfl)
theorem pl_X12_110 : sput RX12 true 110 (i_putR 12 35) := s_putR (T := TX12) (j := 35) kX12 (by decide) (Or.inr ⟨_, rfl⟩) (Or.inl rfl) (ch_5_3_ok.2.2.2.2.2.2.2.2.2.2.2.2.2.1.1 rfl)
theorem pl_X12_113 : sput RX12 true 113 (i_putR 12 36) := s_putR (T := TX12) (j := 36) kX12 (by decide) (Or.inr ⟨_, rfl⟩) (Or.inl rfl) (ch_5_3_ok.2.2.2.2.2.2.2.2.2.2.2.2.2.2.1.1 rfl)
theorem pl_X12_116 : sput RX12 false 116 (i_putI 12 44) := s_putI (T := TX12) (j := 44) kX12 (by decide) rfl (Or.inr rfl) (ch_5_4_ok.2.2.2.2.2.2.1.1 rfl)
theorem pl_X12_120 : sput RX12 true 120 (i_putR 12 47) := s_putR (T := TX12) (j := 47) kX12 (by decide) (Or.inr ⟨_, rfl⟩) (Or.inl rfl) (ch_5_4_ok.2.2.2.2.2.2.2.2.2.1.1 rfl)
theorem pl_X12_123 : sput RX12 true 123 (i_putR 12 48) := s_putR (T := TX12) (j := 48) kX12 (by decide) (Or.inr ⟨_, rfl⟩) (Or.inl rfl) (ch_5_4_ok.2.2.2.2.2.2.2.2.2.2.1.1 rfl)
theorem pl_X12_126 : sput RX12 true 126 (i_putR 12 49) := s_putR (T := TX12) (j := 49) kX12 (by decide) (Or.inr ⟨_, rfl⟩) (Or.inl rfl) (ch_5_4_ok.2.2.2.2.2.2.2.2.2.2.2.1.1 rfl)
theorem pl_X12_129 : sput RX12 true 129 (i_putR 12 50) := s_putR (T := TX12) (j := 50) kX12 (by decide) (Or.inr ⟨_, rfl⟩) (Or.inl rfl) (ch_5_4_ok.2.2.2.2.2.2.2.2.2.2.2.2.1.1 rfl)
theorem pl_X12_132 : sput RX12 true 132 (i_putR 12 51) := s_putR (T := TX12) (j := 51) kX12 (by decide) (Or.inr ⟨_, rfl⟩) (Or.inl rfl) (ch_5_4_ok.2.2.2.2.2.2.2.2.2.2.2.2.2.1.1 rfl)
theorem pl_X12_135 : sput RX12 true 135 (i_putR 12 52) := s_putR (T := TX12) (j := 52) kX12 (by decide) (Or.inr ⟨_, rfl⟩) (Or.inl rfl) (ch_5_4_ok.2.2.2.2.2.2.2.2.2.2.2.2.2.2.1.1 rfl)
theorem pl_X12_138 : sput RX12 true 138 (i_putR 12 54) := s_putR (T := TX12) (j := 54) kX12 (by decide) (Or.inr ⟨_, rfl⟩) (Or.inl rfl) (ch_5_5_ok.1.1 rfl)
theorem pl_X12_141 : sput RX12 true 141 (i_putR 12 55) := s_putR (T := TX12) (j := 55) kX12 (by decide) (Or.inr ⟨_, rfl⟩) (Or.inl rfl) (ch_5_5_ok.2.1.1 rfl)
theorem pl_X12_144 : sput RX12 true 144 (i_putR 12 57) := s_putR (T := TX12) (j := 57) kX12 (by decide) (Or.inr ⟨_, rfl⟩) (Or.inl rfl) (ch_5_5_ok.2.2.2.1.1 rfl)
theorem pl_X12_147 : sput RX12 true 147 (i_putR 12 58) := s_putR (T := TX12) (j := 58) kX12 (by decide) (Or.inr ⟨_, rfl⟩) (Or.inl rfl) (ch_5_5_ok.2.2.2.2.1.1 rfl)
theorem fl_X12_56 : sforC RX12 (.getfield 56) 3 (i_getR 12 17) := s_getR kX12 (by decide) (fun _ _ => rfl) (ch_5_2_ok.2.2.2.2.2.2.2.2.2.2.2.1.1 rfl)
theorem fl_X12_13 : sforC RX12 (.getfield 13) 3 (i_getR 12 3) := s_getR kX12 (by decide) (fun _ _ => rfl) (ch_5_1_ok.2.2.2.2.2.2.2.2.2.2.2.2.2.1.1 rfl)
theorem fl_X12_17 : sforC RX12 (.getfield 17) 3 (i_getR 12 4) := s_getR kX12 (by decide) (fun _ _ => rfl) (ch_5_1_ok.2.2.2.2.2.2.2.2.2.2.2.2.2.2.1.1 rfl)
theorem fl_X12_20 : sforC RX12 (.getfield 20) 3 (i_getR 12 5) := s_getR kX12 (by decide) (fun _ _ => rfl) (ch_5_1_ok.2.2.2.2.2.2.2.2.2.2.2.2.2.2.2.1.1 rfl)
theorem fl_X12_23 : sforC RX12 (.getfield 23) 3 (i_getR 12 6) := s_getR kX12 (by decide) (fun _ _ => rfl) (ch_5_2_ok.1.1 rfl)
theorem fl_X12_26 : sforC RX12 (.getfield 26) 3 (i_getR 12 7) := s_getR kX12 (by decide) (fun _ _ => rfl) (ch_5_2_ok.2.1.1 rfl)
theorem fl_X12_29 : sforC RX12 (.getfield 29) 3 (i_getR 12 8) := s_getR kX12 (by decide) (fun _ _ => rfl) (ch_5_2_ok.2.2.1.1 rfl)
theorem fl_X12_32 : sforC RX12 (.getfield 32) 3 (i_getR 12 9) := s_getR kX12 (by decide) (fun _ _ => rfl) (ch_5_2_ok.2.2.2.1.1 rfl)
theorem fl_X12_35 : sforC RX12 (.getfield 35) 3 (i_getR 12 10) := s_getR kX12 (by decide) (fun _ _ => rfl) (ch_5_2_ok.2.2.2.2.1.1 rfl)
theorem fl_X12_38 : sforC RX12 (.getfield 38) 3 (i_getR 12 11) := s_getR kX12 (by decide) (fun _ _ => rfl) (ch_5_2_ok.2.2.2.2.2.1.1 rfl)
theorem fl_X12_41 : sforC RX12 (.getfield 41) 3 (i_getR 12 12) := s_getR kX12 (by decide) (fun _ _ => rfl) (ch_5_2_ok.2.2.2.2.2.2.1.1 rfl)
theorem fl_X12_44 : sforC RX12 (.getfield 44) 3 (i_getR 12 13) := s_getR kX12 (by decide) (fun _ _ => rfl) (ch_5_2_ok.2.2.2.2.2.2.2.1.1 rfl)
theorem fl_X12_47 : sforC RX12 (.getfield 47) 3 (i_getR 12 14) := s_getR kX12 (by decide) (fun _ _ => rfl) (ch_5_2_ok.2.2.2.2.2.2.2.2.1.1 rfl)
theorem fl_X12_50 : sforC RX12 (.getfield 50) 3 (i_getR 12 15) := s_getR kX12 (by decide) (fun _ _ => rfl) (ch_5_2_ok.2.2.2.2.2.2.2.2.2.1.1 rfl)
theorem fl_X12_53 : sforC RX12 (.getfield 53) 3 (i_getR 12 16) := s_getR kX12 (by decide) (fun _ _ => rfl) (ch_5_2_ok.2.2.2.2.2.2.2.2.2.2.1.1 rfl)
theorem fl_X12_59 : sforC RX12 (.getfield 59) 3 (i_getR 12 18) := s_getR kX12 (by decide) (fun _ _ => rfl) (ch_5_2_ok.2.2.2.2.2.2.2.2.2.2.2.2.1.1 rfl)
theorem fl_X12_62 : sforC RX12 (.getfield 62) 3 (i_getR 12 19) := s_getR kX12 (by decide) (fun _ _ => rfl) (ch_5_2_ok.2.2.2.2.2.2.2.2.2.2.2.2.2.1.1 rfl)
theorem fl_X12_65 : sforC RX12 (.getfield 65) 3 (i_getR 12 20) := s_getR kX12 (by decide) (fun _ _ => rfl) (ch_5_2_ok.2.2.2.2.2.2.2.2.2.2.2.2.2.2.1.1 rfl)
theorem fl_X12_68 : sforC RX12 (.getfield 68) 3 (i_getR 12 21) := s_getR kX12 (by decide) (fun _ _ => rfl) (ch_5_2_ok.2.2.2.2.2.2.2.2.2.2.2.2.2.2.2.1.1 rfl)
theorem fl_X12_71 : sforC RX12 (.getfield 71) 3 (i_getR 12 22) := s_getR kX12 (by decide) (fun _ _ => rfl) (ch_5_3_ok.1.1 rfl)
theorem fl_X12_74 : sforC RX12 (.getfield 74) 3 (i_getR 12 23) := s_getR kX12 (by decide) (fun _ _ => rfl) (ch_5_3_ok.2.1.1 rfl)
theorem fl_X12_77 : sforC RX12 (.getfield 77) 3 (i_getR 12 24) := s_getR kX12 (by decide) (fun _ _ => rfl) (ch_5_3_ok.2.2.1.1 rfl)
theorem fl_X12_80 : sforC RX12 (.getfield 80) 3 (i_getR 12 25) := s_getR kX12 (by decide) (fun _ _ => rfl) (ch_5_3_ok.2.2.2.1.1 rfl)
theorem fl_X12_83 : sforC RX12 (.getfield 83) 3 (i_getR 12 26) := s_getR kX12 (by decide) (fun _ _ => rfl) (ch_5_3_ok.2.2.2.2.1.1 rfl)
theorem fl_X12_86 : sforC RX12 (.getfield 86) 3 (i_getR 12 27) := s_getR kX12 (by decide) (fun _ _ => rfl) (ch_5_3_ok.2.2.2.2.2.1.1 rfl)
theorem fl_X12_89 : sforC RX12 (.getfield 89) 3 (i_getR 12 28) := s_getR kX12 (by decide) (fun _ _ => rfl) (ch_5_3_ok.2.2.2.2.2.2.1.1 rfl)
theorem fl_X12_92 : sforC RX12 (.getfield 92) 3 (i_getR 12 29) := s_getR kX12 (by decide) (fun _ _ => rfl) (ch_5_3_ok.2.2.2.2.2.2.2.1.1 rfl)
theorem fl_X12_95 : sforC RX12 (.getfield 95) 3 (i_getR 12 30) := s_getR kX12 (by decide) (fun _ _ => rfl) (ch_5_3_ok.2.2.2.2.2.2.2.2.1.1 rfl)
theorem fl_X12_98 : sforC RX12 (.getfield 98) 3 (i_getR 12 31) := s_getR kX12 (by decide) (fun _ _ => rfl) (ch_5_3_ok.2.2.2.2.2.2.2.2.2.1.1 rfl)
theorem fl_X12_101 : sforC RX12 (.getfield 101) 3 (i_getR 12 32) := s_getR kX12 (by decide) (fun _ _ => rfl) (ch_5_3_ok.2.2.2.2.2.2.2.2.2.2.1.1 rfl)
theorem fl_X12_104 : sforC RX12 (.getfield 104) 3 (i_getR 12 33) := s_getR kX12 (by decide) (fun _ _ => rfl) (ch_5_3_ok.2.2.2.2.2.2.2.2.2.2.2.1.1 rfl)
theorem fl_X12_107 : sforC RX12 (.getfield 107) 3 (i_getR 12 34) := s_getR kX12 (by decide) (fun _ _ => rfl) (ch_5_3_ok.2.2.2.2.2.2.2.2.2.2.2.2.1.1 rfl)
theorem fl_X12_110 : sforC RX12 (.getfield 110) 3 (i_getR 12 35) := s_getR kX12 (by decide) (fun _ _ => rfl) (ch_5_3_ok.2.2.2.2.2.2.2.2.2.2.2.2.2.1.1 rfl)
theorem fl_X12_113 : sforC RX12 (.getfield 113) 3 (i_getR 12 36) := s_getR kX12 (by decide) (fun _ _ => rfl) (ch_5_3_ok.2.2.2.2.2.2.2.2.2.2.2.2.2.2.1.1 rfl)
theorem pl_X12_151 : sput RX12 false 151 (i_putI 12 0) := s_putI (T := TX12) (j := 0) kX12 (by decide) rfl (Or.inr rfl) (ch_5_1_ok.2.2.2.2.2.2.2.2.2.2.1.1 rfl)
theorem fl_X12_158 : sforC RX12 (.getfield 158) 3 (i_getI 12 2) := s_getI kX12 (by decide) (fun _ _ => rfl) (ch_5_1_ok.2.2.2.2.2.2.2.2.2.2.2.2.1.1 rfl)
theorem fl_X12_7 : sforC RX12 (.getfield 7) 3 (i_getR 12 1) := s_getR kX12 (by decide) (fun _ _ => rfl) (ch_5_1_ok.2.2.2.2.2.2.2.2.2.2.2.1.1 rfl)
theorem pl_X12_158 : sput RX12 false 158 (i_putI 12 2) := s_putI (T := TX12) (j := 2) kX12 (by decide) rfl (Or.inr rfl) (ch_5_1_ok.2.2.2.2.2.2.2.2.2.2.2.2.1.1 rfl)
theorem fl_X12_169 : sforC RX12 (.getfield 169) 3 (i_getI 12 37) := s_getI kX12 (by decide) (fun _ _ => rfl) (ch_5_3_ok.2.2.2.2.2.2.2.2.2.2.2.2.2.2.2.1.1 rfl)
theorem fl_X12_172 : sforC RX12 (.getfield 172) 3 (i_getI 12 38) := s_getI kX12 (by decide) (fun _ _ => rfl) (ch_5_4_ok.1.1 rfl)
theorem pl_X12_169 : sput RX12 false 169 (i_putI 12 37) := s_putI (T := TX12) (j := 37) kX12 (by decide) rfl (Or.inr rfl) (ch_5_3_ok.2.2.2.2.2.2.2.2.2.2.2.2.2.2.2.1.1 rfl)
theorem pl_X12_179 : sput RX12 false 179 (i_putI 12 39) := s_putI (T := TX12) (j := 39) kX12 (by decide) rfl (Or.inr rfl) (ch_5_4_ok.2.1.1 rfl)
theorem pl_X12_182 : sput RX12 false 182 (i_putI 12 41) := s_putI (T := TX12) (j := 41) kX12 (by decide) rfl (Or.inr rfl) (ch_5_4_ok.2.2.2.1.1 rfl)
theorem pl_X12_185 : sput RX12 false 185 (i_putJ 12 42) := s_putJ (T := TX12) (j := 42) kX12 (by decide) rfl (Or.inr rfl) (ch_5_4_ok.2.2.2.2.1.1 rfl)
theorem pl_X12_189 : sput RX12 false 189 (i_putI 12 40) := s_putI (T := TX12) (j := 40) kX12 (by decide) rfl (Or.inr rfl) (ch_5_4_ok.2.2.1.1 rfl)
theorem fl_X12_185 : sforC RX12 (.getfield 185) 3 (i_getJ 12 42) := s_getJ kX12 (by decide) (fun _ _ => rfl) (ch_5_4_ok.2.2.2.2.1.1 rfl)
theorem fl_X12_182 : sforC RX12 (.getfield 182) 3 (i_getI 12 41) := s_getI kX12 (by decide) (fun _ _ => rfl) (ch_5_4_ok.2.2.2.1.1 rfl)
theorem fl_X12_189 : sforC RX12 (.getfield 189) 3 (i_getI 12 40) := s_getI kX12 (by decide) (fun _ _ => rfl) (ch_5_4_ok.2.2.1.1 rfl)
theorem pl_X12_192 : sput RX12 false 192 (i_putI 12 43) := s_putI (T := TX12) (j := 43) kX12 (by decide) rfl (Or.inr rfl) (ch_5_4_ok.2.2.2.2.2.1.1 rfl)
theorem fl_X12_179 : sforC RX12 (.getfield 179) 3 (i_getI 12 39) := s_getI kX12 (by decide) (fun _ _ => rfl) (ch_5_4_ok.2.1.1 rfl)
theorem fl_X12_195 : sforC RX12 (.getfield 195) 3 (i_getI 12 45) := s_getI kX12 (by decide) (fun _ _ => rfl) (ch_5_4_ok.2.2.2.2.2.2.2.1.1 rfl)
theorem pl_X12_195 : sput RX12 false 195 (i_putI 12 45) := s_putI (T := TX12) (j := 45) kX12 (by decide) rfl (Or.inr rfl) (ch_5_4_ok.2.2.2.2.2.2.2.1.1 rfl)
theorem fl_X12_209 : sforC RX12 (.getfield 209) 3 (i_getI 12 46) := s_getI kX12 (by decide) (fun _ _ => rfl) (ch_5_4_ok.2.2.2.2.2.2.2.2.1.1 rfl)
theorem fl_X12_120 : sforC RX12 (.getfield 120) 3 (i_getR 12 47) := s_getR kX12 (by decide) (fun _ _ => rfl) (ch_5_4_ok.2.2.2.2.2.2.2.2.2.1.1 rfl)
theorem fl_X12_132 : sforC RX12 (.getfield 132) 3 (i_getR 12 51) := s_getR kX12 (by decide) (fun _ _ => rfl) (ch_5_4_ok.2.2.2.2.2.2.2.2.2.2.2.2.2.1.1 rfl)
theorem fl_X12_135 : sforC RX12 (.getfield 135) 3 (i_getR 12 52) := s_getR kX12 (by decide) (fun _ _ => rfl) (ch_5_4_ok.2.2.2.2.2.2.2.2.2.2.2.2.2.2.1.1 rfl)
theorem pl_X12_209 : sput RX12 false 209 (i_putI 12 46) := s_putI (T := TX12) (j := 46) kX12 (by decide) rfl (Or.inr rfl) (ch_5_4_ok.2.2.2.2.2.2.2.2.1.1 rfl)
theorem fl_X12_123 : sforC RX12 (.getfield 123) 3 (i_getR 12 48) := s_getR kX12 (by decide) (fun _ _ => rfl) (ch_5_4_ok.2.2.2.2.2.2.2.2.2.2.1.1 rfl)
theorem fl_X12_126 : sforC RX12 (.getfield 126) 3 (i_getR 12 49) := s_getR kX12 (by decide) (fun _ _ => rfl) (ch_5_4_ok.2.2.2.2.2.2.2.2.2.2.2.1.1 rfl)
theorem fl_X12_129 : sforC RX12 (.getfield 129) 3 (i_getR 12 50) := s_getR kX12 (by decide) (fun _ _ => rfl) (ch_5_4_ok.2.2.2.2.2.2.2.2.2.2.2.2.1.1 rfl)
theorem pl_X12_172 : sput RX12 false 172 (i_putI 12 38) := s_putI (T := TX12) (j := 38) kX12 (by decide) rfl (Or.inr rfl) (ch_5_4_ok.1.1 rfl)
theorem fl_X12_192 : sforC RX12 (.getfield 192) 3 (i_getI 12 43) := s_getI kX12 (by decide) (fun _ _ => rfl) (ch_5_4_ok.2.2.2.2.2.1.1 rfl)
theorem fl_X12_116 : sforC RX12 (.getfield 116) 3 (i_getI 12 44) := s_getI kX12 (by decide) (fun _ _ => rfl) (ch_5_4_ok.2.2.2.2.2.2.1.1 rfl)
theorem fl_X12_141 : sforC RX12 (.getfield 141) 3 (i_getR 12 55) := s_getR kX12 (by decide) (fun _ _ => rfl) (ch_5_5_ok.2.1.1 rfl)
theorem pl_X12_282 : sput RX12 false 282 (i_putI 12 53) := s_putI (T := TX12) (j := 53) kX12 (by decide) rfl (Or.inr rfl) (ch_5_4_ok.2.2.2.2.2.2.2.2.2.2.2.2.2.2.2.1.1 rfl)
theorem fl_X12_282 : sforC RX12 (.getfield 282) 3 (i_getI 12 53) := s_getI kX12 (by decide) (fun _ _ => rfl) (ch_5_4_ok.2.2.2.2.2.2.2.2.2.2.2.2.2.2.2.1.1 rfl)
theorem fl_X12_138 : sforC RX12 (.getfield 138) 3 (i_getR 12 54) := s_getR kX12 (by decide) (fun _ _ => rfl) (ch_5_5_ok.1.1 rfl)
theorem fl_X12_292 : sforC RX12 (.getfield 292) 3 (i_getI 12 56) := s_getI kX12 (by decide) (fun _ _ => rfl) (ch_5_5_ok.2.2.1.1 rfl)
theorem fl_X12_144 : sforC RX12 (.getfield 144) 3 (i_getR 12 57) := s_getR kX12 (by decide) (fun _ _ => rfl) (ch_5_5_ok.2.2.2.1.1 rfl)
theorem pl_X12_292 : sput RX12 false 292 (i_putI 12 56) := s_putI (T := TX12) (j := 56) kX12 (by decide) rfl (Or.inr rfl) (ch_5_5_ok.2.2.1.1 rfl)
theorem fl_X12_147 : sforC RX12 (.getfield 147) 3 (i_getR 12 58) := s_getR kX12 (by decide) (fun _ _ => rfl) (ch_5_5_ok.2.2.2.2.1.1 rfl)
