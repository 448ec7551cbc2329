/-! ===== constructors ===== -/
set_option maxHeartbeats 4000000 in
set_option maxRecDepth 100000 in
theorem i_notes (d : Nat) (hd : 1 ≤ d) (ok : pO) (mem : pM) : PM mi_X5_init d [vr 2] 2 ok mem 3 (fun r ok' mem' => r = none ∧ (∀ a, a < 2 → ok' a = ok a ∧ mem' a = mem a) ∧ NUp 3 ok' ∧ mem' 2 = mem 2) := by
  refine PM.of (by decide) (by decide) (by omega) (Nat.le_of_ble_eq_true rfl) ?_
  refine pw_aload_n 0 rfl dX5_init_0 rfl ?_
  refine pw_objInit dX5_init_1 kw_101 kw_94 kw_95 (by omega) (Nat.le_of_ble_eq_true rfl) (by omega) ?_
  refine pw_aload_n 0 rfl dX5_init_4 rfl ?_
  refine pw_bipush dX5_init_5 (by decide) ?_
  refine pw_newI (L := 60) rfl dX5_init_7 kw_118 (by decide) (by decide) (by decide) (by omega) (by omega) (by simp [lvA, lput, lput2, nrf, wct, isl]) (by simp [lvA, lput, lput2, nrf, wct, isl]) ?_
  refine pw_putR 0 dX5_init_9 cOk5 ⟨by omega, by omega, by decide⟩ (by decide) kw_102 (Or.inr ⟨rfl, rfl, rfl⟩) (Or.inr ⟨_, rfl⟩) (by decide) rfl (by omega) (by omega) ?_
  refine pw_okc (okF _ 2) (okE_F (ci := 5) (by decide) (fun k k1 k2 => ?_)) ?_
  · have hk2 : k = 0 := by revert k; decide +kernel
    subst hk2; rw [okS_t]
  refine pw_vret dX5_init_12 rfl rfl ?_
  refine ⟨rfl, fun a ha => ⟨?_, ?_⟩, ⟨⟨⟨by omega, by omega, by decide⟩, fun k => okF_s _ _ _⟩, ⟨by omega, by omega, by decide, by decide, by omega⟩⟩, zr_a _ (by omega)⟩
  · rw [okF_n _ (by omega), okS_o _ _ (by omega), okZ_o _ (by omega)]
  · rw [zr_a _ (by omega)]
set_option maxHeartbeats 4000000 in
set_option maxRecDepth 100000 in
theorem i_writ80 (d : Nat) (hd : 1 ≤ d) (ok : pO) (mem : pM) : PM mi_X8_init d [vr 80] 80 ok mem 81 (fun r ok' mem' => r = none ∧ (∀ a, a < 80 → ok' a = ok a ∧ mem' a = mem a) ∧ WUp 81 ok' 80 ∧ mem' 80 = mem 80) := by
  refine PM.of (by decide) (by decide) (by omega) (Nat.le_of_ble_eq_true rfl) ?_
  refine pw_aload_n 0 rfl dX8_init_0 rfl ?_
  refine pw_objInit dX8_init_1 kw_337 kw_94 kw_95 (by omega) (Nat.le_of_ble_eq_true rfl) (by omega) ?_
  refine pw_aload_n 0 rfl dX8_init_4 rfl ?_
  refine pw_sipush dX8_init_5 (by decide) ?_
  refine pw_newI (L := 432) rfl dX8_init_8 kw_118 (by decide) (by decide) (by decide) (by omega) (by omega) (by simp [lvA, lput, lput2, nrf, wct, isl]) (by simp [lvA, lput, lput2, nrf, wct, isl]) ?_
  refine pw_putR 0 dX8_init_10 cOk8 ⟨by omega, by omega, by decide⟩ (by decide) kw_338 (Or.inr ⟨rfl, rfl, rfl⟩) (Or.inr ⟨_, rfl⟩) (by decide) rfl (by omega) (by omega) ?_
  refine pw_okc (okF _ 80) (okE_F (ci := 8) (by decide) (fun k k1 k2 => ?_)) ?_
  · have hk2 : k = 0 := by revert k; decide +kernel
    subst hk2; rw [okS_t]
  refine pw_vret dX8_init_13 rfl rfl ?_
  refine ⟨rfl, fun a ha => ⟨?_, ?_⟩, ⟨⟨⟨by omega, by omega, by decide⟩, fun k => okF_s _ _ _⟩, ⟨by omega, by omega, by decide, by decide, by omega⟩, by omega, by omega⟩, zr_a _ (by omega)⟩
  · rw [okF_n _ (by omega), okS_o _ _ (by omega), okZ_o _ (by omega)]
  · rw [zr_a _ (by omega)]
set_option maxHeartbeats 4000000 in
set_option maxRecDepth 100000 in
theorem i_writ82 (d : Nat) (hd : 1 ≤ d) (ok : pO) (mem : pM) : PM mi_X8_init d [vr 82] 82 ok mem 83 (fun r ok' mem' => r = none ∧ (∀ a, a < 82 → ok' a = ok a ∧ mem' a = mem a) ∧ WUp 83 ok' 82 ∧ mem' 82 = mem 82) := by
  refine PM.of (by decide) (by decide) (by omega) (Nat.le_of_ble_eq_true rfl) ?_
  refine pw_aload_n 0 rfl dX8_init_0 rfl ?_
  refine pw_objInit dX8_init_1 kw_337 kw_94 kw_95 (by omega) (Nat.le_of_ble_eq_true rfl) (by omega) ?_
  refine pw_aload_n 0 rfl dX8_init_4 rfl ?_
  refine pw_sipush dX8_init_5 (by decide) ?_
  refine pw_newI (L := 432) rfl dX8_init_8 kw_118 (by decide) (by decide) (by decide) (by omega) (by omega) (by simp [lvA, lput, lput2, nrf, wct, isl]) (by simp [lvA, lput, lput2, nrf, wct, isl]) ?_
  refine pw_putR 0 dX8_init_10 cOk8 ⟨by omega, by omega, by decide⟩ (by decide) kw_338 (Or.inr ⟨rfl, rfl, rfl⟩) (Or.inr ⟨_, rfl⟩) (by decide) rfl (by omega) (by omega) ?_
  refine pw_okc (okF _ 82) (okE_F (ci := 8) (by decide) (fun k k1 k2 => ?_)) ?_
  · have hk2 : k = 0 := by revert k; decide +kernel
    subst hk2; rw [okS_t]
  refine pw_vret dX8_init_13 rfl rfl ?_
  refine ⟨rfl, fun a ha => ⟨?_, ?_⟩, ⟨⟨⟨by omega, by omega, by decide⟩, fun k => okF_s _ _ _⟩, ⟨by omega, by omega, by decide, by decide, by omega⟩, by omega, by omega⟩, zr_a _ (by omega)⟩
  · rw [okF_n _ (by omega), okS_o _ _ (by omega), okZ_o _ (by omega)]
  · rw [zr_a _ (by omega)]
set_option maxHeartbeats 4000000 in
set_option maxRecDepth 100000 in
theorem i_writ84 (d : Nat) (hd : 1 ≤ d) (ok : pO) (mem : pM) : PM mi_X8_init d [vr 84] 84 ok mem 85 (fun r ok' mem' => r = none ∧ (∀ a, a < 84 → ok' a = ok a ∧ mem' a = mem a) ∧ WUp 85 ok' 84 ∧ mem' 84 = mem 84) := by
  refine PM.of (by decide) (by decide) (by omega) (Nat.le_of_ble_eq_true rfl) ?_
  refine pw_aload_n 0 rfl dX8_init_0 rfl ?_
  refine pw_objInit dX8_init_1 kw_337 kw_94 kw_95 (by omega) (Nat.le_of_ble_eq_true rfl) (by omega) ?_
  refine pw_aload_n 0 rfl dX8_init_4 rfl ?_
  refine pw_sipush dX8_init_5 (by decide) ?_
  refine pw_newI (L := 432) rfl dX8_init_8 kw_118 (by decide) (by decide) (by decide) (by omega) (by omega) (by simp [lvA, lput, lput2, nrf, wct, isl]) (by simp [lvA, lput, lput2, nrf, wct, isl]) ?_
  refine pw_putR 0 dX8_init_10 cOk8 ⟨by omega, by omega, by decide⟩ (by decide) kw_338 (Or.inr ⟨rfl, rfl, rfl⟩) (Or.inr ⟨_, rfl⟩) (by decide) rfl (by omega) (by omega) ?_
  refine pw_okc (okF _ 84) (okE_F (ci := 8) (by decide) (fun k k1 k2 => ?_)) ?_
  · have hk2 : k = 0 := by revert k; decide +kernel
    subst hk2; rw [okS_t]
  refine pw_vret dX8_init_13 rfl rfl ?_
  refine ⟨rfl, fun a ha => ⟨?_, ?_⟩, ⟨⟨⟨by omega, by omega, by decide⟩, fun k => okF_s _ _ _⟩, ⟨by omega, by omega, by decide, by decide, by omega⟩, by omega, by omega⟩, zr_a _ (by omega)⟩
  · rw [okF_n _ (by omega), okS_o _ _ (by omega), okZ_o _ (by omega)]
  · rw [zr_a _ (by omega)]
set_option maxHeartbeats 4000000 in
set_option maxRecDepth 100000 in
theorem i_kept5 (d : Nat) (hd : 1 ≤ d) (ok : pO) (mem : pM) : PM mi_X3_init d [vr 21] 21 ok mem 22 (fun r ok' mem' => r = none ∧ (∀ a, a < 21 → ok' a = ok a ∧ mem' a = mem a) ∧ (∀ k, ok' 21 k = true) ∧ mem' 21 = mem 21) := by
  refine PM.of (by decide) (by decide) (by omega) (Nat.le_of_ble_eq_true rfl) ?_
  refine pw_aload_n 0 rfl dX3_init_0 rfl ?_
  refine pw_objInit dX3_init_1 kw_177 kw_94 kw_95 (by omega) (Nat.le_of_ble_eq_true rfl) (by omega) ?_
  refine pw_aload_n 0 rfl dX3_init_4 rfl ?_
  refine pw_bipush dX3_init_5 (by decide) ?_
  refine pw_newI (L := 30) rfl dX3_init_7 kw_118 (by decide) (by decide) (by decide) (by omega) (by omega) (by simp [lvA, lput, lput2, nrf, wct, isl]) (by simp [lvA, lput, lput2, nrf, wct, isl]) ?_
  refine pw_putR 0 dX3_init_9 cOk3 ⟨by omega, by omega, by decide⟩ (by decide) kw_178 (Or.inr ⟨rfl, rfl, rfl⟩) (Or.inr ⟨_, rfl⟩) (by decide) rfl (by omega) (by omega) ?_
  refine pw_okc (okF _ 21) (okE_F (ci := 3) (by decide) (fun k k1 k2 => ?_)) ?_
  · have hk2 : k = 0 := by revert k; decide +kernel
    subst hk2; rw [okS_t]
  refine pw_vret dX3_init_12 rfl rfl ?_
  refine ⟨rfl, fun a ha => ⟨?_, ?_⟩, fun k => okF_s _ _ _, zr_a _ (by omega)⟩
  · rw [okF_n _ (by omega), okS_o _ _ (by omega), okZ_o _ (by omega)]
  · rw [zr_a _ (by omega)]
set_option maxHeartbeats 4000000 in
set_option maxRecDepth 100000 in
theorem i_kept23 (d : Nat) (hd : 1 ≤ d) (ok : pO) (mem : pM) : PM mi_X3_init d [vr 39] 39 ok mem 40 (fun r ok' mem' => r = none ∧ (∀ a, a < 39 → ok' a = ok a ∧ mem' a = mem a) ∧ (∀ k, ok' 39 k = true) ∧ mem' 39 = mem 39) := by
  refine PM.of (by decide) (by decide) (by omega) (Nat.le_of_ble_eq_true rfl) ?_
  refine pw_aload_n 0 rfl dX3_init_0 rfl ?_
  refine pw_objInit dX3_init_1 kw_177 kw_94 kw_95 (by omega) (Nat.le_of_ble_eq_true rfl) (by omega) ?_
  refine pw_aload_n 0 rfl dX3_init_4 rfl ?_
  refine pw_bipush dX3_init_5 (by decide) ?_
  refine pw_newI (L := 30) rfl dX3_init_7 kw_118 (by decide) (by decide) (by decide) (by omega) (by omega) (by simp [lvA, lput, lput2, nrf, wct, isl]) (by simp [lvA, lput, lput2, nrf, wct, isl]) ?_
  refine pw_putR 0 dX3_init_9 cOk3 ⟨by omega, by omega, by decide⟩ (by decide) kw_178 (Or.inr ⟨rfl, rfl, rfl⟩) (Or.inr ⟨_, rfl⟩) (by decide) rfl (by omega) (by omega) ?_
  refine pw_okc (okF _ 39) (okE_F (ci := 3) (by decide) (fun k k1 k2 => ?_)) ?_
  · have hk2 : k = 0 := by revert k; decide +kernel
    subst hk2; rw [okS_t]
  refine pw_vret dX3_init_12 rfl rfl ?_
  refine ⟨rfl, fun a ha => ⟨?_, ?_⟩, fun k => okF_s _ _ _, zr_a _ (by omega)⟩
  · rw [okF_n _ (by omega), okS_o _ _ (by omega), okZ_o _ (by omega)]
  · rw [zr_a _ (by omega)]
set_option maxHeartbeats 4000000 in
set_option maxRecDepth 100000 in
theorem i_kept41 (d : Nat) (hd : 1 ≤ d) (ok : pO) (mem : pM) : PM mi_X3_init d [vr 57] 57 ok mem 58 (fun r ok' mem' => r = none ∧ (∀ a, a < 57 → ok' a = ok a ∧ mem' a = mem a) ∧ (∀ k, ok' 57 k = true) ∧ mem' 57 = mem 57) := by
  refine PM.of (by decide) (by decide) (by omega) (Nat.le_of_ble_eq_true rfl) ?_
  refine pw_aload_n 0 rfl dX3_init_0 rfl ?_
  refine pw_objInit dX3_init_1 kw_177 kw_94 kw_95 (by omega) (Nat.le_of_ble_eq_true rfl) (by omega) ?_
  refine pw_aload_n 0 rfl dX3_init_4 rfl ?_
  refine pw_bipush dX3_init_5 (by decide) ?_
  refine pw_newI (L := 30) rfl dX3_init_7 kw_118 (by decide) (by decide) (by decide) (by omega) (by omega) (by simp [lvA, lput, lput2, nrf, wct, isl]) (by simp [lvA, lput, lput2, nrf, wct, isl]) ?_
  refine pw_putR 0 dX3_init_9 cOk3 ⟨by omega, by omega, by decide⟩ (by decide) kw_178 (Or.inr ⟨rfl, rfl, rfl⟩) (Or.inr ⟨_, rfl⟩) (by decide) rfl (by omega) (by omega) ?_
  refine pw_okc (okF _ 57) (okE_F (ci := 3) (by decide) (fun k k1 k2 => ?_)) ?_
  · have hk2 : k = 0 := by revert k; decide +kernel
    subst hk2; rw [okS_t]
  refine pw_vret dX3_init_12 rfl rfl ?_
  refine ⟨rfl, fun a ha => ⟨?_, ?_⟩, fun k => okF_s _ _ _, zr_a _ (by omega)⟩
  · rw [okF_n _ (by omega), okS_o _ _ (by omega), okZ_o _ (by omega)]
  · rw [zr_a _ (by omega)]
set_option maxHeartbeats 4000000 in
set_option maxRecDepth 100000 in
theorem i_kept59 (d : Nat) (hd : 1 ≤ d) (ok : pO) (mem : pM) : PM mi_X3_init d [vr 75] 75 ok mem 76 (fun r ok' mem' => r = none ∧ (∀ a, a < 75 → ok' a = ok a ∧ mem' a = mem a) ∧ (∀ k, ok' 75 k = true) ∧ mem' 75 = mem 75) := by
  refine PM.of (by decide) (by decide) (by omega) (Nat.le_of_ble_eq_true rfl) ?_
  refine pw_aload_n 0 rfl dX3_init_0 rfl ?_
  refine pw_objInit dX3_init_1 kw_177 kw_94 kw_95 (by omega) (Nat.le_of_ble_eq_true rfl) (by omega) ?_
  refine pw_aload_n 0 rfl dX3_init_4 rfl ?_
  refine pw_bipush dX3_init_5 (by decide) ?_
  refine pw_newI (L := 30) rfl dX3_init_7 kw_118 (by decide) (by decide) (by decide) (by omega) (by omega) (by simp [lvA, lput, lput2, nrf, wct, isl]) (by simp [lvA, lput, lput2, nrf, wct, isl]) ?_
  refine pw_putR 0 dX3_init_9 cOk3 ⟨by omega, by omega, by decide⟩ (by decide) kw_178 (Or.inr ⟨rfl, rfl, rfl⟩) (Or.inr ⟨_, rfl⟩) (by decide) rfl (by omega) (by omega) ?_
  refine pw_okc (okF _ 75) (okE_F (ci := 3) (by decide) (fun k k1 k2 => ?_)) ?_
  · have hk2 : k = 0 := by revert k; decide +kernel
    subst hk2; rw [okS_t]
  refine pw_vret dX3_init_12 rfl rfl ?_
  refine ⟨rfl, fun a ha => ⟨?_, ?_⟩, fun k => okF_s _ _ _, zr_a _ (by omega)⟩
  · rw [okF_n _ (by omega), okS_o _ _ (by omega), okZ_o _ (by omega)]
  · rw [zr_a _ (by omega)]
set_option maxHeartbeats 4000000 in
set_option maxRecDepth 100000 in
theorem i_conds5 (d : Nat) (hd : 1 ≤ d) (ok : pO) (mem : pM) : PM mi_X1_init d [vr 13] 13 ok mem 20 (fun r ok' mem' => r = none ∧ (∀ a, a < 13 → ok' a = ok a ∧ mem' a = mem a) ∧ (∀ k, ok' 13 k = true) ∧ mem' 13 = mem 13 ∧ ∀ a, 14 ≤ a → a ≤ 20 → ∀ j, mem' a j = 0) := by
  refine PM.of (by decide) (by decide) (by omega) (Nat.le_of_ble_eq_true rfl) ?_
  refine pw_aload_n 0 rfl dX1_init_0 rfl ?_
  refine pw_objInit dX1_init_1 kw_131 kw_94 kw_95 (by omega) (Nat.le_of_ble_eq_true rfl) (by omega) ?_
  refine pw_aload_n 0 rfl dX1_init_4 rfl ?_
  refine pw_bipush dX1_init_5 (by decide) ?_
  refine pw_newI (L := 40) rfl dX1_init_7 kw_118 (by decide) (by decide) (by decide) (by omega) (by omega) (by simp [lvA, lput, lput2, nrf, wct, isl]) (by simp [lvA, lput, lput2, nrf, wct, isl]) ?_
  refine pw_putR 0 dX1_init_9 cOk1 ⟨by omega, by omega, by decide⟩ (by decide) kw_132 (Or.inr ⟨rfl, rfl, rfl⟩) (Or.inr ⟨_, rfl⟩) (by decide) rfl (by omega) (by omega) ?_
  refine pw_aload_n 0 rfl dX1_init_12 rfl ?_
  refine pw_bipush dX1_init_13 (by decide) ?_
  refine pw_newI (L := 40) rfl dX1_init_15 kw_118 (by decide) (by decide) (by decide) (by omega) (by omega) (by simp [lvA, lput, lput2, nrf, wct, isl]) (by simp [lvA, lput, lput2, nrf, wct, isl]) ?_
  refine pw_putR 1 dX1_init_17 cOk1 ⟨by omega, by omega, by decide⟩ (by decide) kw_135 (Or.inr ⟨rfl, rfl, rfl⟩) (Or.inr ⟨_, rfl⟩) (by decide) rfl (by omega) (by omega) ?_
  refine pw_aload_n 0 rfl dX1_init_20 rfl ?_
  refine pw_bipush dX1_init_21 (by decide) ?_
  refine pw_newI (L := 40) rfl dX1_init_23 kw_118 (by decide) (by decide) (by decide) (by omega) (by omega) (by simp [lvA, lput, lput2, nrf, wct, isl]) (by simp [lvA, lput, lput2, nrf, wct, isl]) ?_
  refine pw_putR 2 dX1_init_25 cOk1 ⟨by omega, by omega, by decide⟩ (by decide) kw_139 (Or.inr ⟨rfl, rfl, rfl⟩) (Or.inr ⟨_, rfl⟩) (by decide) rfl (by omega) (by omega) ?_
  refine pw_aload_n 0 rfl dX1_init_28 rfl ?_
  refine pw_bipush dX1_init_29 (by decide) ?_
  refine pw_newI (L := 40) rfl dX1_init_31 kw_118 (by decide) (by decide) (by decide) (by omega) (by omega) (by simp [lvA, lput, lput2, nrf, wct, isl]) (by simp [lvA, lput, lput2, nrf, wct, isl]) ?_
  refine pw_putR 3 dX1_init_33 cOk1 ⟨by omega, by omega, by decide⟩ (by decide) kw_143 (Or.inr ⟨rfl, rfl, rfl⟩) (Or.inr ⟨_, rfl⟩) (by decide) rfl (by omega) (by omega) ?_
  refine pw_aload_n 0 rfl dX1_init_36 rfl ?_
  refine pw_bipush dX1_init_37 (by decide) ?_
  refine pw_newI (L := 40) rfl dX1_init_39 kw_118 (by decide) (by decide) (by decide) (by omega) (by omega) (by simp [lvA, lput, lput2, nrf, wct, isl]) (by simp [lvA, lput, lput2, nrf, wct, isl]) ?_
  refine pw_putR 4 dX1_init_41 cOk1 ⟨by omega, by omega, by decide⟩ (by decide) kw_145 (Or.inr ⟨rfl, rfl, rfl⟩) (Or.inr ⟨_, rfl⟩) (by decide) rfl (by omega) (by omega) ?_
  refine pw_aload_n 0 rfl dX1_init_44 rfl ?_
  refine pw_bipush dX1_init_45 (by decide) ?_
  refine pw_newI (L := 40) rfl dX1_init_47 kw_118 (by decide) (by decide) (by decide) (by omega) (by omega) (by simp [lvA, lput, lput2, nrf, wct, isl]) (by simp [lvA, lput, lput2, nrf, wct, isl]) ?_
  refine pw_putR 5 dX1_init_49 cOk1 ⟨by omega, by omega, by decide⟩ (by decide) kw_147 (Or.inr ⟨rfl, rfl, rfl⟩) (Or.inr ⟨_, rfl⟩) (by decide) rfl (by omega) (by omega) ?_
  refine pw_aload_n 0 rfl dX1_init_52 rfl ?_
  refine pw_bipush dX1_init_53 (by decide) ?_
  refine pw_newI (L := 18) rfl dX1_init_55 kw_118 (by decide) (by decide) (by decide) (by omega) (by omega) (by simp [lvA, lput, lput2, nrf, wct, isl]) (by simp [lvA, lput, lput2, nrf, wct, isl]) ?_
  refine pw_putR 6 dX1_init_57 cOk1 ⟨by omega, by omega, by decide⟩ (by decide) kw_149 (Or.inr ⟨rfl, rfl, rfl⟩) (Or.inr ⟨_, rfl⟩) (by decide) rfl (by omega) (by omega) ?_
  refine pw_okc (okF _ 13) (okE_F (ci := 1) (by decide) (fun k k1 k2 => ?_)) ?_
  · have hk2 : k = 0 ∨ k = 1 ∨ k = 2 ∨ k = 3 ∨ k = 4 ∨ k = 5 ∨ k = 6 := by revert k; decide +kernel
    rcases hk2 with e | e | e | e | e | e | e <;> (subst e; simp [okS, okZ])
  refine pw_vret dX1_init_60 rfl rfl ?_
  refine ⟨rfl, fun a ha => ⟨?_, ?_⟩, fun k => okF_s _ _ _, ?_, fun a a1 a2 j => ?_⟩
  · rw [okF_n _ (by omega)]; simp (disch := omega) only [okZ_o, okS_o]
  · simp (disch := omega) only [zr_a]
  · simp (disch := omega) only [zr_a]
  · rcases (show a = 14 ∨ a = 15 ∨ a = 16 ∨ a = 17 ∨ a = 18 ∨ a = 19 ∨ a = 20 by omega) with e | e | e | e | e | e | e <;> (subst e; simp [zr])
set_option maxHeartbeats 4000000 in
set_option maxRecDepth 100000 in
theorem i_conds23 (d : Nat) (hd : 1 ≤ d) (ok : pO) (mem : pM) : PM mi_X1_init d [vr 31] 31 ok mem 38 (fun r ok' mem' => r = none ∧ (∀ a, a < 31 → ok' a = ok a ∧ mem' a = mem a) ∧ (∀ k, ok' 31 k = true) ∧ mem' 31 = mem 31 ∧ ∀ a, 32 ≤ a → a ≤ 38 → ∀ j, mem' a j = 0) := by
  refine PM.of (by decide) (by decide) (by omega) (Nat.le_of_ble_eq_true rfl) ?_
  refine pw_aload_n 0 rfl dX1_init_0 rfl ?_
  refine pw_objInit dX1_init_1 kw_131 kw_94 kw_95 (by omega) (Nat.le_of_ble_eq_true rfl) (by omega) ?_
  refine pw_aload_n 0 rfl dX1_init_4 rfl ?_
  refine pw_bipush dX1_init_5 (by decide) ?_
  refine pw_newI (L := 40) rfl dX1_init_7 kw_118 (by decide) (by decide) (by decide) (by omega) (by omega) (by simp [lvA, lput, lput2, nrf, wct, isl]) (by simp [lvA, lput, lput2, nrf, wct, isl]) ?_
  refine pw_putR 0 dX1_init_9 cOk1 ⟨by omega, by omega, by decide⟩ (by decide) kw_132 (Or.inr ⟨rfl, rfl, rfl⟩) (Or.inr ⟨_, rfl⟩) (by decide) rfl (by omega) (by omega) ?_
  refine pw_aload_n 0 rfl dX1_init_12 rfl ?_
  refine pw_bipush dX1_init_13 (by decide) ?_
  refine pw_newI (L := 40) rfl dX1_init_15 kw_118 (by decide) (by decide) (by decide) (by omega) (by omega) (by simp [lvA, lput, lput2, nrf, wct, isl]) (by simp [lvA, lput, lput2, nrf, wct, isl]) ?_
  refine pw_putR 1 dX1_init_17 cOk1 ⟨by omega, by omega, by decide⟩ (by decide) kw_135 (Or.inr ⟨rfl, rfl, rfl⟩) (Or.inr ⟨_, rfl⟩) (by decide) rfl (by omega) (by omega) ?_
  refine pw_aload_n 0 rfl dX1_init_20 rfl ?_
  refine pw_bipush dX1_init_21 (by decide) ?_
  refine pw_newI (L := 40) rfl dX1_init_23 kw_118 (by decide) (by decide) (by decide) (by omega) (by omega) (by simp [lvA, lput, lput2, nrf, wct, isl]) (by simp [lvA, lput, lput2, nrf, wct, isl]) ?_
  refine pw_putR 2 dX1_init_25 cOk1 ⟨by omega, by omega, by decide⟩ (by decide) kw_139 (Or.inr ⟨rfl, rfl, rfl⟩) (Or.inr ⟨_, rfl⟩) (by decide) rfl (by omega) (by omega) ?_
  refine pw_aload_n 0 rfl dX1_init_28 rfl ?_
  refine pw_bipush dX1_init_29 (by decide) ?_
  refine pw_newI (L := 40) rfl dX1_init_31 kw_118 (by decide) (by decide) (by decide) (by omega) (by omega) (by simp [lvA, lput, lput2, nrf, wct, isl]) (by simp [lvA, lput, lput2, nrf, wct, isl]) ?_
  refine pw_putR 3 dX1_init_33 cOk1 ⟨by omega, by omega, by decide⟩ (by decide) kw_143 (Or.inr ⟨rfl, rfl, rfl⟩) (Or.inr ⟨_, rfl⟩) (by decide) rfl (by omega) (by omega) ?_
  refine pw_aload_n 0 rfl dX1_init_36 rfl ?_
  refine pw_bipush dX1_init_37 (by decide) ?_
  refine pw_newI (L := 40) rfl dX1_init_39 kw_118 (by decide) (by decide) (by decide) (by omega) (by omega) (by simp [lvA, lput, lput2, nrf, wct, isl]) (by simp [lvA, lput, lput2, nrf, wct, isl]) ?_
  refine pw_putR 4 dX1_init_41 cOk1 ⟨by omega, by omega, by decide⟩ (by decide) kw_145 (Or.inr ⟨rfl, rfl, rfl⟩) (Or.inr ⟨_, rfl⟩) (by decide) rfl (by omega) (by omega) ?_
  refine pw_aload_n 0 rfl dX1_init_44 rfl ?_
  refine pw_bipush dX1_init_45 (by decide) ?_
  refine pw_newI (L := 40) rfl dX1_init_47 kw_118 (by decide) (by decide) (by decide) (by omega) (by omega) (by simp [lvA, lput, lput2, nrf, wct, isl]) (by simp [lvA, lput, lput2, nrf, wct, isl]) ?_
  refine pw_putR 5 dX1_init_49 cOk1 ⟨by omega, by omega, by decide⟩ (by decide) kw_147 (Or.inr ⟨rfl, rfl, rfl⟩) (Or.inr ⟨_, rfl⟩) (by decide) rfl (by omega) (by omega) ?_
  refine pw_aload_n 0 rfl dX1_init_52 rfl ?_
  refine pw_bipush dX1_init_53 (by decide) ?_
  refine pw_newI (L := 18) rfl dX1_init_55 kw_118 (by decide) (by decide) (by decide) (by omega) (by omega) (by simp [lvA, lput, lput2, nrf, wct, isl]) (by simp [lvA, lput, lput2, nrf, wct, isl]) ?_
  refine pw_putR 6 dX1_init_57 cOk1 ⟨by omega, by omega, by decide⟩ (by decide) kw_149 (Or.inr ⟨rfl, rfl, rfl⟩) (Or.inr ⟨_, rfl⟩) (by decide) rfl (by omega) (by omega) ?_
  refine pw_okc (okF _ 31) (okE_F (ci := 1) (by decide) (fun k k1 k2 => ?_)) ?_
  · have hk2 : k = 0 ∨ k = 1 ∨ k = 2 ∨ k = 3 ∨ k = 4 ∨ k = 5 ∨ k = 6 := by revert k; decide +kernel
    rcases hk2 with e | e | e | e | e | e | e <;> (subst e; simp [okS, okZ])
  refine pw_vret dX1_init_60 rfl rfl ?_
  refine ⟨rfl, fun a ha => ⟨?_, ?_⟩, fun k => okF_s _ _ _, ?_, fun a a1 a2 j => ?_⟩
  · rw [okF_n _ (by omega)]; simp (disch := omega) only [okZ_o, okS_o]
  · simp (disch := omega) only [zr_a]
  · simp (disch := omega) only [zr_a]
  · rcases (show a = 32 ∨ a = 33 ∨ a = 34 ∨ a = 35 ∨ a = 36 ∨ a = 37 ∨ a = 38 by omega) with e | e | e | e | e | e | e <;> (subst e; simp [zr])
set_option maxHeartbeats 4000000 in
set_option maxRecDepth 100000 in
theorem i_conds41 (d : Nat) (hd : 1 ≤ d) (ok : pO) (mem : pM) : PM mi_X1_init d [vr 49] 49 ok mem 56 (fun r ok' mem' => r = none ∧ (∀ a, a < 49 → ok' a = ok a ∧ mem' a = mem a) ∧ (∀ k, ok' 49 k = true) ∧ mem' 49 = mem 49 ∧ ∀ a, 50 ≤ a → a ≤ 56 → ∀ j, mem' a j = 0) := by
  refine PM.of (by decide) (by decide) (by omega) (Nat.le_of_ble_eq_true rfl) ?_
  refine pw_aload_n 0 rfl dX1_init_0 rfl ?_
  refine pw_objInit dX1_init_1 kw_131 kw_94 kw_95 (by omega) (Nat.le_of_ble_eq_true rfl) (by omega) ?_
  refine pw_aload_n 0 rfl dX1_init_4 rfl ?_
  refine pw_bipush dX1_init_5 (by decide) ?_
  refine pw_newI (L := 40) rfl dX1_init_7 kw_118 (by decide) (by decide) (by decide) (by omega) (by omega) (by simp [lvA, lput, lput2, nrf, wct, isl]) (by simp [lvA, lput, lput2, nrf, wct, isl]) ?_
  refine pw_putR 0 dX1_init_9 cOk1 ⟨by omega, by omega, by decide⟩ (by decide) kw_132 (Or.inr ⟨rfl, rfl, rfl⟩) (Or.inr ⟨_, rfl⟩) (by decide) rfl (by omega) (by omega) ?_
  refine pw_aload_n 0 rfl dX1_init_12 rfl ?_
  refine pw_bipush dX1_init_13 (by decide) ?_
  refine pw_newI (L := 40) rfl dX1_init_15 kw_118 (by decide) (by decide) (by decide) (by omega) (by omega) (by simp [lvA, lput, lput2, nrf, wct, isl]) (by simp [lvA, lput, lput2, nrf, wct, isl]) ?_
  refine pw_putR 1 dX1_init_17 cOk1 ⟨by omega, by omega, by decide⟩ (by decide) kw_135 (Or.inr ⟨rfl, rfl, rfl⟩) (Or.inr ⟨_, rfl⟩) (by decide) rfl (by omega) (by omega) ?_
  refine pw_aload_n 0 rfl dX1_init_20 rfl ?_
  refine pw_bipush dX1_init_21 (by decide) ?_
  refine pw_newI (L := 40) rfl dX1_init_23 kw_118 (by decide) (by decide) (by decide) (by omega) (by omega) (by simp [lvA, lput, lput2, nrf, wct, isl]) (by simp [lvA, lput, lput2, nrf, wct, isl]) ?_
  refine pw_putR 2 dX1_init_25 cOk1 ⟨by omega, by omega, by decide⟩ (by decide) kw_139 (Or.inr ⟨rfl, rfl, rfl⟩) (Or.inr ⟨_, rfl⟩) (by decide) rfl (by omega) (by omega) ?_
  refine pw_aload_n 0 rfl dX1_init_28 rfl ?_
  refine pw_bipush dX1_init_29 (by decide) ?_
  refine pw_newI (L := 40) rfl dX1_init_31 kw_118 (by decide) (by decide) (by decide) (by omega) (by omega) (by simp [lvA, lput, lput2, nrf, wct, isl]) (by simp [lvA, lput, lput2, nrf, wct, isl]) ?_
  refine pw_putR 3 dX1_init_33 cOk1 ⟨by omega, by omega, by decide⟩ (by decide) kw_143 (Or.inr ⟨rfl, rfl, rfl⟩) (Or.inr ⟨_, rfl⟩) (by decide) rfl (by omega) (by omega) ?_
  refine pw_aload_n 0 rfl dX1_init_36 rfl ?_
  refine pw_bipush dX1_init_37 (by decide) ?_
  refine pw_newI (L := 40) rfl dX1_init_39 kw_118 (by decide) (by decide) (by decide) (by omega) (by omega) (by simp [lvA, lput, lput2, nrf, wct, isl]) (by simp [lvA, lput, lput2, nrf, wct, isl]) ?_
  refine pw_putR 4 dX1_init_41 cOk1 ⟨by omega, by omega, by decide⟩ (by decide) kw_145 (Or.inr ⟨rfl, rfl, rfl⟩) (Or.inr ⟨_, rfl⟩) (by decide) rfl (by omega) (by omega) ?_
  refine pw_aload_n 0 rfl dX1_init_44 rfl ?_
  refine pw_bipush dX1_init_45 (by decide) ?_
  refine pw_newI (L := 40) rfl dX1_init_47 kw_118 (by decide) (by decide) (by decide) (by omega) (by omega) (by simp [lvA, lput, lput2, nrf, wct, isl]) (by simp [lvA, lput, lput2, nrf, wct, isl]) ?_
  refine pw_putR 5 dX1_init_49 cOk1 ⟨by omega, by omega, by decide⟩ (by decide) kw_147 (Or.inr ⟨rfl, rfl, rfl⟩) (Or.inr ⟨_, rfl⟩) (by decide) rfl (by omega) (by omega) ?_
  refine pw_aload_n 0 rfl dX1_init_52 rfl ?_
  refine pw_bipush dX1_init_53 (by decide) ?_
  refine pw_newI (L := 18) rfl dX1_init_55 kw_118 (by decide) (by decide) (by decide) (by omega) (by omega) (by simp [lvA, lput, lput2, nrf, wct, isl]) (by simp [lvA, lput, lput2, nrf, wct, isl]) ?_
  refine pw_putR 6 dX1_init_57 cOk1 ⟨by omega, by omega, by decide⟩ (by decide) kw_149 (Or.inr ⟨rfl, rfl, rfl⟩) (Or.inr ⟨_, rfl⟩) (by decide) rfl (by omega) (by omega) ?_
  refine pw_okc (okF _ 49) (okE_F (ci := 1) (by decide) (fun k k1 k2 => ?_)) ?_
  · have hk2 : k = 0 ∨ k = 1 ∨ k = 2 ∨ k = 3 ∨ k = 4 ∨ k = 5 ∨ k = 6 := by revert k; decide +kernel
    rcases hk2 with e | e | e | e | e | e | e <;> (subst e; simp [okS, okZ])
  refine pw_vret dX1_init_60 rfl rfl ?_
  refine ⟨rfl, fun a ha => ⟨?_, ?_⟩, fun k => okF_s _ _ _, ?_, fun a a1 a2 j => ?_⟩
  · rw [okF_n _ (by omega)]; simp (disch := omega) only [okZ_o, okS_o]
  · simp (disch := omega) only [zr_a]
  · simp (disch := omega) only [zr_a]
  · rcases (show a = 50 ∨ a = 51 ∨ a = 52 ∨ a = 53 ∨ a = 54 ∨ a = 55 ∨ a = 56 by omega) with e | e | e | e | e | e | e <;> (subst e; simp [zr])
set_option maxHeartbeats 4000000 in
set_option maxRecDepth 100000 in
theorem i_conds59 (d : Nat) (hd : 1 ≤ d) (ok : pO) (mem : pM) : PM mi_X1_init d [vr 67] 67 ok mem 74 (fun r ok' mem' => r = none ∧ (∀ a, a < 67 → ok' a = ok a ∧ mem' a = mem a) ∧ (∀ k, ok' 67 k = true) ∧ mem' 67 = mem 67 ∧ ∀ a, 68 ≤ a → a ≤ 74 → ∀ j, mem' a j = 0) := by
  refine PM.of (by decide) (by decide) (by omega) (Nat.le_of_ble_eq_true rfl) ?_
  refine pw_aload_n 0 rfl dX1_init_0 rfl ?_
  refine pw_objInit dX1_init_1 kw_131 kw_94 kw_95 (by omega) (Nat.le_of_ble_eq_true rfl) (by omega) ?_
  refine pw_aload_n 0 rfl dX1_init_4 rfl ?_
  refine pw_bipush dX1_init_5 (by decide) ?_
  refine pw_newI (L := 40) rfl dX1_init_7 kw_118 (by decide) (by decide) (by decide) (by omega) (by omega) (by simp [lvA, lput, lput2, nrf, wct, isl]) (by simp [lvA, lput, lput2, nrf, wct, isl]) ?_
  refine pw_putR 0 dX1_init_9 cOk1 ⟨by omega, by omega, by decide⟩ (by decide) kw_132 (Or.inr ⟨rfl, rfl, rfl⟩) (Or.inr ⟨_, rfl⟩) (by decide) rfl (by omega) (by omega) ?_
  refine pw_aload_n 0 rfl dX1_init_12 rfl ?_
  refine pw_bipush dX1_init_13 (by decide) ?_
  refine pw_newI (L := 40) rfl dX1_init_15 kw_118 (by decide) (by decide) (by decide) (by omega) (by omega) (by simp [lvA, lput, lput2, nrf, wct, isl]) (by simp [lvA, lput, lput2, nrf, wct, isl]) ?_
  refine pw_putR 1 dX1_init_17 cOk1 ⟨by omega, by omega, by decide⟩ (by decide) kw_135 (Or.inr ⟨rfl, rfl, rfl⟩) (Or.inr ⟨_, rfl⟩) (by decide) rfl (by omega) (by omega) ?_
  refine pw_aload_n 0 rfl dX1_init_20 rfl ?_
  refine pw_bipush dX1_init_21 (by decide) ?_
  refine pw_newI (L := 40) rfl dX1_init_23 kw_118 (by decide) (by decide) (by decide) (by omega) (by omega) (by simp [lvA, lput, lput2, nrf, wct, isl]) (by simp [lvA, lput, lput2, nrf, wct, isl]) ?_
  refine pw_putR 2 dX1_init_25 cOk1 ⟨by omega, by omega, by decide⟩ (by decide) kw_139 (Or.inr ⟨rfl, rfl, rfl⟩) (Or.inr ⟨_, rfl⟩) (by decide) rfl (by omega) (by omega) ?_
  refine pw_aload_n 0 rfl dX1_init_28 rfl ?_
  refine pw_bipush dX1_init_29 (by decide) ?_
  refine pw_newI (L := 40) rfl dX1_init_31 kw_118 (by decide) (by decide) (by decide) (by omega) (by omega) (by simp [lvA, lput, lput2, nrf, wct, isl]) (by simp [lvA, lput, lput2, nrf, wct, isl]) ?_
  refine pw_putR 3 dX1_init_33 cOk1 ⟨by omega, by omega, by decide⟩ (by decide) kw_143 (Or.inr ⟨rfl, rfl, rfl⟩) (Or.inr ⟨_, rfl⟩) (by decide) rfl (by omega) (by omega) ?_
  refine pw_aload_n 0 rfl dX1_init_36 rfl ?_
  refine pw_bipush dX1_init_37 (by decide) ?_
  refine pw_newI (L := 40) rfl dX1_init_39 kw_118 (by decide) (by decide) (by decide) (by omega) (by omega) (by simp [lvA, lput, lput2, nrf, wct, isl]) (by simp [lvA, lput, lput2, nrf, wct, isl]) ?_
  refine pw_putR 4 dX1_init_41 cOk1 ⟨by omega, by omega, by decide⟩ (by decide) kw_145 (Or.inr ⟨rfl, rfl, rfl⟩) (Or.inr ⟨_, rfl⟩) (by decide) rfl (by omega) (by omega) ?_
  refine pw_aload_n 0 rfl dX1_init_44 rfl ?_
  refine pw_bipush dX1_init_45 (by decide) ?_
  refine pw_newI (L := 40) rfl dX1_init_47 kw_118 (by decide) (by decide) (by decide) (by omega) (by omega) (by simp [lvA, lput, lput2, nrf, wct, isl]) (by simp [lvA, lput, lput2, nrf, wct, isl]) ?_
  refine pw_putR 5 dX1_init_49 cOk1 ⟨by omega, by omega, by decide⟩ (by decide) kw_147 (Or.inr ⟨rfl, rfl, rfl⟩) (Or.inr ⟨_, rfl⟩) (by decide) rfl (by omega) (by omega) ?_
  refine pw_aload_n 0 rfl dX1_init_52 rfl ?_
  refine pw_bipush dX1_init_53 (by decide) ?_
  refine pw_newI (L := 18) rfl dX1_init_55 kw_118 (by decide) (by decide) (by decide) (by omega) (by omega) (by simp [lvA, lput, lput2, nrf, wct, isl]) (by simp [lvA, lput, lput2, nrf, wct, isl]) ?_
  refine pw_putR 6 dX1_init_57 cOk1 ⟨by omega, by omega, by decide⟩ (by decide) kw_149 (Or.inr ⟨rfl, rfl, rfl⟩) (Or.inr ⟨_, rfl⟩) (by decide) rfl (by omega) (by omega) ?_
  refine pw_okc (okF _ 67) (okE_F (ci := 1) (by decide) (fun k k1 k2 => ?_)) ?_
  · have hk2 : k = 0 ∨ k = 1 ∨ k = 2 ∨ k = 3 ∨ k = 4 ∨ k = 5 ∨ k = 6 := by revert k; decide +kernel
    rcases hk2 with e | e | e | e | e | e | e <;> (subst e; simp [okS, okZ])
  refine pw_vret dX1_init_60 rfl rfl ?_
  refine ⟨rfl, fun a ha => ⟨?_, ?_⟩, fun k => okF_s _ _ _, ?_, fun a a1 a2 j => ?_⟩
  · rw [okF_n _ (by omega)]; simp (disch := omega) only [okZ_o, okS_o]
  · simp (disch := omega) only [zr_a]
  · simp (disch := omega) only [zr_a]
  · rcases (show a = 68 ∨ a = 69 ∨ a = 70 ∨ a = 71 ∨ a = 72 ∨ a = 73 ∨ a = 74 by omega) with e | e | e | e | e | e | e <;> (subst e; simp [zr])
set_option maxHeartbeats 4000000 in
set_option maxRecDepth 100000 in
theorem i_chest5 (d : Nat) (hd : 5 ≤ d) (ok : pO) (mem : pM) (hz : ∀ j, mem 5 j = 0) : PM mi_X0_init d [vr 5, vr 2] 5 ok mem 22 (fun r ok' mem' => r = none ∧ (∀ a, a < 5 → ok' a = ok a ∧ mem' a = mem a) ∧ ChUp 22 ok' 5 ∧ CS (zA 4) 0 mem' 5 ∧ CV (zA 4) 0 mem' 5 (fun _ => 0) ∧ mem' 5 13 = 0 ∧ mem' 5 14 = -1 ∧ mem' 21 1 = 0 ∧ mem' 21 2 = 0) := by
  refine PM.of (by decide) (by decide) (by omega) (Nat.le_of_ble_eq_true rfl) ?_
  refine pw_aload_n 0 rfl dX0_init_0 rfl ?_
  refine pw_objInit dX0_init_1 kw_125 kw_94 kw_95 (by omega) (Nat.le_of_ble_eq_true rfl) (by omega) ?_
  refine pw_aload_n 0 rfl dX0_init_4 rfl ?_
  refine pw_iconst dX0_init_5 ?_
  refine pw_newI (L := 4) rfl dX0_init_6 kw_118 (by decide) (by decide) (by decide) (by omega) (by omega) (by simp [lvA, lput, lput2, nrf, wct, isl]) (by simp [lvA, lput, lput2, nrf, wct, isl]) ?_
  refine pw_putR 1 dX0_init_8 cOk0 ⟨by omega, by omega, by decide⟩ (by decide) kw_228 (Or.inr ⟨rfl, rfl, rfl⟩) (Or.inr ⟨_, rfl⟩) (by decide) rfl (by omega) (by omega) ?_
  refine pw_aload_n 0 rfl dX0_init_11 rfl ?_
  refine pw_bipush dX0_init_12 (by decide) ?_
  refine pw_newI (L := 16) rfl dX0_init_14 kw_118 (by decide) (by decide) (by decide) (by omega) (by omega) (by simp [lvA, lput, lput2, nrf, wct, isl]) (by simp [lvA, lput, lput2, nrf, wct, isl]) ?_
  refine pw_putR 2 dX0_init_16 cOk0 ⟨by omega, by omega, by decide⟩ (by decide) kw_230 (Or.inr ⟨rfl, rfl, rfl⟩) (Or.inr ⟨_, rfl⟩) (by decide) rfl (by omega) (by omega) ?_
  refine pw_aload_n 0 rfl dX0_init_19 rfl ?_
  refine pw_bipush dX0_init_20 (by decide) ?_
  refine pw_newI (L := 16) rfl dX0_init_22 kw_118 (by decide) (by decide) (by decide) (by omega) (by omega) (by simp [lvA, lput, lput2, nrf, wct, isl]) (by simp [lvA, lput, lput2, nrf, wct, isl]) ?_
  refine pw_putR 3 dX0_init_24 cOk0 ⟨by omega, by omega, by decide⟩ (by decide) kw_234 (Or.inr ⟨rfl, rfl, rfl⟩) (Or.inr ⟨_, rfl⟩) (by decide) rfl (by omega) (by omega) ?_
  refine pw_aload_n 0 rfl dX0_init_27 rfl ?_
  refine pw_bipush dX0_init_28 (by decide) ?_
  refine pw_newI (L := 16) rfl dX0_init_30 kw_118 (by decide) (by decide) (by decide) (by omega) (by omega) (by simp [lvA, lput, lput2, nrf, wct, isl]) (by simp [lvA, lput, lput2, nrf, wct, isl]) ?_
  refine pw_putR 4 dX0_init_32 cOk0 ⟨by omega, by omega, by decide⟩ (by decide) kw_238 (Or.inr ⟨rfl, rfl, rfl⟩) (Or.inr ⟨_, rfl⟩) (by decide) rfl (by omega) (by omega) ?_
  refine pw_aload_n 0 rfl dX0_init_35 rfl ?_
  refine pw_bipush dX0_init_36 (by decide) ?_
  refine pw_newI (L := 16) rfl dX0_init_38 kw_118 (by decide) (by decide) (by decide) (by omega) (by omega) (by simp [lvA, lput, lput2, nrf, wct, isl]) (by simp [lvA, lput, lput2, nrf, wct, isl]) ?_
  refine pw_putR 5 dX0_init_40 cOk0 ⟨by omega, by omega, by decide⟩ (by decide) kw_241 (Or.inr ⟨rfl, rfl, rfl⟩) (Or.inr ⟨_, rfl⟩) (by decide) rfl (by omega) (by omega) ?_
  refine pw_aload_n 0 rfl dX0_init_43 rfl ?_
  refine pw_bipush dX0_init_44 (by decide) ?_
  refine pw_newI (L := 16) rfl dX0_init_46 kw_118 (by decide) (by decide) (by decide) (by omega) (by omega) (by simp [lvA, lput, lput2, nrf, wct, isl]) (by simp [lvA, lput, lput2, nrf, wct, isl]) ?_
  refine pw_putR 6 dX0_init_48 cOk0 ⟨by omega, by omega, by decide⟩ (by decide) kw_244 (Or.inr ⟨rfl, rfl, rfl⟩) (Or.inr ⟨_, rfl⟩) (by decide) rfl (by omega) (by omega) ?_
  refine pw_aload_n 0 rfl dX0_init_51 rfl ?_
  refine pw_bipush dX0_init_52 (by decide) ?_
  refine pw_newI (L := 16) rfl dX0_init_54 kw_118 (by decide) (by decide) (by decide) (by omega) (by omega) (by simp [lvA, lput, lput2, nrf, wct, isl]) (by simp [lvA, lput, lput2, nrf, wct, isl]) ?_
  refine pw_putR 7 dX0_init_56 cOk0 ⟨by omega, by omega, by decide⟩ (by decide) kw_245 (Or.inr ⟨rfl, rfl, rfl⟩) (Or.inr ⟨_, rfl⟩) (by decide) rfl (by omega) (by omega) ?_
  refine pw_aload_n 0 rfl dX0_init_59 rfl ?_
  refine pw_new dX0_init_60 cOk1 kw_126 kw_127 kw_77 (by decide) (by omega) (by omega) (by simp [lvA, lput, lput2, nrf, wct, isl]) (by simp [lvA, lput, lput2, nrf, wct, isl]) ?_
  refine pw_dup dX0_init_63 rfl ?_
  refine pw_callI (d' := d - 1) (As := []) dX0_init_64 ok_X1_init (Or.inr ⟨_, kw_128⟩) (by omega) (by omega) rfl (Nat.le_of_ble_eq_true rfl) (i_conds5 (d - 1) (by omega) _ _) (by omega) (Or.inr ⟨(by simp [lvA, lput, lput2, nrf, wct, isl]), (by simp [lvA, lput, lput2, nrf, wct, isl])⟩) (fun r ok1 mem1 hq => ?_)
  obtain ⟨rfl, hq1, hq2, hq3, hq4⟩ := hq
  refine pw_putR 8 dX0_init_67 cOk0 ⟨by omega, by omega, by decide⟩ (by decide) kw_246 (Or.inr ⟨rfl, rfl, rfl⟩) (Or.inl ⟨_, rfl⟩) (by decide) rfl (by omega) (by omega) ?_
  refine pw_aload_n 0 rfl dX0_init_70 rfl ?_
  refine pw_new dX0_init_71 cOk3 kw_172 kw_173 kw_78 (by decide) (by omega) (by omega) (by simp [lvA, lput, lput2, nrf, wct, isl]) (by simp [lvA, lput, lput2, nrf, wct, isl]) ?_
  refine pw_dup dX0_init_74 rfl ?_
  refine pw_callI (d' := d - 1) (As := []) dX0_init_75 ok_X3_init (Or.inr ⟨_, kw_174⟩) (by omega) (by omega) rfl (Nat.le_of_ble_eq_true rfl) (i_kept5 (d - 1) (by omega) _ _) (by omega) (Or.inr ⟨(by simp [lvA, lput, lput2, nrf, wct, isl]), (by simp [lvA, lput, lput2, nrf, wct, isl])⟩) (fun r ok2 mem2 hq => ?_)
  obtain ⟨rfl, hk1, hk2, hk3⟩ := hq
  refine pw_putR 9 dX0_init_78 cOk0 ⟨by omega, by omega, by decide⟩ (by decide) kw_249 (Or.inr ⟨rfl, rfl, rfl⟩) (Or.inl ⟨_, rfl⟩) (by decide) rfl (by omega) (by omega) ?_
  refine pw_aload_n 0 rfl dX0_init_81 rfl ?_
  refine pw_aload_n 1 rfl dX0_init_82 rfl ?_
  refine pw_putR 0 dX0_init_83 cOk0 ⟨by omega, by omega, by decide⟩ (by decide) kw_227 (Or.inr ⟨rfl, rfl, rfl⟩) (Or.inl ⟨_, rfl⟩) (by decide) rfl (by omega) (by omega) ?_
  refine pw_okc (okF _ 5) (okE_F (ci := 0) (by decide) (fun k k1 k2 => ?_)) ?_
  · have hk9 : k = 0 ∨ k = 1 ∨ k = 2 ∨ k = 3 ∨ k = 4 ∨ k = 5 ∨ k = 6 ∨ k = 7 ∨ k = 8 ∨ k = 9 := by revert k; decide +kernel
    rcases hk9 with e | e | e | e | e | e | e | e | e | e
    · subst e; rw [okS_t]
    · subst e; rw [okS_i _ _ (by omega), okS_i _ _ (by omega), (hk1 5 (by omega)).1, okZ_o _ (by omega), okS_i _ _ (by omega), (hq1 5 (by omega)).1]; simp [okS, okZ]
    · subst e; rw [okS_i _ _ (by omega), okS_i _ _ (by omega), (hk1 5 (by omega)).1, okZ_o _ (by omega), okS_i _ _ (by omega), (hq1 5 (by omega)).1]; simp [okS, okZ]
    · subst e; rw [okS_i _ _ (by omega), okS_i _ _ (by omega), (hk1 5 (by omega)).1, okZ_o _ (by omega), okS_i _ _ (by omega), (hq1 5 (by omega)).1]; simp [okS, okZ]
    · subst e; rw [okS_i _ _ (by omega), okS_i _ _ (by omega), (hk1 5 (by omega)).1, okZ_o _ (by omega), okS_i _ _ (by omega), (hq1 5 (by omega)).1]; simp [okS, okZ]
    · subst e; rw [okS_i _ _ (by omega), okS_i _ _ (by omega), (hk1 5 (by omega)).1, okZ_o _ (by omega), okS_i _ _ (by omega), (hq1 5 (by omega)).1]; simp [okS, okZ]
    · subst e; rw [okS_i _ _ (by omega), okS_i _ _ (by omega), (hk1 5 (by omega)).1, okZ_o _ (by omega), okS_i _ _ (by omega), (hq1 5 (by omega)).1]; simp [okS, okZ]
    · subst e; rw [okS_i _ _ (by omega), okS_i _ _ (by omega), (hk1 5 (by omega)).1, okZ_o _ (by omega), okS_i _ _ (by omega), (hq1 5 (by omega)).1]; simp [okS, okZ]
    · subst e; rw [okS_i _ _ (by omega), okS_i _ _ (by omega), (hk1 5 (by omega)).1, okZ_o _ (by omega), okS_t]
    · subst e; rw [okS_i _ _ (by omega), okS_t]
  have hokb : ∀ a, a ≠ 5 → okF (okS (okS ok2 5 9) 5 0) 5 a = ok2 a := fun a q => by rw [okF_n _ q, okS_o _ _ q, okS_o _ _ q]
  have hC : ChUp 22 (okF (okS (okS ok2 5 9) 5 0) 5) 5 := ⟨⟨⟨by omega, by omega, by decide⟩, fun k => okF_s _ _ _⟩, ⟨⟨by omega, by omega, by decide, by decide, by omega⟩, ⟨by omega, by omega, by decide, by decide, by omega⟩, ⟨by omega, by omega, by decide, by decide, by omega⟩, ⟨by omega, by omega, by decide, by decide, by omega⟩, ⟨by omega, by omega, by decide, by decide, by omega⟩, ⟨by omega, by omega, by decide, by decide, by omega⟩, ⟨by omega, by omega, by decide, by decide, by omega⟩⟩, ⟨⟨by omega, by omega, by decide⟩, fun k => by rw [hokb _ (by omega), (hk1 _ (by omega)).1, okZ_o _ (by omega), okS_o _ _ (by omega)]; exact hq2 k⟩, ⟨⟨by omega, by omega, by decide, by decide, by omega⟩, ⟨by omega, by omega, by decide, by decide, by omega⟩, ⟨by omega, by omega, by decide, by decide, by omega⟩, ⟨by omega, by omega, by decide, by decide, by omega⟩, ⟨by omega, by omega, by decide, by decide, by omega⟩, ⟨by omega, by omega, by decide, by decide, by omega⟩, ⟨by omega, by omega, by decide, by decide, by omega⟩⟩, ⟨⟨by omega, by omega, by decide⟩, fun k => by rw [hokb _ (by omega)]; exact hk2 k⟩, ⟨by omega, by omega, by decide, by decide, by omega⟩, by omega, by omega⟩
  have hC0 := hC.1
  refine pw_aload_n 0 rfl dX0_init_86 rfl ?_
  refine pw_iconst dX0_init_87 ?_
  refine pw_pI 14 14 rfl dX0_init_88 cOk0 hC0 (by decide) kw_260 rfl rfl (by decide) (by omega) ?_
  have hm2 : ∀ a, a < 21 → mem2 a = mem1 a := fun a ha => by rw [(hk1 a ha).2, zr_a _ (by omega)]
  have hz9 : ∀ a, 5 + 1 ≤ a → a ≤ 5 + 15 → ∀ j, wr mem2 5 14 (-1) a j = 0 := fun a a1 a2 j => by
    rw [wr_a _ _ _ (by omega), hm2 a (by omega)]
    by_cases q : a < 13
    · rw [(hq1 a q).2]
      rcases (show a = 6 ∨ a = 7 ∨ a = 8 ∨ a = 9 ∨ a = 10 ∨ a = 11 ∨ a = 12 by omega) with e | e | e | e | e | e | e <;> (subst e; simp [zr])
    · by_cases q2 : a = 13
      · rw [q2, hq3]; simp [zr]
      · exact hq4 a (by omega) (by omega) j
  have hm1b : ∀ j, mem1 5 j = 0 := fun j => by rw [(hq1 5 (by omega)).2]; simp (disch := omega) only [zr_a]; exact hz j
  have hok2 : ∀ a, a < 5 → ok2 a = ok a := fun a ha => by rw [(hk1 a (by omega)).1, okZ_o _ (by omega), okS_o _ _ (by omega), (hq1 a (by omega)).1]; simp (disch := omega) only [okZ_o, okS_o]
  have hmem2 : ∀ a, a < 5 → mem2 a = mem a := fun a ha => by rw [hm2 a (by omega), (hq1 a (by omega)).2]; simp (disch := omega) only [zr_a]
  refine pw_aload_n 0 rfl dX0_init_91 rfl ?_
  refine pw_callV (d' := d - 1) (As := []) (ci := 0) dX0_init_92 ok_X0_empty kw_189 rfl rfl (Of.o (by assumption)) (by omega) rfl (Nat.le_of_ble_eq_true rfl) (h_empty0 (d - 1) (by omega) 22 _ _ 5 hC hz9) (Nat.le_refl _) (Or.inl rfl) (fun r ok3 mem3 hq => ?_)
  obtain ⟨rfl, rfl, hcm, hS3, hV3⟩ := hq
  refine pw_vret dX0_init_95 rfl rfl ?_
  refine ⟨rfl, fun a ha => ⟨?_, ?_⟩, hC, hS3, hV3, ?_, ?_, ?_, ?_⟩
  · rw [hokb a (by omega)]; exact hok2 a ha
  · rw [hcm.1 a (by omega), wr_a _ _ _ (by omega)]; exact hmem2 a ha
  · rw [hcm.2 13 (by omega) (by omega) (by omega), wr_k _ _ _ _ (by omega), hm2 _ (by omega)]; exact hm1b 13
  · rw [hcm.2 14 (by omega) (by omega) (by omega), wr_s]
  · rw [hcm.1 21 (by omega), wr_a _ _ _ (by omega), hk3]; simp [zr]
  · rw [hcm.1 21 (by omega), wr_a _ _ _ (by omega), hk3]; simp [zr]
set_option maxHeartbeats 4000000 in
set_option maxRecDepth 100000 in
theorem i_chest23 (d : Nat) (hd : 5 ≤ d) (ok : pO) (mem : pM) (hz : ∀ j, mem 23 j = 0) : PM mi_X0_init d [vr 23, vr 2] 23 ok mem 40 (fun r ok' mem' => r = none ∧ (∀ a, a < 23 → ok' a = ok a ∧ mem' a = mem a) ∧ ChUp 40 ok' 23 ∧ CS (zA 4) 0 mem' 23 ∧ CV (zA 4) 0 mem' 23 (fun _ => 0) ∧ mem' 23 13 = 0 ∧ mem' 23 14 = -1 ∧ mem' 39 1 = 0 ∧ mem' 39 2 = 0) := by
  refine PM.of (by decide) (by decide) (by omega) (Nat.le_of_ble_eq_true rfl) ?_
  refine pw_aload_n 0 rfl dX0_init_0 rfl ?_
  refine pw_objInit dX0_init_1 kw_125 kw_94 kw_95 (by omega) (Nat.le_of_ble_eq_true rfl) (by omega) ?_
  refine pw_aload_n 0 rfl dX0_init_4 rfl ?_
  refine pw_iconst dX0_init_5 ?_
  refine pw_newI (L := 4) rfl dX0_init_6 kw_118 (by decide) (by decide) (by decide) (by omega) (by omega) (by simp [lvA, lput, lput2, nrf, wct, isl]) (by simp [lvA, lput, lput2, nrf, wct, isl]) ?_
  refine pw_putR 1 dX0_init_8 cOk0 ⟨by omega, by omega, by decide⟩ (by decide) kw_228 (Or.inr ⟨rfl, rfl, rfl⟩) (Or.inr ⟨_, rfl⟩) (by decide) rfl (by omega) (by omega) ?_
  refine pw_aload_n 0 rfl dX0_init_11 rfl ?_
  refine pw_bipush dX0_init_12 (by decide) ?_
  refine pw_newI (L := 16) rfl dX0_init_14 kw_118 (by decide) (by decide) (by decide) (by omega) (by omega) (by simp [lvA, lput, lput2, nrf, wct, isl]) (by simp [lvA, lput, lput2, nrf, wct, isl]) ?_
  refine pw_putR 2 dX0_init_16 cOk0 ⟨by omega, by omega, by decide⟩ (by decide) kw_230 (Or.inr ⟨rfl, rfl, rfl⟩) (Or.inr ⟨_, rfl⟩) (by decide) rfl (by omega) (by omega) ?_
  refine pw_aload_n 0 rfl dX0_init_19 rfl ?_
  refine pw_bipush dX0_init_20 (by decide) ?_
  refine pw_newI (L := 16) rfl dX0_init_22 kw_118 (by decide) (by decide) (by decide) (by omega) (by omega) (by simp [lvA, lput, lput2, nrf, wct, isl]) (by simp [lvA, lput, lput2, nrf, wct, isl]) ?_
  refine pw_putR 3 dX0_init_24 cOk0 ⟨by omega, by omega, by decide⟩ (by decide) kw_234 (Or.inr ⟨rfl, rfl, rfl⟩) (Or.inr ⟨_, rfl⟩) (by decide) rfl (by omega) (by omega) ?_
  refine pw_aload_n 0 rfl dX0_init_27 rfl ?_
  refine pw_bipush dX0_init_28 (by decide) ?_
  refine pw_newI (L := 16) rfl dX0_init_30 kw_118 (by decide) (by decide) (by decide) (by omega) (by omega) (by simp [lvA, lput, lput2, nrf, wct, isl]) (by simp [lvA, lput, lput2, nrf, wct, isl]) ?_
  refine pw_putR 4 dX0_init_32 cOk0 ⟨by omega, by omega, by decide⟩ (by decide) kw_238 (Or.inr ⟨rfl, rfl, rfl⟩) (Or.inr ⟨_, rfl⟩) (by decide) rfl (by omega) (by omega) ?_
  refine pw_aload_n 0 rfl dX0_init_35 rfl ?_
  refine pw_bipush dX0_init_36 (by decide) ?_
  refine pw_newI (L := 16) rfl dX0_init_38 kw_118 (by decide) (by decide) (by decide) (by omega) (by omega) (by simp [lvA, lput, lput2, nrf, wct, isl]) (by simp [lvA, lput, lput2, nrf, wct, isl]) ?_
  refine pw_putR 5 dX0_init_40 cOk0 ⟨by omega, by omega, by decide⟩ (by decide) kw_241 (Or.inr ⟨rfl, rfl, rfl⟩) (Or.inr ⟨_, rfl⟩) (by decide) rfl (by omega) (by omega) ?_
  refine pw_aload_n 0 rfl dX0_init_43 rfl ?_
  refine pw_bipush dX0_init_44 (by decide) ?_
  refine pw_newI (L := 16) rfl dX0_init_46 kw_118 (by decide) (by decide) (by decide) (by omega) (by omega) (by simp [lvA, lput, lput2, nrf, wct, isl]) (by simp [lvA, lput, lput2, nrf, wct, isl]) ?_
  refine pw_putR 6 dX0_init_48 cOk0 ⟨by omega, by omega, by decide⟩ (by decide) kw_244 (Or.inr ⟨rfl, rfl, rfl⟩) (Or.inr ⟨_, rfl⟩) (by decide) rfl (by omega) (by omega) ?_
  refine pw_aload_n 0 rfl dX0_init_51 rfl ?_
  refine pw_bipush dX0_init_52 (by decide) ?_
  refine pw_newI (L := 16) rfl dX0_init_54 kw_118 (by decide) (by decide) (by decide) (by omega) (by omega) (by simp [lvA, lput, lput2, nrf, wct, isl]) (by simp [lvA, lput, lput2, nrf, wct, isl]) ?_
  refine pw_putR 7 dX0_init_56 cOk0 ⟨by omega, by omega, by decide⟩ (by decide) kw_245 (Or.inr ⟨rfl, rfl, rfl⟩) (Or.inr ⟨_, rfl⟩) (by decide) rfl (by omega) (by omega) ?_
  refine pw_aload_n 0 rfl dX0_init_59 rfl ?_
  refine pw_new dX0_init_60 cOk1 kw_126 kw_127 kw_77 (by decide) (by omega) (by omega) (by simp [lvA, lput, lput2, nrf, wct, isl]) (by simp [lvA, lput, lput2, nrf, wct, isl]) ?_
  refine pw_dup dX0_init_63 rfl ?_
  refine pw_callI (d' := d - 1) (As := []) dX0_init_64 ok_X1_init (Or.inr ⟨_, kw_128⟩) (by omega) (by omega) rfl (Nat.le_of_ble_eq_true rfl) (i_conds23 (d - 1) (by omega) _ _) (by omega) (Or.inr ⟨(by simp [lvA, lput, lput2, nrf, wct, isl]), (by simp [lvA, lput, lput2, nrf, wct, isl])⟩) (fun r ok1 mem1 hq => ?_)
  obtain ⟨rfl, hq1, hq2, hq3, hq4⟩ := hq
  refine pw_putR 8 dX0_init_67 cOk0 ⟨by omega, by omega, by decide⟩ (by decide) kw_246 (Or.inr ⟨rfl, rfl, rfl⟩) (Or.inl ⟨_, rfl⟩) (by decide) rfl (by omega) (by omega) ?_
  refine pw_aload_n 0 rfl dX0_init_70 rfl ?_
  refine pw_new dX0_init_71 cOk3 kw_172 kw_173 kw_78 (by decide) (by omega) (by omega) (by simp [lvA, lput, lput2, nrf, wct, isl]) (by simp [lvA, lput, lput2, nrf, wct, isl]) ?_
  refine pw_dup dX0_init_74 rfl ?_
  refine pw_callI (d' := d - 1) (As := []) dX0_init_75 ok_X3_init (Or.inr ⟨_, kw_174⟩) (by omega) (by omega) rfl (Nat.le_of_ble_eq_true rfl) (i_kept23 (d - 1) (by omega) _ _) (by omega) (Or.inr ⟨(by simp [lvA, lput, lput2, nrf, wct, isl]), (by simp [lvA, lput, lput2, nrf, wct, isl])⟩) (fun r ok2 mem2 hq => ?_)
  obtain ⟨rfl, hk1, hk2, hk3⟩ := hq
  refine pw_putR 9 dX0_init_78 cOk0 ⟨by omega, by omega, by decide⟩ (by decide) kw_249 (Or.inr ⟨rfl, rfl, rfl⟩) (Or.inl ⟨_, rfl⟩) (by decide) rfl (by omega) (by omega) ?_
  refine pw_aload_n 0 rfl dX0_init_81 rfl ?_
  refine pw_aload_n 1 rfl dX0_init_82 rfl ?_
  refine pw_putR 0 dX0_init_83 cOk0 ⟨by omega, by omega, by decide⟩ (by decide) kw_227 (Or.inr ⟨rfl, rfl, rfl⟩) (Or.inl ⟨_, rfl⟩) (by decide) rfl (by omega) (by omega) ?_
  refine pw_okc (okF _ 23) (okE_F (ci := 0) (by decide) (fun k k1 k2 => ?_)) ?_
  · have hk9 : k = 0 ∨ k = 1 ∨ k = 2 ∨ k = 3 ∨ k = 4 ∨ k = 5 ∨ k = 6 ∨ k = 7 ∨ k = 8 ∨ k = 9 := by revert k; decide +kernel
    rcases hk9 with e | e | e | e | e | e | e | e | e | e
    · subst e; rw [okS_t]
    · subst e; rw [okS_i _ _ (by omega), okS_i _ _ (by omega), (hk1 23 (by omega)).1, okZ_o _ (by omega), okS_i _ _ (by omega), (hq1 23 (by omega)).1]; simp [okS, okZ]
    · subst e; rw [okS_i _ _ (by omega), okS_i _ _ (by omega), (hk1 23 (by omega)).1, okZ_o _ (by omega), okS_i _ _ (by omega), (hq1 23 (by omega)).1]; simp [okS, okZ]
    · subst e; rw [okS_i _ _ (by omega), okS_i _ _ (by omega), (hk1 23 (by omega)).1, okZ_o _ (by omega), okS_i _ _ (by omega), (hq1 23 (by omega)).1]; simp [okS, okZ]
    · subst e; rw [okS_i _ _ (by omega), okS_i _ _ (by omega), (hk1 23 (by omega)).1, okZ_o _ (by omega), okS_i _ _ (by omega), (hq1 23 (by omega)).1]; simp [okS, okZ]
    · subst e; rw [okS_i _ _ (by omega), okS_i _ _ (by omega), (hk1 23 (by omega)).1, okZ_o _ (by omega), okS_i _ _ (by omega), (hq1 23 (by omega)).1]; simp [okS, okZ]
    · subst e; rw [okS_i _ _ (by omega), okS_i _ _ (by omega), (hk1 23 (by omega)).1, okZ_o _ (by omega), okS_i _ _ (by omega), (hq1 23 (by omega)).1]; simp [okS, okZ]
    · subst e; rw [okS_i _ _ (by omega), okS_i _ _ (by omega), (hk1 23 (by omega)).1, okZ_o _ (by omega), okS_i _ _ (by omega), (hq1 23 (by omega)).1]; simp [okS, okZ]
    · subst e; rw [okS_i _ _ (by omega), okS_i _ _ (by omega), (hk1 23 (by omega)).1, okZ_o _ (by omega), okS_t]
    · subst e; rw [okS_i _ _ (by omega), okS_t]
  have hokb : ∀ a, a ≠ 23 → okF (okS (okS ok2 23 9) 23 0) 23 a = ok2 a := fun a q => by rw [okF_n _ q, okS_o _ _ q, okS_o _ _ q]
  have hC : ChUp 40 (okF (okS (okS ok2 23 9) 23 0) 23) 23 := ⟨⟨⟨by omega, by omega, by decide⟩, fun k => okF_s _ _ _⟩, ⟨⟨by omega, by omega, by decide, by decide, by omega⟩, ⟨by omega, by omega, by decide, by decide, by omega⟩, ⟨by omega, by omega, by decide, by decide, by omega⟩, ⟨by omega, by omega, by decide, by decide, by omega⟩, ⟨by omega, by omega, by decide, by decide, by omega⟩, ⟨by omega, by omega, by decide, by decide, by omega⟩, ⟨by omega, by omega, by decide, by decide, by omega⟩⟩, ⟨⟨by omega, by omega, by decide⟩, fun k => by rw [hokb _ (by omega), (hk1 _ (by omega)).1, okZ_o _ (by omega), okS_o _ _ (by omega)]; exact hq2 k⟩, ⟨⟨by omega, by omega, by decide, by decide, by omega⟩, ⟨by omega, by omega, by decide, by decide, by omega⟩, ⟨by omega, by omega, by decide, by decide, by omega⟩, ⟨by omega, by omega, by decide, by decide, by omega⟩, ⟨by omega, by omega, by decide, by decide, by omega⟩, ⟨by omega, by omega, by decide, by decide, by omega⟩, ⟨by omega, by omega, by decide, by decide, by omega⟩⟩, ⟨⟨by omega, by omega, by decide⟩, fun k => by rw [hokb _ (by omega)]; exact hk2 k⟩, ⟨by omega, by omega, by decide, by decide, by omega⟩, by omega, by omega⟩
  have hC0 := hC.1
  refine pw_aload_n 0 rfl dX0_init_86 rfl ?_
  refine pw_iconst dX0_init_87 ?_
  refine pw_pI 14 14 rfl dX0_init_88 cOk0 hC0 (by decide) kw_260 rfl rfl (by decide) (by omega) ?_
  have hm2 : ∀ a, a < 39 → mem2 a = mem1 a := fun a ha => by rw [(hk1 a ha).2, zr_a _ (by omega)]
  have hz9 : ∀ a, 23 + 1 ≤ a → a ≤ 23 + 15 → ∀ j, wr mem2 23 14 (-1) a j = 0 := fun a a1 a2 j => by
    rw [wr_a _ _ _ (by omega), hm2 a (by omega)]
    by_cases q : a < 31
    · rw [(hq1 a q).2]
      rcases (show a = 24 ∨ a = 25 ∨ a = 26 ∨ a = 27 ∨ a = 28 ∨ a = 29 ∨ a = 30 by omega) with e | e | e | e | e | e | e <;> (subst e; simp [zr])
    · by_cases q2 : a = 31
      · rw [q2, hq3]; simp [zr]
      · exact hq4 a (by omega) (by omega) j
  have hm1b : ∀ j, mem1 23 j = 0 := fun j => by rw [(hq1 23 (by omega)).2]; simp (disch := omega) only [zr_a]; exact hz j
  have hok2 : ∀ a, a < 23 → ok2 a = ok a := fun a ha => by rw [(hk1 a (by omega)).1, okZ_o _ (by omega), okS_o _ _ (by omega), (hq1 a (by omega)).1]; simp (disch := omega) only [okZ_o, okS_o]
  have hmem2 : ∀ a, a < 23 → mem2 a = mem a := fun a ha => by rw [hm2 a (by omega), (hq1 a (by omega)).2]; simp (disch := omega) only [zr_a]
  refine pw_aload_n 0 rfl dX0_init_91 rfl ?_
  refine pw_callV (d' := d - 1) (As := []) (ci := 0) dX0_init_92 ok_X0_empty kw_189 rfl rfl (Of.o (by assumption)) (by omega) rfl (Nat.le_of_ble_eq_true rfl) (h_empty0 (d - 1) (by omega) 40 _ _ 23 hC hz9) (Nat.le_refl _) (Or.inl rfl) (fun r ok3 mem3 hq => ?_)
  obtain ⟨rfl, rfl, hcm, hS3, hV3⟩ := hq
  refine pw_vret dX0_init_95 rfl rfl ?_
  refine ⟨rfl, fun a ha => ⟨?_, ?_⟩, hC, hS3, hV3, ?_, ?_, ?_, ?_⟩
  · rw [hokb a (by omega)]; exact hok2 a ha
  · rw [hcm.1 a (by omega), wr_a _ _ _ (by omega)]; exact hmem2 a ha
  · rw [hcm.2 13 (by omega) (by omega) (by omega), wr_k _ _ _ _ (by omega), hm2 _ (by omega)]; exact hm1b 13
  · rw [hcm.2 14 (by omega) (by omega) (by omega), wr_s]
  · rw [hcm.1 39 (by omega), wr_a _ _ _ (by omega), hk3]; simp [zr]
  · rw [hcm.1 39 (by omega), wr_a _ _ _ (by omega), hk3]; simp [zr]
set_option maxHeartbeats 4000000 in
set_option maxRecDepth 100000 in
theorem i_chest41 (d : Nat) (hd : 5 ≤ d) (ok : pO) (mem : pM) (hz : ∀ j, mem 41 j = 0) : PM mi_X0_init d [vr 41, vr 2] 41 ok mem 58 (fun r ok' mem' => r = none ∧ (∀ a, a < 41 → ok' a = ok a ∧ mem' a = mem a) ∧ ChUp 58 ok' 41 ∧ CS (zA 4) 0 mem' 41 ∧ CV (zA 4) 0 mem' 41 (fun _ => 0) ∧ mem' 41 13 = 0 ∧ mem' 41 14 = -1 ∧ mem' 57 1 = 0 ∧ mem' 57 2 = 0) := by
  refine PM.of (by decide) (by decide) (by omega) (Nat.le_of_ble_eq_true rfl) ?_
  refine pw_aload_n 0 rfl dX0_init_0 rfl ?_
  refine pw_objInit dX0_init_1 kw_125 kw_94 kw_95 (by omega) (Nat.le_of_ble_eq_true rfl) (by omega) ?_
  refine pw_aload_n 0 rfl dX0_init_4 rfl ?_
  refine pw_iconst dX0_init_5 ?_
  refine pw_newI (L := 4) rfl dX0_init_6 kw_118 (by decide) (by decide) (by decide) (by omega) (by omega) (by simp [lvA, lput, lput2, nrf, wct, isl]) (by simp [lvA, lput, lput2, nrf, wct, isl]) ?_
  refine pw_putR 1 dX0_init_8 cOk0 ⟨by omega, by omega, by decide⟩ (by decide) kw_228 (Or.inr ⟨rfl, rfl, rfl⟩) (Or.inr ⟨_, rfl⟩) (by decide) rfl (by omega) (by omega) ?_
  refine pw_aload_n 0 rfl dX0_init_11 rfl ?_
  refine pw_bipush dX0_init_12 (by decide) ?_
  refine pw_newI (L := 16) rfl dX0_init_14 kw_118 (by decide) (by decide) (by decide) (by omega) (by omega) (by simp [lvA, lput, lput2, nrf, wct, isl]) (by simp [lvA, lput, lput2, nrf, wct, isl]) ?_
  refine pw_putR 2 dX0_init_16 cOk0 ⟨by omega, by omega, by decide⟩ (by decide) kw_230 (Or.inr ⟨rfl, rfl, rfl⟩) (Or.inr ⟨_, rfl⟩) (by decide) rfl (by omega) (by omega) ?_
  refine pw_aload_n 0 rfl dX0_init_19 rfl ?_
  refine pw_bipush dX0_init_20 (by decide) ?_
  refine pw_newI (L := 16) rfl dX0_init_22 kw_118 (by decide) (by decide) (by decide) (by omega) (by omega) (by simp [lvA, lput, lput2, nrf, wct, isl]) (by simp [lvA, lput, lput2, nrf, wct, isl]) ?_
  refine pw_putR 3 dX0_init_24 cOk0 ⟨by omega, by omega, by decide⟩ (by decide) kw_234 (Or.inr ⟨rfl, rfl, rfl⟩) (Or.inr ⟨_, rfl⟩) (by decide) rfl (by omega) (by omega) ?_
  refine pw_aload_n 0 rfl dX0_init_27 rfl ?_
  refine pw_bipush dX0_init_28 (by decide) ?_
  refine pw_newI (L := 16) rfl dX0_init_30 kw_118 (by decide) (by decide) (by decide) (by omega) (by omega) (by simp [lvA, lput, lput2, nrf, wct, isl]) (by simp [lvA, lput, lput2, nrf, wct, isl]) ?_
  refine pw_putR 4 dX0_init_32 cOk0 ⟨by omega, by omega, by decide⟩ (by decide) kw_238 (Or.inr ⟨rfl, rfl, rfl⟩) (Or.inr ⟨_, rfl⟩) (by decide) rfl (by omega) (by omega) ?_
  refine pw_aload_n 0 rfl dX0_init_35 rfl ?_
  refine pw_bipush dX0_init_36 (by decide) ?_
  refine pw_newI (L := 16) rfl dX0_init_38 kw_118 (by decide) (by decide) (by decide) (by omega) (by omega) (by simp [lvA, lput, lput2, nrf, wct, isl]) (by simp [lvA, lput, lput2, nrf, wct, isl]) ?_
  refine pw_putR 5 dX0_init_40 cOk0 ⟨by omega, by omega, by decide⟩ (by decide) kw_241 (Or.inr ⟨rfl, rfl, rfl⟩) (Or.inr ⟨_, rfl⟩) (by decide) rfl (by omega) (by omega) ?_
  refine pw_aload_n 0 rfl dX0_init_43 rfl ?_
  refine pw_bipush dX0_init_44 (by decide) ?_
  refine pw_newI (L := 16) rfl dX0_init_46 kw_118 (by decide) (by decide) (by decide) (by omega) (by omega) (by simp [lvA, lput, lput2, nrf, wct, isl]) (by simp [lvA, lput, lput2, nrf, wct, isl]) ?_
  refine pw_putR 6 dX0_init_48 cOk0 ⟨by omega, by omega, by decide⟩ (by decide) kw_244 (Or.inr ⟨rfl, rfl, rfl⟩) (Or.inr ⟨_, rfl⟩) (by decide) rfl (by omega) (by omega) ?_
  refine pw_aload_n 0 rfl dX0_init_51 rfl ?_
  refine pw_bipush dX0_init_52 (by decide) ?_
  refine pw_newI (L := 16) rfl dX0_init_54 kw_118 (by decide) (by decide) (by decide) (by omega) (by omega) (by simp [lvA, lput, lput2, nrf, wct, isl]) (by simp [lvA, lput, lput2, nrf, wct, isl]) ?_
  refine pw_putR 7 dX0_init_56 cOk0 ⟨by omega, by omega, by decide⟩ (by decide) kw_245 (Or.inr ⟨rfl, rfl, rfl⟩) (Or.inr ⟨_, rfl⟩) (by decide) rfl (by omega) (by omega) ?_
  refine pw_aload_n 0 rfl dX0_init_59 rfl ?_
  refine pw_new dX0_init_60 cOk1 kw_126 kw_127 kw_77 (by decide) (by omega) (by omega) (by simp [lvA, lput, lput2, nrf, wct, isl]) (by simp [lvA, lput, lput2, nrf, wct, isl]) ?_
  refine pw_dup dX0_init_63 rfl ?_
  refine pw_callI (d' := d - 1) (As := []) dX0_init_64 ok_X1_init (Or.inr ⟨_, kw_128⟩) (by omega) (by omega) rfl (Nat.le_of_ble_eq_true rfl) (i_conds41 (d - 1) (by omega) _ _) (by omega) (Or.inr ⟨(by simp [lvA, lput, lput2, nrf, wct, isl]), (by simp [lvA, lput, lput2, nrf, wct, isl])⟩) (fun r ok1 mem1 hq => ?_)
  obtain ⟨rfl, hq1, hq2, hq3, hq4⟩ := hq
  refine pw_putR 8 dX0_init_67 cOk0 ⟨by omega, by omega, by decide⟩ (by decide) kw_246 (Or.inr ⟨rfl, rfl, rfl⟩) (Or.inl ⟨_, rfl⟩) (by decide) rfl (by omega) (by omega) ?_
  refine pw_aload_n 0 rfl dX0_init_70 rfl ?_
  refine pw_new dX0_init_71 cOk3 kw_172 kw_173 kw_78 (by decide) (by omega) (by omega) (by simp [lvA, lput, lput2, nrf, wct, isl]) (by simp [lvA, lput, lput2, nrf, wct, isl]) ?_
  refine pw_dup dX0_init_74 rfl ?_
  refine pw_callI (d' := d - 1) (As := []) dX0_init_75 ok_X3_init (Or.inr ⟨_, kw_174⟩) (by omega) (by omega) rfl (Nat.le_of_ble_eq_true rfl) (i_kept41 (d - 1) (by omega) _ _) (by omega) (Or.inr ⟨(by simp [lvA, lput, lput2, nrf, wct, isl]), (by simp [lvA, lput, lput2, nrf, wct, isl])⟩) (fun r ok2 mem2 hq => ?_)
  obtain ⟨rfl, hk1, hk2, hk3⟩ := hq
  refine pw_putR 9 dX0_init_78 cOk0 ⟨by omega, by omega, by decide⟩ (by decide) kw_249 (Or.inr ⟨rfl, rfl, rfl⟩) (Or.inl ⟨_, rfl⟩) (by decide) rfl (by omega) (by omega) ?_
  refine pw_aload_n 0 rfl dX0_init_81 rfl ?_
  refine pw_aload_n 1 rfl dX0_init_82 rfl ?_
  refine pw_putR 0 dX0_init_83 cOk0 ⟨by omega, by omega, by decide⟩ (by decide) kw_227 (Or.inr ⟨rfl, rfl, rfl⟩) (Or.inl ⟨_, rfl⟩) (by decide) rfl (by omega) (by omega) ?_
  refine pw_okc (okF _ 41) (okE_F (ci := 0) (by decide) (fun k k1 k2 => ?_)) ?_
  · have hk9 : k = 0 ∨ k = 1 ∨ k = 2 ∨ k = 3 ∨ k = 4 ∨ k = 5 ∨ k = 6 ∨ k = 7 ∨ k = 8 ∨ k = 9 := by revert k; decide +kernel
    rcases hk9 with e | e | e | e | e | e | e | e | e | e
    · subst e; rw [okS_t]
    · subst e; rw [okS_i _ _ (by omega), okS_i _ _ (by omega), (hk1 41 (by omega)).1, okZ_o _ (by omega), okS_i _ _ (by omega), (hq1 41 (by omega)).1]; simp [okS, okZ]
    · subst e; rw [okS_i _ _ (by omega), okS_i _ _ (by omega), (hk1 41 (by omega)).1, okZ_o _ (by omega), okS_i _ _ (by omega), (hq1 41 (by omega)).1]; simp [okS, okZ]
    · subst e; rw [okS_i _ _ (by omega), okS_i _ _ (by omega), (hk1 41 (by omega)).1, okZ_o _ (by omega), okS_i _ _ (by omega), (hq1 41 (by omega)).1]; simp [okS, okZ]
    · subst e; rw [okS_i _ _ (by omega), okS_i _ _ (by omega), (hk1 41 (by omega)).1, okZ_o _ (by omega), okS_i _ _ (by omega), (hq1 41 (by omega)).1]; simp [okS, okZ]
    · subst e; rw [okS_i _ _ (by omega), okS_i _ _ (by omega), (hk1 41 (by omega)).1, okZ_o _ (by omega), okS_i _ _ (by omega), (hq1 41 (by omega)).1]; simp [okS, okZ]
    · subst e; rw [okS_i _ _ (by omega), okS_i _ _ (by omega), (hk1 41 (by omega)).1, okZ_o _ (by omega), okS_i _ _ (by omega), (hq1 41 (by omega)).1]; simp [okS, okZ]
    · subst e; rw [okS_i _ _ (by omega), okS_i _ _ (by omega), (hk1 41 (by omega)).1, okZ_o _ (by omega), okS_i _ _ (by omega), (hq1 41 (by omega)).1]; simp [okS, okZ]
    · subst e; rw [okS_i _ _ (by omega), okS_i _ _ (by omega), (hk1 41 (by omega)).1, okZ_o _ (by omega), okS_t]
    · subst e; rw [okS_i _ _ (by omega), okS_t]
  have hokb : ∀ a, a ≠ 41 → okF (okS (okS ok2 41 9) 41 0) 41 a = ok2 a := fun a q => by rw [okF_n _ q, okS_o _ _ q, okS_o _ _ q]
  have hC : ChUp 58 (okF (okS (okS ok2 41 9) 41 0) 41) 41 := ⟨⟨⟨by omega, by omega, by decide⟩, fun k => okF_s _ _ _⟩, ⟨⟨by omega, by omega, by decide, by decide, by omega⟩, ⟨by omega, by omega, by decide, by decide, by omega⟩, ⟨by omega, by omega, by decide, by decide, by omega⟩, ⟨by omega, by omega, by decide, by decide, by omega⟩, ⟨by omega, by omega, by decide, by decide, by omega⟩, ⟨by omega, by omega, by decide, by decide, by omega⟩, ⟨by omega, by omega, by decide, by decide, by omega⟩⟩, ⟨⟨by omega, by omega, by decide⟩, fun k => by rw [hokb _ (by omega), (hk1 _ (by omega)).1, okZ_o _ (by omega), okS_o _ _ (by omega)]; exact hq2 k⟩, ⟨⟨by omega, by omega, by decide, by decide, by omega⟩, ⟨by omega, by omega, by decide, by decide, by omega⟩, ⟨by omega, by omega, by decide, by decide, by omega⟩, ⟨by omega, by omega, by decide, by decide, by omega⟩, ⟨by omega, by omega, by decide, by decide, by omega⟩, ⟨by omega, by omega, by decide, by decide, by omega⟩, ⟨by omega, by omega, by decide, by decide, by omega⟩⟩, ⟨⟨by omega, by omega, by decide⟩, fun k => by rw [hokb _ (by omega)]; exact hk2 k⟩, ⟨by omega, by omega, by decide, by decide, by omega⟩, by omega, by omega⟩
  have hC0 := hC.1
  refine pw_aload_n 0 rfl dX0_init_86 rfl ?_
  refine pw_iconst dX0_init_87 ?_
  refine pw_pI 14 14 rfl dX0_init_88 cOk0 hC0 (by decide) kw_260 rfl rfl (by decide) (by omega) ?_
  have hm2 : ∀ a, a < 57 → mem2 a = mem1 a := fun a ha => by rw [(hk1 a ha).2, zr_a _ (by omega)]
  have hz9 : ∀ a, 41 + 1 ≤ a → a ≤ 41 + 15 → ∀ j, wr mem2 41 14 (-1) a j = 0 := fun a a1 a2 j => by
    rw [wr_a _ _ _ (by omega), hm2 a (by omega)]
    by_cases q : a < 49
    · rw [(hq1 a q).2]
      rcases (show a = 42 ∨ a = 43 ∨ a = 44 ∨ a = 45 ∨ a = 46 ∨ a = 47 ∨ a = 48 by omega) with e | e | e | e | e | e | e <;> (subst e; simp [zr])
    · by_cases q2 : a = 49
      · rw [q2, hq3]; simp [zr]
      · exact hq4 a (by omega) (by omega) j
  have hm1b : ∀ j, mem1 41 j = 0 := fun j => by rw [(hq1 41 (by omega)).2]; simp (disch := omega) only [zr_a]; exact hz j
  have hok2 : ∀ a, a < 41 → ok2 a = ok a := fun a ha => by rw [(hk1 a (by omega)).1, okZ_o _ (by omega), okS_o _ _ (by omega), (hq1 a (by omega)).1]; simp (disch := omega) only [okZ_o, okS_o]
  have hmem2 : ∀ a, a < 41 → mem2 a = mem a := fun a ha => by rw [hm2 a (by omega), (hq1 a (by omega)).2]; simp (disch := omega) only [zr_a]
  refine pw_aload_n 0 rfl dX0_init_91 rfl ?_
  refine pw_callV (d' := d - 1) (As := []) (ci := 0) dX0_init_92 ok_X0_empty kw_189 rfl rfl (Of.o (by assumption)) (by omega) rfl (Nat.le_of_ble_eq_true rfl) (h_empty0 (d - 1) (by omega) 58 _ _ 41 hC hz9) (Nat.le_refl _) (Or.inl rfl) (fun r ok3 mem3 hq => ?_)
  obtain ⟨rfl, rfl, hcm, hS3, hV3⟩ := hq
  refine pw_vret dX0_init_95 rfl rfl ?_
  refine ⟨rfl, fun a ha => ⟨?_, ?_⟩, hC, hS3, hV3, ?_, ?_, ?_, ?_⟩
  · rw [hokb a (by omega)]; exact hok2 a ha
  · rw [hcm.1 a (by omega), wr_a _ _ _ (by omega)]; exact hmem2 a ha
  · rw [hcm.2 13 (by omega) (by omega) (by omega), wr_k _ _ _ _ (by omega), hm2 _ (by omega)]; exact hm1b 13
  · rw [hcm.2 14 (by omega) (by omega) (by omega), wr_s]
  · rw [hcm.1 57 (by omega), wr_a _ _ _ (by omega), hk3]; simp [zr]
  · rw [hcm.1 57 (by omega), wr_a _ _ _ (by omega), hk3]; simp [zr]
set_option maxHeartbeats 4000000 in
set_option maxRecDepth 100000 in
theorem i_chest59 (d : Nat) (hd : 5 ≤ d) (ok : pO) (mem : pM) (hz : ∀ j, mem 59 j = 0) : PM mi_X0_init d [vr 59, vr 2] 59 ok mem 76 (fun r ok' mem' => r = none ∧ (∀ a, a < 59 → ok' a = ok a ∧ mem' a = mem a) ∧ ChUp 76 ok' 59 ∧ CS (zA 4) 0 mem' 59 ∧ CV (zA 4) 0 mem' 59 (fun _ => 0) ∧ mem' 59 13 = 0 ∧ mem' 59 14 = -1 ∧ mem' 75 1 = 0 ∧ mem' 75 2 = 0) := by
  refine PM.of (by decide) (by decide) (by omega) (Nat.le_of_ble_eq_true rfl) ?_
  refine pw_aload_n 0 rfl dX0_init_0 rfl ?_
  refine pw_objInit dX0_init_1 kw_125 kw_94 kw_95 (by omega) (Nat.le_of_ble_eq_true rfl) (by omega) ?_
  refine pw_aload_n 0 rfl dX0_init_4 rfl ?_
  refine pw_iconst dX0_init_5 ?_
  refine pw_newI (L := 4) rfl dX0_init_6 kw_118 (by decide) (by decide) (by decide) (by omega) (by omega) (by simp [lvA, lput, lput2, nrf, wct, isl]) (by simp [lvA, lput, lput2, nrf, wct, isl]) ?_
  refine pw_putR 1 dX0_init_8 cOk0 ⟨by omega, by omega, by decide⟩ (by decide) kw_228 (Or.inr ⟨rfl, rfl, rfl⟩) (Or.inr ⟨_, rfl⟩) (by decide) rfl (by omega) (by omega) ?_
  refine pw_aload_n 0 rfl dX0_init_11 rfl ?_
  refine pw_bipush dX0_init_12 (by decide) ?_
  refine pw_newI (L := 16) rfl dX0_init_14 kw_118 (by decide) (by decide) (by decide) (by omega) (by omega) (by simp [lvA, lput, lput2, nrf, wct, isl]) (by simp [lvA, lput, lput2, nrf, wct, isl]) ?_
  refine pw_putR 2 dX0_init_16 cOk0 ⟨by omega, by omega, by decide⟩ (by decide) kw_230 (Or.inr ⟨rfl, rfl, rfl⟩) (Or.inr ⟨_, rfl⟩) (by decide) rfl (by omega) (by omega) ?_
  refine pw_aload_n 0 rfl dX0_init_19 rfl ?_
  refine pw_bipush dX0_init_20 (by decide) ?_
  refine pw_newI (L := 16) rfl dX0_init_22 kw_118 (by decide) (by decide) (by decide) (by omega) (by omega) (by simp [lvA, lput, lput2, nrf, wct, isl]) (by simp [lvA, lput, lput2, nrf, wct, isl]) ?_
  refine pw_putR 3 dX0_init_24 cOk0 ⟨by omega, by omega, by decide⟩ (by decide) kw_234 (Or.inr ⟨rfl, rfl, rfl⟩) (Or.inr ⟨_, rfl⟩) (by decide) rfl (by omega) (by omega) ?_
  refine pw_aload_n 0 rfl dX0_init_27 rfl ?_
  refine pw_bipush dX0_init_28 (by decide) ?_
  refine pw_newI (L := 16) rfl dX0_init_30 kw_118 (by decide) (by decide) (by decide) (by omega) (by omega) (by simp [lvA, lput, lput2, nrf, wct, isl]) (by simp [lvA, lput, lput2, nrf, wct, isl]) ?_
  refine pw_putR 4 dX0_init_32 cOk0 ⟨by omega, by omega, by decide⟩ (by decide) kw_238 (Or.inr ⟨rfl, rfl, rfl⟩) (Or.inr ⟨_, rfl⟩) (by decide) rfl (by omega) (by omega) ?_
  refine pw_aload_n 0 rfl dX0_init_35 rfl ?_
  refine pw_bipush dX0_init_36 (by decide) ?_
  refine pw_newI (L := 16) rfl dX0_init_38 kw_118 (by decide) (by decide) (by decide) (by omega) (by omega) (by simp [lvA, lput, lput2, nrf, wct, isl]) (by simp [lvA, lput, lput2, nrf, wct, isl]) ?_
  refine pw_putR 5 dX0_init_40 cOk0 ⟨by omega, by omega, by decide⟩ (by decide) kw_241 (Or.inr ⟨rfl, rfl, rfl⟩) (Or.inr ⟨_, rfl⟩) (by decide) rfl (by omega) (by omega) ?_
  refine pw_aload_n 0 rfl dX0_init_43 rfl ?_
  refine pw_bipush dX0_init_44 (by decide) ?_
  refine pw_newI (L := 16) rfl dX0_init_46 kw_118 (by decide) (by decide) (by decide) (by omega) (by omega) (by simp [lvA, lput, lput2, nrf, wct, isl]) (by simp [lvA, lput, lput2, nrf, wct, isl]) ?_
  refine pw_putR 6 dX0_init_48 cOk0 ⟨by omega, by omega, by decide⟩ (by decide) kw_244 (Or.inr ⟨rfl, rfl, rfl⟩) (Or.inr ⟨_, rfl⟩) (by decide) rfl (by omega) (by omega) ?_
  refine pw_aload_n 0 rfl dX0_init_51 rfl ?_
  refine pw_bipush dX0_init_52 (by decide) ?_
  refine pw_newI (L := 16) rfl dX0_init_54 kw_118 (by decide) (by decide) (by decide) (by omega) (by omega) (by simp [lvA, lput, lput2, nrf, wct, isl]) (by simp [lvA, lput, lput2, nrf, wct, isl]) ?_
  refine pw_putR 7 dX0_init_56 cOk0 ⟨by omega, by omega, by decide⟩ (by decide) kw_245 (Or.inr ⟨rfl, rfl, rfl⟩) (Or.inr ⟨_, rfl⟩) (by decide) rfl (by omega) (by omega) ?_
  refine pw_aload_n 0 rfl dX0_init_59 rfl ?_
  refine pw_new dX0_init_60 cOk1 kw_126 kw_127 kw_77 (by decide) (by omega) (by omega) (by simp [lvA, lput, lput2, nrf, wct, isl]) (by simp [lvA, lput, lput2, nrf, wct, isl]) ?_
  refine pw_dup dX0_init_63 rfl ?_
  refine pw_callI (d' := d - 1) (As := []) dX0_init_64 ok_X1_init (Or.inr ⟨_, kw_128⟩) (by omega) (by omega) rfl (Nat.le_of_ble_eq_true rfl) (i_conds59 (d - 1) (by omega) _ _) (by omega) (Or.inr ⟨(by simp [lvA, lput, lput2, nrf, wct, isl]), (by simp [lvA, lput, lput2, nrf, wct, isl])⟩) (fun r ok1 mem1 hq => ?_)
  obtain ⟨rfl, hq1, hq2, hq3, hq4⟩ := hq
  refine pw_putR 8 dX0_init_67 cOk0 ⟨by omega, by omega, by decide⟩ (by decide) kw_246 (Or.inr ⟨rfl, rfl, rfl⟩) (Or.inl ⟨_, rfl⟩) (by decide) rfl (by omega) (by omega) ?_
  refine pw_aload_n 0 rfl dX0_init_70 rfl ?_
  refine pw_new dX0_init_71 cOk3 kw_172 kw_173 kw_78 (by decide) (by omega) (by omega) (by simp [lvA, lput, lput2, nrf, wct, isl]) (by simp [lvA, lput, lput2, nrf, wct, isl]) ?_
  refine pw_dup dX0_init_74 rfl ?_
  refine pw_callI (d' := d - 1) (As := []) dX0_init_75 ok_X3_init (Or.inr ⟨_, kw_174⟩) (by omega) (by omega) rfl (Nat.le_of_ble_eq_true rfl) (i_kept59 (d - 1) (by omega) _ _) (by omega) (Or.inr ⟨(by simp [lvA, lput, lput2, nrf, wct, isl]), (by simp [lvA, lput, lput2, nrf, wct, isl])⟩) (fun r ok2 mem2 hq => ?_)
  obtain ⟨rfl, hk1, hk2, hk3⟩ := hq
  refine pw_putR 9 dX0_init_78 cOk0 ⟨by omega, by omega, by decide⟩ (by decide) kw_249 (Or.inr ⟨rfl, rfl, rfl⟩) (Or.inl ⟨_, rfl⟩) (by decide) rfl (by omega) (by omega) ?_
  refine pw_aload_n 0 rfl dX0_init_81 rfl ?_
  refine pw_aload_n 1 rfl dX0_init_82 rfl ?_
  refine pw_putR 0 dX0_init_83 cOk0 ⟨by omega, by omega, by decide⟩ (by decide) kw_227 (Or.inr ⟨rfl, rfl, rfl⟩) (Or.inl ⟨_, rfl⟩) (by decide) rfl (by omega) (by omega) ?_
  refine pw_okc (okF _ 59) (okE_F (ci := 0) (by decide) (fun k k1 k2 => ?_)) ?_
  · have hk9 : k = 0 ∨ k = 1 ∨ k = 2 ∨ k = 3 ∨ k = 4 ∨ k = 5 ∨ k = 6 ∨ k = 7 ∨ k = 8 ∨ k = 9 := by revert k; decide +kernel
    rcases hk9 with e | e | e | e | e | e | e | e | e | e
    · subst e; rw [okS_t]
    · subst e; rw [okS_i _ _ (by omega), okS_i _ _ (by omega), (hk1 59 (by omega)).1, okZ_o _ (by omega), okS_i _ _ (by omega), (hq1 59 (by omega)).1]; simp [okS, okZ]
    · subst e; rw [okS_i _ _ (by omega), okS_i _ _ (by omega), (hk1 59 (by omega)).1, okZ_o _ (by omega), okS_i _ _ (by omega), (hq1 59 (by omega)).1]; simp [okS, okZ]
    · subst e; rw [okS_i _ _ (by omega), okS_i _ _ (by omega), (hk1 59 (by omega)).1, okZ_o _ (by omega), okS_i _ _ (by omega), (hq1 59 (by omega)).1]; simp [okS, okZ]
    · subst e; rw [okS_i _ _ (by omega), okS_i _ _ (by omega), (hk1 59 (by omega)).1, okZ_o _ (by omega), okS_i _ _ (by omega), (hq1 59 (by omega)).1]; simp [okS, okZ]
    · subst e; rw [okS_i _ _ (by omega), okS_i _ _ (by omega), (hk1 59 (by omega)).1, okZ_o _ (by omega), okS_i _ _ (by omega), (hq1 59 (by omega)).1]; simp [okS, okZ]
    · subst e; rw [okS_i _ _ (by omega), okS_i _ _ (by omega), (hk1 59 (by omega)).1, okZ_o _ (by omega), okS_i _ _ (by omega), (hq1 59 (by omega)).1]; simp [okS, okZ]
    · subst e; rw [okS_i _ _ (by omega), okS_i _ _ (by omega), (hk1 59 (by omega)).1, okZ_o _ (by omega), okS_i _ _ (by omega), (hq1 59 (by omega)).1]; simp [okS, okZ]
    · subst e; rw [okS_i _ _ (by omega), okS_i _ _ (by omega), (hk1 59 (by omega)).1, okZ_o _ (by omega), okS_t]
    · subst e; rw [okS_i _ _ (by omega), okS_t]
  have hokb : ∀ a, a ≠ 59 → okF (okS (okS ok2 59 9) 59 0) 59 a = ok2 a := fun a q => by rw [okF_n _ q, okS_o _ _ q, okS_o _ _ q]
  have hC : ChUp 76 (okF (okS (okS ok2 59 9) 59 0) 59) 59 := ⟨⟨⟨by omega, by omega, by decide⟩, fun k => okF_s _ _ _⟩, ⟨⟨by omega, by omega, by decide, by decide, by omega⟩, ⟨by omega, by omega, by decide, by decide, by omega⟩, ⟨by omega, by omega, by decide, by decide, by omega⟩, ⟨by omega, by omega, by decide, by decide, by omega⟩, ⟨by omega, by omega, by decide, by decide, by omega⟩, ⟨by omega, by omega, by decide, by decide, by omega⟩, ⟨by omega, by omega, by decide, by decide, by omega⟩⟩, ⟨⟨by omega, by omega, by decide⟩, fun k => by rw [hokb _ (by omega), (hk1 _ (by omega)).1, okZ_o _ (by omega), okS_o _ _ (by omega)]; exact hq2 k⟩, ⟨⟨by omega, by omega, by decide, by decide, by omega⟩, ⟨by omega, by omega, by decide, by decide, by omega⟩, ⟨by omega, by omega, by decide, by decide, by omega⟩, ⟨by omega, by omega, by decide, by decide, by omega⟩, ⟨by omega, by omega, by decide, by decide, by omega⟩, ⟨by omega, by omega, by decide, by decide, by omega⟩, ⟨by omega, by omega, by decide, by decide, by omega⟩⟩, ⟨⟨by omega, by omega, by decide⟩, fun k => by rw [hokb _ (by omega)]; exact hk2 k⟩, ⟨by omega, by omega, by decide, by decide, by omega⟩, by omega, by omega⟩
  have hC0 := hC.1
  refine pw_aload_n 0 rfl dX0_init_86 rfl ?_
  refine pw_iconst dX0_init_87 ?_
  refine pw_pI 14 14 rfl dX0_init_88 cOk0 hC0 (by decide) kw_260 rfl rfl (by decide) (by omega) ?_
  have hm2 : ∀ a, a < 75 → mem2 a = mem1 a := fun a ha => by rw [(hk1 a ha).2, zr_a _ (by omega)]
  have hz9 : ∀ a, 59 + 1 ≤ a → a ≤ 59 + 15 → ∀ j, wr mem2 59 14 (-1) a j = 0 := fun a a1 a2 j => by
    rw [wr_a _ _ _ (by omega), hm2 a (by omega)]
    by_cases q : a < 67
    · rw [(hq1 a q).2]
      rcases (show a = 60 ∨ a = 61 ∨ a = 62 ∨ a = 63 ∨ a = 64 ∨ a = 65 ∨ a = 66 by omega) with e | e | e | e | e | e | e <;> (subst e; simp [zr])
    · by_cases q2 : a = 67
      · rw [q2, hq3]; simp [zr]
      · exact hq4 a (by omega) (by omega) j
  have hm1b : ∀ j, mem1 59 j = 0 := fun j => by rw [(hq1 59 (by omega)).2]; simp (disch := omega) only [zr_a]; exact hz j
  have hok2 : ∀ a, a < 59 → ok2 a = ok a := fun a ha => by rw [(hk1 a (by omega)).1, okZ_o _ (by omega), okS_o _ _ (by omega), (hq1 a (by omega)).1]; simp (disch := omega) only [okZ_o, okS_o]
  have hmem2 : ∀ a, a < 59 → mem2 a = mem a := fun a ha => by rw [hm2 a (by omega), (hq1 a (by omega)).2]; simp (disch := omega) only [zr_a]
  refine pw_aload_n 0 rfl dX0_init_91 rfl ?_
  refine pw_callV (d' := d - 1) (As := []) (ci := 0) dX0_init_92 ok_X0_empty kw_189 rfl rfl (Of.o (by assumption)) (by omega) rfl (Nat.le_of_ble_eq_true rfl) (h_empty0 (d - 1) (by omega) 76 _ _ 59 hC hz9) (Nat.le_refl _) (Or.inl rfl) (fun r ok3 mem3 hq => ?_)
  obtain ⟨rfl, rfl, hcm, hS3, hV3⟩ := hq
  refine pw_vret dX0_init_95 rfl rfl ?_
  refine ⟨rfl, fun a ha => ⟨?_, ?_⟩, hC, hS3, hV3, ?_, ?_, ?_, ?_⟩
  · rw [hokb a (by omega)]; exact hok2 a ha
  · rw [hcm.1 a (by omega), wr_a _ _ _ (by omega)]; exact hmem2 a ha
  · rw [hcm.2 13 (by omega) (by omega) (by omega), wr_k _ _ _ _ (by omega), hm2 _ (by omega)]; exact hm1b 13
  · rw [hcm.2 14 (by omega) (by omega) (by omega), wr_s]
  · rw [hcm.1 75 (by omega), wr_a _ _ _ (by omega), hk3]; simp [zr]
  · rw [hcm.1 75 (by omega), wr_a _ _ _ (by omega), hk3]; simp [zr]
set_option maxHeartbeats 4000000 in
set_option maxRecDepth 100000 in
theorem i_draws (d : Nat) (hd : 1 ≤ d) (ok : pO) (mem : pM) : PM mi_X2_init d [vr 77] 77 ok mem 77 (fun r ok' mem' => r = none ∧ ok = ok' ∧ mem = mem') := by
  refine PM.of (by decide) (by decide) (by omega) (Nat.le_of_ble_eq_true rfl) ?_
  refine pw_aload_n 0 rfl dX2_init_0 rfl ?_
  refine pw_objInit dX2_init_1 kw_299 kw_94 kw_95 (by omega) (Nat.le_of_ble_eq_true rfl) (by omega) ?_
  refine pw_vret dX2_init_4 rfl rfl ?_
  exact ⟨rfl, rfl, rfl⟩
set_option maxHeartbeats 4000000 in
set_option maxRecDepth 100000 in
theorem i_marks (d : Nat) (hd : 2 ≤ d) (ok : pO) (mem : pM) : PM mi_X4_init d [vr 78] 78 ok mem 79 (fun r ok' mem' => r = none ∧ (∀ a, a < 78 → ok' a = ok a ∧ mem' a = mem a) ∧ MUp 79 ok' ∧ mem' 78 1 = -1 ∧ mem' 78 2 = -1 ∧ mem' 78 3 = -1 ∧ ∀ j, mem' 79 j = 0) := by
  refine PM.of (by decide) (by decide) (by omega) (Nat.le_of_ble_eq_true rfl) ?_
  refine pw_aload_n 0 rfl dX4_init_0 rfl ?_
  refine pw_objInit dX4_init_1 kw_309 kw_94 kw_95 (by omega) (Nat.le_of_ble_eq_true rfl) (by omega) ?_
  refine pw_aload_n 0 rfl dX4_init_4 rfl ?_
  refine pw_sipush dX4_init_5 (by decide) ?_
  refine pw_newZ (L := 1024) rfl dX4_init_8 kw_331 (by decide) (by decide) (by decide) (by omega) (by omega) (by simp [lvA, lput, lput2, nrf, wct, isl]) (by simp [lvA, lput, lput2, nrf, wct, isl]) ?_
  refine pw_putR 0 dX4_init_10 cOk4 ⟨by omega, by omega, by decide⟩ (by decide) kw_314 (Or.inr ⟨rfl, rfl, rfl⟩) (Or.inr ⟨_, rfl⟩) (by decide) rfl (by omega) (by omega) ?_
  refine pw_okc (okF _ 78) (okE_F (ci := 4) (by decide) (fun k k1 k2 => ?_)) ?_
  · have hk2 : k = 0 := by revert k; decide +kernel
    subst hk2; rw [okS_t]
  have hM : MUp 79 (okF (okS (okZ ok 79) 78 0) 78) := ⟨⟨⟨by omega, by omega, by decide⟩, fun k => okF_s _ _ _⟩, ⟨by omega, by omega, by decide, by decide, by omega⟩⟩
  have hM4 := hM.1
  refine pw_aload_n 0 rfl dX4_init_13 rfl ?_
  refine pw_iconst dX4_init_14 ?_
  refine pw_iconst dX4_init_15 ?_
  refine pw_iconst dX4_init_16 ?_
  refine pw_callV (d' := d - 1) (As := [_, _, _]) (ci := 4) dX4_init_17 ok_X4_noteLook kw_310 rfl rfl (Of.o (by assumption)) (by omega) rfl (Nat.le_of_ble_eq_true rfl) (k_noteLook (d - 1) (by omega) 79 _ _ hM (-1) (-1) (-1) (by omega) (by omega) (by omega)) (Nat.le_refl _) (Or.inl rfl) (fun r ok1 mem1 hq => ?_)
  obtain ⟨rfl, rfl, rfl⟩ := hq
  refine pw_vret dX4_init_20 rfl rfl ?_
  have hv := lkM_v (zr mem 79) (-1) (-1) (-1)
  refine ⟨rfl, fun a ha => ⟨?_, ?_⟩, hM, hv.1, hv.2.1, hv.2.2, fun j => ?_⟩
  · rw [okF_n _ (by omega), okS_o _ _ (by omega), okZ_o _ (by omega)]
  · rw [lkM_a _ _ _ _ _ (by omega), zr_a _ (by omega)]
  · rw [lkM_a _ _ _ _ _ (by omega), zr_s]
