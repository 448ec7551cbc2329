/-! ===== the two objects of a run ===== -/
def IC (m : pM) : Prop := (m 1 10 = 0 ∧ m 1 11 = 0 ∧ m 1 13 = 0 ∧ m 1 14 = -1 ∧ m 1 15 = 0 ∧ m 1 16 = 0) ∧ (m 2 1 = 0 ∧ m 2 2 = 0 ∧ m 2 3 = 0) ∧ (∀ b : Nat, b = 5 ∨ b = 23 ∨ b = 41 ∨ b = 59 → CS (zA 4) 0 m b ∧ CV (zA 4) 0 m b (fun _ => 0) ∧ m b 13 = 0 ∧ m b 14 = -1 ∧ m (b + 16) 1 = 0 ∧ m (b + 16) 2 = 0) ∧ (m 78 1 = -1 ∧ m 78 2 = -1 ∧ m 78 3 = -1 ∧ ∀ j, m 79 j = 0) ∧ m 80 1 = 0
def IR (m : pM) : Prop := (∀ j, 0 ≤ j → j < 12 → m 89 j = -1) ∧ (∀ j, 0 ≤ j → j < 48 → m 90 j = -1) ∧ (∀ c, 0 ≤ c → c ≤ 2 → m 94 c = 0 ∧ m 99 c = 0 ∧ m 100 c = -1 ∧ m 101 c = 0) ∧ (∀ j, m 119 j = 0) ∧ (m 88 0 = 0 ∧ m 88 1 = 0 ∧ m 88 2 = 0 ∧ m 88 3 = 0 ∧ m 88 19 = 0 ∧ m 88 24 = 0 ∧ m 88 28 = 0 ∧ m 88 29 = -1 ∧ m 88 30 = 0 ∧ m 88 31 = 0 ∧ m 88 44 = 0) ∧ m 88 50 = -1 ∧ m 88 51 = -1 ∧ m 88 52 = -1 ∧ m 88 56 = 0
theorem rEmp_v (m : pM) (c : Int) : (∀ j, rEmp m c 89 j = if 4 * c ≤ j ∧ j < 4 * c + 4 then -1 else m 89 j) ∧ (∀ j, rEmp m c 90 j = if 16 * c ≤ j ∧ j < 16 * c + 16 then -1 else m 90 j) ∧ (∀ j, rEmp m c 94 j = if j = c then 0 else m 94 j) ∧ (∀ j, rEmp m c 99 j = if j = c then 0 else m 99 j) ∧ (∀ j, rEmp m c 100 j = if j = c then -1 else m 100 j) ∧ (∀ j, rEmp m c 101 j = if j = c then 0 else m 101 j) ∧ ∀ a, a ≠ 89 → a ≠ 90 → a ≠ 94 → a ≠ 99 → a ≠ 100 → a ≠ 101 → rEmp m c a = m a := by
  refine ⟨fun j => ?_, fun j => ?_, fun j => ?_, fun j => ?_, fun j => ?_, fun j => ?_, fun a a1 a2 a3 a4 a5 a6 => by unfold rEmp; rw [wr_a _ _ _ a6, wr_a _ _ _ a5, wr_a _ _ _ a4, wr_a _ _ _ a3, fiM_a _ _ _ _ a2, fiM_a _ _ _ _ a1]⟩ <;>
  (unfold rEmp wr fiM; (repeat' split) <;> first | rfl | (exfalso; omega))
theorem IR_of {M : pM} (h : (∀ j, M 119 j = 0) ∧ (M 88 0 = 0 ∧ M 88 1 = 0 ∧ M 88 2 = 0 ∧ M 88 3 = 0 ∧ M 88 19 = 0 ∧ M 88 24 = 0 ∧ M 88 28 = 0 ∧ M 88 29 = -1 ∧ M 88 30 = 0 ∧ M 88 31 = 0 ∧ M 88 44 = 0) ∧ M 88 50 = -1 ∧ M 88 51 = -1 ∧ M 88 52 = -1 ∧ M 88 56 = 0) : IR (rEmp (rEmp (rEmp M 0) (0 + 1)) (0 + 1 + 1)) := by
  have v0 := rEmp_v M 0
  have v1 := rEmp_v (rEmp M 0) (0 + 1)
  have v2 := rEmp_v (rEmp (rEmp M 0) (0 + 1)) (0 + 1 + 1)
  have e : ∀ a, a ≠ 89 → a ≠ 90 → a ≠ 94 → a ≠ 99 → a ≠ 100 → a ≠ 101 → rEmp (rEmp (rEmp M 0) (0 + 1)) (0 + 1 + 1) a = M a := fun a a1 a2 a3 a4 a5 a6 => by rw [v2.2.2.2.2.2.2 a a1 a2 a3 a4 a5 a6, v1.2.2.2.2.2.2 a a1 a2 a3 a4 a5 a6, v0.2.2.2.2.2.2 a a1 a2 a3 a4 a5 a6]
  refine ⟨fun j j1 j2 => ?_, fun j j1 j2 => ?_, fun c c1 c2 => ⟨?_, ?_, ?_, ?_⟩, ?_, ?_⟩
  · rw [v2.1, v1.1, v0.1]; (repeat' split) <;> omega
  · rw [v2.2.1, v1.2.1, v0.2.1]; (repeat' split) <;> omega
  · rw [v2.2.2.1, v1.2.2.1, v0.2.2.1]; (repeat' split) <;> omega
  · rw [v2.2.2.2.1, v1.2.2.2.1, v0.2.2.2.1]; (repeat' split) <;> omega
  · rw [v2.2.2.2.2.1, v1.2.2.2.2.1, v0.2.2.2.2.1]; (repeat' split) <;> omega
  · rw [v2.2.2.2.2.2.1, v1.2.2.2.2.2.1, v0.2.2.2.2.2.1]; (repeat' split) <;> omega
  · rw [e 119 (by omega) (by omega) (by omega) (by omega) (by omega) (by omega)]; exact h.1
  · rw [e 88 (by omega) (by omega) (by omega) (by omega) (by omega) (by omega)]; exact h.2
set_option maxHeartbeats 4000000 in
set_option maxRecDepth 100000 in
theorem i_ref (d : Nat) (hd : 2 ≤ d) (ok : pO) (mem : pM) (hz : ∀ j, mem 88 j = 0) : PM mi_X10_init d [vr 88] 88 ok mem 122 (fun r ok' mem' => r = none ∧ (∀ a, a < 88 → ok' a = ok a ∧ mem' a = mem a) ∧ RefUp 122 ok' ∧ IR mem') := by
  refine PM.of (by decide) (by decide) (by omega) (Nat.le_of_ble_eq_true rfl) ?_
  refine pw_aload_n 0 rfl dX10_init_0 rfl ?_
  refine pw_objInit dX10_init_1 kw_1059 kw_94 kw_95 (by omega) (Nat.le_of_ble_eq_true rfl) (by omega) ?_
  refine pw_aload_n 0 rfl dX10_init_4 rfl ?_
  refine pw_bipush dX10_init_5 (by decide) ?_
  refine pw_newI (L := 12) rfl dX10_init_7 kw_118 (by decide) (by decide) (by decide) (by omega) (by omega) (by simp [lvA, lput, lput2, nrf, wct, isl]) (by simp [lvA, lput, lput2, nrf, wct, isl]) ?_
  refine pw_putR 4 dX10_init_9 cOk10 ⟨by omega, by omega, by decide⟩ (by decide) kw_1069 (Or.inr ⟨rfl, rfl, rfl⟩) (Or.inr ⟨_, rfl⟩) (by decide) rfl (by omega) (by omega) ?_
  refine pw_aload_n 0 rfl dX10_init_12 rfl ?_
  refine pw_bipush dX10_init_13 (by decide) ?_
  refine pw_newI (L := 48) rfl dX10_init_15 kw_118 (by decide) (by decide) (by decide) (by omega) (by omega) (by simp [lvA, lput, lput2, nrf, wct, isl]) (by simp [lvA, lput, lput2, nrf, wct, isl]) ?_
  refine pw_putR 5 dX10_init_17 cOk10 ⟨by omega, by omega, by decide⟩ (by decide) kw_1070 (Or.inr ⟨rfl, rfl, rfl⟩) (Or.inr ⟨_, rfl⟩) (by decide) rfl (by omega) (by omega) ?_
  refine pw_aload_n 0 rfl dX10_init_20 rfl ?_
  refine pw_bipush dX10_init_21 (by decide) ?_
  refine pw_newI (L := 48) rfl dX10_init_23 kw_118 (by decide) (by decide) (by decide) (by omega) (by omega) (by simp [lvA, lput, lput2, nrf, wct, isl]) (by simp [lvA, lput, lput2, nrf, wct, isl]) ?_
  refine pw_putR 6 dX10_init_25 cOk10 ⟨by omega, by omega, by decide⟩ (by decide) kw_1071 (Or.inr ⟨rfl, rfl, rfl⟩) (Or.inr ⟨_, rfl⟩) (by decide) rfl (by omega) (by omega) ?_
  refine pw_aload_n 0 rfl dX10_init_28 rfl ?_
  refine pw_bipush dX10_init_29 (by decide) ?_
  refine pw_newI (L := 48) rfl dX10_init_31 kw_118 (by decide) (by decide) (by decide) (by omega) (by omega) (by simp [lvA, lput, lput2, nrf, wct, isl]) (by simp [lvA, lput, lput2, nrf, wct, isl]) ?_
  refine pw_putR 7 dX10_init_33 cOk10 ⟨by omega, by omega, by decide⟩ (by decide) kw_1072 (Or.inr ⟨rfl, rfl, rfl⟩) (Or.inr ⟨_, rfl⟩) (by decide) rfl (by omega) (by omega) ?_
  refine pw_aload_n 0 rfl dX10_init_36 rfl ?_
  refine pw_bipush dX10_init_37 (by decide) ?_
  refine pw_newI (L := 48) rfl dX10_init_39 kw_118 (by decide) (by decide) (by decide) (by omega) (by omega) (by simp [lvA, lput, lput2, nrf, wct, isl]) (by simp [lvA, lput, lput2, nrf, wct, isl]) ?_
  refine pw_putR 8 dX10_init_41 cOk10 ⟨by omega, by omega, by decide⟩ (by decide) kw_1073 (Or.inr ⟨rfl, rfl, rfl⟩) (Or.inr ⟨_, rfl⟩) (by decide) rfl (by omega) (by omega) ?_
  refine pw_aload_n 0 rfl dX10_init_44 rfl ?_
  refine pw_iconst dX10_init_45 ?_
  refine pw_newI (L := 3) rfl dX10_init_46 kw_118 (by decide) (by decide) (by decide) (by omega) (by omega) (by simp [lvA, lput, lput2, nrf, wct, isl]) (by simp [lvA, lput, lput2, nrf, wct, isl]) ?_
  refine pw_putR 9 dX10_init_48 cOk10 ⟨by omega, by omega, by decide⟩ (by decide) kw_1074 (Or.inr ⟨rfl, rfl, rfl⟩) (Or.inr ⟨_, rfl⟩) (by decide) rfl (by omega) (by omega) ?_
  refine pw_aload_n 0 rfl dX10_init_51 rfl ?_
  refine pw_bipush dX10_init_52 (by decide) ?_
  refine pw_newI (L := 120) rfl dX10_init_54 kw_118 (by decide) (by decide) (by decide) (by omega) (by omega) (by simp [lvA, lput, lput2, nrf, wct, isl]) (by simp [lvA, lput, lput2, nrf, wct, isl]) ?_
  refine pw_putR 10 dX10_init_56 cOk10 ⟨by omega, by omega, by decide⟩ (by decide) kw_1075 (Or.inr ⟨rfl, rfl, rfl⟩) (Or.inr ⟨_, rfl⟩) (by decide) rfl (by omega) (by omega) ?_
  refine pw_aload_n 0 rfl dX10_init_59 rfl ?_
  refine pw_bipush dX10_init_60 (by decide) ?_
  refine pw_newI (L := 120) rfl dX10_init_62 kw_118 (by decide) (by decide) (by decide) (by omega) (by omega) (by simp [lvA, lput, lput2, nrf, wct, isl]) (by simp [lvA, lput, lput2, nrf, wct, isl]) ?_
  refine pw_putR 11 dX10_init_64 cOk10 ⟨by omega, by omega, by decide⟩ (by decide) kw_1076 (Or.inr ⟨rfl, rfl, rfl⟩) (Or.inr ⟨_, rfl⟩) (by decide) rfl (by omega) (by omega) ?_
  refine pw_aload_n 0 rfl dX10_init_67 rfl ?_
  refine pw_bipush dX10_init_68 (by decide) ?_
  refine pw_newI (L := 120) rfl dX10_init_70 kw_118 (by decide) (by decide) (by decide) (by omega) (by omega) (by simp [lvA, lput, lput2, nrf, wct, isl]) (by simp [lvA, lput, lput2, nrf, wct, isl]) ?_
  refine pw_putR 12 dX10_init_72 cOk10 ⟨by omega, by omega, by decide⟩ (by decide) kw_1077 (Or.inr ⟨rfl, rfl, rfl⟩) (Or.inr ⟨_, rfl⟩) (by decide) rfl (by omega) (by omega) ?_
  refine pw_aload_n 0 rfl dX10_init_75 rfl ?_
  refine pw_sipush dX10_init_76 (by decide) ?_
  refine pw_newI (L := 720) rfl dX10_init_79 kw_118 (by decide) (by decide) (by decide) (by omega) (by omega) (by simp [lvA, lput, lput2, nrf, wct, isl]) (by simp [lvA, lput, lput2, nrf, wct, isl]) ?_
  refine pw_putR 13 dX10_init_81 cOk10 ⟨by omega, by omega, by decide⟩ (by decide) kw_1078 (Or.inr ⟨rfl, rfl, rfl⟩) (Or.inr ⟨_, rfl⟩) (by decide) rfl (by omega) (by omega) ?_
  refine pw_aload_n 0 rfl dX10_init_84 rfl ?_
  refine pw_iconst dX10_init_85 ?_
  refine pw_newI (L := 3) rfl dX10_init_86 kw_118 (by decide) (by decide) (by decide) (by omega) (by omega) (by simp [lvA, lput, lput2, nrf, wct, isl]) (by simp [lvA, lput, lput2, nrf, wct, isl]) ?_
  refine pw_putR 14 dX10_init_88 cOk10 ⟨by omega, by omega, by decide⟩ (by decide) kw_1079 (Or.inr ⟨rfl, rfl, rfl⟩) (Or.inr ⟨_, rfl⟩) (by decide) rfl (by omega) (by omega) ?_
  refine pw_aload_n 0 rfl dX10_init_91 rfl ?_
  refine pw_iconst dX10_init_92 ?_
  refine pw_newI (L := 3) rfl dX10_init_93 kw_118 (by decide) (by decide) (by decide) (by omega) (by omega) (by simp [lvA, lput, lput2, nrf, wct, isl]) (by simp [lvA, lput, lput2, nrf, wct, isl]) ?_
  refine pw_putR 15 dX10_init_95 cOk10 ⟨by omega, by omega, by decide⟩ (by decide) kw_1080 (Or.inr ⟨rfl, rfl, rfl⟩) (Or.inr ⟨_, rfl⟩) (by decide) rfl (by omega) (by omega) ?_
  refine pw_aload_n 0 rfl dX10_init_98 rfl ?_
  refine pw_iconst dX10_init_99 ?_
  refine pw_newI (L := 3) rfl dX10_init_100 kw_118 (by decide) (by decide) (by decide) (by omega) (by omega) (by simp [lvA, lput, lput2, nrf, wct, isl]) (by simp [lvA, lput, lput2, nrf, wct, isl]) ?_
  refine pw_putR 16 dX10_init_102 cOk10 ⟨by omega, by omega, by decide⟩ (by decide) kw_1081 (Or.inr ⟨rfl, rfl, rfl⟩) (Or.inr ⟨_, rfl⟩) (by decide) rfl (by omega) (by omega) ?_
  refine pw_aload_n 0 rfl dX10_init_105 rfl ?_
  refine pw_bipush dX10_init_106 (by decide) ?_
  refine pw_newI (L := 90) rfl dX10_init_108 kw_118 (by decide) (by decide) (by decide) (by omega) (by omega) (by simp [lvA, lput, lput2, nrf, wct, isl]) (by simp [lvA, lput, lput2, nrf, wct, isl]) ?_
  refine pw_putR 17 dX10_init_110 cOk10 ⟨by omega, by omega, by decide⟩ (by decide) kw_1082 (Or.inr ⟨rfl, rfl, rfl⟩) (Or.inr ⟨_, rfl⟩) (by decide) rfl (by omega) (by omega) ?_
  refine pw_aload_n 0 rfl dX10_init_113 rfl ?_
  refine pw_bipush dX10_init_114 (by decide) ?_
  refine pw_newI (L := 60) rfl dX10_init_116 kw_118 (by decide) (by decide) (by decide) (by omega) (by omega) (by simp [lvA, lput, lput2, nrf, wct, isl]) (by simp [lvA, lput, lput2, nrf, wct, isl]) ?_
  refine pw_putR 18 dX10_init_118 cOk10 ⟨by omega, by omega, by decide⟩ (by decide) kw_1083 (Or.inr ⟨rfl, rfl, rfl⟩) (Or.inr ⟨_, rfl⟩) (by decide) rfl (by omega) (by omega) ?_
  refine pw_aload_n 0 rfl dX10_init_121 rfl ?_
  refine pw_bipush dX10_init_122 (by decide) ?_
  refine pw_newI (L := 6) rfl dX10_init_124 kw_118 (by decide) (by decide) (by decide) (by omega) (by omega) (by simp [lvA, lput, lput2, nrf, wct, isl]) (by simp [lvA, lput, lput2, nrf, wct, isl]) ?_
  refine pw_putR 20 dX10_init_126 cOk10 ⟨by omega, by omega, by decide⟩ (by decide) kw_1085 (Or.inr ⟨rfl, rfl, rfl⟩) (Or.inr ⟨_, rfl⟩) (by decide) rfl (by omega) (by omega) ?_
  refine pw_aload_n 0 rfl dX10_init_129 rfl ?_
  refine pw_sipush dX10_init_130 (by decide) ?_
  refine pw_newI (L := 600) rfl dX10_init_133 kw_118 (by decide) (by decide) (by decide) (by omega) (by omega) (by simp [lvA, lput, lput2, nrf, wct, isl]) (by simp [lvA, lput, lput2, nrf, wct, isl]) ?_
  refine pw_putR 22 dX10_init_135 cOk10 ⟨by omega, by omega, by decide⟩ (by decide) kw_1087 (Or.inr ⟨rfl, rfl, rfl⟩) (Or.inr ⟨_, rfl⟩) (by decide) rfl (by omega) (by omega) ?_
  refine pw_aload_n 0 rfl dX10_init_138 rfl ?_
  refine pw_bipush dX10_init_139 (by decide) ?_
  refine pw_newI (L := 40) rfl dX10_init_141 kw_118 (by decide) (by decide) (by decide) (by omega) (by omega) (by simp [lvA, lput, lput2, nrf, wct, isl]) (by simp [lvA, lput, lput2, nrf, wct, isl]) ?_
  refine pw_putR 25 dX10_init_143 cOk10 ⟨by omega, by omega, by decide⟩ (by decide) kw_1090 (Or.inr ⟨rfl, rfl, rfl⟩) (Or.inr ⟨_, rfl⟩) (by decide) rfl (by omega) (by omega) ?_
  refine pw_aload_n 0 rfl dX10_init_146 rfl ?_
  refine pw_bipush dX10_init_147 (by decide) ?_
  refine pw_newI (L := 40) rfl dX10_init_149 kw_118 (by decide) (by decide) (by decide) (by omega) (by omega) (by simp [lvA, lput, lput2, nrf, wct, isl]) (by simp [lvA, lput, lput2, nrf, wct, isl]) ?_
  refine pw_putR 26 dX10_init_151 cOk10 ⟨by omega, by omega, by decide⟩ (by decide) kw_1091 (Or.inr ⟨rfl, rfl, rfl⟩) (Or.inr ⟨_, rfl⟩) (by decide) rfl (by omega) (by omega) ?_
  refine pw_aload_n 0 rfl dX10_init_154 rfl ?_
  refine pw_iconst dX10_init_155 ?_
  refine pw_putI 29 dX10_init_156 cOk10 ⟨by omega, by omega, by decide⟩ (by decide) kw_1094 rfl rfl (by decide) (by omega) ?_
  refine pw_aload_n 0 rfl dX10_init_159 rfl ?_
  refine pw_sipush dX10_init_160 (by decide) ?_
  refine pw_newI (L := 1024) rfl dX10_init_163 kw_118 (by decide) (by decide) (by decide) (by omega) (by omega) (by simp [lvA, lput, lput2, nrf, wct, isl]) (by simp [lvA, lput, lput2, nrf, wct, isl]) ?_
  refine pw_putR 37 dX10_init_165 cOk10 ⟨by omega, by omega, by decide⟩ (by decide) kw_1102 (Or.inr ⟨rfl, rfl, rfl⟩) (Or.inr ⟨_, rfl⟩) (by decide) rfl (by omega) (by omega) ?_
  refine pw_aload_n 0 rfl dX10_init_168 rfl ?_
  refine pw_sipush dX10_init_169 (by decide) ?_
  refine pw_newI (L := 1024) rfl dX10_init_172 kw_118 (by decide) (by decide) (by decide) (by omega) (by omega) (by simp [lvA, lput, lput2, nrf, wct, isl]) (by simp [lvA, lput, lput2, nrf, wct, isl]) ?_
  refine pw_putR 38 dX10_init_174 cOk10 ⟨by omega, by omega, by decide⟩ (by decide) kw_1103 (Or.inr ⟨rfl, rfl, rfl⟩) (Or.inr ⟨_, rfl⟩) (by decide) rfl (by omega) (by omega) ?_
  refine pw_aload_n 0 rfl dX10_init_177 rfl ?_
  refine pw_sipush dX10_init_178 (by decide) ?_
  refine pw_newI (L := 1024) rfl dX10_init_181 kw_118 (by decide) (by decide) (by decide) (by omega) (by omega) (by simp [lvA, lput, lput2, nrf, wct, isl]) (by simp [lvA, lput, lput2, nrf, wct, isl]) ?_
  refine pw_putR 39 dX10_init_183 cOk10 ⟨by omega, by omega, by decide⟩ (by decide) kw_1104 (Or.inr ⟨rfl, rfl, rfl⟩) (Or.inr ⟨_, rfl⟩) (by decide) rfl (by omega) (by omega) ?_
  refine pw_aload_n 0 rfl dX10_init_186 rfl ?_
  refine pw_sipush dX10_init_187 (by decide) ?_
  refine pw_newZ (L := 1024) rfl dX10_init_190 kw_331 (by decide) (by decide) (by decide) (by omega) (by omega) (by simp [lvA, lput, lput2, nrf, wct, isl]) (by simp [lvA, lput, lput2, nrf, wct, isl]) ?_
  refine pw_putR 40 dX10_init_192 cOk10 ⟨by omega, by omega, by decide⟩ (by decide) kw_1105 (Or.inr ⟨rfl, rfl, rfl⟩) (Or.inr ⟨_, rfl⟩) (by decide) rfl (by omega) (by omega) ?_
  refine pw_aload_n 0 rfl dX10_init_195 rfl ?_
  refine pw_sipush dX10_init_196 (by decide) ?_
  refine pw_newI (L := 1024) rfl dX10_init_199 kw_118 (by decide) (by decide) (by decide) (by omega) (by omega) (by simp [lvA, lput, lput2, nrf, wct, isl]) (by simp [lvA, lput, lput2, nrf, wct, isl]) ?_
  refine pw_putR 41 dX10_init_201 cOk10 ⟨by omega, by omega, by decide⟩ (by decide) kw_1106 (Or.inr ⟨rfl, rfl, rfl⟩) (Or.inr ⟨_, rfl⟩) (by decide) rfl (by omega) (by omega) ?_
  refine pw_aload_n 0 rfl dX10_init_204 rfl ?_
  refine pw_sipush dX10_init_205 (by decide) ?_
  refine pw_newI (L := 1024) rfl dX10_init_208 kw_118 (by decide) (by decide) (by decide) (by omega) (by omega) (by simp [lvA, lput, lput2, nrf, wct, isl]) (by simp [lvA, lput, lput2, nrf, wct, isl]) ?_
  refine pw_putR 42 dX10_init_210 cOk10 ⟨by omega, by omega, by decide⟩ (by decide) kw_1107 (Or.inr ⟨rfl, rfl, rfl⟩) (Or.inr ⟨_, rfl⟩) (by decide) rfl (by omega) (by omega) ?_
  refine pw_aload_n 0 rfl dX10_init_213 rfl ?_
  refine pw_ldc (x := 38912) kw_1060 (by decide) dX10_init_214 ?_
  refine pw_newI (L := 38912) rfl dX10_init_216 kw_118 (by decide) (by decide) (by decide) (by omega) (by omega) (by simp [lvA, lput, lput2, nrf, wct, isl]) (by simp [lvA, lput, lput2, nrf, wct, isl]) ?_
  refine pw_putR 43 dX10_init_218 cOk10 ⟨by omega, by omega, by decide⟩ (by decide) kw_1108 (Or.inr ⟨rfl, rfl, rfl⟩) (Or.inr ⟨_, rfl⟩) (by decide) rfl (by omega) (by omega) ?_
  refine pw_aload_n 0 rfl dX10_init_221 rfl ?_
  refine pw_sipush dX10_init_222 (by decide) ?_
  refine pw_newI (L := 1024) rfl dX10_init_225 kw_118 (by decide) (by decide) (by decide) (by omega) (by omega) (by simp [lvA, lput, lput2, nrf, wct, isl]) (by simp [lvA, lput, lput2, nrf, wct, isl]) ?_
  refine pw_putR 45 dX10_init_227 cOk10 ⟨by omega, by omega, by decide⟩ (by decide) kw_1110 (Or.inr ⟨rfl, rfl, rfl⟩) (Or.inr ⟨_, rfl⟩) (by decide) rfl (by omega) (by omega) ?_
  refine pw_aload_n 0 rfl dX10_init_230 rfl ?_
  refine pw_sipush dX10_init_231 (by decide) ?_
  refine pw_newI (L := 1024) rfl dX10_init_234 kw_118 (by decide) (by decide) (by decide) (by omega) (by omega) (by simp [lvA, lput, lput2, nrf, wct, isl]) (by simp [lvA, lput, lput2, nrf, wct, isl]) ?_
  refine pw_putR 46 dX10_init_236 cOk10 ⟨by omega, by omega, by decide⟩ (by decide) kw_1111 (Or.inr ⟨rfl, rfl, rfl⟩) (Or.inr ⟨_, rfl⟩) (by decide) rfl (by omega) (by omega) ?_
  refine pw_aload_n 0 rfl dX10_init_239 rfl ?_
  refine pw_ldc (x := 38912) kw_1060 (by decide) dX10_init_240 ?_
  refine pw_newI (L := 38912) rfl dX10_init_242 kw_118 (by decide) (by decide) (by decide) (by omega) (by omega) (by simp [lvA, lput, lput2, nrf, wct, isl]) (by simp [lvA, lput, lput2, nrf, wct, isl]) ?_
  refine pw_putR 47 dX10_init_244 cOk10 ⟨by omega, by omega, by decide⟩ (by decide) kw_1112 (Or.inr ⟨rfl, rfl, rfl⟩) (Or.inr ⟨_, rfl⟩) (by decide) rfl (by omega) (by omega) ?_
  refine pw_aload_n 0 rfl dX10_init_247 rfl ?_
  refine pw_sipush dX10_init_248 (by decide) ?_
  refine pw_newI (L := 1024) rfl dX10_init_251 kw_118 (by decide) (by decide) (by decide) (by omega) (by omega) (by simp [lvA, lput, lput2, nrf, wct, isl]) (by simp [lvA, lput, lput2, nrf, wct, isl]) ?_
  refine pw_putR 48 dX10_init_253 cOk10 ⟨by omega, by omega, by decide⟩ (by decide) kw_1113 (Or.inr ⟨rfl, rfl, rfl⟩) (Or.inr ⟨_, rfl⟩) (by decide) rfl (by omega) (by omega) ?_
  refine pw_aload_n 0 rfl dX10_init_256 rfl ?_
  refine pw_sipush dX10_init_257 (by decide) ?_
  refine pw_newZ (L := 1024) rfl dX10_init_260 kw_331 (by decide) (by decide) (by decide) (by omega) (by omega) (by simp [lvA, lput, lput2, nrf, wct, isl]) (by simp [lvA, lput, lput2, nrf, wct, isl]) ?_
  refine pw_putR 49 dX10_init_262 cOk10 ⟨by omega, by omega, by decide⟩ (by decide) kw_1114 (Or.inr ⟨rfl, rfl, rfl⟩) (Or.inr ⟨_, rfl⟩) (by decide) rfl (by omega) (by omega) ?_
  refine pw_aload_n 0 rfl dX10_init_265 rfl ?_
  refine pw_iconst dX10_init_266 ?_
  refine pw_putI 50 dX10_init_267 cOk10 ⟨by omega, by omega, by decide⟩ (by decide) kw_1115 rfl rfl (by decide) (by omega) ?_
  refine pw_aload_n 0 rfl dX10_init_270 rfl ?_
  refine pw_iconst dX10_init_271 ?_
  refine pw_putI 51 dX10_init_272 cOk10 ⟨by omega, by omega, by decide⟩ (by decide) kw_1116 rfl rfl (by decide) (by omega) ?_
  refine pw_aload_n 0 rfl dX10_init_275 rfl ?_
  refine pw_iconst dX10_init_276 ?_
  refine pw_putI 52 dX10_init_277 cOk10 ⟨by omega, by omega, by decide⟩ (by decide) kw_1117 rfl rfl (by decide) (by omega) ?_
  refine pw_aload_n 0 rfl dX10_init_280 rfl ?_
  refine pw_sipush dX10_init_281 (by decide) ?_
  refine pw_newI (L := 700) rfl dX10_init_284 kw_118 (by decide) (by decide) (by decide) (by omega) (by omega) (by simp [lvA, lput, lput2, nrf, wct, isl]) (by simp [lvA, lput, lput2, nrf, wct, isl]) ?_
  refine pw_putR 53 dX10_init_286 cOk10 ⟨by omega, by omega, by decide⟩ (by decide) kw_1118 (Or.inr ⟨rfl, rfl, rfl⟩) (Or.inr ⟨_, rfl⟩) (by decide) rfl (by omega) (by omega) ?_
  refine pw_aload_n 0 rfl dX10_init_289 rfl ?_
  refine pw_sipush dX10_init_290 (by decide) ?_
  refine pw_newI (L := 700) rfl dX10_init_293 kw_118 (by decide) (by decide) (by decide) (by omega) (by omega) (by simp [lvA, lput, lput2, nrf, wct, isl]) (by simp [lvA, lput, lput2, nrf, wct, isl]) ?_
  refine pw_putR 54 dX10_init_295 cOk10 ⟨by omega, by omega, by decide⟩ (by decide) kw_1119 (Or.inr ⟨rfl, rfl, rfl⟩) (Or.inr ⟨_, rfl⟩) (by decide) rfl (by omega) (by omega) ?_
  refine pw_aload_n 0 rfl dX10_init_298 rfl ?_
  refine pw_sipush dX10_init_299 (by decide) ?_
  refine pw_newI (L := 700) rfl dX10_init_302 kw_118 (by decide) (by decide) (by decide) (by omega) (by omega) (by simp [lvA, lput, lput2, nrf, wct, isl]) (by simp [lvA, lput, lput2, nrf, wct, isl]) ?_
  refine pw_putR 55 dX10_init_304 cOk10 ⟨by omega, by omega, by decide⟩ (by decide) kw_1120 (Or.inr ⟨rfl, rfl, rfl⟩) (Or.inr ⟨_, rfl⟩) (by decide) rfl (by omega) (by omega) ?_
  refine pw_okc (okF _ 88) (okE_F (ci := 10) (by decide) (fun k k1 k2 => ?_)) ?_
  · have hk2 : k ∈ [4, 5, 6, 7, 8, 9, 10, 11, 12, 13, 14, 15, 16, 17, 18, 20, 22, 25, 26, 37, 38, 39, 40, 41, 42, 43, 45, 46, 47, 48, 49, 53, 54, 55] := by revert k; decide +kernel
    simp only [List.mem_cons, List.not_mem_nil, or_false] at hk2
    rcases hk2 with e | e | e | e | e | e | e | e | e | e | e | e | e | e | e | e | e | e | e | e | e | e | e | e | e | e | e | e | e | e | e | e | e | e <;> (subst e; rfl)
  obtain ⟨okR, hokR⟩ : ∃ okR, okR = okF (okS (okZ (okS (okZ (okS (okZ (okS (okZ (okS (okZ (okS (okZ (okS (okZ (okS (okZ (okS (okZ (okS (okZ (okS (okZ (okS (okZ (okS (okZ (okS (okZ (okS (okZ (okS (okZ (okS (okZ (okS (okZ (okS (okZ (okS (okZ (okS (okZ (okS (okZ (okS (okZ (okS (okZ (okS (okZ (okS (okZ (okS (okZ (okS (okZ (okS (okZ (okS (okZ (okS (okZ (okS (okZ (okS (okZ (okS (okZ ok 89) 88 4) 90) 88 5) 91) 88 6) 92) 88 7) 93) 88 8) 94) 88 9) 95) 88 10) 96) 88 11) 97) 88 12) 98) 88 13) 99) 88 14) 100) 88 15) 101) 88 16) 102) 88 17) 103) 88 18) 104) 88 20) 105) 88 22) 106) 88 25) 107) 88 26) 108) 88 37) 109) 88 38) 110) 88 39) 111) 88 40) 112) 88 41) 113) 88 42) 114) 88 43) 115) 88 45) 116) 88 46) 117) 88 47) 118) 88 48) 119) 88 49) 120) 88 53) 121) 88 54) 122) 88 55) 88 := ⟨_, rfl⟩
  rw [← hokR]
  have hRU : RefUp 122 okR := ⟨⟨⟨by omega, by omega, by decide⟩, fun k => by rw [hokR]; exact okF_s _ _ _⟩, ⟨⟨by omega, by omega, by decide, by decide, by omega⟩, ⟨by omega, by omega, by decide, by decide, by omega⟩, ⟨by omega, by omega, by decide, by decide, by omega⟩, ⟨by omega, by omega, by decide, by decide, by omega⟩, ⟨by omega, by omega, by decide, by decide, by omega⟩, ⟨by omega, by omega, by decide, by decide, by omega⟩, ⟨by omega, by omega, by decide, by decide, by omega⟩, ⟨by omega, by omega, by decide, by decide, by omega⟩, ⟨by omega, by omega, by decide, by decide, by omega⟩, ⟨by omega, by omega, by decide, by decide, by omega⟩⟩, ⟨⟨by omega, by omega, by decide, by decide, by omega⟩, ⟨by omega, by omega, by decide, by decide, by omega⟩, ⟨by omega, by omega, by decide, by decide, by omega⟩, ⟨by omega, by omega, by decide, by decide, by omega⟩, ⟨by omega, by omega, by decide, by decide, by omega⟩, ⟨by omega, by omega, by decide, by decide, by omega⟩, ⟨by omega, by omega, by decide, by decide, by omega⟩, ⟨by omega, by omega, by decide, by decide, by omega⟩, ⟨by omega, by omega, by decide, by decide, by omega⟩⟩, ⟨⟨by omega, by omega, by decide, by decide, by omega⟩, ⟨by omega, by omega, by decide, by decide, by omega⟩, ⟨by omega, by omega, by decide, by decide, by omega⟩, ⟨by omega, by omega, by decide, by decide, by omega⟩, ⟨by omega, by omega, by decide, by decide, by omega⟩, ⟨by omega, by omega, by decide, by decide, by omega⟩, ⟨by omega, by omega, by decide, by decide, by omega⟩, ⟨by omega, by omega, by decide, by decide, by omega⟩, ⟨by omega, by omega, by decide, by decide, by omega⟩, ⟨by omega, by omega, by decide, by decide, by omega⟩, ⟨by omega, by omega, by decide, by decide, by omega⟩, ⟨by omega, by omega, by decide, by decide, by omega⟩⟩, ⟨by omega, by omega, by decide, by decide, by omega⟩, ⟨by omega, by omega, by decide, by decide, by omega⟩, ⟨by omega, by omega, by decide, by decide, by omega⟩⟩
  have hRO := hRU.1
  have hokR2 : ∀ a, a < 88 → okR a = ok a := fun a ha => by rw [hokR, okF_n _ (by omega)]; simp (disch := omega) only [okZ_o, okS_o]
  obtain ⟨MR, hMR⟩ : ∃ MR, MR = (zr (zr (zr (wr (wr (wr (zr (zr (zr (zr (zr (zr (zr (zr (zr (zr (zr (zr (wr (zr (zr (zr (zr (zr (zr (zr (zr (zr (zr (zr (zr (zr (zr (zr (zr (zr (zr (zr mem 89) 90) 91) 92) 93) 94) 95) 96) 97) 98) 99) 100) 101) 102) 103) 104) 105) 106) 107) 88 ((29 : Nat) : Int) (-1)) 108) 109) 110) 111) 112) 113) 114) 115) 116) 117) 118) 119) 88 ((50 : Nat) : Int) (-1)) 88 ((51 : Nat) : Int) (-1)) 88 ((52 : Nat) : Int) (-1)) 120) 121) 122) := ⟨_, rfl⟩
  rw [← hMR]
  clear hokR
  have hMR1 : ∀ a, a < 88 → MR a = mem a := fun a ha => by rw [hMR]; simp (disch := omega) only [zr_a, wr_a]
  have hMR2 : (∀ j, MR 119 j = 0) ∧ (MR 88 0 = 0 ∧ MR 88 1 = 0 ∧ MR 88 2 = 0 ∧ MR 88 3 = 0 ∧ MR 88 19 = 0 ∧ MR 88 24 = 0 ∧ MR 88 28 = 0 ∧ MR 88 29 = -1 ∧ MR 88 30 = 0 ∧ MR 88 31 = 0 ∧ MR 88 44 = 0) ∧ MR 88 50 = -1 ∧ MR 88 51 = -1 ∧ MR 88 52 = -1 ∧ MR 88 56 = 0 := by
    rw [hMR, show ((29 : Nat) : Int) = 29 from rfl, show ((50 : Nat) : Int) = 50 from rfl, show ((51 : Nat) : Int) = 51 from rfl, show ((52 : Nat) : Int) = 52 from rfl]
    refine ⟨fun j => ?_, ⟨?_, ?_, ?_, ?_, ?_, ?_, ?_, ?_, ?_, ?_, ?_⟩, ?_, ?_, ?_, ?_⟩ <;> simp (disch := omega) only [zr_a, wr_a, wr_k, wr_s, zr_s, hz]
  clear hMR
  refine pw_iconst dX10_init_307 ?_
  refine pw_istore_n 1 rfl dX10_init_308 (by decide) ?_
  refine pw_iload_n 1 rfl dX10_init_309 rfl ?_
  refine pw_iconst dX10_init_310 ?_
  refine pw_icmp_ge 325 (by decide) dX10_init_311 (by omega) (by omega) (fun c311 => ?_) (fun c311 => ?_)
  · skip
    exfalso; omega
  · skip
    refine pw_aload_n 0 rfl dX10_init_314 rfl ?_
    refine pw_iload_n 1 rfl dX10_init_315 rfl ?_
    refine pw_callV (d' := d - 1) (As := [_]) (ci := 10) dX10_init_316 ok_X10_empty kw_1061 rfl rfl (Of.o (by assumption)) (by omega) rfl (Nat.le_of_ble_eq_true rfl) (r_empty (d - 1) (by omega) 122 okR _ hRU _ (by omega)) (Nat.le_refl _) (Or.inl rfl) (fun r okE0 mE0 hq => ?_)
    obtain ⟨rfl, rfl, rfl⟩ := hq
    refine pw_iinc dX10_init_319 rfl (by decide) ?_
    refine pw_goto 309 (by decide) dX10_init_322 ?_
    refine pw_iload_n 1 rfl dX10_init_309 rfl ?_
    refine pw_iconst dX10_init_310 ?_
    refine pw_icmp_ge 325 (by decide) dX10_init_311 (by omega) (by omega) (fun c311 => ?_) (fun c311 => ?_)
    · skip
      exfalso; omega
    · skip
      refine pw_aload_n 0 rfl dX10_init_314 rfl ?_
      refine pw_iload_n 1 rfl dX10_init_315 rfl ?_
      refine pw_callV (d' := d - 1) (As := [_]) (ci := 10) dX10_init_316 ok_X10_empty kw_1061 rfl rfl (Of.o (by assumption)) (by omega) rfl (Nat.le_of_ble_eq_true rfl) (r_empty (d - 1) (by omega) 122 okR _ hRU _ (by omega)) (Nat.le_refl _) (Or.inl rfl) (fun r okE1 mE1 hq => ?_)
      obtain ⟨rfl, rfl, rfl⟩ := hq
      refine pw_iinc dX10_init_319 rfl (by decide) ?_
      refine pw_goto 309 (by decide) dX10_init_322 ?_
      refine pw_iload_n 1 rfl dX10_init_309 rfl ?_
      refine pw_iconst dX10_init_310 ?_
      refine pw_icmp_ge 325 (by decide) dX10_init_311 (by omega) (by omega) (fun c311 => ?_) (fun c311 => ?_)
      · skip
        exfalso; omega
      · skip
        refine pw_aload_n 0 rfl dX10_init_314 rfl ?_
        refine pw_iload_n 1 rfl dX10_init_315 rfl ?_
        refine pw_callV (d' := d - 1) (As := [_]) (ci := 10) dX10_init_316 ok_X10_empty kw_1061 rfl rfl (Of.o (by assumption)) (by omega) rfl (Nat.le_of_ble_eq_true rfl) (r_empty (d - 1) (by omega) 122 okR _ hRU _ (by omega)) (Nat.le_refl _) (Or.inl rfl) (fun r okE2 mE2 hq => ?_)
        obtain ⟨rfl, rfl, rfl⟩ := hq
        refine pw_iinc dX10_init_319 rfl (by decide) ?_
        refine pw_goto 309 (by decide) dX10_init_322 ?_
        refine pw_iload_n 1 rfl dX10_init_309 rfl ?_
        refine pw_iconst dX10_init_310 ?_
        refine pw_icmp_ge 325 (by decide) dX10_init_311 (by omega) (by omega) (fun c311 => ?_) (fun c311 => ?_)
        · skip
          refine pw_vret dX10_init_325 rfl rfl ?_
          refine ⟨rfl, fun a ha => ⟨hokR2 a ha, ?_⟩, hRU, ?_⟩
          · have e : ∀ (m : pM) (c : Int), rEmp m c a = m a := fun m c => by unfold rEmp; rw [wr_a _ _ _ (by omega), wr_a _ _ _ (by omega), wr_a _ _ _ (by omega), wr_a _ _ _ (by omega), fiM_a _ _ _ _ (by omega), fiM_a _ _ _ _ (by omega)]
            rw [e, e, e]; exact hMR1 a ha
          · exact IR_of hMR2
        · skip
          exfalso; omega
