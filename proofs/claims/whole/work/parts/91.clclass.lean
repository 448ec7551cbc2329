/-! ===== the class: its constructor ===== -/
set_option maxHeartbeats 4000000 in
set_option maxRecDepth 100000 in
theorem i_class (d : Nat) (hd : 6 ≤ d) (ok : pO) (mem : pM) (hz : ∀ j, mem 1 j = 0) : PM mi_X9_init d [vr 1] 1 ok mem 87 (fun r ok' mem' => r = none ∧ ClUp 87 ok' ∧ IC mem') := by
  refine PM.of (by decide) (by decide) (by omega) (Nat.le_of_ble_eq_true rfl) ?_
  refine pw_aload_n 0 rfl dX9_init_0 rfl ?_
  refine pw_objInit dX9_init_1 kw_93 kw_94 kw_95 (by omega) (Nat.le_of_ble_eq_true rfl) (by omega) ?_
  refine pw_aload_n 0 rfl dX9_init_4 rfl ?_
  refine pw_new dX9_init_5 cOk5 kw_96 kw_97 kw_75 (by decide) (by omega) (by omega) (by simp [lvA, lput, lput2, nrf, wct, isl]) (by simp [lvA, lput, lput2, nrf, wct, isl]) ?_
  refine pw_dup dX9_init_8 rfl ?_
  refine pw_callI (d' := d - 1) (As := []) dX9_init_9 ok_X5_init (Or.inr ⟨_, kw_98⟩) (by omega) (by omega) rfl (Nat.le_of_ble_eq_true rfl) (i_notes (d - 1) (by omega) _ _) (by omega) (Or.inr ⟨(by simp [lvA, lput, lput2, nrf, wct, isl]), (by simp [lvA, lput, lput2, nrf, wct, isl])⟩) (fun r o1 m1 hq => ?_)
  obtain ⟨rfl, hn1, hnU, hn3⟩ := hq
  refine pw_putR 0 dX9_init_12 cOk9 ⟨by omega, by omega, by decide⟩ (by decide) kw_347 (Or.inr ⟨rfl, rfl, rfl⟩) (Or.inl ⟨_, rfl⟩) (by decide) rfl (by omega) (by omega) ?_
  refine pw_aload_n 0 rfl dX9_init_15 rfl ?_
  refine pw_iconst dX9_init_16 ?_
  refine pw_newC (L := 3) rfl dX9_init_17 kw_119 (by decide) (by decide) (by decide) (by omega) (by omega) (by simp [lvA, lput, lput2, nrf, wct, isl]) (by simp [lvA, lput, lput2, nrf, wct, isl]) ?_
  refine pw_putR 1 dX9_init_20 cOk9 ⟨by omega, by omega, by decide⟩ (by decide) kw_348 (Or.inr ⟨rfl, rfl, rfl⟩) (Or.inr ⟨_, rfl⟩) (by decide) rfl (by omega) (by omega) ?_
  refine pw_iconst dX9_init_23 ?_
  refine pw_istore_n 1 rfl dX9_init_24 (by decide) ?_
  refine pw_iload_n 1 rfl dX9_init_25 rfl ?_
  refine pw_iconst dX9_init_26 ?_
  refine pw_icmp_ge 53 (by decide) dX9_init_27 (by omega) (by omega) (fun c27 => ?_) (fun c27 => ?_)
  · skip
    exfalso; omega
  · skip
    refine pw_aload_n 0 rfl dX9_init_30 rfl ?_
    refine pw_getR 1 4 dX9_init_31 cOk9 ⟨by omega, by omega, by decide⟩ (by decide) kw_348 (by decide) (okS_t _ _ _) rfl ?_
    refine pw_iload_n 1 rfl dX9_init_34 rfl ?_
    refine pw_new dX9_init_35 cOk0 kw_119 kw_121 kw_76 (by decide) (by omega) (by omega) (by simp [lvA, lput, lput2, nrf, wct, isl]) (by simp [lvA, lput, lput2, nrf, wct, isl]) ?_
    refine pw_dup dX9_init_38 rfl ?_
    refine pw_aload_n 0 rfl dX9_init_39 rfl ?_
    refine pw_getR 0 2 dX9_init_40 cOk9 ⟨by omega, by omega, by decide⟩ (by decide) kw_347 (by decide) (by rw [okZ_o _ (by omega), okS_i _ _ (by omega), okZ_o _ (by omega), okS_t]) rfl ?_
    refine pw_callI (d' := d - 1) (As := [_]) dX9_init_43 ok_X0_init (Or.inl kw_122) (by omega) (by omega) rfl (Nat.le_of_ble_eq_true rfl) (i_chest5 (d - 1) (by omega) _ _ (fun j => zr_s _ _ _)) (by omega) (Or.inr ⟨(by simp [lvA, lput, lput2, nrf, wct, isl]), (by simp [lvA, lput, lput2, nrf, wct, isl])⟩) (fun r o5 m5 hq => ?_)
    obtain ⟨rfl, hc5, hC5, hS5, hV5, hj5, hs5, hk5, hl5⟩ := hq
    have hT5 : o5 1 0 = true ∧ o5 1 1 = true := by
      rw [(hc5 1 (by omega)).1]
      exact ⟨by rw [okZ_o _ (by omega), okS_i _ _ (by omega), okZ_o _ (by omega), okS_t], by rw [okZ_o _ (by omega), okS_t]⟩
    refine pw_aastore dX9_init_46 (by omega) (by omega) rfl (show ln 4 = 3 from rfl) (by decide) (by omega) (by omega) (by omega) ⟨by omega, by omega, by decide⟩ ?_
    refine pw_iinc dX9_init_47 rfl (by decide) ?_
    refine pw_goto 25 (by decide) dX9_init_50 ?_
    refine pw_iload_n 1 rfl dX9_init_25 rfl ?_
    refine pw_iconst dX9_init_26 ?_
    refine pw_icmp_ge 53 (by decide) dX9_init_27 (by omega) (by omega) (fun c27 => ?_) (fun c27 => ?_)
    · skip
      exfalso; omega
    · skip
      refine pw_aload_n 0 rfl dX9_init_30 rfl ?_
      refine pw_getR 1 4 dX9_init_31 cOk9 ⟨by omega, by omega, by decide⟩ (by decide) kw_348 (by decide) (by rw [okS_o _ _ (by omega)]; exact hT5.2) rfl ?_
      refine pw_iload_n 1 rfl dX9_init_34 rfl ?_
      refine pw_new dX9_init_35 cOk0 kw_119 kw_121 kw_76 (by decide) (by omega) (by omega) (by simp [lvA, lput, lput2, nrf, wct, isl]) (by simp [lvA, lput, lput2, nrf, wct, isl]) ?_
      refine pw_dup dX9_init_38 rfl ?_
      refine pw_aload_n 0 rfl dX9_init_39 rfl ?_
      refine pw_getR 0 2 dX9_init_40 cOk9 ⟨by omega, by omega, by decide⟩ (by decide) kw_347 (by decide) (by rw [okZ_o _ (by omega), okS_o _ _ (by omega)]; exact hT5.1) rfl ?_
      refine pw_callI (d' := d - 1) (As := [_]) dX9_init_43 ok_X0_init (Or.inl kw_122) (by omega) (by omega) rfl (Nat.le_of_ble_eq_true rfl) (i_chest23 (d - 1) (by omega) _ _ (fun j => zr_s _ _ _)) (by omega) (Or.inr ⟨(by simp [lvA, lput, lput2, nrf, wct, isl]), (by simp [lvA, lput, lput2, nrf, wct, isl])⟩) (fun r o23 m23 hq => ?_)
      obtain ⟨rfl, hc23, hC23, hS23, hV23, hj23, hs23, hk23, hl23⟩ := hq
      have hT23 : o23 1 0 = true ∧ o23 1 1 = true := by
        rw [(hc23 1 (by omega)).1]
        exact ⟨by rw [okZ_o _ (by omega), okS_o _ _ (by omega)]; exact hT5.1, by rw [okZ_o _ (by omega), okS_o _ _ (by omega)]; exact hT5.2⟩
      refine pw_aastore dX9_init_46 (by omega) (by omega) rfl (show ln 4 = 3 from rfl) (by decide) (by omega) (by omega) (by omega) ⟨by omega, by omega, by decide⟩ ?_
      refine pw_iinc dX9_init_47 rfl (by decide) ?_
      refine pw_goto 25 (by decide) dX9_init_50 ?_
      refine pw_iload_n 1 rfl dX9_init_25 rfl ?_
      refine pw_iconst dX9_init_26 ?_
      refine pw_icmp_ge 53 (by decide) dX9_init_27 (by omega) (by omega) (fun c27 => ?_) (fun c27 => ?_)
      · skip
        exfalso; omega
      · skip
        refine pw_aload_n 0 rfl dX9_init_30 rfl ?_
        refine pw_getR 1 4 dX9_init_31 cOk9 ⟨by omega, by omega, by decide⟩ (by decide) kw_348 (by decide) (by rw [okS_o _ _ (by omega)]; exact hT23.2) rfl ?_
        refine pw_iload_n 1 rfl dX9_init_34 rfl ?_
        refine pw_new dX9_init_35 cOk0 kw_119 kw_121 kw_76 (by decide) (by omega) (by omega) (by simp [lvA, lput, lput2, nrf, wct, isl]) (by simp [lvA, lput, lput2, nrf, wct, isl]) ?_
        refine pw_dup dX9_init_38 rfl ?_
        refine pw_aload_n 0 rfl dX9_init_39 rfl ?_
        refine pw_getR 0 2 dX9_init_40 cOk9 ⟨by omega, by omega, by decide⟩ (by decide) kw_347 (by decide) (by rw [okZ_o _ (by omega), okS_o _ _ (by omega)]; exact hT23.1) rfl ?_
        refine pw_callI (d' := d - 1) (As := [_]) dX9_init_43 ok_X0_init (Or.inl kw_122) (by omega) (by omega) rfl (Nat.le_of_ble_eq_true rfl) (i_chest41 (d - 1) (by omega) _ _ (fun j => zr_s _ _ _)) (by omega) (Or.inr ⟨(by simp [lvA, lput, lput2, nrf, wct, isl]), (by simp [lvA, lput, lput2, nrf, wct, isl])⟩) (fun r o41 m41 hq => ?_)
        obtain ⟨rfl, hc41, hC41, hS41, hV41, hj41, hs41, hk41, hl41⟩ := hq
        have hT41 : o41 1 0 = true ∧ o41 1 1 = true := by
          rw [(hc41 1 (by omega)).1]
          exact ⟨by rw [okZ_o _ (by omega), okS_o _ _ (by omega)]; exact hT23.1, by rw [okZ_o _ (by omega), okS_o _ _ (by omega)]; exact hT23.2⟩
        refine pw_aastore dX9_init_46 (by omega) (by omega) rfl (show ln 4 = 3 from rfl) (by decide) (by omega) (by omega) (by omega) ⟨by omega, by omega, by decide⟩ ?_
        refine pw_iinc dX9_init_47 rfl (by decide) ?_
        refine pw_goto 25 (by decide) dX9_init_50 ?_
        refine pw_iload_n 1 rfl dX9_init_25 rfl ?_
        refine pw_iconst dX9_init_26 ?_
        refine pw_icmp_ge 53 (by decide) dX9_init_27 (by omega) (by omega) (fun c27 => ?_) (fun c27 => ?_)
        · skip
          refine pw_aload_n 0 rfl dX9_init_53 rfl ?_
          refine pw_new dX9_init_54 cOk0 kw_119 kw_121 kw_76 (by decide) (by omega) (by omega) (by simp [lvA, lput, lput2, nrf, wct, isl]) (by simp [lvA, lput, lput2, nrf, wct, isl]) ?_
          refine pw_dup dX9_init_57 rfl ?_
          refine pw_aload_n 0 rfl dX9_init_58 rfl ?_
          refine pw_getR 0 2 dX9_init_59 cOk9 ⟨by omega, by omega, by decide⟩ (by decide) kw_347 (by decide) (by rw [okZ_o _ (by omega), okS_o _ _ (by omega)]; exact hT41.1) rfl ?_
          refine pw_callI (d' := d - 1) (As := [_]) dX9_init_62 ok_X0_init (Or.inl kw_122) (by omega) (by omega) rfl (Nat.le_of_ble_eq_true rfl) (i_chest59 (d - 1) (by omega) _ _ (fun j => zr_s _ _ _)) (by omega) (Or.inr ⟨(by simp [lvA, lput, lput2, nrf, wct, isl]), (by simp [lvA, lput, lput2, nrf, wct, isl])⟩) (fun r o59 m59 hq => ?_)
          obtain ⟨rfl, hc59, hC59, hS59, hV59, hj59, hs59, hk59, hl59⟩ := hq
          have hT59 : o59 1 0 = true ∧ o59 1 1 = true := by
            rw [(hc59 1 (by omega)).1]
            exact ⟨by rw [okZ_o _ (by omega), okS_o _ _ (by omega)]; exact hT41.1, by rw [okZ_o _ (by omega), okS_o _ _ (by omega)]; exact hT41.2⟩
          refine pw_putR 2 dX9_init_65 cOk9 ⟨by omega, by omega, by decide⟩ (by decide) kw_349 (Or.inr ⟨rfl, rfl, rfl⟩) (Or.inl ⟨_, rfl⟩) (by decide) rfl (by omega) (by omega) ?_
          refine pw_aload_n 0 rfl dX9_init_68 rfl ?_
          refine pw_new dX9_init_69 cOk2 kw_294 kw_295 kw_79 (by decide) (by omega) (by omega) (by simp [lvA, lput, lput2, nrf, wct, isl]) (by simp [lvA, lput, lput2, nrf, wct, isl]) ?_
          refine pw_dup dX9_init_72 rfl ?_
          refine pw_callI (d' := d - 1) (As := []) dX9_init_73 ok_X2_init (Or.inr ⟨_, kw_296⟩) (by omega) (by omega) rfl (Nat.le_of_ble_eq_true rfl) (i_draws (d - 1) (by omega) _ _) (by omega) (Or.inl rfl) (fun r od md hq => ?_)
          obtain ⟨rfl, rfl, rfl⟩ := hq
          refine pw_putR 3 dX9_init_76 cOk9 ⟨by omega, by omega, by decide⟩ (by decide) kw_350 (Or.inr ⟨rfl, rfl, rfl⟩) (Or.inl ⟨_, rfl⟩) (by decide) rfl (by omega) (by omega) ?_
          refine pw_aload_n 0 rfl dX9_init_79 rfl ?_
          refine pw_new dX9_init_80 cOk4 kw_304 kw_305 kw_80 (by decide) (by omega) (by omega) (by simp [lvA, lput, lput2, nrf, wct, isl]) (by simp [lvA, lput, lput2, nrf, wct, isl]) ?_
          refine pw_dup dX9_init_83 rfl ?_
          refine pw_callI (d' := d - 1) (As := []) dX9_init_84 ok_X4_init (Or.inl kw_306) (by omega) (by omega) rfl (Nat.le_of_ble_eq_true rfl) (i_marks (d - 1) (by omega) _ _) (by omega) (Or.inr ⟨(by simp [lvA, lput, lput2, nrf, wct, isl]), (by simp [lvA, lput, lput2, nrf, wct, isl])⟩) (fun r om mm hq => ?_)
          obtain ⟨rfl, hm1, hmU, hm2, hm3, hm4, hm5⟩ := hq
          have Tm : ∀ k, k ≤ 3 → om 1 k = true := fun k hk => by
            rw [(hm1 1 (by omega)).1, okZ_o _ (by omega)]
            by_cases q : k = 3
            · rw [q, okS_t]
            · rw [okS_i _ _ q, okZ_o _ (by omega)]
              by_cases q2 : k = 2
              · rw [q2, okS_t]
              · rw [okS_i _ _ q2]
                rcases (show k = 0 ∨ k = 1 by omega) with e | e
                · rw [e]; exact hT59.1
                · rw [e]; exact hT59.2
          refine pw_putR 4 dX9_init_87 cOk9 ⟨by omega, by omega, by decide⟩ (by decide) kw_351 (Or.inr ⟨rfl, rfl, rfl⟩) (Or.inl ⟨_, rfl⟩) (by decide) rfl (by omega) (by omega) ?_
          refine pw_aload_n 0 rfl dX9_init_90 rfl ?_
          refine pw_new dX9_init_91 cOk8 kw_332 kw_333 kw_81 (by decide) (by omega) (by omega) (by simp [lvA, lput, lput2, nrf, wct, isl]) (by simp [lvA, lput, lput2, nrf, wct, isl]) ?_
          refine pw_dup dX9_init_94 rfl ?_
          refine pw_callI (d' := d - 1) (As := []) dX9_init_95 ok_X8_init (Or.inr ⟨_, kw_334⟩) (by omega) (by omega) rfl (Nat.le_of_ble_eq_true rfl) (i_writ80 (d - 1) (by omega) _ _) (by omega) (Or.inr ⟨(by simp [lvA, lput, lput2, nrf, wct, isl]), (by simp [lvA, lput, lput2, nrf, wct, isl])⟩) (fun r o80 m80 hq => ?_)
          obtain ⟨rfl, hw801, hw80U, hw803⟩ := hq
          have T80 : ∀ k, k ≤ 4 → o80 1 k = true := fun k hk => by
            rw [(hw801 1 (by omega)).1, okZ_o _ (by omega)]
            by_cases q : k = 4
            · rw [q, okS_t]
            · rw [okS_i _ _ q]; exact Tm k (by omega)
          refine pw_putR 5 dX9_init_98 cOk9 ⟨by omega, by omega, by decide⟩ (by decide) kw_352 (Or.inr ⟨rfl, rfl, rfl⟩) (Or.inl ⟨_, rfl⟩) (by decide) rfl (by omega) (by omega) ?_
          refine pw_aload_n 0 rfl dX9_init_101 rfl ?_
          refine pw_new dX9_init_102 cOk8 kw_332 kw_333 kw_81 (by decide) (by omega) (by omega) (by simp [lvA, lput, lput2, nrf, wct, isl]) (by simp [lvA, lput, lput2, nrf, wct, isl]) ?_
          refine pw_dup dX9_init_105 rfl ?_
          refine pw_callI (d' := d - 1) (As := []) dX9_init_106 ok_X8_init (Or.inr ⟨_, kw_334⟩) (by omega) (by omega) rfl (Nat.le_of_ble_eq_true rfl) (i_writ82 (d - 1) (by omega) _ _) (by omega) (Or.inr ⟨(by simp [lvA, lput, lput2, nrf, wct, isl]), (by simp [lvA, lput, lput2, nrf, wct, isl])⟩) (fun r o82 m82 hq => ?_)
          obtain ⟨rfl, hw821, hw82U, hw823⟩ := hq
          have T82 : ∀ k, k ≤ 5 → o82 1 k = true := fun k hk => by
            rw [(hw821 1 (by omega)).1, okZ_o _ (by omega)]
            by_cases q : k = 5
            · rw [q, okS_t]
            · rw [okS_i _ _ q]; exact T80 k (by omega)
          refine pw_putR 6 dX9_init_109 cOk9 ⟨by omega, by omega, by decide⟩ (by decide) kw_353 (Or.inr ⟨rfl, rfl, rfl⟩) (Or.inl ⟨_, rfl⟩) (by decide) rfl (by omega) (by omega) ?_
          refine pw_aload_n 0 rfl dX9_init_112 rfl ?_
          refine pw_new dX9_init_113 cOk8 kw_332 kw_333 kw_81 (by decide) (by omega) (by omega) (by simp [lvA, lput, lput2, nrf, wct, isl]) (by simp [lvA, lput, lput2, nrf, wct, isl]) ?_
          refine pw_dup dX9_init_116 rfl ?_
          refine pw_callI (d' := d - 1) (As := []) dX9_init_117 ok_X8_init (Or.inr ⟨_, kw_334⟩) (by omega) (by omega) rfl (Nat.le_of_ble_eq_true rfl) (i_writ84 (d - 1) (by omega) _ _) (by omega) (Or.inr ⟨(by simp [lvA, lput, lput2, nrf, wct, isl]), (by simp [lvA, lput, lput2, nrf, wct, isl])⟩) (fun r o84 m84 hq => ?_)
          obtain ⟨rfl, hw841, hw84U, hw843⟩ := hq
          have T84 : ∀ k, k ≤ 6 → o84 1 k = true := fun k hk => by
            rw [(hw841 1 (by omega)).1, okZ_o _ (by omega)]
            by_cases q : k = 6
            · rw [q, okS_t]
            · rw [okS_i _ _ q]; exact T82 k (by omega)
          refine pw_putR 7 dX9_init_120 cOk9 ⟨by omega, by omega, by decide⟩ (by decide) kw_354 (Or.inr ⟨rfl, rfl, rfl⟩) (Or.inl ⟨_, rfl⟩) (by decide) rfl (by omega) (by omega) ?_
          refine pw_aload_n 0 rfl dX9_init_123 rfl ?_
          refine pw_bipush dX9_init_124 (by decide) ?_
          refine pw_newI (L := 40) rfl dX9_init_126 kw_118 (by decide) (by decide) (by decide) (by omega) (by omega) (by simp [lvA, lput, lput2, nrf, wct, isl]) (by simp [lvA, lput, lput2, nrf, wct, isl]) ?_
          refine pw_putR 8 dX9_init_128 cOk9 ⟨by omega, by omega, by decide⟩ (by decide) kw_355 (Or.inr ⟨rfl, rfl, rfl⟩) (Or.inr ⟨_, rfl⟩) (by decide) rfl (by omega) (by omega) ?_
          refine pw_aload_n 0 rfl dX9_init_131 rfl ?_
          refine pw_bipush dX9_init_132 (by decide) ?_
          refine pw_newI (L := 40) rfl dX9_init_134 kw_118 (by decide) (by decide) (by decide) (by omega) (by omega) (by simp [lvA, lput, lput2, nrf, wct, isl]) (by simp [lvA, lput, lput2, nrf, wct, isl]) ?_
          refine pw_putR 9 dX9_init_136 cOk9 ⟨by omega, by omega, by decide⟩ (by decide) kw_356 (Or.inr ⟨rfl, rfl, rfl⟩) (Or.inr ⟨_, rfl⟩) (by decide) rfl (by omega) (by omega) ?_
          refine pw_okc (okF _ 77) (okE_F (ci := 2) (by decide) (fun k k1 k2 => ?_)) ?_
          · exfalso; revert k; decide +kernel
          refine pw_okc (okF _ 1) (okE_F (ci := 9) (by decide) (fun k k1 k2 => ?_)) ?_
          · have hk9 : k ≤ 9 := by revert k; decide +kernel
            rw [okF_n _ (by omega)]
            by_cases q9 : k = 9
            · rw [q9, okS_t]
            · rw [okS_i _ _ q9, okZ_o _ (by omega)]
              by_cases q8 : k = 8
              · rw [q8, okS_t]
              · rw [okS_i _ _ q8, okZ_o _ (by omega)]
                by_cases q7 : k = 7
                · rw [q7, okS_t]
                · rw [okS_i _ _ q7]; exact T84 k (by omega)
          have hOf1 : Of 87 (okF (okF (okS (okZ (okS (okZ (okS o84 1 7) 86) 1 8) 87) 1 9) 77) 1) 9 1 := ⟨⟨by omega, by omega, by decide⟩, fun k => okF_s _ _ _⟩
          have hO77 : ∀ k, okF (okF (okS (okZ (okS (okZ (okS o84 1 7) 86) 1 8) 87) 1 9) 77) 1 77 k = true := fun k => by rw [okF_n _ (by omega)]; exact okF_s _ _ _
          have C84 : ∀ a, a ≠ 1 → a ≠ 77 → a < 86 → okF (okF (okS (okZ (okS (okZ (okS o84 1 7) 86) 1 8) 87) 1 9) 77) 1 a = o84 a := fun a a1 a2 a3 => by rw [okF_n _ a1, okF_n _ a2, okS_o _ _ a1, okZ_o _ (by omega), okS_o _ _ a1, okZ_o _ (by omega), okS_o _ _ a1]
          generalize okF (okF (okS (okZ (okS (okZ (okS o84 1 7) 86) 1 8) 87) 1 9) 77) 1 = F9 at hOf1 hO77 C84 ⊢
          refine pw_aload_n 0 rfl dX9_init_139 rfl ?_
          refine pw_iconst dX9_init_140 ?_
          refine pw_pI 14 14 rfl dX9_init_141 cOk9 hOf1 (by decide) kw_361 rfl rfl (by decide) (by omega) ?_
          refine pw_vret dX9_init_144 rfl rfl ?_
          have C82 : ∀ a, a ≠ 1 → a ≠ 77 → a < 84 → F9 a = o82 a := fun a a1 a2 a3 => by rw [C84 a a1 a2 (by omega), (hw841 a a3).1, okZ_o _ (by omega), okS_o _ _ a1]
          have C80 : ∀ a, a ≠ 1 → a ≠ 77 → a < 82 → F9 a = o80 a := fun a a1 a2 a3 => by rw [C82 a a1 a2 (by omega), (hw821 a a3).1, okZ_o _ (by omega), okS_o _ _ a1]
          have Cm : ∀ a, a ≠ 1 → a ≠ 77 → a < 80 → F9 a = om a := fun a a1 a2 a3 => by rw [C80 a a1 a2 (by omega), (hw801 a a3).1, okZ_o _ (by omega), okS_o _ _ a1]
          have C59 : ∀ a, a ≠ 1 → a < 77 → F9 a = o59 a := fun a a1 a2 => by rw [Cm a a1 (by omega) (by omega), (hm1 a (by omega)).1, okZ_o _ (by omega), okS_o _ _ a1, okZ_o _ (by omega), okS_o _ _ a1]
          have C41 : ∀ a, a ≠ 1 → a ≠ 4 → a < 59 → F9 a = o41 a := fun a a1 a2 a3 => by rw [C59 a a1 (by omega), (hc59 a a3).1, okZ_o _ (by omega), okS_o _ _ a2]
          have C23 : ∀ a, a ≠ 1 → a ≠ 4 → a < 41 → F9 a = o23 a := fun a a1 a2 a3 => by rw [C41 a a1 a2 (by omega), (hc41 a a3).1, okZ_o _ (by omega), okS_o _ _ a2]
          have C5 : ∀ a, a ≠ 1 → a ≠ 4 → a < 23 → F9 a = o5 a := fun a a1 a2 a3 => by rw [C23 a a1 a2 (by omega), (hc23 a a3).1, okZ_o _ (by omega), okS_o _ _ a2]
          have C1 : ∀ a, a ≠ 1 → a < 4 → F9 a = o1 a := fun a a1 a2 => by rw [C5 a a1 (by omega) (by omega), (hc5 a (by omega)).1, okZ_o _ (by omega), okS_o _ _ a1, okZ_o _ (by omega), okS_o _ _ a1]
          have D84 : ∀ a, a < 86 → zr (zr m84 86) 87 a = m84 a := fun a a3 => by rw [zr_a _ (by omega), zr_a _ (by omega)]
          have D82 : ∀ a, a < 84 → zr (zr m84 86) 87 a = m82 a := fun a a3 => by rw [D84 a (by omega), (hw841 a a3).2, zr_a _ (by omega)]
          have D80 : ∀ a, a < 82 → zr (zr m84 86) 87 a = m80 a := fun a a3 => by rw [D82 a (by omega), (hw821 a a3).2, zr_a _ (by omega)]
          have Dm : ∀ a, a < 80 → zr (zr m84 86) 87 a = mm a := fun a a3 => by rw [D80 a (by omega), (hw801 a a3).2, zr_a _ (by omega)]
          have D59 : ∀ a, a < 77 → zr (zr m84 86) 87 a = m59 a := fun a a2 => by rw [Dm a (by omega), (hm1 a (by omega)).2, zr_a _ (by omega), zr_a _ (by omega)]
          have D41 : ∀ a, a < 59 → zr (zr m84 86) 87 a = m41 a := fun a a3 => by rw [D59 a (by omega), (hc59 a a3).2, zr_a _ (by omega)]
          have D23 : ∀ a, a < 41 → zr (zr m84 86) 87 a = m23 a := fun a a3 => by rw [D41 a (by omega), (hc41 a a3).2, zr_a _ (by omega)]
          have D5 : ∀ a, a < 23 → zr (zr m84 86) 87 a = m5 a := fun a a3 => by rw [D23 a (by omega), (hc23 a a3).2, zr_a _ (by omega)]
          have D1 : ∀ a, a < 4 → zr (zr m84 86) 87 a = m1 a := fun a a2 => by rw [D5 a (by omega), (hc5 a (by omega)).2, zr_a _ (by omega), zr_a _ (by omega)]
          have D01 : ∀ k, zr (zr m84 86) 87 1 k = 0 := fun k => by rw [D1 1 (by omega), (hn1 1 (by omega)).2, zr_a _ (by omega)]; exact hz k
          have D02 : ∀ k, zr (zr m84 86) 87 2 k = 0 := fun k => by rw [D1 2 (by omega), hn3]; exact zr_s _ _ _
          have D80k : zr (zr m84 86) 87 80 1 = 0 := by rw [D80 80 (by omega), hw803]; exact zr_s _ _ _
          have e4 : F9 4 = okS o41 4 (0 + 1 + 1 : Int).toNat 4 := by rw [C59 4 (by omega) (by omega), (hc59 4 (by omega)).1, okZ_o _ (by omega)]
          have e42 : o41 4 = okS o23 4 (0 + 1 : Int).toNat 4 := by rw [(hc41 4 (by omega)).1, okZ_o _ (by omega)]
          have e43 : o23 4 = okS o5 4 (0 : Int).toNat 4 := by rw [(hc23 4 (by omega)).1, okZ_o _ (by omega)]
          have f2 : F9 4 (2 : Int).toNat = true := by rw [e4]; exact okS_t _ _ _
          have f1 : F9 4 (1 : Int).toNat = true := by rw [e4, okS_i _ _ (by decide), e42]; exact okS_t _ _ _
          have f0 : F9 4 (0 : Int).toNat = true := by rw [e4, okS_i _ _ (by decide), e42, okS_i _ _ (by decide), e43]; exact okS_t _ _ _
          have ch : ∀ (nn b : Nat) (ob : pO), ChUp nn ob b → nn ≤ 87 → (∀ a, b ≤ a → a ≤ b + 17 → F9 a = ob a) → ChUp 87 F9 b := fun nn b ob h hn e => by
            obtain ⟨hC0, ⟨hC1, hC2, hC3, hC4, hC5, hC6, hC7⟩, hC8, ⟨hC9, hC10, hC11, hC12, hC13, hC14, hC15⟩, hC16, hC17, hb5, hb59⟩ := h
            exact ⟨Of_up hC0 hn (e _ (by omega) (by omega)), ⟨Ar_up hC1 hn, Ar_up hC2 hn, Ar_up hC3 hn, Ar_up hC4 hn, Ar_up hC5 hn, Ar_up hC6 hn, Ar_up hC7 hn⟩, Of_up hC8 hn (e _ (by omega) (by omega)), ⟨Ar_up hC9 hn, Ar_up hC10 hn, Ar_up hC11 hn, Ar_up hC12 hn, Ar_up hC13 hn, Ar_up hC14 hn, Ar_up hC15 hn⟩, Of_up hC16 hn (e _ (by omega) (by omega)), Ar_up hC17 hn, hb5, hb59⟩
          have wu : ∀ (nn w : Nat) (ob : pO), WUp nn ob w → nn ≤ 87 → F9 w = ob w → WUp 87 F9 w := fun nn w ob h hn e => ⟨Of_up h.1 hn e, Ar_up h.2.1 hn, h.2.2⟩
          have hCl : ClUp 87 F9 := by
            refine ⟨hOf1, ⟨Of_up hnU.1 (by omega) (C1 2 (by omega) (by omega)), Ar_up hnU.2 (by omega)⟩, ⟨by omega, f0, f1, f2⟩, fun b hb => ?_, ⟨⟨by omega, by omega, by decide⟩, hO77⟩, ⟨Of_up hmU.1 (by omega) (Cm 78 (by omega) (by omega) (by omega)), Az_up hmU.2 (by omega)⟩, ⟨wu _ _ _ hw80U (by omega) (C80 80 (by omega) (by omega) (by omega)), wu _ _ _ hw82U (by omega) (C82 82 (by omega) (by omega) (by omega)), wu _ _ _ hw84U (by omega) (C84 84 (by omega) (by omega) (by omega))⟩, ⟨by omega, by omega, by decide, by decide, by omega⟩, ⟨by omega, by omega, by decide, by decide, by omega⟩, fun z => absurd z (by omega), by omega⟩
            rcases hb with e | e | e | e
            · subst e; exact ch _ _ _ hC5 (by omega) (fun a a1 a2 => C5 a (by omega) (by omega) (by omega))
            · subst e; exact ch _ _ _ hC23 (by omega) (fun a a1 a2 => C23 a (by omega) (by omega) (by omega))
            · subst e; exact ch _ _ _ hC41 (by omega) (fun a a1 a2 => C41 a (by omega) (by omega) (by omega))
            · subst e; exact ch _ _ _ hC59 (by omega) (fun a a1 a2 => C59 a (by omega) (by omega))
          generalize zr (zr m84 86) 87 = X9 at D82 D80 Dm D59 D41 D23 D5 D1 D01 D02 D80k D84 ⊢
          have W9 : ∀ a, a ≠ 1 → wr X9 1 14 (-1) a = X9 a := fun a q => wr_a _ _ _ q
          have K9 : ∀ k, k ≠ 14 → wr X9 1 14 (-1) 1 k = 0 := fun k q => by rw [wr_k _ _ _ _ q]; exact D01 k
          refine ⟨rfl, hCl, ⟨K9 _ (by omega), K9 _ (by omega), K9 _ (by omega), wr_s _ _ _ _, K9 _ (by omega), K9 _ (by omega)⟩, ⟨?_, ?_, ?_⟩, fun b hb => ?_, ⟨?_, ?_, ?_, fun j => ?_⟩, ?_⟩
          · rw [W9 2 (by omega)]; exact D02 _
          · rw [W9 2 (by omega)]; exact D02 _
          · rw [W9 2 (by omega)]; exact D02 _
          · rcases hb with e | e | e | e
            · subst e
              have g : ∀ a, 5 ≤ a → a ≤ 22 → wr X9 1 14 (-1) a = m5 a := fun a a1 a2 => (W9 a (by omega)).trans (D5 a (by omega))
              exact ⟨hS5.m (fun a a1 a2 _ _ => g a (by omega) (by omega)), hV5.m (g _ (by omega) (by omega)), by rw [g 5 (by omega) (by omega)]; exact hj5, by rw [g 5 (by omega) (by omega)]; exact hs5, by rw [g 21 (by omega) (by omega)]; exact hk5, by rw [g 21 (by omega) (by omega)]; exact hl5⟩
            · subst e
              have g : ∀ a, 23 ≤ a → a ≤ 40 → wr X9 1 14 (-1) a = m23 a := fun a a1 a2 => (W9 a (by omega)).trans (D23 a (by omega))
              exact ⟨hS23.m (fun a a1 a2 _ _ => g a (by omega) (by omega)), hV23.m (g _ (by omega) (by omega)), by rw [g 23 (by omega) (by omega)]; exact hj23, by rw [g 23 (by omega) (by omega)]; exact hs23, by rw [g 39 (by omega) (by omega)]; exact hk23, by rw [g 39 (by omega) (by omega)]; exact hl23⟩
            · subst e
              have g : ∀ a, 41 ≤ a → a ≤ 58 → wr X9 1 14 (-1) a = m41 a := fun a a1 a2 => (W9 a (by omega)).trans (D41 a (by omega))
              exact ⟨hS41.m (fun a a1 a2 _ _ => g a (by omega) (by omega)), hV41.m (g _ (by omega) (by omega)), by rw [g 41 (by omega) (by omega)]; exact hj41, by rw [g 41 (by omega) (by omega)]; exact hs41, by rw [g 57 (by omega) (by omega)]; exact hk41, by rw [g 57 (by omega) (by omega)]; exact hl41⟩
            · subst e
              have g : ∀ a, 59 ≤ a → a ≤ 76 → wr X9 1 14 (-1) a = m59 a := fun a a1 a2 => (W9 a (by omega)).trans (D59 a (by omega))
              exact ⟨hS59.m (fun a a1 a2 _ _ => g a (by omega) (by omega)), hV59.m (g _ (by omega) (by omega)), by rw [g 59 (by omega) (by omega)]; exact hj59, by rw [g 59 (by omega) (by omega)]; exact hs59, by rw [g 75 (by omega) (by omega)]; exact hk59, by rw [g 75 (by omega) (by omega)]; exact hl59⟩
          · rw [W9 78 (by omega), Dm 78 (by omega)]; exact hm2
          · rw [W9 78 (by omega), Dm 78 (by omega)]; exact hm3
          · rw [W9 78 (by omega), Dm 78 (by omega)]; exact hm4
          · rw [W9 79 (by omega), Dm 79 (by omega)]; exact hm5 j
          · rw [W9 80 (by omega)]; exact D80k
        · skip
          exfalso; omega
