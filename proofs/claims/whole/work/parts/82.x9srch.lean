/-! ===== what is asked of the search ===== -/
theorem RG_so {A m : pM} {n : Nat} (h : RG A m n) (h31 : A 88 31 ≠ 0) : n = 133 ∧ m 1 10 = 123 ∧ m 123 10 ≠ 0 ∧ RSo A m := by
  rcases h.2.2.2.2.2.2.2 with z | z
  · exact absurd z.2.2 h31
  · exact ⟨z.2.1, z.1, z.2.2.1.mpr h31, z.2.2.2⟩
theorem ord_c {S m : pM} (hSR : SRm S m) (hSI : SIs S) (x : Int) : ∃ q, (if 0 ≤ x ∧ x < 1024 then m 128 x else -1) = q ∧ ((q = -1 ∧ (¬ (0 ≤ x ∧ x ≤ 1023) ∨ S 109 x = -1)) ∨ ((0 ≤ x ∧ x ≤ 1023) ∧ S 109 x ≠ -1 ∧ q = S 110 x ∧ 0 ≤ q ∧ q < S 88 34 ∧ S 108 q = x)) := by
  by_cases h : 0 ≤ x ∧ x < 1024
  · rw [if_pos h, hSR.2.2.2 x h.1 h.2]
    by_cases e : S 109 x = -1
    · exact ⟨-1, if_pos e, Or.inl ⟨rfl, Or.inr e⟩⟩
    · have g := hSI.2.2.1 x h.1 h.2
      rcases g with g | g
      · exact absurd g e
      · exact ⟨S 110 x, if_neg e, Or.inr ⟨by omega, e, rfl, g.1, g.2.1, g.2.2⟩⟩
  · exact ⟨-1, if_neg h, Or.inl ⟨rfl, Or.inl (by omega)⟩⟩
theorem way_c {S : pM} (hSI : SIs S) : ∃ L, (if S 88 36 = -1 then -1 else S 109 (S 108 (S 88 36))) = L ∧ ((L = -1 ∧ S 88 36 = -1) ∨ (S 88 36 ≠ -1 ∧ 0 ≤ S 88 36 ∧ S 88 36 < S 88 34 ∧ L = S 109 (S 108 (S 88 36)) ∧ 0 ≤ L ∧ L ≤ 1024)) := by
  have h1 := hSI.1
  by_cases e : S 88 36 = -1
  · exact ⟨-1, if_pos e, Or.inl ⟨rfl, e⟩⟩
  · have g := hSI.2.1 (S 88 36) (by omega) (by omega)
    exact ⟨_, if_neg e, Or.inr ⟨e, by omega, by omega, rfl, by omega, by omega⟩⟩
theorem wOrd_0 {m : pM} (h : m 88 31 = 0) (k : Int) : wOrd m k = -1 := by unfold wOrd; rw [if_neg (fun z => z.1 h)]
set_option maxHeartbeats 4000000 in
set_option maxRecDepth 100000 in
theorem p_sTa (d : Nat) (hd : 0 ≤ d) (n : Nat) (ok : pO) (mem : pM) (hU : ClUp n ok) (h10 : mem 1 10 = ((0 : Nat) : Int)) : PM mi_X9_searchThere d [vr 1] n ok mem n (fun r ok' mem' => r = some (vr 0) ∧ ok = ok' ∧ mem = mem') := by
  obtain ⟨hP9, hN, ⟨hn4, ho0, ho1, ho2⟩, hCh, hDr, hM, ⟨hW80, hW82, hW84⟩, q86, q87, hSU, hn133⟩ := id hU
  refine PM.of (by decide) (by decide) (Nat.le_refl _) (Nat.le_of_ble_eq_true rfl) ?_
  refine pw_aload_n 0 rfl dX9_searchThere_0 rfl ?_
  refine pw_gV 10 10 0 rfl dX9_searchThere_1 cOk9 (by assumption) (by decide) kw_357 (by decide) h10 ?_
  refine pw_ifnull_t 24 (by decide) dX9_searchThere_4 ?_
  refine pw_null dX9_searchThere_24 ?_
  refine pw_aret dX9_searchThere_25 rfl rfl ?_
  exact ⟨rfl, rfl, rfl⟩
set_option maxHeartbeats 4000000 in
set_option maxRecDepth 100000 in
theorem p_sTb (d : Nat) (hd : 0 ≤ d) (n : Nat) (ok : pO) (mem : pM) (hU : ClUp n ok) (h10 : mem 1 10 = ((123 : Nat) : Int)) (hn9 : n = 133) (hz : mem 123 10 = 0) : PM mi_X9_searchThere d [vr 1] n ok mem n (fun r ok' mem' => r = some (vr 0) ∧ ok = ok' ∧ mem = mem') := by
  obtain ⟨hP9, hN, ⟨hn4, ho0, ho1, ho2⟩, hCh, hDr, hM, ⟨hW80, hW82, hW84⟩, q86, q87, hSU, hn133⟩ := id hU
  have hS7 : Of n ok 7 123 := (hSU hn9).1
  refine PM.of (by decide) (by decide) (Nat.le_refl _) (Nat.le_of_ble_eq_true rfl) ?_
  refine pw_aload_n 0 rfl dX9_searchThere_0 rfl ?_
  refine pw_gV 10 10 123 rfl dX9_searchThere_1 cOk9 (by assumption) (by decide) kw_357 (by decide) h10 ?_
  refine pw_ifnull_f (by omega) dX9_searchThere_4 ?_
  refine pw_aload_n 0 rfl dX9_searchThere_7 rfl ?_
  refine pw_gV 10 10 123 rfl dX9_searchThere_8 cOk9 (by assumption) (by decide) kw_357 (by decide) h10 ?_
  refine pw_gI 10 10 rfl dX9_searchThere_11 cOk7 hS7 (by decide) kw_569 (by decide) (fun r11 => ?_)
  refine pw_if_eq 24 (by decide) dX9_searchThere_14 (by omega) (fun c14 => ?_) (fun c14 => ?_)
  · skip
    refine pw_null dX9_searchThere_24 ?_
    refine pw_aret dX9_searchThere_25 rfl rfl ?_
    exact ⟨rfl, rfl, rfl⟩
  · skip
    exfalso; omega
set_option maxHeartbeats 4000000 in
set_option maxRecDepth 100000 in
theorem p_sTc (d : Nat) (hd : 0 ≤ d) (n : Nat) (ok : pO) (mem : pM) (hU : ClUp n ok) (h10 : mem 1 10 = ((123 : Nat) : Int)) (hn9 : n = 133) (hz : mem 123 10 ≠ 0) : PM mi_X9_searchThere d [vr 1] n ok mem n (fun r ok' mem' => r = some (vr 123) ∧ ok = ok' ∧ mem = mem') := by
  obtain ⟨hP9, hN, ⟨hn4, ho0, ho1, ho2⟩, hCh, hDr, hM, ⟨hW80, hW82, hW84⟩, q86, q87, hSU, hn133⟩ := id hU
  have hS7 : Of n ok 7 123 := (hSU hn9).1
  refine PM.of (by decide) (by decide) (Nat.le_refl _) (Nat.le_of_ble_eq_true rfl) ?_
  refine pw_aload_n 0 rfl dX9_searchThere_0 rfl ?_
  refine pw_gV 10 10 123 rfl dX9_searchThere_1 cOk9 (by assumption) (by decide) kw_357 (by decide) h10 ?_
  refine pw_ifnull_f (by omega) dX9_searchThere_4 ?_
  refine pw_aload_n 0 rfl dX9_searchThere_7 rfl ?_
  refine pw_gV 10 10 123 rfl dX9_searchThere_8 cOk9 (by assumption) (by decide) kw_357 (by decide) h10 ?_
  refine pw_gI 10 10 rfl dX9_searchThere_11 cOk7 hS7 (by decide) kw_569 (by decide) (fun r11 => ?_)
  refine pw_if_eq 24 (by decide) dX9_searchThere_14 (by omega) (fun c14 => ?_) (fun c14 => ?_)
  · skip
    exfalso; omega
  · skip
    refine pw_aload_n 0 rfl dX9_searchThere_17 rfl ?_
    refine pw_gV 10 10 123 rfl dX9_searchThere_18 cOk9 (by assumption) (by decide) kw_357 (by decide) h10 ?_
    refine pw_goto 25 (by decide) dX9_searchThere_21 ?_
    refine pw_aret dX9_searchThere_25 rfl rfl ?_
    exact ⟨rfl, rfl, rfl⟩
theorem p_sT0 (d : Nat) (hd : 0 ≤ d) (n : Nat) (ok : pO) (mem : pM) (hU : ClUp n ok) (A : pM) (hG : RG A mem n) (h31 : A 88 31 = 0) : PM mi_X9_searchThere d [vr 1] n ok mem n (fun r ok' mem' => r = some (vr 0) ∧ ok = ok' ∧ mem = mem') := by
  rcases hG.2.2.2.2.2.2.2 with z | z
  · exact p_sTa d hd n ok mem hU (by have := z.1; omega)
  · refine p_sTb d hd n ok mem hU (by have := z.1; omega) z.2.1 ?_
    by_cases q : mem 123 10 = 0
    · exact q
    · exact absurd h31 (z.2.2.1.mp q)
theorem p_sT1 (d : Nat) (hd : 0 ≤ d) (n : Nat) (ok : pO) (mem : pM) (hU : ClUp n ok) (A : pM) (hG : RG A mem n) (h31 : A 88 31 ≠ 0) : PM mi_X9_searchThere d [vr 1] n ok mem n (fun r ok' mem' => r = some (vr 123) ∧ ok = ok' ∧ mem = mem') := by
  have z := RG_so hG h31
  exact p_sTc d hd n ok mem hU (by have := z.2.1; omega) z.1 z.2.2.1
set_option maxHeartbeats 4000000 in
set_option maxRecDepth 100000 in
theorem p_sNa (d : Nat) (hd : 1 ≤ d) (n : Nat) (ok : pO) (mem : pM) (hU : ClUp n ok) (A : pM) (hG : RG A mem n) (h31 : A 88 31 = 0) : PM mi_X9_searchNotOver d [vr 1] n ok mem n (fun r ok' mem' => r = some (vr 0) ∧ ok = ok' ∧ mem = mem') := by
  obtain ⟨hP9, hN, ⟨hn4, ho0, ho1, ho2⟩, hCh, hDr, hM, ⟨hW80, hW82, hW84⟩, q86, q87, hSU, hn133⟩ := id hU
  refine PM.of (by decide) (by decide) (Nat.le_refl _) (Nat.le_of_ble_eq_true rfl) ?_
  refine pw_aload_n 0 rfl dX9_searchNotOver_0 rfl ?_
  refine pw_callV (d' := d - 1) (As := []) (ci := 9) dX9_searchNotOver_1 ok_X9_searchThere kw_868 rfl rfl (Of.o (by assumption)) (by omega) rfl (Nat.le_of_ble_eq_true rfl) (p_sT0 (d - 1) (by omega) n ok mem hU A hG h31) (Nat.le_refl _) (Or.inl rfl) (fun r ok1 mem1 hq => ?_)
  obtain ⟨rfl, rfl, rfl⟩ := hq
  refine pw_astore_n 1 rfl dX9_searchNotOver_4 (by decide) ?_
  refine pw_aload_n 1 rfl dX9_searchNotOver_5 rfl ?_
  refine pw_ifnull_t 20 (by decide) dX9_searchNotOver_6 ?_
  refine pw_null dX9_searchNotOver_20 ?_
  refine pw_aret dX9_searchNotOver_21 rfl rfl ?_
  exact ⟨rfl, rfl, rfl⟩
set_option maxHeartbeats 4000000 in
set_option maxRecDepth 100000 in
theorem p_sNb (d : Nat) (hd : 1 ≤ d) (n : Nat) (ok : pO) (mem : pM) (hU : ClUp n ok) (A : pM) (hG : RG A mem n) (h31 : A 88 31 ≠ 0) (h32 : A 88 32 ≠ 0) : PM mi_X9_searchNotOver d [vr 1] n ok mem n (fun r ok' mem' => r = some (vr 0) ∧ ok = ok' ∧ mem = mem') := by
  obtain ⟨hP9, hN, ⟨hn4, ho0, ho1, ho2⟩, hCh, hDr, hM, ⟨hW80, hW82, hW84⟩, q86, q87, hSU, hn133⟩ := id hU
  obtain ⟨hn9, hm10, hth, hso⟩ := RG_so hG h31
  have hS9 := hSU hn9
  obtain ⟨hS7, ⟨x124, x125, x126, x127, x128, x129, x130⟩, x131, x132, x133⟩ := id hS9
  obtain ⟨hov, h9, hSG, h8⟩ := hso h31
  have hSR := hSG.1
  have h15 := hSG.2.1
  have hq := hov.mpr h32
  refine PM.of (by decide) (by decide) (Nat.le_refl _) (Nat.le_of_ble_eq_true rfl) ?_
  refine pw_aload_n 0 rfl dX9_searchNotOver_0 rfl ?_
  refine pw_callV (d' := d - 1) (As := []) (ci := 9) dX9_searchNotOver_1 ok_X9_searchThere kw_868 rfl rfl (Of.o (by assumption)) (by omega) rfl (Nat.le_of_ble_eq_true rfl) (p_sT1 (d - 1) (by omega) n ok mem hU A hG h31) (Nat.le_refl _) (Or.inl rfl) (fun r ok1 mem1 hq => ?_)
  obtain ⟨rfl, rfl, rfl⟩ := hq
  refine pw_astore_n 1 rfl dX9_searchNotOver_4 (by decide) ?_
  refine pw_aload_n 1 rfl dX9_searchNotOver_5 rfl ?_
  refine pw_ifnull_f (by omega) dX9_searchNotOver_6 ?_
  refine pw_aload_n 1 rfl dX9_searchNotOver_9 rfl ?_
  refine pw_gI 11 11 rfl dX9_searchNotOver_10 cOk7 (by assumption) (by decide) kw_571 (by decide) (fun r10 => ?_)
  refine pw_if_ne 20 (by decide) dX9_searchNotOver_13 (by omega) (fun c13 => ?_) (fun c13 => ?_)
  · skip
    refine pw_null dX9_searchNotOver_20 ?_
    refine pw_aret dX9_searchNotOver_21 rfl rfl ?_
    exact ⟨rfl, rfl, rfl⟩
  · skip
    exfalso; omega
set_option maxHeartbeats 4000000 in
set_option maxRecDepth 100000 in
theorem p_sNc (d : Nat) (hd : 1 ≤ d) (n : Nat) (ok : pO) (mem : pM) (hU : ClUp n ok) (A : pM) (hG : RG A mem n) (h31 : A 88 31 ≠ 0) (h32 : A 88 32 = 0) : PM mi_X9_searchNotOver d [vr 1] n ok mem n (fun r ok' mem' => r = some (vr 123) ∧ ok = ok' ∧ mem = mem') := by
  obtain ⟨hP9, hN, ⟨hn4, ho0, ho1, ho2⟩, hCh, hDr, hM, ⟨hW80, hW82, hW84⟩, q86, q87, hSU, hn133⟩ := id hU
  obtain ⟨hn9, hm10, hth, hso⟩ := RG_so hG h31
  have hS9 := hSU hn9
  obtain ⟨hS7, ⟨x124, x125, x126, x127, x128, x129, x130⟩, x131, x132, x133⟩ := id hS9
  obtain ⟨hov, h9, hSG, h8⟩ := hso h31
  have hSR := hSG.1
  have h15 := hSG.2.1
  refine PM.of (by decide) (by decide) (Nat.le_refl _) (Nat.le_of_ble_eq_true rfl) ?_
  refine pw_aload_n 0 rfl dX9_searchNotOver_0 rfl ?_
  refine pw_callV (d' := d - 1) (As := []) (ci := 9) dX9_searchNotOver_1 ok_X9_searchThere kw_868 rfl rfl (Of.o (by assumption)) (by omega) rfl (Nat.le_of_ble_eq_true rfl) (p_sT1 (d - 1) (by omega) n ok mem hU A hG h31) (Nat.le_refl _) (Or.inl rfl) (fun r ok1 mem1 hq => ?_)
  obtain ⟨rfl, rfl, rfl⟩ := hq
  refine pw_astore_n 1 rfl dX9_searchNotOver_4 (by decide) ?_
  refine pw_aload_n 1 rfl dX9_searchNotOver_5 rfl ?_
  refine pw_ifnull_f (by omega) dX9_searchNotOver_6 ?_
  refine pw_aload_n 1 rfl dX9_searchNotOver_9 rfl ?_
  refine pw_gI 11 11 rfl dX9_searchNotOver_10 cOk7 (by assumption) (by decide) kw_571 (by decide) (fun r10 => ?_)
  refine pw_if_ne 20 (by decide) dX9_searchNotOver_13 (by omega) (fun c13 => ?_) (fun c13 => ?_)
  · skip
    exact absurd h32 (hov.mp c13)
  · skip
    refine pw_aload_n 1 rfl dX9_searchNotOver_16 rfl ?_
    refine pw_goto 21 (by decide) dX9_searchNotOver_17 ?_
    refine pw_aret dX9_searchNotOver_21 rfl rfl ?_
    exact ⟨rfl, rfl, rfl⟩
theorem p_sN0 (d : Nat) (hd : 1 ≤ d) (n : Nat) (ok : pO) (mem : pM) (hU : ClUp n ok) (A : pM) (hG : RG A mem n) (h31 : A 88 31 = 0 ∨ A 88 32 ≠ 0) : PM mi_X9_searchNotOver d [vr 1] n ok mem n (fun r ok' mem' => r = some (vr 0) ∧ ok = ok' ∧ mem = mem') := by
  by_cases z : A 88 31 = 0
  · exact p_sNa d hd n ok mem hU A hG z
  · rcases h31 with w | w
    · exact absurd w z
    · exact p_sNb d hd n ok mem hU A hG z w
set_option maxHeartbeats 4000000 in
set_option maxRecDepth 100000 in
theorem p_sFa (d : Nat) (hd : 2 ≤ d) (n : Nat) (ok : pO) (mem : pM) (hU : ClUp n ok) (A : pM) (hG : RG A mem n) (h31 : A 88 31 = 0 ∨ A 88 32 ≠ 0) : PM mi_X9_searchFinished d [vr 1] n ok mem n (fun r ok' mem' => r = some (vr 0) ∧ ok = ok' ∧ mem = mem') := by
  obtain ⟨hP9, hN, ⟨hn4, ho0, ho1, ho2⟩, hCh, hDr, hM, ⟨hW80, hW82, hW84⟩, q86, q87, hSU, hn133⟩ := id hU
  refine PM.of (by decide) (by decide) (Nat.le_refl _) (Nat.le_of_ble_eq_true rfl) ?_
  refine pw_aload_n 0 rfl dX9_searchFinished_0 rfl ?_
  refine pw_callV (d' := d - 1) (As := []) (ci := 9) dX9_searchFinished_1 ok_X9_searchNotOver kw_864 rfl rfl (Of.o (by assumption)) (by omega) rfl (Nat.le_of_ble_eq_true rfl) (p_sN0 (d - 1) (by omega) n ok mem hU A hG h31) (Nat.le_refl _) (Or.inl rfl) (fun r ok1 mem1 hq => ?_)
  obtain ⟨rfl, rfl, rfl⟩ := hq
  refine pw_astore_n 1 rfl dX9_searchFinished_4 (by decide) ?_
  refine pw_aload_n 1 rfl dX9_searchFinished_5 rfl ?_
  refine pw_ifnull_t 20 (by decide) dX9_searchFinished_6 ?_
  refine pw_null dX9_searchFinished_20 ?_
  refine pw_aret dX9_searchFinished_21 rfl rfl ?_
  exact ⟨rfl, rfl, rfl⟩
set_option maxHeartbeats 4000000 in
set_option maxRecDepth 100000 in
theorem p_sFb (d : Nat) (hd : 2 ≤ d) (n : Nat) (ok : pO) (mem : pM) (hU : ClUp n ok) (A : pM) (hG : RG A mem n) (h31 : A 88 31 ≠ 0) (h32 : A 88 32 = 0) (h35 : A 88 35 ≠ A 88 34) : PM mi_X9_searchFinished d [vr 1] n ok mem n (fun r ok' mem' => r = some (vr 0) ∧ ok = ok' ∧ mem = mem') := by
  obtain ⟨hP9, hN, ⟨hn4, ho0, ho1, ho2⟩, hCh, hDr, hM, ⟨hW80, hW82, hW84⟩, q86, q87, hSU, hn133⟩ := id hU
  obtain ⟨hn9, hm10, hth, hso⟩ := RG_so hG h31
  have hS9 := hSU hn9
  obtain ⟨hS7, ⟨x124, x125, x126, x127, x128, x129, x130⟩, x131, x132, x133⟩ := id hS9
  obtain ⟨hov, h9, hSG, h8⟩ := hso h31
  have hSR := hSG.1
  have h15 := hSG.2.1
  refine PM.of (by decide) (by decide) (Nat.le_refl _) (Nat.le_of_ble_eq_true rfl) ?_
  refine pw_aload_n 0 rfl dX9_searchFinished_0 rfl ?_
  refine pw_callV (d' := d - 1) (As := []) (ci := 9) dX9_searchFinished_1 ok_X9_searchNotOver kw_864 rfl rfl (Of.o (by assumption)) (by omega) rfl (Nat.le_of_ble_eq_true rfl) (p_sNc (d - 1) (by omega) n ok mem hU A hG h31 h32) (Nat.le_refl _) (Or.inl rfl) (fun r ok1 mem1 hq => ?_)
  obtain ⟨rfl, rfl, rfl⟩ := hq
  refine pw_astore_n 1 rfl dX9_searchFinished_4 (by decide) ?_
  refine pw_aload_n 1 rfl dX9_searchFinished_5 rfl ?_
  refine pw_ifnull_f (by omega) dX9_searchFinished_6 ?_
  refine pw_aload_n 1 rfl dX9_searchFinished_9 rfl ?_
  refine pw_callV (d' := d - 1) (As := []) (ci := 7) dX9_searchFinished_10 ok_X7_isWhole kw_856 rfl rfl (Of.o (by assumption)) (by omega) rfl (Nat.le_of_ble_eq_true rfl) (y_isWhole (d - 1) (by omega) n ok mem hS9) (Nat.le_refl _) (Or.inl rfl) (fun r ok1 mem1 hq => ?_)
  obtain ⟨rfl, rfl, rfl⟩ := hq
  rw [hSR.1, hSR.2.1]
  refine pw_if_eq 20 (by decide) dX9_searchFinished_13 (by split <;> omega) (fun c13 => ?_) (fun c13 => ?_)
  · skip
    rw [bz_0] at c13
    refine pw_null dX9_searchFinished_20 ?_
    refine pw_aret dX9_searchFinished_21 rfl rfl ?_
    exact ⟨rfl, rfl, rfl⟩
  · skip
    exfalso; rw [if_neg h35] at c13; omega
set_option maxHeartbeats 4000000 in
set_option maxRecDepth 100000 in
theorem p_sFc (d : Nat) (hd : 2 ≤ d) (n : Nat) (ok : pO) (mem : pM) (hU : ClUp n ok) (A : pM) (hG : RG A mem n) (h31 : A 88 31 ≠ 0) (h32 : A 88 32 = 0) (h35 : A 88 35 = A 88 34) : PM mi_X9_searchFinished d [vr 1] n ok mem n (fun r ok' mem' => r = some (vr 123) ∧ ok = ok' ∧ mem = mem') := by
  obtain ⟨hP9, hN, ⟨hn4, ho0, ho1, ho2⟩, hCh, hDr, hM, ⟨hW80, hW82, hW84⟩, q86, q87, hSU, hn133⟩ := id hU
  obtain ⟨hn9, hm10, hth, hso⟩ := RG_so hG h31
  have hS9 := hSU hn9
  obtain ⟨hS7, ⟨x124, x125, x126, x127, x128, x129, x130⟩, x131, x132, x133⟩ := id hS9
  obtain ⟨hov, h9, hSG, h8⟩ := hso h31
  have hSR := hSG.1
  have h15 := hSG.2.1
  refine PM.of (by decide) (by decide) (Nat.le_refl _) (Nat.le_of_ble_eq_true rfl) ?_
  refine pw_aload_n 0 rfl dX9_searchFinished_0 rfl ?_
  refine pw_callV (d' := d - 1) (As := []) (ci := 9) dX9_searchFinished_1 ok_X9_searchNotOver kw_864 rfl rfl (Of.o (by assumption)) (by omega) rfl (Nat.le_of_ble_eq_true rfl) (p_sNc (d - 1) (by omega) n ok mem hU A hG h31 h32) (Nat.le_refl _) (Or.inl rfl) (fun r ok1 mem1 hq => ?_)
  obtain ⟨rfl, rfl, rfl⟩ := hq
  refine pw_astore_n 1 rfl dX9_searchFinished_4 (by decide) ?_
  refine pw_aload_n 1 rfl dX9_searchFinished_5 rfl ?_
  refine pw_ifnull_f (by omega) dX9_searchFinished_6 ?_
  refine pw_aload_n 1 rfl dX9_searchFinished_9 rfl ?_
  refine pw_callV (d' := d - 1) (As := []) (ci := 7) dX9_searchFinished_10 ok_X7_isWhole kw_856 rfl rfl (Of.o (by assumption)) (by omega) rfl (Nat.le_of_ble_eq_true rfl) (y_isWhole (d - 1) (by omega) n ok mem hS9) (Nat.le_refl _) (Or.inl rfl) (fun r ok1 mem1 hq => ?_)
  obtain ⟨rfl, rfl, rfl⟩ := hq
  rw [hSR.1, hSR.2.1]
  refine pw_if_eq 20 (by decide) dX9_searchFinished_13 (by split <;> omega) (fun c13 => ?_) (fun c13 => ?_)
  · skip
    exfalso; rw [if_pos h35] at c13; omega
  · skip
    rw [bz_n] at c13
    refine pw_aload_n 1 rfl dX9_searchFinished_16 rfl ?_
    refine pw_goto 21 (by decide) dX9_searchFinished_17 ?_
    refine pw_aret dX9_searchFinished_21 rfl rfl ?_
    exact ⟨rfl, rfl, rfl⟩
theorem p_sF0 (d : Nat) (hd : 2 ≤ d) (n : Nat) (ok : pO) (mem : pM) (hU : ClUp n ok) (A : pM) (hG : RG A mem n) (hz : ¬ (A 88 31 ≠ 0 ∧ A 88 32 = 0 ∧ A 88 35 = A 88 34)) : PM mi_X9_searchFinished d [vr 1] n ok mem n (fun r ok' mem' => r = some (vr 0) ∧ ok = ok' ∧ mem = mem') := by
  by_cases z : A 88 31 = 0 ∨ A 88 32 ≠ 0
  · exact p_sFa d hd n ok mem hU A hG z
  · exact p_sFb d hd n ok mem hU A hG (by omega) (by omega) (by omega)
theorem p_sF1 (d : Nat) (hd : 2 ≤ d) (n : Nat) (ok : pO) (mem : pM) (hU : ClUp n ok) (A : pM) (hG : RG A mem n) (hz : A 88 31 ≠ 0 ∧ A 88 32 = 0 ∧ A 88 35 = A 88 34) : PM mi_X9_searchFinished d [vr 1] n ok mem n (fun r ok' mem' => r = some (vr 123) ∧ ok = ok' ∧ mem = mem') := p_sFc d hd n ok mem hU A hG hz.1 hz.2.1 hz.2.2
set_option maxHeartbeats 4000000 in
set_option maxRecDepth 100000 in
theorem p_searched0 (d : Nat) (hd : 2 ≤ d) (n : Nat) (ok : pO) (mem : pM) (hU : ClUp n ok) (hG : RG mem mem n) (hRI : RI mem) (w : Int) (hw : -2147483648 ≤ w ∧ w ≤ 2147483647) (h31 : mem 88 31 = 0) : PM mi_X9_searched d [vr 1, vi w] n ok mem n (fun r ok' mem' => r = some (vi (rSearched mem w).1) ∧ ok = ok' ∧ RE mem mem' ∧ RG (rSearched mem w).2 mem' n) := by
  obtain ⟨hP9, hN, ⟨hn4, ho0, ho1, ho2⟩, hCh, hDr, hM, ⟨hW80, hW82, hW84⟩, q86, q87, hSU, hn133⟩ := id hU
  obtain ⟨hN5, hN3⟩ := id hN
  obtain ⟨hM4, hM9⟩ := id hM
  obtain ⟨hW8, hWA, -, -⟩ := id hW80
  have hIO := hRI.1
  have hKO := hRI.2.1
  have ht9 := hRI.2.2.1
  have hq0 := hRI.2.2.2.1
  have hty := hRI.2.2.2.2.1
  have hNR := hG.1
  have hNR1 : mem 2 1 = mem 88 19 := hNR.1
  refine PM.of (by decide) (by decide) (Nat.le_refl _) (Nat.le_of_ble_eq_true rfl) ?_
  refine pw_iload_n 1 rfl dX9_searched_0 rfl ?_
  refine pw_if_lt 10 (by decide) dX9_searched_1 (by omega) (fun c1 => ?_) (fun c1 => ?_)
  · skip
    refine pw_aload_n 0 rfl dX9_searched_10 rfl ?_
    refine pw_bipush dX9_searched_11 (by decide) ?_
    refine pw_callV (d' := d - 1) (As := [_]) (ci := 9) dX9_searched_13 ok_X9_refused kw_406 rfl rfl (Of.o (by assumption)) (by omega) rfl (Nat.le_of_ble_eq_true rfl) (p_refused (d - 1) (by omega) n ok _ hP9 _ (by omega)) (Nat.le_refl _) (Or.inl rfl) (fun r ok1 mem1 hq => ?_)
    obtain ⟨rfl, rfl, rfl⟩ := hq
    refine pw_iret dX9_searched_16 rfl rfl ?_
    have e9 : rSearched mem w = rRef mem (-2) := by
      unfold rSearched; (repeat' split) <;> first | rfl | (exfalso; omega) | contradiction
    rw [e9]; exact ⟨rfl, rfl, RE1 _ _, RG_st hG hIO hKO _⟩
  · skip
    refine pw_iload_n 1 rfl dX9_searched_4 rfl ?_
    refine pw_bipush dX9_searched_5 (by decide) ?_
    refine pw_icmp_le 17 (by decide) dX9_searched_7 (by omega) (by omega) (fun c7 => ?_) (fun c7 => ?_)
    · skip
      refine pw_aload_n 0 rfl dX9_searched_17 rfl ?_
      refine pw_callV (d' := d - 1) (As := []) (ci := 9) dX9_searched_18 ok_X9_searchThere kw_868 rfl rfl (Of.o (by assumption)) (by omega) rfl (Nat.le_of_ble_eq_true rfl) (p_sT0 (d - 1) (by omega) n ok mem hU mem hG h31) (Nat.le_refl _) (Or.inl rfl) (fun r ok1 mem1 hq => ?_)
      obtain ⟨rfl, rfl, rfl⟩ := hq
      refine pw_astore_n 2 rfl dX9_searched_21 (by decide) ?_
      refine pw_aload_n 0 rfl dX9_searched_22 rfl ?_
      refine pw_aload_n 2 rfl dX9_searched_23 rfl ?_
      refine pw_ifnonnull_f dX9_searched_24 ?_
      refine pw_iconst dX9_searched_27 ?_
      refine pw_goto 36 (by decide) dX9_searched_28 ?_
      refine pw_callV (d' := d - 1) (As := [_]) (ci := 9) dX9_searched_36 ok_X9_answered kw_423 rfl rfl (Of.o (by assumption)) (by omega) rfl (Nat.le_of_ble_eq_true rfl) (p_answered (d - 1) (by omega) n ok _ hP9 _) (Nat.le_refl _) (Or.inl rfl) (fun r ok1 mem1 hq => ?_)
      obtain ⟨rfl, rfl, rfl⟩ := hq
      refine pw_iret dX9_searched_39 rfl rfl ?_
      have e9 : rSearched mem w = rSay mem (-1) := by
        unfold rSearched; rw [if_neg (by omega), if_pos h31]
      rw [e9]; exact ⟨rfl, rfl, RE1 _ _, RG_st hG hIO hKO _⟩
    · skip
      refine pw_aload_n 0 rfl dX9_searched_10 rfl ?_
      refine pw_bipush dX9_searched_11 (by decide) ?_
      refine pw_callV (d' := d - 1) (As := [_]) (ci := 9) dX9_searched_13 ok_X9_refused kw_406 rfl rfl (Of.o (by assumption)) (by omega) rfl (Nat.le_of_ble_eq_true rfl) (p_refused (d - 1) (by omega) n ok _ hP9 _ (by omega)) (Nat.le_refl _) (Or.inl rfl) (fun r ok1 mem1 hq => ?_)
      obtain ⟨rfl, rfl, rfl⟩ := hq
      refine pw_iret dX9_searched_16 rfl rfl ?_
      have e9 : rSearched mem w = rRef mem (-2) := by
        unfold rSearched; (repeat' split) <;> first | rfl | (exfalso; omega) | contradiction
      rw [e9]; exact ⟨rfl, rfl, RE1 _ _, RG_st hG hIO hKO _⟩
set_option maxHeartbeats 4000000 in
set_option maxRecDepth 100000 in
theorem p_searched1 (d : Nat) (hd : 2 ≤ d) (n : Nat) (ok : pO) (mem : pM) (hU : ClUp n ok) (hG : RG mem mem n) (hRI : RI mem) (w : Int) (hw : -2147483648 ≤ w ∧ w ≤ 2147483647) (h31 : mem 88 31 ≠ 0) : PM mi_X9_searched d [vr 1, vi w] n ok mem n (fun r ok' mem' => r = some (vi (rSearched mem w).1) ∧ ok = ok' ∧ RE mem mem' ∧ RG (rSearched mem w).2 mem' n) := by
  obtain ⟨hP9, hN, ⟨hn4, ho0, ho1, ho2⟩, hCh, hDr, hM, ⟨hW80, hW82, hW84⟩, q86, q87, hSU, hn133⟩ := id hU
  obtain ⟨hN5, hN3⟩ := id hN
  obtain ⟨hM4, hM9⟩ := id hM
  obtain ⟨hW8, hWA, -, -⟩ := id hW80
  have hIO := hRI.1
  have hKO := hRI.2.1
  have ht9 := hRI.2.2.1
  have hq0 := hRI.2.2.2.1
  have hty := hRI.2.2.2.2.1
  have hNR := hG.1
  have hNR1 : mem 2 1 = mem 88 19 := hNR.1
  obtain ⟨hn9, hm10, hth, hso⟩ := RG_so hG h31
  have hS9 := hSU hn9
  obtain ⟨hS7, ⟨x124, x125, x126, x127, x128, x129, x130⟩, x131, x132, x133⟩ := id hS9
  obtain ⟨hov, h9, hSG, h8⟩ := hso h31
  have hSR := hSG.1
  have h15 := hSG.2.1
  have hSI := hRI.2.2.2.2.2.1 h31
  refine PM.of (by decide) (by decide) (Nat.le_refl _) (Nat.le_of_ble_eq_true rfl) ?_
  refine pw_iload_n 1 rfl dX9_searched_0 rfl ?_
  refine pw_if_lt 10 (by decide) dX9_searched_1 (by omega) (fun c1 => ?_) (fun c1 => ?_)
  · skip
    refine pw_aload_n 0 rfl dX9_searched_10 rfl ?_
    refine pw_bipush dX9_searched_11 (by decide) ?_
    refine pw_callV (d' := d - 1) (As := [_]) (ci := 9) dX9_searched_13 ok_X9_refused kw_406 rfl rfl (Of.o (by assumption)) (by omega) rfl (Nat.le_of_ble_eq_true rfl) (p_refused (d - 1) (by omega) n ok _ hP9 _ (by omega)) (Nat.le_refl _) (Or.inl rfl) (fun r ok1 mem1 hq => ?_)
    obtain ⟨rfl, rfl, rfl⟩ := hq
    refine pw_iret dX9_searched_16 rfl rfl ?_
    have e9 : rSearched mem w = rRef mem (-2) := by
      unfold rSearched; (repeat' split) <;> first | rfl | (exfalso; omega) | contradiction
    rw [e9]; exact ⟨rfl, rfl, RE1 _ _, RG_st hG hIO hKO _⟩
  · skip
    refine pw_iload_n 1 rfl dX9_searched_4 rfl ?_
    refine pw_bipush dX9_searched_5 (by decide) ?_
    refine pw_icmp_le 17 (by decide) dX9_searched_7 (by omega) (by omega) (fun c7 => ?_) (fun c7 => ?_)
    · skip
      refine pw_aload_n 0 rfl dX9_searched_17 rfl ?_
      refine pw_callV (d' := d - 1) (As := []) (ci := 9) dX9_searched_18 ok_X9_searchThere kw_868 rfl rfl (Of.o (by assumption)) (by omega) rfl (Nat.le_of_ble_eq_true rfl) (p_sT1 (d - 1) (by omega) n ok mem hU mem hG h31) (Nat.le_refl _) (Or.inl rfl) (fun r ok1 mem1 hq => ?_)
      obtain ⟨rfl, rfl, rfl⟩ := hq
      refine pw_astore_n 2 rfl dX9_searched_21 (by decide) ?_
      refine pw_aload_n 0 rfl dX9_searched_22 rfl ?_
      refine pw_aload_n 2 rfl dX9_searched_23 rfl ?_
      refine pw_ifnonnull_t 31 (by decide) (by omega) dX9_searched_24 ?_
      refine pw_aload_n 2 rfl dX9_searched_31 rfl ?_
      refine pw_iload_n 1 rfl dX9_searched_32 rfl ?_
      refine pw_callV (d' := d - 1) (As := [_]) (ci := 7) dX9_searched_33 ok_X7_about kw_876 rfl rfl (Of.o (by assumption)) (by omega) rfl (Nat.le_of_ble_eq_true rfl) (y_about (d - 1) (by omega) n ok mem hS9 mem hSI hSR h15 w (by omega)) (Nat.le_refl _) (Or.inl rfl) (fun r ok1 mem1 hq => ?_)
      obtain ⟨rfl, rfl, rfl⟩ := hq
      have h11 : (if mem 123 11 = 0 then (0 : Int) else 1) = (if mem 88 32 = 0 then 0 else 1) := by
        by_cases q : mem 88 32 = 0
        · rw [if_pos q, if_pos (by by_cases y : mem 123 11 = 0; exact y; exact absurd q (hov.mp y))]
        · rw [if_neg q, if_neg (hov.mpr q)]
      rw [h9, h11]
      refine pw_callV (d' := d - 1) (As := [_]) (ci := 9) dX9_searched_36 ok_X9_answered kw_423 rfl rfl (Of.o (by assumption)) (by omega) rfl (Nat.le_of_ble_eq_true rfl) (p_answered (d - 1) (by omega) n ok _ hP9 _) (Nat.le_refl _) (Or.inl rfl) (fun r ok1 mem1 hq => ?_)
      obtain ⟨rfl, rfl, rfl⟩ := hq
      refine pw_iret dX9_searched_39 rfl rfl ?_
      have e9 : rSearched mem w = rSay mem (if w = 0 then mem 88 34 else if w = 1 then mem 88 35 else if w = 2 then mem 109 (mem 108 (mem 88 34 - 1)) + 1 else if w = 3 then mem 88 33 else if w = 4 then (if mem 88 35 = mem 88 34 then 1 else 0) else if w = 5 then (if mem 88 32 = 0 then 0 else 1) else mem 108 0) := by
        unfold rSearched; rw [if_neg (by omega), if_neg h31]
      rw [e9]; exact ⟨rfl, rfl, RE1 _ _, RG_st hG hIO hKO _⟩
    · skip
      refine pw_aload_n 0 rfl dX9_searched_10 rfl ?_
      refine pw_bipush dX9_searched_11 (by decide) ?_
      refine pw_callV (d' := d - 1) (As := [_]) (ci := 9) dX9_searched_13 ok_X9_refused kw_406 rfl rfl (Of.o (by assumption)) (by omega) rfl (Nat.le_of_ble_eq_true rfl) (p_refused (d - 1) (by omega) n ok _ hP9 _ (by omega)) (Nat.le_refl _) (Or.inl rfl) (fun r ok1 mem1 hq => ?_)
      obtain ⟨rfl, rfl, rfl⟩ := hq
      refine pw_iret dX9_searched_16 rfl rfl ?_
      have e9 : rSearched mem w = rRef mem (-2) := by
        unfold rSearched; (repeat' split) <;> first | rfl | (exfalso; omega) | contradiction
      rw [e9]; exact ⟨rfl, rfl, RE1 _ _, RG_st hG hIO hKO _⟩
theorem p_searched (d : Nat) (hd : 2 ≤ d) (n : Nat) (ok : pO) (mem : pM) (hU : ClUp n ok) (hG : RG mem mem n) (hRI : RI mem) (w : Int) (hw : -2147483648 ≤ w ∧ w ≤ 2147483647) : PM mi_X9_searched d [vr 1, vi w] n ok mem n (fun r ok' mem' => r = some (vi (rSearched mem w).1) ∧ ok = ok' ∧ RE mem mem' ∧ RG (rSearched mem w).2 mem' n) := by
  by_cases z : mem 88 31 = 0
  · exact p_searched0 d hd n ok mem hU hG hRI w hw z
  · exact p_searched1 d hd n ok mem hU hG hRI w hw (by omega)
set_option maxHeartbeats 4000000 in
set_option maxRecDepth 100000 in
theorem p_ordered0 (d : Nat) (hd : 1 ≤ d) (n : Nat) (ok : pO) (mem : pM) (hU : ClUp n ok) (hG : RG mem mem n) (hRI : RI mem) (x : Int) (hx : -2147483648 ≤ x ∧ x ≤ 2147483647) (h31 : mem 88 31 = 0) : PM mi_X9_ordered d [vr 1, vi x] n ok mem n (fun r ok' mem' => r = some (vi (rOrdered mem x).1) ∧ ok = ok' ∧ RE mem mem' ∧ RG (rOrdered mem x).2 mem' n) := by
  obtain ⟨hP9, hN, ⟨hn4, ho0, ho1, ho2⟩, hCh, hDr, hM, ⟨hW80, hW82, hW84⟩, q86, q87, hSU, hn133⟩ := id hU
  obtain ⟨hN5, hN3⟩ := id hN
  obtain ⟨hM4, hM9⟩ := id hM
  obtain ⟨hW8, hWA, -, -⟩ := id hW80
  have hIO := hRI.1
  have hKO := hRI.2.1
  have ht9 := hRI.2.2.1
  have hq0 := hRI.2.2.2.1
  have hty := hRI.2.2.2.2.1
  have hNR := hG.1
  have hNR1 : mem 2 1 = mem 88 19 := hNR.1
  refine PM.of (by decide) (by decide) (Nat.le_refl _) (Nat.le_of_ble_eq_true rfl) ?_
  refine pw_aload_n 0 rfl dX9_ordered_0 rfl ?_
  refine pw_callV (d' := d - 1) (As := []) (ci := 9) dX9_ordered_1 ok_X9_searchThere kw_868 rfl rfl (Of.o (by assumption)) (by omega) rfl (Nat.le_of_ble_eq_true rfl) (p_sT0 (d - 1) (by omega) n ok mem hU mem hG h31) (Nat.le_refl _) (Or.inl rfl) (fun r ok1 mem1 hq => ?_)
  obtain ⟨rfl, rfl, rfl⟩ := hq
  refine pw_astore_n 2 rfl dX9_ordered_4 (by decide) ?_
  refine pw_aload_n 0 rfl dX9_ordered_5 rfl ?_
  refine pw_aload_n 2 rfl dX9_ordered_6 rfl ?_
  refine pw_ifnull_t 31 (by decide) dX9_ordered_7 ?_
  refine pw_iconst dX9_ordered_31 ?_
  refine pw_callV (d' := d - 1) (As := [_]) (ci := 9) dX9_ordered_32 ok_X9_answered kw_423 rfl rfl (Of.o (by assumption)) (by omega) rfl (Nat.le_of_ble_eq_true rfl) (p_answered (d - 1) (by omega) n ok _ hP9 _) (Nat.le_refl _) (Or.inl rfl) (fun r ok1 mem1 hq => ?_)
  obtain ⟨rfl, rfl, rfl⟩ := hq
  refine pw_iret dX9_ordered_35 rfl rfl ?_
  have e9 : rOrdered mem x = rSay mem (-1) := by
    unfold rOrdered; rw [if_neg (fun z => z.1 h31)]
  rw [e9]; exact ⟨rfl, rfl, RE1 _ _, RG_st hG hIO hKO _⟩
set_option maxHeartbeats 4000000 in
set_option maxRecDepth 100000 in
theorem p_ordered1 (d : Nat) (hd : 1 ≤ d) (n : Nat) (ok : pO) (mem : pM) (hU : ClUp n ok) (hG : RG mem mem n) (hRI : RI mem) (x : Int) (hx : -2147483648 ≤ x ∧ x ≤ 2147483647) (h31 : mem 88 31 ≠ 0) : PM mi_X9_ordered d [vr 1, vi x] n ok mem n (fun r ok' mem' => r = some (vi (rOrdered mem x).1) ∧ ok = ok' ∧ RE mem mem' ∧ RG (rOrdered mem x).2 mem' n) := by
  obtain ⟨hP9, hN, ⟨hn4, ho0, ho1, ho2⟩, hCh, hDr, hM, ⟨hW80, hW82, hW84⟩, q86, q87, hSU, hn133⟩ := id hU
  obtain ⟨hN5, hN3⟩ := id hN
  obtain ⟨hM4, hM9⟩ := id hM
  obtain ⟨hW8, hWA, -, -⟩ := id hW80
  have hIO := hRI.1
  have hKO := hRI.2.1
  have ht9 := hRI.2.2.1
  have hq0 := hRI.2.2.2.1
  have hty := hRI.2.2.2.2.1
  have hNR := hG.1
  have hNR1 : mem 2 1 = mem 88 19 := hNR.1
  obtain ⟨hn9, hm10, hth, hso⟩ := RG_so hG h31
  have hS9 := hSU hn9
  obtain ⟨hS7, ⟨x124, x125, x126, x127, x128, x129, x130⟩, x131, x132, x133⟩ := id hS9
  obtain ⟨hov, h9, hSG, h8⟩ := hso h31
  have hSR := hSG.1
  have h15 := hSG.2.1
  have hSI := hRI.2.2.2.2.2.1 h31
  refine PM.of (by decide) (by decide) (Nat.le_refl _) (Nat.le_of_ble_eq_true rfl) ?_
  refine pw_aload_n 0 rfl dX9_ordered_0 rfl ?_
  refine pw_callV (d' := d - 1) (As := []) (ci := 9) dX9_ordered_1 ok_X9_searchThere kw_868 rfl rfl (Of.o (by assumption)) (by omega) rfl (Nat.le_of_ble_eq_true rfl) (p_sT1 (d - 1) (by omega) n ok mem hU mem hG h31) (Nat.le_refl _) (Or.inl rfl) (fun r ok1 mem1 hq => ?_)
  obtain ⟨rfl, rfl, rfl⟩ := hq
  refine pw_astore_n 2 rfl dX9_ordered_4 (by decide) ?_
  refine pw_aload_n 0 rfl dX9_ordered_5 rfl ?_
  refine pw_aload_n 2 rfl dX9_ordered_6 rfl ?_
  refine pw_ifnull_f (by omega) dX9_ordered_7 ?_
  refine pw_iload_n 1 rfl dX9_ordered_10 rfl ?_
  refine pw_if_lt 31 (by decide) dX9_ordered_11 (by omega) (fun c11 => ?_) (fun c11 => ?_)
  · skip
    refine pw_iconst dX9_ordered_31 ?_
    refine pw_callV (d' := d - 1) (As := [_]) (ci := 9) dX9_ordered_32 ok_X9_answered kw_423 rfl rfl (Of.o (by assumption)) (by omega) rfl (Nat.le_of_ble_eq_true rfl) (p_answered (d - 1) (by omega) n ok _ hP9 _) (Nat.le_refl _) (Or.inl rfl) (fun r ok1 mem1 hq => ?_)
    obtain ⟨rfl, rfl, rfl⟩ := hq
    refine pw_iret dX9_ordered_35 rfl rfl ?_
    have e9 : rOrdered mem x = rSay mem (-1) := by
      unfold rOrdered; rw [if_neg (by omega)]
    rw [e9]; exact ⟨rfl, rfl, RE1 _ _, RG_st hG hIO hKO _⟩
  · skip
    refine pw_iload_n 1 rfl dX9_ordered_14 rfl ?_
    refine pw_aload_n 2 rfl dX9_ordered_15 rfl ?_
    refine pw_gI 13 13 rfl dX9_ordered_16 cOk7 (by assumption) (by decide) kw_574 (by decide) (fun r16 => ?_)
    rw [hSR.1] at r16 ⊢
    refine pw_icmp_ge 31 (by decide) dX9_ordered_19 (by omega) (by omega) (fun c19 => ?_) (fun c19 => ?_)
    · skip
      refine pw_iconst dX9_ordered_31 ?_
      refine pw_callV (d' := d - 1) (As := [_]) (ci := 9) dX9_ordered_32 ok_X9_answered kw_423 rfl rfl (Of.o (by assumption)) (by omega) rfl (Nat.le_of_ble_eq_true rfl) (p_answered (d - 1) (by omega) n ok _ hP9 _) (Nat.le_refl _) (Or.inl rfl) (fun r ok1 mem1 hq => ?_)
      obtain ⟨rfl, rfl, rfl⟩ := hq
      refine pw_iret dX9_ordered_35 rfl rfl ?_
      have e9 : rOrdered mem x = rSay mem (-1) := by
        unfold rOrdered; rw [if_neg (by omega)]
      rw [e9]; exact ⟨rfl, rfl, RE1 _ _, RG_st hG hIO hKO _⟩
    · skip
      refine pw_aload_n 2 rfl dX9_ordered_22 rfl ?_
      refine pw_gR 0 124 dX9_ordered_23 cOk7 (by assumption) (by decide) kw_554 (by decide) rfl ?_
      refine pw_iload_n 1 rfl dX9_ordered_26 rfl ?_
      refine pw_iaload dX9_ordered_27 (by assumption) (by omega) (by have := hSI.1; omega) (fun r27 => ?_)
      rw [(hSR.2.2.1 x (by omega) (by omega)).1] at r27 ⊢
      refine pw_goto 32 (by decide) dX9_ordered_28 ?_
      refine pw_callV (d' := d - 1) (As := [_]) (ci := 9) dX9_ordered_32 ok_X9_answered kw_423 rfl rfl (Of.o (by assumption)) (by omega) rfl (Nat.le_of_ble_eq_true rfl) (p_answered (d - 1) (by omega) n ok _ hP9 _) (Nat.le_refl _) (Or.inl rfl) (fun r ok1 mem1 hq => ?_)
      obtain ⟨rfl, rfl, rfl⟩ := hq
      refine pw_iret dX9_ordered_35 rfl rfl ?_
      have e9 : rOrdered mem x = rSay mem (mem 108 x) := by
        unfold rOrdered; rw [if_pos ⟨h31, by omega⟩]
      rw [e9]; exact ⟨rfl, rfl, RE1 _ _, RG_st hG hIO hKO _⟩
theorem p_ordered (d : Nat) (hd : 1 ≤ d) (n : Nat) (ok : pO) (mem : pM) (hU : ClUp n ok) (hG : RG mem mem n) (hRI : RI mem) (x : Int) (hx : -2147483648 ≤ x ∧ x ≤ 2147483647) : PM mi_X9_ordered d [vr 1, vi x] n ok mem n (fun r ok' mem' => r = some (vi (rOrdered mem x).1) ∧ ok = ok' ∧ RE mem mem' ∧ RG (rOrdered mem x).2 mem' n) := by
  by_cases z : mem 88 31 = 0
  · exact p_ordered0 d hd n ok mem hU hG hRI x hx z
  · exact p_ordered1 d hd n ok mem hU hG hRI x hx (by omega)
set_option maxHeartbeats 4000000 in
set_option maxRecDepth 100000 in
theorem p_layer0 (d : Nat) (hd : 1 ≤ d) (n : Nat) (ok : pO) (mem : pM) (hU : ClUp n ok) (hG : RG mem mem n) (hRI : RI mem) (x : Int) (hx : -2147483648 ≤ x ∧ x ≤ 2147483647) (h31 : mem 88 31 = 0) : PM mi_X9_layer d [vr 1, vi x] n ok mem n (fun r ok' mem' => r = some (vi (rLayer mem x).1) ∧ ok = ok' ∧ RE mem mem' ∧ RG (rLayer mem x).2 mem' n) := by
  obtain ⟨hP9, hN, ⟨hn4, ho0, ho1, ho2⟩, hCh, hDr, hM, ⟨hW80, hW82, hW84⟩, q86, q87, hSU, hn133⟩ := id hU
  obtain ⟨hN5, hN3⟩ := id hN
  obtain ⟨hM4, hM9⟩ := id hM
  obtain ⟨hW8, hWA, -, -⟩ := id hW80
  have hIO := hRI.1
  have hKO := hRI.2.1
  have ht9 := hRI.2.2.1
  have hq0 := hRI.2.2.2.1
  have hty := hRI.2.2.2.2.1
  have hNR := hG.1
  have hNR1 : mem 2 1 = mem 88 19 := hNR.1
  refine PM.of (by decide) (by decide) (Nat.le_refl _) (Nat.le_of_ble_eq_true rfl) ?_
  refine pw_aload_n 0 rfl dX9_layer_0 rfl ?_
  refine pw_callV (d' := d - 1) (As := []) (ci := 9) dX9_layer_1 ok_X9_searchThere kw_868 rfl rfl (Of.o (by assumption)) (by omega) rfl (Nat.le_of_ble_eq_true rfl) (p_sT0 (d - 1) (by omega) n ok mem hU mem hG h31) (Nat.le_refl _) (Or.inl rfl) (fun r ok1 mem1 hq => ?_)
  obtain ⟨rfl, rfl, rfl⟩ := hq
  refine pw_astore_n 2 rfl dX9_layer_4 (by decide) ?_
  refine pw_aload_n 2 rfl dX9_layer_5 rfl ?_
  refine pw_ifnonnull_f dX9_layer_6 ?_
  refine pw_aload_n 0 rfl dX9_layer_9 rfl ?_
  refine pw_iconst dX9_layer_10 ?_
  refine pw_callV (d' := d - 1) (As := [_]) (ci := 9) dX9_layer_11 ok_X9_answered kw_423 rfl rfl (Of.o (by assumption)) (by omega) rfl (Nat.le_of_ble_eq_true rfl) (p_answered (d - 1) (by omega) n ok _ hP9 _) (Nat.le_refl _) (Or.inl rfl) (fun r ok1 mem1 hq => ?_)
  obtain ⟨rfl, rfl, rfl⟩ := hq
  refine pw_iret dX9_layer_14 rfl rfl ?_
  have e9 : rLayer mem x = rSay mem (-1) := by
    unfold rLayer; rw [if_neg (fun z => z.1 h31)]
  rw [e9]; exact ⟨rfl, rfl, RE1 _ _, RG_st hG hIO hKO _⟩
set_option maxHeartbeats 4000000 in
set_option maxRecDepth 100000 in
theorem p_layer1 (d : Nat) (hd : 1 ≤ d) (n : Nat) (ok : pO) (mem : pM) (hU : ClUp n ok) (hG : RG mem mem n) (hRI : RI mem) (x : Int) (hx : -2147483648 ≤ x ∧ x ≤ 2147483647) (h31 : mem 88 31 ≠ 0) : PM mi_X9_layer d [vr 1, vi x] n ok mem n (fun r ok' mem' => r = some (vi (rLayer mem x).1) ∧ ok = ok' ∧ RE mem mem' ∧ RG (rLayer mem x).2 mem' n) := by
  obtain ⟨hP9, hN, ⟨hn4, ho0, ho1, ho2⟩, hCh, hDr, hM, ⟨hW80, hW82, hW84⟩, q86, q87, hSU, hn133⟩ := id hU
  obtain ⟨hN5, hN3⟩ := id hN
  obtain ⟨hM4, hM9⟩ := id hM
  obtain ⟨hW8, hWA, -, -⟩ := id hW80
  have hIO := hRI.1
  have hKO := hRI.2.1
  have ht9 := hRI.2.2.1
  have hq0 := hRI.2.2.2.1
  have hty := hRI.2.2.2.2.1
  have hNR := hG.1
  have hNR1 : mem 2 1 = mem 88 19 := hNR.1
  obtain ⟨hn9, hm10, hth, hso⟩ := RG_so hG h31
  have hS9 := hSU hn9
  obtain ⟨hS7, ⟨x124, x125, x126, x127, x128, x129, x130⟩, x131, x132, x133⟩ := id hS9
  obtain ⟨hov, h9, hSG, h8⟩ := hso h31
  have hSR := hSG.1
  have h15 := hSG.2.1
  have hSI := hRI.2.2.2.2.2.1 h31
  refine PM.of (by decide) (by decide) (Nat.le_refl _) (Nat.le_of_ble_eq_true rfl) ?_
  refine pw_aload_n 0 rfl dX9_layer_0 rfl ?_
  refine pw_callV (d' := d - 1) (As := []) (ci := 9) dX9_layer_1 ok_X9_searchThere kw_868 rfl rfl (Of.o (by assumption)) (by omega) rfl (Nat.le_of_ble_eq_true rfl) (p_sT1 (d - 1) (by omega) n ok mem hU mem hG h31) (Nat.le_refl _) (Or.inl rfl) (fun r ok1 mem1 hq => ?_)
  obtain ⟨rfl, rfl, rfl⟩ := hq
  refine pw_astore_n 2 rfl dX9_layer_4 (by decide) ?_
  refine pw_aload_n 2 rfl dX9_layer_5 rfl ?_
  refine pw_ifnonnull_t 15 (by decide) (by omega) dX9_layer_6 ?_
  refine pw_aload_n 2 rfl dX9_layer_15 rfl ?_
  refine pw_iload_n 1 rfl dX9_layer_16 rfl ?_
  refine pw_callV (d' := d - 1) (As := [_]) (ci := 7) dX9_layer_17 ok_X7_orderOf kw_889 rfl rfl (Of.o (by assumption)) (by omega) rfl (Nat.le_of_ble_eq_true rfl) (y_orderOf (d - 1) (by omega) n ok mem hS9 x (by omega)) (Nat.le_refl _) (Or.inl rfl) (fun r ok1 mem1 hq => ?_)
  obtain ⟨rfl, rfl, rfl⟩ := hq
  obtain ⟨q, hqe, hqq⟩ := ord_c hSR hSI x
  rw [hqe]
  have hs34 := hSI.1
  refine pw_istore_n 3 rfl dX9_layer_20 (by decide) ?_
  refine pw_aload_n 0 rfl dX9_layer_21 rfl ?_
  refine pw_iload_n 3 rfl dX9_layer_22 rfl ?_
  refine pw_iconst dX9_layer_23 ?_
  refine pw_icmp_ne 31 (by decide) dX9_layer_24 (by omega) (by omega) (fun c24 => ?_) (fun c24 => ?_)
  · skip
    refine pw_aload_n 2 rfl dX9_layer_31 rfl ?_
    refine pw_gR 1 125 dX9_layer_32 cOk7 (by assumption) (by decide) kw_556 (by decide) rfl ?_
    refine pw_iload_n 3 rfl dX9_layer_35 rfl ?_
    refine pw_iaload dX9_layer_36 (by assumption) (by omega) (by omega) (fun r36 => ?_)
    rw [(hSR.2.2.1 q (by omega) (by omega)).2.1] at r36 ⊢
    refine pw_callV (d' := d - 1) (As := [_]) (ci := 9) dX9_layer_37 ok_X9_answered kw_423 rfl rfl (Of.o (by assumption)) (by omega) rfl (Nat.le_of_ble_eq_true rfl) (p_answered (d - 1) (by omega) n ok _ hP9 _) (Nat.le_refl _) (Or.inl rfl) (fun r ok1 mem1 hq => ?_)
    obtain ⟨rfl, rfl, rfl⟩ := hq
    refine pw_iret dX9_layer_40 rfl rfl ?_
    have e9 : rLayer mem x = rSay mem (mem 109 (mem 108 q)) := by
      unfold rLayer; rcases hqq with z | z
      · exfalso; omega
      · rw [if_pos ⟨h31, by omega⟩, z.2.2.2.2.2]
    rw [e9]; exact ⟨rfl, rfl, RE1 _ _, RG_st hG hIO hKO _⟩
  · skip
    refine pw_iconst dX9_layer_27 ?_
    refine pw_goto 37 (by decide) dX9_layer_28 ?_
    refine pw_callV (d' := d - 1) (As := [_]) (ci := 9) dX9_layer_37 ok_X9_answered kw_423 rfl rfl (Of.o (by assumption)) (by omega) rfl (Nat.le_of_ble_eq_true rfl) (p_answered (d - 1) (by omega) n ok _ hP9 _) (Nat.le_refl _) (Or.inl rfl) (fun r ok1 mem1 hq => ?_)
    obtain ⟨rfl, rfl, rfl⟩ := hq
    refine pw_iret dX9_layer_40 rfl rfl ?_
    have e9 : rLayer mem x = rSay mem (-1) := by
      unfold rLayer; rcases hqq with z | z
      · rcases z.2 with y | y
        · rw [if_neg (fun t => y t.2)]
        · rw [y]; congr 1; split <;> rfl
      · exfalso; omega
    rw [e9]; exact ⟨rfl, rfl, RE1 _ _, RG_st hG hIO hKO _⟩
theorem p_layer (d : Nat) (hd : 1 ≤ d) (n : Nat) (ok : pO) (mem : pM) (hU : ClUp n ok) (hG : RG mem mem n) (hRI : RI mem) (x : Int) (hx : -2147483648 ≤ x ∧ x ≤ 2147483647) : PM mi_X9_layer d [vr 1, vi x] n ok mem n (fun r ok' mem' => r = some (vi (rLayer mem x).1) ∧ ok = ok' ∧ RE mem mem' ∧ RG (rLayer mem x).2 mem' n) := by
  by_cases z : mem 88 31 = 0
  · exact p_layer0 d hd n ok mem hU hG hRI x hx z
  · exact p_layer1 d hd n ok mem hU hG hRI x hx (by omega)
set_option maxHeartbeats 4000000 in
set_option maxRecDepth 100000 in
theorem p_shortest0 (d : Nat) (hd : 2 ≤ d) (n : Nat) (ok : pO) (mem : pM) (hU : ClUp n ok) (hG : RG mem mem n) (hRI : RI mem)  (h31 : mem 88 31 = 0 ∨ mem 88 32 ≠ 0) : PM mi_X9_shortest d [vr 1] n ok mem n (fun r ok' mem' => r = some (vi (rShortest mem).1) ∧ ok = ok' ∧ RE mem mem' ∧ RG (rShortest mem).2 mem' n) := by
  obtain ⟨hP9, hN, ⟨hn4, ho0, ho1, ho2⟩, hCh, hDr, hM, ⟨hW80, hW82, hW84⟩, q86, q87, hSU, hn133⟩ := id hU
  obtain ⟨hN5, hN3⟩ := id hN
  obtain ⟨hM4, hM9⟩ := id hM
  obtain ⟨hW8, hWA, -, -⟩ := id hW80
  have hIO := hRI.1
  have hKO := hRI.2.1
  have ht9 := hRI.2.2.1
  have hq0 := hRI.2.2.2.1
  have hty := hRI.2.2.2.2.1
  have hNR := hG.1
  have hNR1 : mem 2 1 = mem 88 19 := hNR.1
  refine PM.of (by decide) (by decide) (Nat.le_refl _) (Nat.le_of_ble_eq_true rfl) ?_
  refine pw_aload_n 0 rfl dX9_shortest_0 rfl ?_
  refine pw_callV (d' := d - 1) (As := []) (ci := 9) dX9_shortest_1 ok_X9_searchNotOver kw_864 rfl rfl (Of.o (by assumption)) (by omega) rfl (Nat.le_of_ble_eq_true rfl) (p_sN0 (d - 1) (by omega) n ok mem hU mem hG h31) (Nat.le_refl _) (Or.inl rfl) (fun r ok1 mem1 hq => ?_)
  obtain ⟨rfl, rfl, rfl⟩ := hq
  refine pw_astore_n 1 rfl dX9_shortest_4 (by decide) ?_
  refine pw_aload_n 1 rfl dX9_shortest_5 rfl ?_
  refine pw_ifnonnull_f dX9_shortest_6 ?_
  refine pw_aload_n 0 rfl dX9_shortest_9 rfl ?_
  refine pw_bipush dX9_shortest_10 (by decide) ?_
  refine pw_callV (d' := d - 1) (As := [_]) (ci := 9) dX9_shortest_12 ok_X9_refused kw_406 rfl rfl (Of.o (by assumption)) (by omega) rfl (Nat.le_of_ble_eq_true rfl) (p_refused (d - 1) (by omega) n ok _ hP9 _ (by omega)) (Nat.le_refl _) (Or.inl rfl) (fun r ok1 mem1 hq => ?_)
  obtain ⟨rfl, rfl, rfl⟩ := hq
  refine pw_iret dX9_shortest_15 rfl rfl ?_
  have e9 : rShortest mem = rRef mem (-4) := by
    unfold rShortest; rw [if_pos h31]
  rw [e9]; exact ⟨rfl, rfl, RE1 _ _, RG_st hG hIO hKO _⟩
set_option maxHeartbeats 4000000 in
set_option maxRecDepth 100000 in
theorem p_shortest1 (d : Nat) (hd : 2 ≤ d) (n : Nat) (ok : pO) (mem : pM) (hU : ClUp n ok) (hG : RG mem mem n) (hRI : RI mem)  (hzz : ¬ (mem 88 31 = 0 ∨ mem 88 32 ≠ 0)) : PM mi_X9_shortest d [vr 1] n ok mem n (fun r ok' mem' => r = some (vi (rShortest mem).1) ∧ ok = ok' ∧ RE mem mem' ∧ RG (rShortest mem).2 mem' n) := by
  obtain ⟨hP9, hN, ⟨hn4, ho0, ho1, ho2⟩, hCh, hDr, hM, ⟨hW80, hW82, hW84⟩, q86, q87, hSU, hn133⟩ := id hU
  obtain ⟨hN5, hN3⟩ := id hN
  obtain ⟨hM4, hM9⟩ := id hM
  obtain ⟨hW8, hWA, -, -⟩ := id hW80
  have hIO := hRI.1
  have hKO := hRI.2.1
  have ht9 := hRI.2.2.1
  have hq0 := hRI.2.2.2.1
  have hty := hRI.2.2.2.2.1
  have hNR := hG.1
  have hNR1 : mem 2 1 = mem 88 19 := hNR.1
  have h31 : mem 88 31 ≠ 0 := by omega
  have h32 : mem 88 32 = 0 := by omega
  obtain ⟨hn9, hm10, hth, hso⟩ := RG_so hG h31
  have hS9 := hSU hn9
  obtain ⟨hS7, ⟨x124, x125, x126, x127, x128, x129, x130⟩, x131, x132, x133⟩ := id hS9
  obtain ⟨hov, h9, hSG, h8⟩ := hso h31
  have hSR := hSG.1
  have h15 := hSG.2.1
  have hSI := hRI.2.2.2.2.2.1 h31
  refine PM.of (by decide) (by decide) (Nat.le_refl _) (Nat.le_of_ble_eq_true rfl) ?_
  refine pw_aload_n 0 rfl dX9_shortest_0 rfl ?_
  refine pw_callV (d' := d - 1) (As := []) (ci := 9) dX9_shortest_1 ok_X9_searchNotOver kw_864 rfl rfl (Of.o (by assumption)) (by omega) rfl (Nat.le_of_ble_eq_true rfl) (p_sNc (d - 1) (by omega) n ok mem hU mem hG h31 h32) (Nat.le_refl _) (Or.inl rfl) (fun r ok1 mem1 hq => ?_)
  obtain ⟨rfl, rfl, rfl⟩ := hq
  refine pw_astore_n 1 rfl dX9_shortest_4 (by decide) ?_
  refine pw_aload_n 1 rfl dX9_shortest_5 rfl ?_
  refine pw_ifnonnull_t 16 (by decide) (by omega) dX9_shortest_6 ?_
  refine pw_aload_n 1 rfl dX9_shortest_16 rfl ?_
  refine pw_callV (d' := d - 1) (As := []) (ci := 7) dX9_shortest_17 ok_X7_wayLength kw_731 rfl rfl (Of.o (by assumption)) (by omega) rfl (Nat.le_of_ble_eq_true rfl) (y_wayLength (d - 1) (by omega) n ok mem hS9 mem hSI hSR h15) (Nat.le_refl _) (Or.inl rfl) (fun r ok1 mem1 hq => ?_)
  obtain ⟨rfl, rfl, rfl⟩ := hq
  obtain ⟨L, hLe, hLL⟩ := way_c hSI
  rw [hLe]
  have hs34 := hSI.1
  refine pw_istore_n 2 rfl dX9_shortest_20 (by decide) ?_
  refine pw_aload_n 0 rfl dX9_shortest_21 rfl ?_
  refine pw_iload_n 2 rfl dX9_shortest_22 rfl ?_
  refine pw_iconst dX9_shortest_23 ?_
  refine pw_icmp_ne 39 (by decide) dX9_shortest_24 (by omega) (by omega) (fun c24 => ?_) (fun c24 => ?_)
  · skip
    refine pw_iload_n 2 rfl dX9_shortest_39 rfl ?_
    refine pw_callV (d' := d - 1) (As := [_]) (ci := 9) dX9_shortest_40 ok_X9_answered kw_423 rfl rfl (Of.o (by assumption)) (by omega) rfl (Nat.le_of_ble_eq_true rfl) (p_answered (d - 1) (by omega) n ok _ hP9 _) (Nat.le_refl _) (Or.inl rfl) (fun r ok1 mem1 hq => ?_)
    obtain ⟨rfl, rfl, rfl⟩ := hq
    refine pw_iret dX9_shortest_43 rfl rfl ?_
    have e9 : rShortest mem = rSay mem (L) := by
      unfold rShortest; rw [if_neg (by omega)]; congr 1; (repeat' split) <;> omega
    rw [e9]; exact ⟨rfl, rfl, RE1 _ _, RG_st hG hIO hKO _⟩
  · skip
    refine pw_aload_n 1 rfl dX9_shortest_27 rfl ?_
    refine pw_callV (d' := d - 1) (As := []) (ci := 7) dX9_shortest_28 ok_X7_isWhole kw_856 rfl rfl (Of.o (by assumption)) (by omega) rfl (Nat.le_of_ble_eq_true rfl) (y_isWhole (d - 1) (by omega) n ok mem hS9) (Nat.le_refl _) (Or.inl rfl) (fun r ok1 mem1 hq => ?_)
    obtain ⟨rfl, rfl, rfl⟩ := hq
    rw [hSR.1, hSR.2.1]
    refine pw_if_ne 39 (by decide) dX9_shortest_31 (by split <;> omega) (fun c31 => ?_) (fun c31 => ?_)
    · skip
      rw [ne_eq, bz_n] at c31
      refine pw_iload_n 2 rfl dX9_shortest_39 rfl ?_
      refine pw_callV (d' := d - 1) (As := [_]) (ci := 9) dX9_shortest_40 ok_X9_answered kw_423 rfl rfl (Of.o (by assumption)) (by omega) rfl (Nat.le_of_ble_eq_true rfl) (p_answered (d - 1) (by omega) n ok _ hP9 _) (Nat.le_refl _) (Or.inl rfl) (fun r ok1 mem1 hq => ?_)
      obtain ⟨rfl, rfl, rfl⟩ := hq
      refine pw_iret dX9_shortest_43 rfl rfl ?_
      have e9 : rShortest mem = rSay mem (L) := by
        unfold rShortest; rw [if_neg (by omega)]; congr 1; (repeat' split) <;> omega
      rw [e9]; exact ⟨rfl, rfl, RE1 _ _, RG_st hG hIO hKO _⟩
    · skip
      rw [bz_0] at c31
      refine pw_bipush dX9_shortest_34 (by decide) ?_
      refine pw_goto 40 (by decide) dX9_shortest_36 ?_
      refine pw_callV (d' := d - 1) (As := [_]) (ci := 9) dX9_shortest_40 ok_X9_answered kw_423 rfl rfl (Of.o (by assumption)) (by omega) rfl (Nat.le_of_ble_eq_true rfl) (p_answered (d - 1) (by omega) n ok _ hP9 _) (Nat.le_refl _) (Or.inl rfl) (fun r ok1 mem1 hq => ?_)
      obtain ⟨rfl, rfl, rfl⟩ := hq
      refine pw_iret dX9_shortest_43 rfl rfl ?_
      have e9 : rShortest mem = rSay mem (-9) := by
        unfold rShortest; rw [if_neg (by omega)]; congr 1; (repeat' split) <;> omega
      rw [e9]; exact ⟨rfl, rfl, RE1 _ _, RG_st hG hIO hKO _⟩
theorem p_shortest (d : Nat) (hd : 2 ≤ d) (n : Nat) (ok : pO) (mem : pM) (hU : ClUp n ok) (hG : RG mem mem n) (hRI : RI mem)  : PM mi_X9_shortest d [vr 1] n ok mem n (fun r ok' mem' => r = some (vi (rShortest mem).1) ∧ ok = ok' ∧ RE mem mem' ∧ RG (rShortest mem).2 mem' n) := by
  by_cases z : mem 88 31 = 0 ∨ mem 88 32 ≠ 0
  · exact p_shortest0 d hd n ok mem hU hG hRI   z
  · exact p_shortest1 d hd n ok mem hU hG hRI   (by omega)
set_option maxHeartbeats 4000000 in
set_option maxRecDepth 100000 in
theorem p_way0 (d : Nat) (hd : 2 ≤ d) (n : Nat) (ok : pO) (mem : pM) (hU : ClUp n ok) (hG : RG mem mem n) (hRI : RI mem) (k : Int) (hk : -2147483648 ≤ k ∧ k ≤ 2147483647) (h31 : mem 88 31 = 0) : PM mi_X9_way d [vr 1, vi k] n ok mem n (fun r ok' mem' => r = some (vi (rWay mem k).1) ∧ ok = ok' ∧ RE mem mem' ∧ RG (rWay mem k).2 mem' n) := by
  obtain ⟨hP9, hN, ⟨hn4, ho0, ho1, ho2⟩, hCh, hDr, hM, ⟨hW80, hW82, hW84⟩, q86, q87, hSU, hn133⟩ := id hU
  obtain ⟨hN5, hN3⟩ := id hN
  obtain ⟨hM4, hM9⟩ := id hM
  obtain ⟨hW8, hWA, -, -⟩ := id hW80
  have hIO := hRI.1
  have hKO := hRI.2.1
  have ht9 := hRI.2.2.1
  have hq0 := hRI.2.2.2.1
  have hty := hRI.2.2.2.2.1
  have hNR := hG.1
  have hNR1 : mem 2 1 = mem 88 19 := hNR.1
  refine PM.of (by decide) (by decide) (Nat.le_refl _) (Nat.le_of_ble_eq_true rfl) ?_
  refine pw_aload_n 0 rfl dX9_way_0 rfl ?_
  refine pw_callV (d' := d - 1) (As := []) (ci := 9) dX9_way_1 ok_X9_searchThere kw_868 rfl rfl (Of.o (by assumption)) (by omega) rfl (Nat.le_of_ble_eq_true rfl) (p_sT0 (d - 1) (by omega) n ok mem hU mem hG h31) (Nat.le_refl _) (Or.inl rfl) (fun r ok1 mem1 hq => ?_)
  obtain ⟨rfl, rfl, rfl⟩ := hq
  refine pw_astore_n 2 rfl dX9_way_4 (by decide) ?_
  refine pw_aload_n 2 rfl dX9_way_5 rfl ?_
  refine pw_ifnull_t 21 (by decide) dX9_way_6 ?_
  refine pw_aload_n 0 rfl dX9_way_21 rfl ?_
  refine pw_iconst dX9_way_22 ?_
  refine pw_callV (d' := d - 1) (As := [_]) (ci := 9) dX9_way_23 ok_X9_answered kw_423 rfl rfl (Of.o (by assumption)) (by omega) rfl (Nat.le_of_ble_eq_true rfl) (p_answered (d - 1) (by omega) n ok _ hP9 _) (Nat.le_refl _) (Or.inl rfl) (fun r ok1 mem1 hq => ?_)
  obtain ⟨rfl, rfl, rfl⟩ := hq
  refine pw_iret dX9_way_26 rfl rfl ?_
  have e9 : rWay mem k = rSay mem (-1) := by
    unfold rWay; congr 1; rw [wOrd_0 h31]; (repeat' split) <;> omega
  rw [e9]; exact ⟨rfl, rfl, RE1 _ _, RG_st hG hIO hKO _⟩
set_option maxHeartbeats 4000000 in
set_option maxRecDepth 100000 in
theorem p_way1 (d : Nat) (hd : 2 ≤ d) (n : Nat) (ok : pO) (mem : pM) (hU : ClUp n ok) (hG : RG mem mem n) (hRI : RI mem) (k : Int) (hk : -2147483648 ≤ k ∧ k ≤ 2147483647) (h31 : mem 88 31 ≠ 0) : PM mi_X9_way d [vr 1, vi k] n ok mem n (fun r ok' mem' => r = some (vi (rWay mem k).1) ∧ ok = ok' ∧ RE mem mem' ∧ RG (rWay mem k).2 mem' n) := by
  obtain ⟨hP9, hN, ⟨hn4, ho0, ho1, ho2⟩, hCh, hDr, hM, ⟨hW80, hW82, hW84⟩, q86, q87, hSU, hn133⟩ := id hU
  obtain ⟨hN5, hN3⟩ := id hN
  obtain ⟨hM4, hM9⟩ := id hM
  obtain ⟨hW8, hWA, -, -⟩ := id hW80
  have hIO := hRI.1
  have hKO := hRI.2.1
  have ht9 := hRI.2.2.1
  have hq0 := hRI.2.2.2.1
  have hty := hRI.2.2.2.2.1
  have hNR := hG.1
  have hNR1 : mem 2 1 = mem 88 19 := hNR.1
  obtain ⟨hn9, hm10, hth, hso⟩ := RG_so hG h31
  have hS9 := hSU hn9
  obtain ⟨hS7, ⟨x124, x125, x126, x127, x128, x129, x130⟩, x131, x132, x133⟩ := id hS9
  obtain ⟨hov, h9, hSG, h8⟩ := hso h31
  have hSR := hSG.1
  have h15 := hSG.2.1
  have hSI := hRI.2.2.2.2.2.1 h31
  refine PM.of (by decide) (by decide) (Nat.le_refl _) (Nat.le_of_ble_eq_true rfl) ?_
  refine pw_aload_n 0 rfl dX9_way_0 rfl ?_
  refine pw_callV (d' := d - 1) (As := []) (ci := 9) dX9_way_1 ok_X9_searchThere kw_868 rfl rfl (Of.o (by assumption)) (by omega) rfl (Nat.le_of_ble_eq_true rfl) (p_sT1 (d - 1) (by omega) n ok mem hU mem hG h31) (Nat.le_refl _) (Or.inl rfl) (fun r ok1 mem1 hq => ?_)
  obtain ⟨rfl, rfl, rfl⟩ := hq
  refine pw_astore_n 2 rfl dX9_way_4 (by decide) ?_
  refine pw_aload_n 2 rfl dX9_way_5 rfl ?_
  refine pw_ifnull_f (by omega) dX9_way_6 ?_
  refine pw_iload_n 1 rfl dX9_way_9 rfl ?_
  refine pw_if_lt 21 (by decide) dX9_way_10 (by omega) (fun c10 => ?_) (fun c10 => ?_)
  · skip
    refine pw_aload_n 0 rfl dX9_way_21 rfl ?_
    refine pw_iconst dX9_way_22 ?_
    refine pw_callV (d' := d - 1) (As := [_]) (ci := 9) dX9_way_23 ok_X9_answered kw_423 rfl rfl (Of.o (by assumption)) (by omega) rfl (Nat.le_of_ble_eq_true rfl) (p_answered (d - 1) (by omega) n ok _ hP9 _) (Nat.le_refl _) (Or.inl rfl) (fun r ok1 mem1 hq => ?_)
    obtain ⟨rfl, rfl, rfl⟩ := hq
    refine pw_iret dX9_way_26 rfl rfl ?_
    have e9 : rWay mem k = rSay mem (-1) := by
      unfold rWay; congr 1; unfold wOrd; (repeat' split) <;> first | rfl | (exfalso; omega)
    rw [e9]; exact ⟨rfl, rfl, RE1 _ _, RG_st hG hIO hKO _⟩
  · skip
    refine pw_iload_n 1 rfl dX9_way_13 rfl ?_
    refine pw_aload_n 2 rfl dX9_way_14 rfl ?_
    refine pw_callV (d' := d - 1) (As := []) (ci := 7) dX9_way_15 ok_X7_wayLength kw_731 rfl rfl (Of.o (by assumption)) (by omega) rfl (Nat.le_of_ble_eq_true rfl) (y_wayLength (d - 1) (by omega) n ok mem hS9 mem hSI hSR h15) (Nat.le_refl _) (Or.inl rfl) (fun r ok1 mem1 hq => ?_)
    obtain ⟨rfl, rfl, rfl⟩ := hq
    obtain ⟨L, hLe, hLL⟩ := way_c hSI
    rw [hLe]
    have hs34 := hSI.1
    refine pw_icmp_lt 27 (by decide) dX9_way_18 (by omega) (by omega) (fun c18 => ?_) (fun c18 => ?_)
    · skip
      refine pw_aload_n 0 rfl dX9_way_27 rfl ?_
      refine pw_aload_n 2 rfl dX9_way_28 rfl ?_
      refine pw_gR 2 126 dX9_way_29 cOk7 (by assumption) (by decide) kw_558 (by decide) rfl ?_
      refine pw_aload_n 2 rfl dX9_way_32 rfl ?_
      refine pw_iload_n 1 rfl dX9_way_33 rfl ?_
      refine pw_iconst dX9_way_34 ?_
      refine pw_iadd dX9_way_35 ?_
      refine pw_callV (d' := d - 1) (As := [_]) (ci := 7) dX9_way_36 ok_X7_orderOnWay kw_901 rfl rfl (Of.o (by assumption)) (by omega) rfl (Nat.le_of_ble_eq_true rfl) (y_orderOnWay (d - 1) (by omega) n ok mem hS9 mem hSI hSR h15 (k + 1) (by omega) (by omega)) (Nat.le_refl _) (Or.inl rfl) (fun r ok1 mem1 hq => ?_)
      obtain ⟨rfl, rfl, rfl⟩ := hq
      have hHL : mem 88 36 ≠ -1 ∧ 0 ≤ mem 88 36 ∧ mem 88 36 < mem 88 34 ∧ L = mem 109 (mem 108 (mem 88 36)) ∧ 0 ≤ L ∧ L ≤ 1024 := by
        rcases hLL with z | z
        · exfalso; omega
        · exact z
      have han := anc_ran hSI (mem 109 (mem 108 (mem 88 36)) - (k + 1)).toNat (mem 88 36) hHL.2.1 hHL.2.2.1 (by omega)
      refine pw_iaload dX9_way_39 (by assumption) (by omega) (by omega) (fun r39 => ?_)
      rw [(hSR.2.2.1 _ han.1 han.2).2.2.1] at r39 ⊢
      refine pw_callV (d' := d - 1) (As := [_]) (ci := 9) dX9_way_40 ok_X9_answered kw_423 rfl rfl (Of.o (by assumption)) (by omega) rfl (Nat.le_of_ble_eq_true rfl) (p_answered (d - 1) (by omega) n ok _ hP9 _) (Nat.le_refl _) (Or.inl rfl) (fun r ok1 mem1 hq => ?_)
      obtain ⟨rfl, rfl, rfl⟩ := hq
      refine pw_iret dX9_way_43 rfl rfl ?_
      have e9 : rWay mem k = rSay mem (mem 113 (ancG mem (mem 109 (mem 108 (mem 88 36)) - (k + 1)).toNat (mem 88 36))) := by
        unfold rWay; have hw9 : wOrd mem (k + 1) = ancG mem (mem 109 (mem 108 (mem 88 36)) - (k + 1)).toNat (mem 88 36) := by
          unfold wOrd; rw [if_pos ⟨h31, by omega, by omega, by omega⟩]
        rw [if_neg (by omega), hw9, if_neg (by omega)]
      rw [e9]; exact ⟨rfl, rfl, RE1 _ _, RG_st hG hIO hKO _⟩
    · skip
      refine pw_aload_n 0 rfl dX9_way_21 rfl ?_
      refine pw_iconst dX9_way_22 ?_
      refine pw_callV (d' := d - 1) (As := [_]) (ci := 9) dX9_way_23 ok_X9_answered kw_423 rfl rfl (Of.o (by assumption)) (by omega) rfl (Nat.le_of_ble_eq_true rfl) (p_answered (d - 1) (by omega) n ok _ hP9 _) (Nat.le_refl _) (Or.inl rfl) (fun r ok1 mem1 hq => ?_)
      obtain ⟨rfl, rfl, rfl⟩ := hq
      refine pw_iret dX9_way_26 rfl rfl ?_
      have e9 : rWay mem k = rSay mem (-1) := by
        unfold rWay; congr 1; unfold wOrd; (repeat' split) <;> first | rfl | (exfalso; omega)
      rw [e9]; exact ⟨rfl, rfl, RE1 _ _, RG_st hG hIO hKO _⟩
theorem p_way (d : Nat) (hd : 2 ≤ d) (n : Nat) (ok : pO) (mem : pM) (hU : ClUp n ok) (hG : RG mem mem n) (hRI : RI mem) (k : Int) (hk : -2147483648 ≤ k ∧ k ≤ 2147483647) : PM mi_X9_way d [vr 1, vi k] n ok mem n (fun r ok' mem' => r = some (vi (rWay mem k).1) ∧ ok = ok' ∧ RE mem mem' ∧ RG (rWay mem k).2 mem' n) := by
  by_cases z : mem 88 31 = 0
  · exact p_way0 d hd n ok mem hU hG hRI k hk z
  · exact p_way1 d hd n ok mem hU hG hRI k hk (by omega)
set_option maxHeartbeats 4000000 in
set_option maxRecDepth 100000 in
theorem p_along0 (d : Nat) (hd : 2 ≤ d) (n : Nat) (ok : pO) (mem : pM) (hU : ClUp n ok) (hG : RG mem mem n) (hRI : RI mem) (k : Int) (hk : -2147483648 ≤ k ∧ k ≤ 2147483647) (h31 : mem 88 31 = 0) : PM mi_X9_along d [vr 1, vi k] n ok mem n (fun r ok' mem' => r = some (vi (rAlong mem k).1) ∧ ok = ok' ∧ RE mem mem' ∧ RG (rAlong mem k).2 mem' n) := by
  obtain ⟨hP9, hN, ⟨hn4, ho0, ho1, ho2⟩, hCh, hDr, hM, ⟨hW80, hW82, hW84⟩, q86, q87, hSU, hn133⟩ := id hU
  obtain ⟨hN5, hN3⟩ := id hN
  obtain ⟨hM4, hM9⟩ := id hM
  obtain ⟨hW8, hWA, -, -⟩ := id hW80
  have hIO := hRI.1
  have hKO := hRI.2.1
  have ht9 := hRI.2.2.1
  have hq0 := hRI.2.2.2.1
  have hty := hRI.2.2.2.2.1
  have hNR := hG.1
  have hNR1 : mem 2 1 = mem 88 19 := hNR.1
  refine PM.of (by decide) (by decide) (Nat.le_refl _) (Nat.le_of_ble_eq_true rfl) ?_
  refine pw_aload_n 0 rfl dX9_along_0 rfl ?_
  refine pw_callV (d' := d - 1) (As := []) (ci := 9) dX9_along_1 ok_X9_searchThere kw_868 rfl rfl (Of.o (by assumption)) (by omega) rfl (Nat.le_of_ble_eq_true rfl) (p_sT0 (d - 1) (by omega) n ok mem hU mem hG h31) (Nat.le_refl _) (Or.inl rfl) (fun r ok1 mem1 hq => ?_)
  obtain ⟨rfl, rfl, rfl⟩ := hq
  refine pw_astore_n 2 rfl dX9_along_4 (by decide) ?_
  refine pw_aload_n 2 rfl dX9_along_5 rfl ?_
  refine pw_ifnull_t 21 (by decide) dX9_along_6 ?_
  refine pw_aload_n 0 rfl dX9_along_21 rfl ?_
  refine pw_iconst dX9_along_22 ?_
  refine pw_callV (d' := d - 1) (As := [_]) (ci := 9) dX9_along_23 ok_X9_answered kw_423 rfl rfl (Of.o (by assumption)) (by omega) rfl (Nat.le_of_ble_eq_true rfl) (p_answered (d - 1) (by omega) n ok _ hP9 _) (Nat.le_refl _) (Or.inl rfl) (fun r ok1 mem1 hq => ?_)
  obtain ⟨rfl, rfl, rfl⟩ := hq
  refine pw_iret dX9_along_26 rfl rfl ?_
  have e9 : rAlong mem k = rSay mem (-1) := by
    unfold rAlong; congr 1; rw [wOrd_0 h31]; (repeat' split) <;> omega
  rw [e9]; exact ⟨rfl, rfl, RE1 _ _, RG_st hG hIO hKO _⟩
set_option maxHeartbeats 4000000 in
set_option maxRecDepth 100000 in
theorem p_along1 (d : Nat) (hd : 2 ≤ d) (n : Nat) (ok : pO) (mem : pM) (hU : ClUp n ok) (hG : RG mem mem n) (hRI : RI mem) (k : Int) (hk : -2147483648 ≤ k ∧ k ≤ 2147483647) (h31 : mem 88 31 ≠ 0) : PM mi_X9_along d [vr 1, vi k] n ok mem n (fun r ok' mem' => r = some (vi (rAlong mem k).1) ∧ ok = ok' ∧ RE mem mem' ∧ RG (rAlong mem k).2 mem' n) := by
  obtain ⟨hP9, hN, ⟨hn4, ho0, ho1, ho2⟩, hCh, hDr, hM, ⟨hW80, hW82, hW84⟩, q86, q87, hSU, hn133⟩ := id hU
  obtain ⟨hN5, hN3⟩ := id hN
  obtain ⟨hM4, hM9⟩ := id hM
  obtain ⟨hW8, hWA, -, -⟩ := id hW80
  have hIO := hRI.1
  have hKO := hRI.2.1
  have ht9 := hRI.2.2.1
  have hq0 := hRI.2.2.2.1
  have hty := hRI.2.2.2.2.1
  have hNR := hG.1
  have hNR1 : mem 2 1 = mem 88 19 := hNR.1
  obtain ⟨hn9, hm10, hth, hso⟩ := RG_so hG h31
  have hS9 := hSU hn9
  obtain ⟨hS7, ⟨x124, x125, x126, x127, x128, x129, x130⟩, x131, x132, x133⟩ := id hS9
  obtain ⟨hov, h9, hSG, h8⟩ := hso h31
  have hSR := hSG.1
  have h15 := hSG.2.1
  have hSI := hRI.2.2.2.2.2.1 h31
  refine PM.of (by decide) (by decide) (Nat.le_refl _) (Nat.le_of_ble_eq_true rfl) ?_
  refine pw_aload_n 0 rfl dX9_along_0 rfl ?_
  refine pw_callV (d' := d - 1) (As := []) (ci := 9) dX9_along_1 ok_X9_searchThere kw_868 rfl rfl (Of.o (by assumption)) (by omega) rfl (Nat.le_of_ble_eq_true rfl) (p_sT1 (d - 1) (by omega) n ok mem hU mem hG h31) (Nat.le_refl _) (Or.inl rfl) (fun r ok1 mem1 hq => ?_)
  obtain ⟨rfl, rfl, rfl⟩ := hq
  refine pw_astore_n 2 rfl dX9_along_4 (by decide) ?_
  refine pw_aload_n 2 rfl dX9_along_5 rfl ?_
  refine pw_ifnull_f (by omega) dX9_along_6 ?_
  refine pw_iload_n 1 rfl dX9_along_9 rfl ?_
  refine pw_if_lt 21 (by decide) dX9_along_10 (by omega) (fun c10 => ?_) (fun c10 => ?_)
  · skip
    refine pw_aload_n 0 rfl dX9_along_21 rfl ?_
    refine pw_iconst dX9_along_22 ?_
    refine pw_callV (d' := d - 1) (As := [_]) (ci := 9) dX9_along_23 ok_X9_answered kw_423 rfl rfl (Of.o (by assumption)) (by omega) rfl (Nat.le_of_ble_eq_true rfl) (p_answered (d - 1) (by omega) n ok _ hP9 _) (Nat.le_refl _) (Or.inl rfl) (fun r ok1 mem1 hq => ?_)
    obtain ⟨rfl, rfl, rfl⟩ := hq
    refine pw_iret dX9_along_26 rfl rfl ?_
    have e9 : rAlong mem k = rSay mem (-1) := by
      unfold rAlong; congr 1; unfold wOrd; (repeat' split) <;> first | rfl | (exfalso; omega)
    rw [e9]; exact ⟨rfl, rfl, RE1 _ _, RG_st hG hIO hKO _⟩
  · skip
    refine pw_iload_n 1 rfl dX9_along_13 rfl ?_
    refine pw_aload_n 2 rfl dX9_along_14 rfl ?_
    refine pw_callV (d' := d - 1) (As := []) (ci := 7) dX9_along_15 ok_X7_wayLength kw_731 rfl rfl (Of.o (by assumption)) (by omega) rfl (Nat.le_of_ble_eq_true rfl) (y_wayLength (d - 1) (by omega) n ok mem hS9 mem hSI hSR h15) (Nat.le_refl _) (Or.inl rfl) (fun r ok1 mem1 hq => ?_)
    obtain ⟨rfl, rfl, rfl⟩ := hq
    obtain ⟨L, hLe, hLL⟩ := way_c hSI
    rw [hLe]
    have hs34 := hSI.1
    refine pw_icmp_le 27 (by decide) dX9_along_18 (by omega) (by omega) (fun c18 => ?_) (fun c18 => ?_)
    · skip
      refine pw_aload_n 0 rfl dX9_along_27 rfl ?_
      refine pw_aload_n 2 rfl dX9_along_28 rfl ?_
      refine pw_gR 0 124 dX9_along_29 cOk7 (by assumption) (by decide) kw_554 (by decide) rfl ?_
      refine pw_aload_n 2 rfl dX9_along_32 rfl ?_
      refine pw_iload_n 1 rfl dX9_along_33 rfl ?_
      refine pw_callV (d' := d - 1) (As := [_]) (ci := 7) dX9_along_34 ok_X7_orderOnWay kw_901 rfl rfl (Of.o (by assumption)) (by omega) rfl (Nat.le_of_ble_eq_true rfl) (y_orderOnWay (d - 1) (by omega) n ok mem hS9 mem hSI hSR h15 (k) (by omega) (by omega)) (Nat.le_refl _) (Or.inl rfl) (fun r ok1 mem1 hq => ?_)
      obtain ⟨rfl, rfl, rfl⟩ := hq
      have hHL : mem 88 36 ≠ -1 ∧ 0 ≤ mem 88 36 ∧ mem 88 36 < mem 88 34 ∧ L = mem 109 (mem 108 (mem 88 36)) ∧ 0 ≤ L ∧ L ≤ 1024 := by
        rcases hLL with z | z
        · exfalso; omega
        · exact z
      have han := anc_ran hSI (mem 109 (mem 108 (mem 88 36)) - (k)).toNat (mem 88 36) hHL.2.1 hHL.2.2.1 (by omega)
      refine pw_iaload dX9_along_37 (by assumption) (by omega) (by omega) (fun r37 => ?_)
      rw [(hSR.2.2.1 _ han.1 han.2).1] at r37 ⊢
      refine pw_callV (d' := d - 1) (As := [_]) (ci := 9) dX9_along_38 ok_X9_answered kw_423 rfl rfl (Of.o (by assumption)) (by omega) rfl (Nat.le_of_ble_eq_true rfl) (p_answered (d - 1) (by omega) n ok _ hP9 _) (Nat.le_refl _) (Or.inl rfl) (fun r ok1 mem1 hq => ?_)
      obtain ⟨rfl, rfl, rfl⟩ := hq
      refine pw_iret dX9_along_41 rfl rfl ?_
      have e9 : rAlong mem k = rSay mem (mem 108 (ancG mem (mem 109 (mem 108 (mem 88 36)) - k).toNat (mem 88 36))) := by
        unfold rAlong; have hw9 : wOrd mem k = ancG mem (mem 109 (mem 108 (mem 88 36)) - k).toNat (mem 88 36) := by
          unfold wOrd; rw [if_pos ⟨h31, by omega, by omega, by omega⟩]
        rw [hw9, if_neg (by omega)]
      rw [e9]; exact ⟨rfl, rfl, RE1 _ _, RG_st hG hIO hKO _⟩
    · skip
      refine pw_aload_n 0 rfl dX9_along_21 rfl ?_
      refine pw_iconst dX9_along_22 ?_
      refine pw_callV (d' := d - 1) (As := [_]) (ci := 9) dX9_along_23 ok_X9_answered kw_423 rfl rfl (Of.o (by assumption)) (by omega) rfl (Nat.le_of_ble_eq_true rfl) (p_answered (d - 1) (by omega) n ok _ hP9 _) (Nat.le_refl _) (Or.inl rfl) (fun r ok1 mem1 hq => ?_)
      obtain ⟨rfl, rfl, rfl⟩ := hq
      refine pw_iret dX9_along_26 rfl rfl ?_
      have e9 : rAlong mem k = rSay mem (-1) := by
        unfold rAlong; congr 1; unfold wOrd; (repeat' split) <;> first | rfl | (exfalso; omega)
      rw [e9]; exact ⟨rfl, rfl, RE1 _ _, RG_st hG hIO hKO _⟩
theorem p_along (d : Nat) (hd : 2 ≤ d) (n : Nat) (ok : pO) (mem : pM) (hU : ClUp n ok) (hG : RG mem mem n) (hRI : RI mem) (k : Int) (hk : -2147483648 ≤ k ∧ k ≤ 2147483647) : PM mi_X9_along d [vr 1, vi k] n ok mem n (fun r ok' mem' => r = some (vi (rAlong mem k).1) ∧ ok = ok' ∧ RE mem mem' ∧ RG (rAlong mem k).2 mem' n) := by
  by_cases z : mem 88 31 = 0
  · exact p_along0 d hd n ok mem hU hG hRI k hk z
  · exact p_along1 d hd n ok mem hU hG hRI k hk (by omega)
