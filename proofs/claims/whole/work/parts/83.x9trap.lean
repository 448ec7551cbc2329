/-! ===== traps, hints, all marked, shown, a search gone on with ===== -/
theorem RG_meas {A m m1 : pM} {n : Nat} (h : RG A m n) (h31 : A 88 31 ≠ 0) (hw : A 88 35 = A 88 34) (h12 : m1 123 12 ≠ 0) (hsp : SpF (rdR A) (A 111) (A 88 34) (m1 129)) (em : ∀ x, x ≠ 123 → x ≠ 129 → x ≠ 130 → m1 x = m x) (ek : ∀ k, k ≠ 12 → m1 123 k = m 123 k) : RG A m1 n := by
  obtain ⟨h1, h2, h3, h4, h5, h6, h7, h8⟩ := h
  have e1 := em 1 (by omega) (by omega) (by omega)
  refine ⟨NR_c h1 rfl rfl rfl rfl (em _ (by omega) (by omega) (by omega)) (em _ (by omega) (by omega) (by omega)), fun c b c1 c2 hb => (h2 c b c1 c2 hb).m (fun a a1 a2 _ => em a (by omega) (by omega) (by omega)), RBn_c h3 (fun a a1 a2 _ => em a (by omega) (by omega) (by omega)), RTy_c h4 rfl rfl (by rw [e1]) (em _ (by omega) (by omega) (by omega)), RAt_c h5 rfl rfl rfl rfl (by rw [e1]) (by rw [e1]) (by rw [e1]) (by rw [e1]), RMk_c h6 rfl rfl rfl rfl (em _ (by omega) (by omega) (by omega)) (em _ (by omega) (by omega) (by omega)), REx_c h7 rfl rfl (em _ (by omega) (by omega) (by omega)) (em _ (by omega) (by omega) (by omega)), ?_⟩
  unfold RSe at h8 ⊢
  rcases h8 with z | z
  · exact absurd z.2.2 h31
  · refine Or.inr ⟨by rw [e1]; exact z.1, z.2.1, by rw [ek 10 (by omega)]; exact z.2.2.1, fun y => ?_⟩
    obtain ⟨w1, w2, w3, w4⟩ := z.2.2.2 y
    refine ⟨by rw [ek 11 (by omega)]; exact w1, by rw [ek 9 (by omega)]; exact w2, ?_, by rw [ek 8 (by omega)]; exact w4⟩
    obtain ⟨s1, s2, s3, s4, s5⟩ := w3
    refine ⟨?_, by rw [ek 15 (by omega)]; exact s2, ?_, by rw [em 131 (by omega) (by omega) (by omega)]; exact s4, Or.inr ⟨h12, hw, hsp⟩⟩
    · unfold SRm; rw [ek 13 (by omega), ek 14 (by omega), em 124 (by omega) (by omega) (by omega), em 125 (by omega) (by omega) (by omega), em 126 (by omega) (by omega) (by omega), em 127 (by omega) (by omega) (by omega), em 128 (by omega) (by omega) (by omega)]; exact s1
    · unfold RDx rF rN; rw [em 131 (by omega) (by omega) (by omega), em 132 (by omega) (by omega) (by omega), em 133 (by omega) (by omega) (by omega)]; exact s3
theorem RG_TM {A A2 m : pM} {n : Nat} {s : Int} (h : RG A m n) (hR : RI A) (hT : TM s A A2) : RG A2 (wr m 1 16 s) n := by
  have g := RG_st h hR.1 hR.2.1 s
  have eA : ∀ a, a ≠ 88 → (a < 115 ∨ 118 < a) → A2 a = wr A 88 0 s a := fun a a1 a2 => by rw [wr_a _ _ _ a1]; exact hT.1 a a1 a2
  refine RG_A g ⟨fun a a1 a2 => eA a (by omega) (by omega), eA _ (by omega) (by omega), fun a a1 a2 => eA a (by omega) (by omega), eA _ (by omega) (by omega), eA _ (by omega) (by omega), fun k _ _ _ q => ?_⟩ (RI_st hR s).1 (RI_st hR s).2.1
  by_cases w : k = 0
  · rw [w, wr_s]; exact hT.2.2.1
  · rw [wr_k _ _ _ _ w]; exact hT.2.1 k w q
theorem RI_TM {A A2 : pM} {s : Int} (h : RI A) (hT : TM s A A2) : RI A2 := by
  obtain ⟨r1, r2, r3, r4, r5, r6, r7, r8, r9⟩ := h
  obtain ⟨t1, t2, t3, t4⟩ := hT
  have hI2 : IOk A2 := IOk_c r1 (fun a a1 a2 => t1 a (by omega) (by omega))
  refine ⟨hI2, KOk_c r2 (t1 _ (by omega) (by omega)) (t1 _ (by omega) (by omega)), by rw [t2 19 (by omega) (by omega)]; exact r3, by rw [t2 3 (by omega) (by omega)]; exact r4, by rw [t2 24 (by omega) (by omega), t1 106 (by omega) (by omega)]; exact r5, ?_, t4, ?_, by rw [t1 119 (by omega) (by omega)]; exact r9⟩
  · unfold SI SIs at r6 ⊢
    rw [t2 31 (by omega) (by omega), t2 34 (by omega) (by omega), t2 35 (by omega) (by omega), t2 36 (by omega) (by omega), t1 108 (by omega) (by omega), t1 109 (by omega) (by omega), t1 110 (by omega) (by omega), t1 112 (by omega) (by omega), t1 114 (by omega) (by omega)]; exact r6
  · rw [t2 31 (by omega) (by omega), t2 33 (by omega) (by omega), t2 32 (by omega) (by omega)]
    intro z
    have q := r8 z
    exact ⟨q.1, fun y => GI_c (cq_GI (chEq.of (fun a a1 a2 _ => t1 a (by omega) (by omega))) (r1 _ q.1.1 q.1.2) (hI2 _ q.1.1 q.1.2).ok.1 (q.2 y)) (fun a a1 a2 => t1 a (by omega) (by omega)) (t2 34 (by omega) (by omega)) (t2 35 (by omega) (by omega)) (t2 36 (by omega) (by omega))⟩
/-- places written anew on the class's side alone -/
theorem RG_f2 {A m m1 : pM} {n : Nat} {c : Int} {b : Nat} (h : RG A m n) (hI : IOk A) (hK : KOk A) (hc : 0 ≤ c ∧ c ≤ 2) (hb : (b : Int) = 5 + 18 * c) (hf : Fr2 b m m1) (hv : CV A c m1 b (aAt A c)) : RG A m1 n := by
  obtain ⟨q1, q2, q3, q4⟩ := h.2.1 c b hc.1 hc.2 hb
  refine RG_one h hI hK hc.1 hc.2 hb ⟨q1.m (fun a a1 a2 a3 a4 => hf a a3 a4), hv, by rw [hf b (by omega) (by omega)]; exact q3, ?_⟩ (fun c' _ _ _ => chX.rf (fun _ _ _ => rfl) c') (fun _ _ _ _ _ _ => rfl) (fun _ _ _ _ _ => rfl) (fun a _ ha => hf a (by omega) (by omega))
  unfold KR; rw [hf (b + 16) (by omega) (by omega), hf (b + 17) (by omega) (by omega)]; exact q4
set_option maxHeartbeats 4000000 in
set_option maxRecDepth 100000 in
theorem p_trap0 (d : Nat) (hd : 3 ≤ d) (n : Nat) (ok : pO) (mem : pM) (hU : ClUp n ok) (hG : RG mem mem n) (hRI : RI mem) (x : Int) (hx : -2147483648 ≤ x ∧ x ≤ 2147483647) (hz : ¬ (mem 88 31 ≠ 0 ∧ mem 88 32 = 0 ∧ mem 88 35 = mem 88 34)) : PM mi_X9_trap d [vr 1, vi x] n ok mem n (fun r ok' mem' => ∃ g, ((mem 88 31 ≠ 0 ∧ mem 88 32 = 0 ∧ mem 88 35 = mem 88 34) → (0 ≤ x ∧ x ≤ 1023) → mem 109 x ≠ -1 → SpF (rdR mem) (mem 111) (mem 88 34) g) ∧ r = some (vi (rTrap mem g x)) ∧ ok = ok' ∧ RE mem mem' ∧ ∀ A2, TM (if (mem 88 31 ≠ 0 ∧ mem 88 32 = 0 ∧ mem 88 35 = mem 88 34) then 0 else -4) mem A2 → RG A2 mem' n) := by
  obtain ⟨hP9, hN, ⟨hn4, ho0, ho1, ho2⟩, hCh, hDr, hM, ⟨hW80, hW82, hW84⟩, q86, q87, hSU, hn133⟩ := id hU
  obtain ⟨hN5, hN3⟩ := id hN
  obtain ⟨hM4, hM9⟩ := id hM
  obtain ⟨hW8, hWA, -, -⟩ := id hW80
  have hIO := hRI.1
  have hKO := hRI.2.1
  have ht9 := hRI.2.2.1
  have hq0 := hRI.2.2.2.1
  have hty := hRI.2.2.2.2.1
  have hNR := hG.1
  have hNR1 : mem 2 1 = mem 88 19 := hNR.1
  refine PM.of (by decide) (by decide) (Nat.le_refl _) (Nat.le_of_ble_eq_true rfl) ?_
  refine pw_aload_n 0 rfl dX9_trap_0 rfl ?_
  refine pw_callV (d' := d - 1) (As := []) (ci := 9) dX9_trap_1 ok_X9_searchFinished kw_914 rfl rfl (Of.o (by assumption)) (by omega) rfl (Nat.le_of_ble_eq_true rfl) (p_sF0 (d - 1) (by omega) n ok mem hU mem hG hz) (Nat.le_refl _) (Or.inl rfl) (fun r ok1 mem1 hq => ?_)
  obtain ⟨rfl, rfl, rfl⟩ := hq
  refine pw_astore_n 2 rfl dX9_trap_4 (by decide) ?_
  refine pw_aload_n 2 rfl dX9_trap_5 rfl ?_
  refine pw_ifnonnull_f dX9_trap_6 ?_
  refine pw_aload_n 0 rfl dX9_trap_9 rfl ?_
  refine pw_bipush dX9_trap_10 (by decide) ?_
  refine pw_callV (d' := d - 1) (As := [_]) (ci := 9) dX9_trap_12 ok_X9_refused kw_406 rfl rfl (Of.o (by assumption)) (by omega) rfl (Nat.le_of_ble_eq_true rfl) (p_refused (d - 1) (by omega) n ok _ hP9 _ (by omega)) (Nat.le_refl _) (Or.inl rfl) (fun r ok1 mem1 hq => ?_)
  obtain ⟨rfl, rfl, rfl⟩ := hq
  refine pw_iret dX9_trap_15 rfl rfl ?_
  refine ⟨fun _ => 0, fun z => absurd z hz, ?_, rfl, RE1 _ _, fun A2 hT => ?_⟩
  · unfold rTrap; rw [if_pos hz]
  · rw [if_neg hz] at hT; exact RG_TM hG hRI hT
set_option maxHeartbeats 4000000 in
set_option maxRecDepth 100000 in
theorem p_trap1 (d : Nat) (hd : 3 ≤ d) (n : Nat) (ok : pO) (mem : pM) (hU : ClUp n ok) (hG : RG mem mem n) (hRI : RI mem) (x : Int) (hx : -2147483648 ≤ x ∧ x ≤ 2147483647) (hz : (mem 88 31 ≠ 0 ∧ mem 88 32 = 0 ∧ mem 88 35 = mem 88 34)) : PM mi_X9_trap d [vr 1, vi x] n ok mem n (fun r ok' mem' => ∃ g, ((mem 88 31 ≠ 0 ∧ mem 88 32 = 0 ∧ mem 88 35 = mem 88 34) → (0 ≤ x ∧ x ≤ 1023) → mem 109 x ≠ -1 → SpF (rdR mem) (mem 111) (mem 88 34) g) ∧ r = some (vi (rTrap mem g x)) ∧ ok = ok' ∧ RE mem mem' ∧ ∀ A2, TM (if (mem 88 31 ≠ 0 ∧ mem 88 32 = 0 ∧ mem 88 35 = mem 88 34) then 0 else -4) mem A2 → RG A2 mem' n) := by
  obtain ⟨hP9, hN, ⟨hn4, ho0, ho1, ho2⟩, hCh, hDr, hM, ⟨hW80, hW82, hW84⟩, q86, q87, hSU, hn133⟩ := id hU
  obtain ⟨hN5, hN3⟩ := id hN
  obtain ⟨hM4, hM9⟩ := id hM
  obtain ⟨hW8, hWA, -, -⟩ := id hW80
  have hIO := hRI.1
  have hKO := hRI.2.1
  have ht9 := hRI.2.2.1
  have hq0 := hRI.2.2.2.1
  have hty := hRI.2.2.2.2.1
  have hNR := hG.1
  have hNR1 : mem 2 1 = mem 88 19 := hNR.1
  have h31 : mem 88 31 ≠ 0 := hz.1
  have h32 : mem 88 32 = 0 := hz.2.1
  obtain ⟨hn9, hm10, hth, hso⟩ := RG_so hG h31
  have hS9 := hSU hn9
  obtain ⟨hS7, ⟨x124, x125, x126, x127, x128, x129, x130⟩, x131, x132, x133⟩ := id hS9
  obtain ⟨hov, h9, hSG, h8⟩ := hso h31
  have hSR := hSG.1
  have h15 := hSG.2.1
  have hSI := hRI.2.2.2.2.2.1 h31
  have hs34 := hSI.1
  refine PM.of (by decide) (by decide) (Nat.le_refl _) (Nat.le_of_ble_eq_true rfl) ?_
  refine pw_aload_n 0 rfl dX9_trap_0 rfl ?_
  refine pw_callV (d' := d - 1) (As := []) (ci := 9) dX9_trap_1 ok_X9_searchFinished kw_914 rfl rfl (Of.o (by assumption)) (by omega) rfl (Nat.le_of_ble_eq_true rfl) (p_sF1 (d - 1) (by omega) n ok mem hU mem hG hz) (Nat.le_refl _) (Or.inl rfl) (fun r ok1 mem1 hq => ?_)
  obtain ⟨rfl, rfl, rfl⟩ := hq
  refine pw_astore_n 2 rfl dX9_trap_4 (by decide) ?_
  refine pw_aload_n 2 rfl dX9_trap_5 rfl ?_
  refine pw_ifnonnull_t 16 (by decide) (by omega) dX9_trap_6 ?_
  refine pw_aload_n 2 rfl dX9_trap_16 rfl ?_
  refine pw_iload_n 1 rfl dX9_trap_17 rfl ?_
  refine pw_callV (d' := d - 1) (As := [_]) (ci := 7) dX9_trap_18 ok_X7_orderOf kw_889 rfl rfl (Of.o (by assumption)) (by omega) rfl (Nat.le_of_ble_eq_true rfl) (y_orderOf (d - 1) (by omega) n ok mem hS9 x (by omega)) (Nat.le_refl _) (Or.inl rfl) (fun r ok1 mem1 hq => ?_)
  obtain ⟨rfl, rfl, rfl⟩ := hq
  obtain ⟨q, hqe, hqq⟩ := ord_c hSR hSI x
  rw [hqe]
  have hs34 := hSI.1
  refine pw_istore_n 3 rfl dX9_trap_21 (by decide) ?_
  refine pw_iload_n 3 rfl dX9_trap_22 rfl ?_
  refine pw_iconst dX9_trap_23 ?_
  refine pw_icmp_ne 33 (by decide) dX9_trap_24 (by omega) (by omega) (fun c24 => ?_) (fun c24 => ?_)
  · skip
    refine pw_aload_n 2 rfl dX9_trap_33 rfl ?_
    refine pw_callV (d' := d - 1) (As := []) (ci := 7) dX9_trap_34 ok_X7_measure kw_918 rfl rfl (Of.o (by assumption)) (by omega) rfl (Nat.le_of_ble_eq_true rfl) (y_measure (d - 1) (by omega) n ok mem hS9 mem hSI hSG hz.2.2) (Nat.le_refl _) (Or.inl rfl) (fun r ok1 mem1 hq => ?_)
    obtain ⟨rfl, rfl, hm12, hsp, hfr, hfk⟩ := hq
    have hG1 : RG mem mem1 n := RG_meas hG h31 hz.2.2 hm12 hsp hfr hfk
    refine pw_aload_n 0 rfl dX9_trap_37 rfl ?_
    refine pw_aload_n 2 rfl dX9_trap_38 rfl ?_
    refine pw_gR 5 129 dX9_trap_39 cOk7 (by assumption) (by decide) kw_562 (by decide) rfl ?_
    refine pw_iload_n 3 rfl dX9_trap_42 rfl ?_
    refine pw_iaload dX9_trap_43 (by assumption) (by omega) (by omega) (fun r43 => ?_)
    refine pw_iconst dX9_trap_44 ?_
    refine pw_icmp_ne 52 (by decide) dX9_trap_45 (by omega) (by omega) (fun c45 => ?_) (fun c45 => ?_)
    · skip
      refine pw_iconst dX9_trap_52 ?_
      refine pw_callV (d' := d - 1) (As := [_]) (ci := 9) dX9_trap_53 ok_X9_answered kw_423 rfl rfl (Of.o (by assumption)) (by omega) rfl (Nat.le_of_ble_eq_true rfl) (p_answered (d - 1) (by omega) n ok _ hP9 _) (Nat.le_refl _) (Or.inl rfl) (fun r ok1 mem1 hq => ?_)
      obtain ⟨rfl, rfl, rfl⟩ := hq
      refine pw_iret dX9_trap_56 rfl rfl ?_
      refine ⟨mem1 129, fun _ _ _ => hsp, ?_, rfl, RE_w (fun a a1 a2 => hfr a (by omega) (by omega) (by omega)) _, fun A2 hT => ?_⟩
      · rcases hqq with z | z
        · exfalso; omega
        · refine congrArg (fun y => some (vi y)) ?_
          unfold rTrap; rw [if_neg (fun y => y hz), if_neg (by omega), ← z.2.2.1]
          first | rw [if_pos (by omega)] | rw [if_neg (by omega)]
      · rw [if_pos hz] at hT; exact RG_TM hG1 hRI hT
    · skip
      refine pw_iconst dX9_trap_48 ?_
      refine pw_goto 53 (by decide) dX9_trap_49 ?_
      refine pw_callV (d' := d - 1) (As := [_]) (ci := 9) dX9_trap_53 ok_X9_answered kw_423 rfl rfl (Of.o (by assumption)) (by omega) rfl (Nat.le_of_ble_eq_true rfl) (p_answered (d - 1) (by omega) n ok _ hP9 _) (Nat.le_refl _) (Or.inl rfl) (fun r ok1 mem1 hq => ?_)
      obtain ⟨rfl, rfl, rfl⟩ := hq
      refine pw_iret dX9_trap_56 rfl rfl ?_
      refine ⟨mem1 129, fun _ _ _ => hsp, ?_, rfl, RE_w (fun a a1 a2 => hfr a (by omega) (by omega) (by omega)) _, fun A2 hT => ?_⟩
      · rcases hqq with z | z
        · exfalso; omega
        · refine congrArg (fun y => some (vi y)) ?_
          unfold rTrap; rw [if_neg (fun y => y hz), if_neg (by omega), ← z.2.2.1]
          first | rw [if_pos (by omega)] | rw [if_neg (by omega)]
      · rw [if_pos hz] at hT; exact RG_TM hG1 hRI hT
  · skip
    refine pw_aload_n 0 rfl dX9_trap_27 rfl ?_
    refine pw_iconst dX9_trap_28 ?_
    refine pw_callV (d' := d - 1) (As := [_]) (ci := 9) dX9_trap_29 ok_X9_answered kw_423 rfl rfl (Of.o (by assumption)) (by omega) rfl (Nat.le_of_ble_eq_true rfl) (p_answered (d - 1) (by omega) n ok _ hP9 _) (Nat.le_refl _) (Or.inl rfl) (fun r ok1 mem1 hq => ?_)
    obtain ⟨rfl, rfl, rfl⟩ := hq
    refine pw_iret dX9_trap_32 rfl rfl ?_
    have hz9 : ¬ (0 ≤ x ∧ x ≤ 1023) ∨ mem 109 x = -1 := by
      rcases hqq with z | z
      · exact z.2
      · exfalso; omega
    refine ⟨fun _ => 0, fun _ z1 z2 => absurd hz9 (by omega), ?_, rfl, RE1 _ _, fun A2 hT => ?_⟩
    · unfold rTrap; rw [if_neg (fun y => y hz), if_pos hz9]
    · rw [if_pos hz] at hT; exact RG_TM hG hRI hT
theorem p_trap (d : Nat) (hd : 3 ≤ d) (n : Nat) (ok : pO) (mem : pM) (hU : ClUp n ok) (hG : RG mem mem n) (hRI : RI mem) (x : Int) (hx : -2147483648 ≤ x ∧ x ≤ 2147483647) : PM mi_X9_trap d [vr 1, vi x] n ok mem n (fun r ok' mem' => ∃ g, ((mem 88 31 ≠ 0 ∧ mem 88 32 = 0 ∧ mem 88 35 = mem 88 34) → (0 ≤ x ∧ x ≤ 1023) → mem 109 x ≠ -1 → SpF (rdR mem) (mem 111) (mem 88 34) g) ∧ r = some (vi (rTrap mem g x)) ∧ ok = ok' ∧ RE mem mem' ∧ ∀ A2, TM (if (mem 88 31 ≠ 0 ∧ mem 88 32 = 0 ∧ mem 88 35 = mem 88 34) then 0 else -4) mem A2 → RG A2 mem' n) := by
  by_cases z : (mem 88 31 ≠ 0 ∧ mem 88 32 = 0 ∧ mem 88 35 = mem 88 34)
  · exact p_trap1 d hd n ok mem hU hG hRI x hx z
  · exact p_trap0 d hd n ok mem hU hG hRI x hx z
set_option maxHeartbeats 4000000 in
set_option maxRecDepth 100000 in
theorem p_traps0 (d : Nat) (hd : 3 ≤ d) (n : Nat) (ok : pO) (mem : pM) (hU : ClUp n ok) (hG : RG mem mem n) (hRI : RI mem)  (hz : ¬ (mem 88 31 ≠ 0 ∧ mem 88 32 = 0 ∧ mem 88 35 = mem 88 34)) : PM mi_X9_traps d [vr 1] n ok mem n (fun r ok' mem' => ∃ g, ((mem 88 31 ≠ 0 ∧ mem 88 32 = 0 ∧ mem 88 35 = mem 88 34) → SpF (rdR mem) (mem 111) (mem 88 34) g) ∧ r = some (vi (rTraps mem g)) ∧ ok = ok' ∧ RE mem mem' ∧ ∀ A2, TM (if (mem 88 31 ≠ 0 ∧ mem 88 32 = 0 ∧ mem 88 35 = mem 88 34) then 0 else -4) mem A2 → RG A2 mem' n) := by
  obtain ⟨hP9, hN, ⟨hn4, ho0, ho1, ho2⟩, hCh, hDr, hM, ⟨hW80, hW82, hW84⟩, q86, q87, hSU, hn133⟩ := id hU
  obtain ⟨hN5, hN3⟩ := id hN
  obtain ⟨hM4, hM9⟩ := id hM
  obtain ⟨hW8, hWA, -, -⟩ := id hW80
  have hIO := hRI.1
  have hKO := hRI.2.1
  have ht9 := hRI.2.2.1
  have hq0 := hRI.2.2.2.1
  have hty := hRI.2.2.2.2.1
  have hNR := hG.1
  have hNR1 : mem 2 1 = mem 88 19 := hNR.1
  refine PM.of (by decide) (by decide) (Nat.le_refl _) (Nat.le_of_ble_eq_true rfl) ?_
  refine pw_aload_n 0 rfl dX9_traps_0 rfl ?_
  refine pw_callV (d' := d - 1) (As := []) (ci := 9) dX9_traps_1 ok_X9_searchFinished kw_914 rfl rfl (Of.o (by assumption)) (by omega) rfl (Nat.le_of_ble_eq_true rfl) (p_sF0 (d - 1) (by omega) n ok mem hU mem hG hz) (Nat.le_refl _) (Or.inl rfl) (fun r ok1 mem1 hq => ?_)
  obtain ⟨rfl, rfl, rfl⟩ := hq
  refine pw_astore_n 1 rfl dX9_traps_4 (by decide) ?_
  refine pw_aload_n 1 rfl dX9_traps_5 rfl ?_
  refine pw_ifnonnull_f dX9_traps_6 ?_
  refine pw_aload_n 0 rfl dX9_traps_9 rfl ?_
  refine pw_bipush dX9_traps_10 (by decide) ?_
  refine pw_callV (d' := d - 1) (As := [_]) (ci := 9) dX9_traps_12 ok_X9_refused kw_406 rfl rfl (Of.o (by assumption)) (by omega) rfl (Nat.le_of_ble_eq_true rfl) (p_refused (d - 1) (by omega) n ok _ hP9 _ (by omega)) (Nat.le_refl _) (Or.inl rfl) (fun r ok1 mem1 hq => ?_)
  obtain ⟨rfl, rfl, rfl⟩ := hq
  refine pw_iret dX9_traps_15 rfl rfl ?_
  refine ⟨fun _ => 0, fun z => absurd z hz, ?_, rfl, RE1 _ _, fun A2 hT => ?_⟩
  · unfold rTraps; rw [if_pos hz]
  · rw [if_neg hz] at hT; exact RG_TM hG hRI hT
set_option maxHeartbeats 4000000 in
set_option maxRecDepth 100000 in
theorem p_traps1 (d : Nat) (hd : 3 ≤ d) (n : Nat) (ok : pO) (mem : pM) (hU : ClUp n ok) (hG : RG mem mem n) (hRI : RI mem)  (hz : (mem 88 31 ≠ 0 ∧ mem 88 32 = 0 ∧ mem 88 35 = mem 88 34)) : PM mi_X9_traps d [vr 1] n ok mem n (fun r ok' mem' => ∃ g, ((mem 88 31 ≠ 0 ∧ mem 88 32 = 0 ∧ mem 88 35 = mem 88 34) → SpF (rdR mem) (mem 111) (mem 88 34) g) ∧ r = some (vi (rTraps mem g)) ∧ ok = ok' ∧ RE mem mem' ∧ ∀ A2, TM (if (mem 88 31 ≠ 0 ∧ mem 88 32 = 0 ∧ mem 88 35 = mem 88 34) then 0 else -4) mem A2 → RG A2 mem' n) := by
  obtain ⟨hP9, hN, ⟨hn4, ho0, ho1, ho2⟩, hCh, hDr, hM, ⟨hW80, hW82, hW84⟩, q86, q87, hSU, hn133⟩ := id hU
  obtain ⟨hN5, hN3⟩ := id hN
  obtain ⟨hM4, hM9⟩ := id hM
  obtain ⟨hW8, hWA, -, -⟩ := id hW80
  have hIO := hRI.1
  have hKO := hRI.2.1
  have ht9 := hRI.2.2.1
  have hq0 := hRI.2.2.2.1
  have hty := hRI.2.2.2.2.1
  have hNR := hG.1
  have hNR1 : mem 2 1 = mem 88 19 := hNR.1
  have h31 : mem 88 31 ≠ 0 := hz.1
  have h32 : mem 88 32 = 0 := hz.2.1
  obtain ⟨hn9, hm10, hth, hso⟩ := RG_so hG h31
  have hS9 := hSU hn9
  obtain ⟨hS7, ⟨x124, x125, x126, x127, x128, x129, x130⟩, x131, x132, x133⟩ := id hS9
  obtain ⟨hov, h9, hSG, h8⟩ := hso h31
  have hSR := hSG.1
  have h15 := hSG.2.1
  have hSI := hRI.2.2.2.2.2.1 h31
  have hs34 := hSI.1
  refine PM.of (by decide) (by decide) (Nat.le_refl _) (Nat.le_of_ble_eq_true rfl) ?_
  refine pw_aload_n 0 rfl dX9_traps_0 rfl ?_
  refine pw_callV (d' := d - 1) (As := []) (ci := 9) dX9_traps_1 ok_X9_searchFinished kw_914 rfl rfl (Of.o (by assumption)) (by omega) rfl (Nat.le_of_ble_eq_true rfl) (p_sF1 (d - 1) (by omega) n ok mem hU mem hG hz) (Nat.le_refl _) (Or.inl rfl) (fun r ok1 mem1 hq => ?_)
  obtain ⟨rfl, rfl, rfl⟩ := hq
  refine pw_astore_n 1 rfl dX9_traps_4 (by decide) ?_
  refine pw_aload_n 1 rfl dX9_traps_5 rfl ?_
  refine pw_ifnonnull_t 16 (by decide) (by omega) dX9_traps_6 ?_
  refine pw_aload_n 1 rfl dX9_traps_16 rfl ?_
  refine pw_callV (d' := d - 1) (As := []) (ci := 7) dX9_traps_17 ok_X7_measure kw_918 rfl rfl (Of.o (by assumption)) (by omega) rfl (Nat.le_of_ble_eq_true rfl) (y_measure (d - 1) (by omega) n ok mem hS9 mem hSI hSG hz.2.2) (Nat.le_refl _) (Or.inl rfl) (fun r ok1 mem1 hq => ?_)
  obtain ⟨rfl, rfl, hm12, hsp, hfr, hfk⟩ := hq
  have hG1 : RG mem mem1 n := RG_meas hG h31 hz.2.2 hm12 hsp hfr hfk
  refine pw_aload_n 0 rfl dX9_traps_20 rfl ?_
  refine pw_aload_n 1 rfl dX9_traps_21 rfl ?_
  refine pw_callV (d' := d - 1) (As := []) (ci := 7) dX9_traps_22 ok_X7_numberOfTraps kw_939 rfl rfl (Of.o (by assumption)) (by omega) rfl (Nat.le_of_ble_eq_true rfl) (y_numberOfTraps (d - 1) (by omega) n ok mem1 hS9 (by rw [hfk 13 (by omega), hSR.1]; omega)) (Nat.le_refl _) (Or.inl rfl) (fun r ok1 mem2 hq => ?_)
  obtain ⟨rfl, rfl, rfl⟩ := hq
  rw [hfk 13 (by omega), hSR.1]
  refine pw_callV (d' := d - 1) (As := [_]) (ci := 9) dX9_traps_25 ok_X9_answered kw_423 rfl rfl (Of.o (by assumption)) (by omega) rfl (Nat.le_of_ble_eq_true rfl) (p_answered (d - 1) (by omega) n ok _ hP9 _) (Nat.le_refl _) (Or.inl rfl) (fun r ok1 mem1 hq => ?_)
  obtain ⟨rfl, rfl, rfl⟩ := hq
  refine pw_iret dX9_traps_28 rfl rfl ?_
  refine ⟨mem1 129, fun _ => hsp, ?_, rfl, RE_w (fun a a1 a2 => hfr a (by omega) (by omega) (by omega)) _, fun A2 hT => ?_⟩
  · unfold rTraps; rw [if_neg (fun y => y hz)]
  · rw [if_pos hz] at hT; exact RG_TM hG1 hRI hT
theorem p_traps (d : Nat) (hd : 3 ≤ d) (n : Nat) (ok : pO) (mem : pM) (hU : ClUp n ok) (hG : RG mem mem n) (hRI : RI mem)  : PM mi_X9_traps d [vr 1] n ok mem n (fun r ok' mem' => ∃ g, ((mem 88 31 ≠ 0 ∧ mem 88 32 = 0 ∧ mem 88 35 = mem 88 34) → SpF (rdR mem) (mem 111) (mem 88 34) g) ∧ r = some (vi (rTraps mem g)) ∧ ok = ok' ∧ RE mem mem' ∧ ∀ A2, TM (if (mem 88 31 ≠ 0 ∧ mem 88 32 = 0 ∧ mem 88 35 = mem 88 34) then 0 else -4) mem A2 → RG A2 mem' n) := by
  by_cases z : (mem 88 31 ≠ 0 ∧ mem 88 32 = 0 ∧ mem 88 35 = mem 88 34)
  · exact p_traps1 d hd n ok mem hU hG hRI   z
  · exact p_traps0 d hd n ok mem hU hG hRI   z
set_option maxHeartbeats 4000000 in
set_option maxRecDepth 100000 in
theorem p_hint0 (d : Nat) (hd : 6 ≤ d) (n : Nat) (ok : pO) (mem : pM) (hU : ClUp n ok) (hG : RG mem mem n) (hRI : RI mem) (c : Int) (hc : -2147483648 ≤ c ∧ c ≤ 2147483647) (hz : ¬ (mem 88 31 ≠ 0 ∧ mem 88 32 = 0 ∧ mem 88 35 = mem 88 34)) : PM mi_X9_hint d [vr 1, vi c] n ok mem n (fun r ok' mem' => ∃ g, ((0 ≤ c ∧ c ≤ 2) → ((mem 88 31 ≠ 0 ∧ mem 88 32 = 0 ∧ mem 88 35 = mem 88 34) ∧ mem 88 33 = c) → SpF (rdR mem) (mem 111) (mem 88 34) g) ∧ r = some (vi (rHint mem g c)) ∧ ok = ok' ∧ RE mem mem' ∧ ∀ A2, TM (if ¬ (0 ≤ c ∧ c ≤ 2) then -2 else if ¬ (mem 88 31 ≠ 0 ∧ mem 88 32 = 0 ∧ mem 88 35 = mem 88 34) ∨ mem 88 33 ≠ c then -4 else 0) mem A2 → RG A2 mem' n) := by
  obtain ⟨hP9, hN, ⟨hn4, ho0, ho1, ho2⟩, hCh, hDr, hM, ⟨hW80, hW82, hW84⟩, q86, q87, hSU, hn133⟩ := id hU
  obtain ⟨hN5, hN3⟩ := id hN
  obtain ⟨hM4, hM9⟩ := id hM
  obtain ⟨hW8, hWA, -, -⟩ := id hW80
  have hIO := hRI.1
  have hKO := hRI.2.1
  have ht9 := hRI.2.2.1
  have hq0 := hRI.2.2.2.1
  have hty := hRI.2.2.2.2.1
  have hNR := hG.1
  have hNR1 : mem 2 1 = mem 88 19 := hNR.1
  refine PM.of (by decide) (by decide) (Nat.le_refl _) (Nat.le_of_ble_eq_true rfl) ?_
  refine pw_iload_n 1 rfl dX9_hint_0 rfl ?_
  refine pw_callS (d' := d - 1) (As := [_]) dX9_hint_1 ok_X9_isChest kw_403 (by omega) rfl (Nat.le_of_ble_eq_true rfl) (p_isChest (d - 1) (by omega) n ok _ _ (by omega)) (Nat.le_refl _) (Or.inl rfl) (fun r ok1 mem1 hq => ?_)
  obtain ⟨rfl, rfl, rfl⟩ := hq
  refine pw_if_ne 14 (by decide) dX9_hint_4 (by split <;> omega) (fun c4 => ?_) (fun c4 => ?_)
  · skip
    rw [ne_eq, bz_n] at c4
    refine pw_aload_n 0 rfl dX9_hint_14 rfl ?_
    refine pw_callV (d' := d - 1) (As := []) (ci := 9) dX9_hint_15 ok_X9_searchFinished kw_914 rfl rfl (Of.o (by assumption)) (by omega) rfl (Nat.le_of_ble_eq_true rfl) (p_sF0 (d - 1) (by omega) n ok mem hU mem hG hz) (Nat.le_refl _) (Or.inl rfl) (fun r ok1 mem1 hq => ?_)
    obtain ⟨rfl, rfl, rfl⟩ := hq
    refine pw_astore_n 2 rfl dX9_hint_18 (by decide) ?_
    refine pw_aload_n 2 rfl dX9_hint_19 rfl ?_
    refine pw_ifnull_t 31 (by decide) dX9_hint_20 ?_
    refine pw_aload_n 0 rfl dX9_hint_31 rfl ?_
    refine pw_bipush dX9_hint_32 (by decide) ?_
    refine pw_callV (d' := d - 1) (As := [_]) (ci := 9) dX9_hint_34 ok_X9_refused kw_406 rfl rfl (Of.o (by assumption)) (by omega) rfl (Nat.le_of_ble_eq_true rfl) (p_refused (d - 1) (by omega) n ok _ hP9 _ (by omega)) (Nat.le_refl _) (Or.inl rfl) (fun r ok1 mem1 hq => ?_)
    obtain ⟨rfl, rfl, rfl⟩ := hq
    refine pw_iret dX9_hint_37 rfl rfl ?_
    refine ⟨fun _ => 0, fun _ z => absurd z.1 hz, ?_, rfl, RE1 _ _, fun A2 hT => ?_⟩
    · unfold rHint; rw [if_neg (fun y => y c4), if_pos (Or.inl hz)]
    · rw [if_neg (fun y => y c4), if_pos (Or.inl hz)] at hT; exact RG_TM hG hRI hT
  · skip
    rw [bz_0] at c4
    refine pw_aload_n 0 rfl dX9_hint_7 rfl ?_
    refine pw_bipush dX9_hint_8 (by decide) ?_
    refine pw_callV (d' := d - 1) (As := [_]) (ci := 9) dX9_hint_10 ok_X9_refused kw_406 rfl rfl (Of.o (by assumption)) (by omega) rfl (Nat.le_of_ble_eq_true rfl) (p_refused (d - 1) (by omega) n ok _ hP9 _ (by omega)) (Nat.le_refl _) (Or.inl rfl) (fun r ok1 mem1 hq => ?_)
    obtain ⟨rfl, rfl, rfl⟩ := hq
    refine pw_iret dX9_hint_13 rfl rfl ?_
    refine ⟨fun _ => 0, fun z => absurd z c4, ?_, rfl, RE1 _ _, fun A2 hT => ?_⟩
    · unfold rHint; rw [if_pos c4]
    · rw [if_pos c4] at hT; exact RG_TM hG hRI hT
set_option maxHeartbeats 4000000 in
set_option maxRecDepth 100000 in
theorem p_hint1 (d : Nat) (hd : 6 ≤ d) (n : Nat) (ok : pO) (mem : pM) (hU : ClUp n ok) (hG : RG mem mem n) (hRI : RI mem) (c : Int) (hc : -2147483648 ≤ c ∧ c ≤ 2147483647) (hz : (mem 88 31 ≠ 0 ∧ mem 88 32 = 0 ∧ mem 88 35 = mem 88 34)) : PM mi_X9_hint d [vr 1, vi c] n ok mem n (fun r ok' mem' => ∃ g, ((0 ≤ c ∧ c ≤ 2) → ((mem 88 31 ≠ 0 ∧ mem 88 32 = 0 ∧ mem 88 35 = mem 88 34) ∧ mem 88 33 = c) → SpF (rdR mem) (mem 111) (mem 88 34) g) ∧ r = some (vi (rHint mem g c)) ∧ ok = ok' ∧ RE mem mem' ∧ ∀ A2, TM (if ¬ (0 ≤ c ∧ c ≤ 2) then -2 else if ¬ (mem 88 31 ≠ 0 ∧ mem 88 32 = 0 ∧ mem 88 35 = mem 88 34) ∨ mem 88 33 ≠ c then -4 else 0) mem A2 → RG A2 mem' n) := by
  obtain ⟨hP9, hN, ⟨hn4, ho0, ho1, ho2⟩, hCh, hDr, hM, ⟨hW80, hW82, hW84⟩, q86, q87, hSU, hn133⟩ := id hU
  obtain ⟨hN5, hN3⟩ := id hN
  obtain ⟨hM4, hM9⟩ := id hM
  obtain ⟨hW8, hWA, -, -⟩ := id hW80
  have hIO := hRI.1
  have hKO := hRI.2.1
  have ht9 := hRI.2.2.1
  have hq0 := hRI.2.2.2.1
  have hty := hRI.2.2.2.2.1
  have hNR := hG.1
  have hNR1 : mem 2 1 = mem 88 19 := hNR.1
  have h31 : mem 88 31 ≠ 0 := hz.1
  have h32 : mem 88 32 = 0 := hz.2.1
  obtain ⟨hn9, hm10, hth, hso⟩ := RG_so hG h31
  have hS9 := hSU hn9
  obtain ⟨hS7, ⟨x124, x125, x126, x127, x128, x129, x130⟩, x131, x132, x133⟩ := id hS9
  obtain ⟨hov, h9, hSG, h8⟩ := hso h31
  have hSR := hSG.1
  have h15 := hSG.2.1
  have hSI := hRI.2.2.2.2.2.1 h31
  have hs34 := hSI.1
  refine PM.of (by decide) (by decide) (Nat.le_refl _) (Nat.le_of_ble_eq_true rfl) ?_
  refine pw_iload_n 1 rfl dX9_hint_0 rfl ?_
  refine pw_callS (d' := d - 1) (As := [_]) dX9_hint_1 ok_X9_isChest kw_403 (by omega) rfl (Nat.le_of_ble_eq_true rfl) (p_isChest (d - 1) (by omega) n ok _ _ (by omega)) (Nat.le_refl _) (Or.inl rfl) (fun r ok1 mem1 hq => ?_)
  obtain ⟨rfl, rfl, rfl⟩ := hq
  refine pw_if_ne 14 (by decide) dX9_hint_4 (by split <;> omega) (fun c4 => ?_) (fun c4 => ?_)
  · skip
    rw [ne_eq, bz_n] at c4
    refine pw_aload_n 0 rfl dX9_hint_14 rfl ?_
    refine pw_callV (d' := d - 1) (As := []) (ci := 9) dX9_hint_15 ok_X9_searchFinished kw_914 rfl rfl (Of.o (by assumption)) (by omega) rfl (Nat.le_of_ble_eq_true rfl) (p_sF1 (d - 1) (by omega) n ok mem hU mem hG hz) (Nat.le_refl _) (Or.inl rfl) (fun r ok1 mem1 hq => ?_)
    obtain ⟨rfl, rfl, rfl⟩ := hq
    refine pw_astore_n 2 rfl dX9_hint_18 (by decide) ?_
    refine pw_aload_n 2 rfl dX9_hint_19 rfl ?_
    refine pw_ifnull_f (by omega) dX9_hint_20 ?_
    refine pw_aload_n 2 rfl dX9_hint_23 rfl ?_
    refine pw_gI 9 9 rfl dX9_hint_24 cOk7 (by assumption) (by decide) kw_567 (by decide) (fun r24 => ?_)
    rw [h9] at r24 ⊢
    refine pw_iload_n 1 rfl dX9_hint_27 rfl ?_
    refine pw_icmp_eq 38 (by decide) dX9_hint_28 (by omega) (by omega) (fun c28 => ?_) (fun c28 => ?_)
    · skip
      obtain ⟨b, hbc⟩ : ∃ b : Nat, (b : Int) = 5 + 18 * c := ⟨(5 + 18 * c).toNat, by omega⟩
      have hC : ChUp n ok b := hCh b (by omega)
      have hok : ok 4 (c).toNat = true := by rcases (show c = 0 ∨ c = 1 ∨ c = 2 by omega) with e | e | e <;> (rw [e]; assumption)
      obtain ⟨hS, hV, hJ, hKR⟩ := hG.2.1 c b (by omega) (by omega) hbc
      have hI := hIO c (by omega) (by omega)
      have hOk := hI.ok
      obtain ⟨hR, hD, hSo⟩ := id hS
      obtain ⟨hC0, ⟨hC1, hC2, hC3, hC4, hC5, hC6, hC7⟩, hC8, ⟨hC9, hC10, hC11, hC12, hC13, hC14, hC15⟩, hC16, hC17, hb5, hb59⟩ := id hC
      have h33 : mem 88 33 = c := by omega
      have hGI : GI mem c mem := by
        have := (hRI.2.2.2.2.2.2.2.1 h31).2 h32
        rw [h33] at this; exact this
      have hb8 := h8 h32 b (by rw [h33]; exact hbc)
      refine pw_aload_n 2 rfl dX9_hint_38 rfl ?_
      refine pw_callV (d' := d - 1) (As := []) (ci := 7) dX9_hint_39 ok_X7_measure kw_918 rfl rfl (Of.o (by assumption)) (by omega) rfl (Nat.le_of_ble_eq_true rfl) (y_measure (d - 1) (by omega) n ok mem hS9 mem hSI hSG hz.2.2) (Nat.le_refl _) (Or.inl rfl) (fun r ok1 mem1 hq => ?_)
      obtain ⟨rfl, rfl, hm12, hsp, hfr, hfk⟩ := hq
      have hG1 : RG mem mem1 n := RG_meas hG h31 hz.2.2 hm12 hsp hfr hfk
      have e2 := hfr 2 (by omega) (by omega) (by omega)
      have hSR1 : SRm mem mem1 := by
        unfold SRm; rw [hfk 13 (by omega), hfk 14 (by omega), hfr 124 (by omega) (by omega) (by omega), hfr 125 (by omega) (by omega) (by omega), hfr 126 (by omega) (by omega) (by omega), hfr 127 (by omega) (by omega) (by omega), hfr 128 (by omega) (by omega) (by omega)]; exact hSR
      refine pw_aload_n 0 rfl dX9_hint_42 rfl ?_
      refine pw_aload_n 2 rfl dX9_hint_43 rfl ?_
      refine pw_callV (d' := d - 1) (As := []) (ci := 7) dX9_hint_44 ok_X7_moveNearer kw_947 rfl rfl (Of.o (by assumption)) (by omega) rfl (Nat.le_of_ble_eq_true rfl) (y_moveNearer (d - 1) (by omega) n ok mem1 hN b hC mem c (aAt mem c) hI (hS.m (fun a _ _ _ _ => hfr a (by omega) (by omega) (by omega))) (hV.m (hfr _ (by omega) (by omega) (by omega))) hOk.2.1 hS9 (by rw [hfk 8 (by omega)]; exact hb8) mem hSI hGI hSR1 hz.2.2 hsp (by rw [e2]; omega)) (Nat.le_refl _) (Or.inl rfl) (fun r ok1 mem2 hq => ?_)
      obtain ⟨rfl, rfl, hf2, hcv2⟩ := hq
      rw [← aNum_v mem c 16 (by omega)]
      refine pw_callV (d' := d - 1) (As := [_]) (ci := 9) dX9_hint_47 ok_X9_answered kw_423 rfl rfl (Of.o (by assumption)) (by omega) rfl (Nat.le_of_ble_eq_true rfl) (p_answered (d - 1) (by omega) n ok _ hP9 _) (Nat.le_refl _) (Or.inl rfl) (fun r ok1 mem1 hq => ?_)
      obtain ⟨rfl, rfl, rfl⟩ := hq
      refine pw_iret dX9_hint_50 rfl rfl ?_
      refine ⟨mem1 129, fun _ _ => hsp, ?_, rfl, RE_w (fun a a1 a2 => (hf2 a (by omega) (by omega)).trans (hfr a (by omega) (by omega) (by omega))) _, fun A2 hT => ?_⟩
      · unfold rHint; rw [if_neg (show ¬ ¬ (0 ≤ c ∧ c ≤ 2) from fun y => y c4), if_neg (show ¬ (¬ (mem 88 31 ≠ 0 ∧ mem 88 32 = 0 ∧ mem 88 35 = mem 88 34) ∨ mem 88 33 ≠ c) by omega)]
      · rw [if_neg (fun y => y c4), if_neg (by omega)] at hT; exact RG_TM (RG_f2 hG1 hIO hKO c4 hbc hf2 hcv2) hRI hT
    · skip
      refine pw_aload_n 0 rfl dX9_hint_31 rfl ?_
      refine pw_bipush dX9_hint_32 (by decide) ?_
      refine pw_callV (d' := d - 1) (As := [_]) (ci := 9) dX9_hint_34 ok_X9_refused kw_406 rfl rfl (Of.o (by assumption)) (by omega) rfl (Nat.le_of_ble_eq_true rfl) (p_refused (d - 1) (by omega) n ok _ hP9 _ (by omega)) (Nat.le_refl _) (Or.inl rfl) (fun r ok1 mem1 hq => ?_)
      obtain ⟨rfl, rfl, rfl⟩ := hq
      refine pw_iret dX9_hint_37 rfl rfl ?_
      refine ⟨fun _ => 0, fun _ z => absurd z.2 (by omega), ?_, rfl, RE1 _ _, fun A2 hT => ?_⟩
      · unfold rHint; rw [if_neg (fun y => y c4), if_pos (Or.inr (by omega))]
      · rw [if_neg (fun y => y c4), if_pos (Or.inr (by omega))] at hT; exact RG_TM hG hRI hT
  · skip
    rw [bz_0] at c4
    refine pw_aload_n 0 rfl dX9_hint_7 rfl ?_
    refine pw_bipush dX9_hint_8 (by decide) ?_
    refine pw_callV (d' := d - 1) (As := [_]) (ci := 9) dX9_hint_10 ok_X9_refused kw_406 rfl rfl (Of.o (by assumption)) (by omega) rfl (Nat.le_of_ble_eq_true rfl) (p_refused (d - 1) (by omega) n ok _ hP9 _ (by omega)) (Nat.le_refl _) (Or.inl rfl) (fun r ok1 mem1 hq => ?_)
    obtain ⟨rfl, rfl, rfl⟩ := hq
    refine pw_iret dX9_hint_13 rfl rfl ?_
    refine ⟨fun _ => 0, fun z => absurd z c4, ?_, rfl, RE1 _ _, fun A2 hT => ?_⟩
    · unfold rHint; rw [if_pos c4]
    · rw [if_pos c4] at hT; exact RG_TM hG hRI hT
theorem p_hint (d : Nat) (hd : 6 ≤ d) (n : Nat) (ok : pO) (mem : pM) (hU : ClUp n ok) (hG : RG mem mem n) (hRI : RI mem) (c : Int) (hc : -2147483648 ≤ c ∧ c ≤ 2147483647) : PM mi_X9_hint d [vr 1, vi c] n ok mem n (fun r ok' mem' => ∃ g, ((0 ≤ c ∧ c ≤ 2) → ((mem 88 31 ≠ 0 ∧ mem 88 32 = 0 ∧ mem 88 35 = mem 88 34) ∧ mem 88 33 = c) → SpF (rdR mem) (mem 111) (mem 88 34) g) ∧ r = some (vi (rHint mem g c)) ∧ ok = ok' ∧ RE mem mem' ∧ ∀ A2, TM (if ¬ (0 ≤ c ∧ c ≤ 2) then -2 else if ¬ (mem 88 31 ≠ 0 ∧ mem 88 32 = 0 ∧ mem 88 35 = mem 88 34) ∨ mem 88 33 ≠ c then -4 else 0) mem A2 → RG A2 mem' n) := by
  by_cases z : (mem 88 31 ≠ 0 ∧ mem 88 32 = 0 ∧ mem 88 35 = mem 88 34)
  · exact p_hint1 d hd n ok mem hU hG hRI c hc z
  · exact p_hint0 d hd n ok mem hU hG hRI c hc z
set_option maxHeartbeats 4000000 in
set_option maxRecDepth 100000 in
theorem p_markAll0 (d : Nat) (hd : 2 ≤ d) (n : Nat) (ok : pO) (mem : pM) (hU : ClUp n ok) (hG : RG mem mem n) (hRI : RI mem)  (h31 : mem 88 31 = 0) : PM mi_X9_markAll d [vr 1] n ok mem n (fun r ok' mem' => r = some (vi (rMarkAll mem).1) ∧ ok = ok' ∧ RE mem mem' ∧ RG (rMarkAll mem).2 mem' n) := by
  obtain ⟨hP9, hN, ⟨hn4, ho0, ho1, ho2⟩, hCh, hDr, hM, ⟨hW80, hW82, hW84⟩, q86, q87, hSU, hn133⟩ := id hU
  obtain ⟨hN5, hN3⟩ := id hN
  obtain ⟨hM4, hM9⟩ := id hM
  obtain ⟨hW8, hWA, -, -⟩ := id hW80
  have hIO := hRI.1
  have hKO := hRI.2.1
  have ht9 := hRI.2.2.1
  have hq0 := hRI.2.2.2.1
  have hty := hRI.2.2.2.2.1
  have hNR := hG.1
  have hNR1 : mem 2 1 = mem 88 19 := hNR.1
  refine PM.of (by decide) (by decide) (Nat.le_refl _) (Nat.le_of_ble_eq_true rfl) ?_
  refine pw_aload_n 0 rfl dX9_markAll_0 rfl ?_
  refine pw_callV (d' := d - 1) (As := []) (ci := 9) dX9_markAll_1 ok_X9_searchThere kw_868 rfl rfl (Of.o (by assumption)) (by omega) rfl (Nat.le_of_ble_eq_true rfl) (p_sT0 (d - 1) (by omega) n ok mem hU mem hG h31) (Nat.le_refl _) (Or.inl rfl) (fun r ok1 mem1 hq => ?_)
  obtain ⟨rfl, rfl, rfl⟩ := hq
  refine pw_astore_n 1 rfl dX9_markAll_4 (by decide) ?_
  refine pw_aload_n 1 rfl dX9_markAll_5 rfl ?_
  refine pw_ifnonnull_f dX9_markAll_6 ?_
  refine pw_aload_n 0 rfl dX9_markAll_9 rfl ?_
  refine pw_bipush dX9_markAll_10 (by decide) ?_
  refine pw_callV (d' := d - 1) (As := [_]) (ci := 9) dX9_markAll_12 ok_X9_refused kw_406 rfl rfl (Of.o (by assumption)) (by omega) rfl (Nat.le_of_ble_eq_true rfl) (p_refused (d - 1) (by omega) n ok _ hP9 _ (by omega)) (Nat.le_refl _) (Or.inl rfl) (fun r ok1 mem1 hq => ?_)
  obtain ⟨rfl, rfl, rfl⟩ := hq
  refine pw_iret dX9_markAll_15 rfl rfl ?_
  have e9 : rMarkAll mem = rRef mem (-4) := by
    unfold rMarkAll; rw [if_pos h31]
  rw [e9]; exact ⟨rfl, rfl, RE1 _ _, RG_st hG hIO hKO _⟩
set_option maxHeartbeats 4000000 in
set_option maxRecDepth 100000 in
theorem p_markAll1 (d : Nat) (hd : 2 ≤ d) (n : Nat) (ok : pO) (mem : pM) (hU : ClUp n ok) (hG : RG mem mem n) (hRI : RI mem)  (h31 : mem 88 31 ≠ 0) : PM mi_X9_markAll d [vr 1] n ok mem n (fun r ok' mem' => r = some (vi (rMarkAll mem).1) ∧ ok = ok' ∧ RE mem mem' ∧ RG (rMarkAll mem).2 mem' n) := by
  obtain ⟨hP9, hN, ⟨hn4, ho0, ho1, ho2⟩, hCh, hDr, hM, ⟨hW80, hW82, hW84⟩, q86, q87, hSU, hn133⟩ := id hU
  obtain ⟨hN5, hN3⟩ := id hN
  obtain ⟨hM4, hM9⟩ := id hM
  obtain ⟨hW8, hWA, -, -⟩ := id hW80
  have hIO := hRI.1
  have hKO := hRI.2.1
  have ht9 := hRI.2.2.1
  have hq0 := hRI.2.2.2.1
  have hty := hRI.2.2.2.2.1
  have hNR := hG.1
  have hNR1 : mem 2 1 = mem 88 19 := hNR.1
  obtain ⟨hn9, hm10, hth, hso⟩ := RG_so hG h31
  have hS9 := hSU hn9
  obtain ⟨hS7, ⟨x124, x125, x126, x127, x128, x129, x130⟩, x131, x132, x133⟩ := id hS9
  obtain ⟨hov, h9, hSG, h8⟩ := hso h31
  have hSR := hSG.1
  have h15 := hSG.2.1
  have hSI := hRI.2.2.2.2.2.1 h31
  refine PM.of (by decide) (by decide) (Nat.le_refl _) (Nat.le_of_ble_eq_true rfl) ?_
  refine pw_aload_n 0 rfl dX9_markAll_0 rfl ?_
  refine pw_callV (d' := d - 1) (As := []) (ci := 9) dX9_markAll_1 ok_X9_searchThere kw_868 rfl rfl (Of.o (by assumption)) (by omega) rfl (Nat.le_of_ble_eq_true rfl) (p_sT1 (d - 1) (by omega) n ok mem hU mem hG h31) (Nat.le_refl _) (Or.inl rfl) (fun r ok1 mem1 hq => ?_)
  obtain ⟨rfl, rfl, rfl⟩ := hq
  refine pw_astore_n 1 rfl dX9_markAll_4 (by decide) ?_
  refine pw_aload_n 1 rfl dX9_markAll_5 rfl ?_
  refine pw_ifnonnull_t 16 (by decide) (by omega) dX9_markAll_6 ?_
  refine pw_aload_n 0 rfl dX9_markAll_16 rfl ?_
  refine pw_gR 4 78 dX9_markAll_17 cOk9 (by assumption) (by decide) kw_351 (by decide) rfl ?_
  refine pw_iconst dX9_markAll_20 ?_
  refine pw_sipush dX9_markAll_21 (by decide) ?_
  refine pw_iconst dX9_markAll_24 ?_
  refine pw_callV (d' := d - 1) (As := [_, _, _]) (ci := 4) dX9_markAll_25 ok_X4_put kw_956 rfl rfl (Of.o (by assumption)) (by omega) rfl (Nat.le_of_ble_eq_true rfl) (k_put (d - 1) (by omega) n ok mem hM mem hG.2.2.2.2.2.1.1 0 1024 0 (by omega) (by omega) (by omega) (by omega)) (Nat.le_refl _) (Or.inl rfl) (fun r ok1 mem1 hq => ?_)
  obtain ⟨rfl, rfl, hfw0, hmr0⟩ := hq
  have hs34 := hSI.1
  refine pw_pop dX9_markAll_28 rfl ?_
  refine pw_iconst dX9_markAll_29 ?_
  refine pw_istore_n 2 rfl dX9_markAll_30 (by decide) ?_
  have lp31 : ∀ (kz : Nat) (i : Int) (m1 : pM), mem 88 34 - i < (kz : Int) → (0 ≤ i ∧ i ≤ mem 88 34) → (FrW 79 mem m1) → (∀ j, 0 ≤ j → j < 1024 → (m1 79 j = 1 ∧ ∃ o9, 0 ≤ o9 ∧ o9 < i ∧ mem 108 o9 = j) ∨ (m1 79 j = 0 ∧ ¬ ∃ o9, 0 ≤ o9 ∧ o9 < i ∧ mem 108 o9 = j)) → PW mi_X9_markAll d n n (fun r ok' mem' => r = some (vi (rMarkAll mem).1) ∧ ok = ok' ∧ RE mem mem' ∧ RG (rMarkAll mem).2 mem' n) 31 [(0, vr 1), (1, vr 123), (2, vi i)] [] n ok m1 := by
    intro kz
    induction kz with
    | zero =>
      intro i m1 hk hi hfw hmk9
      exact absurd hk (by omega)
    | succ kz ih =>
      intro i m1 hk hi hfw hmk9
      have e1s : ∀ k, m1 123 k = mem 123 k := fun k => by rw [hfw 123 (by omega)]
      have e124 : m1 124 = mem 124 := hfw 124 (by omega)
      refine pw_iload_n 2 rfl dX9_markAll_31 rfl ?_
      refine pw_aload_n 1 rfl dX9_markAll_32 rfl ?_
      refine pw_gI 13 13 rfl dX9_markAll_33 cOk7 (by assumption) (by decide) kw_574 (by decide) (fun r33 => ?_)
      try simp (disch := omega) only [wr_s, wr_a, wr_k] at r33 ⊢
      rw [e1s, hSR.1] at r33 ⊢
      refine pw_icmp_ge 60 (by decide) dX9_markAll_36 (by omega) (by omega) (fun c36 => ?_) (fun c36 => ?_)
      · skip
        refine pw_aload_n 0 rfl dX9_markAll_60 rfl ?_
        refine pw_aload_n 1 rfl dX9_markAll_61 rfl ?_
        refine pw_gI 13 13 rfl dX9_markAll_62 cOk7 (by assumption) (by decide) kw_574 (by decide) (fun r62 => ?_)
        try simp (disch := omega) only [wr_s, wr_a, wr_k] at r62 ⊢
        rw [e1s, hSR.1] at r62 ⊢
        refine pw_callV (d' := d - 1) (As := [_]) (ci := 9) dX9_markAll_65 ok_X9_answered kw_423 rfl rfl (Of.o (by assumption)) (by omega) rfl (Nat.le_of_ble_eq_true rfl) (p_answered (d - 1) (by omega) n ok _ hP9 _) (Nat.le_refl _) (Or.inl rfl) (fun r ok1 mem1 hq => ?_)
        obtain ⟨rfl, rfl, rfl⟩ := hq
        refine pw_iret dX9_markAll_68 rfl rfl ?_
        have ei : i = mem 88 34 := by omega
        subst ei
        have e9 : rMarkAll mem = rSay (maM mem 1024) (mem 88 34) := by
          unfold rMarkAll; rw [if_neg h31]
        rw [e9]
        have hR2 := RI_m hRI (A2 := maM mem 1024) (fun a _ _ a3 => by funext j; unfold maM; rw [if_neg (fun z => a3 z.1)]) (fun j j1 j2 => by unfold maM; rw [if_pos ⟨rfl, j1, j2⟩]; split <;> omega)
        have e8 : ∀ a, a ≠ 119 → maM mem 1024 a = mem a := fun a q => by funext j; unfold maM; rw [if_neg (fun z => q z.1)]
        have e1 := hfw 1 (by omega)
        have hmr2 : MR (maM mem 1024) m1 := fun j j1 j2 => by
          unfold maM; rw [if_pos ⟨rfl, j1, j2⟩]
          rcases hmk9 j j1 j2 with z | z
          · obtain ⟨z1, o9, o1, o2, o3⟩ := z
            have := hSI.2.1 o9 o1 o2
            rw [z1, if_neg (by rw [← o3]; omega)]
          · rw [z.1]
            rcases hSI.2.2.1 j j1 j2 with y | y
            · rw [if_pos y]
            · exact absurd ⟨mem 110 j, y.1, y.2.1, y.2.2⟩ z.2
        refine ⟨rfl, rfl, fun a a1 a2 => by rw [wr_a _ _ _ (by omega)]; exact hfw a (by omega), RG_st ?_ hR2.1 hR2.2.1 0⟩
        exact RG_plain hG hIO hKO (fun a a1 a2 => e8 a (by omega)) (fun a a1 a2 => e8 a (by omega)) (fun k hk => by rw [e8 88 (by omega)]) (fun a ha => hfw a (by omega)) (by rw [e1]) (RTy_c hG.2.2.2.1 (by rw [e8 88 (by omega)]) (e8 _ (by omega)) (by rw [e1]) (hfw _ (by omega))) (RAt_c hG.2.2.2.2.1 (by rw [e8 88 (by omega)]) (by rw [e8 88 (by omega)]) (by rw [e8 88 (by omega)]) (by rw [e8 88 (by omega)]) (by rw [e1]) (by rw [e1]) (by rw [e1]) (by rw [e1])) ⟨hmr2, by rw [e8 88 (by omega), hfw 78 (by omega)]; exact hG.2.2.2.2.2.1.2⟩ (REx_c hG.2.2.2.2.2.2.1 (by rw [e8 88 (by omega)]) (e8 _ (by omega)) (hfw _ (by omega)) (hfw _ (by omega)))
      · skip
        refine pw_aload_n 0 rfl dX9_markAll_39 rfl ?_
        refine pw_gR 4 78 dX9_markAll_40 cOk9 (by assumption) (by decide) kw_351 (by decide) rfl ?_
        refine pw_gR 0 79 dX9_markAll_43 cOk4 (by assumption) (by decide) kw_315 (by decide) rfl ?_
        refine pw_aload_n 1 rfl dX9_markAll_46 rfl ?_
        refine pw_gR 0 124 dX9_markAll_47 cOk7 (by assumption) (by decide) kw_554 (by decide) rfl ?_
        refine pw_iload_n 2 rfl dX9_markAll_50 rfl ?_
        refine pw_iaload dX9_markAll_51 (by assumption) (by omega) (by omega) (fun r51 => ?_)
        try simp (disch := omega) only [wr_s, wr_a, wr_k] at r51 ⊢
        rw [e124, (hSR.2.2.1 i (by omega) (by omega)).1] at r51 ⊢
        have h108b := hSI.2.1 i (by omega) (by omega)
        refine pw_iconst dX9_markAll_52 ?_
        refine pw_bastore dX9_markAll_53 (by assumption) (by omega) (by omega) (by omega) ?_
        refine pw_iinc dX9_markAll_54 rfl (by decide) ?_
        refine pw_goto 31 (by decide) dX9_markAll_57 ?_
        have h108 := hSI.2.1 i (by omega) (by omega)
        have hmk2 : ∀ j, 0 ≤ j → j < 1024 → (wr m1 79 (mem 108 i) 1 79 j = 1 ∧ ∃ o9, 0 ≤ o9 ∧ o9 < i + 1 ∧ mem 108 o9 = j) ∨ (wr m1 79 (mem 108 i) 1 79 j = 0 ∧ ¬ ∃ o9, 0 ≤ o9 ∧ o9 < i + 1 ∧ mem 108 o9 = j) := fun j j1 j2 => by
          by_cases q : j = mem 108 i
          · exact Or.inl ⟨by rw [q, wr_s], i, by omega, by omega, q.symm⟩
          · rw [wr_k _ _ _ _ q]
            rcases hmk9 j j1 j2 with z | z
            · obtain ⟨z1, o9, o1, o2, o3⟩ := z
              exact Or.inl ⟨z1, o9, o1, by omega, o3⟩
            · refine Or.inr ⟨z.1, fun y => z.2 ?_⟩
              obtain ⟨o9, o1, o2, o3⟩ := y
              by_cases w : o9 = i
              · rw [w] at o3; exact absurd o3.symm q
              · exact ⟨o9, o1, by omega, o3⟩
        exact pw_locs _ rfl (ih (i + 1) (wr m1 79 (mem 108 i) 1) (by omega) (by omega) (fun a q => by rw [wr_a _ _ _ q]; exact hfw a q) hmk2)
  exact pw_locs _ rfl (lp31 1025 0 mem1 (by omega) (by omega) hfw0 (fun j j1 j2 => Or.inr ⟨by rw [hmr0 j j1 j2]; unfold fiM; rw [if_pos ⟨rfl, by omega, by omega⟩], fun z => by obtain ⟨o9, o1, o2, _⟩ := z; omega⟩))
theorem p_markAll (d : Nat) (hd : 2 ≤ d) (n : Nat) (ok : pO) (mem : pM) (hU : ClUp n ok) (hG : RG mem mem n) (hRI : RI mem)  : PM mi_X9_markAll d [vr 1] n ok mem n (fun r ok' mem' => r = some (vi (rMarkAll mem).1) ∧ ok = ok' ∧ RE mem mem' ∧ RG (rMarkAll mem).2 mem' n) := by
  by_cases z : mem 88 31 = 0
  · exact p_markAll0 d hd n ok mem hU hG hRI   z
  · exact p_markAll1 d hd n ok mem hU hG hRI   (by omega)
theorem RI_shows {A : pM} (h : RI A) (c : Int) : RI (rShows A c).2 := by
  unfold rShows; split
  · exact RI_ref h _
  · refine RI_say (RI_n h (fun a a1 a2 => ?_) ?_ ?_ (fun a a1 a2 => ?_) ?_ (fun k hk => ?_)) _
    · unfold rLook; simp (disch := omega) only [wr_a]
    · unfold rLook; simp (disch := omega) only [wr_a]
    · unfold rLook; simp (disch := omega) only [wr_a]
    · unfold rLook; simp (disch := omega) only [wr_a]
    · unfold rLook; simp (disch := omega) only [wr_k]; exact h.2.2.1
    · by_cases q : k = 3
      · subst q; rw [wr_s, h.2.2.2.1]
      · unfold rLook; rw [wr_k _ _ _ _ q, wr_k _ _ _ _ (by omega), wr_k _ _ _ _ (by omega), wr_k _ _ _ _ (by omega)]
set_option maxHeartbeats 4000000 in
set_option maxRecDepth 100000 in
theorem p_shows (d : Nat) (hd : 7 ≤ d) (n : Nat) (ok : pO) (mem : pM) (hU : ClUp n ok) (hG : RG mem mem n) (hRI : RI mem) (c : Int) (hc : -2147483648 ≤ c ∧ c ≤ 2147483647)  : PM mi_X9_shows d [vr 1, vi c] n ok mem n (fun r ok' mem' => r = some (vi (rShows mem c).1) ∧ ok = ok' ∧ RE mem mem' ∧ RG (rShows mem c).2 mem' n) := by
  obtain ⟨hP9, hN, ⟨hn4, ho0, ho1, ho2⟩, hCh, hDr, hM, ⟨hW80, hW82, hW84⟩, q86, q87, hSU, hn133⟩ := id hU
  obtain ⟨hN5, hN3⟩ := id hN
  obtain ⟨hM4, hM9⟩ := id hM
  obtain ⟨hW8, hWA, -, -⟩ := id hW80
  have hIO := hRI.1
  have hKO := hRI.2.1
  have ht9 := hRI.2.2.1
  have hq0 := hRI.2.2.2.1
  have hty := hRI.2.2.2.2.1
  have hNR := hG.1
  have hNR1 : mem 2 1 = mem 88 19 := hNR.1
  refine PM.of (by decide) (by decide) (Nat.le_refl _) (Nat.le_of_ble_eq_true rfl) ?_
  refine pw_iload_n 1 rfl dX9_shows_0 rfl ?_
  refine pw_callS (d' := d - 1) (As := [_]) dX9_shows_1 ok_X9_isChest kw_403 (by omega) rfl (Nat.le_of_ble_eq_true rfl) (p_isChest (d - 1) (by omega) n ok _ _ (by omega)) (Nat.le_refl _) (Or.inl rfl) (fun r ok1 mem1 hq => ?_)
  obtain ⟨rfl, rfl, rfl⟩ := hq
  refine pw_if_ne 14 (by decide) dX9_shows_4 (by split <;> omega) (fun c4 => ?_) (fun c4 => ?_)
  · skip
    rw [ne_eq, bz_n] at c4
    obtain ⟨b, hbc⟩ : ∃ b : Nat, (b : Int) = 5 + 18 * c := ⟨(5 + 18 * c).toNat, by omega⟩
    have hC : ChUp n ok b := hCh b (by omega)
    have hok : ok 4 (c).toNat = true := by rcases (show c = 0 ∨ c = 1 ∨ c = 2 by omega) with e | e | e <;> (rw [e]; assumption)
    obtain ⟨hS, hV, hJ, hKR⟩ := hG.2.1 c b (by omega) (by omega) hbc
    have hI := hIO c (by omega) (by omega)
    have hOk := hI.ok
    obtain ⟨hR, hD, hSo⟩ := id hS
    obtain ⟨hC0, ⟨hC1, hC2, hC3, hC4, hC5, hC6, hC7⟩, hC8, ⟨hC9, hC10, hC11, hC12, hC13, hC14, hC15⟩, hC16, hC17, hb5, hb59⟩ := id hC
    refine pw_aload_n 0 rfl dX9_shows_14 rfl ?_
    refine pw_aload_n 0 rfl dX9_shows_15 rfl ?_
    refine pw_gR 4 78 dX9_shows_16 cOk9 (by assumption) (by decide) kw_351 (by decide) rfl ?_
    refine pw_aload_n 0 rfl dX9_shows_19 rfl ?_
    refine pw_gR 1 4 dX9_shows_20 cOk9 (by assumption) (by decide) kw_348 (by decide) rfl ?_
    refine pw_iload_n 1 rfl dX9_shows_23 rfl ?_
    refine pw_aaload (L := 3) dX9_shows_24 (by omega) (by omega) rfl rfl (by decide) (by omega) (by omega) b hbc hok ?_
    refine pw_callV (d' := d - 1) (As := [_]) (ci := 4) dX9_shows_25 ok_X4_prove kw_972 rfl rfl (Of.o (by assumption)) (by omega) rfl (Nat.le_of_ble_eq_true rfl) (k_prove (d - 1) (by omega) n ok mem hN b hC mem c (aAt mem c) hI hS hV hOk.2.1 hM hG.2.2.2.2.2.1.1 hRI.2.2.2.2.2.2.2.2 (by omega)) (Nat.le_refl _) (Or.inl rfl) (fun r ok1 mem1 hq => ?_)
    obtain ⟨rfl, rfl, hf3, hcv, h781, h782, h783⟩ := hq
    rw [← aNum_v mem c 16 (by omega)] at h781 h782 h783 ⊢
    refine pw_if_eq 35 (by decide) dX9_shows_28 (by split <;> omega) (fun c28 => ?_) (fun c28 => ?_)
    · skip
      rw [bz_0] at c28
      refine pw_iconst dX9_shows_35 ?_
      refine pw_callV (d' := d - 1) (As := [_]) (ci := 9) dX9_shows_36 ok_X9_answered kw_423 rfl rfl (Of.o (by assumption)) (by omega) rfl (Nat.le_of_ble_eq_true rfl) (p_answered (d - 1) (by omega) n ok _ hP9 _) (Nat.le_refl _) (Or.inl rfl) (fun r ok1 mem1 hq => ?_)
      obtain ⟨rfl, rfl, rfl⟩ := hq
      refine pw_iret dX9_shows_39 rfl rfl ?_
      have e9 := rShows_in (m := mem) c4
      have hR2 := RI_shows hRI c
      rw [e9] at hR2
      rw [e9]
      refine ⟨?_, rfl, RE_w (fun a a1 a2 => hf3 a (by omega) (by omega) (by omega)) _, ?_⟩
      · refine congrArg (fun y => some (vi y)) ?_
        show _ = if (rOver mem c (aNum mem c 16)).1 = -1 then (1 : Int) else 0
        first | rw [if_pos c28] | rw [if_neg c28]
      · have hfL : ∀ a, a ≠ 88 → wr (rLook mem (rOver mem c (aNum mem c 16)).1 (rOver mem c (aNum mem c 16)).2.1 (rOver mem c (aNum mem c 16)).2.2) 88 3 0 a = mem a := fun a q => by unfold rLook; rw [wr_a _ _ _ q, wr_a _ _ _ q, wr_a _ _ _ q, wr_a _ _ _ q]
        have hfK : ∀ k, k ≠ 50 → k ≠ 51 → k ≠ 52 → wr (rLook mem (rOver mem c (aNum mem c 16)).1 (rOver mem c (aNum mem c 16)).2.1 (rOver mem c (aNum mem c 16)).2.2) 88 3 0 88 k = mem 88 k := fun k k1 k2 k3 => by
          by_cases q : k = 3
          · subst q; rw [wr_s, hq0]
          · unfold rLook; rw [wr_k _ _ _ _ q, wr_k _ _ _ _ k3, wr_k _ _ _ _ k2, wr_k _ _ _ _ k1]
        have hL5 : wr (rLook mem (rOver mem c (aNum mem c 16)).1 (rOver mem c (aNum mem c 16)).2.1 (rOver mem c (aNum mem c 16)).2.2) 88 3 0 88 50 = (rOver mem c (aNum mem c 16)).1 ∧ wr (rLook mem (rOver mem c (aNum mem c 16)).1 (rOver mem c (aNum mem c 16)).2.1 (rOver mem c (aNum mem c 16)).2.2) 88 3 0 88 51 = (rOver mem c (aNum mem c 16)).2.1 ∧ wr (rLook mem (rOver mem c (aNum mem c 16)).1 (rOver mem c (aNum mem c 16)).2.1 (rOver mem c (aNum mem c 16)).2.2) 88 3 0 88 52 = (rOver mem c (aNum mem c 16)).2.2 := by
          unfold rLook; refine ⟨?_, ?_, ?_⟩ <;> simp (disch := omega) only [wr_k, wr_s]
        generalize wr (rLook mem (rOver mem c (aNum mem c 16)).1 (rOver mem c (aNum mem c 16)).2.1 (rOver mem c (aNum mem c 16)).2.2) 88 3 0 = A2 at hfL hfK hL5 ⊢
        have hI2 : IOk A2 := IOk_c hIO (fun a a1 a2 => hfL a (by omega))
        have hK2 : KOk A2 := KOk_c hKO (hfL _ (by omega)) (hfL _ (by omega))
        refine RG_st ?_ hI2 hK2 0
        have hg1 : RG mem (fun a => if a = 78 then mem 78 else mem1 a) n := by
          refine RG_f2 hG hIO hKO c4 hbc (fun a a1 a2 => ?_) ?_
          · by_cases q : a = 78
            · rw [if_pos q, q]
            · rw [if_neg q]; exact hf3 a a1 a2 q
          · exact hcv.m (if_neg (by omega))
        have e1 : mem1 1 = mem 1 := hf3 1 (by omega) (by omega) (by omega)
        refine RG_plain hg1 hIO hKO (fun a a1 a2 => hfL a (by omega)) (fun a a1 a2 => hfL a (by omega)) (fun k hk => hfK k (by omega) (by omega) (by omega)) (fun a ha => by show _ = if a = 78 then mem 78 else mem1 a; rw [if_neg (by omega)]) rfl (RTy_c hg1.2.2.2.1 (hfK _ (by omega) (by omega) (by omega)) (hfL _ (by omega)) rfl rfl) (RAt_c hg1.2.2.2.2.1 (hfK _ (by omega) (by omega) (by omega)) (hfK _ (by omega) (by omega) (by omega)) (hfK _ (by omega) (by omega) (by omega)) (hfK _ (by omega) (by omega) (by omega)) rfl rfl rfl rfl) ⟨fun j j1 j2 => ?_, ?_, ?_, ?_⟩ (REx_c hg1.2.2.2.2.2.2.1 (hfK _ (by omega) (by omega) (by omega)) (hfL _ (by omega)) rfl rfl)
        · rw [hf3 79 (by omega) (by omega) (by omega), hfL 119 (by omega)]; exact hG.2.2.2.2.2.1.1 j j1 j2
        · rw [hL5.1]; exact h781
        · rw [hL5.2.1]; exact h782
        · rw [hL5.2.2]; exact h783
    · skip
      rw [bz_n] at c28
      refine pw_iconst dX9_shows_31 ?_
      refine pw_goto 36 (by decide) dX9_shows_32 ?_
      refine pw_callV (d' := d - 1) (As := [_]) (ci := 9) dX9_shows_36 ok_X9_answered kw_423 rfl rfl (Of.o (by assumption)) (by omega) rfl (Nat.le_of_ble_eq_true rfl) (p_answered (d - 1) (by omega) n ok _ hP9 _) (Nat.le_refl _) (Or.inl rfl) (fun r ok1 mem1 hq => ?_)
      obtain ⟨rfl, rfl, rfl⟩ := hq
      refine pw_iret dX9_shows_39 rfl rfl ?_
      have e9 := rShows_in (m := mem) c4
      have hR2 := RI_shows hRI c
      rw [e9] at hR2
      rw [e9]
      refine ⟨?_, rfl, RE_w (fun a a1 a2 => hf3 a (by omega) (by omega) (by omega)) _, ?_⟩
      · refine congrArg (fun y => some (vi y)) ?_
        show _ = if (rOver mem c (aNum mem c 16)).1 = -1 then (1 : Int) else 0
        first | rw [if_pos c28] | rw [if_neg c28]
      · have hfL : ∀ a, a ≠ 88 → wr (rLook mem (rOver mem c (aNum mem c 16)).1 (rOver mem c (aNum mem c 16)).2.1 (rOver mem c (aNum mem c 16)).2.2) 88 3 0 a = mem a := fun a q => by unfold rLook; rw [wr_a _ _ _ q, wr_a _ _ _ q, wr_a _ _ _ q, wr_a _ _ _ q]
        have hfK : ∀ k, k ≠ 50 → k ≠ 51 → k ≠ 52 → wr (rLook mem (rOver mem c (aNum mem c 16)).1 (rOver mem c (aNum mem c 16)).2.1 (rOver mem c (aNum mem c 16)).2.2) 88 3 0 88 k = mem 88 k := fun k k1 k2 k3 => by
          by_cases q : k = 3
          · subst q; rw [wr_s, hq0]
          · unfold rLook; rw [wr_k _ _ _ _ q, wr_k _ _ _ _ k3, wr_k _ _ _ _ k2, wr_k _ _ _ _ k1]
        have hL5 : wr (rLook mem (rOver mem c (aNum mem c 16)).1 (rOver mem c (aNum mem c 16)).2.1 (rOver mem c (aNum mem c 16)).2.2) 88 3 0 88 50 = (rOver mem c (aNum mem c 16)).1 ∧ wr (rLook mem (rOver mem c (aNum mem c 16)).1 (rOver mem c (aNum mem c 16)).2.1 (rOver mem c (aNum mem c 16)).2.2) 88 3 0 88 51 = (rOver mem c (aNum mem c 16)).2.1 ∧ wr (rLook mem (rOver mem c (aNum mem c 16)).1 (rOver mem c (aNum mem c 16)).2.1 (rOver mem c (aNum mem c 16)).2.2) 88 3 0 88 52 = (rOver mem c (aNum mem c 16)).2.2 := by
          unfold rLook; refine ⟨?_, ?_, ?_⟩ <;> simp (disch := omega) only [wr_k, wr_s]
        generalize wr (rLook mem (rOver mem c (aNum mem c 16)).1 (rOver mem c (aNum mem c 16)).2.1 (rOver mem c (aNum mem c 16)).2.2) 88 3 0 = A2 at hfL hfK hL5 ⊢
        have hI2 : IOk A2 := IOk_c hIO (fun a a1 a2 => hfL a (by omega))
        have hK2 : KOk A2 := KOk_c hKO (hfL _ (by omega)) (hfL _ (by omega))
        refine RG_st ?_ hI2 hK2 0
        have hg1 : RG mem (fun a => if a = 78 then mem 78 else mem1 a) n := by
          refine RG_f2 hG hIO hKO c4 hbc (fun a a1 a2 => ?_) ?_
          · by_cases q : a = 78
            · rw [if_pos q, q]
            · rw [if_neg q]; exact hf3 a a1 a2 q
          · exact hcv.m (if_neg (by omega))
        have e1 : mem1 1 = mem 1 := hf3 1 (by omega) (by omega) (by omega)
        refine RG_plain hg1 hIO hKO (fun a a1 a2 => hfL a (by omega)) (fun a a1 a2 => hfL a (by omega)) (fun k hk => hfK k (by omega) (by omega) (by omega)) (fun a ha => by show _ = if a = 78 then mem 78 else mem1 a; rw [if_neg (by omega)]) rfl (RTy_c hg1.2.2.2.1 (hfK _ (by omega) (by omega) (by omega)) (hfL _ (by omega)) rfl rfl) (RAt_c hg1.2.2.2.2.1 (hfK _ (by omega) (by omega) (by omega)) (hfK _ (by omega) (by omega) (by omega)) (hfK _ (by omega) (by omega) (by omega)) (hfK _ (by omega) (by omega) (by omega)) rfl rfl rfl rfl) ⟨fun j j1 j2 => ?_, ?_, ?_, ?_⟩ (REx_c hg1.2.2.2.2.2.2.1 (hfK _ (by omega) (by omega) (by omega)) (hfL _ (by omega)) rfl rfl)
        · rw [hf3 79 (by omega) (by omega) (by omega), hfL 119 (by omega)]; exact hG.2.2.2.2.2.1.1 j j1 j2
        · rw [hL5.1]; exact h781
        · rw [hL5.2.1]; exact h782
        · rw [hL5.2.2]; exact h783
  · skip
    rw [bz_0] at c4
    refine pw_aload_n 0 rfl dX9_shows_7 rfl ?_
    refine pw_bipush dX9_shows_8 (by decide) ?_
    refine pw_callV (d' := d - 1) (As := [_]) (ci := 9) dX9_shows_10 ok_X9_refused kw_406 rfl rfl (Of.o (by assumption)) (by omega) rfl (Nat.le_of_ble_eq_true rfl) (p_refused (d - 1) (by omega) n ok _ hP9 _ (by omega)) (Nat.le_refl _) (Or.inl rfl) (fun r ok1 mem1 hq => ?_)
    obtain ⟨rfl, rfl, rfl⟩ := hq
    refine pw_iret dX9_shows_13 rfl rfl ?_
    have e9 : rShows mem c = rRef mem (-2) := by
      unfold rShows; (repeat' split) <;> first | rfl | (exfalso; omega) | contradiction
    rw [e9]; exact ⟨rfl, rfl, RE1 _ _, RG_st hG hIO hKO _⟩
