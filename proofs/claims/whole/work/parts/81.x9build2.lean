/-! ===== truths, clear, copy ===== -/
theorem trS_1 {A : pM} {c k i T : Int} (hT : T = 0 ∨ T = 1) (hi : 0 ≤ i) : trS A (wr A 98 (6 * (40 * c + k) + i) T) c k i 1 T ∨ 5 < i := by
  by_cases h5 : 5 < i
  · exact Or.inr h5
  refine Or.inl ⟨fun a q => wr_a _ _ _ q, fun j hj => wr_k _ _ _ _ (by omega), fun j hj => ?_⟩
  by_cases q : (j : Int) = i
  · rw [if_pos (by omega), show j - i.toNat = 0 by omega, show 6 * (40 * c + k) + (j : Int) = 6 * (40 * c + k) + i by omega, wr_s]
    rcases hT with e | e
    · subst e; rw [tb_0]; exact ⟨fun z => absurd z (by decide), fun z => absurd z (by decide)⟩
    · subst e; rw [tb_1]; exact ⟨fun _ => rfl, fun _ => rfl⟩
  · rw [if_neg (by omega), wr_k _ _ _ _ (by omega)]
theorem cIn_tr {A : pM} {c k i T : Int} (h : cIn A c) (hT : T = 0 ∨ T = 1) : cIn (wr A 98 (6 * (40 * c + k) + i) T) c := cIn_98 h (fun a _ _ a3 => wr_a _ _ _ a3) (fun k' k1 k2 i' i1 i2 => by
  by_cases q : 6 * (40 * c + k') + i' = 6 * (40 * c + k) + i
  · rw [q, wr_s]; exact hT
  · rw [wr_k _ _ _ _ q]; exact (h.2.2.1.2 k' k1 k2).2.2.2 i' i1 i2)
theorem trS_cp {A m : pM} {c a i t j k T : Int} (ht : ∀ u : Nat, u ≤ 5 → (tb T u = true ↔ A 98 (6 * (40 * c + t) + u) = 1)) (hi : 0 ≤ i) (hj : 0 ≤ j) (hk : 0 ≤ k) (hik : i + k ≤ 6) (hjk : j + k ≤ 6) : trS A (bcM A 98 (6 * (40 * c + a) + i) k (fun u => A 98 (6 * (40 * c + t) + j + u))) c a i k (iShr T j) := by
  refine ⟨fun q q1 => bcM_a _ _ _ _ q1, fun q hq => by unfold bcM; rw [if_neg (by omega)], fun u hu => ?_⟩
  by_cases q : i ≤ (u : Int) ∧ (u : Int) < i + k
  · rw [if_pos q, tb_shr T j (by omega) _ (by omega), ht _ (by omega)]
    unfold bcM; rw [if_pos ⟨rfl, by omega, by omega⟩]
    show A 98 (6 * (40 * c + t) + j + (6 * (40 * c + a) + (u : Int) - (6 * (40 * c + a) + i))) = 1 ↔ _
    rw [show 6 * (40 * c + t) + j + (6 * (40 * c + a) + (u : Int) - (6 * (40 * c + a) + i)) = 6 * (40 * c + t) + ((u - i.toNat + j.toNat : Nat) : Int) by omega]
  · rw [if_neg q]; unfold bcM; rw [if_neg (by omega)]
theorem cIn_cp {A : pM} {c a i t j k : Int} (h : cIn A c) (ht : 0 ≤ t ∧ t < A 94 c) (hi : 0 ≤ i) (hj : 0 ≤ j) (hk : 0 ≤ k) (hik : i + k ≤ 6) (hjk : j + k ≤ 6) : cIn (bcM A 98 (6 * (40 * c + a) + i) k (fun u => A 98 (6 * (40 * c + t) + j + u))) c := cIn_98 h (fun q _ _ q3 => bcM_a _ _ _ _ q3) (fun k' k1 k2 i' i1 i2 => by
  unfold bcM
  split
  · rename_i z
    show A 98 (6 * (40 * c + t) + j + (6 * (40 * c + k') + i' - (6 * (40 * c + a) + i))) = 0 ∨ A 98 (6 * (40 * c + t) + j + (6 * (40 * c + k') + i' - (6 * (40 * c + a) + i))) = 1
    rw [show 6 * (40 * c + t) + j + (6 * (40 * c + k') + i' - (6 * (40 * c + a) + i)) = 6 * (40 * c + t) + (j + (6 * (40 * c + k') + i' - (6 * (40 * c + a) + i))) by omega]
    exact (h.2.2.1.2 t ht.1 ht.2).2.2.2 _ (by omega) (by omega)
  · exact (h.2.2.1.2 k' k1 k2).2.2.2 i' i1 i2)
theorem cIn_w {A A2 : pM} {c : Int} (h : cIn A c) (e : ∀ a, a ≠ 104 → A2 a = A a) : cIn A2 c := cIn_c (fun a a1 a2 => e a (by omega)) h
set_option maxHeartbeats 4000000 in
set_option maxRecDepth 100000 in
theorem p_truth (d : Nat) (hd : 4 ≤ d) (n : Nat) (ok : pO) (mem : pM) (hU : ClUp n ok) (hG : RG mem mem n) (hRI : RI mem) (c k i v : Int) (hc : -2147483648 ≤ c ∧ c ≤ 2147483647) (hk : -2147483648 ≤ k ∧ k ≤ 2147483647) (hi : -2147483648 ≤ i ∧ i ≤ 2147483647) (hv : -2147483648 ≤ v ∧ v ≤ 2147483647) (hv01 : v = 0 ∨ v = 1) : PM mi_X9_truth d [vr 1, vi c, vi k, vi i, vi v] n ok mem n (fun r ok' mem' => r = some (vi (rTruth mem c k i v).1) ∧ ok = ok' ∧ RE mem mem' ∧ RG (rTruth mem c k i v).2 mem' n) := by
  obtain ⟨hP9, hN, ⟨hn4, ho0, ho1, ho2⟩, hCh, hDr, hM, ⟨hW80, hW82, hW84⟩, q86, q87, hSU, hn133⟩ := id hU
  obtain ⟨hN5, hN3⟩ := id hN
  obtain ⟨hM4, hM9⟩ := id hM
  obtain ⟨hW8, hWA, -, -⟩ := id hW80
  have hIO := hRI.1
  have hKO := hRI.2.1
  have ht9 := hRI.2.2.1
  have hq0 := hRI.2.2.2.1
  have hty := hRI.2.2.2.2.1
  have hNR := hG.1
  have hNR1 : mem 2 1 = mem 88 19 := hNR.1
  refine PM.of (by decide) (by decide) (Nat.le_refl _) (Nat.le_of_ble_eq_true rfl) ?_
  refine pw_aload_n 0 rfl dX9_truth_0 rfl ?_
  refine pw_iload_n 1 rfl dX9_truth_1 rfl ?_
  refine pw_iload_n 2 rfl dX9_truth_2 rfl ?_
  refine pw_callV (d' := d - 1) (As := [_, _]) (ci := 9) dX9_truth_3 ok_X9_isCondition kw_477 rfl rfl (Of.o (by assumption)) (by omega) rfl (Nat.le_of_ble_eq_true rfl) (p_isCondition (d - 1) (by omega) n ok _ hU hG hRI _ _ (by omega) (by omega)) (Nat.le_refl _) (Or.inl rfl) (fun r ok1 mem1 hq => ?_)
  obtain ⟨rfl, rfl, rfl⟩ := hq
  refine pw_if_ne 16 (by decide) dX9_truth_6 (by split <;> omega) (fun c6 => ?_) (fun c6 => ?_)
  · skip
    rw [ne_eq, bz_n] at c6
    obtain ⟨b, hbc⟩ : ∃ b : Nat, (b : Int) = 5 + 18 * c := ⟨(5 + 18 * c).toNat, by omega⟩
    have hC : ChUp n ok b := hCh b (by omega)
    have hok : ok 4 (c).toNat = true := by rcases (show c = 0 ∨ c = 1 ∨ c = 2 by omega) with e | e | e <;> (rw [e]; assumption)
    obtain ⟨hS, hV, hJ, hKR⟩ := hG.2.1 c b (by omega) (by omega) hbc
    have hI := hIO c (by omega) (by omega)
    have hOk := hI.ok
    obtain ⟨hR, hD, hSo⟩ := id hS
    obtain ⟨hC0, ⟨hC1, hC2, hC3, hC4, hC5, hC6, hC7⟩, hC8, ⟨hC9, hC10, hC11, hC12, hC13, hC14, hC15⟩, hC16, hC17, hb5, hb59⟩ := id hC
    have hcr := hR.2.2.2 k (by omega) (by omega)
    have hk9 := hI.2.2.1.2 k (by omega) (by omega)
    have hnc := hI.2.2.1.1
    refine pw_aload_n 0 rfl dX9_truth_16 rfl ?_
    refine pw_gR 1 4 dX9_truth_17 cOk9 (by assumption) (by decide) kw_348 (by decide) rfl ?_
    refine pw_iload_n 1 rfl dX9_truth_20 rfl ?_
    refine pw_aaload (L := 3) dX9_truth_21 (by omega) (by omega) rfl rfl (by decide) (by omega) (by omega) b hbc hok ?_
    refine pw_astore dX9_truth_22 (by decide) ?_
    refine pw_aload dX9_truth_24 rfl ?_
    refine pw_gR 8 (b + 8) dX9_truth_26 cOk0 (by assumption) (by decide) kw_248 (by decide) rfl ?_
    refine pw_iload_n 2 rfl dX9_truth_29 rfl ?_
    refine pw_iload_n 3 rfl dX9_truth_30 rfl ?_
    refine pw_iconst dX9_truth_31 ?_
    refine pw_callV (d' := d - 1) (As := [_, _, _]) (ci := 1) dX9_truth_32 ok_X1_findingOfTruths kw_481 rfl rfl (Of.o (by assumption)) (by omega) rfl (Nat.le_of_ble_eq_true rfl) (q_finding (d - 1) (by omega) n ok mem b hC k i 1 (by omega) (by omega) (by omega) (by rw [hcr.2.2.1]; omega)) (Nat.le_refl _) (Or.inl rfl) (fun r ok1 mem1 hq => ?_)
    obtain ⟨rfl, rfl, rfl⟩ := hq
    rw [hcr.2.2.1]
    have hft : (mem 97 (40 * c + k) = -1 ∧ ftF (mem 97 (40 * c + k)) i 1 = 1) ∨ (mem 97 (40 * c + k) ≠ -1 ∧ ¬ (0 ≤ i ∧ i < mem 97 (40 * c + k)) ∧ ftF (mem 97 (40 * c + k)) i 1 = 2) ∨ (mem 97 (40 * c + k) ≠ -1 ∧ (0 ≤ i ∧ i < mem 97 (40 * c + k)) ∧ ftF (mem 97 (40 * c + k)) i 1 = 0) := by
      unfold ftF; (repeat' split) <;> omega
    refine pw_istore dX9_truth_35 (by decide) ?_
    refine pw_iload dX9_truth_37 rfl ?_
    refine pw_if_eq 56 (by decide) dX9_truth_39 (by omega) (fun c39 => ?_) (fun c39 => ?_)
    · skip
      refine pw_aload dX9_truth_56 rfl ?_
      refine pw_gR 8 (b + 8) dX9_truth_58 cOk0 (by assumption) (by decide) kw_248 (by decide) rfl ?_
      refine pw_iload_n 2 rfl dX9_truth_61 rfl ?_
      refine pw_iload_n 3 rfl dX9_truth_62 rfl ?_
      refine pw_callV (d' := d - 1) (As := [_, _]) (ci := 1) dX9_truth_63 ok_X1_truthAt kw_485 rfl rfl (Of.o (by assumption)) (by omega) rfl (Nat.le_of_ble_eq_true rfl) (q_truthAt (d - 1) (by omega) n ok mem b hC k i (by omega) (by omega)) (Nat.le_refl _) (Or.inl rfl) (fun r ok1 mem1 hq => ?_)
      obtain ⟨rfl, rfl, rfl⟩ := hq
      have hbt := hcr.2.2.2 i.toNat (by omega)
      rw [Int.toNat_of_nonneg (by omega)] at hbt
      have ht01 := hk9.2.2.2 i (by omega) (by omega)
      have hval : (if tb (mem (b + 12) k) i.toNat = true then (1 : Int) else 0) = mem 98 (6 * (40 * c + k) + i) := by
        by_cases q : mem 98 (6 * (40 * c + k) + i) = 1
        · rw [if_pos (hbt.mpr q), q]
        · rw [if_neg (fun z => q (hbt.mp z))]; omega
      rw [hval]
      refine pw_istore dX9_truth_66 (by decide) ?_
      refine pw_aload dX9_truth_68 rfl ?_
      refine pw_iload_n 2 rfl dX9_truth_70 rfl ?_
      refine pw_iload_n 3 rfl dX9_truth_71 rfl ?_
      refine pw_iconst dX9_truth_72 ?_
      refine pw_iload dX9_truth_73 rfl ?_
      refine pw_if_eq 82 (by decide) dX9_truth_75 (by omega) (fun c75 => ?_) (fun c75 => ?_)
      · skip
        refine pw_iconst dX9_truth_82 ?_
        refine pw_callV (d' := d - 1) (As := [_, _, _, _]) (ci := 0) dX9_truth_83 ok_X0_setTruths kw_486 rfl rfl (Of.o (by assumption)) (by omega) rfl (Nat.le_of_ble_eq_true rfl) (h_setTruths (d - 1) (by omega) n ok mem b hC mem c (aAt mem c) hR hSo hV hI (wr mem 98 (6 * (40 * c + k) + i) 0) k i 1 0 (by omega) (by omega) (by omega) (by omega) (by rcases trS_1 (A := mem) (c := c) (k := k) (i := i) (T := 0) (by omega) (by omega) with z | z; exact z; exfalso; omega) (cIn_tr hI (by omega))) (Nat.le_refl _) (Or.inl rfl) (fun r ok1 mem1 hq => ?_)
        obtain ⟨rfl, rfl, hcm, hS1, hV1⟩ := hq
        have h10 : mem1 1 10 = 0 ∨ (mem1 1 10 = 123 ∧ n = 133) := by rw [hcm.1 1 (by omega)]; exact RG_10 hG
        refine pw_aload_n 0 rfl dX9_truth_86 rfl ?_
        refine pw_iload_n 1 rfl dX9_truth_87 rfl ?_
        refine pw_iload dX9_truth_88 rfl ?_
        refine pw_callV (d' := d - 1) (As := [_, _]) (ci := 9) dX9_truth_90 ok_X9_built kw_415 rfl rfl (Of.o (by assumption)) (by omega) rfl (Nat.le_of_ble_eq_true rfl) (p_built (d - 1) (by omega) n ok mem1 hU c (mem 98 (6 * (40 * c + k) + i)) (by omega) b hbc h10) (Nat.le_refl _) (Or.inl rfl) (fun r ok1 mem2 hq => ?_)
        obtain ⟨rfl, rfl, rfl⟩ := hq
        refine pw_iret dX9_truth_93 rfl rfl ?_
        have hB : BdX mem (wr mem 98 (6 * (40 * c + k) + i) 0) c := Bd_98 (cIn_tr hI (by omega)) (fun a a1 _ => wr_a _ _ _ a1) (fun j hj => wr_k _ _ _ _ (by omega))
        have e9 : rTruth mem c k i v = rSay (rChg (wr mem 98 (6 * (40 * c + k) + i) 0) c) (mem 98 (6 * (40 * c + k) + i)) := by
          unfold rTruth; (repeat' split) <;> first | rfl | (exfalso; omega) | contradiction
        rw [e9]
        have hR2 := RI_bd hRI (by omega) hB
        have hJ1 : mem1 b 13 = (wr mem 98 (6 * (40 * c + k) + i) 0) 99 c ∧ mem1 b 14 = (wr mem 98 (6 * (40 * c + k) + i) 0) 100 c := ⟨((hcm.2 13 (by omega) (by omega) (by omega)).trans hJ.1).trans (Eq.symm (congrFun (wr_a _ _ _ (by omega)) _)), ((hcm.2 14 (by omega) (by omega) (by omega)).trans hJ.2).trans (Eq.symm (congrFun (wr_a _ _ _ (by omega)) _))⟩
        refine ⟨congrArg (fun z => some (vi z)) (rfl), rfl, fun a a1 a2 => ?_, RG_st (RG_bd hG hRI (by omega) hbc hB hS1 (CV_t hV1 (fun s _ _ => ⟨rfl, fun _ => congrFun (wr_a _ _ _ (by omega)) _⟩)) hJ1 hcm.1) hR2.1 hR2.2.1 0⟩
        rw [wr_a _ _ _ (by omega), bltM_a _ _ _ _ (by omega) (by omega)]; exact hcm.1 a (by omega)
      · skip
        refine pw_iconst dX9_truth_78 ?_
        refine pw_goto 83 (by decide) dX9_truth_79 ?_
        refine pw_callV (d' := d - 1) (As := [_, _, _, _]) (ci := 0) dX9_truth_83 ok_X0_setTruths kw_486 rfl rfl (Of.o (by assumption)) (by omega) rfl (Nat.le_of_ble_eq_true rfl) (h_setTruths (d - 1) (by omega) n ok mem b hC mem c (aAt mem c) hR hSo hV hI (wr mem 98 (6 * (40 * c + k) + i) 1) k i 1 1 (by omega) (by omega) (by omega) (by omega) (by rcases trS_1 (A := mem) (c := c) (k := k) (i := i) (T := 1) (by omega) (by omega) with z | z; exact z; exfalso; omega) (cIn_tr hI (by omega))) (Nat.le_refl _) (Or.inl rfl) (fun r ok1 mem1 hq => ?_)
        obtain ⟨rfl, rfl, hcm, hS1, hV1⟩ := hq
        have h10 : mem1 1 10 = 0 ∨ (mem1 1 10 = 123 ∧ n = 133) := by rw [hcm.1 1 (by omega)]; exact RG_10 hG
        refine pw_aload_n 0 rfl dX9_truth_86 rfl ?_
        refine pw_iload_n 1 rfl dX9_truth_87 rfl ?_
        refine pw_iload dX9_truth_88 rfl ?_
        refine pw_callV (d' := d - 1) (As := [_, _]) (ci := 9) dX9_truth_90 ok_X9_built kw_415 rfl rfl (Of.o (by assumption)) (by omega) rfl (Nat.le_of_ble_eq_true rfl) (p_built (d - 1) (by omega) n ok mem1 hU c (mem 98 (6 * (40 * c + k) + i)) (by omega) b hbc h10) (Nat.le_refl _) (Or.inl rfl) (fun r ok1 mem2 hq => ?_)
        obtain ⟨rfl, rfl, rfl⟩ := hq
        refine pw_iret dX9_truth_93 rfl rfl ?_
        have hB : BdX mem (wr mem 98 (6 * (40 * c + k) + i) 1) c := Bd_98 (cIn_tr hI (by omega)) (fun a a1 _ => wr_a _ _ _ a1) (fun j hj => wr_k _ _ _ _ (by omega))
        have e9 : rTruth mem c k i v = rSay (rChg (wr mem 98 (6 * (40 * c + k) + i) 1) c) (mem 98 (6 * (40 * c + k) + i)) := by
          unfold rTruth; (repeat' split) <;> first | rfl | (exfalso; omega) | contradiction
        rw [e9]
        have hR2 := RI_bd hRI (by omega) hB
        have hJ1 : mem1 b 13 = (wr mem 98 (6 * (40 * c + k) + i) 1) 99 c ∧ mem1 b 14 = (wr mem 98 (6 * (40 * c + k) + i) 1) 100 c := ⟨((hcm.2 13 (by omega) (by omega) (by omega)).trans hJ.1).trans (Eq.symm (congrFun (wr_a _ _ _ (by omega)) _)), ((hcm.2 14 (by omega) (by omega) (by omega)).trans hJ.2).trans (Eq.symm (congrFun (wr_a _ _ _ (by omega)) _))⟩
        refine ⟨congrArg (fun z => some (vi z)) (rfl), rfl, fun a a1 a2 => ?_, RG_st (RG_bd hG hRI (by omega) hbc hB hS1 (CV_t hV1 (fun s _ _ => ⟨rfl, fun _ => congrFun (wr_a _ _ _ (by omega)) _⟩)) hJ1 hcm.1) hR2.1 hR2.2.1 0⟩
        rw [wr_a _ _ _ (by omega), bltM_a _ _ _ _ (by omega) (by omega)]; exact hcm.1 a (by omega)
    · skip
      refine pw_aload_n 0 rfl dX9_truth_42 rfl ?_
      refine pw_aload_n 0 rfl dX9_truth_43 rfl ?_
      refine pw_gR 0 2 dX9_truth_44 cOk9 (by assumption) (by decide) kw_347 (by decide) rfl ?_
      refine pw_iload dX9_truth_47 rfl ?_
      refine pw_callV (d' := d - 1) (As := [_]) (ci := 5) dX9_truth_49 ok_X5_met kw_410 rfl rfl (Of.o (by assumption)) (by omega) rfl (Nat.le_of_ble_eq_true rfl) (n_met (d - 1) (by omega) n ok mem hN _ (by omega)) (Nat.le_refl _) (Or.inl rfl) (fun r ok1 mem1 hq => ?_)
      obtain ⟨rfl, rfl, rfl⟩ := hq
      refine pw_callV (d' := d - 1) (As := [_]) (ci := 9) dX9_truth_52 ok_X9_refused kw_406 rfl rfl (Of.o (by assumption)) (by omega) rfl (Nat.le_of_ble_eq_true rfl) (p_refused (d - 1) (by omega) n ok _ hP9 _ (by omega)) (Nat.le_refl _) (Or.inl rfl) (fun r ok1 mem1 hq => ?_)
      obtain ⟨rfl, rfl, rfl⟩ := hq
      refine pw_iret dX9_truth_55 rfl rfl ?_
      have e9 : rTruth mem c k i v = rMet mem (ftF (mem 97 (40 * c + k)) i 1) := by
        rcases hft with z | z | z
        · rw [z.2]; unfold rTruth; (repeat' split) <;> first | rfl | (exfalso; omega) | contradiction
        · rw [z.2.2]; unfold rTruth; (repeat' split) <;> first | rfl | (exfalso; omega) | contradiction
        · exfalso; omega
      rw [e9]; exact ⟨rfl, rfl, RE_met _ _ _, RG_met hG hRI _⟩
  · skip
    rw [bz_0] at c6
    refine pw_aload_n 0 rfl dX9_truth_9 rfl ?_
    refine pw_bipush dX9_truth_10 (by decide) ?_
    refine pw_callV (d' := d - 1) (As := [_]) (ci := 9) dX9_truth_12 ok_X9_refused kw_406 rfl rfl (Of.o (by assumption)) (by omega) rfl (Nat.le_of_ble_eq_true rfl) (p_refused (d - 1) (by omega) n ok _ hP9 _ (by omega)) (Nat.le_refl _) (Or.inl rfl) (fun r ok1 mem1 hq => ?_)
    obtain ⟨rfl, rfl, rfl⟩ := hq
    refine pw_iret dX9_truth_15 rfl rfl ?_
    have e9 : rTruth mem c k i v = rRef mem (-2) := by
      unfold rTruth; (repeat' split) <;> first | rfl | (exfalso; omega) | contradiction
    rw [e9]; exact ⟨rfl, rfl, RE1 _ _, RG_st hG hIO hKO _⟩
set_option maxHeartbeats 4000000 in
set_option maxRecDepth 100000 in
theorem p_copyTruths (d : Nat) (hd : 4 ≤ d) (n : Nat) (ok : pO) (mem : pM) (hU : ClUp n ok) (hG : RG mem mem n) (hRI : RI mem) (c a i t j k : Int) (hc : -2147483648 ≤ c ∧ c ≤ 2147483647) (ha : -2147483648 ≤ a ∧ a ≤ 2147483647) (hi : -2147483648 ≤ i ∧ i ≤ 2147483647) (ht : -2147483648 ≤ t ∧ t ≤ 2147483647) (hj : -2147483648 ≤ j ∧ j ≤ 2147483647) (hk : -2147483648 ≤ k ∧ k ≤ 2147483647)  : PM mi_X9_copyTruths d [vr 1, vi c, vi a, vi i, vi t, vi j, vi k] n ok mem n (fun r ok' mem' => r = some (vi (rCpT mem c a i t j k).1) ∧ ok = ok' ∧ RE mem mem' ∧ RG (rCpT mem c a i t j k).2 mem' n) := by
  obtain ⟨hP9, hN, ⟨hn4, ho0, ho1, ho2⟩, hCh, hDr, hM, ⟨hW80, hW82, hW84⟩, q86, q87, hSU, hn133⟩ := id hU
  obtain ⟨hN5, hN3⟩ := id hN
  obtain ⟨hM4, hM9⟩ := id hM
  obtain ⟨hW8, hWA, -, -⟩ := id hW80
  have hIO := hRI.1
  have hKO := hRI.2.1
  have ht9 := hRI.2.2.1
  have hq0 := hRI.2.2.2.1
  have hty := hRI.2.2.2.2.1
  have hNR := hG.1
  have hNR1 : mem 2 1 = mem 88 19 := hNR.1
  refine PM.of (by decide) (by decide) (Nat.le_refl _) (Nat.le_of_ble_eq_true rfl) ?_
  refine pw_aload_n 0 rfl dX9_copyTruths_0 rfl ?_
  refine pw_iload_n 1 rfl dX9_copyTruths_1 rfl ?_
  refine pw_iload_n 2 rfl dX9_copyTruths_2 rfl ?_
  refine pw_callV (d' := d - 1) (As := [_, _]) (ci := 9) dX9_copyTruths_3 ok_X9_isCondition kw_477 rfl rfl (Of.o (by assumption)) (by omega) rfl (Nat.le_of_ble_eq_true rfl) (p_isCondition (d - 1) (by omega) n ok _ hU hG hRI _ _ (by omega) (by omega)) (Nat.le_refl _) (Or.inl rfl) (fun r ok1 mem1 hq => ?_)
  obtain ⟨rfl, rfl, rfl⟩ := hq
  refine pw_if_eq 19 (by decide) dX9_copyTruths_6 (by split <;> omega) (fun c6 => ?_) (fun c6 => ?_)
  · skip
    rw [bz_0] at c6
    refine pw_aload_n 0 rfl dX9_copyTruths_19 rfl ?_
    refine pw_bipush dX9_copyTruths_20 (by decide) ?_
    refine pw_callV (d' := d - 1) (As := [_]) (ci := 9) dX9_copyTruths_22 ok_X9_refused kw_406 rfl rfl (Of.o (by assumption)) (by omega) rfl (Nat.le_of_ble_eq_true rfl) (p_refused (d - 1) (by omega) n ok _ hP9 _ (by omega)) (Nat.le_refl _) (Or.inl rfl) (fun r ok1 mem1 hq => ?_)
    obtain ⟨rfl, rfl, rfl⟩ := hq
    refine pw_iret dX9_copyTruths_25 rfl rfl ?_
    have e9 : rCpT mem c a i t j k = rRef mem (-2) := by
      unfold rCpT; (repeat' split) <;> first | rfl | (exfalso; omega) | contradiction
    rw [e9]; exact ⟨rfl, rfl, RE1 _ _, RG_st hG hIO hKO _⟩
  · skip
    rw [bz_n] at c6
    refine pw_aload_n 0 rfl dX9_copyTruths_9 rfl ?_
    refine pw_iload_n 1 rfl dX9_copyTruths_10 rfl ?_
    refine pw_iload dX9_copyTruths_11 rfl ?_
    refine pw_callV (d' := d - 1) (As := [_, _]) (ci := 9) dX9_copyTruths_13 ok_X9_isCondition kw_477 rfl rfl (Of.o (by assumption)) (by omega) rfl (Nat.le_of_ble_eq_true rfl) (p_isCondition (d - 1) (by omega) n ok _ hU hG hRI _ _ (by omega) (by omega)) (Nat.le_refl _) (Or.inl rfl) (fun r ok1 mem1 hq => ?_)
    obtain ⟨rfl, rfl, rfl⟩ := hq
    refine pw_if_ne 26 (by decide) dX9_copyTruths_16 (by split <;> omega) (fun c16 => ?_) (fun c16 => ?_)
    · skip
      rw [ne_eq, bz_n] at c16
      obtain ⟨b, hbc⟩ : ∃ b : Nat, (b : Int) = 5 + 18 * c := ⟨(5 + 18 * c).toNat, by omega⟩
      have hC : ChUp n ok b := hCh b (by omega)
      have hok : ok 4 (c).toNat = true := by rcases (show c = 0 ∨ c = 1 ∨ c = 2 by omega) with e | e | e <;> (rw [e]; assumption)
      obtain ⟨hS, hV, hJ, hKR⟩ := hG.2.1 c b (by omega) (by omega) hbc
      have hI := hIO c (by omega) (by omega)
      have hOk := hI.ok
      obtain ⟨hR, hD, hSo⟩ := id hS
      obtain ⟨hC0, ⟨hC1, hC2, hC3, hC4, hC5, hC6, hC7⟩, hC8, ⟨hC9, hC10, hC11, hC12, hC13, hC14, hC15⟩, hC16, hC17, hb5, hb59⟩ := id hC
      have hca := hR.2.2.2 a (by omega) (by omega)
      have hct := hR.2.2.2 t (by omega) (by omega)
      have hka := hI.2.2.1.2 a (by omega) (by omega)
      have hkt := hI.2.2.1.2 t (by omega) (by omega)
      have hnc := hI.2.2.1.1
      refine pw_aload_n 0 rfl dX9_copyTruths_26 rfl ?_
      refine pw_gR 1 4 dX9_copyTruths_27 cOk9 (by assumption) (by decide) kw_348 (by decide) rfl ?_
      refine pw_iload_n 1 rfl dX9_copyTruths_30 rfl ?_
      refine pw_aaload (L := 3) dX9_copyTruths_31 (by omega) (by omega) rfl rfl (by decide) (by omega) (by omega) b hbc hok ?_
      refine pw_astore dX9_copyTruths_32 (by decide) ?_
      refine pw_aload dX9_copyTruths_34 rfl ?_
      refine pw_gR 8 (b + 8) dX9_copyTruths_36 cOk0 (by assumption) (by decide) kw_248 (by decide) rfl ?_
      refine pw_gR 2 (b + 11) dX9_copyTruths_39 cOk1 (by assumption) (by decide) kw_141 (by decide) rfl ?_
      refine pw_iload_n 2 rfl dX9_copyTruths_42 rfl ?_
      refine pw_iaload dX9_copyTruths_43 (by assumption) (by omega) (by omega) (fun r43 => ?_)
      rw [hca.2.2.1] at r43 ⊢
      refine pw_iconst dX9_copyTruths_44 ?_
      refine pw_icmp_eq 63 (by decide) dX9_copyTruths_45 (by omega) (by omega) (fun c45 => ?_) (fun c45 => ?_)
      · skip
        refine pw_aload_n 0 rfl dX9_copyTruths_63 rfl ?_
        refine pw_aload_n 0 rfl dX9_copyTruths_64 rfl ?_
        refine pw_gR 0 2 dX9_copyTruths_65 cOk9 (by assumption) (by decide) kw_347 (by decide) rfl ?_
        refine pw_iconst dX9_copyTruths_68 ?_
        refine pw_callV (d' := d - 1) (As := [_]) (ci := 5) dX9_copyTruths_69 ok_X5_met kw_410 rfl rfl (Of.o (by assumption)) (by omega) rfl (Nat.le_of_ble_eq_true rfl) (n_met (d - 1) (by omega) n ok mem hN _ (by omega)) (Nat.le_refl _) (Or.inl rfl) (fun r ok1 mem1 hq => ?_)
        obtain ⟨rfl, rfl, rfl⟩ := hq
        refine pw_callV (d' := d - 1) (As := [_]) (ci := 9) dX9_copyTruths_72 ok_X9_refused kw_406 rfl rfl (Of.o (by assumption)) (by omega) rfl (Nat.le_of_ble_eq_true rfl) (p_refused (d - 1) (by omega) n ok _ hP9 _ (by omega)) (Nat.le_refl _) (Or.inl rfl) (fun r ok1 mem1 hq => ?_)
        obtain ⟨rfl, rfl, rfl⟩ := hq
        refine pw_iret dX9_copyTruths_75 rfl rfl ?_
        have e9 : rCpT mem c a i t j k = rMet mem (1) := by
          unfold rCpT; (repeat' split) <;> first | rfl | (exfalso; omega) | contradiction
        rw [e9]; exact ⟨rfl, rfl, RE_met _ _ _, RG_met hG hRI _⟩
      · skip
        refine pw_aload dX9_copyTruths_48 rfl ?_
        refine pw_gR 8 (b + 8) dX9_copyTruths_50 cOk0 (by assumption) (by decide) kw_248 (by decide) rfl ?_
        refine pw_gR 2 (b + 11) dX9_copyTruths_53 cOk1 (by assumption) (by decide) kw_141 (by decide) rfl ?_
        refine pw_iload dX9_copyTruths_56 rfl ?_
        refine pw_iaload dX9_copyTruths_58 (by assumption) (by omega) (by omega) (fun r58 => ?_)
        rw [hct.2.2.1] at r58 ⊢
        refine pw_iconst dX9_copyTruths_59 ?_
        refine pw_icmp_ne 76 (by decide) dX9_copyTruths_60 (by omega) (by omega) (fun c60 => ?_) (fun c60 => ?_)
        · skip
          refine pw_aload dX9_copyTruths_76 rfl ?_
          refine pw_gR 8 (b + 8) dX9_copyTruths_78 cOk0 (by assumption) (by decide) kw_248 (by decide) rfl ?_
          refine pw_iload_n 2 rfl dX9_copyTruths_81 rfl ?_
          refine pw_iload_n 3 rfl dX9_copyTruths_82 rfl ?_
          refine pw_iload dX9_copyTruths_83 rfl ?_
          refine pw_callV (d' := d - 1) (As := [_, _, _]) (ci := 1) dX9_copyTruths_85 ok_X1_findingOfTruths kw_481 rfl rfl (Of.o (by assumption)) (by omega) rfl (Nat.le_of_ble_eq_true rfl) (q_finding (d - 1) (by omega) n ok mem b hC a i k (by omega) (by omega) (by omega) (by rw [hca.2.2.1]; omega)) (Nat.le_refl _) (Or.inl rfl) (fun r ok1 mem1 hq => ?_)
          obtain ⟨rfl, rfl, rfl⟩ := hq
          rw [hca.2.2.1]
          have hfa : (mem 97 (40 * c + a) < 0 ∧ ftF (mem 97 (40 * c + a)) i k = 1) ∨ ((i < 0 ∨ k < 0 ∨ mem 97 (40 * c + a) < i + k) ∧ ftF (mem 97 (40 * c + a)) i k = 2) ∨ (¬ (i < 0 ∨ k < 0 ∨ mem 97 (40 * c + a) < i + k) ∧ ftF (mem 97 (40 * c + a)) i k = 0) := by
            unfold ftF; (repeat' split) <;> omega
          refine pw_if_ne 108 (by decide) dX9_copyTruths_88 (by omega) (fun c88 => ?_) (fun c88 => ?_)
          · skip
            refine pw_aload_n 0 rfl dX9_copyTruths_108 rfl ?_
            refine pw_aload_n 0 rfl dX9_copyTruths_109 rfl ?_
            refine pw_gR 0 2 dX9_copyTruths_110 cOk9 (by assumption) (by decide) kw_347 (by decide) rfl ?_
            refine pw_iconst dX9_copyTruths_113 ?_
            refine pw_callV (d' := d - 1) (As := [_]) (ci := 5) dX9_copyTruths_114 ok_X5_met kw_410 rfl rfl (Of.o (by assumption)) (by omega) rfl (Nat.le_of_ble_eq_true rfl) (n_met (d - 1) (by omega) n ok mem hN _ (by omega)) (Nat.le_refl _) (Or.inl rfl) (fun r ok1 mem1 hq => ?_)
            obtain ⟨rfl, rfl, rfl⟩ := hq
            refine pw_callV (d' := d - 1) (As := [_]) (ci := 9) dX9_copyTruths_117 ok_X9_refused kw_406 rfl rfl (Of.o (by assumption)) (by omega) rfl (Nat.le_of_ble_eq_true rfl) (p_refused (d - 1) (by omega) n ok _ hP9 _ (by omega)) (Nat.le_refl _) (Or.inl rfl) (fun r ok1 mem1 hq => ?_)
            obtain ⟨rfl, rfl, rfl⟩ := hq
            refine pw_iret dX9_copyTruths_120 rfl rfl ?_
            have e9 : rCpT mem c a i t j k = rMet mem (2) := by
              unfold rCpT; (repeat' split) <;> first | rfl | (exfalso; omega) | contradiction
            rw [e9]; exact ⟨rfl, rfl, RE_met _ _ _, RG_met hG hRI _⟩
          · skip
            refine pw_aload dX9_copyTruths_91 rfl ?_
            refine pw_gR 8 (b + 8) dX9_copyTruths_93 cOk0 (by assumption) (by decide) kw_248 (by decide) rfl ?_
            refine pw_iload dX9_copyTruths_96 rfl ?_
            refine pw_iload dX9_copyTruths_98 rfl ?_
            refine pw_iload dX9_copyTruths_100 rfl ?_
            refine pw_callV (d' := d - 1) (As := [_, _, _]) (ci := 1) dX9_copyTruths_102 ok_X1_findingOfTruths kw_481 rfl rfl (Of.o (by assumption)) (by omega) rfl (Nat.le_of_ble_eq_true rfl) (q_finding (d - 1) (by omega) n ok mem b hC t j k (by omega) (by omega) (by omega) (by rw [hct.2.2.1]; omega)) (Nat.le_refl _) (Or.inl rfl) (fun r ok1 mem1 hq => ?_)
            obtain ⟨rfl, rfl, rfl⟩ := hq
            rw [hct.2.2.1]
            have hft : (mem 97 (40 * c + t) < 0 ∧ ftF (mem 97 (40 * c + t)) j k = 1) ∨ ((j < 0 ∨ k < 0 ∨ mem 97 (40 * c + t) < j + k) ∧ ftF (mem 97 (40 * c + t)) j k = 2) ∨ (¬ (j < 0 ∨ k < 0 ∨ mem 97 (40 * c + t) < j + k) ∧ ftF (mem 97 (40 * c + t)) j k = 0) := by
              unfold ftF; (repeat' split) <;> omega
            refine pw_if_eq 121 (by decide) dX9_copyTruths_105 (by omega) (fun c105 => ?_) (fun c105 => ?_)
            · skip
              refine pw_aload dX9_copyTruths_121 rfl ?_
              refine pw_iload_n 2 rfl dX9_copyTruths_123 rfl ?_
              refine pw_iload_n 3 rfl dX9_copyTruths_124 rfl ?_
              refine pw_iload dX9_copyTruths_125 rfl ?_
              refine pw_aload dX9_copyTruths_127 rfl ?_
              refine pw_gR 8 (b + 8) dX9_copyTruths_129 cOk0 (by assumption) (by decide) kw_248 (by decide) rfl ?_
              refine pw_gR 3 (b + 12) dX9_copyTruths_132 cOk1 (by assumption) (by decide) kw_144 (by decide) rfl ?_
              refine pw_iload dX9_copyTruths_135 rfl ?_
              refine pw_iaload dX9_copyTruths_137 (by assumption) (by omega) (by omega) (fun r137 => ?_)
              refine pw_iload dX9_copyTruths_138 rfl ?_
              refine pw_ishr dX9_copyTruths_140 ?_
              refine pw_callV (d' := d - 1) (As := [_, _, _, _]) (ci := 0) dX9_copyTruths_141 ok_X0_setTruths kw_486 rfl rfl (Of.o (by assumption)) (by omega) rfl (Nat.le_of_ble_eq_true rfl) (h_setTruths (d - 1) (by omega) n ok mem b hC mem c (aAt mem c) hR hSo hV hI (bcM mem 98 (6 * (40 * c + a) + i) k (fun u => mem 98 (6 * (40 * c + t) + j + u))) a i k _ (by omega) (by omega) (by omega) (by omega) (trS_cp (m := mem) hct.2.2.2 (by omega) (by omega) (by omega) (by omega) (by omega)) (cIn_cp hI (by omega) (by omega) (by omega) (by omega) (by omega) (by omega))) (Nat.le_refl _) (Or.inl rfl) (fun r ok1 mem1 hq => ?_)
              obtain ⟨rfl, rfl, hcm, hS1, hV1⟩ := hq
              have h10 : mem1 1 10 = 0 ∨ (mem1 1 10 = 123 ∧ n = 133) := by rw [hcm.1 1 (by omega)]; exact RG_10 hG
              refine pw_aload_n 0 rfl dX9_copyTruths_144 rfl ?_
              refine pw_iload_n 1 rfl dX9_copyTruths_145 rfl ?_
              refine pw_iload dX9_copyTruths_146 rfl ?_
              refine pw_callV (d' := d - 1) (As := [_, _]) (ci := 9) dX9_copyTruths_148 ok_X9_built kw_415 rfl rfl (Of.o (by assumption)) (by omega) rfl (Nat.le_of_ble_eq_true rfl) (p_built (d - 1) (by omega) n ok mem1 hU c (k) (by omega) b hbc h10) (Nat.le_refl _) (Or.inl rfl) (fun r ok1 mem2 hq => ?_)
              obtain ⟨rfl, rfl, rfl⟩ := hq
              refine pw_iret dX9_copyTruths_151 rfl rfl ?_
              have hx98 : (bcM (bcM mem 104 0 k (fun u => mem 98 (6 * (40 * c + t) + j + u))) 98 (6 * (40 * c + a) + i) k (fun u => mem 98 (6 * (40 * c + t) + j + u))) 98 = (bcM mem 98 (6 * (40 * c + a) + i) k (fun u => mem 98 (6 * (40 * c + t) + j + u))) 98 := by
                funext q; unfold bcM; (repeat' split) <;> first | rfl | (exfalso; omega)
              have hxa : ∀ q, q ≠ 104 → (bcM (bcM mem 104 0 k (fun u => mem 98 (6 * (40 * c + t) + j + u))) 98 (6 * (40 * c + a) + i) k (fun u => mem 98 (6 * (40 * c + t) + j + u))) q = (bcM mem 98 (6 * (40 * c + a) + i) k (fun u => mem 98 (6 * (40 * c + t) + j + u))) q := fun q q1 => by
                by_cases w : q = 98
                · rw [w]; exact hx98
                · rw [bcM_a _ _ _ _ w, bcM_a _ _ _ _ q1, bcM_a _ _ _ _ w]
              have hx104 : ∀ q, q ≠ 98 → q ≠ 104 → (bcM (bcM mem 104 0 k (fun u => mem 98 (6 * (40 * c + t) + j + u))) 98 (6 * (40 * c + a) + i) k (fun u => mem 98 (6 * (40 * c + t) + j + u))) q = mem q := fun q q1 q2 => by rw [bcM_a _ _ _ _ q1, bcM_a _ _ _ _ q2]
              have hIX : cIn (bcM mem 98 (6 * (40 * c + a) + i) k (fun u => mem 98 (6 * (40 * c + t) + j + u))) c := cIn_cp hI (by omega) (by omega) (by omega) (by omega) (by omega) (by omega)
              have hS2 := hS1
              have hV2 : CV mem c mem1 b (aAt mem c) := CV_t hV1 (fun s _ _ => ⟨by rw [bcM_a _ _ _ _ (by omega)], fun _ => rfl⟩)
              clear hS1
              have hS1 : CS (bcM (bcM mem 104 0 k (fun u => mem 98 (6 * (40 * c + t) + j + u))) 98 (6 * (40 * c + a) + i) k (fun u => mem 98 (6 * (40 * c + t) + j + u))) c mem1 b := CS_t hIX hS2 (chEq.of (fun q q1 q2 _ => hxa q (by omega)))
              have hB : BdX mem (bcM (bcM mem 104 0 k (fun u => mem 98 (6 * (40 * c + t) + j + u))) 98 (6 * (40 * c + a) + i) k (fun u => mem 98 (6 * (40 * c + t) + j + u))) c := Bd_98 (cIn_w hIX hxa) hx104 (fun q hq => by rw [hx98]; unfold bcM; rw [if_neg (by omega)])
              have e9 : rCpT mem c a i t j k = rSay (rChg (bcM (bcM mem 104 0 k (fun u => mem 98 (6 * (40 * c + t) + j + u))) 98 (6 * (40 * c + a) + i) k (fun u => mem 98 (6 * (40 * c + t) + j + u))) c) (k) := by
                unfold rCpT; (repeat' split) <;> first | rfl | (exfalso; omega) | contradiction
              rw [e9]
              have hR2 := RI_bd hRI (by omega) hB
              have hJ1 : mem1 b 13 = (bcM (bcM mem 104 0 k (fun u => mem 98 (6 * (40 * c + t) + j + u))) 98 (6 * (40 * c + a) + i) k (fun u => mem 98 (6 * (40 * c + t) + j + u))) 99 c ∧ mem1 b 14 = (bcM (bcM mem 104 0 k (fun u => mem 98 (6 * (40 * c + t) + j + u))) 98 (6 * (40 * c + a) + i) k (fun u => mem 98 (6 * (40 * c + t) + j + u))) 100 c := ⟨((hcm.2 13 (by omega) (by omega) (by omega)).trans hJ.1).trans (Eq.symm (by show (bcM (bcM mem 104 0 k (fun u => mem 98 (6 * (40 * c + t) + j + u))) 98 (6 * (40 * c + a) + i) k (fun u => mem 98 (6 * (40 * c + t) + j + u))) 99 _ = mem 99 _; rw [bcM_a _ _ _ _ (by omega), bcM_a _ _ _ _ (by omega)])), ((hcm.2 14 (by omega) (by omega) (by omega)).trans hJ.2).trans (Eq.symm (by show (bcM (bcM mem 104 0 k (fun u => mem 98 (6 * (40 * c + t) + j + u))) 98 (6 * (40 * c + a) + i) k (fun u => mem 98 (6 * (40 * c + t) + j + u))) 100 _ = mem 100 _; rw [bcM_a _ _ _ _ (by omega), bcM_a _ _ _ _ (by omega)]))⟩
              refine ⟨congrArg (fun z => some (vi z)) (rfl), rfl, fun a a1 a2 => ?_, RG_st (RG_bd hG hRI (by omega) hbc hB hS1 (CV_t hV2 (fun s _ _ => ⟨by rw [hx104 90 (by omega) (by omega)], fun _ => by show (bcM (bcM mem 104 0 k (fun u => mem 98 (6 * (40 * c + t) + j + u))) 98 (6 * (40 * c + a) + i) k (fun u => mem 98 (6 * (40 * c + t) + j + u))) 92 _ = mem 92 _; rw [bcM_a _ _ _ _ (by omega), bcM_a _ _ _ _ (by omega)]⟩)) hJ1 hcm.1) hR2.1 hR2.2.1 0⟩
              rw [wr_a _ _ _ (by omega), bltM_a _ _ _ _ (by omega) (by omega)]; exact hcm.1 a (by omega)
            · skip
              refine pw_aload_n 0 rfl dX9_copyTruths_108 rfl ?_
              refine pw_aload_n 0 rfl dX9_copyTruths_109 rfl ?_
              refine pw_gR 0 2 dX9_copyTruths_110 cOk9 (by assumption) (by decide) kw_347 (by decide) rfl ?_
              refine pw_iconst dX9_copyTruths_113 ?_
              refine pw_callV (d' := d - 1) (As := [_]) (ci := 5) dX9_copyTruths_114 ok_X5_met kw_410 rfl rfl (Of.o (by assumption)) (by omega) rfl (Nat.le_of_ble_eq_true rfl) (n_met (d - 1) (by omega) n ok mem hN _ (by omega)) (Nat.le_refl _) (Or.inl rfl) (fun r ok1 mem1 hq => ?_)
              obtain ⟨rfl, rfl, rfl⟩ := hq
              refine pw_callV (d' := d - 1) (As := [_]) (ci := 9) dX9_copyTruths_117 ok_X9_refused kw_406 rfl rfl (Of.o (by assumption)) (by omega) rfl (Nat.le_of_ble_eq_true rfl) (p_refused (d - 1) (by omega) n ok _ hP9 _ (by omega)) (Nat.le_refl _) (Or.inl rfl) (fun r ok1 mem1 hq => ?_)
              obtain ⟨rfl, rfl, rfl⟩ := hq
              refine pw_iret dX9_copyTruths_120 rfl rfl ?_
              have e9 : rCpT mem c a i t j k = rMet mem (2) := by
                unfold rCpT; (repeat' split) <;> first | rfl | (exfalso; omega) | contradiction
              rw [e9]; exact ⟨rfl, rfl, RE_met _ _ _, RG_met hG hRI _⟩
        · skip
          refine pw_aload_n 0 rfl dX9_copyTruths_63 rfl ?_
          refine pw_aload_n 0 rfl dX9_copyTruths_64 rfl ?_
          refine pw_gR 0 2 dX9_copyTruths_65 cOk9 (by assumption) (by decide) kw_347 (by decide) rfl ?_
          refine pw_iconst dX9_copyTruths_68 ?_
          refine pw_callV (d' := d - 1) (As := [_]) (ci := 5) dX9_copyTruths_69 ok_X5_met kw_410 rfl rfl (Of.o (by assumption)) (by omega) rfl (Nat.le_of_ble_eq_true rfl) (n_met (d - 1) (by omega) n ok mem hN _ (by omega)) (Nat.le_refl _) (Or.inl rfl) (fun r ok1 mem1 hq => ?_)
          obtain ⟨rfl, rfl, rfl⟩ := hq
          refine pw_callV (d' := d - 1) (As := [_]) (ci := 9) dX9_copyTruths_72 ok_X9_refused kw_406 rfl rfl (Of.o (by assumption)) (by omega) rfl (Nat.le_of_ble_eq_true rfl) (p_refused (d - 1) (by omega) n ok _ hP9 _ (by omega)) (Nat.le_refl _) (Or.inl rfl) (fun r ok1 mem1 hq => ?_)
          obtain ⟨rfl, rfl, rfl⟩ := hq
          refine pw_iret dX9_copyTruths_75 rfl rfl ?_
          have e9 : rCpT mem c a i t j k = rMet mem (1) := by
            unfold rCpT; (repeat' split) <;> first | rfl | (exfalso; omega) | contradiction
          rw [e9]; exact ⟨rfl, rfl, RE_met _ _ _, RG_met hG hRI _⟩
    · skip
      rw [bz_0] at c16
      refine pw_aload_n 0 rfl dX9_copyTruths_19 rfl ?_
      refine pw_bipush dX9_copyTruths_20 (by decide) ?_
      refine pw_callV (d' := d - 1) (As := [_]) (ci := 9) dX9_copyTruths_22 ok_X9_refused kw_406 rfl rfl (Of.o (by assumption)) (by omega) rfl (Nat.le_of_ble_eq_true rfl) (p_refused (d - 1) (by omega) n ok _ hP9 _ (by omega)) (Nat.le_refl _) (Or.inl rfl) (fun r ok1 mem1 hq => ?_)
      obtain ⟨rfl, rfl, rfl⟩ := hq
      refine pw_iret dX9_copyTruths_25 rfl rfl ?_
      have e9 : rCpT mem c a i t j k = rRef mem (-2) := by
        unfold rCpT; (repeat' split) <;> first | rfl | (exfalso; omega) | contradiction
      rw [e9]; exact ⟨rfl, rfl, RE1 _ _, RG_st hG hIO hKO _⟩
set_option maxHeartbeats 4000000 in
set_option maxRecDepth 100000 in
theorem p_clear (d : Nat) (hd : 5 ≤ d) (n : Nat) (ok : pO) (mem : pM) (hU : ClUp n ok) (hG : RG mem mem n) (hRI : RI mem) (c : Int) (hc : -2147483648 ≤ c ∧ c ≤ 2147483647)  : PM mi_X9_clear d [vr 1, vi c] n ok mem n (fun r ok' mem' => r = some (vi (rClear mem c).1) ∧ ok = ok' ∧ RE mem mem' ∧ RG (rClear mem c).2 mem' n) := by
  obtain ⟨hP9, hN, ⟨hn4, ho0, ho1, ho2⟩, hCh, hDr, hM, ⟨hW80, hW82, hW84⟩, q86, q87, hSU, hn133⟩ := id hU
  obtain ⟨hN5, hN3⟩ := id hN
  obtain ⟨hM4, hM9⟩ := id hM
  obtain ⟨hW8, hWA, -, -⟩ := id hW80
  have hIO := hRI.1
  have hKO := hRI.2.1
  have ht9 := hRI.2.2.1
  have hq0 := hRI.2.2.2.1
  have hty := hRI.2.2.2.2.1
  have hNR := hG.1
  have hNR1 : mem 2 1 = mem 88 19 := hNR.1
  refine PM.of (by decide) (by decide) (Nat.le_refl _) (Nat.le_of_ble_eq_true rfl) ?_
  refine pw_iload_n 1 rfl dX9_clear_0 rfl ?_
  refine pw_callS (d' := d - 1) (As := [_]) dX9_clear_1 ok_X9_isChest kw_403 (by omega) rfl (Nat.le_of_ble_eq_true rfl) (p_isChest (d - 1) (by omega) n ok _ _ (by omega)) (Nat.le_refl _) (Or.inl rfl) (fun r ok1 mem1 hq => ?_)
  obtain ⟨rfl, rfl, rfl⟩ := hq
  refine pw_if_ne 14 (by decide) dX9_clear_4 (by split <;> omega) (fun c4 => ?_) (fun c4 => ?_)
  · skip
    rw [ne_eq, bz_n] at c4
    obtain ⟨b, hbc⟩ : ∃ b : Nat, (b : Int) = 5 + 18 * c := ⟨(5 + 18 * c).toNat, by omega⟩
    have hC : ChUp n ok b := hCh b (by omega)
    have hok : ok 4 (c).toNat = true := by rcases (show c = 0 ∨ c = 1 ∨ c = 2 by omega) with e | e | e <;> (rw [e]; assumption)
    obtain ⟨hS, hV, hJ, hKR⟩ := hG.2.1 c b (by omega) (by omega) hbc
    have hI := hIO c (by omega) (by omega)
    have hOk := hI.ok
    obtain ⟨hR, hD, hSo⟩ := id hS
    obtain ⟨hC0, ⟨hC1, hC2, hC3, hC4, hC5, hC6, hC7⟩, hC8, ⟨hC9, hC10, hC11, hC12, hC13, hC14, hC15⟩, hC16, hC17, hb5, hb59⟩ := id hC
    refine pw_aload_n 0 rfl dX9_clear_14 rfl ?_
    refine pw_gR 1 4 dX9_clear_15 cOk9 (by assumption) (by decide) kw_348 (by decide) rfl ?_
    refine pw_iload_n 1 rfl dX9_clear_18 rfl ?_
    refine pw_aaload (L := 3) dX9_clear_19 (by omega) (by omega) rfl rfl (by decide) (by omega) (by omega) b hbc hok ?_
    refine pw_astore_n 2 rfl dX9_clear_20 (by decide) ?_
    refine pw_aload_n 2 rfl dX9_clear_21 rfl ?_
    refine pw_gI 12 12 rfl dX9_clear_22 cOk0 (by assumption) (by decide) kw_255 (by decide) (fun r22 => ?_)
    rw [hD.2.2.1] at r22 ⊢
    refine pw_istore_n 3 rfl dX9_clear_25 (by decide) ?_
    refine pw_aload_n 2 rfl dX9_clear_26 rfl ?_
    refine pw_callV (d' := d - 1) (As := []) (ci := 0) dX9_clear_27 ok_X0_empty kw_506 rfl rfl (Of.o (by assumption)) (by omega) rfl (Nat.le_of_ble_eq_true rfl) (h_empty (d - 1) (by omega) n ok mem b hC mem c (aAt mem c) hR hSo hV hI) (Nat.le_refl _) (Or.inl rfl) (fun r ok1 mem1 hq => ?_)
    obtain ⟨rfl, rfl, hcm, hS1, hV1⟩ := hq
    have h10 : mem1 1 10 = 0 ∨ (mem1 1 10 = 123 ∧ n = 133) := by rw [hcm.1 1 (by omega)]; exact RG_10 hG
    refine pw_aload_n 2 rfl dX9_clear_30 rfl ?_
    refine pw_iconst dX9_clear_31 ?_
    refine pw_pI 13 13 rfl dX9_clear_32 cOk0 (by assumption) (by decide) kw_258 rfl rfl (by decide) (by omega) ?_
    refine pw_aload_n 2 rfl dX9_clear_35 rfl ?_
    refine pw_iconst dX9_clear_36 ?_
    refine pw_pI 14 14 rfl dX9_clear_37 cOk0 (by assumption) (by decide) kw_262 rfl rfl (by decide) (by omega) ?_
    refine pw_aload_n 0 rfl dX9_clear_40 rfl ?_
    refine pw_iload_n 1 rfl dX9_clear_41 rfl ?_
    refine pw_iload_n 3 rfl dX9_clear_42 rfl ?_
    refine pw_callV (d' := d - 1) (As := [_, _]) (ci := 9) dX9_clear_43 ok_X9_built kw_415 rfl rfl (Of.o (by assumption)) (by omega) rfl (Nat.le_of_ble_eq_true rfl) (p_built (d - 1) (by omega) n ok (wr (wr mem1 b 13 0) b 14 (-1)) hU c (aParts mem c 16) (by omega) b hbc (by rw [wr_a _ _ _ (by omega), wr_a _ _ _ (by omega)]; exact h10)) (Nat.le_refl _) (Or.inl rfl) (fun r ok1 mem2 hq => ?_)
    obtain ⟨rfl, rfl, rfl⟩ := hq
    refine pw_iret dX9_clear_46 rfl rfl ?_
    have hv := emZ_v mem c
    have hB : BdX mem (emZ mem c) c := Bd_emp hRI (by omega)
    have e9 : rClear mem c = rSay (rChg (emZ mem c) c) (aParts mem c 16) := by
      unfold rClear; rw [if_neg (by omega), chg_emp]
    rw [e9]
    have hR2 := RI_bd hRI (by omega) hB
    generalize hM9 : wr (wr mem1 b 13 0) b 14 (-1) = M9
    have hfa : ∀ a, a ≠ b → M9 a = mem1 a := fun a q => by rw [← hM9, wr_a _ _ _ q, wr_a _ _ _ q]
    have hfk : ∀ k, k ≠ 13 → k ≠ 14 → M9 b k = mem1 b k := fun k k1 k2 => by rw [← hM9, wr_k _ _ _ _ k2, wr_k _ _ _ _ k1]
    have hS2 : CS (emZ mem c) c M9 b := CS_t (cIn_em hI 4 (by omega)) (CS_b hS1 (fun a a1 a2 => hfa a (by omega)) hfk) (emZ_q mem c)
    have hV2 : CV (emZ mem c) c M9 b (aAt (emZ mem c) c) := CV_t (hV1.m (hfa _ (by omega))) (fun s s1 s2 => ⟨by rw [hv.2.1 s s1 s2, (emR_v mem c 4).2.1 s s1 (by omega)], fun z => absurd ((emR_v mem c 4).2.1 s s1 (by omega)) z⟩)
    have hJ2 : M9 b 13 = emZ mem c 99 c ∧ M9 b 14 = emZ mem c 100 c := by
      rw [hv.2.2.1.2.1, hv.2.2.1.2.2, ← hM9, wr_k _ _ _ _ (by omega), wr_s, wr_s]; exact ⟨rfl, rfl⟩
    refine ⟨rfl, rfl, fun a a1 a2 => ?_, RG_st (RG_bd hG hRI (by omega) hbc hB hS2 hV2 hJ2 (fun a ha => (hfa a (by omega)).trans (hcm.1 a ha))) hR2.1 hR2.2.1 0⟩
    rw [wr_a _ _ _ (by omega), bltM_a _ _ _ _ (by omega) (by omega), hfa a (by omega)]; exact hcm.1 a (by omega)
  · skip
    rw [bz_0] at c4
    refine pw_aload_n 0 rfl dX9_clear_7 rfl ?_
    refine pw_bipush dX9_clear_8 (by decide) ?_
    refine pw_callV (d' := d - 1) (As := [_]) (ci := 9) dX9_clear_10 ok_X9_refused kw_406 rfl rfl (Of.o (by assumption)) (by omega) rfl (Nat.le_of_ble_eq_true rfl) (p_refused (d - 1) (by omega) n ok _ hP9 _ (by omega)) (Nat.le_refl _) (Or.inl rfl) (fun r ok1 mem1 hq => ?_)
    obtain ⟨rfl, rfl, rfl⟩ := hq
    refine pw_iret dX9_clear_13 rfl rfl ?_
    have e9 : rClear mem c = rRef mem (-2) := by
      unfold rClear; (repeat' split) <;> first | rfl | (exfalso; omega) | contradiction
    rw [e9]; exact ⟨rfl, rfl, RE1 _ _, RG_st hG hIO hKO _⟩
set_option maxHeartbeats 4000000 in
set_option maxRecDepth 100000 in
theorem p_copy (d : Nat) (hd : 4 ≤ d) (n : Nat) (ok : pO) (mem : pM) (hU : ClUp n ok) (hG : RG mem mem n) (hRI : RI mem) (a c : Int) (ha : -2147483648 ≤ a ∧ a ≤ 2147483647) (hc : -2147483648 ≤ c ∧ c ≤ 2147483647)  : PM mi_X9_copy d [vr 1, vi a, vi c] n ok mem n (fun r ok' mem' => r = some (vi (rCopy mem a c).1) ∧ ok = ok' ∧ RE mem mem' ∧ RG (rCopy mem a c).2 mem' n) := by
  obtain ⟨hP9, hN, ⟨hn4, ho0, ho1, ho2⟩, hCh, hDr, hM, ⟨hW80, hW82, hW84⟩, q86, q87, hSU, hn133⟩ := id hU
  obtain ⟨hN5, hN3⟩ := id hN
  obtain ⟨hM4, hM9⟩ := id hM
  obtain ⟨hW8, hWA, -, -⟩ := id hW80
  have hIO := hRI.1
  have hKO := hRI.2.1
  have ht9 := hRI.2.2.1
  have hq0 := hRI.2.2.2.1
  have hty := hRI.2.2.2.2.1
  have hNR := hG.1
  have hNR1 : mem 2 1 = mem 88 19 := hNR.1
  refine PM.of (by decide) (by decide) (Nat.le_refl _) (Nat.le_of_ble_eq_true rfl) ?_
  refine pw_iload_n 1 rfl dX9_copy_0 rfl ?_
  refine pw_callS (d' := d - 1) (As := [_]) dX9_copy_1 ok_X9_isChest kw_403 (by omega) rfl (Nat.le_of_ble_eq_true rfl) (p_isChest (d - 1) (by omega) n ok _ _ (by omega)) (Nat.le_refl _) (Or.inl rfl) (fun r ok1 mem1 hq => ?_)
  obtain ⟨rfl, rfl, rfl⟩ := hq
  refine pw_if_eq 14 (by decide) dX9_copy_4 (by split <;> omega) (fun c4 => ?_) (fun c4 => ?_)
  · skip
    rw [bz_0] at c4
    refine pw_aload_n 0 rfl dX9_copy_14 rfl ?_
    refine pw_bipush dX9_copy_15 (by decide) ?_
    refine pw_callV (d' := d - 1) (As := [_]) (ci := 9) dX9_copy_17 ok_X9_refused kw_406 rfl rfl (Of.o (by assumption)) (by omega) rfl (Nat.le_of_ble_eq_true rfl) (p_refused (d - 1) (by omega) n ok _ hP9 _ (by omega)) (Nat.le_refl _) (Or.inl rfl) (fun r ok1 mem1 hq => ?_)
    obtain ⟨rfl, rfl, rfl⟩ := hq
    refine pw_iret dX9_copy_20 rfl rfl ?_
    have e9 : rCopy mem a c = rRef mem (-2) := by
      unfold rCopy; (repeat' split) <;> first | rfl | (exfalso; omega) | contradiction
    rw [e9]; exact ⟨rfl, rfl, RE1 _ _, RG_st hG hIO hKO _⟩
  · skip
    rw [bz_n] at c4
    refine pw_iload_n 2 rfl dX9_copy_7 rfl ?_
    refine pw_callS (d' := d - 1) (As := [_]) dX9_copy_8 ok_X9_isChest kw_403 (by omega) rfl (Nat.le_of_ble_eq_true rfl) (p_isChest (d - 1) (by omega) n ok _ _ (by omega)) (Nat.le_refl _) (Or.inl rfl) (fun r ok1 mem1 hq => ?_)
    obtain ⟨rfl, rfl, rfl⟩ := hq
    refine pw_if_ne 21 (by decide) dX9_copy_11 (by split <;> omega) (fun c11 => ?_) (fun c11 => ?_)
    · skip
      rw [ne_eq, bz_n] at c11
      obtain ⟨b, hbc⟩ : ∃ b : Nat, (b : Int) = 5 + 18 * c := ⟨(5 + 18 * c).toNat, by omega⟩
      have hC : ChUp n ok b := hCh b (by omega)
      have hok : ok 4 (c).toNat = true := by rcases (show c = 0 ∨ c = 1 ∨ c = 2 by omega) with e | e | e <;> (rw [e]; assumption)
      obtain ⟨hS, hV, hJ, hKR⟩ := hG.2.1 c b (by omega) (by omega) hbc
      have hI := hIO c (by omega) (by omega)
      have hOk := hI.ok
      obtain ⟨hR, hD, hSo⟩ := id hS
      obtain ⟨hC0, ⟨hC1, hC2, hC3, hC4, hC5, hC6, hC7⟩, hC8, ⟨hC9, hC10, hC11, hC12, hC13, hC14, hC15⟩, hC16, hC17, hb5, hb59⟩ := id hC
      obtain ⟨b1, hbc1⟩ : ∃ b1 : Nat, (b1 : Int) = 5 + 18 * a := ⟨(5 + 18 * a).toNat, by omega⟩
      have hC1 : ChUp n ok b1 := hCh b1 (by omega)
      have hok1 : ok 4 (a).toNat = true := by rcases (show a = 0 ∨ a = 1 ∨ a = 2 by omega) with e | e | e <;> (rw [e]; assumption)
      obtain ⟨h1S, hV1, hJ1, hKR1⟩ := hG.2.1 a b1 (by omega) (by omega) hbc1
      have hI1 := hIO a (by omega) (by omega)
      have hOk1 := hI1.ok
      obtain ⟨hR1, hD1, hSo1⟩ := id h1S
      obtain ⟨hC01, ⟨hC11, hC21, hC31, hC41, hC51, hC61, hC71⟩, hC81, ⟨hC91, hC101, hC111, hC121, hC131, hC141, hC151⟩, hC161, hC171, hb51, hb591⟩ := id hC1
      refine pw_aload_n 0 rfl dX9_copy_21 rfl ?_
      refine pw_gR 1 4 dX9_copy_22 cOk9 (by assumption) (by decide) kw_348 (by decide) rfl ?_
      refine pw_iload_n 2 rfl dX9_copy_25 rfl ?_
      refine pw_aaload (L := 3) dX9_copy_26 (by omega) (by omega) rfl rfl (by decide) (by omega) (by omega) b hbc hok ?_
      refine pw_astore_n 3 rfl dX9_copy_27 (by decide) ?_
      refine pw_aload_n 3 rfl dX9_copy_28 rfl ?_
      refine pw_aload_n 0 rfl dX9_copy_29 rfl ?_
      refine pw_gR 1 4 dX9_copy_30 cOk9 (by assumption) (by decide) kw_348 (by decide) rfl ?_
      refine pw_iload_n 1 rfl dX9_copy_33 rfl ?_
      refine pw_aaload (L := 3) dX9_copy_34 (by omega) (by omega) rfl rfl (by decide) (by omega) (by omega) b1 hbc1 hok1 ?_
      refine pw_callV (d' := d - 1) (As := [_]) (ci := 0) dX9_copy_35 ok_X0_become kw_511 rfl rfl (Of.o (by assumption)) (by omega) rfl (Nat.le_of_ble_eq_true rfl) (h_become (d - 1) (by omega) n ok mem b b1 hC hC1 (by omega) mem a hI1 (aAt mem a) h1S hV1) (Nat.le_refl _) (Or.inl rfl) (fun r ok1 mem1 hq => ?_)
      obtain ⟨rfl, rfl, hcm, hS1, hV1⟩ := hq
      have h10 : mem1 1 10 = 0 ∨ (mem1 1 10 = 123 ∧ n = 133) := by rw [hcm.1 1 (by omega)]; exact RG_10 hG
      have hj1 : mem1 b1 13 = mem 99 a ∧ mem1 b1 14 = mem 100 a := by
        by_cases q : b1 = b
        · rw [q, hcm.2 13 (by omega) (by omega) (by omega), hcm.2 14 (by omega) (by omega) (by omega), ← q]; exact hJ1
        · rw [hcm.1 b1 (by omega)]; exact hJ1
      refine pw_aload_n 3 rfl dX9_copy_38 rfl ?_
      refine pw_aload_n 0 rfl dX9_copy_39 rfl ?_
      refine pw_gR 1 4 dX9_copy_40 cOk9 (by assumption) (by decide) kw_348 (by decide) rfl ?_
      refine pw_iload_n 1 rfl dX9_copy_43 rfl ?_
      refine pw_aaload (L := 3) dX9_copy_44 (by omega) (by omega) rfl rfl (by decide) (by omega) (by omega) b1 hbc1 hok1 ?_
      refine pw_gI 13 13 rfl dX9_copy_45 cOk0 (by assumption) (by decide) kw_258 (by decide) (fun r45 => ?_)
      rw [hj1.1] at r45 ⊢
      refine pw_pI 13 13 rfl dX9_copy_48 cOk0 (by assumption) (by decide) kw_258 rfl rfl (by decide) (by omega) ?_
      refine pw_aload_n 3 rfl dX9_copy_51 rfl ?_
      refine pw_aload_n 0 rfl dX9_copy_52 rfl ?_
      refine pw_gR 1 4 dX9_copy_53 cOk9 (by assumption) (by decide) kw_348 (by decide) rfl ?_
      refine pw_iload_n 1 rfl dX9_copy_56 rfl ?_
      refine pw_aaload (L := 3) dX9_copy_57 (by omega) (by omega) rfl rfl (by decide) (by omega) (by omega) b1 hbc1 hok1 ?_
      refine pw_gI 14 14 rfl dX9_copy_58 cOk0 (by assumption) (by decide) kw_262 (by decide) (fun r58 => ?_)
      have hw14 : wr mem1 b 13 (mem 99 a) b1 14 = mem 100 a := by
        by_cases q : b1 = b
        · rw [q, wr_k _ _ _ _ (by omega), ← q]; exact hj1.2
        · rw [wr_a _ _ _ q]; exact hj1.2
      rw [hw14] at r58 ⊢
      refine pw_pI 14 14 rfl dX9_copy_61 cOk0 (by assumption) (by decide) kw_262 rfl rfl (by decide) (by omega) ?_
      have hM9 : ∃ M9, wr (wr mem1 b 13 (mem 99 a)) b 14 (mem 100 a) = M9 := ⟨_, rfl⟩
      obtain ⟨M9, hM9⟩ := hM9
      rw [hM9]
      have hfa : ∀ a, a ≠ b → M9 a = mem1 a := fun a q => by rw [← hM9, wr_a _ _ _ q, wr_a _ _ _ q]
      have hfk : ∀ k, k ≠ 13 → k ≠ 14 → M9 b k = mem1 b k := fun k k1 k2 => by rw [← hM9, wr_k _ _ _ _ k2, wr_k _ _ _ _ k1]
      have hM13 : M9 b 13 = mem 99 a := by rw [← hM9, wr_k _ _ _ _ (by omega), wr_s]
      have hM14 : M9 b 14 = mem 100 a := by rw [← hM9, wr_s]
      refine pw_aload_n 0 rfl dX9_copy_64 rfl ?_
      refine pw_iload_n 2 rfl dX9_copy_65 rfl ?_
      refine pw_aload_n 3 rfl dX9_copy_66 rfl ?_
      refine pw_gI 12 12 rfl dX9_copy_67 cOk0 (by assumption) (by decide) kw_255 (by decide) (fun r67 => ?_)
      refine pw_callV (d' := d - 1) (As := [_, _]) (ci := 9) dX9_copy_70 ok_X9_built kw_415 rfl rfl (Of.o (by assumption)) (by omega) rfl (Nat.le_of_ble_eq_true rfl) (p_built (d - 1) (by omega) n ok M9 hU c _ (by omega) b hbc (by rw [hfa 1 (by omega)]; exact h10)) (Nat.le_refl _) (Or.inl rfl) (fun r ok1 mem2 hq => ?_)
      obtain ⟨rfl, rfl, rfl⟩ := hq
      refine pw_iret dX9_copy_73 rfl rfl ?_
      have hB : BdX mem (rCopyTo mem a c) c := Bd_copy hRI (by omega) (by omega)
      have hv := cpT_v mem a c
      obtain ⟨hq1, hq2⟩ := cpT_q (A := mem) (a := a) (b := c) hI1.2.2.1.1.2
      have e9 : rCopy mem a c = rSay (rChg (rCopyTo mem a c) c) (aParts (rChg (rCopyTo mem a c) c) c 16) := by
        unfold rCopy; rw [if_neg (by omega)]
      rw [e9]
      have hR2 := RI_bd hRI (by omega) hB
      have hS2 : CS (rCopyTo mem a c) c M9 b := CS_t hI1 (CS_b hS1 (fun a a1 a2 => hfa a (by omega)) hfk) hq1
      have hV2 : CV (rCopyTo mem a c) c M9 b (aAt (rCopyTo mem a c) c) := CV_t (hV1.m (hfa _ (by omega))) (fun s s1 s2 => ⟨(hq1.2.1 s s1 s2).1, fun z => hq2 s s1 s2⟩)
      have hJ2 : M9 b 13 = rCopyTo mem a c 99 c ∧ M9 b 14 = rCopyTo mem a c 100 c := by
        rw [hv.2.1, if_pos rfl, hv.2.2, if_pos rfl, hM13, hM14]; exact ⟨rfl, rfl⟩
      refine ⟨congrArg (fun z => some (vi z)) ?_, rfl, fun a a1 a2 => ?_, RG_st (RG_bd hG hRI (by omega) hbc hB hS2 hV2 hJ2 (fun a ha => (hfa a (by omega)).trans (hcm.1 a ha))) hR2.1 hR2.2.1 0⟩
      · rw [aParts_chg]; exact hS2.2.1.2.2.1
      · rw [wr_a _ _ _ (by omega), bltM_a _ _ _ _ (by omega) (by omega), hfa a (by omega)]; exact hcm.1 a (by omega)
    · skip
      rw [bz_0] at c11
      refine pw_aload_n 0 rfl dX9_copy_14 rfl ?_
      refine pw_bipush dX9_copy_15 (by decide) ?_
      refine pw_callV (d' := d - 1) (As := [_]) (ci := 9) dX9_copy_17 ok_X9_refused kw_406 rfl rfl (Of.o (by assumption)) (by omega) rfl (Nat.le_of_ble_eq_true rfl) (p_refused (d - 1) (by omega) n ok _ hP9 _ (by omega)) (Nat.le_refl _) (Or.inl rfl) (fun r ok1 mem1 hq => ?_)
      obtain ⟨rfl, rfl, rfl⟩ := hq
      refine pw_iret dX9_copy_20 rfl rfl ?_
      have e9 : rCopy mem a c = rRef mem (-2) := by
        unfold rCopy; (repeat' split) <;> first | rfl | (exfalso; omega) | contradiction
      rw [e9]; exact ⟨rfl, rfl, RE1 _ _, RG_st hG hIO hKO _⟩
