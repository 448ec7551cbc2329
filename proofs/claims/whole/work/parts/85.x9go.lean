/-! ===== searches ===== -/
theorem RG_sr {A A2 m m1 : pM} {n n2 : Nat} {c : Int} {b : Nat} (h : RG A m n) (hR : RI A) (hc : 0 ≤ c ∧ c ≤ 2) (hb : (b : Int) = 5 + 18 * c) (eA : ∀ a, a ≠ 88 → (a < 108 ∨ 114 < a) → A2 a = A a) (kA : ∀ j, (j < 31 ∨ 44 < j) → j ≠ 3 → A2 88 j = A 88 j) (em : ∀ a, a ≠ 1 → a ≠ b + 4 → a ≠ b + 7 → a < 123 → m1 a = m a) (e1 : ∀ k, k ≠ 10 → m1 1 k = m 1 k) (hv : CV A c m1 b (aAt A c)) (hSe : RSe A2 m1 n2) : RG A2 m1 n2 := by
  obtain ⟨h1, h2, h3, h4, h5, h6, h7, h8⟩ := h
  refine ⟨NR_c h1 (kA _ (by omega) (by omega)) (kA _ (by omega) (by omega)) (kA _ (by omega) (by omega)) (eA _ (by omega) (by omega)) (em _ (by omega) (by omega) (by omega) (by omega)) (em _ (by omega) (by omega) (by omega) (by omega)), fun c' b' c1 c2 hb' => ?_, RBn_c h3 (fun a a1 a2 a3 => em a (by omega) (by omega) (by omega) (by omega)), RTy_c h4 (kA _ (by omega) (by omega)) (eA _ (by omega) (by omega)) (e1 _ (by omega)) (em _ (by omega) (by omega) (by omega) (by omega)), RAt_c h5 (kA _ (by omega) (by omega)) (kA _ (by omega) (by omega)) (kA _ (by omega) (by omega)) (kA _ (by omega) (by omega)) (e1 _ (by omega)) (e1 _ (by omega)) (e1 _ (by omega)) (e1 _ (by omega)), RMk_c h6 (kA _ (by omega) (by omega)) (kA _ (by omega) (by omega)) (kA _ (by omega) (by omega)) (eA _ (by omega) (by omega)) (em _ (by omega) (by omega) (by omega) (by omega)) (em _ (by omega) (by omega) (by omega) (by omega)), REx_c h7 (kA _ (by omega) (by omega)) (eA _ (by omega) (by omega)) (em _ (by omega) (by omega) (by omega) (by omega)) (em _ (by omega) (by omega) (by omega) (by omega)), hSe⟩
  have hI := hR.1 c' c1 c2
  have hk := (hR.2.1 c' c1 c2).2.1
  by_cases q : c' = c
  · subst q
    obtain rfl : b = b' := by omega
    obtain ⟨q1, q2, q3, q4⟩ := h2 c' b c1 c2 hb'
    refine ⟨CS_t hI (q1.m (fun a a1 a2 a3 a4 => em a (by omega) a3 a4 (by omega))) (chEq.of (fun a a1 a2 _ => eA a (by omega) (by omega))), CV_t hv (fun s _ _ => ⟨by rw [eA 90 (by omega) (by omega)], fun _ => by show A2 92 _ = A 92 _; rw [eA 92 (by omega) (by omega)]⟩), by rw [em b (by omega) (by omega) (by omega) (by omega), eA 99 (by omega) (by omega), eA 100 (by omega) (by omega)]; exact q3, ?_⟩
    unfold KR; rw [em (b + 16) (by omega) (by omega) (by omega) (by omega), em (b + 17) (by omega) (by omega) (by omega) (by omega), eA 101 (by omega) (by omega), eA 102 (by omega) (by omega)]; exact q4
  · exact ((h2 c' b' c1 c2 hb').m (fun a a1 a2 a3 => em a (by omega) (by omega) (by omega) (by omega))).A hI (chEq.of (fun a a1 a2 _ => eA a (by omega) (by omega))) (fun s _ _ => by rw [eA 92 (by omega) (by omega)]) (by rw [eA 99 (by omega) (by omega)]) (by rw [eA 100 (by omega) (by omega)]) (by rw [eA 101 (by omega) (by omega)]) (fun i _ _ => by rw [eA 102 (by omega) (by omega)]) hk
theorem RI_sr {A A2 : pM} {c : Int} (h : RI A) (hc : 0 ≤ c ∧ c ≤ 2) (eA : ∀ a, a ≠ 88 → (a < 108 ∨ 114 < a) → A2 a = A a) (kA : ∀ j, (j < 31 ∨ 44 < j) → j ≠ 3 → A2 88 j = A 88 j) (h3 : A2 88 3 = 0) (h44 : A2 88 44 = 0) (h33 : A2 88 33 = c) (hG : GI A2 c A2) (h34 : 1 ≤ A2 88 34) : RI A2 :=
  ⟨IOk_c h.1 (fun a a1 a2 => eA a (by omega) (by omega)), KOk_c h.2.1 (eA _ (by omega) (by omega)) (eA _ (by omega) (by omega)), by rw [kA 19 (by omega) (by omega)]; exact h.2.2.1, h3, by rw [kA 24 (by omega) (by omega), eA 106 (by omega) (by omega)]; exact h.2.2.2.2.1, fun _ => hG.1.1.s h34, fun z => absurd h44 z, fun _ => ⟨by rw [h33]; exact hc, fun _ => by rw [h33]; exact hG⟩, by rw [eA 119 (by omega) (by omega)]; exact h.2.2.2.2.2.2.2.2⟩
/-- what a search gone on with is -/
theorem go_v {A : pM} {c k : Int} (hs : cOkR A c) (hg : GI A c A) : SRG (goB A c k.toNat (wr A 88 3 1)) = SRG (goR A c k) ∧ goR A c k 88 35 = goB A c k.toNat (wr A 88 3 1) 88 35 ∧ goR A c k 88 34 = goB A c k.toNat (wr A 88 3 1) 88 34 := by
  have e : ∀ a, a ≠ 88 → goR A c k a = goB A c k.toNat (wr A 88 3 1) a := fun a q => by unfold goR; rw [wr_a _ _ _ q, wr_a _ _ _ q]
  have k9 : ∀ j, j ≠ 3 → j ≠ 44 → goR A c k 88 j = goB A c k.toNat (wr A 88 3 1) 88 j := fun j j1 j2 => by unfold goR; rw [wr_k _ _ _ _ j2, wr_k _ _ _ _ j1]
  refine ⟨?_, k9 35 (by omega) (by omega), k9 34 (by omega) (by omega)⟩
  funext m
  apply propext
  exact ⟨fun h => SRG_c h (fun a a1 a2 => e a (by omega)) (k9 _ (by omega) (by omega)) (k9 _ (by omega) (by omega)) (k9 _ (by omega) (by omega)) (fun _ _ _ _ => rfl) (fun _ _ _ => rfl), fun h => SRG_c h (fun a a1 a2 => (e a (by omega)).symm) (k9 _ (by omega) (by omega)).symm (k9 _ (by omega) (by omega)).symm (k9 _ (by omega) (by omega)).symm (fun _ _ _ _ => rfl) (fun _ _ _ => rfl)⟩
theorem S1_w {A m : pM} (h : SRG A m) : SRG (wr A 88 3 1) m := SRG_c h (fun a a1 a2 => wr_a _ _ _ (by omega)) (wr_k _ _ _ _ (by omega)) (wr_k _ _ _ _ (by omega)) (wr_k _ _ _ _ (by omega)) (fun _ _ _ _ => rfl) (fun _ _ _ => rfl)
theorem G1_w {A : pM} {c : Int} (h : GI A c A) : GI A c (wr A 88 3 1) := GI_c h (fun a a1 a2 => wr_a _ _ _ (by omega)) (wr_k _ _ _ _ (by omega)) (wr_k _ _ _ _ (by omega)) (wr_k _ _ _ _ (by omega))
theorem RI_go {A : pM} (h : RI A) (h31 : A 88 31 ≠ 0) (h32 : A 88 32 = 0) (k : Int) : RI (goR A (A 88 33) k) := by
  have q := h.2.2.2.2.2.2.2.1 h31
  have hs := (h.1 _ q.1.1 q.1.2).ok
  have hg := q.2 h32
  have v := goR_v (k := k) hs hg
  have ho := goR_ok (k := k) hs hg
  have h34 := (h.2.2.2.2.2.1 h31).1.1
  exact RI_sr h q.1 v.1 (fun j j1 j2 => v.2.1 j j2 (by omega) (by omega) (by omega) (by omega)) v.2.2.1 v.2.2.2.1 (v.2.1 33 (by omega) (by omega) (by omega) (by omega) (by omega)) ho.2 (by have := v.2.2.2.2.2; omega)
theorem RI_goOn {A : pM} (h : RI A) (k : Int) : RI (rGoOn A k).2 := by
  unfold rGoOn; split
  · exact RI_ref h _
  · split
    · exact RI_ref h _
    · exact RI_say (RI_go h (by omega) (by omega) k) _
theorem bg_v {A : pM} {c : Int} (h : RI A) (hc : 0 ≤ c ∧ c ≤ 2) (k : Int) : (∀ a, a ≠ 88 → (a < 108 ∨ 114 < a) → goR (bgB A c) c k a = A a) ∧ (∀ j, (j < 31 ∨ 44 < j) → j ≠ 3 → goR (bgB A c) c k 88 j = A 88 j) ∧ goR (bgB A c) c k 88 3 = 0 ∧ goR (bgB A c) c k 88 44 = 0 ∧ (goR (bgB A c) c k 88 31 = 1 ∧ goR (bgB A c) c k 88 32 = 0 ∧ goR (bgB A c) c k 88 33 = c) ∧ GI (goR (bgB A c) c k) c (goR (bgB A c) c k) ∧ 1 ≤ goR (bgB A c) c k 88 34 := by
  have hs := (h.1 c hc.1 hc.2).ok
  obtain ⟨o1, o2⟩ := bgB_ok hs
  have b := bgB_v A c
  have v := goR_v (k := k) o1 o2
  have e34 := bgB_34 hs
  refine ⟨fun a a1 a2 => (v.1 a a1 a2).trans (b.1 a a1 a2), fun j j1 j2 => (v.2.1 j j2 (by omega) (by omega) (by omega) (by omega)).trans (b.2.2.2.2.2.2.2 j j2 (by omega) (by omega) (by omega) (by omega) (by omega) (by omega) (by omega)), v.2.2.1, v.2.2.2.1, ⟨?_, ?_, ?_⟩, (goR_ok o1 o2).2, by have := v.2.2.2.2.2; omega⟩
  · rw [v.2.1 31 (by omega) (by omega) (by omega) (by omega) (by omega)]; exact b.2.1
  · rw [v.2.1 32 (by omega) (by omega) (by omega) (by omega) (by omega)]; exact b.2.2.1
  · rw [v.2.1 33 (by omega) (by omega) (by omega) (by omega) (by omega)]; exact b.2.2.2.1
theorem RI_search {A : pM} (h : RI A) (c k : Int) : RI (rSearch A c k).2 := by
  unfold rSearch; split
  · exact RI_ref h _
  · split
    · exact RI_ref h _
    · rename_i q _
      have hc : 0 ≤ c ∧ c ≤ 2 := by omega
      have v := bg_v h hc k
      exact RI_say (RI_sr h hc v.1 v.2.1 v.2.2.1 v.2.2.2.1 v.2.2.2.2.1.2.2 v.2.2.2.2.2.1 v.2.2.2.2.2.2) _
theorem RSe_mk {A m : pM} (h10 : m 1 10 = 123) (hth : m 123 10 ≠ 0 ↔ A 88 31 ≠ 0) (hov : m 123 11 ≠ 0 ↔ A 88 32 ≠ 0) (h9 : m 123 9 = A 88 33) (hsg : SRG A m) (h8 : A 88 32 = 0 → ∀ b : Nat, (b : Int) = 5 + 18 * A 88 33 → m 123 8 = (b : Int)) : RSe A m 133 := Or.inr ⟨h10, rfl, hth, fun _ => ⟨hov, h9, hsg, h8⟩⟩
set_option maxHeartbeats 4000000 in
set_option maxRecDepth 100000 in
theorem p_goOn0 (d : Nat) (hd : 7 ≤ d) (n : Nat) (ok : pO) (mem : pM) (hU : ClUp n ok) (hG : RG mem mem n) (hRI : RI mem) (k : Int) (hk : -2147483648 ≤ k ∧ k ≤ 2147483647) (h31 : mem 88 31 = 0 ∨ mem 88 32 ≠ 0) : PM mi_X9_goOn d [vr 1, vi k] n ok mem n (fun r ok' mem' => r = some (vi (rGoOn mem k).1) ∧ ok = ok' ∧ RE mem mem' ∧ RG (rGoOn mem k).2 mem' n) := by
  obtain ⟨hP9, hN, ⟨hn4, ho0, ho1, ho2⟩, hCh, hDr, hM, ⟨hW80, hW82, hW84⟩, q86, q87, hSU, hn133⟩ := id hU
  obtain ⟨hN5, hN3⟩ := id hN
  obtain ⟨hM4, hM9⟩ := id hM
  obtain ⟨hW8, hWA, -, -⟩ := id hW80
  have hIO := hRI.1
  have hKO := hRI.2.1
  have ht9 := hRI.2.2.1
  have hq0 := hRI.2.2.2.1
  have hty := hRI.2.2.2.2.1
  have hNR := hG.1
  have hNR1 : mem 2 1 = mem 88 19 := hNR.1
  refine PM.of (by decide) (by decide) (Nat.le_refl _) (Nat.le_of_ble_eq_true rfl) ?_
  refine pw_iload_n 1 rfl dX9_goOn_0 rfl ?_
  refine pw_iconst dX9_goOn_1 ?_
  refine pw_icmp_lt 12 (by decide) dX9_goOn_2 (by omega) (by omega) (fun c2 => ?_) (fun c2 => ?_)
  · skip
    refine pw_aload_n 0 rfl dX9_goOn_12 rfl ?_
    refine pw_bipush dX9_goOn_13 (by decide) ?_
    refine pw_callV (d' := d - 1) (As := [_]) (ci := 9) dX9_goOn_15 ok_X9_refused kw_406 rfl rfl (Of.o (by assumption)) (by omega) rfl (Nat.le_of_ble_eq_true rfl) (p_refused (d - 1) (by omega) n ok _ hP9 _ (by omega)) (Nat.le_refl _) (Or.inl rfl) (fun r ok1 mem1 hq => ?_)
    obtain ⟨rfl, rfl, rfl⟩ := hq
    refine pw_iret dX9_goOn_18 rfl rfl ?_
    have e9 : rGoOn mem k = rRef mem (-3) := by
      unfold rGoOn; (repeat' split) <;> first | rfl | (exfalso; omega) | contradiction
    rw [e9]; exact ⟨rfl, rfl, RE1 _ _, RG_st hG hIO hKO _⟩
  · skip
    refine pw_iload_n 1 rfl dX9_goOn_5 rfl ?_
    refine pw_sipush dX9_goOn_6 (by decide) ?_
    refine pw_icmp_le 19 (by decide) dX9_goOn_9 (by omega) (by omega) (fun c9 => ?_) (fun c9 => ?_)
    · skip
      refine pw_aload_n 0 rfl dX9_goOn_19 rfl ?_
      refine pw_callV (d' := d - 1) (As := []) (ci := 9) dX9_goOn_20 ok_X9_searchNotOver kw_864 rfl rfl (Of.o (by assumption)) (by omega) rfl (Nat.le_of_ble_eq_true rfl) (p_sN0 (d - 1) (by omega) n ok mem hU mem hG h31) (Nat.le_refl _) (Or.inl rfl) (fun r ok1 mem1 hq => ?_)
      obtain ⟨rfl, rfl, rfl⟩ := hq
      refine pw_astore_n 2 rfl dX9_goOn_23 (by decide) ?_
      refine pw_aload_n 2 rfl dX9_goOn_24 rfl ?_
      refine pw_ifnonnull_f dX9_goOn_25 ?_
      refine pw_aload_n 0 rfl dX9_goOn_28 rfl ?_
      refine pw_bipush dX9_goOn_29 (by decide) ?_
      refine pw_callV (d' := d - 1) (As := [_]) (ci := 9) dX9_goOn_31 ok_X9_refused kw_406 rfl rfl (Of.o (by assumption)) (by omega) rfl (Nat.le_of_ble_eq_true rfl) (p_refused (d - 1) (by omega) n ok _ hP9 _ (by omega)) (Nat.le_refl _) (Or.inl rfl) (fun r ok1 mem1 hq => ?_)
      obtain ⟨rfl, rfl, rfl⟩ := hq
      refine pw_iret dX9_goOn_34 rfl rfl ?_
      have e9 : rGoOn mem k = rRef mem (-4) := by
        unfold rGoOn; (repeat' split) <;> first | rfl | (exfalso; omega) | contradiction
      rw [e9]; exact ⟨rfl, rfl, RE1 _ _, RG_st hG hIO hKO _⟩
    · skip
      refine pw_aload_n 0 rfl dX9_goOn_12 rfl ?_
      refine pw_bipush dX9_goOn_13 (by decide) ?_
      refine pw_callV (d' := d - 1) (As := [_]) (ci := 9) dX9_goOn_15 ok_X9_refused kw_406 rfl rfl (Of.o (by assumption)) (by omega) rfl (Nat.le_of_ble_eq_true rfl) (p_refused (d - 1) (by omega) n ok _ hP9 _ (by omega)) (Nat.le_refl _) (Or.inl rfl) (fun r ok1 mem1 hq => ?_)
      obtain ⟨rfl, rfl, rfl⟩ := hq
      refine pw_iret dX9_goOn_18 rfl rfl ?_
      have e9 : rGoOn mem k = rRef mem (-3) := by
        unfold rGoOn; (repeat' split) <;> first | rfl | (exfalso; omega) | contradiction
      rw [e9]; exact ⟨rfl, rfl, RE1 _ _, RG_st hG hIO hKO _⟩
set_option maxHeartbeats 4000000 in
set_option maxRecDepth 100000 in
theorem p_goOn1 (d : Nat) (hd : 7 ≤ d) (n : Nat) (ok : pO) (mem : pM) (hU : ClUp n ok) (hG : RG mem mem n) (hRI : RI mem) (k : Int) (hk : -2147483648 ≤ k ∧ k ≤ 2147483647) (hzz : ¬ (mem 88 31 = 0 ∨ mem 88 32 ≠ 0)) : PM mi_X9_goOn d [vr 1, vi k] n ok mem n (fun r ok' mem' => r = some (vi (rGoOn mem k).1) ∧ ok = ok' ∧ RE mem mem' ∧ RG (rGoOn mem k).2 mem' n) := by
  obtain ⟨hP9, hN, ⟨hn4, ho0, ho1, ho2⟩, hCh, hDr, hM, ⟨hW80, hW82, hW84⟩, q86, q87, hSU, hn133⟩ := id hU
  obtain ⟨hN5, hN3⟩ := id hN
  obtain ⟨hM4, hM9⟩ := id hM
  obtain ⟨hW8, hWA, -, -⟩ := id hW80
  have hIO := hRI.1
  have hKO := hRI.2.1
  have ht9 := hRI.2.2.1
  have hq0 := hRI.2.2.2.1
  have hty := hRI.2.2.2.2.1
  have hNR := hG.1
  have hNR1 : mem 2 1 = mem 88 19 := hNR.1
  have h31 : mem 88 31 ≠ 0 := by omega
  have h32 : mem 88 32 = 0 := by omega
  obtain ⟨hn9, hm10, hth, hso⟩ := RG_so hG h31
  have hS9 := hSU hn9
  obtain ⟨hS7, ⟨x124, x125, x126, x127, x128, x129, x130⟩, x131, x132, x133⟩ := id hS9
  obtain ⟨hov, h9, hSG, h8⟩ := hso h31
  have hSR := hSG.1
  have h15 := hSG.2.1
  have hSI := hRI.2.2.2.2.2.1 h31
  obtain ⟨c, hc33⟩ : ∃ c, c = mem 88 33 := ⟨_, rfl⟩
  have hq8 := hRI.2.2.2.2.2.2.2.1 h31
  rw [← hc33] at hq8
  have hc02 := hq8.1
  have hGI := hq8.2 h32
  refine PM.of (by decide) (by decide) (Nat.le_refl _) (Nat.le_of_ble_eq_true rfl) ?_
  refine pw_iload_n 1 rfl dX9_goOn_0 rfl ?_
  refine pw_iconst dX9_goOn_1 ?_
  refine pw_icmp_lt 12 (by decide) dX9_goOn_2 (by omega) (by omega) (fun c2 => ?_) (fun c2 => ?_)
  · skip
    refine pw_aload_n 0 rfl dX9_goOn_12 rfl ?_
    refine pw_bipush dX9_goOn_13 (by decide) ?_
    refine pw_callV (d' := d - 1) (As := [_]) (ci := 9) dX9_goOn_15 ok_X9_refused kw_406 rfl rfl (Of.o (by assumption)) (by omega) rfl (Nat.le_of_ble_eq_true rfl) (p_refused (d - 1) (by omega) n ok _ hP9 _ (by omega)) (Nat.le_refl _) (Or.inl rfl) (fun r ok1 mem1 hq => ?_)
    obtain ⟨rfl, rfl, rfl⟩ := hq
    refine pw_iret dX9_goOn_18 rfl rfl ?_
    have e9 : rGoOn mem k = rRef mem (-3) := by
      unfold rGoOn; (repeat' split) <;> first | rfl | (exfalso; omega) | contradiction
    rw [e9]; exact ⟨rfl, rfl, RE1 _ _, RG_st hG hIO hKO _⟩
  · skip
    refine pw_iload_n 1 rfl dX9_goOn_5 rfl ?_
    refine pw_sipush dX9_goOn_6 (by decide) ?_
    refine pw_icmp_le 19 (by decide) dX9_goOn_9 (by omega) (by omega) (fun c9 => ?_) (fun c9 => ?_)
    · skip
      refine pw_aload_n 0 rfl dX9_goOn_19 rfl ?_
      refine pw_callV (d' := d - 1) (As := []) (ci := 9) dX9_goOn_20 ok_X9_searchNotOver kw_864 rfl rfl (Of.o (by assumption)) (by omega) rfl (Nat.le_of_ble_eq_true rfl) (p_sNc (d - 1) (by omega) n ok mem hU mem hG h31 h32) (Nat.le_refl _) (Or.inl rfl) (fun r ok1 mem1 hq => ?_)
      obtain ⟨rfl, rfl, rfl⟩ := hq
      refine pw_astore_n 2 rfl dX9_goOn_23 (by decide) ?_
      refine pw_aload_n 2 rfl dX9_goOn_24 rfl ?_
      refine pw_ifnonnull_t 35 (by decide) (by omega) dX9_goOn_25 ?_
      obtain ⟨b, hbc⟩ : ∃ b : Nat, (b : Int) = 5 + 18 * c := ⟨(5 + 18 * c).toNat, by omega⟩
      have hC : ChUp n ok b := hCh b (by omega)
      have hok : ok 4 (c).toNat = true := by rcases (show c = 0 ∨ c = 1 ∨ c = 2 by omega) with e | e | e <;> (rw [e]; assumption)
      obtain ⟨hS, hV, hJ, hKR⟩ := hG.2.1 c b (by omega) (by omega) hbc
      have hI := hIO c (by omega) (by omega)
      have hOk := hI.ok
      obtain ⟨hR, hD, hSo⟩ := id hS
      obtain ⟨hC0, ⟨hC1, hC2, hC3, hC4, hC5, hC6, hC7⟩, hC8, ⟨hC9, hC10, hC11, hC12, hC13, hC14, hC15⟩, hC16, hC17, hb5, hb59⟩ := id hC
      have hb8 := h8 h32 b (by rw [← hc33]; exact hbc)
      have hv := goR_v (k := k) hOk hGI
      have hgv := go_v (k := k) hOk hGI
      refine pw_aload_n 2 rfl dX9_goOn_35 rfl ?_
      refine pw_iload_n 1 rfl dX9_goOn_36 rfl ?_
      refine pw_callV (d' := d - 1) (As := [_]) (ci := 7) dX9_goOn_37 ok_X7_takeMore kw_683 rfl rfl (Of.o (by assumption)) (by omega) rfl (Nat.le_of_ble_eq_true rfl) (y_takeMore (d - 1) (by omega) n ok mem hN b hC mem c (aAt mem c) hI hS hV hOk.2.1 hS9 hb8 (wr mem 88 3 1) (G1_w hGI) (S1_w hSG) (cIn.dg hI) k (by omega) (by omega)) (Nat.le_refl _) (Or.inl rfl) (fun r ok1 mem1 hq => ?_)
      obtain ⟨rfl, rfl, hsg9, hcv, hfk⟩ := hq
      have hsg : SRG (goR mem c k) mem1 := by rw [← hgv.1]; exact hsg9
      refine pw_aload_n 0 rfl dX9_goOn_40 rfl ?_
      refine pw_aload_n 2 rfl dX9_goOn_41 rfl ?_
      refine pw_callV (d' := d - 1) (As := []) (ci := 7) dX9_goOn_42 ok_X7_isWhole kw_856 rfl rfl (Of.o (by assumption)) (by omega) rfl (Nat.le_of_ble_eq_true rfl) (y_isWhole (d - 1) (by omega) n ok mem1 hS9) (Nat.le_refl _) (Or.inl rfl) (fun r ok1 mem2 hq => ?_)
      obtain ⟨rfl, rfl, rfl⟩ := hq
      rw [hsg9.1.1, hsg9.1.2.1]
      refine pw_if_eq 52 (by decide) dX9_goOn_45 (by split <;> omega) (fun c45 => ?_) (fun c45 => ?_)
      · skip
        rw [bz_0] at c45
        refine pw_iconst dX9_goOn_52 ?_
        refine pw_callV (d' := d - 1) (As := [_]) (ci := 9) dX9_goOn_53 ok_X9_answered kw_423 rfl rfl (Of.o (by assumption)) (by omega) rfl (Nat.le_of_ble_eq_true rfl) (p_answered (d - 1) (by omega) n ok _ hP9 _) (Nat.le_refl _) (Or.inl rfl) (fun r ok1 mem1 hq => ?_)
        obtain ⟨rfl, rfl, rfl⟩ := hq
        refine pw_iret dX9_goOn_56 rfl rfl ?_
        have e9 : rGoOn mem k = rSay (goR mem c k) (if goR mem c k 88 35 = goR mem c k 88 34 then 1 else 0) := by
          unfold rGoOn; rw [if_neg (by omega), if_neg (by omega), ← hc33]
        rw [e9]
        have hR2 : RI (goR mem c k) := by have := RI_go hRI h31 h32 k; rw [← hc33] at this; exact this
        refine ⟨congrArg (fun z => some (vi z)) ?_, rfl, RE_w (fun a a1 a2 => hfk.1 a (by omega) (by omega) (by omega)) _, RG_st ?_ hR2.1 hR2.2.1 0⟩
        · show _ = if goR mem c k 88 35 = goR mem c k 88 34 then (1 : Int) else 0
          rw [hgv.2.1, hgv.2.2]
          first | rw [if_pos c45] | rw [if_neg c45]
        · have hk31 : ∀ j, j = 31 ∨ j = 32 ∨ j = 33 → goR mem c k 88 j = mem 88 j := fun j hj => hv.2.1 j (by omega) (by omega) (by omega) (by omega) (by omega)
          have e1 := hfk.1 1 (by omega) (by omega) (by omega)
          refine RG_sr hG hRI (c := c) (by omega) hbc hv.1 (fun j j1 j2 => hv.2.1 j j2 (by omega) (by omega) (by omega) (by omega)) (fun a a1 a2 a3 a4 => hfk.1 a a2 a3 (by omega)) (fun j _ => by rw [e1]) hcv ?_
          rw [hn9]
          refine RSe_mk (by rw [e1]; exact hm10) ?_ ?_ ?_ hsg ?_
          · rw [hfk.2 10 (by omega) (by omega) (by omega), hk31 31 (by omega)]; exact ⟨fun _ => h31, fun _ => hth⟩
          · rw [hfk.2 11 (by omega) (by omega) (by omega), hk31 32 (by omega)]; exact hov
          · rw [hfk.2 9 (by omega) (by omega) (by omega), hk31 33 (by omega)]; exact h9
          · rw [hfk.2 8 (by omega) (by omega) (by omega), hk31 32 (by omega), hk31 33 (by omega)]; exact h8
      · skip
        rw [bz_n] at c45
        refine pw_iconst dX9_goOn_48 ?_
        refine pw_goto 53 (by decide) dX9_goOn_49 ?_
        refine pw_callV (d' := d - 1) (As := [_]) (ci := 9) dX9_goOn_53 ok_X9_answered kw_423 rfl rfl (Of.o (by assumption)) (by omega) rfl (Nat.le_of_ble_eq_true rfl) (p_answered (d - 1) (by omega) n ok _ hP9 _) (Nat.le_refl _) (Or.inl rfl) (fun r ok1 mem1 hq => ?_)
        obtain ⟨rfl, rfl, rfl⟩ := hq
        refine pw_iret dX9_goOn_56 rfl rfl ?_
        have e9 : rGoOn mem k = rSay (goR mem c k) (if goR mem c k 88 35 = goR mem c k 88 34 then 1 else 0) := by
          unfold rGoOn; rw [if_neg (by omega), if_neg (by omega), ← hc33]
        rw [e9]
        have hR2 : RI (goR mem c k) := by have := RI_go hRI h31 h32 k; rw [← hc33] at this; exact this
        refine ⟨congrArg (fun z => some (vi z)) ?_, rfl, RE_w (fun a a1 a2 => hfk.1 a (by omega) (by omega) (by omega)) _, RG_st ?_ hR2.1 hR2.2.1 0⟩
        · show _ = if goR mem c k 88 35 = goR mem c k 88 34 then (1 : Int) else 0
          rw [hgv.2.1, hgv.2.2]
          first | rw [if_pos c45] | rw [if_neg c45]
        · have hk31 : ∀ j, j = 31 ∨ j = 32 ∨ j = 33 → goR mem c k 88 j = mem 88 j := fun j hj => hv.2.1 j (by omega) (by omega) (by omega) (by omega) (by omega)
          have e1 := hfk.1 1 (by omega) (by omega) (by omega)
          refine RG_sr hG hRI (c := c) (by omega) hbc hv.1 (fun j j1 j2 => hv.2.1 j j2 (by omega) (by omega) (by omega) (by omega)) (fun a a1 a2 a3 a4 => hfk.1 a a2 a3 (by omega)) (fun j _ => by rw [e1]) hcv ?_
          rw [hn9]
          refine RSe_mk (by rw [e1]; exact hm10) ?_ ?_ ?_ hsg ?_
          · rw [hfk.2 10 (by omega) (by omega) (by omega), hk31 31 (by omega)]; exact ⟨fun _ => h31, fun _ => hth⟩
          · rw [hfk.2 11 (by omega) (by omega) (by omega), hk31 32 (by omega)]; exact hov
          · rw [hfk.2 9 (by omega) (by omega) (by omega), hk31 33 (by omega)]; exact h9
          · rw [hfk.2 8 (by omega) (by omega) (by omega), hk31 32 (by omega), hk31 33 (by omega)]; exact h8
    · skip
      refine pw_aload_n 0 rfl dX9_goOn_12 rfl ?_
      refine pw_bipush dX9_goOn_13 (by decide) ?_
      refine pw_callV (d' := d - 1) (As := [_]) (ci := 9) dX9_goOn_15 ok_X9_refused kw_406 rfl rfl (Of.o (by assumption)) (by omega) rfl (Nat.le_of_ble_eq_true rfl) (p_refused (d - 1) (by omega) n ok _ hP9 _ (by omega)) (Nat.le_refl _) (Or.inl rfl) (fun r ok1 mem1 hq => ?_)
      obtain ⟨rfl, rfl, rfl⟩ := hq
      refine pw_iret dX9_goOn_18 rfl rfl ?_
      have e9 : rGoOn mem k = rRef mem (-3) := by
        unfold rGoOn; (repeat' split) <;> first | rfl | (exfalso; omega) | contradiction
      rw [e9]; exact ⟨rfl, rfl, RE1 _ _, RG_st hG hIO hKO _⟩
theorem p_goOn (d : Nat) (hd : 7 ≤ d) (n : Nat) (ok : pO) (mem : pM) (hU : ClUp n ok) (hG : RG mem mem n) (hRI : RI mem) (k : Int) (hk : -2147483648 ≤ k ∧ k ≤ 2147483647) : PM mi_X9_goOn d [vr 1, vi k] n ok mem n (fun r ok' mem' => r = some (vi (rGoOn mem k).1) ∧ ok = ok' ∧ RE mem mem' ∧ RG (rGoOn mem k).2 mem' n) := by
  by_cases z : mem 88 31 = 0 ∨ mem 88 32 ≠ 0
  · exact p_goOn0 d hd n ok mem hU hG hRI k hk z
  · exact p_goOn1 d hd n ok mem hU hG hRI k hk (by omega)
set_option maxHeartbeats 4000000 in
set_option maxRecDepth 100000 in
theorem p_search0 (d : Nat) (hd : 1 ≤ d) (n : Nat) (ok : pO) (mem : pM) (hU : ClUp n ok) (hG : RG mem mem n) (hRI : RI mem) (c k : Int) (hc : -2147483648 ≤ c ∧ c ≤ 2147483647) (hk : -2147483648 ≤ k ∧ k ≤ 2147483647) (hbad : ¬ ((0 ≤ c ∧ c ≤ 2) ∧ (1 ≤ k ∧ k ≤ 1000))) : PM mi_X9_search d [vr 1, vi c, vi k] n ok mem n (fun r ok' mem' => r = some (vi (rSearch mem c k).1) ∧ ok = ok' ∧ RE mem mem' ∧ RG (rSearch mem c k).2 mem' n) := by
  obtain ⟨hP9, hN, ⟨hn4, ho0, ho1, ho2⟩, hCh, hDr, hM, ⟨hW80, hW82, hW84⟩, q86, q87, hSU, hn133⟩ := id hU
  obtain ⟨hN5, hN3⟩ := id hN
  obtain ⟨hM4, hM9⟩ := id hM
  obtain ⟨hW8, hWA, -, -⟩ := id hW80
  have hIO := hRI.1
  have hKO := hRI.2.1
  have ht9 := hRI.2.2.1
  have hq0 := hRI.2.2.2.1
  have hty := hRI.2.2.2.2.1
  have hNR := hG.1
  have hNR1 : mem 2 1 = mem 88 19 := hNR.1
  refine PM.of (by decide) (by decide) (Nat.le_refl _) (Nat.le_of_ble_eq_true rfl) ?_
  refine pw_iload_n 1 rfl dX9_search_0 rfl ?_
  refine pw_callS (d' := d - 1) (As := [_]) dX9_search_1 ok_X9_isChest kw_403 (by omega) rfl (Nat.le_of_ble_eq_true rfl) (p_isChest (d - 1) (by omega) n ok _ _ (by omega)) (Nat.le_refl _) (Or.inl rfl) (fun r ok1 mem1 hq => ?_)
  obtain ⟨rfl, rfl, rfl⟩ := hq
  refine pw_if_ne 14 (by decide) dX9_search_4 (by split <;> omega) (fun c4 => ?_) (fun c4 => ?_)
  · skip
    rw [ne_eq, bz_n] at c4
    refine pw_iload_n 2 rfl dX9_search_14 rfl ?_
    refine pw_iconst dX9_search_15 ?_
    refine pw_icmp_lt 26 (by decide) dX9_search_16 (by omega) (by omega) (fun c16 => ?_) (fun c16 => ?_)
    · skip
      refine pw_aload_n 0 rfl dX9_search_26 rfl ?_
      refine pw_bipush dX9_search_27 (by decide) ?_
      refine pw_callV (d' := d - 1) (As := [_]) (ci := 9) dX9_search_29 ok_X9_refused kw_406 rfl rfl (Of.o (by assumption)) (by omega) rfl (Nat.le_of_ble_eq_true rfl) (p_refused (d - 1) (by omega) n ok _ hP9 _ (by omega)) (Nat.le_refl _) (Or.inl rfl) (fun r ok1 mem1 hq => ?_)
      obtain ⟨rfl, rfl, rfl⟩ := hq
      refine pw_iret dX9_search_32 rfl rfl ?_
      have e9 : rSearch mem c k = rRef mem (-3) := by
        unfold rSearch; (repeat' split) <;> first | rfl | (exfalso; omega) | contradiction
      rw [e9]; exact ⟨rfl, rfl, RE1 _ _, RG_st hG hIO hKO _⟩
    · skip
      refine pw_iload_n 2 rfl dX9_search_19 rfl ?_
      refine pw_sipush dX9_search_20 (by decide) ?_
      refine pw_icmp_le 33 (by decide) dX9_search_23 (by omega) (by omega) (fun c23 => ?_) (fun c23 => ?_)
      · skip
        exfalso; exact hbad ⟨by omega, by omega⟩
      · skip
        refine pw_aload_n 0 rfl dX9_search_26 rfl ?_
        refine pw_bipush dX9_search_27 (by decide) ?_
        refine pw_callV (d' := d - 1) (As := [_]) (ci := 9) dX9_search_29 ok_X9_refused kw_406 rfl rfl (Of.o (by assumption)) (by omega) rfl (Nat.le_of_ble_eq_true rfl) (p_refused (d - 1) (by omega) n ok _ hP9 _ (by omega)) (Nat.le_refl _) (Or.inl rfl) (fun r ok1 mem1 hq => ?_)
        obtain ⟨rfl, rfl, rfl⟩ := hq
        refine pw_iret dX9_search_32 rfl rfl ?_
        have e9 : rSearch mem c k = rRef mem (-3) := by
          unfold rSearch; (repeat' split) <;> first | rfl | (exfalso; omega) | contradiction
        rw [e9]; exact ⟨rfl, rfl, RE1 _ _, RG_st hG hIO hKO _⟩
  · skip
    rw [bz_0] at c4
    refine pw_aload_n 0 rfl dX9_search_7 rfl ?_
    refine pw_bipush dX9_search_8 (by decide) ?_
    refine pw_callV (d' := d - 1) (As := [_]) (ci := 9) dX9_search_10 ok_X9_refused kw_406 rfl rfl (Of.o (by assumption)) (by omega) rfl (Nat.le_of_ble_eq_true rfl) (p_refused (d - 1) (by omega) n ok _ hP9 _ (by omega)) (Nat.le_refl _) (Or.inl rfl) (fun r ok1 mem1 hq => ?_)
    obtain ⟨rfl, rfl, rfl⟩ := hq
    refine pw_iret dX9_search_13 rfl rfl ?_
    have e9 : rSearch mem c k = rRef mem (-2) := by
      unfold rSearch; (repeat' split) <;> first | rfl | (exfalso; omega) | contradiction
    rw [e9]; exact ⟨rfl, rfl, RE1 _ _, RG_st hG hIO hKO _⟩
set_option maxHeartbeats 4000000 in
set_option maxRecDepth 100000 in
theorem p_search1 (d : Nat) (hd : 7 ≤ d) (n : Nat) (ok : pO) (mem : pM) (hU : ClUp n ok) (hG : RG mem mem n) (hRI : RI mem) (c k : Int) (hc : -2147483648 ≤ c ∧ c ≤ 2147483647) (hk : -2147483648 ≤ k ∧ k ≤ 2147483647) (hc2 : 0 ≤ c ∧ c ≤ 2) (hk2 : 1 ≤ k ∧ k ≤ 1000) : PM mi_X9_search d [vr 1, vi c, vi k] n ok mem 133 (fun r ok' mem' => r = some (vi (rSearch mem c k).1) ∧ (∀ a, a ≤ 122 → ok' a = ok a) ∧ ClUp 133 ok' ∧ RE mem mem' ∧ RG (rSearch mem c k).2 mem' 133) := by
  obtain ⟨hP9, hN, ⟨hn4, ho0, ho1, ho2⟩, hCh, hDr, hM, ⟨hW80, hW82, hW84⟩, q86, q87, hSU, hn133⟩ := id hU
  obtain ⟨hN5, hN3⟩ := id hN
  obtain ⟨hM4, hM9⟩ := id hM
  obtain ⟨hW8, hWA, -, -⟩ := id hW80
  have hIO := hRI.1
  have hKO := hRI.2.1
  have ht9 := hRI.2.2.1
  have hq0 := hRI.2.2.2.1
  have hty := hRI.2.2.2.2.1
  have hNR := hG.1
  have hNR1 : mem 2 1 = mem 88 19 := hNR.1
  refine PM.of (by decide) (by decide) (by omega) (Nat.le_of_ble_eq_true rfl) ?_
  refine pw_iload_n 1 rfl dX9_search_0 rfl ?_
  refine pw_callS (d' := d - 1) (As := [_]) dX9_search_1 ok_X9_isChest kw_403 (by omega) rfl (Nat.le_of_ble_eq_true rfl) (p_isChest (d - 1) (by omega) n ok _ _ (by omega)) (by omega) (Or.inl rfl) (fun r ok1 mem1 hq => ?_)
  obtain ⟨rfl, rfl, rfl⟩ := hq
  refine pw_if_ne 14 (by decide) dX9_search_4 (by split <;> omega) (fun c4 => ?_) (fun c4 => ?_)
  · skip
    rw [ne_eq, bz_n] at c4
    refine pw_iload_n 2 rfl dX9_search_14 rfl ?_
    refine pw_iconst dX9_search_15 ?_
    refine pw_icmp_lt 26 (by decide) dX9_search_16 (by omega) (by omega) (fun c16 => ?_) (fun c16 => ?_)
    · skip
      exfalso; omega
    · skip
      refine pw_iload_n 2 rfl dX9_search_19 rfl ?_
      refine pw_sipush dX9_search_20 (by decide) ?_
      refine pw_icmp_le 33 (by decide) dX9_search_23 (by omega) (by omega) (fun c23 => ?_) (fun c23 => ?_)
      · skip
        obtain ⟨b, hbc⟩ : ∃ b : Nat, (b : Int) = 5 + 18 * c := ⟨(5 + 18 * c).toNat, by omega⟩
        have hC : ChUp n ok b := hCh b (by omega)
        have hok : ok 4 (c).toNat = true := by rcases (show c = 0 ∨ c = 1 ∨ c = 2 by omega) with e | e | e <;> (rw [e]; assumption)
        obtain ⟨hS, hV, hJ, hKR⟩ := hG.2.1 c b (by omega) (by omega) hbc
        have hI := hIO c (by omega) (by omega)
        have hOk := hI.ok
        obtain ⟨hR, hD, hSo⟩ := id hS
        obtain ⟨hC0, ⟨hC1, hC2, hC3, hC4, hC5, hC6, hC7⟩, hC8, ⟨hC9, hC10, hC11, hC12, hC13, hC14, hC15⟩, hC16, hC17, hb5, hb59⟩ := id hC
        refine pw_aload_n 0 rfl dX9_search_33 rfl ?_
        refine pw_callV (d' := d - 1) (As := []) (ci := 9) dX9_search_34 ok_X9_searchToUse kw_527 rfl rfl (Of.o (by assumption)) (by omega) rfl (Nat.le_of_ble_eq_true rfl) (p_searchToUse (d - 1) (by omega) n ok mem hU mem hG) (Nat.le_refl _) (Or.inr ⟨by simp [lvA, lput, lput2, nrf]; omega, by simp [nrf]⟩) (fun r ok1 mem1 hq => ?_)
        obtain ⟨rfl, hok1, hU1, hm10, hma, hmk⟩ := hq
        obtain ⟨hP9b, hNb, ⟨hn4b, ho0b, ho1b, ho2b⟩, hChb, hDrb, hMb, hWb, q86b, q87b, hSUb, hn133b⟩ := id hU1
        have hS9b := hSUb rfl
        have hS7b := hS9b.1
        have hokb : ok1 4 c.toNat = true := by rw [hok1 4 (by omega)]; exact hok
        have hCb : ChUp 133 ok1 b := hChb b (by omega)
        have hb1 := bgB_v mem c
        obtain ⟨hok9, hGI9⟩ := bgB_ok hOk
        have hbv := bg_v hRI hc2 k
        have hgv := go_v (k := k) hok9 hGI9
        have hI9 : cIn (bgB mem c) c := cIn_c (fun a a1 a2 => hb1.1 a (by omega) (by omega)) hI
        have ht2 : mem1 2 = mem 2 := hma 2 (by omega) (by omega)
        refine pw_astore_n 3 rfl dX9_search_37 (by decide) ?_
        refine pw_aload_n 3 rfl dX9_search_38 rfl ?_
        refine pw_aload_n 0 rfl dX9_search_39 rfl ?_
        refine pw_gR 1 4 dX9_search_40 cOk9 (by assumption) (by decide) kw_348 (by decide) rfl ?_
        refine pw_iload_n 1 rfl dX9_search_43 rfl ?_
        refine pw_aaload (L := 3) dX9_search_44 (by omega) (by omega) rfl rfl (by decide) (by omega) (by omega) b hbc hokb ?_
        refine pw_iload_n 1 rfl dX9_search_45 rfl ?_
        refine pw_callV (d' := d - 1) (As := [_, _]) (ci := 7) dX9_search_46 ok_X7_begin kw_634 rfl rfl (Of.o (by assumption)) (by omega) rfl (Nat.le_of_ble_eq_true rfl) (y_begin (d - 1) (by omega) 133 ok1 mem1 hNb b hCb mem c hI (hS.m (fun a a1 a2 _ _ => hma a (by omega) (by omega))) (hV.m (hma _ (by omega) (by omega))) hS9b c (by omega) (by omega) (by rw [ht2]; omega)) (Nat.le_refl _) (Or.inl rfl) (fun r ok2 mem2 hq => ?_)
        obtain ⟨rfl, rfl, hsb, hfa, h8b, h9b, h10b, h11b, h12b⟩ := hq
        have hsg0 : SRG (wr (bgB mem c) 88 3 1) mem2 := S1_w (hsb.g h12b)
        have hSx : CS (bgB mem c) c mem2 b := CS_t hI (hS.m (fun a a1 a2 _ _ => (hfa a (by omega)).trans (hma a (by omega) (by omega)))) (chEq.of (fun a a1 a2 _ => hb1.1 a (by omega) (by omega)))
        have hVx : CV (bgB mem c) c mem2 b (aAt (bgB mem c) c) := CV_t (hV.m ((hfa _ (by omega)).trans (hma _ (by omega) (by omega)))) (fun s _ _ => ⟨by rw [hb1.1 90 (by omega) (by omega)], fun _ => by show bgB mem c 92 _ = mem 92 _; rw [hb1.1 92 (by omega) (by omega)]⟩)
        refine pw_aload_n 3 rfl dX9_search_49 rfl ?_
        refine pw_iload_n 2 rfl dX9_search_50 rfl ?_
        refine pw_callV (d' := d - 1) (As := [_]) (ci := 7) dX9_search_51 ok_X7_takeMore kw_683 rfl rfl (Of.o (by assumption)) (by omega) rfl (Nat.le_of_ble_eq_true rfl) (y_takeMore (d - 1) (by omega) 133 ok1 mem2 hNb b hCb (bgB mem c) c (aAt (bgB mem c) c) hI9 hSx hVx hok9.2.1 hS9b h8b (wr (bgB mem c) 88 3 1) (G1_w hGI9) hsg0 (cIn.dg hI9) k (by omega) (by rw [hfa 2 (by omega), ht2]; omega)) (Nat.le_refl _) (Or.inl rfl) (fun r ok3 mem3 hq => ?_)
        obtain ⟨rfl, rfl, hsg9, hcv, hfk⟩ := hq
        have hsg : SRG (goR (bgB mem c) c k) mem3 := by rw [← hgv.1]; exact hsg9
        refine pw_aload_n 0 rfl dX9_search_54 rfl ?_
        refine pw_aload_n 3 rfl dX9_search_55 rfl ?_
        refine pw_callV (d' := d - 1) (As := []) (ci := 7) dX9_search_56 ok_X7_isWhole kw_856 rfl rfl (Of.o (by assumption)) (by omega) rfl (Nat.le_of_ble_eq_true rfl) (y_isWhole (d - 1) (by omega) 133 ok1 mem3 hS9b) (Nat.le_refl _) (Or.inl rfl) (fun r ok4 mem4 hq => ?_)
        obtain ⟨rfl, rfl, rfl⟩ := hq
        rw [hsg9.1.1, hsg9.1.2.1]
        refine pw_if_eq 66 (by decide) dX9_search_59 (by split <;> omega) (fun c59 => ?_) (fun c59 => ?_)
        · skip
          rw [bz_0] at c59
          refine pw_iconst dX9_search_66 ?_
          refine pw_callV (d' := d - 1) (As := [_]) (ci := 9) dX9_search_67 ok_X9_answered kw_423 rfl rfl (Of.o (by assumption)) (by omega) rfl (Nat.le_of_ble_eq_true rfl) (p_answered (d - 1) (by omega) 133 ok1 mem3 hP9b _) (Nat.le_refl _) (Or.inl rfl) (fun r ok5 mem5 hq => ?_)
          obtain ⟨rfl, rfl, rfl⟩ := hq
          refine pw_iret dX9_search_70 rfl rfl ?_
          have e9 : rSearch mem c k = rSay (goR (bgB mem c) c k) (if goR (bgB mem c) c k 88 35 = goR (bgB mem c) c k 88 34 then 1 else 0) := by
            unfold rSearch; rw [if_neg (by omega), if_neg (by omega)]
          rw [e9]
          have hR2 : RI (goR (bgB mem c) c k) := by have := RI_search hRI c k; rw [e9] at this; exact RI_sr hRI hc2 hbv.1 hbv.2.1 hbv.2.2.1 hbv.2.2.2.1 hbv.2.2.2.2.1.2.2 hbv.2.2.2.2.2.1 hbv.2.2.2.2.2.2
          have hall : ∀ a, a ≠ 1 → a ≠ b + 4 → a ≠ b + 7 → a < 123 → mem3 a = mem a := fun a a1 a2 a3 a4 => ((hfk.1 a a2 a3 (by omega)).trans (hfa a (by omega))).trans (hma a a1 (by omega))
          have hall1 : ∀ j, j ≠ 10 → mem3 1 j = mem 1 j := fun j hj => by rw [hfk.1 1 (by omega) (by omega) (by omega), hfa 1 (by omega)]; exact hmk j hj
          refine ⟨congrArg (fun z => some (vi z)) ?_, hok1, hU1, RE_w (fun a a1 a2 => hall a (by omega) (by omega) (by omega) (by omega)) _, RG_st ?_ hR2.1 hR2.2.1 0⟩
          · show _ = if goR (bgB mem c) c k 88 35 = goR (bgB mem c) c k 88 34 then (1 : Int) else 0
            rw [hgv.2.1, hgv.2.2]
            first | rw [if_pos c59] | rw [if_neg c59]
          · have hcv2 : CV mem c mem3 b (aAt mem c) := CV_t hcv (fun s _ _ => ⟨by rw [hb1.1 90 (by omega) (by omega)], fun _ => by show mem 92 _ = bgB mem c 92 _; rw [hb1.1 92 (by omega) (by omega)]⟩)
            refine RG_sr hG hRI (c := c) (by omega) hbc hbv.1 hbv.2.1 hall hall1 hcv2 ?_
            obtain ⟨v31, v32, v33⟩ := hbv.2.2.2.2.1
            refine RSe_mk ?_ ?_ ?_ ?_ hsg ?_
            · rw [hfk.1 1 (by omega) (by omega) (by omega), hfa 1 (by omega)]; exact hm10
            · rw [hfk.2 10 (by omega) (by omega) (by omega), h10b, v31]
            · rw [hfk.2 11 (by omega) (by omega) (by omega), h11b, v32]
            · rw [hfk.2 9 (by omega) (by omega) (by omega), h9b, v33]
            · intro _ b' hb'
              rw [hfk.2 8 (by omega) (by omega) (by omega), h8b]
              rw [v33] at hb'; omega
        · skip
          rw [bz_n] at c59
          refine pw_iconst dX9_search_62 ?_
          refine pw_goto 67 (by decide) dX9_search_63 ?_
          refine pw_callV (d' := d - 1) (As := [_]) (ci := 9) dX9_search_67 ok_X9_answered kw_423 rfl rfl (Of.o (by assumption)) (by omega) rfl (Nat.le_of_ble_eq_true rfl) (p_answered (d - 1) (by omega) 133 ok1 mem3 hP9b _) (Nat.le_refl _) (Or.inl rfl) (fun r ok5 mem5 hq => ?_)
          obtain ⟨rfl, rfl, rfl⟩ := hq
          refine pw_iret dX9_search_70 rfl rfl ?_
          have e9 : rSearch mem c k = rSay (goR (bgB mem c) c k) (if goR (bgB mem c) c k 88 35 = goR (bgB mem c) c k 88 34 then 1 else 0) := by
            unfold rSearch; rw [if_neg (by omega), if_neg (by omega)]
          rw [e9]
          have hR2 : RI (goR (bgB mem c) c k) := by have := RI_search hRI c k; rw [e9] at this; exact RI_sr hRI hc2 hbv.1 hbv.2.1 hbv.2.2.1 hbv.2.2.2.1 hbv.2.2.2.2.1.2.2 hbv.2.2.2.2.2.1 hbv.2.2.2.2.2.2
          have hall : ∀ a, a ≠ 1 → a ≠ b + 4 → a ≠ b + 7 → a < 123 → mem3 a = mem a := fun a a1 a2 a3 a4 => ((hfk.1 a a2 a3 (by omega)).trans (hfa a (by omega))).trans (hma a a1 (by omega))
          have hall1 : ∀ j, j ≠ 10 → mem3 1 j = mem 1 j := fun j hj => by rw [hfk.1 1 (by omega) (by omega) (by omega), hfa 1 (by omega)]; exact hmk j hj
          refine ⟨congrArg (fun z => some (vi z)) ?_, hok1, hU1, RE_w (fun a a1 a2 => hall a (by omega) (by omega) (by omega) (by omega)) _, RG_st ?_ hR2.1 hR2.2.1 0⟩
          · show _ = if goR (bgB mem c) c k 88 35 = goR (bgB mem c) c k 88 34 then (1 : Int) else 0
            rw [hgv.2.1, hgv.2.2]
            first | rw [if_pos c59] | rw [if_neg c59]
          · have hcv2 : CV mem c mem3 b (aAt mem c) := CV_t hcv (fun s _ _ => ⟨by rw [hb1.1 90 (by omega) (by omega)], fun _ => by show mem 92 _ = bgB mem c 92 _; rw [hb1.1 92 (by omega) (by omega)]⟩)
            refine RG_sr hG hRI (c := c) (by omega) hbc hbv.1 hbv.2.1 hall hall1 hcv2 ?_
            obtain ⟨v31, v32, v33⟩ := hbv.2.2.2.2.1
            refine RSe_mk ?_ ?_ ?_ ?_ hsg ?_
            · rw [hfk.1 1 (by omega) (by omega) (by omega), hfa 1 (by omega)]; exact hm10
            · rw [hfk.2 10 (by omega) (by omega) (by omega), h10b, v31]
            · rw [hfk.2 11 (by omega) (by omega) (by omega), h11b, v32]
            · rw [hfk.2 9 (by omega) (by omega) (by omega), h9b, v33]
            · intro _ b' hb'
              rw [hfk.2 8 (by omega) (by omega) (by omega), h8b]
              rw [v33] at hb'; omega
      · skip
        exfalso; omega
  · skip
    exfalso; rw [if_pos hc2] at c4; omega
