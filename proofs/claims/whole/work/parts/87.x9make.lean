/-! ===== make ===== -/
theorem RG_mk {A A2 m m1 : pM} {n : Nat} {c : Int} {b : Nat} (h : RG A m n) (hR : RI A) (hc : 0 ≤ c ∧ c ≤ 2) (hb : (b : Int) = 5 + 18 * c) (hch : ∀ c', 0 ≤ c' → c' ≤ 2 → c' ≠ c → chX A A2 c') (hcx : RCx A2 c m1 b) (eA : ∀ a, a = 103 ∨ a = 106 ∨ a = 119 ∨ a = 122 → A2 a = A a) (kA : ∀ j, (j < 31 ∨ 44 < j) → j ≠ 3 → j ≠ 21 → A2 88 j = A 88 j) (em : ∀ a, a ≠ 1 → (a < b ∨ b + 17 < a) → (a < 59 ∨ 77 < a) → a < 123 → m1 a = m a) (e1 : ∀ k, k ≠ 10 → m1 1 k = m 1 k) (hbn : RBn m1) (hSe : RSe A2 m1 133) : RG A2 m1 133 := by
  obtain ⟨h1, h2, h3, h4, h5, h6, h7, h8⟩ := h
  refine ⟨NR_c h1 (kA _ (by omega) (by omega) (by omega)) (kA _ (by omega) (by omega) (by omega)) (kA _ (by omega) (by omega) (by omega)) (eA _ (by omega)) (em _ (by omega) (by omega) (by omega) (by omega)) (em _ (by omega) (by omega) (by omega) (by omega)), fun c' b' c1 c2 hb' => ?_, hbn, RTy_c h4 (kA _ (by omega) (by omega) (by omega)) (eA _ (by omega)) (e1 _ (by omega)) (em _ (by omega) (by omega) (by omega) (by omega)), RAt_c h5 (kA _ (by omega) (by omega) (by omega)) (kA _ (by omega) (by omega) (by omega)) (kA _ (by omega) (by omega) (by omega)) (kA _ (by omega) (by omega) (by omega)) (e1 _ (by omega)) (e1 _ (by omega)) (e1 _ (by omega)) (e1 _ (by omega)), RMk_c h6 (kA _ (by omega) (by omega) (by omega)) (kA _ (by omega) (by omega) (by omega)) (kA _ (by omega) (by omega) (by omega)) (eA _ (by omega)) (em _ (by omega) (by omega) (by omega) (by omega)) (em _ (by omega) (by omega) (by omega) (by omega)), REx_c h7 (kA _ (by omega) (by omega) (by omega)) (eA _ (by omega)) (em _ (by omega) (by omega) (by omega) (by omega)) (em _ (by omega) (by omega) (by omega) (by omega)), hSe⟩
  by_cases q : c' = c
  · subst q
    obtain rfl : b = b' := by omega
    exact hcx
  · exact ((h2 c' b' c1 c2 hb').m (fun a a1 a2 a3 => em a (by omega) (by omega) (by omega) (by omega))).x (hR.1 c' c1 c2) (hch c' c1 c2 q) (hR.2.1 c' c1 c2).2.1
theorem rMake_in {A : pM} {c x mv : Int} (hc : 0 ≤ c ∧ c ≤ 2) (hv : 0 ≤ mv ∧ mv ≤ 40) {r : Int} {B : pM} (h : mkL c x mv 6 0 A = (r, B)) : rMake A c x mv = rSay (if r = -1 then mkF A B c else mkT B c) r := by
  unfold rMake; rw [if_neg (fun z => z hc), if_neg (fun z => z hv), h]; rfl
theorem mkL_all {A : pM} (hR : RI A) {c x mv : Int} (hc : 0 ≤ c ∧ c ≤ 2) (f : Nat) (k : Int) (B : pM) (h : mkI A B c) (hk : 0 ≤ k) (h44 : f = 0 → B 88 44 = 0) : mkI A (mkL c x mv f k B).2 c ∧ (mkL c x mv f k B).2 88 44 = 0 ∧ ((mkL c x mv f k B).1 = -1 ∨ (0 ≤ (mkL c x mv f k B).1 ∧ cIn (mkL c x mv f k B).2 c)) := by
  have hI := hR.1 c hc.1 hc.2
  induction f generalizing k B with
  | zero => exact ⟨h, h44 rfl, Or.inl rfl⟩
  | succ f ih =>
    rw [mkL_s]
    obtain ⟨s1, s2, s3, s4, -, -⟩ := mkS_m (y := x + k) h hI.2.2.2.1 hI.2.2.2.2.1
    split
    · exact ⟨s1, s3, Or.inr ⟨hk, cIn_c (fun a a1 a2 => s4 a a1 (by omega)) s2⟩⟩
    · exact ih (k + 1) _ s1 (by omega) (fun _ => s3)
theorem RI_make {A : pM} (h : RI A) (c x mv : Int) : RI (rMake A c x mv).2 := by
  by_cases hc : 0 ≤ c ∧ c ≤ 2
  · by_cases hv : 0 ≤ mv ∧ mv ≤ 40
    · obtain ⟨q1, q2, q3⟩ := mkL_all h (x := x) (mv := mv) hc 6 0 A (mkI.rf c h.2.2.2.1) (by omega) (fun z => absurd z (by omega))
      rw [rMake_in hc hv (r := (mkL c x mv 6 0 A).1) (B := (mkL c x mv 6 0 A).2) rfl]
      refine RI_say ?_ _
      split
      · exact RI_mkF h q1 q2
      · rename_i w
        rcases q3 with z | z
        · exact absurd z w
        · exact RI_mkT h hc q1 z.2 q2
    · unfold rMake; rw [if_neg (fun z => z hc), if_pos hv]; exact RI_ref h _
  · unfold rMake; rw [if_pos hc]; exact RI_ref h _
set_option maxHeartbeats 4000000 in
set_option maxRecDepth 100000 in
theorem p_make0 (d : Nat) (hd : 1 ≤ d) (n : Nat) (ok : pO) (mem : pM) (hU : ClUp n ok) (hG : RG mem mem n) (hRI : RI mem) (c x v : Int) (hc : -2147483648 ≤ c ∧ c ≤ 2147483647) (hx : -2147483648 ≤ x ∧ x ≤ 2147483647) (hv : -2147483648 ≤ v ∧ v ≤ 2147483647) (hbad : ¬ ((0 ≤ c ∧ c ≤ 2) ∧ (0 ≤ v ∧ v ≤ 40))) : PM mi_X9_make d [vr 1, vi c, vi x, vi v] n ok mem n (fun r ok' mem' => r = some (vi (rMake mem c x v).1) ∧ ok = ok' ∧ RE mem mem' ∧ RG (rMake mem c x v).2 mem' n) := by
  obtain ⟨hP9, hN, ⟨hn4, ho0, ho1, ho2⟩, hCh, hDr, hM, ⟨hW80, hW82, hW84⟩, q86, q87, hSU, hn133⟩ := id hU
  obtain ⟨hN5, hN3⟩ := id hN
  obtain ⟨hM4, hM9⟩ := id hM
  obtain ⟨hW8, hWA, -, -⟩ := id hW80
  have hIO := hRI.1
  have hKO := hRI.2.1
  have ht9 := hRI.2.2.1
  have hq0 := hRI.2.2.2.1
  have hty := hRI.2.2.2.2.1
  have hNR := hG.1
  have hNR1 : mem 2 1 = mem 88 19 := hNR.1
  refine PM.of (by decide) (by decide) (Nat.le_refl _) (Nat.le_of_ble_eq_true rfl) ?_
  refine pw_iload_n 1 rfl dX9_make_0 rfl ?_
  refine pw_callS (d' := d - 1) (As := [_]) dX9_make_1 ok_X9_isChest kw_403 (by omega) rfl (Nat.le_of_ble_eq_true rfl) (p_isChest (d - 1) (by omega) n ok _ _ (by omega)) (Nat.le_refl _) (Or.inl rfl) (fun r ok1 mem1 hq => ?_)
  obtain ⟨rfl, rfl, rfl⟩ := hq
  refine pw_if_ne 14 (by decide) dX9_make_4 (by split <;> omega) (fun c4 => ?_) (fun c4 => ?_)
  · skip
    rw [ne_eq, bz_n] at c4
    refine pw_iload_n 3 rfl dX9_make_14 rfl ?_
    refine pw_if_lt 24 (by decide) dX9_make_15 (by omega) (fun c15 => ?_) (fun c15 => ?_)
    · skip
      refine pw_aload_n 0 rfl dX9_make_24 rfl ?_
      refine pw_bipush dX9_make_25 (by decide) ?_
      refine pw_callV (d' := d - 1) (As := [_]) (ci := 9) dX9_make_27 ok_X9_refused kw_406 rfl rfl (Of.o (by assumption)) (by omega) rfl (Nat.le_of_ble_eq_true rfl) (p_refused (d - 1) (by omega) n ok _ hP9 _ (by omega)) (Nat.le_refl _) (Or.inl rfl) (fun r ok1 mem1 hq => ?_)
      obtain ⟨rfl, rfl, rfl⟩ := hq
      refine pw_iret dX9_make_30 rfl rfl ?_
      have e9 : rMake mem c x v = rRef mem (-3) := by
        unfold rMake; (repeat' split) <;> first | rfl | (exfalso; omega) | contradiction
      rw [e9]; exact ⟨rfl, rfl, RE1 _ _, RG_st hG hIO hKO _⟩
    · skip
      refine pw_iload_n 3 rfl dX9_make_18 rfl ?_
      refine pw_bipush dX9_make_19 (by decide) ?_
      refine pw_icmp_le 31 (by decide) dX9_make_21 (by omega) (by omega) (fun c21 => ?_) (fun c21 => ?_)
      · skip
        exfalso; exact hbad ⟨by omega, by omega⟩
      · skip
        refine pw_aload_n 0 rfl dX9_make_24 rfl ?_
        refine pw_bipush dX9_make_25 (by decide) ?_
        refine pw_callV (d' := d - 1) (As := [_]) (ci := 9) dX9_make_27 ok_X9_refused kw_406 rfl rfl (Of.o (by assumption)) (by omega) rfl (Nat.le_of_ble_eq_true rfl) (p_refused (d - 1) (by omega) n ok _ hP9 _ (by omega)) (Nat.le_refl _) (Or.inl rfl) (fun r ok1 mem1 hq => ?_)
        obtain ⟨rfl, rfl, rfl⟩ := hq
        refine pw_iret dX9_make_30 rfl rfl ?_
        have e9 : rMake mem c x v = rRef mem (-3) := by
          unfold rMake; (repeat' split) <;> first | rfl | (exfalso; omega) | contradiction
        rw [e9]; exact ⟨rfl, rfl, RE1 _ _, RG_st hG hIO hKO _⟩
  · skip
    rw [bz_0] at c4
    refine pw_aload_n 0 rfl dX9_make_7 rfl ?_
    refine pw_bipush dX9_make_8 (by decide) ?_
    refine pw_callV (d' := d - 1) (As := [_]) (ci := 9) dX9_make_10 ok_X9_refused kw_406 rfl rfl (Of.o (by assumption)) (by omega) rfl (Nat.le_of_ble_eq_true rfl) (p_refused (d - 1) (by omega) n ok _ hP9 _ (by omega)) (Nat.le_refl _) (Or.inl rfl) (fun r ok1 mem1 hq => ?_)
    obtain ⟨rfl, rfl, rfl⟩ := hq
    refine pw_iret dX9_make_13 rfl rfl ?_
    have e9 : rMake mem c x v = rRef mem (-2) := by
      unfold rMake; (repeat' split) <;> first | rfl | (exfalso; omega) | contradiction
    rw [e9]; exact ⟨rfl, rfl, RE1 _ _, RG_st hG hIO hKO _⟩
set_option maxHeartbeats 4000000 in
set_option maxRecDepth 100000 in
theorem p_make1 (d : Nat) (hd : 7 ≤ d) (n : Nat) (ok : pO) (mem : pM) (hU : ClUp n ok) (hG : RG mem mem n) (hRI : RI mem) (c x v : Int) (hc : -2147483648 ≤ c ∧ c ≤ 2147483647) (hx : -2147483648 ≤ x ∧ x ≤ 2147483647) (hv : -2147483648 ≤ v ∧ v ≤ 2147483647) (hc2 : 0 ≤ c ∧ c ≤ 2) (hv2 : 0 ≤ v ∧ v ≤ 40) : PM mi_X9_make d [vr 1, vi c, vi x, vi v] n ok mem 133 (fun r ok' mem' => r = some (vi (rMake mem c x v).1) ∧ (∀ a, a ≤ 122 → ok' a = ok a) ∧ ClUp 133 ok' ∧ RE mem mem' ∧ RG (rMake mem c x v).2 mem' 133) := by
  obtain ⟨hP9, hN, ⟨hn4, ho0, ho1, ho2⟩, hCh, hDr, hM, ⟨hW80, hW82, hW84⟩, q86, q87, hSU, hn133⟩ := id hU
  obtain ⟨hN5, hN3⟩ := id hN
  obtain ⟨hM4, hM9⟩ := id hM
  obtain ⟨hW8, hWA, -, -⟩ := id hW80
  have hIO := hRI.1
  have hKO := hRI.2.1
  have ht9 := hRI.2.2.1
  have hq0 := hRI.2.2.2.1
  have hty := hRI.2.2.2.2.1
  have hNR := hG.1
  have hNR1 : mem 2 1 = mem 88 19 := hNR.1
  refine PM.of (by decide) (by decide) (by omega) (Nat.le_of_ble_eq_true rfl) ?_
  refine pw_iload_n 1 rfl dX9_make_0 rfl ?_
  refine pw_callS (d' := d - 1) (As := [_]) dX9_make_1 ok_X9_isChest kw_403 (by omega) rfl (Nat.le_of_ble_eq_true rfl) (p_isChest (d - 1) (by omega) n ok _ _ (by omega)) (by omega) (Or.inl rfl) (fun r ok1 mem1 hq => ?_)
  obtain ⟨rfl, rfl, rfl⟩ := hq
  refine pw_if_ne 14 (by decide) dX9_make_4 (by split <;> omega) (fun c4 => ?_) (fun c4 => ?_)
  · skip
    rw [ne_eq, bz_n] at c4
    refine pw_iload_n 3 rfl dX9_make_14 rfl ?_
    refine pw_if_lt 24 (by decide) dX9_make_15 (by omega) (fun c15 => ?_) (fun c15 => ?_)
    · skip
      exfalso; omega
    · skip
      refine pw_iload_n 3 rfl dX9_make_18 rfl ?_
      refine pw_bipush dX9_make_19 (by decide) ?_
      refine pw_icmp_le 31 (by decide) dX9_make_21 (by omega) (by omega) (fun c21 => ?_) (fun c21 => ?_)
      · skip
        obtain ⟨b, hbc⟩ : ∃ b : Nat, (b : Int) = 5 + 18 * c := ⟨(5 + 18 * c).toNat, by omega⟩
        have hC : ChUp n ok b := hCh b (by omega)
        have hok : ok 4 (c).toNat = true := by rcases (show c = 0 ∨ c = 1 ∨ c = 2 by omega) with e | e | e <;> (rw [e]; assumption)
        obtain ⟨hS, hV, hJ, hKR⟩ := hG.2.1 c b (by omega) (by omega) hbc
        have hI := hIO c (by omega) (by omega)
        have hOk := hI.ok
        obtain ⟨hR, hD, hSo⟩ := id hS
        obtain ⟨hC0, ⟨hC1, hC2, hC3, hC4, hC5, hC6, hC7⟩, hC8, ⟨hC9, hC10, hC11, hC12, hC13, hC14, hC15⟩, hC16, hC17, hb5, hb59⟩ := id hC
        refine pw_aload_n 0 rfl dX9_make_31 rfl ?_
        refine pw_callV (d' := d - 1) (As := []) (ci := 9) dX9_make_32 ok_X9_searchToUse kw_527 rfl rfl (Of.o (by assumption)) (by omega) rfl (Nat.le_of_ble_eq_true rfl) (p_searchToUse (d - 1) (by omega) n ok mem hU mem hG) (Nat.le_refl _) (Or.inr ⟨by simp [lvA, lput, lput2, nrf]; omega, by simp [nrf]⟩) (fun r ok1 mem1 hq => ?_)
        obtain ⟨rfl, hok1, hU1, hm10, hma, hmk⟩ := hq
        obtain ⟨hP9b, hNb, ⟨hn4b, ho0b, ho1b, ho2b⟩, hChb, hDrb, hMb, hWb, q86b, q87b, hSUb, hn133b⟩ := id hU1
        have hS9b := hSUb rfl
        have hS7b := hS9b.1
        have hokb : ok1 4 c.toNat = true := by rw [hok1 4 (by omega)]; exact hok
        have hCb : ChUp 133 ok1 b := hChb b (by omega)
        have hC59 : ChUp 133 ok1 59 := hChb 59 (by omega)
        have hC0b : Of 133 ok1 0 b := hCb.1
        obtain ⟨M6, hM6⟩ : ∃ M6, M6 = mkL c x v 6 0 mem := ⟨_, rfl⟩
        have hbn1 : RBn mem1 := RBn_c hG.2.2.1 (fun a a1 a2 _ => hma a (by omega) (by omega))
        refine pw_astore dX9_make_35 (by decide) ?_
        refine pw_iconst dX9_make_37 ?_
        refine pw_istore dX9_make_38 (by decide) ?_
        refine pw_iconst dX9_make_40 ?_
        refine pw_istore dX9_make_41 (by decide) ?_
        have lp43 : ∀ (kz : Nat) (i : Int) (md : Int) (B : pM) (m1 : pM), 6 - i < (kz : Int) → (0 ≤ i ∧ i ≤ 6) → ((md = -1 ∧ M6 = mkL c x v (6 - i).toNat i B ∧ (i = 0 ∨ B 88 44 = 0)) ∨ (0 ≤ md ∧ md ≤ 5 ∧ M6 = (md, B) ∧ cIn B c ∧ CS B c m1 59 ∧ CV B c m1 59 (aAt B c) ∧ B 88 44 = 0 ∧ m1 123 9 = -1)) → (RBn m1) → (mkI mem B c) → (∀ a, a ≠ 1 → (a < 59 ∨ 77 < a) → a < 123 → m1 a = mem a) → (∀ k, k ≠ 10 → m1 1 k = mem 1 k) → (m1 1 10 = 123) → PW mi_X9_make d 133 n (fun r ok' mem' => r = some (vi (rMake mem c x v).1) ∧ (∀ a, a ≤ 122 → ok' a = ok a) ∧ ClUp 133 ok' ∧ RE mem mem' ∧ RG (rMake mem c x v).2 mem' 133) 43 [(0, vr 1), (1, vi c), (2, vi x), (3, vi v), (4, vr 123), (5, vi md), (6, vi i)] [] 133 ok1 m1 := by
          intro kz
          induction kz with
          | zero =>
            intro i md B m1 hk hi hmd hbn hmk hfa hf1 h10
            exact absurd hk (by omega)
          | succ kz ih =>
            intro i md B m1 hk hi hmd hbn hmk hfa hf1 h10
            have hmdr : -1 ≤ md ∧ md ≤ 5 := by
              rcases hmd with z | z
              · have := z.1; omega
              · exact ⟨by have := z.1; omega, z.2.1⟩
            refine pw_iload dX9_make_43 rfl ?_
            refine pw_bipush dX9_make_45 (by decide) ?_
            refine pw_icmp_ge 108 (by decide) dX9_make_47 (by omega) (by omega) (fun c47 => ?_) (fun c47 => ?_)
            · skip
              refine pw_aload dX9_make_108 rfl ?_
              refine pw_iconst dX9_make_110 ?_
              refine pw_pZ 10 10 rfl dX9_make_111 cOk7 hS7b (by decide) kw_569 rfl rfl (by decide) (by omega) ?_
              refine pw_iload dX9_make_114 rfl ?_
              refine pw_iconst dX9_make_116 ?_
              refine pw_icmp_ne 126 (by decide) dX9_make_117 (by omega) (by omega) (fun c117 => ?_) (fun c117 => ?_)
              · skip
                have hmd2 : cIn B c ∧ CS B c m1 59 ∧ CV B c m1 59 (aAt B c) ∧ B 88 44 = 0 ∧ m1 123 9 = -1 := by
                  rcases hmd with z | z
                  · exfalso; omega
                  · exact z.2.2.2
                refine pw_aload_n 0 rfl dX9_make_126 rfl ?_
                refine pw_gR 1 4 dX9_make_127 cOk9 (by assumption) (by decide) kw_348 (by decide) rfl ?_
                refine pw_iload_n 1 rfl dX9_make_130 rfl ?_
                refine pw_aaload (L := 3) dX9_make_131 (by omega) (by omega) rfl rfl (by decide) (by omega) (by omega) b hbc hokb ?_
                refine pw_aload_n 0 rfl dX9_make_132 rfl ?_
                refine pw_gR 2 59 dX9_make_133 cOk9 (by assumption) (by decide) kw_349 (by decide) rfl ?_
                refine pw_callV (d' := d - 1) (As := [_]) (ci := 0) dX9_make_136 ok_X0_become kw_511 rfl rfl (Of.o (by assumption)) (by omega) rfl (Nat.le_of_ble_eq_true rfl) (h_become (d - 1) (by omega) 133 ok1 (wr m1 123 10 0) b 59 hCb hC59 (by omega) B c hmd2.1 (aAt B c) (hmd2.2.1.m (fun a a1 a2 _ _ => wr_a _ _ _ (by omega))) (hmd2.2.2.1.m (wr_a _ _ _ (by omega)))) (Nat.le_refl _) (Or.inl rfl) (fun r ok6 m6 hq => ?_)
                obtain ⟨rfl, rfl, hcm, hS6, hV6⟩ := hq
                refine pw_aload_n 0 rfl dX9_make_139 rfl ?_
                refine pw_iload_n 1 rfl dX9_make_140 rfl ?_
                refine pw_iload dX9_make_141 rfl ?_
                refine pw_callV (d' := d - 1) (As := [_, _]) (ci := 9) dX9_make_143 ok_X9_built kw_415 rfl rfl (Of.o (by assumption)) (by omega) rfl (Nat.le_of_ble_eq_true rfl) (p_built (d - 1) (by omega) 133 ok1 m6 hU1 c md (by omega) b hbc (Or.inr ⟨by rw [hcm.1 1 (by omega), wr_a _ _ _ (by omega)]; exact h10, rfl⟩)) (Nat.le_refl _) (Or.inl rfl) (fun r ok7 m7 hq => ?_)
                obtain ⟨rfl, rfl, rfl⟩ := hq
                refine pw_iret dX9_make_146 rfl rfl ?_
                have hB6 : mkL c x v 6 0 mem = (md, B) := by
                  rw [← hM6]
                  rcases hmd with z | z
                  · exfalso; omega
                  · exact z.2.2.1
                have e9 := rMake_in hc2 hv2 hB6
                rw [if_neg c117] at e9
                rw [e9]
                obtain ⟨t1, t2, t3, t4, t5, t6, t7⟩ := mkT_v hmk
                have hR2 := RI_mkT hRI hc2 hmk hmd2.1 hmd2.2.2.2.1
                have hm5 : ∀ a, a ≠ 123 → wr m1 123 10 0 a = m1 a := fun a q => wr_a _ _ _ q
                have e6 : ∀ a, (a < b ∨ b + 15 < a) → a ≠ 123 → m6 a = m1 a := fun a a1 a2 => (hcm.1 a a1).trans (hm5 a a2)
                have eb : bltM m6 b c = wr m6 (b + 16) 2 0 := by
                  unfold bltM; rw [if_neg (fun z => by have := z.2; rw [hcm.1 123 (by omega), wr_k _ _ _ _ (by omega), hmd2.2.2.2.2] at this; omega)]
                rw [eb]
                refine ⟨rfl, hok1, hU1, RE_w (fun a a1 a2 => by rw [wr_a _ _ _ (by omega), e6 a (by omega) (by omega)]; exact hfa a (by omega) (by omega) (by omega)) _, RG_st ?_ hR2.1 hR2.2.1 0⟩
                have hq := hG.2.1 c b hc2.1 hc2.2 hbc
                refine RG_mk hG hRI hc2 hbc (fun c' _ _ q => mkT_x hmk c' q) ⟨CS_t hmd2.1 (hS6.m (fun a a1 a2 _ _ => wr_a _ _ _ (by omega))) (chEq.of (fun a a1 a2 _ => t1 a (by omega) (by omega))), CV_t (hV6.m (wr_a _ _ _ (by omega))) (fun s _ _ => ⟨by rw [t1 90 (by omega) (by omega)], fun _ => by show mkT B c 92 _ = B 92 _; rw [t1 92 (by omega) (by omega)]⟩), ?_, ?_⟩ (fun a ha => ?_) t2 (fun a a1 a2 a3 a4 => by rw [wr_a _ _ _ (by omega), e6 a (by omega) (by omega)]; exact hfa a a1 a3 a4) (fun k hk => by rw [wr_a _ _ _ (by omega), e6 1 (by omega) (by omega)]; exact hf1 k hk) (RBn_c hbn (fun a a1 a2 _ => by rw [wr_a _ _ _ (by omega), e6 a (by omega) (by omega)])) ?_
                · rw [wr_a _ _ _ (by omega), hcm.2 13 (by omega) (by omega) (by omega), hcm.2 14 (by omega) (by omega) (by omega), hm5 b (by omega), hfa b (by omega) (by omega) (by omega), t1 99 (by omega) (by omega), t1 100 (by omega) (by omega), hmk.1 99 (by omega), hmk.1 100 (by omega)]; exact hq.2.2.1
                · have ek : wr m6 (b + 16) 2 0 (b + 16) 1 = mem (b + 16) 1 := by rw [wr_k _ _ _ _ (by omega), e6 (b + 16) (by omega) (by omega), hfa (b + 16) (by omega) (by omega) (by omega)]
                  refine ⟨by rw [wr_s, t7, if_pos rfl], by rw [ek]; exact hq.2.2.2.2.1, fun i i1 i2 => ?_⟩
                  rw [t7, if_pos rfl] at i2; omega
                · rcases ha with z | z | z | z <;> (subst z; exact (t1 _ (by omega) (by omega)).trans (hmk.1 _ (by omega)))
                · refine Or.inr ⟨by rw [wr_a _ _ _ (by omega), e6 1 (by omega) (by omega)]; exact h10, rfl, ?_, fun z => absurd t4 z⟩
                  rw [wr_a _ _ _ (by omega), hcm.1 123 (by omega), wr_s, t4]
              · skip
                refine pw_aload_n 0 rfl dX9_make_120 rfl ?_
                refine pw_iconst dX9_make_121 ?_
                refine pw_callV (d' := d - 1) (As := [_]) (ci := 9) dX9_make_122 ok_X9_answered kw_423 rfl rfl (Of.o (by assumption)) (by omega) rfl (Nat.le_of_ble_eq_true rfl) (p_answered (d - 1) (by omega) 133 ok1 _ hP9b _) (Nat.le_refl _) (Or.inl rfl) (fun r ok5 mem5 hq => ?_)
                obtain ⟨rfl, rfl, rfl⟩ := hq
                refine pw_iret dX9_make_125 rfl rfl ?_
                have hB6 : mkL c x v 6 0 mem = (-1, B) := by
                  rw [← hM6]
                  rcases hmd with z | z
                  · rw [z.2.1, show (6 - i).toNat = 0 by omega]; rfl
                  · exfalso; omega
                have hz44 : B 88 44 = 0 := by
                  rcases hmd with z | z
                  · rcases z.2.2 with y | y
                    · exfalso; omega
                    · exact y
                  · exfalso; omega
                have e9 := rMake_in hc2 hv2 hB6
                rw [if_pos rfl] at e9
                rw [e9]
                obtain ⟨v1, v2, v3, v4, v5, v6, v7⟩ := mkF_v hmk
                have hR2 := RI_mkF hRI hmk hz44
                have hm5 : ∀ a, a ≠ 123 → wr m1 123 10 0 a = m1 a := fun a q => wr_a _ _ _ q
                refine ⟨rfl, hok1, hU1, RE_w (fun a a1 a2 => by rw [hm5 a (by omega)]; exact hfa a (by omega) (by omega) (by omega)) _, RG_st ?_ hR2.1 hR2.2.1 0⟩
                refine RG_mk hG hRI hc2 hbc (fun c' _ _ _ => chX.rf (fun a a1 a2 => v1 a a1 (by omega)) c') ?_ (fun a ha => ?_) v3 (fun a a1 a2 a3 a4 => by rw [hm5 a (by omega)]; exact hfa a a1 a3 a4) (fun k hk => by rw [hm5 1 (by omega)]; exact hf1 k hk) (RBn_c hbn (fun a a1 a2 _ => hm5 a (by omega))) ?_
                · exact ((hG.2.1 c b hc2.1 hc2.2 hbc).m (fun a a1 a2 _ => by rw [hm5 a (by omega)]; exact hfa a (by omega) (by omega) (by omega))).x hI (chX.rf (fun a a1 a2 => v1 a a1 (by omega)) c) (hKO c hc2.1 hc2.2).2.1
                · rcases ha with z | z | z | z
                  · subst z; exact v1 _ (by omega) (by omega)
                  · subst z; exact v2 _ (by omega)
                  · subst z; exact v2 _ (by omega)
                  · subst z; exact v2 _ (by omega)
                · refine Or.inr ⟨by rw [hm5 1 (by omega)]; exact h10, rfl, ?_, fun z => absurd v5 z⟩
                  rw [wr_s, v5]
            · skip
              refine pw_iload dX9_make_50 rfl ?_
              refine pw_iconst dX9_make_52 ?_
              refine pw_icmp_ne 108 (by decide) dX9_make_53 (by omega) (by omega) (fun c53 => ?_) (fun c53 => ?_)
              · skip
                refine pw_aload dX9_make_108 rfl ?_
                refine pw_iconst dX9_make_110 ?_
                refine pw_pZ 10 10 rfl dX9_make_111 cOk7 hS7b (by decide) kw_569 rfl rfl (by decide) (by omega) ?_
                refine pw_iload dX9_make_114 rfl ?_
                refine pw_iconst dX9_make_116 ?_
                refine pw_icmp_ne 126 (by decide) dX9_make_117 (by omega) (by omega) (fun c117 => ?_) (fun c117 => ?_)
                · skip
                  have hmd2 : cIn B c ∧ CS B c m1 59 ∧ CV B c m1 59 (aAt B c) ∧ B 88 44 = 0 ∧ m1 123 9 = -1 := by
                    rcases hmd with z | z
                    · exfalso; omega
                    · exact z.2.2.2
                  refine pw_aload_n 0 rfl dX9_make_126 rfl ?_
                  refine pw_gR 1 4 dX9_make_127 cOk9 (by assumption) (by decide) kw_348 (by decide) rfl ?_
                  refine pw_iload_n 1 rfl dX9_make_130 rfl ?_
                  refine pw_aaload (L := 3) dX9_make_131 (by omega) (by omega) rfl rfl (by decide) (by omega) (by omega) b hbc hokb ?_
                  refine pw_aload_n 0 rfl dX9_make_132 rfl ?_
                  refine pw_gR 2 59 dX9_make_133 cOk9 (by assumption) (by decide) kw_349 (by decide) rfl ?_
                  refine pw_callV (d' := d - 1) (As := [_]) (ci := 0) dX9_make_136 ok_X0_become kw_511 rfl rfl (Of.o (by assumption)) (by omega) rfl (Nat.le_of_ble_eq_true rfl) (h_become (d - 1) (by omega) 133 ok1 (wr m1 123 10 0) b 59 hCb hC59 (by omega) B c hmd2.1 (aAt B c) (hmd2.2.1.m (fun a a1 a2 _ _ => wr_a _ _ _ (by omega))) (hmd2.2.2.1.m (wr_a _ _ _ (by omega)))) (Nat.le_refl _) (Or.inl rfl) (fun r ok6 m6 hq => ?_)
                  obtain ⟨rfl, rfl, hcm, hS6, hV6⟩ := hq
                  refine pw_aload_n 0 rfl dX9_make_139 rfl ?_
                  refine pw_iload_n 1 rfl dX9_make_140 rfl ?_
                  refine pw_iload dX9_make_141 rfl ?_
                  refine pw_callV (d' := d - 1) (As := [_, _]) (ci := 9) dX9_make_143 ok_X9_built kw_415 rfl rfl (Of.o (by assumption)) (by omega) rfl (Nat.le_of_ble_eq_true rfl) (p_built (d - 1) (by omega) 133 ok1 m6 hU1 c md (by omega) b hbc (Or.inr ⟨by rw [hcm.1 1 (by omega), wr_a _ _ _ (by omega)]; exact h10, rfl⟩)) (Nat.le_refl _) (Or.inl rfl) (fun r ok7 m7 hq => ?_)
                  obtain ⟨rfl, rfl, rfl⟩ := hq
                  refine pw_iret dX9_make_146 rfl rfl ?_
                  have hB6 : mkL c x v 6 0 mem = (md, B) := by
                    rw [← hM6]
                    rcases hmd with z | z
                    · exfalso; omega
                    · exact z.2.2.1
                  have e9 := rMake_in hc2 hv2 hB6
                  rw [if_neg c117] at e9
                  rw [e9]
                  obtain ⟨t1, t2, t3, t4, t5, t6, t7⟩ := mkT_v hmk
                  have hR2 := RI_mkT hRI hc2 hmk hmd2.1 hmd2.2.2.2.1
                  have hm5 : ∀ a, a ≠ 123 → wr m1 123 10 0 a = m1 a := fun a q => wr_a _ _ _ q
                  have e6 : ∀ a, (a < b ∨ b + 15 < a) → a ≠ 123 → m6 a = m1 a := fun a a1 a2 => (hcm.1 a a1).trans (hm5 a a2)
                  have eb : bltM m6 b c = wr m6 (b + 16) 2 0 := by
                    unfold bltM; rw [if_neg (fun z => by have := z.2; rw [hcm.1 123 (by omega), wr_k _ _ _ _ (by omega), hmd2.2.2.2.2] at this; omega)]
                  rw [eb]
                  refine ⟨rfl, hok1, hU1, RE_w (fun a a1 a2 => by rw [wr_a _ _ _ (by omega), e6 a (by omega) (by omega)]; exact hfa a (by omega) (by omega) (by omega)) _, RG_st ?_ hR2.1 hR2.2.1 0⟩
                  have hq := hG.2.1 c b hc2.1 hc2.2 hbc
                  refine RG_mk hG hRI hc2 hbc (fun c' _ _ q => mkT_x hmk c' q) ⟨CS_t hmd2.1 (hS6.m (fun a a1 a2 _ _ => wr_a _ _ _ (by omega))) (chEq.of (fun a a1 a2 _ => t1 a (by omega) (by omega))), CV_t (hV6.m (wr_a _ _ _ (by omega))) (fun s _ _ => ⟨by rw [t1 90 (by omega) (by omega)], fun _ => by show mkT B c 92 _ = B 92 _; rw [t1 92 (by omega) (by omega)]⟩), ?_, ?_⟩ (fun a ha => ?_) t2 (fun a a1 a2 a3 a4 => by rw [wr_a _ _ _ (by omega), e6 a (by omega) (by omega)]; exact hfa a a1 a3 a4) (fun k hk => by rw [wr_a _ _ _ (by omega), e6 1 (by omega) (by omega)]; exact hf1 k hk) (RBn_c hbn (fun a a1 a2 _ => by rw [wr_a _ _ _ (by omega), e6 a (by omega) (by omega)])) ?_
                  · rw [wr_a _ _ _ (by omega), hcm.2 13 (by omega) (by omega) (by omega), hcm.2 14 (by omega) (by omega) (by omega), hm5 b (by omega), hfa b (by omega) (by omega) (by omega), t1 99 (by omega) (by omega), t1 100 (by omega) (by omega), hmk.1 99 (by omega), hmk.1 100 (by omega)]; exact hq.2.2.1
                  · have ek : wr m6 (b + 16) 2 0 (b + 16) 1 = mem (b + 16) 1 := by rw [wr_k _ _ _ _ (by omega), e6 (b + 16) (by omega) (by omega), hfa (b + 16) (by omega) (by omega) (by omega)]
                    refine ⟨by rw [wr_s, t7, if_pos rfl], by rw [ek]; exact hq.2.2.2.2.1, fun i i1 i2 => ?_⟩
                    rw [t7, if_pos rfl] at i2; omega
                  · rcases ha with z | z | z | z <;> (subst z; exact (t1 _ (by omega) (by omega)).trans (hmk.1 _ (by omega)))
                  · refine Or.inr ⟨by rw [wr_a _ _ _ (by omega), e6 1 (by omega) (by omega)]; exact h10, rfl, ?_, fun z => absurd t4 z⟩
                    rw [wr_a _ _ _ (by omega), hcm.1 123 (by omega), wr_s, t4]
                · skip
                  exfalso; omega
              · skip
                have hmd1 : md = -1 ∧ M6 = mkL c x v (6 - i).toNat i B ∧ (i = 0 ∨ B 88 44 = 0) := by
                  rcases hmd with z | z
                  · exact z
                  · exfalso; omega
                obtain ⟨A9, c9, v9, hI9, hS9, hV9⟩ := hbn
                obtain ⟨hy1, hy2, hy3, hy4, hy5, hy6⟩ := mkS_m (y := x + i) hmk hI.2.2.2.1 hI.2.2.2.2.1
                have hb99 : B 99 c = mem 99 c := by rw [hmk.1 99 (by omega)]
                have hb100 : B 100 c = mem 100 c := by rw [hmk.1 100 (by omega)]
                refine pw_aload_n 0 rfl dX9_make_56 rfl ?_
                refine pw_gR 3 77 dX9_make_57 cOk9 (by assumption) (by decide) kw_350 (by decide) rfl ?_
                refine pw_aload_n 0 rfl dX9_make_60 rfl ?_
                refine pw_gR 2 59 dX9_make_61 cOk9 (by assumption) (by decide) kw_349 (by decide) rfl ?_
                refine pw_iload_n 2 rfl dX9_make_64 rfl ?_
                refine pw_iload dX9_make_65 rfl ?_
                refine pw_iadd dX9_make_67 ?_
                refine pw_callV (d' := d - 1) (As := [_, _]) (ci := 2) dX9_make_68 ok_X2_drawChest kw_610 rfl rfl (Of.o (by assumption)) (by omega) rfl (Nat.le_of_ble_eq_true rfl) (d_chest (d - 1) (by omega) 133 ok1 m1 59 hC59 hDrb A9 c9 v9 hI9 hS9 hV9 B c (x + i) (by rw [hb99]; exact hI.2.2.2.1) (by rw [hb100]; exact hI.2.2.2.2.1)) (Nat.le_refl _) (Or.inl rfl) (fun r ok2 m2 hq => ?_)
                obtain ⟨rfl, rfl, hcd, hSy, hVy⟩ := hq
                have ht2 : m2 2 = mem 2 := (hcd.1 2 (by omega) (by omega)).trans (hfa 2 (by omega) (by omega) (by omega))
                refine pw_aload dX9_make_71 rfl ?_
                refine pw_aload_n 0 rfl dX9_make_73 rfl ?_
                refine pw_gR 2 59 dX9_make_74 cOk9 (by assumption) (by decide) kw_349 (by decide) rfl ?_
                refine pw_iconst dX9_make_77 ?_
                refine pw_callV (d' := d - 1) (As := [_, _]) (ci := 7) dX9_make_78 ok_X7_begin kw_634 rfl rfl (Of.o (by assumption)) (by omega) rfl (Nat.le_of_ble_eq_true rfl) (y_begin (d - 1) (by omega) 133 ok1 m2 hNb 59 hC59 (byM B c (x + i)) c hy2 hSy hVy hS9b (-1) (by omega) (by omega) (by rw [ht2]; omega)) (Nat.le_refl _) (Or.inl rfl) (fun r ok2 m3 hq => ?_)
                obtain ⟨rfl, rfl, hsb, hfa3, h8b, h9b, h10b, h11b, h12b⟩ := hq
                have hb1 := bgB_v (byM B c (x + i)) c
                have hgv := go_v (k := 1024) hy6 hy5
                have hIx : cIn (bgB (byM B c (x + i)) c) c := cIn_c (fun a a1 a2 => hb1.1 a (by omega) (by omega)) hy2
                have hsg0 : SRG (wr (bgB (byM B c (x + i)) c) 88 3 1) m3 := S1_w (hsb.g h12b)
                have hSx : CS (bgB (byM B c (x + i)) c) c m3 59 := CS_t hy2 (hSy.m (fun a a1 a2 _ _ => hfa3 a (by omega))) (chEq.of (fun a a1 a2 _ => hb1.1 a (by omega) (by omega)))
                have hVx : CV (bgB (byM B c (x + i)) c) c m3 59 (aAt (bgB (byM B c (x + i)) c) c) := CV_t (hVy.m (hfa3 _ (by omega))) (fun s _ _ => ⟨by rw [hb1.1 90 (by omega) (by omega)], fun _ => by show bgB (byM B c (x + i)) c 92 _ = byM B c (x + i) 92 _; rw [hb1.1 92 (by omega) (by omega)]⟩)
                refine pw_aload dX9_make_81 rfl ?_
                refine pw_sipush dX9_make_83 (by decide) ?_
                refine pw_callV (d' := d - 1) (As := [_]) (ci := 7) dX9_make_86 ok_X7_takeMore kw_683 rfl rfl (Of.o (by assumption)) (by omega) rfl (Nat.le_of_ble_eq_true rfl) (y_takeMore (d - 1) (by omega) 133 ok1 m3 hNb 59 hC59 (bgB (byM B c (x + i)) c) c (aAt (bgB (byM B c (x + i)) c) c) hIx hSx hVx hy6.2.1 hS9b h8b (wr (bgB (byM B c (x + i)) c) 88 3 1) (G1_w hy5) hsg0 (cIn.dg hIx) 1024 (by omega) (by rw [hfa3 2 (by omega), ht2]; omega)) (Nat.le_refl _) (Or.inl rfl) (fun r ok3 m4 hq => ?_)
                obtain ⟨rfl, rfl, hsg9, hcv, hfk⟩ := hq
                have hsg : SRG (mkS B c (x + i)) m4 := by
                  show SRG (goR (bgB (byM B c (x + i)) c) c 1024) m4
                  rw [← hgv.1]; exact hsg9
                have hmv := mkS_v B c (x + i)
                have hSI9 : SIs (mkS B c (x + i)) := hmv.1.1.1.s hmv.2.2.2.2.2
                obtain ⟨L, hLe, hLL⟩ := way_c hSI9
                refine pw_aload dX9_make_89 rfl ?_
                refine pw_callV (d' := d - 1) (As := []) (ci := 7) dX9_make_91 ok_X7_wayLength kw_731 rfl rfl (Of.o (by assumption)) (by omega) rfl (Nat.le_of_ble_eq_true rfl) (y_wayLength (d - 1) (by omega) 133 ok1 m4 hS9b (mkS B c (x + i)) hSI9 hsg.1 hsg.2.1) (Nat.le_refl _) (Or.inl rfl) (fun r ok4 m5 hq => ?_)
                obtain ⟨rfl, rfl, rfl⟩ := hq
                rw [hLe]
                refine pw_iload_n 3 rfl dX9_make_94 rfl ?_
                refine pw_icmp_ne 102 (by decide) dX9_make_95 (by omega) (by omega) (fun c95 => ?_) (fun c95 => ?_)
                · skip
                  refine pw_iinc dX9_make_102 rfl (by decide) ?_
                  refine pw_goto 43 (by decide) dX9_make_105 ?_
                  have hal : ∀ a, a ≠ 1 → (a < 59 ∨ 77 < a) → a < 123 → m4 a = mem a := fun a a1 a2 a3 => (((hfk.1 a (by omega) (by omega) (by omega)).trans (hfa3 a (by omega))).trans (hcd.1 a (by omega) (by omega))).trans (hfa a a1 a2 a3)
                  have hal1 : m4 1 = m1 1 := ((hfk.1 1 (by omega) (by omega) (by omega)).trans (hfa3 1 (by omega))).trans (hcd.1 1 (by omega) (by omega))
                  have hbn4 : RBn m4 := ⟨bgB (byM B c (x + i)) c, c, aAt (bgB (byM B c (x + i)) c) c, hIx, hSx.m (fun a a1 a2 a3 a4 => hfk.1 a a3 a4 (by omega)), hcv⟩
                  obtain ⟨f9, hf9⟩ : ∃ f9 : Nat, (6 - i).toNat = f9 + 1 := ⟨(6 - i).toNat - 1, by omega⟩
                  have hmd9 := hmd1.2.1
                  rw [hf9, mkL_s] at hmd9
                  have hf10 : (6 - (i + 1)).toNat = f9 := by omega
                  rw [if_neg (by omega)] at hmd9
                  exact pw_locs _ rfl (ih (i + 1) md (mkS B c (x + i)) m4 (by omega) (by omega) (Or.inl ⟨hmd1.1, by rw [hf10]; exact hmd9, Or.inr hy3⟩) hbn4 hy1 hal (fun k hk => by rw [hal1]; exact hf1 k hk) (by rw [hal1]; exact h10))
                · skip
                  refine pw_iload dX9_make_98 rfl ?_
                  refine pw_istore dX9_make_100 (by decide) ?_
                  refine pw_iinc dX9_make_102 rfl (by decide) ?_
                  refine pw_goto 43 (by decide) dX9_make_105 ?_
                  have hal : ∀ a, a ≠ 1 → (a < 59 ∨ 77 < a) → a < 123 → m4 a = mem a := fun a a1 a2 a3 => (((hfk.1 a (by omega) (by omega) (by omega)).trans (hfa3 a (by omega))).trans (hcd.1 a (by omega) (by omega))).trans (hfa a a1 a2 a3)
                  have hal1 : m4 1 = m1 1 := ((hfk.1 1 (by omega) (by omega) (by omega)).trans (hfa3 1 (by omega))).trans (hcd.1 1 (by omega) (by omega))
                  have hbn4 : RBn m4 := ⟨bgB (byM B c (x + i)) c, c, aAt (bgB (byM B c (x + i)) c) c, hIx, hSx.m (fun a a1 a2 a3 a4 => hfk.1 a a3 a4 (by omega)), hcv⟩
                  obtain ⟨f9, hf9⟩ : ∃ f9 : Nat, (6 - i).toNat = f9 + 1 := ⟨(6 - i).toNat - 1, by omega⟩
                  have hmd9 := hmd1.2.1
                  rw [hf9, mkL_s] at hmd9
                  have hf10 : (6 - (i + 1)).toNat = f9 := by omega
                  rw [if_pos (by omega)] at hmd9
                  have hqx : chEq (bgB (byM B c (x + i)) c) c (mkS B c (x + i)) c := chEq.of (fun a a1 a2 _ => (hy4 a a1 (by omega)).trans (hb1.1 a (by omega) (by omega)).symm)
                  have hSS : CS (mkS B c (x + i)) c m4 59 := CS_t hIx (hSx.m (fun a a1 a2 a3 a4 => hfk.1 a a3 a4 (by omega))) hqx
                  have hVS : CV (mkS B c (x + i)) c m4 59 (aAt (mkS B c (x + i)) c) := CV_t hcv (fun s _ _ => ⟨by rw [hy4 90 (by omega) (by omega), hb1.1 90 (by omega) (by omega)], fun _ => by show mkS B c (x + i) 92 _ = bgB (byM B c (x + i)) c 92 _; rw [hy4 92 (by omega) (by omega), hb1.1 92 (by omega) (by omega)]⟩)
                  have h49 : m4 123 9 = -1 := by rw [hfk.2 9 (by omega) (by omega) (by omega)]; exact h9b
                  exact pw_locs _ rfl (ih (i + 1) i (mkS B c (x + i)) m4 (by omega) (by omega) (Or.inr ⟨by omega, by omega, hmd9, cIn_c (fun a a1 a2 => hy4 a a1 (by omega)) hy2, hSS, hVS, hy3, h49⟩) hbn4 hy1 hal (fun k hk => by rw [hal1]; exact hf1 k hk) (by rw [hal1]; exact h10))
        exact pw_locs _ rfl (lp43 7 0 (-1) mem mem1 (by omega) (by omega) (Or.inl ⟨rfl, by rw [show ((6 : Int) - 0).toNat = 6 from rfl]; exact hM6, Or.inl rfl⟩) hbn1 (mkI.rf c hq0) (fun a a1 a2 a3 => hma a a1 (by omega)) hmk hm10)
      · skip
        exfalso; omega
  · skip
    exfalso; rw [if_pos hc2] at c4; omega
