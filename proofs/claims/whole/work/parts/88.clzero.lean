/-! ===== a chest that was just made: all is 0, then emptied ===== -/
set_option maxHeartbeats 4000000 in
set_option maxRecDepth 100000 in
theorem h_settle0 (d : Nat) (hd : 1 ≤ d) (n : Nat) (ok : pO) (mem : pM) (b : Nat) (hC : ChUp n ok b) (hsp : ∀ s, 0 ≤ s → s ≤ 15 → 0 ≤ mem (b + 3) s ∧ mem (b + 3) s ≤ 1) (hkd : ∀ s, 0 ≤ s → s ≤ 15 → -1 ≤ mem (b + 2) s ∧ mem (b + 2) s ≤ 0) (h0 : mem (b + 8) 7 = 0) : PM mi_X0_settle d [vr b] n ok mem n (fun r ok' mem' => r = none ∧ ok = ok' ∧ stM b mem mem') := by
  obtain ⟨hC0, ⟨hC1, hC2, hC3, hC4, hC5, hC6, hC7⟩, hC8, ⟨hC9, hC10, hC11, hC12, hC13, hC14, hC15⟩, hC16, hC17, hb5, hb59⟩ := id hC
  refine PM.of (by decide) (by decide) (Nat.le_refl _) (Nat.le_of_ble_eq_true rfl) ?_
  refine pw_aload_n 0 rfl dX0_settle_0 rfl ?_
  refine pw_iconst dX0_settle_1 ?_
  refine pw_pI 11 11 rfl dX0_settle_2 cOk0 (by assumption) (by decide) kw_253 rfl rfl (by decide) (by omega) ?_
  refine pw_aload_n 0 rfl dX0_settle_5 rfl ?_
  refine pw_iconst dX0_settle_6 ?_
  refine pw_pI 12 12 rfl dX0_settle_7 cOk0 (by assumption) (by decide) kw_256 rfl rfl (by decide) (by omega) ?_
  refine pw_aload_n 0 rfl dX0_settle_10 rfl ?_
  refine pw_iconst dX0_settle_11 ?_
  refine pw_pZ 10 10 rfl dX0_settle_12 cOk0 (by assumption) (by decide) kw_251 rfl rfl (by decide) (by omega) ?_
  obtain ⟨m0, em0⟩ : ∃ y, y = wr (wr (wr mem b 11 1) b 12 0) b 10 0 := ⟨_, rfl⟩
  rw [← em0]
  have hM0 : stM b mem m0 := by rw [em0]; exact ⟨fun a a1 a2 a3 => by rw [wr_a _ _ _ a1, wr_a _ _ _ a1, wr_a _ _ _ a1], fun k k1 k2 k3 => by rw [wr_k _ _ _ _ k1, wr_k _ _ _ _ k3, wr_k _ _ _ _ k2]⟩
  have z11 : 0 ≤ m0 b 11 ∧ m0 b 11 ≤ 1 := by rw [em0, wr_k _ _ _ _ (by omega), wr_k _ _ _ _ (by omega), wr_s]; omega
  have z12 : 0 ≤ m0 b 12 ∧ m0 b 12 ≤ 0 := by rw [em0, wr_k _ _ _ _ (by omega), wr_s]; omega
  have z10 : m0 b 10 = 0 ∨ m0 b 10 = 1 := by rw [em0, wr_s]; omega
  refine pw_iconst dX0_settle_15 ?_
  refine pw_istore_n 1 rfl dX0_settle_16 (by decide) ?_
  have lp17 : ∀ (kz : Nat) (i : Nat) (m1 : pM), 16 - (i : Int) < (kz : Int) → (i ≤ 16) → (stM b mem m1) → (0 ≤ m1 b 11 ∧ m1 b 11 ≤ 1) → (0 ≤ m1 b 12 ∧ m1 b 12 ≤ (i : Int)) → (m1 b 10 = 0 ∨ m1 b 10 = 1) → PW mi_X0_settle d n n (fun r ok' mem' => r = none ∧ ok = ok' ∧ stM b mem mem') 17 [(0, vr b), (1, vi (i : Int))] [] n ok m1 := by
    intro kz
    induction kz with
    | zero =>
      intro i m1 hk h1 hM hp hq9 hf
      exact absurd hk (by omega)
    | succ kz ih =>
      intro i m1 hk h1 hM hp hq9 hf
      have g2 : m1 (b + 2) = mem (b + 2) := hM.1 (b + 2) (by omega) (by omega) (by omega)
      have g3 : m1 (b + 3) = mem (b + 3) := hM.1 (b + 3) (by omega) (by omega) (by omega)
      have g8 : m1 (b + 8) = mem (b + 8) := hM.1 (b + 8) (by omega) (by omega) (by omega)
      refine pw_iload_n 1 rfl dX0_settle_17 rfl ?_
      refine pw_bipush dX0_settle_18 (by decide) ?_
      refine pw_icmp_ge 96 (by decide) dX0_settle_20 (by omega) (by omega) (fun c20 => ?_) (fun c20 => ?_)
      · skip
        refine pw_iconst dX0_settle_96 ?_
        refine pw_istore_n 1 rfl dX0_settle_97 (by decide) ?_
        refine pw_iload_n 1 rfl dX0_settle_98 rfl ?_
        refine pw_aload_n 0 rfl dX0_settle_99 rfl ?_
        refine pw_gR 8 (b + 8) dX0_settle_100 cOk0 (by assumption) (by decide) kw_246 (by decide) rfl ?_
        refine pw_gI 7 7 rfl dX0_settle_103 cOk1 (by assumption) (by decide) kw_154 (by decide) (fun r103 => ?_)
        rw [g8, h0] at r103 ⊢
        refine pw_icmp_ge 129 (by decide) dX0_settle_106 (by omega) (by omega) (fun c106 => ?_) (fun c106 => ?_)
        · skip
          refine pw_vret dX0_settle_129 rfl rfl ?_
          exact ⟨rfl, rfl, hM⟩
        · skip
          exfalso; omega
      · skip
        have e3 := hsp (i : Int) (by omega) (by omega)
        have e2 := hkd (i : Int) (by omega) (by omega)
        have hpp : 0 ≤ m1 b 11 * mem (b + 3) (i : Int) ∧ m1 b 11 * mem (b + 3) (i : Int) ≤ 1 := by
          rcases (show m1 b 11 = 0 ∨ m1 b 11 = 1 by omega) with e | e
          · rw [e, Int.zero_mul]; omega
          · rw [e, Int.one_mul]; omega
        refine pw_aload_n 0 rfl dX0_settle_23 rfl ?_
        refine pw_gR 6 (b + 6) dX0_settle_24 cOk0 (by assumption) (by decide) kw_244 (by decide) rfl ?_
        refine pw_iload_n 1 rfl dX0_settle_27 rfl ?_
        refine pw_aload_n 0 rfl dX0_settle_28 rfl ?_
        refine pw_gI 11 11 rfl dX0_settle_29 cOk0 (by assumption) (by decide) kw_253 (by decide) (fun r29 => ?_)
        try simp (disch := omega) only [wr_s, wr_a, wr_k] at r29 ⊢
        refine pw_iastore dX0_settle_32 (by assumption) (by omega) (by omega) (by omega) ?_
        refine pw_aload_n 0 rfl dX0_settle_33 rfl ?_
        refine pw_dup dX0_settle_34 rfl ?_
        refine pw_gI 11 11 rfl dX0_settle_35 cOk0 (by assumption) (by decide) kw_253 (by decide) (fun r35 => ?_)
        rw [wr_a _ _ _ (by omega)] at r35 ⊢
        refine pw_aload_n 0 rfl dX0_settle_38 rfl ?_
        refine pw_gR 3 (b + 3) dX0_settle_39 cOk0 (by assumption) (by decide) kw_234 (by decide) rfl ?_
        refine pw_iload_n 1 rfl dX0_settle_42 rfl ?_
        refine pw_iaload dX0_settle_43 (by assumption) (by omega) (by omega) (fun r43 => ?_)
        rw [wr_a _ _ _ (by omega), g3] at r43 ⊢
        refine pw_imul dX0_settle_44 ?_
        refine pw_pI 11 11 rfl dX0_settle_45 cOk0 (by assumption) (by decide) kw_253 rfl rfl (by decide) (by omega) ?_
        refine pw_aload_n 0 rfl dX0_settle_48 rfl ?_
        refine pw_dup dX0_settle_49 rfl ?_
        refine pw_gI 12 12 rfl dX0_settle_50 cOk0 (by assumption) (by decide) kw_256 (by decide) (fun r50 => ?_)
        rw [wr_k _ _ _ _ (by omega), wr_a _ _ _ (by omega)] at r50 ⊢
        refine pw_aload_n 0 rfl dX0_settle_53 rfl ?_
        refine pw_gR 2 (b + 2) dX0_settle_54 cOk0 (by assumption) (by decide) kw_230 (by decide) rfl ?_
        refine pw_iload_n 1 rfl dX0_settle_57 rfl ?_
        refine pw_iaload dX0_settle_58 (by assumption) (by omega) (by omega) (fun r58 => ?_)
        rw [wr_a _ _ _ (by omega), wr_a _ _ _ (by omega), g2] at r58 ⊢
        refine pw_iconst dX0_settle_59 ?_
        refine pw_icmp_ne 67 (by decide) dX0_settle_60 (by omega) (by omega) (fun c60 => ?_) (fun c60 => ?_)
        · skip
          refine pw_iconst dX0_settle_67 ?_
          refine pw_iadd dX0_settle_68 ?_
          refine pw_pI 12 12 rfl dX0_settle_69 cOk0 (by assumption) (by decide) kw_256 rfl rfl (by decide) (by omega) ?_
          obtain ⟨m4, em4⟩ : ∃ y, y = wr (wr (wr m1 (b + 6) (i : Int) (m1 b 11)) b 11 (m1 b 11 * mem (b + 3) (i : Int))) b 12 (m1 b 12 + 1) := ⟨_, rfl⟩
          rw [← em4]
          have g10 : m4 b 10 = m1 b 10 := by rw [em4, wr_k _ _ _ _ (by omega), wr_k _ _ _ _ (by omega), wr_a _ _ _ (by omega)]
          have g12 : m4 b 12 = m1 b 12 + 1 := by rw [em4, wr_s]
          have g2b : m4 (b + 2) = mem (b + 2) := by rw [em4, wr_a _ _ _ (by omega), wr_a _ _ _ (by omega), wr_a _ _ _ (by omega), g2]
          refine pw_aload_n 0 rfl dX0_settle_72 rfl ?_
          refine pw_dup dX0_settle_73 rfl ?_
          refine pw_gI 10 10 rfl dX0_settle_74 cOk0 (by assumption) (by decide) kw_251 (by decide) (fun r74 => ?_)
          rw [g10] at r74 ⊢
          refine pw_aload_n 0 rfl dX0_settle_77 rfl ?_
          refine pw_gR 2 (b + 2) dX0_settle_78 cOk0 (by assumption) (by decide) kw_230 (by decide) rfl ?_
          refine pw_iload_n 1 rfl dX0_settle_81 rfl ?_
          refine pw_iaload dX0_settle_82 (by assumption) (by omega) (by omega) (fun r82 => ?_)
          rw [g2b] at r82 ⊢
          refine pw_callS (d' := d - 1) (As := [_]) dX0_settle_83 ok_X0_isFaller kw_213 (by omega) rfl (Nat.le_of_ble_eq_true rfl) (s_isFaller (d - 1) (by omega) n ok m4 _ (by omega)) (Nat.le_refl _) (Or.inl rfl) (fun r ok1 mem1 hq => ?_)
          obtain ⟨rfl, rfl, rfl⟩ := hq
          refine pw_ior dX0_settle_86 ?_
          have hfa : iOr (m1 b 10) (if mem (b + 2) (i : Int) = 2 ∨ mem (b + 2) (i : Int) = 3 then 1 else 0) = 0 ∨ iOr (m1 b 10) (if mem (b + 2) (i : Int) = 2 ∨ mem (b + 2) (i : Int) = 3 then 1 else 0) = 1 := by
            rw [iOr_01 _ _ hf (by split <;> omega)]
            split <;> omega
          refine pw_pZ 10 10 rfl dX0_settle_87 cOk0 (by assumption) (by decide) kw_251 rfl rfl (by decide) hfa ?_
          obtain ⟨m5, em5⟩ : ∃ y, y = wr m4 b 10 (iOr (m1 b 10) (if mem (b + 2) (i : Int) = 2 ∨ mem (b + 2) (i : Int) = 3 then 1 else 0)) := ⟨_, rfl⟩
          rw [← em5]
          have w12 : m5 b 12 = m4 b 12 := by rw [em5, wr_k _ _ _ _ (by omega)]
          refine pw_iinc dX0_settle_90 rfl (by decide) ?_
          refine pw_goto 17 (by decide) dX0_settle_93 ?_
          have hm9 : stM b mem m5 := by
            refine ⟨fun a a1 a2 a3 => ?_, fun k k1 k2 k3 => ?_⟩
            · rw [em5, em4, wr_a _ _ _ a1, wr_a _ _ _ a1, wr_a _ _ _ a1, wr_a _ _ _ a2]; exact hM.1 a a1 a2 a3
            · rw [em5, em4, wr_k _ _ _ _ k1, wr_k _ _ _ _ k3, wr_k _ _ _ _ k2, wr_a _ _ _ (by omega)]; exact hM.2 k k1 k2 k3
          have w11 : m5 b 11 = m1 b 11 * mem (b + 3) (i : Int) := by rw [em5, em4, wr_k _ _ _ _ (by omega), wr_k _ _ _ _ (by omega), wr_s]
          exact pw_locs _ rfl (ih (i + 1) m5 (by omega) (by omega) hm9 (by rw [w11]; exact hpp) (by rw [w12]; omega) (by rw [em5, wr_s]; exact hfa))
        · skip
          refine pw_iconst dX0_settle_63 ?_
          refine pw_goto 68 (by decide) dX0_settle_64 ?_
          refine pw_iadd dX0_settle_68 ?_
          refine pw_pI 12 12 rfl dX0_settle_69 cOk0 (by assumption) (by decide) kw_256 rfl rfl (by decide) (by omega) ?_
          obtain ⟨m4, em4⟩ : ∃ y, y = wr (wr (wr m1 (b + 6) (i : Int) (m1 b 11)) b 11 (m1 b 11 * mem (b + 3) (i : Int))) b 12 (m1 b 12 + 0) := ⟨_, rfl⟩
          rw [← em4]
          have g10 : m4 b 10 = m1 b 10 := by rw [em4, wr_k _ _ _ _ (by omega), wr_k _ _ _ _ (by omega), wr_a _ _ _ (by omega)]
          have g12 : m4 b 12 = m1 b 12 + 0 := by rw [em4, wr_s]
          have g2b : m4 (b + 2) = mem (b + 2) := by rw [em4, wr_a _ _ _ (by omega), wr_a _ _ _ (by omega), wr_a _ _ _ (by omega), g2]
          refine pw_aload_n 0 rfl dX0_settle_72 rfl ?_
          refine pw_dup dX0_settle_73 rfl ?_
          refine pw_gI 10 10 rfl dX0_settle_74 cOk0 (by assumption) (by decide) kw_251 (by decide) (fun r74 => ?_)
          rw [g10] at r74 ⊢
          refine pw_aload_n 0 rfl dX0_settle_77 rfl ?_
          refine pw_gR 2 (b + 2) dX0_settle_78 cOk0 (by assumption) (by decide) kw_230 (by decide) rfl ?_
          refine pw_iload_n 1 rfl dX0_settle_81 rfl ?_
          refine pw_iaload dX0_settle_82 (by assumption) (by omega) (by omega) (fun r82 => ?_)
          rw [g2b] at r82 ⊢
          refine pw_callS (d' := d - 1) (As := [_]) dX0_settle_83 ok_X0_isFaller kw_213 (by omega) rfl (Nat.le_of_ble_eq_true rfl) (s_isFaller (d - 1) (by omega) n ok m4 _ (by omega)) (Nat.le_refl _) (Or.inl rfl) (fun r ok1 mem1 hq => ?_)
          obtain ⟨rfl, rfl, rfl⟩ := hq
          refine pw_ior dX0_settle_86 ?_
          have hfa : iOr (m1 b 10) (if mem (b + 2) (i : Int) = 2 ∨ mem (b + 2) (i : Int) = 3 then 1 else 0) = 0 ∨ iOr (m1 b 10) (if mem (b + 2) (i : Int) = 2 ∨ mem (b + 2) (i : Int) = 3 then 1 else 0) = 1 := by
            rw [iOr_01 _ _ hf (by split <;> omega)]
            split <;> omega
          refine pw_pZ 10 10 rfl dX0_settle_87 cOk0 (by assumption) (by decide) kw_251 rfl rfl (by decide) hfa ?_
          obtain ⟨m5, em5⟩ : ∃ y, y = wr m4 b 10 (iOr (m1 b 10) (if mem (b + 2) (i : Int) = 2 ∨ mem (b + 2) (i : Int) = 3 then 1 else 0)) := ⟨_, rfl⟩
          rw [← em5]
          have w12 : m5 b 12 = m4 b 12 := by rw [em5, wr_k _ _ _ _ (by omega)]
          refine pw_iinc dX0_settle_90 rfl (by decide) ?_
          refine pw_goto 17 (by decide) dX0_settle_93 ?_
          have hm9 : stM b mem m5 := by
            refine ⟨fun a a1 a2 a3 => ?_, fun k k1 k2 k3 => ?_⟩
            · rw [em5, em4, wr_a _ _ _ a1, wr_a _ _ _ a1, wr_a _ _ _ a1, wr_a _ _ _ a2]; exact hM.1 a a1 a2 a3
            · rw [em5, em4, wr_k _ _ _ _ k1, wr_k _ _ _ _ k3, wr_k _ _ _ _ k2, wr_a _ _ _ (by omega)]; exact hM.2 k k1 k2 k3
          have w11 : m5 b 11 = m1 b 11 * mem (b + 3) (i : Int) := by rw [em5, em4, wr_k _ _ _ _ (by omega), wr_k _ _ _ _ (by omega), wr_s]
          exact pw_locs _ rfl (ih (i + 1) m5 (by omega) (by omega) hm9 (by rw [w11]; exact hpp) (by rw [w12]; omega) (by rw [em5, wr_s]; exact hfa))
  exact pw_locs _ rfl (lp17 17 0 m0 (by omega) (by omega) hM0 z11 (by omega) z10)
set_option maxHeartbeats 4000000 in
set_option maxRecDepth 100000 in
theorem h_layRow0 (d : Nat) (hd : 2 ≤ d) (n : Nat) (ok : pO) (mem : pM) (b : Nat) (hC : ChUp n ok b) (A : pM) (c : Int) (v : Int → Int) (hRA : CR A c mem b) (hOA : SO A c mem b) (hV : CV A c mem b v) (r x : Int) (hr : 0 ≤ r ∧ r ≤ 3) (hx : -1 ≤ x ∧ x ≤ 4) (hZ : ∀ s, 0 ≤ s → s ≤ 15 → (0 ≤ eSp (layA A c r x) c s ∧ eSp (layA A c r x) c s ≤ 1) ∧ (-1 ≤ layA A c r x 90 (16 * c + s) ∧ layA A c r x 90 (16 * c + s) ≤ 0)) (hZ4 : layA A c r x 94 c = 0) : PM mi_X0_layRow d [vr b, vi r, vi x] n ok mem n (fun r0 ok' mem' => r0 = none ∧ ok = ok' ∧ chM b mem mem' ∧ CR (layA A c r x) c mem' b ∧ SO (layA A c r x) c mem' b ∧ CV (layA A c r x) c mem' b v) := by
  obtain ⟨hC0, ⟨hC1, hC2, hC3, hC4, hC5, hC6, hC7⟩, hC8, ⟨hC9, hC10, hC11, hC12, hC13, hC14, hC15⟩, hC16, hC17, hb5, hb59⟩ := id hC
  refine PM.of (by decide) (by decide) (Nat.le_refl _) (Nat.le_of_ble_eq_true rfl) ?_
  refine pw_aload_n 0 rfl dX0_layRow_0 rfl ?_
  refine pw_gR 1 (b + 1) dX0_layRow_1 cOk0 (by assumption) (by decide) kw_228 (by decide) rfl ?_
  refine pw_iload_n 1 rfl dX0_layRow_4 rfl ?_
  refine pw_iload_n 2 rfl dX0_layRow_5 rfl ?_
  refine pw_iastore dX0_layRow_6 (by assumption) (by omega) (by omega) (by omega) ?_
  have hR0 := CR_row hRA r x
  have hV0 : CV (wr A 89 (4 * c + r) x) c (wr mem (b + 1) r x) b v := fun s s1 s2 => by rw [wr_a _ _ _ (by omega)]; unfold eAv aKind; rw [wr_a _ _ _ (by omega)]; exact hV s s1 s2
  refine pw_iconst dX0_layRow_7 ?_
  refine pw_istore_n 3 rfl dX0_layRow_8 (by decide) ?_
  have lp9 : ∀ (kz : Nat) (i : Nat) (m1 : pM), 4 - (i : Int) < (kz : Int) → (i ≤ 4) → (chM b mem m1) → (CR (fiM (wr A 89 (4 * c + r) x) 90 (16 * c + 4 * r) (i : Int) (-1)) c m1 b) → (CV (fiM (wr A 89 (4 * c + r) x) 90 (16 * c + 4 * r) (i : Int) (-1)) c m1 b v) → (m1 (b + 14) = mem (b + 14)) → (m1 (b + 15) = mem (b + 15)) → PW mi_X0_layRow d n n (fun r0 ok' mem' => r0 = none ∧ ok = ok' ∧ chM b mem mem' ∧ CR (layA A c r x) c mem' b ∧ SO (layA A c r x) c mem' b ∧ CV (layA A c r x) c mem' b v) 9 [(0, vr b), (1, vi r), (2, vi x), (3, vi (i : Int))] [] n ok m1 := by
    intro kz
    induction kz with
    | zero =>
      intro i m1 hk h1 hM hR1 hV1 h14 h15
      exact absurd hk (by omega)
    | succ kz ih =>
      intro i m1 hk h1 hM hR1 hV1 h14 h15
      refine pw_iload_n 3 rfl dX0_layRow_9 rfl ?_
      refine pw_iconst dX0_layRow_10 ?_
      refine pw_icmp_ge 32 (by decide) dX0_layRow_11 (by omega) (by omega) (fun c11 => ?_) (fun c11 => ?_)
      · skip
        have e4 : i = 4 := by omega
        subst e4
        have hR2 : CR (layA A c r x) c m1 b := hR1
        have hV2 : CV (layA A c r x) c m1 b v := hV1
        refine pw_aload_n 0 rfl dX0_layRow_32 rfl ?_
        refine pw_callV (d' := d - 1) (As := []) (ci := 0) dX0_layRow_33 ok_X0_settle kw_209 rfl rfl (Of.o (by assumption)) (by omega) rfl (Nat.le_of_ble_eq_true rfl) (h_settle0 (d - 1) (by omega) n ok m1 b hC (fun s s1 s2 => by rw [(hR2.2.1 s s1 s2).2.1]; exact (hZ s s1 s2).1) (fun s s1 s2 => by rw [(hR2.2.1 s s1 s2).1]; exact (hZ s s1 s2).2) (by rw [hR2.2.2.1]; exact hZ4)) (Nat.le_refl _) (Or.inl rfl) (fun r9 ok1 m2 hq => ?_)
        obtain ⟨rfl, rfl, hT⟩ := hq
        have hSO2 : SO (layA A c r x) c m2 b := SO_st (SO_A (SO_st hOA h14 h15) (by unfold layA; rw [fiM_a _ _ _ _ (by omega), wr_a _ _ _ (by omega)]) (fun k _ _ => by unfold layA; rw [fiM_a _ _ _ _ (by omega), wr_a _ _ _ (by omega)])) (hT.1 _ (by omega) (by omega) (by omega)) (hT.1 _ (by omega) (by omega) (by omega))
        refine pw_vret dX0_layRow_36 rfl rfl ?_
        exact ⟨rfl, rfl, hM.tr hT.c, CR_st hR2 hT, hSO2, hV2.m (hT.1 _ (by omega) (by omega) (by omega))⟩
      · skip
        refine pw_aload_n 0 rfl dX0_layRow_14 rfl ?_
        refine pw_iload_n 1 rfl dX0_layRow_15 rfl ?_
        refine pw_iconst dX0_layRow_16 ?_
        refine pw_imul dX0_layRow_17 ?_
        refine pw_iload_n 3 rfl dX0_layRow_18 rfl ?_
        refine pw_iadd dX0_layRow_19 ?_
        refine pw_iconst dX0_layRow_20 ?_
        refine pw_iconst dX0_layRow_21 ?_
        refine pw_iconst dX0_layRow_22 ?_
        refine pw_callV (d' := d - 1) (As := [_, _, _, _]) (ci := 0) dX0_layRow_23 ok_X0_setPart kw_205 rfl rfl (Of.o (by assumption)) (by omega) rfl (Nat.le_of_ble_eq_true rfl) (h_setPart (d - 1) (by omega) n ok m1 b hC (r * 4 + (i : Int)) (-1) 1 0 (by omega) (by omega) (by omega) (by omega)) (Nat.le_refl _) (Or.inl rfl) (fun r ok1 mem1 hq => ?_)
        obtain ⟨rfl, rfl, rfl⟩ := hq
        refine pw_iinc dX0_layRow_26 rfl (by decide) ?_
        refine pw_goto 9 (by decide) dX0_layRow_29 ?_
        have eL : fiM (wr A 89 (4 * c + r) x) 90 (16 * c + 4 * r) ((i + 1 : Nat) : Int) (-1) = wr (fiM (wr A 89 (4 * c + r) x) 90 (16 * c + 4 * r) (i : Int) (-1)) 90 (16 * c + (r * 4 + (i : Int))) (-1) := by
          rw [show 16 * c + (r * 4 + (i : Int)) = 16 * c + 4 * r + (i : Int) by omega]; exact (fiM_s (wr A 89 (4 * c + r) x) 90 (16 * c + 4 * r) (i : Int) (-1) (by omega)).symm
        exact pw_locs _ rfl (ih (i + 1) _ (by omega) (by omega) (hM.tr (spM_c _ _ _ _ _ _)) (by rw [eL]; exact CR_rem hR1 _) (by rw [eL]; exact CV_rem hV1 _) (by rw [spM_a _ _ _ _ _ _ _ (by omega)]; exact h14) (by rw [spM_a _ _ _ _ _ _ _ (by omega)]; exact h15))
  exact pw_locs _ rfl (lp9 5 0 _ (by omega) (by omega) ((chM.rf b mem).w _ _ (by omega)) (by rw [show ((0 : Nat) : Int) = 0 from rfl, fiM_0]; exact hR0) (by rw [show ((0 : Nat) : Int) = 0 from rfl, fiM_0]; exact hV0) (wr_a _ _ _ (by omega)) (wr_a _ _ _ (by omega)))
def zA (r : Int) : pM := fun a j => if a = 89 then (if j < r then -1 else 0) else if a = 90 then (if j < 4 * r then -1 else 0) else if a = 100 then -1 else 0
theorem zA_v (r : Int) : (∀ j, zA r 89 j = if j < r then -1 else 0) ∧ (∀ j, zA r 90 j = if j < 4 * r then -1 else 0) ∧ (∀ j, zA r 100 j = -1) ∧ ∀ a j, a ≠ 89 → a ≠ 90 → a ≠ 100 → zA r a j = 0 := by
  refine ⟨fun j => rfl, fun j => rfl, fun j => rfl, fun a j a1 a2 a3 => ?_⟩
  unfold zA; rw [if_neg a1, if_neg a2, if_neg a3]
theorem zA_lay (r : Int) : layA (zA r) 0 r (-1) = zA (r + 1) := by
  have v := layA_v (zA r) 0 r (-1)
  have z := zA_v r
  have z1 := zA_v (r + 1)
  funext a j
  by_cases q : a = 89
  · subst q; rw [v.1, z.1, z1.1]; (repeat' split) <;> omega
  · by_cases w : a = 90
    · subst w; rw [v.2.1, z.2.1, z1.2.1]; (repeat' split) <;> omega
    · rw [v.2.2 a q w]
      by_cases y : a = 100
      · subst y; rw [z.2.2.1, z1.2.2.1]
      · rw [z.2.2.2 a j q w y, z1.2.2.2 a j q w y]
theorem zA_sp (r s : Int) : (0 ≤ eSp (zA r) 0 s ∧ eSp (zA r) 0 s ≤ 1) ∧ (-1 ≤ zA r 90 (16 * 0 + s) ∧ zA r 90 (16 * 0 + s) ≤ 0) := by
  have z := zA_v r
  have e : eSp (zA r) 0 s = if zA r 90 (16 * 0 + s) = -1 then 1 else 0 := by unfold eSp aKind aSpan; rw [z.2.2.2 91 _ (by omega) (by omega) (by omega)]
  rw [e, z.2.1]
  (repeat' split) <;> omega
theorem zA_in : cIn (zA 4) 0 := by
  have z := zA_v 4
  have e90 : ∀ s : Int, 0 ≤ s → s ≤ 15 → zA 4 90 (16 * 0 + s) = -1 := fun s s1 s2 => by rw [z.2.1, if_pos (by omega)]
  have ep : ∀ k : Nat, k ≤ 16 → pW (zA 4) 0 k = 1 := fun k hk => by
    induction k with
    | zero => rfl
    | succ k ih =>
      have e : eSp (zA 4) 0 k = 1 := if_pos (e90 k (by omega) (by omega))
      show pW (zA 4) 0 k * eSp (zA 4) 0 k = 1
      rw [ih (by omega), e]; rfl
  exact ⟨fun r r1 r2 => by rw [z.1, if_pos (by omega)]; omega, fun s s1 s2 => Or.inl (e90 s s1 s2), ⟨by rw [z.2.2.2 94 _ (by omega) (by omega) (by omega)]; omega, fun k k1 k2 => by rw [z.2.2.2 94 _ (by omega) (by omega) (by omega)] at k2; omega⟩, by rw [z.2.2.2 99 _ (by omega) (by omega) (by omega)]; omega, by rw [z.2.2.1]; omega, by rw [ep 16 (by omega)]; omega⟩
theorem PM.mono {mi : MI} {d : Nat} {as : List pV} {n : Nat} {ok : pO} {mem : pM} {nf : Nat} {Q Q2 : pQt} (h : PM mi d as n ok mem nf Q) (hq : ∀ r ok' mem', Q r ok' mem' → Q2 r ok' mem') : PM mi d as n ok mem nf Q2 := by
  refine ⟨h.1, fun l E ad => ?_⟩
  intro p e k1 k2 k3 s m args below k4 k5 k6 k7
  obtain ⟨n9, o9, g1, g2, g3, ⟨r, ok', mem', ad', q, w⟩, g5⟩ := h.2 l E ad p e k1 k2 k3 s m args below k4 k5 k6 k7
  exact ⟨n9, o9, g1, g2, g3, ⟨r, ok', mem', ad', hq _ _ _ q, w⟩, g5⟩
theorem eLay (d : Nat) (hd : 3 ≤ d) (n : Nat) (ok : pO) (mem : pM) (b : Nat) (hC : ChUp n ok b) (r : Nat) (hr : r ≤ 3) (hRA : CR (zA r) 0 mem b) (hOA : SO (zA r) 0 mem b) (hV : CV (zA r) 0 mem b (fun _ => 0)) : PM mi_X0_layRow d [vr b, vi (r : Int), vi (-1)] n ok mem n (fun r0 ok' mem' => r0 = none ∧ ok = ok' ∧ chM b mem mem' ∧ CR (zA (r + 1 : Nat)) 0 mem' b ∧ SO (zA (r + 1 : Nat)) 0 mem' b ∧ CV (zA (r + 1 : Nat)) 0 mem' b (fun _ => 0) ∧ (r + 1 ≠ 4 ∨ CD (zA (r + 1 : Nat)) 0 mem' b)) := by
  have el : layA (zA r) 0 r (-1) = zA (r + 1 : Nat) := zA_lay r
  by_cases q : r = 3
  · have hI2 : cIn (layA (zA r) 0 r (-1)) 0 := by rw [el, q]; exact zA_in
    have h := h_layRow d (by omega) n ok mem b hC (zA r) 0 (fun _ => 0) hRA hOA hV (r : Int) (-1) (by omega) (by omega) hI2
    rw [el] at h
    exact PM.mono h (fun x ok' m' hq => ⟨hq.1, hq.2.1, hq.2.2.1, hq.2.2.2.1.1, hq.2.2.2.1.2.2, hq.2.2.2.2, Or.inr hq.2.2.2.1.2.1⟩)
  · have h := h_layRow0 d (by omega) n ok mem b hC (zA r) 0 (fun _ => 0) hRA hOA hV (r : Int) (-1) (by omega) (by omega) (fun s _ _ => by rw [el]; exact zA_sp _ s) (by rw [el]; exact (zA_v _).2.2.2 94 _ (by omega) (by omega) (by omega))
    rw [el] at h
    exact PM.mono h (fun x ok' m' hq => ⟨hq.1, hq.2.1, hq.2.2.1, hq.2.2.2.1, hq.2.2.2.2.1, hq.2.2.2.2.2, Or.inl (by omega)⟩)
set_option maxHeartbeats 4000000 in
set_option maxRecDepth 100000 in
theorem h_empty0 (d : Nat) (hd : 4 ≤ d) (n : Nat) (ok : pO) (mem : pM) (b : Nat) (hC : ChUp n ok b) (hz : ∀ a, b + 1 ≤ a → a ≤ b + 15 → ∀ j, mem a j = 0) : PM mi_X0_empty d [vr b] n ok mem n (fun r0 ok' mem' => r0 = none ∧ ok = ok' ∧ chM b mem mem' ∧ CS (zA 4) 0 mem' b ∧ CV (zA 4) 0 mem' b (fun _ => 0)) := by
  obtain ⟨hC0, ⟨hC1, hC2, hC3, hC4, hC5, hC6, hC7⟩, hC8, ⟨hC9, hC10, hC11, hC12, hC13, hC14, hC15⟩, hC16, hC17, hb5, hb59⟩ := id hC
  refine PM.of (by decide) (by decide) (Nat.le_refl _) (Nat.le_of_ble_eq_true rfl) ?_
  refine pw_aload_n 0 rfl dX0_empty_0 rfl ?_
  refine pw_gR 8 (b + 8) dX0_empty_1 cOk0 (by assumption) (by decide) kw_246 (by decide) rfl ?_
  refine pw_callV (d' := d - 1) (As := []) (ci := 1) dX0_empty_4 ok_X1_letGo kw_193 rfl rfl (Of.o (by assumption)) (by omega) rfl (Nat.le_of_ble_eq_true rfl) (q_letGo (d - 1) (by omega) n ok mem b hC) (Nat.le_refl _) (Or.inl rfl) (fun r9 ok1 m1 hq => ?_)
  obtain ⟨rfl, rfl, hF, hO⟩ := hq
  have z := zA_v 0
  have g : ∀ a, b + 1 ≤ a → a ≤ b + 13 → ∀ j, m1 a j = 0 := fun a a1 a2 j => by
    rw [hF a (by omega) (by omega)]
    unfold wr; split
    · rfl
    · exact hz a a1 (by omega) j
  have hR1 : CR (zA 0) 0 m1 b := by
    refine ⟨fun r r1 r2 => ?_, fun s s1 s2 => ⟨?_, ?_, fun _ => ?_⟩, ?_, fun k k1 k2 => ?_⟩
    · rw [g _ (by omega) (by omega), z.1, if_neg (by omega)]
    · rw [g _ (by omega) (by omega), z.2.1, if_neg (by omega)]
    · rw [g _ (by omega) (by omega)]; unfold eSp aKind aSpan; rw [z.2.1, if_neg (show ¬ (16 * 0 + s < 4 * 0) by omega), if_neg (by omega), z.2.2.2 91 _ (by omega) (by omega) (by omega)]
    · rw [g _ (by omega) (by omega), z.2.2.2 93 _ (by omega) (by omega) (by omega)]
    · rw [g _ (by omega) (by omega), z.2.2.2 94 _ (by omega) (by omega) (by omega)]
    · rw [z.2.2.2 94 _ (by omega) (by omega) (by omega)] at k2; omega
  have hO1 : SO (zA 0) 0 m1 b := SO_of hO (by rw [z.2.2.2 94 _ (by omega) (by omega) (by omega)]) (fun k k1 k2 => by omega)
  have hV1 : CV (zA 0) 0 m1 b (fun _ => 0) := fun s s1 s2 => by rw [g _ (by omega) (by omega)]; unfold eAv; split <;> rfl
  have hM1 : chM b mem m1 := ⟨fun a ha => by rw [hF a (by omega) (by omega), wr_a _ _ _ (by omega)], fun k _ _ _ => by rw [hF b (by omega) (by omega), wr_a _ _ _ (by omega)]⟩
  refine pw_iconst dX0_empty_7 ?_
  refine pw_istore_n 1 rfl dX0_empty_8 (by decide) ?_
  have lp9 : ∀ (kz : Nat) (r : Nat) (m2 : pM), 4 - (r : Int) < (kz : Int) → (r ≤ 4) → (chM b mem m2) → (CR (zA r) 0 m2 b) → (SO (zA r) 0 m2 b) → (CV (zA r) 0 m2 b (fun _ => 0)) → (r ≠ 4 ∨ CD (zA r) 0 m2 b) → PW mi_X0_empty d n n (fun r0 ok' mem' => r0 = none ∧ ok = ok' ∧ chM b mem mem' ∧ CS (zA 4) 0 mem' b ∧ CV (zA 4) 0 mem' b (fun _ => 0)) 9 [(0, vr b), (1, vi (r : Int))] [] n ok m2 := by
    intro kz
    induction kz with
    | zero =>
      intro r m2 hk h1 hM2 hR2 hO2 hV2 hD2
      exact absurd hk (by omega)
    | succ kz ih =>
      intro r m2 hk h1 hM2 hR2 hO2 hV2 hD2
      refine pw_iload_n 1 rfl dX0_empty_9 rfl ?_
      refine pw_iconst dX0_empty_10 ?_
      refine pw_icmp_ge 26 (by decide) dX0_empty_11 (by omega) (by omega) (fun c11 => ?_) (fun c11 => ?_)
      · skip
        refine pw_vret dX0_empty_26 rfl rfl ?_
        have e4 : r = 4 := by omega
        subst e4
        exact ⟨rfl, rfl, hM2, ⟨hR2, by rcases hD2 with z | z; exact absurd rfl z; exact z, hO2⟩, hV2⟩
      · skip
        refine pw_aload_n 0 rfl dX0_empty_14 rfl ?_
        refine pw_iload_n 1 rfl dX0_empty_15 rfl ?_
        refine pw_iconst dX0_empty_16 ?_
        refine pw_callV (d' := d - 1) (As := [_, _]) (ci := 0) dX0_empty_17 ok_X0_layRow kw_201 rfl rfl (Of.o (by assumption)) (by omega) rfl (Nat.le_of_ble_eq_true rfl) (eLay (d - 1) (by omega) n ok m2 b hC r (by omega) hR2 hO2 hV2) (Nat.le_refl _) (Or.inl rfl) (fun r9 ok1 m3 hq => ?_)
        obtain ⟨rfl, rfl, hM3, hX⟩ := hq
        refine pw_iinc dX0_empty_20 rfl (by decide) ?_
        refine pw_goto 9 (by decide) dX0_empty_23 ?_
        exact pw_locs _ rfl (ih (r + 1) m3 (by omega) (by omega) (hM2.tr hM3) hX.1 hX.2.1 hX.2.2.1 hX.2.2.2)
  exact pw_locs _ rfl (lp9 5 0 m1 (by omega) (by omega) hM1 hR1 hO1 hV1 (Or.inl (by omega)))
