/-! ===== the class: truths, all emptied, one chest becomes another ===== -/
def btM (m : pM) (b : Nat) (k i x T : Int) : pM := wr m (b + 12) k (iOr (iAnd (m (b + 12) k) (iXor (iShl (iShl 1 x - 1) i) (-1))) (iShl (iAnd T (iShl 1 x - 1)) i))
/-- A2 is A with truths i .. i + x - 1 of condition k as the bits of T -/
def trS (A A2 : pM) (c k i x T : Int) : Prop := (∀ a, a ≠ 98 → A2 a = A a) ∧ (∀ j, (j < 6 * (40 * c + k) ∨ 6 * (40 * c + k) + 6 ≤ j) → A2 98 j = A 98 j) ∧ ∀ j : Nat, j ≤ 5 → (A2 98 (6 * (40 * c + k) + j) = 1 ↔ (if i ≤ (j : Int) ∧ (j : Int) < i + x then tb T (j - i.toNat) = true else A 98 (6 * (40 * c + k) + j) = 1))
theorem CR_bits {A A2 : pM} {c : Int} {m : pM} {b : Nat} (h : CR A c m b) {k i x T : Int} (hk : 0 ≤ k ∧ k < A 94 c) (hi : 0 ≤ i) (hx : 0 ≤ x) (hix : i + x ≤ 6) (hA : trS A A2 c k i x T) : CR A2 c (btM m b k i x T) b := by
  have e94 : A2 94 = A 94 := hA.1 94 (by omega)
  unfold btM
  refine CR_cond h (fun a h1 h2 => hA.1 a (by omega)) (fun a h1 h2 => wr_a _ _ _ (by omega)) (by rw [wr_a _ _ _ (by omega), e94]; exact h.2.2.1) (fun j j1 j2 => ?_)
  rw [e94] at j2
  have e := h.2.2.2 j j1 j2
  rw [wr_a _ _ _ (by omega), wr_a _ _ _ (by omega), wr_a _ _ _ (by omega), hA.1 95 (by omega), hA.1 96 (by omega), hA.1 97 (by omega)]
  refine ⟨e.1, e.2.1, e.2.2.1, fun q hq => ?_⟩
  by_cases w : j = k
  · subst w
    rw [wr_s, tb_set _ _ _ _ hi hx hix q (by omega), hA.2.2 q hq]
    by_cases z : i.toNat ≤ q ∧ q < i.toNat + x.toNat
    · rw [if_pos z, if_pos (by omega)]
    · rw [if_neg z, if_neg (by omega)]; exact e.2.2.2 q hq
  · rw [wr_k _ _ _ _ w, hA.2.1 _ (by omega)]; exact e.2.2.2 q hq
set_option maxHeartbeats 4000000 in
set_option maxRecDepth 100000 in
theorem q_setBits (d : Nat) (hd : 0 ≤ d) (n : Nat) (ok : pO) (mem : pM) (b : Nat) (hC : ChUp n ok b) (k i x T : Int) (hk : 0 ≤ k ∧ k < 40) : PM mi_X1_setBits d [vr (b + 8), vi k, vi i, vi x, vi T] n ok mem n (fun r ok' mem' => r = none ∧ ok = ok' ∧ btM mem b k i x T = mem') := by
  obtain ⟨hC0, ⟨hC1, hC2, hC3, hC4, hC5, hC6, hC7⟩, hC8, ⟨hC9, hC10, hC11, hC12, hC13, hC14, hC15⟩, hC16, hC17, hb5, hb59⟩ := id hC
  refine PM.of (by decide) (by decide) (Nat.le_refl _) (Nat.le_of_ble_eq_true rfl) ?_
  refine pw_iconst dX1_setBits_0 ?_
  refine pw_iload_n 3 rfl dX1_setBits_1 rfl ?_
  refine pw_ishl dX1_setBits_2 ?_
  refine pw_iconst dX1_setBits_3 ?_
  refine pw_isub dX1_setBits_4 ?_
  refine pw_istore dX1_setBits_5 (by decide) ?_
  refine pw_aload_n 0 rfl dX1_setBits_7 rfl ?_
  refine pw_gR 3 (b + 12) dX1_setBits_8 cOk1 (by assumption) (by decide) kw_143 (by decide) rfl ?_
  refine pw_iload_n 1 rfl dX1_setBits_11 rfl ?_
  refine pw_aload_n 0 rfl dX1_setBits_12 rfl ?_
  refine pw_gR 3 (b + 12) dX1_setBits_13 cOk1 (by assumption) (by decide) kw_143 (by decide) rfl ?_
  refine pw_iload_n 1 rfl dX1_setBits_16 rfl ?_
  refine pw_iaload dX1_setBits_17 (by assumption) (by omega) (by omega) (fun r17 => ?_)
  refine pw_iload dX1_setBits_18 rfl ?_
  refine pw_iload_n 2 rfl dX1_setBits_20 rfl ?_
  refine pw_ishl dX1_setBits_21 ?_
  refine pw_iconst dX1_setBits_22 ?_
  refine pw_ixor dX1_setBits_23 ?_
  refine pw_iand dX1_setBits_24 ?_
  refine pw_iload dX1_setBits_25 rfl ?_
  refine pw_iload dX1_setBits_27 rfl ?_
  refine pw_iand dX1_setBits_29 ?_
  refine pw_iload_n 2 rfl dX1_setBits_30 rfl ?_
  refine pw_ishl dX1_setBits_31 ?_
  refine pw_ior dX1_setBits_32 ?_
  refine pw_iastore dX1_setBits_33 (by assumption) (by omega) (by omega) (iOr_ran _ _) ?_
  refine pw_vret dX1_setBits_34 rfl rfl ?_
  exact ⟨rfl, rfl, rfl⟩
set_option maxHeartbeats 4000000 in
set_option maxRecDepth 100000 in
theorem h_setTruths (d : Nat) (hd : 3 ≤ d) (n : Nat) (ok : pO) (mem : pM) (b : Nat) (hC : ChUp n ok b) (A : pM) (c : Int) (v : Int → Int) (hRA : CR A c mem b) (hOA : SO A c mem b) (hV : CV A c mem b v) (hI : cIn A c) (A2 : pM) (k i x T : Int) (hk : 0 ≤ k ∧ k < A 94 c) (hi : 0 ≤ i) (hx : 0 ≤ x) (hix : i + x ≤ 6) (hA : trS A A2 c k i x T) (hI2 : cIn A2 c) : PM mi_X0_setTruths d [vr b, vi k, vi i, vi x, vi T] n ok mem n (fun r0 ok' mem' => r0 = none ∧ ok = ok' ∧ chM b mem mem' ∧ CS (A2) c mem' b ∧ CV (A2) c mem' b (v)) := by
  obtain ⟨hC0, ⟨hC1, hC2, hC3, hC4, hC5, hC6, hC7⟩, hC8, ⟨hC9, hC10, hC11, hC12, hC13, hC14, hC15⟩, hC16, hC17, hb5, hb59⟩ := id hC
  refine PM.of (by decide) (by decide) (Nat.le_refl _) (Nat.le_of_ble_eq_true rfl) ?_
  refine pw_aload_n 0 rfl dX0_setTruths_0 rfl ?_
  refine pw_gR 8 (b + 8) dX0_setTruths_1 cOk0 (by assumption) (by decide) kw_246 (by decide) rfl ?_
  refine pw_iload_n 1 rfl dX0_setTruths_4 rfl ?_
  refine pw_iload_n 2 rfl dX0_setTruths_5 rfl ?_
  refine pw_iload_n 3 rfl dX0_setTruths_6 rfl ?_
  refine pw_iload dX0_setTruths_7 rfl ?_
  refine pw_callV (d' := d - 1) (As := [_, _, _, _]) (ci := 1) dX0_setTruths_9 ok_X1_setBits kw_490 rfl rfl (Of.o (by assumption)) (by omega) rfl (Nat.le_of_ble_eq_true rfl) (q_setBits (d - 1) (by omega) n ok mem b hC k i x T (by have := hI.2.2.1.1; omega)) (Nat.le_refl _) (Or.inl rfl) (fun r9 ok1 m1 hq => ?_)
  obtain ⟨rfl, rfl, em1⟩ := hq
  have hR1 : CR A2 c m1 b := by rw [← em1]; exact CR_bits hRA hk hi hx hix hA
  have hM1 : chM b mem m1 := by rw [← em1]; exact (chM.rf b mem).w _ _ (by omega)
  have g : ∀ a, a ≠ b + 12 → m1 a = mem a := fun a ha => by rw [← em1]; exact wr_a _ _ _ ha
  refine pw_aload_n 0 rfl dX0_setTruths_12 rfl ?_
  refine pw_callV (d' := d - 1) (As := []) (ci := 0) dX0_setTruths_13 ok_X0_settle kw_209 rfl rfl (Of.o (by assumption)) (by omega) rfl (Nat.le_of_ble_eq_true rfl) (h_settle (d - 1) (by omega) n ok m1 b hC A2 c hI2 hR1) (Nat.le_refl _) (Or.inl rfl) (fun r9 ok1 m2 hq => ?_)
  obtain ⟨rfl, rfl, hT, hDD⟩ := hq
  have hSO2 : SO A2 c m2 b := SO_st (SO_A (SO_st hOA (g _ (by omega)) (g _ (by omega))) (by rw [hA.1 94 (by omega)]) (fun _ _ _ => by rw [hA.1 95 (by omega)])) (hT.1 _ (by omega) (by omega) (by omega)) (hT.1 _ (by omega) (by omega) (by omega))
  have hV2 : CV A2 c m2 b v := fun s s1 s2 => by
    rw [hT.1 _ (by omega) (by omega) (by omega), g _ (by omega), hV s s1 s2]
    unfold eAv aKind; rw [hA.1 90 (by omega)]
  refine pw_vret dX0_setTruths_16 rfl rfl ?_
  exact ⟨rfl, rfl, hM1.tr hT.c, ⟨CR_st hR1 hT, hDD, hSO2⟩, hV2⟩
set_option maxHeartbeats 4000000 in
set_option maxRecDepth 100000 in
theorem q_letGo (d : Nat) (hd : 1 ≤ d) (n : Nat) (ok : pO) (mem : pM) (b : Nat) (hC : ChUp n ok b) : PM mi_X1_letGo d [vr (b + 8)] n ok mem n (fun r0 ok' mem' => r0 = none ∧ ok = ok' ∧ Fso b (wr mem (b + 8) 7 0) mem' ∧ SOr (mem (b + 9)) 0 (mem' (b + 14)) (mem' (b + 15))) := by
  obtain ⟨hC0, ⟨hC1, hC2, hC3, hC4, hC5, hC6, hC7⟩, hC8, ⟨hC9, hC10, hC11, hC12, hC13, hC14, hC15⟩, hC16, hC17, hb5, hb59⟩ := id hC
  refine PM.of (by decide) (by decide) (Nat.le_refl _) (Nat.le_of_ble_eq_true rfl) ?_
  refine pw_aload_n 0 rfl dX1_letGo_0 rfl ?_
  refine pw_iconst dX1_letGo_1 ?_
  refine pw_pI 7 7 rfl dX1_letGo_2 cOk1 (by assumption) (by decide) kw_151 rfl rfl (by decide) (by omega) ?_
  refine pw_aload_n 0 rfl dX1_letGo_5 rfl ?_
  refine pw_callV (d' := d - 1) (As := []) (ci := 1) dX1_letGo_6 ok_X1_sort kw_197 rfl rfl (Of.o (by assumption)) (by omega) rfl (Nat.le_of_ble_eq_true rfl) (q_sort (d - 1) (by omega) n ok (wr mem (b + 8) 7 0) b hC (by rw [wr_s]; omega) (fun j j1 j2 => by rw [wr_s] at j2; omega)) (Nat.le_refl _) (Or.inl rfl) (fun r9 ok1 m2 hq => ?_)
  obtain ⟨rfl, rfl, hF, hO⟩ := hq
  rw [wr_s, wr_a _ _ _ (by omega)] at hO
  refine pw_vret dX1_letGo_9 rfl rfl ?_
  exact ⟨rfl, rfl, hF, hO⟩
def lets (A : pM) (c : Int) : pM := wr A 94 c 0
def emR (A : pM) (c : Int) : Nat → pM
  | 0 => lets A c
  | r + 1 => layA (emR A c r) c r (-1)
theorem pW_le {A A2 : pM} {c c2 : Int} (h : ∀ s : Int, 0 ≤ s → s ≤ 15 → 1 ≤ eSp A2 c2 s ∧ eSp A2 c2 s ≤ eSp A c s) (k : Nat) (hk : k ≤ 16) : 1 ≤ pW A2 c2 k ∧ pW A2 c2 k ≤ pW A c k := by
  induction k with
  | zero => exact ⟨Int.le_refl _, Int.le_refl _⟩
  | succ k ih =>
    have i := ih (by omega)
    have s := h k (by omega) (by omega)
    show 1 ≤ pW A2 c2 k * eSp A2 c2 k ∧ pW A2 c2 k * eSp A2 c2 k ≤ pW A c k * eSp A c k
    refine ⟨?_, Int.mul_le_mul i.2 s.2 (by omega) (by omega)⟩
    have := Int.mul_le_mul i.1 s.1 (by omega) (by omega)
    omega
theorem cIn_lay {A : pM} {c r x : Int} (h : cIn A c) (hr : 0 ≤ r ∧ r ≤ 3) (hx : -1 ≤ x ∧ x ≤ 4) : cIn (layA A c r x) c := by
  obtain ⟨h1, h2, h3, h4, h5, h6⟩ := id h
  have e89 : ∀ j, layA A c r x 89 j = if j = 4 * c + r then x else A 89 j := fun j => by unfold layA; rw [fiM_a _ _ _ _ (by omega)]; unfold wr; by_cases q : j = 4 * c + r <;> simp [q]
  have e90 : ∀ j, layA A c r x 90 j = if 16 * c + 4 * r ≤ j ∧ j < 16 * c + 4 * r + 4 then -1 else A 90 j := fun j => by
    unfold layA fiM
    by_cases q : 16 * c + 4 * r ≤ j ∧ j < 16 * c + 4 * r + 4
    · rw [if_pos ⟨rfl, q⟩, if_pos q]
    · rw [if_neg (fun z => q z.2), if_neg q, wr_a _ _ _ (by omega)]
  have eo : ∀ a, a ≠ 89 → a ≠ 90 → layA A c r x a = A a := fun a q1 q2 => by unfold layA; rw [fiM_a _ _ _ _ q2, wr_a _ _ _ q1]
  refine ⟨fun q q1 q2 => ?_, fun s s1 s2 => ?_, by rw [eo 94 (by omega) (by omega), eo 95 (by omega) (by omega), eo 96 (by omega) (by omega), eo 97 (by omega) (by omega), eo 98 (by omega) (by omega)]; exact h3, by rw [eo 99 (by omega) (by omega)]; exact h4, by rw [eo 100 (by omega) (by omega)]; exact h5, ?_⟩
  · rw [e89]; split
    · exact hx
    · exact h1 q q1 q2
  · rw [e90, e89, eo 91 (by omega) (by omega), eo 92 (by omega) (by omega), eo 93 (by omega) (by omega)]
    by_cases q : 16 * c + 4 * r ≤ 16 * c + s ∧ 16 * c + s < 16 * c + 4 * r + 4
    · rw [if_pos q]; exact Or.inl rfl
    · rw [if_neg q, if_neg (by omega)]; exact h2 s s1 s2
  · refine Int.le_trans (pW_le (A := A) (c := c) (fun s s1 s2 => ?_) 16 (by omega)).2 h6
    have sr := eSp_ran h.ok.1.2.2 s s1 s2
    unfold eSp aKind aSpan at sr ⊢
    rw [e90, eo 91 (by omega) (by omega)]
    by_cases q : 16 * c + 4 * r ≤ 16 * c + s ∧ 16 * c + s < 16 * c + 4 * r + 4
    · rw [if_pos q, if_pos rfl]; omega
    · rw [if_neg q]; omega
theorem cIn_lets {A : pM} {c : Int} (h : cIn A c) : cIn (lets A c) c := by
  obtain ⟨h1, h2, h3, h4, h5, h6⟩ := h
  have eo : ∀ a, a ≠ 94 → lets A c a = A a := fun a q => wr_a _ _ _ q
  have e94 : lets A c 94 c = 0 := wr_s _ _ _ _
  refine ⟨by rw [eo 89 (by omega)]; exact h1, by rw [eo 89 (by omega), eo 90 (by omega), eo 91 (by omega), eo 92 (by omega), eo 93 (by omega)]; exact h2, ⟨by omega, fun k k1 k2 => by omega⟩, by rw [eo 99 (by omega)]; exact h4, by rw [eo 100 (by omega)]; exact h5, ?_⟩
  refine Int.le_trans (pW_le (A := A) (c := c) (fun s s1 s2 => ?_) 16 (by omega)).2 h6
  have e : eSp (lets A c) c s = eSp A c s := by unfold eSp aKind aSpan; rw [eo 90 (by omega), eo 91 (by omega)]
  have sr := eSp_ran (cIn.ok ⟨h1, h2, h3, h4, h5, h6⟩).1.2.2 s s1 s2
  rw [e]; omega
theorem cIn_em {A : pM} {c : Int} (h : cIn A c) (r : Nat) (hr : r ≤ 4) : cIn (emR A c r) c := by
  induction r with
  | zero => exact cIn_lets h
  | succ r ih => exact cIn_lay (ih (by omega)) (by omega) (by omega)
set_option maxHeartbeats 4000000 in
set_option maxRecDepth 100000 in
theorem h_empty (d : Nat) (hd : 4 ≤ d) (n : Nat) (ok : pO) (mem : pM) (b : Nat) (hC : ChUp n ok b) (A : pM) (c : Int) (v : Int → Int) (hRA : CR A c mem b) (hOA : SO A c mem b) (hV : CV A c mem b v) (hI : cIn A c) : PM mi_X0_empty d [vr b] n ok mem n (fun r0 ok' mem' => r0 = none ∧ ok = ok' ∧ chM b mem mem' ∧ CS (emR A c 4) c mem' b ∧ CV (emR A c 4) c mem' b (v)) := by
  obtain ⟨hC0, ⟨hC1, hC2, hC3, hC4, hC5, hC6, hC7⟩, hC8, ⟨hC9, hC10, hC11, hC12, hC13, hC14, hC15⟩, hC16, hC17, hb5, hb59⟩ := id hC
  refine PM.of (by decide) (by decide) (Nat.le_refl _) (Nat.le_of_ble_eq_true rfl) ?_
  refine pw_aload_n 0 rfl dX0_empty_0 rfl ?_
  refine pw_gR 8 (b + 8) dX0_empty_1 cOk0 (by assumption) (by decide) kw_246 (by decide) rfl ?_
  refine pw_callV (d' := d - 1) (As := []) (ci := 1) dX0_empty_4 ok_X1_letGo kw_193 rfl rfl (Of.o (by assumption)) (by omega) rfl (Nat.le_of_ble_eq_true rfl) (q_letGo (d - 1) (by omega) n ok mem b hC) (Nat.le_refl _) (Or.inl rfl) (fun r9 ok1 m1 hq => ?_)
  obtain ⟨rfl, rfl, hF, hO⟩ := hq
  have e94 : lets A c 94 c = 0 := wr_s _ _ _ _
  have eo : ∀ a, a ≠ 94 → lets A c a = A a := fun a q => wr_a _ _ _ q
  have g : ∀ a, a ≠ b + 8 → a ≠ b + 14 → a ≠ b + 15 → m1 a = mem a := fun a h1 h2 h3 => by rw [hF a h2 h3]; exact wr_a _ _ _ h1
  have hR1 : CR (lets A c) c m1 b := CR_cond hRA (fun a h1 h2 => eo a (by omega)) (fun a h1 h2 => g a (by omega) (by omega) (by omega)) (by rw [hF (b + 8) (by omega) (by omega), wr_s, e94]) (fun k k1 k2 => by rw [e94] at k2; omega)
  have hO1 : SO (lets A c) c m1 b := SO_of hO e94.symm (fun k k1 k2 => by omega)
  have hV1 : CV (lets A c) c m1 b v := fun s s1 s2 => by rw [g _ (by omega) (by omega) (by omega), hV s s1 s2]; unfold eAv aKind; rw [eo 90 (by omega)]
  have hM1 : chM b mem m1 := ⟨fun a h1 => g a (by omega) (by omega) (by omega), fun k _ _ _ => by rw [g b (by omega) (by omega) (by omega)]⟩
  refine pw_iconst dX0_empty_7 ?_
  refine pw_istore_n 1 rfl dX0_empty_8 (by decide) ?_
  have lp9 : ∀ (kz : Nat) (r : Nat) (m2 : pM), 4 - (r : Int) < (kz : Int) → (r ≤ 4) → (chM b mem m2) → (CR (emR A c r) c m2 b) → (SO (emR A c r) c m2 b) → (CV (emR A c r) c m2 b v) → (r = 0 ∨ CD (emR A c r) c m2 b) → PW mi_X0_empty d n n (fun r0 ok' mem' => r0 = none ∧ ok = ok' ∧ chM b mem mem' ∧ CS (emR A c 4) c mem' b ∧ CV (emR A c 4) c mem' b (v)) 9 [(0, vr b), (1, vi (r : Int))] [] n ok m2 := by
    intro kz
    induction kz with
    | zero =>
      intro r m2 hk h1 hM2 hR2 hO2 hV2 hD2
      exact absurd hk (by omega)
    | succ kz ih =>
      intro r m2 hk h1 hM2 hR2 hO2 hV2 hD2
      refine pw_iload_n 1 rfl dX0_empty_9 rfl ?_
      refine pw_iconst dX0_empty_10 ?_
      refine pw_icmp_ge 26 (by decide) dX0_empty_11 (by omega) (by omega) (fun c11 => ?_) (fun c11 => ?_)
      · skip
        refine pw_vret dX0_empty_26 rfl rfl ?_
        have e4 : r = 4 := by omega
        subst e4
        exact ⟨rfl, rfl, hM2, ⟨hR2, by rcases hD2 with z | z; exact absurd z (by omega); exact z, hO2⟩, hV2⟩
      · skip
        refine pw_aload_n 0 rfl dX0_empty_14 rfl ?_
        refine pw_iload_n 1 rfl dX0_empty_15 rfl ?_
        refine pw_iconst dX0_empty_16 ?_
        refine pw_callV (d' := d - 1) (As := [_, _]) (ci := 0) dX0_empty_17 ok_X0_layRow kw_201 rfl rfl (Of.o (by assumption)) (by omega) rfl (Nat.le_of_ble_eq_true rfl) (h_layRow (d - 1) (by omega) n ok m2 b hC (emR A c r) c v hR2 hO2 hV2 (r : Int) (-1) (by omega) (by omega) (cIn_em hI (r + 1) (by omega))) (Nat.le_refl _) (Or.inl rfl) (fun r9 ok1 m3 hq => ?_)
        obtain ⟨rfl, rfl, hM3, hS3, hV3⟩ := hq
        refine pw_iinc dX0_empty_20 rfl (by decide) ?_
        refine pw_goto 9 (by decide) dX0_empty_23 ?_
        exact pw_locs _ rfl (ih (r + 1) m3 (by omega) (by omega) (hM2.tr hM3) hS3.1 hS3.2.2 hV3 (Or.inr hS3.2.1))
  exact pw_locs _ rfl (lp9 5 0 m1 (by omega) (by omega) hM1 hR1 hO1 hV1 (Or.inl rfl))
theorem cpM_i (m : pM) (a0 a1 : Nat) (k j : Int) (h1 : 0 ≤ j) (h2 : j < k) : cpM m a0 0 a1 0 k a1 j = m a0 j := by
  unfold cpM; rw [if_pos ⟨rfl, h1, by omega⟩]; congr 1; omega
set_option maxHeartbeats 4000000 in
set_option maxRecDepth 100000 in
theorem q_become (d : Nat) (hd : 1 ≤ d) (n : Nat) (ok : pO) (mem : pM) (b b0 : Nat) (hC : ChUp n ok b) (hZ9 : ChUp n ok b0) (hbb : b0 = b ∨ b0 + 18 ≤ b ∨ b + 18 ≤ b0) (hN9 : 0 ≤ mem (b0 + 8) 7 ∧ mem (b0 + 8) 7 ≤ 40) (hg : ∀ j, 0 ≤ j → j < mem (b0 + 8) 7 → -1 ≤ mem (b0 + 9) j ∧ mem (b0 + 9) j ≤ 15) : PM mi_X1_become d [vr (b + 8), vr (b0 + 8)] n ok mem n (fun r0 ok' mem' => r0 = none ∧ ok = ok' ∧ (∀ a, (a < b + 8 ∨ b + 15 < a) → (a < b + 8 ∨ b + 15 < a) → mem' a = mem a) ∧ mem' (b + 8) 7 = mem (b0 + 8) 7 ∧ (∀ j, 0 ≤ j → j < mem (b0 + 8) 7 → mem' (b + 9) j = mem (b0 + 9) j ∧ mem' (b + 10) j = mem (b0 + 10) j ∧ mem' (b + 11) j = mem (b0 + 11) j ∧ mem' (b + 12) j = mem (b0 + 12) j) ∧ ∃ g : Int → Int, (∀ j, 0 ≤ j → j < mem (b0 + 8) 7 → g j = mem (b0 + 9) j) ∧ SOr g (mem (b0 + 8) 7) (mem' (b + 14)) (mem' (b + 15))) := by
  obtain ⟨hC0, ⟨hC1, hC2, hC3, hC4, hC5, hC6, hC7⟩, hC8, ⟨hC9, hC10, hC11, hC12, hC13, hC14, hC15⟩, hC16, hC17, hb5, hb59⟩ := id hC
  obtain ⟨kC0, ⟨kC1, kC2, kC3, kC4, kC5, kC6, kC7⟩, kC8, ⟨kC9, kC10, kC11, kC12, kC13, kC14, kC15⟩, kC16, kC17, kb5, kb59⟩ := id hZ9
  refine PM.of (by decide) (by decide) (Nat.le_refl _) (Nat.le_of_ble_eq_true rfl) ?_
  refine pw_aload_n 0 rfl dX1_become_0 rfl ?_
  refine pw_aload_n 1 rfl dX1_become_1 rfl ?_
  refine pw_gI 7 7 rfl dX1_become_2 cOk1 (by assumption) (by decide) kw_151 (by decide) (fun r2 => ?_)
  refine pw_pI 7 7 rfl dX1_become_5 cOk1 (by assumption) (by decide) kw_151 rfl rfl (by decide) (by omega) ?_
  obtain ⟨m0, em0⟩ : ∃ y, y = wr mem (b + 8) 7 (mem (b0 + 8) 7) := ⟨_, rfl⟩
  rw [← em0]
  have g0 : ∀ a, a ≠ b + 8 → m0 a = mem a := fun a ha => by rw [em0]; exact wr_a _ _ _ ha
  have n0 : m0 (b + 8) 7 = mem (b0 + 8) 7 := by rw [em0, wr_s]
  refine pw_aload_n 1 rfl dX1_become_8 rfl ?_
  refine pw_gR 0 (b0 + 9) dX1_become_9 cOk1 (by assumption) (by decide) kw_132 (by decide) rfl ?_
  refine pw_iconst dX1_become_12 ?_
  refine pw_aload_n 0 rfl dX1_become_13 rfl ?_
  refine pw_gR 0 (b + 9) dX1_become_14 cOk1 (by assumption) (by decide) kw_132 (by decide) rfl ?_
  refine pw_iconst dX1_become_17 ?_
  refine pw_aload_n 0 rfl dX1_become_18 rfl ?_
  refine pw_gI 7 7 rfl dX1_become_19 cOk1 (by assumption) (by decide) kw_151 (by decide) (fun r19 => ?_)
  rw [n0] at r19 ⊢
  refine pw_copy dX1_become_22 kw_522 kw_517 kw_516 kw_83 (Nat.le_of_ble_eq_true rfl) (by omega) (by assumption) (by assumption) (by omega) (by omega) (by omega) (by omega) (by omega) ?_
  obtain ⟨m1, em1⟩ : ∃ y, y = cpM m0 (b0 + 9) 0 (b + 9) 0 (mem (b0 + 8) 7) := ⟨_, rfl⟩
  rw [← em1]
  have g1 : ∀ a, a ≠ b + 9 → m1 a = m0 a := fun a ha => by rw [em1]; exact cpM_a _ _ _ _ _ ha
  have v1 : ∀ j, 0 ≤ j → j < mem (b0 + 8) 7 → m1 (b + 9) j = mem (b0 + 9) j := fun j j1 j2 => by rw [em1, cpM_i _ _ _ _ _ j1 j2, g0 _ (by omega)]
  refine pw_aload_n 1 rfl dX1_become_25 rfl ?_
  refine pw_gR 1 (b0 + 10) dX1_become_26 cOk1 (by assumption) (by decide) kw_135 (by decide) rfl ?_
  refine pw_iconst dX1_become_29 ?_
  refine pw_aload_n 0 rfl dX1_become_30 rfl ?_
  refine pw_gR 1 (b + 10) dX1_become_31 cOk1 (by assumption) (by decide) kw_135 (by decide) rfl ?_
  refine pw_iconst dX1_become_34 ?_
  refine pw_aload_n 0 rfl dX1_become_35 rfl ?_
  refine pw_gI 7 7 rfl dX1_become_36 cOk1 (by assumption) (by decide) kw_151 (by decide) (fun r36 => ?_)
  rw [g1 _ (by omega), n0] at r36 ⊢
  refine pw_copy dX1_become_39 kw_522 kw_517 kw_516 kw_83 (Nat.le_of_ble_eq_true rfl) (by omega) (by assumption) (by assumption) (by omega) (by omega) (by omega) (by omega) (by omega) ?_
  obtain ⟨m2, em2⟩ : ∃ y, y = cpM m1 (b0 + 10) 0 (b + 10) 0 (mem (b0 + 8) 7) := ⟨_, rfl⟩
  rw [← em2]
  have g2 : ∀ a, a ≠ b + 10 → m2 a = m1 a := fun a ha => by rw [em2]; exact cpM_a _ _ _ _ _ ha
  have v2 : ∀ j, 0 ≤ j → j < mem (b0 + 8) 7 → m2 (b + 10) j = mem (b0 + 10) j := fun j j1 j2 => by rw [em2, cpM_i _ _ _ _ _ j1 j2, g1 _ (by omega), g0 _ (by omega)]
  refine pw_aload_n 1 rfl dX1_become_42 rfl ?_
  refine pw_gR 2 (b0 + 11) dX1_become_43 cOk1 (by assumption) (by decide) kw_139 (by decide) rfl ?_
  refine pw_iconst dX1_become_46 ?_
  refine pw_aload_n 0 rfl dX1_become_47 rfl ?_
  refine pw_gR 2 (b + 11) dX1_become_48 cOk1 (by assumption) (by decide) kw_139 (by decide) rfl ?_
  refine pw_iconst dX1_become_51 ?_
  refine pw_aload_n 0 rfl dX1_become_52 rfl ?_
  refine pw_gI 7 7 rfl dX1_become_53 cOk1 (by assumption) (by decide) kw_151 (by decide) (fun r53 => ?_)
  rw [g2 _ (by omega), g1 _ (by omega), n0] at r53 ⊢
  refine pw_copy dX1_become_56 kw_522 kw_517 kw_516 kw_83 (Nat.le_of_ble_eq_true rfl) (by omega) (by assumption) (by assumption) (by omega) (by omega) (by omega) (by omega) (by omega) ?_
  obtain ⟨m3, em3⟩ : ∃ y, y = cpM m2 (b0 + 11) 0 (b + 11) 0 (mem (b0 + 8) 7) := ⟨_, rfl⟩
  rw [← em3]
  have g3 : ∀ a, a ≠ b + 11 → m3 a = m2 a := fun a ha => by rw [em3]; exact cpM_a _ _ _ _ _ ha
  have v3 : ∀ j, 0 ≤ j → j < mem (b0 + 8) 7 → m3 (b + 11) j = mem (b0 + 11) j := fun j j1 j2 => by rw [em3, cpM_i _ _ _ _ _ j1 j2, g2 _ (by omega), g1 _ (by omega), g0 _ (by omega)]
  refine pw_aload_n 1 rfl dX1_become_59 rfl ?_
  refine pw_gR 3 (b0 + 12) dX1_become_60 cOk1 (by assumption) (by decide) kw_143 (by decide) rfl ?_
  refine pw_iconst dX1_become_63 ?_
  refine pw_aload_n 0 rfl dX1_become_64 rfl ?_
  refine pw_gR 3 (b + 12) dX1_become_65 cOk1 (by assumption) (by decide) kw_143 (by decide) rfl ?_
  refine pw_iconst dX1_become_68 ?_
  refine pw_aload_n 0 rfl dX1_become_69 rfl ?_
  refine pw_gI 7 7 rfl dX1_become_70 cOk1 (by assumption) (by decide) kw_151 (by decide) (fun r70 => ?_)
  rw [g3 _ (by omega), g2 _ (by omega), g1 _ (by omega), n0] at r70 ⊢
  refine pw_copy dX1_become_73 kw_522 kw_517 kw_516 kw_83 (Nat.le_of_ble_eq_true rfl) (by omega) (by assumption) (by assumption) (by omega) (by omega) (by omega) (by omega) (by omega) ?_
  obtain ⟨m4, em4⟩ : ∃ y, y = cpM m3 (b0 + 12) 0 (b + 12) 0 (mem (b0 + 8) 7) := ⟨_, rfl⟩
  rw [← em4]
  have g4 : ∀ a, a ≠ b + 12 → m4 a = m3 a := fun a ha => by rw [em4]; exact cpM_a _ _ _ _ _ ha
  have v4 : ∀ j, 0 ≤ j → j < mem (b0 + 8) 7 → m4 (b + 12) j = mem (b0 + 12) j := fun j j1 j2 => by rw [em4, cpM_i _ _ _ _ _ j1 j2, g3 _ (by omega), g2 _ (by omega), g1 _ (by omega), g0 _ (by omega)]
  have k8 : m4 (b + 8) 7 = mem (b0 + 8) 7 := by rw [g4 _ (by omega), g3 _ (by omega), g2 _ (by omega), g1 _ (by omega), n0]
  have k9 : ∀ j, 0 ≤ j → j < mem (b0 + 8) 7 → m4 (b + 9) j = mem (b0 + 9) j := fun j j1 j2 => by rw [g4 _ (by omega), g3 _ (by omega), g2 _ (by omega)]; exact v1 j j1 j2
  refine pw_aload_n 0 rfl dX1_become_76 rfl ?_
  refine pw_callV (d' := d - 1) (As := []) (ci := 1) dX1_become_77 ok_X1_sort kw_197 rfl rfl (Of.o (by assumption)) (by omega) rfl (Nat.le_of_ble_eq_true rfl) (q_sort (d - 1) (by omega) n ok m4 b hC (by rw [k8]; omega) (fun j j1 j2 => by rw [k8] at j2; rw [k9 j j1 j2]; exact hg j j1 j2)) (Nat.le_refl _) (Or.inl rfl) (fun r9 ok1 m5 hq => ?_)
  obtain ⟨rfl, rfl, hF, hO⟩ := hq
  refine pw_vret dX1_become_80 rfl rfl ?_
  refine ⟨rfl, rfl, fun a h1 h2 => ?_, ?_, fun j j1 j2 => ?_, ?_⟩
  · rw [hF a (by omega) (by omega), g4 _ (by omega), g3 _ (by omega), g2 _ (by omega), g1 _ (by omega), g0 _ (by omega)]
  · rw [hF _ (by omega) (by omega), k8]
  · rw [hF _ (by omega) (by omega), hF _ (by omega) (by omega), hF _ (by omega) (by omega), hF _ (by omega) (by omega)]
    refine ⟨k9 j j1 j2, ?_, ?_, v4 j j1 j2⟩
    · rw [g4 _ (by omega), g3 _ (by omega)]; exact v2 j j1 j2
    · rw [g4 _ (by omega)]; exact v3 j j1 j2
  · rw [k8] at hO; exact ⟨m4 (b + 9), k9, hO⟩
set_option maxHeartbeats 4000000 in
set_option maxRecDepth 100000 in
theorem h_become (d : Nat) (hd : 3 ≤ d) (n : Nat) (ok : pO) (mem : pM) (b b0 : Nat) (hC : ChUp n ok b) (hZ9 : ChUp n ok b0) (hbb : b0 = b ∨ b0 + 18 ≤ b ∨ b + 18 ≤ b0) (A : pM) (c : Int) (hI : cIn A c) (v : Int → Int) (hS : CS A c mem b0) (hV : CV A c mem b0 v) : PM mi_X0_become d [vr b, vr b0] n ok mem n (fun r0 ok' mem' => r0 = none ∧ ok = ok' ∧ chM b mem mem' ∧ CS (A) c mem' b ∧ CV (A) c mem' b (v)) := by
  obtain ⟨hC0, ⟨hC1, hC2, hC3, hC4, hC5, hC6, hC7⟩, hC8, ⟨hC9, hC10, hC11, hC12, hC13, hC14, hC15⟩, hC16, hC17, hb5, hb59⟩ := id hC
  obtain ⟨kC0, ⟨kC1, kC2, kC3, kC4, kC5, kC6, kC7⟩, kC8, ⟨kC9, kC10, kC11, kC12, kC13, kC14, kC15⟩, kC16, kC17, kb5, kb59⟩ := id hZ9
  refine PM.of (by decide) (by decide) (Nat.le_refl _) (Nat.le_of_ble_eq_true rfl) ?_
  refine pw_aload_n 1 rfl dX0_become_0 rfl ?_
  refine pw_gR 1 (b0 + 1) dX0_become_1 cOk0 (by assumption) (by decide) kw_228 (by decide) rfl ?_
  refine pw_iconst dX0_become_4 ?_
  refine pw_aload_n 0 rfl dX0_become_5 rfl ?_
  refine pw_gR 1 (b + 1) dX0_become_6 cOk0 (by assumption) (by decide) kw_228 (by decide) rfl ?_
  refine pw_iconst dX0_become_9 ?_
  refine pw_iconst dX0_become_10 ?_
  refine pw_copy dX0_become_11 kw_515 kw_517 kw_516 kw_83 (Nat.le_of_ble_eq_true rfl) (by omega) (by assumption) (by assumption) (by omega) (by omega) (by omega) (by omega) (by omega) ?_
  obtain ⟨m1, em1⟩ : ∃ y, y = cpM mem (b0 + 1) 0 (b + 1) 0 4 := ⟨_, rfl⟩
  rw [← em1]
  have f1 : ∀ a, a ≠ b + 1 → m1 a = mem a := fun a ha => by rw [em1]; exact cpM_a _ _ _ _ _ ha
  have w1 : ∀ j, 0 ≤ j → j < 4 → m1 (b + 1) j = mem (b0 + 1) j := fun j j1 j2 => by rw [em1, cpM_i _ _ _ _ _ j1 j2]
  refine pw_aload_n 1 rfl dX0_become_14 rfl ?_
  refine pw_gR 2 (b0 + 2) dX0_become_15 cOk0 (by assumption) (by decide) kw_230 (by decide) rfl ?_
  refine pw_iconst dX0_become_18 ?_
  refine pw_aload_n 0 rfl dX0_become_19 rfl ?_
  refine pw_gR 2 (b + 2) dX0_become_20 cOk0 (by assumption) (by decide) kw_230 (by decide) rfl ?_
  refine pw_iconst dX0_become_23 ?_
  refine pw_bipush dX0_become_24 (by decide) ?_
  refine pw_copy dX0_become_26 kw_515 kw_517 kw_516 kw_83 (Nat.le_of_ble_eq_true rfl) (by omega) (by assumption) (by assumption) (by omega) (by omega) (by omega) (by omega) (by omega) ?_
  obtain ⟨m2, em2⟩ : ∃ y, y = cpM m1 (b0 + 2) 0 (b + 2) 0 16 := ⟨_, rfl⟩
  rw [← em2]
  have f2 : ∀ a, a ≠ b + 2 → m2 a = m1 a := fun a ha => by rw [em2]; exact cpM_a _ _ _ _ _ ha
  have w2 : ∀ j, 0 ≤ j → j < 16 → m2 (b + 2) j = mem (b0 + 2) j := fun j j1 j2 => by rw [em2, cpM_i _ _ _ _ _ j1 j2, f1 _ (by omega)]
  refine pw_aload_n 1 rfl dX0_become_29 rfl ?_
  refine pw_gR 3 (b0 + 3) dX0_become_30 cOk0 (by assumption) (by decide) kw_234 (by decide) rfl ?_
  refine pw_iconst dX0_become_33 ?_
  refine pw_aload_n 0 rfl dX0_become_34 rfl ?_
  refine pw_gR 3 (b + 3) dX0_become_35 cOk0 (by assumption) (by decide) kw_234 (by decide) rfl ?_
  refine pw_iconst dX0_become_38 ?_
  refine pw_bipush dX0_become_39 (by decide) ?_
  refine pw_copy dX0_become_41 kw_515 kw_517 kw_516 kw_83 (Nat.le_of_ble_eq_true rfl) (by omega) (by assumption) (by assumption) (by omega) (by omega) (by omega) (by omega) (by omega) ?_
  obtain ⟨m3, em3⟩ : ∃ y, y = cpM m2 (b0 + 3) 0 (b + 3) 0 16 := ⟨_, rfl⟩
  rw [← em3]
  have f3 : ∀ a, a ≠ b + 3 → m3 a = m2 a := fun a ha => by rw [em3]; exact cpM_a _ _ _ _ _ ha
  have w3 : ∀ j, 0 ≤ j → j < 16 → m3 (b + 3) j = mem (b0 + 3) j := fun j j1 j2 => by rw [em3, cpM_i _ _ _ _ _ j1 j2, f2 _ (by omega), f1 _ (by omega)]
  refine pw_aload_n 1 rfl dX0_become_44 rfl ?_
  refine pw_gR 4 (b0 + 4) dX0_become_45 cOk0 (by assumption) (by decide) kw_238 (by decide) rfl ?_
  refine pw_iconst dX0_become_48 ?_
  refine pw_aload_n 0 rfl dX0_become_49 rfl ?_
  refine pw_gR 4 (b + 4) dX0_become_50 cOk0 (by assumption) (by decide) kw_238 (by decide) rfl ?_
  refine pw_iconst dX0_become_53 ?_
  refine pw_bipush dX0_become_54 (by decide) ?_
  refine pw_copy dX0_become_56 kw_515 kw_517 kw_516 kw_83 (Nat.le_of_ble_eq_true rfl) (by omega) (by assumption) (by assumption) (by omega) (by omega) (by omega) (by omega) (by omega) ?_
  obtain ⟨m4, em4⟩ : ∃ y, y = cpM m3 (b0 + 4) 0 (b + 4) 0 16 := ⟨_, rfl⟩
  rw [← em4]
  have f4 : ∀ a, a ≠ b + 4 → m4 a = m3 a := fun a ha => by rw [em4]; exact cpM_a _ _ _ _ _ ha
  have w4 : ∀ j, 0 ≤ j → j < 16 → m4 (b + 4) j = mem (b0 + 4) j := fun j j1 j2 => by rw [em4, cpM_i _ _ _ _ _ j1 j2, f3 _ (by omega), f2 _ (by omega), f1 _ (by omega)]
  refine pw_aload_n 1 rfl dX0_become_59 rfl ?_
  refine pw_gR 5 (b0 + 5) dX0_become_60 cOk0 (by assumption) (by decide) kw_241 (by decide) rfl ?_
  refine pw_iconst dX0_become_63 ?_
  refine pw_aload_n 0 rfl dX0_become_64 rfl ?_
  refine pw_gR 5 (b + 5) dX0_become_65 cOk0 (by assumption) (by decide) kw_241 (by decide) rfl ?_
  refine pw_iconst dX0_become_68 ?_
  refine pw_bipush dX0_become_69 (by decide) ?_
  refine pw_copy dX0_become_71 kw_515 kw_517 kw_516 kw_83 (Nat.le_of_ble_eq_true rfl) (by omega) (by assumption) (by assumption) (by omega) (by omega) (by omega) (by omega) (by omega) ?_
  obtain ⟨m5, em5⟩ : ∃ y, y = cpM m4 (b0 + 5) 0 (b + 5) 0 16 := ⟨_, rfl⟩
  rw [← em5]
  have f5 : ∀ a, a ≠ b + 5 → m5 a = m4 a := fun a ha => by rw [em5]; exact cpM_a _ _ _ _ _ ha
  have w5 : ∀ j, 0 ≤ j → j < 16 → m5 (b + 5) j = mem (b0 + 5) j := fun j j1 j2 => by rw [em5, cpM_i _ _ _ _ _ j1 j2, f4 _ (by omega), f3 _ (by omega), f2 _ (by omega), f1 _ (by omega)]
  have k0 : ∀ a, (a < b + 1 ∨ b + 5 < a) → m5 a = mem a := fun a ha => by rw [f5 _ (by omega), f4 _ (by omega), f3 _ (by omega), f2 _ (by omega), f1 _ (by omega)]
  have kz : ∀ a, (b0 + 8 ≤ a ∧ a ≤ b0 + 12) → m5 a = mem a := fun a ha => k0 a (by omega)
  refine pw_aload_n 0 rfl dX0_become_74 rfl ?_
  refine pw_gR 8 (b + 8) dX0_become_75 cOk0 (by assumption) (by decide) kw_246 (by decide) rfl ?_
  refine pw_aload_n 1 rfl dX0_become_78 rfl ?_
  refine pw_gR 8 (b0 + 8) dX0_become_79 cOk0 (by assumption) (by decide) kw_246 (by decide) rfl ?_
  refine pw_callV (d' := d - 1) (As := [_]) (ci := 1) dX0_become_82 ok_X1_become kw_518 rfl rfl (Of.o (by assumption)) (by omega) rfl (Nat.le_of_ble_eq_true rfl) (q_become (d - 1) (by omega) n ok m5 b b0 hC hZ9 hbb (by rw [kz _ (by omega), hS.1.2.2.1]; exact hI.2.2.1.1) (fun j j1 j2 => by rw [kz _ (by omega), hS.1.2.2.1] at j2; rw [kz _ (by omega), (hS.1.2.2.2 j j1 j2).1]; exact (hI.2.2.1.2 j j1 j2).1)) (Nat.le_refl _) (Or.inl rfl) (fun r9 ok1 m6 hq => ?_)
  obtain ⟨rfl, rfl, hF, h94, hcd, g, hg1, hO⟩ := hq
  rw [kz _ (by omega), hS.1.2.2.1] at h94 hO
  have hcd2 : ∀ j, 0 ≤ j → j < A 94 c → m6 (b + 9) j = mem (b0 + 9) j ∧ m6 (b + 10) j = mem (b0 + 10) j ∧ m6 (b + 11) j = mem (b0 + 11) j ∧ m6 (b + 12) j = mem (b0 + 12) j := fun j j1 j2 => by
    have e := hcd j j1 (by rw [kz _ (by omega), hS.1.2.2.1]; exact j2)
    rw [kz _ (by omega), kz _ (by omega), kz _ (by omega), kz _ (by omega)] at e
    exact e
  have hR1 : CR A c m6 b := by
    obtain ⟨h1, h2, h3, h4⟩ := hS.1
    refine ⟨fun r r1 r2 => ?_, fun s s1 s2 => ?_, h94, fun k k1 k2 => ?_⟩
    · rw [hF _ (by omega) (by omega), f5 _ (by omega), f4 _ (by omega), f3 _ (by omega), f2 _ (by omega), w1 r r1 (by omega)]; exact h1 r r1 r2
    · have e := h2 s s1 s2
      rw [hF _ (by omega) (by omega), hF _ (by omega) (by omega), hF _ (by omega) (by omega), w5 s s1 (by omega), f5 _ (by omega), f4 _ (by omega), f3 _ (by omega), w2 s s1 (by omega), f5 _ (by omega), f4 _ (by omega), w3 s s1 (by omega)]; exact e
    · have e := h4 k k1 k2
      have e2 := hcd2 k k1 k2
      rw [e2.1, e2.2.1, e2.2.2.1, e2.2.2.2]; exact e
  have hO1 : SO A c m6 b := SO_of hO rfl (fun k k1 k2 => by rw [hg1 k k1 (by rw [kz _ (by omega), hS.1.2.2.1]; exact k2), kz _ (by omega)]; exact (hS.1.2.2.2 k k1 k2).1)
  have hM1 : chM b mem m6 := ⟨fun a h1 => by rw [hF a (by omega) (by omega)]; exact k0 a (by omega), fun k _ _ _ => by rw [hF b (by omega) (by omega), k0 b (by omega)]⟩
  have hV1 : CV A c m6 b v := fun s s1 s2 => by rw [hF _ (by omega) (by omega), f5 _ (by omega), w4 s s1 (by omega)]; exact hV s s1 s2
  refine pw_aload_n 0 rfl dX0_become_85 rfl ?_
  refine pw_callV (d' := d - 1) (As := []) (ci := 0) dX0_become_86 ok_X0_settle kw_209 rfl rfl (Of.o (by assumption)) (by omega) rfl (Nat.le_of_ble_eq_true rfl) (h_settle (d - 1) (by omega) n ok m6 b hC A c hI hR1) (Nat.le_refl _) (Or.inl rfl) (fun r9 ok1 m7 hq => ?_)
  obtain ⟨rfl, rfl, hT, hDD⟩ := hq
  refine pw_vret dX0_become_89 rfl rfl ?_
  exact ⟨rfl, rfl, hM1.tr hT.c, ⟨CR_st hR1 hT, hDD, SO_st hO1 (hT.1 _ (by omega) (by omega) (by omega)) (hT.1 _ (by omega) (by omega) (by omega))⟩, hV1.m (hT.1 _ (by omega) (by omega) (by omega))⟩
