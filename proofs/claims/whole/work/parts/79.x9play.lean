/-! ===== plays and tries ===== -/
def PT (m m1 : pM) (b : Nat) (ev : pEv) : Prop := (∀ a, a ≠ 1 → a ≠ 2 → a ≠ 3 → a ≠ 87 → a ≠ b + 4 → m1 a = m a) ∧ (∀ k, k ≠ 12 → m1 1 k = m 1 k) ∧ m1 2 = nEv m ev 2 ∧ m1 3 = nEv m ev 3
theorem PT.step {m m1 m2 : pM} {b : Nat} {ev e : pEv} {i x y : Int} (h : PT m m1 b ev) (hb : 5 ≤ b) (g : tM (wr m1 87 i x) m2 b e) : PT m (wr m2 1 12 y) b (ev ++ e) := by
  have c := nEv_c (m := nEv m ev) (m1 := wr m1 87 i x) (by rw [wr_a _ _ _ (by omega)]; exact h.2.2.1) (by rw [wr_a _ _ _ (by omega)]; exact h.2.2.2) e
  refine ⟨fun a a1 a2 a3 a4 a5 => by rw [wr_a _ _ _ a1, g.1 a a2 a3 a5, wr_a _ _ _ a4]; exact h.1 a a1 a2 a3 a4 a5, fun k q => by rw [wr_k _ _ _ _ q, g.1 1 (by omega) (by omega) (by omega), wr_a _ _ _ (by omega)]; exact h.2.1 k q, ?_, ?_⟩
  · rw [wr_a _ _ _ (by omega), g.2.1, c.1, nEv_app]
  · rw [wr_a _ _ _ (by omega), g.2.2, c.2, nEv_app]
theorem rnGo_107 {m : pM} {c : Int} (hs : cOkR m c) (hm : ∀ j : Int, 0 ≤ j → j < m 88 24 → 0 ≤ m 106 j ∧ m 106 j < 38) (f k : Nat) (b : pM) {v : Int → Int} (ev : pEv) (hk : (k : Int) + f ≤ m 88 24) (hv : pOkv m c v) (hb : ∀ i : Nat, i < k → 0 ≤ b 107 i ∧ b 107 i ≤ 1023) : ∀ i : Nat, i < (rnGo m c f k b v ev).1 → 0 ≤ (rnGo m c f k b v ev).2.1 107 i ∧ (rnGo m c f k b v ev).2.1 107 i ≤ 1023 := by
  induction f generalizing k b v ev with
  | zero => exact hb
  | succ f ih =>
    have h0 := hm k (by omega) (by omega)
    rw [rnGo_succ]
    split
    · exact hb
    · rename_i q
      split
      · intro i hi
        show 0 ≤ wr b 88 27 (aStuck m c (m 106 k)) 107 i ∧ wr b 88 27 (aStuck m c (m 106 k)) 107 i ≤ 1023
        rw [wr_a _ _ _ (by omega)]; exact hb i hi
      · refine ih _ _ _ (by omega) (dRes_ok hs.1.2.2 h0.1 (fun q2 => iRes_kind q q2) hv) (fun i hi => ?_)
        by_cases w : i = k
        · subst w
          rw [wr_s]
          have := numV_ran hs.1.2.2 hv 16 (by omega)
          have := hs.2.2
          omega
        · rw [wr_k _ _ _ _ (by omega), wr_a _ _ _ (by omega)]; exact hb i (by omega)
theorem rn_BK {A : pM} (h : RI A) {c : Int} (hc : 0 ≤ c ∧ c ≤ 2) : BK A (rnRes A c).2.1 c ∧ (∀ i : Nat, i < (rnRes A c).1 → 0 ≤ (rnRes A c).2.1 107 i ∧ (rnRes A c).2.1 107 i ≤ 1023) ∧ pOkv A c (rnRes A c).2.2.1 ∧ (rnRes A c).2.2.2.length ≤ 560000 ∧ ((rnRes A c).1 : Int) ≤ A 88 24 := by
  have hs := (h.1 c hc.1 hc.2).ok
  have ht := h.2.2.2.2.1
  have hb := rnGo_b (m := A) c (A 88 24).toNat 0 (b := wr A 88 27 0) (aAt A c) [] ⟨fun a a1 _ => wr_a _ _ _ a1, fun k q => wr_k _ _ _ _ q⟩
  have hn := rnGo_n A c (A 88 24).toNat 0 (wr A 88 27 0) (aAt A c) []
  refine ⟨(BK.rf h.2.1 hc).c (fun a a1 a2 a3 => hb.1 a (by omega) a3) (fun j j1 _ _ _ => hb.2 j j1), ?_, ?_, ?_, ?_⟩
  · exact rnGo_107 hs ht.2 _ _ _ _ (by omega) hs.2.1 (fun i hi => absurd hi (by omega))
  · exact rnGo_ok2 hs ht.2 _ _ _ _ (by omega) hs.2.1
  · have := rnGo_len hs.1.1 (A 88 24).toNat 0 (wr A 88 27 0) (aAt A c) []
    show (rnGo A c (A 88 24).toNat 0 (wr A 88 27 0) (aAt A c) []).2.2.2.length ≤ 560000
    have e : ([] : pEv).length = 0 := rfl
    omega
  · show ((rnGo A c (A 88 24).toNat 0 (wr A 88 27 0) (aAt A c) []).1 : Int) ≤ _
    omega
set_option maxHeartbeats 4000000 in
set_option maxRecDepth 100000 in
theorem p_performTyped (d : Nat) (hd : 5 ≤ d) (n : Nat) (ok : pO) (mem : pM) (hU : ClUp n ok) (A : pM) (hG : RG A mem n) (hRI : RI A) (c : Int) (hc : 0 ≤ c ∧ c ≤ 2) (b : Nat) (hbc : (b : Int) = 5 + 18 * c) (h0 : mem 2 1 = 0) : PM mi_X9_performTyped d [vr 1, vr b] n ok mem n (fun r ok' mem' => r = some (vi ((rnRes A c).1 : Int)) ∧ ok = ok' ∧ PT mem mem' b (rnRes A c).2.2.2 ∧ CV A c mem' b (rnRes A c).2.2.1 ∧ (∀ i : Nat, i < (rnRes A c).1 → mem' 87 i = (rnRes A c).2.1 107 i) ∧ (if mem' 1 12 < 0 then -10 - mem' 1 12 else 0) = (rnRes A c).2.1 88 27) := by
  obtain ⟨hP9, hN, ⟨hn4, ho0, ho1, ho2⟩, hCh, hDr, hM, ⟨hW80, hW82, hW84⟩, q86, q87, hSU, hn133⟩ := id hU
  obtain ⟨hN5, hN3⟩ := id hN
  obtain ⟨hM4, hM9⟩ := id hM
  obtain ⟨hW8, hWA, -, -⟩ := id hW80
  have hIO := hRI.1
  have hKO := hRI.2.1
  have ht9 := hRI.2.2.1
  have hq0 := hRI.2.2.2.1
  have hty := hRI.2.2.2.2.1
  have hNR := hG.1
  have hNR1 : mem 2 1 = A 88 19 := hNR.1
  have hC : ChUp n ok b := hCh b (by omega)
  obtain ⟨hS, hV, hJ, hKR⟩ := hG.2.1 c b (by omega) (by omega) hbc
  have hI := hIO c (by omega) (by omega)
  have hOk := hI.ok
  obtain ⟨hC0, ⟨hC1, hC2, hC3, hC4, hC5, hC6, hC7⟩, hC8, ⟨hC9, hC10, hC11, hC12, hC13, hC14, hC15⟩, hC16, hC17, hb5, hb59⟩ := id hC
  have hty1 := hty.1
  have hT0 := hG.2.2.2.1
  have hT1 : mem 1 11 = A 88 24 := hT0.1
  refine PM.of (by decide) (by decide) (Nat.le_refl _) (Nat.le_of_ble_eq_true rfl) ?_
  refine pw_aload_n 0 rfl dX9_performTyped_0 rfl ?_
  refine pw_iconst dX9_performTyped_1 ?_
  refine pw_pI 12 12 rfl dX9_performTyped_2 cOk9 (by assumption) (by decide) kw_359 rfl rfl (by decide) (by omega) ?_
  refine pw_iconst dX9_performTyped_5 ?_
  refine pw_istore_n 2 rfl dX9_performTyped_6 (by decide) ?_
  have lp7 : ∀ (kz : Nat) (i : Nat) (f : Nat) (B : pM) (v : Int → Int) (ev : pEv) (m1 : pM), (f : Int) < (kz : Int) → ((i : Int) + f = A 88 24) → (rnRes A c = rnGo A c f i B v ev) → (PT mem m1 b ev) → (CV A c m1 b v) → (pOkv A c v) → (∀ j : Nat, j < i → m1 87 j = B 107 j) → (m1 1 12 = 1 ∧ B 88 27 = 0) → (ev.length ≤ 14000 * i) → PW mi_X9_performTyped d n n (fun r ok' mem' => r = some (vi ((rnRes A c).1 : Int)) ∧ ok = ok' ∧ PT mem mem' b (rnRes A c).2.2.2 ∧ CV A c mem' b (rnRes A c).2.2.1 ∧ (∀ i : Nat, i < (rnRes A c).1 → mem' 87 i = (rnRes A c).2.1 107 i) ∧ (if mem' 1 12 < 0 then -10 - mem' 1 12 else 0) = (rnRes A c).2.1 88 27) 7 [(0, vr 1), (1, vr b), (2, vi (i : Int))] [] n ok m1 := by
    intro kz
    induction kz with
    | zero =>
      intro i f B v ev m1 hk hi hg hpt hcv hv h87 h12 hl
      exact absurd hk (by omega)
    | succ kz ih =>
      intro i f B v ev m1 hk hi hg hpt hcv hv h87 h12 hl
      have q11 : m1 1 11 = A 88 24 := (hpt.2.1 11 (by omega)).trans hT1
      have q86 : m1 86 = mem 86 := hpt.1 86 (by omega) (by omega) (by omega) (by omega) (by omega)
      have hS1 : CS A c m1 b := hS.m (fun a a1 a2 a3 a4 => hpt.1 a (by omega) (by omega) (by omega) (by omega) a3)
      have hnr := nEv_ran hG hRI ev
      have hp1 : 0 ≤ m1 2 1 ∧ m1 2 1 ≤ mem 2 1 + ev.length := by rw [hpt.2.2.1]; exact hnr
      have hnv := numV_ran hOk.1.2.2 hv 16 (by omega)
      have hpw := hOk.2.2
      refine pw_iload_n 2 rfl dX9_performTyped_7 rfl ?_
      refine pw_aload_n 0 rfl dX9_performTyped_8 rfl ?_
      refine pw_gI 11 11 rfl dX9_performTyped_9 cOk9 (by assumption) (by decide) kw_358 (by decide) (fun r9 => ?_)
      try simp (disch := omega) only [wr_s, wr_a, wr_k] at r9 ⊢
      rw [q11] at r9 ⊢
      refine pw_icmp_ge 56 (by decide) dX9_performTyped_12 (by omega) (by omega) (fun c12 => ?_) (fun c12 => ?_)
      · skip
        refine pw_iload_n 2 rfl dX9_performTyped_56 rfl ?_
        refine pw_iret dX9_performTyped_57 rfl rfl ?_
        obtain rfl : f = 0 := by omega
        have hg2 : rnRes A c = (i, B, v, ev) := hg
        rw [hg2]
        exact ⟨rfl, rfl, hpt, hcv, h87, by rw [h12.1]; exact h12.2.symm⟩
      · skip
        refine pw_aload_n 0 rfl dX9_performTyped_15 rfl ?_
        refine pw_gR 9 87 dX9_performTyped_16 cOk9 (by assumption) (by decide) kw_356 (by decide) rfl ?_
        refine pw_iload_n 2 rfl dX9_performTyped_19 rfl ?_
        refine pw_aload_n 1 rfl dX9_performTyped_20 rfl ?_
        refine pw_callV (d' := d - 1) (As := []) (ci := 0) dX9_performTyped_21 ok_X0_number kw_789 rfl rfl (Of.o (by assumption)) (by omega) rfl (Nat.le_of_ble_eq_true rfl) (h_number (d - 1) (by omega) n ok m1 hN b hC A c v hI hS1 hcv hv) (Nat.le_refl _) (Or.inl rfl) (fun r ok1 mem1 hq => ?_)
        obtain ⟨rfl, rfl, rfl⟩ := hq
        refine pw_iastore dX9_performTyped_24 (by assumption) (by omega) (by omega) (by omega) ?_
        refine pw_aload_n 0 rfl dX9_performTyped_25 rfl ?_
        refine pw_aload_n 1 rfl dX9_performTyped_26 rfl ?_
        refine pw_aload_n 0 rfl dX9_performTyped_27 rfl ?_
        refine pw_gR 8 86 dX9_performTyped_28 cOk9 (by assumption) (by decide) kw_355 (by decide) rfl ?_
        refine pw_iload_n 2 rfl dX9_performTyped_31 rfl ?_
        refine pw_iaload dX9_performTyped_32 (by assumption) (by omega) (by omega) (fun r32 => ?_)
        rw [wr_a _ _ _ (by omega), q86, hT0.2 i (by omega) (by omega)] at r32 ⊢
        have hmv := hty.2 i (by omega) (by omega)
        refine pw_callV (d' := d - 1) (As := [_]) (ci := 0) dX9_performTyped_33 ok_X0_perform kw_803 rfl rfl (Of.o (by assumption)) (by omega) rfl (Nat.le_of_ble_eq_true rfl) (h_perform (d - 1) (by omega) n ok (wr m1 87 i (numV A c v 16)) hN b hC A c v hI (hS1.m (fun a a1 a2 a3 a4 => wr_a _ _ _ (by omega))) (hcv.m (wr_a _ _ _ (by omega))) hv (A 106 i) (by omega) (by rw [wr_a _ _ _ (by omega), hpt.1 b (by omega) (by omega) (by omega) (by omega) (by omega)]; exact hJ) (by rw [wr_a _ _ _ (by omega)]; omega)) (Nat.le_refl _) (Or.inl rfl) (fun r ok1 m2 hq => ?_)
        obtain ⟨rfl, rfl, hT, hcv2⟩ := hq
        have hst := aStuck_ran A c (A 106 i)
        have hpR : (iRes A c v (A 106 i) = 0 ∧ pfR A c v (A 106 i) = 0) ∨ (iRes A c v (A 106 i) ≠ 0 ∧ aStuck A c (A 106 i) ≠ 0 ∧ pfR A c v (A 106 i) = -10 - aStuck A c (A 106 i)) ∨ (iRes A c v (A 106 i) ≠ 0 ∧ aStuck A c (A 106 i) = 0 ∧ pfR A c v (A 106 i) = 1) := by
          unfold pfR
          by_cases q : iRes A c v (A 106 i) = 0
          · rw [if_pos q]; exact Or.inl ⟨q, rfl⟩
          · rw [if_neg q]
            by_cases w : aStuck A c (A 106 i) ≠ 0
            · rw [if_pos w]; exact Or.inr (Or.inl ⟨q, w, rfl⟩)
            · rw [if_neg w]; exact Or.inr (Or.inr ⟨q, by omega, rfl⟩)
        refine pw_pI 12 12 rfl dX9_performTyped_36 cOk9 (by assumption) (by decide) kw_359 rfl rfl (by decide) (by omega) ?_
        refine pw_aload_n 0 rfl dX9_performTyped_39 rfl ?_
        refine pw_gI 12 12 rfl dX9_performTyped_40 cOk9 (by assumption) (by decide) kw_359 (by decide) (fun r40 => ?_)
        try simp (disch := omega) only [wr_s, wr_a, wr_k] at r40 ⊢
        refine pw_iconst dX9_performTyped_43 ?_
        refine pw_icmp_eq 50 (by decide) dX9_performTyped_44 (by omega) (by omega) (fun c44 => ?_) (fun c44 => ?_)
        · skip
          have hi0 : iRes A c v (A 106 i) ≠ 0 := by omega
          refine pw_iinc dX9_performTyped_50 rfl (by decide) ?_
          refine pw_goto 7 (by decide) dX9_performTyped_53 ?_
          have hf : ∃ f', f = f' + 1 := ⟨f - 1, by omega⟩
          obtain ⟨f', rfl⟩ := hf
          rw [rnGo_succ, if_neg hi0, if_neg (by omega)] at hg
          have epv : pfV A c v (A 106 i) = (dRes A c (A 106 i) v).1 := by unfold pfV; rw [if_neg hi0, if_neg (by omega)]
          have epe : pfE A c v (A 106 i) = iEv A c v (A 106 i) ++ (dRes A c (A 106 i) v).2 := by unfold pfE; rw [if_neg hi0, if_neg (by omega)]
          have hll := pfE_len hOk.1.1 v (A 106 i)
          have hlen : (ev ++ pfE A c v (A 106 i)).length ≤ 14000 * (i + 1) := by rw [List.length_append]; omega
          have hps := hpt.step (y := pfR A c v (A 106 i)) (by omega) hT
          have hpo := pfV_ok hOk.1.2.2 hv (mv := A 106 i) (by omega)
          rw [epv] at hcv2 hpo
          rw [epe, ← List.append_assoc] at hps hlen
          have h872 : ∀ j : Nat, j < i + 1 → wr m2 1 12 (pfR A c v (A 106 i)) 87 j = wr (wr B 88 27 0) 107 i (numV A c v 16) 107 j := fun j hj => by
            rw [wr_a _ _ _ (by omega), hT.1 87 (by omega) (by omega) (by omega)]
            by_cases w : j = i
            · rw [w, wr_s, wr_s]
            · rw [wr_k _ _ _ _ (by omega), wr_k _ _ _ _ (by omega), wr_a _ _ _ (by omega)]; exact h87 j (by omega)
          exact pw_locs _ rfl (ih (i + 1) f' (wr (wr B 88 27 0) 107 i (numV A c v 16)) _ _ _ (by omega) (by omega) hg hps (hcv2.m (wr_a _ _ _ (by omega))) hpo h872 ⟨by rw [wr_s]; omega, by rw [wr_a _ _ _ (by omega), wr_s]⟩ hlen)
        · skip
          refine pw_goto 56 (by decide) dX9_performTyped_47 ?_
          refine pw_iload_n 2 rfl dX9_performTyped_56 rfl ?_
          refine pw_iret dX9_performTyped_57 rfl rfl ?_
          obtain ⟨f', rfl⟩ : ∃ f', f = f' + 1 := ⟨f - 1, by omega⟩
          have hps := hpt.step (y := pfR A c v (A 106 i)) (by omega) hT
          have hcv3 := hcv2.m (m1 := wr m2 1 12 (pfR A c v (A 106 i))) (wr_a _ _ _ (by omega))
          have h872 : ∀ j : Nat, j < i → wr m2 1 12 (pfR A c v (A 106 i)) 87 j = B 107 j := fun j hj => by
            rw [wr_a _ _ _ (by omega), hT.1 87 (by omega) (by omega) (by omega), wr_k _ _ _ _ (by omega)]; exact h87 j hj
          rw [rnGo_succ] at hg
          rcases hpR with z | z | z
          · rw [if_pos z.1] at hg
            have epv : pfV A c v (A 106 i) = v := by unfold pfV; rw [if_pos z.1]
            have epe : pfE A c v (A 106 i) = iEv A c v (A 106 i) := by unfold pfE; rw [if_pos z.1, List.append_nil]
            rw [epv] at hcv3
            rw [epe] at hps
            rw [hg]
            exact ⟨rfl, rfl, hps, hcv3, h872, by rw [wr_s, z.2]; exact h12.2.symm⟩
          · rw [if_neg z.1, if_pos z.2.1] at hg
            have epv : pfV A c v (A 106 i) = v := by unfold pfV; rw [if_neg z.1, if_pos z.2.1]
            have epe : pfE A c v (A 106 i) = iEv A c v (A 106 i) ++ [(false, aStuck A c (A 106 i))] := by unfold pfE; rw [if_neg z.1, if_pos z.2.1]
            rw [epv] at hcv3
            rw [epe, ← List.append_assoc] at hps
            rw [hg]
            refine ⟨rfl, rfl, hps, hcv3, fun j hj => by rw [h872 j hj]; show _ = wr B 88 27 (aStuck A c (A 106 i)) 107 _; rw [wr_a _ _ _ (by omega)], ?_⟩
            show _ = wr B 88 27 (aStuck A c (A 106 i)) 88 27
            rw [wr_s, wr_s, z.2.2, if_pos (by omega)]; omega
          · exact absurd z.2.2 (by omega)
  exact pw_locs _ rfl (lp7 ((A 88 24).toNat + 1) 0 (A 88 24).toNat (wr A 88 27 0) (aAt A c) [] _ (by omega) (by omega) rfl ⟨fun a a1 _ _ _ _ => wr_a _ _ _ a1, fun k q => wr_k _ _ _ _ q, wr_a _ _ _ (by omega), wr_a _ _ _ (by omega)⟩ (hV.m (wr_a _ _ _ (by omega))) hOk.2.1 (fun j hj => absurd hj (by omega)) ⟨wr_s _ _ _ _, wr_s _ _ _ _⟩ (Nat.zero_le _))
def PPl (A : pM) (c : Int) (A2 : pM) : Prop := ∃ (z : Int) (m9 : pM), vMem (rKeepAll (rnRes A c).2.1 c (rnRes A c).1) m9 c (rnRes A c).2.2.1 (rnRes A c).2.2.2 z ∧ wr m9 88 0 0 = A2
def PAt (A : pM) (c : Int) (A2 : pM) : Prop := ∃ (z : Int) (m9 : pM), vMem (attRes A c).2.1 m9 c (attRes A c).2.2.1 (attRes A c).2.2.2 z ∧ wr m9 88 0 0 = A2
theorem RI_play {A A2 : pM} (h : RI A) (h0 : A 88 19 = 0) {c : Int} (hc : 0 ≤ c ∧ c ≤ 2) (hp : PPl A c A2) : RI A2 := by
  obtain ⟨z, m9, p1, rfl⟩ := hp
  obtain ⟨b1, b2, b3, b4, -⟩ := rn_BK h hc
  exact RI_st (RI_moved h hc (b1.all _ b2) p1 b3 (by omega)) _
theorem att_BK {A : pM} (h : RI A) {c : Int} (hc : 0 ≤ c ∧ c ≤ 2) : BK A (attB A c) c := by
  obtain ⟨b1, -, -, -, -⟩ := rn_BK h hc
  exact b1.c (fun a a1 a2 _ => by unfold attB; simp (disch := omega) only [wr_a]) (fun j _ j2 j3 j4 => by unfold attB; simp (disch := omega) only [wr_k])
theorem att_107 (A : pM) (c : Int) : attB A c 107 = (rnRes A c).2.1 107 := by unfold attB; simp (disch := omega) only [wr_a]
theorem att_all {A : pM} (h : RI A) {c : Int} (hc : 0 ≤ c ∧ c ≤ 2) : BK A (attRes A c).2.1 c ∧ pOkv A c (attRes A c).2.2.1 ∧ (attRes A c).2.2.2.length ≤ 600000 := by
  obtain ⟨b1, b2, b3, b4, b5⟩ := rn_BK h hc
  have hs := (h.1 c hc.1 hc.2).ok
  have ho := oEv_len (rnRes A c).2.2.1 hs.1.1
  have hb := att_BK h hc
  have hlo : ((rnRes A c).2.2.2 ++ oEv A c (rnRes A c).2.2.1).length ≤ 600000 := by rw [List.length_append]; omega
  unfold attRes; split
  · exact ⟨hb, setV_ok hs.1.2.2 _ _, by show (rnRes A c).2.2.2.length ≤ _; omega⟩
  · split
    · exact ⟨hb, setV_ok hs.1.2.2 _ _, hlo⟩
    · exact ⟨hb.all _ (by rw [att_107]; exact b2), b3, hlo⟩
theorem RI_attempt {A A2 : pM} (h : RI A) (h0 : A 88 19 = 0) {c : Int} (hc : 0 ≤ c ∧ c ≤ 2) (hp : PAt A c A2) : RI A2 := by
  obtain ⟨z, m9, p1, rfl⟩ := hp
  obtain ⟨b1, b3, b4⟩ := att_all h hc
  exact RI_st (RI_moved h hc b1 p1 b3 (by omega)) _
set_option maxHeartbeats 4000000 in
set_option maxRecDepth 100000 in
theorem p_play (d : Nat) (hd : 6 ≤ d) (n : Nat) (ok : pO) (mem : pM) (hU : ClUp n ok) (hG : RG mem mem n) (hRI : RI mem) (c : Int) (hc : -2147483648 ≤ c ∧ c ≤ 2147483647)  : PM mi_X9_play d [vr 1, vi c] n ok mem n (fun r ok' mem' => ok = ok' ∧ RE mem mem' ∧ ((¬ (0 ≤ c ∧ c ≤ 2) ∧ r = some (vi (-2)) ∧ RG (wr (wr mem 88 19 0) 88 0 (-2)) mem' n) ∨ ((0 ≤ c ∧ c ≤ 2) ∧ r = some (vi (((rnRes (wr mem 88 19 0) c).1 : Int))) ∧ ∀ A2, PPl (wr mem 88 19 0) c A2 → RG A2 mem' n))) := by
  obtain ⟨hP9, hN, ⟨hn4, ho0, ho1, ho2⟩, hCh, hDr, hM, ⟨hW80, hW82, hW84⟩, q86, q87, hSU, hn133⟩ := id hU
  obtain ⟨hN5, hN3⟩ := id hN
  obtain ⟨hM4, hM9⟩ := id hM
  obtain ⟨hW8, hWA, -, -⟩ := id hW80
  have hIO := hRI.1
  have hKO := hRI.2.1
  have ht9 := hRI.2.2.1
  have hq0 := hRI.2.2.2.1
  have hty := hRI.2.2.2.2.1
  have hNR := hG.1
  have hNR1 : mem 2 1 = mem 88 19 := hNR.1
  refine PM.of (by decide) (by decide) (Nat.le_refl _) (Nat.le_of_ble_eq_true rfl) ?_
  refine pw_aload_n 0 rfl dX9_play_0 rfl ?_
  refine pw_gR 0 2 dX9_play_1 cOk9 (by assumption) (by decide) kw_347 (by decide) rfl ?_
  refine pw_callV (d' := d - 1) (As := []) (ci := 5) dX9_play_4 ok_X5_emptyTrace kw_743 rfl rfl (Of.o (by assumption)) (by omega) rfl (Nat.le_of_ble_eq_true rfl) (n_emptyTrace (d - 1) (by omega) n ok mem hN) (Nat.le_refl _) (Or.inl rfl) (fun r ok1 m0 hq => ?_)
  obtain ⟨rfl, rfl, hm0⟩ := hq
  have hG0 : RG (wr mem 88 19 0) m0 n := by rw [← hm0]; exact RG_t0 hG hIO hKO
  have hRI0 := RI_t0 hRI
  have hRE0 : RE mem m0 := fun a a1 a2 => by rw [← hm0, wr_a _ _ _ (by omega)]
  have ht1 : m0 2 1 = 0 := by rw [← hm0, wr_s]
  have hA19 : wr mem 88 19 0 88 19 = 0 := wr_s _ _ _ _
  generalize hA0 : wr mem 88 19 0 = A0 at hG0 hRI0 hA19 ⊢
  clear hG hRI hIO hKO ht9 hq0 hty hNR hNR1
  have hG := hG0
  have hRI := hRI0
  have hIO := hRI0.1
  have hKO := hRI0.2.1
  have hty := hRI0.2.2.2.2.1
  refine pw_iload_n 1 rfl dX9_play_7 rfl ?_
  refine pw_callS (d' := d - 1) (As := [_]) dX9_play_8 ok_X9_isChest kw_403 (by omega) rfl (Nat.le_of_ble_eq_true rfl) (p_isChest (d - 1) (by omega) n ok _ _ (by omega)) (Nat.le_refl _) (Or.inl rfl) (fun r ok1 mem1 hq => ?_)
  obtain ⟨rfl, rfl, rfl⟩ := hq
  refine pw_if_ne 21 (by decide) dX9_play_11 (by split <;> omega) (fun c11 => ?_) (fun c11 => ?_)
  · skip
    rw [ne_eq, bz_n] at c11
    obtain ⟨b, hbc⟩ : ∃ b : Nat, (b : Int) = 5 + 18 * c := ⟨(5 + 18 * c).toNat, by omega⟩
    have hC : ChUp n ok b := hCh b (by omega)
    have hok : ok 4 (c).toNat = true := by rcases (show c = 0 ∨ c = 1 ∨ c = 2 by omega) with e | e | e <;> (rw [e]; assumption)
    obtain ⟨hS, hV, hJ, hKR⟩ := hG.2.1 c b (by omega) (by omega) hbc
    have hI := hIO c (by omega) (by omega)
    have hOk := hI.ok
    obtain ⟨hR, hD, hSo⟩ := id hS
    obtain ⟨hC0, ⟨hC1, hC2, hC3, hC4, hC5, hC6, hC7⟩, hC8, ⟨hC9, hC10, hC11, hC12, hC13, hC14, hC15⟩, hC16, hC17, hb5, hb59⟩ := id hC
    refine pw_aload_n 0 rfl dX9_play_21 rfl ?_
    refine pw_aload_n 0 rfl dX9_play_22 rfl ?_
    refine pw_gR 1 4 dX9_play_23 cOk9 (by assumption) (by decide) kw_348 (by decide) rfl ?_
    refine pw_iload_n 1 rfl dX9_play_26 rfl ?_
    refine pw_aaload (L := 3) dX9_play_27 (by omega) (by omega) rfl rfl (by decide) (by omega) (by omega) b hbc hok ?_
    refine pw_callV (d' := d - 1) (As := [_]) (ci := 9) dX9_play_28 ok_X9_performTyped kw_827 rfl rfl (Of.o (by assumption)) (by omega) rfl (Nat.le_of_ble_eq_true rfl) (p_performTyped (d - 1) (by omega) n ok m0 hU A0 hG hRI c (by omega) b hbc ht1) (Nat.le_refl _) (Or.inl rfl) (fun r ok1 mem1 hq => ?_)
    obtain ⟨rfl, rfl, hpt, hcv, h87, h27⟩ := hq
    obtain ⟨b1, b2, b3, b4, b5⟩ := rn_BK hRI (c := c) (by omega)
    have hty1 := hty.1
    have hKR1 : KR A0 c mem1 b := by
      unfold KR; rw [hpt.1 (b + 16) (by omega) (by omega) (by omega) (by omega) (by omega), hpt.1 (b + 17) (by omega) (by omega) (by omega) (by omega) (by omega)]; exact hKR
    have hko := hKO c (by omega) (by omega)
    refine pw_istore_n 2 rfl dX9_play_31 (by decide) ?_
    refine pw_aload_n 0 rfl dX9_play_32 rfl ?_
    refine pw_gR 1 4 dX9_play_33 cOk9 (by assumption) (by decide) kw_348 (by decide) rfl ?_
    refine pw_iload_n 1 rfl dX9_play_36 rfl ?_
    refine pw_aaload (L := 3) dX9_play_37 (by omega) (by omega) rfl rfl (by decide) (by omega) (by omega) b hbc hok ?_
    refine pw_gR 9 (b + 16) dX9_play_38 cOk0 (by assumption) (by decide) kw_250 (by decide) rfl ?_
    refine pw_aload_n 0 rfl dX9_play_41 rfl ?_
    refine pw_gR 9 87 dX9_play_42 cOk9 (by assumption) (by decide) kw_356 (by decide) rfl ?_
    refine pw_iload_n 2 rfl dX9_play_45 rfl ?_
    refine pw_callV (d' := d - 1) (As := [_, _]) (ci := 3) dX9_play_46 ok_X3_pushAll kw_831 rfl rfl (Of.o (by assumption)) (by omega) rfl (Nat.le_of_ble_eq_true rfl) (k_pushAll (d - 1) (by omega) n ok _ b ⟨hC16, hC17⟩ (by omega) q87 _ (by omega) ⟨hKR1.2.1, by rw [hKR1.1]; omega⟩) (Nat.le_refl _) (Or.inl rfl) (fun r ok1 mem2 hq => ?_)
    obtain ⟨rfl, rfl, rfl⟩ := hq
    rw [Int.toNat_natCast]
    refine pw_aload_n 0 rfl dX9_play_49 rfl ?_
    refine pw_iload_n 2 rfl dX9_play_50 rfl ?_
    refine pw_callV (d' := d - 1) (As := [_]) (ci := 9) dX9_play_51 ok_X9_answered kw_423 rfl rfl (Of.o (by assumption)) (by omega) rfl (Nat.le_of_ble_eq_true rfl) (p_answered (d - 1) (by omega) n ok _ hP9 _) (Nat.le_refl _) (Or.inl rfl) (fun r ok1 mem1 hq => ?_)
    obtain ⟨rfl, rfl, rfl⟩ := hq
    refine pw_iret dX9_play_54 rfl rfl ?_
    have hrb := rnGo_b (m := A0) c (A0 88 24).toNat 0 (b := wr A0 88 27 0) (aAt A0 c) [] ⟨fun a a1 _ => wr_a _ _ _ a1, fun k q => wr_k _ _ _ _ q⟩
    change bSame A0 (rnRes A0 c).2.1 at hrb
    have eK : BK A0 (rnRes A0 c).2.1 c := b1
    have hKRb : KR (rnRes A0 c).2.1 c mem1 b := by
      unfold KR; rw [hrb.1 101 (by omega) (by omega), hrb.1 102 (by omega) (by omega)]; exact hKR1
    have hia := kpAll_i (m := mem1) (b := b) (by omega) ⟨hKR1.2.1, by rw [hKR1.1]; omega⟩ (rnRes A0 c).1
    refine ⟨rfl, RE_w (fun a a1 a2 => ?_) _, Or.inr ⟨by omega, rfl, fun A2 hA2 => ?_⟩⟩
    · rw [hia.2 a (by omega) (by omega), hpt.1 a (by omega) (by omega) (by omega) (by omega) (by omega)]; exact hRE0 a a1 a2
    · obtain ⟨z, m9, p1, rfl⟩ := hA2
      have hRm : RI m9 := RI_moved hRI (by omega) (b1.all _ b2) p1 b3 (by omega)
      have e1 : ∀ a, a ≠ 1 → a ≠ 2 → a ≠ 3 → a ≠ 87 → a ≠ b + 4 → a ≠ b + 16 → a ≠ b + 17 → kpAll mem1 b (rnRes A0 c).1 a = m0 a := fun a a1 a2 a3 a4 a5 a6 a7 => (hia.2 a a6 a7).trans (hpt.1 a a1 a2 a3 a4 a5)
      have e11 : ∀ k, k ≠ 12 → kpAll mem1 b (rnRes A0 c).1 1 k = m0 1 k := fun k q => by rw [hia.2 1 (by omega) (by omega)]; exact hpt.2.1 k q
      have k9 : ∀ j, j = 28 ∨ j = 29 ∨ j = 30 ∨ j = 0 → m9 88 j = A0 88 j := fun j hj => (p1.f (by omega) (by omega) (by omega) (by omega)).trans (by rw [rKeepAll_a (by omega) (by omega)]; exact hrb.2 j (by omega))
      refine RG_st (RG_moved hG hRI (by omega) hbc (b1.all _ b2) p1 (KR_all hKRb ⟨eK.2.2.2.2.1, eK.2.2.2.2.2.1⟩ _ h87) e1 (e11 _ (by omega)) (e11 _ (by omega)) ?_ ?_ (hcv.m (hia.2 _ (by omega) (by omega))) (RAt_c hG.2.2.2.2.1 (k9 _ (by omega)) (k9 _ (by omega)) (k9 _ (by omega)) (k9 _ (by omega)) (e11 _ (by omega)) (e11 _ (by omega)) (e11 _ (by omega)) (e11 _ (by omega)))) hRm.1 hRm.2.1 _
      · rw [hia.2 2 (by omega) (by omega)]; exact hpt.2.2.1
      · rw [hia.2 3 (by omega) (by omega)]; exact hpt.2.2.2
  · skip
    rw [bz_0] at c11
    refine pw_aload_n 0 rfl dX9_play_14 rfl ?_
    refine pw_bipush dX9_play_15 (by decide) ?_
    refine pw_callV (d' := d - 1) (As := [_]) (ci := 9) dX9_play_17 ok_X9_refused kw_406 rfl rfl (Of.o (by assumption)) (by omega) rfl (Nat.le_of_ble_eq_true rfl) (p_refused (d - 1) (by omega) n ok _ hP9 _ (by omega)) (Nat.le_refl _) (Or.inl rfl) (fun r ok1 mem1 hq => ?_)
    obtain ⟨rfl, rfl, rfl⟩ := hq
    refine pw_iret dX9_play_20 rfl rfl ?_
    exact ⟨rfl, RE_w hRE0 _, Or.inl ⟨c11, rfl, RG_st hG hIO hKO _⟩⟩
theorem att_88 (A : pM) (c : Int) (j : Int) : (attRes A c).2.1 88 j = attB A c 88 j := by
  unfold attRes; split
  · rfl
  · split
    · rfl
    · show rKeepAll (attB A c) c _ 88 j = _; rw [rKeepAll_a (by omega) (by omega)]
theorem RG_att {A m m1 m9 : pM} {n : Nat} {c : Int} {b : Nat} {z : Int} (h : RG A m n) (hR : RI A) (h0 : A 88 19 = 0) (hc : 0 ≤ c ∧ c ≤ 2) (hb : (b : Int) = 5 + 18 * c) (h9 : vMem (attRes A c).2.1 m9 c (attRes A c).2.2.1 (attRes A c).2.2.2 z) (hKR : KR (attRes A c).2.1 c m1 b) (em : ∀ a, a ≠ 1 → a ≠ 2 → a ≠ 3 → a ≠ 87 → a ≠ b + 4 → a ≠ b + 16 → a ≠ b + 17 → m1 a = m a) (ek : ∀ k, k = 10 ∨ k = 11 ∨ k = 16 → m1 1 k = m 1 k) (e2 : m1 2 = nEv m (attRes A c).2.2.2 2) (e3 : m1 3 = nEv m (attRes A c).2.2.2 3) (hcv : CV A c m1 b (attRes A c).2.2.1) (h13 : m1 1 13 = ((rnRes A c).1 : Int)) (h14 : m1 1 14 = (if ((rnRes A c).1 : Int) < A 88 24 then A 106 (rnRes A c).1 else -1)) (h15 : m1 1 15 = (rnRes A c).2.1 88 27) : RG m9 m1 n ∧ RI m9 := by
  obtain ⟨b1, b3, b4⟩ := att_all hR hc
  refine ⟨RG_moved h hR hc hb b1 h9 hKR em (ek _ (by omega)) (ek _ (by omega)) e2 e3 hcv ⟨?_, ?_, ?_, ?_⟩, RI_moved hR hc b1 h9 b3 (by omega)⟩
  · rw [h9.f (by omega) (by omega) (by omega) (by omega), att_88, h13]; unfold attB; simp (disch := omega) only [wr_s, wr_k]
  · rw [h9.f (by omega) (by omega) (by omega) (by omega), att_88, h14]; unfold attB; simp (disch := omega) only [wr_s, wr_k]
  · rw [h9.f (by omega) (by omega) (by omega) (by omega), att_88, h15]; unfold attB; simp (disch := omega) only [wr_s, wr_k]
  · rw [h9.f (by omega) (by omega) (by omega) (by omega), att_88, ek 16 (by omega), h.2.2.2.2.1.2.2.2]
    have := (att_BK hR hc).2.1 0 (by omega) (by omega) (by omega) (by omega)
    exact this.symm
set_option maxHeartbeats 4000000 in
set_option maxRecDepth 100000 in
theorem p_attempt (d : Nat) (hd : 6 ≤ d) (n : Nat) (ok : pO) (mem : pM) (hU : ClUp n ok) (hG : RG mem mem n) (hRI : RI mem) (c : Int) (hc : -2147483648 ≤ c ∧ c ≤ 2147483647)  : PM mi_X9_attempt d [vr 1, vi c] n ok mem n (fun r ok' mem' => ok = ok' ∧ RE mem mem' ∧ ((¬ (0 ≤ c ∧ c ≤ 2) ∧ r = some (vi (-2)) ∧ RG (wr (wr mem 88 19 0) 88 0 (-2)) mem' n) ∨ ((0 ≤ c ∧ c ≤ 2) ∧ r = some (vi ((attRes (wr mem 88 19 0) c).1)) ∧ ∀ A2, PAt (wr mem 88 19 0) c A2 → RG A2 mem' n))) := by
  obtain ⟨hP9, hN, ⟨hn4, ho0, ho1, ho2⟩, hCh, hDr, hM, ⟨hW80, hW82, hW84⟩, q86, q87, hSU, hn133⟩ := id hU
  obtain ⟨hN5, hN3⟩ := id hN
  obtain ⟨hM4, hM9⟩ := id hM
  obtain ⟨hW8, hWA, -, -⟩ := id hW80
  have hIO := hRI.1
  have hKO := hRI.2.1
  have ht9 := hRI.2.2.1
  have hq0 := hRI.2.2.2.1
  have hty := hRI.2.2.2.2.1
  have hNR := hG.1
  have hNR1 : mem 2 1 = mem 88 19 := hNR.1
  refine PM.of (by decide) (by decide) (Nat.le_refl _) (Nat.le_of_ble_eq_true rfl) ?_
  refine pw_aload_n 0 rfl dX9_attempt_0 rfl ?_
  refine pw_gR 0 2 dX9_attempt_1 cOk9 (by assumption) (by decide) kw_347 (by decide) rfl ?_
  refine pw_callV (d' := d - 1) (As := []) (ci := 5) dX9_attempt_4 ok_X5_emptyTrace kw_743 rfl rfl (Of.o (by assumption)) (by omega) rfl (Nat.le_of_ble_eq_true rfl) (n_emptyTrace (d - 1) (by omega) n ok mem hN) (Nat.le_refl _) (Or.inl rfl) (fun r ok1 m0 hq => ?_)
  obtain ⟨rfl, rfl, hm0⟩ := hq
  have hG0 : RG (wr mem 88 19 0) m0 n := by rw [← hm0]; exact RG_t0 hG hIO hKO
  have hRI0 := RI_t0 hRI
  have hRE0 : RE mem m0 := fun a a1 a2 => by rw [← hm0, wr_a _ _ _ (by omega)]
  have ht1 : m0 2 1 = 0 := by rw [← hm0, wr_s]
  have hA19 : wr mem 88 19 0 88 19 = 0 := wr_s _ _ _ _
  generalize hA0 : wr mem 88 19 0 = A0 at hG0 hRI0 hA19 ⊢
  clear hG hRI hIO hKO ht9 hq0 hty hNR hNR1
  have hG := hG0
  have hRI := hRI0
  have hIO := hRI0.1
  have hKO := hRI0.2.1
  have hty := hRI0.2.2.2.2.1
  refine pw_iload_n 1 rfl dX9_attempt_7 rfl ?_
  refine pw_callS (d' := d - 1) (As := [_]) dX9_attempt_8 ok_X9_isChest kw_403 (by omega) rfl (Nat.le_of_ble_eq_true rfl) (p_isChest (d - 1) (by omega) n ok _ _ (by omega)) (Nat.le_refl _) (Or.inl rfl) (fun r ok1 mem1 hq => ?_)
  obtain ⟨rfl, rfl, rfl⟩ := hq
  refine pw_if_ne 21 (by decide) dX9_attempt_11 (by split <;> omega) (fun c11 => ?_) (fun c11 => ?_)
  · skip
    rw [ne_eq, bz_n] at c11
    obtain ⟨b, hbc⟩ : ∃ b : Nat, (b : Int) = 5 + 18 * c := ⟨(5 + 18 * c).toNat, by omega⟩
    have hC : ChUp n ok b := hCh b (by omega)
    have hok : ok 4 (c).toNat = true := by rcases (show c = 0 ∨ c = 1 ∨ c = 2 by omega) with e | e | e <;> (rw [e]; assumption)
    obtain ⟨hS, hV, hJ, hKR⟩ := hG.2.1 c b (by omega) (by omega) hbc
    have hI := hIO c (by omega) (by omega)
    have hOk := hI.ok
    obtain ⟨hR, hD, hSo⟩ := id hS
    obtain ⟨hC0, ⟨hC1, hC2, hC3, hC4, hC5, hC6, hC7⟩, hC8, ⟨hC9, hC10, hC11, hC12, hC13, hC14, hC15⟩, hC16, hC17, hb5, hb59⟩ := id hC
    refine pw_aload_n 0 rfl dX9_attempt_21 rfl ?_
    refine pw_gR 1 4 dX9_attempt_22 cOk9 (by assumption) (by decide) kw_348 (by decide) rfl ?_
    refine pw_iload_n 1 rfl dX9_attempt_25 rfl ?_
    refine pw_aaload (L := 3) dX9_attempt_26 (by omega) (by omega) rfl rfl (by decide) (by omega) (by omega) b hbc hok ?_
    refine pw_astore_n 2 rfl dX9_attempt_27 (by decide) ?_
    refine pw_aload_n 2 rfl dX9_attempt_28 rfl ?_
    refine pw_callV (d' := d - 1) (As := []) (ci := 0) dX9_attempt_29 ok_X0_number kw_789 rfl rfl (Of.o (by assumption)) (by omega) rfl (Nat.le_of_ble_eq_true rfl) (h_number (d - 1) (by omega) n ok m0 hN b hC A0 c (aAt A0 c) hI hS hV hOk.2.1) (Nat.le_refl _) (Or.inl rfl) (fun r ok1 mem1 hq => ?_)
    obtain ⟨rfl, rfl, rfl⟩ := hq
    rw [← aNum_v A0 c 16 (by omega)]
    have hnr := num_ran hOk
    have hT0 := hG.2.2.2.1
    refine pw_istore_n 3 rfl dX9_attempt_32 (by decide) ?_
    refine pw_aload_n 0 rfl dX9_attempt_33 rfl ?_
    refine pw_aload_n 2 rfl dX9_attempt_34 rfl ?_
    refine pw_callV (d' := d - 1) (As := [_]) (ci := 9) dX9_attempt_35 ok_X9_performTyped kw_827 rfl rfl (Of.o (by assumption)) (by omega) rfl (Nat.le_of_ble_eq_true rfl) (p_performTyped (d - 1) (by omega) n ok m0 hU A0 hG hRI c (by omega) b hbc ht1) (Nat.le_refl _) (Or.inl rfl) (fun r ok1 mem1 hq => ?_)
    obtain ⟨rfl, rfl, hpt, hcv, h87, h27⟩ := hq
    obtain ⟨b1, b2, b3, b4, b5⟩ := rn_BK hRI (c := c) (by omega)
    have hty1 := hty.1
    have hKR1 : KR A0 c mem1 b := by
      unfold KR; rw [hpt.1 (b + 16) (by omega) (by omega) (by omega) (by omega) (by omega), hpt.1 (b + 17) (by omega) (by omega) (by omega) (by omega) (by omega)]; exact hKR
    have hko := hKO c (by omega) (by omega)
    have q11 : mem1 1 11 = A0 88 24 := (hpt.2.1 11 (by omega)).trans hT0.1
    have q86m : mem1 86 = m0 86 := hpt.1 86 (by omega) (by omega) (by omega) (by omega) (by omega)
    refine pw_istore dX9_attempt_38 (by decide) ?_
    refine pw_aload_n 0 rfl dX9_attempt_40 rfl ?_
    refine pw_iload dX9_attempt_41 rfl ?_
    refine pw_pI 13 13 rfl dX9_attempt_43 cOk9 (by assumption) (by decide) kw_360 rfl rfl (by decide) (by omega) ?_
    refine pw_aload_n 0 rfl dX9_attempt_46 rfl ?_
    refine pw_iload dX9_attempt_47 rfl ?_
    refine pw_aload_n 0 rfl dX9_attempt_49 rfl ?_
    refine pw_gI 11 11 rfl dX9_attempt_50 cOk9 (by assumption) (by decide) kw_358 (by decide) (fun r50 => ?_)
    try simp (disch := omega) only [wr_s, wr_a, wr_k] at r50 ⊢
    rw [q11] at r50 ⊢
    refine pw_icmp_ge 66 (by decide) dX9_attempt_53 (by omega) (by omega) (fun c53 => ?_) (fun c53 => ?_)
    · skip
      refine pw_iconst dX9_attempt_66 ?_
      refine pw_pI 14 14 rfl dX9_attempt_67 cOk9 (by assumption) (by decide) kw_361 rfl rfl (by decide) (by omega) ?_
      refine pw_aload_n 0 rfl dX9_attempt_70 rfl ?_
      refine pw_aload_n 0 rfl dX9_attempt_71 rfl ?_
      refine pw_gI 12 12 rfl dX9_attempt_72 cOk9 (by assumption) (by decide) kw_359 (by decide) (fun r72 => ?_)
      try simp (disch := omega) only [wr_s, wr_a, wr_k] at r72 ⊢
      refine pw_if_ge 88 (by decide) dX9_attempt_75 (by omega) (fun c75 => ?_) (fun c75 => ?_)
      · skip
        refine pw_iconst dX9_attempt_88 ?_
        refine pw_pI 15 15 rfl dX9_attempt_89 cOk9 (by assumption) (by decide) kw_362 rfl rfl (by decide) (by omega) ?_
        generalize hM3 : wr (wr (wr mem1 1 13 ((rnRes A0 c).1 : Int)) 1 14 (-1)) 1 15 0 = M3
        have f13 : M3 1 13 = ((rnRes A0 c).1 : Int) := by rw [← hM3]; simp (disch := omega) only [wr_s, wr_k]
        have f14 : M3 1 14 = (if ((rnRes A0 c).1 : Int) < A0 88 24 then A0 106 (rnRes A0 c).1 else -1) := by
          rw [← hM3, wr_k _ _ _ _ (by omega), wr_s]; first | rw [if_pos (by omega)] | rw [if_neg (by omega)]
        have f15 : M3 1 15 = (rnRes A0 c).2.1 88 27 := by
          rw [← hM3, wr_s, ← h27]; first | rw [if_pos (by omega)] | rw [if_neg (by omega)]
        have fk : ∀ k, k = 10 ∨ k = 11 ∨ k = 16 → M3 1 k = m0 1 k := fun k hk => by
          rw [← hM3, wr_k _ _ _ _ (by omega), wr_k _ _ _ _ (by omega), wr_k _ _ _ _ (by omega)]; exact hpt.2.1 k (by omega)
        have fa : ∀ a, a ≠ 1 → M3 a = mem1 a := fun a q => by rw [← hM3, wr_a _ _ _ q, wr_a _ _ _ q, wr_a _ _ _ q]
        have fm : ∀ a, a ≠ 1 → a ≠ 2 → a ≠ 3 → a ≠ 87 → a ≠ b + 4 → M3 a = m0 a := fun a a1 a2 a3 a4 a5 => (fa a a1).trans (hpt.1 a a1 a2 a3 a4 a5)
        have fS : CS A0 c M3 b := hS.m (fun a a1 a2 a3 a4 => fm a (by omega) (by omega) (by omega) (by omega) a3)
        have fV := hcv.m (fa (b + 4) (by omega))
        have fKR : KR A0 c M3 b := by
          unfold KR; rw [fa (b + 16) (by omega), fa (b + 17) (by omega)]; exact hKR1
        have fn := nEv_ran hG hRI (rnRes A0 c).2.2.2
        have f21 : M3 2 1 = nEv m0 (rnRes A0 c).2.2.2 2 1 := by rw [fa 2 (by omega), hpt.2.2.1]
        clear hM3
        refine pw_iload dX9_attempt_92 rfl ?_
        refine pw_aload_n 0 rfl dX9_attempt_94 rfl ?_
        refine pw_gI 11 11 rfl dX9_attempt_95 cOk9 (by assumption) (by decide) kw_358 (by decide) (fun r95 => ?_)
        rw [fk 11 (by omega), hT0.1] at r95 ⊢
        refine pw_icmp_lt 109 (by decide) dX9_attempt_98 (by omega) (by omega) (fun c98 => ?_) (fun c98 => ?_)
        · skip
          refine pw_aload_n 2 rfl dX9_attempt_109 rfl ?_
          refine pw_iload_n 3 rfl dX9_attempt_110 rfl ?_
          refine pw_callV (d' := d - 1) (As := [_]) (ci := 0) dX9_attempt_111 ok_X0_standAt kw_794 rfl rfl (Of.o (by assumption)) (by omega) rfl (Nat.le_of_ble_eq_true rfl) (h_standAt (d - 1) (by omega) n ok M3 hN b hC A0 c _ hI fS fV b3 _ (by omega)) (Nat.le_refl _) (Or.inl rfl) (fun r ok1 mem2 hq => ?_)
          obtain ⟨rfl, rfl, hq1, hq2⟩ := hq
          refine pw_aload_n 0 rfl dX9_attempt_114 rfl ?_
          refine pw_iconst dX9_attempt_115 ?_
          refine pw_callV (d' := d - 1) (As := [_]) (ci := 9) dX9_attempt_116 ok_X9_answered kw_423 rfl rfl (Of.o (by assumption)) (by omega) rfl (Nat.le_of_ble_eq_true rfl) (p_answered (d - 1) (by omega) n ok _ hP9 _) (Nat.le_refl _) (Or.inl rfl) (fun r ok1 mem1 hq => ?_)
          obtain ⟨rfl, rfl, rfl⟩ := hq
          refine pw_iret dX9_attempt_119 rfl rfl ?_
          have hrb := rnGo_b (m := A0) c (A0 88 24).toNat 0 (b := wr A0 88 27 0) (aAt A0 c) [] ⟨fun a a1 _ => wr_a _ _ _ a1, fun k q => wr_k _ _ _ _ q⟩
          change bSame A0 (rnRes A0 c).2.1 at hrb
          have habs : ∀ a, a ≠ 88 → a ≠ 107 → attB A0 c a = A0 a := fun a a1 a2 => by
            unfold attB; rw [wr_a _ _ _ a1, wr_a _ _ _ a1, wr_a _ _ _ a1]; exact hrb.1 a a1 a2
          have ar : attRes A0 c = (0, attB A0 c, setV A0 c (rnRes A0 c).2.2.1 (aNum A0 c 16), (rnRes A0 c).2.2.2) := by
            unfold attRes; rw [if_pos (by omega)]
          refine ⟨rfl, RE_w (fun a a1 a2 => ?_) _, Or.inr ⟨by omega, by rw [ar], fun A2 hA2 => ?_⟩⟩
          · rw [hq1 a (by omega)]; exact (fm a (by omega) (by omega) (by omega) (by omega) (by omega)).trans (hRE0 a a1 a2)
          · obtain ⟨z, m9, p1, rfl⟩ := hA2
            have gg := RG_att (m1 := mem2) hG hRI hA19 (c := c) (by omega) hbc p1 ?_ (fun a a1 a2 a3 a4 a5 a6 a7 => by rw [hq1 a (by omega)]; exact fm a a1 a2 a3 a4 a5) (fun k hk => by rw [hq1 1 (by omega)]; exact fk k hk) ?_ ?_ ?_ (by rw [hq1 1 (by omega)]; exact f13) (by rw [hq1 1 (by omega)]; exact f14) (by rw [hq1 1 (by omega)]; exact f15)
            · exact RG_st gg.1 gg.2.1 gg.2.2.1 0
            · rw [ar]; show KR (attB A0 c) c mem2 b
              unfold KR; rw [habs 101 (by omega) (by omega), habs 102 (by omega) (by omega), hq1 (b + 16) (by omega), hq1 (b + 17) (by omega)]; exact fKR
            · rw [ar]; rw [hq1 2 (by omega)]; exact (fa 2 (by omega)).trans hpt.2.2.1
            · rw [ar]; rw [hq1 3 (by omega)]; exact (fa 3 (by omega)).trans hpt.2.2.2
            · rw [ar]; exact hq2
        · skip
          refine pw_aload_n 2 rfl dX9_attempt_101 rfl ?_
          refine pw_iconst dX9_attempt_102 ?_
          refine pw_callV (d' := d - 1) (As := [_]) (ci := 0) dX9_attempt_103 ok_X0_opens kw_780 rfl rfl (Of.o (by assumption)) (by omega) rfl (Nat.le_of_ble_eq_true rfl) (h_opens (d - 1) (by omega) n ok M3 hN b hC A0 c _ hI fS fV b3 1 (by omega) (by omega)) (Nat.le_refl _) (Or.inl rfl) (fun r ok1 M4 hq => ?_)
          obtain ⟨rfl, rfl, hm4⟩ := hq
          have hm4 : nEv M3 (oEv A0 c (rnRes A0 c).2.2.1) = M4 := hm4
          have ho1 := oRes_01 A0 c (rnRes A0 c).2.2.1
          have fS4 : CS A0 c M4 b := by rw [← hm4]; exact fS.ev (by omega) _
          have fV4 : CV A0 c M4 b (rnRes A0 c).2.2.1 := by rw [← hm4]; exact fV.ev (by omega) _
          have fa4 : ∀ a, a ≠ 2 → a ≠ 3 → M4 a = M3 a := fun a a1 a2 => by rw [← hm4, nEv_a _ _ _ a1 a2]
          have fKR4 : KR A0 c M4 b := by
            unfold KR; rw [fa4 (b + 16) (by omega) (by omega), fa4 (b + 17) (by omega) (by omega)]; exact fKR
          refine pw_if_ne 120 (by decide) dX9_attempt_106 (by omega) (fun c106 => ?_) (fun c106 => ?_)
          · skip
            refine pw_aload_n 2 rfl dX9_attempt_120 rfl ?_
            refine pw_gR 9 (b + 16) dX9_attempt_121 cOk0 (by assumption) (by decide) kw_250 (by decide) rfl ?_
            refine pw_aload_n 0 rfl dX9_attempt_124 rfl ?_
            refine pw_gR 9 87 dX9_attempt_125 cOk9 (by assumption) (by decide) kw_356 (by decide) rfl ?_
            refine pw_iload dX9_attempt_128 rfl ?_
            refine pw_callV (d' := d - 1) (As := [_, _]) (ci := 3) dX9_attempt_130 ok_X3_pushAll kw_831 rfl rfl (Of.o (by assumption)) (by omega) rfl (Nat.le_of_ble_eq_true rfl) (k_pushAll (d - 1) (by omega) n ok _ b ⟨hC16, hC17⟩ (by omega) q87 _ (by omega) ⟨fKR4.2.1, by rw [fKR4.1]; omega⟩) (Nat.le_refl _) (Or.inl rfl) (fun r ok1 mem2 hq => ?_)
            obtain ⟨rfl, rfl, rfl⟩ := hq
            rw [Int.toNat_natCast]
            refine pw_aload_n 0 rfl dX9_attempt_133 rfl ?_
            refine pw_iconst dX9_attempt_134 ?_
            refine pw_callV (d' := d - 1) (As := [_]) (ci := 9) dX9_attempt_135 ok_X9_answered kw_423 rfl rfl (Of.o (by assumption)) (by omega) rfl (Nat.le_of_ble_eq_true rfl) (p_answered (d - 1) (by omega) n ok _ hP9 _) (Nat.le_refl _) (Or.inl rfl) (fun r ok1 mem1 hq => ?_)
            obtain ⟨rfl, rfl, rfl⟩ := hq
            refine pw_iret dX9_attempt_138 rfl rfl ?_
            have hrb := rnGo_b (m := A0) c (A0 88 24).toNat 0 (b := wr A0 88 27 0) (aAt A0 c) [] ⟨fun a a1 _ => wr_a _ _ _ a1, fun k q => wr_k _ _ _ _ q⟩
            change bSame A0 (rnRes A0 c).2.1 at hrb
            have habs : ∀ a, a ≠ 88 → a ≠ 107 → attB A0 c a = A0 a := fun a a1 a2 => by
              unfold attB; rw [wr_a _ _ _ a1, wr_a _ _ _ a1, wr_a _ _ _ a1]; exact hrb.1 a a1 a2
            have ar : attRes A0 c = (1, rKeepAll (attB A0 c) c (rnRes A0 c).1, (rnRes A0 c).2.2.1, (rnRes A0 c).2.2.2 ++ oEv A0 c (rnRes A0 c).2.2.1) := by
              unfold attRes; rw [if_neg (by omega), if_neg (by omega)]
            have hia := kpAll_i (m := M4) (b := b) (by omega) ⟨fKR4.2.1, by rw [fKR4.1]; omega⟩ (rnRes A0 c).1
            refine ⟨rfl, RE_w (fun a a1 a2 => ?_) _, Or.inr ⟨by omega, by rw [ar], fun A2 hA2 => ?_⟩⟩
            · rw [hia.2 a (by omega) (by omega), fa4 a (by omega) (by omega)]; exact (fm a (by omega) (by omega) (by omega) (by omega) (by omega)).trans (hRE0 a a1 a2)
            · obtain ⟨z, m9, p1, rfl⟩ := hA2
              have i1 := hia.2 1 (by omega) (by omega)
              have j1 := fa4 1 (by omega) (by omega)
              have gg := RG_att (m1 := kpAll M4 b (rnRes A0 c).1) hG hRI hA19 (c := c) (by omega) hbc p1 ?_ (fun a a1 a2 a3 a4 a5 a6 a7 => by rw [hia.2 a a6 a7, fa4 a a2 a3]; exact fm a a1 a2 a3 a4 a5) (fun k hk => by rw [i1, j1]; exact fk k hk) ?_ ?_ ?_ (by rw [i1, j1]; exact f13) (by rw [i1, j1]; exact f14) (by rw [i1, j1]; exact f15)
              · exact RG_st gg.1 gg.2.1 gg.2.2.1 0
              · rw [ar]
                refine KR_all ?_ (by rw [habs 101 (by omega) (by omega)]; omega) _ (fun i hi => ?_)
                · unfold KR; rw [habs 101 (by omega) (by omega), habs 102 (by omega) (by omega)]; exact fKR4
                · rw [fa4 87 (by omega) (by omega), fa 87 (by omega), att_107]; exact h87 i hi
              · rw [ar, hia.2 2 (by omega) (by omega), ← hm4, nEv_app]; exact (nEv_c (m := nEv m0 (rnRes A0 c).2.2.2) ((fa 2 (by omega)).trans hpt.2.2.1) ((fa 3 (by omega)).trans hpt.2.2.2) _).1
              · rw [ar, hia.2 3 (by omega) (by omega), ← hm4, nEv_app]; exact (nEv_c (m := nEv m0 (rnRes A0 c).2.2.2) ((fa 2 (by omega)).trans hpt.2.2.1) ((fa 3 (by omega)).trans hpt.2.2.2) _).2
              · rw [ar]; exact fV4.m (hia.2 _ (by omega) (by omega))
          · skip
            refine pw_aload_n 2 rfl dX9_attempt_109 rfl ?_
            refine pw_iload_n 3 rfl dX9_attempt_110 rfl ?_
            refine pw_callV (d' := d - 1) (As := [_]) (ci := 0) dX9_attempt_111 ok_X0_standAt kw_794 rfl rfl (Of.o (by assumption)) (by omega) rfl (Nat.le_of_ble_eq_true rfl) (h_standAt (d - 1) (by omega) n ok M4 hN b hC A0 c _ hI fS4 fV4 b3 _ (by omega)) (Nat.le_refl _) (Or.inl rfl) (fun r ok1 mem2 hq => ?_)
            obtain ⟨rfl, rfl, hq1, hq2⟩ := hq
            refine pw_aload_n 0 rfl dX9_attempt_114 rfl ?_
            refine pw_iconst dX9_attempt_115 ?_
            refine pw_callV (d' := d - 1) (As := [_]) (ci := 9) dX9_attempt_116 ok_X9_answered kw_423 rfl rfl (Of.o (by assumption)) (by omega) rfl (Nat.le_of_ble_eq_true rfl) (p_answered (d - 1) (by omega) n ok _ hP9 _) (Nat.le_refl _) (Or.inl rfl) (fun r ok1 mem1 hq => ?_)
            obtain ⟨rfl, rfl, rfl⟩ := hq
            refine pw_iret dX9_attempt_119 rfl rfl ?_
            have hrb := rnGo_b (m := A0) c (A0 88 24).toNat 0 (b := wr A0 88 27 0) (aAt A0 c) [] ⟨fun a a1 _ => wr_a _ _ _ a1, fun k q => wr_k _ _ _ _ q⟩
            change bSame A0 (rnRes A0 c).2.1 at hrb
            have habs : ∀ a, a ≠ 88 → a ≠ 107 → attB A0 c a = A0 a := fun a a1 a2 => by
              unfold attB; rw [wr_a _ _ _ a1, wr_a _ _ _ a1, wr_a _ _ _ a1]; exact hrb.1 a a1 a2
            have ar : attRes A0 c = (0, attB A0 c, setV A0 c (rnRes A0 c).2.2.1 (aNum A0 c 16), (rnRes A0 c).2.2.2 ++ oEv A0 c (rnRes A0 c).2.2.1) := by
              unfold attRes; rw [if_neg (by omega), if_pos (by omega)]
            refine ⟨rfl, RE_w (fun a a1 a2 => ?_) _, Or.inr ⟨by omega, by rw [ar], fun A2 hA2 => ?_⟩⟩
            · rw [hq1 a (by omega)]; rw [← hm4, nEv_a _ _ _ (by omega) (by omega)]; exact (fm a (by omega) (by omega) (by omega) (by omega) (by omega)).trans (hRE0 a a1 a2)
            · obtain ⟨z, m9, p1, rfl⟩ := hA2
              have gg := RG_att (m1 := mem2) hG hRI hA19 (c := c) (by omega) hbc p1 ?_ (fun a a1 a2 a3 a4 a5 a6 a7 => by rw [hq1 a (by omega)]; rw [← hm4, nEv_a _ _ _ (by omega) (by omega)]; exact fm a a1 a2 a3 a4 a5) (fun k hk => by rw [hq1 1 (by omega)]; rw [← hm4, nEv_a _ _ _ (by omega) (by omega)]; exact fk k hk) ?_ ?_ ?_ (by rw [hq1 1 (by omega)]; rw [← hm4, nEv_a _ _ _ (by omega) (by omega)]; exact f13) (by rw [hq1 1 (by omega)]; rw [← hm4, nEv_a _ _ _ (by omega) (by omega)]; exact f14) (by rw [hq1 1 (by omega)]; rw [← hm4, nEv_a _ _ _ (by omega) (by omega)]; exact f15)
              · exact RG_st gg.1 gg.2.1 gg.2.2.1 0
              · rw [ar]; show KR (attB A0 c) c mem2 b
                unfold KR; rw [habs 101 (by omega) (by omega), habs 102 (by omega) (by omega), hq1 (b + 16) (by omega), hq1 (b + 17) (by omega)]; exact fKR4
              · rw [ar]; rw [hq1 2 (by omega), ← hm4, nEv_app]; exact (nEv_c (m := nEv m0 (rnRes A0 c).2.2.2) ((fa 2 (by omega)).trans hpt.2.2.1) ((fa 3 (by omega)).trans hpt.2.2.2) _).1
              · rw [ar]; rw [hq1 3 (by omega), ← hm4, nEv_app]; exact (nEv_c (m := nEv m0 (rnRes A0 c).2.2.2) ((fa 2 (by omega)).trans hpt.2.2.1) ((fa 3 (by omega)).trans hpt.2.2.2) _).2
              · rw [ar]; exact hq2
      · skip
        refine pw_bipush dX9_attempt_78 (by decide) ?_
        refine pw_aload_n 0 rfl dX9_attempt_80 rfl ?_
        refine pw_gI 12 12 rfl dX9_attempt_81 cOk9 (by assumption) (by decide) kw_359 (by decide) (fun r81 => ?_)
        try simp (disch := omega) only [wr_s, wr_a, wr_k] at r81 ⊢
        refine pw_isub dX9_attempt_84 ?_
        refine pw_goto 89 (by decide) dX9_attempt_85 ?_
        refine pw_pI 15 15 rfl dX9_attempt_89 cOk9 (by assumption) (by decide) kw_362 rfl rfl (by decide) (by omega) ?_
        generalize hM3 : wr (wr (wr mem1 1 13 ((rnRes A0 c).1 : Int)) 1 14 (-1)) 1 15 (-10 - mem1 1 12) = M3
        have f13 : M3 1 13 = ((rnRes A0 c).1 : Int) := by rw [← hM3]; simp (disch := omega) only [wr_s, wr_k]
        have f14 : M3 1 14 = (if ((rnRes A0 c).1 : Int) < A0 88 24 then A0 106 (rnRes A0 c).1 else -1) := by
          rw [← hM3, wr_k _ _ _ _ (by omega), wr_s]; first | rw [if_pos (by omega)] | rw [if_neg (by omega)]
        have f15 : M3 1 15 = (rnRes A0 c).2.1 88 27 := by
          rw [← hM3, wr_s, ← h27]; first | rw [if_pos (by omega)] | rw [if_neg (by omega)]
        have fk : ∀ k, k = 10 ∨ k = 11 ∨ k = 16 → M3 1 k = m0 1 k := fun k hk => by
          rw [← hM3, wr_k _ _ _ _ (by omega), wr_k _ _ _ _ (by omega), wr_k _ _ _ _ (by omega)]; exact hpt.2.1 k (by omega)
        have fa : ∀ a, a ≠ 1 → M3 a = mem1 a := fun a q => by rw [← hM3, wr_a _ _ _ q, wr_a _ _ _ q, wr_a _ _ _ q]
        have fm : ∀ a, a ≠ 1 → a ≠ 2 → a ≠ 3 → a ≠ 87 → a ≠ b + 4 → M3 a = m0 a := fun a a1 a2 a3 a4 a5 => (fa a a1).trans (hpt.1 a a1 a2 a3 a4 a5)
        have fS : CS A0 c M3 b := hS.m (fun a a1 a2 a3 a4 => fm a (by omega) (by omega) (by omega) (by omega) a3)
        have fV := hcv.m (fa (b + 4) (by omega))
        have fKR : KR A0 c M3 b := by
          unfold KR; rw [fa (b + 16) (by omega), fa (b + 17) (by omega)]; exact hKR1
        have fn := nEv_ran hG hRI (rnRes A0 c).2.2.2
        have f21 : M3 2 1 = nEv m0 (rnRes A0 c).2.2.2 2 1 := by rw [fa 2 (by omega), hpt.2.2.1]
        clear hM3
        refine pw_iload dX9_attempt_92 rfl ?_
        refine pw_aload_n 0 rfl dX9_attempt_94 rfl ?_
        refine pw_gI 11 11 rfl dX9_attempt_95 cOk9 (by assumption) (by decide) kw_358 (by decide) (fun r95 => ?_)
        rw [fk 11 (by omega), hT0.1] at r95 ⊢
        refine pw_icmp_lt 109 (by decide) dX9_attempt_98 (by omega) (by omega) (fun c98 => ?_) (fun c98 => ?_)
        · skip
          refine pw_aload_n 2 rfl dX9_attempt_109 rfl ?_
          refine pw_iload_n 3 rfl dX9_attempt_110 rfl ?_
          refine pw_callV (d' := d - 1) (As := [_]) (ci := 0) dX9_attempt_111 ok_X0_standAt kw_794 rfl rfl (Of.o (by assumption)) (by omega) rfl (Nat.le_of_ble_eq_true rfl) (h_standAt (d - 1) (by omega) n ok M3 hN b hC A0 c _ hI fS fV b3 _ (by omega)) (Nat.le_refl _) (Or.inl rfl) (fun r ok1 mem2 hq => ?_)
          obtain ⟨rfl, rfl, hq1, hq2⟩ := hq
          refine pw_aload_n 0 rfl dX9_attempt_114 rfl ?_
          refine pw_iconst dX9_attempt_115 ?_
          refine pw_callV (d' := d - 1) (As := [_]) (ci := 9) dX9_attempt_116 ok_X9_answered kw_423 rfl rfl (Of.o (by assumption)) (by omega) rfl (Nat.le_of_ble_eq_true rfl) (p_answered (d - 1) (by omega) n ok _ hP9 _) (Nat.le_refl _) (Or.inl rfl) (fun r ok1 mem1 hq => ?_)
          obtain ⟨rfl, rfl, rfl⟩ := hq
          refine pw_iret dX9_attempt_119 rfl rfl ?_
          have hrb := rnGo_b (m := A0) c (A0 88 24).toNat 0 (b := wr A0 88 27 0) (aAt A0 c) [] ⟨fun a a1 _ => wr_a _ _ _ a1, fun k q => wr_k _ _ _ _ q⟩
          change bSame A0 (rnRes A0 c).2.1 at hrb
          have habs : ∀ a, a ≠ 88 → a ≠ 107 → attB A0 c a = A0 a := fun a a1 a2 => by
            unfold attB; rw [wr_a _ _ _ a1, wr_a _ _ _ a1, wr_a _ _ _ a1]; exact hrb.1 a a1 a2
          have ar : attRes A0 c = (0, attB A0 c, setV A0 c (rnRes A0 c).2.2.1 (aNum A0 c 16), (rnRes A0 c).2.2.2) := by
            unfold attRes; rw [if_pos (by omega)]
          refine ⟨rfl, RE_w (fun a a1 a2 => ?_) _, Or.inr ⟨by omega, by rw [ar], fun A2 hA2 => ?_⟩⟩
          · rw [hq1 a (by omega)]; exact (fm a (by omega) (by omega) (by omega) (by omega) (by omega)).trans (hRE0 a a1 a2)
          · obtain ⟨z, m9, p1, rfl⟩ := hA2
            have gg := RG_att (m1 := mem2) hG hRI hA19 (c := c) (by omega) hbc p1 ?_ (fun a a1 a2 a3 a4 a5 a6 a7 => by rw [hq1 a (by omega)]; exact fm a a1 a2 a3 a4 a5) (fun k hk => by rw [hq1 1 (by omega)]; exact fk k hk) ?_ ?_ ?_ (by rw [hq1 1 (by omega)]; exact f13) (by rw [hq1 1 (by omega)]; exact f14) (by rw [hq1 1 (by omega)]; exact f15)
            · exact RG_st gg.1 gg.2.1 gg.2.2.1 0
            · rw [ar]; show KR (attB A0 c) c mem2 b
              unfold KR; rw [habs 101 (by omega) (by omega), habs 102 (by omega) (by omega), hq1 (b + 16) (by omega), hq1 (b + 17) (by omega)]; exact fKR
            · rw [ar]; rw [hq1 2 (by omega)]; exact (fa 2 (by omega)).trans hpt.2.2.1
            · rw [ar]; rw [hq1 3 (by omega)]; exact (fa 3 (by omega)).trans hpt.2.2.2
            · rw [ar]; exact hq2
        · skip
          refine pw_aload_n 2 rfl dX9_attempt_101 rfl ?_
          refine pw_iconst dX9_attempt_102 ?_
          refine pw_callV (d' := d - 1) (As := [_]) (ci := 0) dX9_attempt_103 ok_X0_opens kw_780 rfl rfl (Of.o (by assumption)) (by omega) rfl (Nat.le_of_ble_eq_true rfl) (h_opens (d - 1) (by omega) n ok M3 hN b hC A0 c _ hI fS fV b3 1 (by omega) (by omega)) (Nat.le_refl _) (Or.inl rfl) (fun r ok1 M4 hq => ?_)
          obtain ⟨rfl, rfl, hm4⟩ := hq
          have hm4 : nEv M3 (oEv A0 c (rnRes A0 c).2.2.1) = M4 := hm4
          have ho1 := oRes_01 A0 c (rnRes A0 c).2.2.1
          have fS4 : CS A0 c M4 b := by rw [← hm4]; exact fS.ev (by omega) _
          have fV4 : CV A0 c M4 b (rnRes A0 c).2.2.1 := by rw [← hm4]; exact fV.ev (by omega) _
          have fa4 : ∀ a, a ≠ 2 → a ≠ 3 → M4 a = M3 a := fun a a1 a2 => by rw [← hm4, nEv_a _ _ _ a1 a2]
          have fKR4 : KR A0 c M4 b := by
            unfold KR; rw [fa4 (b + 16) (by omega) (by omega), fa4 (b + 17) (by omega) (by omega)]; exact fKR
          refine pw_if_ne 120 (by decide) dX9_attempt_106 (by omega) (fun c106 => ?_) (fun c106 => ?_)
          · skip
            refine pw_aload_n 2 rfl dX9_attempt_120 rfl ?_
            refine pw_gR 9 (b + 16) dX9_attempt_121 cOk0 (by assumption) (by decide) kw_250 (by decide) rfl ?_
            refine pw_aload_n 0 rfl dX9_attempt_124 rfl ?_
            refine pw_gR 9 87 dX9_attempt_125 cOk9 (by assumption) (by decide) kw_356 (by decide) rfl ?_
            refine pw_iload dX9_attempt_128 rfl ?_
            refine pw_callV (d' := d - 1) (As := [_, _]) (ci := 3) dX9_attempt_130 ok_X3_pushAll kw_831 rfl rfl (Of.o (by assumption)) (by omega) rfl (Nat.le_of_ble_eq_true rfl) (k_pushAll (d - 1) (by omega) n ok _ b ⟨hC16, hC17⟩ (by omega) q87 _ (by omega) ⟨fKR4.2.1, by rw [fKR4.1]; omega⟩) (Nat.le_refl _) (Or.inl rfl) (fun r ok1 mem2 hq => ?_)
            obtain ⟨rfl, rfl, rfl⟩ := hq
            rw [Int.toNat_natCast]
            refine pw_aload_n 0 rfl dX9_attempt_133 rfl ?_
            refine pw_iconst dX9_attempt_134 ?_
            refine pw_callV (d' := d - 1) (As := [_]) (ci := 9) dX9_attempt_135 ok_X9_answered kw_423 rfl rfl (Of.o (by assumption)) (by omega) rfl (Nat.le_of_ble_eq_true rfl) (p_answered (d - 1) (by omega) n ok _ hP9 _) (Nat.le_refl _) (Or.inl rfl) (fun r ok1 mem1 hq => ?_)
            obtain ⟨rfl, rfl, rfl⟩ := hq
            refine pw_iret dX9_attempt_138 rfl rfl ?_
            have hrb := rnGo_b (m := A0) c (A0 88 24).toNat 0 (b := wr A0 88 27 0) (aAt A0 c) [] ⟨fun a a1 _ => wr_a _ _ _ a1, fun k q => wr_k _ _ _ _ q⟩
            change bSame A0 (rnRes A0 c).2.1 at hrb
            have habs : ∀ a, a ≠ 88 → a ≠ 107 → attB A0 c a = A0 a := fun a a1 a2 => by
              unfold attB; rw [wr_a _ _ _ a1, wr_a _ _ _ a1, wr_a _ _ _ a1]; exact hrb.1 a a1 a2
            have ar : attRes A0 c = (1, rKeepAll (attB A0 c) c (rnRes A0 c).1, (rnRes A0 c).2.2.1, (rnRes A0 c).2.2.2 ++ oEv A0 c (rnRes A0 c).2.2.1) := by
              unfold attRes; rw [if_neg (by omega), if_neg (by omega)]
            have hia := kpAll_i (m := M4) (b := b) (by omega) ⟨fKR4.2.1, by rw [fKR4.1]; omega⟩ (rnRes A0 c).1
            refine ⟨rfl, RE_w (fun a a1 a2 => ?_) _, Or.inr ⟨by omega, by rw [ar], fun A2 hA2 => ?_⟩⟩
            · rw [hia.2 a (by omega) (by omega), fa4 a (by omega) (by omega)]; exact (fm a (by omega) (by omega) (by omega) (by omega) (by omega)).trans (hRE0 a a1 a2)
            · obtain ⟨z, m9, p1, rfl⟩ := hA2
              have i1 := hia.2 1 (by omega) (by omega)
              have j1 := fa4 1 (by omega) (by omega)
              have gg := RG_att (m1 := kpAll M4 b (rnRes A0 c).1) hG hRI hA19 (c := c) (by omega) hbc p1 ?_ (fun a a1 a2 a3 a4 a5 a6 a7 => by rw [hia.2 a a6 a7, fa4 a a2 a3]; exact fm a a1 a2 a3 a4 a5) (fun k hk => by rw [i1, j1]; exact fk k hk) ?_ ?_ ?_ (by rw [i1, j1]; exact f13) (by rw [i1, j1]; exact f14) (by rw [i1, j1]; exact f15)
              · exact RG_st gg.1 gg.2.1 gg.2.2.1 0
              · rw [ar]
                refine KR_all ?_ (by rw [habs 101 (by omega) (by omega)]; omega) _ (fun i hi => ?_)
                · unfold KR; rw [habs 101 (by omega) (by omega), habs 102 (by omega) (by omega)]; exact fKR4
                · rw [fa4 87 (by omega) (by omega), fa 87 (by omega), att_107]; exact h87 i hi
              · rw [ar, hia.2 2 (by omega) (by omega), ← hm4, nEv_app]; exact (nEv_c (m := nEv m0 (rnRes A0 c).2.2.2) ((fa 2 (by omega)).trans hpt.2.2.1) ((fa 3 (by omega)).trans hpt.2.2.2) _).1
              · rw [ar, hia.2 3 (by omega) (by omega), ← hm4, nEv_app]; exact (nEv_c (m := nEv m0 (rnRes A0 c).2.2.2) ((fa 2 (by omega)).trans hpt.2.2.1) ((fa 3 (by omega)).trans hpt.2.2.2) _).2
              · rw [ar]; exact fV4.m (hia.2 _ (by omega) (by omega))
          · skip
            refine pw_aload_n 2 rfl dX9_attempt_109 rfl ?_
            refine pw_iload_n 3 rfl dX9_attempt_110 rfl ?_
            refine pw_callV (d' := d - 1) (As := [_]) (ci := 0) dX9_attempt_111 ok_X0_standAt kw_794 rfl rfl (Of.o (by assumption)) (by omega) rfl (Nat.le_of_ble_eq_true rfl) (h_standAt (d - 1) (by omega) n ok M4 hN b hC A0 c _ hI fS4 fV4 b3 _ (by omega)) (Nat.le_refl _) (Or.inl rfl) (fun r ok1 mem2 hq => ?_)
            obtain ⟨rfl, rfl, hq1, hq2⟩ := hq
            refine pw_aload_n 0 rfl dX9_attempt_114 rfl ?_
            refine pw_iconst dX9_attempt_115 ?_
            refine pw_callV (d' := d - 1) (As := [_]) (ci := 9) dX9_attempt_116 ok_X9_answered kw_423 rfl rfl (Of.o (by assumption)) (by omega) rfl (Nat.le_of_ble_eq_true rfl) (p_answered (d - 1) (by omega) n ok _ hP9 _) (Nat.le_refl _) (Or.inl rfl) (fun r ok1 mem1 hq => ?_)
            obtain ⟨rfl, rfl, rfl⟩ := hq
            refine pw_iret dX9_attempt_119 rfl rfl ?_
            have hrb := rnGo_b (m := A0) c (A0 88 24).toNat 0 (b := wr A0 88 27 0) (aAt A0 c) [] ⟨fun a a1 _ => wr_a _ _ _ a1, fun k q => wr_k _ _ _ _ q⟩
            change bSame A0 (rnRes A0 c).2.1 at hrb
            have habs : ∀ a, a ≠ 88 → a ≠ 107 → attB A0 c a = A0 a := fun a a1 a2 => by
              unfold attB; rw [wr_a _ _ _ a1, wr_a _ _ _ a1, wr_a _ _ _ a1]; exact hrb.1 a a1 a2
            have ar : attRes A0 c = (0, attB A0 c, setV A0 c (rnRes A0 c).2.2.1 (aNum A0 c 16), (rnRes A0 c).2.2.2 ++ oEv A0 c (rnRes A0 c).2.2.1) := by
              unfold attRes; rw [if_neg (by omega), if_pos (by omega)]
            refine ⟨rfl, RE_w (fun a a1 a2 => ?_) _, Or.inr ⟨by omega, by rw [ar], fun A2 hA2 => ?_⟩⟩
            · rw [hq1 a (by omega)]; rw [← hm4, nEv_a _ _ _ (by omega) (by omega)]; exact (fm a (by omega) (by omega) (by omega) (by omega) (by omega)).trans (hRE0 a a1 a2)
            · obtain ⟨z, m9, p1, rfl⟩ := hA2
              have gg := RG_att (m1 := mem2) hG hRI hA19 (c := c) (by omega) hbc p1 ?_ (fun a a1 a2 a3 a4 a5 a6 a7 => by rw [hq1 a (by omega)]; rw [← hm4, nEv_a _ _ _ (by omega) (by omega)]; exact fm a a1 a2 a3 a4 a5) (fun k hk => by rw [hq1 1 (by omega)]; rw [← hm4, nEv_a _ _ _ (by omega) (by omega)]; exact fk k hk) ?_ ?_ ?_ (by rw [hq1 1 (by omega)]; rw [← hm4, nEv_a _ _ _ (by omega) (by omega)]; exact f13) (by rw [hq1 1 (by omega)]; rw [← hm4, nEv_a _ _ _ (by omega) (by omega)]; exact f14) (by rw [hq1 1 (by omega)]; rw [← hm4, nEv_a _ _ _ (by omega) (by omega)]; exact f15)
              · exact RG_st gg.1 gg.2.1 gg.2.2.1 0
              · rw [ar]; show KR (attB A0 c) c mem2 b
                unfold KR; rw [habs 101 (by omega) (by omega), habs 102 (by omega) (by omega), hq1 (b + 16) (by omega), hq1 (b + 17) (by omega)]; exact fKR4
              · rw [ar]; rw [hq1 2 (by omega), ← hm4, nEv_app]; exact (nEv_c (m := nEv m0 (rnRes A0 c).2.2.2) ((fa 2 (by omega)).trans hpt.2.2.1) ((fa 3 (by omega)).trans hpt.2.2.2) _).1
              · rw [ar]; rw [hq1 3 (by omega), ← hm4, nEv_app]; exact (nEv_c (m := nEv m0 (rnRes A0 c).2.2.2) ((fa 2 (by omega)).trans hpt.2.2.1) ((fa 3 (by omega)).trans hpt.2.2.2) _).2
              · rw [ar]; exact hq2
    · skip
      refine pw_aload_n 0 rfl dX9_attempt_56 rfl ?_
      refine pw_gR 8 86 dX9_attempt_57 cOk9 (by assumption) (by decide) kw_355 (by decide) rfl ?_
      refine pw_iload dX9_attempt_60 rfl ?_
      refine pw_iaload dX9_attempt_62 (by assumption) (by omega) (by omega) (fun r62 => ?_)
      try simp (disch := omega) only [wr_s, wr_a, wr_k] at r62 ⊢
      rw [q86m, hT0.2 _ (by omega) (by omega)] at r62 ⊢
      refine pw_goto 67 (by decide) dX9_attempt_63 ?_
      refine pw_pI 14 14 rfl dX9_attempt_67 cOk9 (by assumption) (by decide) kw_361 rfl rfl (by decide) (by omega) ?_
      refine pw_aload_n 0 rfl dX9_attempt_70 rfl ?_
      refine pw_aload_n 0 rfl dX9_attempt_71 rfl ?_
      refine pw_gI 12 12 rfl dX9_attempt_72 cOk9 (by assumption) (by decide) kw_359 (by decide) (fun r72 => ?_)
      try simp (disch := omega) only [wr_s, wr_a, wr_k] at r72 ⊢
      refine pw_if_ge 88 (by decide) dX9_attempt_75 (by omega) (fun c75 => ?_) (fun c75 => ?_)
      · skip
        refine pw_iconst dX9_attempt_88 ?_
        refine pw_pI 15 15 rfl dX9_attempt_89 cOk9 (by assumption) (by decide) kw_362 rfl rfl (by decide) (by omega) ?_
        generalize hM3 : wr (wr (wr mem1 1 13 ((rnRes A0 c).1 : Int)) 1 14 (A0 106 ((rnRes A0 c).1 : Int))) 1 15 0 = M3
        have f13 : M3 1 13 = ((rnRes A0 c).1 : Int) := by rw [← hM3]; simp (disch := omega) only [wr_s, wr_k]
        have f14 : M3 1 14 = (if ((rnRes A0 c).1 : Int) < A0 88 24 then A0 106 (rnRes A0 c).1 else -1) := by
          rw [← hM3, wr_k _ _ _ _ (by omega), wr_s]; first | rw [if_pos (by omega)] | rw [if_neg (by omega)]
        have f15 : M3 1 15 = (rnRes A0 c).2.1 88 27 := by
          rw [← hM3, wr_s, ← h27]; first | rw [if_pos (by omega)] | rw [if_neg (by omega)]
        have fk : ∀ k, k = 10 ∨ k = 11 ∨ k = 16 → M3 1 k = m0 1 k := fun k hk => by
          rw [← hM3, wr_k _ _ _ _ (by omega), wr_k _ _ _ _ (by omega), wr_k _ _ _ _ (by omega)]; exact hpt.2.1 k (by omega)
        have fa : ∀ a, a ≠ 1 → M3 a = mem1 a := fun a q => by rw [← hM3, wr_a _ _ _ q, wr_a _ _ _ q, wr_a _ _ _ q]
        have fm : ∀ a, a ≠ 1 → a ≠ 2 → a ≠ 3 → a ≠ 87 → a ≠ b + 4 → M3 a = m0 a := fun a a1 a2 a3 a4 a5 => (fa a a1).trans (hpt.1 a a1 a2 a3 a4 a5)
        have fS : CS A0 c M3 b := hS.m (fun a a1 a2 a3 a4 => fm a (by omega) (by omega) (by omega) (by omega) a3)
        have fV := hcv.m (fa (b + 4) (by omega))
        have fKR : KR A0 c M3 b := by
          unfold KR; rw [fa (b + 16) (by omega), fa (b + 17) (by omega)]; exact hKR1
        have fn := nEv_ran hG hRI (rnRes A0 c).2.2.2
        have f21 : M3 2 1 = nEv m0 (rnRes A0 c).2.2.2 2 1 := by rw [fa 2 (by omega), hpt.2.2.1]
        clear hM3
        refine pw_iload dX9_attempt_92 rfl ?_
        refine pw_aload_n 0 rfl dX9_attempt_94 rfl ?_
        refine pw_gI 11 11 rfl dX9_attempt_95 cOk9 (by assumption) (by decide) kw_358 (by decide) (fun r95 => ?_)
        rw [fk 11 (by omega), hT0.1] at r95 ⊢
        refine pw_icmp_lt 109 (by decide) dX9_attempt_98 (by omega) (by omega) (fun c98 => ?_) (fun c98 => ?_)
        · skip
          refine pw_aload_n 2 rfl dX9_attempt_109 rfl ?_
          refine pw_iload_n 3 rfl dX9_attempt_110 rfl ?_
          refine pw_callV (d' := d - 1) (As := [_]) (ci := 0) dX9_attempt_111 ok_X0_standAt kw_794 rfl rfl (Of.o (by assumption)) (by omega) rfl (Nat.le_of_ble_eq_true rfl) (h_standAt (d - 1) (by omega) n ok M3 hN b hC A0 c _ hI fS fV b3 _ (by omega)) (Nat.le_refl _) (Or.inl rfl) (fun r ok1 mem2 hq => ?_)
          obtain ⟨rfl, rfl, hq1, hq2⟩ := hq
          refine pw_aload_n 0 rfl dX9_attempt_114 rfl ?_
          refine pw_iconst dX9_attempt_115 ?_
          refine pw_callV (d' := d - 1) (As := [_]) (ci := 9) dX9_attempt_116 ok_X9_answered kw_423 rfl rfl (Of.o (by assumption)) (by omega) rfl (Nat.le_of_ble_eq_true rfl) (p_answered (d - 1) (by omega) n ok _ hP9 _) (Nat.le_refl _) (Or.inl rfl) (fun r ok1 mem1 hq => ?_)
          obtain ⟨rfl, rfl, rfl⟩ := hq
          refine pw_iret dX9_attempt_119 rfl rfl ?_
          have hrb := rnGo_b (m := A0) c (A0 88 24).toNat 0 (b := wr A0 88 27 0) (aAt A0 c) [] ⟨fun a a1 _ => wr_a _ _ _ a1, fun k q => wr_k _ _ _ _ q⟩
          change bSame A0 (rnRes A0 c).2.1 at hrb
          have habs : ∀ a, a ≠ 88 → a ≠ 107 → attB A0 c a = A0 a := fun a a1 a2 => by
            unfold attB; rw [wr_a _ _ _ a1, wr_a _ _ _ a1, wr_a _ _ _ a1]; exact hrb.1 a a1 a2
          have ar : attRes A0 c = (0, attB A0 c, setV A0 c (rnRes A0 c).2.2.1 (aNum A0 c 16), (rnRes A0 c).2.2.2) := by
            unfold attRes; rw [if_pos (by omega)]
          refine ⟨rfl, RE_w (fun a a1 a2 => ?_) _, Or.inr ⟨by omega, by rw [ar], fun A2 hA2 => ?_⟩⟩
          · rw [hq1 a (by omega)]; exact (fm a (by omega) (by omega) (by omega) (by omega) (by omega)).trans (hRE0 a a1 a2)
          · obtain ⟨z, m9, p1, rfl⟩ := hA2
            have gg := RG_att (m1 := mem2) hG hRI hA19 (c := c) (by omega) hbc p1 ?_ (fun a a1 a2 a3 a4 a5 a6 a7 => by rw [hq1 a (by omega)]; exact fm a a1 a2 a3 a4 a5) (fun k hk => by rw [hq1 1 (by omega)]; exact fk k hk) ?_ ?_ ?_ (by rw [hq1 1 (by omega)]; exact f13) (by rw [hq1 1 (by omega)]; exact f14) (by rw [hq1 1 (by omega)]; exact f15)
            · exact RG_st gg.1 gg.2.1 gg.2.2.1 0
            · rw [ar]; show KR (attB A0 c) c mem2 b
              unfold KR; rw [habs 101 (by omega) (by omega), habs 102 (by omega) (by omega), hq1 (b + 16) (by omega), hq1 (b + 17) (by omega)]; exact fKR
            · rw [ar]; rw [hq1 2 (by omega)]; exact (fa 2 (by omega)).trans hpt.2.2.1
            · rw [ar]; rw [hq1 3 (by omega)]; exact (fa 3 (by omega)).trans hpt.2.2.2
            · rw [ar]; exact hq2
        · skip
          refine pw_aload_n 2 rfl dX9_attempt_101 rfl ?_
          refine pw_iconst dX9_attempt_102 ?_
          refine pw_callV (d' := d - 1) (As := [_]) (ci := 0) dX9_attempt_103 ok_X0_opens kw_780 rfl rfl (Of.o (by assumption)) (by omega) rfl (Nat.le_of_ble_eq_true rfl) (h_opens (d - 1) (by omega) n ok M3 hN b hC A0 c _ hI fS fV b3 1 (by omega) (by omega)) (Nat.le_refl _) (Or.inl rfl) (fun r ok1 M4 hq => ?_)
          obtain ⟨rfl, rfl, hm4⟩ := hq
          have hm4 : nEv M3 (oEv A0 c (rnRes A0 c).2.2.1) = M4 := hm4
          have ho1 := oRes_01 A0 c (rnRes A0 c).2.2.1
          have fS4 : CS A0 c M4 b := by rw [← hm4]; exact fS.ev (by omega) _
          have fV4 : CV A0 c M4 b (rnRes A0 c).2.2.1 := by rw [← hm4]; exact fV.ev (by omega) _
          have fa4 : ∀ a, a ≠ 2 → a ≠ 3 → M4 a = M3 a := fun a a1 a2 => by rw [← hm4, nEv_a _ _ _ a1 a2]
          have fKR4 : KR A0 c M4 b := by
            unfold KR; rw [fa4 (b + 16) (by omega) (by omega), fa4 (b + 17) (by omega) (by omega)]; exact fKR
          refine pw_if_ne 120 (by decide) dX9_attempt_106 (by omega) (fun c106 => ?_) (fun c106 => ?_)
          · skip
            refine pw_aload_n 2 rfl dX9_attempt_120 rfl ?_
            refine pw_gR 9 (b + 16) dX9_attempt_121 cOk0 (by assumption) (by decide) kw_250 (by decide) rfl ?_
            refine pw_aload_n 0 rfl dX9_attempt_124 rfl ?_
            refine pw_gR 9 87 dX9_attempt_125 cOk9 (by assumption) (by decide) kw_356 (by decide) rfl ?_
            refine pw_iload dX9_attempt_128 rfl ?_
            refine pw_callV (d' := d - 1) (As := [_, _]) (ci := 3) dX9_attempt_130 ok_X3_pushAll kw_831 rfl rfl (Of.o (by assumption)) (by omega) rfl (Nat.le_of_ble_eq_true rfl) (k_pushAll (d - 1) (by omega) n ok _ b ⟨hC16, hC17⟩ (by omega) q87 _ (by omega) ⟨fKR4.2.1, by rw [fKR4.1]; omega⟩) (Nat.le_refl _) (Or.inl rfl) (fun r ok1 mem2 hq => ?_)
            obtain ⟨rfl, rfl, rfl⟩ := hq
            rw [Int.toNat_natCast]
            refine pw_aload_n 0 rfl dX9_attempt_133 rfl ?_
            refine pw_iconst dX9_attempt_134 ?_
            refine pw_callV (d' := d - 1) (As := [_]) (ci := 9) dX9_attempt_135 ok_X9_answered kw_423 rfl rfl (Of.o (by assumption)) (by omega) rfl (Nat.le_of_ble_eq_true rfl) (p_answered (d - 1) (by omega) n ok _ hP9 _) (Nat.le_refl _) (Or.inl rfl) (fun r ok1 mem1 hq => ?_)
            obtain ⟨rfl, rfl, rfl⟩ := hq
            refine pw_iret dX9_attempt_138 rfl rfl ?_
            have hrb := rnGo_b (m := A0) c (A0 88 24).toNat 0 (b := wr A0 88 27 0) (aAt A0 c) [] ⟨fun a a1 _ => wr_a _ _ _ a1, fun k q => wr_k _ _ _ _ q⟩
            change bSame A0 (rnRes A0 c).2.1 at hrb
            have habs : ∀ a, a ≠ 88 → a ≠ 107 → attB A0 c a = A0 a := fun a a1 a2 => by
              unfold attB; rw [wr_a _ _ _ a1, wr_a _ _ _ a1, wr_a _ _ _ a1]; exact hrb.1 a a1 a2
            have ar : attRes A0 c = (1, rKeepAll (attB A0 c) c (rnRes A0 c).1, (rnRes A0 c).2.2.1, (rnRes A0 c).2.2.2 ++ oEv A0 c (rnRes A0 c).2.2.1) := by
              unfold attRes; rw [if_neg (by omega), if_neg (by omega)]
            have hia := kpAll_i (m := M4) (b := b) (by omega) ⟨fKR4.2.1, by rw [fKR4.1]; omega⟩ (rnRes A0 c).1
            refine ⟨rfl, RE_w (fun a a1 a2 => ?_) _, Or.inr ⟨by omega, by rw [ar], fun A2 hA2 => ?_⟩⟩
            · rw [hia.2 a (by omega) (by omega), fa4 a (by omega) (by omega)]; exact (fm a (by omega) (by omega) (by omega) (by omega) (by omega)).trans (hRE0 a a1 a2)
            · obtain ⟨z, m9, p1, rfl⟩ := hA2
              have i1 := hia.2 1 (by omega) (by omega)
              have j1 := fa4 1 (by omega) (by omega)
              have gg := RG_att (m1 := kpAll M4 b (rnRes A0 c).1) hG hRI hA19 (c := c) (by omega) hbc p1 ?_ (fun a a1 a2 a3 a4 a5 a6 a7 => by rw [hia.2 a a6 a7, fa4 a a2 a3]; exact fm a a1 a2 a3 a4 a5) (fun k hk => by rw [i1, j1]; exact fk k hk) ?_ ?_ ?_ (by rw [i1, j1]; exact f13) (by rw [i1, j1]; exact f14) (by rw [i1, j1]; exact f15)
              · exact RG_st gg.1 gg.2.1 gg.2.2.1 0
              · rw [ar]
                refine KR_all ?_ (by rw [habs 101 (by omega) (by omega)]; omega) _ (fun i hi => ?_)
                · unfold KR; rw [habs 101 (by omega) (by omega), habs 102 (by omega) (by omega)]; exact fKR4
                · rw [fa4 87 (by omega) (by omega), fa 87 (by omega), att_107]; exact h87 i hi
              · rw [ar, hia.2 2 (by omega) (by omega), ← hm4, nEv_app]; exact (nEv_c (m := nEv m0 (rnRes A0 c).2.2.2) ((fa 2 (by omega)).trans hpt.2.2.1) ((fa 3 (by omega)).trans hpt.2.2.2) _).1
              · rw [ar, hia.2 3 (by omega) (by omega), ← hm4, nEv_app]; exact (nEv_c (m := nEv m0 (rnRes A0 c).2.2.2) ((fa 2 (by omega)).trans hpt.2.2.1) ((fa 3 (by omega)).trans hpt.2.2.2) _).2
              · rw [ar]; exact fV4.m (hia.2 _ (by omega) (by omega))
          · skip
            refine pw_aload_n 2 rfl dX9_attempt_109 rfl ?_
            refine pw_iload_n 3 rfl dX9_attempt_110 rfl ?_
            refine pw_callV (d' := d - 1) (As := [_]) (ci := 0) dX9_attempt_111 ok_X0_standAt kw_794 rfl rfl (Of.o (by assumption)) (by omega) rfl (Nat.le_of_ble_eq_true rfl) (h_standAt (d - 1) (by omega) n ok M4 hN b hC A0 c _ hI fS4 fV4 b3 _ (by omega)) (Nat.le_refl _) (Or.inl rfl) (fun r ok1 mem2 hq => ?_)
            obtain ⟨rfl, rfl, hq1, hq2⟩ := hq
            refine pw_aload_n 0 rfl dX9_attempt_114 rfl ?_
            refine pw_iconst dX9_attempt_115 ?_
            refine pw_callV (d' := d - 1) (As := [_]) (ci := 9) dX9_attempt_116 ok_X9_answered kw_423 rfl rfl (Of.o (by assumption)) (by omega) rfl (Nat.le_of_ble_eq_true rfl) (p_answered (d - 1) (by omega) n ok _ hP9 _) (Nat.le_refl _) (Or.inl rfl) (fun r ok1 mem1 hq => ?_)
            obtain ⟨rfl, rfl, rfl⟩ := hq
            refine pw_iret dX9_attempt_119 rfl rfl ?_
            have hrb := rnGo_b (m := A0) c (A0 88 24).toNat 0 (b := wr A0 88 27 0) (aAt A0 c) [] ⟨fun a a1 _ => wr_a _ _ _ a1, fun k q => wr_k _ _ _ _ q⟩
            change bSame A0 (rnRes A0 c).2.1 at hrb
            have habs : ∀ a, a ≠ 88 → a ≠ 107 → attB A0 c a = A0 a := fun a a1 a2 => by
              unfold attB; rw [wr_a _ _ _ a1, wr_a _ _ _ a1, wr_a _ _ _ a1]; exact hrb.1 a a1 a2
            have ar : attRes A0 c = (0, attB A0 c, setV A0 c (rnRes A0 c).2.2.1 (aNum A0 c 16), (rnRes A0 c).2.2.2 ++ oEv A0 c (rnRes A0 c).2.2.1) := by
              unfold attRes; rw [if_neg (by omega), if_pos (by omega)]
            refine ⟨rfl, RE_w (fun a a1 a2 => ?_) _, Or.inr ⟨by omega, by rw [ar], fun A2 hA2 => ?_⟩⟩
            · rw [hq1 a (by omega)]; rw [← hm4, nEv_a _ _ _ (by omega) (by omega)]; exact (fm a (by omega) (by omega) (by omega) (by omega) (by omega)).trans (hRE0 a a1 a2)
            · obtain ⟨z, m9, p1, rfl⟩ := hA2
              have gg := RG_att (m1 := mem2) hG hRI hA19 (c := c) (by omega) hbc p1 ?_ (fun a a1 a2 a3 a4 a5 a6 a7 => by rw [hq1 a (by omega)]; rw [← hm4, nEv_a _ _ _ (by omega) (by omega)]; exact fm a a1 a2 a3 a4 a5) (fun k hk => by rw [hq1 1 (by omega)]; rw [← hm4, nEv_a _ _ _ (by omega) (by omega)]; exact fk k hk) ?_ ?_ ?_ (by rw [hq1 1 (by omega)]; rw [← hm4, nEv_a _ _ _ (by omega) (by omega)]; exact f13) (by rw [hq1 1 (by omega)]; rw [← hm4, nEv_a _ _ _ (by omega) (by omega)]; exact f14) (by rw [hq1 1 (by omega)]; rw [← hm4, nEv_a _ _ _ (by omega) (by omega)]; exact f15)
              · exact RG_st gg.1 gg.2.1 gg.2.2.1 0
              · rw [ar]; show KR (attB A0 c) c mem2 b
                unfold KR; rw [habs 101 (by omega) (by omega), habs 102 (by omega) (by omega), hq1 (b + 16) (by omega), hq1 (b + 17) (by omega)]; exact fKR4
              · rw [ar]; rw [hq1 2 (by omega), ← hm4, nEv_app]; exact (nEv_c (m := nEv m0 (rnRes A0 c).2.2.2) ((fa 2 (by omega)).trans hpt.2.2.1) ((fa 3 (by omega)).trans hpt.2.2.2) _).1
              · rw [ar]; rw [hq1 3 (by omega), ← hm4, nEv_app]; exact (nEv_c (m := nEv m0 (rnRes A0 c).2.2.2) ((fa 2 (by omega)).trans hpt.2.2.1) ((fa 3 (by omega)).trans hpt.2.2.2) _).2
              · rw [ar]; exact hq2
      · skip
        refine pw_bipush dX9_attempt_78 (by decide) ?_
        refine pw_aload_n 0 rfl dX9_attempt_80 rfl ?_
        refine pw_gI 12 12 rfl dX9_attempt_81 cOk9 (by assumption) (by decide) kw_359 (by decide) (fun r81 => ?_)
        try simp (disch := omega) only [wr_s, wr_a, wr_k] at r81 ⊢
        refine pw_isub dX9_attempt_84 ?_
        refine pw_goto 89 (by decide) dX9_attempt_85 ?_
        refine pw_pI 15 15 rfl dX9_attempt_89 cOk9 (by assumption) (by decide) kw_362 rfl rfl (by decide) (by omega) ?_
        generalize hM3 : wr (wr (wr mem1 1 13 ((rnRes A0 c).1 : Int)) 1 14 (A0 106 ((rnRes A0 c).1 : Int))) 1 15 (-10 - mem1 1 12) = M3
        have f13 : M3 1 13 = ((rnRes A0 c).1 : Int) := by rw [← hM3]; simp (disch := omega) only [wr_s, wr_k]
        have f14 : M3 1 14 = (if ((rnRes A0 c).1 : Int) < A0 88 24 then A0 106 (rnRes A0 c).1 else -1) := by
          rw [← hM3, wr_k _ _ _ _ (by omega), wr_s]; first | rw [if_pos (by omega)] | rw [if_neg (by omega)]
        have f15 : M3 1 15 = (rnRes A0 c).2.1 88 27 := by
          rw [← hM3, wr_s, ← h27]; first | rw [if_pos (by omega)] | rw [if_neg (by omega)]
        have fk : ∀ k, k = 10 ∨ k = 11 ∨ k = 16 → M3 1 k = m0 1 k := fun k hk => by
          rw [← hM3, wr_k _ _ _ _ (by omega), wr_k _ _ _ _ (by omega), wr_k _ _ _ _ (by omega)]; exact hpt.2.1 k (by omega)
        have fa : ∀ a, a ≠ 1 → M3 a = mem1 a := fun a q => by rw [← hM3, wr_a _ _ _ q, wr_a _ _ _ q, wr_a _ _ _ q]
        have fm : ∀ a, a ≠ 1 → a ≠ 2 → a ≠ 3 → a ≠ 87 → a ≠ b + 4 → M3 a = m0 a := fun a a1 a2 a3 a4 a5 => (fa a a1).trans (hpt.1 a a1 a2 a3 a4 a5)
        have fS : CS A0 c M3 b := hS.m (fun a a1 a2 a3 a4 => fm a (by omega) (by omega) (by omega) (by omega) a3)
        have fV := hcv.m (fa (b + 4) (by omega))
        have fKR : KR A0 c M3 b := by
          unfold KR; rw [fa (b + 16) (by omega), fa (b + 17) (by omega)]; exact hKR1
        have fn := nEv_ran hG hRI (rnRes A0 c).2.2.2
        have f21 : M3 2 1 = nEv m0 (rnRes A0 c).2.2.2 2 1 := by rw [fa 2 (by omega), hpt.2.2.1]
        clear hM3
        refine pw_iload dX9_attempt_92 rfl ?_
        refine pw_aload_n 0 rfl dX9_attempt_94 rfl ?_
        refine pw_gI 11 11 rfl dX9_attempt_95 cOk9 (by assumption) (by decide) kw_358 (by decide) (fun r95 => ?_)
        rw [fk 11 (by omega), hT0.1] at r95 ⊢
        refine pw_icmp_lt 109 (by decide) dX9_attempt_98 (by omega) (by omega) (fun c98 => ?_) (fun c98 => ?_)
        · skip
          refine pw_aload_n 2 rfl dX9_attempt_109 rfl ?_
          refine pw_iload_n 3 rfl dX9_attempt_110 rfl ?_
          refine pw_callV (d' := d - 1) (As := [_]) (ci := 0) dX9_attempt_111 ok_X0_standAt kw_794 rfl rfl (Of.o (by assumption)) (by omega) rfl (Nat.le_of_ble_eq_true rfl) (h_standAt (d - 1) (by omega) n ok M3 hN b hC A0 c _ hI fS fV b3 _ (by omega)) (Nat.le_refl _) (Or.inl rfl) (fun r ok1 mem2 hq => ?_)
          obtain ⟨rfl, rfl, hq1, hq2⟩ := hq
          refine pw_aload_n 0 rfl dX9_attempt_114 rfl ?_
          refine pw_iconst dX9_attempt_115 ?_
          refine pw_callV (d' := d - 1) (As := [_]) (ci := 9) dX9_attempt_116 ok_X9_answered kw_423 rfl rfl (Of.o (by assumption)) (by omega) rfl (Nat.le_of_ble_eq_true rfl) (p_answered (d - 1) (by omega) n ok _ hP9 _) (Nat.le_refl _) (Or.inl rfl) (fun r ok1 mem1 hq => ?_)
          obtain ⟨rfl, rfl, rfl⟩ := hq
          refine pw_iret dX9_attempt_119 rfl rfl ?_
          have hrb := rnGo_b (m := A0) c (A0 88 24).toNat 0 (b := wr A0 88 27 0) (aAt A0 c) [] ⟨fun a a1 _ => wr_a _ _ _ a1, fun k q => wr_k _ _ _ _ q⟩
          change bSame A0 (rnRes A0 c).2.1 at hrb
          have habs : ∀ a, a ≠ 88 → a ≠ 107 → attB A0 c a = A0 a := fun a a1 a2 => by
            unfold attB; rw [wr_a _ _ _ a1, wr_a _ _ _ a1, wr_a _ _ _ a1]; exact hrb.1 a a1 a2
          have ar : attRes A0 c = (0, attB A0 c, setV A0 c (rnRes A0 c).2.2.1 (aNum A0 c 16), (rnRes A0 c).2.2.2) := by
            unfold attRes; rw [if_pos (by omega)]
          refine ⟨rfl, RE_w (fun a a1 a2 => ?_) _, Or.inr ⟨by omega, by rw [ar], fun A2 hA2 => ?_⟩⟩
          · rw [hq1 a (by omega)]; exact (fm a (by omega) (by omega) (by omega) (by omega) (by omega)).trans (hRE0 a a1 a2)
          · obtain ⟨z, m9, p1, rfl⟩ := hA2
            have gg := RG_att (m1 := mem2) hG hRI hA19 (c := c) (by omega) hbc p1 ?_ (fun a a1 a2 a3 a4 a5 a6 a7 => by rw [hq1 a (by omega)]; exact fm a a1 a2 a3 a4 a5) (fun k hk => by rw [hq1 1 (by omega)]; exact fk k hk) ?_ ?_ ?_ (by rw [hq1 1 (by omega)]; exact f13) (by rw [hq1 1 (by omega)]; exact f14) (by rw [hq1 1 (by omega)]; exact f15)
            · exact RG_st gg.1 gg.2.1 gg.2.2.1 0
            · rw [ar]; show KR (attB A0 c) c mem2 b
              unfold KR; rw [habs 101 (by omega) (by omega), habs 102 (by omega) (by omega), hq1 (b + 16) (by omega), hq1 (b + 17) (by omega)]; exact fKR
            · rw [ar]; rw [hq1 2 (by omega)]; exact (fa 2 (by omega)).trans hpt.2.2.1
            · rw [ar]; rw [hq1 3 (by omega)]; exact (fa 3 (by omega)).trans hpt.2.2.2
            · rw [ar]; exact hq2
        · skip
          refine pw_aload_n 2 rfl dX9_attempt_101 rfl ?_
          refine pw_iconst dX9_attempt_102 ?_
          refine pw_callV (d' := d - 1) (As := [_]) (ci := 0) dX9_attempt_103 ok_X0_opens kw_780 rfl rfl (Of.o (by assumption)) (by omega) rfl (Nat.le_of_ble_eq_true rfl) (h_opens (d - 1) (by omega) n ok M3 hN b hC A0 c _ hI fS fV b3 1 (by omega) (by omega)) (Nat.le_refl _) (Or.inl rfl) (fun r ok1 M4 hq => ?_)
          obtain ⟨rfl, rfl, hm4⟩ := hq
          have hm4 : nEv M3 (oEv A0 c (rnRes A0 c).2.2.1) = M4 := hm4
          have ho1 := oRes_01 A0 c (rnRes A0 c).2.2.1
          have fS4 : CS A0 c M4 b := by rw [← hm4]; exact fS.ev (by omega) _
          have fV4 : CV A0 c M4 b (rnRes A0 c).2.2.1 := by rw [← hm4]; exact fV.ev (by omega) _
          have fa4 : ∀ a, a ≠ 2 → a ≠ 3 → M4 a = M3 a := fun a a1 a2 => by rw [← hm4, nEv_a _ _ _ a1 a2]
          have fKR4 : KR A0 c M4 b := by
            unfold KR; rw [fa4 (b + 16) (by omega) (by omega), fa4 (b + 17) (by omega) (by omega)]; exact fKR
          refine pw_if_ne 120 (by decide) dX9_attempt_106 (by omega) (fun c106 => ?_) (fun c106 => ?_)
          · skip
            refine pw_aload_n 2 rfl dX9_attempt_120 rfl ?_
            refine pw_gR 9 (b + 16) dX9_attempt_121 cOk0 (by assumption) (by decide) kw_250 (by decide) rfl ?_
            refine pw_aload_n 0 rfl dX9_attempt_124 rfl ?_
            refine pw_gR 9 87 dX9_attempt_125 cOk9 (by assumption) (by decide) kw_356 (by decide) rfl ?_
            refine pw_iload dX9_attempt_128 rfl ?_
            refine pw_callV (d' := d - 1) (As := [_, _]) (ci := 3) dX9_attempt_130 ok_X3_pushAll kw_831 rfl rfl (Of.o (by assumption)) (by omega) rfl (Nat.le_of_ble_eq_true rfl) (k_pushAll (d - 1) (by omega) n ok _ b ⟨hC16, hC17⟩ (by omega) q87 _ (by omega) ⟨fKR4.2.1, by rw [fKR4.1]; omega⟩) (Nat.le_refl _) (Or.inl rfl) (fun r ok1 mem2 hq => ?_)
            obtain ⟨rfl, rfl, rfl⟩ := hq
            rw [Int.toNat_natCast]
            refine pw_aload_n 0 rfl dX9_attempt_133 rfl ?_
            refine pw_iconst dX9_attempt_134 ?_
            refine pw_callV (d' := d - 1) (As := [_]) (ci := 9) dX9_attempt_135 ok_X9_answered kw_423 rfl rfl (Of.o (by assumption)) (by omega) rfl (Nat.le_of_ble_eq_true rfl) (p_answered (d - 1) (by omega) n ok _ hP9 _) (Nat.le_refl _) (Or.inl rfl) (fun r ok1 mem1 hq => ?_)
            obtain ⟨rfl, rfl, rfl⟩ := hq
            refine pw_iret dX9_attempt_138 rfl rfl ?_
            have hrb := rnGo_b (m := A0) c (A0 88 24).toNat 0 (b := wr A0 88 27 0) (aAt A0 c) [] ⟨fun a a1 _ => wr_a _ _ _ a1, fun k q => wr_k _ _ _ _ q⟩
            change bSame A0 (rnRes A0 c).2.1 at hrb
            have habs : ∀ a, a ≠ 88 → a ≠ 107 → attB A0 c a = A0 a := fun a a1 a2 => by
              unfold attB; rw [wr_a _ _ _ a1, wr_a _ _ _ a1, wr_a _ _ _ a1]; exact hrb.1 a a1 a2
            have ar : attRes A0 c = (1, rKeepAll (attB A0 c) c (rnRes A0 c).1, (rnRes A0 c).2.2.1, (rnRes A0 c).2.2.2 ++ oEv A0 c (rnRes A0 c).2.2.1) := by
              unfold attRes; rw [if_neg (by omega), if_neg (by omega)]
            have hia := kpAll_i (m := M4) (b := b) (by omega) ⟨fKR4.2.1, by rw [fKR4.1]; omega⟩ (rnRes A0 c).1
            refine ⟨rfl, RE_w (fun a a1 a2 => ?_) _, Or.inr ⟨by omega, by rw [ar], fun A2 hA2 => ?_⟩⟩
            · rw [hia.2 a (by omega) (by omega), fa4 a (by omega) (by omega)]; exact (fm a (by omega) (by omega) (by omega) (by omega) (by omega)).trans (hRE0 a a1 a2)
            · obtain ⟨z, m9, p1, rfl⟩ := hA2
              have i1 := hia.2 1 (by omega) (by omega)
              have j1 := fa4 1 (by omega) (by omega)
              have gg := RG_att (m1 := kpAll M4 b (rnRes A0 c).1) hG hRI hA19 (c := c) (by omega) hbc p1 ?_ (fun a a1 a2 a3 a4 a5 a6 a7 => by rw [hia.2 a a6 a7, fa4 a a2 a3]; exact fm a a1 a2 a3 a4 a5) (fun k hk => by rw [i1, j1]; exact fk k hk) ?_ ?_ ?_ (by rw [i1, j1]; exact f13) (by rw [i1, j1]; exact f14) (by rw [i1, j1]; exact f15)
              · exact RG_st gg.1 gg.2.1 gg.2.2.1 0
              · rw [ar]
                refine KR_all ?_ (by rw [habs 101 (by omega) (by omega)]; omega) _ (fun i hi => ?_)
                · unfold KR; rw [habs 101 (by omega) (by omega), habs 102 (by omega) (by omega)]; exact fKR4
                · rw [fa4 87 (by omega) (by omega), fa 87 (by omega), att_107]; exact h87 i hi
              · rw [ar, hia.2 2 (by omega) (by omega), ← hm4, nEv_app]; exact (nEv_c (m := nEv m0 (rnRes A0 c).2.2.2) ((fa 2 (by omega)).trans hpt.2.2.1) ((fa 3 (by omega)).trans hpt.2.2.2) _).1
              · rw [ar, hia.2 3 (by omega) (by omega), ← hm4, nEv_app]; exact (nEv_c (m := nEv m0 (rnRes A0 c).2.2.2) ((fa 2 (by omega)).trans hpt.2.2.1) ((fa 3 (by omega)).trans hpt.2.2.2) _).2
              · rw [ar]; exact fV4.m (hia.2 _ (by omega) (by omega))
          · skip
            refine pw_aload_n 2 rfl dX9_attempt_109 rfl ?_
            refine pw_iload_n 3 rfl dX9_attempt_110 rfl ?_
            refine pw_callV (d' := d - 1) (As := [_]) (ci := 0) dX9_attempt_111 ok_X0_standAt kw_794 rfl rfl (Of.o (by assumption)) (by omega) rfl (Nat.le_of_ble_eq_true rfl) (h_standAt (d - 1) (by omega) n ok M4 hN b hC A0 c _ hI fS4 fV4 b3 _ (by omega)) (Nat.le_refl _) (Or.inl rfl) (fun r ok1 mem2 hq => ?_)
            obtain ⟨rfl, rfl, hq1, hq2⟩ := hq
            refine pw_aload_n 0 rfl dX9_attempt_114 rfl ?_
            refine pw_iconst dX9_attempt_115 ?_
            refine pw_callV (d' := d - 1) (As := [_]) (ci := 9) dX9_attempt_116 ok_X9_answered kw_423 rfl rfl (Of.o (by assumption)) (by omega) rfl (Nat.le_of_ble_eq_true rfl) (p_answered (d - 1) (by omega) n ok _ hP9 _) (Nat.le_refl _) (Or.inl rfl) (fun r ok1 mem1 hq => ?_)
            obtain ⟨rfl, rfl, rfl⟩ := hq
            refine pw_iret dX9_attempt_119 rfl rfl ?_
            have hrb := rnGo_b (m := A0) c (A0 88 24).toNat 0 (b := wr A0 88 27 0) (aAt A0 c) [] ⟨fun a a1 _ => wr_a _ _ _ a1, fun k q => wr_k _ _ _ _ q⟩
            change bSame A0 (rnRes A0 c).2.1 at hrb
            have habs : ∀ a, a ≠ 88 → a ≠ 107 → attB A0 c a = A0 a := fun a a1 a2 => by
              unfold attB; rw [wr_a _ _ _ a1, wr_a _ _ _ a1, wr_a _ _ _ a1]; exact hrb.1 a a1 a2
            have ar : attRes A0 c = (0, attB A0 c, setV A0 c (rnRes A0 c).2.2.1 (aNum A0 c 16), (rnRes A0 c).2.2.2 ++ oEv A0 c (rnRes A0 c).2.2.1) := by
              unfold attRes; rw [if_neg (by omega), if_pos (by omega)]
            refine ⟨rfl, RE_w (fun a a1 a2 => ?_) _, Or.inr ⟨by omega, by rw [ar], fun A2 hA2 => ?_⟩⟩
            · rw [hq1 a (by omega)]; rw [← hm4, nEv_a _ _ _ (by omega) (by omega)]; exact (fm a (by omega) (by omega) (by omega) (by omega) (by omega)).trans (hRE0 a a1 a2)
            · obtain ⟨z, m9, p1, rfl⟩ := hA2
              have gg := RG_att (m1 := mem2) hG hRI hA19 (c := c) (by omega) hbc p1 ?_ (fun a a1 a2 a3 a4 a5 a6 a7 => by rw [hq1 a (by omega)]; rw [← hm4, nEv_a _ _ _ (by omega) (by omega)]; exact fm a a1 a2 a3 a4 a5) (fun k hk => by rw [hq1 1 (by omega)]; rw [← hm4, nEv_a _ _ _ (by omega) (by omega)]; exact fk k hk) ?_ ?_ ?_ (by rw [hq1 1 (by omega)]; rw [← hm4, nEv_a _ _ _ (by omega) (by omega)]; exact f13) (by rw [hq1 1 (by omega)]; rw [← hm4, nEv_a _ _ _ (by omega) (by omega)]; exact f14) (by rw [hq1 1 (by omega)]; rw [← hm4, nEv_a _ _ _ (by omega) (by omega)]; exact f15)
              · exact RG_st gg.1 gg.2.1 gg.2.2.1 0
              · rw [ar]; show KR (attB A0 c) c mem2 b
                unfold KR; rw [habs 101 (by omega) (by omega), habs 102 (by omega) (by omega), hq1 (b + 16) (by omega), hq1 (b + 17) (by omega)]; exact fKR4
              · rw [ar]; rw [hq1 2 (by omega), ← hm4, nEv_app]; exact (nEv_c (m := nEv m0 (rnRes A0 c).2.2.2) ((fa 2 (by omega)).trans hpt.2.2.1) ((fa 3 (by omega)).trans hpt.2.2.2) _).1
              · rw [ar]; rw [hq1 3 (by omega), ← hm4, nEv_app]; exact (nEv_c (m := nEv m0 (rnRes A0 c).2.2.2) ((fa 2 (by omega)).trans hpt.2.2.1) ((fa 3 (by omega)).trans hpt.2.2.2) _).2
              · rw [ar]; exact hq2
  · skip
    rw [bz_0] at c11
    refine pw_aload_n 0 rfl dX9_attempt_14 rfl ?_
    refine pw_bipush dX9_attempt_15 (by decide) ?_
    refine pw_callV (d' := d - 1) (As := [_]) (ci := 9) dX9_attempt_17 ok_X9_refused kw_406 rfl rfl (Of.o (by assumption)) (by omega) rfl (Nat.le_of_ble_eq_true rfl) (p_refused (d - 1) (by omega) n ok _ hP9 _ (by omega)) (Nat.le_refl _) (Or.inl rfl) (fun r ok1 mem1 hq => ?_)
    obtain ⟨rfl, rfl, rfl⟩ := hq
    refine pw_iret dX9_attempt_20 rfl rfl ?_
    exact ⟨rfl, RE_w hRE0 _, Or.inl ⟨c11, rfl, RG_st hG hIO hKO _⟩⟩
