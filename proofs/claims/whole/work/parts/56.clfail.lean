/-! ===== the class: what fails first, opens, bars ===== -/
theorem hold_q {A : pM} {c : Int} (hI : cIn A c) {m : pM} {b : Nat} (hD : CD A c m b) {v : Int → Int} (hv : pOkv A c v) {x : Int} (h1 : 0 ≤ x) (h2 : x < A 94 c) : iAnd (iShr (m (b + 13) x) (eAv A c v (aLook A c x))) 1 = hIs A c v x := by
  have hl : 0 ≤ aLook A c x ∧ aLook A c x ≤ 15 := (hI.2.2.1.2 x h1 h2).2.1
  have hb := hIs_b hI hv h1 h2
  have h01 := hIs_01 A c v x
  by_cases q : aKind A c (aLook A c x) = -1
  · have e : eAv A c v (aLook A c x) = 0 := by unfold eAv; rw [if_pos q]
    have e2 : eSp A c (aLook A c x) = 1 := by unfold eSp; rw [if_pos q]
    have hd := hD.2.2.2.2 x h1 h2 0 (by show ((0 : Nat) : Int) < eSp A c (aLook A c x); omega)
    rw [e, bit_at _ _ (by omega)]
    show (if tb (m (b + 13) x) 0 = true then (1 : Int) else 0) = _
    rw [if_neg (fun z => (hd.mp z).1 q)]
    rcases h01 with w | w
    · exact w.symm
    · exact absurd q (hb.mp w).1
  · have e : eAv A c v (aLook A c x) = v (aLook A c x) := by unfold eAv; rw [if_neg q]
    have e2 : eSp A c (aLook A c x) = aSpan A c (aLook A c x) := by unfold eSp; rw [if_neg q]
    have hvl := hv _ hl.1 hl.2 q
    have hp := hI.ok.1.2.2 _ hl.1 hl.2 q
    have hd := hD.2.2.2.2 x h1 h2 (v (aLook A c x)).toNat (by show _ < eSp A c (aLook A c x); omega)
    rw [Int.toNat_of_nonneg hvl.1] at hd
    rw [e, bit_at _ _ (by omega)]
    rcases h01 with w | w
    · rw [w, if_neg (fun z => by have := hb.mpr (hd.mp z); omega)]
    · rw [w, if_pos (hd.mpr (hb.mp w))]
theorem jRes_c (A : pM) (c : Int) (v : Int → Int) (k : Int) : (jRes A c v k < 0 ∧ hMet A c v k ≠ 0 ∧ - jRes A c v k = hMet A c v k ∧ hIs A c v k = 0) ∨ (0 ≤ jRes A c v k ∧ hMet A c v k = 0 ∧ jRes A c v k = hIs A c v k) := by
  have h1 := hMet_ran A c v k
  have h2 := hIs_01 A c v k
  unfold jRes
  by_cases q : hMet A c v k ≠ 0
  · rw [if_pos q]
    refine Or.inl ⟨by omega, q, by omega, ?_⟩
    unfold hIs; rw [if_neg (fun z => q z.1)]
  · rw [if_neg q]
    exact Or.inr ⟨by omega, by omega, rfl⟩
def evw (w : Int) (l : pEv) : pEv := if w = 0 then [] else l
theorem evw_app (w : Int) (a b : pEv) : evw w (a ++ b) = evw w a ++ evw w b := by unfold evw; split <;> rfl
set_option maxHeartbeats 4000000 in
set_option maxRecDepth 100000 in
theorem h_ftfN (d : Nat) (hd : 2 ≤ d) (n : Nat) (ok : pO) (mem : pM) (hN : NUp n ok) (b : Nat) (hC : ChUp n ok b) (A : pM) (c : Int) (v : Int → Int) (hI : cIn A c) (hS : CS A c mem b) (hV : CV A c mem b v) (hv : pOkv A c v) (s : Int) (hs : -1 ≤ s ∧ s ≤ 15) (ht : 0 ≤ mem 2 1 ∧ mem 2 1 ≤ 900000000) : PM mi_X0_firstThatFails d [vr b, vi s, vi 1] n ok mem n (fun r ok' mem' => r = some (vi (fRes A c v s).1) ∧ ok = ok' ∧ nEv mem (fRes A c v s).2 = mem') := by
  obtain ⟨hN5, hN3⟩ := id hN
  obtain ⟨hC0, ⟨hC1, hC2, hC3, hC4, hC5, hC6, hC7⟩, hC8, ⟨hC9, hC10, hC11, hC12, hC13, hC14, hC15⟩, hC16, hC17, hb5, hb59⟩ := id hC
  obtain ⟨hR, hD, hSo⟩ := id hS
  have hOk := hI.ok
  refine PM.of (by decide) (by decide) (Nat.le_refl _) (Nat.le_of_ble_eq_true rfl) ?_
  refine pw_aload_n 0 rfl dX0_firstThatFails_0 rfl ?_
  refine pw_gR 8 (b + 8) dX0_firstThatFails_1 cOk0 (by assumption) (by decide) kw_246 (by decide) rfl ?_
  refine pw_gR 6 (b + 15) dX0_firstThatFails_4 cOk1 (by assumption) (by decide) kw_150 (by decide) rfl ?_
  refine pw_iload_n 1 rfl dX0_firstThatFails_7 rfl ?_
  refine pw_iconst dX0_firstThatFails_8 ?_
  refine pw_iadd dX0_firstThatFails_9 ?_
  refine pw_iaload dX0_firstThatFails_10 (by assumption) (by omega) (by omega) (fun r10 => ?_)
  have hst := hSo.1 s (by omega) (by omega)
  refine pw_istore_n 3 rfl dX0_firstThatFails_11 (by decide) ?_
  have lp12 : ∀ (kz : Nat) (i : Int) (k0 : Nat) (ev : pEv) (m1 : pM), (mem (b + 15) (s + 2)) - i < (kz : Int) → ((mem (b + 15) (s + 1)) ≤ i ∧ i ≤ (mem (b + 15) (s + 2))) → ((k0 : Int) ≤ A 94 c) → (∀ j, i ≤ j → j < (mem (b + 15) (s + 2)) → (k0 : Int) ≤ mem (b + 14) j) → (∀ k, (k0 : Int) ≤ k → k < A 94 c → A 95 (40 * c + k) = s → ∃ j, i ≤ j ∧ j < (mem (b + 15) (s + 2)) ∧ mem (b + 14) j = k) → (fRes A c v s = ((fGo A c v s ((aNc A c).toNat - k0) k0).1, ev ++ (fGo A c v s ((aNc A c).toNat - k0) k0).2)) → (nEv mem ev = m1) → (ev.length ≤ 3 * k0) → PW mi_X0_firstThatFails d n n (fun r ok' mem' => r = some (vi (fRes A c v s).1) ∧ ok = ok' ∧ nEv mem (fRes A c v s).2 = mem') 12 [(0, vr b), (1, vi s), (2, vi 1), (3, vi i)] [] n ok m1 := by
    intro kz
    induction kz with
    | zero =>
      intro i k0 ev m1 hk hi hk0 hlo hhi hRs hm hel
      exact absurd hk (by omega)
    | succ kz ih =>
      intro i k0 ev m1 hk hi hk0 hlo hhi hRs hm hel
      have g14 : m1 (b + 14) = mem (b + 14) := by rw [← hm]; exact nEv_a _ _ _ (by omega) (by omega)
      have g15 : m1 (b + 15) = mem (b + 15) := by rw [← hm]; exact nEv_a _ _ _ (by omega) (by omega)
      have hn1 := nEv_1 mem ev
      rw [hm] at hn1
      have hS1 : CS A c m1 b := by rw [← hm]; exact hS.ev hb5 ev
      have hV1 : CV A c m1 b v := by rw [← hm]; exact hV.ev hb5 ev
      refine pw_iload_n 3 rfl dX0_firstThatFails_12 rfl ?_
      refine pw_aload_n 0 rfl dX0_firstThatFails_13 rfl ?_
      refine pw_gR 8 (b + 8) dX0_firstThatFails_14 cOk0 (by assumption) (by decide) kw_246 (by decide) rfl ?_
      refine pw_gR 6 (b + 15) dX0_firstThatFails_17 cOk1 (by assumption) (by decide) kw_150 (by decide) rfl ?_
      refine pw_iload_n 1 rfl dX0_firstThatFails_20 rfl ?_
      refine pw_iconst dX0_firstThatFails_21 ?_
      refine pw_iadd dX0_firstThatFails_22 ?_
      refine pw_iaload dX0_firstThatFails_23 (by assumption) (by omega) (by omega) (fun r23 => ?_)
      try simp (disch := omega) only [wr_s, wr_a, wr_k] at r23 ⊢
      rw [g15] at r23 ⊢
      refine pw_icmp_ge 113 (by decide) dX0_firstThatFails_24 (by omega) (by omega) (fun c24 => ?_) (fun c24 => ?_)
      · skip
        have hskip : ∀ k : Int, (k0 : Int) ≤ k → k < (k0 : Int) + (((aNc A c).toNat - k0 : Nat) : Int) → aSeat A c k ≠ s := fun k q1 q2 z => by
          have q3 : k < A 94 c := by have e0 : aNc A c = A 94 c := rfl; rw [e0] at q2; omega
          obtain ⟨j, j1, j2, j3⟩ := hhi k q1 q3 z
          omega
        have hG := fGo_skip A c v s (aNc A c).toNat ((aNc A c).toNat - k0) k0 (by have e0 : aNc A c = A 94 c := rfl; rw [e0]; omega) hskip
        rw [show (aNc A c).toNat - (k0 + ((aNc A c).toNat - k0)) = 0 by omega] at hG
        have hG0 : fGo A c v s ((aNc A c).toNat - k0) k0 = (-1, []) := hG
        refine pw_iconst dX0_firstThatFails_113 ?_
        refine pw_iret dX0_firstThatFails_114 rfl rfl ?_
        refine ⟨congrArg (fun z => some (vi z)) ?_, rfl, ?_⟩
        · rw [hRs, hG0]
        · rw [hRs, hG0]; show nEv mem (ev ++ []) = _; rw [List.append_nil]; exact hm
      · skip
        have hsg := hSo.2.1 s (by omega) (by omega) i (by omega) (by omega)
        have hxk := hlo i (by omega) (by omega)
        have hskip : ∀ k : Int, (k0 : Int) ≤ k → k < (k0 : Int) + (((mem (b + 14) i).toNat - k0 : Nat) : Int) → aSeat A c k ≠ s := fun k q1 q2 z => by
          obtain ⟨j, j1, j2, j3⟩ := hhi k q1 (by omega) z
          by_cases e : j = i
          · subst e; omega
          · have := hSo.2.2.1 s (by omega) (by omega) i j (by omega) (by omega) (by omega); omega
        have hG := fGo_skip A c v s (aNc A c).toNat ((mem (b + 14) i).toNat - k0) k0 (by show _ ≤ (A 94 c).toNat; omega) hskip
        rw [show k0 + ((mem (b + 14) i).toNat - k0) = (mem (b + 14) i).toNat by omega, show (aNc A c).toNat - (mem (b + 14) i).toNat = ((aNc A c).toNat - ((mem (b + 14) i).toNat + 1)) + 1 by (show (A 94 c).toNat - _ = (A 94 c).toNat - _ + 1; omega), fGo_succ, Int.toNat_of_nonneg hsg.1, if_pos hsg.2.2] at hG
        have hlo2 : ∀ j, i + 1 ≤ j → j < (mem (b + 15) (s + 2)) → (((mem (b + 14) i).toNat + 1 : Nat) : Int) ≤ mem (b + 14) j := fun j j1 j2 => by
          have := hSo.2.2.1 s (by omega) (by omega) i j (by omega) (by omega) j2; omega
        have hhi2 : ∀ k, (((mem (b + 14) i).toNat + 1 : Nat) : Int) ≤ k → k < A 94 c → A 95 (40 * c + k) = s → ∃ j, i + 1 ≤ j ∧ j < (mem (b + 15) (s + 2)) ∧ mem (b + 14) j = k := fun k k1 k2 k3 => by
          obtain ⟨j, j1, j2, j3⟩ := hhi k (by omega) k2 k3
          have hne : j ≠ i := fun e => by subst e; omega
          exact ⟨j, by omega, j2, j3⟩
        have hnc2 := hI.2.2.1.1
        refine pw_aload_n 0 rfl dX0_firstThatFails_27 rfl ?_
        refine pw_gR 8 (b + 8) dX0_firstThatFails_28 cOk0 (by assumption) (by decide) kw_246 (by decide) rfl ?_
        refine pw_gR 5 (b + 14) dX0_firstThatFails_31 cOk1 (by assumption) (by decide) kw_148 (by decide) rfl ?_
        refine pw_iload_n 3 rfl dX0_firstThatFails_34 rfl ?_
        refine pw_iaload dX0_firstThatFails_35 (by assumption) (by omega) (by omega) (fun r35 => ?_)
        try simp (disch := omega) only [wr_s, wr_a, wr_k] at r35 ⊢
        rw [g14] at r35 ⊢
        refine pw_istore dX0_firstThatFails_36 (by decide) ?_
        refine pw_iload_n 2 rfl dX0_firstThatFails_38 rfl ?_
        refine pw_if_eq 52 (by decide) dX0_firstThatFails_39 (by omega) (fun c39 => ?_) (fun c39 => ?_)
        · skip
          exfalso; omega
        · skip
          refine pw_aload_n 0 rfl dX0_firstThatFails_42 rfl ?_
          refine pw_iload dX0_firstThatFails_43 rfl ?_
          refine pw_iconst dX0_firstThatFails_45 ?_
          refine pw_callV (d' := d - 1) (As := [_, _]) (ci := 0) dX0_firstThatFails_46 ok_X0_judge kw_670 rfl rfl (Of.o (by assumption)) (by omega) rfl (Nat.le_of_ble_eq_true rfl) (h_judgeN (d - 1) (by omega) n ok m1 hN b hC A c v hI hS1 hV1 hv (mem (b + 14) i) (by omega) (by omega)) (Nat.le_refl _) (Or.inl rfl) (fun r ok1 m2 hq => ?_)
          obtain ⟨rfl, rfl, em2⟩ := hq
          have hj := jRes_c A c v (mem (b + 14) i)
          have hjm := hMet_ran A c v (mem (b + 14) i)
          have hj01 := hIs_01 A c v (mem (b + 14) i)
          refine pw_goto 80 (by decide) dX0_firstThatFails_49 ?_
          refine pw_istore dX0_firstThatFails_80 (by decide) ?_
          refine pw_iload dX0_firstThatFails_82 rfl ?_
          refine pw_if_ge 98 (by decide) dX0_firstThatFails_84 (by omega) (fun c84 => ?_) (fun c84 => ?_)
          · skip
            have hcE : cEv A c v (mem (b + 14) i) = evW (hEv A c (mem (b + 14) i)) := by unfold cEv; rw [if_pos (by omega), List.append_nil]
            have hm3 : nEv mem (ev ++ cEv A c v (mem (b + 14) i)) = m2 := by rw [nEv_app, hm, hcE, em2]
            refine pw_iload dX0_firstThatFails_98 rfl ?_
            refine pw_iconst dX0_firstThatFails_100 ?_
            refine pw_icmp_eq 107 (by decide) dX0_firstThatFails_101 (by omega) (by omega) (fun c101 => ?_) (fun c101 => ?_)
            · skip
              refine pw_iinc dX0_firstThatFails_107 rfl (by decide) ?_
              refine pw_goto 12 (by decide) dX0_firstThatFails_110 ?_
              exact pw_locs _ rfl (ih (i + 1) ((mem (b + 14) i).toNat + 1) (ev ++ cEv A c v (mem (b + 14) i)) _ (by omega) (by omega) (by omega) hlo2 hhi2 (by rw [hRs, hG, if_pos (by omega)]; show _ = ((fGo A c v s ((aNc A c).toNat - ((mem (b + 14) i).toNat + 1)) (((mem (b + 14) i).toNat + 1 : Nat) : Int)).1, (ev ++ cEv A c v (mem (b + 14) i)) ++ (fGo A c v s ((aNc A c).toNat - ((mem (b + 14) i).toNat + 1)) (((mem (b + 14) i).toNat + 1 : Nat) : Int)).2); rw [show (((mem (b + 14) i).toNat + 1 : Nat) : Int) = (mem (b + 14) i) + 1 by omega, List.append_assoc]) hm3 (by rw [List.length_append]; have := cEv_len A c v (mem (b + 14) i); omega))
            · skip
              refine pw_iload dX0_firstThatFails_104 rfl ?_
              refine pw_iret dX0_firstThatFails_106 rfl rfl ?_
              refine ⟨congrArg (fun z => some (vi z)) ?_, rfl, ?_⟩
              · rw [hRs, hG, if_neg (by omega)]
              · rw [hRs, hG, if_neg (by omega)]; exact hm3
          · skip
            have hcE : cEv A c v (mem (b + 14) i) = evW (hEv A c (mem (b + 14) i)) ++ [(false, hMet A c v (mem (b + 14) i))] := by unfold cEv; rw [if_neg (by omega)]
            refine pw_aload_n 0 rfl dX0_firstThatFails_87 rfl ?_
            refine pw_gR 0 2 dX0_firstThatFails_88 cOk0 (by assumption) (by decide) kw_227 (by decide) rfl ?_
            refine pw_iload dX0_firstThatFails_91 rfl ?_
            refine pw_ineg dX0_firstThatFails_93 ?_
            refine pw_callV (d' := d - 1) (As := [_]) (ci := 5) dX0_firstThatFails_94 ok_X5_met kw_682 rfl rfl (Of.o (by assumption)) (by omega) rfl (Nat.le_of_ble_eq_true rfl) (n_met (d - 1) (by omega) n ok m2 hN (- jRes A c v (mem (b + 14) i)) (by omega)) (Nat.le_refl _) (Or.inl rfl) (fun r ok1 m3 hq => ?_)
            obtain ⟨rfl, rfl, em3⟩ := hq
            have hm3 : nEv mem (ev ++ cEv A c v (mem (b + 14) i)) = m3 := by
              rw [nEv_app, hm, hcE, nEv_app, em2, ← em3]
              show nMt m2 _ = _
              congr 1; omega
            refine pw_pop dX0_firstThatFails_97 rfl ?_
            refine pw_iload dX0_firstThatFails_98 rfl ?_
            refine pw_iconst dX0_firstThatFails_100 ?_
            refine pw_icmp_eq 107 (by decide) dX0_firstThatFails_101 (by omega) (by omega) (fun c101 => ?_) (fun c101 => ?_)
            · skip
              exfalso; omega
            · skip
              refine pw_iload dX0_firstThatFails_104 rfl ?_
              refine pw_iret dX0_firstThatFails_106 rfl rfl ?_
              refine ⟨congrArg (fun z => some (vi z)) ?_, rfl, ?_⟩
              · rw [hRs, hG, if_neg (by omega)]
              · rw [hRs, hG, if_neg (by omega)]; exact hm3
  exact pw_locs _ rfl (lp12 41 (mem (b + 15) (s + 1)) 0 [] mem (by omega) (by omega) (by have := hI.2.2.1.1; omega) (fun j j1 j2 => by have := (hSo.2.1 s (by omega) (by omega) j j1 j2).1; omega) (fun k k1 k2 k3 => by obtain ⟨j, j1, j2, j3⟩ := hSo.2.2.2 k (by omega) k2; rw [k3] at j1 j2; exact ⟨j, j1, j2, j3⟩) rfl rfl (Nat.zero_le _))
set_option maxHeartbeats 4000000 in
set_option maxRecDepth 100000 in
theorem h_ftfQ (d : Nat) (hd : 2 ≤ d) (n : Nat) (ok : pO) (mem : pM) (hN : NUp n ok) (b : Nat) (hC : ChUp n ok b) (A : pM) (c : Int) (v : Int → Int) (hI : cIn A c) (hS : CS A c mem b) (hV : CV A c mem b v) (hv : pOkv A c v) (s : Int) (hs : -1 ≤ s ∧ s ≤ 15) : PM mi_X0_firstThatFails d [vr b, vi s, vi 0] n ok mem n (fun r ok' mem' => r = some (vi (fRes A c v s).1) ∧ ok = ok' ∧ mem = mem') := by
  obtain ⟨hN5, hN3⟩ := id hN
  obtain ⟨hC0, ⟨hC1, hC2, hC3, hC4, hC5, hC6, hC7⟩, hC8, ⟨hC9, hC10, hC11, hC12, hC13, hC14, hC15⟩, hC16, hC17, hb5, hb59⟩ := id hC
  obtain ⟨hR, hD, hSo⟩ := id hS
  have hOk := hI.ok
  refine PM.of (by decide) (by decide) (Nat.le_refl _) (Nat.le_of_ble_eq_true rfl) ?_
  refine pw_aload_n 0 rfl dX0_firstThatFails_0 rfl ?_
  refine pw_gR 8 (b + 8) dX0_firstThatFails_1 cOk0 (by assumption) (by decide) kw_246 (by decide) rfl ?_
  refine pw_gR 6 (b + 15) dX0_firstThatFails_4 cOk1 (by assumption) (by decide) kw_150 (by decide) rfl ?_
  refine pw_iload_n 1 rfl dX0_firstThatFails_7 rfl ?_
  refine pw_iconst dX0_firstThatFails_8 ?_
  refine pw_iadd dX0_firstThatFails_9 ?_
  refine pw_iaload dX0_firstThatFails_10 (by assumption) (by omega) (by omega) (fun r10 => ?_)
  have hst := hSo.1 s (by omega) (by omega)
  refine pw_istore_n 3 rfl dX0_firstThatFails_11 (by decide) ?_
  have lp12 : ∀ (kz : Nat) (i : Int) (k0 : Nat), (mem (b + 15) (s + 2)) - i < (kz : Int) → ((mem (b + 15) (s + 1)) ≤ i ∧ i ≤ (mem (b + 15) (s + 2))) → ((k0 : Int) ≤ A 94 c) → (∀ j, i ≤ j → j < (mem (b + 15) (s + 2)) → (k0 : Int) ≤ mem (b + 14) j) → (∀ k, (k0 : Int) ≤ k → k < A 94 c → A 95 (40 * c + k) = s → ∃ j, i ≤ j ∧ j < (mem (b + 15) (s + 2)) ∧ mem (b + 14) j = k) → ((fRes A c v s).1 = (fGo A c v s ((aNc A c).toNat - k0) k0).1) → PW mi_X0_firstThatFails d n n (fun r ok' mem' => r = some (vi (fRes A c v s).1) ∧ ok = ok' ∧ mem = mem') 12 [(0, vr b), (1, vi s), (2, vi 0), (3, vi i)] [] n ok mem := by
    intro kz
    induction kz with
    | zero =>
      intro i k0 hk hi hk0 hlo hhi hRs
      exact absurd hk (by omega)
    | succ kz ih =>
      intro i k0 hk hi hk0 hlo hhi hRs
      refine pw_iload_n 3 rfl dX0_firstThatFails_12 rfl ?_
      refine pw_aload_n 0 rfl dX0_firstThatFails_13 rfl ?_
      refine pw_gR 8 (b + 8) dX0_firstThatFails_14 cOk0 (by assumption) (by decide) kw_246 (by decide) rfl ?_
      refine pw_gR 6 (b + 15) dX0_firstThatFails_17 cOk1 (by assumption) (by decide) kw_150 (by decide) rfl ?_
      refine pw_iload_n 1 rfl dX0_firstThatFails_20 rfl ?_
      refine pw_iconst dX0_firstThatFails_21 ?_
      refine pw_iadd dX0_firstThatFails_22 ?_
      refine pw_iaload dX0_firstThatFails_23 (by assumption) (by omega) (by omega) (fun r23 => ?_)
      try simp (disch := omega) only [wr_s, wr_a, wr_k] at r23 ⊢
      refine pw_icmp_ge 113 (by decide) dX0_firstThatFails_24 (by omega) (by omega) (fun c24 => ?_) (fun c24 => ?_)
      · skip
        have hskip : ∀ k : Int, (k0 : Int) ≤ k → k < (k0 : Int) + (((aNc A c).toNat - k0 : Nat) : Int) → aSeat A c k ≠ s := fun k q1 q2 z => by
          have q3 : k < A 94 c := by have e0 : aNc A c = A 94 c := rfl; rw [e0] at q2; omega
          obtain ⟨j, j1, j2, j3⟩ := hhi k q1 q3 z
          omega
        have hG := fGo_skip A c v s (aNc A c).toNat ((aNc A c).toNat - k0) k0 (by have e0 : aNc A c = A 94 c := rfl; rw [e0]; omega) hskip
        rw [show (aNc A c).toNat - (k0 + ((aNc A c).toNat - k0)) = 0 by omega] at hG
        have hG0 : fGo A c v s ((aNc A c).toNat - k0) k0 = (-1, []) := hG
        refine pw_iconst dX0_firstThatFails_113 ?_
        refine pw_iret dX0_firstThatFails_114 rfl rfl ?_
        refine ⟨congrArg (fun z => some (vi z)) ?_, rfl, rfl⟩
        rw [hRs, hG0]
      · skip
        have hsg := hSo.2.1 s (by omega) (by omega) i (by omega) (by omega)
        have hxk := hlo i (by omega) (by omega)
        have hskip : ∀ k : Int, (k0 : Int) ≤ k → k < (k0 : Int) + (((mem (b + 14) i).toNat - k0 : Nat) : Int) → aSeat A c k ≠ s := fun k q1 q2 z => by
          obtain ⟨j, j1, j2, j3⟩ := hhi k q1 (by omega) z
          by_cases e : j = i
          · subst e; omega
          · have := hSo.2.2.1 s (by omega) (by omega) i j (by omega) (by omega) (by omega); omega
        have hG := fGo_skip A c v s (aNc A c).toNat ((mem (b + 14) i).toNat - k0) k0 (by show _ ≤ (A 94 c).toNat; omega) hskip
        rw [show k0 + ((mem (b + 14) i).toNat - k0) = (mem (b + 14) i).toNat by omega, show (aNc A c).toNat - (mem (b + 14) i).toNat = ((aNc A c).toNat - ((mem (b + 14) i).toNat + 1)) + 1 by (show (A 94 c).toNat - _ = (A 94 c).toNat - _ + 1; omega), fGo_succ, Int.toNat_of_nonneg hsg.1, if_pos hsg.2.2] at hG
        have hlo2 : ∀ j, i + 1 ≤ j → j < (mem (b + 15) (s + 2)) → (((mem (b + 14) i).toNat + 1 : Nat) : Int) ≤ mem (b + 14) j := fun j j1 j2 => by
          have := hSo.2.2.1 s (by omega) (by omega) i j (by omega) (by omega) j2; omega
        have hhi2 : ∀ k, (((mem (b + 14) i).toNat + 1 : Nat) : Int) ≤ k → k < A 94 c → A 95 (40 * c + k) = s → ∃ j, i + 1 ≤ j ∧ j < (mem (b + 15) (s + 2)) ∧ mem (b + 14) j = k := fun k k1 k2 k3 => by
          obtain ⟨j, j1, j2, j3⟩ := hhi k (by omega) k2 k3
          have hne : j ≠ i := fun e => by subst e; omega
          exact ⟨j, by omega, j2, j3⟩
        have hnc2 := hI.2.2.1.1
        refine pw_aload_n 0 rfl dX0_firstThatFails_27 rfl ?_
        refine pw_gR 8 (b + 8) dX0_firstThatFails_28 cOk0 (by assumption) (by decide) kw_246 (by decide) rfl ?_
        refine pw_gR 5 (b + 14) dX0_firstThatFails_31 cOk1 (by assumption) (by decide) kw_148 (by decide) rfl ?_
        refine pw_iload_n 3 rfl dX0_firstThatFails_34 rfl ?_
        refine pw_iaload dX0_firstThatFails_35 (by assumption) (by omega) (by omega) (fun r35 => ?_)
        try simp (disch := omega) only [wr_s, wr_a, wr_k] at r35 ⊢
        refine pw_istore dX0_firstThatFails_36 (by decide) ?_
        refine pw_iload_n 2 rfl dX0_firstThatFails_38 rfl ?_
        refine pw_if_eq 52 (by decide) dX0_firstThatFails_39 (by omega) (fun c39 => ?_) (fun c39 => ?_)
        · skip
          refine pw_aload_n 0 rfl dX0_firstThatFails_52 rfl ?_
          refine pw_gR 8 (b + 8) dX0_firstThatFails_53 cOk0 (by assumption) (by decide) kw_246 (by decide) rfl ?_
          refine pw_gR 4 (b + 13) dX0_firstThatFails_56 cOk1 (by assumption) (by decide) kw_146 (by decide) rfl ?_
          refine pw_iload dX0_firstThatFails_59 rfl ?_
          refine pw_iaload dX0_firstThatFails_61 (by assumption) (by omega) (by omega) (fun r61 => ?_)
          try simp (disch := omega) only [wr_s, wr_a, wr_k] at r61 ⊢
          refine pw_aload_n 0 rfl dX0_firstThatFails_62 rfl ?_
          refine pw_gR 4 (b + 4) dX0_firstThatFails_63 cOk0 (by assumption) (by decide) kw_238 (by decide) rfl ?_
          refine pw_aload_n 0 rfl dX0_firstThatFails_66 rfl ?_
          refine pw_gR 8 (b + 8) dX0_firstThatFails_67 cOk0 (by assumption) (by decide) kw_246 (by decide) rfl ?_
          refine pw_gR 1 (b + 10) dX0_firstThatFails_70 cOk1 (by assumption) (by decide) kw_137 (by decide) rfl ?_
          refine pw_iload dX0_firstThatFails_73 rfl ?_
          refine pw_iaload dX0_firstThatFails_75 (by assumption) (by omega) (by omega) (fun r75 => ?_)
          try simp (disch := omega) only [wr_s, wr_a, wr_k] at r75 ⊢
          rw [show mem (b + 10) (mem (b + 14) i) = aLook A c (mem (b + 14) i) from (hR.2.2.2 _ hsg.1 hsg.2.1).2.1] at r75 ⊢
          have hl : 0 ≤ aLook A c (mem (b + 14) i) ∧ aLook A c (mem (b + 14) i) ≤ 15 := (hI.2.2.1.2 _ hsg.1 hsg.2.1).2.1
          refine pw_iaload dX0_firstThatFails_76 (by assumption) (by omega) (by omega) (fun r76 => ?_)
          try simp (disch := omega) only [wr_s, wr_a, wr_k] at r76 ⊢
          rw [hV _ hl.1 hl.2] at r76 ⊢
          refine pw_ishr dX0_firstThatFails_77 ?_
          refine pw_iconst dX0_firstThatFails_78 ?_
          refine pw_iand dX0_firstThatFails_79 ?_
          rw [hold_q hI hD hv hsg.1 hsg.2.1]
          have hj01 := hIs_01 A c v (mem (b + 14) i)
          refine pw_istore dX0_firstThatFails_80 (by decide) ?_
          refine pw_iload dX0_firstThatFails_82 rfl ?_
          refine pw_if_ge 98 (by decide) dX0_firstThatFails_84 (by omega) (fun c84 => ?_) (fun c84 => ?_)
          · skip
            refine pw_iload dX0_firstThatFails_98 rfl ?_
            refine pw_iconst dX0_firstThatFails_100 ?_
            refine pw_icmp_eq 107 (by decide) dX0_firstThatFails_101 (by omega) (by omega) (fun c101 => ?_) (fun c101 => ?_)
            · skip
              refine pw_iinc dX0_firstThatFails_107 rfl (by decide) ?_
              refine pw_goto 12 (by decide) dX0_firstThatFails_110 ?_
              exact pw_locs _ rfl (ih (i + 1) ((mem (b + 14) i).toNat + 1) (by omega) (by omega) (by omega) hlo2 hhi2 (by rw [hRs, hG, if_pos (by omega), show (((mem (b + 14) i).toNat + 1 : Nat) : Int) = (mem (b + 14) i) + 1 by omega]))
            · skip
              refine pw_iload dX0_firstThatFails_104 rfl ?_
              refine pw_iret dX0_firstThatFails_106 rfl rfl ?_
              refine ⟨congrArg (fun z => some (vi z)) ?_, rfl, rfl⟩
              rw [hRs, hG, if_neg (by omega)]
          · skip
            exfalso; omega
        · skip
          exfalso; omega
  exact pw_locs _ rfl (lp12 41 (mem (b + 15) (s + 1)) 0 (by omega) (by omega) (by have := hI.2.2.1.1; omega) (fun j j1 j2 => by have := (hSo.2.1 s (by omega) (by omega) j j1 j2).1; omega) (fun k k1 k2 k3 => by obtain ⟨j, j1, j2, j3⟩ := hSo.2.2.2 k (by omega) k2; rw [k3] at j1 j2; exact ⟨j, j1, j2, j3⟩) rfl)
theorem h_ftf (d : Nat) (hd : 2 ≤ d) (n : Nat) (ok : pO) (mem : pM) (hN : NUp n ok) (b : Nat) (hC : ChUp n ok b) (A : pM) (c : Int) (v : Int → Int) (hI : cIn A c) (hS : CS A c mem b) (hV : CV A c mem b v) (hv : pOkv A c v) (s : Int) (hs : -1 ≤ s ∧ s ≤ 15) (w : Int) (hw : w = 0 ∨ w = 1) (ht : 0 ≤ mem 2 1 ∧ mem 2 1 ≤ 900000000) : PM mi_X0_firstThatFails d [vr b, vi s, vi w] n ok mem n (fun r ok' mem' => r = some (vi (fRes A c v s).1) ∧ ok = ok' ∧ nEv mem (evw w (fRes A c v s).2) = mem') := by
  rcases hw with e | e
  · subst e; exact h_ftfQ d hd n ok mem hN b hC A c v hI hS hV hv s hs
  · subst e; exact h_ftfN d hd n ok mem hN b hC A c v hI hS hV hv s hs ht
set_option maxHeartbeats 4000000 in
set_option maxRecDepth 100000 in
theorem h_opens (d : Nat) (hd : 3 ≤ d) (n : Nat) (ok : pO) (mem : pM) (hN : NUp n ok) (b : Nat) (hC : ChUp n ok b) (A : pM) (c : Int) (v : Int → Int) (hI : cIn A c) (hS : CS A c mem b) (hV : CV A c mem b v) (hv : pOkv A c v) (w : Int) (hw : w = 0 ∨ w = 1) (ht : 0 ≤ mem 2 1 ∧ mem 2 1 ≤ 900000000) : PM mi_X0_opens d [vr b, vi w] n ok mem n (fun r ok' mem' => r = some (vi (oRes A c v)) ∧ ok = ok' ∧ nEv mem (evw w (oEv A c v)) = mem') := by
  obtain ⟨hN5, hN3⟩ := id hN
  obtain ⟨hC0, ⟨hC1, hC2, hC3, hC4, hC5, hC6, hC7⟩, hC8, ⟨hC9, hC10, hC11, hC12, hC13, hC14, hC15⟩, hC16, hC17, hb5, hb59⟩ := id hC
  obtain ⟨hR, hD, hSo⟩ := id hS
  have hOk := hI.ok
  refine PM.of (by decide) (by decide) (Nat.le_refl _) (Nat.le_of_ble_eq_true rfl) ?_
  refine pw_aload_n 0 rfl dX0_opens_0 rfl ?_
  refine pw_gR 8 (b + 8) dX0_opens_1 cOk0 (by assumption) (by decide) kw_246 (by decide) rfl ?_
  refine pw_iconst dX0_opens_4 ?_
  refine pw_callV (d' := d - 1) (As := [_]) (ci := 1) dX0_opens_5 ok_X1_anyOf kw_662 rfl rfl (Of.o (by assumption)) (by omega) rfl (Nat.le_of_ble_eq_true rfl) (q_anyOf (d - 1) (by omega) n ok mem b hC (-1) (by omega)) (Nat.le_refl _) (Or.inl rfl) (fun r ok1 mem1 hq => ?_)
  obtain ⟨rfl, rfl, rfl⟩ := hq
  refine pw_if_eq 25 (by decide) dX0_opens_8 (by split <;> omega) (fun c8 => ?_) (fun c8 => ?_)
  · skip
    rw [bz_0] at c8
    have hz : anyO A c (aNc A c).toNat = 0 := by
      by_cases q : anyO A c (aNc A c).toNat ≠ 0
      · obtain ⟨j, j1, j2, j3⟩ := (anyO_iff A c _).mp q
        have j4 : j < A 94 c := by have e0 : aNc A c = A 94 c := rfl; rw [e0] at j2; omega
        obtain ⟨i, i1, i2, i3⟩ := hSo.2.2.2 j j1 j4
        rw [show A 95 (40 * c + j) = -1 from j3] at i1 i2
        exfalso; omega
      · omega
    refine pw_iconst dX0_opens_25 ?_
    refine pw_zret dX0_opens_26 rfl (by omega) rfl ?_
    refine ⟨congrArg (fun z => some (vi z)) ?_, rfl, ?_⟩
    · unfold oRes; rw [if_neg (fun y => y.1 hz)]
    · unfold oEv; rw [if_neg (fun y => y hz)]; unfold evw; split <;> rfl
  · skip
    rw [bz_n] at c8
    have hz : anyO A c (aNc A c).toNat ≠ 0 := by
      have hsg := hSo.2.1 (-1) (by omega) (by omega) (mem (b + 15) (-1 + 1)) (by omega) (by omega)
      exact (anyO_iff A c _).mpr ⟨mem (b + 14) (mem (b + 15) (-1 + 1)), hsg.1, by have e0 : aNc A c = A 94 c := rfl; rw [e0]; omega, hsg.2.2⟩
    refine pw_aload_n 0 rfl dX0_opens_11 rfl ?_
    refine pw_iconst dX0_opens_12 ?_
    refine pw_iload_n 1 rfl dX0_opens_13 rfl ?_
    refine pw_callV (d' := d - 1) (As := [_, _]) (ci := 0) dX0_opens_14 ok_X0_firstThatFails kw_666 rfl rfl (Of.o (by assumption)) (by omega) rfl (Nat.le_of_ble_eq_true rfl) (h_ftf (d - 1) (by omega) n ok mem hN b hC A c v hI hS hV hv (-1) (by omega) w hw (by omega)) (Nat.le_refl _) (Or.inl rfl) (fun r ok1 mem1 hq => ?_)
    obtain ⟨rfl, rfl, rfl⟩ := hq
    have hfr := fRes_ran (m := A) (c := c) v (-1) hI.2.2.1.1
    refine pw_iconst dX0_opens_17 ?_
    refine pw_icmp_ne 25 (by decide) dX0_opens_18 (by have e0 : aNc A c = A 94 c := rfl; have := hI.2.2.1.1; omega) (by omega) (fun c18 => ?_) (fun c18 => ?_)
    · skip
      refine pw_iconst dX0_opens_25 ?_
      refine pw_zret dX0_opens_26 rfl (by omega) rfl ?_
      refine ⟨congrArg (fun z => some (vi z)) ?_, rfl, ?_⟩
      · unfold oRes; rw [if_neg (fun y => c18 y.2)]
      · unfold oEv; rw [if_pos hz]
    · skip
      refine pw_iconst dX0_opens_21 ?_
      refine pw_goto 26 (by decide) dX0_opens_22 ?_
      refine pw_zret dX0_opens_26 rfl (by omega) rfl ?_
      refine ⟨congrArg (fun z => some (vi z)) ?_, rfl, ?_⟩
      · unfold oRes; rw [if_pos ⟨hz, by omega⟩]
      · unfold oEv; rw [if_pos hz]
def gl (A : pM) (c : Int) (v : Int → Int) (mv : Int) : Int := if 0 ≤ bTo v mv ∧ bTo v mv ≤ aSpan A c (mv / 2) - 1 then bTo v mv else if aKind A c (mv / 2) = 1 then (if bTo v mv < 0 then aSpan A c (mv / 2) - 1 else 0) else -1
theorem gl_f {A : pM} {c : Int} {v : Int → Int} {mv : Int} (hp : 1 ≤ aSpan A c (mv / 2)) (hv : 0 ≤ v (mv / 2) ∧ v (mv / 2) < aSpan A c (mv / 2)) : (¬ (aKind A c (mv / 2) = 1 ∨ (0 ≤ bTo v mv ∧ bTo v mv ≤ aSpan A c (mv / 2) - 1)) ∧ gl A c v mv = -1) ∨ ((aKind A c (mv / 2) = 1 ∨ (0 ≤ bTo v mv ∧ bTo v mv ≤ aSpan A c (mv / 2) - 1)) ∧ gl A c v mv = (v (mv / 2) + (if mv % 2 = 0 then aSpan A c (mv / 2) - 1 else 1)) % aSpan A c (mv / 2) ∧ 0 ≤ gl A c v mv ∧ gl A c v mv < aSpan A c (mv / 2)) := by
  have hb : bTo v mv = if mv % 2 = 0 then v (mv / 2) + -1 else v (mv / 2) + 1 := rfl
  by_cases q : 0 ≤ bTo v mv ∧ bTo v mv ≤ aSpan A c (mv / 2) - 1
  · have e : gl A c v mv = bTo v mv := if_pos q
    refine Or.inr ⟨Or.inr q, ?_, by omega, by omega⟩
    rw [e]
    by_cases w : mv % 2 = 0
    · rw [if_pos w] at hb; rw [if_pos w, show v (mv / 2) + (aSpan A c (mv / 2) - 1) = bTo v mv + aSpan A c (mv / 2) by omega, Int.add_emod_right]
      exact (Int.emod_eq_of_lt (by omega) (by omega)).symm
    · rw [if_neg w] at hb; rw [if_neg w, ← hb]
      exact (Int.emod_eq_of_lt (by omega) (by omega)).symm
  · by_cases q2 : aKind A c (mv / 2) = 1
    · have e : gl A c v mv = if bTo v mv < 0 then aSpan A c (mv / 2) - 1 else 0 := by unfold gl; rw [if_neg q, if_pos q2]
      refine Or.inr ⟨Or.inl q2, ?_, by rw [e]; split <;> omega, by rw [e]; split <;> omega⟩
      rw [e]
      by_cases w : mv % 2 = 0
      · rw [if_pos w] at hb; rw [if_pos w, if_pos (by omega), show v (mv / 2) + (aSpan A c (mv / 2) - 1) = aSpan A c (mv / 2) - 1 by omega]
        exact (Int.emod_eq_of_lt (by omega) (by omega)).symm
      · rw [if_neg w] at hb; rw [if_neg w, if_neg (by omega), show v (mv / 2) + 1 = aSpan A c (mv / 2) by omega, Int.emod_self]
    · refine Or.inl ⟨fun z => ?_, ?_⟩
      · rcases z with z | z
        · exact q2 z
        · exact q z
      · unfold gl; rw [if_neg q, if_neg q2]
set_option maxHeartbeats 4000000 in
set_option maxRecDepth 100000 in
theorem h_goalOf (d : Nat) (hd : 0 ≤ d) (n : Nat) (ok : pO) (mem : pM) (hN : NUp n ok) (b : Nat) (hC : ChUp n ok b) (A : pM) (c : Int) (v : Int → Int) (hI : cIn A c) (hS : CS A c mem b) (hV : CV A c mem b v) (hv : pOkv A c v) (mv : Int) (hm : 0 ≤ mv ∧ mv < 32) (hkn : aKind A c (mv / 2) ≠ -1) : PM mi_X0_goalOf d [vr b, vi mv] n ok mem n (fun r ok' mem' => r = some (vi (gl A c v mv)) ∧ ok = ok' ∧ mem = mem') := by
  obtain ⟨hN5, hN3⟩ := id hN
  obtain ⟨hC0, ⟨hC1, hC2, hC3, hC4, hC5, hC6, hC7⟩, hC8, ⟨hC9, hC10, hC11, hC12, hC13, hC14, hC15⟩, hC16, hC17, hb5, hb59⟩ := id hC
  obtain ⟨hR, hD, hSo⟩ := id hS
  have hOk := hI.ok
  have hsq : 0 ≤ mv / 2 ∧ mv / 2 ≤ 15 := by omega
  have e2 : mem (b + 2) (mv / 2) = aKind A c (mv / 2) := (hR.2.1 _ hsq.1 hsq.2).1
  have e3 : mem (b + 3) (mv / 2) = aSpan A c (mv / 2) := by rw [(hR.2.1 _ hsq.1 hsq.2).2.1]; unfold eSp; rw [if_neg hkn]
  have e4 : mem (b + 4) (mv / 2) = v (mv / 2) := by rw [hV _ hsq.1 hsq.2]; unfold eAv; rw [if_neg hkn]
  have hp := hOk.1.2.2 _ hsq.1 hsq.2 hkn
  have hvs := hv _ hsq.1 hsq.2 hkn
  refine PM.of (by decide) (by decide) (Nat.le_refl _) (Nat.le_of_ble_eq_true rfl) ?_
  refine pw_iload_n 1 rfl dX0_goalOf_0 rfl ?_
  refine pw_iconst dX0_goalOf_1 ?_
  refine pw_idiv dX0_goalOf_2 (by omega) (by omega) ?_
  refine pw_istore_n 2 rfl dX0_goalOf_3 (by decide) ?_
  refine pw_iload_n 1 rfl dX0_goalOf_4 rfl ?_
  refine pw_iconst dX0_goalOf_5 ?_
  refine pw_irem dX0_goalOf_6 (by omega) (by omega) ?_
  refine pw_if_ne 21 (by decide) dX0_goalOf_7 (by omega) (fun c7 => ?_) (fun c7 => ?_)
  · skip
    have hb : bTo v mv = v (mv / 2) + 1 := by unfold bTo; rw [if_neg c7]
    refine pw_aload_n 0 rfl dX0_goalOf_21 rfl ?_
    refine pw_gR 4 (b + 4) dX0_goalOf_22 cOk0 (by assumption) (by decide) kw_238 (by decide) rfl ?_
    refine pw_iload_n 2 rfl dX0_goalOf_25 rfl ?_
    refine pw_iaload dX0_goalOf_26 (by assumption) (by omega) (by omega) (fun r26 => ?_)
    rw [e4] at r26 ⊢
    refine pw_iconst dX0_goalOf_27 ?_
    refine pw_iadd dX0_goalOf_28 ?_
    refine pw_istore_n 3 rfl dX0_goalOf_29 (by decide) ?_
    refine pw_iload_n 3 rfl dX0_goalOf_30 rfl ?_
    refine pw_if_lt 46 (by decide) dX0_goalOf_31 (by omega) (fun c31 => ?_) (fun c31 => ?_)
    · skip
      refine pw_aload_n 0 rfl dX0_goalOf_46 rfl ?_
      refine pw_gR 2 (b + 2) dX0_goalOf_47 cOk0 (by assumption) (by decide) kw_230 (by decide) rfl ?_
      refine pw_iload_n 2 rfl dX0_goalOf_50 rfl ?_
      refine pw_iaload dX0_goalOf_51 (by assumption) (by omega) (by omega) (fun r51 => ?_)
      rw [e2] at r51 ⊢
      refine pw_iconst dX0_goalOf_52 ?_
      refine pw_icmp_ne 73 (by decide) dX0_goalOf_53 (by omega) (by omega) (fun c53 => ?_) (fun c53 => ?_)
      · skip
        refine pw_iconst dX0_goalOf_73 ?_
        refine pw_iret dX0_goalOf_74 rfl rfl ?_
        refine ⟨congrArg (fun z => some (vi z)) ?_, rfl, rfl⟩
        unfold gl; rw [if_neg (by omega), if_neg c53]
      · skip
        refine pw_iload_n 3 rfl dX0_goalOf_56 rfl ?_
        refine pw_if_ge 71 (by decide) dX0_goalOf_57 (by omega) (fun c57 => ?_) (fun c57 => ?_)
        · skip
          refine pw_iconst dX0_goalOf_71 ?_
          refine pw_iret dX0_goalOf_72 rfl rfl ?_
          refine ⟨congrArg (fun z => some (vi z)) ?_, rfl, rfl⟩
          unfold gl; rw [if_neg (by omega), if_pos (by omega), if_neg (by omega)]
        · skip
          refine pw_aload_n 0 rfl dX0_goalOf_60 rfl ?_
          refine pw_gR 3 (b + 3) dX0_goalOf_61 cOk0 (by assumption) (by decide) kw_234 (by decide) rfl ?_
          refine pw_iload_n 2 rfl dX0_goalOf_64 rfl ?_
          refine pw_iaload dX0_goalOf_65 (by assumption) (by omega) (by omega) (fun r65 => ?_)
          rw [e3] at r65 ⊢
          refine pw_iconst dX0_goalOf_66 ?_
          refine pw_isub dX0_goalOf_67 ?_
          refine pw_goto 72 (by decide) dX0_goalOf_68 ?_
          refine pw_iret dX0_goalOf_72 rfl rfl ?_
          refine ⟨congrArg (fun z => some (vi z)) ?_, rfl, rfl⟩
          unfold gl; rw [if_neg (by omega), if_pos (by omega), if_pos (by omega)]
    · skip
      refine pw_iload_n 3 rfl dX0_goalOf_34 rfl ?_
      refine pw_aload_n 0 rfl dX0_goalOf_35 rfl ?_
      refine pw_gR 3 (b + 3) dX0_goalOf_36 cOk0 (by assumption) (by decide) kw_234 (by decide) rfl ?_
      refine pw_iload_n 2 rfl dX0_goalOf_39 rfl ?_
      refine pw_iaload dX0_goalOf_40 (by assumption) (by omega) (by omega) (fun r40 => ?_)
      rw [e3] at r40 ⊢
      refine pw_icmp_ge 46 (by decide) dX0_goalOf_41 (by omega) (by omega) (fun c41 => ?_) (fun c41 => ?_)
      · skip
        refine pw_aload_n 0 rfl dX0_goalOf_46 rfl ?_
        refine pw_gR 2 (b + 2) dX0_goalOf_47 cOk0 (by assumption) (by decide) kw_230 (by decide) rfl ?_
        refine pw_iload_n 2 rfl dX0_goalOf_50 rfl ?_
        refine pw_iaload dX0_goalOf_51 (by assumption) (by omega) (by omega) (fun r51 => ?_)
        rw [e2] at r51 ⊢
        refine pw_iconst dX0_goalOf_52 ?_
        refine pw_icmp_ne 73 (by decide) dX0_goalOf_53 (by omega) (by omega) (fun c53 => ?_) (fun c53 => ?_)
        · skip
          refine pw_iconst dX0_goalOf_73 ?_
          refine pw_iret dX0_goalOf_74 rfl rfl ?_
          refine ⟨congrArg (fun z => some (vi z)) ?_, rfl, rfl⟩
          unfold gl; rw [if_neg (by omega), if_neg c53]
        · skip
          refine pw_iload_n 3 rfl dX0_goalOf_56 rfl ?_
          refine pw_if_ge 71 (by decide) dX0_goalOf_57 (by omega) (fun c57 => ?_) (fun c57 => ?_)
          · skip
            refine pw_iconst dX0_goalOf_71 ?_
            refine pw_iret dX0_goalOf_72 rfl rfl ?_
            refine ⟨congrArg (fun z => some (vi z)) ?_, rfl, rfl⟩
            unfold gl; rw [if_neg (by omega), if_pos (by omega), if_neg (by omega)]
          · skip
            refine pw_aload_n 0 rfl dX0_goalOf_60 rfl ?_
            refine pw_gR 3 (b + 3) dX0_goalOf_61 cOk0 (by assumption) (by decide) kw_234 (by decide) rfl ?_
            refine pw_iload_n 2 rfl dX0_goalOf_64 rfl ?_
            refine pw_iaload dX0_goalOf_65 (by assumption) (by omega) (by omega) (fun r65 => ?_)
            rw [e3] at r65 ⊢
            refine pw_iconst dX0_goalOf_66 ?_
            refine pw_isub dX0_goalOf_67 ?_
            refine pw_goto 72 (by decide) dX0_goalOf_68 ?_
            refine pw_iret dX0_goalOf_72 rfl rfl ?_
            refine ⟨congrArg (fun z => some (vi z)) ?_, rfl, rfl⟩
            unfold gl; rw [if_neg (by omega), if_pos (by omega), if_pos (by omega)]
      · skip
        refine pw_iload_n 3 rfl dX0_goalOf_44 rfl ?_
        refine pw_iret dX0_goalOf_45 rfl rfl ?_
        refine ⟨congrArg (fun z => some (vi z)) ?_, rfl, rfl⟩
        unfold gl; rw [if_pos (by omega), hb]
  · skip
    have hb : bTo v mv = v (mv / 2) - 1 := by unfold bTo; rw [if_pos (by omega)]; omega
    refine pw_aload_n 0 rfl dX0_goalOf_10 rfl ?_
    refine pw_gR 4 (b + 4) dX0_goalOf_11 cOk0 (by assumption) (by decide) kw_238 (by decide) rfl ?_
    refine pw_iload_n 2 rfl dX0_goalOf_14 rfl ?_
    refine pw_iaload dX0_goalOf_15 (by assumption) (by omega) (by omega) (fun r15 => ?_)
    rw [e4] at r15 ⊢
    refine pw_iconst dX0_goalOf_16 ?_
    refine pw_isub dX0_goalOf_17 ?_
    refine pw_goto 29 (by decide) dX0_goalOf_18 ?_
    refine pw_istore_n 3 rfl dX0_goalOf_29 (by decide) ?_
    refine pw_iload_n 3 rfl dX0_goalOf_30 rfl ?_
    refine pw_if_lt 46 (by decide) dX0_goalOf_31 (by omega) (fun c31 => ?_) (fun c31 => ?_)
    · skip
      refine pw_aload_n 0 rfl dX0_goalOf_46 rfl ?_
      refine pw_gR 2 (b + 2) dX0_goalOf_47 cOk0 (by assumption) (by decide) kw_230 (by decide) rfl ?_
      refine pw_iload_n 2 rfl dX0_goalOf_50 rfl ?_
      refine pw_iaload dX0_goalOf_51 (by assumption) (by omega) (by omega) (fun r51 => ?_)
      rw [e2] at r51 ⊢
      refine pw_iconst dX0_goalOf_52 ?_
      refine pw_icmp_ne 73 (by decide) dX0_goalOf_53 (by omega) (by omega) (fun c53 => ?_) (fun c53 => ?_)
      · skip
        refine pw_iconst dX0_goalOf_73 ?_
        refine pw_iret dX0_goalOf_74 rfl rfl ?_
        refine ⟨congrArg (fun z => some (vi z)) ?_, rfl, rfl⟩
        unfold gl; rw [if_neg (by omega), if_neg c53]
      · skip
        refine pw_iload_n 3 rfl dX0_goalOf_56 rfl ?_
        refine pw_if_ge 71 (by decide) dX0_goalOf_57 (by omega) (fun c57 => ?_) (fun c57 => ?_)
        · skip
          refine pw_iconst dX0_goalOf_71 ?_
          refine pw_iret dX0_goalOf_72 rfl rfl ?_
          refine ⟨congrArg (fun z => some (vi z)) ?_, rfl, rfl⟩
          unfold gl; rw [if_neg (by omega), if_pos (by omega), if_neg (by omega)]
        · skip
          refine pw_aload_n 0 rfl dX0_goalOf_60 rfl ?_
          refine pw_gR 3 (b + 3) dX0_goalOf_61 cOk0 (by assumption) (by decide) kw_234 (by decide) rfl ?_
          refine pw_iload_n 2 rfl dX0_goalOf_64 rfl ?_
          refine pw_iaload dX0_goalOf_65 (by assumption) (by omega) (by omega) (fun r65 => ?_)
          rw [e3] at r65 ⊢
          refine pw_iconst dX0_goalOf_66 ?_
          refine pw_isub dX0_goalOf_67 ?_
          refine pw_goto 72 (by decide) dX0_goalOf_68 ?_
          refine pw_iret dX0_goalOf_72 rfl rfl ?_
          refine ⟨congrArg (fun z => some (vi z)) ?_, rfl, rfl⟩
          unfold gl; rw [if_neg (by omega), if_pos (by omega), if_pos (by omega)]
    · skip
      refine pw_iload_n 3 rfl dX0_goalOf_34 rfl ?_
      refine pw_aload_n 0 rfl dX0_goalOf_35 rfl ?_
      refine pw_gR 3 (b + 3) dX0_goalOf_36 cOk0 (by assumption) (by decide) kw_234 (by decide) rfl ?_
      refine pw_iload_n 2 rfl dX0_goalOf_39 rfl ?_
      refine pw_iaload dX0_goalOf_40 (by assumption) (by omega) (by omega) (fun r40 => ?_)
      rw [e3] at r40 ⊢
      refine pw_icmp_ge 46 (by decide) dX0_goalOf_41 (by omega) (by omega) (fun c41 => ?_) (fun c41 => ?_)
      · skip
        refine pw_aload_n 0 rfl dX0_goalOf_46 rfl ?_
        refine pw_gR 2 (b + 2) dX0_goalOf_47 cOk0 (by assumption) (by decide) kw_230 (by decide) rfl ?_
        refine pw_iload_n 2 rfl dX0_goalOf_50 rfl ?_
        refine pw_iaload dX0_goalOf_51 (by assumption) (by omega) (by omega) (fun r51 => ?_)
        rw [e2] at r51 ⊢
        refine pw_iconst dX0_goalOf_52 ?_
        refine pw_icmp_ne 73 (by decide) dX0_goalOf_53 (by omega) (by omega) (fun c53 => ?_) (fun c53 => ?_)
        · skip
          refine pw_iconst dX0_goalOf_73 ?_
          refine pw_iret dX0_goalOf_74 rfl rfl ?_
          refine ⟨congrArg (fun z => some (vi z)) ?_, rfl, rfl⟩
          unfold gl; rw [if_neg (by omega), if_neg c53]
        · skip
          refine pw_iload_n 3 rfl dX0_goalOf_56 rfl ?_
          refine pw_if_ge 71 (by decide) dX0_goalOf_57 (by omega) (fun c57 => ?_) (fun c57 => ?_)
          · skip
            refine pw_iconst dX0_goalOf_71 ?_
            refine pw_iret dX0_goalOf_72 rfl rfl ?_
            refine ⟨congrArg (fun z => some (vi z)) ?_, rfl, rfl⟩
            unfold gl; rw [if_neg (by omega), if_pos (by omega), if_neg (by omega)]
          · skip
            refine pw_aload_n 0 rfl dX0_goalOf_60 rfl ?_
            refine pw_gR 3 (b + 3) dX0_goalOf_61 cOk0 (by assumption) (by decide) kw_234 (by decide) rfl ?_
            refine pw_iload_n 2 rfl dX0_goalOf_64 rfl ?_
            refine pw_iaload dX0_goalOf_65 (by assumption) (by omega) (by omega) (fun r65 => ?_)
            rw [e3] at r65 ⊢
            refine pw_iconst dX0_goalOf_66 ?_
            refine pw_isub dX0_goalOf_67 ?_
            refine pw_goto 72 (by decide) dX0_goalOf_68 ?_
            refine pw_iret dX0_goalOf_72 rfl rfl ?_
            refine ⟨congrArg (fun z => some (vi z)) ?_, rfl, rfl⟩
            unfold gl; rw [if_neg (by omega), if_pos (by omega), if_pos (by omega)]
      · skip
        refine pw_iload_n 3 rfl dX0_goalOf_44 rfl ?_
        refine pw_iret dX0_goalOf_45 rfl rfl ?_
        refine ⟨congrArg (fun z => some (vi z)) ?_, rfl, rfl⟩
        unfold gl; rw [if_pos (by omega), hb]
set_option maxHeartbeats 4000000 in
set_option maxRecDepth 100000 in
theorem h_barOf (d : Nat) (hd : 3 ≤ d) (n : Nat) (ok : pO) (mem : pM) (hN : NUp n ok) (b : Nat) (hC : ChUp n ok b) (A : pM) (c : Int) (v : Int → Int) (hI : cIn A c) (hS : CS A c mem b) (hV : CV A c mem b v) (hv : pOkv A c v) (mv : Int) (hm : 0 ≤ mv ∧ mv < 38) (ht : 0 ≤ mem 2 1 ∧ mem 2 1 ≤ 800000000) : PM mi_X0_barOf d [vr b, vi mv] n ok mem n (fun r ok' mem' => r = some (vi (bRes A c v mv).1) ∧ ok = ok' ∧ nEv mem (iEv A c v mv) = mem') := by
  obtain ⟨hN5, hN3⟩ := id hN
  obtain ⟨hC0, ⟨hC1, hC2, hC3, hC4, hC5, hC6, hC7⟩, hC8, ⟨hC9, hC10, hC11, hC12, hC13, hC14, hC15⟩, hC16, hC17, hb5, hb59⟩ := id hC
  obtain ⟨hR, hD, hSo⟩ := id hS
  have hOk := hI.ok
  refine PM.of (by decide) (by decide) (Nat.le_refl _) (Nat.le_of_ble_eq_true rfl) ?_
  refine pw_iload_n 1 rfl dX0_barOf_0 rfl ?_
  refine pw_bipush dX0_barOf_1 (by decide) ?_
  refine pw_icmp_lt 8 (by decide) dX0_barOf_3 (by omega) (by omega) (fun c3 => ?_) (fun c3 => ?_)
  · skip
    refine pw_iload_n 1 rfl dX0_barOf_8 rfl ?_
    refine pw_iconst dX0_barOf_9 ?_
    refine pw_idiv dX0_barOf_10 (by omega) (by omega) ?_
    refine pw_istore_n 2 rfl dX0_barOf_11 (by decide) ?_
    refine pw_aload_n 0 rfl dX0_barOf_12 rfl ?_
    refine pw_iload_n 2 rfl dX0_barOf_13 rfl ?_
    refine pw_iconst dX0_barOf_14 ?_
    refine pw_callV (d' := d - 1) (As := [_, _]) (ci := 0) dX0_barOf_15 ok_X0_findingAt kw_674 rfl rfl (Of.o (by assumption)) (by omega) rfl (Nat.le_of_ble_eq_true rfl) (h_findingAt (d - 1) (by omega) n ok mem hN b hC A c v hI hS hV hv (mv / 2) (by omega) 1 (by omega)) (Nat.le_refl _) (Or.inl rfl) (fun r ok1 mem1 hq => ?_)
    obtain ⟨rfl, rfl, rfl⟩ := hq
    rw [if_neg (show ¬ ((1 : Int) = 0) by omega)]
    have hcm := aComes_ran A c (mv / 2)
    have e2 : mem (b + 2) (mv / 2) = aKind A c (mv / 2) := (hR.2.1 _ (by omega) (by omega)).1
    refine pw_istore_n 3 rfl dX0_barOf_18 (by decide) ?_
    refine pw_iload_n 3 rfl dX0_barOf_19 rfl ?_
    refine pw_if_ne 37 (by decide) dX0_barOf_20 (by omega) (fun c20 => ?_) (fun c20 => ?_)
    · skip
      have hbf : bFind A c (mv / 2) = aComes A c (mv / 2) := by unfold bFind; rw [if_pos c20]
      refine pw_iload_n 3 rfl dX0_barOf_37 rfl ?_
      refine pw_if_eq 50 (by decide) dX0_barOf_38 (by omega) (fun c38 => ?_) (fun c38 => ?_)
      · skip
        exfalso; omega
      · skip
        refine pw_aload_n 0 rfl dX0_barOf_41 rfl ?_
        refine pw_gR 0 2 dX0_barOf_42 cOk0 (by assumption) (by decide) kw_227 (by decide) rfl ?_
        refine pw_iload_n 3 rfl dX0_barOf_45 rfl ?_
        refine pw_callV (d' := d - 1) (As := [_]) (ci := 5) dX0_barOf_46 ok_X5_met kw_682 rfl rfl (Of.o (by assumption)) (by omega) rfl (Nat.le_of_ble_eq_true rfl) (n_met (d - 1) (by omega) n ok mem hN _ (by omega)) (Nat.le_refl _) (Or.inl rfl) (fun r ok1 mem1 hq => ?_)
        obtain ⟨rfl, rfl, em1⟩ := hq
        have e9 : bRes A c v mv = (-10 - bFind A c (mv / 2), []) := by unfold bRes; rw [if_neg (by omega), if_pos (by omega)]
        have hm9 : nEv mem (iEv A c v mv) = mem1 := by
          unfold iEv; rw [e9, if_pos (by show -10 - bFind A c (mv / 2) < -10; omega), ← em1]
          show nMt mem _ = nMt mem _
          congr 1; show -10 - (-10 - bFind A c (mv / 2)) = _; omega
        refine pw_iret dX0_barOf_49 rfl rfl ?_
        refine ⟨congrArg (fun z => some (vi z)) ?_, rfl, hm9⟩
        rw [e9]; show _ = -10 - bFind A c (mv / 2); omega
    · skip
      have hck : aComes A c (mv / 2) = 0 := by omega
      have hkn := aComes_kind hck
      refine pw_aload_n 0 rfl dX0_barOf_23 rfl ?_
      refine pw_gR 2 (b + 2) dX0_barOf_24 cOk0 (by assumption) (by decide) kw_230 (by decide) rfl ?_
      refine pw_iload_n 2 rfl dX0_barOf_27 rfl ?_
      refine pw_iaload dX0_barOf_28 (by assumption) (by omega) (by omega) (fun r28 => ?_)
      rw [e2] at r28 ⊢
      refine pw_callS (d' := d - 1) (As := [_]) dX0_barOf_29 ok_X0_isHandled kw_716 (by omega) rfl (Nat.le_of_ble_eq_true rfl) (s_isHandled (d - 1) (by omega) n ok mem _ (by omega)) (Nat.le_refl _) (Or.inl rfl) (fun r ok1 mem1 hq => ?_)
      obtain ⟨rfl, rfl, rfl⟩ := hq
      refine pw_if_ne 37 (by decide) dX0_barOf_32 (by split <;> omega) (fun c32 => ?_) (fun c32 => ?_)
      · skip
        rw [ne_eq, bz_n] at c32
        have hbf : bFind A c (mv / 2) = 0 := by unfold bFind; rw [if_neg (fun z => z hck), if_pos c32]
        refine pw_iload_n 3 rfl dX0_barOf_37 rfl ?_
        refine pw_if_eq 50 (by decide) dX0_barOf_38 (by omega) (fun c38 => ?_) (fun c38 => ?_)
        · skip
          refine pw_aload_n 0 rfl dX0_barOf_50 rfl ?_
          refine pw_gR 0 2 dX0_barOf_51 cOk0 (by assumption) (by decide) kw_227 (by decide) rfl ?_
          refine pw_aload_n 0 rfl dX0_barOf_54 rfl ?_
          refine pw_gR 2 (b + 2) dX0_barOf_55 cOk0 (by assumption) (by decide) kw_230 (by decide) rfl ?_
          refine pw_iload_n 2 rfl dX0_barOf_58 rfl ?_
          refine pw_iaload dX0_barOf_59 (by assumption) (by omega) (by omega) (fun r59 => ?_)
          rw [e2] at r59 ⊢
          refine pw_callS (d' := d - 1) (As := [_]) dX0_barOf_60 ok_X0_bodyOfGoing kw_769 (by omega) rfl (Nat.le_of_ble_eq_true rfl) (s_bodyOfGoing (d - 1) (by omega) n ok mem _ c32) (Nat.le_refl _) (Or.inl rfl) (fun r ok1 mem1 hq => ?_)
          obtain ⟨rfl, rfl, rfl⟩ := hq
          have hbb : 0 ≤ bBody (aKind A c (mv / 2)) ∧ bBody (aKind A c (mv / 2)) ≤ 20 := by unfold bBody; (repeat' split) <;> omega
          refine pw_callV (d' := d - 1) (As := [_]) (ci := 5) dX0_barOf_63 ok_X5_write kw_711 rfl rfl (Of.o (by assumption)) (by omega) rfl (Nat.le_of_ble_eq_true rfl) (n_write (d - 1) (by omega) n ok mem hN _ (by omega) (by omega)) (Nat.le_refl _) (Or.inl rfl) (fun r ok1 m1 hq => ?_)
          obtain ⟨rfl, rfl, em1⟩ := hq
          have hm1 : nEv mem [(true, bBody (aKind A c (mv / 2)))] = m1 := em1
          have hS1 : CS A c m1 b := by rw [← hm1]; exact hS.ev hb5 _
          have hV1 : CV A c m1 b v := by rw [← hm1]; exact hV.ev hb5 _
          have h21 : m1 2 1 = mem 2 1 + 1 := by rw [← em1]; exact nWr_1 _ _
          have hp := hOk.1.2.2 _ (show 0 ≤ (mv / 2) by omega) (by omega) hkn
          have hgl := gl_f (A := A) (c := c) (v := v) (mv := mv) hp.1 (hv _ (by omega) (by omega) hkn)
          refine pw_aload_n 0 rfl dX0_barOf_66 rfl ?_
          refine pw_iload_n 1 rfl dX0_barOf_67 rfl ?_
          refine pw_callV (d' := d - 1) (As := [_]) (ci := 0) dX0_barOf_68 ok_X0_goalOf kw_719 rfl rfl (Of.o (by assumption)) (by omega) rfl (Nat.le_of_ble_eq_true rfl) (h_goalOf (d - 1) (by omega) n ok m1 hN b hC A c v hI hS1 hV1 hv mv (by omega) hkn) (Nat.le_refl _) (Or.inl rfl) (fun r ok1 mem1 hq => ?_)
          obtain ⟨rfl, rfl, rfl⟩ := hq
          refine pw_iconst dX0_barOf_71 ?_
          refine pw_icmp_ne 80 (by decide) dX0_barOf_72 (by omega) (by omega) (fun c72 => ?_) (fun c72 => ?_)
          · skip
            have e9 : bRes A c v mv = ((fRes A c v (mv / 2)).1, (true, bBody (aKind A c (mv / 2))) :: (fRes A c v (mv / 2)).2) := by
              unfold bRes; rw [if_neg (by omega), if_neg (by omega), if_pos (by omega)]
            refine pw_aload_n 0 rfl dX0_barOf_80 rfl ?_
            refine pw_iload_n 2 rfl dX0_barOf_81 rfl ?_
            refine pw_iconst dX0_barOf_82 ?_
            refine pw_callV (d' := d - 1) (As := [_, _]) (ci := 0) dX0_barOf_83 ok_X0_firstThatFails kw_666 rfl rfl (Of.o (by assumption)) (by omega) rfl (Nat.le_of_ble_eq_true rfl) (h_ftfN (d - 1) (by omega) n ok m1 hN b hC A c v hI hS1 hV1 hv (mv / 2) (by omega) (by omega)) (Nat.le_refl _) (Or.inl rfl) (fun r ok1 mem1 hq => ?_)
            obtain ⟨rfl, rfl, em3⟩ := hq
            have hfr := fRes_ran (m := A) (c := c) v (mv / 2) hI.2.2.1.1
            refine pw_iret dX0_barOf_86 rfl rfl ?_
            refine ⟨congrArg (fun z => some (vi z)) ?_, rfl, ?_⟩
            · rw [e9]
            · unfold iEv; rw [e9, if_neg (by show ¬ (fRes A c v (mv / 2)).1 < -10; omega), List.append_nil, ← em3, ← hm1]; rfl
          · skip
            have e9 : bRes A c v mv = (-3, [(true, bBody (aKind A c (mv / 2)))]) := by
              unfold bRes; rw [if_neg (by omega), if_neg (by omega), if_neg (by omega)]
            refine pw_bipush dX0_barOf_75 (by decide) ?_
            refine pw_goto 86 (by decide) dX0_barOf_77 ?_
            refine pw_iret dX0_barOf_86 rfl rfl ?_
            refine ⟨congrArg (fun z => some (vi z)) ?_, rfl, ?_⟩
            · rw [e9]
            · unfold iEv; rw [e9, if_neg (by show ¬ (-3 : Int) < -10; omega), List.append_nil]; exact hm1
        · skip
          exfalso; omega
      · skip
        rw [bz_0] at c32
        have hbf : bFind A c (mv / 2) = 3 := by unfold bFind; rw [if_neg (fun z => z hck), if_neg c32]
        refine pw_iconst dX0_barOf_35 ?_
        refine pw_istore_n 3 rfl dX0_barOf_36 (by decide) ?_
        refine pw_iload_n 3 rfl dX0_barOf_37 rfl ?_
        refine pw_if_eq 50 (by decide) dX0_barOf_38 (by omega) (fun c38 => ?_) (fun c38 => ?_)
        · skip
          exfalso; omega
        · skip
          refine pw_aload_n 0 rfl dX0_barOf_41 rfl ?_
          refine pw_gR 0 2 dX0_barOf_42 cOk0 (by assumption) (by decide) kw_227 (by decide) rfl ?_
          refine pw_iload_n 3 rfl dX0_barOf_45 rfl ?_
          refine pw_callV (d' := d - 1) (As := [_]) (ci := 5) dX0_barOf_46 ok_X5_met kw_682 rfl rfl (Of.o (by assumption)) (by omega) rfl (Nat.le_of_ble_eq_true rfl) (n_met (d - 1) (by omega) n ok mem hN _ (by omega)) (Nat.le_refl _) (Or.inl rfl) (fun r ok1 mem1 hq => ?_)
          obtain ⟨rfl, rfl, em1⟩ := hq
          have e9 : bRes A c v mv = (-10 - bFind A c (mv / 2), []) := by unfold bRes; rw [if_neg (by omega), if_pos (by omega)]
          have hm9 : nEv mem (iEv A c v mv) = mem1 := by
            unfold iEv; rw [e9, if_pos (by show -10 - bFind A c (mv / 2) < -10; omega), ← em1]
            show nMt mem _ = nMt mem _
            congr 1; show -10 - (-10 - bFind A c (mv / 2)) = _; omega
          refine pw_iret dX0_barOf_49 rfl rfl ?_
          refine ⟨congrArg (fun z => some (vi z)) ?_, rfl, hm9⟩
          rw [e9]; show _ = -10 - bFind A c (mv / 2); omega
  · skip
    refine pw_iconst dX0_barOf_6 ?_
    refine pw_iret dX0_barOf_7 rfl rfl ?_
    have e9 : bRes A c v mv = (-1, []) := by unfold bRes; rw [if_pos (by omega)]
    refine ⟨congrArg (fun z => some (vi z)) (by rw [e9]), rfl, ?_⟩
    unfold iEv; rw [e9]; rfl
