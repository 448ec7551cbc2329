/-! ===== the class: chests drawn by a number ===== -/
set_option maxHeartbeats 4000000 in
set_option maxRecDepth 100000 in
theorem d_below (d : Nat) (hd : 0 ≤ d) (n : Nat) (ok : pO) (mem : pM) (hDr : Of n ok 2 77) (k : Int) (hk : 1 ≤ k ∧ k ≤ 100) : PM mi_X2_below d [vr 77, vi k] n ok mem n (fun r ok' mem' => r = some (vi (dv (dNx (mem 77 0)) k)) ∧ ok = ok' ∧ wr mem 77 0 (dNx (mem 77 0)) = mem') := by
  refine PM.of (by decide) (by decide) (Nat.le_refl _) (Nat.le_of_ble_eq_true rfl) ?_
  refine pw_aload_n 0 rfl dX2_below_0 rfl ?_
  refine pw_aload_n 0 rfl dX2_below_1 rfl ?_
  refine pw_gI 0 0 rfl dX2_below_2 cOk2 (by assumption) (by decide) kw_300 (by decide) (fun r2 => ?_)
  refine pw_ldc (x := 1103515245) kw_622 (by decide) dX2_below_5 ?_
  refine pw_imul dX2_below_7 ?_
  refine pw_sipush dX2_below_8 (by decide) ?_
  refine pw_iadd dX2_below_11 ?_
  refine pw_pIz 0 0 rfl dX2_below_12 cOk2 (by assumption) (by decide) kw_300 rfl rfl (by decide)  ?_
  refine pw_iload_n 1 rfl dX2_below_15 rfl ?_
  refine pw_if_le 31 (by decide) dX2_below_16 (by omega) (fun c16 => ?_) (fun c16 => ?_)
  · skip
    exfalso; omega
  · skip
    refine pw_aload_n 0 rfl dX2_below_19 rfl ?_
    refine pw_gI 0 0 rfl dX2_below_20 cOk2 (by assumption) (by decide) kw_300 (by decide) (fun r20 => ?_)
    try simp (disch := omega) only [wr_s, wr_a, wr_k] at r20 ⊢
    refine pw_bipush dX2_below_23 (by decide) ?_
    refine pw_iushr dX2_below_25 ?_
    have hu := iUsh16 (nz (mem 77 0 * 1103515245 + 12345))
    refine pw_iload_n 1 rfl dX2_below_26 rfl ?_
    refine pw_irem dX2_below_27 (by omega) (by omega) ?_
    refine pw_goto 32 (by decide) dX2_below_28 ?_
    refine pw_iret dX2_below_32 rfl rfl ?_
    exact ⟨rfl, rfl, rfl⟩
set_option maxHeartbeats 4000000 in
set_option maxRecDepth 100000 in
theorem d_seat (d : Nat) (hd : 1 ≤ d) (n : Nat) (ok : pO) (mem : pM) (hDr : Of n ok 2 77) : PM mi_X2_drawSeat d [vr 77] n ok mem n (fun r ok' mem' => r = some (vi (sDrw (dv (dNx (mem 77 0)) 4))) ∧ ok = ok' ∧ wr mem 77 0 (dNx (mem 77 0)) = mem') := by
  refine PM.of (by decide) (by decide) (Nat.le_refl _) (Nat.le_of_ble_eq_true rfl) ?_
  refine pw_aload_n 0 rfl dX2_drawSeat_0 rfl ?_
  refine pw_getDrw dX2_drawSeat_1 kw_616 ?_
  refine pw_drwlen dX2_drawSeat_4 ?_
  refine pw_callV (d' := d - 1) (As := [_]) (ci := 2) dX2_drawSeat_5 ok_X2_below kw_618 rfl rfl (Of.o (by assumption)) (by omega) rfl (Nat.le_of_ble_eq_true rfl) (d_below (d - 1) (by omega) n ok mem hDr 4 (by omega)) (Nat.le_refl _) (Or.inl rfl) (fun r ok1 mem1 hq => ?_)
  obtain ⟨rfl, rfl, em1⟩ := hq
  have hd4 := dv_ran (dNx (mem 77 0)) (k := 4) (by omega)
  refine pw_istore_n 1 rfl dX2_drawSeat_8 (by decide) ?_
  refine pw_iload_n 1 rfl dX2_drawSeat_9 rfl ?_
  refine pw_if_lt 29 (by decide) dX2_drawSeat_10 (by omega) (fun c10 => ?_) (fun c10 => ?_)
  · skip
    exfalso; omega
  · skip
    refine pw_iload_n 1 rfl dX2_drawSeat_13 rfl ?_
    refine pw_getDrw dX2_drawSeat_14 kw_616 ?_
    refine pw_drwlen dX2_drawSeat_17 ?_
    refine pw_icmp_ge 29 (by decide) dX2_drawSeat_18 (by omega) (by omega) (fun c18 => ?_) (fun c18 => ?_)
    · skip
      exfalso; omega
    · skip
      refine pw_getDrw dX2_drawSeat_21 kw_616 ?_
      refine pw_iload_n 1 rfl dX2_drawSeat_24 rfl ?_
      refine pw_drwld dX2_drawSeat_25 (by omega) (by omega) ?_
      refine pw_goto 30 (by decide) dX2_drawSeat_26 ?_
      refine pw_iret dX2_drawSeat_30 rfl rfl ?_
      exact ⟨rfl, rfl, em1⟩
def chD (b : Nat) (m m1 : pM) : Prop := (∀ a, a ≠ 77 → (a < b ∨ b + 15 < a) → m1 a = m a) ∧ ∀ k, k ≠ 10 → k ≠ 11 → k ≠ 12 → m1 b k = m b k
theorem chM.d {b : Nat} {m m1 : pM} (h : chM b m m1) : chD b m m1 := ⟨fun a _ h2 => h.1 a h2, h.2⟩
theorem chD.rf (b : Nat) (m : pM) : chD b m m := ⟨fun _ _ _ => rfl, fun _ _ _ _ => rfl⟩
theorem chD.tr {b : Nat} {m m1 m2 : pM} (h : chD b m m1) (g : chD b m1 m2) : chD b m m2 := ⟨fun a h1 h2 => (g.1 a h1 h2).trans (h.1 a h1 h2), fun k h1 h2 h3 => (g.2 k h1 h2 h3).trans (h.2 k h1 h2 h3)⟩
theorem chD.w (b : Nat) (m : pM) (hb : b ≤ 59) (x : Int) : chD b m (wr m 77 0 x) := ⟨fun a h1 _ => wr_a _ _ _ h1, fun k _ _ _ => by rw [wr_a _ _ _ (by omega)]⟩
theorem CS.x {A : pM} {c : Int} {m : pM} {b : Nat} (h : CS A c m b) (hb : b ≤ 59) (x : Int) : CS A c (wr m 77 0 x) b := h.m (fun a _ _ _ _ => wr_a _ _ _ (by omega))
theorem CV.x {A : pM} {c : Int} {m : pM} {b : Nat} {v : Int → Int} (h : CV A c m b v) (hb : b ≤ 59) (x : Int) : CV A c (wr m 77 0 x) b v := h.m (wr_a _ _ _ (by omega))
theorem trG_98s (m : pM) (q : Int) (k : Nat) (N : Int) (i : Nat) (j : Int) (hj : j ≠ 6 * q + i) : trG m q k N (i + 1) 98 j = trG m q k N i 98 j := by
  show (if k = 0 then _ else _ : pM) 98 j = _
  split
  · exact wr_k _ _ _ _ hj
  · rw [wr_k _ _ _ _ hj, wr_a _ _ _ (by omega)]
theorem trG_98e (m : pM) (q : Int) (k : Nat) (N : Int) (i : Nat) : trG m q k N (i + 1) 98 (6 * q + i) = if k = 0 then (if (i : Int) = N - 1 then 1 else 0) else (if dv (dNx (trG m q k N i 88 21)) 3 = 0 then 0 else 1) := by
  show (if k = 0 then _ else _ : pM) 98 (6 * q + i) = _
  by_cases e : k = 0
  · rw [if_pos e, if_pos e, wr_s]
  · rw [if_neg e, if_neg e, wr_s]
theorem trG_21 (m : pM) (q : Int) (k : Nat) (N : Int) (i : Nat) : trG m q k N (i + 1) 88 21 = if k = 0 then trG m q k N i 88 21 else dNx (trG m q k N i 88 21) := by
  show (if k = 0 then _ else _ : pM) 88 21 = _
  by_cases e : k = 0
  · rw [if_pos e, if_pos e, wr_a _ _ _ (by omega)]
  · rw [if_neg e, if_neg e, wr_a _ _ _ (by omega), wr_s]
theorem rMore_88 (A : pM) (c z a l k : Int) (d : Nat) (h : d ≠ 88) : rMore (wr A 88 21 z) c a l k d = rMore A c a l k d := by
  have e : wr A 88 21 z 94 c = A 94 c := wr_a2 _ _ _ _ (by omega)
  funext j
  unfold rMore
  rw [e]
  unfold wr fiM
  simp [h]
set_option maxHeartbeats 4000000 in
set_option maxRecDepth 100000 in
theorem d_cond1 (d : Nat) (hd : 4 ≤ d) (n : Nat) (ok : pO) (mem : pM) (b : Nat) (hC : ChUp n ok b) (hDr : Of n ok 2 77) (A : pM) (c : Int) (hI : cIn A c) (hS : CS A c mem b) (hV : CV A c mem b (aAt A c)) (h21 : mem 77 0 = A 88 21) (hp4 : pPK A c) (hn4 : nPK A c 4) (k : Nat) (hk0 : k = 0) (h40 : A 94 c < 40) : PM mi_X2_drawCondition d [vr 77, vr b, vi 1] n ok mem n (fun r0 ok' mem' => r0 = none ∧ ok = ok' ∧ chD b mem mem' ∧ CS (cdS A c k) c mem' b ∧ CV (cdS A c k) c mem' b (aAt (cdS A c k) c) ∧ mem' 77 0 = cdS A c k 88 21) := by
  obtain ⟨hC0, ⟨hC1, hC2, hC3, hC4, hC5, hC6, hC7⟩, hC8, ⟨hC9, hC10, hC11, hC12, hC13, hC14, hC15⟩, hC16, hC17, hb5, hb59⟩ := id hC
  have eA : cdA A k = -1 := by unfold cdA; rw [if_pos hk0]
  have eX : cdX A k = A 88 21 := by unfold cdX; rw [if_pos hk0]
  have hnc := hI.2.2.1.1
  refine PM.of (by decide) (by decide) (Nat.le_refl _) (Nat.le_of_ble_eq_true rfl) ?_
  refine pw_iload_n 2 rfl dX2_drawCondition_0 rfl ?_
  refine pw_if_eq 8 (by decide) dX2_drawCondition_1 (by omega) (fun c1 => ?_) (fun c1 => ?_)
  · skip
    exfalso; omega
  · skip
    refine pw_iconst dX2_drawCondition_4 ?_
    refine pw_goto 12 (by decide) dX2_drawCondition_5 ?_
    refine pw_istore_n 3 rfl dX2_drawCondition_12 (by decide) ?_
    refine pw_aload_n 0 rfl dX2_drawCondition_13 rfl ?_
    have hS0 := hS
    have hV0 := hV
    have hF0 := chD.rf b mem
    have x0 : mem 77 0 = cdX A k := by rw [h21, eX]
    refine pw_callV (d' := d - 1) (As := []) (ci := 2) dX2_drawCondition_14 ok_X2_drawSeat kw_628 rfl rfl (Of.o (by assumption)) (by omega) rfl (Nat.le_of_ble_eq_true rfl) (d_seat (d - 1) (by omega) n ok mem hDr) (Nat.le_refl _) (Or.inl rfl) (fun r9 ok1 m1 hq => ?_)
    obtain ⟨rfl, rfl, em1⟩ := hq
    rw [x0] at em1 ⊢
    have eL : sDrw (dv (dNx (cdX A k)) 4) = (cdL A k) := rfl
    rw [eL]
    have hS1 : CS A c m1 b := by rw [← em1]; exact hS0.x hb59 _
    have hV1 : CV A c m1 b (aAt A c) := by rw [← em1]; exact hV0.x hb59 _
    have hF1 : chD b mem m1 := hF0.tr (by rw [← em1]; exact chD.w b _ hb59 _)
    have x1 : m1 77 0 = (cdM A c k) 88 21 := by rw [← em1, wr_s]; unfold cdM rMore; rw [wr_a _ _ _ (by omega), fiM_a _ _ _ _ (by omega), wr_a _ _ _ (by omega), wr_a _ _ _ (by omega), wr_a _ _ _ (by omega), wr_s]
    have hdL := dv_ran (dNx (cdX A k)) (k := 4) (by omega)
    have hLr := sDrw_ran hdL.1 hdL.2
    rw [eL] at hLr
    have hnk := hn4 _ hdL.1 hdL.2
    rw [eL] at hnk
    have e2 : m1 (b + 2) (cdL A k) = A 90 (16 * c + (cdL A k)) := (hS1.1.2.1 _ (by omega) (by omega)).1
    have e3 : m1 (b + 3) (cdL A k) = A 91 (16 * c + (cdL A k)) := by rw [(hS1.1.2.1 _ (by omega) (by omega)).2.1]; unfold eSp; rw [if_neg (show aKind A c (cdL A k) ≠ -1 from hnk)]
    have hNr := cdN_ran hp4 hn4 k
    refine pw_istore dX2_drawCondition_17 (by decide) ?_
    refine pw_aload_n 1 rfl dX2_drawCondition_19 rfl ?_
    refine pw_gR 2 (b + 2) dX2_drawCondition_20 cOk0 (by assumption) (by decide) kw_231 (by decide) rfl ?_
    refine pw_iload dX2_drawCondition_23 rfl ?_
    refine pw_iaload dX2_drawCondition_25 (by assumption) (by omega) (by omega) (fun r25 => ?_)
    rw [e2] at r25 ⊢
    refine pw_iconst dX2_drawCondition_26 ?_
    refine pw_icmp_ne 34 (by decide) dX2_drawCondition_27 (by omega) (by omega) (fun c27 => ?_) (fun c27 => ?_)
    · skip
      have eN : (cdN A c k) = A 91 (16 * c + (cdL A k)) := by unfold cdN; rw [if_neg c27]
      refine pw_aload_n 1 rfl dX2_drawCondition_34 rfl ?_
      refine pw_gR 3 (b + 3) dX2_drawCondition_35 cOk0 (by assumption) (by decide) kw_235 (by decide) rfl ?_
      refine pw_iload dX2_drawCondition_38 rfl ?_
      refine pw_iaload dX2_drawCondition_40 (by assumption) (by omega) (by omega) (fun r40 => ?_)
      rw [e3] at r40 ⊢
      rw [← eN]
      refine pw_istore dX2_drawCondition_41 (by decide) ?_
      refine pw_iconst dX2_drawCondition_43 ?_
      refine pw_istore dX2_drawCondition_44 (by decide) ?_
      refine pw_iconst dX2_drawCondition_46 ?_
      refine pw_istore dX2_drawCondition_47 (by decide) ?_
      have lp49 : ∀ (kz : Nat) (i : Nat) (T : Int) (m2 : pM), (cdN A c k) - (i : Int) < (kz : Int) → ((i : Int) ≤ (cdN A c k)) → (-2147483648 ≤ T ∧ T ≤ 2147483647) → (∀ j : Nat, j < 32 → (tb T j = true ↔ (j < i ∧ (trG (cdM A c k) (40 * c + A 94 c) k (cdN A c k) i) 98 (6 * (40 * c + A 94 c) + j) = 1))) → (CS A c m2 b) → (CV A c m2 b (aAt A c)) → (chD b mem m2) → (m2 77 0 = (trG (cdM A c k) (40 * c + A 94 c) k (cdN A c k) i) 88 21) → PW mi_X2_drawCondition d n n (fun r0 ok' mem' => r0 = none ∧ ok = ok' ∧ chD b mem mem' ∧ CS (cdS A c k) c mem' b ∧ CV (cdS A c k) c mem' b (aAt (cdS A c k) c) ∧ mem' 77 0 = cdS A c k 88 21) 49 [(0, vr 77), (1, vr b), (2, vi 1), (3, vi (-1)), (4, vi (cdL A k)), (5, vi (cdN A c k)), (6, vi T), (7, vi (i : Int))] [] n ok m2 := by
        intro kz
        induction kz with
        | zero =>
          intro i T m2 hk hi hTr hT hS2 hV2 hF2 x2
          exact absurd hk (by omega)
        | succ kz ih =>
          intro i T m2 hk hi hTr hT hS2 hV2 hF2 x2
          refine pw_iload dX2_drawCondition_49 rfl ?_
          refine pw_iload dX2_drawCondition_51 rfl ?_
          refine pw_icmp_ge 116 (by decide) dX2_drawCondition_53 (by omega) (by omega) (fun c53 => ?_) (fun c53 => ?_)
          · skip
            have ei : i = (cdN A c k).toNat := by omega
            have hcS : cdS A c k = (trG (cdM A c k) (40 * c + A 94 c) k (cdN A c k) i) := by unfold cdS; rw [ei]
            rw [← hcS] at hT x2
            have hseat : -1 ≤ -1 ∧ -1 ≤ 15 := by omega
            have vr9 := rMore_v A c (-1) (cdL A k) (cdN A c k)
            obtain ⟨A2, eA2⟩ : ∃ y : pM, y = fun a => if a = 98 then cdS A c k 98 else rMore A c (-1) (cdL A k) (cdN A c k) a := ⟨_, rfl⟩
            have a98 : A2 98 = cdS A c k 98 := by rw [eA2]; exact if_pos rfl
            have ao : ∀ a, a ≠ 98 → A2 a = rMore A c (-1) (cdL A k) (cdN A c k) a := fun a ha => by rw [eA2]; exact if_neg ha
            have hcdM : ∀ a, a ≠ 88 → (cdM A c k) a = rMore A c (-1) (cdL A k) (cdN A c k) a := fun a h1 => by
              have w := rMore_v (wr A 88 21 (dNx (cdX A k))) c (-1) (cdL A k) (cdN A c k)
              unfold cdM; rw [eA]
              exact rMore_88 A c _ _ _ _ a h1
            have hcd : ∀ a, a ≠ 88 → a ≠ 98 → cdS A c k a = rMore A c (-1) (cdL A k) (cdN A c k) a := fun a h1 h2 => by
              rw [hcS, trG_a _ _ _ _ _ _ h2 h1]
              exact hcdM a h1
            have h1 : cIn (rMore A c (-1) (cdL A k) (cdN A c k)) c := cIn_more hI hseat (by omega) (by omega) (by omega)
            have h98 : ∀ j : Int, (j < 6 * (40 * c + A 94 c) ∨ 6 * (40 * c + A 94 c) + (cdN A c k) ≤ j) → cdS A c k 98 j = rMore A c (-1) (cdL A k) (cdN A c k) 98 j := fun j hj => by
              rw [hcS]
              rcases trG_98 (cdM A c k) (40 * c + A 94 c) k (cdN A c k) i j with z | z
              · rw [z, hcdM 98 (by omega)]
              · omega
            have hTS : trS (rMore A c (-1) (cdL A k) (cdN A c k)) A2 c (A 94 c) 0 (cdN A c k) T := by
              refine ⟨ao, fun j hj => by rw [a98]; exact h98 j (by omega), fun j hj => ?_⟩
              rw [a98]
              by_cases e : 0 ≤ (j : Int) ∧ (j : Int) < 0 + (cdN A c k)
              · rw [if_pos e]
                show _ ↔ tb T j = true
                rw [hT j (by omega)]
                exact ⟨fun z => ⟨by omega, z⟩, fun z => z.2⟩
              · rw [if_neg e, h98 _ (by omega)]
            have hI2 : cIn A2 c := cIn_98 h1 (fun a _ _ h3 => ao a h3) (fun k2 k3 k4 i2 i3 i4 => by
              rw [vr9.2.1] at k4
              rw [a98, hcS]
              rcases trG_98 (cdM A c k) (40 * c + A 94 c) k (cdN A c k) i (6 * (40 * c + k2) + i2) with z | z
              · rw [z, hcdM 98 (by omega)]
                exact (h1.2.2.1.2 k2 k3 (by rw [vr9.2.1]; omega)).2.2.2 i2 i3 i4
              · exact z.2)
            have hEq : chEq A2 c (cdS A c k) c := chEq.of (fun a q1 q2 _ => by
              by_cases e : a = 98
              · rw [e, a98]
              · rw [hcd a (by omega) e, ao a e])
            refine pw_aload_n 1 rfl dX2_drawCondition_116 rfl ?_
            refine pw_aload_n 1 rfl dX2_drawCondition_117 rfl ?_
            refine pw_iload_n 3 rfl dX2_drawCondition_118 rfl ?_
            refine pw_iload dX2_drawCondition_119 rfl ?_
            refine pw_iload dX2_drawCondition_121 rfl ?_
            refine pw_callV (d' := d - 1) (As := [_, _, _]) (ci := 0) dX2_drawCondition_123 ok_X0_addCondition kw_632 rfl rfl (Of.o (by assumption)) (by omega) rfl (Nat.le_of_ble_eq_true rfl) (h_addCondition (d - 1) (by omega) n ok m2 b hC A c (aAt A c) hS2.1 hS2.2.2 hV2 hI (-1) (cdL A k) (cdN A c k) hseat (by omega) (by omega) (by omega) h1) (Nat.le_refl _) (Or.inl rfl) (fun r9 ok1 m4 hq => ?_)
            obtain ⟨rfl, rfl, hM4, hS4, hV4⟩ := hq
            refine pw_iconst dX2_drawCondition_126 ?_
            refine pw_iload dX2_drawCondition_127 rfl ?_
            refine pw_iload dX2_drawCondition_129 rfl ?_
            refine pw_callV (d' := d - 1) (As := [_, _, _, _]) (ci := 0) dX2_drawCondition_131 ok_X0_setTruths kw_633 rfl rfl (Of.o (by assumption)) (by omega) rfl (Nat.le_of_ble_eq_true rfl) (h_setTruths (d - 1) (by omega) n ok m4 b hC (rMore A c (-1) (cdL A k) (cdN A c k)) c (aAt A c) hS4.1 hS4.2.2 hV4 h1 A2 (A 94 c) 0 (cdN A c k) T (by rw [vr9.2.1]; omega) (by omega) (by omega) (by omega) hTS hI2) (Nat.le_refl _) (Or.inl rfl) (fun r9 ok1 m5 hq => ?_)
            obtain ⟨rfl, rfl, hM5, hS5, hV5⟩ := hq
            refine pw_vret dX2_drawCondition_134 rfl rfl ?_
            refine ⟨rfl, rfl, (hF2.tr hM4.d).tr hM5.d, CS_t hI2 hS5 hEq, CV_t hV5 (fun s s1 s2 => ⟨?_, fun _ => ?_⟩), ?_⟩
            · rw [hcd 90 (by omega) (by omega), ao 90 (by omega)]
            · show cdS A c k 92 _ = A 92 _; rw [hcd 92 (by omega) (by omega), vr9.1 92 (by omega)]
            · rw [hM5.1 77 (by omega), hM4.1 77 (by omega)]; exact x2
          · skip
            refine pw_iload_n 2 rfl dX2_drawCondition_56 rfl ?_
            refine pw_if_eq 77 (by decide) dX2_drawCondition_57 (by omega) (fun c57 => ?_) (fun c57 => ?_)
            · skip
              exfalso; omega
            · skip
              refine pw_iload dX2_drawCondition_60 rfl ?_
              refine pw_iload dX2_drawCondition_62 rfl ?_
              refine pw_iconst dX2_drawCondition_64 ?_
              refine pw_isub dX2_drawCondition_65 ?_
              refine pw_icmp_ne 73 (by decide) dX2_drawCondition_66 (by omega) (by omega) (fun c66 => ?_) (fun c66 => ?_)
              · skip
                have hv98 : trG (cdM A c k) (40 * c + A 94 c) k (cdN A c k) (i + 1) 98 (6 * (40 * c + A 94 c) + (i : Int)) = 0 := by rw [trG_98e (cdM A c k) (40 * c + A 94 c) k (cdN A c k) i, if_pos hk0, if_neg c66]
                have hTn : ∀ j : Nat, j < 32 → (tb (iOr T 0) j = true ↔ (j < i + 1 ∧ trG (cdM A c k) (40 * c + A 94 c) k (cdN A c k) (i + 1) 98 (6 * (40 * c + A 94 c) + j) = 1)) := fun j hj => by
                  rw [tb_or, tb_0, Bool.or_false, hT j hj]
                  by_cases e : j = i
                  · subst e
                    rw [hv98]
                    exact ⟨fun z => by omega, fun z => absurd z.2 (by omega)⟩
                  · rw [trG_98s _ _ _ _ _ _ (by omega)]
                    exact ⟨fun z => ⟨by omega, z.2⟩, fun z => ⟨by omega, z.2⟩⟩
                refine pw_iconst dX2_drawCondition_73 ?_
                refine pw_goto 90 (by decide) dX2_drawCondition_74 ?_
                refine pw_istore dX2_drawCondition_90 (by decide) ?_
                refine pw_iload dX2_drawCondition_92 rfl ?_
                refine pw_iload dX2_drawCondition_94 rfl ?_
                refine pw_if_eq 106 (by decide) dX2_drawCondition_96 (by omega) (fun c96 => ?_) (fun c96 => ?_)
                · skip
                  refine pw_iconst dX2_drawCondition_106 ?_
                  refine pw_ior dX2_drawCondition_107 ?_
                  refine pw_istore dX2_drawCondition_108 (by decide) ?_
                  refine pw_iinc dX2_drawCondition_110 rfl (by decide) ?_
                  refine pw_goto 49 (by decide) dX2_drawCondition_113 ?_
                  exact pw_locs _ rfl (ih (i + 1) _ m2 (by omega) (by omega) (iOr_ran _ _) hTn hS2 hV2 hF2 (by rw [trG_21, if_pos hk0]; exact x2))
                · skip
                  exfalso; omega
              · skip
                have hv98 : trG (cdM A c k) (40 * c + A 94 c) k (cdN A c k) (i + 1) 98 (6 * (40 * c + A 94 c) + (i : Int)) = 1 := by rw [trG_98e (cdM A c k) (40 * c + A 94 c) k (cdN A c k) i, if_pos hk0, if_pos (by omega)]
                have hTy : ∀ j : Nat, j < 32 → (tb (iOr T (iShl 1 (i : Int))) j = true ↔ (j < i + 1 ∧ trG (cdM A c k) (40 * c + A 94 c) k (cdN A c k) (i + 1) 98 (6 * (40 * c + A 94 c) + j) = 1)) := fun j hj => by
                  rw [tb_or, tb_shl 1 (i : Int) (by omega) j hj, tb_1, Bool.or_eq_true, hT j hj, Bool.and_eq_true, decide_eq_true_iff, decide_eq_true_iff]
                  by_cases e : j = i
                  · subst e
                    rw [hv98]
                    exact ⟨fun _ => ⟨by omega, rfl⟩, fun _ => Or.inr ⟨by omega, by omega⟩⟩
                  · rw [trG_98s _ _ _ _ _ _ (by omega)]
                    constructor
                    · intro z
                      rcases z with z | z
                      · exact ⟨by omega, z.2⟩
                      · omega
                    · intro z; exact Or.inl ⟨by omega, z.2⟩
                refine pw_iconst dX2_drawCondition_69 ?_
                refine pw_goto 90 (by decide) dX2_drawCondition_70 ?_
                refine pw_istore dX2_drawCondition_90 (by decide) ?_
                refine pw_iload dX2_drawCondition_92 rfl ?_
                refine pw_iload dX2_drawCondition_94 rfl ?_
                refine pw_if_eq 106 (by decide) dX2_drawCondition_96 (by omega) (fun c96 => ?_) (fun c96 => ?_)
                · skip
                  exfalso; omega
                · skip
                  refine pw_iconst dX2_drawCondition_99 ?_
                  refine pw_iload dX2_drawCondition_100 rfl ?_
                  refine pw_ishl dX2_drawCondition_102 ?_
                  refine pw_goto 107 (by decide) dX2_drawCondition_103 ?_
                  refine pw_ior dX2_drawCondition_107 ?_
                  refine pw_istore dX2_drawCondition_108 (by decide) ?_
                  refine pw_iinc dX2_drawCondition_110 rfl (by decide) ?_
                  refine pw_goto 49 (by decide) dX2_drawCondition_113 ?_
                  exact pw_locs _ rfl (ih (i + 1) _ m2 (by omega) (by omega) (iOr_ran _ _) hTy hS2 hV2 hF2 (by rw [trG_21, if_pos hk0]; exact x2))
      exact pw_locs _ rfl (lp49 7 0 0 m1 (by omega) (by omega) (by omega) (fun j _ => ⟨fun z => absurd z (by rw [tb_0]; decide), fun z => absurd z.1 (Nat.not_lt_zero j)⟩) hS1 hV1 hF1 x1)
    · skip
      have eN : (cdN A c k) = 2 := by unfold cdN; rw [if_pos (by omega)]
      refine pw_iconst dX2_drawCondition_30 ?_
      refine pw_goto 41 (by decide) dX2_drawCondition_31 ?_
      rw [← eN]
      refine pw_istore dX2_drawCondition_41 (by decide) ?_
      refine pw_iconst dX2_drawCondition_43 ?_
      refine pw_istore dX2_drawCondition_44 (by decide) ?_
      refine pw_iconst dX2_drawCondition_46 ?_
      refine pw_istore dX2_drawCondition_47 (by decide) ?_
      have lp49 : ∀ (kz : Nat) (i : Nat) (T : Int) (m2 : pM), (cdN A c k) - (i : Int) < (kz : Int) → ((i : Int) ≤ (cdN A c k)) → (-2147483648 ≤ T ∧ T ≤ 2147483647) → (∀ j : Nat, j < 32 → (tb T j = true ↔ (j < i ∧ (trG (cdM A c k) (40 * c + A 94 c) k (cdN A c k) i) 98 (6 * (40 * c + A 94 c) + j) = 1))) → (CS A c m2 b) → (CV A c m2 b (aAt A c)) → (chD b mem m2) → (m2 77 0 = (trG (cdM A c k) (40 * c + A 94 c) k (cdN A c k) i) 88 21) → PW mi_X2_drawCondition d n n (fun r0 ok' mem' => r0 = none ∧ ok = ok' ∧ chD b mem mem' ∧ CS (cdS A c k) c mem' b ∧ CV (cdS A c k) c mem' b (aAt (cdS A c k) c) ∧ mem' 77 0 = cdS A c k 88 21) 49 [(0, vr 77), (1, vr b), (2, vi 1), (3, vi (-1)), (4, vi (cdL A k)), (5, vi (cdN A c k)), (6, vi T), (7, vi (i : Int))] [] n ok m2 := by
        intro kz
        induction kz with
        | zero =>
          intro i T m2 hk hi hTr hT hS2 hV2 hF2 x2
          exact absurd hk (by omega)
        | succ kz ih =>
          intro i T m2 hk hi hTr hT hS2 hV2 hF2 x2
          refine pw_iload dX2_drawCondition_49 rfl ?_
          refine pw_iload dX2_drawCondition_51 rfl ?_
          refine pw_icmp_ge 116 (by decide) dX2_drawCondition_53 (by omega) (by omega) (fun c53 => ?_) (fun c53 => ?_)
          · skip
            have ei : i = (cdN A c k).toNat := by omega
            have hcS : cdS A c k = (trG (cdM A c k) (40 * c + A 94 c) k (cdN A c k) i) := by unfold cdS; rw [ei]
            rw [← hcS] at hT x2
            have hseat : -1 ≤ -1 ∧ -1 ≤ 15 := by omega
            have vr9 := rMore_v A c (-1) (cdL A k) (cdN A c k)
            obtain ⟨A2, eA2⟩ : ∃ y : pM, y = fun a => if a = 98 then cdS A c k 98 else rMore A c (-1) (cdL A k) (cdN A c k) a := ⟨_, rfl⟩
            have a98 : A2 98 = cdS A c k 98 := by rw [eA2]; exact if_pos rfl
            have ao : ∀ a, a ≠ 98 → A2 a = rMore A c (-1) (cdL A k) (cdN A c k) a := fun a ha => by rw [eA2]; exact if_neg ha
            have hcdM : ∀ a, a ≠ 88 → (cdM A c k) a = rMore A c (-1) (cdL A k) (cdN A c k) a := fun a h1 => by
              have w := rMore_v (wr A 88 21 (dNx (cdX A k))) c (-1) (cdL A k) (cdN A c k)
              unfold cdM; rw [eA]
              exact rMore_88 A c _ _ _ _ a h1
            have hcd : ∀ a, a ≠ 88 → a ≠ 98 → cdS A c k a = rMore A c (-1) (cdL A k) (cdN A c k) a := fun a h1 h2 => by
              rw [hcS, trG_a _ _ _ _ _ _ h2 h1]
              exact hcdM a h1
            have h1 : cIn (rMore A c (-1) (cdL A k) (cdN A c k)) c := cIn_more hI hseat (by omega) (by omega) (by omega)
            have h98 : ∀ j : Int, (j < 6 * (40 * c + A 94 c) ∨ 6 * (40 * c + A 94 c) + (cdN A c k) ≤ j) → cdS A c k 98 j = rMore A c (-1) (cdL A k) (cdN A c k) 98 j := fun j hj => by
              rw [hcS]
              rcases trG_98 (cdM A c k) (40 * c + A 94 c) k (cdN A c k) i j with z | z
              · rw [z, hcdM 98 (by omega)]
              · omega
            have hTS : trS (rMore A c (-1) (cdL A k) (cdN A c k)) A2 c (A 94 c) 0 (cdN A c k) T := by
              refine ⟨ao, fun j hj => by rw [a98]; exact h98 j (by omega), fun j hj => ?_⟩
              rw [a98]
              by_cases e : 0 ≤ (j : Int) ∧ (j : Int) < 0 + (cdN A c k)
              · rw [if_pos e]
                show _ ↔ tb T j = true
                rw [hT j (by omega)]
                exact ⟨fun z => ⟨by omega, z⟩, fun z => z.2⟩
              · rw [if_neg e, h98 _ (by omega)]
            have hI2 : cIn A2 c := cIn_98 h1 (fun a _ _ h3 => ao a h3) (fun k2 k3 k4 i2 i3 i4 => by
              rw [vr9.2.1] at k4
              rw [a98, hcS]
              rcases trG_98 (cdM A c k) (40 * c + A 94 c) k (cdN A c k) i (6 * (40 * c + k2) + i2) with z | z
              · rw [z, hcdM 98 (by omega)]
                exact (h1.2.2.1.2 k2 k3 (by rw [vr9.2.1]; omega)).2.2.2 i2 i3 i4
              · exact z.2)
            have hEq : chEq A2 c (cdS A c k) c := chEq.of (fun a q1 q2 _ => by
              by_cases e : a = 98
              · rw [e, a98]
              · rw [hcd a (by omega) e, ao a e])
            refine pw_aload_n 1 rfl dX2_drawCondition_116 rfl ?_
            refine pw_aload_n 1 rfl dX2_drawCondition_117 rfl ?_
            refine pw_iload_n 3 rfl dX2_drawCondition_118 rfl ?_
            refine pw_iload dX2_drawCondition_119 rfl ?_
            refine pw_iload dX2_drawCondition_121 rfl ?_
            refine pw_callV (d' := d - 1) (As := [_, _, _]) (ci := 0) dX2_drawCondition_123 ok_X0_addCondition kw_632 rfl rfl (Of.o (by assumption)) (by omega) rfl (Nat.le_of_ble_eq_true rfl) (h_addCondition (d - 1) (by omega) n ok m2 b hC A c (aAt A c) hS2.1 hS2.2.2 hV2 hI (-1) (cdL A k) (cdN A c k) hseat (by omega) (by omega) (by omega) h1) (Nat.le_refl _) (Or.inl rfl) (fun r9 ok1 m4 hq => ?_)
            obtain ⟨rfl, rfl, hM4, hS4, hV4⟩ := hq
            refine pw_iconst dX2_drawCondition_126 ?_
            refine pw_iload dX2_drawCondition_127 rfl ?_
            refine pw_iload dX2_drawCondition_129 rfl ?_
            refine pw_callV (d' := d - 1) (As := [_, _, _, _]) (ci := 0) dX2_drawCondition_131 ok_X0_setTruths kw_633 rfl rfl (Of.o (by assumption)) (by omega) rfl (Nat.le_of_ble_eq_true rfl) (h_setTruths (d - 1) (by omega) n ok m4 b hC (rMore A c (-1) (cdL A k) (cdN A c k)) c (aAt A c) hS4.1 hS4.2.2 hV4 h1 A2 (A 94 c) 0 (cdN A c k) T (by rw [vr9.2.1]; omega) (by omega) (by omega) (by omega) hTS hI2) (Nat.le_refl _) (Or.inl rfl) (fun r9 ok1 m5 hq => ?_)
            obtain ⟨rfl, rfl, hM5, hS5, hV5⟩ := hq
            refine pw_vret dX2_drawCondition_134 rfl rfl ?_
            refine ⟨rfl, rfl, (hF2.tr hM4.d).tr hM5.d, CS_t hI2 hS5 hEq, CV_t hV5 (fun s s1 s2 => ⟨?_, fun _ => ?_⟩), ?_⟩
            · rw [hcd 90 (by omega) (by omega), ao 90 (by omega)]
            · show cdS A c k 92 _ = A 92 _; rw [hcd 92 (by omega) (by omega), vr9.1 92 (by omega)]
            · rw [hM5.1 77 (by omega), hM4.1 77 (by omega)]; exact x2
          · skip
            refine pw_iload_n 2 rfl dX2_drawCondition_56 rfl ?_
            refine pw_if_eq 77 (by decide) dX2_drawCondition_57 (by omega) (fun c57 => ?_) (fun c57 => ?_)
            · skip
              exfalso; omega
            · skip
              refine pw_iload dX2_drawCondition_60 rfl ?_
              refine pw_iload dX2_drawCondition_62 rfl ?_
              refine pw_iconst dX2_drawCondition_64 ?_
              refine pw_isub dX2_drawCondition_65 ?_
              refine pw_icmp_ne 73 (by decide) dX2_drawCondition_66 (by omega) (by omega) (fun c66 => ?_) (fun c66 => ?_)
              · skip
                have hv98 : trG (cdM A c k) (40 * c + A 94 c) k (cdN A c k) (i + 1) 98 (6 * (40 * c + A 94 c) + (i : Int)) = 0 := by rw [trG_98e (cdM A c k) (40 * c + A 94 c) k (cdN A c k) i, if_pos hk0, if_neg c66]
                have hTn : ∀ j : Nat, j < 32 → (tb (iOr T 0) j = true ↔ (j < i + 1 ∧ trG (cdM A c k) (40 * c + A 94 c) k (cdN A c k) (i + 1) 98 (6 * (40 * c + A 94 c) + j) = 1)) := fun j hj => by
                  rw [tb_or, tb_0, Bool.or_false, hT j hj]
                  by_cases e : j = i
                  · subst e
                    rw [hv98]
                    exact ⟨fun z => by omega, fun z => absurd z.2 (by omega)⟩
                  · rw [trG_98s _ _ _ _ _ _ (by omega)]
                    exact ⟨fun z => ⟨by omega, z.2⟩, fun z => ⟨by omega, z.2⟩⟩
                refine pw_iconst dX2_drawCondition_73 ?_
                refine pw_goto 90 (by decide) dX2_drawCondition_74 ?_
                refine pw_istore dX2_drawCondition_90 (by decide) ?_
                refine pw_iload dX2_drawCondition_92 rfl ?_
                refine pw_iload dX2_drawCondition_94 rfl ?_
                refine pw_if_eq 106 (by decide) dX2_drawCondition_96 (by omega) (fun c96 => ?_) (fun c96 => ?_)
                · skip
                  refine pw_iconst dX2_drawCondition_106 ?_
                  refine pw_ior dX2_drawCondition_107 ?_
                  refine pw_istore dX2_drawCondition_108 (by decide) ?_
                  refine pw_iinc dX2_drawCondition_110 rfl (by decide) ?_
                  refine pw_goto 49 (by decide) dX2_drawCondition_113 ?_
                  exact pw_locs _ rfl (ih (i + 1) _ m2 (by omega) (by omega) (iOr_ran _ _) hTn hS2 hV2 hF2 (by rw [trG_21, if_pos hk0]; exact x2))
                · skip
                  exfalso; omega
              · skip
                have hv98 : trG (cdM A c k) (40 * c + A 94 c) k (cdN A c k) (i + 1) 98 (6 * (40 * c + A 94 c) + (i : Int)) = 1 := by rw [trG_98e (cdM A c k) (40 * c + A 94 c) k (cdN A c k) i, if_pos hk0, if_pos (by omega)]
                have hTy : ∀ j : Nat, j < 32 → (tb (iOr T (iShl 1 (i : Int))) j = true ↔ (j < i + 1 ∧ trG (cdM A c k) (40 * c + A 94 c) k (cdN A c k) (i + 1) 98 (6 * (40 * c + A 94 c) + j) = 1)) := fun j hj => by
                  rw [tb_or, tb_shl 1 (i : Int) (by omega) j hj, tb_1, Bool.or_eq_true, hT j hj, Bool.and_eq_true, decide_eq_true_iff, decide_eq_true_iff]
                  by_cases e : j = i
                  · subst e
                    rw [hv98]
                    exact ⟨fun _ => ⟨by omega, rfl⟩, fun _ => Or.inr ⟨by omega, by omega⟩⟩
                  · rw [trG_98s _ _ _ _ _ _ (by omega)]
                    constructor
                    · intro z
                      rcases z with z | z
                      · exact ⟨by omega, z.2⟩
                      · omega
                    · intro z; exact Or.inl ⟨by omega, z.2⟩
                refine pw_iconst dX2_drawCondition_69 ?_
                refine pw_goto 90 (by decide) dX2_drawCondition_70 ?_
                refine pw_istore dX2_drawCondition_90 (by decide) ?_
                refine pw_iload dX2_drawCondition_92 rfl ?_
                refine pw_iload dX2_drawCondition_94 rfl ?_
                refine pw_if_eq 106 (by decide) dX2_drawCondition_96 (by omega) (fun c96 => ?_) (fun c96 => ?_)
                · skip
                  exfalso; omega
                · skip
                  refine pw_iconst dX2_drawCondition_99 ?_
                  refine pw_iload dX2_drawCondition_100 rfl ?_
                  refine pw_ishl dX2_drawCondition_102 ?_
                  refine pw_goto 107 (by decide) dX2_drawCondition_103 ?_
                  refine pw_ior dX2_drawCondition_107 ?_
                  refine pw_istore dX2_drawCondition_108 (by decide) ?_
                  refine pw_iinc dX2_drawCondition_110 rfl (by decide) ?_
                  refine pw_goto 49 (by decide) dX2_drawCondition_113 ?_
                  exact pw_locs _ rfl (ih (i + 1) _ m2 (by omega) (by omega) (iOr_ran _ _) hTy hS2 hV2 hF2 (by rw [trG_21, if_pos hk0]; exact x2))
      exact pw_locs _ rfl (lp49 7 0 0 m1 (by omega) (by omega) (by omega) (fun j _ => ⟨fun z => absurd z (by rw [tb_0]; decide), fun z => absurd z.1 (Nat.not_lt_zero j)⟩) hS1 hV1 hF1 x1)
set_option maxHeartbeats 4000000 in
set_option maxRecDepth 100000 in
theorem d_cond0 (d : Nat) (hd : 4 ≤ d) (n : Nat) (ok : pO) (mem : pM) (b : Nat) (hC : ChUp n ok b) (hDr : Of n ok 2 77) (A : pM) (c : Int) (hI : cIn A c) (hS : CS A c mem b) (hV : CV A c mem b (aAt A c)) (h21 : mem 77 0 = A 88 21) (hp4 : pPK A c) (hn4 : nPK A c 4) (k : Nat) (hk0 : k ≠ 0) (h40 : A 94 c < 40) : PM mi_X2_drawCondition d [vr 77, vr b, vi 0] n ok mem n (fun r0 ok' mem' => r0 = none ∧ ok = ok' ∧ chD b mem mem' ∧ CS (cdS A c k) c mem' b ∧ CV (cdS A c k) c mem' b (aAt (cdS A c k) c) ∧ mem' 77 0 = cdS A c k 88 21) := by
  obtain ⟨hC0, ⟨hC1, hC2, hC3, hC4, hC5, hC6, hC7⟩, hC8, ⟨hC9, hC10, hC11, hC12, hC13, hC14, hC15⟩, hC16, hC17, hb5, hb59⟩ := id hC
  have eA : cdA A k = sDrw (dv (dNx (A 88 21)) 4) := by unfold cdA; rw [if_neg hk0]
  have eX : cdX A k = dNx (A 88 21) := by unfold cdX; rw [if_neg hk0]
  have hnc := hI.2.2.1.1
  refine PM.of (by decide) (by decide) (Nat.le_refl _) (Nat.le_of_ble_eq_true rfl) ?_
  refine pw_iload_n 2 rfl dX2_drawCondition_0 rfl ?_
  refine pw_if_eq 8 (by decide) dX2_drawCondition_1 (by omega) (fun c1 => ?_) (fun c1 => ?_)
  · skip
    refine pw_aload_n 0 rfl dX2_drawCondition_8 rfl ?_
    refine pw_callV (d' := d - 1) (As := []) (ci := 2) dX2_drawCondition_9 ok_X2_drawSeat kw_628 rfl rfl (Of.o (by assumption)) (by omega) rfl (Nat.le_of_ble_eq_true rfl) (d_seat (d - 1) (by omega) n ok mem hDr) (Nat.le_refl _) (Or.inl rfl) (fun r9 ok1 m0 hq => ?_)
    obtain ⟨rfl, rfl, em0⟩ := hq
    rw [h21] at em0 ⊢
    have hS0 : CS A c m0 b := by rw [← em0]; exact hS.x hb59 _
    have hV0 : CV A c m0 b (aAt A c) := by rw [← em0]; exact hV.x hb59 _
    have hF0 : chD b mem m0 := by rw [← em0]; exact chD.w b mem hb59 _
    have x0 : m0 77 0 = cdX A k := by rw [← em0, wr_s, eX]
    refine pw_istore_n 3 rfl dX2_drawCondition_12 (by decide) ?_
    refine pw_aload_n 0 rfl dX2_drawCondition_13 rfl ?_
    skip
    refine pw_callV (d' := d - 1) (As := []) (ci := 2) dX2_drawCondition_14 ok_X2_drawSeat kw_628 rfl rfl (Of.o (by assumption)) (by omega) rfl (Nat.le_of_ble_eq_true rfl) (d_seat (d - 1) (by omega) n ok m0 hDr) (Nat.le_refl _) (Or.inl rfl) (fun r9 ok1 m1 hq => ?_)
    obtain ⟨rfl, rfl, em1⟩ := hq
    rw [x0] at em1 ⊢
    have eL : sDrw (dv (dNx (cdX A k)) 4) = (cdL A k) := rfl
    rw [eL]
    have hS1 : CS A c m1 b := by rw [← em1]; exact hS0.x hb59 _
    have hV1 : CV A c m1 b (aAt A c) := by rw [← em1]; exact hV0.x hb59 _
    have hF1 : chD b mem m1 := hF0.tr (by rw [← em1]; exact chD.w b _ hb59 _)
    have x1 : m1 77 0 = (cdM A c k) 88 21 := by rw [← em1, wr_s]; unfold cdM rMore; rw [wr_a _ _ _ (by omega), fiM_a _ _ _ _ (by omega), wr_a _ _ _ (by omega), wr_a _ _ _ (by omega), wr_a _ _ _ (by omega), wr_s]
    have hdL := dv_ran (dNx (cdX A k)) (k := 4) (by omega)
    have hLr := sDrw_ran hdL.1 hdL.2
    rw [eL] at hLr
    have hnk := hn4 _ hdL.1 hdL.2
    rw [eL] at hnk
    have e2 : m1 (b + 2) (cdL A k) = A 90 (16 * c + (cdL A k)) := (hS1.1.2.1 _ (by omega) (by omega)).1
    have e3 : m1 (b + 3) (cdL A k) = A 91 (16 * c + (cdL A k)) := by rw [(hS1.1.2.1 _ (by omega) (by omega)).2.1]; unfold eSp; rw [if_neg (show aKind A c (cdL A k) ≠ -1 from hnk)]
    have hNr := cdN_ran hp4 hn4 k
    refine pw_istore dX2_drawCondition_17 (by decide) ?_
    refine pw_aload_n 1 rfl dX2_drawCondition_19 rfl ?_
    refine pw_gR 2 (b + 2) dX2_drawCondition_20 cOk0 (by assumption) (by decide) kw_231 (by decide) rfl ?_
    refine pw_iload dX2_drawCondition_23 rfl ?_
    refine pw_iaload dX2_drawCondition_25 (by assumption) (by omega) (by omega) (fun r25 => ?_)
    rw [e2] at r25 ⊢
    refine pw_iconst dX2_drawCondition_26 ?_
    refine pw_icmp_ne 34 (by decide) dX2_drawCondition_27 (by omega) (by omega) (fun c27 => ?_) (fun c27 => ?_)
    · skip
      have eN : (cdN A c k) = A 91 (16 * c + (cdL A k)) := by unfold cdN; rw [if_neg c27]
      refine pw_aload_n 1 rfl dX2_drawCondition_34 rfl ?_
      refine pw_gR 3 (b + 3) dX2_drawCondition_35 cOk0 (by assumption) (by decide) kw_235 (by decide) rfl ?_
      refine pw_iload dX2_drawCondition_38 rfl ?_
      refine pw_iaload dX2_drawCondition_40 (by assumption) (by omega) (by omega) (fun r40 => ?_)
      rw [e3] at r40 ⊢
      rw [← eN]
      refine pw_istore dX2_drawCondition_41 (by decide) ?_
      refine pw_iconst dX2_drawCondition_43 ?_
      refine pw_istore dX2_drawCondition_44 (by decide) ?_
      refine pw_iconst dX2_drawCondition_46 ?_
      refine pw_istore dX2_drawCondition_47 (by decide) ?_
      have lp49 : ∀ (kz : Nat) (i : Nat) (T : Int) (m2 : pM), (cdN A c k) - (i : Int) < (kz : Int) → ((i : Int) ≤ (cdN A c k)) → (-2147483648 ≤ T ∧ T ≤ 2147483647) → (∀ j : Nat, j < 32 → (tb T j = true ↔ (j < i ∧ (trG (cdM A c k) (40 * c + A 94 c) k (cdN A c k) i) 98 (6 * (40 * c + A 94 c) + j) = 1))) → (CS A c m2 b) → (CV A c m2 b (aAt A c)) → (chD b mem m2) → (m2 77 0 = (trG (cdM A c k) (40 * c + A 94 c) k (cdN A c k) i) 88 21) → PW mi_X2_drawCondition d n n (fun r0 ok' mem' => r0 = none ∧ ok = ok' ∧ chD b mem mem' ∧ CS (cdS A c k) c mem' b ∧ CV (cdS A c k) c mem' b (aAt (cdS A c k) c) ∧ mem' 77 0 = cdS A c k 88 21) 49 [(0, vr 77), (1, vr b), (2, vi 0), (3, vi (sDrw (dv (dNx (A 88 21)) 4))), (4, vi (cdL A k)), (5, vi (cdN A c k)), (6, vi T), (7, vi (i : Int))] [] n ok m2 := by
        intro kz
        induction kz with
        | zero =>
          intro i T m2 hk hi hTr hT hS2 hV2 hF2 x2
          exact absurd hk (by omega)
        | succ kz ih =>
          intro i T m2 hk hi hTr hT hS2 hV2 hF2 x2
          refine pw_iload dX2_drawCondition_49 rfl ?_
          refine pw_iload dX2_drawCondition_51 rfl ?_
          refine pw_icmp_ge 116 (by decide) dX2_drawCondition_53 (by omega) (by omega) (fun c53 => ?_) (fun c53 => ?_)
          · skip
            have ei : i = (cdN A c k).toNat := by omega
            have hcS : cdS A c k = (trG (cdM A c k) (40 * c + A 94 c) k (cdN A c k) i) := by unfold cdS; rw [ei]
            rw [← hcS] at hT x2
            have hseat : -1 ≤ sDrw (dv (dNx (A 88 21)) 4) ∧ sDrw (dv (dNx (A 88 21)) 4) ≤ 15 := by have hdA := dv_ran (dNx (A 88 21)) (k := 4) (by omega); have := sDrw_ran hdA.1 hdA.2; omega
            have vr9 := rMore_v A c (sDrw (dv (dNx (A 88 21)) 4)) (cdL A k) (cdN A c k)
            obtain ⟨A2, eA2⟩ : ∃ y : pM, y = fun a => if a = 98 then cdS A c k 98 else rMore A c (sDrw (dv (dNx (A 88 21)) 4)) (cdL A k) (cdN A c k) a := ⟨_, rfl⟩
            have a98 : A2 98 = cdS A c k 98 := by rw [eA2]; exact if_pos rfl
            have ao : ∀ a, a ≠ 98 → A2 a = rMore A c (sDrw (dv (dNx (A 88 21)) 4)) (cdL A k) (cdN A c k) a := fun a ha => by rw [eA2]; exact if_neg ha
            have hcdM : ∀ a, a ≠ 88 → (cdM A c k) a = rMore A c (sDrw (dv (dNx (A 88 21)) 4)) (cdL A k) (cdN A c k) a := fun a h1 => by
              have w := rMore_v (wr A 88 21 (dNx (cdX A k))) c (sDrw (dv (dNx (A 88 21)) 4)) (cdL A k) (cdN A c k)
              unfold cdM; rw [eA]
              exact rMore_88 A c _ _ _ _ a h1
            have hcd : ∀ a, a ≠ 88 → a ≠ 98 → cdS A c k a = rMore A c (sDrw (dv (dNx (A 88 21)) 4)) (cdL A k) (cdN A c k) a := fun a h1 h2 => by
              rw [hcS, trG_a _ _ _ _ _ _ h2 h1]
              exact hcdM a h1
            have h1 : cIn (rMore A c (sDrw (dv (dNx (A 88 21)) 4)) (cdL A k) (cdN A c k)) c := cIn_more hI hseat (by omega) (by omega) (by omega)
            have h98 : ∀ j : Int, (j < 6 * (40 * c + A 94 c) ∨ 6 * (40 * c + A 94 c) + (cdN A c k) ≤ j) → cdS A c k 98 j = rMore A c (sDrw (dv (dNx (A 88 21)) 4)) (cdL A k) (cdN A c k) 98 j := fun j hj => by
              rw [hcS]
              rcases trG_98 (cdM A c k) (40 * c + A 94 c) k (cdN A c k) i j with z | z
              · rw [z, hcdM 98 (by omega)]
              · omega
            have hTS : trS (rMore A c (sDrw (dv (dNx (A 88 21)) 4)) (cdL A k) (cdN A c k)) A2 c (A 94 c) 0 (cdN A c k) T := by
              refine ⟨ao, fun j hj => by rw [a98]; exact h98 j (by omega), fun j hj => ?_⟩
              rw [a98]
              by_cases e : 0 ≤ (j : Int) ∧ (j : Int) < 0 + (cdN A c k)
              · rw [if_pos e]
                show _ ↔ tb T j = true
                rw [hT j (by omega)]
                exact ⟨fun z => ⟨by omega, z⟩, fun z => z.2⟩
              · rw [if_neg e, h98 _ (by omega)]
            have hI2 : cIn A2 c := cIn_98 h1 (fun a _ _ h3 => ao a h3) (fun k2 k3 k4 i2 i3 i4 => by
              rw [vr9.2.1] at k4
              rw [a98, hcS]
              rcases trG_98 (cdM A c k) (40 * c + A 94 c) k (cdN A c k) i (6 * (40 * c + k2) + i2) with z | z
              · rw [z, hcdM 98 (by omega)]
                exact (h1.2.2.1.2 k2 k3 (by rw [vr9.2.1]; omega)).2.2.2 i2 i3 i4
              · exact z.2)
            have hEq : chEq A2 c (cdS A c k) c := chEq.of (fun a q1 q2 _ => by
              by_cases e : a = 98
              · rw [e, a98]
              · rw [hcd a (by omega) e, ao a e])
            refine pw_aload_n 1 rfl dX2_drawCondition_116 rfl ?_
            refine pw_aload_n 1 rfl dX2_drawCondition_117 rfl ?_
            refine pw_iload_n 3 rfl dX2_drawCondition_118 rfl ?_
            refine pw_iload dX2_drawCondition_119 rfl ?_
            refine pw_iload dX2_drawCondition_121 rfl ?_
            refine pw_callV (d' := d - 1) (As := [_, _, _]) (ci := 0) dX2_drawCondition_123 ok_X0_addCondition kw_632 rfl rfl (Of.o (by assumption)) (by omega) rfl (Nat.le_of_ble_eq_true rfl) (h_addCondition (d - 1) (by omega) n ok m2 b hC A c (aAt A c) hS2.1 hS2.2.2 hV2 hI (sDrw (dv (dNx (A 88 21)) 4)) (cdL A k) (cdN A c k) hseat (by omega) (by omega) (by omega) h1) (Nat.le_refl _) (Or.inl rfl) (fun r9 ok1 m4 hq => ?_)
            obtain ⟨rfl, rfl, hM4, hS4, hV4⟩ := hq
            refine pw_iconst dX2_drawCondition_126 ?_
            refine pw_iload dX2_drawCondition_127 rfl ?_
            refine pw_iload dX2_drawCondition_129 rfl ?_
            refine pw_callV (d' := d - 1) (As := [_, _, _, _]) (ci := 0) dX2_drawCondition_131 ok_X0_setTruths kw_633 rfl rfl (Of.o (by assumption)) (by omega) rfl (Nat.le_of_ble_eq_true rfl) (h_setTruths (d - 1) (by omega) n ok m4 b hC (rMore A c (sDrw (dv (dNx (A 88 21)) 4)) (cdL A k) (cdN A c k)) c (aAt A c) hS4.1 hS4.2.2 hV4 h1 A2 (A 94 c) 0 (cdN A c k) T (by rw [vr9.2.1]; omega) (by omega) (by omega) (by omega) hTS hI2) (Nat.le_refl _) (Or.inl rfl) (fun r9 ok1 m5 hq => ?_)
            obtain ⟨rfl, rfl, hM5, hS5, hV5⟩ := hq
            refine pw_vret dX2_drawCondition_134 rfl rfl ?_
            refine ⟨rfl, rfl, (hF2.tr hM4.d).tr hM5.d, CS_t hI2 hS5 hEq, CV_t hV5 (fun s s1 s2 => ⟨?_, fun _ => ?_⟩), ?_⟩
            · rw [hcd 90 (by omega) (by omega), ao 90 (by omega)]
            · show cdS A c k 92 _ = A 92 _; rw [hcd 92 (by omega) (by omega), vr9.1 92 (by omega)]
            · rw [hM5.1 77 (by omega), hM4.1 77 (by omega)]; exact x2
          · skip
            refine pw_iload_n 2 rfl dX2_drawCondition_56 rfl ?_
            refine pw_if_eq 77 (by decide) dX2_drawCondition_57 (by omega) (fun c57 => ?_) (fun c57 => ?_)
            · skip
              refine pw_aload_n 0 rfl dX2_drawCondition_77 rfl ?_
              refine pw_iconst dX2_drawCondition_78 ?_
              refine pw_callV (d' := d - 1) (As := [_]) (ci := 2) dX2_drawCondition_79 ok_X2_below kw_618 rfl rfl (Of.o (by assumption)) (by omega) rfl (Nat.le_of_ble_eq_true rfl) (d_below (d - 1) (by omega) n ok m2 hDr 3 (by omega)) (Nat.le_refl _) (Or.inl rfl) (fun r9 ok1 m3 hq => ?_)
              obtain ⟨rfl, rfl, em3⟩ := hq
              rw [x2] at em3 ⊢
              have hS3 : CS A c m3 b := by rw [← em3]; exact hS2.x hb59 _
              have hV3 : CV A c m3 b (aAt A c) := by rw [← em3]; exact hV2.x hb59 _
              have hF3 : chD b mem m3 := hF2.tr (by rw [← em3]; exact chD.w b _ hb59 _)
              have x3 : m3 77 0 = trG (cdM A c k) (40 * c + A 94 c) k (cdN A c k) (i + 1) 88 21 := by rw [trG_21, if_neg hk0, ← em3, wr_s]
              have hd3 := dv_ran (dNx ((trG (cdM A c k) (40 * c + A 94 c) k (cdN A c k) i) 88 21)) (k := 3) (by omega)
              refine pw_if_eq 89 (by decide) dX2_drawCondition_82 (by omega) (fun c82 => ?_) (fun c82 => ?_)
              · skip
                have hv98 : trG (cdM A c k) (40 * c + A 94 c) k (cdN A c k) (i + 1) 98 (6 * (40 * c + A 94 c) + (i : Int)) = 0 := by rw [trG_98e (cdM A c k) (40 * c + A 94 c) k (cdN A c k) i, if_neg hk0, if_pos c82]
                have hTn : ∀ j : Nat, j < 32 → (tb (iOr T 0) j = true ↔ (j < i + 1 ∧ trG (cdM A c k) (40 * c + A 94 c) k (cdN A c k) (i + 1) 98 (6 * (40 * c + A 94 c) + j) = 1)) := fun j hj => by
                  rw [tb_or, tb_0, Bool.or_false, hT j hj]
                  by_cases e : j = i
                  · subst e
                    rw [hv98]
                    exact ⟨fun z => by omega, fun z => absurd z.2 (by omega)⟩
                  · rw [trG_98s _ _ _ _ _ _ (by omega)]
                    exact ⟨fun z => ⟨by omega, z.2⟩, fun z => ⟨by omega, z.2⟩⟩
                refine pw_iconst dX2_drawCondition_89 ?_
                refine pw_istore dX2_drawCondition_90 (by decide) ?_
                refine pw_iload dX2_drawCondition_92 rfl ?_
                refine pw_iload dX2_drawCondition_94 rfl ?_
                refine pw_if_eq 106 (by decide) dX2_drawCondition_96 (by omega) (fun c96 => ?_) (fun c96 => ?_)
                · skip
                  refine pw_iconst dX2_drawCondition_106 ?_
                  refine pw_ior dX2_drawCondition_107 ?_
                  refine pw_istore dX2_drawCondition_108 (by decide) ?_
                  refine pw_iinc dX2_drawCondition_110 rfl (by decide) ?_
                  refine pw_goto 49 (by decide) dX2_drawCondition_113 ?_
                  exact pw_locs _ rfl (ih (i + 1) _ m3 (by omega) (by omega) (iOr_ran _ _) hTn hS3 hV3 hF3 x3)
                · skip
                  exfalso; omega
              · skip
                have hv98 : trG (cdM A c k) (40 * c + A 94 c) k (cdN A c k) (i + 1) 98 (6 * (40 * c + A 94 c) + (i : Int)) = 1 := by rw [trG_98e (cdM A c k) (40 * c + A 94 c) k (cdN A c k) i, if_neg hk0, if_neg c82]
                have hTy : ∀ j : Nat, j < 32 → (tb (iOr T (iShl 1 (i : Int))) j = true ↔ (j < i + 1 ∧ trG (cdM A c k) (40 * c + A 94 c) k (cdN A c k) (i + 1) 98 (6 * (40 * c + A 94 c) + j) = 1)) := fun j hj => by
                  rw [tb_or, tb_shl 1 (i : Int) (by omega) j hj, tb_1, Bool.or_eq_true, hT j hj, Bool.and_eq_true, decide_eq_true_iff, decide_eq_true_iff]
                  by_cases e : j = i
                  · subst e
                    rw [hv98]
                    exact ⟨fun _ => ⟨by omega, rfl⟩, fun _ => Or.inr ⟨by omega, by omega⟩⟩
                  · rw [trG_98s _ _ _ _ _ _ (by omega)]
                    constructor
                    · intro z
                      rcases z with z | z
                      · exact ⟨by omega, z.2⟩
                      · omega
                    · intro z; exact Or.inl ⟨by omega, z.2⟩
                refine pw_iconst dX2_drawCondition_85 ?_
                refine pw_goto 90 (by decide) dX2_drawCondition_86 ?_
                refine pw_istore dX2_drawCondition_90 (by decide) ?_
                refine pw_iload dX2_drawCondition_92 rfl ?_
                refine pw_iload dX2_drawCondition_94 rfl ?_
                refine pw_if_eq 106 (by decide) dX2_drawCondition_96 (by omega) (fun c96 => ?_) (fun c96 => ?_)
                · skip
                  exfalso; omega
                · skip
                  refine pw_iconst dX2_drawCondition_99 ?_
                  refine pw_iload dX2_drawCondition_100 rfl ?_
                  refine pw_ishl dX2_drawCondition_102 ?_
                  refine pw_goto 107 (by decide) dX2_drawCondition_103 ?_
                  refine pw_ior dX2_drawCondition_107 ?_
                  refine pw_istore dX2_drawCondition_108 (by decide) ?_
                  refine pw_iinc dX2_drawCondition_110 rfl (by decide) ?_
                  refine pw_goto 49 (by decide) dX2_drawCondition_113 ?_
                  exact pw_locs _ rfl (ih (i + 1) _ m3 (by omega) (by omega) (iOr_ran _ _) hTy hS3 hV3 hF3 x3)
            · skip
              exfalso; omega
      exact pw_locs _ rfl (lp49 7 0 0 m1 (by omega) (by omega) (by omega) (fun j _ => ⟨fun z => absurd z (by rw [tb_0]; decide), fun z => absurd z.1 (Nat.not_lt_zero j)⟩) hS1 hV1 hF1 x1)
    · skip
      have eN : (cdN A c k) = 2 := by unfold cdN; rw [if_pos (by omega)]
      refine pw_iconst dX2_drawCondition_30 ?_
      refine pw_goto 41 (by decide) dX2_drawCondition_31 ?_
      rw [← eN]
      refine pw_istore dX2_drawCondition_41 (by decide) ?_
      refine pw_iconst dX2_drawCondition_43 ?_
      refine pw_istore dX2_drawCondition_44 (by decide) ?_
      refine pw_iconst dX2_drawCondition_46 ?_
      refine pw_istore dX2_drawCondition_47 (by decide) ?_
      have lp49 : ∀ (kz : Nat) (i : Nat) (T : Int) (m2 : pM), (cdN A c k) - (i : Int) < (kz : Int) → ((i : Int) ≤ (cdN A c k)) → (-2147483648 ≤ T ∧ T ≤ 2147483647) → (∀ j : Nat, j < 32 → (tb T j = true ↔ (j < i ∧ (trG (cdM A c k) (40 * c + A 94 c) k (cdN A c k) i) 98 (6 * (40 * c + A 94 c) + j) = 1))) → (CS A c m2 b) → (CV A c m2 b (aAt A c)) → (chD b mem m2) → (m2 77 0 = (trG (cdM A c k) (40 * c + A 94 c) k (cdN A c k) i) 88 21) → PW mi_X2_drawCondition d n n (fun r0 ok' mem' => r0 = none ∧ ok = ok' ∧ chD b mem mem' ∧ CS (cdS A c k) c mem' b ∧ CV (cdS A c k) c mem' b (aAt (cdS A c k) c) ∧ mem' 77 0 = cdS A c k 88 21) 49 [(0, vr 77), (1, vr b), (2, vi 0), (3, vi (sDrw (dv (dNx (A 88 21)) 4))), (4, vi (cdL A k)), (5, vi (cdN A c k)), (6, vi T), (7, vi (i : Int))] [] n ok m2 := by
        intro kz
        induction kz with
        | zero =>
          intro i T m2 hk hi hTr hT hS2 hV2 hF2 x2
          exact absurd hk (by omega)
        | succ kz ih =>
          intro i T m2 hk hi hTr hT hS2 hV2 hF2 x2
          refine pw_iload dX2_drawCondition_49 rfl ?_
          refine pw_iload dX2_drawCondition_51 rfl ?_
          refine pw_icmp_ge 116 (by decide) dX2_drawCondition_53 (by omega) (by omega) (fun c53 => ?_) (fun c53 => ?_)
          · skip
            have ei : i = (cdN A c k).toNat := by omega
            have hcS : cdS A c k = (trG (cdM A c k) (40 * c + A 94 c) k (cdN A c k) i) := by unfold cdS; rw [ei]
            rw [← hcS] at hT x2
            have hseat : -1 ≤ sDrw (dv (dNx (A 88 21)) 4) ∧ sDrw (dv (dNx (A 88 21)) 4) ≤ 15 := by have hdA := dv_ran (dNx (A 88 21)) (k := 4) (by omega); have := sDrw_ran hdA.1 hdA.2; omega
            have vr9 := rMore_v A c (sDrw (dv (dNx (A 88 21)) 4)) (cdL A k) (cdN A c k)
            obtain ⟨A2, eA2⟩ : ∃ y : pM, y = fun a => if a = 98 then cdS A c k 98 else rMore A c (sDrw (dv (dNx (A 88 21)) 4)) (cdL A k) (cdN A c k) a := ⟨_, rfl⟩
            have a98 : A2 98 = cdS A c k 98 := by rw [eA2]; exact if_pos rfl
            have ao : ∀ a, a ≠ 98 → A2 a = rMore A c (sDrw (dv (dNx (A 88 21)) 4)) (cdL A k) (cdN A c k) a := fun a ha => by rw [eA2]; exact if_neg ha
            have hcdM : ∀ a, a ≠ 88 → (cdM A c k) a = rMore A c (sDrw (dv (dNx (A 88 21)) 4)) (cdL A k) (cdN A c k) a := fun a h1 => by
              have w := rMore_v (wr A 88 21 (dNx (cdX A k))) c (sDrw (dv (dNx (A 88 21)) 4)) (cdL A k) (cdN A c k)
              unfold cdM; rw [eA]
              exact rMore_88 A c _ _ _ _ a h1
            have hcd : ∀ a, a ≠ 88 → a ≠ 98 → cdS A c k a = rMore A c (sDrw (dv (dNx (A 88 21)) 4)) (cdL A k) (cdN A c k) a := fun a h1 h2 => by
              rw [hcS, trG_a _ _ _ _ _ _ h2 h1]
              exact hcdM a h1
            have h1 : cIn (rMore A c (sDrw (dv (dNx (A 88 21)) 4)) (cdL A k) (cdN A c k)) c := cIn_more hI hseat (by omega) (by omega) (by omega)
            have h98 : ∀ j : Int, (j < 6 * (40 * c + A 94 c) ∨ 6 * (40 * c + A 94 c) + (cdN A c k) ≤ j) → cdS A c k 98 j = rMore A c (sDrw (dv (dNx (A 88 21)) 4)) (cdL A k) (cdN A c k) 98 j := fun j hj => by
              rw [hcS]
              rcases trG_98 (cdM A c k) (40 * c + A 94 c) k (cdN A c k) i j with z | z
              · rw [z, hcdM 98 (by omega)]
              · omega
            have hTS : trS (rMore A c (sDrw (dv (dNx (A 88 21)) 4)) (cdL A k) (cdN A c k)) A2 c (A 94 c) 0 (cdN A c k) T := by
              refine ⟨ao, fun j hj => by rw [a98]; exact h98 j (by omega), fun j hj => ?_⟩
              rw [a98]
              by_cases e : 0 ≤ (j : Int) ∧ (j : Int) < 0 + (cdN A c k)
              · rw [if_pos e]
                show _ ↔ tb T j = true
                rw [hT j (by omega)]
                exact ⟨fun z => ⟨by omega, z⟩, fun z => z.2⟩
              · rw [if_neg e, h98 _ (by omega)]
            have hI2 : cIn A2 c := cIn_98 h1 (fun a _ _ h3 => ao a h3) (fun k2 k3 k4 i2 i3 i4 => by
              rw [vr9.2.1] at k4
              rw [a98, hcS]
              rcases trG_98 (cdM A c k) (40 * c + A 94 c) k (cdN A c k) i (6 * (40 * c + k2) + i2) with z | z
              · rw [z, hcdM 98 (by omega)]
                exact (h1.2.2.1.2 k2 k3 (by rw [vr9.2.1]; omega)).2.2.2 i2 i3 i4
              · exact z.2)
            have hEq : chEq A2 c (cdS A c k) c := chEq.of (fun a q1 q2 _ => by
              by_cases e : a = 98
              · rw [e, a98]
              · rw [hcd a (by omega) e, ao a e])
            refine pw_aload_n 1 rfl dX2_drawCondition_116 rfl ?_
            refine pw_aload_n 1 rfl dX2_drawCondition_117 rfl ?_
            refine pw_iload_n 3 rfl dX2_drawCondition_118 rfl ?_
            refine pw_iload dX2_drawCondition_119 rfl ?_
            refine pw_iload dX2_drawCondition_121 rfl ?_
            refine pw_callV (d' := d - 1) (As := [_, _, _]) (ci := 0) dX2_drawCondition_123 ok_X0_addCondition kw_632 rfl rfl (Of.o (by assumption)) (by omega) rfl (Nat.le_of_ble_eq_true rfl) (h_addCondition (d - 1) (by omega) n ok m2 b hC A c (aAt A c) hS2.1 hS2.2.2 hV2 hI (sDrw (dv (dNx (A 88 21)) 4)) (cdL A k) (cdN A c k) hseat (by omega) (by omega) (by omega) h1) (Nat.le_refl _) (Or.inl rfl) (fun r9 ok1 m4 hq => ?_)
            obtain ⟨rfl, rfl, hM4, hS4, hV4⟩ := hq
            refine pw_iconst dX2_drawCondition_126 ?_
            refine pw_iload dX2_drawCondition_127 rfl ?_
            refine pw_iload dX2_drawCondition_129 rfl ?_
            refine pw_callV (d' := d - 1) (As := [_, _, _, _]) (ci := 0) dX2_drawCondition_131 ok_X0_setTruths kw_633 rfl rfl (Of.o (by assumption)) (by omega) rfl (Nat.le_of_ble_eq_true rfl) (h_setTruths (d - 1) (by omega) n ok m4 b hC (rMore A c (sDrw (dv (dNx (A 88 21)) 4)) (cdL A k) (cdN A c k)) c (aAt A c) hS4.1 hS4.2.2 hV4 h1 A2 (A 94 c) 0 (cdN A c k) T (by rw [vr9.2.1]; omega) (by omega) (by omega) (by omega) hTS hI2) (Nat.le_refl _) (Or.inl rfl) (fun r9 ok1 m5 hq => ?_)
            obtain ⟨rfl, rfl, hM5, hS5, hV5⟩ := hq
            refine pw_vret dX2_drawCondition_134 rfl rfl ?_
            refine ⟨rfl, rfl, (hF2.tr hM4.d).tr hM5.d, CS_t hI2 hS5 hEq, CV_t hV5 (fun s s1 s2 => ⟨?_, fun _ => ?_⟩), ?_⟩
            · rw [hcd 90 (by omega) (by omega), ao 90 (by omega)]
            · show cdS A c k 92 _ = A 92 _; rw [hcd 92 (by omega) (by omega), vr9.1 92 (by omega)]
            · rw [hM5.1 77 (by omega), hM4.1 77 (by omega)]; exact x2
          · skip
            refine pw_iload_n 2 rfl dX2_drawCondition_56 rfl ?_
            refine pw_if_eq 77 (by decide) dX2_drawCondition_57 (by omega) (fun c57 => ?_) (fun c57 => ?_)
            · skip
              refine pw_aload_n 0 rfl dX2_drawCondition_77 rfl ?_
              refine pw_iconst dX2_drawCondition_78 ?_
              refine pw_callV (d' := d - 1) (As := [_]) (ci := 2) dX2_drawCondition_79 ok_X2_below kw_618 rfl rfl (Of.o (by assumption)) (by omega) rfl (Nat.le_of_ble_eq_true rfl) (d_below (d - 1) (by omega) n ok m2 hDr 3 (by omega)) (Nat.le_refl _) (Or.inl rfl) (fun r9 ok1 m3 hq => ?_)
              obtain ⟨rfl, rfl, em3⟩ := hq
              rw [x2] at em3 ⊢
              have hS3 : CS A c m3 b := by rw [← em3]; exact hS2.x hb59 _
              have hV3 : CV A c m3 b (aAt A c) := by rw [← em3]; exact hV2.x hb59 _
              have hF3 : chD b mem m3 := hF2.tr (by rw [← em3]; exact chD.w b _ hb59 _)
              have x3 : m3 77 0 = trG (cdM A c k) (40 * c + A 94 c) k (cdN A c k) (i + 1) 88 21 := by rw [trG_21, if_neg hk0, ← em3, wr_s]
              have hd3 := dv_ran (dNx ((trG (cdM A c k) (40 * c + A 94 c) k (cdN A c k) i) 88 21)) (k := 3) (by omega)
              refine pw_if_eq 89 (by decide) dX2_drawCondition_82 (by omega) (fun c82 => ?_) (fun c82 => ?_)
              · skip
                have hv98 : trG (cdM A c k) (40 * c + A 94 c) k (cdN A c k) (i + 1) 98 (6 * (40 * c + A 94 c) + (i : Int)) = 0 := by rw [trG_98e (cdM A c k) (40 * c + A 94 c) k (cdN A c k) i, if_neg hk0, if_pos c82]
                have hTn : ∀ j : Nat, j < 32 → (tb (iOr T 0) j = true ↔ (j < i + 1 ∧ trG (cdM A c k) (40 * c + A 94 c) k (cdN A c k) (i + 1) 98 (6 * (40 * c + A 94 c) + j) = 1)) := fun j hj => by
                  rw [tb_or, tb_0, Bool.or_false, hT j hj]
                  by_cases e : j = i
                  · subst e
                    rw [hv98]
                    exact ⟨fun z => by omega, fun z => absurd z.2 (by omega)⟩
                  · rw [trG_98s _ _ _ _ _ _ (by omega)]
                    exact ⟨fun z => ⟨by omega, z.2⟩, fun z => ⟨by omega, z.2⟩⟩
                refine pw_iconst dX2_drawCondition_89 ?_
                refine pw_istore dX2_drawCondition_90 (by decide) ?_
                refine pw_iload dX2_drawCondition_92 rfl ?_
                refine pw_iload dX2_drawCondition_94 rfl ?_
                refine pw_if_eq 106 (by decide) dX2_drawCondition_96 (by omega) (fun c96 => ?_) (fun c96 => ?_)
                · skip
                  refine pw_iconst dX2_drawCondition_106 ?_
                  refine pw_ior dX2_drawCondition_107 ?_
                  refine pw_istore dX2_drawCondition_108 (by decide) ?_
                  refine pw_iinc dX2_drawCondition_110 rfl (by decide) ?_
                  refine pw_goto 49 (by decide) dX2_drawCondition_113 ?_
                  exact pw_locs _ rfl (ih (i + 1) _ m3 (by omega) (by omega) (iOr_ran _ _) hTn hS3 hV3 hF3 x3)
                · skip
                  exfalso; omega
              · skip
                have hv98 : trG (cdM A c k) (40 * c + A 94 c) k (cdN A c k) (i + 1) 98 (6 * (40 * c + A 94 c) + (i : Int)) = 1 := by rw [trG_98e (cdM A c k) (40 * c + A 94 c) k (cdN A c k) i, if_neg hk0, if_neg c82]
                have hTy : ∀ j : Nat, j < 32 → (tb (iOr T (iShl 1 (i : Int))) j = true ↔ (j < i + 1 ∧ trG (cdM A c k) (40 * c + A 94 c) k (cdN A c k) (i + 1) 98 (6 * (40 * c + A 94 c) + j) = 1)) := fun j hj => by
                  rw [tb_or, tb_shl 1 (i : Int) (by omega) j hj, tb_1, Bool.or_eq_true, hT j hj, Bool.and_eq_true, decide_eq_true_iff, decide_eq_true_iff]
                  by_cases e : j = i
                  · subst e
                    rw [hv98]
                    exact ⟨fun _ => ⟨by omega, rfl⟩, fun _ => Or.inr ⟨by omega, by omega⟩⟩
                  · rw [trG_98s _ _ _ _ _ _ (by omega)]
                    constructor
                    · intro z
                      rcases z with z | z
                      · exact ⟨by omega, z.2⟩
                      · omega
                    · intro z; exact Or.inl ⟨by omega, z.2⟩
                refine pw_iconst dX2_drawCondition_85 ?_
                refine pw_goto 90 (by decide) dX2_drawCondition_86 ?_
                refine pw_istore dX2_drawCondition_90 (by decide) ?_
                refine pw_iload dX2_drawCondition_92 rfl ?_
                refine pw_iload dX2_drawCondition_94 rfl ?_
                refine pw_if_eq 106 (by decide) dX2_drawCondition_96 (by omega) (fun c96 => ?_) (fun c96 => ?_)
                · skip
                  exfalso; omega
                · skip
                  refine pw_iconst dX2_drawCondition_99 ?_
                  refine pw_iload dX2_drawCondition_100 rfl ?_
                  refine pw_ishl dX2_drawCondition_102 ?_
                  refine pw_goto 107 (by decide) dX2_drawCondition_103 ?_
                  refine pw_ior dX2_drawCondition_107 ?_
                  refine pw_istore dX2_drawCondition_108 (by decide) ?_
                  refine pw_iinc dX2_drawCondition_110 rfl (by decide) ?_
                  refine pw_goto 49 (by decide) dX2_drawCondition_113 ?_
                  exact pw_locs _ rfl (ih (i + 1) _ m3 (by omega) (by omega) (iOr_ran _ _) hTy hS3 hV3 hF3 x3)
            · skip
              exfalso; omega
      exact pw_locs _ rfl (lp49 7 0 0 m1 (by omega) (by omega) (by omega) (fun j _ => ⟨fun z => absurd z (by rw [tb_0]; decide), fun z => absurd z.1 (Nat.not_lt_zero j)⟩) hS1 hV1 hF1 x1)
  · skip
    exfalso; omega
theorem layA_v (A : pM) (c r x : Int) : (∀ j, layA A c r x 89 j = if j = 4 * c + r then x else A 89 j) ∧ (∀ j, layA A c r x 90 j = if 16 * c + 4 * r ≤ j ∧ j < 16 * c + 4 * r + 4 then -1 else A 90 j) ∧ ∀ a, a ≠ 89 → a ≠ 90 → layA A c r x a = A a := by
  refine ⟨fun j => ?_, fun j => ?_, fun a q1 q2 => by unfold layA; rw [fiM_a _ _ _ _ q2, wr_a _ _ _ q1]⟩
  · unfold layA; rw [fiM_a _ _ _ _ (by omega)]; unfold wr; by_cases q : j = 4 * c + r <;> simp [q]
  · unfold layA fiM
    by_cases q : 16 * c + 4 * r ≤ j ∧ j < 16 * c + 4 * r + 4
    · rw [if_pos ⟨rfl, q⟩, if_pos q]
    · rw [if_neg (fun z => q z.2), if_neg q, wr_a _ _ _ (by omega)]
theorem emR_v (A : pM) (c : Int) (r : Nat) : (∀ j : Int, 0 ≤ j → j < r → emR A c r 89 (4 * c + j) = -1) ∧ (∀ s : Int, 0 ≤ s → s < 4 * r → emR A c r 90 (16 * c + s) = -1) ∧ emR A c r 94 c = 0 := by
  induction r with
  | zero => exact ⟨fun j j1 j2 => absurd j2 (by omega), fun s s1 s2 => absurd s2 (by omega), wr_s _ _ _ _⟩
  | succ r ih =>
    have v := layA_v (emR A c r) c r (-1)
    refine ⟨fun j j1 j2 => ?_, fun s s1 s2 => ?_, ?_⟩
    · show layA (emR A c r) c r (-1) 89 _ = _
      rw [v.1]; split
      · rfl
      · exact ih.1 j j1 (by omega)
    · show layA (emR A c r) c r (-1) 90 _ = _
      rw [v.2.1]; split
      · rfl
      · exact ih.2.1 s s1 (by omega)
    · show layA (emR A c r) c r (-1) 94 _ = _
      rw [v.2.2 94 (by omega) (by omega)]; exact ih.2.2
theorem by0_v (A : pM) (c x : Int) : (∀ j : Int, 0 ≤ j → j ≤ 3 → by0 A c x 89 (4 * c + j) = if j < 2 then 2 else -1) ∧ (∀ s : Int, 0 ≤ s → s ≤ 15 → by0 A c x 90 (16 * c + s) = -1) ∧ by0 A c x 94 c = 0 ∧ by0 A c x 88 21 = nz x := by
  have h := by0_ok A c x
  refine ⟨h.1.1, fun s s1 s2 => ?_, h.2, wr_s _ _ _ _⟩
  unfold by0
  rw [wr_a _ _ _ (by omega), wr_a _ _ _ (by omega)]
  unfold fiM; rw [if_pos ⟨rfl, by omega, by omega⟩]
theorem by0_eq (A9 A : pM) (c9 c x : Int) : chEq (layA (layA (emR A9 c9 4) c9 0 2) c9 1 2) c9 (by0 A c x) c := by
  have e := emR_v A9 c9 4
  have v1 := layA_v (emR A9 c9 4) c9 0 2
  have v2 := layA_v (layA (emR A9 c9 4) c9 0 2) c9 1 2
  have w := by0_v A c x
  have k90 : ∀ s : Int, 0 ≤ s → s ≤ 15 → layA (layA (emR A9 c9 4) c9 0 2) c9 1 2 90 (16 * c9 + s) = -1 := fun s s1 s2 => by
    rw [v2.2.1]; split
    · rfl
    · rw [v1.2.1]; split
      · rfl
      · exact e.2.1 s s1 (by omega)
  refine ⟨fun r r1 r2 => ?_, fun s s1 s2 => ⟨by rw [w.2.1 s s1 s2, k90 s s1 s2], fun z => absurd (k90 s s1 s2) z⟩, by rw [w.2.2.1, v2.2.2 94 (by omega) (by omega), v1.2.2 94 (by omega) (by omega), e.2.2], fun k k1 k2 => ?_⟩
  · rw [w.1 r r1 r2, v2.1, v1.1]
    by_cases q : r = 1
    · rw [if_pos (by omega), if_pos (by omega)]
    · rw [if_neg (show ¬ (4 * c9 + r = 4 * c9 + 1) by omega)]
      by_cases q2 : r = 0
      · rw [if_pos (by omega), if_pos (by omega)]
      · rw [if_neg (by omega), if_neg (by omega), e.1 r r1 (by omega)]
  · rw [v2.2.2 94 (by omega) (by omega), v1.2.2 94 (by omega) (by omega), e.2.2] at k2; omega
theorem nst_99 (m : pM) (c : Int) (k a : Nat) (h : 94 ≤ a) : nst m c k a = m a := nst_94 m c k a (by omega) (by omega)
theorem by0_99 (m : pM) (c x : Int) (a : Nat) (h : 95 ≤ a) : by0 m c x a = m a := by
  unfold by0; rw [wr_a _ _ _ (by omega), wr_a _ _ _ (by omega), fiM_a _ _ _ _ (by omega), bcM_a _ _ _ _ (by omega)]
theorem cIn_nst {A : pM} {c x : Int} (h4 : 0 ≤ A 99 c ∧ A 99 c ≤ 99) (h5 : -1 ≤ A 100 c ∧ A 100 c ≤ 15) (k : Nat) (hk : k ≤ 4) : cIn (nst (by0 A c x) c k) c := by
  have h0 := by0_ok A c x
  have h1 := nst_ok h0.1 k hk
  refine cIn_pk (k := 0) h1.1 ⟨by rw [nst_94 _ _ _ _ (by omega) (by omega)]; exact h0.2, fun j j1 j2 => absurd j2 (by omega)⟩ (by omega) ?_ ?_
  · rw [nst_99 _ _ _ _ (by omega), by0_99 _ _ _ _ (by omega)]; exact h4
  · rw [nst_99 _ _ _ _ (by omega), by0_99 _ _ _ _ (by omega)]; exact h5
theorem cIn_ncd {A : pM} {c x : Int} (h4 : 0 ≤ A 99 c ∧ A 99 c ≤ 99) (h5 : -1 ≤ A 100 c ∧ A 100 c ≤ 15) (k : Nat) (hk : k ≤ 6) : cIn (ncd (nst (by0 A c x) c 4) c k) c ∧ pPK (ncd (nst (by0 A c x) c 4) c k) c ∧ nPK (ncd (nst (by0 A c x) c 4) c k) c 4 ∧ ncd (nst (by0 A c x) c 4) c k 94 c = k := by
  have h0 := by0_ok A c x
  have h1 := nst_ok h0.1 4 (by omega)
  have h2 := ncd_ok h1.1 h1.2 (by rw [nst_94 _ _ _ _ (by omega) (by omega)]; exact h0.2) k hk
  refine ⟨cIn_pk (k := (k : Int)) h2.1 h2.2.2 (by omega) ?_ ?_, h2.1, h2.2.1, h2.2.2.1⟩
  · rw [ncd_a _ _ _ _ (by omega) (by omega), nst_99 _ _ _ _ (by omega), by0_99 _ _ _ _ (by omega)]; exact h4
  · rw [ncd_a _ _ _ _ (by omega) (by omega), nst_99 _ _ _ _ (by omega), by0_99 _ _ _ _ (by omega)]; exact h5
set_option maxHeartbeats 4000000 in
set_option maxRecDepth 100000 in
theorem d_chest (d : Nat) (hd : 5 ≤ d) (n : Nat) (ok : pO) (mem : pM) (b : Nat) (hC : ChUp n ok b) (hDr : Of n ok 2 77) (A9 : pM) (c9 : Int) (v9 : Int → Int) (hI9 : cIn A9 c9) (hS : CS A9 c9 mem b) (hV : CV A9 c9 mem b v9) (A : pM) (c x : Int) (h4 : 0 ≤ A 99 c ∧ A 99 c ≤ 99) (h5 : -1 ≤ A 100 c ∧ A 100 c ≤ 15) : PM mi_X2_drawChest d [vr 77, vr b, vi x] n ok mem n (fun r0 ok' mem' => r0 = none ∧ ok = ok' ∧ chD b mem mem' ∧ CS (byM A c x) c mem' b ∧ CV (byM A c x) c mem' b (aAt (byM A c x) c)) := by
  obtain ⟨hC0, ⟨hC1, hC2, hC3, hC4, hC5, hC6, hC7⟩, hC8, ⟨hC9, hC10, hC11, hC12, hC13, hC14, hC15⟩, hC16, hC17, hb5, hb59⟩ := id hC
  refine PM.of (by decide) (by decide) (Nat.le_refl _) (Nat.le_of_ble_eq_true rfl) ?_
  refine pw_aload_n 0 rfl dX2_drawChest_0 rfl ?_
  refine pw_iload_n 2 rfl dX2_drawChest_1 rfl ?_
  refine pw_pIz 0 0 rfl dX2_drawChest_2 cOk2 (by assumption) (by decide) kw_300 rfl rfl (by decide)  ?_
  have em0 : wr mem 77 0 (nz x) = wr mem 77 0 (nz x) := rfl
  obtain ⟨m0, e0⟩ : ∃ y, y = wr mem 77 0 (nz x) := ⟨_, rfl⟩
  rw [← e0]
  have hS0 : CS A9 c9 m0 b := by rw [e0]; exact hS.x hb59 _
  have hV0 : CV A9 c9 m0 b v9 := by rw [e0]; exact hV.x hb59 _
  have hF0 : chD b mem m0 := by rw [e0]; exact chD.w b mem hb59 _
  have x0 : m0 77 0 = nz x := by rw [e0, wr_s]
  refine pw_aload_n 1 rfl dX2_drawChest_5 rfl ?_
  refine pw_callV (d' := d - 1) (As := []) (ci := 0) dX2_drawChest_6 ok_X0_empty kw_614 rfl rfl (Of.o (by assumption)) (by omega) rfl (Nat.le_of_ble_eq_true rfl) (h_empty (d - 1) (by omega) n ok m0 b hC A9 c9 v9 hS0.1 hS0.2.2 hV0 hI9) (Nat.le_refl _) (Or.inl rfl) (fun r9 ok1 m1 hq => ?_)
  obtain ⟨rfl, rfl, hM1, hS1, hV1⟩ := hq
  have i1 := cIn_em hI9 4 (by omega)
  have i2 := cIn_lay i1 (r := 0) (x := 2) (by omega) (by omega)
  have i3 := cIn_lay i2 (r := 1) (x := 2) (by omega) (by omega)
  refine pw_aload_n 1 rfl dX2_drawChest_9 rfl ?_
  refine pw_iconst dX2_drawChest_10 ?_
  refine pw_iconst dX2_drawChest_11 ?_
  refine pw_callV (d' := d - 1) (As := [_, _]) (ci := 0) dX2_drawChest_12 ok_X0_layRow kw_615 rfl rfl (Of.o (by assumption)) (by omega) rfl (Nat.le_of_ble_eq_true rfl) (h_layRow (d - 1) (by omega) n ok m1 b hC (emR A9 c9 4) c9 v9 hS1.1 hS1.2.2 hV1 0 2 (by omega) (by omega) i2) (Nat.le_refl _) (Or.inl rfl) (fun r9 ok1 m2 hq => ?_)
  obtain ⟨rfl, rfl, hM2, hS2, hV2⟩ := hq
  refine pw_aload_n 1 rfl dX2_drawChest_15 rfl ?_
  refine pw_iconst dX2_drawChest_16 ?_
  refine pw_iconst dX2_drawChest_17 ?_
  refine pw_callV (d' := d - 1) (As := [_, _]) (ci := 0) dX2_drawChest_18 ok_X0_layRow kw_615 rfl rfl (Of.o (by assumption)) (by omega) rfl (Nat.le_of_ble_eq_true rfl) (h_layRow (d - 1) (by omega) n ok m2 b hC (layA (emR A9 c9 4) c9 0 2) c9 v9 hS2.1 hS2.2.2 hV2 1 2 (by omega) (by omega) i3) (Nat.le_refl _) (Or.inl rfl) (fun r9 ok1 m3 hq => ?_)
  obtain ⟨rfl, rfl, hM3, hS3, hV3⟩ := hq
  have hEq := by0_eq A9 A c9 c x
  have hS4 : CS (by0 A c x) c m3 b := CS_t i3 hS3 hEq
  have w0 := by0_v A c x
  have hV4 : CV (by0 A c x) c m3 b (aAt (by0 A c x) c) := CV_t hV3 (fun s s1 s2 => ⟨(hEq.2.1 s s1 s2).1, fun z => absurd ((hEq.2.1 s s1 s2).1.symm.trans (w0.2.1 s s1 s2)) z⟩)
  have hF3 : chD b mem m3 := ((hF0.tr hM1.d).tr hM2.d).tr hM3.d
  have x3 : m3 77 0 = (by0 A c x) 88 21 := by rw [hM3.1 77 (by omega), hM2.1 77 (by omega), hM1.1 77 (by omega), x0, w0.2.2.2]
  refine pw_iconst dX2_drawChest_21 ?_
  refine pw_istore_n 3 rfl dX2_drawChest_22 (by decide) ?_
  have lp23 : ∀ (kz : Nat) (k : Nat) (m4 : pM), 4 - (k : Int) < (kz : Int) → (k ≤ 4) → (CS (nst (by0 A c x) c k) c m4 b) → (CV (nst (by0 A c x) c k) c m4 b (aAt (nst (by0 A c x) c k) c)) → (chD b mem m4) → (m4 77 0 = ((nst (by0 A c x) c k) 88 21)) → PW mi_X2_drawChest d n n (fun r0 ok' mem' => r0 = none ∧ ok = ok' ∧ chD b mem mem' ∧ CS (byM A c x) c mem' b ∧ CV (byM A c x) c mem' b (aAt (byM A c x) c)) 23 [(0, vr 77), (1, vr b), (2, vi x), (3, vi (k : Int))] [] n ok m4 := by
    intro kz
    induction kz with
    | zero =>
      intro k m4 hk hk hS5 hV5 hF5 x5
      exact absurd hk (by omega)
    | succ kz ih =>
      intro k m4 hk hk hS5 hV5 hF5 x5
      refine pw_iload_n 3 rfl dX2_drawChest_23 rfl ?_
      refine pw_getDrw dX2_drawChest_24 kw_616 ?_
      refine pw_drwlen dX2_drawChest_27 ?_
      refine pw_icmp_ge 72 (by decide) dX2_drawChest_28 (by omega) (by omega) (fun c28 => ?_) (fun c28 => ?_)
      · skip
        have ek : k = 4 := by omega
        subst ek
        refine pw_iconst dX2_drawChest_72 ?_
        refine pw_istore_n 3 rfl dX2_drawChest_73 (by decide) ?_
        have lp74 : ∀ (kz2 : Nat) (k : Nat) (m5 : pM), 6 - (k : Int) < (kz2 : Int) → (k ≤ 6) → (CS (ncd (nst (by0 A c x) c 4) c k) c m5 b) → (CV (ncd (nst (by0 A c x) c 4) c k) c m5 b (aAt (ncd (nst (by0 A c x) c 4) c k) c)) → (chD b mem m5) → (m5 77 0 = (ncd (nst (by0 A c x) c 4) c k) 88 21) → PW mi_X2_drawChest d n n (fun r0 ok' mem' => r0 = none ∧ ok = ok' ∧ chD b mem mem' ∧ CS (byM A c x) c mem' b ∧ CV (byM A c x) c mem' b (aAt (byM A c x) c)) 74 [(0, vr 77), (1, vr b), (2, vi x), (3, vi (k : Int))] [] n ok m5 := by
          intro kz2
          induction kz2 with
          | zero =>
            intro k m5 hk2 hk6 hS6 hV6 hF6 x6
            exact absurd hk2 (by omega)
          | succ kz2 ih2 =>
            intro k m5 hk2 hk6 hS6 hV6 hF6 x6
            have iD := cIn_ncd (A := A) (c := c) (x := x) h4 h5 k hk6
            refine pw_iload_n 3 rfl dX2_drawChest_74 rfl ?_
            refine pw_bipush dX2_drawChest_75 (by decide) ?_
            refine pw_icmp_ge 100 (by decide) dX2_drawChest_77 (by omega) (by omega) (fun c77 => ?_) (fun c77 => ?_)
            · skip
              refine pw_vret dX2_drawChest_100 rfl rfl ?_
              have ek : k = 6 := by omega
              subst ek
              exact ⟨rfl, rfl, hF6, hS6, hV6⟩
            · skip
              refine pw_aload_n 0 rfl dX2_drawChest_80 rfl ?_
              refine pw_aload_n 1 rfl dX2_drawChest_81 rfl ?_
              refine pw_iload_n 3 rfl dX2_drawChest_82 rfl ?_
              refine pw_if_ne 90 (by decide) dX2_drawChest_83 (by omega) (fun c83 => ?_) (fun c83 => ?_)
              · skip
                refine pw_iconst dX2_drawChest_90 ?_
                refine pw_callV (d' := d - 1) (As := [_, _]) (ci := 2) dX2_drawChest_91 ok_X2_drawCondition kw_624 rfl rfl (Of.o (by assumption)) (by omega) rfl (Nat.le_of_ble_eq_true rfl) (d_cond0 (d - 1) (by omega) n ok m5 b hC hDr (ncd (nst (by0 A c x) c 4) c k) c iD.1 hS6 hV6 x6 iD.2.1 iD.2.2.1 k (by omega) (by rw [iD.2.2.2]; omega)) (Nat.le_refl _) (Or.inl rfl) (fun r9 ok1 m7 hq => ?_)
                obtain ⟨rfl, rfl, hF7, hS7, hV7, x7⟩ := hq
                refine pw_iinc dX2_drawChest_94 rfl (by decide) ?_
                refine pw_goto 74 (by decide) dX2_drawChest_97 ?_
                exact pw_locs _ rfl (ih2 (k + 1) m7 (by omega) (by omega) hS7 hV7 (hF6.tr hF7) x7)
              · skip
                refine pw_iconst dX2_drawChest_86 ?_
                refine pw_goto 91 (by decide) dX2_drawChest_87 ?_
                refine pw_callV (d' := d - 1) (As := [_, _]) (ci := 2) dX2_drawChest_91 ok_X2_drawCondition kw_624 rfl rfl (Of.o (by assumption)) (by omega) rfl (Nat.le_of_ble_eq_true rfl) (d_cond1 (d - 1) (by omega) n ok m5 b hC hDr (ncd (nst (by0 A c x) c 4) c k) c iD.1 hS6 hV6 x6 iD.2.1 iD.2.2.1 k (by omega) (by rw [iD.2.2.2]; omega)) (Nat.le_refl _) (Or.inl rfl) (fun r9 ok1 m7 hq => ?_)
                obtain ⟨rfl, rfl, hF7, hS7, hV7, x7⟩ := hq
                refine pw_iinc dX2_drawChest_94 rfl (by decide) ?_
                refine pw_goto 74 (by decide) dX2_drawChest_97 ?_
                exact pw_locs _ rfl (ih2 (k + 1) m7 (by omega) (by omega) hS7 hV7 (hF6.tr hF7) x7)
        exact pw_locs _ rfl (lp74 7 0 m4 (by omega) (by omega) hS5 hV5 hF5 x5)
      · skip
        refine pw_aload_n 0 rfl dX2_drawChest_31 rfl ?_
        refine pw_iconst dX2_drawChest_32 ?_
        refine pw_callV (d' := d - 1) (As := [_]) (ci := 2) dX2_drawChest_33 ok_X2_below kw_618 rfl rfl (Of.o (by assumption)) (by omega) rfl (Nat.le_of_ble_eq_true rfl) (d_below (d - 1) (by omega) n ok m4 hDr 5 (by omega)) (Nat.le_refl _) (Or.inl rfl) (fun r9 ok1 m5 hq => ?_)
        obtain ⟨rfl, rfl, em5⟩ := hq
        rw [x5] at em5 ⊢
        have y5 : m5 77 0 = dNx ((nst (by0 A c x) c k) 88 21) := by rw [← em5, wr_s]
        refine pw_istore dX2_drawChest_36 (by decide) ?_
        refine pw_iconst dX2_drawChest_38 ?_
        refine pw_aload_n 0 rfl dX2_drawChest_39 rfl ?_
        refine pw_iconst dX2_drawChest_40 ?_
        refine pw_callV (d' := d - 1) (As := [_]) (ci := 2) dX2_drawChest_41 ok_X2_below kw_618 rfl rfl (Of.o (by assumption)) (by omega) rfl (Nat.le_of_ble_eq_true rfl) (d_below (d - 1) (by omega) n ok m5 hDr 3 (by omega)) (Nat.le_refl _) (Or.inl rfl) (fun r9 ok1 m6 hq => ?_)
        obtain ⟨rfl, rfl, em6⟩ := hq
        rw [y5] at em6 ⊢
        have y6 : m6 77 0 = dNx (dNx ((nst (by0 A c x) c k) 88 21)) := by rw [← em6, wr_s]
        refine pw_iadd dX2_drawChest_44 ?_
        refine pw_istore dX2_drawChest_45 (by decide) ?_
        refine pw_aload_n 1 rfl dX2_drawChest_47 rfl ?_
        refine pw_getDrw dX2_drawChest_48 kw_616 ?_
        refine pw_iload_n 3 rfl dX2_drawChest_51 rfl ?_
        refine pw_drwld dX2_drawChest_52 (by omega) (by omega) ?_
        try simp (disch := omega) only [wr_s, wr_a, wr_k] at r52 ⊢
        refine pw_iload dX2_drawChest_53 rfl ?_
        refine pw_iload dX2_drawChest_55 rfl ?_
        refine pw_aload_n 0 rfl dX2_drawChest_57 rfl ?_
        refine pw_bipush dX2_drawChest_58 (by decide) ?_
        refine pw_callV (d' := d - 1) (As := [_]) (ci := 2) dX2_drawChest_60 ok_X2_below kw_618 rfl rfl (Of.o (by assumption)) (by omega) rfl (Nat.le_of_ble_eq_true rfl) (d_below (d - 1) (by omega) n ok m6 hDr 6 (by omega)) (Nat.le_refl _) (Or.inl rfl) (fun r9 ok1 m7 hq => ?_)
        obtain ⟨rfl, rfl, em7⟩ := hq
        rw [y6] at em7 ⊢
        have x7 : m7 77 0 = dNx (dNx (dNx ((nst (by0 A c x) c k) 88 21))) := by rw [← em7, wr_s]
        have hS7 : CS (nst (by0 A c x) c k) c m7 b := by rw [← em7, ← em6, ← em5]; exact ((hS5.x hb59 _).x hb59 _).x hb59 _
        have hV7 : CV (nst (by0 A c x) c k) c m7 b (aAt (nst (by0 A c x) c k) c) := by rw [← em7, ← em6, ← em5]; exact ((hV5.x hb59 _).x hb59 _).x hb59 _
        have hF7 : chD b mem m7 := hF5.tr (by rw [← em7, ← em6, ← em5]; exact ((chD.w b _ hb59 _).tr (chD.w b _ hb59 _)).tr (chD.w b _ hb59 _))
        have d5 := dv_ran (dNx ((nst (by0 A c x) c k) 88 21)) (k := 5) (by omega)
        have d3 := dv_ran (dNx (dNx ((nst (by0 A c x) c k) 88 21))) (k := 3) (by omega)
        have d6 := dv_ran (dNx (dNx (dNx ((nst (by0 A c x) c k) 88 21)))) (k := 6) (by omega)
        have hsd := sDrw_ran (j := (k : Int)) (by omega) (by omega)
        have eSt : ∀ a, a ≠ 88 → stP (nst (by0 A c x) c k) c k a = (rStand (nst (by0 A c x) c k) (16 * c + sDrw (k : Int)) (dv (dNx ((nst (by0 A c x) c k) 88 21)) 5) (2 + dv (dNx (dNx ((nst (by0 A c x) c k) 88 21))) 3) (dv (dNx (dNx (dNx ((nst (by0 A c x) c k) 88 21)))) 6)) a := fun a ha => by
          unfold stP rStand
          by_cases e93 : a = 93
          · subst e93; rw [wr_f, wr_f]; simp (disch := omega) only [wr_a]
          · rw [wr_a _ _ _ e93, wr_a _ _ _ e93]
            by_cases e92 : a = 92
            · subst e92; rw [wr_f, wr_f]; simp (disch := omega) only [wr_a]
            · rw [wr_a _ _ _ e92, wr_a _ _ _ e92]
              by_cases e91 : a = 91
              · subst e91; rw [wr_f, wr_f]; simp (disch := omega) only [wr_a]
              · rw [wr_a _ _ _ e91, wr_a _ _ _ e91]
                by_cases e90 : a = 90
                · subst e90; rw [wr_f, wr_f, wr_a _ _ _ (by omega)]
                · rw [wr_a _ _ _ e90, wr_a _ _ _ e90, wr_a _ _ _ ha]
        have iN : cIn (nst (by0 A c x) c (k + 1)) c := cIn_nst h4 h5 (k + 1) (by omega)
        have iR : cIn (rStand (nst (by0 A c x) c k) (16 * c + sDrw (k : Int)) (dv (dNx ((nst (by0 A c x) c k) 88 21)) 5) (2 + dv (dNx (dNx ((nst (by0 A c x) c k) 88 21))) 3) (dv (dNx (dNx (dNx ((nst (by0 A c x) c k) 88 21)))) 6)) c := cIn_c (fun a a1 a2 => (eSt a (by omega)).symm) iN
        refine pw_callV (d' := d - 1) (As := [_, _, _, _]) (ci := 0) dX2_drawChest_63 ok_X0_put kw_623 rfl rfl (Of.o (by assumption)) (by omega) rfl (Nat.le_of_ble_eq_true rfl) (h_put (d - 1) (by omega) n ok m7 b hC (nst (by0 A c x) c k) c (aAt (nst (by0 A c x) c k) c) hS7.1 hS7.2.2 hV7 (sDrw (k : Int)) (dv (dNx ((nst (by0 A c x) c k) 88 21)) 5) (2 + dv (dNx (dNx ((nst (by0 A c x) c k) 88 21))) 3) (dv (dNx (dNx (dNx ((nst (by0 A c x) c k) 88 21)))) 6) (by omega) (by omega) (by omega) (by omega) iR) (Nat.le_refl _) (Or.inl rfl) (fun r9 ok1 m8 hq => ?_)
        obtain ⟨rfl, rfl, hM8, hS8, hV8⟩ := hq
        have hS9 : CS (nst (by0 A c x) c (k + 1)) c m8 b := CS_t iR hS8 (chEq.of (fun a a1 a2 _ => eSt a (by omega)))
        have hV9 : CV (nst (by0 A c x) c (k + 1)) c m8 b (aAt (nst (by0 A c x) c (k + 1)) c) := CV_t hV8 (fun s s1 s2 => ⟨by show stP _ c k 90 _ = _; rw [eSt 90 (by omega)], fun _ => by
          show stP _ c k 92 (16 * c + s) = _
          rw [eSt 92 (by omega), rSt_v]
          unfold vUp
          by_cases e : s = sDrw (k : Int)
          · rw [if_pos e, if_pos (by rw [e])]; rfl
          · rw [if_neg e, if_neg (by omega)]⟩)
        refine pw_iinc dX2_drawChest_66 rfl (by decide) ?_
        refine pw_goto 23 (by decide) dX2_drawChest_69 ?_
        exact pw_locs _ rfl (ih (k + 1) m8 (by omega) (by omega) hS9 hV9 (hF7.tr hM8.d) (by rw [hM8.1 77 (by omega), x7]; show _ = stP (nst (by0 A c x) c k) c k 88 21; unfold stP rStand; simp (disch := omega) only [wr_a, wr_s]))
  exact pw_locs _ rfl (lp23 5 0 m3 (by omega) (by omega) hS4 hV4 hF3 x3)
