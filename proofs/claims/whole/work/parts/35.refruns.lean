/-! ===== runs ===== -/
noncomputable def rnGo (m : pM) (c : Int) : Nat → Nat → pM → (Int → Int) → pEv → Nat × pM × (Int → Int) × pEv
  | 0, k, b, v, ev => (k, b, v, ev)
  | f + 1, k, b, v, ev => if iRes m c v (m 106 k) = 0 then (k, b, v, ev ++ iEv m c v (m 106 k)) else if aStuck m c (m 106 k) ≠ 0 then (k, wr b 88 27 (aStuck m c (m 106 k)), v, ev ++ iEv m c v (m 106 k) ++ [(false, aStuck m c (m 106 k))])
    else rnGo m c f (k + 1) (wr (wr b 88 27 0) 107 k (numV m c v 16)) (dRes m c (m 106 k) v).1 (ev ++ iEv m c v (m 106 k) ++ (dRes m c (m 106 k) v).2)
theorem rnGo_succ (m : pM) (c : Int) (f k : Nat) (b : pM) (v : Int → Int) (ev : pEv) : rnGo m c (f + 1) k b v ev = if iRes m c v (m 106 k) = 0 then (k, b, v, ev ++ iEv m c v (m 106 k)) else if aStuck m c (m 106 k) ≠ 0 then (k, wr b 88 27 (aStuck m c (m 106 k)), v, ev ++ iEv m c v (m 106 k) ++ [(false, aStuck m c (m 106 k))])
    else rnGo m c f (k + 1) (wr (wr b 88 27 0) 107 k (numV m c v 16)) (dRes m c (m 106 k) v).1 (ev ++ iEv m c v (m 106 k) ++ (dRes m c (m 106 k) v).2) := rfl
noncomputable def rnRes (m : pM) (c : Int) : Nat × pM × (Int → Int) × pEv := rnGo m c (m 88 24).toNat 0 (wr m 88 27 0) (aAt m c) []
/-- what the base of a run is, against the memory at its start -/
def bSame (m b : pM) : Prop := (∀ a, a ≠ 88 → a ≠ 107 → b a = m a) ∧ ∀ k, k ≠ 27 → b 88 k = m 88 k
theorem aStuck_ran (m : pM) (c mv : Int) : 0 ≤ aStuck m c mv ∧ aStuck m c mv ≤ 5 := by unfold aStuck; (repeat' split) <;> omega
theorem vMem.f {m m1 : pM} {c : Int} {v : Int → Int} {ev : pEv} {z : Int} (h : vMem m m1 c v ev z) {k : Int} (h1 : k ≠ 1) (h2 : k ≠ 2) (h3 : k ≠ 19) (h4 : k ≠ 23) : m1 88 k = m 88 k := by
  rw [h.1 88 (by omega), wr_k _ _ _ _ h4]
  exact (nSame.e m ev).2 k h1 h2 h3 h4
theorem vMem.a {m m1 : pM} {c : Int} {v : Int → Int} {ev : pEv} {z : Int} (h : vMem m m1 c v ev z) {a : Nat} (h1 : a ≠ 88) (h2 : a ≠ 92) (h3 : a ≠ 103) : m1 a = m a := by
  rw [h.1 a h2, wr_a _ _ _ h1]
  exact (nSame.e m ev).1 a h1 h3
theorem vMrf2 (m : pM) (c : Int) : vMem (wr m 88 27 0) (wr m 88 27 0) c (aAt m c) [] (m 88 23) := by
  have h := (vMem.rf m c).wr (a := 88) (k := 27) 0 (by omega) (by omega) (fun _ => by omega)
  exact h
set_option maxHeartbeats 4000000 in
set_option maxRecDepth 100000 in
theorem r_runs (d : Nat) (hd : 6 ≤ d) (n : Nat) (ok : pO) (mem : pM) (hU : RefUp n ok) (c : Int) (hc : 0 ≤ c ∧ c ≤ 2) (hs : cOkR mem c) (hty : 0 ≤ mem 88 24 ∧ mem 88 24 ≤ 40) (htm : ∀ j, 0 ≤ j → j < mem 88 24 → 0 ≤ mem 106 j ∧ mem 106 j < 38) (ht : 0 ≤ mem 88 19 ∧ mem 88 19 ≤ 1000) : PM mi_X10_runs d [vr 88, vi c] n ok mem n (fun r ok' mem' => ∃ z : Int, r = some (vi ((rnRes mem c).1 : Int)) ∧ ok = ok' ∧ vMem (rnRes mem c).2.1 mem' c (rnRes mem c).2.2.1 (rnRes mem c).2.2.2 z) := by
  obtain ⟨hO, ⟨a89, a90, a91, a92, a93, a94, a95, a96, a97, a98⟩, ⟨a99, a100, a101, a102, a103, a104, a105, a106, a107⟩, ⟨a108, a109, a110, a111, a112, a113, a114, a115, a116, a117, a118, a119⟩, a120, a121, a122⟩ := id hU
  refine PM.of (by decide) (by decide) (Nat.le_refl _) (Nat.le_of_ble_eq_true rfl) ?_
  refine pw_aload_n 0 rfl dX10_runs_0 rfl ?_
  refine pw_iconst dX10_runs_1 ?_
  refine pw_pI 27 27 rfl dX10_runs_2 cOk10 (by assumption) (by decide) kw_1092 rfl rfl (by decide) (by omega) ?_
  refine pw_iconst dX10_runs_5 ?_
  refine pw_istore_n 2 rfl dX10_runs_6 (by decide) ?_
  have lp7 : ∀ (kz : Nat) (i : Nat) (f : Nat) (b : pM) (v : Int → Int) (ev : pEv) (z : Int) (m1 : pM), (f : Int) < (kz : Int) → ((i : Int) + f = mem 88 24) → (rnRes mem c = rnGo mem c f i b v ev) → (vMem b m1 c v ev z) → (bSame mem b) → (pOkv mem c v) → (ev.length ≤ 14000 * i) → PW mi_X10_runs d n n (fun r ok' mem' => ∃ z : Int, r = some (vi ((rnRes mem c).1 : Int)) ∧ ok = ok' ∧ vMem (rnRes mem c).2.1 mem' c (rnRes mem c).2.2.1 (rnRes mem c).2.2.2 z) 7 [(0, vr 88), (1, vi c), (2, vi (i : Int))] [] n ok m1 := by
    intro kz
    induction kz with
    | zero =>
      intro i f b v ev z m1 hk hi hG hM hB hv hl
      exact absurd hk (by omega)
    | succ kz ih =>
      intro i f b v ev z m1 hk hi hG hM hB hv hl
      have q24 : m1 88 24 = mem 88 24 := (hM.f (by omega) (by omega) (by omega) (by omega)).trans (hB.2 24 (by omega))
      have q106 : m1 106 = mem 106 := (hM.a (by omega) (by omega) (by omega)).trans (hB.1 106 (by omega) (by omega))
      have s1 : sSame mem m1 := fun a q1 q2 q3 => (hM.a (by omega) q3 (by omega)).trans (hB.1 a (by omega) (by omega))
      have t1 := hM.tr (show 0 ≤ b 88 19 by rw [hB.2 19 (by omega)]; exact ht.1)
      rw [hB.2 19 (by omega)] at t1
      refine pw_iload_n 2 rfl dX10_runs_7 rfl ?_
      refine pw_aload_n 0 rfl dX10_runs_8 rfl ?_
      refine pw_gI 24 24 rfl dX10_runs_9 cOk10 (by assumption) (by decide) kw_1089 (by decide) (fun r9 => ?_)
      try simp (disch := omega) only [wr_s, wr_a, wr_k] at r9 ⊢
      rw [q24] at r9 ⊢
      refine pw_icmp_ge 89 (by decide) dX10_runs_12 (by omega) (by omega) (fun c12 => ?_) (fun c12 => ?_)
      · skip
        have ef : f = 0 := by omega
        subst ef
        refine pw_iload_n 2 rfl dX10_runs_89 rfl ?_
        refine pw_iret dX10_runs_90 rfl rfl ?_
        exact ⟨z, by rw [hG]; rfl, rfl, by rw [hG]; exact hM⟩
      · skip
        obtain ⟨f, rfl⟩ : ∃ f1, f = f1 + 1 := ⟨f - 1, by omega⟩
        have hmv := htm (i : Int) (by omega) (by omega)
        refine pw_aload_n 0 rfl dX10_runs_15 rfl ?_
        refine pw_iload_n 1 rfl dX10_runs_16 rfl ?_
        refine pw_aload_n 0 rfl dX10_runs_17 rfl ?_
        refine pw_gR 25 106 dX10_runs_18 cOk10 (by assumption) (by decide) kw_1090 (by decide) rfl ?_
        refine pw_iload_n 2 rfl dX10_runs_21 rfl ?_
        refine pw_iaload dX10_runs_22 (by assumption) (by omega) (by omega) (fun r22 => ?_)
        try simp (disch := omega) only [wr_s, wr_a, wr_k] at r22 ⊢
        rw [q106] at r22 ⊢
        refine pw_callV (d' := d - 1) (As := [_, _]) (ci := 10) dX10_runs_23 ok_X10_isFree kw_1398 rfl rfl (Of.o (by assumption)) (by omega) rfl (Nat.le_of_ble_eq_true rfl) (r_isFree (d - 1) (by omega) n ok m1 hU c (mem 106 (i : Int)) hc hmv (sOk_s s1 hs.1) (pOkv_v hM.at (pOkv_s s1 hv)) (by omega)) (Nat.le_refl _) (Or.inl rfl) (fun r ok1 m2 hq => ?_)
        obtain ⟨z2, rfl, rfl, em2⟩ := hq
        rw [iRes_v (sOk_s s1 hs.1) hM.at hmv.1, iRes_s s1]
        rw [iEv_v (sOk_s s1 hs.1) hM.at hmv.1, iEv_s s1] at em2
        have hM2 := hM.e (iEv mem c v (mem 106 (i : Int))) z2
        rw [em2] at hM2
        have h01 := iRes_01 mem c v (mem 106 (i : Int))
        have hil := iEv_len (m := mem) (c := c) v (mem 106 (i : Int)) hs.1.1
        have q106b : m2 106 = mem 106 := (hM2.a (by omega) (by omega) (by omega)).trans (hB.1 106 (by omega) (by omega))
        have q99 : m2 99 = mem 99 := (hM2.a (by omega) (by omega) (by omega)).trans (hB.1 99 (by omega) (by omega))
        have q100 : m2 100 = mem 100 := (hM2.a (by omega) (by omega) (by omega)).trans (hB.1 100 (by omega) (by omega))
        have hsr := aStuck_ran mem c (mem 106 (i : Int))
        have hes : aStuck m2 c (mem 106 (i : Int)) = aStuck mem c (mem 106 (i : Int)) := by unfold aStuck; rw [q99, q100]
        refine pw_if_eq 89 (by decide) dX10_runs_26 (by omega) (fun c26 => ?_) (fun c26 => ?_)
        · skip
          refine pw_iload_n 2 rfl dX10_runs_89 rfl ?_
          refine pw_iret dX10_runs_90 rfl rfl ?_
          exact ⟨z2, by rw [hG, rnGo_succ, if_pos c26], rfl, by rw [hG, rnGo_succ, if_pos c26]; exact hM2⟩
        · skip
          refine pw_aload_n 0 rfl dX10_runs_29 rfl ?_
          refine pw_aload_n 0 rfl dX10_runs_30 rfl ?_
          refine pw_iload_n 1 rfl dX10_runs_31 rfl ?_
          refine pw_aload_n 0 rfl dX10_runs_32 rfl ?_
          refine pw_gR 25 106 dX10_runs_33 cOk10 (by assumption) (by decide) kw_1090 (by decide) rfl ?_
          refine pw_iload_n 2 rfl dX10_runs_36 rfl ?_
          refine pw_iaload dX10_runs_37 (by assumption) (by omega) (by omega) (fun r37 => ?_)
          try simp (disch := omega) only [wr_s, wr_a, wr_k] at r37 ⊢
          rw [q106b] at r37 ⊢
          refine pw_callV (d' := d - 1) (As := [_, _]) (ci := 10) dX10_runs_38 ok_X10_stuck kw_1468 rfl rfl (Of.o (by assumption)) (by omega) rfl (Nat.le_of_ble_eq_true rfl) (r_stuck (d - 1) (by omega) n ok m2 hU c (mem 106 (i : Int)) hc hmv) (Nat.le_refl _) (Or.inl rfl) (fun r ok1 mem1 hq => ?_)
          obtain ⟨rfl, rfl, rfl⟩ := hq
          rw [hes]
          refine pw_pI 27 27 rfl dX10_runs_41 cOk10 (by assumption) (by decide) kw_1092 rfl rfl (by decide) (by omega) ?_
          obtain ⟨m3, em3⟩ : ∃ m3, m3 = wr m2 88 27 (aStuck mem c (mem 106 (i : Int))) := ⟨_, rfl⟩
          rw [← em3]
          have hM3 := hM2.wr (a := 88) (k := 27) (aStuck mem c (mem 106 (i : Int))) (by omega) (by omega) (fun _ => by omega)
          rw [← em3] at hM3
          have q27 : m3 88 27 = aStuck mem c (mem 106 (i : Int)) := by rw [em3, wr_s]
          refine pw_aload_n 0 rfl dX10_runs_44 rfl ?_
          refine pw_gI 27 27 rfl dX10_runs_45 cOk10 (by assumption) (by decide) kw_1092 (by decide) (fun r45 => ?_)
          try simp (disch := omega) only [wr_s, wr_a, wr_k] at r45 ⊢
          rw [q27] at r45 ⊢
          refine pw_if_eq 61 (by decide) dX10_runs_48 (by omega) (fun c48 => ?_) (fun c48 => ?_)
          · skip
            refine pw_aload_n 0 rfl dX10_runs_61 rfl ?_
            refine pw_gR 26 107 dX10_runs_62 cOk10 (by assumption) (by decide) kw_1091 (by decide) rfl ?_
            refine pw_iload_n 2 rfl dX10_runs_65 rfl ?_
            refine pw_aload_n 0 rfl dX10_runs_66 rfl ?_
            refine pw_iload_n 1 rfl dX10_runs_67 rfl ?_
            refine pw_callV (d' := d - 1) (As := [_]) (ci := 10) dX10_runs_68 ok_X10_numberOf kw_1362 rfl rfl (Of.o (by assumption)) (by omega) rfl (Nat.le_of_ble_eq_true rfl) (r_numberOf (d - 1) (by omega) n ok m3 hU c hc) (Nat.le_refl _) (Or.inl rfl) (fun r ok1 mem1 hq => ?_)
            obtain ⟨rfl, rfl, rfl⟩ := hq
            rw [c48] at em3 hM3
            have hB3 : bSame mem (wr b 88 27 0) := ⟨fun a q1 q2 => by rw [wr_a _ _ _ q1]; exact hB.1 a q1 q2, fun k q => by rw [wr_k _ _ _ _ q]; exact hB.2 k q⟩
            have s3 : sSame mem m3 := fun a q1 q2 q3 => (hM3.a (by omega) q3 (by omega)).trans (hB3.1 a (by omega) (by omega))
            rw [aNum_V s3 c hM3.at 16 (by omega)]
            have hnr : 0 ≤ numV mem c v 16 ∧ numV mem c v 16 ≤ 1023 := by
              have h9 := num_ran (m := m3) (c := c) ⟨sOk_s s3 hs.1, pOkv_v hM3.at (pOkv_s s3 hv), by rw [pW_s s3]; exact hs.2.2⟩
              rw [aNum_V s3 c hM3.at 16 (by omega)] at h9
              exact h9
            refine pw_iastore dX10_runs_71 (by assumption) (by omega) (by omega) (by omega) ?_
            obtain ⟨m5, em5⟩ : ∃ m5, m5 = wr m3 107 (i : Int) (numV mem c v 16) := ⟨_, rfl⟩
            rw [← em5]
            have hM5 := hM3.wr (a := 107) (k := (i : Int)) (numV mem c v 16) (by omega) (by omega) (fun q => by omega)
            rw [← em5] at hM5
            have hB5 : bSame mem (wr (wr b 88 27 0) 107 (i : Int) (numV mem c v 16)) := ⟨fun a q1 q2 => by rw [wr_a _ _ _ q2]; exact hB3.1 a q1 q2, fun k q => by rw [wr_a _ _ _ (by omega)]; exact hB3.2 k q⟩
            have s5 : sSame mem m5 := fun a q1 q2 q3 => (hM5.a (by omega) q3 (by omega)).trans (hB5.1 a (by omega) (by omega))
            have q106c : m5 106 = mem 106 := (hM5.a (by omega) (by omega) (by omega)).trans (hB5.1 106 (by omega) (by omega))
            have hkd : (mem 106 (i : Int)) < 32 → aKind mem c ((mem 106 (i : Int)) / 2) ≠ -1 := fun q => iRes_kind c26 q
            have t5 := hM5.tr (show 0 ≤ _ by rw [hB5.2 19 (by omega)]; exact ht.1)
            rw [hB5.2 19 (by omega), List.length_append] at t5
            have hdl := dRes_len (m := mem) (c := c) hs.1.1 (mem 106 (i : Int)) v
            refine pw_aload_n 0 rfl dX10_runs_72 rfl ?_
            refine pw_iload_n 1 rfl dX10_runs_73 rfl ?_
            refine pw_aload_n 0 rfl dX10_runs_74 rfl ?_
            refine pw_gR 25 106 dX10_runs_75 cOk10 (by assumption) (by decide) kw_1090 (by decide) rfl ?_
            refine pw_iload_n 2 rfl dX10_runs_78 rfl ?_
            refine pw_iaload dX10_runs_79 (by assumption) (by omega) (by omega) (fun r79 => ?_)
            try simp (disch := omega) only [wr_s, wr_a, wr_k] at r79 ⊢
            rw [q106c] at r79 ⊢
            refine pw_callV (d' := d - 1) (As := [_, _]) (ci := 10) dX10_runs_80 ok_X10_does kw_1406 rfl rfl (Of.o (by assumption)) (by omega) rfl (Nat.le_of_ble_eq_true rfl) (r_does (d - 1) (by omega) n ok m5 hU c (mem 106 (i : Int)) hc hmv ⟨sOk_s s5 hs.1, pOkv_v hM5.at (pOkv_s s5 hv), by rw [pW_s s5]; exact hs.2.2⟩ (by unfold aKind; rw [s5.kind]; exact hkd) (by omega)) (Nat.le_refl _) (Or.inl rfl) (fun r ok1 m6 hq => ?_)
            obtain ⟨z6, rfl, rfl, hM6a⟩ := hq
            rw [dRes_s s5] at hM6a
            have hdv := dRes_v (m := mem) hs.1 hmv.1 (show vEq v (aAt m5 c) from hM5.at)
            rw [hdv.2] at hM6a
            have hM6 := hM5.trans (hM6a.cong hdv.1)
            have hv6 := dRes_ok hs.1.2.2 hmv.1 hkd hv
            have hB6 := hB5
            refine pw_iinc dX10_runs_83 rfl (by decide) ?_
            refine pw_goto 7 (by decide) dX10_runs_86 ?_
            exact pw_locs _ rfl (ih (i + 1) f _ _ _ z6 m6 (by omega) (by omega) (by rw [hG, rnGo_succ, if_neg c26, if_neg (fun q => q c48)]) hM6 hB6 hv6 (by rw [List.length_append, List.length_append]; omega))
          · skip
            refine pw_aload_n 0 rfl dX10_runs_51 rfl ?_
            refine pw_aload_n 0 rfl dX10_runs_52 rfl ?_
            refine pw_gI 27 27 rfl dX10_runs_53 cOk10 (by assumption) (by decide) kw_1092 (by decide) (fun r53 => ?_)
            try simp (disch := omega) only [wr_s, wr_a, wr_k] at r53 ⊢
            rw [q27] at r53 ⊢
            refine pw_callV (d' := d - 1) (As := [_]) (ci := 10) dX10_runs_56 ok_X10_notes kw_1257 rfl rfl (Of.o (by assumption)) (by omega) rfl (Nat.le_of_ble_eq_true rfl) (r_notes (d - 1) (by omega) n ok m3 hU (aStuck mem c (mem 106 (i : Int))) (by omega)) (Nat.le_refl _) (Or.inl rfl) (fun r ok1 m4 hq => ?_)
            obtain ⟨rfl, rfl, em4⟩ := hq
            have hM4 := hM3.e [(false, aStuck mem c (mem 106 (i : Int)))] (m3 88 23)
            have e4 : wr (rEv m3 [(false, aStuck mem c (mem 106 (i : Int)))]) 88 23 (m3 88 23) = m4 := by
              rw [← em4]
              show wr (rNotes m3 _) 88 23 (m3 88 23) = rNotes m3 _
              have e9 : rNotes m3 (aStuck mem c (mem 106 (i : Int))) 88 23 = m3 88 23 := by
                unfold rNotes
                split
                · rw [wr_k _ _ _ _ (by omega), wr_k _ _ _ _ (by omega)]
                · rfl
              rw [← e9]; exact wr_id _ _ _
            rw [e4] at hM4
            refine pw_iload_n 2 rfl dX10_runs_59 rfl ?_
            refine pw_iret dX10_runs_60 rfl rfl ?_
            exact ⟨m3 88 23, by rw [hG, rnGo_succ, if_neg c26, if_pos c48], rfl, by rw [hG, rnGo_succ, if_neg c26, if_pos c48]; exact hM4⟩
  exact pw_locs _ rfl (lp7 ((mem 88 24).toNat + 1) 0 (mem 88 24).toNat (wr mem 88 27 0) (aAt mem c) [] (mem 88 23) (wr mem 88 27 0) (by omega) (by omega) rfl (vMrf2 mem c) ⟨fun a q1 q2 => wr_a _ _ _ q1, fun k q => wr_k _ _ _ _ q⟩ hs.2.1 (Nat.le_refl _))
