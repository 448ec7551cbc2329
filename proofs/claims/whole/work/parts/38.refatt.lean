/-! ===== numbers put back; attempt ===== -/
theorem lfN_s {m m1 : pM} (h : sSame m m1) (c x : Int) (k : Nat) : lfN m1 c x k = lfN m c x k := by
  induction k with
  | zero => rfl
  | succ k ih => unfold lfN; rw [ih, eSp_s h]
theorem rSet_92 (m : pM) (c x : Int) (k : Nat) (s : Nat) : rSet m c x k 92 (16 * c + s) = if s < k ∧ aKind m c s ≠ -1 then lfN m c x s % aSpan m c s else m 92 (16 * c + s) := by
  induction k with
  | zero => rw [if_neg (by omega)]; rfl
  | succ k ih =>
    show (if aKind m c k = -1 then rSet m c x k else wr (rSet m c x k) 92 (16 * c + k) (lfN m c x k % aSpan m c k)) 92 (16 * c + s) = _
    by_cases e : s = k
    · subst e
      by_cases q : aKind m c s = -1
      · rw [if_pos q, ih, if_neg (by omega), if_neg (fun z => z.2 q)]
      · rw [if_neg q, wr_s, if_pos ⟨by omega, q⟩]
    · have e2 : (if aKind m c k = -1 then rSet m c x k else wr (rSet m c x k) 92 (16 * c + k) (lfN m c x k % aSpan m c k)) 92 (16 * c + s) = rSet m c x k 92 (16 * c + s) := by
        split
        · rfl
        · exact wr_k _ _ _ _ (by omega)
      rw [e2, ih]
      by_cases q : s < k ∧ aKind m c s ≠ -1
      · rw [if_pos q, if_pos ⟨by omega, q.2⟩]
      · rw [if_neg q, if_neg (fun z => q ⟨by omega, z.2⟩)]
theorem rSet_out (m : pM) (c x : Int) (k : Nat) (hk : k ≤ 16) (j : Int) (hj : j < 16 * c ∨ 16 * c + 16 ≤ j) : rSet m c x k 92 j = m 92 j := by
  induction k with
  | zero => rfl
  | succ k ih =>
    show (if aKind m c k = -1 then rSet m c x k else wr (rSet m c x k) 92 (16 * c + k) (lfN m c x k % aSpan m c k)) 92 j = _
    split
    · exact ih (by omega)
    · rw [wr_k _ _ _ _ (by omega)]; exact ih (by omega)
def setV (m : pM) (c : Int) (v : Int → Int) (x s : Int) : Int := if aKind m c s = -1 then v s else lfN m c x s.toNat % aSpan m c s
theorem vM_set {m m1 : pM} {c : Int} {v : Int → Int} {ev : pEv} {z : Int} (h : vMem m m1 c v ev z) (x : Int) : vMem m (rSet m1 c x 16) c (setV m c v x) ev z := by
  refine ⟨fun a ha => by rw [rSet_a ha]; exact h.1 a ha, fun s q1 q2 => ?_, fun j hj => by rw [rSet_out m1 c x 16 (by omega) j hj]; exact h.2.2 j hj⟩
  have e := rSet_92 m1 c x 16 s.toNat
  rw [Int.toNat_of_nonneg q1] at e
  rw [e]
  unfold setV aKind aSpan
  rw [h.s.kind, h.s.span, lfN_s h.s]
  by_cases q : m 90 (16 * c + s) = -1
  · rw [if_pos q, if_neg (fun z => z.2 q)]; exact h.2.1 s q1 q2
  · rw [if_neg q, if_pos ⟨by omega, q⟩]
noncomputable def attB (m : pM) (c : Int) : pM := wr (wr (wr (rnRes m c).2.1 88 28 (rnRes m c).1) 88 29 (if ((rnRes m c).1 : Int) < m 88 24 then m 106 (rnRes m c).1 else -1)) 88 30 ((rnRes m c).2.1 88 27)
noncomputable def attRes (m : pM) (c : Int) : Int × pM × (Int → Int) × pEv :=
  if ((rnRes m c).1 : Int) < m 88 24 then (0, attB m c, setV m c (rnRes m c).2.2.1 (aNum m c 16), (rnRes m c).2.2.2)
  else if oRes m c (rnRes m c).2.2.1 = 0 then (0, attB m c, setV m c (rnRes m c).2.2.1 (aNum m c 16), (rnRes m c).2.2.2 ++ oEv m c (rnRes m c).2.2.1)
  else (1, rKeepAll (attB m c) c (rnRes m c).1, (rnRes m c).2.2.1, (rnRes m c).2.2.2 ++ oEv m c (rnRes m c).2.2.1)
theorem rnGo_len {m : pM} {c : Int} (hs : 0 ≤ aNc m c ∧ aNc m c ≤ 40) (f k : Nat) (b : pM) (v : Int → Int) (ev : pEv) : (rnGo m c f k b v ev).2.2.2.length ≤ ev.length + 14000 * f := by
  induction f generalizing k b v ev with
  | zero => exact Nat.le_refl _
  | succ f ih =>
    have h1 := iEv_len (m := m) (c := c) v (m 106 k) hs
    have h2 := dRes_len (m := m) (c := c) hs (m 106 k) v
    have i := ih (k + 1) (wr (wr b 88 27 0) 107 k (numV m c v 16)) (dRes m c (m 106 k) v).1 (ev ++ iEv m c v (m 106 k) ++ (dRes m c (m 106 k) v).2)
    rw [rnGo_succ]
    split
    · show (ev ++ iEv m c v (m 106 k)).length ≤ _; rw [List.length_append]; omega
    · split
      · show (ev ++ iEv m c v (m 106 k) ++ [(false, aStuck m c (m 106 k))]).length ≤ _
        rw [List.length_append, List.length_append]; show _ + 1 ≤ _; omega
      · rw [List.length_append, List.length_append] at i; omega
theorem rnGo_ok2 {m : pM} {c : Int} (hs : cOkR m c) (hm : ∀ j : Int, 0 ≤ j → j < m 88 24 → 0 ≤ m 106 j ∧ m 106 j < 38) (f k : Nat) (b : pM) {v : Int → Int} (ev : pEv) (hk : (k : Int) + f ≤ m 88 24 ∨ (k : Int) + f ≤ (m 88 24).toNat) (hv : pOkv m c v) : pOkv m c (rnGo m c f k b v ev).2.2.1 := by
  induction f generalizing k b v ev with
  | zero => exact hv
  | succ f ih =>
    have h0 := hm k (by omega) (by omega)
    rw [rnGo_succ]
    split
    · exact hv
    · rename_i q
      split
      · exact hv
      · exact ih _ _ _ (by omega) (dRes_ok hs.1.2.2 h0.1 (fun q2 => iRes_kind q q2) hv)
set_option maxHeartbeats 4000000 in
set_option maxRecDepth 100000 in
theorem r_attempt (d : Nat) (hd : 7 ≤ d) (n : Nat) (ok : pO) (mem : pM) (hU : RefUp n ok) (c : Int) (hc : -2147483648 ≤ c ∧ c ≤ 2147483647) (hI : ROk mem) (hkm : ∀ c, 0 ≤ c → c ≤ 2 → 0 ≤ mem 101 c ∧ mem 101 c ≤ 30) (hty : 0 ≤ mem 88 24 ∧ mem 88 24 ≤ 40) (htm : ∀ j, 0 ≤ j → j < mem 88 24 → 0 ≤ mem 106 j ∧ mem 106 j < 38) : PM mi_X10_attempt d [vr 88, vi c] n ok mem n (fun r ok' mem' => ok = ok' ∧ ((¬ (0 ≤ c ∧ c ≤ 2) ∧ r = some (vi (-2)) ∧ wr (wr mem 88 19 0) 88 0 (-2) = mem') ∨ ((0 ≤ c ∧ c ≤ 2) ∧ ∃ (z : Int) (m9 : pM), r = some (vi (attRes (wr mem 88 19 0) c).1) ∧ vMem (attRes (wr mem 88 19 0) c).2.1 m9 c (attRes (wr mem 88 19 0) c).2.2.1 (attRes (wr mem 88 19 0) c).2.2.2 z ∧ wr m9 88 0 0 = mem'))) := by
  obtain ⟨hO, ⟨a89, a90, a91, a92, a93, a94, a95, a96, a97, a98⟩, ⟨a99, a100, a101, a102, a103, a104, a105, a106, a107⟩, ⟨a108, a109, a110, a111, a112, a113, a114, a115, a116, a117, a118, a119⟩, a120, a121, a122⟩ := id hU
  refine PM.of (by decide) (by decide) (Nat.le_refl _) (Nat.le_of_ble_eq_true rfl) ?_
  refine pw_aload_n 0 rfl dX10_attempt_0 rfl ?_
  refine pw_iconst dX10_attempt_1 ?_
  refine pw_pI 19 19 rfl dX10_attempt_2 cOk10 (by assumption) (by decide) kw_1084 rfl rfl (by decide) (by omega) ?_
  obtain ⟨m0, em0⟩ : ∃ m0, m0 = wr mem 88 19 0 := ⟨_, rfl⟩
  rw [← em0]
  have s0 : sSame mem m0 := by rw [em0]; exact fun a q1 q2 q3 => wr_a _ _ _ (by omega)
  have hI0 : ROk m0 := ROk_s s0 (by rw [em0]; exact wr_a _ _ _ (by omega)) hI
  have t0 : m0 88 19 = 0 := by rw [em0, wr_s]
  have k0 : m0 101 = mem 101 := by rw [em0, wr_a _ _ _ (by omega)]
  have f0 : ∀ k, k ≠ 19 → m0 88 k = mem 88 k := fun k q => by rw [em0, wr_k _ _ _ _ q]
  have g0 : m0 106 = mem 106 := by rw [em0, wr_a _ _ _ (by omega)]
  have n0 := f0 24 (by omega)
  refine pw_iload_n 1 rfl dX10_attempt_5 rfl ?_
  refine pw_callS (d' := d - 1) (As := [_]) dX10_attempt_6 ok_X10_isChest kw_1241 (by omega) rfl (Nat.le_of_ble_eq_true rfl) (r_isChest (d - 1) (by omega) n ok _ _ (by omega)) (Nat.le_refl _) (Or.inl rfl) (fun r ok1 mem1 hq => ?_)
  obtain ⟨rfl, rfl, rfl⟩ := hq
  refine pw_if_ne 19 (by decide) dX10_attempt_9 (by split <;> omega) (fun c9 => ?_) (fun c9 => ?_)
  · skip
    rw [ne_eq, bz_n] at c9
    refine pw_aload_n 0 rfl dX10_attempt_19 rfl ?_
    refine pw_iload_n 1 rfl dX10_attempt_20 rfl ?_
    refine pw_callV (d' := d - 1) (As := [_]) (ci := 10) dX10_attempt_21 ok_X10_numberOf kw_1362 rfl rfl (Of.o (by assumption)) (by omega) rfl (Nat.le_of_ble_eq_true rfl) (r_numberOf (d - 1) (by omega) n ok m0 hU c (by omega)) (Nat.le_refl _) (Or.inl rfl) (fun r ok1 mem1 hq => ?_)
    obtain ⟨rfl, rfl, rfl⟩ := hq
    have hnr := num_ran (hI0 c (by omega) (by omega))
    have hRV : pOkv m0 c (rnRes m0 c).2.2.1 := rnGo_ok2 (hI0 c (by omega) (by omega)) (by rw [n0, g0]; exact htm) _ _ _ _ (by omega) (hI0 c (by omega) (by omega)).2.1
    refine pw_istore_n 2 rfl dX10_attempt_24 (by decide) ?_
    refine pw_aload_n 0 rfl dX10_attempt_25 rfl ?_
    refine pw_iload_n 1 rfl dX10_attempt_26 rfl ?_
    refine pw_callV (d' := d - 1) (As := [_]) (ci := 10) dX10_attempt_27 ok_X10_runs kw_1488 rfl rfl (Of.o (by assumption)) (by omega) rfl (Nat.le_of_ble_eq_true rfl) (r_runs (d - 1) (by omega) n ok m0 hU c (by omega) (hI0 c (by omega) (by omega)) (by rw [f0 24 (by omega)]; exact hty) (by rw [f0 24 (by omega), g0]; exact htm) (by omega)) (Nat.le_refl _) (Or.inl rfl) (fun r ok1 m1 hq => ?_)
    obtain ⟨z, rfl, rfl, hM⟩ := hq
    have hn9 := rnRes_n (m := m0) c (by rw [f0 24 (by omega)]; exact hty)
    rw [f0 24 (by omega)] at hn9
    have hB := rnRes_b m0 c
    have q101 : m1 101 = mem 101 := (hM.a (by omega) (by omega) (by omega)).trans ((hB.1 101 (by omega) (by omega)).trans k0)
    have hkm9 := hkm c (by omega) (by omega)
    have q24 : m1 88 24 = m0 88 24 := (hM.f (by omega) (by omega) (by omega) (by omega)).trans (hB.2 24 (by omega))
    have q27 : m1 88 27 = (rnRes m0 c).2.1 88 27 := hM.f (by omega) (by omega) (by omega) (by omega)
    have q106 : m1 106 = m0 106 := (hM.a (by omega) (by omega) (by omega)).trans (hB.1 106 (by omega) (by omega))
    have hc0 := hI0 c (by omega) (by omega)
    have hrv : pOkv m0 c (rnRes m0 c).2.2.1 := hRV
    have hrl : (rnRes m0 c).2.2.2.length ≤ 560000 := by
      have h9 := rnGo_len (m := m0) (c := c) hc0.1.1 (m0 88 24).toNat 0 (wr m0 88 27 0) (aAt m0 c) []
      have h8 := f0 24 (by omega)
      unfold rnRes
      show _ ≤ _
      have h7 : ([] : pEv).length = 0 := rfl
      omega
    have t1 := hM.tr (show 0 ≤ _ by rw [hB.2 19 (by omega)]; omega)
    rw [hB.2 19 (by omega)] at t1
    refine pw_istore_n 3 rfl dX10_attempt_30 (by decide) ?_
    refine pw_aload_n 0 rfl dX10_attempt_31 rfl ?_
    refine pw_iload_n 3 rfl dX10_attempt_32 rfl ?_
    refine pw_pI 28 28 rfl dX10_attempt_33 cOk10 (by assumption) (by decide) kw_1093 rfl rfl (by decide) (by omega) ?_
    refine pw_aload_n 0 rfl dX10_attempt_36 rfl ?_
    refine pw_iload_n 3 rfl dX10_attempt_37 rfl ?_
    refine pw_aload_n 0 rfl dX10_attempt_38 rfl ?_
    refine pw_gI 24 24 rfl dX10_attempt_39 cOk10 (by assumption) (by decide) kw_1089 (by decide) (fun r39 => ?_)
    rw [wr_k _ _ _ _ (by omega), q24] at r39 ⊢
    refine pw_icmp_ge 54 (by decide) dX10_attempt_42 (by omega) (by omega) (fun c42 => ?_) (fun c42 => ?_)
    · skip
      refine pw_iconst dX10_attempt_54 ?_
      refine pw_pI 29 29 rfl dX10_attempt_55 cOk10 (by assumption) (by decide) kw_1094 rfl rfl (by decide) (by omega) ?_
      refine pw_aload_n 0 rfl dX10_attempt_58 rfl ?_
      refine pw_aload_n 0 rfl dX10_attempt_59 rfl ?_
      refine pw_gI 27 27 rfl dX10_attempt_60 cOk10 (by assumption) (by decide) kw_1092 (by decide) (fun r60 => ?_)
      rw [wr_k _ _ _ _ (by omega), wr_k _ _ _ _ (by omega), q27] at r60 ⊢
      refine pw_pI 30 30 rfl dX10_attempt_63 cOk10 (by assumption) (by decide) kw_1095 rfl rfl (by decide) (by omega) ?_
      obtain ⟨m4, em4⟩ : ∃ m4, m4 = wr (wr (wr m1 88 28 ((rnRes m0 c).1 : Int)) 88 29 (-1)) 88 30 ((rnRes m0 c).2.1 88 27) := ⟨_, rfl⟩
      rw [← em4]
      have hM4 := ((hM.wr (a := 88) (k := 28) ((rnRes m0 c).1 : Int) (by omega) (by omega) (fun _ => by omega)).wr (a := 88) (k := 29) (-1) (by omega) (by omega) (fun _ => by omega)).wr (a := 88) (k := 30) ((rnRes m0 c).2.1 88 27) (by omega) (by omega) (fun _ => by omega)
      rw [← em4] at hM4
      have eB : wr (wr (wr (rnRes m0 c).2.1 88 28 ((rnRes m0 c).1 : Int)) 88 29 (-1)) 88 30 ((rnRes m0 c).2.1 88 27) = attB m0 c := by unfold attB; rw [if_neg (by omega)]
      rw [eB] at hM4
      have q24b : m4 88 24 = m0 88 24 := by rw [em4, wr_k _ _ _ _ (by omega), wr_k _ _ _ _ (by omega), wr_k _ _ _ _ (by omega)]; exact q24
      have q19b : m4 88 19 = m1 88 19 := by rw [em4, wr_k _ _ _ _ (by omega), wr_k _ _ _ _ (by omega), wr_k _ _ _ _ (by omega)]
      have s4 : sSame m0 m4 := fun a q1 q2 q3 => by rw [em4, wr_a _ _ _ (by omega), wr_a _ _ _ (by omega), wr_a _ _ _ (by omega)]; exact (hM.a (by omega) q3 (by omega)).trans (hB.1 a (by omega) (by omega))
      have q101b : m4 101 = mem 101 := by rw [em4, wr_a _ _ _ (by omega), wr_a _ _ _ (by omega), wr_a _ _ _ (by omega)]; exact q101
      refine pw_iload_n 3 rfl dX10_attempt_66 rfl ?_
      refine pw_aload_n 0 rfl dX10_attempt_67 rfl ?_
      refine pw_gI 24 24 rfl dX10_attempt_68 cOk10 (by assumption) (by decide) kw_1089 (by decide) (fun r68 => ?_)
      rw [q24b] at r68 ⊢
      have sB : sSame m0 (attB m0 c) := fun a q1 q2 q3 => by unfold attB; rw [wr_a _ _ _ (by omega), wr_a _ _ _ (by omega), wr_a _ _ _ (by omega)]; exact hB.1 a (by omega) (by omega)
      refine pw_icmp_lt 82 (by decide) dX10_attempt_71 (by omega) (by omega) (fun c71 => ?_) (fun c71 => ?_)
      · skip
        refine pw_aload_n 0 rfl dX10_attempt_82 rfl ?_
        refine pw_iload_n 1 rfl dX10_attempt_83 rfl ?_
        refine pw_iload_n 2 rfl dX10_attempt_84 rfl ?_
        refine pw_callV (d' := d - 1) (As := [_, _]) (ci := 10) dX10_attempt_85 ok_X10_setNumber kw_1394 rfl rfl (Of.o (by assumption)) (by omega) rfl (Nat.le_of_ble_eq_true rfl) (r_setNumber (d - 1) (by omega) n ok m4 hU c (aNum m0 c 16) (by omega) (by omega) (sOk_s s4 hc0.1).2.2) (Nat.le_refl _) (Or.inl rfl) (fun r ok1 m6 hq => ?_)
        obtain ⟨rfl, rfl, em6⟩ := hq
        have hS := vM_set hM4 (aNum m0 c 16)
        rw [em6] at hS
        refine pw_aload_n 0 rfl dX10_attempt_88 rfl ?_
        refine pw_iconst dX10_attempt_89 ?_
        refine pw_callV (d' := d - 1) (As := [_]) (ci := 10) dX10_attempt_90 ok_X10_says kw_1265 rfl rfl (Of.o (by assumption)) (by omega) rfl (Nat.le_of_ble_eq_true rfl) (r_says (d - 1) (by omega) n ok _ hU _) (Nat.le_refl _) (Or.inl rfl) (fun r ok1 mem1 hq => ?_)
        obtain ⟨rfl, rfl, rfl⟩ := hq
        refine pw_iret dX10_attempt_93 rfl rfl ?_
        have hcv : ∀ s, setV (attB m0 c) c (rnRes m0 c).2.2.1 (aNum m0 c 16) s = setV m0 c (rnRes m0 c).2.2.1 (aNum m0 c 16) s := fun s => by unfold setV aKind aSpan; rw [sB.kind, sB.span, lfN_s sB]
        have e9 : attRes m0 c = (0, attB m0 c, setV m0 c (rnRes m0 c).2.2.1 (aNum m0 c 16), (rnRes m0 c).2.2.2) := by unfold attRes; rw [if_pos (by omega)]
        exact ⟨rfl, Or.inr ⟨by omega, z, m6, by rw [e9], by rw [e9]; exact hS.cong (fun s _ _ => hcv s), rfl⟩⟩
      · skip
        refine pw_aload_n 0 rfl dX10_attempt_74 rfl ?_
        refine pw_iload_n 1 rfl dX10_attempt_75 rfl ?_
        refine pw_callV (d' := d - 1) (As := [_]) (ci := 10) dX10_attempt_76 ok_X10_opens kw_1370 rfl rfl (Of.o (by assumption)) (by omega) rfl (Nat.le_of_ble_eq_true rfl) (r_opens (d - 1) (by omega) n ok m4 hU c (by omega) (sOk_s s4 hc0.1) (pOkv_v hM4.at (pOkv_s s4 hrv)) (by omega)) (Nat.le_refl _) (Or.inl rfl) (fun r ok1 m5 hq => ?_)
        obtain ⟨z5, rfl, rfl, em5⟩ := hq
        rw [oRes_v (sOk_s s4 hc0.1) hM4.at, oRes_s s4]
        rw [oEv_v (sOk_s s4 hc0.1) hM4.at, oEv_s s4] at em5
        have hM5 := hM4.e (oEv m0 c (rnRes m0 c).2.2.1) z5
        rw [em5] at hM5
        have h01 := oRes_01 m0 c (rnRes m0 c).2.2.1
        have s5 : sSame m0 m5 := fun a q1 q2 q3 => (hM5.a (by omega) q3 (by omega)).trans (sB a q1 q2 q3)
        have q101c : m5 101 = mem 101 := by rw [← em5, wr_a _ _ _ (by omega), rEv_a _ _ (by omega) (by omega)]; exact q101b
        refine pw_if_ne 94 (by decide) dX10_attempt_79 (by omega) (fun c79 => ?_) (fun c79 => ?_)
        · skip
          refine pw_aload_n 0 rfl dX10_attempt_94 rfl ?_
          refine pw_iload_n 1 rfl dX10_attempt_95 rfl ?_
          refine pw_iload_n 3 rfl dX10_attempt_96 rfl ?_
          refine pw_callV (d' := d - 1) (As := [_, _]) (ci := 10) dX10_attempt_97 ok_X10_keepAll kw_1492 rfl rfl (Of.o (by assumption)) (by omega) rfl (Nat.le_of_ble_eq_true rfl) (r_keepAll (d - 1) (by omega) n ok m5 hU c (rnRes m0 c).1 (by omega) (by omega) (by rw [q101c]; exact hkm9)) (Nat.le_refl _) (Or.inl rfl) (fun r ok1 m7 hq => ?_)
          obtain ⟨rfl, rfl, em7⟩ := hq
          have hM7 := vM_keepAll hM5 (rnRes m0 c).1
          rw [em7] at hM7
          refine pw_aload_n 0 rfl dX10_attempt_100 rfl ?_
          refine pw_iconst dX10_attempt_101 ?_
          refine pw_callV (d' := d - 1) (As := [_]) (ci := 10) dX10_attempt_102 ok_X10_says kw_1265 rfl rfl (Of.o (by assumption)) (by omega) rfl (Nat.le_of_ble_eq_true rfl) (r_says (d - 1) (by omega) n ok _ hU _) (Nat.le_refl _) (Or.inl rfl) (fun r ok1 mem1 hq => ?_)
          obtain ⟨rfl, rfl, rfl⟩ := hq
          refine pw_iret dX10_attempt_105 rfl rfl ?_
          have e9 : attRes m0 c = (1, rKeepAll (attB m0 c) c (rnRes m0 c).1, (rnRes m0 c).2.2.1, (rnRes m0 c).2.2.2 ++ oEv m0 c (rnRes m0 c).2.2.1) := by unfold attRes; rw [if_neg (by omega), if_neg c79]
          exact ⟨rfl, Or.inr ⟨by omega, z5, m7, by rw [e9], by rw [e9]; exact hM7, rfl⟩⟩
        · skip
          refine pw_aload_n 0 rfl dX10_attempt_82 rfl ?_
          refine pw_iload_n 1 rfl dX10_attempt_83 rfl ?_
          refine pw_iload_n 2 rfl dX10_attempt_84 rfl ?_
          refine pw_callV (d' := d - 1) (As := [_, _]) (ci := 10) dX10_attempt_85 ok_X10_setNumber kw_1394 rfl rfl (Of.o (by assumption)) (by omega) rfl (Nat.le_of_ble_eq_true rfl) (r_setNumber (d - 1) (by omega) n ok m5 hU c (aNum m0 c 16) (by omega) (by omega) (sOk_s s5 hc0.1).2.2) (Nat.le_refl _) (Or.inl rfl) (fun r ok1 m6 hq => ?_)
          obtain ⟨rfl, rfl, em6⟩ := hq
          have hS := vM_set hM5 (aNum m0 c 16)
          rw [em6] at hS
          refine pw_aload_n 0 rfl dX10_attempt_88 rfl ?_
          refine pw_iconst dX10_attempt_89 ?_
          refine pw_callV (d' := d - 1) (As := [_]) (ci := 10) dX10_attempt_90 ok_X10_says kw_1265 rfl rfl (Of.o (by assumption)) (by omega) rfl (Nat.le_of_ble_eq_true rfl) (r_says (d - 1) (by omega) n ok _ hU _) (Nat.le_refl _) (Or.inl rfl) (fun r ok1 mem1 hq => ?_)
          obtain ⟨rfl, rfl, rfl⟩ := hq
          refine pw_iret dX10_attempt_93 rfl rfl ?_
          have hcv : ∀ s, setV (attB m0 c) c (rnRes m0 c).2.2.1 (aNum m0 c 16) s = setV m0 c (rnRes m0 c).2.2.1 (aNum m0 c 16) s := fun s => by unfold setV aKind aSpan; rw [sB.kind, sB.span, lfN_s sB]
          have e9 : attRes m0 c = (0, attB m0 c, setV m0 c (rnRes m0 c).2.2.1 (aNum m0 c 16), (rnRes m0 c).2.2.2 ++ oEv m0 c (rnRes m0 c).2.2.1) := by unfold attRes; rw [if_neg (by omega), if_pos c79]
          exact ⟨rfl, Or.inr ⟨by omega, z5, m6, by rw [e9], by rw [e9]; exact hS.cong (fun s _ _ => hcv s), rfl⟩⟩
    · skip
      refine pw_aload_n 0 rfl dX10_attempt_45 rfl ?_
      refine pw_gR 25 106 dX10_attempt_46 cOk10 (by assumption) (by decide) kw_1090 (by decide) rfl ?_
      refine pw_iload_n 3 rfl dX10_attempt_49 rfl ?_
      refine pw_iaload dX10_attempt_50 (by assumption) (by omega) (by omega) (fun r50 => ?_)
      rw [wr_a _ _ _ (by omega), q106] at r50 ⊢
      refine pw_goto 55 (by decide) dX10_attempt_51 ?_
      refine pw_pI 29 29 rfl dX10_attempt_55 cOk10 (by assumption) (by decide) kw_1094 rfl rfl (by decide) (by omega) ?_
      refine pw_aload_n 0 rfl dX10_attempt_58 rfl ?_
      refine pw_aload_n 0 rfl dX10_attempt_59 rfl ?_
      refine pw_gI 27 27 rfl dX10_attempt_60 cOk10 (by assumption) (by decide) kw_1092 (by decide) (fun r60 => ?_)
      rw [wr_k _ _ _ _ (by omega), wr_k _ _ _ _ (by omega), q27] at r60 ⊢
      refine pw_pI 30 30 rfl dX10_attempt_63 cOk10 (by assumption) (by decide) kw_1095 rfl rfl (by decide) (by omega) ?_
      obtain ⟨m4, em4⟩ : ∃ m4, m4 = wr (wr (wr m1 88 28 ((rnRes m0 c).1 : Int)) 88 29 (m0 106 ((rnRes m0 c).1 : Int))) 88 30 ((rnRes m0 c).2.1 88 27) := ⟨_, rfl⟩
      rw [← em4]
      have hM4 := ((hM.wr (a := 88) (k := 28) ((rnRes m0 c).1 : Int) (by omega) (by omega) (fun _ => by omega)).wr (a := 88) (k := 29) (m0 106 ((rnRes m0 c).1 : Int)) (by omega) (by omega) (fun _ => by omega)).wr (a := 88) (k := 30) ((rnRes m0 c).2.1 88 27) (by omega) (by omega) (fun _ => by omega)
      rw [← em4] at hM4
      have eB : wr (wr (wr (rnRes m0 c).2.1 88 28 ((rnRes m0 c).1 : Int)) 88 29 (m0 106 ((rnRes m0 c).1 : Int))) 88 30 ((rnRes m0 c).2.1 88 27) = attB m0 c := by unfold attB; rw [if_pos (by omega)]
      rw [eB] at hM4
      have q24b : m4 88 24 = m0 88 24 := by rw [em4, wr_k _ _ _ _ (by omega), wr_k _ _ _ _ (by omega), wr_k _ _ _ _ (by omega)]; exact q24
      have q19b : m4 88 19 = m1 88 19 := by rw [em4, wr_k _ _ _ _ (by omega), wr_k _ _ _ _ (by omega), wr_k _ _ _ _ (by omega)]
      have s4 : sSame m0 m4 := fun a q1 q2 q3 => by rw [em4, wr_a _ _ _ (by omega), wr_a _ _ _ (by omega), wr_a _ _ _ (by omega)]; exact (hM.a (by omega) q3 (by omega)).trans (hB.1 a (by omega) (by omega))
      have q101b : m4 101 = mem 101 := by rw [em4, wr_a _ _ _ (by omega), wr_a _ _ _ (by omega), wr_a _ _ _ (by omega)]; exact q101
      refine pw_iload_n 3 rfl dX10_attempt_66 rfl ?_
      refine pw_aload_n 0 rfl dX10_attempt_67 rfl ?_
      refine pw_gI 24 24 rfl dX10_attempt_68 cOk10 (by assumption) (by decide) kw_1089 (by decide) (fun r68 => ?_)
      rw [q24b] at r68 ⊢
      have sB : sSame m0 (attB m0 c) := fun a q1 q2 q3 => by unfold attB; rw [wr_a _ _ _ (by omega), wr_a _ _ _ (by omega), wr_a _ _ _ (by omega)]; exact hB.1 a (by omega) (by omega)
      refine pw_icmp_lt 82 (by decide) dX10_attempt_71 (by omega) (by omega) (fun c71 => ?_) (fun c71 => ?_)
      · skip
        refine pw_aload_n 0 rfl dX10_attempt_82 rfl ?_
        refine pw_iload_n 1 rfl dX10_attempt_83 rfl ?_
        refine pw_iload_n 2 rfl dX10_attempt_84 rfl ?_
        refine pw_callV (d' := d - 1) (As := [_, _]) (ci := 10) dX10_attempt_85 ok_X10_setNumber kw_1394 rfl rfl (Of.o (by assumption)) (by omega) rfl (Nat.le_of_ble_eq_true rfl) (r_setNumber (d - 1) (by omega) n ok m4 hU c (aNum m0 c 16) (by omega) (by omega) (sOk_s s4 hc0.1).2.2) (Nat.le_refl _) (Or.inl rfl) (fun r ok1 m6 hq => ?_)
        obtain ⟨rfl, rfl, em6⟩ := hq
        have hS := vM_set hM4 (aNum m0 c 16)
        rw [em6] at hS
        refine pw_aload_n 0 rfl dX10_attempt_88 rfl ?_
        refine pw_iconst dX10_attempt_89 ?_
        refine pw_callV (d' := d - 1) (As := [_]) (ci := 10) dX10_attempt_90 ok_X10_says kw_1265 rfl rfl (Of.o (by assumption)) (by omega) rfl (Nat.le_of_ble_eq_true rfl) (r_says (d - 1) (by omega) n ok _ hU _) (Nat.le_refl _) (Or.inl rfl) (fun r ok1 mem1 hq => ?_)
        obtain ⟨rfl, rfl, rfl⟩ := hq
        refine pw_iret dX10_attempt_93 rfl rfl ?_
        have hcv : ∀ s, setV (attB m0 c) c (rnRes m0 c).2.2.1 (aNum m0 c 16) s = setV m0 c (rnRes m0 c).2.2.1 (aNum m0 c 16) s := fun s => by unfold setV aKind aSpan; rw [sB.kind, sB.span, lfN_s sB]
        have e9 : attRes m0 c = (0, attB m0 c, setV m0 c (rnRes m0 c).2.2.1 (aNum m0 c 16), (rnRes m0 c).2.2.2) := by unfold attRes; rw [if_pos (by omega)]
        exact ⟨rfl, Or.inr ⟨by omega, z, m6, by rw [e9], by rw [e9]; exact hS.cong (fun s _ _ => hcv s), rfl⟩⟩
      · skip
        refine pw_aload_n 0 rfl dX10_attempt_74 rfl ?_
        refine pw_iload_n 1 rfl dX10_attempt_75 rfl ?_
        refine pw_callV (d' := d - 1) (As := [_]) (ci := 10) dX10_attempt_76 ok_X10_opens kw_1370 rfl rfl (Of.o (by assumption)) (by omega) rfl (Nat.le_of_ble_eq_true rfl) (r_opens (d - 1) (by omega) n ok m4 hU c (by omega) (sOk_s s4 hc0.1) (pOkv_v hM4.at (pOkv_s s4 hrv)) (by omega)) (Nat.le_refl _) (Or.inl rfl) (fun r ok1 m5 hq => ?_)
        obtain ⟨z5, rfl, rfl, em5⟩ := hq
        rw [oRes_v (sOk_s s4 hc0.1) hM4.at, oRes_s s4]
        rw [oEv_v (sOk_s s4 hc0.1) hM4.at, oEv_s s4] at em5
        have hM5 := hM4.e (oEv m0 c (rnRes m0 c).2.2.1) z5
        rw [em5] at hM5
        have h01 := oRes_01 m0 c (rnRes m0 c).2.2.1
        have s5 : sSame m0 m5 := fun a q1 q2 q3 => (hM5.a (by omega) q3 (by omega)).trans (sB a q1 q2 q3)
        have q101c : m5 101 = mem 101 := by rw [← em5, wr_a _ _ _ (by omega), rEv_a _ _ (by omega) (by omega)]; exact q101b
        refine pw_if_ne 94 (by decide) dX10_attempt_79 (by omega) (fun c79 => ?_) (fun c79 => ?_)
        · skip
          refine pw_aload_n 0 rfl dX10_attempt_94 rfl ?_
          refine pw_iload_n 1 rfl dX10_attempt_95 rfl ?_
          refine pw_iload_n 3 rfl dX10_attempt_96 rfl ?_
          refine pw_callV (d' := d - 1) (As := [_, _]) (ci := 10) dX10_attempt_97 ok_X10_keepAll kw_1492 rfl rfl (Of.o (by assumption)) (by omega) rfl (Nat.le_of_ble_eq_true rfl) (r_keepAll (d - 1) (by omega) n ok m5 hU c (rnRes m0 c).1 (by omega) (by omega) (by rw [q101c]; exact hkm9)) (Nat.le_refl _) (Or.inl rfl) (fun r ok1 m7 hq => ?_)
          obtain ⟨rfl, rfl, em7⟩ := hq
          have hM7 := vM_keepAll hM5 (rnRes m0 c).1
          rw [em7] at hM7
          refine pw_aload_n 0 rfl dX10_attempt_100 rfl ?_
          refine pw_iconst dX10_attempt_101 ?_
          refine pw_callV (d' := d - 1) (As := [_]) (ci := 10) dX10_attempt_102 ok_X10_says kw_1265 rfl rfl (Of.o (by assumption)) (by omega) rfl (Nat.le_of_ble_eq_true rfl) (r_says (d - 1) (by omega) n ok _ hU _) (Nat.le_refl _) (Or.inl rfl) (fun r ok1 mem1 hq => ?_)
          obtain ⟨rfl, rfl, rfl⟩ := hq
          refine pw_iret dX10_attempt_105 rfl rfl ?_
          have e9 : attRes m0 c = (1, rKeepAll (attB m0 c) c (rnRes m0 c).1, (rnRes m0 c).2.2.1, (rnRes m0 c).2.2.2 ++ oEv m0 c (rnRes m0 c).2.2.1) := by unfold attRes; rw [if_neg (by omega), if_neg c79]
          exact ⟨rfl, Or.inr ⟨by omega, z5, m7, by rw [e9], by rw [e9]; exact hM7, rfl⟩⟩
        · skip
          refine pw_aload_n 0 rfl dX10_attempt_82 rfl ?_
          refine pw_iload_n 1 rfl dX10_attempt_83 rfl ?_
          refine pw_iload_n 2 rfl dX10_attempt_84 rfl ?_
          refine pw_callV (d' := d - 1) (As := [_, _]) (ci := 10) dX10_attempt_85 ok_X10_setNumber kw_1394 rfl rfl (Of.o (by assumption)) (by omega) rfl (Nat.le_of_ble_eq_true rfl) (r_setNumber (d - 1) (by omega) n ok m5 hU c (aNum m0 c 16) (by omega) (by omega) (sOk_s s5 hc0.1).2.2) (Nat.le_refl _) (Or.inl rfl) (fun r ok1 m6 hq => ?_)
          obtain ⟨rfl, rfl, em6⟩ := hq
          have hS := vM_set hM5 (aNum m0 c 16)
          rw [em6] at hS
          refine pw_aload_n 0 rfl dX10_attempt_88 rfl ?_
          refine pw_iconst dX10_attempt_89 ?_
          refine pw_callV (d' := d - 1) (As := [_]) (ci := 10) dX10_attempt_90 ok_X10_says kw_1265 rfl rfl (Of.o (by assumption)) (by omega) rfl (Nat.le_of_ble_eq_true rfl) (r_says (d - 1) (by omega) n ok _ hU _) (Nat.le_refl _) (Or.inl rfl) (fun r ok1 mem1 hq => ?_)
          obtain ⟨rfl, rfl, rfl⟩ := hq
          refine pw_iret dX10_attempt_93 rfl rfl ?_
          have hcv : ∀ s, setV (attB m0 c) c (rnRes m0 c).2.2.1 (aNum m0 c 16) s = setV m0 c (rnRes m0 c).2.2.1 (aNum m0 c 16) s := fun s => by unfold setV aKind aSpan; rw [sB.kind, sB.span, lfN_s sB]
          have e9 : attRes m0 c = (0, attB m0 c, setV m0 c (rnRes m0 c).2.2.1 (aNum m0 c 16), (rnRes m0 c).2.2.2 ++ oEv m0 c (rnRes m0 c).2.2.1) := by unfold attRes; rw [if_neg (by omega), if_pos c79]
          exact ⟨rfl, Or.inr ⟨by omega, z5, m6, by rw [e9], by rw [e9]; exact hS.cong (fun s _ _ => hcv s), rfl⟩⟩
  · skip
    rw [bz_0] at c9
    refine pw_aload_n 0 rfl dX10_attempt_12 rfl ?_
    refine pw_bipush dX10_attempt_13 (by decide) ?_
    refine pw_callV (d' := d - 1) (As := [_]) (ci := 10) dX10_attempt_15 ok_X10_refuses kw_1249 rfl rfl (Of.o (by assumption)) (by omega) rfl (Nat.le_of_ble_eq_true rfl) (r_refuses (d - 1) (by omega) n ok _ hU _ (by omega)) (Nat.le_refl _) (Or.inl rfl) (fun r ok1 mem1 hq => ?_)
    obtain ⟨rfl, rfl, rfl⟩ := hq
    refine pw_iret dX10_attempt_18 rfl rfl ?_
    exact ⟨rfl, Or.inl ⟨by omega, rfl, rfl⟩⟩
