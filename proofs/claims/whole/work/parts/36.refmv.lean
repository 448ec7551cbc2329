/-! ===== move, play, attempt ===== -/
theorem rKeep_ev {m m1 : pM} {c : Int} (h1 : m1 101 = m 101) (h2 : m1 102 = m 102) (x : Int) : (∀ a, a ≠ 101 → a ≠ 102 → rKeep m1 c x a = m1 a) ∧ rKeep m1 c x 101 = rKeep m c x 101 ∧ rKeep m1 c x 102 = rKeep m c x 102 := by
  refine ⟨fun a q1 q2 => rKeep_a q1 q2, ?_, ?_⟩
  · unfold rKeep; rw [h1]; split
    · funext j; simp only [wr, cpM, h1, h2]
    · funext j; simp only [wr, h1]
  · unfold rKeep; rw [h1]; split
    · funext j; simp only [wr, cpM, h2]
    · funext j; simp only [wr, h2]
theorem rEv_a (m : pM) (l : pEv) {a : Nat} (h1 : a ≠ 88) (h2 : a ≠ 103) : rEv m l a = m a := (nSame.e m l).1 a h1 h2
theorem rEv_cong {m m1 : pM} (h1 : m1 88 = m 88) (h2 : m1 103 = m 103) (l : pEv) : rEv m1 l 88 = rEv m l 88 ∧ rEv m1 l 103 = rEv m l 103 := by
  induction l generalizing m m1 with
  | nil => exact ⟨h1, h2⟩
  | cons q l ih =>
    obtain ⟨t, x⟩ := q
    cases t
    · refine ih ?_ ?_
      · unfold rNotes; rw [h1]; split
        · funext j; simp only [wr, h1]
        · exact h1
      · unfold rNotes; rw [h1]; split
        · funext j; simp only [wr, h2]
        · exact h2
    · refine ih ?_ ?_
      · unfold rWrites; rw [h1]; split
        · split
          · funext j; simp only [wr, h1]
          · funext j; simp only [wr, h1]
        · exact h1
      · unfold rWrites; rw [h1]; split
        · split
          · funext j; simp only [wr, h2]
          · funext j; simp only [wr, h2]
        · exact h2
theorem vM_keep {m m1 : pM} {c : Int} {v : Int → Int} {ev : pEv} {z : Int} (h : vMem m m1 c v ev z) (x : Int) : vMem (rKeep m c x) (rKeep m1 c x) c v ev z := by
  have k := rKeep_ev (c := c) (h.a (a := 101) (by omega) (by omega) (by omega)) (h.a (a := 102) (by omega) (by omega) (by omega)) x
  have e := rEv_cong (m := m) (m1 := rKeep m c x) (rKeep_a (by omega) (by omega)) (rKeep_a (by omega) (by omega)) ev
  refine ⟨fun a ha => ?_, fun s q1 q2 => by rw [rKeep_a (by omega) (by omega)]; exact h.2.1 s q1 q2, fun j hj => by rw [rKeep_a (by omega) (by omega), rKeep_a (by omega) (by omega)]; exact h.2.2 j hj⟩
  by_cases e1 : a = 101
  · subst e1; rw [k.2.1, wr_a _ _ _ (by omega), rEv_a _ _ (by omega) (by omega)]
  · by_cases e2 : a = 102
    · subst e2; rw [k.2.2, wr_a _ _ _ (by omega), rEv_a _ _ (by omega) (by omega)]
    · rw [k.1 a e1 e2, h.1 a ha]
      by_cases e3 : a = 88
      · subst e3; funext j; unfold wr; rw [e.1]
      · rw [wr_a _ _ _ e3, wr_a _ _ _ e3]
        by_cases e4 : a = 103
        · subst e4; exact e.2.symm
        · rw [rEv_a _ _ e3 e4, rEv_a _ _ e3 e4, rKeep_a e1 e2]
theorem vM_keepAll {m m1 : pM} {c : Int} {v : Int → Int} {ev : pEv} {z : Int} (h : vMem m m1 c v ev z) (k : Nat) : vMem (rKeepAll m c k) (rKeepAll m1 c k) c v ev z := by
  induction k with
  | zero => exact h
  | succ k ih =>
    have e : m1 107 = m 107 := h.a (by omega) (by omega) (by omega)
    show vMem (rKeep (rKeepAll m c k) c (m 107 k)) (rKeep (rKeepAll m1 c k) c (m1 107 k)) c v ev z
    rw [e]
    exact vM_keep ih _
noncomputable def mvRes (m : pM) (c mv : Int) : Int × pM × (Int → Int) × pEv × Int :=
  if iRes m c (aAt m c) mv = 0 then (0, m, aAt m c, iEv m c (aAt m c) mv, 0) else if aStuck m c mv ≠ 0 then (-10 - aStuck m c mv, m, aAt m c, iEv m c (aAt m c) mv ++ [(false, aStuck m c mv)], -10 - aStuck m c mv)
  else (1, rKeep m c (aNum m c 16), (dRes m c mv (aAt m c)).1, iEv m c (aAt m c) mv ++ (dRes m c mv (aAt m c)).2, 0)
set_option maxHeartbeats 4000000 in
set_option maxRecDepth 100000 in
theorem r_move (d : Nat) (hd : 6 ≤ d) (n : Nat) (ok : pO) (mem : pM) (hU : RefUp n ok) (c v : Int) (hc : -2147483648 ≤ c ∧ c ≤ 2147483647) (hv : -2147483648 ≤ v ∧ v ≤ 2147483647) (hI : ROk mem) (hkm : ∀ c, 0 ≤ c → c ≤ 2 → 0 ≤ mem 101 c ∧ mem 101 c ≤ 30) : PM mi_X10_move d [vr 88, vi c, vi v] n ok mem n (fun r ok' mem' => ok = ok' ∧ ((¬ (0 ≤ c ∧ c ≤ 2) ∧ r = some (vi (-2)) ∧ wr (wr mem 88 19 0) 88 0 (-2) = mem') ∨ ((0 ≤ c ∧ c ≤ 2) ∧ ¬ (0 ≤ v ∧ v ≤ 37) ∧ r = some (vi (-3)) ∧ wr (wr mem 88 19 0) 88 0 (-3) = mem') ∨ ((0 ≤ c ∧ c ≤ 2) ∧ (0 ≤ v ∧ v ≤ 37) ∧ ∃ (z : Int) (m9 : pM), r = some (vi (mvRes (wr mem 88 19 0) c v).1) ∧ vMem (mvRes (wr mem 88 19 0) c v).2.1 m9 c (mvRes (wr mem 88 19 0) c v).2.2.1 (mvRes (wr mem 88 19 0) c v).2.2.2.1 z ∧ wr m9 88 0 (mvRes (wr mem 88 19 0) c v).2.2.2.2 = mem'))) := by
  obtain ⟨hO, ⟨a89, a90, a91, a92, a93, a94, a95, a96, a97, a98⟩, ⟨a99, a100, a101, a102, a103, a104, a105, a106, a107⟩, ⟨a108, a109, a110, a111, a112, a113, a114, a115, a116, a117, a118, a119⟩, a120, a121, a122⟩ := id hU
  refine PM.of (by decide) (by decide) (Nat.le_refl _) (Nat.le_of_ble_eq_true rfl) ?_
  refine pw_aload_n 0 rfl dX10_move_0 rfl ?_
  refine pw_iconst dX10_move_1 ?_
  refine pw_pI 19 19 rfl dX10_move_2 cOk10 (by assumption) (by decide) kw_1084 rfl rfl (by decide) (by omega) ?_
  obtain ⟨m0, em0⟩ : ∃ m0, m0 = wr mem 88 19 0 := ⟨_, rfl⟩
  rw [← em0]
  have s0 : sSame mem m0 := by rw [em0]; exact fun a q1 q2 q3 => wr_a _ _ _ (by omega)
  have hI0 : ROk m0 := ROk_s s0 (by rw [em0]; exact wr_a _ _ _ (by omega)) hI
  have t0 : m0 88 19 = 0 := by rw [em0, wr_s]
  have k0 : ∀ j, m0 101 j = mem 101 j := fun j => by rw [em0, wr_a _ _ _ (by omega)]
  refine pw_iload_n 1 rfl dX10_move_5 rfl ?_
  refine pw_callS (d' := d - 1) (As := [_]) dX10_move_6 ok_X10_isChest kw_1241 (by omega) rfl (Nat.le_of_ble_eq_true rfl) (r_isChest (d - 1) (by omega) n ok _ _ (by omega)) (Nat.le_refl _) (Or.inl rfl) (fun r ok1 mem1 hq => ?_)
  obtain ⟨rfl, rfl, rfl⟩ := hq
  refine pw_if_eq 24 (by decide) dX10_move_9 (by split <;> omega) (fun c9 => ?_) (fun c9 => ?_)
  · skip
    rw [bz_0] at c9
    refine pw_aload_n 0 rfl dX10_move_24 rfl ?_
    refine pw_iload_n 1 rfl dX10_move_25 rfl ?_
    refine pw_callS (d' := d - 1) (As := [_]) dX10_move_26 ok_X10_isChest kw_1241 (by omega) rfl (Nat.le_of_ble_eq_true rfl) (r_isChest (d - 1) (by omega) n ok _ _ (by omega)) (Nat.le_refl _) (Or.inl rfl) (fun r ok1 mem1 hq => ?_)
    obtain ⟨rfl, rfl, rfl⟩ := hq
    refine pw_if_eq 37 (by decide) dX10_move_29 (by split <;> omega) (fun c29 => ?_) (fun c29 => ?_)
    · skip
      rw [bz_0] at c29
      refine pw_bipush dX10_move_37 (by decide) ?_
      refine pw_callV (d' := d - 1) (As := [_]) (ci := 10) dX10_move_39 ok_X10_refuses kw_1249 rfl rfl (Of.o (by assumption)) (by omega) rfl (Nat.le_of_ble_eq_true rfl) (r_refuses (d - 1) (by omega) n ok _ hU _ (by omega)) (Nat.le_refl _) (Or.inl rfl) (fun r ok1 mem1 hq => ?_)
      obtain ⟨rfl, rfl, rfl⟩ := hq
      refine pw_iret dX10_move_42 rfl rfl ?_
      first | exact ⟨rfl, Or.inr (Or.inl ⟨by omega, by omega, rfl, rfl⟩)⟩ | exact ⟨rfl, Or.inl ⟨by omega, rfl, rfl⟩⟩
    · skip
      rw [bz_n] at c29
      refine pw_bipush dX10_move_32 (by decide) ?_
      refine pw_goto 39 (by decide) dX10_move_34 ?_
      refine pw_callV (d' := d - 1) (As := [_]) (ci := 10) dX10_move_39 ok_X10_refuses kw_1249 rfl rfl (Of.o (by assumption)) (by omega) rfl (Nat.le_of_ble_eq_true rfl) (r_refuses (d - 1) (by omega) n ok _ hU _ (by omega)) (Nat.le_refl _) (Or.inl rfl) (fun r ok1 mem1 hq => ?_)
      obtain ⟨rfl, rfl, rfl⟩ := hq
      refine pw_iret dX10_move_42 rfl rfl ?_
      first | exact ⟨rfl, Or.inr (Or.inl ⟨by omega, by omega, rfl, rfl⟩)⟩ | exact ⟨rfl, Or.inl ⟨by omega, rfl, rfl⟩⟩
  · skip
    rw [bz_n] at c9
    refine pw_iload_n 2 rfl dX10_move_12 rfl ?_
    refine pw_i2l dX10_move_13 (by omega) ?_
    refine pw_lconst (x := 0) dX10_move_14 (by decide) ?_
    refine pw_ldc2 (x := 37) kw_1439 (by decide) dX10_move_15 ?_
    refine pw_callS (d' := d - 1) (As := [_, _, _]) dX10_move_18 ok_X10_in kw_1245 (by omega) rfl (Nat.le_of_ble_eq_true rfl) (r_in (d - 1) (by omega) n ok _ _ _ _ (by omega) (by omega) (by omega)) (Nat.le_refl _) (Or.inl rfl) (fun r ok1 mem1 hq => ?_)
    obtain ⟨rfl, rfl, rfl⟩ := hq
    refine pw_if_ne 43 (by decide) dX10_move_21 (by split <;> omega) (fun c21 => ?_) (fun c21 => ?_)
    · skip
      rw [ne_eq, bz_n] at c21
      refine pw_aload_n 0 rfl dX10_move_43 rfl ?_
      refine pw_iload_n 1 rfl dX10_move_44 rfl ?_
      refine pw_iload_n 2 rfl dX10_move_45 rfl ?_
      refine pw_callV (d' := d - 1) (As := [_, _]) (ci := 10) dX10_move_46 ok_X10_isFree kw_1398 rfl rfl (Of.o (by assumption)) (by omega) rfl (Nat.le_of_ble_eq_true rfl) (r_isFree (d - 1) (by omega) n ok m0 hU c v (by omega) (by omega) (hI0 c (by omega) (by omega)).1 (hI0 c (by omega) (by omega)).2.1 (by omega)) (Nat.le_refl _) (Or.inl rfl) (fun r ok1 m1 hq => ?_)
      obtain ⟨z, rfl, rfl, em⟩ := hq
      have h01 := iRes_01 m0 c (aAt m0 c) v
      have hM := (vMem.rf m0 c).e (iEv m0 c (aAt m0 c) v) z
      rw [em, List.nil_append] at hM
      have q99 : m1 99 = m0 99 := hM.a (by omega) (by omega) (by omega)
      have q100 : m1 100 = m0 100 := hM.a (by omega) (by omega) (by omega)
      have q101 : m1 101 = m0 101 := hM.a (by omega) (by omega) (by omega)
      have hes : aStuck m1 c v = aStuck m0 c v := by unfold aStuck; rw [q99, q100]
      have hsr := aStuck_ran m0 c v
      have hc0 := hI0 c (by omega) (by omega)
      have s1 : sSame m0 m1 := hM.s
      refine pw_if_ne 58 (by decide) dX10_move_49 (by omega) (fun c49 => ?_) (fun c49 => ?_)
      · skip
        refine pw_aload_n 0 rfl dX10_move_58 rfl ?_
        refine pw_iload_n 1 rfl dX10_move_59 rfl ?_
        refine pw_iload_n 2 rfl dX10_move_60 rfl ?_
        refine pw_callV (d' := d - 1) (As := [_, _]) (ci := 10) dX10_move_61 ok_X10_stuck kw_1468 rfl rfl (Of.o (by assumption)) (by omega) rfl (Nat.le_of_ble_eq_true rfl) (r_stuck (d - 1) (by omega) n ok m1 hU c v (by omega) (by omega)) (Nat.le_refl _) (Or.inl rfl) (fun r ok1 mem1 hq => ?_)
        obtain ⟨rfl, rfl, rfl⟩ := hq
        rw [hes]
        refine pw_istore_n 3 rfl dX10_move_64 (by decide) ?_
        refine pw_iload_n 3 rfl dX10_move_65 rfl ?_
        refine pw_if_eq 75 (by decide) dX10_move_66 (by omega) (fun c66 => ?_) (fun c66 => ?_)
        · skip
          refine pw_aload_n 0 rfl dX10_move_75 rfl ?_
          refine pw_iload_n 1 rfl dX10_move_76 rfl ?_
          refine pw_aload_n 0 rfl dX10_move_77 rfl ?_
          refine pw_iload_n 1 rfl dX10_move_78 rfl ?_
          refine pw_callV (d' := d - 1) (As := [_]) (ci := 10) dX10_move_79 ok_X10_numberOf kw_1362 rfl rfl (Of.o (by assumption)) (by omega) rfl (Nat.le_of_ble_eq_true rfl) (r_numberOf (d - 1) (by omega) n ok m1 hU c (by omega)) (Nat.le_refl _) (Or.inl rfl) (fun r ok1 mem1 hq => ?_)
          obtain ⟨rfl, rfl, rfl⟩ := hq
          rw [aNum_V s1 c hM.at 16 (by omega), ← aNum_v m0 c 16 (by omega)]
          have hnr := num_ran hc0
          have hkm9 := hkm c (by omega) (by omega)
          refine pw_callV (d' := d - 1) (As := [_, _]) (ci := 10) dX10_move_82 ok_X10_keeps kw_1472 rfl rfl (Of.o (by assumption)) (by omega) rfl (Nat.le_of_ble_eq_true rfl) (r_keeps (d - 1) (by omega) n ok m1 hU c (aNum m0 c 16) (by omega) (by omega) (by rw [q101, k0]; exact hkm9)) (Nat.le_refl _) (Or.inl rfl) (fun r ok1 m2 hq => ?_)
          obtain ⟨rfl, rfl, em2⟩ := hq
          have hM2 := vM_keep hM (aNum m0 c 16)
          rw [em2] at hM2
          have s2 : sSame m0 m2 := fun a q1 q2 q3 => by rw [← em2, rKeep_a (by omega) (by omega)]; exact s1 a q1 q2 q3
          have hkd : v < 32 → aKind m0 c (v / 2) ≠ -1 := fun q => iRes_kind c49 q
          have t2 : m2 88 19 = m1 88 19 := by rw [← em2, rKeep_a (by omega) (by omega)]
          have t1 := hM.tr (show 0 ≤ m0 88 19 by omega)
          have hil := iEv_len (m := m0) (c := c) (aAt m0 c) v hc0.1.1
          refine pw_aload_n 0 rfl dX10_move_85 rfl ?_
          refine pw_iload_n 1 rfl dX10_move_86 rfl ?_
          refine pw_iload_n 2 rfl dX10_move_87 rfl ?_
          refine pw_callV (d' := d - 1) (As := [_, _]) (ci := 10) dX10_move_88 ok_X10_does kw_1406 rfl rfl (Of.o (by assumption)) (by omega) rfl (Nat.le_of_ble_eq_true rfl) (r_does (d - 1) (by omega) n ok m2 hU c v (by omega) (by omega) ⟨sOk_s s2 hc0.1, pOkv_v hM2.at (pOkv_s s2 hc0.2.1), by rw [pW_s s2]; exact hc0.2.2⟩ (by unfold aKind; rw [s2.kind]; exact hkd) (by omega)) (Nat.le_refl _) (Or.inl rfl) (fun r ok1 m3 hq => ?_)
          obtain ⟨z3, rfl, rfl, hM3⟩ := hq
          rw [dRes_s s2] at hM3
          have hdv := dRes_v (m := m0) hc0.1 (show 0 ≤ v by omega) (show vEq (aAt m0 c) (aAt m2 c) from hM2.at)
          rw [hdv.2] at hM3
          have hM4 := hM2.trans (hM3.cong hdv.1)
          refine pw_aload_n 0 rfl dX10_move_91 rfl ?_
          refine pw_iconst dX10_move_92 ?_
          refine pw_callV (d' := d - 1) (As := [_]) (ci := 10) dX10_move_93 ok_X10_says kw_1265 rfl rfl (Of.o (by assumption)) (by omega) rfl (Nat.le_of_ble_eq_true rfl) (r_says (d - 1) (by omega) n ok _ hU _) (Nat.le_refl _) (Or.inl rfl) (fun r ok1 mem1 hq => ?_)
          obtain ⟨rfl, rfl, rfl⟩ := hq
          refine pw_iret dX10_move_96 rfl rfl ?_
          have e9 : mvRes m0 c v = (1, rKeep m0 c (aNum m0 c 16), (dRes m0 c v (aAt m0 c)).1, iEv m0 c (aAt m0 c) v ++ (dRes m0 c v (aAt m0 c)).2, 0) := by unfold mvRes; rw [if_neg c49, if_neg (fun q => q c66)]
          exact ⟨rfl, Or.inr (Or.inr ⟨by omega, by omega, z3, m3, by rw [e9], by rw [e9]; exact hM4, by rw [e9]⟩)⟩
        · skip
          refine pw_aload_n 0 rfl dX10_move_69 rfl ?_
          refine pw_iload_n 3 rfl dX10_move_70 rfl ?_
          refine pw_callV (d' := d - 1) (As := [_]) (ci := 10) dX10_move_71 ok_X10_meets kw_1253 rfl rfl (Of.o (by assumption)) (by omega) rfl (Nat.le_of_ble_eq_true rfl) (r_meets (d - 1) (by omega) n ok _ hU _ (by omega)) (Nat.le_refl _) (Or.inl rfl) (fun r ok1 mem1 hq => ?_)
          obtain ⟨rfl, rfl, rfl⟩ := hq
          refine pw_iret dX10_move_74 rfl rfl ?_
          have e9 : mvRes m0 c v = (-10 - aStuck m0 c v, m0, aAt m0 c, iEv m0 c (aAt m0 c) v ++ [(false, aStuck m0 c v)], -10 - aStuck m0 c v) := by unfold mvRes; rw [if_neg c49, if_pos c66]
          have hM2 := hM.e [(false, aStuck m0 c v)] (m1 88 23)
          have e4 : wr (rEv m1 [(false, aStuck m0 c v)]) 88 23 (m1 88 23) = rNotes m1 (aStuck m0 c v) := by
            show wr (rNotes m1 _) 88 23 (m1 88 23) = rNotes m1 _
            have e8 : rNotes m1 (aStuck m0 c v) 88 23 = m1 88 23 := by
              unfold rNotes
              split
              · rw [wr_k _ _ _ _ (by omega), wr_k _ _ _ _ (by omega)]
              · rfl
            rw [← e8]; exact wr_id _ _ _
          rw [e4] at hM2
          exact ⟨rfl, Or.inr (Or.inr ⟨by omega, by omega, m1 88 23, _, by rw [e9], by rw [e9]; exact hM2, by rw [e9]⟩)⟩
      · skip
        refine pw_aload_n 0 rfl dX10_move_52 rfl ?_
        refine pw_iconst dX10_move_53 ?_
        refine pw_callV (d' := d - 1) (As := [_]) (ci := 10) dX10_move_54 ok_X10_says kw_1265 rfl rfl (Of.o (by assumption)) (by omega) rfl (Nat.le_of_ble_eq_true rfl) (r_says (d - 1) (by omega) n ok _ hU _) (Nat.le_refl _) (Or.inl rfl) (fun r ok1 mem1 hq => ?_)
        obtain ⟨rfl, rfl, rfl⟩ := hq
        refine pw_iret dX10_move_57 rfl rfl ?_
        have e9 : mvRes m0 c v = (0, m0, aAt m0 c, iEv m0 c (aAt m0 c) v, 0) := by unfold mvRes; rw [if_pos c49]
        exact ⟨rfl, Or.inr (Or.inr ⟨by omega, by omega, z, m1, by rw [e9], by rw [e9]; exact hM, by rw [e9]⟩)⟩
    · skip
      rw [bz_0] at c21
      refine pw_aload_n 0 rfl dX10_move_24 rfl ?_
      refine pw_iload_n 1 rfl dX10_move_25 rfl ?_
      refine pw_callS (d' := d - 1) (As := [_]) dX10_move_26 ok_X10_isChest kw_1241 (by omega) rfl (Nat.le_of_ble_eq_true rfl) (r_isChest (d - 1) (by omega) n ok _ _ (by omega)) (Nat.le_refl _) (Or.inl rfl) (fun r ok1 mem1 hq => ?_)
      obtain ⟨rfl, rfl, rfl⟩ := hq
      refine pw_if_eq 37 (by decide) dX10_move_29 (by split <;> omega) (fun c29 => ?_) (fun c29 => ?_)
      · skip
        rw [bz_0] at c29
        refine pw_bipush dX10_move_37 (by decide) ?_
        refine pw_callV (d' := d - 1) (As := [_]) (ci := 10) dX10_move_39 ok_X10_refuses kw_1249 rfl rfl (Of.o (by assumption)) (by omega) rfl (Nat.le_of_ble_eq_true rfl) (r_refuses (d - 1) (by omega) n ok _ hU _ (by omega)) (Nat.le_refl _) (Or.inl rfl) (fun r ok1 mem1 hq => ?_)
        obtain ⟨rfl, rfl, rfl⟩ := hq
        refine pw_iret dX10_move_42 rfl rfl ?_
        first | exact ⟨rfl, Or.inr (Or.inl ⟨by omega, by omega, rfl, rfl⟩)⟩ | exact ⟨rfl, Or.inl ⟨by omega, rfl, rfl⟩⟩
      · skip
        rw [bz_n] at c29
        refine pw_bipush dX10_move_32 (by decide) ?_
        refine pw_goto 39 (by decide) dX10_move_34 ?_
        refine pw_callV (d' := d - 1) (As := [_]) (ci := 10) dX10_move_39 ok_X10_refuses kw_1249 rfl rfl (Of.o (by assumption)) (by omega) rfl (Nat.le_of_ble_eq_true rfl) (r_refuses (d - 1) (by omega) n ok _ hU _ (by omega)) (Nat.le_refl _) (Or.inl rfl) (fun r ok1 mem1 hq => ?_)
        obtain ⟨rfl, rfl, rfl⟩ := hq
        refine pw_iret dX10_move_42 rfl rfl ?_
        first | exact ⟨rfl, Or.inr (Or.inl ⟨by omega, by omega, rfl, rfl⟩)⟩ | exact ⟨rfl, Or.inl ⟨by omega, rfl, rfl⟩⟩
