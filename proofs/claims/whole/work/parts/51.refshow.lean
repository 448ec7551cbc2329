/-! ===== goesOver, shows ===== -/
noncomputable def shM (m : pM) (c k : Int) : Nat → Int → Int
  | 0, _ => -1
  | g + 1, j => if mvN m c k j ≠ -1 ∧ m 119 (mvN m c k j) = 0 then j else shM m c k g (j + 1)
theorem shM_n (m : pM) (c k : Int) (g : Nat) (j : Int) : shM m c k (g + 1) j = if mvN m c k j ≠ -1 ∧ m 119 (mvN m c k j) = 0 then j else shM m c k g (j + 1) := rfl
noncomputable def shS (m : pM) (c : Int) : Nat → Int → Int × Int × Int
  | 0, _ => (-1, -1, -1)
  | g + 1, k => if m 119 k = 0 then shS m c g (k + 1) else if opN m c k ≠ 0 then (k, -1, -1) else if shM m c k 38 0 ≠ -1 then (k, shM m c k 38 0, mvN m c k (shM m c k 38 0)) else shS m c g (k + 1)
theorem shS_n (m : pM) (c : Int) (g : Nat) (k : Int) : shS m c (g + 1) k = if m 119 k = 0 then shS m c g (k + 1) else if opN m c k ≠ 0 then (k, -1, -1) else if shM m c k 38 0 ≠ -1 then (k, shM m c k 38 0, mvN m c k (shM m c k 38 0)) else shS m c g (k + 1) := rfl
noncomputable def rOver (m : pM) (c w : Int) : Int × Int × Int := if m 119 w = 0 then (w, -2, -1) else shS m c (pW m c 16).toNat 0
theorem shM_s {m m1 : pM} (h : sSame m m1) (h9 : m1 119 = m 119) (c k : Int) (g : Nat) (j : Int) : shM m1 c k g j = shM m c k g j := by
  induction g generalizing j with
  | zero => rfl
  | succ g ih => rw [shM_n, shM_n, mvN_s h, h9, ih]
theorem shS_s {m m1 : pM} (h : sSame m m1) (h9 : m1 119 = m 119) (c : Int) (g : Nat) (k : Int) : shS m1 c g k = shS m c g k := by
  induction g generalizing k with
  | zero => rfl
  | succ g ih => rw [shS_n, shS_n, opN_s h, h9, shM_s h h9, mvN_s h, ih]
theorem rOver_s {m m1 : pM} (h : sSame m m1) (h9 : m1 119 = m 119) (c w : Int) : rOver m1 c w = rOver m c w := by unfold rOver; rw [h9, pW_s h, shS_s h h9]
theorem vM_lk {m m1 : pM} {c : Int} {v : Int → Int} {z : Int} (h : vMem m m1 c v [] z) (a b e : Int) : vMem (rLook m a b e) (rLook m1 a b e) c v [] z := vM_w0 (vM_w0 (vM_w0 h _ (by omega) (by omega)) _ (by omega) (by omega)) _ (by omega) (by omega)
set_option maxHeartbeats 4000000 in
set_option maxRecDepth 100000 in
theorem r_goesOver (d : Nat) (hd : 6 ≤ d) (n : Nat) (ok : pO) (mem : pM) (hU : RefUp n ok) (c w : Int) (hc : 0 ≤ c ∧ c ≤ 2) (hw : 0 ≤ w ∧ w ≤ 1023) (hq3 : mem 88 3 ≠ 0) (hs : cOkR mem c) (ht : 0 ≤ mem 88 19 ∧ mem 88 19 ≤ 1000000) : PM mi_X10_goesOver d [vr 88, vi c, vi w] n ok mem n (fun r ok' mem' => ∃ (v : Int → Int) (z : Int), r = some (vi (if (rOver mem c w).1 = -1 then 1 else 0)) ∧ ok = ok' ∧ vMem (rLook mem (rOver mem c w).1 (rOver mem c w).2.1 (rOver mem c w).2.2) mem' c v [] z ∧ pOkv mem c v ∧ ∀ s : Int, 0 ≤ s → s ≤ 15 → aKind mem c s = -1 → v s = aAt mem c s) := by
  obtain ⟨hO, ⟨a89, a90, a91, a92, a93, a94, a95, a96, a97, a98⟩, ⟨a99, a100, a101, a102, a103, a104, a105, a106, a107⟩, ⟨a108, a109, a110, a111, a112, a113, a114, a115, a116, a117, a118, a119⟩, a120, a121, a122⟩ := id hU
  have f19 : ∀ {m9 : pM} {u : Int → Int} {y : Int}, vMem mem m9 c u [] y → m9 88 19 = mem 88 19 := fun h9 => by rw [h9.1 88 (by omega), wr_k _ _ _ _ (by omega)]; rfl
  have f3 : ∀ {m9 : pM} {u : Int → Int} {y : Int}, vMem mem m9 c u [] y → m9 88 3 ≠ 0 := fun h9 => by rw [h9.f (by omega) (by omega) (by omega) (by omega)]; exact hq3
  have f119 : ∀ {m9 : pM} {u : Int → Int} {y : Int}, vMem mem m9 c u [] y → m9 119 = mem 119 := fun h9 => h9.a (by omega) (by omega) (by omega)
  have hM0 : vMem mem mem c (aAt mem c) [] (mem 88 23) := vMem.rf mem c
  refine PM.of (by decide) (by decide) (Nat.le_refl _) (Nat.le_of_ble_eq_true rfl) ?_
  refine pw_aload_n 0 rfl dX10_goesOver_0 rfl ?_
  refine pw_gR 49 119 dX10_goesOver_1 cOk10 (by assumption) (by decide) kw_1114 (by decide) rfl ?_
  refine pw_iload_n 2 rfl dX10_goesOver_4 rfl ?_
  refine pw_baload dX10_goesOver_5 (by assumption) (by omega) (by omega) (fun r5 => ?_)
  skip
  refine pw_if_ne 18 (by decide) dX10_goesOver_6 (by omega) (fun c6 => ?_) (fun c6 => ?_)
  · skip
    refine pw_aload_n 0 rfl dX10_goesOver_18 rfl ?_
    refine pw_iload_n 1 rfl dX10_goesOver_19 rfl ?_
    refine pw_iconst dX10_goesOver_20 ?_
    refine pw_callV (d' := d - 1) (As := [_, _]) (ci := 10) dX10_goesOver_21 ok_X10_multiplied kw_1279 rfl rfl (Of.o (by assumption)) (by omega) rfl (Nat.le_of_ble_eq_true rfl) (r_multiplied (d - 1) (by omega) n ok mem hU c (-1) (by omega) (by omega)) (Nat.le_refl _) (Or.inl rfl) (fun r ok1 mem1 hq => ?_)
    obtain ⟨rfl, rfl, rfl⟩ := hq
    rw [aMul_pW]
    have hP := hs.2.2
    have hP1 := pW_ran hs.1.2.2 16 (by omega)
    have eO0 : rOver mem c w = shS mem c (pW mem c 16).toNat 0 := by unfold rOver; rw [if_neg c6]
    refine pw_istore_n 3 rfl dX10_goesOver_24 (by decide) ?_
    refine pw_iconst dX10_goesOver_25 ?_
    refine pw_istore dX10_goesOver_26 (by decide) ?_
    have lp28 : ∀ (kz : Nat) (k : Nat) (v : Int → Int) (z : Int) (m1 : pM), pW mem c 16 - (k : Int) < (kz : Int) → ((k : Int) ≤ pW mem c 16) → (rOver mem c w = shS mem c ((pW mem c 16).toNat - k) k) → (vMem mem m1 c v [] z) → (pOkv mem c v) → (∀ s : Int, 0 ≤ s → s ≤ 15 → aKind mem c s = -1 → v s = aAt mem c s) → PW mi_X10_goesOver d n n (fun r ok' mem' => ∃ (v : Int → Int) (z : Int), r = some (vi (if (rOver mem c w).1 = -1 then 1 else 0)) ∧ ok = ok' ∧ vMem (rLook mem (rOver mem c w).1 (rOver mem c w).2.1 (rOver mem c w).2.2) mem' c v [] z ∧ pOkv mem c v ∧ ∀ s : Int, 0 ≤ s → s ≤ 15 → aKind mem c s = -1 → v s = aAt mem c s) 28 [(0, vr 88), (1, vi c), (2, vi w), (3, vi (pW mem c 16)), (4, vi (k : Int))] [] n ok m1 := by
      intro kz
      induction kz with
      | zero =>
        intro k v z m1 hk hk9 hG hM hv he
        exact absurd hk (by omega)
      | succ kz ih =>
        intro k v z m1 hk hk9 hG hM hv he
        refine pw_iload dX10_goesOver_28 rfl ?_
        refine pw_iload_n 3 rfl dX10_goesOver_30 rfl ?_
        refine pw_icmp_ge 145 (by decide) dX10_goesOver_31 (by omega) (by omega) (fun c31 => ?_) (fun c31 => ?_)
        · skip
          have ek : (pW mem c 16).toNat - k = 0 := by omega
          rw [ek] at hG
          refine pw_aload_n 0 rfl dX10_goesOver_145 rfl ?_
          refine pw_iconst dX10_goesOver_146 ?_
          refine pw_iconst dX10_goesOver_147 ?_
          refine pw_iconst dX10_goesOver_148 ?_
          refine pw_callV (d' := d - 1) (As := [_, _, _]) (ci := 10) dX10_goesOver_149 ok_X10_lookedAt kw_1592 rfl rfl (Of.o (by assumption)) (by omega) rfl (Nat.le_of_ble_eq_true rfl) (r_lookedAt (d - 1) (by omega) n ok _ hU _ _ _ (by omega) (by omega) (by omega)) (Nat.le_refl _) (Or.inl rfl) (fun r ok1 mem1 hq => ?_)
          obtain ⟨rfl, rfl, em9⟩ := hq
          have eO : rOver mem c w = ((-1), (-1), (-1)) := by rw [hG]; rfl
          have hM9 := vM_lk hM (-1) (-1) (-1)
          rw [em9] at hM9
          refine pw_iret dX10_goesOver_152 rfl rfl ?_
          refine ⟨_, _, by rw [eO], rfl, by rw [eO]; exact hM9, hv, he⟩
        · skip
          have eG : (pW mem c 16).toNat - k = ((pW mem c 16).toNat - k - 1) + 1 := by omega
          refine pw_aload_n 0 rfl dX10_goesOver_34 rfl ?_
          refine pw_gR 49 119 dX10_goesOver_35 cOk10 (by assumption) (by decide) kw_1114 (by decide) rfl ?_
          refine pw_iload dX10_goesOver_38 rfl ?_
          refine pw_baload dX10_goesOver_40 (by assumption) (by omega) (by omega) (fun r40 => ?_)
          try simp (disch := omega) only [wr_s, wr_a, wr_k] at r40 ⊢
          rw [f119 hM] at r40 ⊢
          refine pw_if_ne 47 (by decide) dX10_goesOver_41 (by omega) (fun c41 => ?_) (fun c41 => ?_)
          · skip
            refine pw_aload_n 0 rfl dX10_goesOver_47 rfl ?_
            refine pw_iload_n 1 rfl dX10_goesOver_48 rfl ?_
            refine pw_iload dX10_goesOver_49 rfl ?_
            refine pw_callV (d' := d - 1) (As := [_, _]) (ci := 10) dX10_goesOver_51 ok_X10_setNumber kw_1394 rfl rfl (Of.o (by assumption)) (by omega) rfl (Nat.le_of_ble_eq_true rfl) (r_setNumber (d - 1) (by omega) n ok m1 hU c (k : Int) (by omega) (by omega) (sOk_s hM.s hs.1).2.2) (Nat.le_refl _) (Or.inl rfl) (fun r ok1 m3 hq => ?_)
            obtain ⟨rfl, rfl, em3⟩ := hq
            have hM3 := vM_set hM (k : Int)
            rw [em3] at hM3
            have hv3 : pOkv mem c (setV mem c v (k : Int)) := setV_ok hs.1.2.2 v _
            have he3 : ∀ s : Int, 0 ≤ s → s ≤ 15 → aKind mem c s = -1 → setV mem c v (k : Int) s = aAt mem c s := fun s q1 q2 q3 => by unfold setV; rw [if_pos q3]; exact he s q1 q2 q3
            have s3 := hM3.s
            have t3 := f19 hM3
            refine pw_aload_n 0 rfl dX10_goesOver_54 rfl ?_
            refine pw_iload_n 1 rfl dX10_goesOver_55 rfl ?_
            refine pw_callV (d' := d - 1) (As := [_]) (ci := 10) dX10_goesOver_56 ok_X10_opens kw_1370 rfl rfl (Of.o (by assumption)) (by omega) rfl (Nat.le_of_ble_eq_true rfl) (r_opens (d - 1) (by omega) n ok m3 hU c (by omega) (sOk_s s3 hs.1) (pOkv_v hM3.at (pOkv_s s3 hv3)) (by omega)) (Nat.le_refl _) (Or.inl rfl) (fun r ok1 m4 hq => ?_)
            obtain ⟨z4, rfl, rfl, em4⟩ := hq
            rw [rEv_q (f3 hM3)] at em4
            rw [oRes_v (sOk_s s3 hs.1) hM3.at, oRes_s s3, ← opN_v hs.1 v (k : Int)]
            have hM4 : vMem mem m4 c (setV mem c v (k : Int)) [] z4 := by rw [← em4]; exact hM3.e [] z4
            have h01 := opN_01 mem c (k : Int)
            refine pw_if_eq 71 (by decide) dX10_goesOver_59 (by omega) (fun c59 => ?_) (fun c59 => ?_)
            · skip
              refine pw_iconst dX10_goesOver_71 ?_
              refine pw_istore dX10_goesOver_72 (by decide) ?_
              have lp74 : ∀ (kz2 : Nat) (j : Nat) (v2 : Int → Int) (z2 : Int) (m2 : pM), 38 - (j : Int) < (kz2 : Int) → (j ≤ 38) → (shM mem c (k : Int) 38 0 = shM mem c (k : Int) (38 - j) j) → (vMem mem m2 c v2 [] z2) → (pOkv mem c v2) → (∀ s : Int, 0 ≤ s → s ≤ 15 → aKind mem c s = -1 → v2 s = aAt mem c s) → PW mi_X10_goesOver d n n (fun r ok' mem' => ∃ (v : Int → Int) (z : Int), r = some (vi (if (rOver mem c w).1 = -1 then 1 else 0)) ∧ ok = ok' ∧ vMem (rLook mem (rOver mem c w).1 (rOver mem c w).2.1 (rOver mem c w).2.2) mem' c v [] z ∧ pOkv mem c v ∧ ∀ s : Int, 0 ≤ s → s ≤ 15 → aKind mem c s = -1 → v s = aAt mem c s) 74 [(0, vr 88), (1, vi c), (2, vi w), (3, vi (pW mem c 16)), (4, vi (k : Int)), (5, vi (j : Int))] [] n ok m2 := by
                intro kz2
                induction kz2 with
                | zero =>
                  intro j v2 z2 m2 hk2 hj hGj hM2 hv2 he2
                  exact absurd hk2 (by omega)
                | succ kz2 ih2 =>
                  intro j v2 z2 m2 hk2 hj hGj hM2 hv2 he2
                  refine pw_iload dX10_goesOver_74 rfl ?_
                  refine pw_bipush dX10_goesOver_76 (by decide) ?_
                  refine pw_icmp_ge 139 (by decide) dX10_goesOver_78 (by omega) (by omega) (fun c78 => ?_) (fun c78 => ?_)
                  · skip
                    have ej : 38 - j = 0 := by omega
                    have eM : shM mem c (k : Int) 38 0 = -1 := by rw [hGj, ej]; rfl
                    refine pw_iinc dX10_goesOver_139 rfl (by decide) ?_
                    refine pw_goto 28 (by decide) dX10_goesOver_142 ?_
                    exact pw_locs _ rfl (ih (k + 1) v2 z2 m2 (by omega) (by omega) (by rw [hG, eG, shS_n, if_neg c41, if_neg (fun y => y c59), if_neg (fun y => y eM), show (pW mem c 16).toNat - (k + 1) = (pW mem c 16).toNat - k - 1 by omega]; rfl) hM2 hv2 he2)
                  · skip
                    have eGj : 38 - j = (37 - j) + 1 := by omega
                    refine pw_aload_n 0 rfl dX10_goesOver_81 rfl ?_
                    refine pw_iload_n 1 rfl dX10_goesOver_82 rfl ?_
                    refine pw_iload dX10_goesOver_83 rfl ?_
                    refine pw_callV (d' := d - 1) (As := [_, _]) (ci := 10) dX10_goesOver_85 ok_X10_setNumber kw_1394 rfl rfl (Of.o (by assumption)) (by omega) rfl (Nat.le_of_ble_eq_true rfl) (r_setNumber (d - 1) (by omega) n ok m2 hU c (k : Int) (by omega) (by omega) (sOk_s hM2.s hs.1).2.2) (Nat.le_refl _) (Or.inl rfl) (fun r ok1 m5 hq => ?_)
                    obtain ⟨rfl, rfl, em5⟩ := hq
                    have hM5 := vM_set hM2 (k : Int)
                    rw [em5] at hM5
                    have hv5 : pOkv mem c (setV mem c v2 (k : Int)) := setV_ok hs.1.2.2 v2 _
                    have he5 : ∀ s : Int, 0 ≤ s → s ≤ 15 → aKind mem c s = -1 → setV mem c v2 (k : Int) s = aAt mem c s := fun s q1 q2 q3 => by unfold setV; rw [if_pos q3]; exact he2 s q1 q2 q3
                    have s5 := hM5.s
                    have t5 := f19 hM5
                    refine pw_aload_n 0 rfl dX10_goesOver_88 rfl ?_
                    refine pw_iload_n 1 rfl dX10_goesOver_89 rfl ?_
                    refine pw_iload dX10_goesOver_90 rfl ?_
                    refine pw_callV (d' := d - 1) (As := [_, _]) (ci := 10) dX10_goesOver_92 ok_X10_isFree kw_1398 rfl rfl (Of.o (by assumption)) (by omega) rfl (Nat.le_of_ble_eq_true rfl) (r_isFree (d - 1) (by omega) n ok m5 hU c (j : Int) (by omega) (by omega) (sOk_s s5 hs.1) (pOkv_v hM5.at (pOkv_s s5 hv5)) (by omega)) (Nat.le_refl _) (Or.inl rfl) (fun r ok1 m6 hq => ?_)
                    obtain ⟨z6, rfl, rfl, em6⟩ := hq
                    rw [rEv_q (f3 hM5)] at em6
                    rw [iRes_v (sOk_s s5 hs.1) hM5.at (by omega), iRes_s s5]
                    have h01b := iRes_01 mem c (setV mem c v2 (k : Int)) (j : Int)
                    have hM6 : vMem mem m6 c (setV mem c v2 (k : Int)) [] z6 := by rw [← em6]; exact hM5.e [] z6
                    have s6 := hM6.s
                    have t6 := f19 hM6
                    have eV := mvN_v hs.1 v2 (k : Int) (mv := (j : Int)) (by omega)
                    refine pw_if_eq 133 (by decide) dX10_goesOver_95 (by omega) (fun c95 => ?_) (fun c95 => ?_)
                    · skip
                      have eU : (mvN mem c (k : Int) (j : Int)) = -1 := by rw [eV, if_pos c95]
                      refine pw_iinc dX10_goesOver_133 rfl (by decide) ?_
                      refine pw_goto 74 (by decide) dX10_goesOver_136 ?_
                      exact pw_locs _ rfl (ih2 (j + 1) _ _ _ (by omega) (by omega) (by rw [hGj, eGj, shM_n, if_neg (fun y => y.1 eU), show 38 - (j + 1) = 37 - j by omega]; rfl) hM6 hv5 he5)
                    · skip
                      rw [if_neg c95] at eV
                      have hkd : (j : Int) < 32 → aKind mem c ((j : Int) / 2) ≠ -1 := fun q => iRes_kind c95 q
                      refine pw_aload_n 0 rfl dX10_goesOver_98 rfl ?_
                      refine pw_iload_n 1 rfl dX10_goesOver_99 rfl ?_
                      refine pw_iload dX10_goesOver_100 rfl ?_
                      refine pw_callV (d' := d - 1) (As := [_, _]) (ci := 10) dX10_goesOver_102 ok_X10_does kw_1406 rfl rfl (Of.o (by assumption)) (by omega) rfl (Nat.le_of_ble_eq_true rfl) (r_does (d - 1) (by omega) n ok m6 hU c (j : Int) (by omega) (by omega) ⟨sOk_s s6 hs.1, pOkv_v hM6.at (pOkv_s s6 hv5), by rw [pW_s s6]; exact hs.2.2⟩ (by unfold aKind; rw [s6.kind]; exact hkd) (by omega)) (Nat.le_refl _) (Or.inl rfl) (fun r ok1 m7 hq => ?_)
                      obtain ⟨z7, rfl, rfl, hM7a⟩ := hq
                      have hM7b := vM_q (f3 hM6) hM7a
                      rw [dRes_s s6] at hM7b
                      have hdv := dRes_v (m := mem) hs.1 (show 0 ≤ (j : Int) by omega) (show vEq (setV mem c v2 (k : Int)) (aAt m6 c) from hM6.at)
                      have hM7 : vMem mem m7 c (dRes mem c (j : Int) (setV mem c v2 (k : Int))).1 [] z7 := hM6.trans (hM7b.cong hdv.1)
                      have hv7 := dRes_ok hs.1.2.2 (show 0 ≤ (j : Int) by omega) hkd hv5
                      have he7 : ∀ s : Int, 0 ≤ s → s ≤ 15 → aKind mem c s = -1 → (dRes mem c (j : Int) (setV mem c v2 (k : Int))).1 s = aAt mem c s := fun s q1 q2 q3 => by rw [dRes_e mem c (j : Int) hkd _ s q3]; exact he5 s q1 q2 q3
                      have s7 := hM7.s
                      have hUn := numV_ran hs.1.2.2 hv7 16 (by omega)
                      have eUn : (mvN mem c (k : Int) (j : Int)) ≠ -1 := by rw [eV]; omega
                      refine pw_aload_n 0 rfl dX10_goesOver_105 rfl ?_
                      refine pw_iload_n 1 rfl dX10_goesOver_106 rfl ?_
                      refine pw_callV (d' := d - 1) (As := [_]) (ci := 10) dX10_goesOver_107 ok_X10_numberOf kw_1362 rfl rfl (Of.o (by assumption)) (by omega) rfl (Nat.le_of_ble_eq_true rfl) (r_numberOf (d - 1) (by omega) n ok m7 hU c (by omega)) (Nat.le_refl _) (Or.inl rfl) (fun r ok1 mem1 hq => ?_)
                      obtain ⟨rfl, rfl, rfl⟩ := hq
                      rw [aNum_V s7 c hM7.at 16 (by omega), ← eV]
                      have hpw := hs.2.2
                      have hUr := mvN_ran hs.1 (k : Int) (mv := (j : Int)) (by omega)
                      refine pw_istore dX10_goesOver_110 (by decide) ?_
                      refine pw_aload_n 0 rfl dX10_goesOver_112 rfl ?_
                      refine pw_gR 49 119 dX10_goesOver_113 cOk10 (by assumption) (by decide) kw_1114 (by decide) rfl ?_
                      refine pw_iload dX10_goesOver_116 rfl ?_
                      refine pw_baload dX10_goesOver_118 (by assumption) (by omega) (by omega) (fun r118 => ?_)
                      try simp (disch := omega) only [wr_s, wr_a, wr_k] at r118 ⊢
                      rw [f119 hM7] at r118 ⊢
                      refine pw_if_ne 133 (by decide) dX10_goesOver_119 (by omega) (fun c119 => ?_) (fun c119 => ?_)
                      · skip
                        refine pw_iinc dX10_goesOver_133 rfl (by decide) ?_
                        refine pw_goto 74 (by decide) dX10_goesOver_136 ?_
                        exact pw_locs _ rfl (ih2 (j + 1) _ _ _ (by omega) (by omega) (by rw [hGj, eGj, shM_n, if_neg (fun y => c119 y.2), show 38 - (j + 1) = 37 - j by omega]; rfl) hM7 hv7 he7)
                      · skip
                        refine pw_aload_n 0 rfl dX10_goesOver_122 rfl ?_
                        refine pw_iload dX10_goesOver_123 rfl ?_
                        refine pw_iload dX10_goesOver_125 rfl ?_
                        refine pw_iload dX10_goesOver_127 rfl ?_
                        refine pw_callV (d' := d - 1) (As := [_, _, _]) (ci := 10) dX10_goesOver_129 ok_X10_lookedAt kw_1592 rfl rfl (Of.o (by assumption)) (by omega) rfl (Nat.le_of_ble_eq_true rfl) (r_lookedAt (d - 1) (by omega) n ok _ hU _ _ _ (by omega) (by omega) (by omega)) (Nat.le_refl _) (Or.inl rfl) (fun r ok1 mem1 hq => ?_)
                        have eM2 : shM mem c (k : Int) 38 0 = (j : Int) := by rw [hGj, eGj, shM_n, if_pos ⟨eUn, c119⟩]
                        obtain ⟨rfl, rfl, em9⟩ := hq
                        have eO : rOver mem c w = ((k : Int), (j : Int), (mvN mem c (k : Int) (j : Int))) := by rw [hG, eG, shS_n, if_neg c41, if_neg (fun y => y c59), eM2, if_pos (by omega)]
                        have hM9 := vM_lk hM7 (k : Int) (j : Int) (mvN mem c (k : Int) (j : Int))
                        rw [em9] at hM9
                        refine pw_iret dX10_goesOver_132 rfl rfl ?_
                        refine ⟨_, _, by rw [eO], rfl, by rw [eO]; exact hM9, hv7, he7⟩
              exact pw_locs _ rfl (lp74 39 0 _ z4 m4 (by omega) (by omega) rfl hM4 hv3 he3)
            · skip
              refine pw_aload_n 0 rfl dX10_goesOver_62 rfl ?_
              refine pw_iload dX10_goesOver_63 rfl ?_
              refine pw_iconst dX10_goesOver_65 ?_
              refine pw_iconst dX10_goesOver_66 ?_
              refine pw_callV (d' := d - 1) (As := [_, _, _]) (ci := 10) dX10_goesOver_67 ok_X10_lookedAt kw_1592 rfl rfl (Of.o (by assumption)) (by omega) rfl (Nat.le_of_ble_eq_true rfl) (r_lookedAt (d - 1) (by omega) n ok _ hU _ _ _ (by omega) (by omega) (by omega)) (Nat.le_refl _) (Or.inl rfl) (fun r ok1 mem1 hq => ?_)
              obtain ⟨rfl, rfl, em9⟩ := hq
              have eO : rOver mem c w = ((k : Int), (-1), (-1)) := by rw [hG, eG, shS_n, if_neg c41, if_pos c59]
              have hM9 := vM_lk hM4 (k : Int) (-1) (-1)
              rw [em9] at hM9
              refine pw_iret dX10_goesOver_70 rfl rfl ?_
              refine ⟨_, _, by rw [eO], rfl, by rw [eO]; exact hM9, hv3, he3⟩
          · skip
            refine pw_goto 139 (by decide) dX10_goesOver_44 ?_
            refine pw_iinc dX10_goesOver_139 rfl (by decide) ?_
            refine pw_goto 28 (by decide) dX10_goesOver_142 ?_
            exact pw_locs _ rfl (ih (k + 1) v z m1 (by omega) (by omega) (by rw [hG, eG, shS_n, if_pos c41, show (pW mem c 16).toNat - (k + 1) = (pW mem c 16).toNat - k - 1 by omega]; rfl) hM hv he)
    exact pw_locs _ rfl (lp28 1025 0 (aAt mem c) (mem 88 23) mem (by omega) (by omega) eO0 hM0 hs.2.1 (fun _ _ _ _ => rfl))
  · skip
    skip
    refine pw_aload_n 0 rfl dX10_goesOver_9 rfl ?_
    refine pw_iload_n 2 rfl dX10_goesOver_10 rfl ?_
    refine pw_bipush dX10_goesOver_11 (by decide) ?_
    refine pw_iconst dX10_goesOver_13 ?_
    refine pw_callV (d' := d - 1) (As := [_, _, _]) (ci := 10) dX10_goesOver_14 ok_X10_lookedAt kw_1592 rfl rfl (Of.o (by assumption)) (by omega) rfl (Nat.le_of_ble_eq_true rfl) (r_lookedAt (d - 1) (by omega) n ok _ hU _ _ _ (by omega) (by omega) (by omega)) (Nat.le_refl _) (Or.inl rfl) (fun r ok1 mem1 hq => ?_)
    obtain ⟨rfl, rfl, em9⟩ := hq
    have eO : rOver mem c w = (w, (-2), (-1)) := by unfold rOver; rw [if_pos c6]
    have hM9 : vMem (rLook mem w (-2) (-1)) mem1 c (aAt mem c) [] (mem 88 23) := by rw [← em9]; exact vM_lk hM0 w (-2) (-1)
    refine pw_iret dX10_goesOver_17 rfl rfl ?_
    refine ⟨_, _, by rw [eO], rfl, by rw [eO]; exact hM9, hs.2.1, (fun _ _ _ _ => rfl)⟩
noncomputable def rShows (m : pM) (c : Int) : Int × pM := if ¬ (0 ≤ c ∧ c ≤ 2) then rRef m (-2) else rSay (wr (rLook m (rOver m c (aNum m c 16)).1 (rOver m c (aNum m c 16)).2.1 (rOver m c (aNum m c 16)).2.2) 88 3 0) (if (rOver m c (aNum m c 16)).1 = -1 then 1 else 0)
theorem rLook_3 (m : pM) (a b e x : Int) : rLook (wr m 88 3 x) a b e = wr (rLook m a b e) 88 3 x := by
  unfold rLook
  rw [wr_c2 (k := 3) (j := 50) m x a (by omega), wr_c2 (k := 3) (j := 51) _ x b (by omega), wr_c2 (k := 3) (j := 52) _ x e (by omega)]
theorem rShows_in {m : pM} {c : Int} (h : 0 ≤ c ∧ c ≤ 2) : rShows m c = rSay (wr (rLook m (rOver m c (aNum m c 16)).1 (rOver m c (aNum m c 16)).2.1 (rOver m c (aNum m c 16)).2.2) 88 3 0) (if (rOver m c (aNum m c 16)).1 = -1 then 1 else 0) := by unfold rShows; rw [if_neg (fun z => z h)]
set_option maxHeartbeats 4000000 in
set_option maxRecDepth 100000 in
theorem r_shows (d : Nat) (hd : 7 ≤ d) (n : Nat) (ok : pO) (mem : pM) (hU : RefUp n ok) (c : Int) (hc : -2147483648 ≤ c ∧ c ≤ 2147483647) (hs : ROk mem) (ht : 0 ≤ mem 88 19 ∧ mem 88 19 ≤ 1000000) : PM mi_X10_shows d [vr 88, vi c] n ok mem n (fun r ok' mem' => r = some (vi (rShows mem c).1) ∧ ok = ok' ∧ EQ aT (rShows mem c).2 mem') := by
  obtain ⟨hO, ⟨a89, a90, a91, a92, a93, a94, a95, a96, a97, a98⟩, ⟨a99, a100, a101, a102, a103, a104, a105, a106, a107⟩, ⟨a108, a109, a110, a111, a112, a113, a114, a115, a116, a117, a118, a119⟩, a120, a121, a122⟩ := id hU
  refine PM.of (by decide) (by decide) (Nat.le_refl _) (Nat.le_of_ble_eq_true rfl) ?_
  refine pw_iload_n 1 rfl dX10_shows_0 rfl ?_
  refine pw_callS (d' := d - 1) (As := [_]) dX10_shows_1 ok_X10_isChest kw_1241 (by omega) rfl (Nat.le_of_ble_eq_true rfl) (r_isChest (d - 1) (by omega) n ok _ _ (by omega)) (Nat.le_refl _) (Or.inl rfl) (fun r ok1 mem1 hq => ?_)
  obtain ⟨rfl, rfl, rfl⟩ := hq
  refine pw_if_ne 14 (by decide) dX10_shows_4 (by split <;> omega) (fun c4 => ?_) (fun c4 => ?_)
  · skip
    rw [ne_eq, bz_n] at c4
    refine pw_aload_n 0 rfl dX10_shows_14 rfl ?_
    refine pw_iload_n 1 rfl dX10_shows_15 rfl ?_
    refine pw_callV (d' := d - 1) (As := [_]) (ci := 10) dX10_shows_16 ok_X10_numberOf kw_1362 rfl rfl (Of.o (by assumption)) (by omega) rfl (Nat.le_of_ble_eq_true rfl) (r_numberOf (d - 1) (by omega) n ok mem hU c (by omega)) (Nat.le_refl _) (Or.inl rfl) (fun r ok1 mem1 hq => ?_)
    obtain ⟨rfl, rfl, rfl⟩ := hq
    have hs9 := hs c (by omega) (by omega)
    have hnr := num_ran hs9
    refine pw_istore_n 2 rfl dX10_shows_19 (by decide) ?_
    refine pw_aload_n 0 rfl dX10_shows_20 rfl ?_
    refine pw_iconst dX10_shows_21 ?_
    refine pw_pZ 3 3 rfl dX10_shows_22 cOk10 (by assumption) (by decide) kw_1068 rfl rfl (by decide) (by omega) ?_
    obtain ⟨m1, em1⟩ : ∃ x, x = wr mem 88 3 1 := ⟨_, rfl⟩
    rw [← em1]
    have s1 : sSame mem m1 := fun a q1 q2 _ => by rw [em1]; exact wr_a _ _ _ (by omega)
    have g92 : m1 92 = mem 92 := by rw [em1]; exact wr_a _ _ _ (by omega)
    have hs1 : cOkR m1 c := cOkR_s s1 g92 hs9
    have q19 : m1 88 19 = mem 88 19 := by rw [em1]; exact wr_k _ _ _ _ (by omega)
    have q3 : m1 88 3 ≠ 0 := by rw [em1, wr_s]; omega
    have eOv : rOver m1 c (aNum mem c 16) = rOver mem c (aNum mem c 16) := rOver_s s1 (by rw [em1]; exact wr_a _ _ _ (by omega)) c _
    refine pw_aload_n 0 rfl dX10_shows_25 rfl ?_
    refine pw_iload_n 1 rfl dX10_shows_26 rfl ?_
    refine pw_iload_n 2 rfl dX10_shows_27 rfl ?_
    refine pw_callV (d' := d - 1) (As := [_, _]) (ci := 10) dX10_shows_28 ok_X10_goesOver kw_1588 rfl rfl (Of.o (by assumption)) (by omega) rfl (Nat.le_of_ble_eq_true rfl) (r_goesOver (d - 1) (by omega) n ok m1 hU c (aNum mem c 16) (by omega) (by omega) q3 hs1 (by omega)) (Nat.le_refl _) (Or.inl rfl) (fun r ok1 m2 hq => ?_)
    obtain ⟨v, z, rfl, rfl, hM, hv, he⟩ := hq
    rw [eOv] at hM
    rw [eOv]
    have hMe := vM_w0 hM (a := 88) (k := 3) 0 (by omega) (by omega)
    have sL : sSame mem (wr (rLook m1 (rOver mem c (aNum mem c 16)).1 (rOver mem c (aNum mem c 16)).2.1 (rOver mem c (aNum mem c 16)).2.2) 88 3 0) := fun a q1 q2 q3 => by unfold rLook; rw [wr_a _ _ _ (by omega), wr_a _ _ _ (by omega), wr_a _ _ _ (by omega), wr_a _ _ _ (by omega)]; exact s1 a q1 q2 q3
    have s2 : sSame mem (wr m2 88 3 0) := fun a q1 q2 q3 => (hMe.s a q1 q2 q3).trans (sL a q1 q2 q3)
    refine pw_istore_n 3 rfl dX10_shows_31 (by decide) ?_
    refine pw_aload_n 0 rfl dX10_shows_32 rfl ?_
    refine pw_iconst dX10_shows_33 ?_
    refine pw_pZ 3 3 rfl dX10_shows_34 cOk10 (by assumption) (by decide) kw_1068 rfl rfl (by decide) (by omega) ?_
    refine pw_aload_n 0 rfl dX10_shows_37 rfl ?_
    refine pw_iload_n 1 rfl dX10_shows_38 rfl ?_
    refine pw_iload_n 2 rfl dX10_shows_39 rfl ?_
    refine pw_callV (d' := d - 1) (As := [_, _]) (ci := 10) dX10_shows_40 ok_X10_setNumber kw_1394 rfl rfl (Of.o (by assumption)) (by omega) rfl (Nat.le_of_ble_eq_true rfl) (r_setNumber (d - 1) (by omega) n ok (wr m2 88 3 0) hU c (aNum mem c 16) (by omega) (by omega) (sOk_s s2 hs9.1).2.2) (Nat.le_refl _) (Or.inl rfl) (fun r ok1 m3 hq => ?_)
    obtain ⟨rfl, rfl, em3⟩ := hq
    have hM3 := vM_set hMe (aNum mem c 16)
    rw [em3, setV_s sL] at hM3
    have eM := vM_end hM3 (fun s q1 q2 => by
      unfold rLook
      rw [wr_a _ _ _ (by omega), wr_a _ _ _ (by omega), wr_a _ _ _ (by omega), wr_a _ _ _ (by omega), g92]
      by_cases q : aKind mem c s = -1
      · unfold setV; rw [if_pos q, he s q1 q2 (by unfold aKind; rw [s1.kind]; exact q)]; show m1 92 _ = mem 92 _; rw [g92]
      · rw [aNum_v mem c 16 (by omega)]; exact (setV_num hs9.1.2.2 v hs9.2.1 s q1 q2 q).symm)
    subst eM
    refine pw_aload_n 0 rfl dX10_shows_43 rfl ?_
    refine pw_iload_n 3 rfl dX10_shows_44 rfl ?_
    refine pw_callV (d' := d - 1) (As := [_]) (ci := 10) dX10_shows_45 ok_X10_says kw_1265 rfl rfl (Of.o (by assumption)) (by omega) rfl (Nat.le_of_ble_eq_true rfl) (r_says (d - 1) (by omega) n ok _ hU _) (Nat.le_refl _) (Or.inl rfl) (fun r ok1 mem1 hq => ?_)
    obtain ⟨rfl, rfl, em4⟩ := hq
    refine pw_iret dX10_shows_48 rfl rfl ?_
    rw [rShows_in c4]
    refine ⟨rfl, rfl, ?_⟩
    rw [← em4]
    refine EQ.w (EQ.tr ?_ (EQ.z aT_h _ _)) 88 0 0
    rw [em1, rLook_3]
    exact ⟨aT_h, fun a _ _ k _ => by
      unfold wr
      by_cases q : a = 88 ∧ k = 3
      · rw [if_pos q, if_pos q]
      · rw [if_neg q, if_neg q, if_neg q]⟩
  · skip
    rw [bz_0] at c4
    refine pw_aload_n 0 rfl dX10_shows_7 rfl ?_
    refine pw_bipush dX10_shows_8 (by decide) ?_
    refine pw_callV (d' := d - 1) (As := [_]) (ci := 10) dX10_shows_10 ok_X10_refuses kw_1249 rfl rfl (Of.o (by assumption)) (by omega) rfl (Nat.le_of_ble_eq_true rfl) (r_refuses (d - 1) (by omega) n ok _ hU _ (by omega)) (Nat.le_refl _) (Or.inl rfl) (fun r ok1 mem1 hq => ?_)
    obtain ⟨rfl, rfl, rfl⟩ := hq
    refine pw_iret dX10_shows_13 rfl rfl ?_
    unfold rShows; rw [if_pos (by omega)]; exact ⟨rfl, rfl, EQ.rf aT_h _⟩
