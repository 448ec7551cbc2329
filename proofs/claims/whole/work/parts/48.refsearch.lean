/-! ===== search, goOn, make ===== -/
abbrev aT : Nat → Prop := fun _ => True
theorem aT_h : ∀ a, 88 ≤ a → a ≤ 122 → aT a := fun _ _ _ => trivial
theorem bgB_s (m : pM) (c : Int) : sSame m (bgB m c) := fun a h1 h2 _ => (bgB_v m c).1 a (by omega) (by omega)
theorem bgB_ok {m : pM} {c : Int} (hs : cOkR m c) : cOkR (bgB m c) c ∧ GI (bgB m c) c (bgB m c) := ⟨cOkR_s (bgB_s m c) ((bgB_v m c).1 92 (by omega) (by omega)) hs, GI_m (bgB_s m c) (bgB_i hs)⟩
theorem goR_v {m : pM} {c k : Int} (hs : cOkR m c) (hg : GI m c m) : (∀ a, a ≠ 88 → (a < 108 ∨ 114 < a) → goR m c k a = m a) ∧ (∀ j, j ≠ 3 → j ≠ 34 → j ≠ 35 → j ≠ 36 → j ≠ 44 → goR m c k 88 j = m 88 j) ∧ goR m c k 88 3 = 0 ∧ goR m c k 88 44 = 0 ∧ GI m c (goR m c k) ∧ m 88 34 ≤ goR m c k 88 34 := by
  have h1 : GI m c (wr m 88 3 1) := GI_c hg (fun a q1 q2 => wr_a _ _ _ (by omega)) (wr_k _ _ _ _ (by omega)) (wr_k _ _ _ _ (by omega)) (wr_k _ _ _ _ (by omega))
  have h2 := GI_go hs.1 hs.2.2 k.toNat h1
  unfold goR
  refine ⟨fun a q1 q2 => ?_, fun j j1 j2 j3 j4 j5 => ?_, ?_, ?_, ?_, ?_⟩
  · rw [wr_a _ _ _ q1, wr_a _ _ _ q1, h2.2.2.1 a q1 q2, wr_a _ _ _ q1]
  · rw [wr_k _ _ _ _ j5, wr_k _ _ _ _ j1, h2.2.2.2 j j2 j3 j4, wr_k _ _ _ _ j1]
  · rw [wr_k _ _ _ _ (by omega), wr_s]
  · rw [wr_s]
  · exact GI_c h2.1 (fun a q1 q2 => by rw [wr_a _ _ _ (by omega), wr_a _ _ _ (by omega)]) (by rw [wr_k _ _ _ _ (by omega), wr_k _ _ _ _ (by omega)]) (by rw [wr_k _ _ _ _ (by omega), wr_k _ _ _ _ (by omega)]) (by rw [wr_k _ _ _ _ (by omega), wr_k _ _ _ _ (by omega)])
  · have := h2.2.1.1
    rw [wr_k _ _ _ _ (by omega), wr_k _ _ _ _ (by omega)]
    rw [wr_k _ _ _ _ (by omega)] at this
    exact this
theorem goR_s {m : pM} {c k : Int} (hs : cOkR m c) (hg : GI m c m) : sSame m (goR m c k) := fun a h1 h2 _ => (goR_v hs hg).1 a (by omega) (by omega)
theorem goR_ok {m : pM} {c k : Int} (hs : cOkR m c) (hg : GI m c m) : cOkR (goR m c k) c ∧ GI (goR m c k) c (goR m c k) := ⟨cOkR_s (goR_s hs hg) ((goR_v hs hg).1 92 (by omega) (by omega)) hs, GI_m (goR_s hs hg) (goR_v hs hg).2.2.2.2.1⟩
noncomputable def rSearch (m : pM) (c k : Int) : Int × pM := if ¬ (0 ≤ c ∧ c ≤ 2) then rRef m (-2) else if ¬ (1 ≤ k ∧ k ≤ 1000) then rRef m (-3) else rSay (goR (bgB m c) c k) (if goR (bgB m c) c k 88 35 = goR (bgB m c) c k 88 34 then 1 else 0)
noncomputable def rGoOn (m : pM) (k : Int) : Int × pM := if ¬ (1 ≤ k ∧ k ≤ 1000) then rRef m (-3) else if m 88 31 = 0 ∨ m 88 32 ≠ 0 then rRef m (-4) else rSay (goR m (m 88 33) k) (if goR m (m 88 33) k 88 35 = goR m (m 88 33) k 88 34 then 1 else 0)
set_option maxHeartbeats 4000000 in
set_option maxRecDepth 100000 in
theorem r_search (d : Nat) (hd : 7 ≤ d) (n : Nat) (ok : pO) (mem : pM) (hU : RefUp n ok) (c k : Int) (hc : -2147483648 ≤ c ∧ c ≤ 2147483647) (hk : -2147483648 ≤ k ∧ k ≤ 2147483647) (hs : ROk mem) (ht : 0 ≤ mem 88 19 ∧ mem 88 19 ≤ 1000000) : PM mi_X10_search d [vr 88, vi c, vi k] n ok mem n (fun r ok' mem' => r = some (vi (rSearch mem c k).1) ∧ ok = ok' ∧ EQ aT (rSearch mem c k).2 mem') := by
  obtain ⟨hO, ⟨a89, a90, a91, a92, a93, a94, a95, a96, a97, a98⟩, ⟨a99, a100, a101, a102, a103, a104, a105, a106, a107⟩, ⟨a108, a109, a110, a111, a112, a113, a114, a115, a116, a117, a118, a119⟩, a120, a121, a122⟩ := id hU
  refine PM.of (by decide) (by decide) (Nat.le_refl _) (Nat.le_of_ble_eq_true rfl) ?_
  refine pw_iload_n 1 rfl dX10_search_0 rfl ?_
  refine pw_callS (d' := d - 1) (As := [_]) dX10_search_1 ok_X10_isChest kw_1241 (by omega) rfl (Nat.le_of_ble_eq_true rfl) (r_isChest (d - 1) (by omega) n ok _ _ (by omega)) (Nat.le_refl _) (Or.inl rfl) (fun r ok1 mem1 hq => ?_)
  obtain ⟨rfl, rfl, rfl⟩ := hq
  refine pw_if_eq 19 (by decide) dX10_search_4 (by split <;> omega) (fun c4 => ?_) (fun c4 => ?_)
  · skip
    rw [bz_0] at c4
    refine pw_aload_n 0 rfl dX10_search_19 rfl ?_
    refine pw_iload_n 1 rfl dX10_search_20 rfl ?_
    refine pw_callS (d' := d - 1) (As := [_]) dX10_search_21 ok_X10_isChest kw_1241 (by omega) rfl (Nat.le_of_ble_eq_true rfl) (r_isChest (d - 1) (by omega) n ok _ _ (by omega)) (Nat.le_refl _) (Or.inl rfl) (fun r ok1 mem1 hq => ?_)
    obtain ⟨rfl, rfl, rfl⟩ := hq
    refine pw_if_eq 32 (by decide) dX10_search_24 (by split <;> omega) (fun c24 => ?_) (fun c24 => ?_)
    · skip
      rw [bz_0] at c24
      refine pw_bipush dX10_search_32 (by decide) ?_
      refine pw_callV (d' := d - 1) (As := [_]) (ci := 10) dX10_search_34 ok_X10_refuses kw_1249 rfl rfl (Of.o (by assumption)) (by omega) rfl (Nat.le_of_ble_eq_true rfl) (r_refuses (d - 1) (by omega) n ok _ hU _ (by omega)) (Nat.le_refl _) (Or.inl rfl) (fun r ok1 mem1 hq => ?_)
      obtain ⟨rfl, rfl, rfl⟩ := hq
      refine pw_iret dX10_search_37 rfl rfl ?_
      unfold rSearch; (repeat' split) <;> first | exact ⟨rfl, rfl, EQ.rf aT_h _⟩ | (exfalso; omega)
    · skip
      rw [bz_n] at c24
      refine pw_bipush dX10_search_27 (by decide) ?_
      refine pw_goto 34 (by decide) dX10_search_29 ?_
      refine pw_callV (d' := d - 1) (As := [_]) (ci := 10) dX10_search_34 ok_X10_refuses kw_1249 rfl rfl (Of.o (by assumption)) (by omega) rfl (Nat.le_of_ble_eq_true rfl) (r_refuses (d - 1) (by omega) n ok _ hU _ (by omega)) (Nat.le_refl _) (Or.inl rfl) (fun r ok1 mem1 hq => ?_)
      obtain ⟨rfl, rfl, rfl⟩ := hq
      refine pw_iret dX10_search_37 rfl rfl ?_
      unfold rSearch; (repeat' split) <;> first | exact ⟨rfl, rfl, EQ.rf aT_h _⟩ | (exfalso; omega)
  · skip
    rw [bz_n] at c4
    refine pw_iload_n 2 rfl dX10_search_7 rfl ?_
    refine pw_i2l dX10_search_8 (by omega) ?_
    refine pw_lconst (x := 1) dX10_search_9 (by decide) ?_
    refine pw_ldc2 (x := 1000) kw_1512 (by decide) dX10_search_10 ?_
    refine pw_callS (d' := d - 1) (As := [_, _, _]) dX10_search_13 ok_X10_in kw_1245 (by omega) rfl (Nat.le_of_ble_eq_true rfl) (r_in (d - 1) (by omega) n ok _ _ _ _ (by omega) (by omega) (by omega)) (Nat.le_refl _) (Or.inl rfl) (fun r ok1 mem1 hq => ?_)
    obtain ⟨rfl, rfl, rfl⟩ := hq
    refine pw_if_ne 38 (by decide) dX10_search_16 (by split <;> omega) (fun c16 => ?_) (fun c16 => ?_)
    · skip
      rw [ne_eq, bz_n] at c16
      refine pw_aload_n 0 rfl dX10_search_38 rfl ?_
      refine pw_iload_n 1 rfl dX10_search_39 rfl ?_
      have hs9 := hs c (by omega) (by omega)
      refine pw_callV (d' := d - 1) (As := [_]) (ci := 10) dX10_search_40 ok_X10_begin kw_1358 rfl rfl (Of.o (by assumption)) (by omega) rfl (Nat.le_of_ble_eq_true rfl) (r_begin (d - 1) (by omega) n ok mem hU c (by omega) hs9 (by omega)) (Nat.le_refl _) (Or.inl rfl) (fun r ok1 m2 hq => ?_)
      obtain ⟨z1, rfl, rfl, em1⟩ := hq
      obtain ⟨hb1, hb2⟩ := bgB_ok hs9
      have eQ1 : EQ aT (bgB mem c) m2 := by rw [← em1]; exact EQ.z aT_h _ _
      have v1 := bgB_v mem c
      have q33 : m2 88 33 = c := (eQ1.f (by omega)).trans v1.2.2.2.1
      have q19 : m2 88 19 = mem 88 19 := (eQ1.f (by omega)).trans (v1.2.2.2.2.2.2.2 19 (by omega) (by omega) (by omega) (by omega) (by omega) (by omega) (by omega) (by omega))
      refine pw_aload_n 0 rfl dX10_search_43 rfl ?_
      refine pw_iload_n 2 rfl dX10_search_44 rfl ?_
      refine pw_callV (d' := d - 1) (As := [_]) (ci := 10) dX10_search_45 ok_X10_goesOn kw_1390 rfl rfl (Of.o (by assumption)) (by omega) rfl (Nat.le_of_ble_eq_true rfl) (r_goesOn (d - 1) (by omega) n ok m2 hU c k (by omega) (by omega) q33 (eQ1.cOk hb1) (eQ1.GI1 hb2) (by omega)) (Nat.le_refl _) (Or.inl rfl) (fun r ok1 m3 hq => ?_)
      obtain ⟨z2, rfl, rfl, em2⟩ := hq
      have eQ2 : EQ aT (goR (bgB mem c) c k) m3 := by rw [← em2]; exact (eQ1.go c k).tr (EQ.z aT_h _ _)
      have q35 := eQ2.f (k := 35) (by omega)
      have q34 := eQ2.f (k := 34) (by omega)
      refine pw_aload_n 0 rfl dX10_search_48 rfl ?_
      refine pw_aload_n 0 rfl dX10_search_49 rfl ?_
      refine pw_callV (d' := d - 1) (As := []) (ci := 10) dX10_search_50 ok_X10_isWhole kw_1513 rfl rfl (Of.o (by assumption)) (by omega) rfl (Nat.le_of_ble_eq_true rfl) (r_isWhole (d - 1) (by omega) n ok m3 hU) (Nat.le_refl _) (Or.inl rfl) (fun r ok1 mem1 hq => ?_)
      obtain ⟨rfl, rfl, rfl⟩ := hq
      rw [q34, q35]
      refine pw_if_eq 60 (by decide) dX10_search_53 (by split <;> omega) (fun c53 => ?_) (fun c53 => ?_)
      · skip
        rw [bz_0] at c53
        refine pw_iconst dX10_search_60 ?_
        refine pw_callV (d' := d - 1) (As := [_]) (ci := 10) dX10_search_61 ok_X10_says kw_1265 rfl rfl (Of.o (by assumption)) (by omega) rfl (Nat.le_of_ble_eq_true rfl) (r_says (d - 1) (by omega) n ok _ hU _) (Nat.le_refl _) (Or.inl rfl) (fun r ok1 mem1 hq => ?_)
        obtain ⟨rfl, rfl, em4⟩ := hq
        have eW := c53
        refine pw_iret dX10_search_64 rfl rfl ?_
        refine ⟨?_, rfl, ?_⟩
        · unfold rSearch; rw [if_neg (by omega), if_neg (by omega)]; first | (rw [if_pos eW]; rfl) | (rw [if_neg eW]; rfl)
        · unfold rSearch; rw [if_neg (by omega), if_neg (by omega), ← em4]; exact eQ2.w 88 0 0
      · skip
        rw [bz_n] at c53
        refine pw_iconst dX10_search_56 ?_
        refine pw_goto 61 (by decide) dX10_search_57 ?_
        refine pw_callV (d' := d - 1) (As := [_]) (ci := 10) dX10_search_61 ok_X10_says kw_1265 rfl rfl (Of.o (by assumption)) (by omega) rfl (Nat.le_of_ble_eq_true rfl) (r_says (d - 1) (by omega) n ok _ hU _) (Nat.le_refl _) (Or.inl rfl) (fun r ok1 mem1 hq => ?_)
        obtain ⟨rfl, rfl, em4⟩ := hq
        have eW := c53
        refine pw_iret dX10_search_64 rfl rfl ?_
        refine ⟨?_, rfl, ?_⟩
        · unfold rSearch; rw [if_neg (by omega), if_neg (by omega)]; first | (rw [if_pos eW]; rfl) | (rw [if_neg eW]; rfl)
        · unfold rSearch; rw [if_neg (by omega), if_neg (by omega), ← em4]; exact eQ2.w 88 0 0
    · skip
      rw [bz_0] at c16
      refine pw_aload_n 0 rfl dX10_search_19 rfl ?_
      refine pw_iload_n 1 rfl dX10_search_20 rfl ?_
      refine pw_callS (d' := d - 1) (As := [_]) dX10_search_21 ok_X10_isChest kw_1241 (by omega) rfl (Nat.le_of_ble_eq_true rfl) (r_isChest (d - 1) (by omega) n ok _ _ (by omega)) (Nat.le_refl _) (Or.inl rfl) (fun r ok1 mem1 hq => ?_)
      obtain ⟨rfl, rfl, rfl⟩ := hq
      refine pw_if_eq 32 (by decide) dX10_search_24 (by split <;> omega) (fun c24 => ?_) (fun c24 => ?_)
      · skip
        rw [bz_0] at c24
        refine pw_bipush dX10_search_32 (by decide) ?_
        refine pw_callV (d' := d - 1) (As := [_]) (ci := 10) dX10_search_34 ok_X10_refuses kw_1249 rfl rfl (Of.o (by assumption)) (by omega) rfl (Nat.le_of_ble_eq_true rfl) (r_refuses (d - 1) (by omega) n ok _ hU _ (by omega)) (Nat.le_refl _) (Or.inl rfl) (fun r ok1 mem1 hq => ?_)
        obtain ⟨rfl, rfl, rfl⟩ := hq
        refine pw_iret dX10_search_37 rfl rfl ?_
        unfold rSearch; (repeat' split) <;> first | exact ⟨rfl, rfl, EQ.rf aT_h _⟩ | (exfalso; omega)
      · skip
        rw [bz_n] at c24
        refine pw_bipush dX10_search_27 (by decide) ?_
        refine pw_goto 34 (by decide) dX10_search_29 ?_
        refine pw_callV (d' := d - 1) (As := [_]) (ci := 10) dX10_search_34 ok_X10_refuses kw_1249 rfl rfl (Of.o (by assumption)) (by omega) rfl (Nat.le_of_ble_eq_true rfl) (r_refuses (d - 1) (by omega) n ok _ hU _ (by omega)) (Nat.le_refl _) (Or.inl rfl) (fun r ok1 mem1 hq => ?_)
        obtain ⟨rfl, rfl, rfl⟩ := hq
        refine pw_iret dX10_search_37 rfl rfl ?_
        unfold rSearch; (repeat' split) <;> first | exact ⟨rfl, rfl, EQ.rf aT_h _⟩ | (exfalso; omega)
set_option maxHeartbeats 4000000 in
set_option maxRecDepth 100000 in
theorem r_goOn (d : Nat) (hd : 7 ≤ d) (n : Nat) (ok : pO) (mem : pM) (hU : RefUp n ok) (k : Int) (hk : -2147483648 ≤ k ∧ k ≤ 2147483647) (hg : mem 88 31 ≠ 0 → mem 88 32 = 0 → (0 ≤ mem 88 33 ∧ mem 88 33 ≤ 2) ∧ cOkR mem (mem 88 33) ∧ GI mem (mem 88 33) mem) (ht : 0 ≤ mem 88 19 ∧ mem 88 19 ≤ 1000000) : PM mi_X10_goOn d [vr 88, vi k] n ok mem n (fun r ok' mem' => r = some (vi (rGoOn mem k).1) ∧ ok = ok' ∧ EQ aT (rGoOn mem k).2 mem') := by
  obtain ⟨hO, ⟨a89, a90, a91, a92, a93, a94, a95, a96, a97, a98⟩, ⟨a99, a100, a101, a102, a103, a104, a105, a106, a107⟩, ⟨a108, a109, a110, a111, a112, a113, a114, a115, a116, a117, a118, a119⟩, a120, a121, a122⟩ := id hU
  refine PM.of (by decide) (by decide) (Nat.le_refl _) (Nat.le_of_ble_eq_true rfl) ?_
  refine pw_iload_n 1 rfl dX10_goOn_0 rfl ?_
  refine pw_i2l dX10_goOn_1 (by omega) ?_
  refine pw_lconst (x := 1) dX10_goOn_2 (by decide) ?_
  refine pw_ldc2 (x := 1000) kw_1512 (by decide) dX10_goOn_3 ?_
  refine pw_callS (d' := d - 1) (As := [_, _, _]) dX10_goOn_6 ok_X10_in kw_1245 (by omega) rfl (Nat.le_of_ble_eq_true rfl) (r_in (d - 1) (by omega) n ok _ _ _ _ (by omega) (by omega) (by omega)) (Nat.le_refl _) (Or.inl rfl) (fun r ok1 mem1 hq => ?_)
  obtain ⟨rfl, rfl, rfl⟩ := hq
  refine pw_if_ne 19 (by decide) dX10_goOn_9 (by split <;> omega) (fun c9 => ?_) (fun c9 => ?_)
  · skip
    rw [ne_eq, bz_n] at c9
    refine pw_aload_n 0 rfl dX10_goOn_19 rfl ?_
    refine pw_gI 31 31 rfl dX10_goOn_20 cOk10 (by assumption) (by decide) kw_1096 (by decide) (fun r20 => ?_)
    refine pw_if_eq 33 (by decide) dX10_goOn_23 (by omega) (fun c23 => ?_) (fun c23 => ?_)
    · skip
      refine pw_aload_n 0 rfl dX10_goOn_33 rfl ?_
      refine pw_bipush dX10_goOn_34 (by decide) ?_
      refine pw_callV (d' := d - 1) (As := [_]) (ci := 10) dX10_goOn_36 ok_X10_refuses kw_1249 rfl rfl (Of.o (by assumption)) (by omega) rfl (Nat.le_of_ble_eq_true rfl) (r_refuses (d - 1) (by omega) n ok _ hU _ (by omega)) (Nat.le_refl _) (Or.inl rfl) (fun r ok1 mem1 hq => ?_)
      obtain ⟨rfl, rfl, rfl⟩ := hq
      refine pw_iret dX10_goOn_39 rfl rfl ?_
      unfold rGoOn; (repeat' split) <;> first | exact ⟨rfl, rfl, EQ.rf aT_h _⟩ | (exfalso; omega)
    · skip
      refine pw_aload_n 0 rfl dX10_goOn_26 rfl ?_
      refine pw_gI 32 32 rfl dX10_goOn_27 cOk10 (by assumption) (by decide) kw_1097 (by decide) (fun r27 => ?_)
      refine pw_if_eq 40 (by decide) dX10_goOn_30 (by omega) (fun c30 => ?_) (fun c30 => ?_)
      · skip
        refine pw_aload_n 0 rfl dX10_goOn_40 rfl ?_
        refine pw_iload_n 1 rfl dX10_goOn_41 rfl ?_
        obtain ⟨g1, g2, g3⟩ := hg (by omega) (by omega)
        refine pw_callV (d' := d - 1) (As := [_]) (ci := 10) dX10_goOn_42 ok_X10_goesOn kw_1390 rfl rfl (Of.o (by assumption)) (by omega) rfl (Nat.le_of_ble_eq_true rfl) (r_goesOn (d - 1) (by omega) n ok mem hU (mem 88 33) k (by omega) (by omega) rfl g2 g3 (by omega)) (Nat.le_refl _) (Or.inl rfl) (fun r ok1 m3 hq => ?_)
        obtain ⟨z2, rfl, rfl, em2⟩ := hq
        have eQ2 : EQ aT (goR mem (mem 88 33) k) m3 := by rw [← em2]; exact EQ.z aT_h _ _
        have q35 := eQ2.f (k := 35) (by omega)
        have q34 := eQ2.f (k := 34) (by omega)
        refine pw_aload_n 0 rfl dX10_goOn_45 rfl ?_
        refine pw_aload_n 0 rfl dX10_goOn_46 rfl ?_
        refine pw_callV (d' := d - 1) (As := []) (ci := 10) dX10_goOn_47 ok_X10_isWhole kw_1513 rfl rfl (Of.o (by assumption)) (by omega) rfl (Nat.le_of_ble_eq_true rfl) (r_isWhole (d - 1) (by omega) n ok m3 hU) (Nat.le_refl _) (Or.inl rfl) (fun r ok1 mem1 hq => ?_)
        obtain ⟨rfl, rfl, rfl⟩ := hq
        rw [q34, q35]
        refine pw_if_eq 57 (by decide) dX10_goOn_50 (by split <;> omega) (fun c50 => ?_) (fun c50 => ?_)
        · skip
          rw [bz_0] at c50
          refine pw_iconst dX10_goOn_57 ?_
          refine pw_callV (d' := d - 1) (As := [_]) (ci := 10) dX10_goOn_58 ok_X10_says kw_1265 rfl rfl (Of.o (by assumption)) (by omega) rfl (Nat.le_of_ble_eq_true rfl) (r_says (d - 1) (by omega) n ok _ hU _) (Nat.le_refl _) (Or.inl rfl) (fun r ok1 mem1 hq => ?_)
          obtain ⟨rfl, rfl, em4⟩ := hq
          have eW := c50
          refine pw_iret dX10_goOn_61 rfl rfl ?_
          refine ⟨?_, rfl, ?_⟩
          · unfold rGoOn; rw [if_neg (by omega), if_neg (by omega)]; first | (rw [if_pos eW]; rfl) | (rw [if_neg eW]; rfl)
          · unfold rGoOn; rw [if_neg (by omega), if_neg (by omega), ← em4]; exact eQ2.w 88 0 0
        · skip
          rw [bz_n] at c50
          refine pw_iconst dX10_goOn_53 ?_
          refine pw_goto 58 (by decide) dX10_goOn_54 ?_
          refine pw_callV (d' := d - 1) (As := [_]) (ci := 10) dX10_goOn_58 ok_X10_says kw_1265 rfl rfl (Of.o (by assumption)) (by omega) rfl (Nat.le_of_ble_eq_true rfl) (r_says (d - 1) (by omega) n ok _ hU _) (Nat.le_refl _) (Or.inl rfl) (fun r ok1 mem1 hq => ?_)
          obtain ⟨rfl, rfl, em4⟩ := hq
          have eW := c50
          refine pw_iret dX10_goOn_61 rfl rfl ?_
          refine ⟨?_, rfl, ?_⟩
          · unfold rGoOn; rw [if_neg (by omega), if_neg (by omega)]; first | (rw [if_pos eW]; rfl) | (rw [if_neg eW]; rfl)
          · unfold rGoOn; rw [if_neg (by omega), if_neg (by omega), ← em4]; exact eQ2.w 88 0 0
      · skip
        refine pw_aload_n 0 rfl dX10_goOn_33 rfl ?_
        refine pw_bipush dX10_goOn_34 (by decide) ?_
        refine pw_callV (d' := d - 1) (As := [_]) (ci := 10) dX10_goOn_36 ok_X10_refuses kw_1249 rfl rfl (Of.o (by assumption)) (by omega) rfl (Nat.le_of_ble_eq_true rfl) (r_refuses (d - 1) (by omega) n ok _ hU _ (by omega)) (Nat.le_refl _) (Or.inl rfl) (fun r ok1 mem1 hq => ?_)
        obtain ⟨rfl, rfl, rfl⟩ := hq
        refine pw_iret dX10_goOn_39 rfl rfl ?_
        unfold rGoOn; (repeat' split) <;> first | exact ⟨rfl, rfl, EQ.rf aT_h _⟩ | (exfalso; omega)
  · skip
    rw [bz_0] at c9
    refine pw_aload_n 0 rfl dX10_goOn_12 rfl ?_
    refine pw_bipush dX10_goOn_13 (by decide) ?_
    refine pw_callV (d' := d - 1) (As := [_]) (ci := 10) dX10_goOn_15 ok_X10_refuses kw_1249 rfl rfl (Of.o (by assumption)) (by omega) rfl (Nat.le_of_ble_eq_true rfl) (r_refuses (d - 1) (by omega) n ok _ hU _ (by omega)) (Nat.le_refl _) (Or.inl rfl) (fun r ok1 mem1 hq => ?_)
    obtain ⟨rfl, rfl, rfl⟩ := hq
    refine pw_iret dX10_goOn_18 rfl rfl ?_
    unfold rGoOn; (repeat' split) <;> first | exact ⟨rfl, rfl, EQ.rf aT_h _⟩ | (exfalso; omega)
theorem byM_pk (m : pM) (c x : Int) : pPK (byM m c x) c ∧ nPK (byM m c x) c 4 ∧ cPK (byM m c x) c 6 := by
  have h0 := by0_ok m c x
  have h1 := nst_ok h0.1 4 (by omega)
  exact ncd_ok h1.1 h1.2 (by rw [nst_94 _ _ _ _ (by omega) (by omega)]; exact h0.2) 6 (by omega)
theorem stP_88 (m : pM) (c k j : Int) (h : j ≠ 21) : stP m c k 88 j = m 88 j := by
  unfold stP rStand
  simp (disch := omega) only [wr_a, wr_k]
theorem byM_a (m : pM) (c x : Int) (a : Nat) (h : a < 88 ∨ 98 < a) : byM m c x a = m a := by
  unfold byM by0
  rw [ncd_a _ _ _ _ (by omega) (by omega), nst_94 _ _ _ _ (by omega) (by omega), wr_a _ _ _ (by omega), wr_a _ _ _ (by omega), fiM_a _ _ _ _ (by omega), bcM_a _ _ _ _ (by omega)]
theorem byM_88 (m : pM) (c x j : Int) (h : j ≠ 21) : byM m c x 88 j = m 88 j := by
  have e1 : ∀ (k : Nat) (q : pM), nst q c k 88 j = q 88 j := fun k q => by
    induction k with
    | zero => rfl
    | succ k ih => show stP (nst q c k) c k 88 j = _; rw [stP_88 _ _ _ _ h]; exact ih
  have e2 : ∀ (k : Nat) (q : pM), ncd q c k 88 j = q 88 j := fun k q => by
    induction k with
    | zero => rfl
    | succ k ih => show cdS (ncd q c k) c k 88 j = _; rw [cdS_88 _ _ _ _ h]; exact ih
  unfold byM by0
  rw [e2, e1, wr_k _ _ _ _ h, wr_a _ _ _ (by omega), fiM_a _ _ _ _ (by omega), bcM_a _ _ _ _ (by omega)]
theorem pPK_w {m : pM} {c : Int} (h : pPK m c) : pW m c 16 ≤ 256 ∧ ∀ s : Int, 0 ≤ s → s ≤ 15 → 1 ≤ eSp m c s ∧ eSp m c s ≤ 4 ∧ (¬ isD s → eSp m c s = 1) := by
  have e : ∀ s : Int, 0 ≤ s → s ≤ 15 → 1 ≤ eSp m c s ∧ eSp m c s ≤ 4 ∧ (¬ isD s → eSp m c s = 1) := fun s h1 h2 => by
    have q := h.2 s h1 h2
    unfold eSp
    by_cases k : aKind m c s = -1
    · rw [if_pos k]; exact ⟨by omega, by omega, fun _ => rfl⟩
    · rw [if_neg k]
      rcases q with q | q
      · exact absurd q k
      · refine ⟨?_, ?_, fun z => absurd q.1 z⟩
        · show 1 ≤ m 91 (16 * c + s); omega
        · show m 91 (16 * c + s) ≤ 4; omega
  refine ⟨?_, e⟩
  have step : ∀ s : Nat, s ≤ 15 → ¬ isD (s : Int) → pW m c (s + 1) = pW m c s := fun s h1 h2 => by
    show pW m c s * eSp m c s = _
    rw [(e s (by omega) (by omega)).2.2 h2, Int.mul_one]
  have up : ∀ (s : Nat) (B : Int), s ≤ 15 → 1 ≤ pW m c s ∧ pW m c s ≤ B → 1 ≤ pW m c (s + 1) ∧ pW m c (s + 1) ≤ B * 4 := fun s B h1 h2 => by
    have f := e s (by omega) (by omega)
    show 1 ≤ pW m c s * eSp m c s ∧ pW m c s * eSp m c s ≤ B * 4
    refine ⟨?_, Int.mul_le_mul h2.2 f.2.1 (by omega) (by omega)⟩
    have := Int.mul_le_mul h2.1 f.1 (by omega) (by omega)
    omega
  have p0 : pW m c 0 = 1 := rfl
  have p1 : 1 ≤ pW m c 1 ∧ pW m c 1 ≤ 4 := up 0 1 (by omega) (by omega)
  have p2 : 1 ≤ pW m c 2 ∧ pW m c 2 ≤ 16 := up 1 4 (by omega) p1
  have p3 : pW m c 3 = pW m c 2 := step 2 (by omega) (by unfold isD; omega)
  have p4 : pW m c 4 = pW m c 3 := step 3 (by omega) (by unfold isD; omega)
  have p5 : 1 ≤ pW m c 5 ∧ pW m c 5 ≤ 64 := up 4 16 (by omega) (by omega)
  have p6 : 1 ≤ pW m c 6 ∧ pW m c 6 ≤ 256 := up 5 64 (by omega) p5
  have p7 : pW m c 7 = pW m c 6 := step 6 (by omega) (by unfold isD; omega)
  have p8 : pW m c 8 = pW m c 7 := step 7 (by omega) (by unfold isD; omega)
  have p9 : pW m c 9 = pW m c 8 := step 8 (by omega) (by unfold isD; omega)
  have p10 : pW m c 10 = pW m c 9 := step 9 (by omega) (by unfold isD; omega)
  have p11 : pW m c 11 = pW m c 10 := step 10 (by omega) (by unfold isD; omega)
  have p12 : pW m c 12 = pW m c 11 := step 11 (by omega) (by unfold isD; omega)
  have p13 : pW m c 13 = pW m c 12 := step 12 (by omega) (by unfold isD; omega)
  have p14 : pW m c 14 = pW m c 13 := step 13 (by omega) (by unfold isD; omega)
  have p15 : pW m c 15 = pW m c 14 := step 14 (by omega) (by unfold isD; omega)
  have p16 : pW m c 16 = pW m c 15 := step 15 (by omega) (by unfold isD; omega)
  omega
theorem byM_ok (m : pM) (c x : Int) : cOkR (byM m c x) c := by
  obtain ⟨h1, h2, h3⟩ := byM_pk m c x
  have hw := pPK_w h1
  refine ⟨⟨?_, fun k k1 k2 => ?_, fun s s1 s2 s3 => ?_⟩, fun s s1 s2 s3 => ?_, by omega⟩
  · show 0 ≤ byM m c x 94 c ∧ byM m c x 94 c ≤ 40; rw [h3.1]; omega
  · have k3 : k < 6 := by have e : aNc (byM m c x) c = 6 := h3.1; omega
    have q := h3.2 k k1 k3
    show (-1 ≤ byM m c x 95 (40 * c + k) ∧ byM m c x 95 (40 * c + k) ≤ 15) ∧ (0 ≤ byM m c x 96 (40 * c + k) ∧ byM m c x 96 (40 * c + k) ≤ 15) ∧ (-1 ≤ byM m c x 97 (40 * c + k) ∧ byM m c x 97 (40 * c + k) ≤ 6)
    omega
  · rcases h1.2 s s1 s2 with q | q
    · exact absurd q s3
    · show 1 ≤ byM m c x 91 (16 * c + s) ∧ byM m c x 91 (16 * c + s) ≤ 6; omega
  · rcases h1.2 s s1 s2 with q | q
    · exact absurd q s3
    · show 0 ≤ byM m c x 92 (16 * c + s) ∧ byM m c x 92 (16 * c + s) < byM m c x 91 (16 * c + s); omega
/-- a try -/
noncomputable def mkS (m : pM) (c y : Int) : pM := goR (bgB (byM m c y) c) c 1024
noncomputable def mkL (c x mv : Int) : Nat → Int → pM → Int × pM
  | 0, _, b => (-1, b)
  | f + 1, k, b => if mkS b c (x + k) 88 36 ≠ -1 ∧ mkS b c (x + k) 109 (mkS b c (x + k) 108 (mkS b c (x + k) 88 36)) = mv then (k, mkS b c (x + k)) else mkL c x mv f (k + 1) (mkS b c (x + k))
theorem mkL_s (c x mv : Int) (f : Nat) (k : Int) (b : pM) : mkL c x mv (f + 1) k b = if mkS b c (x + k) 88 36 ≠ -1 ∧ mkS b c (x + k) 109 (mkS b c (x + k) 108 (mkS b c (x + k) 88 36)) = mv then (k, mkS b c (x + k)) else mkL c x mv f (k + 1) (mkS b c (x + k)) := rfl
noncomputable def rMake (m : pM) (c x mv : Int) : Int × pM := if ¬ (0 ≤ c ∧ c ≤ 2) then rRef m (-2) else if ¬ (0 ≤ mv ∧ mv ≤ 40) then rRef m (-3) else
  rSay (if (mkL c x mv 6 0 m).1 = -1 then blkF (wr (wr (mkL c x mv 6 0 m).2 88 31 0) 88 32 0) (chB m c) c else wr (wr (wr (mkL c x mv 6 0 m).2 88 31 0) 88 32 0) 101 c 0) (mkL c x mv 6 0 m).1
theorem mkS_v (b : pM) (c y : Int) : GI (mkS b c y) c (mkS b c y) ∧ cOkR (mkS b c y) c ∧ (∀ a, (a < 88 ∨ (98 < a ∧ a < 108) ∨ 114 < a) → mkS b c y a = b a) ∧ (∀ a, 89 ≤ a → a ≤ 98 → mkS b c y a = byM b c y a) ∧ mkS b c y 88 19 = b 88 19 ∧ 1 ≤ mkS b c y 88 34 := by
  have h1 := byM_ok b c y
  obtain ⟨h2, h3⟩ := bgB_ok h1
  have hv := bgB_v (byM b c y) c
  have hg := goR_v (k := 1024) h2 h3
  have ho := goR_ok (k := 1024) h2 h3
  refine ⟨ho.2, ho.1, fun a q => ?_, fun a q1 q2 => ?_, ?_, ?_⟩
  · unfold mkS; rw [hg.1 a (by omega) (by omega), hv.1 a (by omega) (by omega), byM_a _ _ _ _ (by omega)]
  · unfold mkS; rw [hg.1 a (by omega) (by omega), hv.1 a (by omega) (by omega)]
  · unfold mkS; rw [hg.2.1 19 (by omega) (by omega) (by omega) (by omega) (by omega), hv.2.2.2.2.2.2.2 19 (by omega) (by omega) (by omega) (by omega) (by omega) (by omega) (by omega) (by omega), byM_88 _ _ _ _ (by omega)]
  · have e := bgB_34 h1
    have := hg.2.2.2.2.2
    rw [e] at this
    exact this
set_option maxHeartbeats 4000000 in
set_option maxRecDepth 100000 in
theorem r_make (d : Nat) (hd : 7 ≤ d) (n : Nat) (ok : pO) (mem : pM) (hU : RefUp n ok) (c x mv : Int) (hc : -2147483648 ≤ c ∧ c ≤ 2147483647) (hx : -2147483648 ≤ x ∧ x ≤ 2147483647) (hmv : -2147483648 ≤ mv ∧ mv ≤ 2147483647) (ht : 0 ≤ mem 88 19 ∧ mem 88 19 ≤ 1000000) : PM mi_X10_make d [vr 88, vi c, vi x, vi mv] n ok mem n (fun r ok' mem' => r = some (vi (rMake mem c x mv).1) ∧ ok = ok' ∧ EQ aT (rMake mem c x mv).2 mem') := by
  obtain ⟨hO, ⟨a89, a90, a91, a92, a93, a94, a95, a96, a97, a98⟩, ⟨a99, a100, a101, a102, a103, a104, a105, a106, a107⟩, ⟨a108, a109, a110, a111, a112, a113, a114, a115, a116, a117, a118, a119⟩, a120, a121, a122⟩ := id hU
  refine PM.of (by decide) (by decide) (Nat.le_refl _) (Nat.le_of_ble_eq_true rfl) ?_
  refine pw_iload_n 1 rfl dX10_make_0 rfl ?_
  refine pw_callS (d' := d - 1) (As := [_]) dX10_make_1 ok_X10_isChest kw_1241 (by omega) rfl (Nat.le_of_ble_eq_true rfl) (r_isChest (d - 1) (by omega) n ok _ _ (by omega)) (Nat.le_refl _) (Or.inl rfl) (fun r ok1 mem1 hq => ?_)
  obtain ⟨rfl, rfl, rfl⟩ := hq
  refine pw_if_ne 14 (by decide) dX10_make_4 (by split <;> omega) (fun c4 => ?_) (fun c4 => ?_)
  · skip
    rw [ne_eq, bz_n] at c4
    refine pw_iload_n 3 rfl dX10_make_14 rfl ?_
    refine pw_i2l dX10_make_15 (by omega) ?_
    refine pw_lconst (x := 0) dX10_make_16 (by decide) ?_
    refine pw_ldc2 (x := 40) kw_1341 (by decide) dX10_make_17 ?_
    refine pw_callS (d' := d - 1) (As := [_, _, _]) dX10_make_20 ok_X10_in kw_1245 (by omega) rfl (Nat.le_of_ble_eq_true rfl) (r_in (d - 1) (by omega) n ok _ _ _ _ (by omega) (by omega) (by omega)) (Nat.le_refl _) (Or.inl rfl) (fun r ok1 mem1 hq => ?_)
    obtain ⟨rfl, rfl, rfl⟩ := hq
    refine pw_if_ne 33 (by decide) dX10_make_23 (by split <;> omega) (fun c23 => ?_) (fun c23 => ?_)
    · skip
      rw [ne_eq, bz_n] at c23
      refine pw_aload_n 0 rfl dX10_make_33 rfl ?_
      refine pw_iload_n 1 rfl dX10_make_34 rfl ?_
      refine pw_callV (d' := d - 1) (As := [_]) (ci := 10) dX10_make_35 ok_X10_putAside kw_1342 rfl rfl (Of.o (by assumption)) (by omega) rfl (Nat.le_of_ble_eq_true rfl) (r_putAside (d - 1) (by omega) n ok mem hU c (by omega)) (Nat.le_refl _) (Or.inl rfl) (fun r ok1 m1 hq => ?_)
      obtain ⟨rfl, rfl, hAS⟩ := hq
      have eQ0 : EQ aT mem m1 := ⟨aT_h, fun a _ q k _ => by rw [hAS.1 a q]⟩
      have hS0 : ∀ a, 89 ≤ a → a ≤ 98 → ∀ t, 0 ≤ t → t < kk 4 16 1 40 240 a → m1 105 (aso a + t) = mem a (sta a c + t) := hAS.2
      clear hAS
      refine pw_iconst dX10_make_38 ?_
      refine pw_istore dX10_make_39 (by decide) ?_
      refine pw_iconst dX10_make_41 ?_
      refine pw_istore dX10_make_42 (by decide) ?_
      have lp44 : ∀ (kz : Nat) (k : Nat) (f : Int) (b m2 : pM), 6 - (k : Int) < (kz : Int) → (k ≤ 6) → (-1 ≤ f ∧ f ≤ 6) → (EQ aT b m2) → (mkL c x mv 6 0 mem = if f = -1 then mkL c x mv (6 - k) k b else (f, b)) → (∀ a, 89 ≤ a → a ≤ 98 → ∀ t, 0 ≤ t → t < kk 4 16 1 40 240 a → m2 105 (aso a + t) = mem a (sta a c + t)) → (b 88 19 = mem 88 19) → PW mi_X10_make d n n (fun r ok' mem' => r = some (vi (rMake mem c x mv).1) ∧ ok = ok' ∧ EQ aT (rMake mem c x mv).2 mem') 44 [(0, vr 88), (1, vi c), (2, vi x), (3, vi mv), (4, vi f), (5, vi (k : Int))] [] n ok m2 := by
        intro kz
        induction kz with
        | zero =>
          intro k f b m2 hk hk6 hf hE hG hS h19
          exact absurd hk (by omega)
        | succ kz ih =>
          intro k f b m2 hk hk6 hf hE hG hS h19
          refine pw_iload dX10_make_44 rfl ?_
          refine pw_bipush dX10_make_46 (by decide) ?_
          refine pw_icmp_ge 118 (by decide) dX10_make_48 (by omega) (by omega) (fun c48 => ?_) (fun c48 => ?_)
          · skip
            have eE : mkL c x mv 6 0 mem = (f, b) := by
              rw [hG]
              by_cases q : f = -1
              · rw [if_pos q, show 6 - k = 0 by omega, q]; rfl
              · rw [if_neg q]
            refine pw_aload_n 0 rfl dX10_make_118 rfl ?_
            refine pw_iconst dX10_make_119 ?_
            refine pw_pZ 31 31 rfl dX10_make_120 cOk10 (by assumption) (by decide) kw_1096 rfl rfl (by decide) (by omega) ?_
            refine pw_aload_n 0 rfl dX10_make_123 rfl ?_
            refine pw_iconst dX10_make_124 ?_
            refine pw_pZ 32 32 rfl dX10_make_125 cOk10 (by assumption) (by decide) kw_1097 rfl rfl (by decide) (by omega) ?_
            refine pw_iload dX10_make_128 rfl ?_
            refine pw_iconst dX10_make_130 ?_
            refine pw_icmp_ne 142 (by decide) dX10_make_131 (by omega) (by omega) (fun c131 => ?_) (fun c131 => ?_)
            · skip
              refine pw_aload_n 0 rfl dX10_make_142 rfl ?_
              refine pw_gR 16 101 dX10_make_143 cOk10 (by assumption) (by decide) kw_1081 (by decide) rfl ?_
              refine pw_iload_n 1 rfl dX10_make_146 rfl ?_
              refine pw_iconst dX10_make_147 ?_
              refine pw_iastore dX10_make_148 (by assumption) (by omega) (by omega) (by omega) ?_
              have eF6 : EQ aT (if f = -1 then blkF (wr (wr b 88 31 0) 88 32 0) (chB mem c) c else wr (wr (wr b 88 31 0) 88 32 0) 101 c 0) (wr (wr (wr m2 88 31 0) 88 32 0) 101 c 0) := by
                rw [if_neg c131]
                exact ((hE.w _ _ _).w _ _ _).w _ _ _
              refine pw_aload_n 0 rfl dX10_make_149 rfl ?_
              refine pw_iload dX10_make_150 rfl ?_
              refine pw_callV (d' := d - 1) (As := [_]) (ci := 10) dX10_make_152 ok_X10_says kw_1265 rfl rfl (Of.o (by assumption)) (by omega) rfl (Nat.le_of_ble_eq_true rfl) (r_says (d - 1) (by omega) n ok _ hU _) (Nat.le_refl _) (Or.inl rfl) (fun r ok1 mem1 hq => ?_)
              obtain ⟨rfl, rfl, em7⟩ := hq
              refine pw_iret dX10_make_155 rfl rfl ?_
              refine ⟨?_, rfl, ?_⟩
              · unfold rMake; rw [if_neg (by omega), if_neg (by omega), eE]; rfl
              · unfold rMake; rw [if_neg (by omega), if_neg (by omega), eE, ← em7]; exact eF6.w 88 0 0
            · skip
              refine pw_aload_n 0 rfl dX10_make_134 rfl ?_
              refine pw_iload_n 1 rfl dX10_make_135 rfl ?_
              refine pw_callV (d' := d - 1) (As := [_]) (ci := 10) dX10_make_136 ok_X10_takeBack kw_1414 rfl rfl (Of.o (by assumption)) (by omega) rfl (Nat.le_of_ble_eq_true rfl) (r_takeBack (d - 1) (by omega) n ok _ hU c (by omega)) (Nat.le_refl _) (Or.inl rfl) (fun r ok1 m6 hq => ?_)
              obtain ⟨rfl, rfl, em6⟩ := hq
              have eB : blkF (wr (wr m2 88 31 0) 88 32 0) (fun a t => (wr (wr m2 88 31 0) 88 32 0) 105 (aso a + t)) c = blkF (wr (wr m2 88 31 0) 88 32 0) (chB mem c) c := by
                funext a j
                unfold blkF blk
                by_cases q : 89 ≤ a ∧ a ≤ 98 ∧ sta a c ≤ j ∧ j < sta a c + kk 4 16 1 40 240 a
                · rw [if_pos q, if_pos q, wr_a _ _ _ (by omega), wr_a _ _ _ (by omega)]
                  exact hS a q.1 q.2.1 (j - sta a c) (by omega) (by omega)
                · rw [if_neg q, if_neg q]
              have eF6 : EQ aT (if f = -1 then blkF (wr (wr b 88 31 0) 88 32 0) (chB mem c) c else wr (wr (wr b 88 31 0) 88 32 0) 101 c 0) m6 := by
                rw [if_pos (by omega), ← em6, eB]
                exact ((hE.w _ _ _).w _ _ _).bk _ _
              refine pw_goto 149 (by decide) dX10_make_139 ?_
              refine pw_aload_n 0 rfl dX10_make_149 rfl ?_
              refine pw_iload dX10_make_150 rfl ?_
              refine pw_callV (d' := d - 1) (As := [_]) (ci := 10) dX10_make_152 ok_X10_says kw_1265 rfl rfl (Of.o (by assumption)) (by omega) rfl (Nat.le_of_ble_eq_true rfl) (r_says (d - 1) (by omega) n ok _ hU _) (Nat.le_refl _) (Or.inl rfl) (fun r ok1 mem1 hq => ?_)
              obtain ⟨rfl, rfl, em7⟩ := hq
              refine pw_iret dX10_make_155 rfl rfl ?_
              refine ⟨?_, rfl, ?_⟩
              · unfold rMake; rw [if_neg (by omega), if_neg (by omega), eE]; rfl
              · unfold rMake; rw [if_neg (by omega), if_neg (by omega), eE, ← em7]; exact eF6.w 88 0 0
          · skip
            refine pw_iload dX10_make_51 rfl ?_
            refine pw_iconst dX10_make_53 ?_
            refine pw_icmp_ne 118 (by decide) dX10_make_54 (by omega) (by omega) (fun c54 => ?_) (fun c54 => ?_)
            · skip
              have eE : mkL c x mv 6 0 mem = (f, b) := by rw [hG, if_neg c54]
              refine pw_aload_n 0 rfl dX10_make_118 rfl ?_
              refine pw_iconst dX10_make_119 ?_
              refine pw_pZ 31 31 rfl dX10_make_120 cOk10 (by assumption) (by decide) kw_1096 rfl rfl (by decide) (by omega) ?_
              refine pw_aload_n 0 rfl dX10_make_123 rfl ?_
              refine pw_iconst dX10_make_124 ?_
              refine pw_pZ 32 32 rfl dX10_make_125 cOk10 (by assumption) (by decide) kw_1097 rfl rfl (by decide) (by omega) ?_
              refine pw_iload dX10_make_128 rfl ?_
              refine pw_iconst dX10_make_130 ?_
              refine pw_icmp_ne 142 (by decide) dX10_make_131 (by omega) (by omega) (fun c131 => ?_) (fun c131 => ?_)
              · skip
                refine pw_aload_n 0 rfl dX10_make_142 rfl ?_
                refine pw_gR 16 101 dX10_make_143 cOk10 (by assumption) (by decide) kw_1081 (by decide) rfl ?_
                refine pw_iload_n 1 rfl dX10_make_146 rfl ?_
                refine pw_iconst dX10_make_147 ?_
                refine pw_iastore dX10_make_148 (by assumption) (by omega) (by omega) (by omega) ?_
                have eF6 : EQ aT (if f = -1 then blkF (wr (wr b 88 31 0) 88 32 0) (chB mem c) c else wr (wr (wr b 88 31 0) 88 32 0) 101 c 0) (wr (wr (wr m2 88 31 0) 88 32 0) 101 c 0) := by
                  rw [if_neg c131]
                  exact ((hE.w _ _ _).w _ _ _).w _ _ _
                refine pw_aload_n 0 rfl dX10_make_149 rfl ?_
                refine pw_iload dX10_make_150 rfl ?_
                refine pw_callV (d' := d - 1) (As := [_]) (ci := 10) dX10_make_152 ok_X10_says kw_1265 rfl rfl (Of.o (by assumption)) (by omega) rfl (Nat.le_of_ble_eq_true rfl) (r_says (d - 1) (by omega) n ok _ hU _) (Nat.le_refl _) (Or.inl rfl) (fun r ok1 mem1 hq => ?_)
                obtain ⟨rfl, rfl, em7⟩ := hq
                refine pw_iret dX10_make_155 rfl rfl ?_
                refine ⟨?_, rfl, ?_⟩
                · unfold rMake; rw [if_neg (by omega), if_neg (by omega), eE]; rfl
                · unfold rMake; rw [if_neg (by omega), if_neg (by omega), eE, ← em7]; exact eF6.w 88 0 0
              · skip
                exfalso; omega
            · skip
              rw [if_pos (by omega)] at hG
              have eK : 6 - k = (5 - k) + 1 := by omega
              refine pw_aload_n 0 rfl dX10_make_57 rfl ?_
              refine pw_iload_n 1 rfl dX10_make_58 rfl ?_
              refine pw_iload_n 2 rfl dX10_make_59 rfl ?_
              refine pw_iload dX10_make_60 rfl ?_
              refine pw_iadd dX10_make_62 ?_
              refine pw_callV (d' := d - 1) (As := [_, _]) (ci := 10) dX10_make_63 ok_X10_byNumber kw_1346 rfl rfl (Of.o (by assumption)) (by omega) rfl (Nat.le_of_ble_eq_true rfl) (r_byNumber (d - 1) (by omega) n ok m2 hU c (x + (k : Int)) (by omega)) (Nat.le_refl _) (Or.inl rfl) (fun r ok1 m3 hq => ?_)
              obtain ⟨rfl, rfl, em3⟩ := hq
              have eQ1 : EQ aT (byM b c (x + (k : Int))) m3 := by rw [← em3]; exact hE.by1 _ _
              have hs9 : cOkR m3 c := by rw [← em3]; exact byM_ok _ _ _
              have t3 : m3 88 19 = mem 88 19 := by rw [← em3, byM_88 _ _ _ _ (by omega), hE.f (by omega), h19]
              have e105 : m3 105 = m2 105 := by rw [← em3]; exact byM_a _ _ _ _ (by omega)
              refine pw_aload_n 0 rfl dX10_make_66 rfl ?_
              refine pw_iload_n 1 rfl dX10_make_67 rfl ?_
              refine pw_callV (d' := d - 1) (As := [_]) (ci := 10) dX10_make_68 ok_X10_begin kw_1358 rfl rfl (Of.o (by assumption)) (by omega) rfl (Nat.le_of_ble_eq_true rfl) (r_begin (d - 1) (by omega) n ok m3 hU c (by omega) hs9 (by omega)) (Nat.le_refl _) (Or.inl rfl) (fun r ok1 m4 hq => ?_)
              obtain ⟨z1, rfl, rfl, em1⟩ := hq
              obtain ⟨hb1, hb2⟩ := bgB_ok hs9
              have eQ3 : EQ aT (bgB m3 c) m4 := by rw [← em1]; exact EQ.z aT_h _ _
              have v1 := bgB_v m3 c
              have q33 : m4 88 33 = c := (eQ3.f (by omega)).trans v1.2.2.2.1
              have q19 : m4 88 19 = m3 88 19 := (eQ3.f (by omega)).trans (v1.2.2.2.2.2.2.2 19 (by omega) (by omega) (by omega) (by omega) (by omega) (by omega) (by omega) (by omega))
              have f105 : m4 105 = m2 105 := by rw [← em1, wr_a _ _ _ (by omega), v1.1 105 (by omega) (by omega), e105]
              refine pw_aload_n 0 rfl dX10_make_71 rfl ?_
              refine pw_sipush dX10_make_72 (by decide) ?_
              refine pw_callV (d' := d - 1) (As := [_]) (ci := 10) dX10_make_75 ok_X10_goesOn kw_1390 rfl rfl (Of.o (by assumption)) (by omega) rfl (Nat.le_of_ble_eq_true rfl) (r_goesOn (d - 1) (by omega) n ok m4 hU c 1024 (by omega) (by omega) q33 (eQ3.cOk hb1) (eQ3.GI1 hb2) (by omega)) (Nat.le_refl _) (Or.inl rfl) (fun r ok1 m5 hq => ?_)
              obtain ⟨z2, rfl, rfl, em2⟩ := hq
              have eQ2 : EQ aT (mkS b c (x + (k : Int))) m5 := by
                rw [← em2]
                exact (((eQ1.bg c).tr eQ3).go c 1024).tr (EQ.z aT_h _ _)
              have g105 : m5 105 = m2 105 := by rw [← em2, wr_a _ _ _ (by omega), (goR_v (eQ3.cOk hb1) (eQ3.GI1 hb2)).1 105 (by omega) (by omega), f105]
              have hS2 : ∀ a, 89 ≤ a → a ≤ 98 → ∀ t, 0 ≤ t → t < kk 4 16 1 40 240 a → m5 105 (aso a + t) = mem a (sta a c + t) := by rw [g105]; exact hS
              have hv := mkS_v b c (x + (k : Int))
              have eq19 := hv.2.2.2.2.1.trans h19
              have g36 := eQ2.f (k := 36) (by omega)
              have g108 := eQ2.a (a := 108) (by omega) (by omega)
              have g109 := eQ2.a (a := 109) (by omega) (by omega)
              have hI := hv.1.1.1
              refine pw_aload_n 0 rfl dX10_make_78 rfl ?_
              refine pw_gI 36 36 rfl dX10_make_79 cOk10 (by assumption) (by decide) kw_1101 (by decide) (fun r79 => ?_)
              try simp (disch := omega) only [wr_s, wr_a, wr_k] at r79 ⊢
              rw [g36] at r79 ⊢
              refine pw_iconst dX10_make_82 ?_
              refine pw_icmp_eq 109 (by decide) dX10_make_83 (by omega) (by omega) (fun c83 => ?_) (fun c83 => ?_)
              · skip
                have eF : mkS b c (x + (k : Int)) 88 36 = -1 := c83
                refine pw_iconst dX10_make_109 ?_
                refine pw_istore dX10_make_110 (by decide) ?_
                refine pw_iinc dX10_make_112 rfl (by decide) ?_
                refine pw_goto 44 (by decide) dX10_make_115 ?_
                exact pw_locs _ rfl (ih (k + 1) (-1) (mkS b c (x + (k : Int))) _ (by omega) (by omega) (by omega) eQ2 (by rw [if_pos rfl, hG, eK, mkL_s, if_neg (fun q => q.1 eF), show 6 - (k + 1) = 5 - k by omega]; rfl) hS2 eq19)
              · skip
                have eF : mkS b c (x + (k : Int)) 88 36 ≠ -1 := c83
                have i1 := hI.1
                have i2 := hI.2.1 (mkS b c (x + (k : Int)) 88 36) (by omega) (by omega)
                refine pw_aload_n 0 rfl dX10_make_86 rfl ?_
                refine pw_gR 38 109 dX10_make_87 cOk10 (by assumption) (by decide) kw_1103 (by decide) rfl ?_
                refine pw_aload_n 0 rfl dX10_make_90 rfl ?_
                refine pw_gR 37 108 dX10_make_91 cOk10 (by assumption) (by decide) kw_1102 (by decide) rfl ?_
                refine pw_aload_n 0 rfl dX10_make_94 rfl ?_
                refine pw_gI 36 36 rfl dX10_make_95 cOk10 (by assumption) (by decide) kw_1101 (by decide) (fun r95 => ?_)
                try simp (disch := omega) only [wr_s, wr_a, wr_k] at r95 ⊢
                rw [g36] at r95 ⊢
                refine pw_iaload dX10_make_98 (by assumption) (by omega) (by omega) (fun r98 => ?_)
                try simp (disch := omega) only [wr_s, wr_a, wr_k] at r98 ⊢
                rw [g108] at r98 ⊢
                refine pw_iaload dX10_make_99 (by assumption) (by omega) (by omega) (fun r99 => ?_)
                try simp (disch := omega) only [wr_s, wr_a, wr_k] at r99 ⊢
                rw [g109] at r99 ⊢
                refine pw_iload_n 3 rfl dX10_make_100 rfl ?_
                refine pw_icmp_ne 109 (by decide) dX10_make_101 (by omega) (by omega) (fun c101 => ?_) (fun c101 => ?_)
                · skip
                  have eF2 : mkS b c (x + (k : Int)) 109 (mkS b c (x + (k : Int)) 108 (mkS b c (x + (k : Int)) 88 36)) ≠ mv := c101
                  refine pw_iconst dX10_make_109 ?_
                  refine pw_istore dX10_make_110 (by decide) ?_
                  refine pw_iinc dX10_make_112 rfl (by decide) ?_
                  refine pw_goto 44 (by decide) dX10_make_115 ?_
                  exact pw_locs _ rfl (ih (k + 1) (-1) (mkS b c (x + (k : Int))) _ (by omega) (by omega) (by omega) eQ2 (by rw [if_pos rfl, hG, eK, mkL_s, if_neg (fun q => eF2 q.2), show 6 - (k + 1) = 5 - k by omega]; rfl) hS2 eq19)
                · skip
                  have eF2 : mkS b c (x + (k : Int)) 109 (mkS b c (x + (k : Int)) 108 (mkS b c (x + (k : Int)) 88 36)) = mv := by omega
                  refine pw_iload dX10_make_104 rfl ?_
                  refine pw_goto 110 (by decide) dX10_make_106 ?_
                  refine pw_istore dX10_make_110 (by decide) ?_
                  refine pw_iinc dX10_make_112 rfl (by decide) ?_
                  refine pw_goto 44 (by decide) dX10_make_115 ?_
                  exact pw_locs _ rfl (ih (k + 1) (k : Int) (mkS b c (x + (k : Int))) _ (by omega) (by omega) (by omega) eQ2 (by rw [if_neg (by omega), hG, eK, mkL_s, if_pos ⟨eF, eF2⟩]) hS2 eq19)
      exact pw_locs _ rfl (lp44 7 0 (-1) mem m1 (by omega) (by omega) (by omega) eQ0 (by rw [if_pos rfl]; rfl) hS0 rfl)
    · skip
      rw [bz_0] at c23
      refine pw_aload_n 0 rfl dX10_make_26 rfl ?_
      refine pw_bipush dX10_make_27 (by decide) ?_
      refine pw_callV (d' := d - 1) (As := [_]) (ci := 10) dX10_make_29 ok_X10_refuses kw_1249 rfl rfl (Of.o (by assumption)) (by omega) rfl (Nat.le_of_ble_eq_true rfl) (r_refuses (d - 1) (by omega) n ok _ hU _ (by omega)) (Nat.le_refl _) (Or.inl rfl) (fun r ok1 mem1 hq => ?_)
      obtain ⟨rfl, rfl, rfl⟩ := hq
      refine pw_iret dX10_make_32 rfl rfl ?_
      unfold rMake; (repeat' split) <;> first | exact ⟨rfl, rfl, EQ.rf aT_h _⟩ | (exfalso; omega)
  · skip
    rw [bz_0] at c4
    refine pw_aload_n 0 rfl dX10_make_7 rfl ?_
    refine pw_bipush dX10_make_8 (by decide) ?_
    refine pw_callV (d' := d - 1) (As := [_]) (ci := 10) dX10_make_10 ok_X10_refuses kw_1249 rfl rfl (Of.o (by assumption)) (by omega) rfl (Nat.le_of_ble_eq_true rfl) (r_refuses (d - 1) (by omega) n ok _ hU _ (by omega)) (Nat.le_refl _) (Or.inl rfl) (fun r ok1 mem1 hq => ?_)
    obtain ⟨rfl, rfl, rfl⟩ := hq
    refine pw_iret dX10_make_13 rfl rfl ?_
    unfold rMake; (repeat' split) <;> first | exact ⟨rfl, rfl, EQ.rf aT_h _⟩ | (exfalso; omega)
