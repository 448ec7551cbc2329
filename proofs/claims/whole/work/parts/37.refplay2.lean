/-! ===== play, attempt ===== -/
theorem rnGo_n (m : pM) (c : Int) (f k : Nat) (b : pM) (v : Int → Int) (ev : pEv) : k ≤ (rnGo m c f k b v ev).1 ∧ (rnGo m c f k b v ev).1 ≤ k + f := by
  induction f generalizing k b v ev with
  | zero => exact ⟨Nat.le_refl _, Nat.le_refl _⟩
  | succ f ih =>
    rw [rnGo_succ]
    split
    · exact ⟨Nat.le_refl _, Nat.le_add_right _ _⟩
    · split
      · exact ⟨Nat.le_refl _, Nat.le_add_right _ _⟩
      · have i := ih (k + 1) (wr (wr b 88 27 0) 107 k (numV m c v 16)) (dRes m c (m 106 k) v).1 (ev ++ iEv m c v (m 106 k) ++ (dRes m c (m 106 k) v).2)
        omega
theorem rnGo_b {m : pM} (c : Int) (f k : Nat) {b : pM} (v : Int → Int) (ev : pEv) (hb : bSame m b) : bSame m (rnGo m c f k b v ev).2.1 := by
  induction f generalizing k b v ev with
  | zero => exact hb
  | succ f ih =>
    have h1 : ∀ x, bSame m (wr b 88 27 x) := fun x => ⟨fun a q1 q2 => by rw [wr_a _ _ _ q1]; exact hb.1 a q1 q2, fun k q => by rw [wr_k _ _ _ _ q]; exact hb.2 k q⟩
    rw [rnGo_succ]
    split
    · exact hb
    · split
      · exact h1 _
      · exact ih _ _ _ ⟨fun a q1 q2 => by rw [wr_a _ _ _ q2]; exact (h1 0).1 a q1 q2, fun k q => by rw [wr_a _ _ _ (by omega)]; exact (h1 0).2 k q⟩
theorem rnRes_b (m : pM) (c : Int) : bSame m (rnRes m c).2.1 := rnGo_b c _ _ _ _ ⟨fun a q1 q2 => wr_a _ _ _ q1, fun k q => wr_k _ _ _ _ q⟩
theorem rnRes_n {m : pM} (c : Int) (h : 0 ≤ m 88 24 ∧ m 88 24 ≤ 40) : ((rnRes m c).1 : Int) ≤ m 88 24 := by
  have := rnGo_n m c (m 88 24).toNat 0 (wr m 88 27 0) (aAt m c) []
  unfold rnRes
  omega
theorem rnGo_ok {m : pM} {c : Int} (hs : cOkR m c) (hm : ∀ j : Int, 0 ≤ m 106 j) (f k : Nat) (b : pM) {v : Int → Int} (ev : pEv) (hv : pOkv m c v) : pOkv m c (rnGo m c f k b v ev).2.2.1 := by
  induction f generalizing k b v ev with
  | zero => exact hv
  | succ f ih =>
    rw [rnGo_succ]
    split
    · exact hv
    · rename_i q
      split
      · exact hv
      · exact ih _ _ _ (dRes_ok hs.1.2.2 (hm k) (fun q2 => iRes_kind q q2) hv)
set_option maxHeartbeats 4000000 in
set_option maxRecDepth 100000 in
theorem r_play (d : Nat) (hd : 7 ≤ d) (n : Nat) (ok : pO) (mem : pM) (hU : RefUp n ok) (c : Int) (hc : -2147483648 ≤ c ∧ c ≤ 2147483647) (hI : ROk mem) (hkm : ∀ c, 0 ≤ c → c ≤ 2 → 0 ≤ mem 101 c ∧ mem 101 c ≤ 30) (hty : 0 ≤ mem 88 24 ∧ mem 88 24 ≤ 40) (htm : ∀ j, 0 ≤ j → j < mem 88 24 → 0 ≤ mem 106 j ∧ mem 106 j < 38) : PM mi_X10_play d [vr 88, vi c] n ok mem n (fun r ok' mem' => ok = ok' ∧ ((¬ (0 ≤ c ∧ c ≤ 2) ∧ r = some (vi (-2)) ∧ wr (wr mem 88 19 0) 88 0 (-2) = mem') ∨ ((0 ≤ c ∧ c ≤ 2) ∧ ∃ (z : Int) (m9 : pM), r = some (vi ((rnRes (wr mem 88 19 0) c).1 : Int)) ∧ vMem (rKeepAll (rnRes (wr mem 88 19 0) c).2.1 c (rnRes (wr mem 88 19 0) c).1) m9 c (rnRes (wr mem 88 19 0) c).2.2.1 (rnRes (wr mem 88 19 0) c).2.2.2 z ∧ wr m9 88 0 0 = mem'))) := by
  obtain ⟨hO, ⟨a89, a90, a91, a92, a93, a94, a95, a96, a97, a98⟩, ⟨a99, a100, a101, a102, a103, a104, a105, a106, a107⟩, ⟨a108, a109, a110, a111, a112, a113, a114, a115, a116, a117, a118, a119⟩, a120, a121, a122⟩ := id hU
  refine PM.of (by decide) (by decide) (Nat.le_refl _) (Nat.le_of_ble_eq_true rfl) ?_
  refine pw_aload_n 0 rfl dX10_play_0 rfl ?_
  refine pw_iconst dX10_play_1 ?_
  refine pw_pI 19 19 rfl dX10_play_2 cOk10 (by assumption) (by decide) kw_1084 rfl rfl (by decide) (by omega) ?_
  obtain ⟨m0, em0⟩ : ∃ m0, m0 = wr mem 88 19 0 := ⟨_, rfl⟩
  rw [← em0]
  have s0 : sSame mem m0 := by rw [em0]; exact fun a q1 q2 q3 => wr_a _ _ _ (by omega)
  have hI0 : ROk m0 := ROk_s s0 (by rw [em0]; exact wr_a _ _ _ (by omega)) hI
  have t0 : m0 88 19 = 0 := by rw [em0, wr_s]
  have k0 : m0 101 = mem 101 := by rw [em0, wr_a _ _ _ (by omega)]
  have f0 : ∀ k, k ≠ 19 → m0 88 k = mem 88 k := fun k q => by rw [em0, wr_k _ _ _ _ q]
  have g0 : m0 106 = mem 106 := by rw [em0, wr_a _ _ _ (by omega)]
  refine pw_iload_n 1 rfl dX10_play_5 rfl ?_
  refine pw_callS (d' := d - 1) (As := [_]) dX10_play_6 ok_X10_isChest kw_1241 (by omega) rfl (Nat.le_of_ble_eq_true rfl) (r_isChest (d - 1) (by omega) n ok _ _ (by omega)) (Nat.le_refl _) (Or.inl rfl) (fun r ok1 mem1 hq => ?_)
  obtain ⟨rfl, rfl, rfl⟩ := hq
  refine pw_if_ne 19 (by decide) dX10_play_9 (by split <;> omega) (fun c9 => ?_) (fun c9 => ?_)
  · skip
    rw [ne_eq, bz_n] at c9
    refine pw_aload_n 0 rfl dX10_play_19 rfl ?_
    refine pw_iload_n 1 rfl dX10_play_20 rfl ?_
    refine pw_callV (d' := d - 1) (As := [_]) (ci := 10) dX10_play_21 ok_X10_runs kw_1488 rfl rfl (Of.o (by assumption)) (by omega) rfl (Nat.le_of_ble_eq_true rfl) (r_runs (d - 1) (by omega) n ok m0 hU c (by omega) (hI0 c (by omega) (by omega)) (by rw [f0 24 (by omega)]; exact hty) (by rw [f0 24 (by omega), g0]; exact htm) (by omega)) (Nat.le_refl _) (Or.inl rfl) (fun r ok1 m1 hq => ?_)
    obtain ⟨z, rfl, rfl, hM⟩ := hq
    have hn9 := rnRes_n (m := m0) c (by rw [f0 24 (by omega)]; exact hty)
    rw [f0 24 (by omega)] at hn9
    have hB := rnRes_b m0 c
    have q101 : m1 101 = mem 101 := (hM.a (by omega) (by omega) (by omega)).trans ((hB.1 101 (by omega) (by omega)).trans k0)
    have hkm9 := hkm c (by omega) (by omega)
    refine pw_istore_n 2 rfl dX10_play_24 (by decide) ?_
    refine pw_aload_n 0 rfl dX10_play_25 rfl ?_
    refine pw_iload_n 1 rfl dX10_play_26 rfl ?_
    refine pw_iload_n 2 rfl dX10_play_27 rfl ?_
    refine pw_callV (d' := d - 1) (As := [_, _]) (ci := 10) dX10_play_28 ok_X10_keepAll kw_1492 rfl rfl (Of.o (by assumption)) (by omega) rfl (Nat.le_of_ble_eq_true rfl) (r_keepAll (d - 1) (by omega) n ok m1 hU c (rnRes m0 c).1 (by omega) (by omega) (by rw [q101]; exact hkm9)) (Nat.le_refl _) (Or.inl rfl) (fun r ok1 m2 hq => ?_)
    obtain ⟨rfl, rfl, em2⟩ := hq
    have hM2 := vM_keepAll hM (rnRes m0 c).1
    rw [em2] at hM2
    refine pw_aload_n 0 rfl dX10_play_31 rfl ?_
    refine pw_iload_n 2 rfl dX10_play_32 rfl ?_
    refine pw_callV (d' := d - 1) (As := [_]) (ci := 10) dX10_play_33 ok_X10_says kw_1265 rfl rfl (Of.o (by assumption)) (by omega) rfl (Nat.le_of_ble_eq_true rfl) (r_says (d - 1) (by omega) n ok _ hU _) (Nat.le_refl _) (Or.inl rfl) (fun r ok1 mem1 hq => ?_)
    obtain ⟨rfl, rfl, rfl⟩ := hq
    refine pw_iret dX10_play_36 rfl rfl ?_
    exact ⟨rfl, Or.inr ⟨by omega, z, m2, rfl, hM2, rfl⟩⟩
  · skip
    rw [bz_0] at c9
    refine pw_aload_n 0 rfl dX10_play_12 rfl ?_
    refine pw_bipush dX10_play_13 (by decide) ?_
    refine pw_callV (d' := d - 1) (As := [_]) (ci := 10) dX10_play_15 ok_X10_refuses kw_1249 rfl rfl (Of.o (by assumption)) (by omega) rfl (Nat.le_of_ble_eq_true rfl) (r_refuses (d - 1) (by omega) n ok _ hU _ (by omega)) (Nat.le_refl _) (Or.inl rfl) (fun r ok1 mem1 hq => ?_)
    obtain ⟨rfl, rfl, rfl⟩ := hq
    refine pw_iret dX10_play_18 rfl rfl ?_
    exact ⟨rfl, Or.inl ⟨by omega, rfl, rfl⟩⟩
