/-! ===== Kept ===== -/
def kpNext (x : Int) : Int := if 30 ≤ x + 1 then 0 else x + 1
def kpHeld (x : Int) : Int := if 30 < x + 1 then 30 else x + 1
def kpPush (mem : pM) (b : Nat) (x : Int) : pM := wr (wr (wr mem (b + 1) (mem b 1) x) b 1 (kpNext (mem b 1))) b 2 (kpHeld (mem b 2))
set_option maxHeartbeats 4000000 in
set_option maxRecDepth 100000 in
theorem c_Kept_push (d : Nat) (hd : 1 ≤ d) (n : Nat) (ok : pO) (mem : pM) (b : Nat) (hK : Of n ok 3 b) (hA : Ar n (b + 1) 30) (x : Int) (hx : -2147483648 ≤ x ∧ x ≤ 2147483647) (h1 : 0 ≤ mem b 1 ∧ mem b 1 < 30) (h2 : 0 ≤ mem b 2 ∧ mem b 2 ≤ 30) : PM mi_X3_push d [vr b, vi x] n ok mem n (fun r ok' mem' => r = none ∧ ok = ok' ∧ kpPush mem b x = mem') := by
  refine PM.of (by decide) (by decide) (Nat.le_refl _) (Nat.le_of_ble_eq_true rfl) ?_
  refine pw_aload_n 0 rfl dX3_push_0 rfl ?_
  refine pw_gR 0 (b + 1) dX3_push_1 cOk3 (by assumption) (by decide) kw_178 (by decide) rfl ?_
  refine pw_aload_n 0 rfl dX3_push_4 rfl ?_
  refine pw_gI 1 1 rfl dX3_push_5 cOk3 (by assumption) (by decide) kw_179 (by decide) (fun r5 => ?_)
  refine pw_iload_n 1 rfl dX3_push_8 rfl ?_
  refine pw_iastore dX3_push_9 (by assumption) (by omega) (by omega) (by omega) ?_
  refine pw_aload_n 0 rfl dX3_push_10 rfl ?_
  refine pw_aload_n 0 rfl dX3_push_11 rfl ?_
  refine pw_gI 1 1 rfl dX3_push_12 cOk3 (by assumption) (by decide) kw_179 (by decide) (fun r12 => ?_)
  try simp (disch := omega) only [wr_s, wr_a, wr_k] at r12 ⊢
  refine pw_iconst dX3_push_15 ?_
  refine pw_iadd dX3_push_16 ?_
  refine pw_bipush dX3_push_17 (by decide) ?_
  refine pw_icmp_ge 31 (by decide) dX3_push_19 (by omega) (by omega) (fun c19 => ?_) (fun c19 => ?_)
  · skip
    refine pw_iconst dX3_push_31 ?_
    refine pw_pI 1 1 rfl dX3_push_32 cOk3 (by assumption) (by decide) kw_179 rfl rfl (by decide) (by omega) ?_
    refine pw_aload_n 0 rfl dX3_push_35 rfl ?_
    refine pw_aload_n 0 rfl dX3_push_36 rfl ?_
    refine pw_gI 2 2 rfl dX3_push_37 cOk3 (by assumption) (by decide) kw_180 (by decide) (fun r37 => ?_)
    try simp (disch := omega) only [wr_s, wr_a, wr_k] at r37 ⊢
    refine pw_iconst dX3_push_40 ?_
    refine pw_iadd dX3_push_41 ?_
    refine pw_bipush dX3_push_42 (by decide) ?_
    refine pw_min dX3_push_44 kw_812 kw_813 kw_87 kw_814 (Nat.le_of_ble_eq_true rfl) (by omega) (by omega) (by omega) ?_
    refine pw_pI 2 2 rfl dX3_push_47 cOk3 (by assumption) (by decide) kw_180 rfl rfl (by decide) (by split <;> omega) ?_
    refine pw_vret dX3_push_50 rfl rfl ?_
    refine ⟨rfl, rfl, ?_⟩
    simp only [kpPush, kpNext, kpHeld, c19, if_true, if_false]
  · skip
    refine pw_aload_n 0 rfl dX3_push_22 rfl ?_
    refine pw_gI 1 1 rfl dX3_push_23 cOk3 (by assumption) (by decide) kw_179 (by decide) (fun r23 => ?_)
    try simp (disch := omega) only [wr_s, wr_a, wr_k] at r23 ⊢
    refine pw_iconst dX3_push_26 ?_
    refine pw_iadd dX3_push_27 ?_
    refine pw_goto 32 (by decide) dX3_push_28 ?_
    refine pw_pI 1 1 rfl dX3_push_32 cOk3 (by assumption) (by decide) kw_179 rfl rfl (by decide) (by omega) ?_
    refine pw_aload_n 0 rfl dX3_push_35 rfl ?_
    refine pw_aload_n 0 rfl dX3_push_36 rfl ?_
    refine pw_gI 2 2 rfl dX3_push_37 cOk3 (by assumption) (by decide) kw_180 (by decide) (fun r37 => ?_)
    try simp (disch := omega) only [wr_s, wr_a, wr_k] at r37 ⊢
    refine pw_iconst dX3_push_40 ?_
    refine pw_iadd dX3_push_41 ?_
    refine pw_bipush dX3_push_42 (by decide) ?_
    refine pw_min dX3_push_44 kw_812 kw_813 kw_87 kw_814 (Nat.le_of_ble_eq_true rfl) (by omega) (by omega) (by omega) ?_
    refine pw_pI 2 2 rfl dX3_push_47 cOk3 (by assumption) (by decide) kw_180 rfl rfl (by decide) (by split <;> omega) ?_
    refine pw_vret dX3_push_50 rfl rfl ?_
    refine ⟨rfl, rfl, ?_⟩
    simp only [kpPush, kpNext, kpHeld, c19, if_true, if_false]
set_option maxHeartbeats 4000000 in
set_option maxRecDepth 100000 in
theorem c_Kept_letGo (d : Nat) (hd : 1 ≤ d) (n : Nat) (ok : pO) (mem : pM) (b : Nat) (hK : Of n ok 3 b) (hA : Ar n (b + 1) 30) : PM mi_X3_letGo d [vr b] n ok mem n (fun r ok' mem' => r = none ∧ ok = ok' ∧ wr mem b 2 0 = mem') := by
  refine PM.of (by decide) (by decide) (Nat.le_refl _) (Nat.le_of_ble_eq_true rfl) ?_
  refine pw_aload_n 0 rfl dX3_letGo_0 rfl ?_
  refine pw_iconst dX3_letGo_1 ?_
  refine pw_pI 2 2 rfl dX3_letGo_2 cOk3 (by assumption) (by decide) kw_180 rfl rfl (by decide) (by omega) ?_
  refine pw_vret dX3_letGo_5 rfl rfl ?_
  exact ⟨rfl, rfl, rfl⟩
