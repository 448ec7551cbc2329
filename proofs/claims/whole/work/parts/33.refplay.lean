/-! ===== plays ===== -/
def rKeepAll (m : pM) (c : Int) : Nat → pM
  | 0 => m
  | k + 1 => rKeep (rKeepAll m c k) c (m 107 k)
theorem rKeep_a {m : pM} {c x : Int} {a : Nat} (h1 : a ≠ 101) (h2 : a ≠ 102) : rKeep m c x a = m a := by
  unfold rKeep; split
  · rw [wr_a _ _ _ h1, wr_a _ _ _ h2, wr_a _ _ _ h1, cpM_a _ _ _ _ _ h2]
  · rw [wr_a _ _ _ h1, wr_a _ _ _ h2]
theorem rKeepAll_a {m : pM} {c : Int} {a : Nat} (h1 : a ≠ 101) (h2 : a ≠ 102) (k : Nat) : rKeepAll m c k a = m a := by
  induction k with
  | zero => rfl
  | succ k ih => show rKeep (rKeepAll m c k) c (m 107 k) a = m a; rw [rKeep_a h1 h2, ih]
theorem rKeep_n {m : pM} {c x : Int} (h : 0 ≤ m 101 c ∧ m 101 c ≤ 30) : 0 ≤ rKeep m c x 101 c ∧ rKeep m c x 101 c ≤ 30 := by
  unfold rKeep; split
  · rw [wr_s]; omega
  · rw [wr_s]; omega
theorem rKeepAll_n {m : pM} {c : Int} (h : 0 ≤ m 101 c ∧ m 101 c ≤ 30) (k : Nat) : 0 ≤ rKeepAll m c k 101 c ∧ rKeepAll m c k 101 c ≤ 30 := by
  induction k with
  | zero => exact h
  | succ k ih => exact rKeep_n ih
set_option maxHeartbeats 4000000 in
set_option maxRecDepth 100000 in
theorem r_keepAll (d : Nat) (hd : 1 ≤ d) (n : Nat) (ok : pO) (mem : pM) (hU : RefUp n ok) (c : Int) (k : Nat) (hc : 0 ≤ c ∧ c ≤ 2) (hk40 : k ≤ 40) (hkm : 0 ≤ mem 101 c ∧ mem 101 c ≤ 30) : PM mi_X10_keepAll d [vr 88, vi c, vi (k : Int)] n ok mem n (fun r ok' mem' => r = none ∧ ok = ok' ∧ rKeepAll mem c k = mem') := by
  obtain ⟨hO, ⟨a89, a90, a91, a92, a93, a94, a95, a96, a97, a98⟩, ⟨a99, a100, a101, a102, a103, a104, a105, a106, a107⟩, ⟨a108, a109, a110, a111, a112, a113, a114, a115, a116, a117, a118, a119⟩, a120, a121, a122⟩ := id hU
  refine PM.of (by decide) (by decide) (Nat.le_refl _) (Nat.le_of_ble_eq_true rfl) ?_
  refine pw_iconst dX10_keepAll_0 ?_
  refine pw_istore_n 3 rfl dX10_keepAll_1 (by decide) ?_
  have lp2 : ∀ (kz : Nat) (i : Nat) (m1 : pM), (k : Int) - (i : Int) < (kz : Int) → (i ≤ k) → (rKeepAll mem c i = m1) → PW mi_X10_keepAll d n n (fun r ok' mem' => r = none ∧ ok = ok' ∧ rKeepAll mem c k = mem') 2 [(0, vr 88), (1, vi c), (2, vi (k : Int)), (3, vi (i : Int))] [] n ok m1 := by
    intro kz
    induction kz with
    | zero =>
      intro i m1 hk h1 h2
      exact absurd hk (by omega)
    | succ kz ih =>
      intro i m1 hk h1 h2
      have q107 : m1 107 = mem 107 := by rw [← h2]; exact rKeepAll_a (by omega) (by omega) i
      have q101 := rKeepAll_n hkm i
      rw [h2] at q101
      refine pw_iload_n 3 rfl dX10_keepAll_2 rfl ?_
      refine pw_iload_n 2 rfl dX10_keepAll_3 rfl ?_
      refine pw_icmp_ge 24 (by decide) dX10_keepAll_4 (by omega) (by omega) (fun c4 => ?_) (fun c4 => ?_)
      · skip
        refine pw_vret dX10_keepAll_24 rfl rfl ?_
        have e9 : i = k := by omega
        subst e9
        exact ⟨rfl, rfl, h2⟩
      · skip
        refine pw_aload_n 0 rfl dX10_keepAll_7 rfl ?_
        refine pw_iload_n 1 rfl dX10_keepAll_8 rfl ?_
        refine pw_aload_n 0 rfl dX10_keepAll_9 rfl ?_
        refine pw_gR 26 107 dX10_keepAll_10 cOk10 (by assumption) (by decide) kw_1091 (by decide) rfl ?_
        refine pw_iload_n 3 rfl dX10_keepAll_13 rfl ?_
        refine pw_iaload dX10_keepAll_14 (by assumption) (by omega) (by omega) (fun r14 => ?_)
        try simp (disch := omega) only [wr_s, wr_a, wr_k] at r14 ⊢
        rw [q107] at r14 ⊢
        refine pw_callV (d' := d - 1) (As := [_, _]) (ci := 10) dX10_keepAll_15 ok_X10_keeps kw_1472 rfl rfl (Of.o (by assumption)) (by omega) rfl (Nat.le_of_ble_eq_true rfl) (r_keeps (d - 1) (by omega) n ok m1 hU c (mem 107 (i : Int)) hc (by omega) q101) (Nat.le_refl _) (Or.inl rfl) (fun r ok1 m2 hq => ?_)
        obtain ⟨rfl, rfl, em⟩ := hq
        refine pw_iinc dX10_keepAll_18 rfl (by decide) ?_
        refine pw_goto 2 (by decide) dX10_keepAll_21 ?_
        exact pw_locs _ rfl (ih (i + 1) _ (by omega) (by omega) (by rw [← em]; show rKeep (rKeepAll mem c i) c (mem 107 i) = _; rw [h2]))
  exact pw_locs _ rfl (lp2 (k + 1) 0 mem (by omega) (by omega) rfl)
