/-! ===== holds; moves are done; what is kept ===== -/
def rHolds (m : pM) (c k z : Int) : Int × pM := if ¬ ((0 ≤ c ∧ c ≤ 2) ∧ 0 ≤ k ∧ k < m 94 c) then rRef m (-2)
  else if hMet m c (aAt m c) k ≠ 0 then rMet (wr (wr m 88 3 0) 88 23 (hMet m c (aAt m c) k)) (hMet m c (aAt m c) k) else rSay (wr (wr m 88 3 0) 88 23 (hMet m c (aAt m c) k)) (hIs m c (aAt m c) k)
theorem rWr_q {m : pM} (h : m 88 3 ≠ 0) (l : List Int) : rWr m l = m := by
  induction l with
  | nil => rfl
  | cons x l ih =>
    have e : rWrites m x = m := by unfold rWrites; rw [if_neg h]
    show rWr (rWrites m x) l = m
    rw [e]; exact ih
theorem rEv_q {m : pM} (h : m 88 3 ≠ 0) (l : pEv) : rEv m l = m := by
  induction l with
  | nil => rfl
  | cons q l ih =>
    obtain ⟨t, x⟩ := q
    cases t
    · have e : rNotes m x = m := by unfold rNotes; rw [if_neg h]
      show rEv (rNotes m x) l = m
      rw [e]; exact ih
    · have e : rWrites m x = m := by unfold rWrites; rw [if_neg h]
      show rEv (rWrites m x) l = m
      rw [e]; exact ih
theorem wr_c (m : pM) (a : Nat) {k j : Int} (x y : Int) (h : j ≠ k) : wr (wr m a k x) a j y = wr (wr m a j y) a k x := by
  funext b i; unfold wr
  by_cases e1 : b = a ∧ i = j
  · rw [if_pos e1, if_neg (fun z => h (e1.2.symm.trans z.2)), if_pos e1]
  · rw [if_neg e1]
    by_cases e2 : b = a ∧ i = k
    · rw [if_pos e2, if_pos e2]
    · rw [if_neg e2, if_neg e2, if_neg e1]
set_option maxHeartbeats 4000000 in
set_option maxRecDepth 100000 in
theorem r_holds (d : Nat) (hd : 3 ≤ d) (n : Nat) (ok : pO) (mem : pM) (hU : RefUp n ok) (c k : Int) (hc : -2147483648 ≤ c ∧ c ≤ 2147483647) (hk : -2147483648 ≤ k ∧ k ≤ 2147483647) (hI : ROk mem) (hn : ∀ c, 0 ≤ c → c ≤ 2 → 0 ≤ mem 94 c ∧ mem 94 c ≤ 40) (hq0 : mem 88 3 = 0) (ht : 0 ≤ mem 88 19 ∧ mem 88 19 ≤ 900000000) : PM mi_X10_holds d [vr 88, vi c, vi k] n ok mem n (fun r ok' mem' => r = some (vi (rHolds mem c k 0).1) ∧ ok = ok' ∧ (rHolds mem c k 0).2 = mem') := by
  obtain ⟨hO, ⟨a89, a90, a91, a92, a93, a94, a95, a96, a97, a98⟩, ⟨a99, a100, a101, a102, a103, a104, a105, a106, a107⟩, ⟨a108, a109, a110, a111, a112, a113, a114, a115, a116, a117, a118, a119⟩, a120, a121, a122⟩ := id hU
  refine PM.of (by decide) (by decide) (Nat.le_refl _) (Nat.le_of_ble_eq_true rfl) ?_
  refine pw_aload_n 0 rfl dX10_holds_0 rfl ?_
  refine pw_iload_n 1 rfl dX10_holds_1 rfl ?_
  refine pw_iload_n 2 rfl dX10_holds_2 rfl ?_
  refine pw_callV (d' := d - 1) (As := [_, _]) (ci := 10) dX10_holds_3 ok_X10_isCondition kw_1312 rfl rfl (Of.o (by assumption)) (by omega) rfl (Nat.le_of_ble_eq_true rfl) (r_isCondition (d - 1) (by omega) n ok _ hU _ _ (by omega) (by omega) hn) (Nat.le_refl _) (Or.inl rfl) (fun r ok1 mem1 hq => ?_)
  obtain ⟨rfl, rfl, rfl⟩ := hq
  refine pw_if_ne 16 (by decide) dX10_holds_6 (by split <;> omega) (fun c6 => ?_) (fun c6 => ?_)
  · skip
    rw [ne_eq, bz_n] at c6
    have hn9 := hn c (by omega) (by omega)
    have hc9 := hI c (by omega) (by omega)
    have hcn := hc9.1.2.1 k (by omega) (show k < mem 94 c by omega)
    refine pw_aload_n 0 rfl dX10_holds_16 rfl ?_
    refine pw_iconst dX10_holds_17 ?_
    refine pw_pZ 3 3 rfl dX10_holds_18 cOk10 (by assumption) (by decide) kw_1068 rfl rfl (by decide) (by omega) ?_
    obtain ⟨m0, em0⟩ : ∃ m0, m0 = wr mem 88 3 1 := ⟨_, rfl⟩
    rw [← em0]
    have s0 : sSame mem m0 := by rw [em0]; exact fun a q1 q2 q3 => wr_a _ _ _ (by omega)
    have q92 : m0 92 = mem 92 := by rw [em0]; exact wr_a _ _ _ (by omega)
    have qA : aAt m0 c = aAt mem c := by funext s; show m0 92 _ = mem 92 _; rw [q92]
    have hc0 := cOkR_s s0 q92 hc9
    have t0 : m0 88 19 = mem 88 19 := by rw [em0]; exact wr_k _ _ _ _ (by omega)
    have hmr := hMet_ran mem c (aAt mem c) k
    have h01 := hIs_01 mem c (aAt mem c) k
    refine pw_aload_n 0 rfl dX10_holds_21 rfl ?_
    refine pw_iload_n 1 rfl dX10_holds_22 rfl ?_
    refine pw_iload_n 2 rfl dX10_holds_23 rfl ?_
    refine pw_callV (d' := d - 1) (As := [_, _]) (ci := 10) dX10_holds_24 ok_X10_holding kw_1378 rfl rfl (Of.o (by assumption)) (by omega) rfl (Nat.le_of_ble_eq_true rfl) (r_holding (d - 1) (by omega) n ok m0 hU c k (by omega) (by omega) (by show 0 ≤ m0 96 _ ∧ m0 96 _ ≤ 15; rw [s0.look]; exact hcn.2.1) (by show -1 ≤ m0 97 _ ∧ m0 97 _ ≤ 6; rw [s0.many]; exact hcn.2.2) hc0.1.2.2 hc0.2.1 (by omega)) (Nat.le_refl _) (Or.inl rfl) (fun r ok1 m1 hq => ?_)
    obtain ⟨rfl, rfl, em⟩ := hq
    rw [qA, hIs_s s0]
    rw [qA, hMet_s s0, rWr_q (by rw [em0, wr_s]; omega)] at em
    have eF : wr m1 88 3 0 = wr (wr mem 88 3 0) 88 23 (hMet mem c (aAt mem c) k) := by rw [← em, em0, wr_c _ _ _ _ (by omega), wr_wr]
    refine pw_istore_n 3 rfl dX10_holds_27 (by decide) ?_
    refine pw_aload_n 0 rfl dX10_holds_28 rfl ?_
    refine pw_iconst dX10_holds_29 ?_
    refine pw_pZ 3 3 rfl dX10_holds_30 cOk10 (by assumption) (by decide) kw_1068 rfl rfl (by decide) (by omega) ?_
    rw [eF]
    refine pw_aload_n 0 rfl dX10_holds_33 rfl ?_
    refine pw_gI 23 23 rfl dX10_holds_34 cOk10 (by assumption) (by decide) kw_1088 (by decide) (fun r34 => ?_)
    try simp (disch := omega) only [wr_s, wr_a, wr_k] at r34 ⊢
    refine pw_if_eq 51 (by decide) dX10_holds_37 (by omega) (fun c37 => ?_) (fun c37 => ?_)
    · skip
      refine pw_aload_n 0 rfl dX10_holds_51 rfl ?_
      refine pw_iload_n 3 rfl dX10_holds_52 rfl ?_
      refine pw_if_eq 60 (by decide) dX10_holds_53 (by omega) (fun c53 => ?_) (fun c53 => ?_)
      · skip
        refine pw_iconst dX10_holds_60 ?_
        refine pw_callV (d' := d - 1) (As := [_]) (ci := 10) dX10_holds_61 ok_X10_says kw_1265 rfl rfl (Of.o (by assumption)) (by omega) rfl (Nat.le_of_ble_eq_true rfl) (r_says (d - 1) (by omega) n ok _ hU _) (Nat.le_refl _) (Or.inl rfl) (fun r ok1 mem1 hq => ?_)
        obtain ⟨rfl, rfl, rfl⟩ := hq
        refine pw_iret dX10_holds_64 rfl rfl ?_
        unfold rHolds; rw [if_neg (by omega)]; (repeat' split) <;> first | exact ⟨rfl, rfl, rfl⟩ | (exfalso; omega) | exact ⟨congrArg (fun z => some (vi z)) (by show _ = hIs mem c (aAt mem c) k; omega), rfl, rfl⟩
      · skip
        refine pw_iconst dX10_holds_56 ?_
        refine pw_goto 61 (by decide) dX10_holds_57 ?_
        refine pw_callV (d' := d - 1) (As := [_]) (ci := 10) dX10_holds_61 ok_X10_says kw_1265 rfl rfl (Of.o (by assumption)) (by omega) rfl (Nat.le_of_ble_eq_true rfl) (r_says (d - 1) (by omega) n ok _ hU _) (Nat.le_refl _) (Or.inl rfl) (fun r ok1 mem1 hq => ?_)
        obtain ⟨rfl, rfl, rfl⟩ := hq
        refine pw_iret dX10_holds_64 rfl rfl ?_
        unfold rHolds; rw [if_neg (by omega)]; (repeat' split) <;> first | exact ⟨rfl, rfl, rfl⟩ | (exfalso; omega) | exact ⟨congrArg (fun z => some (vi z)) (by show _ = hIs mem c (aAt mem c) k; omega), rfl, rfl⟩
    · skip
      refine pw_aload_n 0 rfl dX10_holds_40 rfl ?_
      refine pw_aload_n 0 rfl dX10_holds_41 rfl ?_
      refine pw_gI 23 23 rfl dX10_holds_42 cOk10 (by assumption) (by decide) kw_1088 (by decide) (fun r42 => ?_)
      try simp (disch := omega) only [wr_s, wr_a, wr_k] at r42 ⊢
      refine pw_callV (d' := d - 1) (As := [_]) (ci := 10) dX10_holds_45 ok_X10_meets kw_1253 rfl rfl (Of.o (by assumption)) (by omega) rfl (Nat.le_of_ble_eq_true rfl) (r_meets (d - 1) (by omega) n ok _ hU _ (by omega)) (Nat.le_refl _) (Or.inl rfl) (fun r ok1 mem1 hq => ?_)
      obtain ⟨rfl, rfl, rfl⟩ := hq
      refine pw_goto 64 (by decide) dX10_holds_48 ?_
      refine pw_iret dX10_holds_64 rfl rfl ?_
      unfold rHolds; rw [if_neg (by omega)]; (repeat' split) <;> first | exact ⟨rfl, rfl, rfl⟩ | (exfalso; omega) | exact ⟨congrArg (fun z => some (vi z)) (by show _ = hIs mem c (aAt mem c) k; omega), rfl, rfl⟩
  · skip
    rw [bz_0] at c6
    refine pw_aload_n 0 rfl dX10_holds_9 rfl ?_
    refine pw_bipush dX10_holds_10 (by decide) ?_
    refine pw_callV (d' := d - 1) (As := [_]) (ci := 10) dX10_holds_12 ok_X10_refuses kw_1249 rfl rfl (Of.o (by assumption)) (by omega) rfl (Nat.le_of_ble_eq_true rfl) (r_refuses (d - 1) (by omega) n ok _ hU _ (by omega)) (Nat.le_refl _) (Or.inl rfl) (fun r ok1 mem1 hq => ?_)
    obtain ⟨rfl, rfl, rfl⟩ := hq
    refine pw_iret dX10_holds_15 rfl rfl ?_
    unfold rHolds; (repeat' split) <;> first | exact ⟨rfl, rfl, rfl⟩ | (exfalso; omega)
noncomputable def dRes (m : pM) (c mv : Int) (v : Int → Int) : (Int → Int) × pEv := if mv < 32 then (vUp v (mv / 2) ((v (mv / 2) + (if mv % 2 = 0 then aSpan m c (mv / 2) - 1 else 1)) % aSpan m c (mv / 2)), []) else tGo m c (mv - 32) 16 v
set_option maxHeartbeats 4000000 in
set_option maxRecDepth 100000 in
theorem r_does (d : Nat) (hd : 5 ≤ d) (n : Nat) (ok : pO) (mem : pM) (hU : RefUp n ok) (c mv : Int) (hc : 0 ≤ c ∧ c ≤ 2) (hm : 0 ≤ mv ∧ mv < 38) (hs : cOkR mem c) (hkn : mv < 32 → aKind mem c (mv / 2) ≠ -1) (ht : 0 ≤ mem 88 19 ∧ mem 88 19 ≤ 800000000) : PM mi_X10_does d [vr 88, vi c, vi mv] n ok mem n (fun r ok' mem' => ∃ z : Int, r = none ∧ ok = ok' ∧ vMem mem mem' c (dRes mem c mv (aAt mem c)).1 (dRes mem c mv (aAt mem c)).2 z) := by
  obtain ⟨hO, ⟨a89, a90, a91, a92, a93, a94, a95, a96, a97, a98⟩, ⟨a99, a100, a101, a102, a103, a104, a105, a106, a107⟩, ⟨a108, a109, a110, a111, a112, a113, a114, a115, a116, a117, a118, a119⟩, a120, a121, a122⟩ := id hU
  refine PM.of (by decide) (by decide) (Nat.le_refl _) (Nat.le_of_ble_eq_true rfl) ?_
  refine pw_iload_n 2 rfl dX10_does_0 rfl ?_
  refine pw_bipush dX10_does_1 (by decide) ?_
  refine pw_icmp_lt 16 (by decide) dX10_does_3 (by omega) (by omega) (fun c3 => ?_) (fun c3 => ?_)
  · skip
    have hkn9 := hkn (by omega)
    have hpp : 1 ≤ mem 91 (16 * c + mv / 2) ∧ mem 91 (16 * c + mv / 2) ≤ 6 := hs.1.2.2 (mv / 2) (by omega) (by omega) hkn9
    have hvv : 0 ≤ mem 92 (16 * c + mv / 2) ∧ mem 92 (16 * c + mv / 2) < mem 91 (16 * c + mv / 2) := hs.2.1 (mv / 2) (by omega) (by omega) hkn9
    refine pw_bipush dX10_does_16 (by decide) ?_
    refine pw_iload_n 1 rfl dX10_does_18 rfl ?_
    refine pw_imul dX10_does_19 ?_
    refine pw_iload_n 2 rfl dX10_does_20 rfl ?_
    refine pw_iconst dX10_does_21 ?_
    refine pw_idiv dX10_does_22 (by omega) (by omega) ?_
    refine pw_iadd dX10_does_23 ?_
    refine pw_istore_n 3 rfl dX10_does_24 (by decide) ?_
    refine pw_aload_n 0 rfl dX10_does_25 rfl ?_
    refine pw_gR 7 92 dX10_does_26 cOk10 (by assumption) (by decide) kw_1072 (by decide) rfl ?_
    refine pw_iload_n 3 rfl dX10_does_29 rfl ?_
    refine pw_aload_n 0 rfl dX10_does_30 rfl ?_
    refine pw_gR 7 92 dX10_does_31 cOk10 (by assumption) (by decide) kw_1072 (by decide) rfl ?_
    refine pw_iload_n 3 rfl dX10_does_34 rfl ?_
    refine pw_iaload dX10_does_35 (by assumption) (by omega) (by omega) (fun r35 => ?_)
    refine pw_iload_n 2 rfl dX10_does_36 rfl ?_
    refine pw_iconst dX10_does_37 ?_
    refine pw_irem dX10_does_38 (by omega) (by omega) ?_
    refine pw_if_ne 53 (by decide) dX10_does_39 (by omega) (fun c39 => ?_) (fun c39 => ?_)
    · skip
      refine pw_iconst dX10_does_53 ?_
      refine pw_iadd dX10_does_54 ?_
      refine pw_aload_n 0 rfl dX10_does_55 rfl ?_
      refine pw_gR 6 91 dX10_does_56 cOk10 (by assumption) (by decide) kw_1071 (by decide) rfl ?_
      refine pw_iload_n 3 rfl dX10_does_59 rfl ?_
      refine pw_iaload dX10_does_60 (by assumption) (by omega) (by omega) (fun r60 => ?_)
      refine pw_irem dX10_does_61 (by omega) (by omega) ?_
      refine pw_iastore dX10_does_62 (by assumption) (by omega) (by omega) (by have h1 := fun q => Int.emod_nonneg q (show mem 91 (16 * c + mv / 2) ≠ 0 by omega); have h2 := fun q => Int.emod_lt_of_pos q (show 0 < mem 91 (16 * c + mv / 2) by omega); exact ⟨Int.le_trans (by omega) (h1 _), Int.le_trans (Int.le_of_lt (h2 _)) (by omega)⟩) ?_
      refine pw_vret dX10_does_63 rfl rfl ?_
      refine ⟨mem 88 23, rfl, rfl, ?_⟩
      unfold dRes; rw [if_pos (by omega)]
      have h9 := (vMem.rf mem c).put (s := mv / 2) ((aAt mem c (mv / 2) + (if mv % 2 = 0 then aSpan mem c (mv / 2) - 1 else 1)) % aSpan mem c (mv / 2)) (by omega) (by omega)
      first | rw [if_neg c39] at h9 ⊢ | rw [if_pos c39] at h9 ⊢
      exact h9
    · skip
      refine pw_aload_n 0 rfl dX10_does_42 rfl ?_
      refine pw_gR 6 91 dX10_does_43 cOk10 (by assumption) (by decide) kw_1071 (by decide) rfl ?_
      refine pw_iload_n 3 rfl dX10_does_46 rfl ?_
      refine pw_iaload dX10_does_47 (by assumption) (by omega) (by omega) (fun r47 => ?_)
      refine pw_iconst dX10_does_48 ?_
      refine pw_isub dX10_does_49 ?_
      refine pw_goto 54 (by decide) dX10_does_50 ?_
      refine pw_iadd dX10_does_54 ?_
      refine pw_aload_n 0 rfl dX10_does_55 rfl ?_
      refine pw_gR 6 91 dX10_does_56 cOk10 (by assumption) (by decide) kw_1071 (by decide) rfl ?_
      refine pw_iload_n 3 rfl dX10_does_59 rfl ?_
      refine pw_iaload dX10_does_60 (by assumption) (by omega) (by omega) (fun r60 => ?_)
      refine pw_irem dX10_does_61 (by omega) (by omega) ?_
      refine pw_iastore dX10_does_62 (by assumption) (by omega) (by omega) (by have h1 := fun q => Int.emod_nonneg q (show mem 91 (16 * c + mv / 2) ≠ 0 by omega); have h2 := fun q => Int.emod_lt_of_pos q (show 0 < mem 91 (16 * c + mv / 2) by omega); exact ⟨Int.le_trans (by omega) (h1 _), Int.le_trans (Int.le_of_lt (h2 _)) (by omega)⟩) ?_
      refine pw_vret dX10_does_63 rfl rfl ?_
      refine ⟨mem 88 23, rfl, rfl, ?_⟩
      unfold dRes; rw [if_pos (by omega)]
      have h9 := (vMem.rf mem c).put (s := mv / 2) ((aAt mem c (mv / 2) + (if mv % 2 = 0 then aSpan mem c (mv / 2) - 1 else 1)) % aSpan mem c (mv / 2)) (by omega) (by omega)
      first | rw [if_neg c39] at h9 ⊢ | rw [if_pos c39] at h9 ⊢
      exact h9
  · skip
    refine pw_aload_n 0 rfl dX10_does_6 rfl ?_
    refine pw_iload_n 1 rfl dX10_does_7 rfl ?_
    refine pw_iload_n 2 rfl dX10_does_8 rfl ?_
    refine pw_bipush dX10_does_9 (by decide) ?_
    refine pw_isub dX10_does_11 ?_
    refine pw_callV (d' := d - 1) (As := [_, _]) (ci := 10) dX10_does_12 ok_X10_tilts kw_1410 rfl rfl (Of.o (by assumption)) (by omega) rfl (Nat.le_of_ble_eq_true rfl) (r_tilts (d - 1) (by omega) n ok mem hU c (mv - 32) hc (by omega) hs.1 hs.2.1 ht) (Nat.le_refl _) (Or.inl rfl) (fun r ok1 mem1 hq => ?_)
    obtain ⟨z, rfl, rfl, hM⟩ := hq
    refine pw_vret dX10_does_15 rfl rfl ?_
    exact ⟨z, rfl, rfl, by unfold dRes; rw [if_neg (by omega)]; exact hM⟩
/-- what is kept for back: all move down where 30 are kept -/
def rKeep (m : pM) (c x : Int) : pM := if m 101 c = 30 then wr (wr (wr (cpM m 102 (30 * c + 1) 102 (30 * c) 29) 101 c (m 101 c - 1)) 102 (30 * c + (m 101 c - 1)) x) 101 c (m 101 c - 1 + 1) else wr (wr m 102 (30 * c + m 101 c) x) 101 c (m 101 c + 1)
theorem cpM_0 (m : pM) (a0 : Nat) (sp : Int) (a1 : Nat) (dp : Int) : cpM m a0 sp a1 dp 0 = m := by funext b j; unfold cpM; rw [if_neg (by omega)]
theorem cpM_s (m : pM) (a0 : Nat) (sp : Int) (a1 : Nat) (dp k : Int) (hk : 0 ≤ k) : wr (cpM m a0 sp a1 dp k) a1 (dp + k) (m a0 (sp + k)) = cpM m a0 sp a1 dp (k + 1) := by
  funext b j; unfold wr cpM
  by_cases e : b = a1 ∧ j = dp + k
  · rw [if_pos e, if_pos ⟨e.1, by omega, by omega⟩, e.2, show sp + (dp + k - dp) = sp + k by omega]
  · rw [if_neg e]
    by_cases e2 : b = a1 ∧ dp ≤ j ∧ j < dp + k
    · rw [if_pos e2, if_pos ⟨e2.1, e2.2.1, by omega⟩]
    · rw [if_neg e2, if_neg (fun z => by
        rcases (show j < dp + k ∨ j = dp + k by omega) with q | q
        · exact e2 ⟨z.1, z.2.1, q⟩
        · exact e ⟨z.1, q⟩)]
theorem cpM_a (m : pM) (a0 : Nat) (sp : Int) {a1 b : Nat} (dp k : Int) (h : b ≠ a1) : cpM m a0 sp a1 dp k b = m b := by funext j; unfold cpM; rw [if_neg (fun z => h z.1)]
set_option maxHeartbeats 4000000 in
set_option maxRecDepth 100000 in
theorem r_keeps (d : Nat) (hd : 0 ≤ d) (n : Nat) (ok : pO) (mem : pM) (hU : RefUp n ok) (c x : Int) (hc : 0 ≤ c ∧ c ≤ 2) (hx : -2147483648 ≤ x ∧ x ≤ 2147483647) (hk : 0 ≤ mem 101 c ∧ mem 101 c ≤ 30) : PM mi_X10_keeps d [vr 88, vi c, vi x] n ok mem n (fun r ok' mem' => r = none ∧ ok = ok' ∧ rKeep mem c x = mem') := by
  obtain ⟨hO, ⟨a89, a90, a91, a92, a93, a94, a95, a96, a97, a98⟩, ⟨a99, a100, a101, a102, a103, a104, a105, a106, a107⟩, ⟨a108, a109, a110, a111, a112, a113, a114, a115, a116, a117, a118, a119⟩, a120, a121, a122⟩ := id hU
  refine PM.of (by decide) (by decide) (Nat.le_refl _) (Nat.le_of_ble_eq_true rfl) ?_
  refine pw_aload_n 0 rfl dX10_keeps_0 rfl ?_
  refine pw_gR 16 101 dX10_keeps_1 cOk10 (by assumption) (by decide) kw_1081 (by decide) rfl ?_
  refine pw_iload_n 1 rfl dX10_keeps_4 rfl ?_
  refine pw_iaload dX10_keeps_5 (by assumption) (by omega) (by omega) (fun r5 => ?_)
  refine pw_bipush dX10_keeps_6 (by decide) ?_
  refine pw_icmp_ne 59 (by decide) dX10_keeps_8 (by omega) (by omega) (fun c8 => ?_) (fun c8 => ?_)
  · skip
    refine pw_aload_n 0 rfl dX10_keeps_59 rfl ?_
    refine pw_gR 17 102 dX10_keeps_60 cOk10 (by assumption) (by decide) kw_1082 (by decide) rfl ?_
    refine pw_bipush dX10_keeps_63 (by decide) ?_
    refine pw_iload_n 1 rfl dX10_keeps_65 rfl ?_
    refine pw_imul dX10_keeps_66 ?_
    refine pw_aload_n 0 rfl dX10_keeps_67 rfl ?_
    refine pw_gR 16 101 dX10_keeps_68 cOk10 (by assumption) (by decide) kw_1081 (by decide) rfl ?_
    refine pw_iload_n 1 rfl dX10_keeps_71 rfl ?_
    refine pw_iaload dX10_keeps_72 (by assumption) (by omega) (by omega) (fun r72 => ?_)
    refine pw_iadd dX10_keeps_73 ?_
    refine pw_iload_n 2 rfl dX10_keeps_74 rfl ?_
    refine pw_iastore dX10_keeps_75 (by assumption) (by omega) (by omega) (by omega) ?_
    refine pw_aload_n 0 rfl dX10_keeps_76 rfl ?_
    refine pw_gR 16 101 dX10_keeps_77 cOk10 (by assumption) (by decide) kw_1081 (by decide) rfl ?_
    refine pw_iload_n 1 rfl dX10_keeps_80 rfl ?_
    refine pw_dup2 dX10_keeps_81 rfl rfl ?_
    refine pw_iaload dX10_keeps_82 (by assumption) (by omega) (by omega) (fun r82 => ?_)
    try simp (disch := omega) only [wr_s, wr_a, wr_k] at r82 ⊢
    refine pw_iconst dX10_keeps_83 ?_
    refine pw_iadd dX10_keeps_84 ?_
    refine pw_iastore dX10_keeps_85 (by assumption) (by omega) (by omega) (by omega) ?_
    refine pw_vret dX10_keeps_86 rfl rfl ?_
    refine ⟨rfl, rfl, ?_⟩
    unfold rKeep; rw [if_neg c8]
  · skip
    refine pw_iconst dX10_keeps_11 ?_
    refine pw_istore_n 3 rfl dX10_keeps_12 (by decide) ?_
    have lp13 : ∀ (kz : Nat) (i : Nat) (m1 : pM), 30 - (i : Int) < (kz : Int) → (1 ≤ i) → (i ≤ 30) → (cpM mem 102 (30 * c + 1) 102 (30 * c) ((i : Int) - 1) = m1) → PW mi_X10_keeps d n n (fun r ok' mem' => r = none ∧ ok = ok' ∧ rKeep mem c x = mem') 13 [(0, vr 88), (1, vi c), (2, vi x), (3, vi (i : Int))] [] n ok m1 := by
      intro kz
      induction kz with
      | zero =>
        intro i m1 hk h0 h1 h2
        exact absurd hk (by omega)
      | succ kz ih =>
        intro i m1 hk h0 h1 h2
        have q101 : m1 101 = mem 101 := by rw [← h2]; exact cpM_a _ _ _ _ _ (by omega)
        refine pw_iload_n 3 rfl dX10_keeps_13 rfl ?_
        refine pw_bipush dX10_keeps_14 (by decide) ?_
        refine pw_icmp_ge 49 (by decide) dX10_keeps_16 (by omega) (by omega) (fun c16 => ?_) (fun c16 => ?_)
        · skip
          have e30 : i = 30 := by omega
          subst e30
          refine pw_aload_n 0 rfl dX10_keeps_49 rfl ?_
          refine pw_gR 16 101 dX10_keeps_50 cOk10 (by assumption) (by decide) kw_1081 (by decide) rfl ?_
          refine pw_iload_n 1 rfl dX10_keeps_53 rfl ?_
          refine pw_dup2 dX10_keeps_54 rfl rfl ?_
          refine pw_iaload dX10_keeps_55 (by assumption) (by omega) (by omega) (fun r55 => ?_)
          try simp (disch := omega) only [wr_s, wr_a, wr_k] at r55 ⊢
          rw [q101] at r55 ⊢
          refine pw_iconst dX10_keeps_56 ?_
          refine pw_isub dX10_keeps_57 ?_
          refine pw_iastore dX10_keeps_58 (by assumption) (by omega) (by omega) (by omega) ?_
          refine pw_aload_n 0 rfl dX10_keeps_59 rfl ?_
          refine pw_gR 17 102 dX10_keeps_60 cOk10 (by assumption) (by decide) kw_1082 (by decide) rfl ?_
          refine pw_bipush dX10_keeps_63 (by decide) ?_
          refine pw_iload_n 1 rfl dX10_keeps_65 rfl ?_
          refine pw_imul dX10_keeps_66 ?_
          refine pw_aload_n 0 rfl dX10_keeps_67 rfl ?_
          refine pw_gR 16 101 dX10_keeps_68 cOk10 (by assumption) (by decide) kw_1081 (by decide) rfl ?_
          refine pw_iload_n 1 rfl dX10_keeps_71 rfl ?_
          refine pw_iaload dX10_keeps_72 (by assumption) (by omega) (by omega) (fun r72 => ?_)
          try simp (disch := omega) only [wr_s, wr_a, wr_k] at r72 ⊢
          refine pw_iadd dX10_keeps_73 ?_
          refine pw_iload_n 2 rfl dX10_keeps_74 rfl ?_
          refine pw_iastore dX10_keeps_75 (by assumption) (by omega) (by omega) (by omega) ?_
          refine pw_aload_n 0 rfl dX10_keeps_76 rfl ?_
          refine pw_gR 16 101 dX10_keeps_77 cOk10 (by assumption) (by decide) kw_1081 (by decide) rfl ?_
          refine pw_iload_n 1 rfl dX10_keeps_80 rfl ?_
          refine pw_dup2 dX10_keeps_81 rfl rfl ?_
          refine pw_iaload dX10_keeps_82 (by assumption) (by omega) (by omega) (fun r82 => ?_)
          try simp (disch := omega) only [wr_s, wr_a, wr_k] at r82 ⊢
          refine pw_iconst dX10_keeps_83 ?_
          refine pw_iadd dX10_keeps_84 ?_
          refine pw_iastore dX10_keeps_85 (by assumption) (by omega) (by omega) (by omega) ?_
          refine pw_vret dX10_keeps_86 rfl rfl ?_
          refine ⟨rfl, rfl, ?_⟩
          unfold rKeep; rw [if_pos c8, ← h2]
          rfl
        · skip
          refine pw_aload_n 0 rfl dX10_keeps_19 rfl ?_
          refine pw_gR 17 102 dX10_keeps_20 cOk10 (by assumption) (by decide) kw_1082 (by decide) rfl ?_
          refine pw_bipush dX10_keeps_23 (by decide) ?_
          refine pw_iload_n 1 rfl dX10_keeps_25 rfl ?_
          refine pw_imul dX10_keeps_26 ?_
          refine pw_iload_n 3 rfl dX10_keeps_27 rfl ?_
          refine pw_iadd dX10_keeps_28 ?_
          refine pw_iconst dX10_keeps_29 ?_
          refine pw_isub dX10_keeps_30 ?_
          refine pw_aload_n 0 rfl dX10_keeps_31 rfl ?_
          refine pw_gR 17 102 dX10_keeps_32 cOk10 (by assumption) (by decide) kw_1082 (by decide) rfl ?_
          refine pw_bipush dX10_keeps_35 (by decide) ?_
          refine pw_iload_n 1 rfl dX10_keeps_37 rfl ?_
          refine pw_imul dX10_keeps_38 ?_
          refine pw_iload_n 3 rfl dX10_keeps_39 rfl ?_
          refine pw_iadd dX10_keeps_40 ?_
          refine pw_iaload dX10_keeps_41 (by assumption) (by omega) (by omega) (fun r41 => ?_)
          try simp (disch := omega) only [wr_s, wr_a, wr_k] at r41 ⊢
          have q9 : m1 102 (30 * c + (i : Int)) = mem 102 (30 * c + 1 + ((i : Int) - 1)) := by rw [← h2]; unfold cpM; rw [if_neg (by omega), show 30 * c + 1 + ((i : Int) - 1) = 30 * c + (i : Int) by omega]
          rw [q9] at r41 ⊢
          have e9 : 30 * c + (i : Int) - 1 = 30 * c + ((i : Int) - 1) := by omega
          rw [e9]
          refine pw_iastore dX10_keeps_42 (by assumption) (by omega) (by omega) (by omega) ?_
          refine pw_iinc dX10_keeps_43 rfl (by decide) ?_
          refine pw_goto 13 (by decide) dX10_keeps_46 ?_
          exact pw_locs _ rfl (ih (i + 1) _ (by omega) (by omega) (by omega) (by rw [← h2, cpM_s _ _ _ _ _ _ (by omega)]; congr 1; omega))
    exact pw_locs _ rfl (lp13 30 1 mem (by omega) (by omega) (by omega) (cpM_0 _ _ _ _ _))
