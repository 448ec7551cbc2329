/-! ===== what the reference's state is, by its memory: chest c ===== -/
abbrev aRow (m : pM) (c r : Int) : Int := m 89 (4 * c + r)
abbrev aKind (m : pM) (c s : Int) : Int := m 90 (16 * c + s)
abbrev aSpan (m : pM) (c s : Int) : Int := m 91 (16 * c + s)
abbrev aAt (m : pM) (c s : Int) : Int := m 92 (16 * c + s)
abbrev aSide (m : pM) (c s : Int) : Int := m 93 (16 * c + s)
abbrev aNc (m : pM) (c : Int) : Int := m 94 c
abbrev aSeat (m : pM) (c k : Int) : Int := m 95 (40 * c + k)
abbrev aLook (m : pM) (c k : Int) : Int := m 96 (40 * c + k)
abbrev aMany (m : pM) (c k : Int) : Int := m 97 (40 * c + k)
abbrev aTru (m : pM) (c k i : Int) : Int := m 98 (6 * (40 * c + k) + i)
/-- one comes to a seat: the finding, 0 none -/
def aComes (m : pM) (c s : Int) : Int := if aRow m c (s / 4) = -1 then 1 else if aRow m c (s / 4) ≤ s % 4 then 2 else if aKind m c s = -1 then 1 else 0
/-- the reference's object is there, with all its arrays -/
def RefUp (n : Nat) (ok : pO) : Prop := Of n ok 10 88 ∧ (Ar n 89 12 ∧ Ar n 90 48 ∧ Ar n 91 48 ∧ Ar n 92 48 ∧ Ar n 93 48 ∧ Ar n 94 3 ∧ Ar n 95 120 ∧ Ar n 96 120 ∧ Ar n 97 120 ∧ Ar n 98 720) ∧ (Ar n 99 3 ∧ Ar n 100 3 ∧ Ar n 101 3 ∧ Ar n 102 90 ∧ Ar n 103 60 ∧ Ar n 104 6 ∧ Ar n 105 600 ∧ Ar n 106 40 ∧ Ar n 107 40) ∧ (Ar n 108 1024 ∧ Ar n 109 1024 ∧ Ar n 110 1024 ∧ Az n 111 1024 ∧ Ar n 112 1024 ∧ Ar n 113 1024 ∧ Ar n 114 38912 ∧ Ar n 115 1024 ∧ Ar n 116 1024 ∧ Ar n 117 38912 ∧ Ar n 118 1024 ∧ Az n 119 1024) ∧ (Ar n 120 700 ∧ Ar n 121 700 ∧ Ar n 122 700)
set_option maxHeartbeats 4000000 in
set_option maxRecDepth 100000 in
theorem r_in (d : Nat) (hd : 0 ≤ d) (n : Nat) (ok : pO) (mem : pM) (v lo hi : Int) (h1 : -9223372036854775808 ≤ v ∧ v ≤ 9223372036854775807) (h2 : -9223372036854775808 ≤ lo ∧ lo ≤ 9223372036854775807) (h3 : -9223372036854775808 ≤ hi ∧ hi ≤ 9223372036854775807) : PM mi_X10_in d [vl v, vl lo, vl hi] n ok mem n (fun r ok' mem' => r = some (vi (if lo ≤ v ∧ v ≤ hi then 1 else 0)) ∧ ok = ok' ∧ mem = mem') := by
  refine PM.of (by decide) (by decide) (Nat.le_refl _) (Nat.le_of_ble_eq_true rfl) ?_
  refine pw_lload_n 0 rfl dX10_in_0 rfl ?_
  refine pw_lload_n 2 rfl dX10_in_1 rfl ?_
  refine pw_lcmp dX10_in_2 (by omega) (by omega) ?_
  refine pw_if_lt 17 (by decide) dX10_in_3 (by unfold lCmp; split <;> (try split) <;> omega) (fun c3 => ?_) (fun c3 => ?_)
  · skip
    have e1 : ¬ (lo ≤ v ∧ v ≤ hi) := by unfold lCmp at c3; split at c3 <;> (try split at c3) <;> omega
    refine pw_iconst dX10_in_17 ?_
    refine pw_zret dX10_in_18 rfl (by omega) rfl ?_
    rw [if_neg e1]; exact ⟨rfl, rfl, rfl⟩
  · skip
    have e1 : lo ≤ v := by unfold lCmp at c3; split at c3 <;> (try split at c3) <;> omega
    refine pw_lload_n 0 rfl dX10_in_6 rfl ?_
    refine pw_lload dX10_in_7 rfl ?_
    refine pw_lcmp dX10_in_9 (by omega) (by omega) ?_
    refine pw_if_gt 17 (by decide) dX10_in_10 (by unfold lCmp; split <;> (try split) <;> omega) (fun c10 => ?_) (fun c10 => ?_)
    · skip
      have e1 : ¬ (lo ≤ v ∧ v ≤ hi) := by unfold lCmp at c10; split at c10 <;> (try split at c10) <;> omega
      refine pw_iconst dX10_in_17 ?_
      refine pw_zret dX10_in_18 rfl (by omega) rfl ?_
      rw [if_neg e1]; exact ⟨rfl, rfl, rfl⟩
    · skip
      have e2 : lo ≤ v ∧ v ≤ hi := by unfold lCmp at c10; split at c10 <;> (try split at c10) <;> omega
      refine pw_iconst dX10_in_13 ?_
      refine pw_goto 18 (by decide) dX10_in_14 ?_
      refine pw_zret dX10_in_18 rfl (by omega) rfl ?_
      rw [if_pos e2]; exact ⟨rfl, rfl, rfl⟩
set_option maxHeartbeats 4000000 in
set_option maxRecDepth 100000 in
theorem r_isChest (d : Nat) (hd : 1 ≤ d) (n : Nat) (ok : pO) (mem : pM) (c : Int) (hc : -2147483648 ≤ c ∧ c ≤ 2147483647) : PM mi_X10_isChest d [vi c] n ok mem n (fun r ok' mem' => r = some (vi (if 0 ≤ c ∧ c ≤ 2 then 1 else 0)) ∧ ok = ok' ∧ mem = mem') := by
  refine PM.of (by decide) (by decide) (Nat.le_refl _) (Nat.le_of_ble_eq_true rfl) ?_
  refine pw_iload_n 0 rfl dX10_isChest_0 rfl ?_
  refine pw_i2l dX10_isChest_1 (by omega) ?_
  refine pw_lconst (x := 0) dX10_isChest_2 (by decide) ?_
  refine pw_ldc2 (x := 2) kw_1244 (by decide) dX10_isChest_3 ?_
  refine pw_callS (d' := d - 1) (As := [_, _, _]) dX10_isChest_6 ok_X10_in kw_1245 (by omega) rfl (Nat.le_of_ble_eq_true rfl) (r_in (d - 1) (by omega) n ok mem c 0 2 (by omega) (by omega) (by omega)) (Nat.le_refl _) (Or.inl rfl) (fun r ok1 mem1 hq => ?_)
  obtain ⟨rfl, rfl, rfl⟩ := hq
  refine pw_zret dX10_isChest_9 rfl (by split <;> omega) rfl ?_
  exact ⟨rfl, rfl, rfl⟩
set_option maxHeartbeats 4000000 in
set_option maxRecDepth 100000 in
theorem r_isSeat (d : Nat) (hd : 1 ≤ d) (n : Nat) (ok : pO) (mem : pM) (c : Int) (hc : -2147483648 ≤ c ∧ c ≤ 2147483647) : PM mi_X10_isSeat d [vi c] n ok mem n (fun r ok' mem' => r = some (vi (if 0 ≤ c ∧ c ≤ 15 then 1 else 0)) ∧ ok = ok' ∧ mem = mem') := by
  refine PM.of (by decide) (by decide) (Nat.le_refl _) (Nat.le_of_ble_eq_true rfl) ?_
  refine pw_iload_n 0 rfl dX10_isSeat_0 rfl ?_
  refine pw_i2l dX10_isSeat_1 (by omega) ?_
  refine pw_lconst (x := 0) dX10_isSeat_2 (by decide) ?_
  refine pw_ldc2 (x := 15) kw_1276 (by decide) dX10_isSeat_3 ?_
  refine pw_callS (d' := d - 1) (As := [_, _, _]) dX10_isSeat_6 ok_X10_in kw_1245 (by omega) rfl (Nat.le_of_ble_eq_true rfl) (r_in (d - 1) (by omega) n ok mem c 0 15 (by omega) (by omega) (by omega)) (Nat.le_refl _) (Or.inl rfl) (fun r ok1 mem1 hq => ?_)
  obtain ⟨rfl, rfl, rfl⟩ := hq
  refine pw_zret dX10_isSeat_9 rfl (by split <;> omega) rfl ?_
  exact ⟨rfl, rfl, rfl⟩
set_option maxHeartbeats 4000000 in
set_option maxRecDepth 100000 in
theorem r_says (d : Nat) (hd : 0 ≤ d) (n : Nat) (ok : pO) (mem : pM) (hU : RefUp n ok) (v : Int) : PM mi_X10_says d [vr 88, vi v] n ok mem n (fun r ok' mem' => r = some (vi v) ∧ ok = ok' ∧ wr mem 88 0 0 = mem') := by
  obtain ⟨hO, ⟨a89, a90, a91, a92, a93, a94, a95, a96, a97, a98⟩, ⟨a99, a100, a101, a102, a103, a104, a105, a106, a107⟩, ⟨a108, a109, a110, a111, a112, a113, a114, a115, a116, a117, a118, a119⟩, a120, a121, a122⟩ := hU
  refine PM.of (by decide) (by decide) (Nat.le_refl _) (Nat.le_of_ble_eq_true rfl) ?_
  refine pw_aload_n 0 rfl dX10_says_0 rfl ?_
  refine pw_iconst dX10_says_1 ?_
  refine pw_pI 0 0 rfl dX10_says_2 cOk10 (by assumption) (by decide) kw_1065 rfl rfl (by decide) (by omega) ?_
  refine pw_iload_n 1 rfl dX10_says_5 rfl ?_
  refine pw_iret dX10_says_6 rfl rfl ?_
  exact ⟨rfl, rfl, rfl⟩
set_option maxHeartbeats 4000000 in
set_option maxRecDepth 100000 in
theorem r_refuses (d : Nat) (hd : 0 ≤ d) (n : Nat) (ok : pO) (mem : pM) (hU : RefUp n ok) (v : Int) (hv : -2147483648 ≤ v ∧ v ≤ 2147483647) : PM mi_X10_refuses d [vr 88, vi v] n ok mem n (fun r ok' mem' => r = some (vi v) ∧ ok = ok' ∧ wr mem 88 0 v = mem') := by
  obtain ⟨hO, ⟨a89, a90, a91, a92, a93, a94, a95, a96, a97, a98⟩, ⟨a99, a100, a101, a102, a103, a104, a105, a106, a107⟩, ⟨a108, a109, a110, a111, a112, a113, a114, a115, a116, a117, a118, a119⟩, a120, a121, a122⟩ := hU
  refine PM.of (by decide) (by decide) (Nat.le_refl _) (Nat.le_of_ble_eq_true rfl) ?_
  refine pw_aload_n 0 rfl dX10_refuses_0 rfl ?_
  refine pw_iload_n 1 rfl dX10_refuses_1 rfl ?_
  refine pw_pI 0 0 rfl dX10_refuses_2 cOk10 (by assumption) (by decide) kw_1065 rfl rfl (by decide) (by omega) ?_
  refine pw_iload_n 1 rfl dX10_refuses_5 rfl ?_
  refine pw_iret dX10_refuses_6 rfl rfl ?_
  exact ⟨rfl, rfl, rfl⟩
def rNotes (m : pM) (f : Int) : pM := if m 88 3 = 0 then wr (wr m 88 1 (nz (m 88 1 + 1))) 88 2 f else m
def rWrites (m : pM) (x : Int) : pM := if m 88 3 = 0 then (if 60 ≤ m 88 19 then wr m 88 19 (m 88 19 + 1) else wr (wr m 103 (m 88 19) x) 88 19 (m 88 19 + 1)) else m
set_option maxHeartbeats 4000000 in
set_option maxRecDepth 100000 in
theorem r_notes (d : Nat) (hd : 0 ≤ d) (n : Nat) (ok : pO) (mem : pM) (hU : RefUp n ok) (f : Int) (hf : -2147483648 ≤ f ∧ f ≤ 2147483647) : PM mi_X10_notes d [vr 88, vi f] n ok mem n (fun r ok' mem' => r = none ∧ ok = ok' ∧ rNotes mem f = mem') := by
  obtain ⟨hO, ⟨a89, a90, a91, a92, a93, a94, a95, a96, a97, a98⟩, ⟨a99, a100, a101, a102, a103, a104, a105, a106, a107⟩, ⟨a108, a109, a110, a111, a112, a113, a114, a115, a116, a117, a118, a119⟩, a120, a121, a122⟩ := hU
  refine PM.of (by decide) (by decide) (Nat.le_refl _) (Nat.le_of_ble_eq_true rfl) ?_
  refine pw_aload_n 0 rfl dX10_notes_0 rfl ?_
  refine pw_gI 3 3 rfl dX10_notes_1 cOk10 (by assumption) (by decide) kw_1068 (by decide) (fun r1 => ?_)
  refine pw_if_ne 22 (by decide) dX10_notes_4 (by omega) (fun c4 => ?_) (fun c4 => ?_)
  · skip
    refine pw_vret dX10_notes_22 rfl rfl ?_
    refine ⟨rfl, rfl, ?_⟩
    unfold rNotes; rw [if_neg c4]
  · skip
    refine pw_aload_n 0 rfl dX10_notes_7 rfl ?_
    refine pw_dup dX10_notes_8 rfl ?_
    refine pw_gI 1 1 rfl dX10_notes_9 cOk10 (by assumption) (by decide) kw_1066 (by decide) (fun r9 => ?_)
    refine pw_iconst dX10_notes_12 ?_
    refine pw_iadd dX10_notes_13 ?_
    refine pw_pIz 1 1 rfl dX10_notes_14 cOk10 (by assumption) (by decide) kw_1066 rfl rfl (by decide)  ?_
    refine pw_aload_n 0 rfl dX10_notes_17 rfl ?_
    refine pw_iload_n 1 rfl dX10_notes_18 rfl ?_
    refine pw_pI 2 2 rfl dX10_notes_19 cOk10 (by assumption) (by decide) kw_1067 rfl rfl (by decide) (by omega) ?_
    refine pw_vret dX10_notes_22 rfl rfl ?_
    refine ⟨rfl, rfl, ?_⟩
    unfold rNotes; rw [if_pos c4]
set_option maxHeartbeats 4000000 in
set_option maxRecDepth 100000 in
theorem r_meets (d : Nat) (hd : 1 ≤ d) (n : Nat) (ok : pO) (mem : pM) (hU : RefUp n ok) (f : Int) (hf : 0 ≤ f ∧ f ≤ 100) : PM mi_X10_meets d [vr 88, vi f] n ok mem n (fun r ok' mem' => r = some (vi (-10 - f)) ∧ ok = ok' ∧ wr (rNotes mem f) 88 0 (-10 - f) = mem') := by
  have hU := id hU
  obtain ⟨hO, ⟨a89, a90, a91, a92, a93, a94, a95, a96, a97, a98⟩, ⟨a99, a100, a101, a102, a103, a104, a105, a106, a107⟩, ⟨a108, a109, a110, a111, a112, a113, a114, a115, a116, a117, a118, a119⟩, a120, a121, a122⟩ := id hU
  refine PM.of (by decide) (by decide) (Nat.le_refl _) (Nat.le_of_ble_eq_true rfl) ?_
  refine pw_aload_n 0 rfl dX10_meets_0 rfl ?_
  refine pw_iload_n 1 rfl dX10_meets_1 rfl ?_
  refine pw_callV (d' := d - 1) (As := [_]) (ci := 10) dX10_meets_2 ok_X10_notes kw_1257 rfl rfl (Of.o (by assumption)) (by omega) rfl (Nat.le_of_ble_eq_true rfl) (r_notes (d - 1) (by omega) n ok mem hU f (by omega)) (Nat.le_refl _) (Or.inl rfl) (fun r ok1 mem1 hq => ?_)
  obtain ⟨rfl, rfl, rfl⟩ := hq
  refine pw_aload_n 0 rfl dX10_meets_5 rfl ?_
  refine pw_bipush dX10_meets_6 (by decide) ?_
  refine pw_iload_n 1 rfl dX10_meets_8 rfl ?_
  refine pw_isub dX10_meets_9 ?_
  refine pw_pI 0 0 rfl dX10_meets_10 cOk10 (by assumption) (by decide) kw_1065 rfl rfl (by decide) (by omega) ?_
  refine pw_aload_n 0 rfl dX10_meets_13 rfl ?_
  refine pw_gI 0 0 rfl dX10_meets_14 cOk10 (by assumption) (by decide) kw_1065 (by decide) (fun r14 => ?_)
  try simp (disch := omega) only [wr_s, wr_a, wr_k] at r14 ⊢
  refine pw_iret dX10_meets_17 rfl rfl ?_
  exact ⟨rfl, rfl, rfl⟩
set_option maxHeartbeats 4000000 in
set_option maxRecDepth 100000 in
theorem r_writes (d : Nat) (hd : 0 ≤ d) (n : Nat) (ok : pO) (mem : pM) (hU : RefUp n ok) (x : Int) (hx : -2147483648 ≤ x ∧ x ≤ 2147483647) (ht : 0 ≤ mem 88 19 ∧ mem 88 19 ≤ 2000000000) : PM mi_X10_writes d [vr 88, vi x] n ok mem n (fun r ok' mem' => r = none ∧ ok = ok' ∧ rWrites mem x = mem') := by
  obtain ⟨hO, ⟨a89, a90, a91, a92, a93, a94, a95, a96, a97, a98⟩, ⟨a99, a100, a101, a102, a103, a104, a105, a106, a107⟩, ⟨a108, a109, a110, a111, a112, a113, a114, a115, a116, a117, a118, a119⟩, a120, a121, a122⟩ := hU
  refine PM.of (by decide) (by decide) (Nat.le_refl _) (Nat.le_of_ble_eq_true rfl) ?_
  refine pw_aload_n 0 rfl dX10_writes_0 rfl ?_
  refine pw_gI 3 3 rfl dX10_writes_1 cOk10 (by assumption) (by decide) kw_1068 (by decide) (fun r1 => ?_)
  refine pw_if_ne 36 (by decide) dX10_writes_4 (by omega) (fun c4 => ?_) (fun c4 => ?_)
  · skip
    refine pw_vret dX10_writes_36 rfl rfl ?_
    refine ⟨rfl, rfl, ?_⟩
    unfold rWrites; rw [if_neg c4]
  · skip
    refine pw_aload_n 0 rfl dX10_writes_7 rfl ?_
    refine pw_gI 19 19 rfl dX10_writes_8 cOk10 (by assumption) (by decide) kw_1084 (by decide) (fun r8 => ?_)
    refine pw_bipush dX10_writes_11 (by decide) ?_
    refine pw_icmp_ge 26 (by decide) dX10_writes_13 (by omega) (by omega) (fun c13 => ?_) (fun c13 => ?_)
    · skip
      refine pw_aload_n 0 rfl dX10_writes_26 rfl ?_
      refine pw_dup dX10_writes_27 rfl ?_
      refine pw_gI 19 19 rfl dX10_writes_28 cOk10 (by assumption) (by decide) kw_1084 (by decide) (fun r28 => ?_)
      refine pw_iconst dX10_writes_31 ?_
      refine pw_iadd dX10_writes_32 ?_
      refine pw_pI 19 19 rfl dX10_writes_33 cOk10 (by assumption) (by decide) kw_1084 rfl rfl (by decide) (by omega) ?_
      refine pw_vret dX10_writes_36 rfl rfl ?_
      refine ⟨rfl, rfl, ?_⟩
      unfold rWrites; rw [if_pos c4, if_pos c13]
    · skip
      refine pw_aload_n 0 rfl dX10_writes_16 rfl ?_
      refine pw_gR 18 103 dX10_writes_17 cOk10 (by assumption) (by decide) kw_1083 (by decide) rfl ?_
      refine pw_aload_n 0 rfl dX10_writes_20 rfl ?_
      refine pw_gI 19 19 rfl dX10_writes_21 cOk10 (by assumption) (by decide) kw_1084 (by decide) (fun r21 => ?_)
      refine pw_iload_n 1 rfl dX10_writes_24 rfl ?_
      refine pw_iastore dX10_writes_25 (by assumption) (by omega) (by omega) (by omega) ?_
      refine pw_aload_n 0 rfl dX10_writes_26 rfl ?_
      refine pw_dup dX10_writes_27 rfl ?_
      refine pw_gI 19 19 rfl dX10_writes_28 cOk10 (by assumption) (by decide) kw_1084 (by decide) (fun r28 => ?_)
      try simp (disch := omega) only [wr_s, wr_a, wr_k] at r28 ⊢
      refine pw_iconst dX10_writes_31 ?_
      refine pw_iadd dX10_writes_32 ?_
      refine pw_pI 19 19 rfl dX10_writes_33 cOk10 (by assumption) (by decide) kw_1084 rfl rfl (by decide) (by omega) ?_
      refine pw_vret dX10_writes_36 rfl rfl ?_
      refine ⟨rfl, rfl, ?_⟩
      unfold rWrites; rw [if_pos c4, if_neg c13]
set_option maxHeartbeats 4000000 in
set_option maxRecDepth 100000 in
theorem r_comes (d : Nat) (hd : 0 ≤ d) (n : Nat) (ok : pO) (mem : pM) (hU : RefUp n ok) (c s : Int) (hc : 0 ≤ c ∧ c ≤ 2) (hs : 0 ≤ s ∧ s ≤ 15) : PM mi_X10_comes d [vr 88, vi c, vi s] n ok mem n (fun r ok' mem' => r = some (vi (aComes mem c s)) ∧ ok = ok' ∧ mem = mem') := by
  obtain ⟨hO, ⟨a89, a90, a91, a92, a93, a94, a95, a96, a97, a98⟩, ⟨a99, a100, a101, a102, a103, a104, a105, a106, a107⟩, ⟨a108, a109, a110, a111, a112, a113, a114, a115, a116, a117, a118, a119⟩, a120, a121, a122⟩ := hU
  refine PM.of (by decide) (by decide) (Nat.le_refl _) (Nat.le_of_ble_eq_true rfl) ?_
  refine pw_aload_n 0 rfl dX10_comes_0 rfl ?_
  refine pw_gR 4 89 dX10_comes_1 cOk10 (by assumption) (by decide) kw_1069 (by decide) rfl ?_
  refine pw_iconst dX10_comes_4 ?_
  refine pw_iload_n 1 rfl dX10_comes_5 rfl ?_
  refine pw_imul dX10_comes_6 ?_
  refine pw_iload_n 2 rfl dX10_comes_7 rfl ?_
  refine pw_iconst dX10_comes_8 ?_
  refine pw_idiv dX10_comes_9 (by omega) (by omega) ?_
  refine pw_iadd dX10_comes_10 ?_
  refine pw_iaload dX10_comes_11 (by assumption) (by omega) (by omega) (fun r11 => ?_)
  refine pw_istore_n 3 rfl dX10_comes_12 (by decide) ?_
  refine pw_iload_n 3 rfl dX10_comes_13 rfl ?_
  refine pw_iconst dX10_comes_14 ?_
  refine pw_icmp_ne 22 (by decide) dX10_comes_15 (by omega) (by omega) (fun c15 => ?_) (fun c15 => ?_)
  · skip
    refine pw_iload_n 2 rfl dX10_comes_22 rfl ?_
    refine pw_iconst dX10_comes_23 ?_
    refine pw_irem dX10_comes_24 (by omega) (by omega) ?_
    refine pw_iload_n 3 rfl dX10_comes_25 rfl ?_
    refine pw_icmp_lt 33 (by decide) dX10_comes_26 (by omega) (by omega) (fun c26 => ?_) (fun c26 => ?_)
    · skip
      refine pw_aload_n 0 rfl dX10_comes_33 rfl ?_
      refine pw_gR 5 90 dX10_comes_34 cOk10 (by assumption) (by decide) kw_1070 (by decide) rfl ?_
      refine pw_bipush dX10_comes_37 (by decide) ?_
      refine pw_iload_n 1 rfl dX10_comes_39 rfl ?_
      refine pw_imul dX10_comes_40 ?_
      refine pw_iload_n 2 rfl dX10_comes_41 rfl ?_
      refine pw_iadd dX10_comes_42 ?_
      refine pw_iaload dX10_comes_43 (by assumption) (by omega) (by omega) (fun r43 => ?_)
      refine pw_iconst dX10_comes_44 ?_
      refine pw_icmp_ne 52 (by decide) dX10_comes_45 (by omega) (by omega) (fun c45 => ?_) (fun c45 => ?_)
      · skip
        refine pw_iconst dX10_comes_52 ?_
        refine pw_iret dX10_comes_53 rfl rfl ?_
        refine ⟨congrArg (fun z => some (vi z)) (by unfold aComes aRow aKind; (repeat' split) <;> omega), rfl, rfl⟩
      · skip
        refine pw_iconst dX10_comes_48 ?_
        refine pw_goto 53 (by decide) dX10_comes_49 ?_
        refine pw_iret dX10_comes_53 rfl rfl ?_
        refine ⟨congrArg (fun z => some (vi z)) (by unfold aComes aRow aKind; (repeat' split) <;> omega), rfl, rfl⟩
    · skip
      refine pw_iconst dX10_comes_29 ?_
      refine pw_goto 53 (by decide) dX10_comes_30 ?_
      refine pw_iret dX10_comes_53 rfl rfl ?_
      refine ⟨congrArg (fun z => some (vi z)) (by unfold aComes aRow aKind; (repeat' split) <;> omega), rfl, rfl⟩
  · skip
    refine pw_iconst dX10_comes_18 ?_
    refine pw_goto 53 (by decide) dX10_comes_19 ?_
    refine pw_iret dX10_comes_53 rfl rfl ?_
    refine ⟨congrArg (fun z => some (vi z)) (by unfold aComes aRow aKind; (repeat' split) <;> omega), rfl, rfl⟩
def aParts (m : pM) (c : Int) : Nat → Int
  | 0 => 0
  | s + 1 => aParts m c s + (if aKind m c s = -1 then 0 else 1)
theorem aParts_ran (m : pM) (c : Int) (k : Nat) : 0 ≤ aParts m c k ∧ aParts m c k ≤ k := by
  induction k with
  | zero => exact ⟨Int.le_refl _, Int.le_refl _⟩
  | succ k ih =>
    unfold aParts
    split <;> omega
set_option maxHeartbeats 4000000 in
set_option maxRecDepth 100000 in
theorem r_parts (d : Nat) (hd : 0 ≤ d) (n : Nat) (ok : pO) (mem : pM) (hU : RefUp n ok) (c : Int) (hc : 0 ≤ c ∧ c ≤ 2) : PM mi_X10_parts d [vr 88, vi c] n ok mem n (fun r ok' mem' => r = some (vi (aParts mem c 16)) ∧ ok = ok' ∧ mem = mem') := by
  obtain ⟨hO, ⟨a89, a90, a91, a92, a93, a94, a95, a96, a97, a98⟩, ⟨a99, a100, a101, a102, a103, a104, a105, a106, a107⟩, ⟨a108, a109, a110, a111, a112, a113, a114, a115, a116, a117, a118, a119⟩, a120, a121, a122⟩ := hU
  refine PM.of (by decide) (by decide) (Nat.le_refl _) (Nat.le_of_ble_eq_true rfl) ?_
  refine pw_iconst dX10_parts_0 ?_
  refine pw_istore_n 2 rfl dX10_parts_1 (by decide) ?_
  refine pw_iconst dX10_parts_2 ?_
  refine pw_istore_n 3 rfl dX10_parts_3 (by decide) ?_
  have lp4 : ∀ (kz : Nat) (i : Nat) (x : Int), 16 - (i : Int) < (kz : Int) → (i ≤ 16) → (x = aParts mem c i) → PW mi_X10_parts d n n (fun r ok' mem' => r = some (vi (aParts mem c 16)) ∧ ok = ok' ∧ mem = mem') 4 [(0, vr 88), (1, vi c), (2, vi x), (3, vi (i : Int))] [] n ok mem := by
    intro kz
    induction kz with
    | zero =>
      intro i x hk h1 h2
      exact absurd hk (by omega)
    | succ kz ih =>
      intro i x hk h1 h2
      have hp := aParts_ran mem c i
      refine pw_iload_n 3 rfl dX10_parts_4 rfl ?_
      refine pw_bipush dX10_parts_5 (by decide) ?_
      refine pw_icmp_ge 39 (by decide) dX10_parts_7 (by omega) (by omega) (fun c7 => ?_) (fun c7 => ?_)
      · skip
        refine pw_iload_n 2 rfl dX10_parts_39 rfl ?_
        refine pw_iret dX10_parts_40 rfl rfl ?_
        have : i = 16 := by omega
        subst this; subst h2; exact ⟨rfl, rfl, rfl⟩
      · skip
        refine pw_iload_n 2 rfl dX10_parts_10 rfl ?_
        refine pw_aload_n 0 rfl dX10_parts_11 rfl ?_
        refine pw_gR 5 90 dX10_parts_12 cOk10 (by assumption) (by decide) kw_1070 (by decide) rfl ?_
        refine pw_bipush dX10_parts_15 (by decide) ?_
        refine pw_iload_n 1 rfl dX10_parts_17 rfl ?_
        refine pw_imul dX10_parts_18 ?_
        refine pw_iload_n 3 rfl dX10_parts_19 rfl ?_
        refine pw_iadd dX10_parts_20 ?_
        refine pw_iaload dX10_parts_21 (by assumption) (by omega) (by omega) (fun r21 => ?_)
        try simp (disch := omega) only [wr_s, wr_a, wr_k] at r21 ⊢
        refine pw_iconst dX10_parts_22 ?_
        refine pw_icmp_ne 30 (by decide) dX10_parts_23 (by omega) (by omega) (fun c23 => ?_) (fun c23 => ?_)
        · skip
          refine pw_iconst dX10_parts_30 ?_
          refine pw_iadd dX10_parts_31 ?_
          refine pw_istore_n 2 rfl dX10_parts_32 (by decide) ?_
          refine pw_iinc dX10_parts_33 rfl (by decide) ?_
          refine pw_goto 4 (by decide) dX10_parts_36 ?_
          exact pw_locs _ rfl (ih (i + 1) (x + 1) (by omega) (by omega) (by subst h2; show _ = aParts mem c i + _; unfold aKind; rw [if_neg c23]))
        · skip
          refine pw_iconst dX10_parts_26 ?_
          refine pw_goto 31 (by decide) dX10_parts_27 ?_
          refine pw_iadd dX10_parts_31 ?_
          refine pw_istore_n 2 rfl dX10_parts_32 (by decide) ?_
          refine pw_iinc dX10_parts_33 rfl (by decide) ?_
          refine pw_goto 4 (by decide) dX10_parts_36 ?_
          exact pw_locs _ rfl (ih (i + 1) (x + 0) (by omega) (by omega) (by subst h2; show _ = aParts mem c i + _; unfold aKind; rw [if_pos c23]))
  exact pw_locs _ rfl (lp4 17 0 0 (by omega) (by omega) rfl)
