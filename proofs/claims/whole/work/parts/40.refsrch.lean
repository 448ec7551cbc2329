/-! ===== what a search tells ===== -/
def rOrdered (m : pM) (x : Int) : Int × pM := rSay m (if m 88 31 ≠ 0 ∧ 0 ≤ x ∧ x < m 88 34 then m 108 x else -1)
set_option maxHeartbeats 4000000 in
set_option maxRecDepth 100000 in
theorem r_ordered (d : Nat) (hd : 2 ≤ d) (n : Nat) (ok : pO) (mem : pM) (hU : RefUp n ok) (x : Int) (hx : -2147483648 ≤ x ∧ x ≤ 2147483647) (hsi : SI mem) : PM mi_X10_ordered d [vr 88, vi x] n ok mem n (fun r ok' mem' => r = some (vi (rOrdered mem x).1) ∧ ok = ok' ∧ (rOrdered mem x).2 = mem') := by
  obtain ⟨hO, ⟨a89, a90, a91, a92, a93, a94, a95, a96, a97, a98⟩, ⟨a99, a100, a101, a102, a103, a104, a105, a106, a107⟩, ⟨a108, a109, a110, a111, a112, a113, a114, a115, a116, a117, a118, a119⟩, a120, a121, a122⟩ := id hU
  refine PM.of (by decide) (by decide) (Nat.le_refl _) (Nat.le_of_ble_eq_true rfl) ?_
  refine pw_aload_n 0 rfl dX10_ordered_0 rfl ?_
  refine pw_aload_n 0 rfl dX10_ordered_1 rfl ?_
  refine pw_gI 31 31 rfl dX10_ordered_2 cOk10 (by assumption) (by decide) kw_1096 (by decide) (fun r2 => ?_)
  refine pw_if_eq 33 (by decide) dX10_ordered_5 (by omega) (fun c5 => ?_) (fun c5 => ?_)
  · skip
    refine pw_iconst dX10_ordered_33 ?_
    refine pw_callV (d' := d - 1) (As := [_]) (ci := 10) dX10_ordered_34 ok_X10_says kw_1265 rfl rfl (Of.o (by assumption)) (by omega) rfl (Nat.le_of_ble_eq_true rfl) (r_says (d - 1) (by omega) n ok _ hU _) (Nat.le_refl _) (Or.inl rfl) (fun r ok1 mem1 hq => ?_)
    obtain ⟨rfl, rfl, rfl⟩ := hq
    refine pw_iret dX10_ordered_37 rfl rfl ?_
    unfold rOrdered; (repeat' split) <;> first | exact ⟨rfl, rfl, rfl⟩ | (exfalso; omega)
  · skip
    have hs9 := (hsi c5).1
    refine pw_iload_n 1 rfl dX10_ordered_8 rfl ?_
    refine pw_i2l dX10_ordered_9 (by omega) ?_
    refine pw_lconst (x := 0) dX10_ordered_10 (by decide) ?_
    refine pw_aload_n 0 rfl dX10_ordered_11 rfl ?_
    refine pw_gI 34 34 rfl dX10_ordered_12 cOk10 (by assumption) (by decide) kw_1099 (by decide) (fun r12 => ?_)
    refine pw_iconst dX10_ordered_15 ?_
    refine pw_isub dX10_ordered_16 ?_
    refine pw_i2l dX10_ordered_17 (by omega) ?_
    refine pw_callS (d' := d - 1) (As := [_, _, _]) dX10_ordered_18 ok_X10_in kw_1245 (by omega) rfl (Nat.le_of_ble_eq_true rfl) (r_in (d - 1) (by omega) n ok _ _ _ _ (by omega) (by omega) (by omega)) (Nat.le_refl _) (Or.inl rfl) (fun r ok1 mem1 hq => ?_)
    obtain ⟨rfl, rfl, rfl⟩ := hq
    refine pw_if_eq 33 (by decide) dX10_ordered_21 (by split <;> omega) (fun c21 => ?_) (fun c21 => ?_)
    · skip
      rw [bz_0] at c21
      refine pw_iconst dX10_ordered_33 ?_
      refine pw_callV (d' := d - 1) (As := [_]) (ci := 10) dX10_ordered_34 ok_X10_says kw_1265 rfl rfl (Of.o (by assumption)) (by omega) rfl (Nat.le_of_ble_eq_true rfl) (r_says (d - 1) (by omega) n ok _ hU _) (Nat.le_refl _) (Or.inl rfl) (fun r ok1 mem1 hq => ?_)
      obtain ⟨rfl, rfl, rfl⟩ := hq
      refine pw_iret dX10_ordered_37 rfl rfl ?_
      unfold rOrdered; (repeat' split) <;> first | exact ⟨rfl, rfl, rfl⟩ | (exfalso; omega)
    · skip
      rw [bz_n] at c21
      refine pw_aload_n 0 rfl dX10_ordered_24 rfl ?_
      refine pw_gR 37 108 dX10_ordered_25 cOk10 (by assumption) (by decide) kw_1102 (by decide) rfl ?_
      refine pw_iload_n 1 rfl dX10_ordered_28 rfl ?_
      refine pw_iaload dX10_ordered_29 (by assumption) (by omega) (by omega) (fun r29 => ?_)
      refine pw_goto 34 (by decide) dX10_ordered_30 ?_
      refine pw_callV (d' := d - 1) (As := [_]) (ci := 10) dX10_ordered_34 ok_X10_says kw_1265 rfl rfl (Of.o (by assumption)) (by omega) rfl (Nat.le_of_ble_eq_true rfl) (r_says (d - 1) (by omega) n ok _ hU _) (Nat.le_refl _) (Or.inl rfl) (fun r ok1 mem1 hq => ?_)
      obtain ⟨rfl, rfl, rfl⟩ := hq
      refine pw_iret dX10_ordered_37 rfl rfl ?_
      unfold rOrdered; (repeat' split) <;> first | exact ⟨rfl, rfl, rfl⟩ | (exfalso; omega)
def rLayer (m : pM) (x : Int) : Int × pM := rSay m (if m 88 31 ≠ 0 ∧ 0 ≤ x ∧ x ≤ 1023 then m 109 x else -1)
set_option maxHeartbeats 4000000 in
set_option maxRecDepth 100000 in
theorem r_layer (d : Nat) (hd : 2 ≤ d) (n : Nat) (ok : pO) (mem : pM) (hU : RefUp n ok) (x : Int) (hx : -2147483648 ≤ x ∧ x ≤ 2147483647)  : PM mi_X10_layer d [vr 88, vi x] n ok mem n (fun r ok' mem' => r = some (vi (rLayer mem x).1) ∧ ok = ok' ∧ (rLayer mem x).2 = mem') := by
  obtain ⟨hO, ⟨a89, a90, a91, a92, a93, a94, a95, a96, a97, a98⟩, ⟨a99, a100, a101, a102, a103, a104, a105, a106, a107⟩, ⟨a108, a109, a110, a111, a112, a113, a114, a115, a116, a117, a118, a119⟩, a120, a121, a122⟩ := id hU
  refine PM.of (by decide) (by decide) (Nat.le_refl _) (Nat.le_of_ble_eq_true rfl) ?_
  refine pw_aload_n 0 rfl dX10_layer_0 rfl ?_
  refine pw_aload_n 0 rfl dX10_layer_1 rfl ?_
  refine pw_gI 31 31 rfl dX10_layer_2 cOk10 (by assumption) (by decide) kw_1096 (by decide) (fun r2 => ?_)
  refine pw_if_eq 29 (by decide) dX10_layer_5 (by omega) (fun c5 => ?_) (fun c5 => ?_)
  · skip
    refine pw_iconst dX10_layer_29 ?_
    refine pw_callV (d' := d - 1) (As := [_]) (ci := 10) dX10_layer_30 ok_X10_says kw_1265 rfl rfl (Of.o (by assumption)) (by omega) rfl (Nat.le_of_ble_eq_true rfl) (r_says (d - 1) (by omega) n ok _ hU _) (Nat.le_refl _) (Or.inl rfl) (fun r ok1 mem1 hq => ?_)
    obtain ⟨rfl, rfl, rfl⟩ := hq
    refine pw_iret dX10_layer_33 rfl rfl ?_
    unfold rLayer; (repeat' split) <;> first | exact ⟨rfl, rfl, rfl⟩ | (exfalso; omega)
  · skip
    refine pw_iload_n 1 rfl dX10_layer_8 rfl ?_
    refine pw_i2l dX10_layer_9 (by omega) ?_
    refine pw_lconst (x := 0) dX10_layer_10 (by decide) ?_
    refine pw_ldc2 (x := 1023) kw_1533 (by decide) dX10_layer_11 ?_
    refine pw_callS (d' := d - 1) (As := [_, _, _]) dX10_layer_14 ok_X10_in kw_1245 (by omega) rfl (Nat.le_of_ble_eq_true rfl) (r_in (d - 1) (by omega) n ok _ _ _ _ (by omega) (by omega) (by omega)) (Nat.le_refl _) (Or.inl rfl) (fun r ok1 mem1 hq => ?_)
    obtain ⟨rfl, rfl, rfl⟩ := hq
    refine pw_if_eq 29 (by decide) dX10_layer_17 (by split <;> omega) (fun c17 => ?_) (fun c17 => ?_)
    · skip
      rw [bz_0] at c17
      refine pw_iconst dX10_layer_29 ?_
      refine pw_callV (d' := d - 1) (As := [_]) (ci := 10) dX10_layer_30 ok_X10_says kw_1265 rfl rfl (Of.o (by assumption)) (by omega) rfl (Nat.le_of_ble_eq_true rfl) (r_says (d - 1) (by omega) n ok _ hU _) (Nat.le_refl _) (Or.inl rfl) (fun r ok1 mem1 hq => ?_)
      obtain ⟨rfl, rfl, rfl⟩ := hq
      refine pw_iret dX10_layer_33 rfl rfl ?_
      unfold rLayer; (repeat' split) <;> first | exact ⟨rfl, rfl, rfl⟩ | (exfalso; omega)
    · skip
      rw [bz_n] at c17
      refine pw_aload_n 0 rfl dX10_layer_20 rfl ?_
      refine pw_gR 38 109 dX10_layer_21 cOk10 (by assumption) (by decide) kw_1103 (by decide) rfl ?_
      refine pw_iload_n 1 rfl dX10_layer_24 rfl ?_
      refine pw_iaload dX10_layer_25 (by assumption) (by omega) (by omega) (fun r25 => ?_)
      refine pw_goto 30 (by decide) dX10_layer_26 ?_
      refine pw_callV (d' := d - 1) (As := [_]) (ci := 10) dX10_layer_30 ok_X10_says kw_1265 rfl rfl (Of.o (by assumption)) (by omega) rfl (Nat.le_of_ble_eq_true rfl) (r_says (d - 1) (by omega) n ok _ hU _) (Nat.le_refl _) (Or.inl rfl) (fun r ok1 mem1 hq => ?_)
      obtain ⟨rfl, rfl, rfl⟩ := hq
      refine pw_iret dX10_layer_33 rfl rfl ?_
      unfold rLayer; (repeat' split) <;> first | exact ⟨rfl, rfl, rfl⟩ | (exfalso; omega)
def rShortest (m : pM) : Int × pM := if m 88 31 = 0 ∨ m 88 32 ≠ 0 then rRef m (-4) else rSay m (if m 88 36 ≠ -1 then m 109 (m 108 (m 88 36)) else if m 88 35 = m 88 34 then -1 else -9)
set_option maxHeartbeats 4000000 in
set_option maxRecDepth 100000 in
theorem r_shortest (d : Nat) (hd : 2 ≤ d) (n : Nat) (ok : pO) (mem : pM) (hU : RefUp n ok)  (hsi : SI mem) : PM mi_X10_shortest d [vr 88] n ok mem n (fun r ok' mem' => r = some (vi (rShortest mem).1) ∧ ok = ok' ∧ (rShortest mem).2 = mem') := by
  obtain ⟨hO, ⟨a89, a90, a91, a92, a93, a94, a95, a96, a97, a98⟩, ⟨a99, a100, a101, a102, a103, a104, a105, a106, a107⟩, ⟨a108, a109, a110, a111, a112, a113, a114, a115, a116, a117, a118, a119⟩, a120, a121, a122⟩ := id hU
  refine PM.of (by decide) (by decide) (Nat.le_refl _) (Nat.le_of_ble_eq_true rfl) ?_
  refine pw_aload_n 0 rfl dX10_shortest_0 rfl ?_
  refine pw_gI 31 31 rfl dX10_shortest_1 cOk10 (by assumption) (by decide) kw_1096 (by decide) (fun r1 => ?_)
  refine pw_if_eq 14 (by decide) dX10_shortest_4 (by omega) (fun c4 => ?_) (fun c4 => ?_)
  · skip
    refine pw_aload_n 0 rfl dX10_shortest_14 rfl ?_
    refine pw_bipush dX10_shortest_15 (by decide) ?_
    refine pw_callV (d' := d - 1) (As := [_]) (ci := 10) dX10_shortest_17 ok_X10_refuses kw_1249 rfl rfl (Of.o (by assumption)) (by omega) rfl (Nat.le_of_ble_eq_true rfl) (r_refuses (d - 1) (by omega) n ok _ hU _ (by omega)) (Nat.le_refl _) (Or.inl rfl) (fun r ok1 mem1 hq => ?_)
    obtain ⟨rfl, rfl, rfl⟩ := hq
    refine pw_iret dX10_shortest_20 rfl rfl ?_
    unfold rShortest; (repeat' split) <;> first | exact ⟨rfl, rfl, rfl⟩ | (exfalso; omega)
  · skip
    refine pw_aload_n 0 rfl dX10_shortest_7 rfl ?_
    refine pw_gI 32 32 rfl dX10_shortest_8 cOk10 (by assumption) (by decide) kw_1097 (by decide) (fun r8 => ?_)
    refine pw_if_eq 21 (by decide) dX10_shortest_11 (by omega) (fun c11 => ?_) (fun c11 => ?_)
    · skip
      have hs9 := (hsi c4).1
      have hs8 := (hsi c4).2.1 (mem 88 36)
      refine pw_aload_n 0 rfl dX10_shortest_21 rfl ?_
      refine pw_aload_n 0 rfl dX10_shortest_22 rfl ?_
      refine pw_gI 36 36 rfl dX10_shortest_23 cOk10 (by assumption) (by decide) kw_1101 (by decide) (fun r23 => ?_)
      refine pw_iconst dX10_shortest_26 ?_
      refine pw_icmp_eq 47 (by decide) dX10_shortest_27 (by omega) (by omega) (fun c27 => ?_) (fun c27 => ?_)
      · skip
        refine pw_aload_n 0 rfl dX10_shortest_47 rfl ?_
        refine pw_callV (d' := d - 1) (As := []) (ci := 10) dX10_shortest_48 ok_X10_isWhole kw_1513 rfl rfl (Of.o (by assumption)) (by omega) rfl (Nat.le_of_ble_eq_true rfl) (r_isWhole (d - 1) (by omega) n ok _ hU) (Nat.le_refl _) (Or.inl rfl) (fun r ok1 mem1 hq => ?_)
        obtain ⟨rfl, rfl, rfl⟩ := hq
        refine pw_if_eq 58 (by decide) dX10_shortest_51 (by split <;> omega) (fun c51 => ?_) (fun c51 => ?_)
        · skip
          rw [bz_0] at c51
          refine pw_bipush dX10_shortest_58 (by decide) ?_
          refine pw_callV (d' := d - 1) (As := [_]) (ci := 10) dX10_shortest_60 ok_X10_says kw_1265 rfl rfl (Of.o (by assumption)) (by omega) rfl (Nat.le_of_ble_eq_true rfl) (r_says (d - 1) (by omega) n ok _ hU _) (Nat.le_refl _) (Or.inl rfl) (fun r ok1 mem1 hq => ?_)
          obtain ⟨rfl, rfl, rfl⟩ := hq
          refine pw_iret dX10_shortest_63 rfl rfl ?_
          unfold rShortest; (repeat' split) <;> first | exact ⟨rfl, rfl, rfl⟩ | (exfalso; omega)
        · skip
          rw [bz_n] at c51
          refine pw_iconst dX10_shortest_54 ?_
          refine pw_goto 60 (by decide) dX10_shortest_55 ?_
          refine pw_callV (d' := d - 1) (As := [_]) (ci := 10) dX10_shortest_60 ok_X10_says kw_1265 rfl rfl (Of.o (by assumption)) (by omega) rfl (Nat.le_of_ble_eq_true rfl) (r_says (d - 1) (by omega) n ok _ hU _) (Nat.le_refl _) (Or.inl rfl) (fun r ok1 mem1 hq => ?_)
          obtain ⟨rfl, rfl, rfl⟩ := hq
          refine pw_iret dX10_shortest_63 rfl rfl ?_
          unfold rShortest; (repeat' split) <;> first | exact ⟨rfl, rfl, rfl⟩ | (exfalso; omega)
      · skip
        refine pw_aload_n 0 rfl dX10_shortest_30 rfl ?_
        refine pw_gR 38 109 dX10_shortest_31 cOk10 (by assumption) (by decide) kw_1103 (by decide) rfl ?_
        refine pw_aload_n 0 rfl dX10_shortest_34 rfl ?_
        refine pw_gR 37 108 dX10_shortest_35 cOk10 (by assumption) (by decide) kw_1102 (by decide) rfl ?_
        refine pw_aload_n 0 rfl dX10_shortest_38 rfl ?_
        refine pw_gI 36 36 rfl dX10_shortest_39 cOk10 (by assumption) (by decide) kw_1101 (by decide) (fun r39 => ?_)
        refine pw_iaload dX10_shortest_42 (by assumption) (by omega) (by omega) (fun r42 => ?_)
        refine pw_iaload dX10_shortest_43 (by assumption) (by omega) (by omega) (fun r43 => ?_)
        refine pw_goto 60 (by decide) dX10_shortest_44 ?_
        refine pw_callV (d' := d - 1) (As := [_]) (ci := 10) dX10_shortest_60 ok_X10_says kw_1265 rfl rfl (Of.o (by assumption)) (by omega) rfl (Nat.le_of_ble_eq_true rfl) (r_says (d - 1) (by omega) n ok _ hU _) (Nat.le_refl _) (Or.inl rfl) (fun r ok1 mem1 hq => ?_)
        obtain ⟨rfl, rfl, rfl⟩ := hq
        refine pw_iret dX10_shortest_63 rfl rfl ?_
        unfold rShortest; (repeat' split) <;> first | exact ⟨rfl, rfl, rfl⟩ | (exfalso; omega)
    · skip
      refine pw_aload_n 0 rfl dX10_shortest_14 rfl ?_
      refine pw_bipush dX10_shortest_15 (by decide) ?_
      refine pw_callV (d' := d - 1) (As := [_]) (ci := 10) dX10_shortest_17 ok_X10_refuses kw_1249 rfl rfl (Of.o (by assumption)) (by omega) rfl (Nat.le_of_ble_eq_true rfl) (r_refuses (d - 1) (by omega) n ok _ hU _ (by omega)) (Nat.le_refl _) (Or.inl rfl) (fun r ok1 mem1 hq => ?_)
      obtain ⟨rfl, rfl, rfl⟩ := hq
      refine pw_iret dX10_shortest_20 rfl rfl ?_
      unfold rShortest; (repeat' split) <;> first | exact ⟨rfl, rfl, rfl⟩ | (exfalso; omega)
def rSearched (m : pM) (w : Int) : Int × pM := if ¬ (0 ≤ w ∧ w ≤ 6) then rRef m (-2) else if m 88 31 = 0 then rSay m (-1) else
  rSay m (if w = 0 then m 88 34 else if w = 1 then m 88 35 else if w = 2 then m 109 (m 108 (m 88 34 - 1)) + 1 else if w = 3 then m 88 33 else if w = 4 then (if m 88 35 = m 88 34 then 1 else 0) else if w = 5 then (if m 88 32 = 0 then 0 else 1) else m 108 0)
set_option maxHeartbeats 4000000 in
set_option maxRecDepth 100000 in
theorem r_searched (d : Nat) (hd : 2 ≤ d) (n : Nat) (ok : pO) (mem : pM) (hU : RefUp n ok) (w : Int) (hw : -2147483648 ≤ w ∧ w ≤ 2147483647) (hsi : SI mem) : PM mi_X10_searched d [vr 88, vi w] n ok mem n (fun r ok' mem' => r = some (vi (rSearched mem w).1) ∧ ok = ok' ∧ (rSearched mem w).2 = mem') := by
  obtain ⟨hO, ⟨a89, a90, a91, a92, a93, a94, a95, a96, a97, a98⟩, ⟨a99, a100, a101, a102, a103, a104, a105, a106, a107⟩, ⟨a108, a109, a110, a111, a112, a113, a114, a115, a116, a117, a118, a119⟩, a120, a121, a122⟩ := id hU
  refine PM.of (by decide) (by decide) (Nat.le_refl _) (Nat.le_of_ble_eq_true rfl) ?_
  refine pw_iload_n 1 rfl dX10_searched_0 rfl ?_
  refine pw_i2l dX10_searched_1 (by omega) ?_
  refine pw_lconst (x := 0) dX10_searched_2 (by decide) ?_
  refine pw_ldc2 (x := 6) kw_1278 (by decide) dX10_searched_3 ?_
  refine pw_callS (d' := d - 1) (As := [_, _, _]) dX10_searched_6 ok_X10_in kw_1245 (by omega) rfl (Nat.le_of_ble_eq_true rfl) (r_in (d - 1) (by omega) n ok _ _ _ _ (by omega) (by omega) (by omega)) (Nat.le_refl _) (Or.inl rfl) (fun r ok1 mem1 hq => ?_)
  obtain ⟨rfl, rfl, rfl⟩ := hq
  refine pw_if_ne 19 (by decide) dX10_searched_9 (by split <;> omega) (fun c9 => ?_) (fun c9 => ?_)
  · skip
    rw [ne_eq, bz_n] at c9
    refine pw_aload_n 0 rfl dX10_searched_19 rfl ?_
    refine pw_gI 31 31 rfl dX10_searched_20 cOk10 (by assumption) (by decide) kw_1096 (by decide) (fun r20 => ?_)
    refine pw_if_ne 32 (by decide) dX10_searched_23 (by omega) (fun c23 => ?_) (fun c23 => ?_)
    · skip
      have hs9 := (hsi c23).1
      have hs8 := (hsi c23).2.1 (mem 88 34 - 1) (by omega) (by omega)
      refine pw_iload_n 1 rfl dX10_searched_32 rfl ?_
      refine pw_tab1 (0) 72 dX10_searched_33 (by omega) (by omega) (by omega) rfl rfl (fun c33 => ?_) (fun c33_0 => ?_)
      · skip
        refine pw_aload_n 0 rfl dX10_searched_72 rfl ?_
        refine pw_aload_n 0 rfl dX10_searched_73 rfl ?_
        refine pw_gI 34 34 rfl dX10_searched_74 cOk10 (by assumption) (by decide) kw_1099 (by decide) (fun r74 => ?_)
        refine pw_callV (d' := d - 1) (As := [_]) (ci := 10) dX10_searched_77 ok_X10_says kw_1265 rfl rfl (Of.o (by assumption)) (by omega) rfl (Nat.le_of_ble_eq_true rfl) (r_says (d - 1) (by omega) n ok _ hU _) (Nat.le_refl _) (Or.inl rfl) (fun r ok1 mem1 hq => ?_)
        obtain ⟨rfl, rfl, rfl⟩ := hq
        refine pw_iret dX10_searched_80 rfl rfl ?_
        unfold rSearched; (repeat' split) <;> first | exact ⟨rfl, rfl, rfl⟩ | (exfalso; omega)
      · skip
        refine pw_tab1 (1) 81 dX10_searched_33 (by omega) (by omega) (by omega) rfl rfl (fun c33 => ?_) (fun c33_1 => ?_)
        · skip
          refine pw_aload_n 0 rfl dX10_searched_81 rfl ?_
          refine pw_aload_n 0 rfl dX10_searched_82 rfl ?_
          refine pw_gI 35 35 rfl dX10_searched_83 cOk10 (by assumption) (by decide) kw_1100 (by decide) (fun r83 => ?_)
          refine pw_callV (d' := d - 1) (As := [_]) (ci := 10) dX10_searched_86 ok_X10_says kw_1265 rfl rfl (Of.o (by assumption)) (by omega) rfl (Nat.le_of_ble_eq_true rfl) (r_says (d - 1) (by omega) n ok _ hU _) (Nat.le_refl _) (Or.inl rfl) (fun r ok1 mem1 hq => ?_)
          obtain ⟨rfl, rfl, rfl⟩ := hq
          refine pw_iret dX10_searched_89 rfl rfl ?_
          unfold rSearched; (repeat' split) <;> first | exact ⟨rfl, rfl, rfl⟩ | (exfalso; omega)
        · skip
          refine pw_tab1 (2) 90 dX10_searched_33 (by omega) (by omega) (by omega) rfl rfl (fun c33 => ?_) (fun c33_2 => ?_)
          · skip
            refine pw_aload_n 0 rfl dX10_searched_90 rfl ?_
            refine pw_aload_n 0 rfl dX10_searched_91 rfl ?_
            refine pw_gR 38 109 dX10_searched_92 cOk10 (by assumption) (by decide) kw_1103 (by decide) rfl ?_
            refine pw_aload_n 0 rfl dX10_searched_95 rfl ?_
            refine pw_gR 37 108 dX10_searched_96 cOk10 (by assumption) (by decide) kw_1102 (by decide) rfl ?_
            refine pw_aload_n 0 rfl dX10_searched_99 rfl ?_
            refine pw_gI 34 34 rfl dX10_searched_100 cOk10 (by assumption) (by decide) kw_1099 (by decide) (fun r100 => ?_)
            refine pw_iconst dX10_searched_103 ?_
            refine pw_isub dX10_searched_104 ?_
            refine pw_iaload dX10_searched_105 (by assumption) (by omega) (by omega) (fun r105 => ?_)
            refine pw_iaload dX10_searched_106 (by assumption) (by omega) (by omega) (fun r106 => ?_)
            refine pw_iconst dX10_searched_107 ?_
            refine pw_iadd dX10_searched_108 ?_
            refine pw_callV (d' := d - 1) (As := [_]) (ci := 10) dX10_searched_109 ok_X10_says kw_1265 rfl rfl (Of.o (by assumption)) (by omega) rfl (Nat.le_of_ble_eq_true rfl) (r_says (d - 1) (by omega) n ok _ hU _) (Nat.le_refl _) (Or.inl rfl) (fun r ok1 mem1 hq => ?_)
            obtain ⟨rfl, rfl, rfl⟩ := hq
            refine pw_iret dX10_searched_112 rfl rfl ?_
            unfold rSearched; (repeat' split) <;> first | exact ⟨rfl, rfl, rfl⟩ | (exfalso; omega)
          · skip
            refine pw_tab1 (3) 113 dX10_searched_33 (by omega) (by omega) (by omega) rfl rfl (fun c33 => ?_) (fun c33_3 => ?_)
            · skip
              refine pw_aload_n 0 rfl dX10_searched_113 rfl ?_
              refine pw_aload_n 0 rfl dX10_searched_114 rfl ?_
              refine pw_gI 33 33 rfl dX10_searched_115 cOk10 (by assumption) (by decide) kw_1098 (by decide) (fun r115 => ?_)
              refine pw_callV (d' := d - 1) (As := [_]) (ci := 10) dX10_searched_118 ok_X10_says kw_1265 rfl rfl (Of.o (by assumption)) (by omega) rfl (Nat.le_of_ble_eq_true rfl) (r_says (d - 1) (by omega) n ok _ hU _) (Nat.le_refl _) (Or.inl rfl) (fun r ok1 mem1 hq => ?_)
              obtain ⟨rfl, rfl, rfl⟩ := hq
              refine pw_iret dX10_searched_121 rfl rfl ?_
              unfold rSearched; (repeat' split) <;> first | exact ⟨rfl, rfl, rfl⟩ | (exfalso; omega)
            · skip
              refine pw_tab1 (4) 122 dX10_searched_33 (by omega) (by omega) (by omega) rfl rfl (fun c33 => ?_) (fun c33_4 => ?_)
              · skip
                refine pw_aload_n 0 rfl dX10_searched_122 rfl ?_
                refine pw_aload_n 0 rfl dX10_searched_123 rfl ?_
                refine pw_callV (d' := d - 1) (As := []) (ci := 10) dX10_searched_124 ok_X10_isWhole kw_1513 rfl rfl (Of.o (by assumption)) (by omega) rfl (Nat.le_of_ble_eq_true rfl) (r_isWhole (d - 1) (by omega) n ok _ hU) (Nat.le_refl _) (Or.inl rfl) (fun r ok1 mem1 hq => ?_)
                obtain ⟨rfl, rfl, rfl⟩ := hq
                refine pw_if_eq 134 (by decide) dX10_searched_127 (by split <;> omega) (fun c127 => ?_) (fun c127 => ?_)
                · skip
                  rw [bz_0] at c127
                  refine pw_iconst dX10_searched_134 ?_
                  refine pw_callV (d' := d - 1) (As := [_]) (ci := 10) dX10_searched_135 ok_X10_says kw_1265 rfl rfl (Of.o (by assumption)) (by omega) rfl (Nat.le_of_ble_eq_true rfl) (r_says (d - 1) (by omega) n ok _ hU _) (Nat.le_refl _) (Or.inl rfl) (fun r ok1 mem1 hq => ?_)
                  obtain ⟨rfl, rfl, rfl⟩ := hq
                  refine pw_iret dX10_searched_138 rfl rfl ?_
                  unfold rSearched; (repeat' split) <;> first | exact ⟨rfl, rfl, rfl⟩ | (exfalso; omega)
                · skip
                  rw [bz_n] at c127
                  refine pw_iconst dX10_searched_130 ?_
                  refine pw_goto 135 (by decide) dX10_searched_131 ?_
                  refine pw_callV (d' := d - 1) (As := [_]) (ci := 10) dX10_searched_135 ok_X10_says kw_1265 rfl rfl (Of.o (by assumption)) (by omega) rfl (Nat.le_of_ble_eq_true rfl) (r_says (d - 1) (by omega) n ok _ hU _) (Nat.le_refl _) (Or.inl rfl) (fun r ok1 mem1 hq => ?_)
                  obtain ⟨rfl, rfl, rfl⟩ := hq
                  refine pw_iret dX10_searched_138 rfl rfl ?_
                  unfold rSearched; (repeat' split) <;> first | exact ⟨rfl, rfl, rfl⟩ | (exfalso; omega)
              · skip
                refine pw_tab1 (5) 139 dX10_searched_33 (by omega) (by omega) (by omega) rfl rfl (fun c33 => ?_) (fun c33_5 => ?_)
                · skip
                  refine pw_aload_n 0 rfl dX10_searched_139 rfl ?_
                  refine pw_aload_n 0 rfl dX10_searched_140 rfl ?_
                  refine pw_gI 32 32 rfl dX10_searched_141 cOk10 (by assumption) (by decide) kw_1097 (by decide) (fun r141 => ?_)
                  refine pw_if_eq 151 (by decide) dX10_searched_144 (by omega) (fun c144 => ?_) (fun c144 => ?_)
                  · skip
                    refine pw_iconst dX10_searched_151 ?_
                    refine pw_callV (d' := d - 1) (As := [_]) (ci := 10) dX10_searched_152 ok_X10_says kw_1265 rfl rfl (Of.o (by assumption)) (by omega) rfl (Nat.le_of_ble_eq_true rfl) (r_says (d - 1) (by omega) n ok _ hU _) (Nat.le_refl _) (Or.inl rfl) (fun r ok1 mem1 hq => ?_)
                    obtain ⟨rfl, rfl, rfl⟩ := hq
                    refine pw_iret dX10_searched_155 rfl rfl ?_
                    unfold rSearched; (repeat' split) <;> first | exact ⟨rfl, rfl, rfl⟩ | (exfalso; omega)
                  · skip
                    refine pw_iconst dX10_searched_147 ?_
                    refine pw_goto 152 (by decide) dX10_searched_148 ?_
                    refine pw_callV (d' := d - 1) (As := [_]) (ci := 10) dX10_searched_152 ok_X10_says kw_1265 rfl rfl (Of.o (by assumption)) (by omega) rfl (Nat.le_of_ble_eq_true rfl) (r_says (d - 1) (by omega) n ok _ hU _) (Nat.le_refl _) (Or.inl rfl) (fun r ok1 mem1 hq => ?_)
                    obtain ⟨rfl, rfl, rfl⟩ := hq
                    refine pw_iret dX10_searched_155 rfl rfl ?_
                    unfold rSearched; (repeat' split) <;> first | exact ⟨rfl, rfl, rfl⟩ | (exfalso; omega)
                · skip
                  refine pw_tableOut 156 dX10_searched_33 (by omega) (by omega) rfl ?_
                  refine pw_aload_n 0 rfl dX10_searched_156 rfl ?_
                  refine pw_aload_n 0 rfl dX10_searched_157 rfl ?_
                  refine pw_gR 37 108 dX10_searched_158 cOk10 (by assumption) (by decide) kw_1102 (by decide) rfl ?_
                  refine pw_iconst dX10_searched_161 ?_
                  refine pw_iaload dX10_searched_162 (by assumption) (by omega) (by omega) (fun r162 => ?_)
                  refine pw_callV (d' := d - 1) (As := [_]) (ci := 10) dX10_searched_163 ok_X10_says kw_1265 rfl rfl (Of.o (by assumption)) (by omega) rfl (Nat.le_of_ble_eq_true rfl) (r_says (d - 1) (by omega) n ok _ hU _) (Nat.le_refl _) (Or.inl rfl) (fun r ok1 mem1 hq => ?_)
                  obtain ⟨rfl, rfl, rfl⟩ := hq
                  refine pw_iret dX10_searched_166 rfl rfl ?_
                  unfold rSearched; (repeat' split) <;> first | exact ⟨rfl, rfl, rfl⟩ | (exfalso; omega)
    · skip
      refine pw_aload_n 0 rfl dX10_searched_26 rfl ?_
      refine pw_iconst dX10_searched_27 ?_
      refine pw_callV (d' := d - 1) (As := [_]) (ci := 10) dX10_searched_28 ok_X10_says kw_1265 rfl rfl (Of.o (by assumption)) (by omega) rfl (Nat.le_of_ble_eq_true rfl) (r_says (d - 1) (by omega) n ok _ hU _) (Nat.le_refl _) (Or.inl rfl) (fun r ok1 mem1 hq => ?_)
      obtain ⟨rfl, rfl, rfl⟩ := hq
      refine pw_iret dX10_searched_31 rfl rfl ?_
      unfold rSearched; (repeat' split) <;> first | exact ⟨rfl, rfl, rfl⟩ | (exfalso; omega)
  · skip
    rw [bz_0] at c9
    refine pw_aload_n 0 rfl dX10_searched_12 rfl ?_
    refine pw_bipush dX10_searched_13 (by decide) ?_
    refine pw_callV (d' := d - 1) (As := [_]) (ci := 10) dX10_searched_15 ok_X10_refuses kw_1249 rfl rfl (Of.o (by assumption)) (by omega) rfl (Nat.le_of_ble_eq_true rfl) (r_refuses (d - 1) (by omega) n ok _ hU _ (by omega)) (Nat.le_refl _) (Or.inl rfl) (fun r ok1 mem1 hq => ?_)
    obtain ⟨rfl, rfl, rfl⟩ := hq
    refine pw_iret dX10_searched_18 rfl rfl ?_
    unfold rSearched; (repeat' split) <;> first | exact ⟨rfl, rfl, rfl⟩ | (exfalso; omega)
def ancG (m : pM) : Nat → Int → Int
  | 0, q => q
  | k + 1, q => ancG m k (m 112 q)
/-- the order behind k moves of the way; -1: none -/
def wOrd (m : pM) (k : Int) : Int := if m 88 31 ≠ 0 ∧ m 88 36 ≠ -1 ∧ 0 ≤ k ∧ k ≤ m 109 (m 108 (m 88 36)) then ancG m (m 109 (m 108 (m 88 36)) - k).toNat (m 88 36) else -1
theorem anc_ran {m : pM} (h : SIs m) (k : Nat) (q : Int) (h1 : 0 ≤ q) (h2 : q < m 88 34) (h3 : (k : Int) ≤ m 109 (m 108 q)) : 0 ≤ ancG m k q ∧ ancG m k q < m 88 34 := by
  induction k generalizing q with
  | zero => exact ⟨h1, h2⟩
  | succ k ih =>
    have e := h.2.2.2.1 q h1 h2 (by omega)
    exact ih (m 112 q) e.1 (by omega) (by omega)
theorem wOrd_ran {m : pM} (h : SI m) (k : Int) : wOrd m k = -1 ∨ (0 ≤ wOrd m k ∧ wOrd m k < m 88 34 ∧ m 88 31 ≠ 0) := by
  unfold wOrd
  by_cases e : m 88 31 ≠ 0 ∧ m 88 36 ≠ -1 ∧ 0 ≤ k ∧ k ≤ m 109 (m 108 (m 88 36))
  · rw [if_pos e]
    have hs := h e.1
    have h1 := hs.1
    have := anc_ran hs (m 109 (m 108 (m 88 36)) - k).toNat (m 88 36) (by omega) (by omega) (by omega)
    exact Or.inr ⟨this.1, this.2, e.1⟩
  · rw [if_neg e]; exact Or.inl rfl
set_option maxHeartbeats 4000000 in
set_option maxRecDepth 100000 in
theorem r_onWay (d : Nat) (hd : 1 ≤ d) (n : Nat) (ok : pO) (mem : pM) (hU : RefUp n ok) (k : Int) (hk : -2147483648 ≤ k ∧ k ≤ 2147483647) (hsi : SI mem) : PM mi_X10_onWay d [vr 88, vi k] n ok mem n (fun r ok' mem' => r = some (vi (wOrd mem k)) ∧ ok = ok' ∧ mem = mem') := by
  obtain ⟨hO, ⟨a89, a90, a91, a92, a93, a94, a95, a96, a97, a98⟩, ⟨a99, a100, a101, a102, a103, a104, a105, a106, a107⟩, ⟨a108, a109, a110, a111, a112, a113, a114, a115, a116, a117, a118, a119⟩, a120, a121, a122⟩ := id hU
  refine PM.of (by decide) (by decide) (Nat.le_refl _) (Nat.le_of_ble_eq_true rfl) ?_
  refine pw_aload_n 0 rfl dX10_onWay_0 rfl ?_
  refine pw_gI 31 31 rfl dX10_onWay_1 cOk10 (by assumption) (by decide) kw_1096 (by decide) (fun r1 => ?_)
  refine pw_if_eq 32 (by decide) dX10_onWay_4 (by omega) (fun c4 => ?_) (fun c4 => ?_)
  · skip
    refine pw_iconst dX10_onWay_32 ?_
    refine pw_istore_n 2 rfl dX10_onWay_33 (by decide) ?_
    refine pw_iload_n 1 rfl dX10_onWay_34 rfl ?_
    refine pw_i2l dX10_onWay_35 (by omega) ?_
    refine pw_lconst (x := 0) dX10_onWay_36 (by decide) ?_
    refine pw_iload_n 2 rfl dX10_onWay_37 rfl ?_
    refine pw_i2l dX10_onWay_38 (by omega) ?_
    refine pw_callS (d' := d - 1) (As := [_, _, _]) dX10_onWay_39 ok_X10_in kw_1245 (by omega) rfl (Nat.le_of_ble_eq_true rfl) (r_in (d - 1) (by omega) n ok _ _ _ _ (by omega) (by omega) (by omega)) (Nat.le_refl _) (Or.inl rfl) (fun r ok1 mem1 hq => ?_)
    obtain ⟨rfl, rfl, rfl⟩ := hq
    refine pw_if_ne 47 (by decide) dX10_onWay_42 (by split <;> omega) (fun c42 => ?_) (fun c42 => ?_)
    · skip
      rw [ne_eq, bz_n] at c42; omega
    · skip
      rw [bz_0] at c42
      refine pw_iconst dX10_onWay_45 ?_
      refine pw_iret dX10_onWay_46 rfl rfl ?_
      have e9 : wOrd mem k = -1 := by unfold wOrd; exact if_neg (by omega)
      rw [e9]; exact ⟨rfl, rfl, rfl⟩
  · skip
    have hs9 := (hsi c4).1
    have hs8 := (hsi c4).2.1 (mem 88 36)
    refine pw_aload_n 0 rfl dX10_onWay_7 rfl ?_
    refine pw_gI 36 36 rfl dX10_onWay_8 cOk10 (by assumption) (by decide) kw_1101 (by decide) (fun r8 => ?_)
    refine pw_iconst dX10_onWay_11 ?_
    refine pw_icmp_eq 32 (by decide) dX10_onWay_12 (by omega) (by omega) (fun c12 => ?_) (fun c12 => ?_)
    · skip
      refine pw_iconst dX10_onWay_32 ?_
      refine pw_istore_n 2 rfl dX10_onWay_33 (by decide) ?_
      refine pw_iload_n 1 rfl dX10_onWay_34 rfl ?_
      refine pw_i2l dX10_onWay_35 (by omega) ?_
      refine pw_lconst (x := 0) dX10_onWay_36 (by decide) ?_
      refine pw_iload_n 2 rfl dX10_onWay_37 rfl ?_
      refine pw_i2l dX10_onWay_38 (by omega) ?_
      refine pw_callS (d' := d - 1) (As := [_, _, _]) dX10_onWay_39 ok_X10_in kw_1245 (by omega) rfl (Nat.le_of_ble_eq_true rfl) (r_in (d - 1) (by omega) n ok _ _ _ _ (by omega) (by omega) (by omega)) (Nat.le_refl _) (Or.inl rfl) (fun r ok1 mem1 hq => ?_)
      obtain ⟨rfl, rfl, rfl⟩ := hq
      refine pw_if_ne 47 (by decide) dX10_onWay_42 (by split <;> omega) (fun c42 => ?_) (fun c42 => ?_)
      · skip
        rw [ne_eq, bz_n] at c42; omega
      · skip
        rw [bz_0] at c42
        refine pw_iconst dX10_onWay_45 ?_
        refine pw_iret dX10_onWay_46 rfl rfl ?_
        have e9 : wOrd mem k = -1 := by unfold wOrd; exact if_neg (by omega)
        rw [e9]; exact ⟨rfl, rfl, rfl⟩
    · skip
      refine pw_aload_n 0 rfl dX10_onWay_15 rfl ?_
      refine pw_gR 38 109 dX10_onWay_16 cOk10 (by assumption) (by decide) kw_1103 (by decide) rfl ?_
      refine pw_aload_n 0 rfl dX10_onWay_19 rfl ?_
      refine pw_gR 37 108 dX10_onWay_20 cOk10 (by assumption) (by decide) kw_1102 (by decide) rfl ?_
      refine pw_aload_n 0 rfl dX10_onWay_23 rfl ?_
      refine pw_gI 36 36 rfl dX10_onWay_24 cOk10 (by assumption) (by decide) kw_1101 (by decide) (fun r24 => ?_)
      refine pw_iaload dX10_onWay_27 (by assumption) (by omega) (by omega) (fun r27 => ?_)
      refine pw_iaload dX10_onWay_28 (by assumption) (by omega) (by omega) (fun r28 => ?_)
      refine pw_goto 33 (by decide) dX10_onWay_29 ?_
      refine pw_istore_n 2 rfl dX10_onWay_33 (by decide) ?_
      refine pw_iload_n 1 rfl dX10_onWay_34 rfl ?_
      refine pw_i2l dX10_onWay_35 (by omega) ?_
      refine pw_lconst (x := 0) dX10_onWay_36 (by decide) ?_
      refine pw_iload_n 2 rfl dX10_onWay_37 rfl ?_
      refine pw_i2l dX10_onWay_38 (by omega) ?_
      refine pw_callS (d' := d - 1) (As := [_, _, _]) dX10_onWay_39 ok_X10_in kw_1245 (by omega) rfl (Nat.le_of_ble_eq_true rfl) (r_in (d - 1) (by omega) n ok _ _ _ _ (by omega) (by omega) (by omega)) (Nat.le_refl _) (Or.inl rfl) (fun r ok1 mem1 hq => ?_)
      obtain ⟨rfl, rfl, rfl⟩ := hq
      refine pw_if_ne 47 (by decide) dX10_onWay_42 (by split <;> omega) (fun c42 => ?_) (fun c42 => ?_)
      · skip
        rw [ne_eq, bz_n] at c42
        refine pw_aload_n 0 rfl dX10_onWay_47 rfl ?_
        refine pw_gI 36 36 rfl dX10_onWay_48 cOk10 (by assumption) (by decide) kw_1101 (by decide) (fun r48 => ?_)
        refine pw_istore_n 3 rfl dX10_onWay_51 (by decide) ?_
        refine pw_iload_n 2 rfl dX10_onWay_52 rfl ?_
        refine pw_istore dX10_onWay_53 (by decide) ?_
        have hs := hsi c4
        have lp55 : ∀ (kz : Nat) (i : Nat) (q j : Int), (i : Int) < (kz : Int) → (j = k + i) → (wOrd mem k = ancG mem i q) → (0 ≤ q) → (q < mem 88 34) → (mem 109 (mem 108 q) = j) → PW mi_X10_onWay d n n (fun r ok' mem' => r = some (vi (wOrd mem k)) ∧ ok = ok' ∧ mem = mem') 55 [(0, vr 88), (1, vi k), (2, vi (mem 109 (mem 108 (mem 88 36)))), (3, vi q), (4, vi j)] [] n ok mem := by
          intro kz
          induction kz with
          | zero =>
            intro i q j hk h1 h2 h3 h4 h5
            exact absurd hk (by omega)
          | succ kz ih =>
            intro i q j hk h1 h2 h3 h4 h5
            have hj := (hs.2.1 q h3 h4).2.2.2
            refine pw_iload dX10_onWay_55 rfl ?_
            refine pw_iload_n 1 rfl dX10_onWay_57 rfl ?_
            refine pw_icmp_le 74 (by decide) dX10_onWay_58 (by omega) (by omega) (fun c58 => ?_) (fun c58 => ?_)
            · skip
              have ei : i = 0 := by omega
              subst ei
              refine pw_iload_n 3 rfl dX10_onWay_74 rfl ?_
              refine pw_iret dX10_onWay_75 rfl rfl ?_
              rw [h2]; exact ⟨rfl, rfl, rfl⟩
            · skip
              have e3 := hs.2.2.2.1 q h3 h4 (by omega)
              obtain ⟨i, rfl⟩ : ∃ i1, i = i1 + 1 := ⟨i - 1, by omega⟩
              refine pw_aload_n 0 rfl dX10_onWay_61 rfl ?_
              refine pw_gR 41 112 dX10_onWay_62 cOk10 (by assumption) (by decide) kw_1106 (by decide) rfl ?_
              refine pw_iload_n 3 rfl dX10_onWay_65 rfl ?_
              refine pw_iaload dX10_onWay_66 (by assumption) (by omega) (by omega) (fun r66 => ?_)
              try simp (disch := omega) only [wr_s, wr_a, wr_k] at r66 ⊢
              refine pw_istore_n 3 rfl dX10_onWay_67 (by decide) ?_
              refine pw_iinc dX10_onWay_68 rfl (by decide) ?_
              refine pw_goto 55 (by decide) dX10_onWay_71 ?_
              exact pw_locs _ rfl (ih i (mem 112 q) (j - 1) (by omega) (by omega) (by rw [h2]; rfl) (by omega) (by omega) (by omega))
        exact pw_locs _ rfl (lp55 ((mem 109 (mem 108 (mem 88 36)) - k).toNat + 1) (mem 109 (mem 108 (mem 88 36)) - k).toNat (mem 88 36) (mem 109 (mem 108 (mem 88 36))) (by omega) (by omega) (by unfold wOrd; exact if_pos (by omega)) (by omega) (by omega) rfl)
      · skip
        rw [bz_0] at c42
        refine pw_iconst dX10_onWay_45 ?_
        refine pw_iret dX10_onWay_46 rfl rfl ?_
        have e9 : wOrd mem k = -1 := by unfold wOrd; exact if_neg (by omega)
        rw [e9]; exact ⟨rfl, rfl, rfl⟩
def rWay (m : pM) (k : Int) : Int × pM := rSay m (if k = 2147483647 ∨ k < 0 then -1 else if wOrd m (k + 1) = -1 then -1 else m 113 (wOrd m (k + 1)))
def rAlong (m : pM) (k : Int) : Int × pM := rSay m (if wOrd m k = -1 then -1 else m 108 (wOrd m k))
set_option maxHeartbeats 4000000 in
set_option maxRecDepth 100000 in
theorem r_way (d : Nat) (hd : 3 ≤ d) (n : Nat) (ok : pO) (mem : pM) (hU : RefUp n ok) (k : Int) (hk : -2147483648 ≤ k ∧ k ≤ 2147483647) (hsi : SI mem) : PM mi_X10_way d [vr 88, vi k] n ok mem n (fun r ok' mem' => r = some (vi (rWay mem k).1) ∧ ok = ok' ∧ (rWay mem k).2 = mem') := by
  obtain ⟨hO, ⟨a89, a90, a91, a92, a93, a94, a95, a96, a97, a98⟩, ⟨a99, a100, a101, a102, a103, a104, a105, a106, a107⟩, ⟨a108, a109, a110, a111, a112, a113, a114, a115, a116, a117, a118, a119⟩, a120, a121, a122⟩ := id hU
  refine PM.of (by decide) (by decide) (Nat.le_refl _) (Nat.le_of_ble_eq_true rfl) ?_
  refine pw_iload_n 1 rfl dX10_way_0 rfl ?_
  refine pw_ldc_w (x := 2147483647) kw_1542 (by decide) dX10_way_1 ?_
  refine pw_icmp_eq 11 (by decide) dX10_way_4 (by omega) (by omega) (fun c4 => ?_) (fun c4 => ?_)
  · skip
    refine pw_iconst dX10_way_11 ?_
    refine pw_goto 22 (by decide) dX10_way_12 ?_
    refine pw_istore_n 2 rfl dX10_way_22 (by decide) ?_
    refine pw_aload_n 0 rfl dX10_way_23 rfl ?_
    refine pw_iload_n 2 rfl dX10_way_24 rfl ?_
    refine pw_iconst dX10_way_25 ?_
    refine pw_icmp_ne 33 (by decide) dX10_way_26 (by omega) (by omega) (fun c26 => ?_) (fun c26 => ?_)
    · skip
      exfalso; omega
    · skip
      refine pw_iconst dX10_way_29 ?_
      refine pw_goto 39 (by decide) dX10_way_30 ?_
      refine pw_callV (d' := d - 1) (As := [_]) (ci := 10) dX10_way_39 ok_X10_says kw_1265 rfl rfl (Of.o (by assumption)) (by omega) rfl (Nat.le_of_ble_eq_true rfl) (r_says (d - 1) (by omega) n ok _ hU _) (Nat.le_refl _) (Or.inl rfl) (fun r ok1 mem1 hq => ?_)
      obtain ⟨rfl, rfl, rfl⟩ := hq
      refine pw_iret dX10_way_42 rfl rfl ?_
      unfold rWay; (repeat' split) <;> first | exact ⟨rfl, rfl, rfl⟩ | (exfalso; omega)
  · skip
    refine pw_iload_n 1 rfl dX10_way_7 rfl ?_
    refine pw_if_ge 15 (by decide) dX10_way_8 (by omega) (fun c8 => ?_) (fun c8 => ?_)
    · skip
      refine pw_aload_n 0 rfl dX10_way_15 rfl ?_
      refine pw_iload_n 1 rfl dX10_way_16 rfl ?_
      refine pw_iconst dX10_way_17 ?_
      refine pw_iadd dX10_way_18 ?_
      refine pw_callV (d' := d - 1) (As := [_]) (ci := 10) dX10_way_19 ok_X10_onWay kw_1543 rfl rfl (Of.o (by assumption)) (by omega) rfl (Nat.le_of_ble_eq_true rfl) (r_onWay (d - 1) (by omega) n ok _ hU _ (by omega) hsi) (Nat.le_refl _) (Or.inl rfl) (fun r ok1 mem1 hq => ?_)
      obtain ⟨rfl, rfl, rfl⟩ := hq
      have hw := wOrd_ran hsi (k + 1)
      have hw2 : wOrd mem (k + 1) ≠ -1 → mem 88 34 ≤ 1024 := fun q => (hsi (by omega)).1.2.1
      refine pw_istore_n 2 rfl dX10_way_22 (by decide) ?_
      refine pw_aload_n 0 rfl dX10_way_23 rfl ?_
      refine pw_iload_n 2 rfl dX10_way_24 rfl ?_
      refine pw_iconst dX10_way_25 ?_
      refine pw_icmp_ne 33 (by decide) dX10_way_26 (by omega) (by omega) (fun c26 => ?_) (fun c26 => ?_)
      · skip
        refine pw_aload_n 0 rfl dX10_way_33 rfl ?_
        refine pw_gR 42 113 dX10_way_34 cOk10 (by assumption) (by decide) kw_1107 (by decide) rfl ?_
        refine pw_iload_n 2 rfl dX10_way_37 rfl ?_
        refine pw_iaload dX10_way_38 (by assumption) (by omega) (by omega) (fun r38 => ?_)
        refine pw_callV (d' := d - 1) (As := [_]) (ci := 10) dX10_way_39 ok_X10_says kw_1265 rfl rfl (Of.o (by assumption)) (by omega) rfl (Nat.le_of_ble_eq_true rfl) (r_says (d - 1) (by omega) n ok _ hU _) (Nat.le_refl _) (Or.inl rfl) (fun r ok1 mem1 hq => ?_)
        obtain ⟨rfl, rfl, rfl⟩ := hq
        refine pw_iret dX10_way_42 rfl rfl ?_
        unfold rWay; (repeat' split) <;> first | exact ⟨rfl, rfl, rfl⟩ | (exfalso; omega)
      · skip
        refine pw_iconst dX10_way_29 ?_
        refine pw_goto 39 (by decide) dX10_way_30 ?_
        refine pw_callV (d' := d - 1) (As := [_]) (ci := 10) dX10_way_39 ok_X10_says kw_1265 rfl rfl (Of.o (by assumption)) (by omega) rfl (Nat.le_of_ble_eq_true rfl) (r_says (d - 1) (by omega) n ok _ hU _) (Nat.le_refl _) (Or.inl rfl) (fun r ok1 mem1 hq => ?_)
        obtain ⟨rfl, rfl, rfl⟩ := hq
        refine pw_iret dX10_way_42 rfl rfl ?_
        unfold rWay; (repeat' split) <;> first | exact ⟨rfl, rfl, rfl⟩ | (exfalso; omega)
    · skip
      refine pw_iconst dX10_way_11 ?_
      refine pw_goto 22 (by decide) dX10_way_12 ?_
      refine pw_istore_n 2 rfl dX10_way_22 (by decide) ?_
      refine pw_aload_n 0 rfl dX10_way_23 rfl ?_
      refine pw_iload_n 2 rfl dX10_way_24 rfl ?_
      refine pw_iconst dX10_way_25 ?_
      refine pw_icmp_ne 33 (by decide) dX10_way_26 (by omega) (by omega) (fun c26 => ?_) (fun c26 => ?_)
      · skip
        exfalso; omega
      · skip
        refine pw_iconst dX10_way_29 ?_
        refine pw_goto 39 (by decide) dX10_way_30 ?_
        refine pw_callV (d' := d - 1) (As := [_]) (ci := 10) dX10_way_39 ok_X10_says kw_1265 rfl rfl (Of.o (by assumption)) (by omega) rfl (Nat.le_of_ble_eq_true rfl) (r_says (d - 1) (by omega) n ok _ hU _) (Nat.le_refl _) (Or.inl rfl) (fun r ok1 mem1 hq => ?_)
        obtain ⟨rfl, rfl, rfl⟩ := hq
        refine pw_iret dX10_way_42 rfl rfl ?_
        unfold rWay; (repeat' split) <;> first | exact ⟨rfl, rfl, rfl⟩ | (exfalso; omega)
set_option maxHeartbeats 4000000 in
set_option maxRecDepth 100000 in
theorem r_along (d : Nat) (hd : 3 ≤ d) (n : Nat) (ok : pO) (mem : pM) (hU : RefUp n ok) (k : Int) (hk : -2147483648 ≤ k ∧ k ≤ 2147483647) (hsi : SI mem) : PM mi_X10_along d [vr 88, vi k] n ok mem n (fun r ok' mem' => r = some (vi (rAlong mem k).1) ∧ ok = ok' ∧ (rAlong mem k).2 = mem') := by
  obtain ⟨hO, ⟨a89, a90, a91, a92, a93, a94, a95, a96, a97, a98⟩, ⟨a99, a100, a101, a102, a103, a104, a105, a106, a107⟩, ⟨a108, a109, a110, a111, a112, a113, a114, a115, a116, a117, a118, a119⟩, a120, a121, a122⟩ := id hU
  refine PM.of (by decide) (by decide) (Nat.le_refl _) (Nat.le_of_ble_eq_true rfl) ?_
  refine pw_aload_n 0 rfl dX10_along_0 rfl ?_
  refine pw_iload_n 1 rfl dX10_along_1 rfl ?_
  refine pw_callV (d' := d - 1) (As := [_]) (ci := 10) dX10_along_2 ok_X10_onWay kw_1543 rfl rfl (Of.o (by assumption)) (by omega) rfl (Nat.le_of_ble_eq_true rfl) (r_onWay (d - 1) (by omega) n ok _ hU _ (by omega) hsi) (Nat.le_refl _) (Or.inl rfl) (fun r ok1 mem1 hq => ?_)
  obtain ⟨rfl, rfl, rfl⟩ := hq
  have hw := wOrd_ran hsi k
  have hw2 : wOrd mem k ≠ -1 → mem 88 34 ≤ 1024 := fun q => (hsi (by omega)).1.2.1
  refine pw_istore_n 2 rfl dX10_along_5 (by decide) ?_
  refine pw_aload_n 0 rfl dX10_along_6 rfl ?_
  refine pw_iload_n 2 rfl dX10_along_7 rfl ?_
  refine pw_iconst dX10_along_8 ?_
  refine pw_icmp_ne 16 (by decide) dX10_along_9 (by omega) (by omega) (fun c9 => ?_) (fun c9 => ?_)
  · skip
    refine pw_aload_n 0 rfl dX10_along_16 rfl ?_
    refine pw_gR 37 108 dX10_along_17 cOk10 (by assumption) (by decide) kw_1102 (by decide) rfl ?_
    refine pw_iload_n 2 rfl dX10_along_20 rfl ?_
    refine pw_iaload dX10_along_21 (by assumption) (by omega) (by omega) (fun r21 => ?_)
    refine pw_callV (d' := d - 1) (As := [_]) (ci := 10) dX10_along_22 ok_X10_says kw_1265 rfl rfl (Of.o (by assumption)) (by omega) rfl (Nat.le_of_ble_eq_true rfl) (r_says (d - 1) (by omega) n ok _ hU _) (Nat.le_refl _) (Or.inl rfl) (fun r ok1 mem1 hq => ?_)
    obtain ⟨rfl, rfl, rfl⟩ := hq
    refine pw_iret dX10_along_25 rfl rfl ?_
    unfold rAlong; (repeat' split) <;> first | exact ⟨rfl, rfl, rfl⟩ | (exfalso; omega)
  · skip
    refine pw_iconst dX10_along_12 ?_
    refine pw_goto 22 (by decide) dX10_along_13 ?_
    refine pw_callV (d' := d - 1) (As := [_]) (ci := 10) dX10_along_22 ok_X10_says kw_1265 rfl rfl (Of.o (by assumption)) (by omega) rfl (Nat.le_of_ble_eq_true rfl) (r_says (d - 1) (by omega) n ok _ hU _) (Nat.le_refl _) (Or.inl rfl) (fun r ok1 mem1 hq => ?_)
    obtain ⟨rfl, rfl, rfl⟩ := hq
    refine pw_iret dX10_along_25 rfl rfl ?_
    unfold rAlong; (repeat' split) <;> first | exact ⟨rfl, rfl, rfl⟩ | (exfalso; omega)
def rCpT (m : pM) (c a i b j k : Int) : Int × pM :=
  if ¬ ((0 ≤ c ∧ c ≤ 2) ∧ 0 ≤ a ∧ a < m 94 c) ∨ ¬ ((0 ≤ c ∧ c ≤ 2) ∧ 0 ≤ b ∧ b < m 94 c) then rRef m (-2) else if m 97 (40 * c + a) = -1 ∨ m 97 (40 * c + b) = -1 then rMet m 1
  else if i < 0 ∨ j < 0 ∨ k < 0 ∨ m 97 (40 * c + a) < i + k ∨ m 97 (40 * c + b) < j + k then rMet m 2
  else rSay (rChg (bcM (bcM m 104 0 k (fun t => m 98 (6 * (40 * c + b) + j + t))) 98 (6 * (40 * c + a) + i) k (fun t => m 98 (6 * (40 * c + b) + j + t))) c) k
set_option maxHeartbeats 4000000 in
set_option maxRecDepth 100000 in
theorem r_copyTruths (d : Nat) (hd : 3 ≤ d) (n : Nat) (ok : pO) (mem : pM) (hU : RefUp n ok) (c a i b j k : Int) (hc : -2147483648 ≤ c ∧ c ≤ 2147483647) (ha : -2147483648 ≤ a ∧ a ≤ 2147483647) (hi : -2147483648 ≤ i ∧ i ≤ 2147483647) (hb : -2147483648 ≤ b ∧ b ≤ 2147483647) (hj : -2147483648 ≤ j ∧ j ≤ 2147483647) (hk : -2147483648 ≤ k ∧ k ≤ 2147483647) (hn : ∀ c, 0 ≤ c → c ≤ 2 → 0 ≤ mem 94 c ∧ mem 94 c ≤ 40) (hm : ∀ c k, 0 ≤ c → c ≤ 2 → 0 ≤ k → k < mem 94 c → -1 ≤ mem 97 (40 * c + k) ∧ mem 97 (40 * c + k) ≤ 6) : PM mi_X10_copyTruths d [vr 88, vi c, vi a, vi i, vi b, vi j, vi k] n ok mem n (fun r ok' mem' => r = some (vi (rCpT mem c a i b j k).1) ∧ ok = ok' ∧ (rCpT mem c a i b j k).2 = mem') := by
  obtain ⟨hO, ⟨a89, a90, a91, a92, a93, a94, a95, a96, a97, a98⟩, ⟨a99, a100, a101, a102, a103, a104, a105, a106, a107⟩, ⟨a108, a109, a110, a111, a112, a113, a114, a115, a116, a117, a118, a119⟩, a120, a121, a122⟩ := id hU
  refine PM.of (by decide) (by decide) (Nat.le_refl _) (Nat.le_of_ble_eq_true rfl) ?_
  refine pw_aload_n 0 rfl dX10_copyTruths_0 rfl ?_
  refine pw_iload_n 1 rfl dX10_copyTruths_1 rfl ?_
  refine pw_iload_n 2 rfl dX10_copyTruths_2 rfl ?_
  refine pw_callV (d' := d - 1) (As := [_, _]) (ci := 10) dX10_copyTruths_3 ok_X10_isCondition kw_1312 rfl rfl (Of.o (by assumption)) (by omega) rfl (Nat.le_of_ble_eq_true rfl) (r_isCondition (d - 1) (by omega) n ok _ hU _ _ (by omega) (by omega) hn) (Nat.le_refl _) (Or.inl rfl) (fun r ok1 mem1 hq => ?_)
  obtain ⟨rfl, rfl, rfl⟩ := hq
  refine pw_if_eq 19 (by decide) dX10_copyTruths_6 (by split <;> omega) (fun c6 => ?_) (fun c6 => ?_)
  · skip
    rw [bz_0] at c6
    refine pw_aload_n 0 rfl dX10_copyTruths_19 rfl ?_
    refine pw_bipush dX10_copyTruths_20 (by decide) ?_
    refine pw_callV (d' := d - 1) (As := [_]) (ci := 10) dX10_copyTruths_22 ok_X10_refuses kw_1249 rfl rfl (Of.o (by assumption)) (by omega) rfl (Nat.le_of_ble_eq_true rfl) (r_refuses (d - 1) (by omega) n ok _ hU _ (by omega)) (Nat.le_refl _) (Or.inl rfl) (fun r ok1 mem1 hq => ?_)
    obtain ⟨rfl, rfl, rfl⟩ := hq
    refine pw_iret dX10_copyTruths_25 rfl rfl ?_
    unfold rCpT; (repeat' split) <;> first | exact ⟨rfl, rfl, rfl⟩ | (exfalso; omega)
  · skip
    rw [bz_n] at c6
    refine pw_aload_n 0 rfl dX10_copyTruths_9 rfl ?_
    refine pw_iload_n 1 rfl dX10_copyTruths_10 rfl ?_
    refine pw_iload dX10_copyTruths_11 rfl ?_
    refine pw_callV (d' := d - 1) (As := [_, _]) (ci := 10) dX10_copyTruths_13 ok_X10_isCondition kw_1312 rfl rfl (Of.o (by assumption)) (by omega) rfl (Nat.le_of_ble_eq_true rfl) (r_isCondition (d - 1) (by omega) n ok _ hU _ _ (by omega) (by omega) hn) (Nat.le_refl _) (Or.inl rfl) (fun r ok1 mem1 hq => ?_)
    obtain ⟨rfl, rfl, rfl⟩ := hq
    refine pw_if_ne 26 (by decide) dX10_copyTruths_16 (by split <;> omega) (fun c16 => ?_) (fun c16 => ?_)
    · skip
      rw [ne_eq, bz_n] at c16
      have hn9 := hn c (by omega) (by omega)
      have hma := hm c a (by omega) (by omega) (by omega) (by omega)
      have hmb := hm c b (by omega) (by omega) (by omega) (by omega)
      refine pw_bipush dX10_copyTruths_26 (by decide) ?_
      refine pw_iload_n 1 rfl dX10_copyTruths_28 rfl ?_
      refine pw_imul dX10_copyTruths_29 ?_
      refine pw_iload_n 2 rfl dX10_copyTruths_30 rfl ?_
      refine pw_iadd dX10_copyTruths_31 ?_
      refine pw_istore dX10_copyTruths_32 (by decide) ?_
      refine pw_bipush dX10_copyTruths_34 (by decide) ?_
      refine pw_iload_n 1 rfl dX10_copyTruths_36 rfl ?_
      refine pw_imul dX10_copyTruths_37 ?_
      refine pw_iload dX10_copyTruths_38 rfl ?_
      refine pw_iadd dX10_copyTruths_40 ?_
      refine pw_istore dX10_copyTruths_41 (by decide) ?_
      refine pw_aload_n 0 rfl dX10_copyTruths_43 rfl ?_
      refine pw_gR 12 97 dX10_copyTruths_44 cOk10 (by assumption) (by decide) kw_1077 (by decide) rfl ?_
      refine pw_iload dX10_copyTruths_47 rfl ?_
      refine pw_iaload dX10_copyTruths_49 (by assumption) (by omega) (by omega) (fun r49 => ?_)
      refine pw_iconst dX10_copyTruths_50 ?_
      refine pw_icmp_eq 65 (by decide) dX10_copyTruths_51 (by omega) (by omega) (fun c51 => ?_) (fun c51 => ?_)
      · skip
        refine pw_aload_n 0 rfl dX10_copyTruths_65 rfl ?_
        refine pw_iconst dX10_copyTruths_66 ?_
        refine pw_callV (d' := d - 1) (As := [_]) (ci := 10) dX10_copyTruths_67 ok_X10_meets kw_1253 rfl rfl (Of.o (by assumption)) (by omega) rfl (Nat.le_of_ble_eq_true rfl) (r_meets (d - 1) (by omega) n ok _ hU _ (by omega)) (Nat.le_refl _) (Or.inl rfl) (fun r ok1 mem1 hq => ?_)
        obtain ⟨rfl, rfl, rfl⟩ := hq
        refine pw_iret dX10_copyTruths_70 rfl rfl ?_
        unfold rCpT; (repeat' split) <;> first | exact ⟨rfl, rfl, rfl⟩ | (exfalso; omega)
      · skip
        refine pw_aload_n 0 rfl dX10_copyTruths_54 rfl ?_
        refine pw_gR 12 97 dX10_copyTruths_55 cOk10 (by assumption) (by decide) kw_1077 (by decide) rfl ?_
        refine pw_iload dX10_copyTruths_58 rfl ?_
        refine pw_iaload dX10_copyTruths_60 (by assumption) (by omega) (by omega) (fun r60 => ?_)
        refine pw_iconst dX10_copyTruths_61 ?_
        refine pw_icmp_ne 71 (by decide) dX10_copyTruths_62 (by omega) (by omega) (fun c62 => ?_) (fun c62 => ?_)
        · skip
          refine pw_iload_n 3 rfl dX10_copyTruths_71 rfl ?_
          refine pw_if_lt 122 (by decide) dX10_copyTruths_72 (by omega) (fun c72 => ?_) (fun c72 => ?_)
          · skip
            refine pw_aload_n 0 rfl dX10_copyTruths_122 rfl ?_
            refine pw_iconst dX10_copyTruths_123 ?_
            refine pw_callV (d' := d - 1) (As := [_]) (ci := 10) dX10_copyTruths_124 ok_X10_meets kw_1253 rfl rfl (Of.o (by assumption)) (by omega) rfl (Nat.le_of_ble_eq_true rfl) (r_meets (d - 1) (by omega) n ok _ hU _ (by omega)) (Nat.le_refl _) (Or.inl rfl) (fun r ok1 mem1 hq => ?_)
            obtain ⟨rfl, rfl, rfl⟩ := hq
            refine pw_iret dX10_copyTruths_127 rfl rfl ?_
            unfold rCpT; (repeat' split) <;> first | exact ⟨rfl, rfl, rfl⟩ | (exfalso; omega)
          · skip
            refine pw_iload dX10_copyTruths_75 rfl ?_
            refine pw_if_lt 122 (by decide) dX10_copyTruths_77 (by omega) (fun c77 => ?_) (fun c77 => ?_)
            · skip
              refine pw_aload_n 0 rfl dX10_copyTruths_122 rfl ?_
              refine pw_iconst dX10_copyTruths_123 ?_
              refine pw_callV (d' := d - 1) (As := [_]) (ci := 10) dX10_copyTruths_124 ok_X10_meets kw_1253 rfl rfl (Of.o (by assumption)) (by omega) rfl (Nat.le_of_ble_eq_true rfl) (r_meets (d - 1) (by omega) n ok _ hU _ (by omega)) (Nat.le_refl _) (Or.inl rfl) (fun r ok1 mem1 hq => ?_)
              obtain ⟨rfl, rfl, rfl⟩ := hq
              refine pw_iret dX10_copyTruths_127 rfl rfl ?_
              unfold rCpT; (repeat' split) <;> first | exact ⟨rfl, rfl, rfl⟩ | (exfalso; omega)
            · skip
              refine pw_iload dX10_copyTruths_80 rfl ?_
              refine pw_if_lt 122 (by decide) dX10_copyTruths_82 (by omega) (fun c82 => ?_) (fun c82 => ?_)
              · skip
                refine pw_aload_n 0 rfl dX10_copyTruths_122 rfl ?_
                refine pw_iconst dX10_copyTruths_123 ?_
                refine pw_callV (d' := d - 1) (As := [_]) (ci := 10) dX10_copyTruths_124 ok_X10_meets kw_1253 rfl rfl (Of.o (by assumption)) (by omega) rfl (Nat.le_of_ble_eq_true rfl) (r_meets (d - 1) (by omega) n ok _ hU _ (by omega)) (Nat.le_refl _) (Or.inl rfl) (fun r ok1 mem1 hq => ?_)
                obtain ⟨rfl, rfl, rfl⟩ := hq
                refine pw_iret dX10_copyTruths_127 rfl rfl ?_
                unfold rCpT; (repeat' split) <;> first | exact ⟨rfl, rfl, rfl⟩ | (exfalso; omega)
              · skip
                refine pw_iload_n 3 rfl dX10_copyTruths_85 rfl ?_
                refine pw_i2l dX10_copyTruths_86 (by omega) ?_
                refine pw_iload dX10_copyTruths_87 rfl ?_
                refine pw_i2l dX10_copyTruths_89 (by omega) ?_
                refine pw_ladd dX10_copyTruths_90 ?_
                refine pw_aload_n 0 rfl dX10_copyTruths_91 rfl ?_
                refine pw_gR 12 97 dX10_copyTruths_92 cOk10 (by assumption) (by decide) kw_1077 (by decide) rfl ?_
                refine pw_iload dX10_copyTruths_95 rfl ?_
                refine pw_iaload dX10_copyTruths_97 (by assumption) (by omega) (by omega) (fun r97 => ?_)
                refine pw_i2l dX10_copyTruths_98 (by omega) ?_
                refine pw_lcmp dX10_copyTruths_99 (by omega) (by omega) ?_
                refine pw_if_gt 122 (by decide) dX10_copyTruths_100 (by unfold lCmp; split <;> (try split) <;> omega) (fun c100 => ?_) (fun c100 => ?_)
                · skip
                  have e100 : mem 97 (40 * c + a) < i + k := by unfold lCmp at c100; split at c100 <;> (try split at c100) <;> omega
                  refine pw_aload_n 0 rfl dX10_copyTruths_122 rfl ?_
                  refine pw_iconst dX10_copyTruths_123 ?_
                  refine pw_callV (d' := d - 1) (As := [_]) (ci := 10) dX10_copyTruths_124 ok_X10_meets kw_1253 rfl rfl (Of.o (by assumption)) (by omega) rfl (Nat.le_of_ble_eq_true rfl) (r_meets (d - 1) (by omega) n ok _ hU _ (by omega)) (Nat.le_refl _) (Or.inl rfl) (fun r ok1 mem1 hq => ?_)
                  obtain ⟨rfl, rfl, rfl⟩ := hq
                  refine pw_iret dX10_copyTruths_127 rfl rfl ?_
                  unfold rCpT; (repeat' split) <;> first | exact ⟨rfl, rfl, rfl⟩ | (exfalso; omega)
                · skip
                  have e100 : i + k ≤ mem 97 (40 * c + a) := by unfold lCmp at c100; split at c100 <;> (try split at c100) <;> omega
                  refine pw_iload dX10_copyTruths_103 rfl ?_
                  refine pw_i2l dX10_copyTruths_105 (by omega) ?_
                  refine pw_iload dX10_copyTruths_106 rfl ?_
                  refine pw_i2l dX10_copyTruths_108 (by omega) ?_
                  refine pw_ladd dX10_copyTruths_109 ?_
                  refine pw_aload_n 0 rfl dX10_copyTruths_110 rfl ?_
                  refine pw_gR 12 97 dX10_copyTruths_111 cOk10 (by assumption) (by decide) kw_1077 (by decide) rfl ?_
                  refine pw_iload dX10_copyTruths_114 rfl ?_
                  refine pw_iaload dX10_copyTruths_116 (by assumption) (by omega) (by omega) (fun r116 => ?_)
                  refine pw_i2l dX10_copyTruths_117 (by omega) ?_
                  refine pw_lcmp dX10_copyTruths_118 (by omega) (by omega) ?_
                  refine pw_if_le 128 (by decide) dX10_copyTruths_119 (by unfold lCmp; split <;> (try split) <;> omega) (fun c119 => ?_) (fun c119 => ?_)
                  · skip
                    have e119 : j + k ≤ mem 97 (40 * c + b) := by unfold lCmp at c119; split at c119 <;> (try split at c119) <;> omega
                    refine pw_iconst dX10_copyTruths_128 ?_
                    refine pw_istore dX10_copyTruths_129 (by decide) ?_
                    have lp131 : ∀ (kz : Nat) (q : Nat) (m1 : pM), k - (q : Int) < (kz : Int) → ((q : Int) ≤ k) → (bcM mem 104 0 q (fun t => mem 98 (6 * (40 * c + b) + j + t)) = m1) → PW mi_X10_copyTruths d n n (fun r ok' mem' => r = some (vi (rCpT mem c a i b j k).1) ∧ ok = ok' ∧ (rCpT mem c a i b j k).2 = mem') 131 [(0, vr 88), (1, vi c), (2, vi a), (3, vi i), (4, vi b), (5, vi j), (6, vi k), (7, vi (40 * c + a)), (8, vi (40 * c + b)), (9, vi (q : Int))] [] n ok m1 := by
                      intro kz
                      induction kz with
                      | zero =>
                        intro q m1 hk h1 h2
                        exact absurd hk (by omega)
                      | succ kz ih =>
                        intro q m1 hk h1 h2
                        have e98 : m1 98 = mem 98 := by rw [← h2]; exact bcM_a _ _ _ _ (by omega)
                        refine pw_iload dX10_copyTruths_131 rfl ?_
                        refine pw_iload dX10_copyTruths_133 rfl ?_
                        refine pw_icmp_ge 167 (by decide) dX10_copyTruths_135 (by omega) (by omega) (fun c135 => ?_) (fun c135 => ?_)
                        · skip
                          have eq : (q : Int) = k := by omega
                          rw [eq] at h2
                          refine pw_iconst dX10_copyTruths_167 ?_
                          refine pw_istore dX10_copyTruths_168 (by decide) ?_
                          have lp170 : ∀ (kz2 : Nat) (q : Nat) (m2 : pM), k - (q : Int) < (kz2 : Int) → ((q : Int) ≤ k) → (bcM m1 98 (6 * (40 * c + a) + i) q (fun t => mem 98 (6 * (40 * c + b) + j + t)) = m2) → PW mi_X10_copyTruths d n n (fun r ok' mem' => r = some (vi (rCpT mem c a i b j k).1) ∧ ok = ok' ∧ (rCpT mem c a i b j k).2 = mem') 170 [(0, vr 88), (1, vi c), (2, vi a), (3, vi i), (4, vi b), (5, vi j), (6, vi k), (7, vi (40 * c + a)), (8, vi (40 * c + b)), (9, vi (q : Int))] [] n ok m2 := by
                            intro kz2
                            induction kz2 with
                            | zero =>
                              intro q m2 hk2 h3 h4
                              exact absurd hk2 (by omega)
                            | succ kz2 ih2 =>
                              intro q m2 hk2 h3 h4
                              have e104 : m2 104 = m1 104 := by rw [← h4]; exact bcM_a _ _ _ _ (by omega)
                              refine pw_iload dX10_copyTruths_170 rfl ?_
                              refine pw_iload dX10_copyTruths_172 rfl ?_
                              refine pw_icmp_ge 205 (by decide) dX10_copyTruths_174 (by omega) (by omega) (fun c174 => ?_) (fun c174 => ?_)
                              · skip
                                have eq2 : (q : Int) = k := by omega
                                rw [eq2] at h4
                                refine pw_aload_n 0 rfl dX10_copyTruths_205 rfl ?_
                                refine pw_iload_n 1 rfl dX10_copyTruths_206 rfl ?_
                                refine pw_callV (d' := d - 1) (As := [_]) (ci := 10) dX10_copyTruths_207 ok_X10_changed kw_1261 rfl rfl (Of.o (by assumption)) (by omega) rfl (Nat.le_of_ble_eq_true rfl) (r_changed (d - 1) (by omega) n ok _ hU _ (by omega)) (Nat.le_refl _) (Or.inl rfl) (fun r ok1 mem1 hq => ?_)
                                obtain ⟨rfl, rfl, rfl⟩ := hq
                                refine pw_aload_n 0 rfl dX10_copyTruths_210 rfl ?_
                                refine pw_iload dX10_copyTruths_211 rfl ?_
                                refine pw_callV (d' := d - 1) (As := [_]) (ci := 10) dX10_copyTruths_213 ok_X10_says kw_1265 rfl rfl (Of.o (by assumption)) (by omega) rfl (Nat.le_of_ble_eq_true rfl) (r_says (d - 1) (by omega) n ok _ hU _) (Nat.le_refl _) (Or.inl rfl) (fun r ok1 mem1 hq => ?_)
                                obtain ⟨rfl, rfl, rfl⟩ := hq
                                refine pw_iret dX10_copyTruths_216 rfl rfl ?_
                                rw [← h4, ← h2]
                                unfold rCpT; rw [if_neg (by omega), if_neg (by omega), if_neg (by omega)]
                                exact ⟨rfl, rfl, rfl⟩
                              · skip
                                refine pw_aload_n 0 rfl dX10_copyTruths_177 rfl ?_
                                refine pw_gR 13 98 dX10_copyTruths_178 cOk10 (by assumption) (by decide) kw_1078 (by decide) rfl ?_
                                refine pw_bipush dX10_copyTruths_181 (by decide) ?_
                                refine pw_iload dX10_copyTruths_183 rfl ?_
                                refine pw_imul dX10_copyTruths_185 ?_
                                refine pw_iload_n 3 rfl dX10_copyTruths_186 rfl ?_
                                refine pw_iadd dX10_copyTruths_187 ?_
                                refine pw_iload dX10_copyTruths_188 rfl ?_
                                refine pw_iadd dX10_copyTruths_190 ?_
                                refine pw_aload_n 0 rfl dX10_copyTruths_191 rfl ?_
                                refine pw_gR 20 104 dX10_copyTruths_192 cOk10 (by assumption) (by decide) kw_1085 (by decide) rfl ?_
                                refine pw_iload dX10_copyTruths_195 rfl ?_
                                refine pw_iaload dX10_copyTruths_197 (by assumption) (by omega) (by omega) (fun r197 => ?_)
                                try simp (disch := omega) only [wr_s, wr_a, wr_k] at r197 ⊢
                                rw [e104] at r197 ⊢
                                have e5 : m1 104 (q : Int) = mem 98 (6 * (40 * c + b) + j + q) := by rw [← h2, bcM_i _ _ _ _ _ _ (by omega) (by omega), Int.sub_zero]
                                rw [e5] at r197 ⊢
                                refine pw_iastore dX10_copyTruths_198 (by assumption) (by omega) (by omega) (by omega) ?_
                                refine pw_iinc dX10_copyTruths_199 rfl (by decide) ?_
                                refine pw_goto 170 (by decide) dX10_copyTruths_202 ?_
                                exact pw_locs _ rfl (ih2 (q + 1) _ (by omega) (by omega) (by rw [← h4]; exact (bcM_s m1 98 (6 * (40 * c + a) + i) q (fun t => mem 98 (6 * (40 * c + b) + j + t)) (by omega)).symm))
                          exact pw_locs _ rfl (lp170 (k.toNat + 1) 0 m1 (by omega) (by omega) (bcM_0 _ _ _ _))
                        · skip
                          refine pw_aload_n 0 rfl dX10_copyTruths_138 rfl ?_
                          refine pw_gR 20 104 dX10_copyTruths_139 cOk10 (by assumption) (by decide) kw_1085 (by decide) rfl ?_
                          refine pw_iload dX10_copyTruths_142 rfl ?_
                          refine pw_aload_n 0 rfl dX10_copyTruths_144 rfl ?_
                          refine pw_gR 13 98 dX10_copyTruths_145 cOk10 (by assumption) (by decide) kw_1078 (by decide) rfl ?_
                          refine pw_bipush dX10_copyTruths_148 (by decide) ?_
                          refine pw_iload dX10_copyTruths_150 rfl ?_
                          refine pw_imul dX10_copyTruths_152 ?_
                          refine pw_iload dX10_copyTruths_153 rfl ?_
                          refine pw_iadd dX10_copyTruths_155 ?_
                          refine pw_iload dX10_copyTruths_156 rfl ?_
                          refine pw_iadd dX10_copyTruths_158 ?_
                          refine pw_iaload dX10_copyTruths_159 (by assumption) (by omega) (by omega) (fun r159 => ?_)
                          try simp (disch := omega) only [wr_s, wr_a, wr_k] at r159 ⊢
                          rw [e98] at r159 ⊢
                          refine pw_iastore dX10_copyTruths_160 (by assumption) (by omega) (by omega) (by omega) ?_
                          refine pw_iinc dX10_copyTruths_161 rfl (by decide) ?_
                          refine pw_goto 131 (by decide) dX10_copyTruths_164 ?_
                          exact pw_locs _ rfl (ih (q + 1) _ (by omega) (by omega) (by rw [← h2]; have e5 := bcM_s mem 104 0 q (fun t => mem 98 (6 * (40 * c + b) + j + t)) (by omega); rw [Int.zero_add] at e5; exact e5.symm))
                    exact pw_locs _ rfl (lp131 (k.toNat + 1) 0 mem (by omega) (by omega) (bcM_0 _ _ _ _))
                  · skip
                    have e119 : mem 97 (40 * c + b) < j + k := by unfold lCmp at c119; split at c119 <;> (try split at c119) <;> omega
                    refine pw_aload_n 0 rfl dX10_copyTruths_122 rfl ?_
                    refine pw_iconst dX10_copyTruths_123 ?_
                    refine pw_callV (d' := d - 1) (As := [_]) (ci := 10) dX10_copyTruths_124 ok_X10_meets kw_1253 rfl rfl (Of.o (by assumption)) (by omega) rfl (Nat.le_of_ble_eq_true rfl) (r_meets (d - 1) (by omega) n ok _ hU _ (by omega)) (Nat.le_refl _) (Or.inl rfl) (fun r ok1 mem1 hq => ?_)
                    obtain ⟨rfl, rfl, rfl⟩ := hq
                    refine pw_iret dX10_copyTruths_127 rfl rfl ?_
                    unfold rCpT; (repeat' split) <;> first | exact ⟨rfl, rfl, rfl⟩ | (exfalso; omega)
        · skip
          refine pw_aload_n 0 rfl dX10_copyTruths_65 rfl ?_
          refine pw_iconst dX10_copyTruths_66 ?_
          refine pw_callV (d' := d - 1) (As := [_]) (ci := 10) dX10_copyTruths_67 ok_X10_meets kw_1253 rfl rfl (Of.o (by assumption)) (by omega) rfl (Nat.le_of_ble_eq_true rfl) (r_meets (d - 1) (by omega) n ok _ hU _ (by omega)) (Nat.le_refl _) (Or.inl rfl) (fun r ok1 mem1 hq => ?_)
          obtain ⟨rfl, rfl, rfl⟩ := hq
          refine pw_iret dX10_copyTruths_70 rfl rfl ?_
          unfold rCpT; (repeat' split) <;> first | exact ⟨rfl, rfl, rfl⟩ | (exfalso; omega)
    · skip
      rw [bz_0] at c16
      refine pw_aload_n 0 rfl dX10_copyTruths_19 rfl ?_
      refine pw_bipush dX10_copyTruths_20 (by decide) ?_
      refine pw_callV (d' := d - 1) (As := [_]) (ci := 10) dX10_copyTruths_22 ok_X10_refuses kw_1249 rfl rfl (Of.o (by assumption)) (by omega) rfl (Nat.le_of_ble_eq_true rfl) (r_refuses (d - 1) (by omega) n ok _ hU _ (by omega)) (Nat.le_refl _) (Or.inl rfl) (fun r ok1 mem1 hq => ?_)
      obtain ⟨rfl, rfl, rfl⟩ := hq
      refine pw_iret dX10_copyTruths_25 rfl rfl ?_
      unfold rCpT; (repeat' split) <;> first | exact ⟨rfl, rfl, rfl⟩ | (exfalso; omega)
