/-! ===== what is asked, simple ones ===== -/
def rProduct (m : pM) (c : Int) : Int × pM := if ¬ (0 ≤ c ∧ c ≤ 2) then rRef m (-2) else rSay m (aMul m c (-1) 16)
set_option maxHeartbeats 4000000 in
set_option maxRecDepth 100000 in
theorem r_product (d : Nat) (hd : 2 ≤ d) (n : Nat) (ok : pO) (mem : pM) (hU : RefUp n ok) (c : Int) (hc : -2147483648 ≤ c ∧ c ≤ 2147483647)  : PM mi_X10_product d [vr 88, vi c] n ok mem n (fun r ok' mem' => r = some (vi (rProduct mem c).1) ∧ ok = ok' ∧ (rProduct mem c).2 = mem') := by
  obtain ⟨hO, ⟨a89, a90, a91, a92, a93, a94, a95, a96, a97, a98⟩, ⟨a99, a100, a101, a102, a103, a104, a105, a106, a107⟩, ⟨a108, a109, a110, a111, a112, a113, a114, a115, a116, a117, a118, a119⟩, a120, a121, a122⟩ := id hU
  refine PM.of (by decide) (by decide) (Nat.le_refl _) (Nat.le_of_ble_eq_true rfl) ?_
  refine pw_iload_n 1 rfl dX10_product_0 rfl ?_
  refine pw_callS (d' := d - 1) (As := [_]) dX10_product_1 ok_X10_isChest kw_1241 (by omega) rfl (Nat.le_of_ble_eq_true rfl) (r_isChest (d - 1) (by omega) n ok _ _ (by omega)) (Nat.le_refl _) (Or.inl rfl) (fun r ok1 mem1 hq => ?_)
  obtain ⟨rfl, rfl, rfl⟩ := hq
  refine pw_if_eq 20 (by decide) dX10_product_4 (by split <;> omega) (fun c4 => ?_) (fun c4 => ?_)
  · skip
    rw [bz_0] at c4
    refine pw_aload_n 0 rfl dX10_product_20 rfl ?_
    refine pw_bipush dX10_product_21 (by decide) ?_
    refine pw_callV (d' := d - 1) (As := [_]) (ci := 10) dX10_product_23 ok_X10_refuses kw_1249 rfl rfl (Of.o (by assumption)) (by omega) rfl (Nat.le_of_ble_eq_true rfl) (r_refuses (d - 1) (by omega) n ok _ hU _ (by omega)) (Nat.le_refl _) (Or.inl rfl) (fun r ok1 mem1 hq => ?_)
    obtain ⟨rfl, rfl, rfl⟩ := hq
    refine pw_iret dX10_product_26 rfl rfl ?_
    unfold rProduct; (repeat' split) <;> first | exact ⟨rfl, rfl, rfl⟩ | (exfalso; omega)
  · skip
    rw [bz_n] at c4
    refine pw_aload_n 0 rfl dX10_product_7 rfl ?_
    refine pw_aload_n 0 rfl dX10_product_8 rfl ?_
    refine pw_iload_n 1 rfl dX10_product_9 rfl ?_
    refine pw_iconst dX10_product_10 ?_
    refine pw_callV (d' := d - 1) (As := [_, _]) (ci := 10) dX10_product_11 ok_X10_multiplied kw_1279 rfl rfl (Of.o (by assumption)) (by omega) rfl (Nat.le_of_ble_eq_true rfl) (r_multiplied (d - 1) (by omega) n ok _ hU _ _ (by omega) (by omega)) (Nat.le_refl _) (Or.inl rfl) (fun r ok1 mem1 hq => ?_)
    obtain ⟨rfl, rfl, rfl⟩ := hq
    refine pw_callV (d' := d - 1) (As := [_]) (ci := 10) dX10_product_14 ok_X10_says kw_1265 rfl rfl (Of.o (by assumption)) (by omega) rfl (Nat.le_of_ble_eq_true rfl) (r_says (d - 1) (by omega) n ok _ hU _) (Nat.le_refl _) (Or.inl rfl) (fun r ok1 mem1 hq => ?_)
    obtain ⟨rfl, rfl, rfl⟩ := hq
    refine pw_goto 26 (by decide) dX10_product_17 ?_
    refine pw_iret dX10_product_26 rfl rfl ?_
    unfold rProduct; (repeat' split) <;> first | exact ⟨rfl, rfl, rfl⟩ | (exfalso; omega)
def rState (m : pM) (c : Int) : Int × pM := if ¬ (0 ≤ c ∧ c ≤ 2) then rRef m (-2) else rSay m (aNum m c 16)
set_option maxHeartbeats 4000000 in
set_option maxRecDepth 100000 in
theorem r_state (d : Nat) (hd : 2 ≤ d) (n : Nat) (ok : pO) (mem : pM) (hU : RefUp n ok) (c : Int) (hc : -2147483648 ≤ c ∧ c ≤ 2147483647)  : PM mi_X10_state d [vr 88, vi c] n ok mem n (fun r ok' mem' => r = some (vi (rState mem c).1) ∧ ok = ok' ∧ (rState mem c).2 = mem') := by
  obtain ⟨hO, ⟨a89, a90, a91, a92, a93, a94, a95, a96, a97, a98⟩, ⟨a99, a100, a101, a102, a103, a104, a105, a106, a107⟩, ⟨a108, a109, a110, a111, a112, a113, a114, a115, a116, a117, a118, a119⟩, a120, a121, a122⟩ := id hU
  refine PM.of (by decide) (by decide) (Nat.le_refl _) (Nat.le_of_ble_eq_true rfl) ?_
  refine pw_iload_n 1 rfl dX10_state_0 rfl ?_
  refine pw_callS (d' := d - 1) (As := [_]) dX10_state_1 ok_X10_isChest kw_1241 (by omega) rfl (Nat.le_of_ble_eq_true rfl) (r_isChest (d - 1) (by omega) n ok _ _ (by omega)) (Nat.le_refl _) (Or.inl rfl) (fun r ok1 mem1 hq => ?_)
  obtain ⟨rfl, rfl, rfl⟩ := hq
  refine pw_if_eq 19 (by decide) dX10_state_4 (by split <;> omega) (fun c4 => ?_) (fun c4 => ?_)
  · skip
    rw [bz_0] at c4
    refine pw_aload_n 0 rfl dX10_state_19 rfl ?_
    refine pw_bipush dX10_state_20 (by decide) ?_
    refine pw_callV (d' := d - 1) (As := [_]) (ci := 10) dX10_state_22 ok_X10_refuses kw_1249 rfl rfl (Of.o (by assumption)) (by omega) rfl (Nat.le_of_ble_eq_true rfl) (r_refuses (d - 1) (by omega) n ok _ hU _ (by omega)) (Nat.le_refl _) (Or.inl rfl) (fun r ok1 mem1 hq => ?_)
    obtain ⟨rfl, rfl, rfl⟩ := hq
    refine pw_iret dX10_state_25 rfl rfl ?_
    unfold rState; (repeat' split) <;> first | exact ⟨rfl, rfl, rfl⟩ | (exfalso; omega)
  · skip
    rw [bz_n] at c4
    refine pw_aload_n 0 rfl dX10_state_7 rfl ?_
    refine pw_aload_n 0 rfl dX10_state_8 rfl ?_
    refine pw_iload_n 1 rfl dX10_state_9 rfl ?_
    refine pw_callV (d' := d - 1) (As := [_]) (ci := 10) dX10_state_10 ok_X10_numberOf kw_1362 rfl rfl (Of.o (by assumption)) (by omega) rfl (Nat.le_of_ble_eq_true rfl) (r_numberOf (d - 1) (by omega) n ok _ hU _ (by omega)) (Nat.le_refl _) (Or.inl rfl) (fun r ok1 mem1 hq => ?_)
    obtain ⟨rfl, rfl, rfl⟩ := hq
    refine pw_callV (d' := d - 1) (As := [_]) (ci := 10) dX10_state_13 ok_X10_says kw_1265 rfl rfl (Of.o (by assumption)) (by omega) rfl (Nat.le_of_ble_eq_true rfl) (r_says (d - 1) (by omega) n ok _ hU _) (Nat.le_refl _) (Or.inl rfl) (fun r ok1 mem1 hq => ?_)
    obtain ⟨rfl, rfl, rfl⟩ := hq
    refine pw_goto 25 (by decide) dX10_state_16 ?_
    refine pw_iret dX10_state_25 rfl rfl ?_
    unfold rState; (repeat' split) <;> first | exact ⟨rfl, rfl, rfl⟩ | (exfalso; omega)
def rTold (m : pM) (c s w : Int) : Int × pM := if ¬ (0 ≤ c ∧ c ≤ 2) ∨ ¬ (0 ≤ w ∧ w ≤ 3) then rRef m (-2) else if ¬ (0 ≤ s ∧ s ≤ 15) then rRef m (-3) else if aComes m c s ≠ 0 then rMet m (aComes m c s) else rSay m (if w = 0 then m 90 (16 * c + s) else if w = 1 then m 91 (16 * c + s) else if w = 2 then m 92 (16 * c + s) else m 93 (16 * c + s))
set_option maxHeartbeats 4000000 in
set_option maxRecDepth 100000 in
theorem r_told (d : Nat) (hd : 2 ≤ d) (n : Nat) (ok : pO) (mem : pM) (hU : RefUp n ok) (c s w : Int) (hc : -2147483648 ≤ c ∧ c ≤ 2147483647) (hs : -2147483648 ≤ s ∧ s ≤ 2147483647) (hw : -2147483648 ≤ w ∧ w ≤ 2147483647)  : PM mi_X10_told d [vr 88, vi c, vi s, vi w] n ok mem n (fun r ok' mem' => r = some (vi (rTold mem c s w).1) ∧ ok = ok' ∧ (rTold mem c s w).2 = mem') := by
  obtain ⟨hO, ⟨a89, a90, a91, a92, a93, a94, a95, a96, a97, a98⟩, ⟨a99, a100, a101, a102, a103, a104, a105, a106, a107⟩, ⟨a108, a109, a110, a111, a112, a113, a114, a115, a116, a117, a118, a119⟩, a120, a121, a122⟩ := id hU
  refine PM.of (by decide) (by decide) (Nat.le_refl _) (Nat.le_of_ble_eq_true rfl) ?_
  refine pw_iload_n 1 rfl dX10_told_0 rfl ?_
  refine pw_callS (d' := d - 1) (As := [_]) dX10_told_1 ok_X10_isChest kw_1241 (by omega) rfl (Nat.le_of_ble_eq_true rfl) (r_isChest (d - 1) (by omega) n ok _ _ (by omega)) (Nat.le_refl _) (Or.inl rfl) (fun r ok1 mem1 hq => ?_)
  obtain ⟨rfl, rfl, rfl⟩ := hq
  refine pw_if_eq 19 (by decide) dX10_told_4 (by split <;> omega) (fun c4 => ?_) (fun c4 => ?_)
  · skip
    rw [bz_0] at c4
    refine pw_aload_n 0 rfl dX10_told_19 rfl ?_
    refine pw_bipush dX10_told_20 (by decide) ?_
    refine pw_callV (d' := d - 1) (As := [_]) (ci := 10) dX10_told_22 ok_X10_refuses kw_1249 rfl rfl (Of.o (by assumption)) (by omega) rfl (Nat.le_of_ble_eq_true rfl) (r_refuses (d - 1) (by omega) n ok _ hU _ (by omega)) (Nat.le_refl _) (Or.inl rfl) (fun r ok1 mem1 hq => ?_)
    obtain ⟨rfl, rfl, rfl⟩ := hq
    refine pw_iret dX10_told_25 rfl rfl ?_
    unfold rTold; (repeat' split) <;> first | exact ⟨rfl, rfl, rfl⟩ | (exfalso; omega)
  · skip
    rw [bz_n] at c4
    refine pw_iload_n 3 rfl dX10_told_7 rfl ?_
    refine pw_i2l dX10_told_8 (by omega) ?_
    refine pw_lconst (x := 0) dX10_told_9 (by decide) ?_
    refine pw_ldc2 (x := 3) kw_1248 (by decide) dX10_told_10 ?_
    refine pw_callS (d' := d - 1) (As := [_, _, _]) dX10_told_13 ok_X10_in kw_1245 (by omega) rfl (Nat.le_of_ble_eq_true rfl) (r_in (d - 1) (by omega) n ok _ _ _ _ (by omega) (by omega) (by omega)) (Nat.le_refl _) (Or.inl rfl) (fun r ok1 mem1 hq => ?_)
    obtain ⟨rfl, rfl, rfl⟩ := hq
    refine pw_if_ne 26 (by decide) dX10_told_16 (by split <;> omega) (fun c16 => ?_) (fun c16 => ?_)
    · skip
      rw [ne_eq, bz_n] at c16
      refine pw_iload_n 2 rfl dX10_told_26 rfl ?_
      refine pw_callS (d' := d - 1) (As := [_]) dX10_told_27 ok_X10_isSeat kw_1273 (by omega) rfl (Nat.le_of_ble_eq_true rfl) (r_isSeat (d - 1) (by omega) n ok _ _ (by omega)) (Nat.le_refl _) (Or.inl rfl) (fun r ok1 mem1 hq => ?_)
      obtain ⟨rfl, rfl, rfl⟩ := hq
      refine pw_if_ne 40 (by decide) dX10_told_30 (by split <;> omega) (fun c30 => ?_) (fun c30 => ?_)
      · skip
        rw [ne_eq, bz_n] at c30
        refine pw_aload_n 0 rfl dX10_told_40 rfl ?_
        refine pw_iload_n 1 rfl dX10_told_41 rfl ?_
        refine pw_iload_n 2 rfl dX10_told_42 rfl ?_
        refine pw_callV (d' := d - 1) (As := [_, _]) (ci := 10) dX10_told_43 ok_X10_comes kw_1295 rfl rfl (Of.o (by assumption)) (by omega) rfl (Nat.le_of_ble_eq_true rfl) (r_comes (d - 1) (by omega) n ok _ hU _ _ (by omega) (by omega)) (Nat.le_refl _) (Or.inl rfl) (fun r ok1 mem1 hq => ?_)
        obtain ⟨rfl, rfl, rfl⟩ := hq
        have hcr := aComes_ran mem c s
        refine pw_istore dX10_told_46 (by decide) ?_
        refine pw_iload dX10_told_48 rfl ?_
        refine pw_if_eq 60 (by decide) dX10_told_50 (by omega) (fun c50 => ?_) (fun c50 => ?_)
        · skip
          refine pw_bipush dX10_told_60 (by decide) ?_
          refine pw_iload_n 1 rfl dX10_told_62 rfl ?_
          refine pw_imul dX10_told_63 ?_
          refine pw_iload_n 2 rfl dX10_told_64 rfl ?_
          refine pw_iadd dX10_told_65 ?_
          refine pw_istore dX10_told_66 (by decide) ?_
          refine pw_aload_n 0 rfl dX10_told_68 rfl ?_
          refine pw_iload_n 3 rfl dX10_told_69 rfl ?_
          refine pw_if_ne 83 (by decide) dX10_told_70 (by omega) (fun c70 => ?_) (fun c70 => ?_)
          · skip
            refine pw_iload_n 3 rfl dX10_told_83 rfl ?_
            refine pw_iconst dX10_told_84 ?_
            refine pw_icmp_ne 98 (by decide) dX10_told_85 (by omega) (by omega) (fun c85 => ?_) (fun c85 => ?_)
            · skip
              refine pw_iload_n 3 rfl dX10_told_98 rfl ?_
              refine pw_iconst dX10_told_99 ?_
              refine pw_icmp_ne 113 (by decide) dX10_told_100 (by omega) (by omega) (fun c100 => ?_) (fun c100 => ?_)
              · skip
                refine pw_aload_n 0 rfl dX10_told_113 rfl ?_
                refine pw_gR 8 93 dX10_told_114 cOk10 (by assumption) (by decide) kw_1073 (by decide) rfl ?_
                refine pw_iload dX10_told_117 rfl ?_
                refine pw_iaload dX10_told_119 (by assumption) (by omega) (by omega) (fun r119 => ?_)
                refine pw_callV (d' := d - 1) (As := [_]) (ci := 10) dX10_told_120 ok_X10_says kw_1265 rfl rfl (Of.o (by assumption)) (by omega) rfl (Nat.le_of_ble_eq_true rfl) (r_says (d - 1) (by omega) n ok _ hU _) (Nat.le_refl _) (Or.inl rfl) (fun r ok1 mem1 hq => ?_)
                obtain ⟨rfl, rfl, rfl⟩ := hq
                refine pw_iret dX10_told_123 rfl rfl ?_
                unfold rTold; (repeat' split) <;> first | exact ⟨rfl, rfl, rfl⟩ | (exfalso; omega)
              · skip
                refine pw_aload_n 0 rfl dX10_told_103 rfl ?_
                refine pw_gR 7 92 dX10_told_104 cOk10 (by assumption) (by decide) kw_1072 (by decide) rfl ?_
                refine pw_iload dX10_told_107 rfl ?_
                refine pw_iaload dX10_told_109 (by assumption) (by omega) (by omega) (fun r109 => ?_)
                refine pw_goto 120 (by decide) dX10_told_110 ?_
                refine pw_callV (d' := d - 1) (As := [_]) (ci := 10) dX10_told_120 ok_X10_says kw_1265 rfl rfl (Of.o (by assumption)) (by omega) rfl (Nat.le_of_ble_eq_true rfl) (r_says (d - 1) (by omega) n ok _ hU _) (Nat.le_refl _) (Or.inl rfl) (fun r ok1 mem1 hq => ?_)
                obtain ⟨rfl, rfl, rfl⟩ := hq
                refine pw_iret dX10_told_123 rfl rfl ?_
                unfold rTold; (repeat' split) <;> first | exact ⟨rfl, rfl, rfl⟩ | (exfalso; omega)
            · skip
              refine pw_aload_n 0 rfl dX10_told_88 rfl ?_
              refine pw_gR 6 91 dX10_told_89 cOk10 (by assumption) (by decide) kw_1071 (by decide) rfl ?_
              refine pw_iload dX10_told_92 rfl ?_
              refine pw_iaload dX10_told_94 (by assumption) (by omega) (by omega) (fun r94 => ?_)
              refine pw_goto 120 (by decide) dX10_told_95 ?_
              refine pw_callV (d' := d - 1) (As := [_]) (ci := 10) dX10_told_120 ok_X10_says kw_1265 rfl rfl (Of.o (by assumption)) (by omega) rfl (Nat.le_of_ble_eq_true rfl) (r_says (d - 1) (by omega) n ok _ hU _) (Nat.le_refl _) (Or.inl rfl) (fun r ok1 mem1 hq => ?_)
              obtain ⟨rfl, rfl, rfl⟩ := hq
              refine pw_iret dX10_told_123 rfl rfl ?_
              unfold rTold; (repeat' split) <;> first | exact ⟨rfl, rfl, rfl⟩ | (exfalso; omega)
          · skip
            refine pw_aload_n 0 rfl dX10_told_73 rfl ?_
            refine pw_gR 5 90 dX10_told_74 cOk10 (by assumption) (by decide) kw_1070 (by decide) rfl ?_
            refine pw_iload dX10_told_77 rfl ?_
            refine pw_iaload dX10_told_79 (by assumption) (by omega) (by omega) (fun r79 => ?_)
            refine pw_goto 120 (by decide) dX10_told_80 ?_
            refine pw_callV (d' := d - 1) (As := [_]) (ci := 10) dX10_told_120 ok_X10_says kw_1265 rfl rfl (Of.o (by assumption)) (by omega) rfl (Nat.le_of_ble_eq_true rfl) (r_says (d - 1) (by omega) n ok _ hU _) (Nat.le_refl _) (Or.inl rfl) (fun r ok1 mem1 hq => ?_)
            obtain ⟨rfl, rfl, rfl⟩ := hq
            refine pw_iret dX10_told_123 rfl rfl ?_
            unfold rTold; (repeat' split) <;> first | exact ⟨rfl, rfl, rfl⟩ | (exfalso; omega)
        · skip
          refine pw_aload_n 0 rfl dX10_told_53 rfl ?_
          refine pw_iload dX10_told_54 rfl ?_
          refine pw_callV (d' := d - 1) (As := [_]) (ci := 10) dX10_told_56 ok_X10_meets kw_1253 rfl rfl (Of.o (by assumption)) (by omega) rfl (Nat.le_of_ble_eq_true rfl) (r_meets (d - 1) (by omega) n ok _ hU _ (by omega)) (Nat.le_refl _) (Or.inl rfl) (fun r ok1 mem1 hq => ?_)
          obtain ⟨rfl, rfl, rfl⟩ := hq
          refine pw_iret dX10_told_59 rfl rfl ?_
          unfold rTold; (repeat' split) <;> first | exact ⟨rfl, rfl, rfl⟩ | (exfalso; omega)
      · skip
        rw [bz_0] at c30
        refine pw_aload_n 0 rfl dX10_told_33 rfl ?_
        refine pw_bipush dX10_told_34 (by decide) ?_
        refine pw_callV (d' := d - 1) (As := [_]) (ci := 10) dX10_told_36 ok_X10_refuses kw_1249 rfl rfl (Of.o (by assumption)) (by omega) rfl (Nat.le_of_ble_eq_true rfl) (r_refuses (d - 1) (by omega) n ok _ hU _ (by omega)) (Nat.le_refl _) (Or.inl rfl) (fun r ok1 mem1 hq => ?_)
        obtain ⟨rfl, rfl, rfl⟩ := hq
        refine pw_iret dX10_told_39 rfl rfl ?_
        unfold rTold; (repeat' split) <;> first | exact ⟨rfl, rfl, rfl⟩ | (exfalso; omega)
    · skip
      rw [bz_0] at c16
      refine pw_aload_n 0 rfl dX10_told_19 rfl ?_
      refine pw_bipush dX10_told_20 (by decide) ?_
      refine pw_callV (d' := d - 1) (As := [_]) (ci := 10) dX10_told_22 ok_X10_refuses kw_1249 rfl rfl (Of.o (by assumption)) (by omega) rfl (Nat.le_of_ble_eq_true rfl) (r_refuses (d - 1) (by omega) n ok _ hU _ (by omega)) (Nat.le_refl _) (Or.inl rfl) (fun r ok1 mem1 hq => ?_)
      obtain ⟨rfl, rfl, rfl⟩ := hq
      refine pw_iret dX10_told_25 rfl rfl ?_
      unfold rTold; (repeat' split) <;> first | exact ⟨rfl, rfl, rfl⟩ | (exfalso; omega)
def rCTold (m : pM) (c k w : Int) : Int × pM := if ¬ ((0 ≤ c ∧ c ≤ 2) ∧ 0 ≤ k ∧ k < m 94 c) ∨ ¬ (0 ≤ w ∧ w ≤ 8) then rRef m (-2) else if w < 3 then rSay m (if w = 0 then m 95 (40 * c + k) else if w = 1 then m 96 (40 * c + k) else m 97 (40 * c + k)) else rSay m (if w - 3 < m 97 (40 * c + k) then m 98 (6 * (40 * c + k) + w - 3) else -1)
set_option maxHeartbeats 4000000 in
set_option maxRecDepth 100000 in
theorem r_conditionTold (d : Nat) (hd : 3 ≤ d) (n : Nat) (ok : pO) (mem : pM) (hU : RefUp n ok) (c k w : Int) (hc : -2147483648 ≤ c ∧ c ≤ 2147483647) (hk : -2147483648 ≤ k ∧ k ≤ 2147483647) (hw : -2147483648 ≤ w ∧ w ≤ 2147483647) (hn : ∀ c, 0 ≤ c → c ≤ 2 → 0 ≤ mem 94 c ∧ mem 94 c ≤ 40) (hm : ∀ c k, 0 ≤ c → c ≤ 2 → 0 ≤ k → k < mem 94 c → -1 ≤ mem 97 (40 * c + k) ∧ mem 97 (40 * c + k) ≤ 6) : PM mi_X10_conditionTold d [vr 88, vi c, vi k, vi w] n ok mem n (fun r ok' mem' => r = some (vi (rCTold mem c k w).1) ∧ ok = ok' ∧ (rCTold mem c k w).2 = mem') := by
  obtain ⟨hO, ⟨a89, a90, a91, a92, a93, a94, a95, a96, a97, a98⟩, ⟨a99, a100, a101, a102, a103, a104, a105, a106, a107⟩, ⟨a108, a109, a110, a111, a112, a113, a114, a115, a116, a117, a118, a119⟩, a120, a121, a122⟩ := id hU
  refine PM.of (by decide) (by decide) (Nat.le_refl _) (Nat.le_of_ble_eq_true rfl) ?_
  refine pw_aload_n 0 rfl dX10_conditionTold_0 rfl ?_
  refine pw_iload_n 1 rfl dX10_conditionTold_1 rfl ?_
  refine pw_iload_n 2 rfl dX10_conditionTold_2 rfl ?_
  refine pw_callV (d' := d - 1) (As := [_, _]) (ci := 10) dX10_conditionTold_3 ok_X10_isCondition kw_1312 rfl rfl (Of.o (by assumption)) (by omega) rfl (Nat.le_of_ble_eq_true rfl) (r_isCondition (d - 1) (by omega) n ok _ hU _ _ (by omega) (by omega) hn) (Nat.le_refl _) (Or.inl rfl) (fun r ok1 mem1 hq => ?_)
  obtain ⟨rfl, rfl, rfl⟩ := hq
  refine pw_if_eq 21 (by decide) dX10_conditionTold_6 (by split <;> omega) (fun c6 => ?_) (fun c6 => ?_)
  · skip
    rw [bz_0] at c6
    refine pw_aload_n 0 rfl dX10_conditionTold_21 rfl ?_
    refine pw_bipush dX10_conditionTold_22 (by decide) ?_
    refine pw_callV (d' := d - 1) (As := [_]) (ci := 10) dX10_conditionTold_24 ok_X10_refuses kw_1249 rfl rfl (Of.o (by assumption)) (by omega) rfl (Nat.le_of_ble_eq_true rfl) (r_refuses (d - 1) (by omega) n ok _ hU _ (by omega)) (Nat.le_refl _) (Or.inl rfl) (fun r ok1 mem1 hq => ?_)
    obtain ⟨rfl, rfl, rfl⟩ := hq
    refine pw_iret dX10_conditionTold_27 rfl rfl ?_
    unfold rCTold; (repeat' split) <;> first | exact ⟨rfl, rfl, rfl⟩ | (exfalso; omega)
  · skip
    rw [bz_n] at c6
    refine pw_iload_n 3 rfl dX10_conditionTold_9 rfl ?_
    refine pw_i2l dX10_conditionTold_10 (by omega) ?_
    refine pw_lconst (x := 0) dX10_conditionTold_11 (by decide) ?_
    refine pw_ldc2 (x := 8) kw_1430 (by decide) dX10_conditionTold_12 ?_
    refine pw_callS (d' := d - 1) (As := [_, _, _]) dX10_conditionTold_15 ok_X10_in kw_1245 (by omega) rfl (Nat.le_of_ble_eq_true rfl) (r_in (d - 1) (by omega) n ok _ _ _ _ (by omega) (by omega) (by omega)) (Nat.le_refl _) (Or.inl rfl) (fun r ok1 mem1 hq => ?_)
    obtain ⟨rfl, rfl, rfl⟩ := hq
    refine pw_if_ne 28 (by decide) dX10_conditionTold_18 (by split <;> omega) (fun c18 => ?_) (fun c18 => ?_)
    · skip
      rw [ne_eq, bz_n] at c18
      have hn9 := hn c (by omega) (by omega)
      have hm9 := hm c k (by omega) (by omega) (by omega) (by omega)
      refine pw_bipush dX10_conditionTold_28 (by decide) ?_
      refine pw_iload_n 1 rfl dX10_conditionTold_30 rfl ?_
      refine pw_imul dX10_conditionTold_31 ?_
      refine pw_iload_n 2 rfl dX10_conditionTold_32 rfl ?_
      refine pw_iadd dX10_conditionTold_33 ?_
      refine pw_istore dX10_conditionTold_34 (by decide) ?_
      refine pw_iload_n 3 rfl dX10_conditionTold_36 rfl ?_
      refine pw_iconst dX10_conditionTold_37 ?_
      refine pw_icmp_ge 82 (by decide) dX10_conditionTold_38 (by omega) (by omega) (fun c38 => ?_) (fun c38 => ?_)
      · skip
        refine pw_aload_n 0 rfl dX10_conditionTold_82 rfl ?_
        refine pw_iload_n 3 rfl dX10_conditionTold_83 rfl ?_
        refine pw_iconst dX10_conditionTold_84 ?_
        refine pw_isub dX10_conditionTold_85 ?_
        refine pw_aload_n 0 rfl dX10_conditionTold_86 rfl ?_
        refine pw_gR 12 97 dX10_conditionTold_87 cOk10 (by assumption) (by decide) kw_1077 (by decide) rfl ?_
        refine pw_iload dX10_conditionTold_90 rfl ?_
        refine pw_iaload dX10_conditionTold_92 (by assumption) (by omega) (by omega) (fun r92 => ?_)
        refine pw_icmp_ge 113 (by decide) dX10_conditionTold_93 (by omega) (by omega) (fun c93 => ?_) (fun c93 => ?_)
        · skip
          refine pw_iconst dX10_conditionTold_113 ?_
          refine pw_callV (d' := d - 1) (As := [_]) (ci := 10) dX10_conditionTold_114 ok_X10_says kw_1265 rfl rfl (Of.o (by assumption)) (by omega) rfl (Nat.le_of_ble_eq_true rfl) (r_says (d - 1) (by omega) n ok _ hU _) (Nat.le_refl _) (Or.inl rfl) (fun r ok1 mem1 hq => ?_)
          obtain ⟨rfl, rfl, rfl⟩ := hq
          refine pw_iret dX10_conditionTold_117 rfl rfl ?_
          unfold rCTold; (repeat' split) <;> first | exact ⟨rfl, rfl, rfl⟩ | (exfalso; omega)
        · skip
          refine pw_aload_n 0 rfl dX10_conditionTold_96 rfl ?_
          refine pw_gR 13 98 dX10_conditionTold_97 cOk10 (by assumption) (by decide) kw_1078 (by decide) rfl ?_
          refine pw_bipush dX10_conditionTold_100 (by decide) ?_
          refine pw_iload dX10_conditionTold_102 rfl ?_
          refine pw_imul dX10_conditionTold_104 ?_
          refine pw_iload_n 3 rfl dX10_conditionTold_105 rfl ?_
          refine pw_iadd dX10_conditionTold_106 ?_
          refine pw_iconst dX10_conditionTold_107 ?_
          refine pw_isub dX10_conditionTold_108 ?_
          refine pw_iaload dX10_conditionTold_109 (by assumption) (by omega) (by omega) (fun r109 => ?_)
          refine pw_goto 114 (by decide) dX10_conditionTold_110 ?_
          refine pw_callV (d' := d - 1) (As := [_]) (ci := 10) dX10_conditionTold_114 ok_X10_says kw_1265 rfl rfl (Of.o (by assumption)) (by omega) rfl (Nat.le_of_ble_eq_true rfl) (r_says (d - 1) (by omega) n ok _ hU _) (Nat.le_refl _) (Or.inl rfl) (fun r ok1 mem1 hq => ?_)
          obtain ⟨rfl, rfl, rfl⟩ := hq
          refine pw_iret dX10_conditionTold_117 rfl rfl ?_
          unfold rCTold; (repeat' split) <;> first | exact ⟨rfl, rfl, rfl⟩ | (exfalso; omega)
      · skip
        refine pw_aload_n 0 rfl dX10_conditionTold_41 rfl ?_
        refine pw_iload_n 3 rfl dX10_conditionTold_42 rfl ?_
        refine pw_if_ne 56 (by decide) dX10_conditionTold_43 (by omega) (fun c43 => ?_) (fun c43 => ?_)
        · skip
          refine pw_iload_n 3 rfl dX10_conditionTold_56 rfl ?_
          refine pw_iconst dX10_conditionTold_57 ?_
          refine pw_icmp_ne 71 (by decide) dX10_conditionTold_58 (by omega) (by omega) (fun c58 => ?_) (fun c58 => ?_)
          · skip
            refine pw_aload_n 0 rfl dX10_conditionTold_71 rfl ?_
            refine pw_gR 12 97 dX10_conditionTold_72 cOk10 (by assumption) (by decide) kw_1077 (by decide) rfl ?_
            refine pw_iload dX10_conditionTold_75 rfl ?_
            refine pw_iaload dX10_conditionTold_77 (by assumption) (by omega) (by omega) (fun r77 => ?_)
            refine pw_callV (d' := d - 1) (As := [_]) (ci := 10) dX10_conditionTold_78 ok_X10_says kw_1265 rfl rfl (Of.o (by assumption)) (by omega) rfl (Nat.le_of_ble_eq_true rfl) (r_says (d - 1) (by omega) n ok _ hU _) (Nat.le_refl _) (Or.inl rfl) (fun r ok1 mem1 hq => ?_)
            obtain ⟨rfl, rfl, rfl⟩ := hq
            refine pw_iret dX10_conditionTold_81 rfl rfl ?_
            unfold rCTold; (repeat' split) <;> first | exact ⟨rfl, rfl, rfl⟩ | (exfalso; omega)
          · skip
            refine pw_aload_n 0 rfl dX10_conditionTold_61 rfl ?_
            refine pw_gR 11 96 dX10_conditionTold_62 cOk10 (by assumption) (by decide) kw_1076 (by decide) rfl ?_
            refine pw_iload dX10_conditionTold_65 rfl ?_
            refine pw_iaload dX10_conditionTold_67 (by assumption) (by omega) (by omega) (fun r67 => ?_)
            refine pw_goto 78 (by decide) dX10_conditionTold_68 ?_
            refine pw_callV (d' := d - 1) (As := [_]) (ci := 10) dX10_conditionTold_78 ok_X10_says kw_1265 rfl rfl (Of.o (by assumption)) (by omega) rfl (Nat.le_of_ble_eq_true rfl) (r_says (d - 1) (by omega) n ok _ hU _) (Nat.le_refl _) (Or.inl rfl) (fun r ok1 mem1 hq => ?_)
            obtain ⟨rfl, rfl, rfl⟩ := hq
            refine pw_iret dX10_conditionTold_81 rfl rfl ?_
            unfold rCTold; (repeat' split) <;> first | exact ⟨rfl, rfl, rfl⟩ | (exfalso; omega)
        · skip
          refine pw_aload_n 0 rfl dX10_conditionTold_46 rfl ?_
          refine pw_gR 10 95 dX10_conditionTold_47 cOk10 (by assumption) (by decide) kw_1075 (by decide) rfl ?_
          refine pw_iload dX10_conditionTold_50 rfl ?_
          refine pw_iaload dX10_conditionTold_52 (by assumption) (by omega) (by omega) (fun r52 => ?_)
          refine pw_goto 78 (by decide) dX10_conditionTold_53 ?_
          refine pw_callV (d' := d - 1) (As := [_]) (ci := 10) dX10_conditionTold_78 ok_X10_says kw_1265 rfl rfl (Of.o (by assumption)) (by omega) rfl (Nat.le_of_ble_eq_true rfl) (r_says (d - 1) (by omega) n ok _ hU _) (Nat.le_refl _) (Or.inl rfl) (fun r ok1 mem1 hq => ?_)
          obtain ⟨rfl, rfl, rfl⟩ := hq
          refine pw_iret dX10_conditionTold_81 rfl rfl ?_
          unfold rCTold; (repeat' split) <;> first | exact ⟨rfl, rfl, rfl⟩ | (exfalso; omega)
    · skip
      rw [bz_0] at c18
      refine pw_aload_n 0 rfl dX10_conditionTold_21 rfl ?_
      refine pw_bipush dX10_conditionTold_22 (by decide) ?_
      refine pw_callV (d' := d - 1) (As := [_]) (ci := 10) dX10_conditionTold_24 ok_X10_refuses kw_1249 rfl rfl (Of.o (by assumption)) (by omega) rfl (Nat.le_of_ble_eq_true rfl) (r_refuses (d - 1) (by omega) n ok _ hU _ (by omega)) (Nat.le_refl _) (Or.inl rfl) (fun r ok1 mem1 hq => ?_)
      obtain ⟨rfl, rfl, rfl⟩ := hq
      refine pw_iret dX10_conditionTold_27 rfl rfl ?_
      unfold rCTold; (repeat' split) <;> first | exact ⟨rfl, rfl, rfl⟩ | (exfalso; omega)
def rPlace (m : pM) (c s t : Int) : Int × pM := if ¬ (0 ≤ c ∧ c ≤ 2) then rRef m (-2) else if ¬ (0 ≤ s ∧ s ≤ 15) then rRef m (-3) else if aComes m c s ≠ 0 then rMet m (aComes m c s) else if ¬ (0 ≤ t ∧ t ≤ m 91 (16 * c + s) - 1) then rMet m 2 else rSay (wr m 92 (16 * c + s) t) (m 92 (16 * c + s))
set_option maxHeartbeats 4000000 in
set_option maxRecDepth 100000 in
theorem r_place (d : Nat) (hd : 2 ≤ d) (n : Nat) (ok : pO) (mem : pM) (hU : RefUp n ok) (c s t : Int) (hc : -2147483648 ≤ c ∧ c ≤ 2147483647) (hs : -2147483648 ≤ s ∧ s ≤ 2147483647) (ht : -2147483648 ≤ t ∧ t ≤ 2147483647) (hp1 : ∀ c s, 0 ≤ c → c ≤ 2 → 0 ≤ s → s ≤ 15 → aComes mem c s = 0 → 1 ≤ mem 91 (16 * c + s) ∧ mem 91 (16 * c + s) ≤ 6) : PM mi_X10_place d [vr 88, vi c, vi s, vi t] n ok mem n (fun r ok' mem' => r = some (vi (rPlace mem c s t).1) ∧ ok = ok' ∧ (rPlace mem c s t).2 = mem') := by
  obtain ⟨hO, ⟨a89, a90, a91, a92, a93, a94, a95, a96, a97, a98⟩, ⟨a99, a100, a101, a102, a103, a104, a105, a106, a107⟩, ⟨a108, a109, a110, a111, a112, a113, a114, a115, a116, a117, a118, a119⟩, a120, a121, a122⟩ := id hU
  refine PM.of (by decide) (by decide) (Nat.le_refl _) (Nat.le_of_ble_eq_true rfl) ?_
  refine pw_iload_n 1 rfl dX10_place_0 rfl ?_
  refine pw_callS (d' := d - 1) (As := [_]) dX10_place_1 ok_X10_isChest kw_1241 (by omega) rfl (Nat.le_of_ble_eq_true rfl) (r_isChest (d - 1) (by omega) n ok _ _ (by omega)) (Nat.le_refl _) (Or.inl rfl) (fun r ok1 mem1 hq => ?_)
  obtain ⟨rfl, rfl, rfl⟩ := hq
  refine pw_if_eq 14 (by decide) dX10_place_4 (by split <;> omega) (fun c4 => ?_) (fun c4 => ?_)
  · skip
    rw [bz_0] at c4
    refine pw_aload_n 0 rfl dX10_place_14 rfl ?_
    refine pw_iload_n 1 rfl dX10_place_15 rfl ?_
    refine pw_callS (d' := d - 1) (As := [_]) dX10_place_16 ok_X10_isChest kw_1241 (by omega) rfl (Nat.le_of_ble_eq_true rfl) (r_isChest (d - 1) (by omega) n ok _ _ (by omega)) (Nat.le_refl _) (Or.inl rfl) (fun r ok1 mem1 hq => ?_)
    obtain ⟨rfl, rfl, rfl⟩ := hq
    refine pw_if_eq 27 (by decide) dX10_place_19 (by split <;> omega) (fun c19 => ?_) (fun c19 => ?_)
    · skip
      rw [bz_0] at c19
      refine pw_bipush dX10_place_27 (by decide) ?_
      refine pw_callV (d' := d - 1) (As := [_]) (ci := 10) dX10_place_29 ok_X10_refuses kw_1249 rfl rfl (Of.o (by assumption)) (by omega) rfl (Nat.le_of_ble_eq_true rfl) (r_refuses (d - 1) (by omega) n ok _ hU _ (by omega)) (Nat.le_refl _) (Or.inl rfl) (fun r ok1 mem1 hq => ?_)
      obtain ⟨rfl, rfl, rfl⟩ := hq
      refine pw_iret dX10_place_32 rfl rfl ?_
      unfold rPlace; (repeat' split) <;> first | exact ⟨rfl, rfl, rfl⟩ | (exfalso; omega)
    · skip
      rw [bz_n] at c19
      refine pw_bipush dX10_place_22 (by decide) ?_
      refine pw_goto 29 (by decide) dX10_place_24 ?_
      refine pw_callV (d' := d - 1) (As := [_]) (ci := 10) dX10_place_29 ok_X10_refuses kw_1249 rfl rfl (Of.o (by assumption)) (by omega) rfl (Nat.le_of_ble_eq_true rfl) (r_refuses (d - 1) (by omega) n ok _ hU _ (by omega)) (Nat.le_refl _) (Or.inl rfl) (fun r ok1 mem1 hq => ?_)
      obtain ⟨rfl, rfl, rfl⟩ := hq
      refine pw_iret dX10_place_32 rfl rfl ?_
      unfold rPlace; (repeat' split) <;> first | exact ⟨rfl, rfl, rfl⟩ | (exfalso; omega)
  · skip
    rw [bz_n] at c4
    refine pw_iload_n 2 rfl dX10_place_7 rfl ?_
    refine pw_callS (d' := d - 1) (As := [_]) dX10_place_8 ok_X10_isSeat kw_1273 (by omega) rfl (Nat.le_of_ble_eq_true rfl) (r_isSeat (d - 1) (by omega) n ok _ _ (by omega)) (Nat.le_refl _) (Or.inl rfl) (fun r ok1 mem1 hq => ?_)
    obtain ⟨rfl, rfl, rfl⟩ := hq
    refine pw_if_ne 33 (by decide) dX10_place_11 (by split <;> omega) (fun c11 => ?_) (fun c11 => ?_)
    · skip
      rw [ne_eq, bz_n] at c11
      refine pw_aload_n 0 rfl dX10_place_33 rfl ?_
      refine pw_iload_n 1 rfl dX10_place_34 rfl ?_
      refine pw_iload_n 2 rfl dX10_place_35 rfl ?_
      refine pw_callV (d' := d - 1) (As := [_, _]) (ci := 10) dX10_place_36 ok_X10_comes kw_1295 rfl rfl (Of.o (by assumption)) (by omega) rfl (Nat.le_of_ble_eq_true rfl) (r_comes (d - 1) (by omega) n ok _ hU _ _ (by omega) (by omega)) (Nat.le_refl _) (Or.inl rfl) (fun r ok1 mem1 hq => ?_)
      obtain ⟨rfl, rfl, rfl⟩ := hq
      have hcr := aComes_ran mem c s
      refine pw_istore dX10_place_39 (by decide) ?_
      refine pw_bipush dX10_place_41 (by decide) ?_
      refine pw_iload_n 1 rfl dX10_place_43 rfl ?_
      refine pw_imul dX10_place_44 ?_
      refine pw_iload_n 2 rfl dX10_place_45 rfl ?_
      refine pw_iadd dX10_place_46 ?_
      refine pw_istore dX10_place_47 (by decide) ?_
      refine pw_iload dX10_place_49 rfl ?_
      refine pw_if_ne 77 (by decide) dX10_place_51 (by omega) (fun c51 => ?_) (fun c51 => ?_)
      · skip
        refine pw_iload dX10_place_77 rfl ?_
        refine pw_istore dX10_place_79 (by decide) ?_
        refine pw_iload dX10_place_81 rfl ?_
        refine pw_if_eq 93 (by decide) dX10_place_83 (by omega) (fun c83 => ?_) (fun c83 => ?_)
        · skip
          exfalso; omega
        · skip
          refine pw_aload_n 0 rfl dX10_place_86 rfl ?_
          refine pw_iload dX10_place_87 rfl ?_
          refine pw_callV (d' := d - 1) (As := [_]) (ci := 10) dX10_place_89 ok_X10_meets kw_1253 rfl rfl (Of.o (by assumption)) (by omega) rfl (Nat.le_of_ble_eq_true rfl) (r_meets (d - 1) (by omega) n ok _ hU _ (by omega)) (Nat.le_refl _) (Or.inl rfl) (fun r ok1 mem1 hq => ?_)
          obtain ⟨rfl, rfl, rfl⟩ := hq
          refine pw_iret dX10_place_92 rfl rfl ?_
          unfold rPlace; (repeat' split) <;> first | exact ⟨rfl, rfl, rfl⟩ | (exfalso; omega)
      · skip
        refine pw_iload_n 3 rfl dX10_place_54 rfl ?_
        refine pw_i2l dX10_place_55 (by omega) ?_
        refine pw_lconst (x := 0) dX10_place_56 (by decide) ?_
        refine pw_aload_n 0 rfl dX10_place_57 rfl ?_
        refine pw_gR 6 91 dX10_place_58 cOk10 (by assumption) (by decide) kw_1071 (by decide) rfl ?_
        refine pw_iload dX10_place_61 rfl ?_
        refine pw_iaload dX10_place_63 (by assumption) (by omega) (by omega) (fun r63 => ?_)
        refine pw_iconst dX10_place_64 ?_
        refine pw_isub dX10_place_65 ?_
        refine pw_i2l dX10_place_66 (by have := hp1 c s (by omega) (by omega) (by omega) (by omega) (by omega); omega) ?_
        refine pw_callS (d' := d - 1) (As := [_, _, _]) dX10_place_67 ok_X10_in kw_1245 (by omega) rfl (Nat.le_of_ble_eq_true rfl) (r_in (d - 1) (by omega) n ok _ _ _ _ (by omega) (by omega) (by have := hp1 c s (by omega) (by omega) (by omega) (by omega) (by omega); omega)) (Nat.le_refl _) (Or.inl rfl) (fun r ok1 mem1 hq => ?_)
        obtain ⟨rfl, rfl, rfl⟩ := hq
        refine pw_if_ne 77 (by decide) dX10_place_70 (by omega) (fun c70 => ?_) (fun c70 => ?_)
        · skip
          refine pw_iload dX10_place_77 rfl ?_
          refine pw_istore dX10_place_79 (by decide) ?_
          refine pw_iload dX10_place_81 rfl ?_
          refine pw_if_eq 93 (by decide) dX10_place_83 (by omega) (fun c83 => ?_) (fun c83 => ?_)
          · skip
            refine pw_aload_n 0 rfl dX10_place_93 rfl ?_
            refine pw_gR 7 92 dX10_place_94 cOk10 (by assumption) (by decide) kw_1072 (by decide) rfl ?_
            refine pw_iload dX10_place_97 rfl ?_
            refine pw_iaload dX10_place_99 (by assumption) (by omega) (by omega) (fun r99 => ?_)
            refine pw_istore dX10_place_100 (by decide) ?_
            refine pw_aload_n 0 rfl dX10_place_102 rfl ?_
            refine pw_gR 7 92 dX10_place_103 cOk10 (by assumption) (by decide) kw_1072 (by decide) rfl ?_
            refine pw_iload dX10_place_106 rfl ?_
            refine pw_iload_n 3 rfl dX10_place_108 rfl ?_
            refine pw_iastore dX10_place_109 (by assumption) (by omega) (by omega) (by omega) ?_
            refine pw_aload_n 0 rfl dX10_place_110 rfl ?_
            refine pw_iload dX10_place_111 rfl ?_
            refine pw_callV (d' := d - 1) (As := [_]) (ci := 10) dX10_place_113 ok_X10_says kw_1265 rfl rfl (Of.o (by assumption)) (by omega) rfl (Nat.le_of_ble_eq_true rfl) (r_says (d - 1) (by omega) n ok _ hU _) (Nat.le_refl _) (Or.inl rfl) (fun r ok1 mem1 hq => ?_)
            obtain ⟨rfl, rfl, rfl⟩ := hq
            refine pw_iret dX10_place_116 rfl rfl ?_
            unfold rPlace; (repeat' split) <;> first | exact ⟨rfl, rfl, rfl⟩ | (exfalso; omega)
          · skip
            exfalso; omega
        · skip
          refine pw_iconst dX10_place_73 ?_
          refine pw_goto 79 (by decide) dX10_place_74 ?_
          refine pw_istore dX10_place_79 (by decide) ?_
          refine pw_iload dX10_place_81 rfl ?_
          refine pw_if_eq 93 (by decide) dX10_place_83 (by omega) (fun c83 => ?_) (fun c83 => ?_)
          · skip
            exfalso; omega
          · skip
            refine pw_aload_n 0 rfl dX10_place_86 rfl ?_
            refine pw_iload dX10_place_87 rfl ?_
            refine pw_callV (d' := d - 1) (As := [_]) (ci := 10) dX10_place_89 ok_X10_meets kw_1253 rfl rfl (Of.o (by assumption)) (by omega) rfl (Nat.le_of_ble_eq_true rfl) (r_meets (d - 1) (by omega) n ok _ hU _ (by omega)) (Nat.le_refl _) (Or.inl rfl) (fun r ok1 mem1 hq => ?_)
            obtain ⟨rfl, rfl, rfl⟩ := hq
            refine pw_iret dX10_place_92 rfl rfl ?_
            unfold rPlace; (repeat' split) <;> first | exact ⟨rfl, rfl, rfl⟩ | (exfalso; omega)
    · skip
      rw [bz_0] at c11
      refine pw_aload_n 0 rfl dX10_place_14 rfl ?_
      refine pw_iload_n 1 rfl dX10_place_15 rfl ?_
      refine pw_callS (d' := d - 1) (As := [_]) dX10_place_16 ok_X10_isChest kw_1241 (by omega) rfl (Nat.le_of_ble_eq_true rfl) (r_isChest (d - 1) (by omega) n ok _ _ (by omega)) (Nat.le_refl _) (Or.inl rfl) (fun r ok1 mem1 hq => ?_)
      obtain ⟨rfl, rfl, rfl⟩ := hq
      refine pw_if_eq 27 (by decide) dX10_place_19 (by split <;> omega) (fun c19 => ?_) (fun c19 => ?_)
      · skip
        rw [bz_0] at c19
        refine pw_bipush dX10_place_27 (by decide) ?_
        refine pw_callV (d' := d - 1) (As := [_]) (ci := 10) dX10_place_29 ok_X10_refuses kw_1249 rfl rfl (Of.o (by assumption)) (by omega) rfl (Nat.le_of_ble_eq_true rfl) (r_refuses (d - 1) (by omega) n ok _ hU _ (by omega)) (Nat.le_refl _) (Or.inl rfl) (fun r ok1 mem1 hq => ?_)
        obtain ⟨rfl, rfl, rfl⟩ := hq
        refine pw_iret dX10_place_32 rfl rfl ?_
        unfold rPlace; (repeat' split) <;> first | exact ⟨rfl, rfl, rfl⟩ | (exfalso; omega)
      · skip
        rw [bz_n] at c19
        refine pw_bipush dX10_place_22 (by decide) ?_
        refine pw_goto 29 (by decide) dX10_place_24 ?_
        refine pw_callV (d' := d - 1) (As := [_]) (ci := 10) dX10_place_29 ok_X10_refuses kw_1249 rfl rfl (Of.o (by assumption)) (by omega) rfl (Nat.le_of_ble_eq_true rfl) (r_refuses (d - 1) (by omega) n ok _ hU _ (by omega)) (Nat.le_refl _) (Or.inl rfl) (fun r ok1 mem1 hq => ?_)
        obtain ⟨rfl, rfl, rfl⟩ := hq
        refine pw_iret dX10_place_32 rfl rfl ?_
        unfold rPlace; (repeat' split) <;> first | exact ⟨rfl, rfl, rfl⟩ | (exfalso; omega)
def rType (m : pM) (v : Int) : Int × pM := if ¬ (0 ≤ v ∧ v ≤ 37) then rRef m (-3) else if m 88 24 = 40 then rRef m (-5) else rSay (wr (wr m 106 (m 88 24) v) 88 24 (m 88 24 + 1)) (m 88 24 + 1)
set_option maxHeartbeats 4000000 in
set_option maxRecDepth 100000 in
theorem r_type (d : Nat) (hd : 2 ≤ d) (n : Nat) (ok : pO) (mem : pM) (hU : RefUp n ok) (v : Int) (hv : -2147483648 ≤ v ∧ v ≤ 2147483647) (hty : 0 ≤ mem 88 24 ∧ mem 88 24 ≤ 40) : PM mi_X10_type d [vr 88, vi v] n ok mem n (fun r ok' mem' => r = some (vi (rType mem v).1) ∧ ok = ok' ∧ (rType mem v).2 = mem') := by
  obtain ⟨hO, ⟨a89, a90, a91, a92, a93, a94, a95, a96, a97, a98⟩, ⟨a99, a100, a101, a102, a103, a104, a105, a106, a107⟩, ⟨a108, a109, a110, a111, a112, a113, a114, a115, a116, a117, a118, a119⟩, a120, a121, a122⟩ := id hU
  refine PM.of (by decide) (by decide) (Nat.le_refl _) (Nat.le_of_ble_eq_true rfl) ?_
  refine pw_iload_n 1 rfl dX10_type_0 rfl ?_
  refine pw_i2l dX10_type_1 (by omega) ?_
  refine pw_lconst (x := 0) dX10_type_2 (by decide) ?_
  refine pw_ldc2 (x := 37) kw_1439 (by decide) dX10_type_3 ?_
  refine pw_callS (d' := d - 1) (As := [_, _, _]) dX10_type_6 ok_X10_in kw_1245 (by omega) rfl (Nat.le_of_ble_eq_true rfl) (r_in (d - 1) (by omega) n ok _ _ _ _ (by omega) (by omega) (by omega)) (Nat.le_refl _) (Or.inl rfl) (fun r ok1 mem1 hq => ?_)
  obtain ⟨rfl, rfl, rfl⟩ := hq
  refine pw_if_ne 19 (by decide) dX10_type_9 (by split <;> omega) (fun c9 => ?_) (fun c9 => ?_)
  · skip
    rw [ne_eq, bz_n] at c9
    refine pw_aload_n 0 rfl dX10_type_19 rfl ?_
    refine pw_gI 24 24 rfl dX10_type_20 cOk10 (by assumption) (by decide) kw_1089 (by decide) (fun r20 => ?_)
    refine pw_bipush dX10_type_23 (by decide) ?_
    refine pw_icmp_ne 35 (by decide) dX10_type_25 (by omega) (by omega) (fun c25 => ?_) (fun c25 => ?_)
    · skip
      refine pw_aload_n 0 rfl dX10_type_35 rfl ?_
      refine pw_gR 25 106 dX10_type_36 cOk10 (by assumption) (by decide) kw_1090 (by decide) rfl ?_
      refine pw_aload_n 0 rfl dX10_type_39 rfl ?_
      refine pw_gI 24 24 rfl dX10_type_40 cOk10 (by assumption) (by decide) kw_1089 (by decide) (fun r40 => ?_)
      refine pw_iload_n 1 rfl dX10_type_43 rfl ?_
      refine pw_iastore dX10_type_44 (by assumption) (by omega) (by omega) (by omega) ?_
      refine pw_aload_n 0 rfl dX10_type_45 rfl ?_
      refine pw_dup dX10_type_46 rfl ?_
      refine pw_gI 24 24 rfl dX10_type_47 cOk10 (by assumption) (by decide) kw_1089 (by decide) (fun r47 => ?_)
      try simp (disch := omega) only [wr_s, wr_a, wr_k] at r47 ⊢
      refine pw_iconst dX10_type_50 ?_
      refine pw_iadd dX10_type_51 ?_
      refine pw_pI 24 24 rfl dX10_type_52 cOk10 (by assumption) (by decide) kw_1089 rfl rfl (by decide) (by omega) ?_
      refine pw_aload_n 0 rfl dX10_type_55 rfl ?_
      refine pw_aload_n 0 rfl dX10_type_56 rfl ?_
      refine pw_gI 24 24 rfl dX10_type_57 cOk10 (by assumption) (by decide) kw_1089 (by decide) (fun r57 => ?_)
      try simp (disch := omega) only [wr_s, wr_a, wr_k] at r57 ⊢
      refine pw_callV (d' := d - 1) (As := [_]) (ci := 10) dX10_type_60 ok_X10_says kw_1265 rfl rfl (Of.o (by assumption)) (by omega) rfl (Nat.le_of_ble_eq_true rfl) (r_says (d - 1) (by omega) n ok _ hU _) (Nat.le_refl _) (Or.inl rfl) (fun r ok1 mem1 hq => ?_)
      obtain ⟨rfl, rfl, rfl⟩ := hq
      refine pw_iret dX10_type_63 rfl rfl ?_
      unfold rType; (repeat' split) <;> first | exact ⟨rfl, rfl, rfl⟩ | (exfalso; omega)
    · skip
      refine pw_aload_n 0 rfl dX10_type_28 rfl ?_
      refine pw_bipush dX10_type_29 (by decide) ?_
      refine pw_callV (d' := d - 1) (As := [_]) (ci := 10) dX10_type_31 ok_X10_refuses kw_1249 rfl rfl (Of.o (by assumption)) (by omega) rfl (Nat.le_of_ble_eq_true rfl) (r_refuses (d - 1) (by omega) n ok _ hU _ (by omega)) (Nat.le_refl _) (Or.inl rfl) (fun r ok1 mem1 hq => ?_)
      obtain ⟨rfl, rfl, rfl⟩ := hq
      refine pw_iret dX10_type_34 rfl rfl ?_
      unfold rType; (repeat' split) <;> first | exact ⟨rfl, rfl, rfl⟩ | (exfalso; omega)
  · skip
    rw [bz_0] at c9
    refine pw_aload_n 0 rfl dX10_type_12 rfl ?_
    refine pw_bipush dX10_type_13 (by decide) ?_
    refine pw_callV (d' := d - 1) (As := [_]) (ci := 10) dX10_type_15 ok_X10_refuses kw_1249 rfl rfl (Of.o (by assumption)) (by omega) rfl (Nat.le_of_ble_eq_true rfl) (r_refuses (d - 1) (by omega) n ok _ hU _ (by omega)) (Nat.le_refl _) (Or.inl rfl) (fun r ok1 mem1 hq => ?_)
    obtain ⟨rfl, rfl, rfl⟩ := hq
    refine pw_iret dX10_type_18 rfl rfl ?_
    unfold rType; (repeat' split) <;> first | exact ⟨rfl, rfl, rfl⟩ | (exfalso; omega)
def rUntype (m : pM) : Int × pM := rSay (wr m 88 24 0) (m 88 24)
set_option maxHeartbeats 4000000 in
set_option maxRecDepth 100000 in
theorem r_untype (d : Nat) (hd : 2 ≤ d) (n : Nat) (ok : pO) (mem : pM) (hU : RefUp n ok)   : PM mi_X10_untype d [vr 88] n ok mem n (fun r ok' mem' => r = some (vi (rUntype mem).1) ∧ ok = ok' ∧ (rUntype mem).2 = mem') := by
  obtain ⟨hO, ⟨a89, a90, a91, a92, a93, a94, a95, a96, a97, a98⟩, ⟨a99, a100, a101, a102, a103, a104, a105, a106, a107⟩, ⟨a108, a109, a110, a111, a112, a113, a114, a115, a116, a117, a118, a119⟩, a120, a121, a122⟩ := id hU
  refine PM.of (by decide) (by decide) (Nat.le_refl _) (Nat.le_of_ble_eq_true rfl) ?_
  refine pw_aload_n 0 rfl dX10_untype_0 rfl ?_
  refine pw_gI 24 24 rfl dX10_untype_1 cOk10 (by assumption) (by decide) kw_1089 (by decide) (fun r1 => ?_)
  refine pw_istore_n 1 rfl dX10_untype_4 (by decide) ?_
  refine pw_aload_n 0 rfl dX10_untype_5 rfl ?_
  refine pw_iconst dX10_untype_6 ?_
  refine pw_pI 24 24 rfl dX10_untype_7 cOk10 (by assumption) (by decide) kw_1089 rfl rfl (by decide) (by omega) ?_
  refine pw_aload_n 0 rfl dX10_untype_10 rfl ?_
  refine pw_iload_n 1 rfl dX10_untype_11 rfl ?_
  refine pw_callV (d' := d - 1) (As := [_]) (ci := 10) dX10_untype_12 ok_X10_says kw_1265 rfl rfl (Of.o (by assumption)) (by omega) rfl (Nat.le_of_ble_eq_true rfl) (r_says (d - 1) (by omega) n ok _ hU _) (Nat.le_refl _) (Or.inl rfl) (fun r ok1 mem1 hq => ?_)
  obtain ⟨rfl, rfl, rfl⟩ := hq
  refine pw_iret dX10_untype_15 rfl rfl ?_
  exact ⟨rfl, rfl, rfl⟩
def rAttd (m : pM) (w : Int) : Int × pM := if ¬ (0 ≤ w ∧ w ≤ 2) then rRef m (-2) else rSay m (if w = 0 then m 88 28 else if w = 1 then m 88 29 else m 88 30)
set_option maxHeartbeats 4000000 in
set_option maxRecDepth 100000 in
theorem r_attempted (d : Nat) (hd : 2 ≤ d) (n : Nat) (ok : pO) (mem : pM) (hU : RefUp n ok) (w : Int) (hw : -2147483648 ≤ w ∧ w ≤ 2147483647)  : PM mi_X10_attempted d [vr 88, vi w] n ok mem n (fun r ok' mem' => r = some (vi (rAttd mem w).1) ∧ ok = ok' ∧ (rAttd mem w).2 = mem') := by
  obtain ⟨hO, ⟨a89, a90, a91, a92, a93, a94, a95, a96, a97, a98⟩, ⟨a99, a100, a101, a102, a103, a104, a105, a106, a107⟩, ⟨a108, a109, a110, a111, a112, a113, a114, a115, a116, a117, a118, a119⟩, a120, a121, a122⟩ := id hU
  refine PM.of (by decide) (by decide) (Nat.le_refl _) (Nat.le_of_ble_eq_true rfl) ?_
  refine pw_iload_n 1 rfl dX10_attempted_0 rfl ?_
  refine pw_i2l dX10_attempted_1 (by omega) ?_
  refine pw_lconst (x := 0) dX10_attempted_2 (by decide) ?_
  refine pw_ldc2 (x := 2) kw_1244 (by decide) dX10_attempted_3 ?_
  refine pw_callS (d' := d - 1) (As := [_, _, _]) dX10_attempted_6 ok_X10_in kw_1245 (by omega) rfl (Nat.le_of_ble_eq_true rfl) (r_in (d - 1) (by omega) n ok _ _ _ _ (by omega) (by omega) (by omega)) (Nat.le_refl _) (Or.inl rfl) (fun r ok1 mem1 hq => ?_)
  obtain ⟨rfl, rfl, rfl⟩ := hq
  refine pw_if_ne 21 (by decide) dX10_attempted_9 (by split <;> omega) (fun c9 => ?_) (fun c9 => ?_)
  · skip
    rw [ne_eq, bz_n] at c9
    refine pw_aload_n 0 rfl dX10_attempted_21 rfl ?_
    refine pw_iload_n 1 rfl dX10_attempted_22 rfl ?_
    refine pw_if_ne 33 (by decide) dX10_attempted_23 (by omega) (fun c23 => ?_) (fun c23 => ?_)
    · skip
      refine pw_iload_n 1 rfl dX10_attempted_33 rfl ?_
      refine pw_iconst dX10_attempted_34 ?_
      refine pw_icmp_ne 45 (by decide) dX10_attempted_35 (by omega) (by omega) (fun c35 => ?_) (fun c35 => ?_)
      · skip
        refine pw_aload_n 0 rfl dX10_attempted_45 rfl ?_
        refine pw_gI 30 30 rfl dX10_attempted_46 cOk10 (by assumption) (by decide) kw_1095 (by decide) (fun r46 => ?_)
        refine pw_callV (d' := d - 1) (As := [_]) (ci := 10) dX10_attempted_49 ok_X10_says kw_1265 rfl rfl (Of.o (by assumption)) (by omega) rfl (Nat.le_of_ble_eq_true rfl) (r_says (d - 1) (by omega) n ok _ hU _) (Nat.le_refl _) (Or.inl rfl) (fun r ok1 mem1 hq => ?_)
        obtain ⟨rfl, rfl, rfl⟩ := hq
        refine pw_iret dX10_attempted_52 rfl rfl ?_
        unfold rAttd; (repeat' split) <;> first | exact ⟨rfl, rfl, rfl⟩ | (exfalso; omega)
      · skip
        refine pw_aload_n 0 rfl dX10_attempted_38 rfl ?_
        refine pw_gI 29 29 rfl dX10_attempted_39 cOk10 (by assumption) (by decide) kw_1094 (by decide) (fun r39 => ?_)
        refine pw_goto 49 (by decide) dX10_attempted_42 ?_
        refine pw_callV (d' := d - 1) (As := [_]) (ci := 10) dX10_attempted_49 ok_X10_says kw_1265 rfl rfl (Of.o (by assumption)) (by omega) rfl (Nat.le_of_ble_eq_true rfl) (r_says (d - 1) (by omega) n ok _ hU _) (Nat.le_refl _) (Or.inl rfl) (fun r ok1 mem1 hq => ?_)
        obtain ⟨rfl, rfl, rfl⟩ := hq
        refine pw_iret dX10_attempted_52 rfl rfl ?_
        unfold rAttd; (repeat' split) <;> first | exact ⟨rfl, rfl, rfl⟩ | (exfalso; omega)
    · skip
      refine pw_aload_n 0 rfl dX10_attempted_26 rfl ?_
      refine pw_gI 28 28 rfl dX10_attempted_27 cOk10 (by assumption) (by decide) kw_1093 (by decide) (fun r27 => ?_)
      refine pw_goto 49 (by decide) dX10_attempted_30 ?_
      refine pw_callV (d' := d - 1) (As := [_]) (ci := 10) dX10_attempted_49 ok_X10_says kw_1265 rfl rfl (Of.o (by assumption)) (by omega) rfl (Nat.le_of_ble_eq_true rfl) (r_says (d - 1) (by omega) n ok _ hU _) (Nat.le_refl _) (Or.inl rfl) (fun r ok1 mem1 hq => ?_)
      obtain ⟨rfl, rfl, rfl⟩ := hq
      refine pw_iret dX10_attempted_52 rfl rfl ?_
      unfold rAttd; (repeat' split) <;> first | exact ⟨rfl, rfl, rfl⟩ | (exfalso; omega)
  · skip
    rw [bz_0] at c9
    refine pw_aload_n 0 rfl dX10_attempted_12 rfl ?_
    refine pw_bipush dX10_attempted_13 (by decide) ?_
    refine pw_callV (d' := d - 1) (As := [_]) (ci := 10) dX10_attempted_15 ok_X10_refuses kw_1249 rfl rfl (Of.o (by assumption)) (by omega) rfl (Nat.le_of_ble_eq_true rfl) (r_refuses (d - 1) (by omega) n ok _ hU _ (by omega)) (Nat.le_refl _) (Or.inl rfl) (fun r ok1 mem1 hq => ?_)
    obtain ⟨rfl, rfl, rfl⟩ := hq
    refine pw_goto 52 (by decide) dX10_attempted_18 ?_
    refine pw_iret dX10_attempted_52 rfl rfl ?_
    unfold rAttd; (repeat' split) <;> first | exact ⟨rfl, rfl, rfl⟩ | (exfalso; omega)
