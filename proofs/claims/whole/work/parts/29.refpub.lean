/-! ===== parts and conditions ===== -/
def rRef (m : pM) (x : Int) : Int × pM := (x, wr m 88 0 x)
def rMet (m : pM) (f : Int) : Int × pM := (-10 - f, wr (rNotes m f) 88 0 (-10 - f))
def rSay (m : pM) (x : Int) : Int × pM := (x, wr m 88 0 0)
def rPart (m : pM) (c s k p e : Int) : Int × pM :=
  if ¬ (0 ≤ c ∧ c ≤ 2) then rRef m (-2) else if ¬ (0 ≤ s ∧ s ≤ 15) ∨ ¬ (0 ≤ k ∧ k ≤ 5) ∨ ¬ (1 ≤ p ∧ p ≤ (if k = 5 then 1 else 6)) ∨ ¬ (0 ≤ e ∧ e ≤ 5) then rRef m (-3)
  else if m 89 (4 * c + s / 4) = -1 then rMet m 1 else if m 89 (4 * c + s / 4) ≤ s % 4 then rMet m 2 else if 1024 < aMul m c s 16 * p then rRef m (-5)
  else rSay (rChg (rStand m (16 * c + s) k p e) c) (aParts (rChg (rStand m (16 * c + s) k p e) c) c 16)
set_option maxHeartbeats 4000000 in
set_option maxRecDepth 100000 in
theorem r_part (d : Nat) (hd : 2 ≤ d) (n : Nat) (ok : pO) (mem : pM) (hU : RefUp n ok) (c s k p e : Int) (hc : -2147483648 ≤ c ∧ c ≤ 2147483647) (hs : -2147483648 ≤ s ∧ s ≤ 2147483647) (hk : -2147483648 ≤ k ∧ k ≤ 2147483647) (hp : -2147483648 ≤ p ∧ p ≤ 2147483647) (he : -2147483648 ≤ e ∧ e ≤ 2147483647) (hmu : 0 ≤ c ∧ c ≤ 2 → 0 ≤ aMul mem c s 16 ∧ aMul mem c s 16 ≤ 100000) : PM mi_X10_part d [vr 88, vi c, vi s, vi k, vi p, vi e] n ok mem n (fun r ok' mem' => r = some (vi (rPart mem c s k p e).1) ∧ ok = ok' ∧ (rPart mem c s k p e).2 = mem') := by
  obtain ⟨hO, ⟨a89, a90, a91, a92, a93, a94, a95, a96, a97, a98⟩, ⟨a99, a100, a101, a102, a103, a104, a105, a106, a107⟩, ⟨a108, a109, a110, a111, a112, a113, a114, a115, a116, a117, a118, a119⟩, a120, a121, a122⟩ := id hU
  refine PM.of (by decide) (by decide) (Nat.le_refl _) (Nat.le_of_ble_eq_true rfl) ?_
  refine pw_iload_n 1 rfl dX10_part_0 rfl ?_
  refine pw_callS (d' := d - 1) (As := [_]) dX10_part_1 ok_X10_isChest kw_1241 (by omega) rfl (Nat.le_of_ble_eq_true rfl) (r_isChest (d - 1) (by omega) n ok _ _ (by omega)) (Nat.le_refl _) (Or.inl rfl) (fun r ok1 mem1 hq => ?_)
  obtain ⟨rfl, rfl, rfl⟩ := hq
  refine pw_if_ne 14 (by decide) dX10_part_4 (by split <;> omega) (fun c4 => ?_) (fun c4 => ?_)
  · skip
    rw [ne_eq, bz_n] at c4
    have hmu := hmu (by omega)
    refine pw_iload_n 2 rfl dX10_part_14 rfl ?_
    refine pw_callS (d' := d - 1) (As := [_]) dX10_part_15 ok_X10_isSeat kw_1273 (by omega) rfl (Nat.le_of_ble_eq_true rfl) (r_isSeat (d - 1) (by omega) n ok _ _ (by omega)) (Nat.le_refl _) (Or.inl rfl) (fun r ok1 mem1 hq => ?_)
    obtain ⟨rfl, rfl, rfl⟩ := hq
    refine pw_if_eq 68 (by decide) dX10_part_18 (by split <;> omega) (fun c18 => ?_) (fun c18 => ?_)
    · skip
      rw [bz_0] at c18
      refine pw_aload_n 0 rfl dX10_part_68 rfl ?_
      refine pw_bipush dX10_part_69 (by decide) ?_
      refine pw_callV (d' := d - 1) (As := [_]) (ci := 10) dX10_part_71 ok_X10_refuses kw_1249 rfl rfl (Of.o (by assumption)) (by omega) rfl (Nat.le_of_ble_eq_true rfl) (r_refuses (d - 1) (by omega) n ok _ hU _ (by omega)) (Nat.le_refl _) (Or.inl rfl) (fun r ok1 mem1 hq => ?_)
      obtain ⟨rfl, rfl, rfl⟩ := hq
      refine pw_iret dX10_part_74 rfl rfl ?_
      unfold rPart; (repeat' split) <;> first | exact ⟨rfl, rfl, rfl⟩ | (exfalso; omega)
    · skip
      rw [bz_n] at c18
      refine pw_iload_n 3 rfl dX10_part_21 rfl ?_
      refine pw_i2l dX10_part_22 (by omega) ?_
      refine pw_lconst (x := 0) dX10_part_23 (by decide) ?_
      refine pw_ldc2 (x := 5) kw_1277 (by decide) dX10_part_24 ?_
      refine pw_callS (d' := d - 1) (As := [_, _, _]) dX10_part_27 ok_X10_in kw_1245 (by omega) rfl (Nat.le_of_ble_eq_true rfl) (r_in (d - 1) (by omega) n ok _ _ _ _ (by omega) (by omega) (by omega)) (Nat.le_refl _) (Or.inl rfl) (fun r ok1 mem1 hq => ?_)
      obtain ⟨rfl, rfl, rfl⟩ := hq
      refine pw_if_eq 68 (by decide) dX10_part_30 (by split <;> omega) (fun c30 => ?_) (fun c30 => ?_)
      · skip
        rw [bz_0] at c30
        refine pw_aload_n 0 rfl dX10_part_68 rfl ?_
        refine pw_bipush dX10_part_69 (by decide) ?_
        refine pw_callV (d' := d - 1) (As := [_]) (ci := 10) dX10_part_71 ok_X10_refuses kw_1249 rfl rfl (Of.o (by assumption)) (by omega) rfl (Nat.le_of_ble_eq_true rfl) (r_refuses (d - 1) (by omega) n ok _ hU _ (by omega)) (Nat.le_refl _) (Or.inl rfl) (fun r ok1 mem1 hq => ?_)
        obtain ⟨rfl, rfl, rfl⟩ := hq
        refine pw_iret dX10_part_74 rfl rfl ?_
        unfold rPart; (repeat' split) <;> first | exact ⟨rfl, rfl, rfl⟩ | (exfalso; omega)
      · skip
        rw [bz_n] at c30
        refine pw_iload dX10_part_33 rfl ?_
        refine pw_i2l dX10_part_35 (by omega) ?_
        refine pw_lconst (x := 1) dX10_part_36 (by decide) ?_
        refine pw_iload_n 3 rfl dX10_part_37 rfl ?_
        refine pw_iconst dX10_part_38 ?_
        refine pw_icmp_ne 46 (by decide) dX10_part_39 (by omega) (by omega) (fun c39 => ?_) (fun c39 => ?_)
        · skip
          refine pw_ldc2 (x := 6) kw_1278 (by decide) dX10_part_46 ?_
          refine pw_callS (d' := d - 1) (As := [_, _, _]) dX10_part_49 ok_X10_in kw_1245 (by omega) rfl (Nat.le_of_ble_eq_true rfl) (r_in (d - 1) (by omega) n ok _ _ _ _ (by omega) (by omega) (by omega)) (Nat.le_refl _) (Or.inl rfl) (fun r ok1 mem1 hq => ?_)
          obtain ⟨rfl, rfl, rfl⟩ := hq
          refine pw_if_eq 68 (by decide) dX10_part_52 (by split <;> omega) (fun c52 => ?_) (fun c52 => ?_)
          · skip
            rw [bz_0] at c52
            refine pw_aload_n 0 rfl dX10_part_68 rfl ?_
            refine pw_bipush dX10_part_69 (by decide) ?_
            refine pw_callV (d' := d - 1) (As := [_]) (ci := 10) dX10_part_71 ok_X10_refuses kw_1249 rfl rfl (Of.o (by assumption)) (by omega) rfl (Nat.le_of_ble_eq_true rfl) (r_refuses (d - 1) (by omega) n ok _ hU _ (by omega)) (Nat.le_refl _) (Or.inl rfl) (fun r ok1 mem1 hq => ?_)
            obtain ⟨rfl, rfl, rfl⟩ := hq
            refine pw_iret dX10_part_74 rfl rfl ?_
            unfold rPart; (repeat' split) <;> first | exact ⟨rfl, rfl, rfl⟩ | (exfalso; omega)
          · skip
            rw [bz_n] at c52
            refine pw_iload dX10_part_55 rfl ?_
            refine pw_i2l dX10_part_57 (by omega) ?_
            refine pw_lconst (x := 0) dX10_part_58 (by decide) ?_
            refine pw_ldc2 (x := 5) kw_1277 (by decide) dX10_part_59 ?_
            refine pw_callS (d' := d - 1) (As := [_, _, _]) dX10_part_62 ok_X10_in kw_1245 (by omega) rfl (Nat.le_of_ble_eq_true rfl) (r_in (d - 1) (by omega) n ok _ _ _ _ (by omega) (by omega) (by omega)) (Nat.le_refl _) (Or.inl rfl) (fun r ok1 mem1 hq => ?_)
            obtain ⟨rfl, rfl, rfl⟩ := hq
            refine pw_if_ne 75 (by decide) dX10_part_65 (by split <;> omega) (fun c65 => ?_) (fun c65 => ?_)
            · skip
              rw [ne_eq, bz_n] at c65
              refine pw_aload_n 0 rfl dX10_part_75 rfl ?_
              refine pw_gR 4 89 dX10_part_76 cOk10 (by assumption) (by decide) kw_1069 (by decide) rfl ?_
              refine pw_iconst dX10_part_79 ?_
              refine pw_iload_n 1 rfl dX10_part_80 rfl ?_
              refine pw_imul dX10_part_81 ?_
              refine pw_iload_n 2 rfl dX10_part_82 rfl ?_
              refine pw_iconst dX10_part_83 ?_
              refine pw_idiv dX10_part_84 (by omega) (by omega) ?_
              refine pw_iadd dX10_part_85 ?_
              refine pw_iaload dX10_part_86 (by assumption) (by omega) (by omega) (fun r86 => ?_)
              refine pw_istore dX10_part_87 (by decide) ?_
              refine pw_iload dX10_part_89 rfl ?_
              refine pw_iconst dX10_part_91 ?_
              refine pw_icmp_eq 103 (by decide) dX10_part_92 (by omega) (by omega) (fun c92 => ?_) (fun c92 => ?_)
              · skip
                refine pw_aload_n 0 rfl dX10_part_103 rfl ?_
                refine pw_iload dX10_part_104 rfl ?_
                refine pw_iconst dX10_part_106 ?_
                refine pw_icmp_ne 114 (by decide) dX10_part_107 (by omega) (by omega) (fun c107 => ?_) (fun c107 => ?_)
                · skip
                  exfalso; omega
                · skip
                  refine pw_iconst dX10_part_110 ?_
                  refine pw_goto 115 (by decide) dX10_part_111 ?_
                  refine pw_callV (d' := d - 1) (As := [_]) (ci := 10) dX10_part_115 ok_X10_meets kw_1253 rfl rfl (Of.o (by assumption)) (by omega) rfl (Nat.le_of_ble_eq_true rfl) (r_meets (d - 1) (by omega) n ok _ hU _ (by omega)) (Nat.le_refl _) (Or.inl rfl) (fun r ok1 mem1 hq => ?_)
                  obtain ⟨rfl, rfl, rfl⟩ := hq
                  refine pw_iret dX10_part_118 rfl rfl ?_
                  unfold rPart; (repeat' split) <;> first | exact ⟨rfl, rfl, rfl⟩ | (exfalso; omega)
              · skip
                refine pw_iload_n 2 rfl dX10_part_95 rfl ?_
                refine pw_iconst dX10_part_96 ?_
                refine pw_irem dX10_part_97 (by omega) (by omega) ?_
                refine pw_iload dX10_part_98 rfl ?_
                refine pw_icmp_lt 119 (by decide) dX10_part_100 (by omega) (by omega) (fun c100 => ?_) (fun c100 => ?_)
                · skip
                  refine pw_aload_n 0 rfl dX10_part_119 rfl ?_
                  refine pw_iload_n 1 rfl dX10_part_120 rfl ?_
                  refine pw_iload_n 2 rfl dX10_part_121 rfl ?_
                  refine pw_callV (d' := d - 1) (As := [_, _]) (ci := 10) dX10_part_122 ok_X10_multiplied kw_1279 rfl rfl (Of.o (by assumption)) (by omega) rfl (Nat.le_of_ble_eq_true rfl) (r_multiplied (d - 1) (by omega) n ok _ hU _ _ (by omega) (by omega)) (Nat.le_refl _) (Or.inl rfl) (fun r ok1 mem1 hq => ?_)
                  obtain ⟨rfl, rfl, rfl⟩ := hq
                  refine pw_iload dX10_part_125 rfl ?_
                  refine pw_imul dX10_part_127 ?_
                  have hmb : 0 ≤ aMul mem c s 16 * p ∧ aMul mem c s 16 * p ≤ 600000 := by
                    constructor
                    · exact Int.mul_nonneg hmu.1 (by omega)
                    · exact Int.le_trans (Int.mul_le_mul_of_nonneg_left (show p ≤ 6 by omega) hmu.1) (by omega)
                  refine pw_sipush dX10_part_128 (by decide) ?_
                  refine pw_icmp_le 141 (by decide) dX10_part_131 (by omega) (by omega) (fun c131 => ?_) (fun c131 => ?_)
                  · skip
                    refine pw_aload_n 0 rfl dX10_part_141 rfl ?_
                    refine pw_iload_n 1 rfl dX10_part_142 rfl ?_
                    refine pw_iload_n 2 rfl dX10_part_143 rfl ?_
                    refine pw_iload_n 3 rfl dX10_part_144 rfl ?_
                    refine pw_iload dX10_part_145 rfl ?_
                    refine pw_iload dX10_part_147 rfl ?_
                    refine pw_callV (d' := d - 1) (As := [_, _, _, _, _]) (ci := 10) dX10_part_149 ok_X10_stand kw_1283 rfl rfl (Of.o (by assumption)) (by omega) rfl (Nat.le_of_ble_eq_true rfl) (r_stand (d - 1) (by omega) n ok _ hU _ _ _ _ _ (by omega) (by omega) (by omega) (by omega) (by omega)) (Nat.le_refl _) (Or.inl rfl) (fun r ok1 mem1 hq => ?_)
                    obtain ⟨rfl, rfl, rfl⟩ := hq
                    refine pw_aload_n 0 rfl dX10_part_152 rfl ?_
                    refine pw_iload_n 1 rfl dX10_part_153 rfl ?_
                    refine pw_callV (d' := d - 1) (As := [_]) (ci := 10) dX10_part_154 ok_X10_changed kw_1261 rfl rfl (Of.o (by assumption)) (by omega) rfl (Nat.le_of_ble_eq_true rfl) (r_changed (d - 1) (by omega) n ok _ hU _ (by omega)) (Nat.le_refl _) (Or.inl rfl) (fun r ok1 mem1 hq => ?_)
                    obtain ⟨rfl, rfl, rfl⟩ := hq
                    refine pw_aload_n 0 rfl dX10_part_157 rfl ?_
                    refine pw_aload_n 0 rfl dX10_part_158 rfl ?_
                    refine pw_iload_n 1 rfl dX10_part_159 rfl ?_
                    refine pw_callV (d' := d - 1) (As := [_]) (ci := 10) dX10_part_160 ok_X10_parts kw_1287 rfl rfl (Of.o (by assumption)) (by omega) rfl (Nat.le_of_ble_eq_true rfl) (r_parts (d - 1) (by omega) n ok _ hU _ (by omega)) (Nat.le_refl _) (Or.inl rfl) (fun r ok1 mem1 hq => ?_)
                    obtain ⟨rfl, rfl, rfl⟩ := hq
                    refine pw_callV (d' := d - 1) (As := [_]) (ci := 10) dX10_part_163 ok_X10_says kw_1265 rfl rfl (Of.o (by assumption)) (by omega) rfl (Nat.le_of_ble_eq_true rfl) (r_says (d - 1) (by omega) n ok _ hU _) (Nat.le_refl _) (Or.inl rfl) (fun r ok1 mem1 hq => ?_)
                    obtain ⟨rfl, rfl, rfl⟩ := hq
                    refine pw_iret dX10_part_166 rfl rfl ?_
                    unfold rPart; (repeat' split) <;> first | exact ⟨rfl, rfl, rfl⟩ | (exfalso; omega)
                  · skip
                    refine pw_aload_n 0 rfl dX10_part_134 rfl ?_
                    refine pw_bipush dX10_part_135 (by decide) ?_
                    refine pw_callV (d' := d - 1) (As := [_]) (ci := 10) dX10_part_137 ok_X10_refuses kw_1249 rfl rfl (Of.o (by assumption)) (by omega) rfl (Nat.le_of_ble_eq_true rfl) (r_refuses (d - 1) (by omega) n ok _ hU _ (by omega)) (Nat.le_refl _) (Or.inl rfl) (fun r ok1 mem1 hq => ?_)
                    obtain ⟨rfl, rfl, rfl⟩ := hq
                    refine pw_iret dX10_part_140 rfl rfl ?_
                    unfold rPart; (repeat' split) <;> first | exact ⟨rfl, rfl, rfl⟩ | (exfalso; omega)
                · skip
                  refine pw_aload_n 0 rfl dX10_part_103 rfl ?_
                  refine pw_iload dX10_part_104 rfl ?_
                  refine pw_iconst dX10_part_106 ?_
                  refine pw_icmp_ne 114 (by decide) dX10_part_107 (by omega) (by omega) (fun c107 => ?_) (fun c107 => ?_)
                  · skip
                    refine pw_iconst dX10_part_114 ?_
                    refine pw_callV (d' := d - 1) (As := [_]) (ci := 10) dX10_part_115 ok_X10_meets kw_1253 rfl rfl (Of.o (by assumption)) (by omega) rfl (Nat.le_of_ble_eq_true rfl) (r_meets (d - 1) (by omega) n ok _ hU _ (by omega)) (Nat.le_refl _) (Or.inl rfl) (fun r ok1 mem1 hq => ?_)
                    obtain ⟨rfl, rfl, rfl⟩ := hq
                    refine pw_iret dX10_part_118 rfl rfl ?_
                    unfold rPart; (repeat' split) <;> first | exact ⟨rfl, rfl, rfl⟩ | (exfalso; omega)
                  · skip
                    exfalso; omega
            · skip
              rw [bz_0] at c65
              refine pw_aload_n 0 rfl dX10_part_68 rfl ?_
              refine pw_bipush dX10_part_69 (by decide) ?_
              refine pw_callV (d' := d - 1) (As := [_]) (ci := 10) dX10_part_71 ok_X10_refuses kw_1249 rfl rfl (Of.o (by assumption)) (by omega) rfl (Nat.le_of_ble_eq_true rfl) (r_refuses (d - 1) (by omega) n ok _ hU _ (by omega)) (Nat.le_refl _) (Or.inl rfl) (fun r ok1 mem1 hq => ?_)
              obtain ⟨rfl, rfl, rfl⟩ := hq
              refine pw_iret dX10_part_74 rfl rfl ?_
              unfold rPart; (repeat' split) <;> first | exact ⟨rfl, rfl, rfl⟩ | (exfalso; omega)
        · skip
          refine pw_lconst (x := 1) dX10_part_42 (by decide) ?_
          refine pw_goto 49 (by decide) dX10_part_43 ?_
          refine pw_callS (d' := d - 1) (As := [_, _, _]) dX10_part_49 ok_X10_in kw_1245 (by omega) rfl (Nat.le_of_ble_eq_true rfl) (r_in (d - 1) (by omega) n ok _ _ _ _ (by omega) (by omega) (by omega)) (Nat.le_refl _) (Or.inl rfl) (fun r ok1 mem1 hq => ?_)
          obtain ⟨rfl, rfl, rfl⟩ := hq
          refine pw_if_eq 68 (by decide) dX10_part_52 (by split <;> omega) (fun c52 => ?_) (fun c52 => ?_)
          · skip
            rw [bz_0] at c52
            refine pw_aload_n 0 rfl dX10_part_68 rfl ?_
            refine pw_bipush dX10_part_69 (by decide) ?_
            refine pw_callV (d' := d - 1) (As := [_]) (ci := 10) dX10_part_71 ok_X10_refuses kw_1249 rfl rfl (Of.o (by assumption)) (by omega) rfl (Nat.le_of_ble_eq_true rfl) (r_refuses (d - 1) (by omega) n ok _ hU _ (by omega)) (Nat.le_refl _) (Or.inl rfl) (fun r ok1 mem1 hq => ?_)
            obtain ⟨rfl, rfl, rfl⟩ := hq
            refine pw_iret dX10_part_74 rfl rfl ?_
            unfold rPart; (repeat' split) <;> first | exact ⟨rfl, rfl, rfl⟩ | (exfalso; omega)
          · skip
            rw [bz_n] at c52
            refine pw_iload dX10_part_55 rfl ?_
            refine pw_i2l dX10_part_57 (by omega) ?_
            refine pw_lconst (x := 0) dX10_part_58 (by decide) ?_
            refine pw_ldc2 (x := 5) kw_1277 (by decide) dX10_part_59 ?_
            refine pw_callS (d' := d - 1) (As := [_, _, _]) dX10_part_62 ok_X10_in kw_1245 (by omega) rfl (Nat.le_of_ble_eq_true rfl) (r_in (d - 1) (by omega) n ok _ _ _ _ (by omega) (by omega) (by omega)) (Nat.le_refl _) (Or.inl rfl) (fun r ok1 mem1 hq => ?_)
            obtain ⟨rfl, rfl, rfl⟩ := hq
            refine pw_if_ne 75 (by decide) dX10_part_65 (by split <;> omega) (fun c65 => ?_) (fun c65 => ?_)
            · skip
              rw [ne_eq, bz_n] at c65
              refine pw_aload_n 0 rfl dX10_part_75 rfl ?_
              refine pw_gR 4 89 dX10_part_76 cOk10 (by assumption) (by decide) kw_1069 (by decide) rfl ?_
              refine pw_iconst dX10_part_79 ?_
              refine pw_iload_n 1 rfl dX10_part_80 rfl ?_
              refine pw_imul dX10_part_81 ?_
              refine pw_iload_n 2 rfl dX10_part_82 rfl ?_
              refine pw_iconst dX10_part_83 ?_
              refine pw_idiv dX10_part_84 (by omega) (by omega) ?_
              refine pw_iadd dX10_part_85 ?_
              refine pw_iaload dX10_part_86 (by assumption) (by omega) (by omega) (fun r86 => ?_)
              refine pw_istore dX10_part_87 (by decide) ?_
              refine pw_iload dX10_part_89 rfl ?_
              refine pw_iconst dX10_part_91 ?_
              refine pw_icmp_eq 103 (by decide) dX10_part_92 (by omega) (by omega) (fun c92 => ?_) (fun c92 => ?_)
              · skip
                refine pw_aload_n 0 rfl dX10_part_103 rfl ?_
                refine pw_iload dX10_part_104 rfl ?_
                refine pw_iconst dX10_part_106 ?_
                refine pw_icmp_ne 114 (by decide) dX10_part_107 (by omega) (by omega) (fun c107 => ?_) (fun c107 => ?_)
                · skip
                  exfalso; omega
                · skip
                  refine pw_iconst dX10_part_110 ?_
                  refine pw_goto 115 (by decide) dX10_part_111 ?_
                  refine pw_callV (d' := d - 1) (As := [_]) (ci := 10) dX10_part_115 ok_X10_meets kw_1253 rfl rfl (Of.o (by assumption)) (by omega) rfl (Nat.le_of_ble_eq_true rfl) (r_meets (d - 1) (by omega) n ok _ hU _ (by omega)) (Nat.le_refl _) (Or.inl rfl) (fun r ok1 mem1 hq => ?_)
                  obtain ⟨rfl, rfl, rfl⟩ := hq
                  refine pw_iret dX10_part_118 rfl rfl ?_
                  unfold rPart; (repeat' split) <;> first | exact ⟨rfl, rfl, rfl⟩ | (exfalso; omega)
              · skip
                refine pw_iload_n 2 rfl dX10_part_95 rfl ?_
                refine pw_iconst dX10_part_96 ?_
                refine pw_irem dX10_part_97 (by omega) (by omega) ?_
                refine pw_iload dX10_part_98 rfl ?_
                refine pw_icmp_lt 119 (by decide) dX10_part_100 (by omega) (by omega) (fun c100 => ?_) (fun c100 => ?_)
                · skip
                  refine pw_aload_n 0 rfl dX10_part_119 rfl ?_
                  refine pw_iload_n 1 rfl dX10_part_120 rfl ?_
                  refine pw_iload_n 2 rfl dX10_part_121 rfl ?_
                  refine pw_callV (d' := d - 1) (As := [_, _]) (ci := 10) dX10_part_122 ok_X10_multiplied kw_1279 rfl rfl (Of.o (by assumption)) (by omega) rfl (Nat.le_of_ble_eq_true rfl) (r_multiplied (d - 1) (by omega) n ok _ hU _ _ (by omega) (by omega)) (Nat.le_refl _) (Or.inl rfl) (fun r ok1 mem1 hq => ?_)
                  obtain ⟨rfl, rfl, rfl⟩ := hq
                  refine pw_iload dX10_part_125 rfl ?_
                  refine pw_imul dX10_part_127 ?_
                  have hmb : 0 ≤ aMul mem c s 16 * p ∧ aMul mem c s 16 * p ≤ 600000 := by
                    constructor
                    · exact Int.mul_nonneg hmu.1 (by omega)
                    · exact Int.le_trans (Int.mul_le_mul_of_nonneg_left (show p ≤ 6 by omega) hmu.1) (by omega)
                  refine pw_sipush dX10_part_128 (by decide) ?_
                  refine pw_icmp_le 141 (by decide) dX10_part_131 (by omega) (by omega) (fun c131 => ?_) (fun c131 => ?_)
                  · skip
                    refine pw_aload_n 0 rfl dX10_part_141 rfl ?_
                    refine pw_iload_n 1 rfl dX10_part_142 rfl ?_
                    refine pw_iload_n 2 rfl dX10_part_143 rfl ?_
                    refine pw_iload_n 3 rfl dX10_part_144 rfl ?_
                    refine pw_iload dX10_part_145 rfl ?_
                    refine pw_iload dX10_part_147 rfl ?_
                    refine pw_callV (d' := d - 1) (As := [_, _, _, _, _]) (ci := 10) dX10_part_149 ok_X10_stand kw_1283 rfl rfl (Of.o (by assumption)) (by omega) rfl (Nat.le_of_ble_eq_true rfl) (r_stand (d - 1) (by omega) n ok _ hU _ _ _ _ _ (by omega) (by omega) (by omega) (by omega) (by omega)) (Nat.le_refl _) (Or.inl rfl) (fun r ok1 mem1 hq => ?_)
                    obtain ⟨rfl, rfl, rfl⟩ := hq
                    refine pw_aload_n 0 rfl dX10_part_152 rfl ?_
                    refine pw_iload_n 1 rfl dX10_part_153 rfl ?_
                    refine pw_callV (d' := d - 1) (As := [_]) (ci := 10) dX10_part_154 ok_X10_changed kw_1261 rfl rfl (Of.o (by assumption)) (by omega) rfl (Nat.le_of_ble_eq_true rfl) (r_changed (d - 1) (by omega) n ok _ hU _ (by omega)) (Nat.le_refl _) (Or.inl rfl) (fun r ok1 mem1 hq => ?_)
                    obtain ⟨rfl, rfl, rfl⟩ := hq
                    refine pw_aload_n 0 rfl dX10_part_157 rfl ?_
                    refine pw_aload_n 0 rfl dX10_part_158 rfl ?_
                    refine pw_iload_n 1 rfl dX10_part_159 rfl ?_
                    refine pw_callV (d' := d - 1) (As := [_]) (ci := 10) dX10_part_160 ok_X10_parts kw_1287 rfl rfl (Of.o (by assumption)) (by omega) rfl (Nat.le_of_ble_eq_true rfl) (r_parts (d - 1) (by omega) n ok _ hU _ (by omega)) (Nat.le_refl _) (Or.inl rfl) (fun r ok1 mem1 hq => ?_)
                    obtain ⟨rfl, rfl, rfl⟩ := hq
                    refine pw_callV (d' := d - 1) (As := [_]) (ci := 10) dX10_part_163 ok_X10_says kw_1265 rfl rfl (Of.o (by assumption)) (by omega) rfl (Nat.le_of_ble_eq_true rfl) (r_says (d - 1) (by omega) n ok _ hU _) (Nat.le_refl _) (Or.inl rfl) (fun r ok1 mem1 hq => ?_)
                    obtain ⟨rfl, rfl, rfl⟩ := hq
                    refine pw_iret dX10_part_166 rfl rfl ?_
                    unfold rPart; (repeat' split) <;> first | exact ⟨rfl, rfl, rfl⟩ | (exfalso; omega)
                  · skip
                    refine pw_aload_n 0 rfl dX10_part_134 rfl ?_
                    refine pw_bipush dX10_part_135 (by decide) ?_
                    refine pw_callV (d' := d - 1) (As := [_]) (ci := 10) dX10_part_137 ok_X10_refuses kw_1249 rfl rfl (Of.o (by assumption)) (by omega) rfl (Nat.le_of_ble_eq_true rfl) (r_refuses (d - 1) (by omega) n ok _ hU _ (by omega)) (Nat.le_refl _) (Or.inl rfl) (fun r ok1 mem1 hq => ?_)
                    obtain ⟨rfl, rfl, rfl⟩ := hq
                    refine pw_iret dX10_part_140 rfl rfl ?_
                    unfold rPart; (repeat' split) <;> first | exact ⟨rfl, rfl, rfl⟩ | (exfalso; omega)
                · skip
                  refine pw_aload_n 0 rfl dX10_part_103 rfl ?_
                  refine pw_iload dX10_part_104 rfl ?_
                  refine pw_iconst dX10_part_106 ?_
                  refine pw_icmp_ne 114 (by decide) dX10_part_107 (by omega) (by omega) (fun c107 => ?_) (fun c107 => ?_)
                  · skip
                    refine pw_iconst dX10_part_114 ?_
                    refine pw_callV (d' := d - 1) (As := [_]) (ci := 10) dX10_part_115 ok_X10_meets kw_1253 rfl rfl (Of.o (by assumption)) (by omega) rfl (Nat.le_of_ble_eq_true rfl) (r_meets (d - 1) (by omega) n ok _ hU _ (by omega)) (Nat.le_refl _) (Or.inl rfl) (fun r ok1 mem1 hq => ?_)
                    obtain ⟨rfl, rfl, rfl⟩ := hq
                    refine pw_iret dX10_part_118 rfl rfl ?_
                    unfold rPart; (repeat' split) <;> first | exact ⟨rfl, rfl, rfl⟩ | (exfalso; omega)
                  · skip
                    exfalso; omega
            · skip
              rw [bz_0] at c65
              refine pw_aload_n 0 rfl dX10_part_68 rfl ?_
              refine pw_bipush dX10_part_69 (by decide) ?_
              refine pw_callV (d' := d - 1) (As := [_]) (ci := 10) dX10_part_71 ok_X10_refuses kw_1249 rfl rfl (Of.o (by assumption)) (by omega) rfl (Nat.le_of_ble_eq_true rfl) (r_refuses (d - 1) (by omega) n ok _ hU _ (by omega)) (Nat.le_refl _) (Or.inl rfl) (fun r ok1 mem1 hq => ?_)
              obtain ⟨rfl, rfl, rfl⟩ := hq
              refine pw_iret dX10_part_74 rfl rfl ?_
              unfold rPart; (repeat' split) <;> first | exact ⟨rfl, rfl, rfl⟩ | (exfalso; omega)
  · skip
    rw [bz_0] at c4
    refine pw_aload_n 0 rfl dX10_part_7 rfl ?_
    refine pw_bipush dX10_part_8 (by decide) ?_
    refine pw_callV (d' := d - 1) (As := [_]) (ci := 10) dX10_part_10 ok_X10_refuses kw_1249 rfl rfl (Of.o (by assumption)) (by omega) rfl (Nat.le_of_ble_eq_true rfl) (r_refuses (d - 1) (by omega) n ok _ hU _ (by omega)) (Nat.le_refl _) (Or.inl rfl) (fun r ok1 mem1 hq => ?_)
    obtain ⟨rfl, rfl, rfl⟩ := hq
    refine pw_iret dX10_part_13 rfl rfl ?_
    unfold rPart; (repeat' split) <;> first | exact ⟨rfl, rfl, rfl⟩ | (exfalso; omega)
def rTake (m : pM) (c s : Int) : Int × pM :=
  if ¬ (0 ≤ c ∧ c ≤ 2) then rRef m (-2) else if ¬ (0 ≤ s ∧ s ≤ 15) then rRef m (-3) else if aComes m c s ≠ 0 then rMet m (aComes m c s)
  else rSay (rChg (wr m 90 (16 * c + s) (-1)) c) (aParts (rChg (wr m 90 (16 * c + s) (-1)) c) c 16)
set_option maxHeartbeats 4000000 in
set_option maxRecDepth 100000 in
theorem r_take (d : Nat) (hd : 2 ≤ d) (n : Nat) (ok : pO) (mem : pM) (hU : RefUp n ok) (c s : Int) (hc : -2147483648 ≤ c ∧ c ≤ 2147483647) (hs : -2147483648 ≤ s ∧ s ≤ 2147483647) : PM mi_X10_take d [vr 88, vi c, vi s] n ok mem n (fun r ok' mem' => r = some (vi (rTake mem c s).1) ∧ ok = ok' ∧ (rTake mem c s).2 = mem') := by
  obtain ⟨hO, ⟨a89, a90, a91, a92, a93, a94, a95, a96, a97, a98⟩, ⟨a99, a100, a101, a102, a103, a104, a105, a106, a107⟩, ⟨a108, a109, a110, a111, a112, a113, a114, a115, a116, a117, a118, a119⟩, a120, a121, a122⟩ := id hU
  refine PM.of (by decide) (by decide) (Nat.le_refl _) (Nat.le_of_ble_eq_true rfl) ?_
  refine pw_iload_n 1 rfl dX10_take_0 rfl ?_
  refine pw_callS (d' := d - 1) (As := [_]) dX10_take_1 ok_X10_isChest kw_1241 (by omega) rfl (Nat.le_of_ble_eq_true rfl) (r_isChest (d - 1) (by omega) n ok _ _ (by omega)) (Nat.le_refl _) (Or.inl rfl) (fun r ok1 mem1 hq => ?_)
  obtain ⟨rfl, rfl, rfl⟩ := hq
  refine pw_if_eq 14 (by decide) dX10_take_4 (by split <;> omega) (fun c4 => ?_) (fun c4 => ?_)
  · skip
    rw [bz_0] at c4
    refine pw_aload_n 0 rfl dX10_take_14 rfl ?_
    refine pw_iload_n 1 rfl dX10_take_15 rfl ?_
    refine pw_callS (d' := d - 1) (As := [_]) dX10_take_16 ok_X10_isChest kw_1241 (by omega) rfl (Nat.le_of_ble_eq_true rfl) (r_isChest (d - 1) (by omega) n ok _ _ (by omega)) (Nat.le_refl _) (Or.inl rfl) (fun r ok1 mem1 hq => ?_)
    obtain ⟨rfl, rfl, rfl⟩ := hq
    refine pw_if_eq 27 (by decide) dX10_take_19 (by split <;> omega) (fun c19 => ?_) (fun c19 => ?_)
    · skip
      rw [bz_0] at c19
      refine pw_bipush dX10_take_27 (by decide) ?_
      refine pw_callV (d' := d - 1) (As := [_]) (ci := 10) dX10_take_29 ok_X10_refuses kw_1249 rfl rfl (Of.o (by assumption)) (by omega) rfl (Nat.le_of_ble_eq_true rfl) (r_refuses (d - 1) (by omega) n ok _ hU _ (by omega)) (Nat.le_refl _) (Or.inl rfl) (fun r ok1 mem1 hq => ?_)
      obtain ⟨rfl, rfl, rfl⟩ := hq
      refine pw_iret dX10_take_32 rfl rfl ?_
      unfold rTake; (repeat' split) <;> first | exact ⟨rfl, rfl, rfl⟩ | (exfalso; omega)
    · skip
      rw [bz_n] at c19
      refine pw_bipush dX10_take_22 (by decide) ?_
      refine pw_goto 29 (by decide) dX10_take_24 ?_
      refine pw_callV (d' := d - 1) (As := [_]) (ci := 10) dX10_take_29 ok_X10_refuses kw_1249 rfl rfl (Of.o (by assumption)) (by omega) rfl (Nat.le_of_ble_eq_true rfl) (r_refuses (d - 1) (by omega) n ok _ hU _ (by omega)) (Nat.le_refl _) (Or.inl rfl) (fun r ok1 mem1 hq => ?_)
      obtain ⟨rfl, rfl, rfl⟩ := hq
      refine pw_iret dX10_take_32 rfl rfl ?_
      unfold rTake; (repeat' split) <;> first | exact ⟨rfl, rfl, rfl⟩ | (exfalso; omega)
  · skip
    rw [bz_n] at c4
    refine pw_iload_n 2 rfl dX10_take_7 rfl ?_
    refine pw_callS (d' := d - 1) (As := [_]) dX10_take_8 ok_X10_isSeat kw_1273 (by omega) rfl (Nat.le_of_ble_eq_true rfl) (r_isSeat (d - 1) (by omega) n ok _ _ (by omega)) (Nat.le_refl _) (Or.inl rfl) (fun r ok1 mem1 hq => ?_)
    obtain ⟨rfl, rfl, rfl⟩ := hq
    refine pw_if_ne 33 (by decide) dX10_take_11 (by split <;> omega) (fun c11 => ?_) (fun c11 => ?_)
    · skip
      rw [ne_eq, bz_n] at c11
      refine pw_aload_n 0 rfl dX10_take_33 rfl ?_
      refine pw_iload_n 1 rfl dX10_take_34 rfl ?_
      refine pw_iload_n 2 rfl dX10_take_35 rfl ?_
      refine pw_callV (d' := d - 1) (As := [_, _]) (ci := 10) dX10_take_36 ok_X10_comes kw_1295 rfl rfl (Of.o (by assumption)) (by omega) rfl (Nat.le_of_ble_eq_true rfl) (r_comes (d - 1) (by omega) n ok _ hU _ _ (by omega) (by omega)) (Nat.le_refl _) (Or.inl rfl) (fun r ok1 mem1 hq => ?_)
      obtain ⟨rfl, rfl, rfl⟩ := hq
      have hcr := aComes_ran mem c s
      refine pw_istore_n 3 rfl dX10_take_39 (by decide) ?_
      refine pw_iload_n 3 rfl dX10_take_40 rfl ?_
      refine pw_if_eq 50 (by decide) dX10_take_41 (by omega) (fun c41 => ?_) (fun c41 => ?_)
      · skip
        refine pw_aload_n 0 rfl dX10_take_50 rfl ?_
        refine pw_gR 5 90 dX10_take_51 cOk10 (by assumption) (by decide) kw_1070 (by decide) rfl ?_
        refine pw_bipush dX10_take_54 (by decide) ?_
        refine pw_iload_n 1 rfl dX10_take_56 rfl ?_
        refine pw_imul dX10_take_57 ?_
        refine pw_iload_n 2 rfl dX10_take_58 rfl ?_
        refine pw_iadd dX10_take_59 ?_
        refine pw_iconst dX10_take_60 ?_
        refine pw_iastore dX10_take_61 (by assumption) (by omega) (by omega) (by omega) ?_
        refine pw_aload_n 0 rfl dX10_take_62 rfl ?_
        refine pw_iload_n 1 rfl dX10_take_63 rfl ?_
        refine pw_callV (d' := d - 1) (As := [_]) (ci := 10) dX10_take_64 ok_X10_changed kw_1261 rfl rfl (Of.o (by assumption)) (by omega) rfl (Nat.le_of_ble_eq_true rfl) (r_changed (d - 1) (by omega) n ok _ hU _ (by omega)) (Nat.le_refl _) (Or.inl rfl) (fun r ok1 mem1 hq => ?_)
        obtain ⟨rfl, rfl, rfl⟩ := hq
        refine pw_aload_n 0 rfl dX10_take_67 rfl ?_
        refine pw_aload_n 0 rfl dX10_take_68 rfl ?_
        refine pw_iload_n 1 rfl dX10_take_69 rfl ?_
        refine pw_callV (d' := d - 1) (As := [_]) (ci := 10) dX10_take_70 ok_X10_parts kw_1287 rfl rfl (Of.o (by assumption)) (by omega) rfl (Nat.le_of_ble_eq_true rfl) (r_parts (d - 1) (by omega) n ok _ hU _ (by omega)) (Nat.le_refl _) (Or.inl rfl) (fun r ok1 mem1 hq => ?_)
        obtain ⟨rfl, rfl, rfl⟩ := hq
        refine pw_callV (d' := d - 1) (As := [_]) (ci := 10) dX10_take_73 ok_X10_says kw_1265 rfl rfl (Of.o (by assumption)) (by omega) rfl (Nat.le_of_ble_eq_true rfl) (r_says (d - 1) (by omega) n ok _ hU _) (Nat.le_refl _) (Or.inl rfl) (fun r ok1 mem1 hq => ?_)
        obtain ⟨rfl, rfl, rfl⟩ := hq
        refine pw_iret dX10_take_76 rfl rfl ?_
        unfold rTake; (repeat' split) <;> first | exact ⟨rfl, rfl, rfl⟩ | (exfalso; omega)
      · skip
        refine pw_aload_n 0 rfl dX10_take_44 rfl ?_
        refine pw_iload_n 3 rfl dX10_take_45 rfl ?_
        refine pw_callV (d' := d - 1) (As := [_]) (ci := 10) dX10_take_46 ok_X10_meets kw_1253 rfl rfl (Of.o (by assumption)) (by omega) rfl (Nat.le_of_ble_eq_true rfl) (r_meets (d - 1) (by omega) n ok _ hU _ (by omega)) (Nat.le_refl _) (Or.inl rfl) (fun r ok1 mem1 hq => ?_)
        obtain ⟨rfl, rfl, rfl⟩ := hq
        refine pw_iret dX10_take_49 rfl rfl ?_
        unfold rTake; (repeat' split) <;> first | exact ⟨rfl, rfl, rfl⟩ | (exfalso; omega)
    · skip
      rw [bz_0] at c11
      refine pw_aload_n 0 rfl dX10_take_14 rfl ?_
      refine pw_iload_n 1 rfl dX10_take_15 rfl ?_
      refine pw_callS (d' := d - 1) (As := [_]) dX10_take_16 ok_X10_isChest kw_1241 (by omega) rfl (Nat.le_of_ble_eq_true rfl) (r_isChest (d - 1) (by omega) n ok _ _ (by omega)) (Nat.le_refl _) (Or.inl rfl) (fun r ok1 mem1 hq => ?_)
      obtain ⟨rfl, rfl, rfl⟩ := hq
      refine pw_if_eq 27 (by decide) dX10_take_19 (by split <;> omega) (fun c19 => ?_) (fun c19 => ?_)
      · skip
        rw [bz_0] at c19
        refine pw_bipush dX10_take_27 (by decide) ?_
        refine pw_callV (d' := d - 1) (As := [_]) (ci := 10) dX10_take_29 ok_X10_refuses kw_1249 rfl rfl (Of.o (by assumption)) (by omega) rfl (Nat.le_of_ble_eq_true rfl) (r_refuses (d - 1) (by omega) n ok _ hU _ (by omega)) (Nat.le_refl _) (Or.inl rfl) (fun r ok1 mem1 hq => ?_)
        obtain ⟨rfl, rfl, rfl⟩ := hq
        refine pw_iret dX10_take_32 rfl rfl ?_
        unfold rTake; (repeat' split) <;> first | exact ⟨rfl, rfl, rfl⟩ | (exfalso; omega)
      · skip
        rw [bz_n] at c19
        refine pw_bipush dX10_take_22 (by decide) ?_
        refine pw_goto 29 (by decide) dX10_take_24 ?_
        refine pw_callV (d' := d - 1) (As := [_]) (ci := 10) dX10_take_29 ok_X10_refuses kw_1249 rfl rfl (Of.o (by assumption)) (by omega) rfl (Nat.le_of_ble_eq_true rfl) (r_refuses (d - 1) (by omega) n ok _ hU _ (by omega)) (Nat.le_refl _) (Or.inl rfl) (fun r ok1 mem1 hq => ?_)
        obtain ⟨rfl, rfl, rfl⟩ := hq
        refine pw_iret dX10_take_32 rfl rfl ?_
        unfold rTake; (repeat' split) <;> first | exact ⟨rfl, rfl, rfl⟩ | (exfalso; omega)
def rMore (m : pM) (c a l k : Int) : pM := wr (fiM (wr (wr (wr m 95 (40 * c + m 94 c) a) 96 (40 * c + m 94 c) l) 97 (40 * c + m 94 c) k) 98 (6 * (40 * c + m 94 c)) 6 0) 94 c (m 94 c + 1)
set_option maxHeartbeats 4000000 in
set_option maxRecDepth 100000 in
theorem r_conditionMore (d : Nat) (hd : 0 ≤ d) (n : Nat) (ok : pO) (mem : pM) (hU : RefUp n ok) (c a l k : Int) (hc : 0 ≤ c ∧ c ≤ 2) (ha : -2147483648 ≤ a ∧ a ≤ 2147483647) (hl : -2147483648 ≤ l ∧ l ≤ 2147483647) (hk : -2147483648 ≤ k ∧ k ≤ 2147483647) (hn : 0 ≤ mem 94 c ∧ mem 94 c < 40) : PM mi_X10_conditionMore d [vr 88, vi c, vi a, vi l, vi k] n ok mem n (fun r ok' mem' => r = some (vi (mem 94 c)) ∧ ok = ok' ∧ rMore mem c a l k = mem') := by
  obtain ⟨hO, ⟨a89, a90, a91, a92, a93, a94, a95, a96, a97, a98⟩, ⟨a99, a100, a101, a102, a103, a104, a105, a106, a107⟩, ⟨a108, a109, a110, a111, a112, a113, a114, a115, a116, a117, a118, a119⟩, a120, a121, a122⟩ := id hU
  refine PM.of (by decide) (by decide) (Nat.le_refl _) (Nat.le_of_ble_eq_true rfl) ?_
  refine pw_bipush dX10_conditionMore_0 (by decide) ?_
  refine pw_iload_n 1 rfl dX10_conditionMore_2 rfl ?_
  refine pw_imul dX10_conditionMore_3 ?_
  refine pw_aload_n 0 rfl dX10_conditionMore_4 rfl ?_
  refine pw_gR 9 94 dX10_conditionMore_5 cOk10 (by assumption) (by decide) kw_1074 (by decide) rfl ?_
  refine pw_iload_n 1 rfl dX10_conditionMore_8 rfl ?_
  refine pw_iaload dX10_conditionMore_9 (by assumption) (by omega) (by omega) (fun r9 => ?_)
  refine pw_iadd dX10_conditionMore_10 ?_
  refine pw_istore dX10_conditionMore_11 (by decide) ?_
  refine pw_aload_n 0 rfl dX10_conditionMore_13 rfl ?_
  refine pw_gR 10 95 dX10_conditionMore_14 cOk10 (by assumption) (by decide) kw_1075 (by decide) rfl ?_
  refine pw_iload dX10_conditionMore_17 rfl ?_
  refine pw_iload_n 2 rfl dX10_conditionMore_19 rfl ?_
  refine pw_iastore dX10_conditionMore_20 (by assumption) (by omega) (by omega) (by omega) ?_
  refine pw_aload_n 0 rfl dX10_conditionMore_21 rfl ?_
  refine pw_gR 11 96 dX10_conditionMore_22 cOk10 (by assumption) (by decide) kw_1076 (by decide) rfl ?_
  refine pw_iload dX10_conditionMore_25 rfl ?_
  refine pw_iload_n 3 rfl dX10_conditionMore_27 rfl ?_
  refine pw_iastore dX10_conditionMore_28 (by assumption) (by omega) (by omega) (by omega) ?_
  refine pw_aload_n 0 rfl dX10_conditionMore_29 rfl ?_
  refine pw_gR 12 97 dX10_conditionMore_30 cOk10 (by assumption) (by decide) kw_1077 (by decide) rfl ?_
  refine pw_iload dX10_conditionMore_33 rfl ?_
  refine pw_iload dX10_conditionMore_35 rfl ?_
  refine pw_iastore dX10_conditionMore_37 (by assumption) (by omega) (by omega) (by omega) ?_
  refine pw_iconst dX10_conditionMore_38 ?_
  refine pw_istore dX10_conditionMore_39 (by decide) ?_
  have lp41 : ∀ (kz : Nat) (i : Nat) (m1 : pM), 6 - (i : Int) < (kz : Int) → (i ≤ 6) → (fiM (wr (wr (wr mem 95 (40 * c + mem 94 c) a) 96 (40 * c + mem 94 c) l) 97 (40 * c + mem 94 c) k) 98 (6 * (40 * c + mem 94 c)) i 0 = m1) → PW mi_X10_conditionMore d n n (fun r ok' mem' => r = some (vi (mem 94 c)) ∧ ok = ok' ∧ rMore mem c a l k = mem') 41 [(0, vr 88), (1, vi c), (2, vi a), (3, vi l), (4, vi k), (5, vi (40 * c + mem 94 c)), (6, vi (i : Int))] [] n ok m1 := by
    intro kz
    induction kz with
    | zero =>
      intro i m1 hk h1 h2
      exact absurd hk (by omega)
    | succ kz ih =>
      intro i m1 hk h1 h2
      refine pw_iload dX10_conditionMore_41 rfl ?_
      refine pw_bipush dX10_conditionMore_43 (by decide) ?_
      refine pw_icmp_ge 68 (by decide) dX10_conditionMore_45 (by omega) (by omega) (fun c45 => ?_) (fun c45 => ?_)
      · skip
        have e6 : i = 6 := by omega
        subst e6
        have q94 : m1 94 c = mem 94 c := by rw [← h2, fiM_a _ _ _ _ (by omega), wr_a _ _ _ (by omega), wr_a _ _ _ (by omega), wr_a _ _ _ (by omega)]
        refine pw_aload_n 0 rfl dX10_conditionMore_68 rfl ?_
        refine pw_gR 9 94 dX10_conditionMore_69 cOk10 (by assumption) (by decide) kw_1074 (by decide) rfl ?_
        refine pw_iload_n 1 rfl dX10_conditionMore_72 rfl ?_
        refine pw_dup2 dX10_conditionMore_73 rfl rfl ?_
        refine pw_iaload dX10_conditionMore_74 (by assumption) (by omega) (by omega) (fun r74 => ?_)
        try simp (disch := omega) only [wr_s, wr_a, wr_k] at r74 ⊢
        rw [q94] at r74 ⊢
        refine pw_iconst dX10_conditionMore_75 ?_
        refine pw_iadd dX10_conditionMore_76 ?_
        refine pw_iastore dX10_conditionMore_77 (by assumption) (by omega) (by omega) (by omega) ?_
        refine pw_aload_n 0 rfl dX10_conditionMore_78 rfl ?_
        refine pw_gR 9 94 dX10_conditionMore_79 cOk10 (by assumption) (by decide) kw_1074 (by decide) rfl ?_
        refine pw_iload_n 1 rfl dX10_conditionMore_82 rfl ?_
        refine pw_iaload dX10_conditionMore_83 (by assumption) (by omega) (by omega) (fun r83 => ?_)
        try simp (disch := omega) only [wr_s, wr_a, wr_k] at r83 ⊢
        refine pw_iconst dX10_conditionMore_84 ?_
        refine pw_isub dX10_conditionMore_85 ?_
        refine pw_iret dX10_conditionMore_86 rfl rfl ?_
        rw [← h2]
        exact ⟨congrArg (fun z => some (vi z)) (by omega), rfl, rfl⟩
      · skip
        refine pw_aload_n 0 rfl dX10_conditionMore_48 rfl ?_
        refine pw_gR 13 98 dX10_conditionMore_49 cOk10 (by assumption) (by decide) kw_1078 (by decide) rfl ?_
        refine pw_bipush dX10_conditionMore_52 (by decide) ?_
        refine pw_iload dX10_conditionMore_54 rfl ?_
        refine pw_imul dX10_conditionMore_56 ?_
        refine pw_iload dX10_conditionMore_57 rfl ?_
        refine pw_iadd dX10_conditionMore_59 ?_
        refine pw_iconst dX10_conditionMore_60 ?_
        refine pw_iastore dX10_conditionMore_61 (by assumption) (by omega) (by omega) (by omega) ?_
        refine pw_iinc dX10_conditionMore_62 rfl (by decide) ?_
        refine pw_goto 41 (by decide) dX10_conditionMore_65 ?_
        exact pw_locs _ rfl (ih (i + 1) _ (by omega) (by omega) (by rw [← h2]; exact (fiM_s _ 98 (6 * (40 * c + mem 94 c)) i 0 (by omega)).symm))
  exact pw_locs _ rfl (lp41 7 0 _ (by omega) (by omega) (fiM_0 _ _ _ _))
def rCond (m : pM) (c a l k : Int) : Int × pM :=
  if ¬ (0 ≤ c ∧ c ≤ 2) then rRef m (-2) else if ¬ (-1 ≤ a ∧ a ≤ 15) ∨ ¬ (0 ≤ l ∧ l ≤ 15) ∨ 6 < k then rRef m (-3) else if k < -1 then rMet m 4 else if m 94 c = 40 then rRef m (-5)
  else rSay (rChg (rMore m c a l k) c) (m 94 c)
set_option maxHeartbeats 4000000 in
set_option maxRecDepth 100000 in
theorem r_condition (d : Nat) (hd : 2 ≤ d) (n : Nat) (ok : pO) (mem : pM) (hU : RefUp n ok) (c a l k : Int) (hc : -2147483648 ≤ c ∧ c ≤ 2147483647) (ha : -2147483648 ≤ a ∧ a ≤ 2147483647) (hl : -2147483648 ≤ l ∧ l ≤ 2147483647) (hk : -2147483648 ≤ k ∧ k ≤ 2147483647) (hn : ∀ c, 0 ≤ c → c ≤ 2 → 0 ≤ mem 94 c ∧ mem 94 c ≤ 40) : PM mi_X10_condition d [vr 88, vi c, vi a, vi l, vi k] n ok mem n (fun r ok' mem' => r = some (vi (rCond mem c a l k).1) ∧ ok = ok' ∧ (rCond mem c a l k).2 = mem') := by
  obtain ⟨hO, ⟨a89, a90, a91, a92, a93, a94, a95, a96, a97, a98⟩, ⟨a99, a100, a101, a102, a103, a104, a105, a106, a107⟩, ⟨a108, a109, a110, a111, a112, a113, a114, a115, a116, a117, a118, a119⟩, a120, a121, a122⟩ := id hU
  refine PM.of (by decide) (by decide) (Nat.le_refl _) (Nat.le_of_ble_eq_true rfl) ?_
  refine pw_iload_n 1 rfl dX10_condition_0 rfl ?_
  refine pw_callS (d' := d - 1) (As := [_]) dX10_condition_1 ok_X10_isChest kw_1241 (by omega) rfl (Nat.le_of_ble_eq_true rfl) (r_isChest (d - 1) (by omega) n ok _ _ (by omega)) (Nat.le_refl _) (Or.inl rfl) (fun r ok1 mem1 hq => ?_)
  obtain ⟨rfl, rfl, rfl⟩ := hq
  refine pw_if_ne 14 (by decide) dX10_condition_4 (by split <;> omega) (fun c4 => ?_) (fun c4 => ?_)
  · skip
    rw [ne_eq, bz_n] at c4
    have hn9 := hn c (by omega) (by omega)
    refine pw_iload_n 2 rfl dX10_condition_14 rfl ?_
    refine pw_i2l dX10_condition_15 (by omega) ?_
    refine pw_ldc2 (x := -1) kw_1303 (by decide) dX10_condition_16 ?_
    refine pw_ldc2 (x := 15) kw_1276 (by decide) dX10_condition_19 ?_
    refine pw_callS (d' := d - 1) (As := [_, _, _]) dX10_condition_22 ok_X10_in kw_1245 (by omega) rfl (Nat.le_of_ble_eq_true rfl) (r_in (d - 1) (by omega) n ok _ _ _ _ (by omega) (by omega) (by omega)) (Nat.le_refl _) (Or.inl rfl) (fun r ok1 mem1 hq => ?_)
    obtain ⟨rfl, rfl, rfl⟩ := hq
    refine pw_if_eq 42 (by decide) dX10_condition_25 (by split <;> omega) (fun c25 => ?_) (fun c25 => ?_)
    · skip
      rw [bz_0] at c25
      refine pw_aload_n 0 rfl dX10_condition_42 rfl ?_
      refine pw_bipush dX10_condition_43 (by decide) ?_
      refine pw_callV (d' := d - 1) (As := [_]) (ci := 10) dX10_condition_45 ok_X10_refuses kw_1249 rfl rfl (Of.o (by assumption)) (by omega) rfl (Nat.le_of_ble_eq_true rfl) (r_refuses (d - 1) (by omega) n ok _ hU _ (by omega)) (Nat.le_refl _) (Or.inl rfl) (fun r ok1 mem1 hq => ?_)
      obtain ⟨rfl, rfl, rfl⟩ := hq
      refine pw_iret dX10_condition_48 rfl rfl ?_
      unfold rCond; (repeat' split) <;> first | exact ⟨rfl, rfl, rfl⟩ | (exfalso; omega)
    · skip
      rw [bz_n] at c25
      refine pw_iload_n 3 rfl dX10_condition_28 rfl ?_
      refine pw_callS (d' := d - 1) (As := [_]) dX10_condition_29 ok_X10_isSeat kw_1273 (by omega) rfl (Nat.le_of_ble_eq_true rfl) (r_isSeat (d - 1) (by omega) n ok _ _ (by omega)) (Nat.le_refl _) (Or.inl rfl) (fun r ok1 mem1 hq => ?_)
      obtain ⟨rfl, rfl, rfl⟩ := hq
      refine pw_if_eq 42 (by decide) dX10_condition_32 (by split <;> omega) (fun c32 => ?_) (fun c32 => ?_)
      · skip
        rw [bz_0] at c32
        refine pw_aload_n 0 rfl dX10_condition_42 rfl ?_
        refine pw_bipush dX10_condition_43 (by decide) ?_
        refine pw_callV (d' := d - 1) (As := [_]) (ci := 10) dX10_condition_45 ok_X10_refuses kw_1249 rfl rfl (Of.o (by assumption)) (by omega) rfl (Nat.le_of_ble_eq_true rfl) (r_refuses (d - 1) (by omega) n ok _ hU _ (by omega)) (Nat.le_refl _) (Or.inl rfl) (fun r ok1 mem1 hq => ?_)
        obtain ⟨rfl, rfl, rfl⟩ := hq
        refine pw_iret dX10_condition_48 rfl rfl ?_
        unfold rCond; (repeat' split) <;> first | exact ⟨rfl, rfl, rfl⟩ | (exfalso; omega)
      · skip
        rw [bz_n] at c32
        refine pw_iload dX10_condition_35 rfl ?_
        refine pw_bipush dX10_condition_37 (by decide) ?_
        refine pw_icmp_le 49 (by decide) dX10_condition_39 (by omega) (by omega) (fun c39 => ?_) (fun c39 => ?_)
        · skip
          refine pw_iload dX10_condition_49 rfl ?_
          refine pw_iconst dX10_condition_51 ?_
          refine pw_icmp_ge 61 (by decide) dX10_condition_52 (by omega) (by omega) (fun c52 => ?_) (fun c52 => ?_)
          · skip
            refine pw_aload_n 0 rfl dX10_condition_61 rfl ?_
            refine pw_gR 9 94 dX10_condition_62 cOk10 (by assumption) (by decide) kw_1074 (by decide) rfl ?_
            refine pw_iload_n 1 rfl dX10_condition_65 rfl ?_
            refine pw_iaload dX10_condition_66 (by assumption) (by omega) (by omega) (fun r66 => ?_)
            refine pw_bipush dX10_condition_67 (by decide) ?_
            refine pw_icmp_ne 79 (by decide) dX10_condition_69 (by omega) (by omega) (fun c69 => ?_) (fun c69 => ?_)
            · skip
              refine pw_aload_n 0 rfl dX10_condition_79 rfl ?_
              refine pw_iload_n 1 rfl dX10_condition_80 rfl ?_
              refine pw_iload_n 2 rfl dX10_condition_81 rfl ?_
              refine pw_iload_n 3 rfl dX10_condition_82 rfl ?_
              refine pw_iload dX10_condition_83 rfl ?_
              refine pw_callV (d' := d - 1) (As := [_, _, _, _]) (ci := 10) dX10_condition_85 ok_X10_conditionMore kw_1304 rfl rfl (Of.o (by assumption)) (by omega) rfl (Nat.le_of_ble_eq_true rfl) (r_conditionMore (d - 1) (by omega) n ok _ hU _ _ _ _ (by omega) (by omega) (by omega) (by omega) (by omega)) (Nat.le_refl _) (Or.inl rfl) (fun r ok1 mem1 hq => ?_)
              obtain ⟨rfl, rfl, rfl⟩ := hq
              refine pw_istore dX10_condition_88 (by decide) ?_
              refine pw_aload_n 0 rfl dX10_condition_90 rfl ?_
              refine pw_iload_n 1 rfl dX10_condition_91 rfl ?_
              refine pw_callV (d' := d - 1) (As := [_]) (ci := 10) dX10_condition_92 ok_X10_changed kw_1261 rfl rfl (Of.o (by assumption)) (by omega) rfl (Nat.le_of_ble_eq_true rfl) (r_changed (d - 1) (by omega) n ok _ hU _ (by omega)) (Nat.le_refl _) (Or.inl rfl) (fun r ok1 mem1 hq => ?_)
              obtain ⟨rfl, rfl, rfl⟩ := hq
              refine pw_aload_n 0 rfl dX10_condition_95 rfl ?_
              refine pw_iload dX10_condition_96 rfl ?_
              refine pw_callV (d' := d - 1) (As := [_]) (ci := 10) dX10_condition_98 ok_X10_says kw_1265 rfl rfl (Of.o (by assumption)) (by omega) rfl (Nat.le_of_ble_eq_true rfl) (r_says (d - 1) (by omega) n ok _ hU _) (Nat.le_refl _) (Or.inl rfl) (fun r ok1 mem1 hq => ?_)
              obtain ⟨rfl, rfl, rfl⟩ := hq
              refine pw_iret dX10_condition_101 rfl rfl ?_
              unfold rCond; (repeat' split) <;> first | exact ⟨rfl, rfl, rfl⟩ | (exfalso; omega)
            · skip
              refine pw_aload_n 0 rfl dX10_condition_72 rfl ?_
              refine pw_bipush dX10_condition_73 (by decide) ?_
              refine pw_callV (d' := d - 1) (As := [_]) (ci := 10) dX10_condition_75 ok_X10_refuses kw_1249 rfl rfl (Of.o (by assumption)) (by omega) rfl (Nat.le_of_ble_eq_true rfl) (r_refuses (d - 1) (by omega) n ok _ hU _ (by omega)) (Nat.le_refl _) (Or.inl rfl) (fun r ok1 mem1 hq => ?_)
              obtain ⟨rfl, rfl, rfl⟩ := hq
              refine pw_iret dX10_condition_78 rfl rfl ?_
              unfold rCond; (repeat' split) <;> first | exact ⟨rfl, rfl, rfl⟩ | (exfalso; omega)
          · skip
            refine pw_aload_n 0 rfl dX10_condition_55 rfl ?_
            refine pw_iconst dX10_condition_56 ?_
            refine pw_callV (d' := d - 1) (As := [_]) (ci := 10) dX10_condition_57 ok_X10_meets kw_1253 rfl rfl (Of.o (by assumption)) (by omega) rfl (Nat.le_of_ble_eq_true rfl) (r_meets (d - 1) (by omega) n ok _ hU _ (by omega)) (Nat.le_refl _) (Or.inl rfl) (fun r ok1 mem1 hq => ?_)
            obtain ⟨rfl, rfl, rfl⟩ := hq
            refine pw_iret dX10_condition_60 rfl rfl ?_
            unfold rCond; (repeat' split) <;> first | exact ⟨rfl, rfl, rfl⟩ | (exfalso; omega)
        · skip
          refine pw_aload_n 0 rfl dX10_condition_42 rfl ?_
          refine pw_bipush dX10_condition_43 (by decide) ?_
          refine pw_callV (d' := d - 1) (As := [_]) (ci := 10) dX10_condition_45 ok_X10_refuses kw_1249 rfl rfl (Of.o (by assumption)) (by omega) rfl (Nat.le_of_ble_eq_true rfl) (r_refuses (d - 1) (by omega) n ok _ hU _ (by omega)) (Nat.le_refl _) (Or.inl rfl) (fun r ok1 mem1 hq => ?_)
          obtain ⟨rfl, rfl, rfl⟩ := hq
          refine pw_iret dX10_condition_48 rfl rfl ?_
          unfold rCond; (repeat' split) <;> first | exact ⟨rfl, rfl, rfl⟩ | (exfalso; omega)
  · skip
    rw [bz_0] at c4
    refine pw_aload_n 0 rfl dX10_condition_7 rfl ?_
    refine pw_bipush dX10_condition_8 (by decide) ?_
    refine pw_callV (d' := d - 1) (As := [_]) (ci := 10) dX10_condition_10 ok_X10_refuses kw_1249 rfl rfl (Of.o (by assumption)) (by omega) rfl (Nat.le_of_ble_eq_true rfl) (r_refuses (d - 1) (by omega) n ok _ hU _ (by omega)) (Nat.le_refl _) (Or.inl rfl) (fun r ok1 mem1 hq => ?_)
    obtain ⟨rfl, rfl, rfl⟩ := hq
    refine pw_iret dX10_condition_13 rfl rfl ?_
    unfold rCond; (repeat' split) <;> first | exact ⟨rfl, rfl, rfl⟩ | (exfalso; omega)
def rTruth (m : pM) (c k i v : Int) : Int × pM :=
  if ¬ ((0 ≤ c ∧ c ≤ 2) ∧ 0 ≤ k ∧ k < m 94 c) then rRef m (-2) else if m 97 (40 * c + k) = -1 then rMet m 1 else if ¬ (0 ≤ i ∧ i < m 97 (40 * c + k)) then rMet m 2
  else rSay (rChg (wr m 98 (6 * (40 * c + k) + i) (if v = 0 then 0 else 1)) c) (m 98 (6 * (40 * c + k) + i))
set_option maxHeartbeats 4000000 in
set_option maxRecDepth 100000 in
theorem r_truth (d : Nat) (hd : 3 ≤ d) (n : Nat) (ok : pO) (mem : pM) (hU : RefUp n ok) (c k i v : Int) (hc : -2147483648 ≤ c ∧ c ≤ 2147483647) (hk : -2147483648 ≤ k ∧ k ≤ 2147483647) (hi : -2147483648 ≤ i ∧ i ≤ 2147483647) (hv : -2147483648 ≤ v ∧ v ≤ 2147483647) (hn : ∀ c, 0 ≤ c → c ≤ 2 → 0 ≤ mem 94 c ∧ mem 94 c ≤ 40) (hm : ∀ c k, 0 ≤ c → c ≤ 2 → 0 ≤ k → k < mem 94 c → -1 ≤ mem 97 (40 * c + k) ∧ mem 97 (40 * c + k) ≤ 6) : PM mi_X10_truth d [vr 88, vi c, vi k, vi i, vi v] n ok mem n (fun r ok' mem' => r = some (vi (rTruth mem c k i v).1) ∧ ok = ok' ∧ (rTruth mem c k i v).2 = mem') := by
  obtain ⟨hO, ⟨a89, a90, a91, a92, a93, a94, a95, a96, a97, a98⟩, ⟨a99, a100, a101, a102, a103, a104, a105, a106, a107⟩, ⟨a108, a109, a110, a111, a112, a113, a114, a115, a116, a117, a118, a119⟩, a120, a121, a122⟩ := id hU
  refine PM.of (by decide) (by decide) (Nat.le_refl _) (Nat.le_of_ble_eq_true rfl) ?_
  refine pw_aload_n 0 rfl dX10_truth_0 rfl ?_
  refine pw_iload_n 1 rfl dX10_truth_1 rfl ?_
  refine pw_iload_n 2 rfl dX10_truth_2 rfl ?_
  refine pw_callV (d' := d - 1) (As := [_, _]) (ci := 10) dX10_truth_3 ok_X10_isCondition kw_1312 rfl rfl (Of.o (by assumption)) (by omega) rfl (Nat.le_of_ble_eq_true rfl) (r_isCondition (d - 1) (by omega) n ok _ hU _ _ (by omega) (by omega) hn) (Nat.le_refl _) (Or.inl rfl) (fun r ok1 mem1 hq => ?_)
  obtain ⟨rfl, rfl, rfl⟩ := hq
  refine pw_if_ne 16 (by decide) dX10_truth_6 (by split <;> omega) (fun c6 => ?_) (fun c6 => ?_)
  · skip
    rw [ne_eq, bz_n] at c6
    have hn9 := hn c (by omega) (by omega)
    have hm9 := hm c k (by omega) (by omega) (by omega) (by omega)
    refine pw_bipush dX10_truth_16 (by decide) ?_
    refine pw_iload_n 1 rfl dX10_truth_18 rfl ?_
    refine pw_imul dX10_truth_19 ?_
    refine pw_iload_n 2 rfl dX10_truth_20 rfl ?_
    refine pw_iadd dX10_truth_21 ?_
    refine pw_istore dX10_truth_22 (by decide) ?_
    refine pw_aload_n 0 rfl dX10_truth_24 rfl ?_
    refine pw_gR 12 97 dX10_truth_25 cOk10 (by assumption) (by decide) kw_1077 (by decide) rfl ?_
    refine pw_iload dX10_truth_28 rfl ?_
    refine pw_iaload dX10_truth_30 (by assumption) (by omega) (by omega) (fun r30 => ?_)
    refine pw_iconst dX10_truth_31 ?_
    refine pw_icmp_eq 54 (by decide) dX10_truth_32 (by omega) (by omega) (fun c32 => ?_) (fun c32 => ?_)
    · skip
      refine pw_aload_n 0 rfl dX10_truth_54 rfl ?_
      refine pw_aload_n 0 rfl dX10_truth_55 rfl ?_
      refine pw_gR 12 97 dX10_truth_56 cOk10 (by assumption) (by decide) kw_1077 (by decide) rfl ?_
      refine pw_iload dX10_truth_59 rfl ?_
      refine pw_iaload dX10_truth_61 (by assumption) (by omega) (by omega) (fun r61 => ?_)
      refine pw_iconst dX10_truth_62 ?_
      refine pw_icmp_ne 70 (by decide) dX10_truth_63 (by omega) (by omega) (fun c63 => ?_) (fun c63 => ?_)
      · skip
        exfalso; omega
      · skip
        refine pw_iconst dX10_truth_66 ?_
        refine pw_goto 71 (by decide) dX10_truth_67 ?_
        refine pw_callV (d' := d - 1) (As := [_]) (ci := 10) dX10_truth_71 ok_X10_meets kw_1253 rfl rfl (Of.o (by assumption)) (by omega) rfl (Nat.le_of_ble_eq_true rfl) (r_meets (d - 1) (by omega) n ok _ hU _ (by omega)) (Nat.le_refl _) (Or.inl rfl) (fun r ok1 mem1 hq => ?_)
        obtain ⟨rfl, rfl, rfl⟩ := hq
        refine pw_iret dX10_truth_74 rfl rfl ?_
        unfold rTruth; (repeat' split) <;> first | exact ⟨rfl, rfl, rfl⟩ | (exfalso; omega)
    · skip
      refine pw_iload_n 3 rfl dX10_truth_35 rfl ?_
      refine pw_i2l dX10_truth_36 (by omega) ?_
      refine pw_lconst (x := 0) dX10_truth_37 (by decide) ?_
      refine pw_aload_n 0 rfl dX10_truth_38 rfl ?_
      refine pw_gR 12 97 dX10_truth_39 cOk10 (by assumption) (by decide) kw_1077 (by decide) rfl ?_
      refine pw_iload dX10_truth_42 rfl ?_
      refine pw_iaload dX10_truth_44 (by assumption) (by omega) (by omega) (fun r44 => ?_)
      refine pw_iconst dX10_truth_45 ?_
      refine pw_isub dX10_truth_46 ?_
      refine pw_i2l dX10_truth_47 (by omega) ?_
      refine pw_callS (d' := d - 1) (As := [_, _, _]) dX10_truth_48 ok_X10_in kw_1245 (by omega) rfl (Nat.le_of_ble_eq_true rfl) (r_in (d - 1) (by omega) n ok _ _ _ _ (by omega) (by omega) (by omega)) (Nat.le_refl _) (Or.inl rfl) (fun r ok1 mem1 hq => ?_)
      obtain ⟨rfl, rfl, rfl⟩ := hq
      refine pw_if_ne 75 (by decide) dX10_truth_51 (by split <;> omega) (fun c51 => ?_) (fun c51 => ?_)
      · skip
        rw [ne_eq, bz_n] at c51
        refine pw_aload_n 0 rfl dX10_truth_75 rfl ?_
        refine pw_gR 13 98 dX10_truth_76 cOk10 (by assumption) (by decide) kw_1078 (by decide) rfl ?_
        refine pw_bipush dX10_truth_79 (by decide) ?_
        refine pw_iload dX10_truth_81 rfl ?_
        refine pw_imul dX10_truth_83 ?_
        refine pw_iload_n 3 rfl dX10_truth_84 rfl ?_
        refine pw_iadd dX10_truth_85 ?_
        refine pw_iaload dX10_truth_86 (by assumption) (by omega) (by omega) (fun r86 => ?_)
        refine pw_istore dX10_truth_87 (by decide) ?_
        refine pw_aload_n 0 rfl dX10_truth_89 rfl ?_
        refine pw_gR 13 98 dX10_truth_90 cOk10 (by assumption) (by decide) kw_1078 (by decide) rfl ?_
        refine pw_bipush dX10_truth_93 (by decide) ?_
        refine pw_iload dX10_truth_95 rfl ?_
        refine pw_imul dX10_truth_97 ?_
        refine pw_iload_n 3 rfl dX10_truth_98 rfl ?_
        refine pw_iadd dX10_truth_99 ?_
        refine pw_iload dX10_truth_100 rfl ?_
        refine pw_if_eq 109 (by decide) dX10_truth_102 (by omega) (fun c102 => ?_) (fun c102 => ?_)
        · skip
          refine pw_iconst dX10_truth_109 ?_
          refine pw_iastore dX10_truth_110 (by assumption) (by omega) (by omega) (by omega) ?_
          refine pw_aload_n 0 rfl dX10_truth_111 rfl ?_
          refine pw_iload_n 1 rfl dX10_truth_112 rfl ?_
          refine pw_callV (d' := d - 1) (As := [_]) (ci := 10) dX10_truth_113 ok_X10_changed kw_1261 rfl rfl (Of.o (by assumption)) (by omega) rfl (Nat.le_of_ble_eq_true rfl) (r_changed (d - 1) (by omega) n ok _ hU _ (by omega)) (Nat.le_refl _) (Or.inl rfl) (fun r ok1 mem1 hq => ?_)
          obtain ⟨rfl, rfl, rfl⟩ := hq
          refine pw_aload_n 0 rfl dX10_truth_116 rfl ?_
          refine pw_iload dX10_truth_117 rfl ?_
          refine pw_callV (d' := d - 1) (As := [_]) (ci := 10) dX10_truth_119 ok_X10_says kw_1265 rfl rfl (Of.o (by assumption)) (by omega) rfl (Nat.le_of_ble_eq_true rfl) (r_says (d - 1) (by omega) n ok _ hU _) (Nat.le_refl _) (Or.inl rfl) (fun r ok1 mem1 hq => ?_)
          obtain ⟨rfl, rfl, rfl⟩ := hq
          refine pw_iret dX10_truth_122 rfl rfl ?_
          unfold rTruth; (repeat' split) <;> first | exact ⟨rfl, rfl, rfl⟩ | (exfalso; omega)
        · skip
          refine pw_iconst dX10_truth_105 ?_
          refine pw_goto 110 (by decide) dX10_truth_106 ?_
          refine pw_iastore dX10_truth_110 (by assumption) (by omega) (by omega) (by omega) ?_
          refine pw_aload_n 0 rfl dX10_truth_111 rfl ?_
          refine pw_iload_n 1 rfl dX10_truth_112 rfl ?_
          refine pw_callV (d' := d - 1) (As := [_]) (ci := 10) dX10_truth_113 ok_X10_changed kw_1261 rfl rfl (Of.o (by assumption)) (by omega) rfl (Nat.le_of_ble_eq_true rfl) (r_changed (d - 1) (by omega) n ok _ hU _ (by omega)) (Nat.le_refl _) (Or.inl rfl) (fun r ok1 mem1 hq => ?_)
          obtain ⟨rfl, rfl, rfl⟩ := hq
          refine pw_aload_n 0 rfl dX10_truth_116 rfl ?_
          refine pw_iload dX10_truth_117 rfl ?_
          refine pw_callV (d' := d - 1) (As := [_]) (ci := 10) dX10_truth_119 ok_X10_says kw_1265 rfl rfl (Of.o (by assumption)) (by omega) rfl (Nat.le_of_ble_eq_true rfl) (r_says (d - 1) (by omega) n ok _ hU _) (Nat.le_refl _) (Or.inl rfl) (fun r ok1 mem1 hq => ?_)
          obtain ⟨rfl, rfl, rfl⟩ := hq
          refine pw_iret dX10_truth_122 rfl rfl ?_
          unfold rTruth; (repeat' split) <;> first | exact ⟨rfl, rfl, rfl⟩ | (exfalso; omega)
      · skip
        rw [bz_0] at c51
        refine pw_aload_n 0 rfl dX10_truth_54 rfl ?_
        refine pw_aload_n 0 rfl dX10_truth_55 rfl ?_
        refine pw_gR 12 97 dX10_truth_56 cOk10 (by assumption) (by decide) kw_1077 (by decide) rfl ?_
        refine pw_iload dX10_truth_59 rfl ?_
        refine pw_iaload dX10_truth_61 (by assumption) (by omega) (by omega) (fun r61 => ?_)
        refine pw_iconst dX10_truth_62 ?_
        refine pw_icmp_ne 70 (by decide) dX10_truth_63 (by omega) (by omega) (fun c63 => ?_) (fun c63 => ?_)
        · skip
          refine pw_iconst dX10_truth_70 ?_
          refine pw_callV (d' := d - 1) (As := [_]) (ci := 10) dX10_truth_71 ok_X10_meets kw_1253 rfl rfl (Of.o (by assumption)) (by omega) rfl (Nat.le_of_ble_eq_true rfl) (r_meets (d - 1) (by omega) n ok _ hU _ (by omega)) (Nat.le_refl _) (Or.inl rfl) (fun r ok1 mem1 hq => ?_)
          obtain ⟨rfl, rfl, rfl⟩ := hq
          refine pw_iret dX10_truth_74 rfl rfl ?_
          unfold rTruth; (repeat' split) <;> first | exact ⟨rfl, rfl, rfl⟩ | (exfalso; omega)
        · skip
          refine pw_iconst dX10_truth_66 ?_
          refine pw_goto 71 (by decide) dX10_truth_67 ?_
          refine pw_callV (d' := d - 1) (As := [_]) (ci := 10) dX10_truth_71 ok_X10_meets kw_1253 rfl rfl (Of.o (by assumption)) (by omega) rfl (Nat.le_of_ble_eq_true rfl) (r_meets (d - 1) (by omega) n ok _ hU _ (by omega)) (Nat.le_refl _) (Or.inl rfl) (fun r ok1 mem1 hq => ?_)
          obtain ⟨rfl, rfl, rfl⟩ := hq
          refine pw_iret dX10_truth_74 rfl rfl ?_
          unfold rTruth; (repeat' split) <;> first | exact ⟨rfl, rfl, rfl⟩ | (exfalso; omega)
  · skip
    rw [bz_0] at c6
    refine pw_aload_n 0 rfl dX10_truth_9 rfl ?_
    refine pw_bipush dX10_truth_10 (by decide) ?_
    refine pw_callV (d' := d - 1) (As := [_]) (ci := 10) dX10_truth_12 ok_X10_refuses kw_1249 rfl rfl (Of.o (by assumption)) (by omega) rfl (Nat.le_of_ble_eq_true rfl) (r_refuses (d - 1) (by omega) n ok _ hU _ (by omega)) (Nat.le_refl _) (Or.inl rfl) (fun r ok1 mem1 hq => ?_)
    obtain ⟨rfl, rfl, rfl⟩ := hq
    refine pw_iret dX10_truth_15 rfl rfl ?_
    unfold rTruth; (repeat' split) <;> first | exact ⟨rfl, rfl, rfl⟩ | (exfalso; omega)
def rJam (m : pM) (c j s : Int) : Int × pM := if ¬ (0 ≤ c ∧ c ≤ 2) then rRef m (-2) else if ¬ (0 ≤ j ∧ j ≤ 99) ∨ ¬ (-1 ≤ s ∧ s ≤ 15) then rRef m (-3) else rSay (wr (wr m 99 c j) 100 c s) (m 99 c)
set_option maxHeartbeats 4000000 in
set_option maxRecDepth 100000 in
theorem r_jam (d : Nat) (hd : 2 ≤ d) (n : Nat) (ok : pO) (mem : pM) (hU : RefUp n ok) (c j s : Int) (hc : -2147483648 ≤ c ∧ c ≤ 2147483647) (hj : -2147483648 ≤ j ∧ j ≤ 2147483647) (hs : -2147483648 ≤ s ∧ s ≤ 2147483647) : PM mi_X10_jam d [vr 88, vi c, vi j, vi s] n ok mem n (fun r ok' mem' => r = some (vi (rJam mem c j s).1) ∧ ok = ok' ∧ (rJam mem c j s).2 = mem') := by
  obtain ⟨hO, ⟨a89, a90, a91, a92, a93, a94, a95, a96, a97, a98⟩, ⟨a99, a100, a101, a102, a103, a104, a105, a106, a107⟩, ⟨a108, a109, a110, a111, a112, a113, a114, a115, a116, a117, a118, a119⟩, a120, a121, a122⟩ := id hU
  refine PM.of (by decide) (by decide) (Nat.le_refl _) (Nat.le_of_ble_eq_true rfl) ?_
  refine pw_iload_n 1 rfl dX10_jam_0 rfl ?_
  refine pw_callS (d' := d - 1) (As := [_]) dX10_jam_1 ok_X10_isChest kw_1241 (by omega) rfl (Nat.le_of_ble_eq_true rfl) (r_isChest (d - 1) (by omega) n ok _ _ (by omega)) (Nat.le_refl _) (Or.inl rfl) (fun r ok1 mem1 hq => ?_)
  obtain ⟨rfl, rfl, rfl⟩ := hq
  refine pw_if_ne 14 (by decide) dX10_jam_4 (by split <;> omega) (fun c4 => ?_) (fun c4 => ?_)
  · skip
    rw [ne_eq, bz_n] at c4
    refine pw_iload_n 2 rfl dX10_jam_14 rfl ?_
    refine pw_i2l dX10_jam_15 (by omega) ?_
    refine pw_lconst (x := 0) dX10_jam_16 (by decide) ?_
    refine pw_ldc2 (x := 99) kw_1324 (by decide) dX10_jam_17 ?_
    refine pw_callS (d' := d - 1) (As := [_, _, _]) dX10_jam_20 ok_X10_in kw_1245 (by omega) rfl (Nat.le_of_ble_eq_true rfl) (r_in (d - 1) (by omega) n ok _ _ _ _ (by omega) (by omega) (by omega)) (Nat.le_refl _) (Or.inl rfl) (fun r ok1 mem1 hq => ?_)
    obtain ⟨rfl, rfl, rfl⟩ := hq
    refine pw_if_eq 40 (by decide) dX10_jam_23 (by split <;> omega) (fun c23 => ?_) (fun c23 => ?_)
    · skip
      rw [bz_0] at c23
      refine pw_aload_n 0 rfl dX10_jam_40 rfl ?_
      refine pw_bipush dX10_jam_41 (by decide) ?_
      refine pw_callV (d' := d - 1) (As := [_]) (ci := 10) dX10_jam_43 ok_X10_refuses kw_1249 rfl rfl (Of.o (by assumption)) (by omega) rfl (Nat.le_of_ble_eq_true rfl) (r_refuses (d - 1) (by omega) n ok _ hU _ (by omega)) (Nat.le_refl _) (Or.inl rfl) (fun r ok1 mem1 hq => ?_)
      obtain ⟨rfl, rfl, rfl⟩ := hq
      refine pw_iret dX10_jam_46 rfl rfl ?_
      unfold rJam; (repeat' split) <;> first | exact ⟨rfl, rfl, rfl⟩ | (exfalso; omega)
    · skip
      rw [bz_n] at c23
      refine pw_iload_n 3 rfl dX10_jam_26 rfl ?_
      refine pw_i2l dX10_jam_27 (by omega) ?_
      refine pw_ldc2 (x := -1) kw_1303 (by decide) dX10_jam_28 ?_
      refine pw_ldc2 (x := 15) kw_1276 (by decide) dX10_jam_31 ?_
      refine pw_callS (d' := d - 1) (As := [_, _, _]) dX10_jam_34 ok_X10_in kw_1245 (by omega) rfl (Nat.le_of_ble_eq_true rfl) (r_in (d - 1) (by omega) n ok _ _ _ _ (by omega) (by omega) (by omega)) (Nat.le_refl _) (Or.inl rfl) (fun r ok1 mem1 hq => ?_)
      obtain ⟨rfl, rfl, rfl⟩ := hq
      refine pw_if_ne 47 (by decide) dX10_jam_37 (by split <;> omega) (fun c37 => ?_) (fun c37 => ?_)
      · skip
        rw [ne_eq, bz_n] at c37
        refine pw_aload_n 0 rfl dX10_jam_47 rfl ?_
        refine pw_gR 14 99 dX10_jam_48 cOk10 (by assumption) (by decide) kw_1079 (by decide) rfl ?_
        refine pw_iload_n 1 rfl dX10_jam_51 rfl ?_
        refine pw_iaload dX10_jam_52 (by assumption) (by omega) (by omega) (fun r52 => ?_)
        refine pw_istore dX10_jam_53 (by decide) ?_
        refine pw_aload_n 0 rfl dX10_jam_55 rfl ?_
        refine pw_gR 14 99 dX10_jam_56 cOk10 (by assumption) (by decide) kw_1079 (by decide) rfl ?_
        refine pw_iload_n 1 rfl dX10_jam_59 rfl ?_
        refine pw_iload_n 2 rfl dX10_jam_60 rfl ?_
        refine pw_iastore dX10_jam_61 (by assumption) (by omega) (by omega) (by omega) ?_
        refine pw_aload_n 0 rfl dX10_jam_62 rfl ?_
        refine pw_gR 15 100 dX10_jam_63 cOk10 (by assumption) (by decide) kw_1080 (by decide) rfl ?_
        refine pw_iload_n 1 rfl dX10_jam_66 rfl ?_
        refine pw_iload_n 3 rfl dX10_jam_67 rfl ?_
        refine pw_iastore dX10_jam_68 (by assumption) (by omega) (by omega) (by omega) ?_
        refine pw_aload_n 0 rfl dX10_jam_69 rfl ?_
        refine pw_iload dX10_jam_70 rfl ?_
        refine pw_callV (d' := d - 1) (As := [_]) (ci := 10) dX10_jam_72 ok_X10_says kw_1265 rfl rfl (Of.o (by assumption)) (by omega) rfl (Nat.le_of_ble_eq_true rfl) (r_says (d - 1) (by omega) n ok _ hU _) (Nat.le_refl _) (Or.inl rfl) (fun r ok1 mem1 hq => ?_)
        obtain ⟨rfl, rfl, rfl⟩ := hq
        refine pw_iret dX10_jam_75 rfl rfl ?_
        unfold rJam; (repeat' split) <;> first | exact ⟨rfl, rfl, rfl⟩ | (exfalso; omega)
      · skip
        rw [bz_0] at c37
        refine pw_aload_n 0 rfl dX10_jam_40 rfl ?_
        refine pw_bipush dX10_jam_41 (by decide) ?_
        refine pw_callV (d' := d - 1) (As := [_]) (ci := 10) dX10_jam_43 ok_X10_refuses kw_1249 rfl rfl (Of.o (by assumption)) (by omega) rfl (Nat.le_of_ble_eq_true rfl) (r_refuses (d - 1) (by omega) n ok _ hU _ (by omega)) (Nat.le_refl _) (Or.inl rfl) (fun r ok1 mem1 hq => ?_)
        obtain ⟨rfl, rfl, rfl⟩ := hq
        refine pw_iret dX10_jam_46 rfl rfl ?_
        unfold rJam; (repeat' split) <;> first | exact ⟨rfl, rfl, rfl⟩ | (exfalso; omega)
  · skip
    rw [bz_0] at c4
    refine pw_aload_n 0 rfl dX10_jam_7 rfl ?_
    refine pw_bipush dX10_jam_8 (by decide) ?_
    refine pw_callV (d' := d - 1) (As := [_]) (ci := 10) dX10_jam_10 ok_X10_refuses kw_1249 rfl rfl (Of.o (by assumption)) (by omega) rfl (Nat.le_of_ble_eq_true rfl) (r_refuses (d - 1) (by omega) n ok _ hU _ (by omega)) (Nat.le_refl _) (Or.inl rfl) (fun r ok1 mem1 hq => ?_)
    obtain ⟨rfl, rfl, rfl⟩ := hq
    refine pw_iret dX10_jam_13 rfl rfl ?_
    unfold rJam; (repeat' split) <;> first | exact ⟨rfl, rfl, rfl⟩ | (exfalso; omega)
def rClear (m : pM) (c : Int) : Int × pM := if ¬ (0 ≤ c ∧ c ≤ 2) then rRef m (-2) else rSay (rChg (rEmp m c) c) (aParts m c 16)
set_option maxHeartbeats 4000000 in
set_option maxRecDepth 100000 in
theorem r_clear (d : Nat) (hd : 2 ≤ d) (n : Nat) (ok : pO) (mem : pM) (hU : RefUp n ok) (c : Int) (hc : -2147483648 ≤ c ∧ c ≤ 2147483647) : PM mi_X10_clear d [vr 88, vi c] n ok mem n (fun r ok' mem' => r = some (vi (rClear mem c).1) ∧ ok = ok' ∧ (rClear mem c).2 = mem') := by
  obtain ⟨hO, ⟨a89, a90, a91, a92, a93, a94, a95, a96, a97, a98⟩, ⟨a99, a100, a101, a102, a103, a104, a105, a106, a107⟩, ⟨a108, a109, a110, a111, a112, a113, a114, a115, a116, a117, a118, a119⟩, a120, a121, a122⟩ := id hU
  refine PM.of (by decide) (by decide) (Nat.le_refl _) (Nat.le_of_ble_eq_true rfl) ?_
  refine pw_iload_n 1 rfl dX10_clear_0 rfl ?_
  refine pw_callS (d' := d - 1) (As := [_]) dX10_clear_1 ok_X10_isChest kw_1241 (by omega) rfl (Nat.le_of_ble_eq_true rfl) (r_isChest (d - 1) (by omega) n ok _ _ (by omega)) (Nat.le_refl _) (Or.inl rfl) (fun r ok1 mem1 hq => ?_)
  obtain ⟨rfl, rfl, rfl⟩ := hq
  refine pw_if_ne 14 (by decide) dX10_clear_4 (by split <;> omega) (fun c4 => ?_) (fun c4 => ?_)
  · skip
    rw [ne_eq, bz_n] at c4
    refine pw_aload_n 0 rfl dX10_clear_14 rfl ?_
    refine pw_iload_n 1 rfl dX10_clear_15 rfl ?_
    refine pw_callV (d' := d - 1) (As := [_]) (ci := 10) dX10_clear_16 ok_X10_parts kw_1287 rfl rfl (Of.o (by assumption)) (by omega) rfl (Nat.le_of_ble_eq_true rfl) (r_parts (d - 1) (by omega) n ok _ hU _ (by omega)) (Nat.le_refl _) (Or.inl rfl) (fun r ok1 mem1 hq => ?_)
    obtain ⟨rfl, rfl, rfl⟩ := hq
    refine pw_istore_n 2 rfl dX10_clear_19 (by decide) ?_
    refine pw_aload_n 0 rfl dX10_clear_20 rfl ?_
    refine pw_iload_n 1 rfl dX10_clear_21 rfl ?_
    refine pw_callV (d' := d - 1) (As := [_]) (ci := 10) dX10_clear_22 ok_X10_empty kw_1061 rfl rfl (Of.o (by assumption)) (by omega) rfl (Nat.le_of_ble_eq_true rfl) (r_empty (d - 1) (by omega) n ok _ hU _ (by omega)) (Nat.le_refl _) (Or.inl rfl) (fun r ok1 mem1 hq => ?_)
    obtain ⟨rfl, rfl, rfl⟩ := hq
    refine pw_aload_n 0 rfl dX10_clear_25 rfl ?_
    refine pw_iload_n 1 rfl dX10_clear_26 rfl ?_
    refine pw_callV (d' := d - 1) (As := [_]) (ci := 10) dX10_clear_27 ok_X10_changed kw_1261 rfl rfl (Of.o (by assumption)) (by omega) rfl (Nat.le_of_ble_eq_true rfl) (r_changed (d - 1) (by omega) n ok _ hU _ (by omega)) (Nat.le_refl _) (Or.inl rfl) (fun r ok1 mem1 hq => ?_)
    obtain ⟨rfl, rfl, rfl⟩ := hq
    refine pw_aload_n 0 rfl dX10_clear_30 rfl ?_
    refine pw_iload_n 2 rfl dX10_clear_31 rfl ?_
    refine pw_callV (d' := d - 1) (As := [_]) (ci := 10) dX10_clear_32 ok_X10_says kw_1265 rfl rfl (Of.o (by assumption)) (by omega) rfl (Nat.le_of_ble_eq_true rfl) (r_says (d - 1) (by omega) n ok _ hU _) (Nat.le_refl _) (Or.inl rfl) (fun r ok1 mem1 hq => ?_)
    obtain ⟨rfl, rfl, rfl⟩ := hq
    refine pw_iret dX10_clear_35 rfl rfl ?_
    unfold rClear; (repeat' split) <;> first | exact ⟨rfl, rfl, rfl⟩ | (exfalso; omega)
  · skip
    rw [bz_0] at c4
    refine pw_aload_n 0 rfl dX10_clear_7 rfl ?_
    refine pw_bipush dX10_clear_8 (by decide) ?_
    refine pw_callV (d' := d - 1) (As := [_]) (ci := 10) dX10_clear_10 ok_X10_refuses kw_1249 rfl rfl (Of.o (by assumption)) (by omega) rfl (Nat.le_of_ble_eq_true rfl) (r_refuses (d - 1) (by omega) n ok _ hU _ (by omega)) (Nat.le_refl _) (Or.inl rfl) (fun r ok1 mem1 hq => ?_)
    obtain ⟨rfl, rfl, rfl⟩ := hq
    refine pw_iret dX10_clear_13 rfl rfl ?_
    unfold rClear; (repeat' split) <;> first | exact ⟨rfl, rfl, rfl⟩ | (exfalso; omega)
