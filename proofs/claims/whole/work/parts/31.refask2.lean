/-! ===== the reference's chests are as they must be ===== -/
def cOkR (m : pM) (c : Int) : Prop := sOk m c ∧ pOkv m c (aAt m c) ∧ pW m c 16 ≤ 1024
def ROk (m : pM) : Prop := ∀ c : Int, 0 ≤ c → c ≤ 2 → cOkR m c
theorem eSp_s {m m1 : pM} (h : sSame m m1) (c s : Int) : eSp m1 c s = eSp m c s := by unfold eSp aKind aSpan; rw [h.kind, h.span]
theorem pW_s {m m1 : pM} (h : sSame m m1) (c : Int) (k : Nat) : pW m1 c k = pW m c k := by
  induction k with
  | zero => rfl
  | succ k ih => unfold pW; rw [ih, eSp_s h]
theorem cOkR_s {m m1 : pM} (h : sSame m m1) (h92 : m1 92 = m 92) {c : Int} (hc : cOkR m c) : cOkR m1 c := by
  have e : aAt m1 c = aAt m c := by funext s; show m1 92 _ = m 92 _; rw [h92]
  exact ⟨sOk_s h hc.1, by rw [e]; exact pOkv_s h hc.2.1, by rw [pW_s h]; exact hc.2.2⟩
theorem ROk_s {m m1 : pM} (h : sSame m m1) (h92 : m1 92 = m 92) (hc : ROk m) : ROk m1 := fun c h1 h2 => cOkR_s h h92 (hc c h1 h2)
theorem pW_ran {m : pM} {c : Int} (h : pOk m c) (k : Nat) (hk : k ≤ 16) : 1 ≤ pW m c k := by
  induction k with
  | zero => exact Int.le_refl _
  | succ k ih =>
    have i := ih (by omega)
    have e := eSp_ran h (k : Int) (by omega) (by omega)
    unfold pW
    have := Int.mul_le_mul i e.1 (by omega) (by omega)
    omega
theorem aNum_ran {m : pM} {c : Int} (h : pOk m c) (hv : pOkv m c (aAt m c)) (k : Nat) (hk : k ≤ 16) : 0 ≤ aNum m c k ∧ aNum m c k + 1 ≤ pW m c k := by
  induction k with
  | zero => exact ⟨Int.le_refl _, Int.le_refl _⟩
  | succ k ih =>
    have i := ih (by omega)
    have p := pW_ran h k (by omega)
    have e : 0 ≤ eAt m c k ∧ eAt m c k + 1 ≤ eSp m c k := by
      unfold eAt eSp
      by_cases q : aKind m c k = -1
      · rw [if_pos q, if_pos q]; omega
      · rw [if_neg q, if_neg q]
        have := hv (k : Int) (by omega) (by omega) q
        omega
    show 0 ≤ aNum m c k + pW m c k * eAt m c k ∧ aNum m c k + pW m c k * eAt m c k + 1 ≤ pW m c k * eSp m c k
    have a1 := Int.mul_nonneg (show 0 ≤ pW m c k by omega) e.1
    have a2 := Int.mul_le_mul_of_nonneg_left e.2 (show 0 ≤ pW m c k by omega)
    rw [Int.mul_add, Int.mul_one] at a2
    omega
theorem aMul_pW (m : pM) (c : Int) (k : Nat) : aMul m c (-1) k = pW m c k := by
  induction k with
  | zero => rfl
  | succ k ih =>
    unfold aMul pW eSp
    rw [ih]
    congr 1
    by_cases q : aKind m c k = -1
    · rw [if_pos q, if_pos (Or.inl q)]
    · rw [if_neg q, if_neg (by omega)]
theorem num_ran {m : pM} {c : Int} (h : cOkR m c) : 0 ≤ aNum m c 16 ∧ aNum m c 16 ≤ 1023 := by
  have h1 := aNum_ran h.1.2.2 h.2.1 16 (by omega)
  have h2 := h.2.2
  omega
theorem mul_ran {m : pM} {c : Int} (h : cOkR m c) : 1 ≤ aMul m c (-1) 16 ∧ aMul m c (-1) 16 ≤ 1024 := by
  rw [aMul_pW]
  exact ⟨pW_ran h.1.2.2 16 (by omega), h.2.2⟩
theorem iRes_01 (m : pM) (c : Int) (v : Int → Int) (mv : Int) : iRes m c v mv = 0 ∨ iRes m c v mv = 1 := by unfold iRes; split <;> omega
theorem oRes_01 (m : pM) (c : Int) (v : Int → Int) : oRes m c v = 0 ∨ oRes m c v = 1 := by unfold oRes; split <;> omega
theorem hIs_01 (m : pM) (c : Int) (v : Int → Int) (k : Int) : hIs m c v k = 0 ∨ hIs m c v k = 1 := by unfold hIs; split <;> omega
def rOfN (m : pM) (c v : Int) : Int × pM := if ¬ (0 ≤ c ∧ c ≤ 2) then rRef m (-2) else if ¬ (0 ≤ v ∧ v ≤ aMul m c (-1) 16 - 1) then rRef m (-3) else rSay (rSet m c v 16) (aNum m c 16)
set_option maxHeartbeats 4000000 in
set_option maxRecDepth 100000 in
theorem r_ofNumber (d : Nat) (hd : 2 ≤ d) (n : Nat) (ok : pO) (mem : pM) (hU : RefUp n ok) (c v : Int) (hc : -2147483648 ≤ c ∧ c ≤ 2147483647) (hv : -2147483648 ≤ v ∧ v ≤ 2147483647) (hI : ROk mem) : PM mi_X10_ofNumber d [vr 88, vi c, vi v] n ok mem n (fun r ok' mem' => r = some (vi (rOfN mem c v).1) ∧ ok = ok' ∧ (rOfN mem c v).2 = mem') := by
  obtain ⟨hO, ⟨a89, a90, a91, a92, a93, a94, a95, a96, a97, a98⟩, ⟨a99, a100, a101, a102, a103, a104, a105, a106, a107⟩, ⟨a108, a109, a110, a111, a112, a113, a114, a115, a116, a117, a118, a119⟩, a120, a121, a122⟩ := id hU
  refine PM.of (by decide) (by decide) (Nat.le_refl _) (Nat.le_of_ble_eq_true rfl) ?_
  refine pw_iload_n 1 rfl dX10_ofNumber_0 rfl ?_
  refine pw_callS (d' := d - 1) (As := [_]) dX10_ofNumber_1 ok_X10_isChest kw_1241 (by omega) rfl (Nat.le_of_ble_eq_true rfl) (r_isChest (d - 1) (by omega) n ok _ _ (by omega)) (Nat.le_refl _) (Or.inl rfl) (fun r ok1 mem1 hq => ?_)
  obtain ⟨rfl, rfl, rfl⟩ := hq
  refine pw_if_ne 14 (by decide) dX10_ofNumber_4 (by split <;> omega) (fun c4 => ?_) (fun c4 => ?_)
  · skip
    rw [ne_eq, bz_n] at c4
    have hmr := mul_ran (hI c (by omega) (by omega))
    refine pw_iload_n 2 rfl dX10_ofNumber_14 rfl ?_
    refine pw_i2l dX10_ofNumber_15 (by omega) ?_
    refine pw_lconst (x := 0) dX10_ofNumber_16 (by decide) ?_
    refine pw_aload_n 0 rfl dX10_ofNumber_17 rfl ?_
    refine pw_iload_n 1 rfl dX10_ofNumber_18 rfl ?_
    refine pw_iconst dX10_ofNumber_19 ?_
    refine pw_callV (d' := d - 1) (As := [_, _]) (ci := 10) dX10_ofNumber_20 ok_X10_multiplied kw_1279 rfl rfl (Of.o (by assumption)) (by omega) rfl (Nat.le_of_ble_eq_true rfl) (r_multiplied (d - 1) (by omega) n ok _ hU _ _ (by omega) (by omega)) (Nat.le_refl _) (Or.inl rfl) (fun r ok1 mem1 hq => ?_)
    obtain ⟨rfl, rfl, rfl⟩ := hq
    refine pw_iconst dX10_ofNumber_23 ?_
    refine pw_isub dX10_ofNumber_24 ?_
    refine pw_i2l dX10_ofNumber_25 (by omega) ?_
    refine pw_callS (d' := d - 1) (As := [_, _, _]) dX10_ofNumber_26 ok_X10_in kw_1245 (by omega) rfl (Nat.le_of_ble_eq_true rfl) (r_in (d - 1) (by omega) n ok _ _ _ _ (by omega) (by omega) (by omega)) (Nat.le_refl _) (Or.inl rfl) (fun r ok1 mem1 hq => ?_)
    obtain ⟨rfl, rfl, rfl⟩ := hq
    refine pw_if_ne 39 (by decide) dX10_ofNumber_29 (by split <;> omega) (fun c29 => ?_) (fun c29 => ?_)
    · skip
      rw [ne_eq, bz_n] at c29
      refine pw_aload_n 0 rfl dX10_ofNumber_39 rfl ?_
      refine pw_iload_n 1 rfl dX10_ofNumber_40 rfl ?_
      refine pw_callV (d' := d - 1) (As := [_]) (ci := 10) dX10_ofNumber_41 ok_X10_numberOf kw_1362 rfl rfl (Of.o (by assumption)) (by omega) rfl (Nat.le_of_ble_eq_true rfl) (r_numberOf (d - 1) (by omega) n ok _ hU _ (by omega)) (Nat.le_refl _) (Or.inl rfl) (fun r ok1 mem1 hq => ?_)
      obtain ⟨rfl, rfl, rfl⟩ := hq
      refine pw_istore_n 3 rfl dX10_ofNumber_44 (by decide) ?_
      refine pw_aload_n 0 rfl dX10_ofNumber_45 rfl ?_
      refine pw_iload_n 1 rfl dX10_ofNumber_46 rfl ?_
      refine pw_iload_n 2 rfl dX10_ofNumber_47 rfl ?_
      refine pw_callV (d' := d - 1) (As := [_, _]) (ci := 10) dX10_ofNumber_48 ok_X10_setNumber kw_1394 rfl rfl (Of.o (by assumption)) (by omega) rfl (Nat.le_of_ble_eq_true rfl) (r_setNumber (d - 1) (by omega) n ok _ hU _ _ (by omega) (by omega) (hI _ (by omega) (by omega)).1.2.2) (Nat.le_refl _) (Or.inl rfl) (fun r ok1 mem1 hq => ?_)
      obtain ⟨rfl, rfl, rfl⟩ := hq
      refine pw_aload_n 0 rfl dX10_ofNumber_51 rfl ?_
      refine pw_iload_n 3 rfl dX10_ofNumber_52 rfl ?_
      refine pw_callV (d' := d - 1) (As := [_]) (ci := 10) dX10_ofNumber_53 ok_X10_says kw_1265 rfl rfl (Of.o (by assumption)) (by omega) rfl (Nat.le_of_ble_eq_true rfl) (r_says (d - 1) (by omega) n ok _ hU _) (Nat.le_refl _) (Or.inl rfl) (fun r ok1 mem1 hq => ?_)
      obtain ⟨rfl, rfl, rfl⟩ := hq
      refine pw_iret dX10_ofNumber_56 rfl rfl ?_
      unfold rOfN; (repeat' split) <;> first | exact ⟨rfl, rfl, rfl⟩ | (exfalso; omega)
    · skip
      rw [bz_0] at c29
      refine pw_aload_n 0 rfl dX10_ofNumber_32 rfl ?_
      refine pw_bipush dX10_ofNumber_33 (by decide) ?_
      refine pw_callV (d' := d - 1) (As := [_]) (ci := 10) dX10_ofNumber_35 ok_X10_refuses kw_1249 rfl rfl (Of.o (by assumption)) (by omega) rfl (Nat.le_of_ble_eq_true rfl) (r_refuses (d - 1) (by omega) n ok _ hU _ (by omega)) (Nat.le_refl _) (Or.inl rfl) (fun r ok1 mem1 hq => ?_)
      obtain ⟨rfl, rfl, rfl⟩ := hq
      refine pw_iret dX10_ofNumber_38 rfl rfl ?_
      unfold rOfN; (repeat' split) <;> first | exact ⟨rfl, rfl, rfl⟩ | (exfalso; omega)
  · skip
    rw [bz_0] at c4
    refine pw_aload_n 0 rfl dX10_ofNumber_7 rfl ?_
    refine pw_bipush dX10_ofNumber_8 (by decide) ?_
    refine pw_callV (d' := d - 1) (As := [_]) (ci := 10) dX10_ofNumber_10 ok_X10_refuses kw_1249 rfl rfl (Of.o (by assumption)) (by omega) rfl (Nat.le_of_ble_eq_true rfl) (r_refuses (d - 1) (by omega) n ok _ hU _ (by omega)) (Nat.le_refl _) (Or.inl rfl) (fun r ok1 mem1 hq => ?_)
    obtain ⟨rfl, rfl, rfl⟩ := hq
    refine pw_iret dX10_ofNumber_13 rfl rfl ?_
    unfold rOfN; (repeat' split) <;> first | exact ⟨rfl, rfl, rfl⟩ | (exfalso; omega)
def rBack (m : pM) (c : Int) : Int × pM := if ¬ (0 ≤ c ∧ c ≤ 2) then rRef m (-2) else if m 101 c = 0 then rRef m (-4)
  else rSay (rSet (wr m 101 c (m 101 c - 1)) c (m 102 (30 * c + (m 101 c - 1))) 16) (m 102 (30 * c + (m 101 c - 1)))
set_option maxHeartbeats 4000000 in
set_option maxRecDepth 100000 in
theorem r_back (d : Nat) (hd : 2 ≤ d) (n : Nat) (ok : pO) (mem : pM) (hU : RefUp n ok) (c : Int) (hc : -2147483648 ≤ c ∧ c ≤ 2147483647) (hI : ROk mem) (hkm : ∀ c, 0 ≤ c → c ≤ 2 → 0 ≤ mem 101 c ∧ mem 101 c ≤ 30) (hkp : ∀ c j, 0 ≤ c → c ≤ 2 → 0 ≤ j → j < mem 101 c → 0 ≤ mem 102 (30 * c + j)) : PM mi_X10_back d [vr 88, vi c] n ok mem n (fun r ok' mem' => r = some (vi (rBack mem c).1) ∧ ok = ok' ∧ (rBack mem c).2 = mem') := by
  obtain ⟨hO, ⟨a89, a90, a91, a92, a93, a94, a95, a96, a97, a98⟩, ⟨a99, a100, a101, a102, a103, a104, a105, a106, a107⟩, ⟨a108, a109, a110, a111, a112, a113, a114, a115, a116, a117, a118, a119⟩, a120, a121, a122⟩ := id hU
  refine PM.of (by decide) (by decide) (Nat.le_refl _) (Nat.le_of_ble_eq_true rfl) ?_
  refine pw_iload_n 1 rfl dX10_back_0 rfl ?_
  refine pw_callS (d' := d - 1) (As := [_]) dX10_back_1 ok_X10_isChest kw_1241 (by omega) rfl (Nat.le_of_ble_eq_true rfl) (r_isChest (d - 1) (by omega) n ok _ _ (by omega)) (Nat.le_refl _) (Or.inl rfl) (fun r ok1 mem1 hq => ?_)
  obtain ⟨rfl, rfl, rfl⟩ := hq
  refine pw_if_eq 16 (by decide) dX10_back_4 (by split <;> omega) (fun c4 => ?_) (fun c4 => ?_)
  · skip
    rw [bz_0] at c4
    refine pw_aload_n 0 rfl dX10_back_16 rfl ?_
    refine pw_iload_n 1 rfl dX10_back_17 rfl ?_
    refine pw_callS (d' := d - 1) (As := [_]) dX10_back_18 ok_X10_isChest kw_1241 (by omega) rfl (Nat.le_of_ble_eq_true rfl) (r_isChest (d - 1) (by omega) n ok _ _ (by omega)) (Nat.le_refl _) (Or.inl rfl) (fun r ok1 mem1 hq => ?_)
    obtain ⟨rfl, rfl, rfl⟩ := hq
    refine pw_if_eq 29 (by decide) dX10_back_21 (by split <;> omega) (fun c21 => ?_) (fun c21 => ?_)
    · skip
      rw [bz_0] at c21
      refine pw_bipush dX10_back_29 (by decide) ?_
      refine pw_callV (d' := d - 1) (As := [_]) (ci := 10) dX10_back_31 ok_X10_refuses kw_1249 rfl rfl (Of.o (by assumption)) (by omega) rfl (Nat.le_of_ble_eq_true rfl) (r_refuses (d - 1) (by omega) n ok _ hU _ (by omega)) (Nat.le_refl _) (Or.inl rfl) (fun r ok1 mem1 hq => ?_)
      obtain ⟨rfl, rfl, rfl⟩ := hq
      refine pw_iret dX10_back_34 rfl rfl ?_
      unfold rBack; (repeat' split) <;> first | exact ⟨rfl, rfl, rfl⟩ | (exfalso; omega)
    · skip
      rw [bz_n] at c21
      refine pw_bipush dX10_back_24 (by decide) ?_
      refine pw_goto 31 (by decide) dX10_back_26 ?_
      refine pw_callV (d' := d - 1) (As := [_]) (ci := 10) dX10_back_31 ok_X10_refuses kw_1249 rfl rfl (Of.o (by assumption)) (by omega) rfl (Nat.le_of_ble_eq_true rfl) (r_refuses (d - 1) (by omega) n ok _ hU _ (by omega)) (Nat.le_refl _) (Or.inl rfl) (fun r ok1 mem1 hq => ?_)
      obtain ⟨rfl, rfl, rfl⟩ := hq
      refine pw_iret dX10_back_34 rfl rfl ?_
      unfold rBack; (repeat' split) <;> first | exact ⟨rfl, rfl, rfl⟩ | (exfalso; omega)
  · skip
    rw [bz_n] at c4
    refine pw_aload_n 0 rfl dX10_back_7 rfl ?_
    refine pw_gR 16 101 dX10_back_8 cOk10 (by assumption) (by decide) kw_1081 (by decide) rfl ?_
    refine pw_iload_n 1 rfl dX10_back_11 rfl ?_
    refine pw_iaload dX10_back_12 (by assumption) (by omega) (by omega) (fun r12 => ?_)
    refine pw_if_ne 35 (by decide) dX10_back_13 (by omega) (fun c13 => ?_) (fun c13 => ?_)
    · skip
      have hk9 := hkm c (by omega) (by omega)
      have hkp9 := hkp c (mem 101 c - 1) (by omega) (by omega) (by omega) (by omega)
      refine pw_aload_n 0 rfl dX10_back_35 rfl ?_
      refine pw_gR 16 101 dX10_back_36 cOk10 (by assumption) (by decide) kw_1081 (by decide) rfl ?_
      refine pw_iload_n 1 rfl dX10_back_39 rfl ?_
      refine pw_dup2 dX10_back_40 rfl rfl ?_
      refine pw_iaload dX10_back_41 (by assumption) (by omega) (by omega) (fun r41 => ?_)
      refine pw_iconst dX10_back_42 ?_
      refine pw_isub dX10_back_43 ?_
      refine pw_iastore dX10_back_44 (by assumption) (by omega) (by omega) (by omega) ?_
      refine pw_aload_n 0 rfl dX10_back_45 rfl ?_
      refine pw_gR 17 102 dX10_back_46 cOk10 (by assumption) (by decide) kw_1082 (by decide) rfl ?_
      refine pw_bipush dX10_back_49 (by decide) ?_
      refine pw_iload_n 1 rfl dX10_back_51 rfl ?_
      refine pw_imul dX10_back_52 ?_
      refine pw_aload_n 0 rfl dX10_back_53 rfl ?_
      refine pw_gR 16 101 dX10_back_54 cOk10 (by assumption) (by decide) kw_1081 (by decide) rfl ?_
      refine pw_iload_n 1 rfl dX10_back_57 rfl ?_
      refine pw_iaload dX10_back_58 (by assumption) (by omega) (by omega) (fun r58 => ?_)
      try simp (disch := omega) only [wr_s, wr_a, wr_k] at r58 ⊢
      refine pw_iadd dX10_back_59 ?_
      refine pw_iaload dX10_back_60 (by assumption) (by omega) (by omega) (fun r60 => ?_)
      try simp (disch := omega) only [wr_s, wr_a, wr_k] at r60 ⊢
      refine pw_istore_n 2 rfl dX10_back_61 (by decide) ?_
      refine pw_aload_n 0 rfl dX10_back_62 rfl ?_
      refine pw_iload_n 1 rfl dX10_back_63 rfl ?_
      refine pw_iload_n 2 rfl dX10_back_64 rfl ?_
      refine pw_callV (d' := d - 1) (As := [_, _]) (ci := 10) dX10_back_65 ok_X10_setNumber kw_1394 rfl rfl (Of.o (by assumption)) (by omega) rfl (Nat.le_of_ble_eq_true rfl) (r_setNumber (d - 1) (by omega) n ok _ hU _ _ (by omega) (by omega) ((ROk_s (fun a q1 q2 q3 => wr_a _ _ _ (by omega)) (wr_a _ _ _ (by omega)) hI) c (by omega) (by omega)).1.2.2) (Nat.le_refl _) (Or.inl rfl) (fun r ok1 mem1 hq => ?_)
      obtain ⟨rfl, rfl, rfl⟩ := hq
      refine pw_aload_n 0 rfl dX10_back_68 rfl ?_
      refine pw_iload_n 2 rfl dX10_back_69 rfl ?_
      refine pw_callV (d' := d - 1) (As := [_]) (ci := 10) dX10_back_70 ok_X10_says kw_1265 rfl rfl (Of.o (by assumption)) (by omega) rfl (Nat.le_of_ble_eq_true rfl) (r_says (d - 1) (by omega) n ok _ hU _) (Nat.le_refl _) (Or.inl rfl) (fun r ok1 mem1 hq => ?_)
      obtain ⟨rfl, rfl, rfl⟩ := hq
      refine pw_iret dX10_back_73 rfl rfl ?_
      unfold rBack; (repeat' split) <;> first | exact ⟨rfl, rfl, rfl⟩ | (exfalso; omega)
    · skip
      refine pw_aload_n 0 rfl dX10_back_16 rfl ?_
      refine pw_iload_n 1 rfl dX10_back_17 rfl ?_
      refine pw_callS (d' := d - 1) (As := [_]) dX10_back_18 ok_X10_isChest kw_1241 (by omega) rfl (Nat.le_of_ble_eq_true rfl) (r_isChest (d - 1) (by omega) n ok _ _ (by omega)) (Nat.le_refl _) (Or.inl rfl) (fun r ok1 mem1 hq => ?_)
      obtain ⟨rfl, rfl, rfl⟩ := hq
      refine pw_if_eq 29 (by decide) dX10_back_21 (by split <;> omega) (fun c21 => ?_) (fun c21 => ?_)
      · skip
        rw [bz_0] at c21
        refine pw_bipush dX10_back_29 (by decide) ?_
        refine pw_callV (d' := d - 1) (As := [_]) (ci := 10) dX10_back_31 ok_X10_refuses kw_1249 rfl rfl (Of.o (by assumption)) (by omega) rfl (Nat.le_of_ble_eq_true rfl) (r_refuses (d - 1) (by omega) n ok _ hU _ (by omega)) (Nat.le_refl _) (Or.inl rfl) (fun r ok1 mem1 hq => ?_)
        obtain ⟨rfl, rfl, rfl⟩ := hq
        refine pw_iret dX10_back_34 rfl rfl ?_
        unfold rBack; (repeat' split) <;> first | exact ⟨rfl, rfl, rfl⟩ | (exfalso; omega)
      · skip
        rw [bz_n] at c21
        refine pw_bipush dX10_back_24 (by decide) ?_
        refine pw_goto 31 (by decide) dX10_back_26 ?_
        refine pw_callV (d' := d - 1) (As := [_]) (ci := 10) dX10_back_31 ok_X10_refuses kw_1249 rfl rfl (Of.o (by assumption)) (by omega) rfl (Nat.le_of_ble_eq_true rfl) (r_refuses (d - 1) (by omega) n ok _ hU _ (by omega)) (Nat.le_refl _) (Or.inl rfl) (fun r ok1 mem1 hq => ?_)
        obtain ⟨rfl, rfl, rfl⟩ := hq
        refine pw_iret dX10_back_34 rfl rfl ?_
        unfold rBack; (repeat' split) <;> first | exact ⟨rfl, rfl, rfl⟩ | (exfalso; omega)
def rTell (m : pM) (c s : Int) : Int × pM := if ¬ (0 ≤ c ∧ c ≤ 2) then rRef m (-2) else if ¬ (0 ≤ s ∧ s ≤ 15) then rRef m (-3) else if aComes m c s ≠ 0 then rMet m (aComes m c s) else if m 90 (16 * c + s) = 5 then rMet m 3 else rSay (rWr m (tW (m 90 (16 * c + s)))) (tel (m 90 (16 * c + s)) (m 91 (16 * c + s)) (m 92 (16 * c + s)))
set_option maxHeartbeats 4000000 in
set_option maxRecDepth 100000 in
theorem r_tell (d : Nat) (hd : 2 ≤ d) (n : Nat) (ok : pO) (mem : pM) (hU : RefUp n ok) (c s : Int) (hc : -2147483648 ≤ c ∧ c ≤ 2147483647) (hs : -2147483648 ≤ s ∧ s ≤ 2147483647) (hI : ROk mem) : PM mi_X10_tell d [vr 88, vi c, vi s] n ok mem n (fun r ok' mem' => r = some (vi (rTell (wr mem 88 19 0) c s).1) ∧ ok = ok' ∧ (rTell (wr mem 88 19 0) c s).2 = mem') := by
  obtain ⟨hO, ⟨a89, a90, a91, a92, a93, a94, a95, a96, a97, a98⟩, ⟨a99, a100, a101, a102, a103, a104, a105, a106, a107⟩, ⟨a108, a109, a110, a111, a112, a113, a114, a115, a116, a117, a118, a119⟩, a120, a121, a122⟩ := id hU
  refine PM.of (by decide) (by decide) (Nat.le_refl _) (Nat.le_of_ble_eq_true rfl) ?_
  refine pw_aload_n 0 rfl dX10_tell_0 rfl ?_
  refine pw_iconst dX10_tell_1 ?_
  refine pw_pI 19 19 rfl dX10_tell_2 cOk10 (by assumption) (by decide) kw_1084 rfl rfl (by decide) (by omega) ?_
  obtain ⟨m0, em0⟩ : ∃ m0, m0 = wr mem 88 19 0 := ⟨_, rfl⟩
  rw [← em0]
  have s0 : sSame mem m0 := by rw [em0]; exact fun a q1 q2 q3 => wr_a _ _ _ (by omega)
  have hI0 : ROk m0 := ROk_s s0 (by rw [em0]; exact wr_a _ _ _ (by omega)) hI
  have t0 : m0 88 19 = 0 := by rw [em0, wr_s]
  refine pw_iload_n 1 rfl dX10_tell_5 rfl ?_
  refine pw_callS (d' := d - 1) (As := [_]) dX10_tell_6 ok_X10_isChest kw_1241 (by omega) rfl (Nat.le_of_ble_eq_true rfl) (r_isChest (d - 1) (by omega) n ok _ _ (by omega)) (Nat.le_refl _) (Or.inl rfl) (fun r ok1 mem1 hq => ?_)
  obtain ⟨rfl, rfl, rfl⟩ := hq
  refine pw_if_eq 19 (by decide) dX10_tell_9 (by split <;> omega) (fun c9 => ?_) (fun c9 => ?_)
  · skip
    rw [bz_0] at c9
    refine pw_aload_n 0 rfl dX10_tell_19 rfl ?_
    refine pw_iload_n 1 rfl dX10_tell_20 rfl ?_
    refine pw_callS (d' := d - 1) (As := [_]) dX10_tell_21 ok_X10_isChest kw_1241 (by omega) rfl (Nat.le_of_ble_eq_true rfl) (r_isChest (d - 1) (by omega) n ok _ _ (by omega)) (Nat.le_refl _) (Or.inl rfl) (fun r ok1 mem1 hq => ?_)
    obtain ⟨rfl, rfl, rfl⟩ := hq
    refine pw_if_eq 32 (by decide) dX10_tell_24 (by split <;> omega) (fun c24 => ?_) (fun c24 => ?_)
    · skip
      rw [bz_0] at c24
      refine pw_bipush dX10_tell_32 (by decide) ?_
      refine pw_callV (d' := d - 1) (As := [_]) (ci := 10) dX10_tell_34 ok_X10_refuses kw_1249 rfl rfl (Of.o (by assumption)) (by omega) rfl (Nat.le_of_ble_eq_true rfl) (r_refuses (d - 1) (by omega) n ok _ hU _ (by omega)) (Nat.le_refl _) (Or.inl rfl) (fun r ok1 mem1 hq => ?_)
      obtain ⟨rfl, rfl, rfl⟩ := hq
      refine pw_iret dX10_tell_37 rfl rfl ?_
      unfold rTell; (repeat' split) <;> first | exact ⟨rfl, rfl, rfl⟩ | (exfalso; omega)
    · skip
      rw [bz_n] at c24
      refine pw_bipush dX10_tell_27 (by decide) ?_
      refine pw_goto 34 (by decide) dX10_tell_29 ?_
      refine pw_callV (d' := d - 1) (As := [_]) (ci := 10) dX10_tell_34 ok_X10_refuses kw_1249 rfl rfl (Of.o (by assumption)) (by omega) rfl (Nat.le_of_ble_eq_true rfl) (r_refuses (d - 1) (by omega) n ok _ hU _ (by omega)) (Nat.le_refl _) (Or.inl rfl) (fun r ok1 mem1 hq => ?_)
      obtain ⟨rfl, rfl, rfl⟩ := hq
      refine pw_iret dX10_tell_37 rfl rfl ?_
      unfold rTell; (repeat' split) <;> first | exact ⟨rfl, rfl, rfl⟩ | (exfalso; omega)
  · skip
    rw [bz_n] at c9
    refine pw_iload_n 2 rfl dX10_tell_12 rfl ?_
    refine pw_callS (d' := d - 1) (As := [_]) dX10_tell_13 ok_X10_isSeat kw_1273 (by omega) rfl (Nat.le_of_ble_eq_true rfl) (r_isSeat (d - 1) (by omega) n ok _ _ (by omega)) (Nat.le_refl _) (Or.inl rfl) (fun r ok1 mem1 hq => ?_)
    obtain ⟨rfl, rfl, rfl⟩ := hq
    refine pw_if_ne 38 (by decide) dX10_tell_16 (by split <;> omega) (fun c16 => ?_) (fun c16 => ?_)
    · skip
      rw [ne_eq, bz_n] at c16
      refine pw_aload_n 0 rfl dX10_tell_38 rfl ?_
      refine pw_iload_n 1 rfl dX10_tell_39 rfl ?_
      refine pw_iload_n 2 rfl dX10_tell_40 rfl ?_
      refine pw_callV (d' := d - 1) (As := [_, _]) (ci := 10) dX10_tell_41 ok_X10_comes kw_1295 rfl rfl (Of.o (by assumption)) (by omega) rfl (Nat.le_of_ble_eq_true rfl) (r_comes (d - 1) (by omega) n ok _ hU _ _ (by omega) (by omega)) (Nat.le_refl _) (Or.inl rfl) (fun r ok1 mem1 hq => ?_)
      obtain ⟨rfl, rfl, rfl⟩ := hq
      have hcr := aComes_ran m0 c s
      refine pw_istore_n 3 rfl dX10_tell_44 (by decide) ?_
      refine pw_iload_n 3 rfl dX10_tell_45 rfl ?_
      refine pw_if_ne 68 (by decide) dX10_tell_46 (by omega) (fun c46 => ?_) (fun c46 => ?_)
      · skip
        refine pw_iload_n 3 rfl dX10_tell_68 rfl ?_
        refine pw_istore_n 3 rfl dX10_tell_69 (by decide) ?_
        refine pw_iload_n 3 rfl dX10_tell_70 rfl ?_
        refine pw_if_eq 82 (by decide) dX10_tell_71 (by omega) (fun c71 => ?_) (fun c71 => ?_)
        · skip
          exfalso; omega
        · skip
          refine pw_aload_n 0 rfl dX10_tell_74 rfl ?_
          refine pw_iload_n 3 rfl dX10_tell_75 rfl ?_
          refine pw_callV (d' := d - 1) (As := [_]) (ci := 10) dX10_tell_76 ok_X10_meets kw_1253 rfl rfl (Of.o (by assumption)) (by omega) rfl (Nat.le_of_ble_eq_true rfl) (r_meets (d - 1) (by omega) n ok _ hU _ (by omega)) (Nat.le_refl _) (Or.inl rfl) (fun r ok1 mem1 hq => ?_)
          obtain ⟨rfl, rfl, rfl⟩ := hq
          refine pw_goto 96 (by decide) dX10_tell_79 ?_
          refine pw_iret dX10_tell_96 rfl rfl ?_
          unfold rTell; (repeat' split) <;> first | exact ⟨rfl, rfl, rfl⟩ | (exfalso; omega)
      · skip
        refine pw_aload_n 0 rfl dX10_tell_49 rfl ?_
        refine pw_gR 5 90 dX10_tell_50 cOk10 (by assumption) (by decide) kw_1070 (by decide) rfl ?_
        refine pw_bipush dX10_tell_53 (by decide) ?_
        refine pw_iload_n 1 rfl dX10_tell_55 rfl ?_
        refine pw_imul dX10_tell_56 ?_
        refine pw_iload_n 2 rfl dX10_tell_57 rfl ?_
        refine pw_iadd dX10_tell_58 ?_
        refine pw_iaload dX10_tell_59 (by assumption) (by omega) (by omega) (fun r59 => ?_)
        try simp (disch := omega) only [wr_s, wr_a, wr_k] at r59 ⊢
        refine pw_iconst dX10_tell_60 ?_
        refine pw_icmp_ne 68 (by decide) dX10_tell_61 (by omega) (by omega) (fun c61 => ?_) (fun c61 => ?_)
        · skip
          refine pw_iload_n 3 rfl dX10_tell_68 rfl ?_
          refine pw_istore_n 3 rfl dX10_tell_69 (by decide) ?_
          refine pw_iload_n 3 rfl dX10_tell_70 rfl ?_
          refine pw_if_eq 82 (by decide) dX10_tell_71 (by omega) (fun c71 => ?_) (fun c71 => ?_)
          · skip
            have hkn := aComes_kind c46
            have hc0 := hI0 c (by omega) (by omega)
            have hpp : 1 ≤ m0 91 (16 * c + s) ∧ m0 91 (16 * c + s) ≤ 6 := hc0.1.2.2 s (by omega) (by omega) hkn
            have hvv : 0 ≤ m0 92 (16 * c + s) ∧ m0 92 (16 * c + s) < m0 91 (16 * c + s) := hc0.2.1 s (by omega) (by omega) hkn
            refine pw_aload_n 0 rfl dX10_tell_82 rfl ?_
            refine pw_aload_n 0 rfl dX10_tell_83 rfl ?_
            refine pw_bipush dX10_tell_84 (by decide) ?_
            refine pw_iload_n 1 rfl dX10_tell_86 rfl ?_
            refine pw_imul dX10_tell_87 ?_
            refine pw_iload_n 2 rfl dX10_tell_88 rfl ?_
            refine pw_iadd dX10_tell_89 ?_
            refine pw_callV (d' := d - 1) (As := [_]) (ci := 10) dX10_tell_90 ok_X10_tells kw_1382 rfl rfl (Of.o (by assumption)) (by omega) rfl (Nat.le_of_ble_eq_true rfl) (r_tells (d - 1) (by omega) n ok m0 hU (16 * c + s) (by omega) (by omega) (by omega) (by omega)) (Nat.le_refl _) (Or.inl rfl) (fun r ok1 mem1 hq => ?_)
            obtain ⟨rfl, rfl, rfl⟩ := hq
            refine pw_callV (d' := d - 1) (As := [_]) (ci := 10) dX10_tell_93 ok_X10_says kw_1265 rfl rfl (Of.o (by assumption)) (by omega) rfl (Nat.le_of_ble_eq_true rfl) (r_says (d - 1) (by omega) n ok _ hU _) (Nat.le_refl _) (Or.inl rfl) (fun r ok1 mem1 hq => ?_)
            obtain ⟨rfl, rfl, rfl⟩ := hq
            refine pw_iret dX10_tell_96 rfl rfl ?_
            unfold rTell; (repeat' split) <;> first | exact ⟨rfl, rfl, rfl⟩ | (exfalso; omega)
          · skip
            exfalso; omega
        · skip
          refine pw_iconst dX10_tell_64 ?_
          refine pw_goto 69 (by decide) dX10_tell_65 ?_
          refine pw_istore_n 3 rfl dX10_tell_69 (by decide) ?_
          refine pw_iload_n 3 rfl dX10_tell_70 rfl ?_
          refine pw_if_eq 82 (by decide) dX10_tell_71 (by omega) (fun c71 => ?_) (fun c71 => ?_)
          · skip
            exfalso; omega
          · skip
            refine pw_aload_n 0 rfl dX10_tell_74 rfl ?_
            refine pw_iload_n 3 rfl dX10_tell_75 rfl ?_
            refine pw_callV (d' := d - 1) (As := [_]) (ci := 10) dX10_tell_76 ok_X10_meets kw_1253 rfl rfl (Of.o (by assumption)) (by omega) rfl (Nat.le_of_ble_eq_true rfl) (r_meets (d - 1) (by omega) n ok _ hU _ (by omega)) (Nat.le_refl _) (Or.inl rfl) (fun r ok1 mem1 hq => ?_)
            obtain ⟨rfl, rfl, rfl⟩ := hq
            refine pw_goto 96 (by decide) dX10_tell_79 ?_
            refine pw_iret dX10_tell_96 rfl rfl ?_
            unfold rTell; (repeat' split) <;> first | exact ⟨rfl, rfl, rfl⟩ | (exfalso; omega)
    · skip
      rw [bz_0] at c16
      refine pw_aload_n 0 rfl dX10_tell_19 rfl ?_
      refine pw_iload_n 1 rfl dX10_tell_20 rfl ?_
      refine pw_callS (d' := d - 1) (As := [_]) dX10_tell_21 ok_X10_isChest kw_1241 (by omega) rfl (Nat.le_of_ble_eq_true rfl) (r_isChest (d - 1) (by omega) n ok _ _ (by omega)) (Nat.le_refl _) (Or.inl rfl) (fun r ok1 mem1 hq => ?_)
      obtain ⟨rfl, rfl, rfl⟩ := hq
      refine pw_if_eq 32 (by decide) dX10_tell_24 (by split <;> omega) (fun c24 => ?_) (fun c24 => ?_)
      · skip
        rw [bz_0] at c24
        refine pw_bipush dX10_tell_32 (by decide) ?_
        refine pw_callV (d' := d - 1) (As := [_]) (ci := 10) dX10_tell_34 ok_X10_refuses kw_1249 rfl rfl (Of.o (by assumption)) (by omega) rfl (Nat.le_of_ble_eq_true rfl) (r_refuses (d - 1) (by omega) n ok _ hU _ (by omega)) (Nat.le_refl _) (Or.inl rfl) (fun r ok1 mem1 hq => ?_)
        obtain ⟨rfl, rfl, rfl⟩ := hq
        refine pw_iret dX10_tell_37 rfl rfl ?_
        unfold rTell; (repeat' split) <;> first | exact ⟨rfl, rfl, rfl⟩ | (exfalso; omega)
      · skip
        rw [bz_n] at c24
        refine pw_bipush dX10_tell_27 (by decide) ?_
        refine pw_goto 34 (by decide) dX10_tell_29 ?_
        refine pw_callV (d' := d - 1) (As := [_]) (ci := 10) dX10_tell_34 ok_X10_refuses kw_1249 rfl rfl (Of.o (by assumption)) (by omega) rfl (Nat.le_of_ble_eq_true rfl) (r_refuses (d - 1) (by omega) n ok _ hU _ (by omega)) (Nat.le_refl _) (Or.inl rfl) (fun r ok1 mem1 hq => ?_)
        obtain ⟨rfl, rfl, rfl⟩ := hq
        refine pw_iret dX10_tell_37 rfl rfl ?_
        unfold rTell; (repeat' split) <;> first | exact ⟨rfl, rfl, rfl⟩ | (exfalso; omega)
noncomputable def rMay (m : pM) (c v z : Int) : Int × pM := if ¬ (0 ≤ c ∧ c ≤ 2) then rRef m (-2) else if ¬ (0 ≤ v ∧ v ≤ 37) then rRef m (-3) else rSay (wr (rEv m (iEv m c (aAt m c) v)) 88 23 z) (iRes m c (aAt m c) v)
set_option maxHeartbeats 4000000 in
set_option maxRecDepth 100000 in
theorem r_may (d : Nat) (hd : 6 ≤ d) (n : Nat) (ok : pO) (mem : pM) (hU : RefUp n ok) (c v : Int) (hc : -2147483648 ≤ c ∧ c ≤ 2147483647) (hv : -2147483648 ≤ v ∧ v ≤ 2147483647) (hI : ROk mem) : PM mi_X10_may d [vr 88, vi c, vi v] n ok mem n (fun r ok' mem' => ∃ z : Int, r = some (vi (rMay (wr mem 88 19 0) c v z).1) ∧ ok = ok' ∧ (rMay (wr mem 88 19 0) c v z).2 = mem') := by
  obtain ⟨hO, ⟨a89, a90, a91, a92, a93, a94, a95, a96, a97, a98⟩, ⟨a99, a100, a101, a102, a103, a104, a105, a106, a107⟩, ⟨a108, a109, a110, a111, a112, a113, a114, a115, a116, a117, a118, a119⟩, a120, a121, a122⟩ := id hU
  refine PM.of (by decide) (by decide) (Nat.le_refl _) (Nat.le_of_ble_eq_true rfl) ?_
  refine pw_aload_n 0 rfl dX10_may_0 rfl ?_
  refine pw_iconst dX10_may_1 ?_
  refine pw_pI 19 19 rfl dX10_may_2 cOk10 (by assumption) (by decide) kw_1084 rfl rfl (by decide) (by omega) ?_
  obtain ⟨m0, em0⟩ : ∃ m0, m0 = wr mem 88 19 0 := ⟨_, rfl⟩
  rw [← em0]
  have s0 : sSame mem m0 := by rw [em0]; exact fun a q1 q2 q3 => wr_a _ _ _ (by omega)
  have hI0 : ROk m0 := ROk_s s0 (by rw [em0]; exact wr_a _ _ _ (by omega)) hI
  have t0 : m0 88 19 = 0 := by rw [em0, wr_s]
  refine pw_iload_n 1 rfl dX10_may_5 rfl ?_
  refine pw_callS (d' := d - 1) (As := [_]) dX10_may_6 ok_X10_isChest kw_1241 (by omega) rfl (Nat.le_of_ble_eq_true rfl) (r_isChest (d - 1) (by omega) n ok _ _ (by omega)) (Nat.le_refl _) (Or.inl rfl) (fun r ok1 mem1 hq => ?_)
  obtain ⟨rfl, rfl, rfl⟩ := hq
  refine pw_if_eq 24 (by decide) dX10_may_9 (by split <;> omega) (fun c9 => ?_) (fun c9 => ?_)
  · skip
    rw [bz_0] at c9
    refine pw_aload_n 0 rfl dX10_may_24 rfl ?_
    refine pw_iload_n 1 rfl dX10_may_25 rfl ?_
    refine pw_callS (d' := d - 1) (As := [_]) dX10_may_26 ok_X10_isChest kw_1241 (by omega) rfl (Nat.le_of_ble_eq_true rfl) (r_isChest (d - 1) (by omega) n ok _ _ (by omega)) (Nat.le_refl _) (Or.inl rfl) (fun r ok1 mem1 hq => ?_)
    obtain ⟨rfl, rfl, rfl⟩ := hq
    refine pw_if_eq 37 (by decide) dX10_may_29 (by split <;> omega) (fun c29 => ?_) (fun c29 => ?_)
    · skip
      rw [bz_0] at c29
      refine pw_bipush dX10_may_37 (by decide) ?_
      refine pw_callV (d' := d - 1) (As := [_]) (ci := 10) dX10_may_39 ok_X10_refuses kw_1249 rfl rfl (Of.o (by assumption)) (by omega) rfl (Nat.le_of_ble_eq_true rfl) (r_refuses (d - 1) (by omega) n ok _ hU _ (by omega)) (Nat.le_refl _) (Or.inl rfl) (fun r ok1 mem1 hq => ?_)
      obtain ⟨rfl, rfl, rfl⟩ := hq
      refine pw_iret dX10_may_42 rfl rfl ?_
      refine ⟨0, ?_⟩
      unfold rMay; (repeat' split) <;> first | exact ⟨rfl, rfl, rfl⟩ | (exfalso; omega)
    · skip
      rw [bz_n] at c29
      refine pw_bipush dX10_may_32 (by decide) ?_
      refine pw_goto 39 (by decide) dX10_may_34 ?_
      refine pw_callV (d' := d - 1) (As := [_]) (ci := 10) dX10_may_39 ok_X10_refuses kw_1249 rfl rfl (Of.o (by assumption)) (by omega) rfl (Nat.le_of_ble_eq_true rfl) (r_refuses (d - 1) (by omega) n ok _ hU _ (by omega)) (Nat.le_refl _) (Or.inl rfl) (fun r ok1 mem1 hq => ?_)
      obtain ⟨rfl, rfl, rfl⟩ := hq
      refine pw_iret dX10_may_42 rfl rfl ?_
      refine ⟨0, ?_⟩
      unfold rMay; (repeat' split) <;> first | exact ⟨rfl, rfl, rfl⟩ | (exfalso; omega)
  · skip
    rw [bz_n] at c9
    refine pw_iload_n 2 rfl dX10_may_12 rfl ?_
    refine pw_i2l dX10_may_13 (by omega) ?_
    refine pw_lconst (x := 0) dX10_may_14 (by decide) ?_
    refine pw_ldc2 (x := 37) kw_1439 (by decide) dX10_may_15 ?_
    refine pw_callS (d' := d - 1) (As := [_, _, _]) dX10_may_18 ok_X10_in kw_1245 (by omega) rfl (Nat.le_of_ble_eq_true rfl) (r_in (d - 1) (by omega) n ok _ _ _ _ (by omega) (by omega) (by omega)) (Nat.le_refl _) (Or.inl rfl) (fun r ok1 mem1 hq => ?_)
    obtain ⟨rfl, rfl, rfl⟩ := hq
    refine pw_if_ne 43 (by decide) dX10_may_21 (by split <;> omega) (fun c21 => ?_) (fun c21 => ?_)
    · skip
      rw [ne_eq, bz_n] at c21
      refine pw_aload_n 0 rfl dX10_may_43 rfl ?_
      refine pw_aload_n 0 rfl dX10_may_44 rfl ?_
      refine pw_iload_n 1 rfl dX10_may_45 rfl ?_
      refine pw_iload_n 2 rfl dX10_may_46 rfl ?_
      refine pw_callV (d' := d - 1) (As := [_, _]) (ci := 10) dX10_may_47 ok_X10_isFree kw_1398 rfl rfl (Of.o (by assumption)) (by omega) rfl (Nat.le_of_ble_eq_true rfl) (r_isFree (d - 1) (by omega) n ok m0 hU c v (by omega) (by omega) (hI0 c (by omega) (by omega)).1 (hI0 c (by omega) (by omega)).2.1 (by omega)) (Nat.le_refl _) (Or.inl rfl) (fun r ok1 m1 hq => ?_)
      obtain ⟨z, rfl, rfl, em⟩ := hq
      have h01 := iRes_01 m0 c (aAt m0 c) v
      refine pw_if_eq 57 (by decide) dX10_may_50 (by omega) (fun c50 => ?_) (fun c50 => ?_)
      · skip
        refine pw_iconst dX10_may_57 ?_
        refine pw_callV (d' := d - 1) (As := [_]) (ci := 10) dX10_may_58 ok_X10_says kw_1265 rfl rfl (Of.o (by assumption)) (by omega) rfl (Nat.le_of_ble_eq_true rfl) (r_says (d - 1) (by omega) n ok _ hU _) (Nat.le_refl _) (Or.inl rfl) (fun r ok1 mem1 hq => ?_)
        obtain ⟨rfl, rfl, rfl⟩ := hq
        refine pw_iret dX10_may_61 rfl rfl ?_
        refine ⟨z, ?_⟩
        unfold rMay; rw [if_neg (by omega), if_neg (by omega), em]
        exact ⟨congrArg (fun z => some (vi z)) (by show _ = iRes m0 c (aAt m0 c) v; omega), rfl, rfl⟩
      · skip
        refine pw_iconst dX10_may_53 ?_
        refine pw_goto 58 (by decide) dX10_may_54 ?_
        refine pw_callV (d' := d - 1) (As := [_]) (ci := 10) dX10_may_58 ok_X10_says kw_1265 rfl rfl (Of.o (by assumption)) (by omega) rfl (Nat.le_of_ble_eq_true rfl) (r_says (d - 1) (by omega) n ok _ hU _) (Nat.le_refl _) (Or.inl rfl) (fun r ok1 mem1 hq => ?_)
        obtain ⟨rfl, rfl, rfl⟩ := hq
        refine pw_iret dX10_may_61 rfl rfl ?_
        refine ⟨z, ?_⟩
        unfold rMay; rw [if_neg (by omega), if_neg (by omega), em]
        exact ⟨congrArg (fun z => some (vi z)) (by show _ = iRes m0 c (aAt m0 c) v; omega), rfl, rfl⟩
    · skip
      rw [bz_0] at c21
      refine pw_aload_n 0 rfl dX10_may_24 rfl ?_
      refine pw_iload_n 1 rfl dX10_may_25 rfl ?_
      refine pw_callS (d' := d - 1) (As := [_]) dX10_may_26 ok_X10_isChest kw_1241 (by omega) rfl (Nat.le_of_ble_eq_true rfl) (r_isChest (d - 1) (by omega) n ok _ _ (by omega)) (Nat.le_refl _) (Or.inl rfl) (fun r ok1 mem1 hq => ?_)
      obtain ⟨rfl, rfl, rfl⟩ := hq
      refine pw_if_eq 37 (by decide) dX10_may_29 (by split <;> omega) (fun c29 => ?_) (fun c29 => ?_)
      · skip
        rw [bz_0] at c29
        refine pw_bipush dX10_may_37 (by decide) ?_
        refine pw_callV (d' := d - 1) (As := [_]) (ci := 10) dX10_may_39 ok_X10_refuses kw_1249 rfl rfl (Of.o (by assumption)) (by omega) rfl (Nat.le_of_ble_eq_true rfl) (r_refuses (d - 1) (by omega) n ok _ hU _ (by omega)) (Nat.le_refl _) (Or.inl rfl) (fun r ok1 mem1 hq => ?_)
        obtain ⟨rfl, rfl, rfl⟩ := hq
        refine pw_iret dX10_may_42 rfl rfl ?_
        refine ⟨0, ?_⟩
        unfold rMay; (repeat' split) <;> first | exact ⟨rfl, rfl, rfl⟩ | (exfalso; omega)
      · skip
        rw [bz_n] at c29
        refine pw_bipush dX10_may_32 (by decide) ?_
        refine pw_goto 39 (by decide) dX10_may_34 ?_
        refine pw_callV (d' := d - 1) (As := [_]) (ci := 10) dX10_may_39 ok_X10_refuses kw_1249 rfl rfl (Of.o (by assumption)) (by omega) rfl (Nat.le_of_ble_eq_true rfl) (r_refuses (d - 1) (by omega) n ok _ hU _ (by omega)) (Nat.le_refl _) (Or.inl rfl) (fun r ok1 mem1 hq => ?_)
        obtain ⟨rfl, rfl, rfl⟩ := hq
        refine pw_iret dX10_may_42 rfl rfl ?_
        refine ⟨0, ?_⟩
        unfold rMay; (repeat' split) <;> first | exact ⟨rfl, rfl, rfl⟩ | (exfalso; omega)
noncomputable def rBarred (m : pM) (c v z : Int) : Int × pM := if ¬ (0 ≤ c ∧ c ≤ 2) then rRef m (-2) else if ¬ (0 ≤ v ∧ v ≤ 37) then rRef m (-6) else if (bRes m c (aAt m c) v).1 < -10 then rMet (wr (rEv m (bRes m c (aAt m c) v).2) 88 23 z) (-10 - (bRes m c (aAt m c) v).1) else rSay (wr (rEv m (bRes m c (aAt m c) v).2) 88 23 z) (bRes m c (aAt m c) v).1
set_option maxHeartbeats 4000000 in
set_option maxRecDepth 100000 in
theorem r_barredBy (d : Nat) (hd : 6 ≤ d) (n : Nat) (ok : pO) (mem : pM) (hU : RefUp n ok) (c v : Int) (hc : -2147483648 ≤ c ∧ c ≤ 2147483647) (hv : -2147483648 ≤ v ∧ v ≤ 2147483647) (hI : ROk mem) : PM mi_X10_barredBy d [vr 88, vi c, vi v] n ok mem n (fun r ok' mem' => ∃ z : Int, r = some (vi (rBarred (wr mem 88 19 0) c v z).1) ∧ ok = ok' ∧ (rBarred (wr mem 88 19 0) c v z).2 = mem') := by
  obtain ⟨hO, ⟨a89, a90, a91, a92, a93, a94, a95, a96, a97, a98⟩, ⟨a99, a100, a101, a102, a103, a104, a105, a106, a107⟩, ⟨a108, a109, a110, a111, a112, a113, a114, a115, a116, a117, a118, a119⟩, a120, a121, a122⟩ := id hU
  refine PM.of (by decide) (by decide) (Nat.le_refl _) (Nat.le_of_ble_eq_true rfl) ?_
  refine pw_aload_n 0 rfl dX10_barredBy_0 rfl ?_
  refine pw_iconst dX10_barredBy_1 ?_
  refine pw_pI 19 19 rfl dX10_barredBy_2 cOk10 (by assumption) (by decide) kw_1084 rfl rfl (by decide) (by omega) ?_
  obtain ⟨m0, em0⟩ : ∃ m0, m0 = wr mem 88 19 0 := ⟨_, rfl⟩
  rw [← em0]
  have s0 : sSame mem m0 := by rw [em0]; exact fun a q1 q2 q3 => wr_a _ _ _ (by omega)
  have hI0 : ROk m0 := ROk_s s0 (by rw [em0]; exact wr_a _ _ _ (by omega)) hI
  have t0 : m0 88 19 = 0 := by rw [em0, wr_s]
  refine pw_iload_n 1 rfl dX10_barredBy_5 rfl ?_
  refine pw_callS (d' := d - 1) (As := [_]) dX10_barredBy_6 ok_X10_isChest kw_1241 (by omega) rfl (Nat.le_of_ble_eq_true rfl) (r_isChest (d - 1) (by omega) n ok _ _ (by omega)) (Nat.le_refl _) (Or.inl rfl) (fun r ok1 mem1 hq => ?_)
  obtain ⟨rfl, rfl, rfl⟩ := hq
  refine pw_if_ne 19 (by decide) dX10_barredBy_9 (by split <;> omega) (fun c9 => ?_) (fun c9 => ?_)
  · skip
    rw [ne_eq, bz_n] at c9
    refine pw_iload_n 2 rfl dX10_barredBy_19 rfl ?_
    refine pw_i2l dX10_barredBy_20 (by omega) ?_
    refine pw_lconst (x := 0) dX10_barredBy_21 (by decide) ?_
    refine pw_ldc2 (x := 37) kw_1439 (by decide) dX10_barredBy_22 ?_
    refine pw_callS (d' := d - 1) (As := [_, _, _]) dX10_barredBy_25 ok_X10_in kw_1245 (by omega) rfl (Nat.le_of_ble_eq_true rfl) (r_in (d - 1) (by omega) n ok _ _ _ _ (by omega) (by omega) (by omega)) (Nat.le_refl _) (Or.inl rfl) (fun r ok1 mem1 hq => ?_)
    obtain ⟨rfl, rfl, rfl⟩ := hq
    refine pw_if_ne 38 (by decide) dX10_barredBy_28 (by split <;> omega) (fun c28 => ?_) (fun c28 => ?_)
    · skip
      rw [ne_eq, bz_n] at c28
      refine pw_aload_n 0 rfl dX10_barredBy_38 rfl ?_
      refine pw_iload_n 1 rfl dX10_barredBy_39 rfl ?_
      refine pw_iload_n 2 rfl dX10_barredBy_40 rfl ?_
      refine pw_callV (d' := d - 1) (As := [_, _]) (ci := 10) dX10_barredBy_41 ok_X10_bars kw_1402 rfl rfl (Of.o (by assumption)) (by omega) rfl (Nat.le_of_ble_eq_true rfl) (r_bars (d - 1) (by omega) n ok m0 hU c v (by omega) (by omega) (hI0 c (by omega) (by omega)).1 (hI0 c (by omega) (by omega)).2.1 (by omega)) (Nat.le_refl _) (Or.inl rfl) (fun r ok1 m1 hq => ?_)
      obtain ⟨z, rfl, rfl, em⟩ := hq
      have hbr := bRes_ran (m := m0) (c := c) (aAt m0 c) v (hI0 c (by omega) (by omega)).1.1
      refine pw_istore_n 3 rfl dX10_barredBy_44 (by decide) ?_
      refine pw_iload_n 3 rfl dX10_barredBy_45 rfl ?_
      refine pw_bipush dX10_barredBy_46 (by decide) ?_
      refine pw_icmp_ge 62 (by decide) dX10_barredBy_48 (by omega) (by omega) (fun c48 => ?_) (fun c48 => ?_)
      · skip
        refine pw_aload_n 0 rfl dX10_barredBy_62 rfl ?_
        refine pw_iload_n 3 rfl dX10_barredBy_63 rfl ?_
        refine pw_callV (d' := d - 1) (As := [_]) (ci := 10) dX10_barredBy_64 ok_X10_says kw_1265 rfl rfl (Of.o (by assumption)) (by omega) rfl (Nat.le_of_ble_eq_true rfl) (r_says (d - 1) (by omega) n ok _ hU _) (Nat.le_refl _) (Or.inl rfl) (fun r ok1 mem1 hq => ?_)
        obtain ⟨rfl, rfl, rfl⟩ := hq
        refine pw_iret dX10_barredBy_67 rfl rfl ?_
        refine ⟨z, ?_⟩
        unfold rBarred; rw [em]; (repeat' split) <;> first | exact ⟨rfl, rfl, rfl⟩ | (exfalso; omega)
      · skip
        refine pw_aload_n 0 rfl dX10_barredBy_51 rfl ?_
        refine pw_bipush dX10_barredBy_52 (by decide) ?_
        refine pw_iload_n 3 rfl dX10_barredBy_54 rfl ?_
        refine pw_isub dX10_barredBy_55 ?_
        refine pw_callV (d' := d - 1) (As := [_]) (ci := 10) dX10_barredBy_56 ok_X10_meets kw_1253 rfl rfl (Of.o (by assumption)) (by omega) rfl (Nat.le_of_ble_eq_true rfl) (r_meets (d - 1) (by omega) n ok _ hU _ (by omega)) (Nat.le_refl _) (Or.inl rfl) (fun r ok1 mem1 hq => ?_)
        obtain ⟨rfl, rfl, rfl⟩ := hq
        refine pw_goto 67 (by decide) dX10_barredBy_59 ?_
        refine pw_iret dX10_barredBy_67 rfl rfl ?_
        refine ⟨z, ?_⟩
        unfold rBarred; rw [em]; (repeat' split) <;> first | exact ⟨rfl, rfl, rfl⟩ | (exfalso; omega)
    · skip
      rw [bz_0] at c28
      refine pw_aload_n 0 rfl dX10_barredBy_31 rfl ?_
      refine pw_bipush dX10_barredBy_32 (by decide) ?_
      refine pw_callV (d' := d - 1) (As := [_]) (ci := 10) dX10_barredBy_34 ok_X10_refuses kw_1249 rfl rfl (Of.o (by assumption)) (by omega) rfl (Nat.le_of_ble_eq_true rfl) (r_refuses (d - 1) (by omega) n ok _ hU _ (by omega)) (Nat.le_refl _) (Or.inl rfl) (fun r ok1 mem1 hq => ?_)
      obtain ⟨rfl, rfl, rfl⟩ := hq
      refine pw_iret dX10_barredBy_37 rfl rfl ?_
      refine ⟨0, ?_⟩
      unfold rBarred; (repeat' split) <;> first | exact ⟨rfl, rfl, rfl⟩ | (exfalso; omega)
  · skip
    rw [bz_0] at c9
    refine pw_aload_n 0 rfl dX10_barredBy_12 rfl ?_
    refine pw_bipush dX10_barredBy_13 (by decide) ?_
    refine pw_callV (d' := d - 1) (As := [_]) (ci := 10) dX10_barredBy_15 ok_X10_refuses kw_1249 rfl rfl (Of.o (by assumption)) (by omega) rfl (Nat.le_of_ble_eq_true rfl) (r_refuses (d - 1) (by omega) n ok _ hU _ (by omega)) (Nat.le_refl _) (Or.inl rfl) (fun r ok1 mem1 hq => ?_)
    obtain ⟨rfl, rfl, rfl⟩ := hq
    refine pw_iret dX10_barredBy_18 rfl rfl ?_
    refine ⟨0, ?_⟩
    unfold rBarred; (repeat' split) <;> first | exact ⟨rfl, rfl, rfl⟩ | (exfalso; omega)
def rIsOpen (m : pM) (c z : Int) : Int × pM := if ¬ (0 ≤ c ∧ c ≤ 2) then rRef m (-2) else rSay (wr (rEv m (oEv m c (aAt m c))) 88 23 z) (oRes m c (aAt m c))
set_option maxHeartbeats 4000000 in
set_option maxRecDepth 100000 in
theorem r_isOpen (d : Nat) (hd : 6 ≤ d) (n : Nat) (ok : pO) (mem : pM) (hU : RefUp n ok) (c : Int) (hc : -2147483648 ≤ c ∧ c ≤ 2147483647) (hI : ROk mem) : PM mi_X10_isOpen d [vr 88, vi c] n ok mem n (fun r ok' mem' => ∃ z : Int, r = some (vi (rIsOpen (wr mem 88 19 0) c z).1) ∧ ok = ok' ∧ (rIsOpen (wr mem 88 19 0) c z).2 = mem') := by
  obtain ⟨hO, ⟨a89, a90, a91, a92, a93, a94, a95, a96, a97, a98⟩, ⟨a99, a100, a101, a102, a103, a104, a105, a106, a107⟩, ⟨a108, a109, a110, a111, a112, a113, a114, a115, a116, a117, a118, a119⟩, a120, a121, a122⟩ := id hU
  refine PM.of (by decide) (by decide) (Nat.le_refl _) (Nat.le_of_ble_eq_true rfl) ?_
  refine pw_aload_n 0 rfl dX10_isOpen_0 rfl ?_
  refine pw_iconst dX10_isOpen_1 ?_
  refine pw_pI 19 19 rfl dX10_isOpen_2 cOk10 (by assumption) (by decide) kw_1084 rfl rfl (by decide) (by omega) ?_
  obtain ⟨m0, em0⟩ : ∃ m0, m0 = wr mem 88 19 0 := ⟨_, rfl⟩
  rw [← em0]
  have s0 : sSame mem m0 := by rw [em0]; exact fun a q1 q2 q3 => wr_a _ _ _ (by omega)
  have hI0 : ROk m0 := ROk_s s0 (by rw [em0]; exact wr_a _ _ _ (by omega)) hI
  have t0 : m0 88 19 = 0 := by rw [em0, wr_s]
  refine pw_iload_n 1 rfl dX10_isOpen_5 rfl ?_
  refine pw_callS (d' := d - 1) (As := [_]) dX10_isOpen_6 ok_X10_isChest kw_1241 (by omega) rfl (Nat.le_of_ble_eq_true rfl) (r_isChest (d - 1) (by omega) n ok _ _ (by omega)) (Nat.le_refl _) (Or.inl rfl) (fun r ok1 mem1 hq => ?_)
  obtain ⟨rfl, rfl, rfl⟩ := hq
  refine pw_if_ne 19 (by decide) dX10_isOpen_9 (by split <;> omega) (fun c9 => ?_) (fun c9 => ?_)
  · skip
    rw [ne_eq, bz_n] at c9
    refine pw_aload_n 0 rfl dX10_isOpen_19 rfl ?_
    refine pw_aload_n 0 rfl dX10_isOpen_20 rfl ?_
    refine pw_iload_n 1 rfl dX10_isOpen_21 rfl ?_
    refine pw_callV (d' := d - 1) (As := [_]) (ci := 10) dX10_isOpen_22 ok_X10_opens kw_1370 rfl rfl (Of.o (by assumption)) (by omega) rfl (Nat.le_of_ble_eq_true rfl) (r_opens (d - 1) (by omega) n ok m0 hU c (by omega) (hI0 c (by omega) (by omega)).1 (hI0 c (by omega) (by omega)).2.1 (by omega)) (Nat.le_refl _) (Or.inl rfl) (fun r ok1 m1 hq => ?_)
    obtain ⟨z, rfl, rfl, em⟩ := hq
    have h01 := oRes_01 m0 c (aAt m0 c)
    refine pw_if_eq 32 (by decide) dX10_isOpen_25 (by omega) (fun c25 => ?_) (fun c25 => ?_)
    · skip
      refine pw_iconst dX10_isOpen_32 ?_
      refine pw_callV (d' := d - 1) (As := [_]) (ci := 10) dX10_isOpen_33 ok_X10_says kw_1265 rfl rfl (Of.o (by assumption)) (by omega) rfl (Nat.le_of_ble_eq_true rfl) (r_says (d - 1) (by omega) n ok _ hU _) (Nat.le_refl _) (Or.inl rfl) (fun r ok1 mem1 hq => ?_)
      obtain ⟨rfl, rfl, rfl⟩ := hq
      refine pw_iret dX10_isOpen_36 rfl rfl ?_
      refine ⟨z, ?_⟩
      unfold rIsOpen; rw [if_neg (by omega), em]
      exact ⟨congrArg (fun z => some (vi z)) (by show _ = oRes m0 c (aAt m0 c); omega), rfl, rfl⟩
    · skip
      refine pw_iconst dX10_isOpen_28 ?_
      refine pw_goto 33 (by decide) dX10_isOpen_29 ?_
      refine pw_callV (d' := d - 1) (As := [_]) (ci := 10) dX10_isOpen_33 ok_X10_says kw_1265 rfl rfl (Of.o (by assumption)) (by omega) rfl (Nat.le_of_ble_eq_true rfl) (r_says (d - 1) (by omega) n ok _ hU _) (Nat.le_refl _) (Or.inl rfl) (fun r ok1 mem1 hq => ?_)
      obtain ⟨rfl, rfl, rfl⟩ := hq
      refine pw_iret dX10_isOpen_36 rfl rfl ?_
      refine ⟨z, ?_⟩
      unfold rIsOpen; rw [if_neg (by omega), em]
      exact ⟨congrArg (fun z => some (vi z)) (by show _ = oRes m0 c (aAt m0 c); omega), rfl, rfl⟩
  · skip
    rw [bz_0] at c9
    refine pw_aload_n 0 rfl dX10_isOpen_12 rfl ?_
    refine pw_bipush dX10_isOpen_13 (by decide) ?_
    refine pw_callV (d' := d - 1) (As := [_]) (ci := 10) dX10_isOpen_15 ok_X10_refuses kw_1249 rfl rfl (Of.o (by assumption)) (by omega) rfl (Nat.le_of_ble_eq_true rfl) (r_refuses (d - 1) (by omega) n ok _ hU _ (by omega)) (Nat.le_refl _) (Or.inl rfl) (fun r ok1 mem1 hq => ?_)
    obtain ⟨rfl, rfl, rfl⟩ := hq
    refine pw_iret dX10_isOpen_18 rfl rfl ?_
    refine ⟨0, ?_⟩
    unfold rIsOpen; (repeat' split) <;> first | exact ⟨rfl, rfl, rfl⟩ | (exfalso; omega)
