/-! ===== trap, traps, hint ===== -/
def TM (s : Int) (m m1 : pM) : Prop := (∀ a, a ≠ 88 → (a < 115 ∨ 118 < a) → m1 a = m a) ∧ (∀ k, k ≠ 0 → k ≠ 44 → m1 88 k = m 88 k) ∧ m1 88 0 = s ∧ HF m1
theorem HF_w {m : pM} (h : HF m) (s : Int) : HF (wr m 88 0 s) := by
  unfold HF rdR
  rw [wr_k _ _ _ _ (by omega), wr_k _ _ _ _ (by omega), wr_a _ _ _ (by omega), wr_a _ _ _ (by omega), wr_a _ _ _ (by omega)]
  exact h
theorem TM_rf {m : pM} (h : HF m) (s : Int) : TM s m (wr m 88 0 s) := ⟨fun a h1 _ => wr_a _ _ _ h1, fun k h1 _ => wr_k _ _ _ _ h1, wr_s _ _ _ _, HF_w h s⟩
theorem MS.hf {m m1 : pM} (h : MS m m1) : HF m1 := fun _ => by
  have e : rdR m1 = rdR m := by unfold rdR; rw [h.1.1 114 (by omega) (by omega)]
  rw [e, h.1.1 111 (by omega) (by omega), h.1.2.1 34 (by omega)]
  exact h.2
theorem TM_of {m m1 : pM} (h : MS m m1) (s : Int) : TM s m (wr m1 88 0 s) := ⟨fun a h1 h2 => by rw [wr_a _ _ _ h1]; exact h.1.1 a h1 h2, fun k h1 h2 => by rw [wr_k _ _ _ _ h1]; exact h.1.2.1 k h2, wr_s _ _ _ _, HF_w h.hf s⟩
def rTrap (m : pM) (f : Int → Int) (x : Int) : Int := if ¬ (m 88 31 ≠ 0 ∧ m 88 32 = 0 ∧ m 88 35 = m 88 34) then -4 else if ¬ (0 ≤ x ∧ x ≤ 1023) ∨ m 109 x = -1 then -1 else if f (m 110 x) = -1 then 1 else 0
def trN (f : Int → Int) : Nat → Int
  | 0 => 0
  | k + 1 => trN f k + (if f k = -1 then 1 else 0)
theorem trN_ran (f : Int → Int) (k : Nat) : 0 ≤ trN f k ∧ trN f k ≤ k := by
  induction k with
  | zero => exact ⟨Int.le_refl _, Int.le_refl _⟩
  | succ k ih => unfold trN; split <;> omega
def rTraps (m : pM) (f : Int → Int) : Int := if ¬ (m 88 31 ≠ 0 ∧ m 88 32 = 0 ∧ m 88 35 = m 88 34) then -4 else trN f (m 88 34).toNat
def fj (m : pM) (f : Int → Int) (o : Int) : Nat → Int → Int
  | 0, _ => -1
  | g + 1, j => if m 114 (38 * o + j) ≠ -1 ∧ f (m 114 (38 * o + j)) = f o - 1 then j else fj m f o g (j + 1)
theorem fj_s (m : pM) (f : Int → Int) (o : Int) (g : Nat) (j : Int) : fj m f o (g + 1) j = if m 114 (38 * o + j) ≠ -1 ∧ f (m 114 (38 * o + j)) = f o - 1 then j else fj m f o g (j + 1) := rfl
def rHint (m : pM) (f : Int → Int) (c : Int) : Int := if ¬ (0 ≤ c ∧ c ≤ 2) then -2 else if ¬ (m 88 31 ≠ 0 ∧ m 88 32 = 0 ∧ m 88 35 = m 88 34) ∨ m 88 33 ≠ c then -4 else if m 109 (aNum m c 16) = -1 ∨ f (m 110 (aNum m c 16)) < 1 then -1 else fj m f (m 110 (aNum m c 16)) 38 0
set_option maxHeartbeats 4000000 in
set_option maxRecDepth 100000 in
theorem r_trap (d : Nat) (hd : 2 ≤ d) (n : Nat) (ok : pO) (mem : pM) (hU : RefUp n ok) (x : Int) (hx : -2147483648 ≤ x ∧ x ≤ 2147483647) (hS : SI mem) (hF : HF mem) : PM mi_X10_trap d [vr 88, vi x] n ok mem n (fun r ok' mem' => ∃ f, ((mem 88 31 ≠ 0 ∧ mem 88 32 = 0 ∧ mem 88 35 = mem 88 34) → (0 ≤ x ∧ x ≤ 1023) → mem 109 x ≠ -1 → SpF (rdR mem) (mem 111) (mem 88 34) f) ∧ r = some (vi (rTrap mem f x)) ∧ ok = ok' ∧ TM (if (mem 88 31 ≠ 0 ∧ mem 88 32 = 0 ∧ mem 88 35 = mem 88 34) then 0 else -4) mem mem') := by
  obtain ⟨hO, ⟨a89, a90, a91, a92, a93, a94, a95, a96, a97, a98⟩, ⟨a99, a100, a101, a102, a103, a104, a105, a106, a107⟩, ⟨a108, a109, a110, a111, a112, a113, a114, a115, a116, a117, a118, a119⟩, a120, a121, a122⟩ := id hU
  refine PM.of (by decide) (by decide) (Nat.le_refl _) (Nat.le_of_ble_eq_true rfl) ?_
  refine pw_aload_n 0 rfl dX10_trap_0 rfl ?_
  refine pw_callV (d' := d - 1) (As := []) (ci := 10) dX10_trap_1 ok_X10_isReady kw_1555 rfl rfl (Of.o (by assumption)) (by omega) rfl (Nat.le_of_ble_eq_true rfl) (r_isReady (d - 1) (by omega) n ok _ hU) (Nat.le_refl _) (Or.inl rfl) (fun r ok1 mem1 hq => ?_)
  obtain ⟨rfl, rfl, rfl⟩ := hq
  refine pw_if_ne 14 (by decide) dX10_trap_4 (by split <;> omega) (fun c4 => ?_) (fun c4 => ?_)
  · skip
    rw [ne_eq, bz_n] at c4
    have hR := c4
    refine pw_iload_n 1 rfl dX10_trap_14 rfl ?_
    refine pw_i2l dX10_trap_15 (by omega) ?_
    refine pw_lconst (x := 0) dX10_trap_16 (by decide) ?_
    refine pw_ldc2 (x := 1023) kw_1533 (by decide) dX10_trap_17 ?_
    refine pw_callS (d' := d - 1) (As := [_, _, _]) dX10_trap_20 ok_X10_in kw_1245 (by omega) rfl (Nat.le_of_ble_eq_true rfl) (r_in (d - 1) (by omega) n ok _ _ _ _ (by omega) (by omega) (by omega)) (Nat.le_refl _) (Or.inl rfl) (fun r ok1 mem1 hq => ?_)
    obtain ⟨rfl, rfl, rfl⟩ := hq
    refine pw_if_eq 36 (by decide) dX10_trap_23 (by split <;> omega) (fun c23 => ?_) (fun c23 => ?_)
    · skip
      rw [bz_0] at c23
      refine pw_aload_n 0 rfl dX10_trap_36 rfl ?_
      refine pw_iconst dX10_trap_37 ?_
      refine pw_callV (d' := d - 1) (As := [_]) (ci := 10) dX10_trap_38 ok_X10_says kw_1265 rfl rfl (Of.o (by assumption)) (by omega) rfl (Nat.le_of_ble_eq_true rfl) (r_says (d - 1) (by omega) n ok _ hU _) (Nat.le_refl _) (Or.inl rfl) (fun r ok1 mem1 hq => ?_)
      obtain ⟨rfl, rfl, em4⟩ := hq
      refine pw_iret dX10_trap_41 rfl rfl ?_
      refine ⟨fun _ => 0, fun _ q2 q3 => absurd q3 (by omega), ?_, rfl, ?_⟩
      · unfold rTrap; rw [if_neg (fun z => z hR), if_pos (by omega)]
      · rw [if_pos hR, ← em4]; exact TM_rf hF _
    · skip
      rw [bz_n] at c23
      refine pw_aload_n 0 rfl dX10_trap_26 rfl ?_
      refine pw_gR 38 109 dX10_trap_27 cOk10 (by assumption) (by decide) kw_1103 (by decide) rfl ?_
      refine pw_iload_n 1 rfl dX10_trap_30 rfl ?_
      refine pw_iaload dX10_trap_31 (by assumption) (by omega) (by omega) (fun r31 => ?_)
      refine pw_iconst dX10_trap_32 ?_
      refine pw_icmp_ne 42 (by decide) dX10_trap_33 (by omega) (by omega) (fun c33 => ?_) (fun c33 => ?_)
      · skip
        refine pw_aload_n 0 rfl dX10_trap_42 rfl ?_
        refine pw_callV (d' := d - 1) (As := []) (ci := 10) dX10_trap_43 ok_X10_measure kw_1559 rfl rfl (Of.o (by assumption)) (by omega) rfl (Nat.le_of_ble_eq_true rfl) (r_measure (d - 1) (by omega) n ok mem hU (hS hR.1) hR.2.2 hF) (Nat.le_refl _) (Or.inl rfl) (fun r ok1 m3 hq => ?_)
        obtain ⟨rfl, rfl, hM⟩ := hq
        have hSs := hS hR.1
        have g109 : m3 109 = mem 109 := hM.1.1 109 (by omega) (by omega)
        have g110 : m3 110 = mem 110 := hM.1.1 110 (by omega) (by omega)
        have g114 : m3 114 = mem 114 := hM.1.1 114 (by omega) (by omega)
        have g34 : m3 88 34 = mem 88 34 := hM.1.2.1 34 (by omega)
        have hSp := hM.2
        have hN := hSs.1
        refine pw_aload_n 0 rfl dX10_trap_46 rfl ?_
        refine pw_aload_n 0 rfl dX10_trap_47 rfl ?_
        refine pw_gR 45 115 dX10_trap_48 cOk10 (by assumption) (by decide) kw_1110 (by decide) rfl ?_
        refine pw_aload_n 0 rfl dX10_trap_51 rfl ?_
        refine pw_gR 39 110 dX10_trap_52 cOk10 (by assumption) (by decide) kw_1104 (by decide) rfl ?_
        refine pw_iload_n 1 rfl dX10_trap_55 rfl ?_
        refine pw_iaload dX10_trap_56 (by assumption) (by omega) (by omega) (fun r56 => ?_)
        rw [g110] at r56 ⊢
        have hx := hSs.2.2.1 x (by omega) (by omega)
        refine pw_iaload dX10_trap_57 (by assumption) (by omega) (by omega) (fun r57 => ?_)
        refine pw_iconst dX10_trap_58 ?_
        refine pw_icmp_ne 66 (by decide) dX10_trap_59 (by omega) (by omega) (fun c59 => ?_) (fun c59 => ?_)
        · skip
          refine pw_iconst dX10_trap_66 ?_
          refine pw_callV (d' := d - 1) (As := [_]) (ci := 10) dX10_trap_67 ok_X10_says kw_1265 rfl rfl (Of.o (by assumption)) (by omega) rfl (Nat.le_of_ble_eq_true rfl) (r_says (d - 1) (by omega) n ok _ hU _) (Nat.le_refl _) (Or.inl rfl) (fun r ok1 mem1 hq => ?_)
          obtain ⟨rfl, rfl, em4⟩ := hq
          refine pw_iret dX10_trap_70 rfl rfl ?_
          refine ⟨m3 115, fun _ _ _ => hSp, ?_, rfl, ?_⟩
          · unfold rTrap; rw [if_neg (fun z => z hR), if_neg (by omega)]; first | (rw [if_pos c59]) | (rw [if_neg c59])
          · rw [if_pos hR, ← em4]; exact TM_of hM _
        · skip
          refine pw_iconst dX10_trap_62 ?_
          refine pw_goto 67 (by decide) dX10_trap_63 ?_
          refine pw_callV (d' := d - 1) (As := [_]) (ci := 10) dX10_trap_67 ok_X10_says kw_1265 rfl rfl (Of.o (by assumption)) (by omega) rfl (Nat.le_of_ble_eq_true rfl) (r_says (d - 1) (by omega) n ok _ hU _) (Nat.le_refl _) (Or.inl rfl) (fun r ok1 mem1 hq => ?_)
          obtain ⟨rfl, rfl, em4⟩ := hq
          refine pw_iret dX10_trap_70 rfl rfl ?_
          refine ⟨m3 115, fun _ _ _ => hSp, ?_, rfl, ?_⟩
          · unfold rTrap; rw [if_neg (fun z => z hR), if_neg (by omega)]; first | (rw [if_pos c59]) | (rw [if_neg c59])
          · rw [if_pos hR, ← em4]; exact TM_of hM _
      · skip
        refine pw_aload_n 0 rfl dX10_trap_36 rfl ?_
        refine pw_iconst dX10_trap_37 ?_
        refine pw_callV (d' := d - 1) (As := [_]) (ci := 10) dX10_trap_38 ok_X10_says kw_1265 rfl rfl (Of.o (by assumption)) (by omega) rfl (Nat.le_of_ble_eq_true rfl) (r_says (d - 1) (by omega) n ok _ hU _) (Nat.le_refl _) (Or.inl rfl) (fun r ok1 mem1 hq => ?_)
        obtain ⟨rfl, rfl, em4⟩ := hq
        refine pw_iret dX10_trap_41 rfl rfl ?_
        refine ⟨fun _ => 0, fun _ q2 q3 => absurd q3 (by omega), ?_, rfl, ?_⟩
        · unfold rTrap; rw [if_neg (fun z => z hR), if_pos (by omega)]
        · rw [if_pos hR, ← em4]; exact TM_rf hF _
  · skip
    rw [bz_0] at c4
    have hR := c4
    refine pw_aload_n 0 rfl dX10_trap_7 rfl ?_
    refine pw_bipush dX10_trap_8 (by decide) ?_
    refine pw_callV (d' := d - 1) (As := [_]) (ci := 10) dX10_trap_10 ok_X10_refuses kw_1249 rfl rfl (Of.o (by assumption)) (by omega) rfl (Nat.le_of_ble_eq_true rfl) (r_refuses (d - 1) (by omega) n ok _ hU _ (by omega)) (Nat.le_refl _) (Or.inl rfl) (fun r ok1 mem1 hq => ?_)
    obtain ⟨rfl, rfl, em4⟩ := hq
    refine pw_iret dX10_trap_13 rfl rfl ?_
    refine ⟨fun _ => 0, fun q => absurd q hR, ?_, rfl, ?_⟩
    · unfold rTrap; rw [if_pos hR]
    · rw [if_neg hR, ← em4]; exact TM_rf hF _
set_option maxHeartbeats 4000000 in
set_option maxRecDepth 100000 in
theorem r_traps (d : Nat) (hd : 2 ≤ d) (n : Nat) (ok : pO) (mem : pM) (hU : RefUp n ok) (hS : SI mem) (hF : HF mem) : PM mi_X10_traps d [vr 88] n ok mem n (fun r ok' mem' => ∃ f, ((mem 88 31 ≠ 0 ∧ mem 88 32 = 0 ∧ mem 88 35 = mem 88 34) → SpF (rdR mem) (mem 111) (mem 88 34) f) ∧ r = some (vi (rTraps mem f)) ∧ ok = ok' ∧ TM (if (mem 88 31 ≠ 0 ∧ mem 88 32 = 0 ∧ mem 88 35 = mem 88 34) then 0 else -4) mem mem') := by
  obtain ⟨hO, ⟨a89, a90, a91, a92, a93, a94, a95, a96, a97, a98⟩, ⟨a99, a100, a101, a102, a103, a104, a105, a106, a107⟩, ⟨a108, a109, a110, a111, a112, a113, a114, a115, a116, a117, a118, a119⟩, a120, a121, a122⟩ := id hU
  refine PM.of (by decide) (by decide) (Nat.le_refl _) (Nat.le_of_ble_eq_true rfl) ?_
  refine pw_aload_n 0 rfl dX10_traps_0 rfl ?_
  refine pw_callV (d' := d - 1) (As := []) (ci := 10) dX10_traps_1 ok_X10_isReady kw_1555 rfl rfl (Of.o (by assumption)) (by omega) rfl (Nat.le_of_ble_eq_true rfl) (r_isReady (d - 1) (by omega) n ok _ hU) (Nat.le_refl _) (Or.inl rfl) (fun r ok1 mem1 hq => ?_)
  obtain ⟨rfl, rfl, rfl⟩ := hq
  refine pw_if_ne 14 (by decide) dX10_traps_4 (by split <;> omega) (fun c4 => ?_) (fun c4 => ?_)
  · skip
    rw [ne_eq, bz_n] at c4
    have hR := c4
    refine pw_aload_n 0 rfl dX10_traps_14 rfl ?_
    refine pw_callV (d' := d - 1) (As := []) (ci := 10) dX10_traps_15 ok_X10_measure kw_1559 rfl rfl (Of.o (by assumption)) (by omega) rfl (Nat.le_of_ble_eq_true rfl) (r_measure (d - 1) (by omega) n ok mem hU (hS hR.1) hR.2.2 hF) (Nat.le_refl _) (Or.inl rfl) (fun r ok1 m3 hq => ?_)
    obtain ⟨rfl, rfl, hM⟩ := hq
    have hSs := hS hR.1
    have g109 : m3 109 = mem 109 := hM.1.1 109 (by omega) (by omega)
    have g110 : m3 110 = mem 110 := hM.1.1 110 (by omega) (by omega)
    have g114 : m3 114 = mem 114 := hM.1.1 114 (by omega) (by omega)
    have g34 : m3 88 34 = mem 88 34 := hM.1.2.1 34 (by omega)
    have hSp := hM.2
    have hN := hSs.1
    refine pw_iconst dX10_traps_18 ?_
    refine pw_istore_n 1 rfl dX10_traps_19 (by decide) ?_
    refine pw_iconst dX10_traps_20 ?_
    refine pw_istore_n 2 rfl dX10_traps_21 (by decide) ?_
    have lp22 : ∀ (kz : Nat) (i : Nat) (y : Int), mem 88 34 - (i : Int) < (kz : Int) → ((i : Int) ≤ mem 88 34) → (y = trN (m3 115) i) → PW mi_X10_traps d n n (fun r ok' mem' => ∃ f, ((mem 88 31 ≠ 0 ∧ mem 88 32 = 0 ∧ mem 88 35 = mem 88 34) → SpF (rdR mem) (mem 111) (mem 88 34) f) ∧ r = some (vi (rTraps mem f)) ∧ ok = ok' ∧ TM (if (mem 88 31 ≠ 0 ∧ mem 88 32 = 0 ∧ mem 88 35 = mem 88 34) then 0 else -4) mem mem') 22 [(0, vr 88), (1, vi y), (2, vi (i : Int))] [] n ok m3 := by
      intro kz
      induction kz with
      | zero =>
        intro i y hk h1 h2
        exact absurd hk (by omega)
      | succ kz ih =>
        intro i y hk h1 h2
        have hp := trN_ran (m3 115) i
        refine pw_iload_n 2 rfl dX10_traps_22 rfl ?_
        refine pw_aload_n 0 rfl dX10_traps_23 rfl ?_
        refine pw_gI 34 34 rfl dX10_traps_24 cOk10 (by assumption) (by decide) kw_1099 (by decide) (fun r24 => ?_)
        try simp (disch := omega) only [wr_s, wr_a, wr_k] at r24 ⊢
        rw [g34] at r24 ⊢
        refine pw_icmp_ge 54 (by decide) dX10_traps_27 (by omega) (by omega) (fun c27 => ?_) (fun c27 => ?_)
        · skip
          refine pw_aload_n 0 rfl dX10_traps_54 rfl ?_
          refine pw_iload_n 1 rfl dX10_traps_55 rfl ?_
          refine pw_callV (d' := d - 1) (As := [_]) (ci := 10) dX10_traps_56 ok_X10_says kw_1265 rfl rfl (Of.o (by assumption)) (by omega) rfl (Nat.le_of_ble_eq_true rfl) (r_says (d - 1) (by omega) n ok _ hU _) (Nat.le_refl _) (Or.inl rfl) (fun r ok1 mem1 hq => ?_)
          obtain ⟨rfl, rfl, em4⟩ := hq
          refine pw_iret dX10_traps_59 rfl rfl ?_
          have e9 : i = (mem 88 34).toNat := by omega
          refine ⟨m3 115, fun _ => hSp, ?_, rfl, ?_⟩
          · unfold rTraps; rw [if_neg (fun z => z hR), h2, e9]
          · rw [if_pos hR, ← em4]; exact TM_of hM _
        · skip
          refine pw_iload_n 1 rfl dX10_traps_30 rfl ?_
          refine pw_aload_n 0 rfl dX10_traps_31 rfl ?_
          refine pw_gR 45 115 dX10_traps_32 cOk10 (by assumption) (by decide) kw_1110 (by decide) rfl ?_
          refine pw_iload_n 2 rfl dX10_traps_35 rfl ?_
          refine pw_iaload dX10_traps_36 (by assumption) (by omega) (by omega) (fun r36 => ?_)
          try simp (disch := omega) only [wr_s, wr_a, wr_k] at r36 ⊢
          refine pw_iconst dX10_traps_37 ?_
          refine pw_icmp_ne 45 (by decide) dX10_traps_38 (by omega) (by omega) (fun c38 => ?_) (fun c38 => ?_)
          · skip
            refine pw_iconst dX10_traps_45 ?_
            refine pw_iadd dX10_traps_46 ?_
            refine pw_istore_n 1 rfl dX10_traps_47 (by decide) ?_
            refine pw_iinc dX10_traps_48 rfl (by decide) ?_
            refine pw_goto 22 (by decide) dX10_traps_51 ?_
            exact pw_locs _ rfl (ih (i + 1) (y + 0) (by omega) (by omega) (by subst h2; show _ = trN (m3 115) i + _; rw [if_neg c38]))
          · skip
            refine pw_iconst dX10_traps_41 ?_
            refine pw_goto 46 (by decide) dX10_traps_42 ?_
            refine pw_iadd dX10_traps_46 ?_
            refine pw_istore_n 1 rfl dX10_traps_47 (by decide) ?_
            refine pw_iinc dX10_traps_48 rfl (by decide) ?_
            refine pw_goto 22 (by decide) dX10_traps_51 ?_
            exact pw_locs _ rfl (ih (i + 1) (y + 1) (by omega) (by omega) (by subst h2; show _ = trN (m3 115) i + _; rw [if_pos (by omega)]))
    exact pw_locs _ rfl (lp22 1025 0 0 (by omega) (by omega) rfl)
  · skip
    rw [bz_0] at c4
    have hR := c4
    refine pw_aload_n 0 rfl dX10_traps_7 rfl ?_
    refine pw_bipush dX10_traps_8 (by decide) ?_
    refine pw_callV (d' := d - 1) (As := [_]) (ci := 10) dX10_traps_10 ok_X10_refuses kw_1249 rfl rfl (Of.o (by assumption)) (by omega) rfl (Nat.le_of_ble_eq_true rfl) (r_refuses (d - 1) (by omega) n ok _ hU _ (by omega)) (Nat.le_refl _) (Or.inl rfl) (fun r ok1 mem1 hq => ?_)
    obtain ⟨rfl, rfl, em4⟩ := hq
    refine pw_iret dX10_traps_13 rfl rfl ?_
    refine ⟨fun _ => 0, fun q => absurd q hR, ?_, rfl, ?_⟩
    · unfold rTraps; rw [if_pos hR]
    · rw [if_neg hR, ← em4]; exact TM_rf hF _
set_option maxHeartbeats 4000000 in
set_option maxRecDepth 100000 in
theorem r_hint (d : Nat) (hd : 2 ≤ d) (n : Nat) (ok : pO) (mem : pM) (hU : RefUp n ok) (c : Int) (hc : -2147483648 ≤ c ∧ c ≤ 2147483647) (hs : ROk mem) (hS : SI mem) (hF : HF mem) : PM mi_X10_hint d [vr 88, vi c] n ok mem n (fun r ok' mem' => ∃ f, ((0 ≤ c ∧ c ≤ 2) → ((mem 88 31 ≠ 0 ∧ mem 88 32 = 0 ∧ mem 88 35 = mem 88 34) ∧ mem 88 33 = c) → SpF (rdR mem) (mem 111) (mem 88 34) f) ∧ r = some (vi (rHint mem f c)) ∧ ok = ok' ∧ TM (if ¬ (0 ≤ c ∧ c ≤ 2) then -2 else if ¬ (mem 88 31 ≠ 0 ∧ mem 88 32 = 0 ∧ mem 88 35 = mem 88 34) ∨ mem 88 33 ≠ c then -4 else 0) mem mem') := by
  obtain ⟨hO, ⟨a89, a90, a91, a92, a93, a94, a95, a96, a97, a98⟩, ⟨a99, a100, a101, a102, a103, a104, a105, a106, a107⟩, ⟨a108, a109, a110, a111, a112, a113, a114, a115, a116, a117, a118, a119⟩, a120, a121, a122⟩ := id hU
  refine PM.of (by decide) (by decide) (Nat.le_refl _) (Nat.le_of_ble_eq_true rfl) ?_
  refine pw_iload_n 1 rfl dX10_hint_0 rfl ?_
  refine pw_callS (d' := d - 1) (As := [_]) dX10_hint_1 ok_X10_isChest kw_1241 (by omega) rfl (Nat.le_of_ble_eq_true rfl) (r_isChest (d - 1) (by omega) n ok _ _ (by omega)) (Nat.le_refl _) (Or.inl rfl) (fun r ok1 mem1 hq => ?_)
  obtain ⟨rfl, rfl, rfl⟩ := hq
  refine pw_if_ne 14 (by decide) dX10_hint_4 (by split <;> omega) (fun c4 => ?_) (fun c4 => ?_)
  · skip
    rw [ne_eq, bz_n] at c4
    refine pw_aload_n 0 rfl dX10_hint_14 rfl ?_
    refine pw_callV (d' := d - 1) (As := []) (ci := 10) dX10_hint_15 ok_X10_isReady kw_1555 rfl rfl (Of.o (by assumption)) (by omega) rfl (Nat.le_of_ble_eq_true rfl) (r_isReady (d - 1) (by omega) n ok _ hU) (Nat.le_refl _) (Or.inl rfl) (fun r ok1 mem1 hq => ?_)
    obtain ⟨rfl, rfl, rfl⟩ := hq
    refine pw_if_eq 29 (by decide) dX10_hint_18 (by split <;> omega) (fun c18 => ?_) (fun c18 => ?_)
    · skip
      rw [bz_0] at c18
      have hR := c18
      refine pw_aload_n 0 rfl dX10_hint_29 rfl ?_
      refine pw_bipush dX10_hint_30 (by decide) ?_
      refine pw_callV (d' := d - 1) (As := [_]) (ci := 10) dX10_hint_32 ok_X10_refuses kw_1249 rfl rfl (Of.o (by assumption)) (by omega) rfl (Nat.le_of_ble_eq_true rfl) (r_refuses (d - 1) (by omega) n ok _ hU _ (by omega)) (Nat.le_refl _) (Or.inl rfl) (fun r ok1 mem1 hq => ?_)
      obtain ⟨rfl, rfl, em4⟩ := hq
      refine pw_iret dX10_hint_35 rfl rfl ?_
      have hN4 : ¬ (mem 88 31 ≠ 0 ∧ mem 88 32 = 0 ∧ mem 88 35 = mem 88 34) ∨ mem 88 33 ≠ c := Or.inl hR
      refine ⟨fun _ => 0, fun _ q => absurd hN4 (by intro z; rcases z with z | z; exact z q.1; exact z q.2), ?_, rfl, ?_⟩
      · unfold rHint; rw [if_neg (by omega), if_pos hN4]
      · rw [if_neg (by omega), if_pos hN4, ← em4]; exact TM_rf hF _
    · skip
      rw [bz_n] at c18
      have hR := c18
      refine pw_aload_n 0 rfl dX10_hint_21 rfl ?_
      refine pw_gI 33 33 rfl dX10_hint_22 cOk10 (by assumption) (by decide) kw_1098 (by decide) (fun r22 => ?_)
      refine pw_iload_n 1 rfl dX10_hint_25 rfl ?_
      refine pw_icmp_eq 36 (by decide) dX10_hint_26 (by omega) (by omega) (fun c26 => ?_) (fun c26 => ?_)
      · skip
        skip
        refine pw_aload_n 0 rfl dX10_hint_36 rfl ?_
        have hcs := hs c (by omega) (by omega)
        have hnr := num_ran hcs
        have hN5 : ¬ (¬ (mem 88 31 ≠ 0 ∧ mem 88 32 = 0 ∧ mem 88 35 = mem 88 34) ∨ mem 88 33 ≠ c) := fun z => by rcases z with z | z; exact z hR; exact z (by omega)
        refine pw_callV (d' := d - 1) (As := []) (ci := 10) dX10_hint_37 ok_X10_measure kw_1559 rfl rfl (Of.o (by assumption)) (by omega) rfl (Nat.le_of_ble_eq_true rfl) (r_measure (d - 1) (by omega) n ok mem hU (hS hR.1) hR.2.2 hF) (Nat.le_refl _) (Or.inl rfl) (fun r ok1 m3 hq => ?_)
        obtain ⟨rfl, rfl, hM⟩ := hq
        have hSs := hS hR.1
        have g109 : m3 109 = mem 109 := hM.1.1 109 (by omega) (by omega)
        have g110 : m3 110 = mem 110 := hM.1.1 110 (by omega) (by omega)
        have g114 : m3 114 = mem 114 := hM.1.1 114 (by omega) (by omega)
        have g34 : m3 88 34 = mem 88 34 := hM.1.2.1 34 (by omega)
        have hSp := hM.2
        have hN := hSs.1
        refine pw_aload_n 0 rfl dX10_hint_40 rfl ?_
        refine pw_iload_n 1 rfl dX10_hint_41 rfl ?_
        refine pw_callV (d' := d - 1) (As := [_]) (ci := 10) dX10_hint_42 ok_X10_numberOf kw_1362 rfl rfl (Of.o (by assumption)) (by omega) rfl (Nat.le_of_ble_eq_true rfl) (r_numberOf (d - 1) (by omega) n ok m3 hU c (by omega)) (Nat.le_refl _) (Or.inl rfl) (fun r ok1 mem1 hq => ?_)
        obtain ⟨rfl, rfl, rfl⟩ := hq
        have sM : sSame mem m3 := fun a q1 q2 _ => hM.1.1 a (by omega) (by omega)
        have eN : aNum m3 c 16 = aNum mem c 16 := by rw [aNum_V sM c (v := aAt mem c) (fun s _ _ => by show m3 92 _ = mem 92 _; rw [hM.1.1 92 (by omega) (by omega)]) 16 (by omega), aNum_v mem c 16 (by omega)]
        rw [eN]
        have hx := hSs.2.2.1 (aNum mem c 16) (by omega) (by omega)
        refine pw_istore_n 2 rfl dX10_hint_45 (by decide) ?_
        refine pw_aload_n 0 rfl dX10_hint_46 rfl ?_
        refine pw_gR 38 109 dX10_hint_47 cOk10 (by assumption) (by decide) kw_1103 (by decide) rfl ?_
        refine pw_iload_n 2 rfl dX10_hint_50 rfl ?_
        refine pw_iaload dX10_hint_51 (by assumption) (by omega) (by omega) (fun r51 => ?_)
        rw [g109] at r51 ⊢
        refine pw_iconst dX10_hint_52 ?_
        refine pw_icmp_ne 60 (by decide) dX10_hint_53 (by omega) (by omega) (fun c53 => ?_) (fun c53 => ?_)
        · skip
          refine pw_aload_n 0 rfl dX10_hint_60 rfl ?_
          refine pw_gR 39 110 dX10_hint_61 cOk10 (by assumption) (by decide) kw_1104 (by decide) rfl ?_
          refine pw_iload_n 2 rfl dX10_hint_64 rfl ?_
          refine pw_iaload dX10_hint_65 (by assumption) (by omega) (by omega) (fun r65 => ?_)
          rw [g110] at r65 ⊢
          refine pw_istore_n 3 rfl dX10_hint_66 (by decide) ?_
          refine pw_iload_n 3 rfl dX10_hint_67 rfl ?_
          refine pw_iconst dX10_hint_68 ?_
          refine pw_icmp_eq 82 (by decide) dX10_hint_69 (by omega) (by omega) (fun c69 => ?_) (fun c69 => ?_)
          · skip
            exfalso; omega
          · skip
            refine pw_aload_n 0 rfl dX10_hint_72 rfl ?_
            refine pw_gR 45 115 dX10_hint_73 cOk10 (by assumption) (by decide) kw_1110 (by decide) rfl ?_
            refine pw_iload_n 3 rfl dX10_hint_76 rfl ?_
            refine pw_iaload dX10_hint_77 (by assumption) (by omega) (by omega) (fun r77 => ?_)
            refine pw_iconst dX10_hint_78 ?_
            refine pw_icmp_ge 88 (by decide) dX10_hint_79 (by omega) (by omega) (fun c79 => ?_) (fun c79 => ?_)
            · skip
              obtain ⟨q, q1, q2, ⟨jq, j1, j2, j3⟩, q4⟩ := hSp.2.1 (mem 110 (aNum mem c 16)) (by omega) (by omega) (by omega)
              have hnz : ¬ (mem 109 (aNum mem c 16) = -1 ∨ (m3 115) (mem 110 (aNum mem c 16)) < 1) := by omega
              have h35 := hR.2.2
              refine pw_iconst dX10_hint_88 ?_
              refine pw_istore dX10_hint_89 (by decide) ?_
              have lp91 : ∀ (kz : Nat) (j : Nat), jq - (j : Int) < (kz : Int) → ((j : Int) ≤ jq) → (fj mem (m3 115) (mem 110 (aNum mem c 16)) 38 0 = fj mem (m3 115) (mem 110 (aNum mem c 16)) (38 - j) j) → PW mi_X10_hint d n n (fun r ok' mem' => ∃ f, ((0 ≤ c ∧ c ≤ 2) → ((mem 88 31 ≠ 0 ∧ mem 88 32 = 0 ∧ mem 88 35 = mem 88 34) ∧ mem 88 33 = c) → SpF (rdR mem) (mem 111) (mem 88 34) f) ∧ r = some (vi (rHint mem f c)) ∧ ok = ok' ∧ TM (if ¬ (0 ≤ c ∧ c ≤ 2) then -2 else if ¬ (mem 88 31 ≠ 0 ∧ mem 88 32 = 0 ∧ mem 88 35 = mem 88 34) ∨ mem 88 33 ≠ c then -4 else 0) mem mem') 91 [(0, vr 88), (1, vi c), (2, vi (aNum mem c 16)), (3, vi (mem 110 (aNum mem c 16))), (4, vi (j : Int))] [] n ok m3 := by
                intro kz
                induction kz with
                | zero =>
                  intro j hk hj hf
                  exact absurd hk (by omega)
                | succ kz ih =>
                  intro j hk hj hf
                  have hL := hSs.2.2.2.2 (38 * (mem 110 (aNum mem c 16)) + j) (by omega) (by omega)
                  have eG : 38 - j = (37 - j) + 1 := by omega
                  rw [eG, fj_s mem _ _ (37 - j)] at hf
                  refine pw_aload_n 0 rfl dX10_hint_91 rfl ?_
                  refine pw_gR 43 114 dX10_hint_92 cOk10 (by assumption) (by decide) kw_1108 (by decide) rfl ?_
                  refine pw_bipush dX10_hint_95 (by decide) ?_
                  refine pw_iload_n 3 rfl dX10_hint_97 rfl ?_
                  refine pw_imul dX10_hint_98 ?_
                  refine pw_iload dX10_hint_99 rfl ?_
                  refine pw_iadd dX10_hint_101 ?_
                  refine pw_iaload dX10_hint_102 (by assumption) (by omega) (by omega) (fun r102 => ?_)
                  try simp (disch := omega) only [wr_s, wr_a, wr_k] at r102 ⊢
                  rw [g114] at r102 ⊢
                  refine pw_iconst dX10_hint_103 ?_
                  refine pw_icmp_eq 135 (by decide) dX10_hint_104 (by omega) (by omega) (fun c104 => ?_) (fun c104 => ?_)
                  · skip
                    refine pw_iinc dX10_hint_135 rfl (by decide) ?_
                    refine pw_goto 91 (by decide) dX10_hint_138 ?_
                    have hne : (j : Int) ≠ jq := fun z => by rw [z, j3] at c104; omega
                    exact pw_locs _ rfl (ih (j + 1) (by omega) (by omega) (by rw [hf, if_neg (fun z => z.1 c104), show 38 - (j + 1) = 37 - j by omega]; rfl))
                  · skip
                    refine pw_aload_n 0 rfl dX10_hint_107 rfl ?_
                    refine pw_gR 45 115 dX10_hint_108 cOk10 (by assumption) (by decide) kw_1110 (by decide) rfl ?_
                    refine pw_aload_n 0 rfl dX10_hint_111 rfl ?_
                    refine pw_gR 43 114 dX10_hint_112 cOk10 (by assumption) (by decide) kw_1108 (by decide) rfl ?_
                    refine pw_bipush dX10_hint_115 (by decide) ?_
                    refine pw_iload_n 3 rfl dX10_hint_117 rfl ?_
                    refine pw_imul dX10_hint_118 ?_
                    refine pw_iload dX10_hint_119 rfl ?_
                    refine pw_iadd dX10_hint_121 ?_
                    refine pw_iaload dX10_hint_122 (by assumption) (by omega) (by omega) (fun r122 => ?_)
                    try simp (disch := omega) only [wr_s, wr_a, wr_k] at r122 ⊢
                    rw [g114] at r122 ⊢
                    refine pw_iaload dX10_hint_123 (by assumption) (by omega) (by omega) (fun r123 => ?_)
                    try simp (disch := omega) only [wr_s, wr_a, wr_k] at r123 ⊢
                    refine pw_aload_n 0 rfl dX10_hint_124 rfl ?_
                    refine pw_gR 45 115 dX10_hint_125 cOk10 (by assumption) (by decide) kw_1110 (by decide) rfl ?_
                    refine pw_iload_n 3 rfl dX10_hint_128 rfl ?_
                    refine pw_iaload dX10_hint_129 (by assumption) (by omega) (by omega) (fun r129 => ?_)
                    try simp (disch := omega) only [wr_s, wr_a, wr_k] at r129 ⊢
                    refine pw_iconst dX10_hint_130 ?_
                    refine pw_isub dX10_hint_131 ?_
                    refine pw_icmp_eq 141 (by decide) dX10_hint_132 (by omega) (by omega) (fun c132 => ?_) (fun c132 => ?_)
                    · skip
                      refine pw_aload_n 0 rfl dX10_hint_141 rfl ?_
                      refine pw_iload dX10_hint_142 rfl ?_
                      refine pw_callV (d' := d - 1) (As := [_]) (ci := 10) dX10_hint_144 ok_X10_says kw_1265 rfl rfl (Of.o (by assumption)) (by omega) rfl (Nat.le_of_ble_eq_true rfl) (r_says (d - 1) (by omega) n ok _ hU _) (Nat.le_refl _) (Or.inl rfl) (fun r ok1 mem1 hq => ?_)
                      obtain ⟨rfl, rfl, em4⟩ := hq
                      refine pw_iret dX10_hint_147 rfl rfl ?_
                      refine ⟨m3 115, fun _ _ => hSp, ?_, rfl, ?_⟩
                      · unfold rHint; rw [if_neg (by omega), if_neg hN5, if_neg hnz, hf, if_pos ⟨c104, by omega⟩]
                      · rw [if_neg (by omega), if_neg hN5, ← em4]; exact TM_of hM _
                    · skip
                      refine pw_iinc dX10_hint_135 rfl (by decide) ?_
                      refine pw_goto 91 (by decide) dX10_hint_138 ?_
                      have hne : (j : Int) ≠ jq := fun z => by rw [z, j3] at c132; omega
                      exact pw_locs _ rfl (ih (j + 1) (by omega) (by omega) (by rw [hf, if_neg (fun z => c132 z.2), show 38 - (j + 1) = 37 - j by omega]; rfl))
              exact pw_locs _ rfl (lp91 39 0 (by omega) (by omega) rfl)
            · skip
              refine pw_aload_n 0 rfl dX10_hint_82 rfl ?_
              refine pw_iconst dX10_hint_83 ?_
              refine pw_callV (d' := d - 1) (As := [_]) (ci := 10) dX10_hint_84 ok_X10_says kw_1265 rfl rfl (Of.o (by assumption)) (by omega) rfl (Nat.le_of_ble_eq_true rfl) (r_says (d - 1) (by omega) n ok _ hU _) (Nat.le_refl _) (Or.inl rfl) (fun r ok1 mem1 hq => ?_)
              obtain ⟨rfl, rfl, em4⟩ := hq
              refine pw_iret dX10_hint_87 rfl rfl ?_
              have hz : mem 109 (aNum mem c 16) = -1 ∨ (m3 115) (mem 110 (aNum mem c 16)) < 1 := Or.inr (by omega)
              refine ⟨m3 115, fun _ _ => hSp, ?_, rfl, ?_⟩
              · unfold rHint; rw [if_neg (by omega), if_neg hN5, if_pos hz]
              · rw [if_neg (by omega), if_neg hN5, ← em4]; exact TM_of hM _
        · skip
          refine pw_iconst dX10_hint_56 ?_
          refine pw_goto 66 (by decide) dX10_hint_57 ?_
          refine pw_istore_n 3 rfl dX10_hint_66 (by decide) ?_
          refine pw_iload_n 3 rfl dX10_hint_67 rfl ?_
          refine pw_iconst dX10_hint_68 ?_
          refine pw_icmp_eq 82 (by decide) dX10_hint_69 (by omega) (by omega) (fun c69 => ?_) (fun c69 => ?_)
          · skip
            skip
            refine pw_aload_n 0 rfl dX10_hint_82 rfl ?_
            refine pw_iconst dX10_hint_83 ?_
            refine pw_callV (d' := d - 1) (As := [_]) (ci := 10) dX10_hint_84 ok_X10_says kw_1265 rfl rfl (Of.o (by assumption)) (by omega) rfl (Nat.le_of_ble_eq_true rfl) (r_says (d - 1) (by omega) n ok _ hU _) (Nat.le_refl _) (Or.inl rfl) (fun r ok1 mem1 hq => ?_)
            obtain ⟨rfl, rfl, em4⟩ := hq
            refine pw_iret dX10_hint_87 rfl rfl ?_
            have hz : mem 109 (aNum mem c 16) = -1 ∨ (m3 115) (mem 110 (aNum mem c 16)) < 1 := Or.inl (by omega)
            refine ⟨m3 115, fun _ _ => hSp, ?_, rfl, ?_⟩
            · unfold rHint; rw [if_neg (by omega), if_neg hN5, if_pos hz]
            · rw [if_neg (by omega), if_neg hN5, ← em4]; exact TM_of hM _
          · skip
            exfalso; omega
      · skip
        skip
        refine pw_aload_n 0 rfl dX10_hint_29 rfl ?_
        refine pw_bipush dX10_hint_30 (by decide) ?_
        refine pw_callV (d' := d - 1) (As := [_]) (ci := 10) dX10_hint_32 ok_X10_refuses kw_1249 rfl rfl (Of.o (by assumption)) (by omega) rfl (Nat.le_of_ble_eq_true rfl) (r_refuses (d - 1) (by omega) n ok _ hU _ (by omega)) (Nat.le_refl _) (Or.inl rfl) (fun r ok1 mem1 hq => ?_)
        obtain ⟨rfl, rfl, em4⟩ := hq
        refine pw_iret dX10_hint_35 rfl rfl ?_
        have hN4 : ¬ (mem 88 31 ≠ 0 ∧ mem 88 32 = 0 ∧ mem 88 35 = mem 88 34) ∨ mem 88 33 ≠ c := Or.inr c26
        refine ⟨fun _ => 0, fun _ q => absurd hN4 (by intro z; rcases z with z | z; exact z q.1; exact z q.2), ?_, rfl, ?_⟩
        · unfold rHint; rw [if_neg (by omega), if_pos hN4]
        · rw [if_neg (by omega), if_pos hN4, ← em4]; exact TM_rf hF _
  · skip
    rw [bz_0] at c4
    refine pw_aload_n 0 rfl dX10_hint_7 rfl ?_
    refine pw_bipush dX10_hint_8 (by decide) ?_
    refine pw_callV (d' := d - 1) (As := [_]) (ci := 10) dX10_hint_10 ok_X10_refuses kw_1249 rfl rfl (Of.o (by assumption)) (by omega) rfl (Nat.le_of_ble_eq_true rfl) (r_refuses (d - 1) (by omega) n ok _ hU _ (by omega)) (Nat.le_refl _) (Or.inl rfl) (fun r ok1 mem1 hq => ?_)
    obtain ⟨rfl, rfl, em4⟩ := hq
    refine pw_iret dX10_hint_13 rfl rfl ?_
    refine ⟨fun _ => 0, fun q1 _ => absurd q1 (by omega), ?_, rfl, ?_⟩
    · unfold rHint; rw [if_pos (by omega)]
    · rw [if_pos (by omega), ← em4]; exact TM_rf hF _
