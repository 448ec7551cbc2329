/-! ===== what is built: helpers ===== -/
theorem bz_0 {p : Prop} [Decidable p] : ((if p then (1 : Int) else 0) = 0) = ¬ p := by
  apply propext; by_cases h : p
  · rw [if_pos h]; exact ⟨fun z => absurd z (by omega), fun z => absurd h z⟩
  · rw [if_neg h]; exact ⟨fun _ => h, fun _ => rfl⟩
theorem bz_n {p : Prop} [Decidable p] : (¬ (if p then (1 : Int) else 0) = 0) = p := by
  apply propext; by_cases h : p
  · rw [if_pos h]; exact ⟨fun _ => h, fun _ => by omega⟩
  · rw [if_neg h]; exact ⟨fun z => absurd rfl z, fun z => absurd z h⟩
def fiM (m : pM) (a : Nat) (lo k x : Int) : pM := fun b j => if b = a ∧ lo ≤ j ∧ j < lo + k then x else m b j
theorem fiM_0 (m : pM) (a : Nat) (lo x : Int) : fiM m a lo 0 x = m := by funext b j; unfold fiM; rw [if_neg (by omega)]
theorem fiM_s (m : pM) (a : Nat) (lo k x : Int) (hk : 0 ≤ k) : wr (fiM m a lo k x) a (lo + k) x = fiM m a lo (k + 1) x := by
  funext b j; unfold wr fiM
  by_cases e : b = a ∧ j = lo + k
  · rw [if_pos e, if_pos ⟨e.1, by omega, by omega⟩]
  · rw [if_neg e]
    by_cases e2 : b = a ∧ lo ≤ j ∧ j < lo + k
    · rw [if_pos e2, if_pos ⟨e2.1, e2.2.1, by omega⟩]
    · rw [if_neg e2, if_neg (fun z => by
        rcases (show j < lo + k ∨ j = lo + k by omega) with q | q
        · exact e2 ⟨z.1, z.2.1, q⟩
        · exact e ⟨z.1, q⟩)]
theorem fiM_a (m : pM) {a b : Nat} (lo k x : Int) (h : b ≠ a) : fiM m a lo k x b = m b := by funext j; unfold fiM; rw [if_neg (fun z => h z.1)]
def rStand (m : pM) (x k p s : Int) : pM := wr (wr (wr (wr m 90 x k) 91 x p) 92 x 0) 93 x s
set_option maxHeartbeats 4000000 in
set_option maxRecDepth 100000 in
theorem r_stand (d : Nat) (hd : 0 ≤ d) (n : Nat) (ok : pO) (mem : pM) (hU : RefUp n ok) (c s k p e : Int) (hc : 0 ≤ c ∧ c ≤ 2) (hs : 0 ≤ s ∧ s ≤ 15) (hk : -2147483648 ≤ k ∧ k ≤ 2147483647) (hp : -2147483648 ≤ p ∧ p ≤ 2147483647) (he : -2147483648 ≤ e ∧ e ≤ 2147483647) : PM mi_X10_stand d [vr 88, vi c, vi s, vi k, vi p, vi e] n ok mem n (fun r ok' mem' => r = none ∧ ok = ok' ∧ rStand mem (16 * c + s) k p e = mem') := by
  obtain ⟨hO, ⟨a89, a90, a91, a92, a93, a94, a95, a96, a97, a98⟩, ⟨a99, a100, a101, a102, a103, a104, a105, a106, a107⟩, ⟨a108, a109, a110, a111, a112, a113, a114, a115, a116, a117, a118, a119⟩, a120, a121, a122⟩ := id hU
  refine PM.of (by decide) (by decide) (Nat.le_refl _) (Nat.le_of_ble_eq_true rfl) ?_
  refine pw_bipush dX10_stand_0 (by decide) ?_
  refine pw_iload_n 1 rfl dX10_stand_2 rfl ?_
  refine pw_imul dX10_stand_3 ?_
  refine pw_iload_n 2 rfl dX10_stand_4 rfl ?_
  refine pw_iadd dX10_stand_5 ?_
  refine pw_istore dX10_stand_6 (by decide) ?_
  refine pw_aload_n 0 rfl dX10_stand_8 rfl ?_
  refine pw_gR 5 90 dX10_stand_9 cOk10 (by assumption) (by decide) kw_1070 (by decide) rfl ?_
  refine pw_iload dX10_stand_12 rfl ?_
  refine pw_iload_n 3 rfl dX10_stand_14 rfl ?_
  refine pw_iastore dX10_stand_15 (by assumption) (by omega) (by omega) (by omega) ?_
  refine pw_aload_n 0 rfl dX10_stand_16 rfl ?_
  refine pw_gR 6 91 dX10_stand_17 cOk10 (by assumption) (by decide) kw_1071 (by decide) rfl ?_
  refine pw_iload dX10_stand_20 rfl ?_
  refine pw_iload dX10_stand_22 rfl ?_
  refine pw_iastore dX10_stand_24 (by assumption) (by omega) (by omega) (by omega) ?_
  refine pw_aload_n 0 rfl dX10_stand_25 rfl ?_
  refine pw_gR 7 92 dX10_stand_26 cOk10 (by assumption) (by decide) kw_1072 (by decide) rfl ?_
  refine pw_iload dX10_stand_29 rfl ?_
  refine pw_iconst dX10_stand_31 ?_
  refine pw_iastore dX10_stand_32 (by assumption) (by omega) (by omega) (by omega) ?_
  refine pw_aload_n 0 rfl dX10_stand_33 rfl ?_
  refine pw_gR 8 93 dX10_stand_34 cOk10 (by assumption) (by decide) kw_1073 (by decide) rfl ?_
  refine pw_iload dX10_stand_37 rfl ?_
  refine pw_iload dX10_stand_39 rfl ?_
  refine pw_iastore dX10_stand_41 (by assumption) (by omega) (by omega) (by omega) ?_
  refine pw_vret dX10_stand_42 rfl rfl ?_
  exact ⟨rfl, rfl, rfl⟩
set_option maxHeartbeats 4000000 in
set_option maxRecDepth 100000 in
theorem r_isCondition (d : Nat) (hd : 2 ≤ d) (n : Nat) (ok : pO) (mem : pM) (hU : RefUp n ok) (c k : Int) (hc : -2147483648 ≤ c ∧ c ≤ 2147483647) (hk : -2147483648 ≤ k ∧ k ≤ 2147483647) (hn : ∀ c, 0 ≤ c → c ≤ 2 → 0 ≤ mem 94 c ∧ mem 94 c ≤ 40) : PM mi_X10_isCondition d [vr 88, vi c, vi k] n ok mem n (fun r ok' mem' => r = some (vi (if (0 ≤ c ∧ c ≤ 2) ∧ 0 ≤ k ∧ k < mem 94 c then 1 else 0)) ∧ ok = ok' ∧ mem = mem') := by
  obtain ⟨hO, ⟨a89, a90, a91, a92, a93, a94, a95, a96, a97, a98⟩, ⟨a99, a100, a101, a102, a103, a104, a105, a106, a107⟩, ⟨a108, a109, a110, a111, a112, a113, a114, a115, a116, a117, a118, a119⟩, a120, a121, a122⟩ := id hU
  refine PM.of (by decide) (by decide) (Nat.le_refl _) (Nat.le_of_ble_eq_true rfl) ?_
  refine pw_iload_n 1 rfl dX10_isCondition_0 rfl ?_
  refine pw_callS (d' := d - 1) (As := [_]) dX10_isCondition_1 ok_X10_isChest kw_1241 (by omega) rfl (Nat.le_of_ble_eq_true rfl) (r_isChest (d - 1) (by omega) n ok _ _ (by omega)) (Nat.le_refl _) (Or.inl rfl) (fun r ok1 mem1 hq => ?_)
  obtain ⟨rfl, rfl, rfl⟩ := hq
  refine pw_if_eq 29 (by decide) dX10_isCondition_4 (by split <;> omega) (fun c4 => ?_) (fun c4 => ?_)
  · skip
    rw [bz_0] at c4
    refine pw_iconst dX10_isCondition_29 ?_
    refine pw_zret dX10_isCondition_30 rfl (by omega) rfl ?_
    refine ⟨congrArg (fun z => some (vi z)) (by (repeat' split) <;> omega), rfl, rfl⟩
  · skip
    rw [bz_n] at c4
    have hn9 := hn c (by omega) (by omega)
    refine pw_iload_n 2 rfl dX10_isCondition_7 rfl ?_
    refine pw_i2l dX10_isCondition_8 (by omega) ?_
    refine pw_lconst (x := 0) dX10_isCondition_9 (by decide) ?_
    refine pw_aload_n 0 rfl dX10_isCondition_10 rfl ?_
    refine pw_gR 9 94 dX10_isCondition_11 cOk10 (by assumption) (by decide) kw_1074 (by decide) rfl ?_
    refine pw_iload_n 1 rfl dX10_isCondition_14 rfl ?_
    refine pw_iaload dX10_isCondition_15 (by assumption) (by omega) (by omega) (fun r15 => ?_)
    refine pw_iconst dX10_isCondition_16 ?_
    refine pw_isub dX10_isCondition_17 ?_
    refine pw_i2l dX10_isCondition_18 (by omega) ?_
    refine pw_callS (d' := d - 1) (As := [_, _, _]) dX10_isCondition_19 ok_X10_in kw_1245 (by omega) rfl (Nat.le_of_ble_eq_true rfl) (r_in (d - 1) (by omega) n ok _ _ _ _ (by omega) (by omega) (by omega)) (Nat.le_refl _) (Or.inl rfl) (fun r ok1 mem1 hq => ?_)
    obtain ⟨rfl, rfl, rfl⟩ := hq
    refine pw_if_eq 29 (by decide) dX10_isCondition_22 (by split <;> omega) (fun c22 => ?_) (fun c22 => ?_)
    · skip
      rw [bz_0] at c22
      refine pw_iconst dX10_isCondition_29 ?_
      refine pw_zret dX10_isCondition_30 rfl (by omega) rfl ?_
      refine ⟨congrArg (fun z => some (vi z)) (by (repeat' split) <;> omega), rfl, rfl⟩
    · skip
      rw [bz_n] at c22
      refine pw_iconst dX10_isCondition_25 ?_
      refine pw_goto 30 (by decide) dX10_isCondition_26 ?_
      refine pw_zret dX10_isCondition_30 rfl (by omega) rfl ?_
      refine ⟨congrArg (fun z => some (vi z)) (by (repeat' split) <;> omega), rfl, rfl⟩
def rEmp (m : pM) (c : Int) : pM := wr (wr (wr (wr (fiM (fiM m 89 (4 * c) 4 (-1)) 90 (16 * c) 16 (-1)) 94 c 0) 99 c 0) 100 c (-1)) 101 c 0
set_option maxHeartbeats 4000000 in
set_option maxRecDepth 100000 in
theorem r_empty (d : Nat) (hd : 0 ≤ d) (n : Nat) (ok : pO) (mem : pM) (hU : RefUp n ok) (c : Int) (hc : 0 ≤ c ∧ c ≤ 2) : PM mi_X10_empty d [vr 88, vi c] n ok mem n (fun r ok' mem' => r = none ∧ ok = ok' ∧ rEmp mem c = mem') := by
  obtain ⟨hO, ⟨a89, a90, a91, a92, a93, a94, a95, a96, a97, a98⟩, ⟨a99, a100, a101, a102, a103, a104, a105, a106, a107⟩, ⟨a108, a109, a110, a111, a112, a113, a114, a115, a116, a117, a118, a119⟩, a120, a121, a122⟩ := id hU
  refine PM.of (by decide) (by decide) (Nat.le_refl _) (Nat.le_of_ble_eq_true rfl) ?_
  refine pw_iconst dX10_empty_0 ?_
  refine pw_istore_n 2 rfl dX10_empty_1 (by decide) ?_
  have lp2 : ∀ (kz : Nat) (i : Nat) (m1 : pM), 4 - (i : Int) < (kz : Int) → (i ≤ 4) → (fiM mem 89 (4 * c) i (-1) = m1) → PW mi_X10_empty d n n (fun r ok' mem' => r = none ∧ ok = ok' ∧ rEmp mem c = mem') 2 [(0, vr 88), (1, vi c), (2, vi (i : Int))] [] n ok m1 := by
    intro kz
    induction kz with
    | zero =>
      intro i m1 hk h1 h2
      exact absurd hk (by omega)
    | succ kz ih =>
      intro i m1 hk h1 h2
      refine pw_iload_n 2 rfl dX10_empty_2 rfl ?_
      refine pw_iconst dX10_empty_3 ?_
      refine pw_icmp_ge 24 (by decide) dX10_empty_4 (by omega) (by omega) (fun c4 => ?_) (fun c4 => ?_)
      · skip
        have e4 : i = 4 := by omega
        subst e4
        refine pw_iconst dX10_empty_24 ?_
        refine pw_istore_n 2 rfl dX10_empty_25 (by decide) ?_
        have lp26 : ∀ (kz2 : Nat) (i : Nat) (m2 : pM), 16 - (i : Int) < (kz2 : Int) → (i ≤ 16) → (fiM (fiM mem 89 (4 * c) 4 (-1)) 90 (16 * c) i (-1) = m2) → PW mi_X10_empty d n n (fun r ok' mem' => r = none ∧ ok = ok' ∧ rEmp mem c = mem') 26 [(0, vr 88), (1, vi c), (2, vi (i : Int))] [] n ok m2 := by
          intro kz2
          induction kz2 with
          | zero =>
            intro i m2 hk2 h3 h4
            exact absurd hk2 (by omega)
          | succ kz2 ih2 =>
            intro i m2 hk2 h3 h4
            refine pw_iload_n 2 rfl dX10_empty_26 rfl ?_
            refine pw_bipush dX10_empty_27 (by decide) ?_
            refine pw_icmp_ge 50 (by decide) dX10_empty_29 (by omega) (by omega) (fun c29 => ?_) (fun c29 => ?_)
            · skip
              refine pw_aload_n 0 rfl dX10_empty_50 rfl ?_
              refine pw_gR 9 94 dX10_empty_51 cOk10 (by assumption) (by decide) kw_1074 (by decide) rfl ?_
              refine pw_iload_n 1 rfl dX10_empty_54 rfl ?_
              refine pw_iconst dX10_empty_55 ?_
              refine pw_iastore dX10_empty_56 (by assumption) (by omega) (by omega) (by omega) ?_
              refine pw_aload_n 0 rfl dX10_empty_57 rfl ?_
              refine pw_gR 14 99 dX10_empty_58 cOk10 (by assumption) (by decide) kw_1079 (by decide) rfl ?_
              refine pw_iload_n 1 rfl dX10_empty_61 rfl ?_
              refine pw_iconst dX10_empty_62 ?_
              refine pw_iastore dX10_empty_63 (by assumption) (by omega) (by omega) (by omega) ?_
              refine pw_aload_n 0 rfl dX10_empty_64 rfl ?_
              refine pw_gR 15 100 dX10_empty_65 cOk10 (by assumption) (by decide) kw_1080 (by decide) rfl ?_
              refine pw_iload_n 1 rfl dX10_empty_68 rfl ?_
              refine pw_iconst dX10_empty_69 ?_
              refine pw_iastore dX10_empty_70 (by assumption) (by omega) (by omega) (by omega) ?_
              refine pw_aload_n 0 rfl dX10_empty_71 rfl ?_
              refine pw_gR 16 101 dX10_empty_72 cOk10 (by assumption) (by decide) kw_1081 (by decide) rfl ?_
              refine pw_iload_n 1 rfl dX10_empty_75 rfl ?_
              refine pw_iconst dX10_empty_76 ?_
              refine pw_iastore dX10_empty_77 (by assumption) (by omega) (by omega) (by omega) ?_
              refine pw_vret dX10_empty_78 rfl rfl ?_
              have e16 : i = 16 := by omega
              subst e16
              rw [← h4]
              exact ⟨rfl, rfl, rfl⟩
            · skip
              refine pw_aload_n 0 rfl dX10_empty_32 rfl ?_
              refine pw_gR 5 90 dX10_empty_33 cOk10 (by assumption) (by decide) kw_1070 (by decide) rfl ?_
              refine pw_bipush dX10_empty_36 (by decide) ?_
              refine pw_iload_n 1 rfl dX10_empty_38 rfl ?_
              refine pw_imul dX10_empty_39 ?_
              refine pw_iload_n 2 rfl dX10_empty_40 rfl ?_
              refine pw_iadd dX10_empty_41 ?_
              refine pw_iconst dX10_empty_42 ?_
              refine pw_iastore dX10_empty_43 (by assumption) (by omega) (by omega) (by omega) ?_
              refine pw_iinc dX10_empty_44 rfl (by decide) ?_
              refine pw_goto 26 (by decide) dX10_empty_47 ?_
              exact pw_locs _ rfl (ih2 (i + 1) _ (by omega) (by omega) (by rw [← h4]; exact (fiM_s _ 90 (16 * c) i (-1) (by omega)).symm))
        exact pw_locs _ rfl (lp26 17 0 _ (by omega) (by omega) (by rw [← h2]; exact fiM_0 _ _ _ _))
      · skip
        refine pw_aload_n 0 rfl dX10_empty_7 rfl ?_
        refine pw_gR 4 89 dX10_empty_8 cOk10 (by assumption) (by decide) kw_1069 (by decide) rfl ?_
        refine pw_iconst dX10_empty_11 ?_
        refine pw_iload_n 1 rfl dX10_empty_12 rfl ?_
        refine pw_imul dX10_empty_13 ?_
        refine pw_iload_n 2 rfl dX10_empty_14 rfl ?_
        refine pw_iadd dX10_empty_15 ?_
        refine pw_iconst dX10_empty_16 ?_
        refine pw_iastore dX10_empty_17 (by assumption) (by omega) (by omega) (by omega) ?_
        refine pw_iinc dX10_empty_18 rfl (by decide) ?_
        refine pw_goto 2 (by decide) dX10_empty_21 ?_
        exact pw_locs _ rfl (ih (i + 1) _ (by omega) (by omega) (by rw [← h2]; exact (fiM_s mem 89 (4 * c) i (-1) (by omega)).symm))
  exact pw_locs _ rfl (lp2 5 0 mem (by omega) (by omega) (fiM_0 _ _ _ _))
def rRow (m : pM) (c w k : Int) : Int × pM :=
  if ¬ (0 ≤ c ∧ c ≤ 2) ∨ ¬ (0 ≤ w ∧ w ≤ 3) then (-2, wr m 88 0 (-2)) else if 4 < k then (-3, wr m 88 0 (-3)) else if k < -1 then (-14, wr (rNotes m 4) 88 0 (-14))
  else (1, wr (rChg (fiM (wr m 89 (4 * c + w) k) 90 (16 * c + 4 * w) 4 (-1)) c) 88 0 0)
set_option maxHeartbeats 4000000 in
set_option maxRecDepth 100000 in
theorem r_row (d : Nat) (hd : 2 ≤ d) (n : Nat) (ok : pO) (mem : pM) (hU : RefUp n ok) (c w k : Int) (hc : -2147483648 ≤ c ∧ c ≤ 2147483647) (hw : -2147483648 ≤ w ∧ w ≤ 2147483647) (hk : -2147483648 ≤ k ∧ k ≤ 2147483647) : PM mi_X10_row d [vr 88, vi c, vi w, vi k] n ok mem n (fun r ok' mem' => r = some (vi (rRow mem c w k).1) ∧ ok = ok' ∧ (rRow mem c w k).2 = mem') := by
  obtain ⟨hO, ⟨a89, a90, a91, a92, a93, a94, a95, a96, a97, a98⟩, ⟨a99, a100, a101, a102, a103, a104, a105, a106, a107⟩, ⟨a108, a109, a110, a111, a112, a113, a114, a115, a116, a117, a118, a119⟩, a120, a121, a122⟩ := id hU
  refine PM.of (by decide) (by decide) (Nat.le_refl _) (Nat.le_of_ble_eq_true rfl) ?_
  refine pw_iload_n 1 rfl dX10_row_0 rfl ?_
  refine pw_callS (d' := d - 1) (As := [_]) dX10_row_1 ok_X10_isChest kw_1241 (by omega) rfl (Nat.le_of_ble_eq_true rfl) (r_isChest (d - 1) (by omega) n ok _ _ (by omega)) (Nat.le_refl _) (Or.inl rfl) (fun r ok1 mem1 hq => ?_)
  obtain ⟨rfl, rfl, rfl⟩ := hq
  refine pw_if_eq 19 (by decide) dX10_row_4 (by split <;> omega) (fun c4 => ?_) (fun c4 => ?_)
  · skip
    rw [bz_0] at c4
    refine pw_aload_n 0 rfl dX10_row_19 rfl ?_
    refine pw_bipush dX10_row_20 (by decide) ?_
    refine pw_callV (d' := d - 1) (As := [_]) (ci := 10) dX10_row_22 ok_X10_refuses kw_1249 rfl rfl (Of.o (by assumption)) (by omega) rfl (Nat.le_of_ble_eq_true rfl) (r_refuses (d - 1) (by omega) n ok _ hU _ (by omega)) (Nat.le_refl _) (Or.inl rfl) (fun r ok1 mem1 hq => ?_)
    obtain ⟨rfl, rfl, rfl⟩ := hq
    refine pw_iret dX10_row_25 rfl rfl ?_
    unfold rRow; (repeat' split) <;> first | exact ⟨rfl, rfl, rfl⟩ | (exfalso; omega)
  · skip
    rw [bz_n] at c4
    refine pw_iload_n 2 rfl dX10_row_7 rfl ?_
    refine pw_i2l dX10_row_8 (by omega) ?_
    refine pw_lconst (x := 0) dX10_row_9 (by decide) ?_
    refine pw_ldc2 (x := 3) kw_1248 (by decide) dX10_row_10 ?_
    refine pw_callS (d' := d - 1) (As := [_, _, _]) dX10_row_13 ok_X10_in kw_1245 (by omega) rfl (Nat.le_of_ble_eq_true rfl) (r_in (d - 1) (by omega) n ok _ _ _ _ (by omega) (by omega) (by omega)) (Nat.le_refl _) (Or.inl rfl) (fun r ok1 mem1 hq => ?_)
    obtain ⟨rfl, rfl, rfl⟩ := hq
    refine pw_if_ne 26 (by decide) dX10_row_16 (by split <;> omega) (fun c16 => ?_) (fun c16 => ?_)
    · skip
      rw [ne_eq, bz_n] at c16
      refine pw_iload_n 3 rfl dX10_row_26 rfl ?_
      refine pw_iconst dX10_row_27 ?_
      refine pw_icmp_le 38 (by decide) dX10_row_28 (by omega) (by omega) (fun c28 => ?_) (fun c28 => ?_)
      · skip
        refine pw_iload_n 3 rfl dX10_row_38 rfl ?_
        refine pw_iconst dX10_row_39 ?_
        refine pw_icmp_ge 49 (by decide) dX10_row_40 (by omega) (by omega) (fun c40 => ?_) (fun c40 => ?_)
        · skip
          refine pw_aload_n 0 rfl dX10_row_49 rfl ?_
          refine pw_gR 4 89 dX10_row_50 cOk10 (by assumption) (by decide) kw_1069 (by decide) rfl ?_
          refine pw_iconst dX10_row_53 ?_
          refine pw_iload_n 1 rfl dX10_row_54 rfl ?_
          refine pw_imul dX10_row_55 ?_
          refine pw_iload_n 2 rfl dX10_row_56 rfl ?_
          refine pw_iadd dX10_row_57 ?_
          refine pw_iload_n 3 rfl dX10_row_58 rfl ?_
          refine pw_iastore dX10_row_59 (by assumption) (by omega) (by omega) (by omega) ?_
          refine pw_iconst dX10_row_60 ?_
          refine pw_istore dX10_row_61 (by decide) ?_
          have lp63 : ∀ (kz : Nat) (i : Nat) (m1 : pM), 4 - (i : Int) < (kz : Int) → (i ≤ 4) → (fiM (wr mem 89 (4 * c + w) k) 90 (16 * c + 4 * w) i (-1) = m1) → PW mi_X10_row d n n (fun r ok' mem' => r = some (vi (rRow mem c w k).1) ∧ ok = ok' ∧ (rRow mem c w k).2 = mem') 63 [(0, vr 88), (1, vi c), (2, vi w), (3, vi k), (4, vi (i : Int))] [] n ok m1 := by
            intro kz
            induction kz with
            | zero =>
              intro i m1 hk h1 h2
              exact absurd hk (by omega)
            | succ kz ih =>
              intro i m1 hk h1 h2
              refine pw_iload dX10_row_63 rfl ?_
              refine pw_iconst dX10_row_65 ?_
              refine pw_icmp_ge 92 (by decide) dX10_row_66 (by omega) (by omega) (fun c66 => ?_) (fun c66 => ?_)
              · skip
                have e4 : i = 4 := by omega
                subst e4
                refine pw_aload_n 0 rfl dX10_row_92 rfl ?_
                refine pw_iload_n 1 rfl dX10_row_93 rfl ?_
                refine pw_callV (d' := d - 1) (As := [_]) (ci := 10) dX10_row_94 ok_X10_changed kw_1261 rfl rfl (Of.o (by assumption)) (by omega) rfl (Nat.le_of_ble_eq_true rfl) (r_changed (d - 1) (by omega) n ok _ hU _ (by omega)) (Nat.le_refl _) (Or.inl rfl) (fun r ok1 mem1 hq => ?_)
                obtain ⟨rfl, rfl, rfl⟩ := hq
                refine pw_aload_n 0 rfl dX10_row_97 rfl ?_
                refine pw_iconst dX10_row_98 ?_
                refine pw_callV (d' := d - 1) (As := [_]) (ci := 10) dX10_row_99 ok_X10_says kw_1265 rfl rfl (Of.o (by assumption)) (by omega) rfl (Nat.le_of_ble_eq_true rfl) (r_says (d - 1) (by omega) n ok _ hU _) (Nat.le_refl _) (Or.inl rfl) (fun r ok1 mem1 hq => ?_)
                obtain ⟨rfl, rfl, rfl⟩ := hq
                refine pw_iret dX10_row_102 rfl rfl ?_
                rw [← h2]
                unfold rRow; (repeat' split) <;> first | exact ⟨rfl, rfl, rfl⟩ | (exfalso; omega)
              · skip
                refine pw_aload_n 0 rfl dX10_row_69 rfl ?_
                refine pw_gR 5 90 dX10_row_70 cOk10 (by assumption) (by decide) kw_1070 (by decide) rfl ?_
                refine pw_bipush dX10_row_73 (by decide) ?_
                refine pw_iload_n 1 rfl dX10_row_75 rfl ?_
                refine pw_imul dX10_row_76 ?_
                refine pw_iconst dX10_row_77 ?_
                refine pw_iload_n 2 rfl dX10_row_78 rfl ?_
                refine pw_imul dX10_row_79 ?_
                refine pw_iadd dX10_row_80 ?_
                refine pw_iload dX10_row_81 rfl ?_
                refine pw_iadd dX10_row_83 ?_
                refine pw_iconst dX10_row_84 ?_
                refine pw_iastore dX10_row_85 (by assumption) (by omega) (by omega) (by omega) ?_
                refine pw_iinc dX10_row_86 rfl (by decide) ?_
                refine pw_goto 63 (by decide) dX10_row_89 ?_
                exact pw_locs _ rfl (ih (i + 1) _ (by omega) (by omega) (by rw [← h2]; exact (fiM_s _ 90 (16 * c + 4 * w) i (-1) (by omega)).symm))
          exact pw_locs _ rfl (lp63 5 0 _ (by omega) (by omega) (fiM_0 _ _ _ _))
        · skip
          refine pw_aload_n 0 rfl dX10_row_43 rfl ?_
          refine pw_iconst dX10_row_44 ?_
          refine pw_callV (d' := d - 1) (As := [_]) (ci := 10) dX10_row_45 ok_X10_meets kw_1253 rfl rfl (Of.o (by assumption)) (by omega) rfl (Nat.le_of_ble_eq_true rfl) (r_meets (d - 1) (by omega) n ok _ hU _ (by omega)) (Nat.le_refl _) (Or.inl rfl) (fun r ok1 mem1 hq => ?_)
          obtain ⟨rfl, rfl, rfl⟩ := hq
          refine pw_iret dX10_row_48 rfl rfl ?_
          unfold rRow; (repeat' split) <;> first | exact ⟨rfl, rfl, rfl⟩ | (exfalso; omega)
      · skip
        refine pw_aload_n 0 rfl dX10_row_31 rfl ?_
        refine pw_bipush dX10_row_32 (by decide) ?_
        refine pw_callV (d' := d - 1) (As := [_]) (ci := 10) dX10_row_34 ok_X10_refuses kw_1249 rfl rfl (Of.o (by assumption)) (by omega) rfl (Nat.le_of_ble_eq_true rfl) (r_refuses (d - 1) (by omega) n ok _ hU _ (by omega)) (Nat.le_refl _) (Or.inl rfl) (fun r ok1 mem1 hq => ?_)
        obtain ⟨rfl, rfl, rfl⟩ := hq
        refine pw_iret dX10_row_37 rfl rfl ?_
        unfold rRow; (repeat' split) <;> first | exact ⟨rfl, rfl, rfl⟩ | (exfalso; omega)
    · skip
      rw [bz_0] at c16
      refine pw_aload_n 0 rfl dX10_row_19 rfl ?_
      refine pw_bipush dX10_row_20 (by decide) ?_
      refine pw_callV (d' := d - 1) (As := [_]) (ci := 10) dX10_row_22 ok_X10_refuses kw_1249 rfl rfl (Of.o (by assumption)) (by omega) rfl (Nat.le_of_ble_eq_true rfl) (r_refuses (d - 1) (by omega) n ok _ hU _ (by omega)) (Nat.le_refl _) (Or.inl rfl) (fun r ok1 mem1 hq => ?_)
      obtain ⟨rfl, rfl, rfl⟩ := hq
      refine pw_iret dX10_row_25 rfl rfl ?_
      unfold rRow; (repeat' split) <;> first | exact ⟨rfl, rfl, rfl⟩ | (exfalso; omega)
