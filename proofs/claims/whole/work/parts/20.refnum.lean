/-! ===== products, numbers ===== -/
def eSp (m : pM) (c s : Int) : Int := if aKind m c s = -1 then 1 else aSpan m c s
def eAt (m : pM) (c s : Int) : Int := if aKind m c s = -1 then 0 else aAt m c s
def pW (m : pM) (c : Int) : Nat → Int
  | 0 => 1
  | s + 1 => pW m c s * eSp m c s
def aMul (m : pM) (c w : Int) : Nat → Int
  | 0 => 1
  | s + 1 => aMul m c w s * (if aKind m c s = -1 ∨ (s : Int) = w then 1 else aSpan m c s)
def aNum (m : pM) (c : Int) : Nat → Int
  | 0 => 0
  | s + 1 => aNum m c s + pW m c s * eAt m c s
def lfN (m : pM) (c v : Int) : Nat → Int
  | 0 => v
  | s + 1 => lfN m c v s / eSp m c s
def rSet (m : pM) (c v : Int) : Nat → pM
  | 0 => m
  | s + 1 => if aKind m c s = -1 then rSet m c v s else wr (rSet m c v s) 92 (16 * c + s) (lfN m c v s % aSpan m c s)
/-- the parts of a chest are as they must be -/
def pOk (m : pM) (c : Int) : Prop := ∀ s : Int, 0 ≤ s → s ≤ 15 → aKind m c s ≠ -1 → 1 ≤ aSpan m c s ∧ aSpan m c s ≤ 6
theorem eSp_ran {m : pM} {c : Int} (h : pOk m c) (s : Int) (h1 : 0 ≤ s) (h2 : s ≤ 15) : 1 ≤ eSp m c s ∧ eSp m c s ≤ 6 := by
  unfold eSp
  by_cases e : aKind m c s = -1
  · rw [if_pos e]; omega
  · rw [if_neg e]; exact h s h1 h2 e
theorem lfN_ran {m : pM} {c v : Int} (h : pOk m c) (hv : 0 ≤ v) (k : Nat) (hk : k ≤ 16) : 0 ≤ lfN m c v k ∧ lfN m c v k ≤ v := by
  induction k with
  | zero => exact ⟨hv, Int.le_refl _⟩
  | succ k ih =>
    have i := ih (by omega)
    have e := eSp_ran h (k : Int) (by omega) (by omega)
    unfold lfN
    exact ⟨Int.ediv_nonneg i.1 (by omega), Int.le_trans (Int.ediv_le_self _ i.1) i.2⟩
theorem rSet_a {m : pM} {c v : Int} {k a : Nat} (h : a ≠ 92) : rSet m c v k a = m a := by
  induction k with
  | zero => rfl
  | succ k ih =>
    unfold rSet
    split
    · exact ih
    · rw [wr_a _ _ _ h]; exact ih
set_option maxHeartbeats 4000000 in
set_option maxRecDepth 100000 in
theorem r_multiplied (d : Nat) (hd : 0 ≤ d) (n : Nat) (ok : pO) (mem : pM) (hU : RefUp n ok) (c w : Int) (hc : 0 ≤ c ∧ c ≤ 2) (hw : -2147483648 ≤ w ∧ w ≤ 2147483647) : PM mi_X10_multiplied d [vr 88, vi c, vi w] n ok mem n (fun r ok' mem' => r = some (vi (aMul mem c w 16)) ∧ ok = ok' ∧ mem = mem') := by
  obtain ⟨hO, ⟨a89, a90, a91, a92, a93, a94, a95, a96, a97, a98⟩, ⟨a99, a100, a101, a102, a103, a104, a105, a106, a107⟩, ⟨a108, a109, a110, a111, a112, a113, a114, a115, a116, a117, a118, a119⟩, a120, a121, a122⟩ := hU
  refine PM.of (by decide) (by decide) (Nat.le_refl _) (Nat.le_of_ble_eq_true rfl) ?_
  refine pw_iconst dX10_multiplied_0 ?_
  refine pw_istore_n 3 rfl dX10_multiplied_1 (by decide) ?_
  refine pw_iconst dX10_multiplied_2 ?_
  refine pw_istore dX10_multiplied_3 (by decide) ?_
  have lp5 : ∀ (kz : Nat) (i : Nat) (x : Int), 16 - (i : Int) < (kz : Int) → (i ≤ 16) → (x = aMul mem c w i) → PW mi_X10_multiplied d n n (fun r ok' mem' => r = some (vi (aMul mem c w 16)) ∧ ok = ok' ∧ mem = mem') 5 [(0, vr 88), (1, vi c), (2, vi w), (3, vi x), (4, vi (i : Int))] [] n ok mem := by
    intro kz
    induction kz with
    | zero =>
      intro i x hk h1 h2
      exact absurd hk (by omega)
    | succ kz ih =>
      intro i x hk h1 h2
      refine pw_iload dX10_multiplied_5 rfl ?_
      refine pw_bipush dX10_multiplied_7 (by decide) ?_
      refine pw_icmp_ge 59 (by decide) dX10_multiplied_9 (by omega) (by omega) (fun c9 => ?_) (fun c9 => ?_)
      · skip
        refine pw_iload_n 3 rfl dX10_multiplied_59 rfl ?_
        refine pw_iret dX10_multiplied_60 rfl rfl ?_
        have : i = 16 := by omega
        subst this; subst h2; exact ⟨rfl, rfl, rfl⟩
      · skip
        refine pw_iload_n 3 rfl dX10_multiplied_12 rfl ?_
        refine pw_aload_n 0 rfl dX10_multiplied_13 rfl ?_
        refine pw_gR 5 90 dX10_multiplied_14 cOk10 (by assumption) (by decide) kw_1070 (by decide) rfl ?_
        refine pw_bipush dX10_multiplied_17 (by decide) ?_
        refine pw_iload_n 1 rfl dX10_multiplied_19 rfl ?_
        refine pw_imul dX10_multiplied_20 ?_
        refine pw_iload dX10_multiplied_21 rfl ?_
        refine pw_iadd dX10_multiplied_23 ?_
        refine pw_iaload dX10_multiplied_24 (by assumption) (by omega) (by omega) (fun r24 => ?_)
        try simp (disch := omega) only [wr_s, wr_a, wr_k] at r24 ⊢
        refine pw_iconst dX10_multiplied_25 ?_
        refine pw_icmp_eq 35 (by decide) dX10_multiplied_26 (by omega) (by omega) (fun c26 => ?_) (fun c26 => ?_)
        · skip
          refine pw_iconst dX10_multiplied_35 ?_
          refine pw_goto 51 (by decide) dX10_multiplied_36 ?_
          refine pw_imul dX10_multiplied_51 ?_
          refine pw_istore_n 3 rfl dX10_multiplied_52 (by decide) ?_
          refine pw_iinc dX10_multiplied_53 rfl (by decide) ?_
          refine pw_goto 5 (by decide) dX10_multiplied_56 ?_
          exact pw_locs _ rfl (ih (i + 1) _ (by omega) (by omega) (by subst h2; show _ = aMul mem c w i * _; rw [if_pos (Or.inl c26)]))
        · skip
          refine pw_iload dX10_multiplied_29 rfl ?_
          refine pw_iload_n 2 rfl dX10_multiplied_31 rfl ?_
          refine pw_icmp_ne 39 (by decide) dX10_multiplied_32 (by omega) (by omega) (fun c32 => ?_) (fun c32 => ?_)
          · skip
            refine pw_aload_n 0 rfl dX10_multiplied_39 rfl ?_
            refine pw_gR 6 91 dX10_multiplied_40 cOk10 (by assumption) (by decide) kw_1071 (by decide) rfl ?_
            refine pw_bipush dX10_multiplied_43 (by decide) ?_
            refine pw_iload_n 1 rfl dX10_multiplied_45 rfl ?_
            refine pw_imul dX10_multiplied_46 ?_
            refine pw_iload dX10_multiplied_47 rfl ?_
            refine pw_iadd dX10_multiplied_49 ?_
            refine pw_iaload dX10_multiplied_50 (by assumption) (by omega) (by omega) (fun r50 => ?_)
            try simp (disch := omega) only [wr_s, wr_a, wr_k] at r50 ⊢
            refine pw_imul dX10_multiplied_51 ?_
            refine pw_istore_n 3 rfl dX10_multiplied_52 (by decide) ?_
            refine pw_iinc dX10_multiplied_53 rfl (by decide) ?_
            refine pw_goto 5 (by decide) dX10_multiplied_56 ?_
            exact pw_locs _ rfl (ih (i + 1) _ (by omega) (by omega) (by subst h2; show _ = aMul mem c w i * _; rw [if_neg (by unfold aKind; omega)]; try rfl))
          · skip
            refine pw_iconst dX10_multiplied_35 ?_
            refine pw_goto 51 (by decide) dX10_multiplied_36 ?_
            refine pw_imul dX10_multiplied_51 ?_
            refine pw_istore_n 3 rfl dX10_multiplied_52 (by decide) ?_
            refine pw_iinc dX10_multiplied_53 rfl (by decide) ?_
            refine pw_goto 5 (by decide) dX10_multiplied_56 ?_
            exact pw_locs _ rfl (ih (i + 1) _ (by omega) (by omega) (by subst h2; show _ = aMul mem c w i * _; rw [if_pos (Or.inr (by omega))]))
  exact pw_locs _ rfl (lp5 17 0 1 (by omega) (by omega) rfl)
set_option maxHeartbeats 4000000 in
set_option maxRecDepth 100000 in
theorem r_numberOf (d : Nat) (hd : 0 ≤ d) (n : Nat) (ok : pO) (mem : pM) (hU : RefUp n ok) (c : Int) (hc : 0 ≤ c ∧ c ≤ 2) : PM mi_X10_numberOf d [vr 88, vi c] n ok mem n (fun r ok' mem' => r = some (vi (aNum mem c 16)) ∧ ok = ok' ∧ mem = mem') := by
  obtain ⟨hO, ⟨a89, a90, a91, a92, a93, a94, a95, a96, a97, a98⟩, ⟨a99, a100, a101, a102, a103, a104, a105, a106, a107⟩, ⟨a108, a109, a110, a111, a112, a113, a114, a115, a116, a117, a118, a119⟩, a120, a121, a122⟩ := hU
  refine PM.of (by decide) (by decide) (Nat.le_refl _) (Nat.le_of_ble_eq_true rfl) ?_
  refine pw_iconst dX10_numberOf_0 ?_
  refine pw_istore_n 2 rfl dX10_numberOf_1 (by decide) ?_
  refine pw_iconst dX10_numberOf_2 ?_
  refine pw_istore_n 3 rfl dX10_numberOf_3 (by decide) ?_
  refine pw_iconst dX10_numberOf_4 ?_
  refine pw_istore dX10_numberOf_5 (by decide) ?_
  have lp7 : ∀ (kz : Nat) (i : Nat) (x y : Int), 16 - (i : Int) < (kz : Int) → (i ≤ 16) → (x = aNum mem c i) → (y = pW mem c i) → PW mi_X10_numberOf d n n (fun r ok' mem' => r = some (vi (aNum mem c 16)) ∧ ok = ok' ∧ mem = mem') 7 [(0, vr 88), (1, vi c), (2, vi x), (3, vi y), (4, vi (i : Int))] [] n ok mem := by
    intro kz
    induction kz with
    | zero =>
      intro i x y hk h1 h2 h3
      exact absurd hk (by omega)
    | succ kz ih =>
      intro i x y hk h1 h2 h3
      refine pw_iload dX10_numberOf_7 rfl ?_
      refine pw_bipush dX10_numberOf_9 (by decide) ?_
      refine pw_icmp_ge 62 (by decide) dX10_numberOf_11 (by omega) (by omega) (fun c11 => ?_) (fun c11 => ?_)
      · skip
        refine pw_iload_n 2 rfl dX10_numberOf_62 rfl ?_
        refine pw_iret dX10_numberOf_63 rfl rfl ?_
        have : i = 16 := by omega
        subst this; subst h2; exact ⟨rfl, rfl, rfl⟩
      · skip
        refine pw_bipush dX10_numberOf_14 (by decide) ?_
        refine pw_iload_n 1 rfl dX10_numberOf_16 rfl ?_
        refine pw_imul dX10_numberOf_17 ?_
        refine pw_iload dX10_numberOf_18 rfl ?_
        refine pw_iadd dX10_numberOf_20 ?_
        refine pw_istore dX10_numberOf_21 (by decide) ?_
        refine pw_aload_n 0 rfl dX10_numberOf_23 rfl ?_
        refine pw_gR 5 90 dX10_numberOf_24 cOk10 (by assumption) (by decide) kw_1070 (by decide) rfl ?_
        refine pw_iload dX10_numberOf_27 rfl ?_
        refine pw_iaload dX10_numberOf_29 (by assumption) (by omega) (by omega) (fun r29 => ?_)
        try simp (disch := omega) only [wr_s, wr_a, wr_k] at r29 ⊢
        refine pw_iconst dX10_numberOf_30 ?_
        refine pw_icmp_eq 56 (by decide) dX10_numberOf_31 (by omega) (by omega) (fun c31 => ?_) (fun c31 => ?_)
        · skip
          refine pw_iinc dX10_numberOf_56 rfl (by decide) ?_
          refine pw_goto 7 (by decide) dX10_numberOf_59 ?_
          exact pw_locs _ rfl (ih (i + 1) _ _ (by omega) (by omega) (by subst h2; show _ = aNum mem c i + _; unfold eAt; rw [if_pos c31]; omega) (by subst h3; show _ = pW mem c i * _; unfold eSp; rw [if_pos c31]; omega))
        · skip
          refine pw_iload_n 2 rfl dX10_numberOf_34 rfl ?_
          refine pw_iload_n 3 rfl dX10_numberOf_35 rfl ?_
          refine pw_aload_n 0 rfl dX10_numberOf_36 rfl ?_
          refine pw_gR 7 92 dX10_numberOf_37 cOk10 (by assumption) (by decide) kw_1072 (by decide) rfl ?_
          refine pw_iload dX10_numberOf_40 rfl ?_
          refine pw_iaload dX10_numberOf_42 (by assumption) (by omega) (by omega) (fun r42 => ?_)
          try simp (disch := omega) only [wr_s, wr_a, wr_k] at r42 ⊢
          refine pw_imul dX10_numberOf_43 ?_
          refine pw_iadd dX10_numberOf_44 ?_
          refine pw_istore_n 2 rfl dX10_numberOf_45 (by decide) ?_
          refine pw_iload_n 3 rfl dX10_numberOf_46 rfl ?_
          refine pw_aload_n 0 rfl dX10_numberOf_47 rfl ?_
          refine pw_gR 6 91 dX10_numberOf_48 cOk10 (by assumption) (by decide) kw_1071 (by decide) rfl ?_
          refine pw_iload dX10_numberOf_51 rfl ?_
          refine pw_iaload dX10_numberOf_53 (by assumption) (by omega) (by omega) (fun r53 => ?_)
          try simp (disch := omega) only [wr_s, wr_a, wr_k] at r53 ⊢
          refine pw_imul dX10_numberOf_54 ?_
          refine pw_istore_n 3 rfl dX10_numberOf_55 (by decide) ?_
          refine pw_iinc dX10_numberOf_56 rfl (by decide) ?_
          refine pw_goto 7 (by decide) dX10_numberOf_59 ?_
          exact pw_locs _ rfl (ih (i + 1) _ _ (by omega) (by omega) (by subst h2; subst h3; show _ = aNum mem c i + _; unfold eAt; rw [if_neg c31]; try rfl) (by subst h3; show _ = pW mem c i * _; unfold eSp; rw [if_neg c31]; try rfl))
  exact pw_locs _ rfl (lp7 17 0 0 1 (by omega) (by omega) rfl rfl)
set_option maxHeartbeats 4000000 in
set_option maxRecDepth 100000 in
theorem r_setNumber (d : Nat) (hd : 0 ≤ d) (n : Nat) (ok : pO) (mem : pM) (hU : RefUp n ok) (c v : Int) (hc : 0 ≤ c ∧ c ≤ 2) (hv : 0 ≤ v ∧ v ≤ 2147483647) (hp : pOk mem c) : PM mi_X10_setNumber d [vr 88, vi c, vi v] n ok mem n (fun r ok' mem' => r = none ∧ ok = ok' ∧ rSet mem c v 16 = mem') := by
  obtain ⟨hO, ⟨a89, a90, a91, a92, a93, a94, a95, a96, a97, a98⟩, ⟨a99, a100, a101, a102, a103, a104, a105, a106, a107⟩, ⟨a108, a109, a110, a111, a112, a113, a114, a115, a116, a117, a118, a119⟩, a120, a121, a122⟩ := hU
  refine PM.of (by decide) (by decide) (Nat.le_refl _) (Nat.le_of_ble_eq_true rfl) ?_
  refine pw_iload_n 2 rfl dX10_setNumber_0 rfl ?_
  refine pw_istore_n 3 rfl dX10_setNumber_1 (by decide) ?_
  refine pw_iconst dX10_setNumber_2 ?_
  refine pw_istore dX10_setNumber_3 (by decide) ?_
  have lp5 : ∀ (kz : Nat) (i : Nat) (x : Int) (m : pM), 16 - (i : Int) < (kz : Int) → (i ≤ 16) → (x = lfN mem c v i) → (m = rSet mem c v i) → PW mi_X10_setNumber d n n (fun r ok' mem' => r = none ∧ ok = ok' ∧ rSet mem c v 16 = mem') 5 [(0, vr 88), (1, vi c), (2, vi v), (3, vi x), (4, vi (i : Int))] [] n ok m := by
    intro kz
    induction kz with
    | zero =>
      intro i x m hk h1 h2 h3
      exact absurd hk (by omega)
    | succ kz ih =>
      intro i x m hk h1 h2 h3
      have hl := lfN_ran hp hv.1 i h1
      have e90 : m 90 = mem 90 := by rw [h3]; exact rSet_a (by omega)
      have e91 : m 91 = mem 91 := by rw [h3]; exact rSet_a (by omega)
      refine pw_iload dX10_setNumber_5 rfl ?_
      refine pw_bipush dX10_setNumber_7 (by decide) ?_
      refine pw_icmp_ge 64 (by decide) dX10_setNumber_9 (by omega) (by omega) (fun c9 => ?_) (fun c9 => ?_)
      · skip
        refine pw_vret dX10_setNumber_64 rfl rfl ?_
        have : i = 16 := by omega
        subst this; subst h3; exact ⟨rfl, rfl, rfl⟩
      · skip
        refine pw_bipush dX10_setNumber_12 (by decide) ?_
        refine pw_iload_n 1 rfl dX10_setNumber_14 rfl ?_
        refine pw_imul dX10_setNumber_15 ?_
        refine pw_iload dX10_setNumber_16 rfl ?_
        refine pw_iadd dX10_setNumber_18 ?_
        refine pw_istore dX10_setNumber_19 (by decide) ?_
        refine pw_aload_n 0 rfl dX10_setNumber_21 rfl ?_
        refine pw_gR 5 90 dX10_setNumber_22 cOk10 (by assumption) (by decide) kw_1070 (by decide) rfl ?_
        refine pw_iload dX10_setNumber_25 rfl ?_
        refine pw_iaload dX10_setNumber_27 (by assumption) (by omega) (by omega) (fun r27 => ?_)
        try simp (disch := omega) only [wr_s, wr_a, wr_k] at r27 ⊢
        refine pw_iconst dX10_setNumber_28 ?_
        rw [e90] at r27 ⊢
        have hp9 := hp (i : Int) (by omega) (by omega)
        unfold aKind aSpan at hp9
        refine pw_icmp_eq 58 (by decide) dX10_setNumber_29 (by omega) (by omega) (fun c29 => ?_) (fun c29 => ?_)
        · skip
          refine pw_iinc dX10_setNumber_58 rfl (by decide) ?_
          refine pw_goto 5 (by decide) dX10_setNumber_61 ?_
          exact pw_locs _ rfl (ih (i + 1) _ _ (by omega) (by omega) (by subst h2; show _ = lfN mem c v i / _; unfold eSp aKind; rw [if_pos c29]; omega) (by unfold rSet aKind; rw [if_pos c29]; exact h3))
        · skip
          refine pw_aload_n 0 rfl dX10_setNumber_32 rfl ?_
          refine pw_gR 7 92 dX10_setNumber_33 cOk10 (by assumption) (by decide) kw_1072 (by decide) rfl ?_
          refine pw_iload dX10_setNumber_36 rfl ?_
          refine pw_iload_n 3 rfl dX10_setNumber_38 rfl ?_
          refine pw_aload_n 0 rfl dX10_setNumber_39 rfl ?_
          refine pw_gR 6 91 dX10_setNumber_40 cOk10 (by assumption) (by decide) kw_1071 (by decide) rfl ?_
          refine pw_iload dX10_setNumber_43 rfl ?_
          refine pw_iaload dX10_setNumber_45 (by assumption) (by omega) (by omega) (fun r45 => ?_)
          try simp (disch := omega) only [wr_s, wr_a, wr_k] at r45 ⊢
          rw [e91] at r45 ⊢
          refine pw_irem dX10_setNumber_46 (by omega) (by have := hp9 c29; omega) ?_
          refine pw_iastore dX10_setNumber_47 (by assumption) (by omega) (by omega) (by have h9 := hp9 c29; have := Int.emod_nonneg x (show mem 91 (16 * c + (i : Int)) ≠ 0 by omega); have := Int.emod_lt_of_pos x (show 0 < mem 91 (16 * c + (i : Int)) by omega); omega) ?_
          refine pw_iload_n 3 rfl dX10_setNumber_48 rfl ?_
          refine pw_aload_n 0 rfl dX10_setNumber_49 rfl ?_
          refine pw_gR 6 91 dX10_setNumber_50 cOk10 (by assumption) (by decide) kw_1071 (by decide) rfl ?_
          refine pw_iload dX10_setNumber_53 rfl ?_
          refine pw_iaload dX10_setNumber_55 (by assumption) (by omega) (by omega) (fun r55 => ?_)
          try simp (disch := omega) only [wr_s, wr_a, wr_k] at r55 ⊢
          rw [e91] at r55 ⊢
          refine pw_idiv dX10_setNumber_56 (by omega) (by have := hp9 c29; omega) ?_
          refine pw_istore_n 3 rfl dX10_setNumber_57 (by decide) ?_
          refine pw_iinc dX10_setNumber_58 rfl (by decide) ?_
          refine pw_goto 5 (by decide) dX10_setNumber_61 ?_
          exact pw_locs _ rfl (ih (i + 1) _ _ (by omega) (by omega) (by subst h2; show _ = lfN mem c v i / _; unfold eSp aKind; rw [if_neg c29]; try rfl) (by unfold rSet aKind; rw [if_neg c29, h3, h2]; try rfl))
  exact pw_locs _ rfl (lp5 17 0 v mem (by omega) (by omega) rfl rfl)
def rChg (m : pM) (c : Int) : pM := wr (wr m 101 c 0) 88 32 (if m 88 32 ≠ 0 ∨ (m 88 31 ≠ 0 ∧ m 88 33 = c) then 1 else 0)
set_option maxHeartbeats 4000000 in
set_option maxRecDepth 100000 in
theorem r_changed (d : Nat) (hd : 0 ≤ d) (n : Nat) (ok : pO) (mem : pM) (hU : RefUp n ok) (c : Int) (hc : 0 ≤ c ∧ c ≤ 2) : PM mi_X10_changed d [vr 88, vi c] n ok mem n (fun r ok' mem' => r = none ∧ ok = ok' ∧ rChg mem c = mem') := by
  obtain ⟨hO, ⟨a89, a90, a91, a92, a93, a94, a95, a96, a97, a98⟩, ⟨a99, a100, a101, a102, a103, a104, a105, a106, a107⟩, ⟨a108, a109, a110, a111, a112, a113, a114, a115, a116, a117, a118, a119⟩, a120, a121, a122⟩ := hU
  refine PM.of (by decide) (by decide) (Nat.le_refl _) (Nat.le_of_ble_eq_true rfl) ?_
  refine pw_aload_n 0 rfl dX10_changed_0 rfl ?_
  refine pw_gR 16 101 dX10_changed_1 cOk10 (by assumption) (by decide) kw_1081 (by decide) rfl ?_
  refine pw_iload_n 1 rfl dX10_changed_4 rfl ?_
  refine pw_iconst dX10_changed_5 ?_
  refine pw_iastore dX10_changed_6 (by assumption) (by omega) (by omega) (by omega) ?_
  refine pw_aload_n 0 rfl dX10_changed_7 rfl ?_
  refine pw_aload_n 0 rfl dX10_changed_8 rfl ?_
  refine pw_gI 32 32 rfl dX10_changed_9 cOk10 (by assumption) (by decide) kw_1097 (by decide) (fun r9 => ?_)
  try simp (disch := omega) only [wr_s, wr_a, wr_k] at r9 ⊢
  refine pw_if_ne 30 (by decide) dX10_changed_12 (by omega) (fun c12 => ?_) (fun c12 => ?_)
  · skip
    refine pw_iconst dX10_changed_30 ?_
    refine pw_goto 35 (by decide) dX10_changed_31 ?_
    refine pw_pZ 32 32 rfl dX10_changed_35 cOk10 (by assumption) (by decide) kw_1097 rfl rfl (by decide) (by omega) ?_
    refine pw_vret dX10_changed_38 rfl rfl ?_
    refine ⟨rfl, rfl, ?_⟩
    unfold rChg; rw [if_pos (Or.inl c12)]
  · skip
    refine pw_aload_n 0 rfl dX10_changed_15 rfl ?_
    refine pw_gI 31 31 rfl dX10_changed_16 cOk10 (by assumption) (by decide) kw_1096 (by decide) (fun r16 => ?_)
    try simp (disch := omega) only [wr_s, wr_a, wr_k] at r16 ⊢
    refine pw_if_eq 34 (by decide) dX10_changed_19 (by omega) (fun c19 => ?_) (fun c19 => ?_)
    · skip
      refine pw_iconst dX10_changed_34 ?_
      refine pw_pZ 32 32 rfl dX10_changed_35 cOk10 (by assumption) (by decide) kw_1097 rfl rfl (by decide) (by omega) ?_
      refine pw_vret dX10_changed_38 rfl rfl ?_
      refine ⟨rfl, rfl, ?_⟩
      unfold rChg; rw [if_neg (by omega)]
    · skip
      refine pw_aload_n 0 rfl dX10_changed_22 rfl ?_
      refine pw_gI 33 33 rfl dX10_changed_23 cOk10 (by assumption) (by decide) kw_1098 (by decide) (fun r23 => ?_)
      try simp (disch := omega) only [wr_s, wr_a, wr_k] at r23 ⊢
      refine pw_iload_n 1 rfl dX10_changed_26 rfl ?_
      refine pw_icmp_ne 34 (by decide) dX10_changed_27 (by omega) (by omega) (fun c27 => ?_) (fun c27 => ?_)
      · skip
        refine pw_iconst dX10_changed_34 ?_
        refine pw_pZ 32 32 rfl dX10_changed_35 cOk10 (by assumption) (by decide) kw_1097 rfl rfl (by decide) (by omega) ?_
        refine pw_vret dX10_changed_38 rfl rfl ?_
        refine ⟨rfl, rfl, ?_⟩
        unfold rChg; rw [if_neg (by omega)]
      · skip
        refine pw_iconst dX10_changed_30 ?_
        refine pw_goto 35 (by decide) dX10_changed_31 ?_
        refine pw_pZ 32 32 rfl dX10_changed_35 cOk10 (by assumption) (by decide) kw_1097 rfl rfl (by decide) (by omega) ?_
        refine pw_vret dX10_changed_38 rfl rfl ?_
        refine ⟨rfl, rfl, ?_⟩
        unfold rChg; rw [if_pos (Or.inr ⟨c19, c27⟩)]
