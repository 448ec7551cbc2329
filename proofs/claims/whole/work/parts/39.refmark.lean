/-! ===== switches, one entry at a time; blocks of memory ===== -/
section PS
variable {mi : MI} {d nf n0 : Nat} {Q : pQt} {pc : Nat} {ls : List (Nat × pV)} {st : List pV} {n : Nat} {ok : pO} {mem : pM}
theorem pw_tab1 {dflt lo hi off : Int} {offs : Array Int} {len : Nat} {x : Int} (v : Int) (tgt : Nat) (hd : decode (mB mi) pc = .ok (.tableswitch dflt lo hi offs, len)) (hx : -2147483648 ≤ x ∧ x ≤ 2147483647) (h2 : lo ≤ v) (h3 : v ≤ hi) (ho : offs[(v - lo).toNat]? = some off) (ht : (pc : Int) + off = (tgt : Int)) (k1 : x = v → PW mi d nf n0 Q tgt ls st n ok mem) (k2 : x ≠ v → PW mi d nf n0 Q pc ls (vi x :: st) n ok mem) : PW mi d nf n0 Q pc ls (vi x :: st) n ok mem := by
  by_cases e : x = v
  · have k := k1 e
    subst e
    exact pw_tableIn tgt hd hx h2 h3 ho ht k
  · exact k2 e
theorem pw_lk1 {dflt off : Int} {ps : Array (Int × Int)} {len : Nat} {x : Int} (v : Int) (tgt : Nat) (hd : decode (mB mi) pc = .ok (.lookupswitch dflt ps, len)) (hx : -2147483648 ≤ x ∧ x ≤ 2147483647) (hp : (ps.toList.zip (ps.toList.drop 1)).all (fun (a, next) => a.1 < next.1) = true) (ho : Op.lookupswitch.offset ps.toList dflt v = off) (ht : (pc : Int) + off = (tgt : Int)) (k1 : x = v → PW mi d nf n0 Q tgt ls st n ok mem) (k2 : x ≠ v → PW mi d nf n0 Q pc ls (vi x :: st) n ok mem) : PW mi d nf n0 Q pc ls (vi x :: st) n ok mem := by
  by_cases e : x = v
  · have k := k1 e
    subst e
    exact pw_lookup tgt hd hp hx ho ht k
  · exact k2 e
end PS
theorem fiM_o (m : pM) (a : Nat) (lo k x j : Int) (h : j < lo ∨ lo + k ≤ j) : fiM m a lo k x a j = m a j := by unfold fiM; rw [if_neg (by omega)]
/-- a block of row a, from lo on, k long, becomes g -/
def bcM (m : pM) (a : Nat) (lo k : Int) (g : Int → Int) : pM := fun b j => if b = a ∧ lo ≤ j ∧ j < lo + k then g (j - lo) else m b j
theorem bcM_0 (m : pM) (a : Nat) (lo : Int) (g : Int → Int) : bcM m a lo 0 g = m := by funext b j; unfold bcM; rw [if_neg (by omega)]
theorem bcM_s (m : pM) (a : Nat) (lo k : Int) (g : Int → Int) (hk : 0 ≤ k) : wr (bcM m a lo k g) a (lo + k) (g k) = bcM m a lo (k + 1) g := by
  funext b j; unfold wr bcM
  by_cases e : b = a ∧ j = lo + k
  · rw [if_pos e, if_pos ⟨e.1, by omega, by omega⟩]
    congr 1; omega
  · rw [if_neg e]
    by_cases e2 : b = a ∧ lo ≤ j ∧ j < lo + k
    · rw [if_pos e2, if_pos ⟨e2.1, e2.2.1, by omega⟩]
    · rw [if_neg e2, if_neg (fun z => by
        rcases (show j < lo + k ∨ j = lo + k by omega) with q | q
        · exact e2 ⟨z.1, z.2.1, q⟩
        · exact e ⟨z.1, q⟩)]
theorem bcM_a (m : pM) {a b : Nat} (lo k : Int) (g : Int → Int) (h : b ≠ a) : bcM m a lo k g b = m b := by funext j; unfold bcM; rw [if_neg (fun z => h z.1)]
theorem bcM_o (m : pM) (a : Nat) (lo k : Int) (g : Int → Int) (j : Int) (h : j < lo ∨ lo + k ≤ j) : bcM m a lo k g a j = m a j := by unfold bcM; rw [if_neg (by omega)]
theorem bcM_i (m : pM) (a : Nat) (lo k : Int) (g : Int → Int) (j : Int) (h1 : lo ≤ j) (h2 : j < lo + k) : bcM m a lo k g a j = g (j - lo) := by unfold bcM; rw [if_pos ⟨rfl, h1, h2⟩]
/-! ===== the search's rows as they must be ===== -/
abbrev sLay (m : pM) (o : Int) : Int := m 109 (m 108 o)
def SIs (m : pM) : Prop := (1 ≤ m 88 34 ∧ m 88 34 ≤ 1024 ∧ 0 ≤ m 88 35 ∧ m 88 35 ≤ m 88 34 ∧ -1 ≤ m 88 36 ∧ m 88 36 < m 88 34) ∧
  (∀ o, 0 ≤ o → o < m 88 34 → 0 ≤ m 108 o ∧ m 108 o < 1024 ∧ m 110 (m 108 o) = o ∧ 0 ≤ m 109 (m 108 o) ∧ m 109 (m 108 o) ≤ o) ∧
  (∀ x, 0 ≤ x → x < 1024 → m 109 x = -1 ∨ (0 ≤ m 110 x ∧ m 110 x < m 88 34 ∧ m 108 (m 110 x) = x)) ∧
  (∀ o, 0 ≤ o → o < m 88 34 → 1 ≤ m 109 (m 108 o) → 0 ≤ m 112 o ∧ m 112 o < o ∧ m 109 (m 108 (m 112 o)) = m 109 (m 108 o) - 1) ∧
  (∀ e, 0 ≤ e → e < 38 * m 88 35 → m 114 e = -1 ∨ (0 ≤ m 114 e ∧ m 114 e < m 88 34))
def SI (m : pM) : Prop := m 88 31 ≠ 0 → SIs m
def rTrace (m : pM) (i : Int) : Int := if 0 ≤ i ∧ i < m 88 19 ∧ i < 60 then m 103 i else -1
set_option maxHeartbeats 4000000 in
set_option maxRecDepth 100000 in
theorem r_trace (d : Nat) (hd : 1 ≤ d) (n : Nat) (ok : pO) (mem : pM) (hU : RefUp n ok) (i : Int) (hi : -2147483648 ≤ i ∧ i ≤ 2147483647) (ht : 0 ≤ mem 88 19) : PM mi_X10_trace d [vr 88, vi i] n ok mem n (fun r ok' mem' => r = some (vi (rTrace mem i)) ∧ ok = ok' ∧ mem = mem') := by
  obtain ⟨hO, ⟨a89, a90, a91, a92, a93, a94, a95, a96, a97, a98⟩, ⟨a99, a100, a101, a102, a103, a104, a105, a106, a107⟩, ⟨a108, a109, a110, a111, a112, a113, a114, a115, a116, a117, a118, a119⟩, a120, a121, a122⟩ := id hU
  refine PM.of (by decide) (by decide) (Nat.le_refl _) (Nat.le_of_ble_eq_true rfl) ?_
  refine pw_iload_n 1 rfl dX10_trace_0 rfl ?_
  refine pw_i2l dX10_trace_1 (by omega) ?_
  refine pw_lconst (x := 0) dX10_trace_2 (by decide) ?_
  refine pw_aload_n 0 rfl dX10_trace_3 rfl ?_
  refine pw_gI 19 19 rfl dX10_trace_4 cOk10 (by assumption) (by decide) kw_1084 (by decide) (fun r4 => ?_)
  refine pw_bipush dX10_trace_7 (by decide) ?_
  refine pw_icmp_ge 19 (by decide) dX10_trace_9 (by omega) (by omega) (fun c9 => ?_) (fun c9 => ?_)
  · skip
    refine pw_bipush dX10_trace_19 (by decide) ?_
    refine pw_iconst dX10_trace_21 ?_
    refine pw_isub dX10_trace_22 ?_
    refine pw_i2l dX10_trace_23 (by omega) ?_
    refine pw_callS (d' := d - 1) (As := [_, _, _]) dX10_trace_24 ok_X10_in kw_1245 (by omega) rfl (Nat.le_of_ble_eq_true rfl) (r_in (d - 1) (by omega) n ok _ _ _ _ (by omega) (by omega) (by omega)) (Nat.le_refl _) (Or.inl rfl) (fun r ok1 mem1 hq => ?_)
    obtain ⟨rfl, rfl, rfl⟩ := hq
    refine pw_if_eq 39 (by decide) dX10_trace_27 (by split <;> omega) (fun c27 => ?_) (fun c27 => ?_)
    · skip
      rw [bz_0] at c27
      refine pw_iconst dX10_trace_39 ?_
      refine pw_iret dX10_trace_40 rfl rfl ?_
      refine ⟨congrArg (fun z => some (vi z)) ?_, rfl, rfl⟩
      unfold rTrace; (repeat' split) <;> first | rfl | omega
    · skip
      rw [bz_n] at c27
      refine pw_aload_n 0 rfl dX10_trace_30 rfl ?_
      refine pw_gR 18 103 dX10_trace_31 cOk10 (by assumption) (by decide) kw_1083 (by decide) rfl ?_
      refine pw_iload_n 1 rfl dX10_trace_34 rfl ?_
      refine pw_iaload dX10_trace_35 (by assumption) (by omega) (by omega) (fun r35 => ?_)
      refine pw_goto 40 (by decide) dX10_trace_36 ?_
      refine pw_iret dX10_trace_40 rfl rfl ?_
      refine ⟨congrArg (fun z => some (vi z)) ?_, rfl, rfl⟩
      unfold rTrace; (repeat' split) <;> first | rfl | omega
  · skip
    refine pw_aload_n 0 rfl dX10_trace_12 rfl ?_
    refine pw_gI 19 19 rfl dX10_trace_13 cOk10 (by assumption) (by decide) kw_1084 (by decide) (fun r13 => ?_)
    refine pw_goto 21 (by decide) dX10_trace_16 ?_
    refine pw_iconst dX10_trace_21 ?_
    refine pw_isub dX10_trace_22 ?_
    refine pw_i2l dX10_trace_23 (by omega) ?_
    refine pw_callS (d' := d - 1) (As := [_, _, _]) dX10_trace_24 ok_X10_in kw_1245 (by omega) rfl (Nat.le_of_ble_eq_true rfl) (r_in (d - 1) (by omega) n ok _ _ _ _ (by omega) (by omega) (by omega)) (Nat.le_refl _) (Or.inl rfl) (fun r ok1 mem1 hq => ?_)
    obtain ⟨rfl, rfl, rfl⟩ := hq
    refine pw_if_eq 39 (by decide) dX10_trace_27 (by split <;> omega) (fun c27 => ?_) (fun c27 => ?_)
    · skip
      rw [bz_0] at c27
      refine pw_iconst dX10_trace_39 ?_
      refine pw_iret dX10_trace_40 rfl rfl ?_
      refine ⟨congrArg (fun z => some (vi z)) ?_, rfl, rfl⟩
      unfold rTrace; (repeat' split) <;> first | rfl | omega
    · skip
      rw [bz_n] at c27
      refine pw_aload_n 0 rfl dX10_trace_30 rfl ?_
      refine pw_gR 18 103 dX10_trace_31 cOk10 (by assumption) (by decide) kw_1083 (by decide) rfl ?_
      refine pw_iload_n 1 rfl dX10_trace_34 rfl ?_
      refine pw_iaload dX10_trace_35 (by assumption) (by omega) (by omega) (fun r35 => ?_)
      refine pw_goto 40 (by decide) dX10_trace_36 ?_
      refine pw_iret dX10_trace_40 rfl rfl ?_
      refine ⟨congrArg (fun z => some (vi z)) ?_, rfl, rfl⟩
      unfold rTrace; (repeat' split) <;> first | rfl | omega
def cnM (m : pM) : Nat → Int
  | 0 => 0
  | k + 1 => cnM m k + (if m 119 k = 0 then 0 else 1)
theorem cnM_ran (m : pM) (k : Nat) : 0 ≤ cnM m k ∧ cnM m k ≤ k := by
  induction k with
  | zero => exact ⟨Int.le_refl _, Int.le_refl _⟩
  | succ k ih => unfold cnM; split <;> omega
def rCount (m : pM) (w : Int) : Int := if 0 ≤ w ∧ w ≤ 8 then (if w < 3 then aParts m w 16 else if w < 6 then m 94 (w - 3) else m 101 (w - 6)) else if w = 13 then cnM m 1024 else if w = 9 then m 88 24 else if w = 10 then m 88 19 else if w = 11 then m 88 1 else if w = 12 then m 88 2 else -2
set_option maxHeartbeats 4000000 in
set_option maxRecDepth 100000 in
theorem r_count (d : Nat) (hd : 1 ≤ d) (n : Nat) (ok : pO) (mem : pM) (hU : RefUp n ok) (w : Int) (hw : -2147483648 ≤ w ∧ w ≤ 2147483647)  : PM mi_X10_count d [vr 88, vi w] n ok mem n (fun r ok' mem' => r = some (vi (rCount mem w)) ∧ ok = ok' ∧ mem = mem') := by
  obtain ⟨hO, ⟨a89, a90, a91, a92, a93, a94, a95, a96, a97, a98⟩, ⟨a99, a100, a101, a102, a103, a104, a105, a106, a107⟩, ⟨a108, a109, a110, a111, a112, a113, a114, a115, a116, a117, a118, a119⟩, a120, a121, a122⟩ := id hU
  refine PM.of (by decide) (by decide) (Nat.le_refl _) (Nat.le_of_ble_eq_true rfl) ?_
  refine pw_iload_n 1 rfl dX10_count_0 rfl ?_
  refine pw_i2l dX10_count_1 (by omega) ?_
  refine pw_lconst (x := 0) dX10_count_2 (by decide) ?_
  refine pw_ldc2 (x := 8) kw_1430 (by decide) dX10_count_3 ?_
  refine pw_callS (d' := d - 1) (As := [_, _, _]) dX10_count_6 ok_X10_in kw_1245 (by omega) rfl (Nat.le_of_ble_eq_true rfl) (r_in (d - 1) (by omega) n ok _ _ _ _ (by omega) (by omega) (by omega)) (Nat.le_refl _) (Or.inl rfl) (fun r ok1 mem1 hq => ?_)
  obtain ⟨rfl, rfl, rfl⟩ := hq
  refine pw_if_eq 52 (by decide) dX10_count_9 (by split <;> omega) (fun c9 => ?_) (fun c9 => ?_)
  · skip
    rw [bz_0] at c9
    refine pw_iload_n 1 rfl dX10_count_52 rfl ?_
    refine pw_bipush dX10_count_53 (by decide) ?_
    refine pw_icmp_ne 94 (by decide) dX10_count_55 (by omega) (by omega) (fun c55 => ?_) (fun c55 => ?_)
    · skip
      refine pw_iload_n 1 rfl dX10_count_94 rfl ?_
      refine pw_bipush dX10_count_95 (by decide) ?_
      refine pw_icmp_ne 107 (by decide) dX10_count_97 (by omega) (by omega) (fun c97 => ?_) (fun c97 => ?_)
      · skip
        refine pw_iload_n 1 rfl dX10_count_107 rfl ?_
        refine pw_bipush dX10_count_108 (by decide) ?_
        refine pw_icmp_ne 120 (by decide) dX10_count_110 (by omega) (by omega) (fun c110 => ?_) (fun c110 => ?_)
        · skip
          refine pw_iload_n 1 rfl dX10_count_120 rfl ?_
          refine pw_bipush dX10_count_121 (by decide) ?_
          refine pw_icmp_ne 133 (by decide) dX10_count_123 (by omega) (by omega) (fun c123 => ?_) (fun c123 => ?_)
          · skip
            refine pw_iload_n 1 rfl dX10_count_133 rfl ?_
            refine pw_bipush dX10_count_134 (by decide) ?_
            refine pw_icmp_ne 146 (by decide) dX10_count_136 (by omega) (by omega) (fun c136 => ?_) (fun c136 => ?_)
            · skip
              refine pw_bipush dX10_count_146 (by decide) ?_
              refine pw_iret dX10_count_148 rfl rfl ?_
              refine ⟨congrArg (fun z => some (vi z)) ?_, rfl, rfl⟩
              unfold rCount; (repeat' split) <;> first | rfl | omega
            · skip
              refine pw_aload_n 0 rfl dX10_count_139 rfl ?_
              refine pw_gI 2 2 rfl dX10_count_140 cOk10 (by assumption) (by decide) kw_1067 (by decide) (fun r140 => ?_)
              refine pw_goto 148 (by decide) dX10_count_143 ?_
              refine pw_iret dX10_count_148 rfl rfl ?_
              refine ⟨congrArg (fun z => some (vi z)) ?_, rfl, rfl⟩
              unfold rCount; (repeat' split) <;> first | rfl | omega
          · skip
            refine pw_aload_n 0 rfl dX10_count_126 rfl ?_
            refine pw_gI 1 1 rfl dX10_count_127 cOk10 (by assumption) (by decide) kw_1066 (by decide) (fun r127 => ?_)
            refine pw_goto 148 (by decide) dX10_count_130 ?_
            refine pw_iret dX10_count_148 rfl rfl ?_
            refine ⟨congrArg (fun z => some (vi z)) ?_, rfl, rfl⟩
            unfold rCount; (repeat' split) <;> first | rfl | omega
        · skip
          refine pw_aload_n 0 rfl dX10_count_113 rfl ?_
          refine pw_gI 19 19 rfl dX10_count_114 cOk10 (by assumption) (by decide) kw_1084 (by decide) (fun r114 => ?_)
          refine pw_goto 148 (by decide) dX10_count_117 ?_
          refine pw_iret dX10_count_148 rfl rfl ?_
          refine ⟨congrArg (fun z => some (vi z)) ?_, rfl, rfl⟩
          unfold rCount; (repeat' split) <;> first | rfl | omega
      · skip
        refine pw_aload_n 0 rfl dX10_count_100 rfl ?_
        refine pw_gI 24 24 rfl dX10_count_101 cOk10 (by assumption) (by decide) kw_1089 (by decide) (fun r101 => ?_)
        refine pw_goto 148 (by decide) dX10_count_104 ?_
        refine pw_iret dX10_count_148 rfl rfl ?_
        refine ⟨congrArg (fun z => some (vi z)) ?_, rfl, rfl⟩
        unfold rCount; (repeat' split) <;> first | rfl | omega
    · skip
      refine pw_iconst dX10_count_58 ?_
      refine pw_istore_n 2 rfl dX10_count_59 (by decide) ?_
      refine pw_iconst dX10_count_60 ?_
      refine pw_istore_n 3 rfl dX10_count_61 (by decide) ?_
      have lp62 : ∀ (kz : Nat) (i : Nat) (x : Int), 1024 - (i : Int) < (kz : Int) → (i ≤ 1024) → (x = cnM mem i) → PW mi_X10_count d n n (fun r ok' mem' => r = some (vi (rCount mem w)) ∧ ok = ok' ∧ mem = mem') 62 [(0, vr 88), (1, vi w), (2, vi x), (3, vi (i : Int))] [] n ok mem := by
        intro kz
        induction kz with
        | zero =>
          intro i x hk h1 h2
          exact absurd hk (by omega)
        | succ kz ih =>
          intro i x hk h1 h2
          have hp := cnM_ran mem i
          refine pw_iload_n 3 rfl dX10_count_62 rfl ?_
          refine pw_sipush dX10_count_63 (by decide) ?_
          refine pw_icmp_ge 92 (by decide) dX10_count_66 (by omega) (by omega) (fun c66 => ?_) (fun c66 => ?_)
          · skip
            refine pw_iload_n 2 rfl dX10_count_92 rfl ?_
            refine pw_iret dX10_count_93 rfl rfl ?_
            have e9 : i = 1024 := by omega
            subst e9; subst h2
            refine ⟨congrArg (fun z => some (vi z)) ?_, rfl, rfl⟩
            unfold rCount; rw [if_neg (by omega), if_pos c55]
          · skip
            refine pw_iload_n 2 rfl dX10_count_69 rfl ?_
            refine pw_aload_n 0 rfl dX10_count_70 rfl ?_
            refine pw_gR 49 119 dX10_count_71 cOk10 (by assumption) (by decide) kw_1114 (by decide) rfl ?_
            refine pw_iload_n 3 rfl dX10_count_74 rfl ?_
            refine pw_baload dX10_count_75 (by assumption) (by omega) (by omega) (fun r75 => ?_)
            try simp (disch := omega) only [wr_s, wr_a, wr_k] at r75 ⊢
            refine pw_if_eq 83 (by decide) dX10_count_76 (by omega) (fun c76 => ?_) (fun c76 => ?_)
            · skip
              refine pw_iconst dX10_count_83 ?_
              refine pw_iadd dX10_count_84 ?_
              refine pw_istore_n 2 rfl dX10_count_85 (by decide) ?_
              refine pw_iinc dX10_count_86 rfl (by decide) ?_
              refine pw_goto 62 (by decide) dX10_count_89 ?_
              exact pw_locs _ rfl (ih (i + 1) (x + 0) (by omega) (by omega) (by subst h2; show _ = cnM mem i + _; rw [if_pos c76]))
            · skip
              refine pw_iconst dX10_count_79 ?_
              refine pw_goto 84 (by decide) dX10_count_80 ?_
              refine pw_iadd dX10_count_84 ?_
              refine pw_istore_n 2 rfl dX10_count_85 (by decide) ?_
              refine pw_iinc dX10_count_86 rfl (by decide) ?_
              refine pw_goto 62 (by decide) dX10_count_89 ?_
              exact pw_locs _ rfl (ih (i + 1) (x + 1) (by omega) (by omega) (by subst h2; show _ = cnM mem i + _; rw [if_neg c76]))
      exact pw_locs _ rfl (lp62 1025 0 0 (by omega) (by omega) rfl)
  · skip
    rw [bz_n] at c9
    refine pw_iload_n 1 rfl dX10_count_12 rfl ?_
    refine pw_iconst dX10_count_13 ?_
    refine pw_icmp_ge 25 (by decide) dX10_count_14 (by omega) (by omega) (fun c14 => ?_) (fun c14 => ?_)
    · skip
      refine pw_iload_n 1 rfl dX10_count_25 rfl ?_
      refine pw_bipush dX10_count_26 (by decide) ?_
      refine pw_icmp_ge 42 (by decide) dX10_count_28 (by omega) (by omega) (fun c28 => ?_) (fun c28 => ?_)
      · skip
        refine pw_aload_n 0 rfl dX10_count_42 rfl ?_
        refine pw_gR 16 101 dX10_count_43 cOk10 (by assumption) (by decide) kw_1081 (by decide) rfl ?_
        refine pw_iload_n 1 rfl dX10_count_46 rfl ?_
        refine pw_bipush dX10_count_47 (by decide) ?_
        refine pw_isub dX10_count_49 ?_
        refine pw_iaload dX10_count_50 (by assumption) (by omega) (by omega) (fun r50 => ?_)
        refine pw_iret dX10_count_51 rfl rfl ?_
        refine ⟨congrArg (fun z => some (vi z)) ?_, rfl, rfl⟩
        unfold rCount; (repeat' split) <;> first | rfl | omega
      · skip
        refine pw_aload_n 0 rfl dX10_count_31 rfl ?_
        refine pw_gR 9 94 dX10_count_32 cOk10 (by assumption) (by decide) kw_1074 (by decide) rfl ?_
        refine pw_iload_n 1 rfl dX10_count_35 rfl ?_
        refine pw_iconst dX10_count_36 ?_
        refine pw_isub dX10_count_37 ?_
        refine pw_iaload dX10_count_38 (by assumption) (by omega) (by omega) (fun r38 => ?_)
        refine pw_goto 51 (by decide) dX10_count_39 ?_
        refine pw_iret dX10_count_51 rfl rfl ?_
        refine ⟨congrArg (fun z => some (vi z)) ?_, rfl, rfl⟩
        unfold rCount; (repeat' split) <;> first | rfl | omega
    · skip
      refine pw_aload_n 0 rfl dX10_count_17 rfl ?_
      refine pw_iload_n 1 rfl dX10_count_18 rfl ?_
      refine pw_callV (d' := d - 1) (As := [_]) (ci := 10) dX10_count_19 ok_X10_parts kw_1287 rfl rfl (Of.o (by assumption)) (by omega) rfl (Nat.le_of_ble_eq_true rfl) (r_parts (d - 1) (by omega) n ok _ hU _ (by omega)) (Nat.le_refl _) (Or.inl rfl) (fun r ok1 mem1 hq => ?_)
      obtain ⟨rfl, rfl, rfl⟩ := hq
      refine pw_goto 51 (by decide) dX10_count_22 ?_
      refine pw_iret dX10_count_51 rfl rfl ?_
      refine ⟨congrArg (fun z => some (vi z)) ?_, rfl, rfl⟩
      unfold rCount; (repeat' split) <;> first | rfl | omega
def rOut (m : pM) (i : Int) : Int := if 0 ≤ i ∧ i < m 88 56 then m 122 i else -1
set_option maxHeartbeats 4000000 in
set_option maxRecDepth 100000 in
theorem r_out (d : Nat) (hd : 1 ≤ d) (n : Nat) (ok : pO) (mem : pM) (hU : RefUp n ok) (i : Int) (hi : -2147483648 ≤ i ∧ i ≤ 2147483647) (ho : 0 ≤ mem 88 56 ∧ mem 88 56 ≤ 700) : PM mi_X10_out d [vr 88, vi i] n ok mem n (fun r ok' mem' => r = some (vi (rOut mem i)) ∧ ok = ok' ∧ mem = mem') := by
  obtain ⟨hO, ⟨a89, a90, a91, a92, a93, a94, a95, a96, a97, a98⟩, ⟨a99, a100, a101, a102, a103, a104, a105, a106, a107⟩, ⟨a108, a109, a110, a111, a112, a113, a114, a115, a116, a117, a118, a119⟩, a120, a121, a122⟩ := id hU
  refine PM.of (by decide) (by decide) (Nat.le_refl _) (Nat.le_of_ble_eq_true rfl) ?_
  refine pw_iload_n 1 rfl dX10_out_0 rfl ?_
  refine pw_i2l dX10_out_1 (by omega) ?_
  refine pw_lconst (x := 0) dX10_out_2 (by decide) ?_
  refine pw_aload_n 0 rfl dX10_out_3 rfl ?_
  refine pw_gI 56 56 rfl dX10_out_4 cOk10 (by assumption) (by decide) kw_1121 (by decide) (fun r4 => ?_)
  refine pw_iconst dX10_out_7 ?_
  refine pw_isub dX10_out_8 ?_
  refine pw_i2l dX10_out_9 (by omega) ?_
  refine pw_callS (d' := d - 1) (As := [_, _, _]) dX10_out_10 ok_X10_in kw_1245 (by omega) rfl (Nat.le_of_ble_eq_true rfl) (r_in (d - 1) (by omega) n ok _ _ _ _ (by omega) (by omega) (by omega)) (Nat.le_refl _) (Or.inl rfl) (fun r ok1 mem1 hq => ?_)
  obtain ⟨rfl, rfl, rfl⟩ := hq
  refine pw_if_eq 25 (by decide) dX10_out_13 (by split <;> omega) (fun c13 => ?_) (fun c13 => ?_)
  · skip
    rw [bz_0] at c13
    refine pw_iconst dX10_out_25 ?_
    refine pw_iret dX10_out_26 rfl rfl ?_
    refine ⟨congrArg (fun z => some (vi z)) ?_, rfl, rfl⟩
    unfold rOut; (repeat' split) <;> first | rfl | omega
  · skip
    rw [bz_n] at c13
    refine pw_aload_n 0 rfl dX10_out_16 rfl ?_
    refine pw_gR 55 122 dX10_out_17 cOk10 (by assumption) (by decide) kw_1120 (by decide) rfl ?_
    refine pw_iload_n 1 rfl dX10_out_20 rfl ?_
    refine pw_iaload dX10_out_21 (by assumption) (by omega) (by omega) (fun r21 => ?_)
    refine pw_goto 26 (by decide) dX10_out_22 ?_
    refine pw_iret dX10_out_26 rfl rfl ?_
    refine ⟨congrArg (fun z => some (vi z)) ?_, rfl, rfl⟩
    unfold rOut; (repeat' split) <;> first | rfl | omega
set_option maxHeartbeats 4000000 in
set_option maxRecDepth 100000 in
theorem r_status (d : Nat) (hd : 0 ≤ d) (n : Nat) (ok : pO) (mem : pM) (hU : RefUp n ok)   : PM mi_X10_status d [vr 88] n ok mem n (fun r ok' mem' => r = some (vi (mem 88 0)) ∧ ok = ok' ∧ mem = mem') := by
  obtain ⟨hO, ⟨a89, a90, a91, a92, a93, a94, a95, a96, a97, a98⟩, ⟨a99, a100, a101, a102, a103, a104, a105, a106, a107⟩, ⟨a108, a109, a110, a111, a112, a113, a114, a115, a116, a117, a118, a119⟩, a120, a121, a122⟩ := id hU
  refine PM.of (by decide) (by decide) (Nat.le_refl _) (Nat.le_of_ble_eq_true rfl) ?_
  refine pw_aload_n 0 rfl dX10_status_0 rfl ?_
  refine pw_gI 0 0 rfl dX10_status_1 cOk10 (by assumption) (by decide) kw_1065 (by decide) (fun r1 => ?_)
  refine pw_iret dX10_status_4 rfl rfl ?_
  exact ⟨rfl, rfl, rfl⟩
set_option maxHeartbeats 4000000 in
set_option maxRecDepth 100000 in
theorem r_isWhole (d : Nat) (hd : 0 ≤ d) (n : Nat) (ok : pO) (mem : pM) (hU : RefUp n ok)   : PM mi_X10_isWhole d [vr 88] n ok mem n (fun r ok' mem' => r = some (vi (if mem 88 35 = mem 88 34 then 1 else 0)) ∧ ok = ok' ∧ mem = mem') := by
  obtain ⟨hO, ⟨a89, a90, a91, a92, a93, a94, a95, a96, a97, a98⟩, ⟨a99, a100, a101, a102, a103, a104, a105, a106, a107⟩, ⟨a108, a109, a110, a111, a112, a113, a114, a115, a116, a117, a118, a119⟩, a120, a121, a122⟩ := id hU
  refine PM.of (by decide) (by decide) (Nat.le_refl _) (Nat.le_of_ble_eq_true rfl) ?_
  refine pw_aload_n 0 rfl dX10_isWhole_0 rfl ?_
  refine pw_gI 35 35 rfl dX10_isWhole_1 cOk10 (by assumption) (by decide) kw_1100 (by decide) (fun r1 => ?_)
  refine pw_aload_n 0 rfl dX10_isWhole_4 rfl ?_
  refine pw_gI 34 34 rfl dX10_isWhole_5 cOk10 (by assumption) (by decide) kw_1099 (by decide) (fun r5 => ?_)
  refine pw_icmp_ne 15 (by decide) dX10_isWhole_8 (by omega) (by omega) (fun c8 => ?_) (fun c8 => ?_)
  · skip
    refine pw_iconst dX10_isWhole_15 ?_
    refine pw_zret dX10_isWhole_16 rfl (by omega) rfl ?_
    rw [if_neg c8]; exact ⟨rfl, rfl, rfl⟩
  · skip
    refine pw_iconst dX10_isWhole_11 ?_
    refine pw_goto 16 (by decide) dX10_isWhole_12 ?_
    refine pw_zret dX10_isWhole_16 rfl (by omega) rfl ?_
    rw [if_pos c8]; exact ⟨rfl, rfl, rfl⟩
set_option maxHeartbeats 4000000 in
set_option maxRecDepth 100000 in
theorem r_isReady (d : Nat) (hd : 1 ≤ d) (n : Nat) (ok : pO) (mem : pM) (hU : RefUp n ok)   : PM mi_X10_isReady d [vr 88] n ok mem n (fun r ok' mem' => r = some (vi (if mem 88 31 ≠ 0 ∧ mem 88 32 = 0 ∧ mem 88 35 = mem 88 34 then 1 else 0)) ∧ ok = ok' ∧ mem = mem') := by
  obtain ⟨hO, ⟨a89, a90, a91, a92, a93, a94, a95, a96, a97, a98⟩, ⟨a99, a100, a101, a102, a103, a104, a105, a106, a107⟩, ⟨a108, a109, a110, a111, a112, a113, a114, a115, a116, a117, a118, a119⟩, a120, a121, a122⟩ := id hU
  refine PM.of (by decide) (by decide) (Nat.le_refl _) (Nat.le_of_ble_eq_true rfl) ?_
  refine pw_aload_n 0 rfl dX10_isReady_0 rfl ?_
  refine pw_gI 31 31 rfl dX10_isReady_1 cOk10 (by assumption) (by decide) kw_1096 (by decide) (fun r1 => ?_)
  refine pw_if_eq 25 (by decide) dX10_isReady_4 (by omega) (fun c4 => ?_) (fun c4 => ?_)
  · skip
    refine pw_iconst dX10_isReady_25 ?_
    refine pw_zret dX10_isReady_26 rfl (by omega) rfl ?_
    refine ⟨congrArg (fun z => some (vi z)) ?_, rfl, rfl⟩
    (repeat' split) <;> first | rfl | omega
  · skip
    refine pw_aload_n 0 rfl dX10_isReady_7 rfl ?_
    refine pw_gI 32 32 rfl dX10_isReady_8 cOk10 (by assumption) (by decide) kw_1097 (by decide) (fun r8 => ?_)
    refine pw_if_ne 25 (by decide) dX10_isReady_11 (by omega) (fun c11 => ?_) (fun c11 => ?_)
    · skip
      refine pw_iconst dX10_isReady_25 ?_
      refine pw_zret dX10_isReady_26 rfl (by omega) rfl ?_
      refine ⟨congrArg (fun z => some (vi z)) ?_, rfl, rfl⟩
      (repeat' split) <;> first | rfl | omega
    · skip
      refine pw_aload_n 0 rfl dX10_isReady_14 rfl ?_
      refine pw_callV (d' := d - 1) (As := []) (ci := 10) dX10_isReady_15 ok_X10_isWhole kw_1513 rfl rfl (Of.o (by assumption)) (by omega) rfl (Nat.le_of_ble_eq_true rfl) (r_isWhole (d - 1) (by omega) n ok _ hU) (Nat.le_refl _) (Or.inl rfl) (fun r ok1 mem1 hq => ?_)
      obtain ⟨rfl, rfl, rfl⟩ := hq
      refine pw_if_eq 25 (by decide) dX10_isReady_18 (by split <;> omega) (fun c18 => ?_) (fun c18 => ?_)
      · skip
        rw [bz_0] at c18
        refine pw_iconst dX10_isReady_25 ?_
        refine pw_zret dX10_isReady_26 rfl (by omega) rfl ?_
        refine ⟨congrArg (fun z => some (vi z)) ?_, rfl, rfl⟩
        (repeat' split) <;> first | rfl | omega
      · skip
        rw [bz_n] at c18
        refine pw_iconst dX10_isReady_21 ?_
        refine pw_goto 26 (by decide) dX10_isReady_22 ?_
        refine pw_zret dX10_isReady_26 rfl (by omega) rfl ?_
        refine ⟨congrArg (fun z => some (vi z)) ?_, rfl, rfl⟩
        (repeat' split) <;> first | rfl | omega
def rMarked (m : pM) (x : Int) : Int × pM := rSay m (if ¬ (0 ≤ x ∧ x ≤ 1023) then -1 else if m 119 x = 0 then 0 else 1)
set_option maxHeartbeats 4000000 in
set_option maxRecDepth 100000 in
theorem r_marked (d : Nat) (hd : 2 ≤ d) (n : Nat) (ok : pO) (mem : pM) (hU : RefUp n ok) (x : Int) (hx : -2147483648 ≤ x ∧ x ≤ 2147483647)  : PM mi_X10_marked d [vr 88, vi x] n ok mem n (fun r ok' mem' => r = some (vi (rMarked mem x).1) ∧ ok = ok' ∧ (rMarked mem x).2 = mem') := by
  obtain ⟨hO, ⟨a89, a90, a91, a92, a93, a94, a95, a96, a97, a98⟩, ⟨a99, a100, a101, a102, a103, a104, a105, a106, a107⟩, ⟨a108, a109, a110, a111, a112, a113, a114, a115, a116, a117, a118, a119⟩, a120, a121, a122⟩ := id hU
  refine PM.of (by decide) (by decide) (Nat.le_refl _) (Nat.le_of_ble_eq_true rfl) ?_
  refine pw_aload_n 0 rfl dX10_marked_0 rfl ?_
  refine pw_iload_n 1 rfl dX10_marked_1 rfl ?_
  refine pw_i2l dX10_marked_2 (by omega) ?_
  refine pw_lconst (x := 0) dX10_marked_3 (by decide) ?_
  refine pw_ldc2 (x := 1023) kw_1533 (by decide) dX10_marked_4 ?_
  refine pw_callS (d' := d - 1) (As := [_, _, _]) dX10_marked_7 ok_X10_in kw_1245 (by omega) rfl (Nat.le_of_ble_eq_true rfl) (r_in (d - 1) (by omega) n ok _ _ _ _ (by omega) (by omega) (by omega)) (Nat.le_refl _) (Or.inl rfl) (fun r ok1 mem1 hq => ?_)
  obtain ⟨rfl, rfl, rfl⟩ := hq
  refine pw_if_ne 17 (by decide) dX10_marked_10 (by split <;> omega) (fun c10 => ?_) (fun c10 => ?_)
  · skip
    rw [ne_eq, bz_n] at c10
    refine pw_aload_n 0 rfl dX10_marked_17 rfl ?_
    refine pw_gR 49 119 dX10_marked_18 cOk10 (by assumption) (by decide) kw_1114 (by decide) rfl ?_
    refine pw_iload_n 1 rfl dX10_marked_21 rfl ?_
    refine pw_baload dX10_marked_22 (by assumption) (by omega) (by omega) (fun r22 => ?_)
    refine pw_if_eq 30 (by decide) dX10_marked_23 (by omega) (fun c23 => ?_) (fun c23 => ?_)
    · skip
      refine pw_iconst dX10_marked_30 ?_
      refine pw_callV (d' := d - 1) (As := [_]) (ci := 10) dX10_marked_31 ok_X10_says kw_1265 rfl rfl (Of.o (by assumption)) (by omega) rfl (Nat.le_of_ble_eq_true rfl) (r_says (d - 1) (by omega) n ok _ hU _) (Nat.le_refl _) (Or.inl rfl) (fun r ok1 mem1 hq => ?_)
      obtain ⟨rfl, rfl, rfl⟩ := hq
      refine pw_iret dX10_marked_34 rfl rfl ?_
      unfold rMarked; (repeat' split) <;> first | exact ⟨rfl, rfl, rfl⟩ | (exfalso; omega)
    · skip
      refine pw_iconst dX10_marked_26 ?_
      refine pw_goto 31 (by decide) dX10_marked_27 ?_
      refine pw_callV (d' := d - 1) (As := [_]) (ci := 10) dX10_marked_31 ok_X10_says kw_1265 rfl rfl (Of.o (by assumption)) (by omega) rfl (Nat.le_of_ble_eq_true rfl) (r_says (d - 1) (by omega) n ok _ hU _) (Nat.le_refl _) (Or.inl rfl) (fun r ok1 mem1 hq => ?_)
      obtain ⟨rfl, rfl, rfl⟩ := hq
      refine pw_iret dX10_marked_34 rfl rfl ?_
      unfold rMarked; (repeat' split) <;> first | exact ⟨rfl, rfl, rfl⟩ | (exfalso; omega)
  · skip
    rw [bz_0] at c10
    refine pw_iconst dX10_marked_13 ?_
    refine pw_goto 31 (by decide) dX10_marked_14 ?_
    refine pw_callV (d' := d - 1) (As := [_]) (ci := 10) dX10_marked_31 ok_X10_says kw_1265 rfl rfl (Of.o (by assumption)) (by omega) rfl (Nat.le_of_ble_eq_true rfl) (r_says (d - 1) (by omega) n ok _ hU _) (Nat.le_refl _) (Or.inl rfl) (fun r ok1 mem1 hq => ?_)
    obtain ⟨rfl, rfl, rfl⟩ := hq
    refine pw_iret dX10_marked_34 rfl rfl ?_
    unfold rMarked; (repeat' split) <;> first | exact ⟨rfl, rfl, rfl⟩ | (exfalso; omega)
def rShown (m : pM) (w : Int) : Int × pM := if ¬ (0 ≤ w ∧ w ≤ 2) then rRef m (-2) else rSay m (if w = 0 then m 88 50 else if w = 1 then m 88 51 else m 88 52)
set_option maxHeartbeats 4000000 in
set_option maxRecDepth 100000 in
theorem r_shown (d : Nat) (hd : 2 ≤ d) (n : Nat) (ok : pO) (mem : pM) (hU : RefUp n ok) (w : Int) (hw : -2147483648 ≤ w ∧ w ≤ 2147483647)  : PM mi_X10_shown d [vr 88, vi w] n ok mem n (fun r ok' mem' => r = some (vi (rShown mem w).1) ∧ ok = ok' ∧ (rShown mem w).2 = mem') := by
  obtain ⟨hO, ⟨a89, a90, a91, a92, a93, a94, a95, a96, a97, a98⟩, ⟨a99, a100, a101, a102, a103, a104, a105, a106, a107⟩, ⟨a108, a109, a110, a111, a112, a113, a114, a115, a116, a117, a118, a119⟩, a120, a121, a122⟩ := id hU
  refine PM.of (by decide) (by decide) (Nat.le_refl _) (Nat.le_of_ble_eq_true rfl) ?_
  refine pw_iload_n 1 rfl dX10_shown_0 rfl ?_
  refine pw_i2l dX10_shown_1 (by omega) ?_
  refine pw_lconst (x := 0) dX10_shown_2 (by decide) ?_
  refine pw_ldc2 (x := 2) kw_1244 (by decide) dX10_shown_3 ?_
  refine pw_callS (d' := d - 1) (As := [_, _, _]) dX10_shown_6 ok_X10_in kw_1245 (by omega) rfl (Nat.le_of_ble_eq_true rfl) (r_in (d - 1) (by omega) n ok _ _ _ _ (by omega) (by omega) (by omega)) (Nat.le_refl _) (Or.inl rfl) (fun r ok1 mem1 hq => ?_)
  obtain ⟨rfl, rfl, rfl⟩ := hq
  refine pw_if_ne 21 (by decide) dX10_shown_9 (by split <;> omega) (fun c9 => ?_) (fun c9 => ?_)
  · skip
    rw [ne_eq, bz_n] at c9
    refine pw_aload_n 0 rfl dX10_shown_21 rfl ?_
    refine pw_iload_n 1 rfl dX10_shown_22 rfl ?_
    refine pw_if_ne 33 (by decide) dX10_shown_23 (by omega) (fun c23 => ?_) (fun c23 => ?_)
    · skip
      refine pw_iload_n 1 rfl dX10_shown_33 rfl ?_
      refine pw_iconst dX10_shown_34 ?_
      refine pw_icmp_ne 45 (by decide) dX10_shown_35 (by omega) (by omega) (fun c35 => ?_) (fun c35 => ?_)
      · skip
        refine pw_aload_n 0 rfl dX10_shown_45 rfl ?_
        refine pw_gI 52 52 rfl dX10_shown_46 cOk10 (by assumption) (by decide) kw_1117 (by decide) (fun r46 => ?_)
        refine pw_callV (d' := d - 1) (As := [_]) (ci := 10) dX10_shown_49 ok_X10_says kw_1265 rfl rfl (Of.o (by assumption)) (by omega) rfl (Nat.le_of_ble_eq_true rfl) (r_says (d - 1) (by omega) n ok _ hU _) (Nat.le_refl _) (Or.inl rfl) (fun r ok1 mem1 hq => ?_)
        obtain ⟨rfl, rfl, rfl⟩ := hq
        refine pw_iret dX10_shown_52 rfl rfl ?_
        unfold rShown; (repeat' split) <;> first | exact ⟨rfl, rfl, rfl⟩ | (exfalso; omega)
      · skip
        refine pw_aload_n 0 rfl dX10_shown_38 rfl ?_
        refine pw_gI 51 51 rfl dX10_shown_39 cOk10 (by assumption) (by decide) kw_1116 (by decide) (fun r39 => ?_)
        refine pw_goto 49 (by decide) dX10_shown_42 ?_
        refine pw_callV (d' := d - 1) (As := [_]) (ci := 10) dX10_shown_49 ok_X10_says kw_1265 rfl rfl (Of.o (by assumption)) (by omega) rfl (Nat.le_of_ble_eq_true rfl) (r_says (d - 1) (by omega) n ok _ hU _) (Nat.le_refl _) (Or.inl rfl) (fun r ok1 mem1 hq => ?_)
        obtain ⟨rfl, rfl, rfl⟩ := hq
        refine pw_iret dX10_shown_52 rfl rfl ?_
        unfold rShown; (repeat' split) <;> first | exact ⟨rfl, rfl, rfl⟩ | (exfalso; omega)
    · skip
      refine pw_aload_n 0 rfl dX10_shown_26 rfl ?_
      refine pw_gI 50 50 rfl dX10_shown_27 cOk10 (by assumption) (by decide) kw_1115 (by decide) (fun r27 => ?_)
      refine pw_goto 49 (by decide) dX10_shown_30 ?_
      refine pw_callV (d' := d - 1) (As := [_]) (ci := 10) dX10_shown_49 ok_X10_says kw_1265 rfl rfl (Of.o (by assumption)) (by omega) rfl (Nat.le_of_ble_eq_true rfl) (r_says (d - 1) (by omega) n ok _ hU _) (Nat.le_refl _) (Or.inl rfl) (fun r ok1 mem1 hq => ?_)
      obtain ⟨rfl, rfl, rfl⟩ := hq
      refine pw_iret dX10_shown_52 rfl rfl ?_
      unfold rShown; (repeat' split) <;> first | exact ⟨rfl, rfl, rfl⟩ | (exfalso; omega)
  · skip
    rw [bz_0] at c9
    refine pw_aload_n 0 rfl dX10_shown_12 rfl ?_
    refine pw_bipush dX10_shown_13 (by decide) ?_
    refine pw_callV (d' := d - 1) (As := [_]) (ci := 10) dX10_shown_15 ok_X10_refuses kw_1249 rfl rfl (Of.o (by assumption)) (by omega) rfl (Nat.le_of_ble_eq_true rfl) (r_refuses (d - 1) (by omega) n ok _ hU _ (by omega)) (Nat.le_refl _) (Or.inl rfl) (fun r ok1 mem1 hq => ?_)
    obtain ⟨rfl, rfl, rfl⟩ := hq
    refine pw_goto 52 (by decide) dX10_shown_18 ?_
    refine pw_iret dX10_shown_52 rfl rfl ?_
    unfold rShown; (repeat' split) <;> first | exact ⟨rfl, rfl, rfl⟩ | (exfalso; omega)
def mkG (m : pM) (f v : Int) : Nat → Int
  | 0 => 0
  | k + 1 => mkG m f v k + (if m 119 (f + k) = v then 0 else 1)
theorem mkG_ran (m : pM) (f v : Int) (k : Nat) : 0 ≤ mkG m f v k ∧ mkG m f v k ≤ k := by
  induction k with
  | zero => exact ⟨Int.le_refl _, Int.le_refl _⟩
  | succ k ih => unfold mkG; split <;> omega
def rMark (m : pM) (f k v : Int) : Int × pM := if ¬ (0 ≤ f ∧ f ≤ 1024) ∨ ¬ (0 ≤ k ∧ k ≤ 1024) ∨ 1024 < f + k then rRef m (-3) else rSay (fiM m 119 f k v) (mkG m f v k.toNat)
set_option maxHeartbeats 4000000 in
set_option maxRecDepth 100000 in
theorem r_mark (d : Nat) (hd : 2 ≤ d) (n : Nat) (ok : pO) (mem : pM) (hU : RefUp n ok) (f k v : Int) (hf : -2147483648 ≤ f ∧ f ≤ 2147483647) (hk : -2147483648 ≤ k ∧ k ≤ 2147483647) (hv : -2147483648 ≤ v ∧ v ≤ 2147483647) (hv01 : v = 0 ∨ v = 1) : PM mi_X10_mark d [vr 88, vi f, vi k, vi v] n ok mem n (fun r ok' mem' => r = some (vi (rMark mem f k v).1) ∧ ok = ok' ∧ (rMark mem f k v).2 = mem') := by
  obtain ⟨hO, ⟨a89, a90, a91, a92, a93, a94, a95, a96, a97, a98⟩, ⟨a99, a100, a101, a102, a103, a104, a105, a106, a107⟩, ⟨a108, a109, a110, a111, a112, a113, a114, a115, a116, a117, a118, a119⟩, a120, a121, a122⟩ := id hU
  refine PM.of (by decide) (by decide) (Nat.le_refl _) (Nat.le_of_ble_eq_true rfl) ?_
  refine pw_iload_n 1 rfl dX10_mark_0 rfl ?_
  refine pw_i2l dX10_mark_1 (by omega) ?_
  refine pw_lconst (x := 0) dX10_mark_2 (by decide) ?_
  refine pw_ldc2 (x := 1024) kw_1575 (by decide) dX10_mark_3 ?_
  refine pw_callS (d' := d - 1) (As := [_, _, _]) dX10_mark_6 ok_X10_in kw_1245 (by omega) rfl (Nat.le_of_ble_eq_true rfl) (r_in (d - 1) (by omega) n ok _ _ _ _ (by omega) (by omega) (by omega)) (Nat.le_refl _) (Or.inl rfl) (fun r ok1 mem1 hq => ?_)
  obtain ⟨rfl, rfl, rfl⟩ := hq
  refine pw_if_eq 33 (by decide) dX10_mark_9 (by split <;> omega) (fun c9 => ?_) (fun c9 => ?_)
  · skip
    rw [bz_0] at c9
    refine pw_aload_n 0 rfl dX10_mark_33 rfl ?_
    refine pw_bipush dX10_mark_34 (by decide) ?_
    refine pw_callV (d' := d - 1) (As := [_]) (ci := 10) dX10_mark_36 ok_X10_refuses kw_1249 rfl rfl (Of.o (by assumption)) (by omega) rfl (Nat.le_of_ble_eq_true rfl) (r_refuses (d - 1) (by omega) n ok _ hU _ (by omega)) (Nat.le_refl _) (Or.inl rfl) (fun r ok1 mem1 hq => ?_)
    obtain ⟨rfl, rfl, rfl⟩ := hq
    refine pw_iret dX10_mark_39 rfl rfl ?_
    unfold rMark; (repeat' split) <;> first | exact ⟨rfl, rfl, rfl⟩ | (exfalso; omega)
  · skip
    rw [bz_n] at c9
    refine pw_iload_n 2 rfl dX10_mark_12 rfl ?_
    refine pw_i2l dX10_mark_13 (by omega) ?_
    refine pw_lconst (x := 0) dX10_mark_14 (by decide) ?_
    refine pw_ldc2 (x := 1024) kw_1575 (by decide) dX10_mark_15 ?_
    refine pw_callS (d' := d - 1) (As := [_, _, _]) dX10_mark_18 ok_X10_in kw_1245 (by omega) rfl (Nat.le_of_ble_eq_true rfl) (r_in (d - 1) (by omega) n ok _ _ _ _ (by omega) (by omega) (by omega)) (Nat.le_refl _) (Or.inl rfl) (fun r ok1 mem1 hq => ?_)
    obtain ⟨rfl, rfl, rfl⟩ := hq
    refine pw_if_eq 33 (by decide) dX10_mark_21 (by split <;> omega) (fun c21 => ?_) (fun c21 => ?_)
    · skip
      rw [bz_0] at c21
      refine pw_aload_n 0 rfl dX10_mark_33 rfl ?_
      refine pw_bipush dX10_mark_34 (by decide) ?_
      refine pw_callV (d' := d - 1) (As := [_]) (ci := 10) dX10_mark_36 ok_X10_refuses kw_1249 rfl rfl (Of.o (by assumption)) (by omega) rfl (Nat.le_of_ble_eq_true rfl) (r_refuses (d - 1) (by omega) n ok _ hU _ (by omega)) (Nat.le_refl _) (Or.inl rfl) (fun r ok1 mem1 hq => ?_)
      obtain ⟨rfl, rfl, rfl⟩ := hq
      refine pw_iret dX10_mark_39 rfl rfl ?_
      unfold rMark; (repeat' split) <;> first | exact ⟨rfl, rfl, rfl⟩ | (exfalso; omega)
    · skip
      rw [bz_n] at c21
      refine pw_iload_n 1 rfl dX10_mark_24 rfl ?_
      refine pw_iload_n 2 rfl dX10_mark_25 rfl ?_
      refine pw_iadd dX10_mark_26 ?_
      refine pw_sipush dX10_mark_27 (by decide) ?_
      refine pw_icmp_le 40 (by decide) dX10_mark_30 (by omega) (by omega) (fun c30 => ?_) (fun c30 => ?_)
      · skip
        refine pw_iconst dX10_mark_40 ?_
        refine pw_istore dX10_mark_41 (by decide) ?_
        refine pw_iload_n 1 rfl dX10_mark_43 rfl ?_
        refine pw_istore dX10_mark_44 (by decide) ?_
        have lp46 : ∀ (kz : Nat) (i : Nat) (x j : Int) (m1 : pM), k - (i : Int) < (kz : Int) → (j = f + i) → ((i : Int) ≤ k) → (x = mkG mem f v i) → (fiM mem 119 f i v = m1) → PW mi_X10_mark d n n (fun r ok' mem' => r = some (vi (rMark mem f k v).1) ∧ ok = ok' ∧ (rMark mem f k v).2 = mem') 46 [(0, vr 88), (1, vi f), (2, vi k), (3, vi v), (4, vi x), (5, vi j)] [] n ok m1 := by
          intro kz
          induction kz with
          | zero =>
            intro i x j m1 hk hj h1 h2 h3
            exact absurd hk (by omega)
          | succ kz ih =>
            intro i x j m1 hk hj h1 h2 h3
            have hp := mkG_ran mem f v i
            have e0 : m1 119 j = mem 119 (f + i) := by rw [← h3, ← hj]; exact fiM_o _ _ _ _ _ _ (by omega)
            refine pw_iload dX10_mark_46 rfl ?_
            refine pw_iload_n 1 rfl dX10_mark_48 rfl ?_
            refine pw_iload_n 2 rfl dX10_mark_49 rfl ?_
            refine pw_iadd dX10_mark_50 ?_
            refine pw_icmp_ge 89 (by decide) dX10_mark_51 (by omega) (by omega) (fun c51 => ?_) (fun c51 => ?_)
            · skip
              refine pw_aload_n 0 rfl dX10_mark_89 rfl ?_
              refine pw_iload dX10_mark_90 rfl ?_
              refine pw_callV (d' := d - 1) (As := [_]) (ci := 10) dX10_mark_92 ok_X10_says kw_1265 rfl rfl (Of.o (by assumption)) (by omega) rfl (Nat.le_of_ble_eq_true rfl) (r_says (d - 1) (by omega) n ok _ hU _) (Nat.le_refl _) (Or.inl rfl) (fun r ok1 mem1 hq => ?_)
              obtain ⟨rfl, rfl, rfl⟩ := hq
              refine pw_iret dX10_mark_95 rfl rfl ?_
              have e9 : (i : Int) = k := by omega
              have e8 : i = k.toNat := by omega
              rw [← h3, e9, h2, e8]
              have e7 : rMark mem f k v = rSay (fiM mem 119 f k v) (mkG mem f v k.toNat) := by unfold rMark; rw [if_neg (by omega)]
              rw [e7]
              exact ⟨rfl, rfl, rfl⟩
            · skip
              refine pw_iload dX10_mark_54 rfl ?_
              refine pw_aload_n 0 rfl dX10_mark_56 rfl ?_
              refine pw_gR 49 119 dX10_mark_57 cOk10 (by assumption) (by decide) kw_1114 (by decide) rfl ?_
              refine pw_iload dX10_mark_60 rfl ?_
              refine pw_baload dX10_mark_62 (by assumption) (by omega) (by omega) (fun r62 => ?_)
              try simp (disch := omega) only [wr_s, wr_a, wr_k] at r62 ⊢
              rw [e0] at r62 ⊢
              refine pw_iload_n 3 rfl dX10_mark_63 rfl ?_
              refine pw_icmp_eq 71 (by decide) dX10_mark_64 (by omega) (by omega) (fun c64 => ?_) (fun c64 => ?_)
              · skip
                refine pw_iconst dX10_mark_71 ?_
                refine pw_iadd dX10_mark_72 ?_
                refine pw_istore dX10_mark_73 (by decide) ?_
                refine pw_aload_n 0 rfl dX10_mark_75 rfl ?_
                refine pw_gR 49 119 dX10_mark_76 cOk10 (by assumption) (by decide) kw_1114 (by decide) rfl ?_
                refine pw_iload dX10_mark_79 rfl ?_
                refine pw_iload_n 3 rfl dX10_mark_81 rfl ?_
                refine pw_bastore dX10_mark_82 (by assumption) (by omega) (by omega) hv01 ?_
                refine pw_iinc dX10_mark_83 rfl (by decide) ?_
                refine pw_goto 46 (by decide) dX10_mark_86 ?_
                exact pw_locs _ rfl (ih (i + 1) (x + 0) (j + 1) _ (by omega) (by omega) (by omega) (by subst h2; show _ = mkG mem f v i + _; rw [if_pos c64]) (by rw [← h3, hj]; exact (fiM_s _ 119 f i v (by omega)).symm))
              · skip
                refine pw_iconst dX10_mark_67 ?_
                refine pw_goto 72 (by decide) dX10_mark_68 ?_
                refine pw_iadd dX10_mark_72 ?_
                refine pw_istore dX10_mark_73 (by decide) ?_
                refine pw_aload_n 0 rfl dX10_mark_75 rfl ?_
                refine pw_gR 49 119 dX10_mark_76 cOk10 (by assumption) (by decide) kw_1114 (by decide) rfl ?_
                refine pw_iload dX10_mark_79 rfl ?_
                refine pw_iload_n 3 rfl dX10_mark_81 rfl ?_
                refine pw_bastore dX10_mark_82 (by assumption) (by omega) (by omega) hv01 ?_
                refine pw_iinc dX10_mark_83 rfl (by decide) ?_
                refine pw_goto 46 (by decide) dX10_mark_86 ?_
                exact pw_locs _ rfl (ih (i + 1) (x + 1) (j + 1) _ (by omega) (by omega) (by omega) (by subst h2; show _ = mkG mem f v i + _; rw [if_neg c64]) (by rw [← h3, hj]; exact (fiM_s _ 119 f i v (by omega)).symm))
        exact pw_locs _ rfl (lp46 (k.toNat + 1) 0 0 f mem (by omega) (by omega) (by omega) rfl (fiM_0 _ _ _ _))
      · skip
        refine pw_aload_n 0 rfl dX10_mark_33 rfl ?_
        refine pw_bipush dX10_mark_34 (by decide) ?_
        refine pw_callV (d' := d - 1) (As := [_]) (ci := 10) dX10_mark_36 ok_X10_refuses kw_1249 rfl rfl (Of.o (by assumption)) (by omega) rfl (Nat.le_of_ble_eq_true rfl) (r_refuses (d - 1) (by omega) n ok _ hU _ (by omega)) (Nat.le_refl _) (Or.inl rfl) (fun r ok1 mem1 hq => ?_)
        obtain ⟨rfl, rfl, rfl⟩ := hq
        refine pw_iret dX10_mark_39 rfl rfl ?_
        unfold rMark; (repeat' split) <;> first | exact ⟨rfl, rfl, rfl⟩ | (exfalso; omega)
def maM (m : pM) (k : Int) : pM := fun b j => if b = 119 ∧ 0 ≤ j ∧ j < k then (if m 109 j = -1 then 0 else 1) else m b j
theorem maM_bc (m : pM) (k : Int) : maM m k = bcM m 119 0 k (fun j => if m 109 j = -1 then 0 else 1) := by
  funext b j; unfold maM bcM
  rw [Int.zero_add, Int.sub_zero]
def rMarkAll (m : pM) : Int × pM := if m 88 31 = 0 then rRef m (-4) else rSay (maM m 1024) (m 88 34)
set_option maxHeartbeats 4000000 in
set_option maxRecDepth 100000 in
theorem r_markAll (d : Nat) (hd : 2 ≤ d) (n : Nat) (ok : pO) (mem : pM) (hU : RefUp n ok)   : PM mi_X10_markAll d [vr 88] n ok mem n (fun r ok' mem' => r = some (vi (rMarkAll mem).1) ∧ ok = ok' ∧ (rMarkAll mem).2 = mem') := by
  obtain ⟨hO, ⟨a89, a90, a91, a92, a93, a94, a95, a96, a97, a98⟩, ⟨a99, a100, a101, a102, a103, a104, a105, a106, a107⟩, ⟨a108, a109, a110, a111, a112, a113, a114, a115, a116, a117, a118, a119⟩, a120, a121, a122⟩ := id hU
  refine PM.of (by decide) (by decide) (Nat.le_refl _) (Nat.le_of_ble_eq_true rfl) ?_
  refine pw_aload_n 0 rfl dX10_markAll_0 rfl ?_
  refine pw_gI 31 31 rfl dX10_markAll_1 cOk10 (by assumption) (by decide) kw_1096 (by decide) (fun r1 => ?_)
  refine pw_if_ne 14 (by decide) dX10_markAll_4 (by omega) (fun c4 => ?_) (fun c4 => ?_)
  · skip
    refine pw_iconst dX10_markAll_14 ?_
    refine pw_istore_n 1 rfl dX10_markAll_15 (by decide) ?_
    have lp16 : ∀ (kz : Nat) (i : Nat) (m1 : pM), 1024 - (i : Int) < (kz : Int) → (i ≤ 1024) → (bcM mem 119 0 i (fun j => if mem 109 j = -1 then 0 else 1) = m1) → PW mi_X10_markAll d n n (fun r ok' mem' => r = some (vi (rMarkAll mem).1) ∧ ok = ok' ∧ (rMarkAll mem).2 = mem') 16 [(0, vr 88), (1, vi (i : Int))] [] n ok m1 := by
      intro kz
      induction kz with
      | zero =>
        intro i m1 hk h1 h3
        exact absurd hk (by omega)
      | succ kz ih =>
        intro i m1 hk h1 h3
        have e0 : m1 109 = mem 109 := by rw [← h3]; exact bcM_a _ _ _ _ (by omega)
        have e1 : m1 88 = mem 88 := by rw [← h3]; exact bcM_a _ _ _ _ (by omega)
        refine pw_iload_n 1 rfl dX10_markAll_16 rfl ?_
        refine pw_sipush dX10_markAll_17 (by decide) ?_
        refine pw_icmp_ge 50 (by decide) dX10_markAll_20 (by omega) (by omega) (fun c20 => ?_) (fun c20 => ?_)
        · skip
          refine pw_aload_n 0 rfl dX10_markAll_50 rfl ?_
          refine pw_aload_n 0 rfl dX10_markAll_51 rfl ?_
          refine pw_gI 34 34 rfl dX10_markAll_52 cOk10 (by assumption) (by decide) kw_1099 (by decide) (fun r52 => ?_)
          try simp (disch := omega) only [wr_s, wr_a, wr_k] at r52 ⊢
          rw [e1] at r52 ⊢
          refine pw_callV (d' := d - 1) (As := [_]) (ci := 10) dX10_markAll_55 ok_X10_says kw_1265 rfl rfl (Of.o (by assumption)) (by omega) rfl (Nat.le_of_ble_eq_true rfl) (r_says (d - 1) (by omega) n ok _ hU _) (Nat.le_refl _) (Or.inl rfl) (fun r ok1 mem1 hq => ?_)
          obtain ⟨rfl, rfl, rfl⟩ := hq
          refine pw_iret dX10_markAll_58 rfl rfl ?_
          have e9 : i = 1024 := by omega
          subst e9
          rw [← h3]
          have e7 : rMarkAll mem = rSay (bcM mem 119 0 1024 (fun j => if mem 109 j = -1 then 0 else 1)) (mem 88 34) := by unfold rMarkAll; rw [if_neg c4, maM_bc]
          rw [e7]
          exact ⟨rfl, rfl, rfl⟩
        · skip
          refine pw_aload_n 0 rfl dX10_markAll_23 rfl ?_
          refine pw_gR 49 119 dX10_markAll_24 cOk10 (by assumption) (by decide) kw_1114 (by decide) rfl ?_
          refine pw_iload_n 1 rfl dX10_markAll_27 rfl ?_
          refine pw_aload_n 0 rfl dX10_markAll_28 rfl ?_
          refine pw_gR 38 109 dX10_markAll_29 cOk10 (by assumption) (by decide) kw_1103 (by decide) rfl ?_
          refine pw_iload_n 1 rfl dX10_markAll_32 rfl ?_
          refine pw_iaload dX10_markAll_33 (by assumption) (by omega) (by omega) (fun r33 => ?_)
          try simp (disch := omega) only [wr_s, wr_a, wr_k] at r33 ⊢
          rw [e0] at r33 ⊢
          refine pw_iconst dX10_markAll_34 ?_
          refine pw_icmp_eq 42 (by decide) dX10_markAll_35 (by omega) (by omega) (fun c35 => ?_) (fun c35 => ?_)
          · skip
            refine pw_iconst dX10_markAll_42 ?_
            refine pw_bastore dX10_markAll_43 (by assumption) (by omega) (by omega) (by omega) ?_
            refine pw_iinc dX10_markAll_44 rfl (by decide) ?_
            refine pw_goto 16 (by decide) dX10_markAll_47 ?_
            exact pw_locs _ rfl (ih (i + 1) _ (by omega) (by omega) (by rw [← h3, ← Int.zero_add (i : Int)]; show bcM mem 119 0 ((i : Int) + 1) _ = _; have e5 := (bcM_s mem 119 0 i (fun j => if mem 109 j = -1 then 0 else 1) (by omega)).symm; rw [e5]; simp only [Int.zero_add, if_pos c35]))
          · skip
            refine pw_iconst dX10_markAll_38 ?_
            refine pw_goto 43 (by decide) dX10_markAll_39 ?_
            refine pw_bastore dX10_markAll_43 (by assumption) (by omega) (by omega) (by omega) ?_
            refine pw_iinc dX10_markAll_44 rfl (by decide) ?_
            refine pw_goto 16 (by decide) dX10_markAll_47 ?_
            exact pw_locs _ rfl (ih (i + 1) _ (by omega) (by omega) (by rw [← h3]; show bcM mem 119 0 ((i : Int) + 1) _ = _; have e5 := (bcM_s mem 119 0 i (fun j => if mem 109 j = -1 then 0 else 1) (by omega)).symm; rw [e5]; simp only [Int.zero_add, if_neg c35]))
    exact pw_locs _ rfl (lp16 1025 0 mem (by omega) (by omega) (bcM_0 _ _ _ _))
  · skip
    refine pw_aload_n 0 rfl dX10_markAll_7 rfl ?_
    refine pw_bipush dX10_markAll_8 (by decide) ?_
    refine pw_callV (d' := d - 1) (As := [_]) (ci := 10) dX10_markAll_10 ok_X10_refuses kw_1249 rfl rfl (Of.o (by assumption)) (by omega) rfl (Nat.le_of_ble_eq_true rfl) (r_refuses (d - 1) (by omega) n ok _ hU _ (by omega)) (Nat.le_refl _) (Or.inl rfl) (fun r ok1 mem1 hq => ?_)
    obtain ⟨rfl, rfl, rfl⟩ := hq
    refine pw_iret dX10_markAll_13 rfl rfl ?_
    unfold rMarkAll; (repeat' split) <;> first | exact ⟨rfl, rfl, rfl⟩ | (exfalso; omega)
def rLook (m : pM) (a b e : Int) : pM := wr (wr (wr m 88 50 a) 88 51 b) 88 52 e
set_option maxHeartbeats 4000000 in
set_option maxRecDepth 100000 in
theorem r_lookedAt (d : Nat) (hd : 0 ≤ d) (n : Nat) (ok : pO) (mem : pM) (hU : RefUp n ok) (a b e : Int) (ha : -2147483648 ≤ a ∧ a ≤ 2147483647) (hb : -2147483648 ≤ b ∧ b ≤ 2147483647) (he : -2147483648 ≤ e ∧ e ≤ 2147483647) : PM mi_X10_lookedAt d [vr 88, vi a, vi b, vi e] n ok mem n (fun r ok' mem' => r = some (vi (if a = -1 then 1 else 0)) ∧ ok = ok' ∧ rLook mem a b e = mem') := by
  obtain ⟨hO, ⟨a89, a90, a91, a92, a93, a94, a95, a96, a97, a98⟩, ⟨a99, a100, a101, a102, a103, a104, a105, a106, a107⟩, ⟨a108, a109, a110, a111, a112, a113, a114, a115, a116, a117, a118, a119⟩, a120, a121, a122⟩ := id hU
  refine PM.of (by decide) (by decide) (Nat.le_refl _) (Nat.le_of_ble_eq_true rfl) ?_
  refine pw_aload_n 0 rfl dX10_lookedAt_0 rfl ?_
  refine pw_iload_n 1 rfl dX10_lookedAt_1 rfl ?_
  refine pw_pI 50 50 rfl dX10_lookedAt_2 cOk10 (by assumption) (by decide) kw_1115 rfl rfl (by decide) (by omega) ?_
  refine pw_aload_n 0 rfl dX10_lookedAt_5 rfl ?_
  refine pw_iload_n 2 rfl dX10_lookedAt_6 rfl ?_
  refine pw_pI 51 51 rfl dX10_lookedAt_7 cOk10 (by assumption) (by decide) kw_1116 rfl rfl (by decide) (by omega) ?_
  refine pw_aload_n 0 rfl dX10_lookedAt_10 rfl ?_
  refine pw_iload_n 3 rfl dX10_lookedAt_11 rfl ?_
  refine pw_pI 52 52 rfl dX10_lookedAt_12 cOk10 (by assumption) (by decide) kw_1117 rfl rfl (by decide) (by omega) ?_
  refine pw_iload_n 1 rfl dX10_lookedAt_15 rfl ?_
  refine pw_iconst dX10_lookedAt_16 ?_
  refine pw_icmp_ne 24 (by decide) dX10_lookedAt_17 (by omega) (by omega) (fun c17 => ?_) (fun c17 => ?_)
  · skip
    refine pw_iconst dX10_lookedAt_24 ?_
    refine pw_iret dX10_lookedAt_25 rfl rfl ?_
    rw [if_neg c17]; exact ⟨rfl, rfl, rfl⟩
  · skip
    refine pw_iconst dX10_lookedAt_20 ?_
    refine pw_goto 25 (by decide) dX10_lookedAt_21 ?_
    refine pw_iret dX10_lookedAt_25 rfl rfl ?_
    rw [if_pos c17]; exact ⟨rfl, rfl, rfl⟩
