/-! ===== alike, export, digest ===== -/
theorem rowB_c {m m1 : pM} (h : ∀ a, 89 ≤ a → a ≤ 100 → m1 a = m a) (c r : Int) (k : Nat) : rowB m1 c r k = rowB m c r k := by
  induction k with
  | zero => rfl
  | succ k ih => unfold rowB; rw [ih, h 90 (by omega) (by omega), h 91 (by omega) (by omega), h 92 (by omega) (by omega), h 93 (by omega) (by omega)]
theorem rwsB_c {m m1 : pM} (h : ∀ a, 89 ≤ a → a ≤ 100 → m1 a = m a) (c : Int) (r : Nat) : rwsB m1 c r = rwsB m c r := by
  induction r with
  | zero => rfl
  | succ r ih => unfold rwsB; rw [ih, h 89 (by omega) (by omega), rowB_c h]
theorem trB_c {m m1 : pM} (h : ∀ a, 89 ≤ a → a ≤ 100 → m1 a = m a) (q : Int) (k : Nat) : trB m1 q k = trB m q k := by
  induction k with
  | zero => rfl
  | succ k ih => unfold trB; rw [ih, h 98 (by omega) (by omega)]
theorem cdB_c {m m1 : pM} (h : ∀ a, 89 ≤ a → a ≤ 100 → m1 a = m a) (c : Int) (k : Nat) : cdB m1 c k = cdB m c k := by
  induction k with
  | zero => rfl
  | succ k ih => unfold cdB; rw [ih, h 95 (by omega) (by omega), h 96 (by omega) (by omega), h 97 (by omega) (by omega), trB_c h]
theorem wA_c {m m1 : pM} (h : ∀ a, 89 ≤ a → a ≤ 100 → m1 a = m a) (c : Int) : wA m1 c = wA m c := by
  have e : wL m1 c = wL m c := by unfold wL; rw [rwsB_c h, cdB_c h, h 94 (by omega) (by omega), h 99 (by omega) (by omega), h 100 (by omega) (by omega)]
  unfold wA; rw [e]
theorem cIn_c {m m1 : pM} (h : ∀ a, 89 ≤ a → a ≤ 100 → m1 a = m a) {c : Int} (hc : cIn m c) : cIn m1 c := by
  have e : pW m1 c 16 = pW m c 16 := pW_s (fun a h1 h2 _ => h a h1 (by omega)) c 16
  unfold cIn
  rw [e, h 89 (by omega) (by omega), h 90 (by omega) (by omega), h 91 (by omega) (by omega), h 92 (by omega) (by omega), h 93 (by omega) (by omega), h 94 (by omega) (by omega), h 95 (by omega) (by omega), h 96 (by omega) (by omega), h 97 (by omega) (by omega), h 98 (by omega) (by omega), h 99 (by omega) (by omega), h 100 (by omega) (by omega)]
  exact hc
def rAlike (m : pM) (a b : Int) : Int := if ¬ (0 ≤ a ∧ a ≤ 2) ∨ ¬ (0 ≤ b ∧ b ≤ 2) then -2 else if wA m a = wA m b then 1 else 0
set_option maxHeartbeats 4000000 in
set_option maxRecDepth 100000 in
theorem r_alike (d : Nat) (hd : 2 ≤ d) (n : Nat) (ok : pO) (mem : pM) (hU : RefUp n ok) (a b : Int) (ha : -2147483648 ≤ a ∧ a ≤ 2147483647) (hb : -2147483648 ≤ b ∧ b ≤ 2147483647) (hI : ∀ c, 0 ≤ c → c ≤ 2 → cIn mem c) : PM mi_X10_alike d [vr 88, vi a, vi b] n ok mem n (fun r ok' mem' => r = some (vi (rAlike mem a b)) ∧ ok = ok' ∧ ∀ x, x ≠ 120 → x ≠ 121 → mem' x = mem x) := by
  obtain ⟨hO, ⟨a89, a90, a91, a92, a93, a94, a95, a96, a97, a98⟩, ⟨a99, a100, a101, a102, a103, a104, a105, a106, a107⟩, ⟨a108, a109, a110, a111, a112, a113, a114, a115, a116, a117, a118, a119⟩, a120, a121, a122⟩ := id hU
  refine PM.of (by decide) (by decide) (Nat.le_refl _) (Nat.le_of_ble_eq_true rfl) ?_
  refine pw_iload_n 1 rfl dX10_alike_0 rfl ?_
  refine pw_callS (d' := d - 1) (As := [_]) dX10_alike_1 ok_X10_isChest kw_1241 (by omega) rfl (Nat.le_of_ble_eq_true rfl) (r_isChest (d - 1) (by omega) n ok _ _ (by omega)) (Nat.le_refl _) (Or.inl rfl) (fun r ok1 mem1 hq => ?_)
  obtain ⟨rfl, rfl, rfl⟩ := hq
  refine pw_if_eq 14 (by decide) dX10_alike_4 (by split <;> omega) (fun c4 => ?_) (fun c4 => ?_)
  · skip
    rw [bz_0] at c4
    refine pw_bipush dX10_alike_14 (by decide) ?_
    refine pw_iret dX10_alike_16 rfl rfl ?_
    refine ⟨congrArg (fun z => some (vi z)) ?_, rfl, fun _ _ _ => rfl⟩
    unfold rAlike; rw [if_pos (by omega)]
  · skip
    rw [bz_n] at c4
    refine pw_iload_n 2 rfl dX10_alike_7 rfl ?_
    refine pw_callS (d' := d - 1) (As := [_]) dX10_alike_8 ok_X10_isChest kw_1241 (by omega) rfl (Nat.le_of_ble_eq_true rfl) (r_isChest (d - 1) (by omega) n ok _ _ (by omega)) (Nat.le_refl _) (Or.inl rfl) (fun r ok1 mem1 hq => ?_)
    obtain ⟨rfl, rfl, rfl⟩ := hq
    refine pw_if_ne 17 (by decide) dX10_alike_11 (by split <;> omega) (fun c11 => ?_) (fun c11 => ?_)
    · skip
      rw [ne_eq, bz_n] at c11
      refine pw_aload_n 0 rfl dX10_alike_17 rfl ?_
      refine pw_iload_n 1 rfl dX10_alike_18 rfl ?_
      refine pw_callV (d' := d - 1) (As := [_]) (ci := 10) dX10_alike_19 ok_X10_writesOut kw_1604 rfl rfl (Of.o (by assumption)) (by omega) rfl (Nat.le_of_ble_eq_true rfl) (r_writesOut (d - 1) (by omega) n ok mem hU a (by omega) (hI a (by omega) (by omega))) (Nat.le_refl _) (Or.inl rfl) (fun r ok1 m2 hq => ?_)
      obtain ⟨rfl, rfl, hL, hF⟩ := hq
      have hla := wL_len (hI a (by omega) (by omega))
      have hla2 := wA_len mem a
      refine pw_istore_n 3 rfl dX10_alike_22 (by decide) ?_
      refine pw_iconst dX10_alike_23 ?_
      refine pw_istore dX10_alike_24 (by decide) ?_
      have lp26 : ∀ (kz : Nat) (i : Nat) (m1 : pM), ((wA mem a).length : Int) - (i : Int) < (kz : Int) → (i ≤ (wA mem a).length) → (LW m1 120 (wA mem a)) → (∀ j : Nat, j < i → m1 121 j = nth (wA mem a) j) → (∀ x, x ≠ 120 → x ≠ 121 → m1 x = mem x) → PW mi_X10_alike d n n (fun r ok' mem' => r = some (vi (rAlike mem a b)) ∧ ok = ok' ∧ ∀ x, x ≠ 120 → x ≠ 121 → mem' x = mem x) 26 [(0, vr 88), (1, vi a), (2, vi b), (3, vi ((wA mem a).length : Int)), (4, vi (i : Int))] [] n ok m1 := by
        intro kz
        induction kz with
        | zero =>
          intro i m1 hk hi hL1 hC hFr
          exact absurd hk (by omega)
        | succ kz ih =>
          intro i m1 hk hi hL1 hC hFr
          refine pw_iload dX10_alike_26 rfl ?_
          refine pw_iload_n 3 rfl dX10_alike_28 rfl ?_
          refine pw_icmp_ge 52 (by decide) dX10_alike_29 (by omega) (by omega) (fun c29 => ?_) (fun c29 => ?_)
          · skip
            have ei : i = (wA mem a).length := by omega
            have eB : wA m1 b = wA mem b := wA_c (fun x q1 q2 => hFr x (by omega) (by omega)) b
            have hla3 := wL_len (hI b (by omega) (by omega))
            have hla4 := wA_len mem b
            refine pw_aload_n 0 rfl dX10_alike_52 rfl ?_
            refine pw_iload_n 2 rfl dX10_alike_53 rfl ?_
            refine pw_callV (d' := d - 1) (As := [_]) (ci := 10) dX10_alike_54 ok_X10_writesOut kw_1604 rfl rfl (Of.o (by assumption)) (by omega) rfl (Nat.le_of_ble_eq_true rfl) (r_writesOut (d - 1) (by omega) n ok m1 hU b (by omega) (cIn_c (fun x q1 q2 => hFr x (by omega) (by omega)) (hI b (by omega) (by omega)))) (Nat.le_refl _) (Or.inl rfl) (fun r ok1 m3 hq => ?_)
            obtain ⟨rfl, rfl, hL3, hF3⟩ := hq
            rw [eB] at hL3
            rw [eB]
            have hC3 : LW m3 121 (wA mem a) := fun j hj => by rw [hF3 121 (by omega)]; exact hC j (by omega)
            have hFr3 : ∀ x, x ≠ 120 → x ≠ 121 → m3 x = mem x := fun x h1 h2 => (hF3 x h1).trans (hFr x h1 h2)
            refine pw_iload_n 3 rfl dX10_alike_57 rfl ?_
            refine pw_icmp_ne 65 (by decide) dX10_alike_58 (by omega) (by omega) (fun c58 => ?_) (fun c58 => ?_)
            · skip
              have hy0 : (((0 : Int) = 1 ∧ (wA mem b).length = (wA mem a).length ∧ ∀ j : Nat, j < 0 → nth (wA mem a) j = nth (wA mem b) j) ∨ ((0 : Int) = 0 ∧ wA mem a ≠ wA mem b)) := Or.inr ⟨rfl, fun z => c58 (by rw [z])⟩
              refine pw_iconst dX10_alike_65 ?_
              refine pw_istore dX10_alike_66 (by decide) ?_
              refine pw_iconst dX10_alike_68 ?_
              refine pw_istore dX10_alike_69 (by decide) ?_
              have lp71 : ∀ (kz2 : Nat) (i : Nat) (y : Int), ((wA mem a).length : Int) - (i : Int) < (kz2 : Int) → (i ≤ (wA mem a).length) → ((y = 1 ∧ (wA mem b).length = (wA mem a).length ∧ ∀ j : Nat, j < i → nth (wA mem a) j = nth (wA mem b) j) ∨ (y = 0 ∧ wA mem a ≠ wA mem b)) → PW mi_X10_alike d n n (fun r ok' mem' => r = some (vi (rAlike mem a b)) ∧ ok = ok' ∧ ∀ x, x ≠ 120 → x ≠ 121 → mem' x = mem x) 71 [(0, vr 88), (1, vi a), (2, vi b), (3, vi ((wA mem a).length : Int)), (4, vi y), (5, vi (i : Int))] [] n ok m3 := by
                intro kz2
                induction kz2 with
                | zero =>
                  intro i y hk2 hi2 hy
                  exact absurd hk2 (by omega)
                | succ kz2 ih2 =>
                  intro i y hk2 hi2 hy
                  have hy1 : y = 0 ∨ y = 1 := by omega
                  refine pw_iload dX10_alike_71 rfl ?_
                  refine pw_iload_n 3 rfl dX10_alike_73 rfl ?_
                  refine pw_icmp_ge 112 (by decide) dX10_alike_74 (by omega) (by omega) (fun c74 => ?_) (fun c74 => ?_)
                  · skip
                    refine pw_iload dX10_alike_112 rfl ?_
                    refine pw_if_eq 121 (by decide) dX10_alike_114 (by omega) (fun c114 => ?_) (fun c114 => ?_)
                    · skip
                      refine pw_iconst dX10_alike_121 ?_
                      refine pw_iret dX10_alike_122 rfl rfl ?_
                      have hEq : wA mem a = wA mem b ↔ y = 1 := by
                        rcases hy with z | z
                        · exact ⟨fun _ => z.1, fun _ => nth_ext _ _ z.2.1.symm (fun j hj => z.2.2 j (by omega))⟩
                        · exact ⟨fun q => absurd q z.2, fun q => absurd q (by omega)⟩
                      refine ⟨congrArg (fun z => some (vi z)) ?_, rfl, hFr3⟩
                      unfold rAlike; rw [if_neg (by omega)]
                      first | (rw [if_pos (hEq.mpr (by omega))]) | (rw [if_neg (fun z => absurd (hEq.mp z) (by omega))])
                    · skip
                      refine pw_iconst dX10_alike_117 ?_
                      refine pw_goto 122 (by decide) dX10_alike_118 ?_
                      refine pw_iret dX10_alike_122 rfl rfl ?_
                      have hEq : wA mem a = wA mem b ↔ y = 1 := by
                        rcases hy with z | z
                        · exact ⟨fun _ => z.1, fun _ => nth_ext _ _ z.2.1.symm (fun j hj => z.2.2 j (by omega))⟩
                        · exact ⟨fun q => absurd q z.2, fun q => absurd q (by omega)⟩
                      refine ⟨congrArg (fun z => some (vi z)) ?_, rfl, hFr3⟩
                      unfold rAlike; rw [if_neg (by omega)]
                      first | (rw [if_pos (hEq.mpr (by omega))]) | (rw [if_neg (fun z => absurd (hEq.mp z) (by omega))])
                  · skip
                    skip
                    refine pw_iload dX10_alike_77 rfl ?_
                    refine pw_if_eq 112 (by decide) dX10_alike_79 (by omega) (fun c79 => ?_) (fun c79 => ?_)
                    · skip
                      refine pw_iload dX10_alike_112 rfl ?_
                      refine pw_if_eq 121 (by decide) dX10_alike_114 (by omega) (fun c114 => ?_) (fun c114 => ?_)
                      · skip
                        refine pw_iconst dX10_alike_121 ?_
                        refine pw_iret dX10_alike_122 rfl rfl ?_
                        have hEq : wA mem a = wA mem b ↔ y = 1 := by
                          rcases hy with z | z
                          · exact ⟨fun _ => z.1, fun _ => nth_ext _ _ z.2.1.symm (fun j hj => z.2.2 j (by omega))⟩
                          · exact ⟨fun q => absurd q z.2, fun q => absurd q (by omega)⟩
                        refine ⟨congrArg (fun z => some (vi z)) ?_, rfl, hFr3⟩
                        unfold rAlike; rw [if_neg (by omega)]
                        first | (rw [if_pos (hEq.mpr (by omega))]) | (rw [if_neg (fun z => absurd (hEq.mp z) (by omega))])
                      · skip
                        exfalso; omega
                    · skip
                      have hyy : y = 1 ∧ (wA mem b).length = (wA mem a).length ∧ ∀ j : Nat, j < i → nth (wA mem a) j = nth (wA mem b) j := by rcases hy with z | z; exact z; exact absurd z.1 c79
                      have e1 := hC3 i (by omega)
                      have e2 := hL3 i (by omega)
                      refine pw_aload_n 0 rfl dX10_alike_82 rfl ?_
                      refine pw_gR 54 121 dX10_alike_83 cOk10 (by assumption) (by decide) kw_1119 (by decide) rfl ?_
                      refine pw_iload dX10_alike_86 rfl ?_
                      refine pw_iaload dX10_alike_88 (by assumption) (by omega) (by omega) (fun r88 => ?_)
                      try simp (disch := omega) only [wr_s, wr_a, wr_k] at r88 ⊢
                      refine pw_aload_n 0 rfl dX10_alike_89 rfl ?_
                      refine pw_gR 53 120 dX10_alike_90 cOk10 (by assumption) (by decide) kw_1118 (by decide) rfl ?_
                      refine pw_iload dX10_alike_93 rfl ?_
                      refine pw_iaload dX10_alike_95 (by assumption) (by omega) (by omega) (fun r95 => ?_)
                      try simp (disch := omega) only [wr_s, wr_a, wr_k] at r95 ⊢
                      refine pw_icmp_ne 103 (by decide) dX10_alike_96 (by omega) (by omega) (fun c96 => ?_) (fun c96 => ?_)
                      · skip
                        refine pw_iconst dX10_alike_103 ?_
                        refine pw_istore dX10_alike_104 (by decide) ?_
                        refine pw_iinc dX10_alike_106 rfl (by decide) ?_
                        refine pw_goto 71 (by decide) dX10_alike_109 ?_
                        exact pw_locs _ rfl (ih2 (i + 1) 0 (by omega) (by omega) (Or.inr ⟨rfl, fun z => c96 (by rw [e1, e2, z])⟩))
                      · skip
                        refine pw_iconst dX10_alike_99 ?_
                        refine pw_goto 104 (by decide) dX10_alike_100 ?_
                        refine pw_istore dX10_alike_104 (by decide) ?_
                        refine pw_iinc dX10_alike_106 rfl (by decide) ?_
                        refine pw_goto 71 (by decide) dX10_alike_109 ?_
                        have hal : ∀ j : Nat, j < i + 1 → nth (wA mem a) j = nth (wA mem b) j := fun j hj => by
                          by_cases e : j = i
                          · subst e; rw [← e1, ← e2]; omega
                          · exact hyy.2.2 j (by omega)
                        exact pw_locs _ rfl (ih2 (i + 1) 1 (by omega) (by omega) (Or.inl ⟨rfl, hyy.2.1, hal⟩))
              exact pw_locs _ rfl (lp71 433 0 _ (by omega) (by omega) hy0)
            · skip
              have hy0 : (((1 : Int) = 1 ∧ (wA mem b).length = (wA mem a).length ∧ ∀ j : Nat, j < 0 → nth (wA mem a) j = nth (wA mem b) j) ∨ ((1 : Int) = 0 ∧ wA mem a ≠ wA mem b)) := Or.inl ⟨rfl, by omega, fun j hj => absurd hj (Nat.not_lt_zero j)⟩
              refine pw_iconst dX10_alike_61 ?_
              refine pw_goto 66 (by decide) dX10_alike_62 ?_
              refine pw_istore dX10_alike_66 (by decide) ?_
              refine pw_iconst dX10_alike_68 ?_
              refine pw_istore dX10_alike_69 (by decide) ?_
              have lp71 : ∀ (kz2 : Nat) (i : Nat) (y : Int), ((wA mem a).length : Int) - (i : Int) < (kz2 : Int) → (i ≤ (wA mem a).length) → ((y = 1 ∧ (wA mem b).length = (wA mem a).length ∧ ∀ j : Nat, j < i → nth (wA mem a) j = nth (wA mem b) j) ∨ (y = 0 ∧ wA mem a ≠ wA mem b)) → PW mi_X10_alike d n n (fun r ok' mem' => r = some (vi (rAlike mem a b)) ∧ ok = ok' ∧ ∀ x, x ≠ 120 → x ≠ 121 → mem' x = mem x) 71 [(0, vr 88), (1, vi a), (2, vi b), (3, vi ((wA mem a).length : Int)), (4, vi y), (5, vi (i : Int))] [] n ok m3 := by
                intro kz2
                induction kz2 with
                | zero =>
                  intro i y hk2 hi2 hy
                  exact absurd hk2 (by omega)
                | succ kz2 ih2 =>
                  intro i y hk2 hi2 hy
                  have hy1 : y = 0 ∨ y = 1 := by omega
                  refine pw_iload dX10_alike_71 rfl ?_
                  refine pw_iload_n 3 rfl dX10_alike_73 rfl ?_
                  refine pw_icmp_ge 112 (by decide) dX10_alike_74 (by omega) (by omega) (fun c74 => ?_) (fun c74 => ?_)
                  · skip
                    refine pw_iload dX10_alike_112 rfl ?_
                    refine pw_if_eq 121 (by decide) dX10_alike_114 (by omega) (fun c114 => ?_) (fun c114 => ?_)
                    · skip
                      refine pw_iconst dX10_alike_121 ?_
                      refine pw_iret dX10_alike_122 rfl rfl ?_
                      have hEq : wA mem a = wA mem b ↔ y = 1 := by
                        rcases hy with z | z
                        · exact ⟨fun _ => z.1, fun _ => nth_ext _ _ z.2.1.symm (fun j hj => z.2.2 j (by omega))⟩
                        · exact ⟨fun q => absurd q z.2, fun q => absurd q (by omega)⟩
                      refine ⟨congrArg (fun z => some (vi z)) ?_, rfl, hFr3⟩
                      unfold rAlike; rw [if_neg (by omega)]
                      first | (rw [if_pos (hEq.mpr (by omega))]) | (rw [if_neg (fun z => absurd (hEq.mp z) (by omega))])
                    · skip
                      refine pw_iconst dX10_alike_117 ?_
                      refine pw_goto 122 (by decide) dX10_alike_118 ?_
                      refine pw_iret dX10_alike_122 rfl rfl ?_
                      have hEq : wA mem a = wA mem b ↔ y = 1 := by
                        rcases hy with z | z
                        · exact ⟨fun _ => z.1, fun _ => nth_ext _ _ z.2.1.symm (fun j hj => z.2.2 j (by omega))⟩
                        · exact ⟨fun q => absurd q z.2, fun q => absurd q (by omega)⟩
                      refine ⟨congrArg (fun z => some (vi z)) ?_, rfl, hFr3⟩
                      unfold rAlike; rw [if_neg (by omega)]
                      first | (rw [if_pos (hEq.mpr (by omega))]) | (rw [if_neg (fun z => absurd (hEq.mp z) (by omega))])
                  · skip
                    skip
                    refine pw_iload dX10_alike_77 rfl ?_
                    refine pw_if_eq 112 (by decide) dX10_alike_79 (by omega) (fun c79 => ?_) (fun c79 => ?_)
                    · skip
                      refine pw_iload dX10_alike_112 rfl ?_
                      refine pw_if_eq 121 (by decide) dX10_alike_114 (by omega) (fun c114 => ?_) (fun c114 => ?_)
                      · skip
                        refine pw_iconst dX10_alike_121 ?_
                        refine pw_iret dX10_alike_122 rfl rfl ?_
                        have hEq : wA mem a = wA mem b ↔ y = 1 := by
                          rcases hy with z | z
                          · exact ⟨fun _ => z.1, fun _ => nth_ext _ _ z.2.1.symm (fun j hj => z.2.2 j (by omega))⟩
                          · exact ⟨fun q => absurd q z.2, fun q => absurd q (by omega)⟩
                        refine ⟨congrArg (fun z => some (vi z)) ?_, rfl, hFr3⟩
                        unfold rAlike; rw [if_neg (by omega)]
                        first | (rw [if_pos (hEq.mpr (by omega))]) | (rw [if_neg (fun z => absurd (hEq.mp z) (by omega))])
                      · skip
                        exfalso; omega
                    · skip
                      have hyy : y = 1 ∧ (wA mem b).length = (wA mem a).length ∧ ∀ j : Nat, j < i → nth (wA mem a) j = nth (wA mem b) j := by rcases hy with z | z; exact z; exact absurd z.1 c79
                      have e1 := hC3 i (by omega)
                      have e2 := hL3 i (by omega)
                      refine pw_aload_n 0 rfl dX10_alike_82 rfl ?_
                      refine pw_gR 54 121 dX10_alike_83 cOk10 (by assumption) (by decide) kw_1119 (by decide) rfl ?_
                      refine pw_iload dX10_alike_86 rfl ?_
                      refine pw_iaload dX10_alike_88 (by assumption) (by omega) (by omega) (fun r88 => ?_)
                      try simp (disch := omega) only [wr_s, wr_a, wr_k] at r88 ⊢
                      refine pw_aload_n 0 rfl dX10_alike_89 rfl ?_
                      refine pw_gR 53 120 dX10_alike_90 cOk10 (by assumption) (by decide) kw_1118 (by decide) rfl ?_
                      refine pw_iload dX10_alike_93 rfl ?_
                      refine pw_iaload dX10_alike_95 (by assumption) (by omega) (by omega) (fun r95 => ?_)
                      try simp (disch := omega) only [wr_s, wr_a, wr_k] at r95 ⊢
                      refine pw_icmp_ne 103 (by decide) dX10_alike_96 (by omega) (by omega) (fun c96 => ?_) (fun c96 => ?_)
                      · skip
                        refine pw_iconst dX10_alike_103 ?_
                        refine pw_istore dX10_alike_104 (by decide) ?_
                        refine pw_iinc dX10_alike_106 rfl (by decide) ?_
                        refine pw_goto 71 (by decide) dX10_alike_109 ?_
                        exact pw_locs _ rfl (ih2 (i + 1) 0 (by omega) (by omega) (Or.inr ⟨rfl, fun z => c96 (by rw [e1, e2, z])⟩))
                      · skip
                        refine pw_iconst dX10_alike_99 ?_
                        refine pw_goto 104 (by decide) dX10_alike_100 ?_
                        refine pw_istore dX10_alike_104 (by decide) ?_
                        refine pw_iinc dX10_alike_106 rfl (by decide) ?_
                        refine pw_goto 71 (by decide) dX10_alike_109 ?_
                        have hal : ∀ j : Nat, j < i + 1 → nth (wA mem a) j = nth (wA mem b) j := fun j hj => by
                          by_cases e : j = i
                          · subst e; rw [← e1, ← e2]; omega
                          · exact hyy.2.2 j (by omega)
                        exact pw_locs _ rfl (ih2 (i + 1) 1 (by omega) (by omega) (Or.inl ⟨rfl, hyy.2.1, hal⟩))
              exact pw_locs _ rfl (lp71 433 0 _ (by omega) (by omega) hy0)
          · skip
            refine pw_aload_n 0 rfl dX10_alike_32 rfl ?_
            refine pw_gR 54 121 dX10_alike_33 cOk10 (by assumption) (by decide) kw_1119 (by decide) rfl ?_
            refine pw_iload dX10_alike_36 rfl ?_
            refine pw_aload_n 0 rfl dX10_alike_38 rfl ?_
            refine pw_gR 53 120 dX10_alike_39 cOk10 (by assumption) (by decide) kw_1118 (by decide) rfl ?_
            refine pw_iload dX10_alike_42 rfl ?_
            refine pw_iaload dX10_alike_44 (by assumption) (by omega) (by omega) (fun r44 => ?_)
            try simp (disch := omega) only [wr_s, wr_a, wr_k] at r44 ⊢
            refine pw_iastore dX10_alike_45 (by assumption) (by omega) (by omega) (by omega) ?_
            refine pw_iinc dX10_alike_46 rfl (by decide) ?_
            refine pw_goto 26 (by decide) dX10_alike_49 ?_
            have hC2 : ∀ j : Nat, j < i + 1 → (wr m1 121 (i : Int) (m1 120 (i : Int))) 121 j = nth (wA mem a) j := fun j hj => by
              by_cases e : j = i
              · subst e; rw [wr_s]; exact hL1 j (by omega)
              · rw [wr_k _ _ _ _ (by omega)]; exact hC j (by omega)
            exact pw_locs _ rfl (ih (i + 1) _ (by omega) (by omega) (LW_m hL1 (wr_a _ _ _ (by omega))) hC2 (fun x h1 h2 => by rw [wr_a _ _ _ h2]; exact hFr x h1 h2))
      exact pw_locs _ rfl (lp26 433 0 m2 (by omega) (by omega) hL (fun j hj => absurd hj (Nat.not_lt_zero j)) (fun x h1 _ => hF x h1))
    · skip
      rw [bz_0] at c11
      refine pw_bipush dX10_alike_14 (by decide) ?_
      refine pw_iret dX10_alike_16 rfl rfl ?_
      refine ⟨congrArg (fun z => some (vi z)) ?_, rfl, fun _ _ _ => rfl⟩
      unfold rAlike; rw [if_pos (by omega)]
def EXM (m m1 : pM) (c : Int) : Prop := (∀ a, a ≠ 88 → a ≠ 120 → a ≠ 122 → m1 a = m a) ∧ (∀ k, k ≠ 56 → m1 88 k = m 88 k) ∧ m1 88 56 = (wA m c).length ∧ LW m1 122 (wA m c)
set_option maxHeartbeats 4000000 in
set_option maxRecDepth 100000 in
theorem r_export (d : Nat) (hd : 2 ≤ d) (n : Nat) (ok : pO) (mem : pM) (hU : RefUp n ok) (c : Int) (hc : -2147483648 ≤ c ∧ c ≤ 2147483647) (hI : ∀ c, 0 ≤ c → c ≤ 2 → cIn mem c) : PM mi_X10_export d [vr 88, vi c] n ok mem n (fun r ok' mem' => (¬ (0 ≤ c ∧ c ≤ 2) ∧ r = some (vi (-2)) ∧ ok = ok' ∧ mem = mem') ∨ ((0 ≤ c ∧ c ≤ 2) ∧ r = some (vi ((wA mem c).length : Int)) ∧ ok = ok' ∧ EXM mem mem' c)) := by
  obtain ⟨hO, ⟨a89, a90, a91, a92, a93, a94, a95, a96, a97, a98⟩, ⟨a99, a100, a101, a102, a103, a104, a105, a106, a107⟩, ⟨a108, a109, a110, a111, a112, a113, a114, a115, a116, a117, a118, a119⟩, a120, a121, a122⟩ := id hU
  refine PM.of (by decide) (by decide) (Nat.le_refl _) (Nat.le_of_ble_eq_true rfl) ?_
  refine pw_iload_n 1 rfl dX10_export_0 rfl ?_
  refine pw_callS (d' := d - 1) (As := [_]) dX10_export_1 ok_X10_isChest kw_1241 (by omega) rfl (Nat.le_of_ble_eq_true rfl) (r_isChest (d - 1) (by omega) n ok _ _ (by omega)) (Nat.le_refl _) (Or.inl rfl) (fun r ok1 mem1 hq => ?_)
  obtain ⟨rfl, rfl, rfl⟩ := hq
  refine pw_if_ne 10 (by decide) dX10_export_4 (by split <;> omega) (fun c4 => ?_) (fun c4 => ?_)
  · skip
    rw [ne_eq, bz_n] at c4
    refine pw_aload_n 0 rfl dX10_export_10 rfl ?_
    refine pw_aload_n 0 rfl dX10_export_11 rfl ?_
    refine pw_iload_n 1 rfl dX10_export_12 rfl ?_
    refine pw_callV (d' := d - 1) (As := [_]) (ci := 10) dX10_export_13 ok_X10_writesOut kw_1604 rfl rfl (Of.o (by assumption)) (by omega) rfl (Nat.le_of_ble_eq_true rfl) (r_writesOut (d - 1) (by omega) n ok mem hU c (by omega) (hI c (by omega) (by omega))) (Nat.le_refl _) (Or.inl rfl) (fun r ok1 m2 hq => ?_)
    obtain ⟨rfl, rfl, hL, hF⟩ := hq
    have hla := wL_len (hI c (by omega) (by omega))
    have hla2 := wA_len mem c
    refine pw_pI 56 56 rfl dX10_export_16 cOk10 (by assumption) (by decide) kw_1121 rfl rfl (by decide) (by omega) ?_
    obtain ⟨m0, em0⟩ : ∃ x, x = wr m2 88 56 ((wA mem c).length : Int) := ⟨_, rfl⟩
    rw [← em0]
    have hF0 : ∀ x, x ≠ 88 → x ≠ 120 → x ≠ 122 → m0 x = mem x := fun x h1 h2 _ => by rw [em0, wr_a _ _ _ h1]; exact hF x h2
    have hK0 : ∀ k, k ≠ 56 → m0 88 k = mem 88 k := fun k h1 => by rw [em0, wr_k _ _ _ _ h1, hF 88 (by omega)]
    have hN0 : m0 88 56 = ((wA mem c).length : Int) := by rw [em0, wr_s]
    have hL0 : LW m0 120 (wA mem c) := LW_m hL (by rw [em0]; exact wr_a _ _ _ (by omega))
    refine pw_iconst dX10_export_19 ?_
    refine pw_istore_n 2 rfl dX10_export_20 (by decide) ?_
    have lp21 : ∀ (kz : Nat) (i : Nat) (m1 : pM), ((wA mem c).length : Int) - (i : Int) < (kz : Int) → (i ≤ (wA mem c).length) → (LW m1 120 (wA mem c)) → (∀ j : Nat, j < i → m1 122 j = nth (wA mem c) j) → (∀ x, x ≠ 88 → x ≠ 120 → x ≠ 122 → m1 x = mem x) → (∀ k, k ≠ 56 → m1 88 k = mem 88 k) → (m1 88 56 = ((wA mem c).length : Int)) → PW mi_X10_export d n n (fun r ok' mem' => (¬ (0 ≤ c ∧ c ≤ 2) ∧ r = some (vi (-2)) ∧ ok = ok' ∧ mem = mem') ∨ ((0 ≤ c ∧ c ≤ 2) ∧ r = some (vi ((wA mem c).length : Int)) ∧ ok = ok' ∧ EXM mem mem' c)) 21 [(0, vr 88), (1, vi c), (2, vi (i : Int))] [] n ok m1 := by
      intro kz
      induction kz with
      | zero =>
        intro i m1 hk hi hL1 hC hFr hKr hNr
        exact absurd hk (by omega)
      | succ kz ih =>
        intro i m1 hk hi hL1 hC hFr hKr hNr
        refine pw_iload_n 2 rfl dX10_export_21 rfl ?_
        refine pw_aload_n 0 rfl dX10_export_22 rfl ?_
        refine pw_gI 56 56 rfl dX10_export_23 cOk10 (by assumption) (by decide) kw_1121 (by decide) (fun r23 => ?_)
        try simp (disch := omega) only [wr_s, wr_a, wr_k] at r23 ⊢
        rw [hNr] at r23 ⊢
        refine pw_icmp_ge 47 (by decide) dX10_export_26 (by omega) (by omega) (fun c26 => ?_) (fun c26 => ?_)
        · skip
          refine pw_aload_n 0 rfl dX10_export_47 rfl ?_
          refine pw_gI 56 56 rfl dX10_export_48 cOk10 (by assumption) (by decide) kw_1121 (by decide) (fun r48 => ?_)
          try simp (disch := omega) only [wr_s, wr_a, wr_k] at r48 ⊢
          rw [hNr] at r48 ⊢
          refine pw_iret dX10_export_51 rfl rfl ?_
          exact Or.inr ⟨by omega, rfl, rfl, hFr, hKr, hNr, fun j hj => hC j (by omega)⟩
        · skip
          refine pw_aload_n 0 rfl dX10_export_29 rfl ?_
          refine pw_gR 55 122 dX10_export_30 cOk10 (by assumption) (by decide) kw_1120 (by decide) rfl ?_
          refine pw_iload_n 2 rfl dX10_export_33 rfl ?_
          refine pw_aload_n 0 rfl dX10_export_34 rfl ?_
          refine pw_gR 53 120 dX10_export_35 cOk10 (by assumption) (by decide) kw_1118 (by decide) rfl ?_
          refine pw_iload_n 2 rfl dX10_export_38 rfl ?_
          refine pw_iaload dX10_export_39 (by assumption) (by omega) (by omega) (fun r39 => ?_)
          try simp (disch := omega) only [wr_s, wr_a, wr_k] at r39 ⊢
          refine pw_iastore dX10_export_40 (by assumption) (by omega) (by omega) (by omega) ?_
          refine pw_iinc dX10_export_41 rfl (by decide) ?_
          refine pw_goto 21 (by decide) dX10_export_44 ?_
          have hC2 : ∀ j : Nat, j < i + 1 → (wr m1 122 (i : Int) (m1 120 (i : Int))) 122 j = nth (wA mem c) j := fun j hj => by
            by_cases e : j = i
            · subst e; rw [wr_s]; exact hL1 j (by omega)
            · rw [wr_k _ _ _ _ (by omega)]; exact hC j (by omega)
          exact pw_locs _ rfl (ih (i + 1) _ (by omega) (by omega) (LW_m hL1 (wr_a _ _ _ (by omega))) hC2 (fun x h0 h1 h2 => by rw [wr_a _ _ _ h2]; exact hFr x h0 h1 h2) (fun k h1 => by rw [wr_a _ _ _ (by omega)]; exact hKr k h1) (by rw [wr_a _ _ _ (by omega)]; exact hNr))
    exact pw_locs _ rfl (lp21 433 0 m0 (by omega) (by omega) hL0 (fun j hj => absurd hj (Nat.not_lt_zero j)) hF0 hK0 hN0)
  · skip
    rw [bz_0] at c4
    refine pw_bipush dX10_export_7 (by decide) ?_
    refine pw_iret dX10_export_9 rfl rfl ?_
    exact Or.inl ⟨by omega, rfl, rfl, rfl⟩
def hashF (f : Nat → Int) : Nat → Int
  | 0 => 1469598103934665603
  | k + 1 => lXor (hashF f k) (f k) * 1099511628211
def rDigest (m : pM) (c : Int) : Int := if ¬ (0 ≤ c ∧ c ≤ 2) then 0 else hashF (nth (wA m c)) (wA m c).length
set_option maxHeartbeats 4000000 in
set_option maxRecDepth 100000 in
theorem r_digest (d : Nat) (hd : 2 ≤ d) (n : Nat) (ok : pO) (mem : pM) (hU : RefUp n ok) (c : Int) (hc : -2147483648 ≤ c ∧ c ≤ 2147483647) (hI : ∀ c, 0 ≤ c → c ≤ 2 → cIn mem c) : PM mi_X10_digest d [vr 88, vi c] n ok mem n (fun r ok' mem' => r = some (vl (rDigest mem c)) ∧ ok = ok' ∧ FrW 120 mem mem') := by
  obtain ⟨hO, ⟨a89, a90, a91, a92, a93, a94, a95, a96, a97, a98⟩, ⟨a99, a100, a101, a102, a103, a104, a105, a106, a107⟩, ⟨a108, a109, a110, a111, a112, a113, a114, a115, a116, a117, a118, a119⟩, a120, a121, a122⟩ := id hU
  refine PM.of (by decide) (by decide) (Nat.le_refl _) (Nat.le_of_ble_eq_true rfl) ?_
  refine pw_iload_n 1 rfl dX10_digest_0 rfl ?_
  refine pw_callS (d' := d - 1) (As := [_]) dX10_digest_1 ok_X10_isChest kw_1241 (by omega) rfl (Nat.le_of_ble_eq_true rfl) (r_isChest (d - 1) (by omega) n ok _ _ (by omega)) (Nat.le_refl _) (Or.inl rfl) (fun r ok1 mem1 hq => ?_)
  obtain ⟨rfl, rfl, rfl⟩ := hq
  refine pw_if_ne 9 (by decide) dX10_digest_4 (by split <;> omega) (fun c4 => ?_) (fun c4 => ?_)
  · skip
    rw [ne_eq, bz_n] at c4
    refine pw_ldc2 (x := 1469598103934665603) kw_1620 (by decide) dX10_digest_9 ?_
    refine pw_lstore_n 2 rfl dX10_digest_12 (by decide) ?_
    refine pw_aload_n 0 rfl dX10_digest_13 rfl ?_
    refine pw_iload_n 1 rfl dX10_digest_14 rfl ?_
    refine pw_callV (d' := d - 1) (As := [_]) (ci := 10) dX10_digest_15 ok_X10_writesOut kw_1604 rfl rfl (Of.o (by assumption)) (by omega) rfl (Nat.le_of_ble_eq_true rfl) (r_writesOut (d - 1) (by omega) n ok mem hU c (by omega) (hI c (by omega) (by omega))) (Nat.le_refl _) (Or.inl rfl) (fun r ok1 m2 hq => ?_)
    obtain ⟨rfl, rfl, hL, hF⟩ := hq
    have hla := wL_len (hI c (by omega) (by omega))
    have hla2 := wA_len mem c
    refine pw_istore dX10_digest_18 (by decide) ?_
    refine pw_iconst dX10_digest_20 ?_
    refine pw_istore dX10_digest_21 (by decide) ?_
    have lp23 : ∀ (kz : Nat) (i : Nat) (h : Int), ((wA mem c).length : Int) - (i : Int) < (kz : Int) → (i ≤ (wA mem c).length) → (h = hashF (nth (wA mem c)) i) → PW mi_X10_digest d n n (fun r ok' mem' => r = some (vl (rDigest mem c)) ∧ ok = ok' ∧ FrW 120 mem mem') 23 [(0, vr 88), (1, vi c), (2, vl h), (4, vi ((wA mem c).length : Int)), (5, vi (i : Int))] [] n ok m2 := by
      intro kz
      induction kz with
      | zero =>
        intro i h hk hi hh
        exact absurd hk (by omega)
      | succ kz ih =>
        intro i h hk hi hh
        refine pw_iload dX10_digest_23 rfl ?_
        refine pw_iload dX10_digest_25 rfl ?_
        refine pw_icmp_ge 51 (by decide) dX10_digest_27 (by omega) (by omega) (fun c27 => ?_) (fun c27 => ?_)
        · skip
          refine pw_lload_n 2 rfl dX10_digest_51 rfl ?_
          refine pw_lret dX10_digest_52 rfl rfl ?_
          have ei : i = (wA mem c).length := by omega
          refine ⟨congrArg (fun z => some (vl z)) ?_, rfl, hF⟩
          unfold rDigest; rw [if_neg (by omega), hh, ei]
        · skip
          refine pw_lload_n 2 rfl dX10_digest_30 rfl ?_
          refine pw_aload_n 0 rfl dX10_digest_31 rfl ?_
          refine pw_gR 53 120 dX10_digest_32 cOk10 (by assumption) (by decide) kw_1118 (by decide) rfl ?_
          refine pw_iload dX10_digest_35 rfl ?_
          refine pw_iaload dX10_digest_37 (by assumption) (by omega) (by omega) (fun r37 => ?_)
          try simp (disch := omega) only [wr_s, wr_a, wr_k] at r37 ⊢
          refine pw_i2l dX10_digest_38 (by omega) ?_
          refine pw_lxor dX10_digest_39 ?_
          refine pw_ldc2 (x := 1099511628211) kw_1621 (by decide) dX10_digest_40 ?_
          refine pw_lmul dX10_digest_43 ?_
          refine pw_lstore_n 2 rfl dX10_digest_44 (by decide) ?_
          refine pw_iinc dX10_digest_45 rfl (by decide) ?_
          refine pw_goto 23 (by decide) dX10_digest_48 ?_
          exact pw_locs _ rfl (ih (i + 1) _ (by omega) (by omega) (by show _ = lXor _ _ * _; rw [hh, hL i (by omega)]))
    exact pw_locs _ rfl (lp23 433 0 _ (by omega) (by omega) rfl)
  · skip
    rw [bz_0] at c4
    refine pw_lconst (x := 0) dX10_digest_7 (by decide) ?_
    refine pw_lret dX10_digest_8 rfl rfl ?_
    refine ⟨congrArg (fun z => some (vl z)) ?_, rfl, fun _ _ => rfl⟩
    unfold rDigest; rw [if_pos (by omega)]
