/-! ===== open; what bars a move ===== -/
def anyO (m : pM) (c : Int) : Nat → Int
  | 0 => 0
  | k + 1 => if anyO m c k ≠ 0 ∨ aSeat m c k = -1 then 1 else 0
def oRes (m : pM) (c : Int) (v : Int → Int) : Int := if anyO m c (aNc m c).toNat ≠ 0 ∧ (fRes m c v (-1)).1 = -1 then 1 else 0
def oEv (m : pM) (c : Int) (v : Int → Int) : pEv := if anyO m c (aNc m c).toNat ≠ 0 then (fRes m c v (-1)).2 else []
theorem anyO_s {m m1 : pM} (h : sSame m m1) (c : Int) (k : Nat) : anyO m1 c k = anyO m c k := by
  induction k with
  | zero => rfl
  | succ k ih => unfold anyO aSeat; rw [ih, h.seat]
theorem oRes_s {m m1 : pM} (h : sSame m m1) (c : Int) (v : Int → Int) : oRes m1 c v = oRes m c v := by unfold oRes aNc; rw [anyO_s h, fRes_s h, h.nc]
theorem oEv_s {m m1 : pM} (h : sSame m m1) (c : Int) (v : Int → Int) : oEv m1 c v = oEv m c v := by unfold oEv aNc; rw [anyO_s h, fRes_s h, h.nc]
theorem anyO_ran (m : pM) (c : Int) (k : Nat) : anyO m c k = 0 ∨ anyO m c k = 1 := by
  cases k with
  | zero => exact Or.inl rfl
  | succ k => unfold anyO; split <;> omega
theorem oEv_len {m : pM} {c : Int} (v : Int → Int) (h : 0 ≤ aNc m c ∧ aNc m c ≤ 40) : (oEv m c v).length ≤ 120 := by
  unfold oEv; split
  · exact fRes_len v (-1) h
  · exact Nat.zero_le _
set_option maxHeartbeats 4000000 in
set_option maxRecDepth 100000 in
theorem r_opens (d : Nat) (hd : 4 ≤ d) (n : Nat) (ok : pO) (mem : pM) (hU : RefUp n ok) (c : Int) (hc : 0 ≤ c ∧ c ≤ 2) (hs : sOk mem c) (hv : pOkv mem c (aAt mem c)) (ht : 0 ≤ mem 88 19 ∧ mem 88 19 ≤ 900000000) : PM mi_X10_opens d [vr 88, vi c] n ok mem n (fun r ok' mem' => ∃ z : Int, r = some (vi (oRes mem c (aAt mem c))) ∧ ok = ok' ∧ wr (rEv mem (oEv mem c (aAt mem c))) 88 23 z = mem') := by
  obtain ⟨hO, ⟨a89, a90, a91, a92, a93, a94, a95, a96, a97, a98⟩, ⟨a99, a100, a101, a102, a103, a104, a105, a106, a107⟩, ⟨a108, a109, a110, a111, a112, a113, a114, a115, a116, a117, a118, a119⟩, a120, a121, a122⟩ := id hU
  refine PM.of (by decide) (by decide) (Nat.le_refl _) (Nat.le_of_ble_eq_true rfl) ?_
  refine pw_iconst dX10_opens_0 ?_
  refine pw_istore_n 2 rfl dX10_opens_1 (by decide) ?_
  refine pw_iconst dX10_opens_2 ?_
  refine pw_istore_n 3 rfl dX10_opens_3 (by decide) ?_
  have lp4 : ∀ (kz : Nat) (i : Nat) (x : Int), aNc mem c - (i : Int) < (kz : Int) → ((i : Int) ≤ aNc mem c) → (x = anyO mem c i) → PW mi_X10_opens d n n (fun r ok' mem' => ∃ z : Int, r = some (vi (oRes mem c (aAt mem c))) ∧ ok = ok' ∧ wr (rEv mem (oEv mem c (aAt mem c))) 88 23 z = mem') 4 [(0, vr 88), (1, vi c), (2, vi x), (3, vi (i : Int))] [] n ok mem := by
    intro kz
    induction kz with
    | zero =>
      intro i x hk hi hx
      exact absurd hk (by omega)
    | succ kz ih =>
      intro i x hk hi hx
      have hn : 0 ≤ mem 94 c ∧ mem 94 c ≤ 40 := hs.1
      have hi : (i : Int) ≤ mem 94 c := hi
      have hk : mem 94 c - (i : Int) < ((kz + 1 : Nat) : Int) := hk
      have hxr := anyO_ran mem c i
      rw [← hx] at hxr
      refine pw_iload_n 3 rfl dX10_opens_4 rfl ?_
      refine pw_aload_n 0 rfl dX10_opens_5 rfl ?_
      refine pw_gR 9 94 dX10_opens_6 cOk10 (by assumption) (by decide) kw_1074 (by decide) rfl ?_
      refine pw_iload_n 1 rfl dX10_opens_9 rfl ?_
      refine pw_iaload dX10_opens_10 (by assumption) (by omega) (by omega) (fun r10 => ?_)
      try simp (disch := omega) only [wr_s, wr_a, wr_k] at r10 ⊢
      refine pw_icmp_ge 45 (by decide) dX10_opens_11 (by omega) (by omega) (fun c11 => ?_) (fun c11 => ?_)
      · skip
        have ei : i = (aNc mem c).toNat := by show i = (mem 94 c).toNat; omega
        have hxx : x = anyO mem c (aNc mem c).toNat := by rw [← ei]; exact hx
        refine pw_iload_n 2 rfl dX10_opens_45 rfl ?_
        refine pw_if_eq 63 (by decide) dX10_opens_46 (by omega) (fun c46 => ?_) (fun c46 => ?_)
        · skip
          refine pw_iconst dX10_opens_63 ?_
          refine pw_zret dX10_opens_64 rfl (by omega) rfl ?_
          have e1 : ¬ anyO mem c (aNc mem c).toNat ≠ 0 := by omega
          exact ⟨mem 88 23, by unfold oRes; rw [if_neg (fun z => e1 z.1)], rfl, by unfold oEv; rw [if_neg e1]; exact wr_id _ _ _⟩
        · skip
          refine pw_aload_n 0 rfl dX10_opens_49 rfl ?_
          refine pw_iload_n 1 rfl dX10_opens_50 rfl ?_
          refine pw_iconst dX10_opens_51 ?_
          refine pw_callV (d' := d - 1) (As := [_, _]) (ci := 10) dX10_opens_52 ok_X10_failing kw_1374 rfl rfl (Of.o (by assumption)) (by omega) rfl (Nat.le_of_ble_eq_true rfl) (r_failing (d - 1) (by omega) n ok mem hU c (-1) hc (by omega) hs hv ht) (Nat.le_refl _) (Or.inl rfl) (fun r ok1 m1 hq => ?_)
          obtain ⟨z, rfl, rfl, em⟩ := hq
          have hfr := fRes_ran (m := mem) (c := c) (aAt mem c) (-1) hn
          refine pw_iconst dX10_opens_55 ?_
          refine pw_icmp_ne 63 (by decide) dX10_opens_56 (by omega) (by omega) (fun c56 => ?_) (fun c56 => ?_)
          · skip
            refine pw_iconst dX10_opens_63 ?_
            refine pw_zret dX10_opens_64 rfl (by omega) rfl ?_
            have e1 : anyO mem c (aNc mem c).toNat ≠ 0 := by omega
            exact ⟨z, by unfold oRes; rw [if_neg (fun z => c56 z.2)], rfl, by unfold oEv; rw [if_pos e1]; exact em⟩
          · skip
            refine pw_iconst dX10_opens_59 ?_
            refine pw_goto 64 (by decide) dX10_opens_60 ?_
            refine pw_zret dX10_opens_64 rfl (by omega) rfl ?_
            have e1 : anyO mem c (aNc mem c).toNat ≠ 0 := by omega
            exact ⟨z, by unfold oRes; rw [if_pos ⟨e1, c56⟩], rfl, by unfold oEv; rw [if_pos e1]; exact em⟩
      · skip
        refine pw_iload_n 2 rfl dX10_opens_14 rfl ?_
        refine pw_if_ne 33 (by decide) dX10_opens_15 (by omega) (fun c15 => ?_) (fun c15 => ?_)
        · skip
          refine pw_iconst dX10_opens_33 ?_
          refine pw_goto 38 (by decide) dX10_opens_34 ?_
          refine pw_istore_n 2 rfl dX10_opens_38 (by decide) ?_
          refine pw_iinc dX10_opens_39 rfl (by decide) ?_
          refine pw_goto 4 (by decide) dX10_opens_42 ?_
          exact pw_locs _ rfl (ih (i + 1) 1 (by show mem 94 c - _ < _; omega) (by show _ ≤ mem 94 c; omega) (by unfold anyO; rw [if_pos (Or.inl (by omega))]))
        · skip
          refine pw_aload_n 0 rfl dX10_opens_18 rfl ?_
          refine pw_gR 10 95 dX10_opens_19 cOk10 (by assumption) (by decide) kw_1075 (by decide) rfl ?_
          refine pw_bipush dX10_opens_22 (by decide) ?_
          refine pw_iload_n 1 rfl dX10_opens_24 rfl ?_
          refine pw_imul dX10_opens_25 ?_
          refine pw_iload_n 3 rfl dX10_opens_26 rfl ?_
          refine pw_iadd dX10_opens_27 ?_
          refine pw_iaload dX10_opens_28 (by assumption) (by omega) (by omega) (fun r28 => ?_)
          try simp (disch := omega) only [wr_s, wr_a, wr_k] at r28 ⊢
          refine pw_iconst dX10_opens_29 ?_
          refine pw_icmp_ne 37 (by decide) dX10_opens_30 (by omega) (by omega) (fun c30 => ?_) (fun c30 => ?_)
          · skip
            refine pw_iconst dX10_opens_37 ?_
            refine pw_istore_n 2 rfl dX10_opens_38 (by decide) ?_
            refine pw_iinc dX10_opens_39 rfl (by decide) ?_
            refine pw_goto 4 (by decide) dX10_opens_42 ?_
            exact pw_locs _ rfl (ih (i + 1) 0 (by show mem 94 c - _ < _; omega) (by show _ ≤ mem 94 c; omega) (by unfold anyO; rw [if_neg (by show ¬ (_ ∨ mem 95 _ = -1); omega)]))
          · skip
            refine pw_iconst dX10_opens_33 ?_
            refine pw_goto 38 (by decide) dX10_opens_34 ?_
            refine pw_istore_n 2 rfl dX10_opens_38 (by decide) ?_
            refine pw_iinc dX10_opens_39 rfl (by decide) ?_
            refine pw_goto 4 (by decide) dX10_opens_42 ?_
            exact pw_locs _ rfl (ih (i + 1) 1 (by show mem 94 c - _ < _; omega) (by show _ ≤ mem 94 c; omega) (by unfold anyO; rw [if_pos (Or.inr c30)]))
  exact pw_locs _ rfl (lp4 ((aNc mem c).toNat + 1) 0 0 (by have := hs.1; omega) (by have := hs.1; omega) rfl)
/-- what bars a move of a seat, and what is noted by it (not the finding itself) -/
def bFind (m : pM) (c s : Int) : Int := if aComes m c s ≠ 0 then aComes m c s else if aKind m c s = 0 ∨ aKind m c s = 1 ∨ aKind m c s = 4 then 0 else 3
def bTo (v : Int → Int) (mv : Int) : Int := if mv % 2 = 0 then v (mv / 2) + -1 else v (mv / 2) + 1
def bGoes (m : pM) (c : Int) (v : Int → Int) (mv : Int) : Prop := aKind m c (mv / 2) = 1 ∨ (0 ≤ bTo v mv ∧ bTo v mv ≤ aSpan m c (mv / 2) - 1)
theorem bGoes_dec (m : pM) (c : Int) (v : Int → Int) (mv : Int) : bGoes m c v mv ∨ ¬ bGoes m c v mv := Classical.em _
def bBody (k : Int) : Int := if k = 0 then 11 else if k = 1 then 12 else 14
noncomputable def bRes (m : pM) (c : Int) (v : Int → Int) (mv : Int) : Int × pEv :=
  if 32 ≤ mv then (-1, []) else if bFind m c (mv / 2) ≠ 0 then (-10 - bFind m c (mv / 2), [])
  else if aKind m c (mv / 2) = 1 ∨ (0 ≤ bTo v mv ∧ bTo v mv ≤ aSpan m c (mv / 2) - 1) then ((fRes m c v (mv / 2)).1, (true, bBody (aKind m c (mv / 2))) :: (fRes m c v (mv / 2)).2) else (-3, [(true, bBody (aKind m c (mv / 2)))])
theorem bFind_ran (m : pM) (c s : Int) : 0 ≤ bFind m c s ∧ bFind m c s ≤ 3 := by
  have := aComes_ran m c s
  unfold bFind; (repeat' split) <;> omega
set_option maxHeartbeats 4000000 in
set_option maxRecDepth 100000 in
theorem r_bars (d : Nat) (hd : 4 ≤ d) (n : Nat) (ok : pO) (mem : pM) (hU : RefUp n ok) (c mv : Int) (hc : 0 ≤ c ∧ c ≤ 2) (hm : 0 ≤ mv ∧ mv < 38) (hs : sOk mem c) (hv : pOkv mem c (aAt mem c)) (ht : 0 ≤ mem 88 19 ∧ mem 88 19 ≤ 800000000) : PM mi_X10_bars d [vr 88, vi c, vi mv] n ok mem n (fun r ok' mem' => ∃ z : Int, r = some (vi (bRes mem c (aAt mem c) mv).1) ∧ ok = ok' ∧ wr (rEv mem (bRes mem c (aAt mem c) mv).2) 88 23 z = mem') := by
  obtain ⟨hO, ⟨a89, a90, a91, a92, a93, a94, a95, a96, a97, a98⟩, ⟨a99, a100, a101, a102, a103, a104, a105, a106, a107⟩, ⟨a108, a109, a110, a111, a112, a113, a114, a115, a116, a117, a118, a119⟩, a120, a121, a122⟩ := id hU
  refine PM.of (by decide) (by decide) (Nat.le_refl _) (Nat.le_of_ble_eq_true rfl) ?_
  refine pw_iload_n 2 rfl dX10_bars_0 rfl ?_
  refine pw_bipush dX10_bars_1 (by decide) ?_
  refine pw_icmp_lt 8 (by decide) dX10_bars_3 (by omega) (by omega) (fun c3 => ?_) (fun c3 => ?_)
  · skip
    refine pw_iload_n 2 rfl dX10_bars_8 rfl ?_
    refine pw_iconst dX10_bars_9 ?_
    refine pw_idiv dX10_bars_10 (by omega) (by omega) ?_
    refine pw_istore_n 3 rfl dX10_bars_11 (by decide) ?_
    refine pw_bipush dX10_bars_12 (by decide) ?_
    refine pw_iload_n 1 rfl dX10_bars_14 rfl ?_
    refine pw_imul dX10_bars_15 ?_
    refine pw_iload_n 3 rfl dX10_bars_16 rfl ?_
    refine pw_iadd dX10_bars_17 ?_
    refine pw_istore dX10_bars_18 (by decide) ?_
    refine pw_aload_n 0 rfl dX10_bars_20 rfl ?_
    refine pw_iload_n 1 rfl dX10_bars_21 rfl ?_
    refine pw_iload_n 3 rfl dX10_bars_22 rfl ?_
    refine pw_callV (d' := d - 1) (As := [_, _]) (ci := 10) dX10_bars_23 ok_X10_comes kw_1295 rfl rfl (Of.o (by assumption)) (by omega) rfl (Nat.le_of_ble_eq_true rfl) (r_comes (d - 1) (by omega) n ok mem hU c (mv / 2) hc (by omega)) (Nat.le_refl _) (Or.inl rfl) (fun r ok1 mem1 hq => ?_)
    obtain ⟨rfl, rfl, rfl⟩ := hq
    have hcr := aComes_ran mem c (mv / 2)
    refine pw_istore dX10_bars_26 (by decide) ?_
    refine pw_iload dX10_bars_28 rfl ?_
    refine pw_if_ne 69 (by decide) dX10_bars_30 (by omega) (fun c30 => ?_) (fun c30 => ?_)
    · skip
      refine pw_iload dX10_bars_69 rfl ?_
      refine pw_istore dX10_bars_71 (by decide) ?_
      refine pw_iload dX10_bars_73 rfl ?_
      refine pw_if_eq 84 (by decide) dX10_bars_75 (by omega) (fun c75 => ?_) (fun c75 => ?_)
      · skip
        exfalso; omega
      · skip
        refine pw_bipush dX10_bars_78 (by decide) ?_
        refine pw_iload dX10_bars_80 rfl ?_
        refine pw_isub dX10_bars_82 ?_
        refine pw_iret dX10_bars_83 rfl rfl ?_
        have e1 : bFind mem c (mv / 2) = aComes mem c (mv / 2) := by unfold bFind; rw [if_pos c30]
        have e2 : bRes mem c (aAt mem c) mv = (-10 - aComes mem c (mv / 2), []) := by unfold bRes; rw [if_neg (by omega), e1, if_pos c30]
        exact ⟨mem 88 23, by rw [e2], rfl, by rw [e2]; exact wr_id _ _ _⟩
    · skip
      refine pw_aload_n 0 rfl dX10_bars_33 rfl ?_
      refine pw_gR 5 90 dX10_bars_34 cOk10 (by assumption) (by decide) kw_1070 (by decide) rfl ?_
      refine pw_iload dX10_bars_37 rfl ?_
      refine pw_iaload dX10_bars_39 (by assumption) (by omega) (by omega) (fun r39 => ?_)
      refine pw_if_eq 69 (by decide) dX10_bars_40 (by omega) (fun c40 => ?_) (fun c40 => ?_)
      · skip
        refine pw_iload dX10_bars_69 rfl ?_
        refine pw_istore dX10_bars_71 (by decide) ?_
        refine pw_iload dX10_bars_73 rfl ?_
        refine pw_if_eq 84 (by decide) dX10_bars_75 (by omega) (fun c75 => ?_) (fun c75 => ?_)
        · skip
          have hbf : bFind mem c (mv / 2) = 0 := by unfold bFind; rw [if_neg (fun z => z c30), if_pos (by show mem 90 _ = 0 ∨ mem 90 _ = 1 ∨ mem 90 _ = 4; omega)]
          have hkn := aComes_kind c30
          have hpp : 1 ≤ mem 91 (16 * c + mv / 2) ∧ mem 91 (16 * c + mv / 2) ≤ 6 := hs.2.2 (mv / 2) (by omega) (by omega) hkn
          have hvv : 0 ≤ mem 92 (16 * c + mv / 2) ∧ mem 92 (16 * c + mv / 2) < mem 91 (16 * c + mv / 2) := hv (mv / 2) (by omega) (by omega) hkn
          refine pw_aload_n 0 rfl dX10_bars_84 rfl ?_
          refine pw_aload_n 0 rfl dX10_bars_85 rfl ?_
          refine pw_gR 5 90 dX10_bars_86 cOk10 (by assumption) (by decide) kw_1070 (by decide) rfl ?_
          refine pw_iload dX10_bars_89 rfl ?_
          refine pw_iaload dX10_bars_91 (by assumption) (by omega) (by omega) (fun r91 => ?_)
          refine pw_if_ne 100 (by decide) dX10_bars_92 (by omega) (fun c92 => ?_) (fun c92 => ?_)
          · skip
            exfalso; omega
          · skip
            refine pw_bipush dX10_bars_95 (by decide) ?_
            refine pw_goto 118 (by decide) dX10_bars_97 ?_
            refine pw_callV (d' := d - 1) (As := [_]) (ci := 10) dX10_bars_118 ok_X10_writes kw_1386 rfl rfl (Of.o (by assumption)) (by omega) rfl (Nat.le_of_ble_eq_true rfl) (r_writes (d - 1) (by omega) n ok mem hU 11 (by omega) (by omega)) (Nat.le_refl _) (Or.inl rfl) (fun r ok1 m1 hq => ?_)
            obtain ⟨rfl, rfl, em⟩ := hq
            have hsm := nSame.w mem 11
            have q19 := rW_tr mem 11 ht.1
            rw [em] at hsm q19
            have q90 := hsm.s.kind
            have q91 := hsm.s.span
            have q92 : m1 92 = mem 92 := hsm.1 92 (by omega) (by omega)
            have qA : aAt m1 c = aAt mem c := by funext s; show m1 92 _ = mem 92 _; rw [q92]
            have eB : bBody (mem 90 (16 * c + mv / 2)) = 11 := by unfold bBody; (repeat' split) <;> omega
            refine pw_aload_n 0 rfl dX10_bars_121 rfl ?_
            refine pw_gR 7 92 dX10_bars_122 cOk10 (by assumption) (by decide) kw_1072 (by decide) rfl ?_
            refine pw_iload dX10_bars_125 rfl ?_
            refine pw_iaload dX10_bars_127 (by assumption) (by omega) (by omega) (fun r127 => ?_)
            rw [q92] at r127 ⊢
            refine pw_iload_n 2 rfl dX10_bars_128 rfl ?_
            refine pw_iconst dX10_bars_129 ?_
            refine pw_irem dX10_bars_130 (by omega) (by omega) ?_
            refine pw_if_ne 138 (by decide) dX10_bars_131 (by omega) (fun c131 => ?_) (fun c131 => ?_)
            · skip
              refine pw_iconst dX10_bars_138 ?_
              refine pw_iadd dX10_bars_139 ?_
              obtain ⟨to, eto⟩ : ∃ to, to = bTo (aAt mem c) mv := ⟨_, rfl⟩
              have e9 : mem 92 (16 * c + mv / 2) + 1 = to := by rw [eto]; unfold bTo; rw [if_neg c131]
              rw [e9]
              refine pw_istore dX10_bars_140 (by decide) ?_
              refine pw_aload_n 0 rfl dX10_bars_142 rfl ?_
              refine pw_gR 5 90 dX10_bars_143 cOk10 (by assumption) (by decide) kw_1070 (by decide) rfl ?_
              refine pw_iload dX10_bars_146 rfl ?_
              refine pw_iaload dX10_bars_148 (by assumption) (by omega) (by omega) (fun r148 => ?_)
              rw [q90] at r148 ⊢
              refine pw_iconst dX10_bars_149 ?_
              refine pw_icmp_eq 176 (by decide) dX10_bars_150 (by omega) (by omega) (fun c150 => ?_) (fun c150 => ?_)
              · skip
                exfalso; omega
              · skip
                refine pw_iload dX10_bars_153 rfl ?_
                refine pw_i2l dX10_bars_155 (by omega) ?_
                refine pw_lconst (x := 0) dX10_bars_156 (by decide) ?_
                refine pw_aload_n 0 rfl dX10_bars_157 rfl ?_
                refine pw_gR 6 91 dX10_bars_158 cOk10 (by assumption) (by decide) kw_1071 (by decide) rfl ?_
                refine pw_iload dX10_bars_161 rfl ?_
                refine pw_iaload dX10_bars_163 (by assumption) (by omega) (by omega) (fun r163 => ?_)
                rw [q91] at r163 ⊢
                refine pw_iconst dX10_bars_164 ?_
                refine pw_isub dX10_bars_165 ?_
                refine pw_i2l dX10_bars_166 (by omega) ?_
                refine pw_callS (d' := d - 1) (As := [_, _, _]) dX10_bars_167 ok_X10_in kw_1245 (by omega) rfl (Nat.le_of_ble_eq_true rfl) (r_in (d - 1) (by omega) n ok m1 to 0 (mem 91 (16 * c + mv / 2) - 1) (by omega) (by omega) (by omega)) (Nat.le_refl _) (Or.inl rfl) (fun r ok1 mem1 hq => ?_)
                obtain ⟨rfl, rfl, rfl⟩ := hq
                refine pw_if_ne 176 (by decide) dX10_bars_170 (by split <;> omega) (fun c170 => ?_) (fun c170 => ?_)
                · skip
                  have hg : 0 ≤ to ∧ to ≤ mem 91 (16 * c + mv / 2) - 1 := by revert c170; split <;> intro h <;> first | assumption | (exfalso; omega)
                  refine pw_aload_n 0 rfl dX10_bars_176 rfl ?_
                  refine pw_iload_n 1 rfl dX10_bars_177 rfl ?_
                  refine pw_iload_n 3 rfl dX10_bars_178 rfl ?_
                  refine pw_callV (d' := d - 1) (As := [_, _]) (ci := 10) dX10_bars_179 ok_X10_failing kw_1374 rfl rfl (Of.o (by assumption)) (by omega) rfl (Nat.le_of_ble_eq_true rfl) (r_failing (d - 1) (by omega) n ok m1 hU c (mv / 2) hc (by omega) (sOk_s hsm.s hs) (by rw [qA]; exact pOkv_s hsm.s hv) (by omega)) (Nat.le_refl _) (Or.inl rfl) (fun r ok1 m2 hq => ?_)
                  obtain ⟨z, rfl, rfl, em2⟩ := hq
                  rw [qA, fRes_s hsm.s] at em2 ⊢
                  refine pw_iret dX10_bars_182 rfl rfl ?_
                  have e2 : bRes mem c (aAt mem c) mv = ((fRes mem c (aAt mem c) (mv / 2)).1, (true, bBody (mem 90 (16 * c + mv / 2))) :: (fRes mem c (aAt mem c) (mv / 2)).2) := by unfold bRes; rw [if_neg (by omega), if_neg (fun z => z hbf), if_pos (by rw [← eto]; simp only [aKind, aSpan]; omega)]
                  exact ⟨z, by rw [e2], rfl, by rw [e2, eB, ← em2, ← em]; rfl⟩
                · skip
                  have hg : ¬ (0 ≤ to ∧ to ≤ mem 91 (16 * c + mv / 2) - 1) := by revert c170; split <;> intro h <;> first | assumption | (exfalso; omega)
                  refine pw_bipush dX10_bars_173 (by decide) ?_
                  refine pw_iret dX10_bars_175 rfl rfl ?_
                  have e2 : bRes mem c (aAt mem c) mv = (-3, [(true, bBody (mem 90 (16 * c + mv / 2)))]) := by unfold bRes; rw [if_neg (by omega), if_neg (fun z => z hbf), if_neg (by rw [← eto]; simp only [aKind, aSpan]; omega)]
                  exact ⟨m1 88 23, by rw [e2], rfl, by rw [e2, eB]; show wr (rWrites mem _) 88 23 _ = m1; rw [em]; exact wr_id _ _ _⟩
            · skip
              refine pw_iconst dX10_bars_134 ?_
              refine pw_goto 139 (by decide) dX10_bars_135 ?_
              refine pw_iadd dX10_bars_139 ?_
              obtain ⟨to, eto⟩ : ∃ to, to = bTo (aAt mem c) mv := ⟨_, rfl⟩
              have e9 : mem 92 (16 * c + mv / 2) + -1 = to := by rw [eto]; unfold bTo; rw [if_pos c131]
              rw [e9]
              refine pw_istore dX10_bars_140 (by decide) ?_
              refine pw_aload_n 0 rfl dX10_bars_142 rfl ?_
              refine pw_gR 5 90 dX10_bars_143 cOk10 (by assumption) (by decide) kw_1070 (by decide) rfl ?_
              refine pw_iload dX10_bars_146 rfl ?_
              refine pw_iaload dX10_bars_148 (by assumption) (by omega) (by omega) (fun r148 => ?_)
              rw [q90] at r148 ⊢
              refine pw_iconst dX10_bars_149 ?_
              refine pw_icmp_eq 176 (by decide) dX10_bars_150 (by omega) (by omega) (fun c150 => ?_) (fun c150 => ?_)
              · skip
                exfalso; omega
              · skip
                refine pw_iload dX10_bars_153 rfl ?_
                refine pw_i2l dX10_bars_155 (by omega) ?_
                refine pw_lconst (x := 0) dX10_bars_156 (by decide) ?_
                refine pw_aload_n 0 rfl dX10_bars_157 rfl ?_
                refine pw_gR 6 91 dX10_bars_158 cOk10 (by assumption) (by decide) kw_1071 (by decide) rfl ?_
                refine pw_iload dX10_bars_161 rfl ?_
                refine pw_iaload dX10_bars_163 (by assumption) (by omega) (by omega) (fun r163 => ?_)
                rw [q91] at r163 ⊢
                refine pw_iconst dX10_bars_164 ?_
                refine pw_isub dX10_bars_165 ?_
                refine pw_i2l dX10_bars_166 (by omega) ?_
                refine pw_callS (d' := d - 1) (As := [_, _, _]) dX10_bars_167 ok_X10_in kw_1245 (by omega) rfl (Nat.le_of_ble_eq_true rfl) (r_in (d - 1) (by omega) n ok m1 to 0 (mem 91 (16 * c + mv / 2) - 1) (by omega) (by omega) (by omega)) (Nat.le_refl _) (Or.inl rfl) (fun r ok1 mem1 hq => ?_)
                obtain ⟨rfl, rfl, rfl⟩ := hq
                refine pw_if_ne 176 (by decide) dX10_bars_170 (by split <;> omega) (fun c170 => ?_) (fun c170 => ?_)
                · skip
                  have hg : 0 ≤ to ∧ to ≤ mem 91 (16 * c + mv / 2) - 1 := by revert c170; split <;> intro h <;> first | assumption | (exfalso; omega)
                  refine pw_aload_n 0 rfl dX10_bars_176 rfl ?_
                  refine pw_iload_n 1 rfl dX10_bars_177 rfl ?_
                  refine pw_iload_n 3 rfl dX10_bars_178 rfl ?_
                  refine pw_callV (d' := d - 1) (As := [_, _]) (ci := 10) dX10_bars_179 ok_X10_failing kw_1374 rfl rfl (Of.o (by assumption)) (by omega) rfl (Nat.le_of_ble_eq_true rfl) (r_failing (d - 1) (by omega) n ok m1 hU c (mv / 2) hc (by omega) (sOk_s hsm.s hs) (by rw [qA]; exact pOkv_s hsm.s hv) (by omega)) (Nat.le_refl _) (Or.inl rfl) (fun r ok1 m2 hq => ?_)
                  obtain ⟨z, rfl, rfl, em2⟩ := hq
                  rw [qA, fRes_s hsm.s] at em2 ⊢
                  refine pw_iret dX10_bars_182 rfl rfl ?_
                  have e2 : bRes mem c (aAt mem c) mv = ((fRes mem c (aAt mem c) (mv / 2)).1, (true, bBody (mem 90 (16 * c + mv / 2))) :: (fRes mem c (aAt mem c) (mv / 2)).2) := by unfold bRes; rw [if_neg (by omega), if_neg (fun z => z hbf), if_pos (by rw [← eto]; simp only [aKind, aSpan]; omega)]
                  exact ⟨z, by rw [e2], rfl, by rw [e2, eB, ← em2, ← em]; rfl⟩
                · skip
                  have hg : ¬ (0 ≤ to ∧ to ≤ mem 91 (16 * c + mv / 2) - 1) := by revert c170; split <;> intro h <;> first | assumption | (exfalso; omega)
                  refine pw_bipush dX10_bars_173 (by decide) ?_
                  refine pw_iret dX10_bars_175 rfl rfl ?_
                  have e2 : bRes mem c (aAt mem c) mv = (-3, [(true, bBody (mem 90 (16 * c + mv / 2)))]) := by unfold bRes; rw [if_neg (by omega), if_neg (fun z => z hbf), if_neg (by rw [← eto]; simp only [aKind, aSpan]; omega)]
                  exact ⟨m1 88 23, by rw [e2], rfl, by rw [e2, eB]; show wr (rWrites mem _) 88 23 _ = m1; rw [em]; exact wr_id _ _ _⟩
        · skip
          exfalso; omega
      · skip
        refine pw_aload_n 0 rfl dX10_bars_43 rfl ?_
        refine pw_gR 5 90 dX10_bars_44 cOk10 (by assumption) (by decide) kw_1070 (by decide) rfl ?_
        refine pw_iload dX10_bars_47 rfl ?_
        refine pw_iaload dX10_bars_49 (by assumption) (by omega) (by omega) (fun r49 => ?_)
        refine pw_iconst dX10_bars_50 ?_
        refine pw_icmp_eq 69 (by decide) dX10_bars_51 (by omega) (by omega) (fun c51 => ?_) (fun c51 => ?_)
        · skip
          refine pw_iload dX10_bars_69 rfl ?_
          refine pw_istore dX10_bars_71 (by decide) ?_
          refine pw_iload dX10_bars_73 rfl ?_
          refine pw_if_eq 84 (by decide) dX10_bars_75 (by omega) (fun c75 => ?_) (fun c75 => ?_)
          · skip
            have hbf : bFind mem c (mv / 2) = 0 := by unfold bFind; rw [if_neg (fun z => z c30), if_pos (by show mem 90 _ = 0 ∨ mem 90 _ = 1 ∨ mem 90 _ = 4; omega)]
            have hkn := aComes_kind c30
            have hpp : 1 ≤ mem 91 (16 * c + mv / 2) ∧ mem 91 (16 * c + mv / 2) ≤ 6 := hs.2.2 (mv / 2) (by omega) (by omega) hkn
            have hvv : 0 ≤ mem 92 (16 * c + mv / 2) ∧ mem 92 (16 * c + mv / 2) < mem 91 (16 * c + mv / 2) := hv (mv / 2) (by omega) (by omega) hkn
            refine pw_aload_n 0 rfl dX10_bars_84 rfl ?_
            refine pw_aload_n 0 rfl dX10_bars_85 rfl ?_
            refine pw_gR 5 90 dX10_bars_86 cOk10 (by assumption) (by decide) kw_1070 (by decide) rfl ?_
            refine pw_iload dX10_bars_89 rfl ?_
            refine pw_iaload dX10_bars_91 (by assumption) (by omega) (by omega) (fun r91 => ?_)
            refine pw_if_ne 100 (by decide) dX10_bars_92 (by omega) (fun c92 => ?_) (fun c92 => ?_)
            · skip
              refine pw_aload_n 0 rfl dX10_bars_100 rfl ?_
              refine pw_gR 5 90 dX10_bars_101 cOk10 (by assumption) (by decide) kw_1070 (by decide) rfl ?_
              refine pw_iload dX10_bars_104 rfl ?_
              refine pw_iaload dX10_bars_106 (by assumption) (by omega) (by omega) (fun r106 => ?_)
              refine pw_iconst dX10_bars_107 ?_
              refine pw_icmp_ne 116 (by decide) dX10_bars_108 (by omega) (by omega) (fun c108 => ?_) (fun c108 => ?_)
              · skip
                exfalso; omega
              · skip
                refine pw_bipush dX10_bars_111 (by decide) ?_
                refine pw_goto 118 (by decide) dX10_bars_113 ?_
                refine pw_callV (d' := d - 1) (As := [_]) (ci := 10) dX10_bars_118 ok_X10_writes kw_1386 rfl rfl (Of.o (by assumption)) (by omega) rfl (Nat.le_of_ble_eq_true rfl) (r_writes (d - 1) (by omega) n ok mem hU 12 (by omega) (by omega)) (Nat.le_refl _) (Or.inl rfl) (fun r ok1 m1 hq => ?_)
                obtain ⟨rfl, rfl, em⟩ := hq
                have hsm := nSame.w mem 12
                have q19 := rW_tr mem 12 ht.1
                rw [em] at hsm q19
                have q90 := hsm.s.kind
                have q91 := hsm.s.span
                have q92 : m1 92 = mem 92 := hsm.1 92 (by omega) (by omega)
                have qA : aAt m1 c = aAt mem c := by funext s; show m1 92 _ = mem 92 _; rw [q92]
                have eB : bBody (mem 90 (16 * c + mv / 2)) = 12 := by unfold bBody; (repeat' split) <;> omega
                refine pw_aload_n 0 rfl dX10_bars_121 rfl ?_
                refine pw_gR 7 92 dX10_bars_122 cOk10 (by assumption) (by decide) kw_1072 (by decide) rfl ?_
                refine pw_iload dX10_bars_125 rfl ?_
                refine pw_iaload dX10_bars_127 (by assumption) (by omega) (by omega) (fun r127 => ?_)
                rw [q92] at r127 ⊢
                refine pw_iload_n 2 rfl dX10_bars_128 rfl ?_
                refine pw_iconst dX10_bars_129 ?_
                refine pw_irem dX10_bars_130 (by omega) (by omega) ?_
                refine pw_if_ne 138 (by decide) dX10_bars_131 (by omega) (fun c131 => ?_) (fun c131 => ?_)
                · skip
                  refine pw_iconst dX10_bars_138 ?_
                  refine pw_iadd dX10_bars_139 ?_
                  obtain ⟨to, eto⟩ : ∃ to, to = bTo (aAt mem c) mv := ⟨_, rfl⟩
                  have e9 : mem 92 (16 * c + mv / 2) + 1 = to := by rw [eto]; unfold bTo; rw [if_neg c131]
                  rw [e9]
                  refine pw_istore dX10_bars_140 (by decide) ?_
                  refine pw_aload_n 0 rfl dX10_bars_142 rfl ?_
                  refine pw_gR 5 90 dX10_bars_143 cOk10 (by assumption) (by decide) kw_1070 (by decide) rfl ?_
                  refine pw_iload dX10_bars_146 rfl ?_
                  refine pw_iaload dX10_bars_148 (by assumption) (by omega) (by omega) (fun r148 => ?_)
                  rw [q90] at r148 ⊢
                  refine pw_iconst dX10_bars_149 ?_
                  refine pw_icmp_eq 176 (by decide) dX10_bars_150 (by omega) (by omega) (fun c150 => ?_) (fun c150 => ?_)
                  · skip
                    refine pw_aload_n 0 rfl dX10_bars_176 rfl ?_
                    refine pw_iload_n 1 rfl dX10_bars_177 rfl ?_
                    refine pw_iload_n 3 rfl dX10_bars_178 rfl ?_
                    refine pw_callV (d' := d - 1) (As := [_, _]) (ci := 10) dX10_bars_179 ok_X10_failing kw_1374 rfl rfl (Of.o (by assumption)) (by omega) rfl (Nat.le_of_ble_eq_true rfl) (r_failing (d - 1) (by omega) n ok m1 hU c (mv / 2) hc (by omega) (sOk_s hsm.s hs) (by rw [qA]; exact pOkv_s hsm.s hv) (by omega)) (Nat.le_refl _) (Or.inl rfl) (fun r ok1 m2 hq => ?_)
                    obtain ⟨z, rfl, rfl, em2⟩ := hq
                    rw [qA, fRes_s hsm.s] at em2 ⊢
                    refine pw_iret dX10_bars_182 rfl rfl ?_
                    have e2 : bRes mem c (aAt mem c) mv = ((fRes mem c (aAt mem c) (mv / 2)).1, (true, bBody (mem 90 (16 * c + mv / 2))) :: (fRes mem c (aAt mem c) (mv / 2)).2) := by unfold bRes; rw [if_neg (by omega), if_neg (fun z => z hbf), if_pos (by rw [← eto]; simp only [aKind, aSpan]; omega)]
                    exact ⟨z, by rw [e2], rfl, by rw [e2, eB, ← em2, ← em]; rfl⟩
                  · skip
                    exfalso; omega
                · skip
                  refine pw_iconst dX10_bars_134 ?_
                  refine pw_goto 139 (by decide) dX10_bars_135 ?_
                  refine pw_iadd dX10_bars_139 ?_
                  obtain ⟨to, eto⟩ : ∃ to, to = bTo (aAt mem c) mv := ⟨_, rfl⟩
                  have e9 : mem 92 (16 * c + mv / 2) + -1 = to := by rw [eto]; unfold bTo; rw [if_pos c131]
                  rw [e9]
                  refine pw_istore dX10_bars_140 (by decide) ?_
                  refine pw_aload_n 0 rfl dX10_bars_142 rfl ?_
                  refine pw_gR 5 90 dX10_bars_143 cOk10 (by assumption) (by decide) kw_1070 (by decide) rfl ?_
                  refine pw_iload dX10_bars_146 rfl ?_
                  refine pw_iaload dX10_bars_148 (by assumption) (by omega) (by omega) (fun r148 => ?_)
                  rw [q90] at r148 ⊢
                  refine pw_iconst dX10_bars_149 ?_
                  refine pw_icmp_eq 176 (by decide) dX10_bars_150 (by omega) (by omega) (fun c150 => ?_) (fun c150 => ?_)
                  · skip
                    refine pw_aload_n 0 rfl dX10_bars_176 rfl ?_
                    refine pw_iload_n 1 rfl dX10_bars_177 rfl ?_
                    refine pw_iload_n 3 rfl dX10_bars_178 rfl ?_
                    refine pw_callV (d' := d - 1) (As := [_, _]) (ci := 10) dX10_bars_179 ok_X10_failing kw_1374 rfl rfl (Of.o (by assumption)) (by omega) rfl (Nat.le_of_ble_eq_true rfl) (r_failing (d - 1) (by omega) n ok m1 hU c (mv / 2) hc (by omega) (sOk_s hsm.s hs) (by rw [qA]; exact pOkv_s hsm.s hv) (by omega)) (Nat.le_refl _) (Or.inl rfl) (fun r ok1 m2 hq => ?_)
                    obtain ⟨z, rfl, rfl, em2⟩ := hq
                    rw [qA, fRes_s hsm.s] at em2 ⊢
                    refine pw_iret dX10_bars_182 rfl rfl ?_
                    have e2 : bRes mem c (aAt mem c) mv = ((fRes mem c (aAt mem c) (mv / 2)).1, (true, bBody (mem 90 (16 * c + mv / 2))) :: (fRes mem c (aAt mem c) (mv / 2)).2) := by unfold bRes; rw [if_neg (by omega), if_neg (fun z => z hbf), if_pos (by rw [← eto]; simp only [aKind, aSpan]; omega)]
                    exact ⟨z, by rw [e2], rfl, by rw [e2, eB, ← em2, ← em]; rfl⟩
                  · skip
                    exfalso; omega
            · skip
              exfalso; omega
          · skip
            exfalso; omega
        · skip
          refine pw_aload_n 0 rfl dX10_bars_54 rfl ?_
          refine pw_gR 5 90 dX10_bars_55 cOk10 (by assumption) (by decide) kw_1070 (by decide) rfl ?_
          refine pw_iload dX10_bars_58 rfl ?_
          refine pw_iaload dX10_bars_60 (by assumption) (by omega) (by omega) (fun r60 => ?_)
          refine pw_iconst dX10_bars_61 ?_
          refine pw_icmp_eq 69 (by decide) dX10_bars_62 (by omega) (by omega) (fun c62 => ?_) (fun c62 => ?_)
          · skip
            refine pw_iload dX10_bars_69 rfl ?_
            refine pw_istore dX10_bars_71 (by decide) ?_
            refine pw_iload dX10_bars_73 rfl ?_
            refine pw_if_eq 84 (by decide) dX10_bars_75 (by omega) (fun c75 => ?_) (fun c75 => ?_)
            · skip
              have hbf : bFind mem c (mv / 2) = 0 := by unfold bFind; rw [if_neg (fun z => z c30), if_pos (by show mem 90 _ = 0 ∨ mem 90 _ = 1 ∨ mem 90 _ = 4; omega)]
              have hkn := aComes_kind c30
              have hpp : 1 ≤ mem 91 (16 * c + mv / 2) ∧ mem 91 (16 * c + mv / 2) ≤ 6 := hs.2.2 (mv / 2) (by omega) (by omega) hkn
              have hvv : 0 ≤ mem 92 (16 * c + mv / 2) ∧ mem 92 (16 * c + mv / 2) < mem 91 (16 * c + mv / 2) := hv (mv / 2) (by omega) (by omega) hkn
              refine pw_aload_n 0 rfl dX10_bars_84 rfl ?_
              refine pw_aload_n 0 rfl dX10_bars_85 rfl ?_
              refine pw_gR 5 90 dX10_bars_86 cOk10 (by assumption) (by decide) kw_1070 (by decide) rfl ?_
              refine pw_iload dX10_bars_89 rfl ?_
              refine pw_iaload dX10_bars_91 (by assumption) (by omega) (by omega) (fun r91 => ?_)
              refine pw_if_ne 100 (by decide) dX10_bars_92 (by omega) (fun c92 => ?_) (fun c92 => ?_)
              · skip
                refine pw_aload_n 0 rfl dX10_bars_100 rfl ?_
                refine pw_gR 5 90 dX10_bars_101 cOk10 (by assumption) (by decide) kw_1070 (by decide) rfl ?_
                refine pw_iload dX10_bars_104 rfl ?_
                refine pw_iaload dX10_bars_106 (by assumption) (by omega) (by omega) (fun r106 => ?_)
                refine pw_iconst dX10_bars_107 ?_
                refine pw_icmp_ne 116 (by decide) dX10_bars_108 (by omega) (by omega) (fun c108 => ?_) (fun c108 => ?_)
                · skip
                  refine pw_bipush dX10_bars_116 (by decide) ?_
                  refine pw_callV (d' := d - 1) (As := [_]) (ci := 10) dX10_bars_118 ok_X10_writes kw_1386 rfl rfl (Of.o (by assumption)) (by omega) rfl (Nat.le_of_ble_eq_true rfl) (r_writes (d - 1) (by omega) n ok mem hU 14 (by omega) (by omega)) (Nat.le_refl _) (Or.inl rfl) (fun r ok1 m1 hq => ?_)
                  obtain ⟨rfl, rfl, em⟩ := hq
                  have hsm := nSame.w mem 14
                  have q19 := rW_tr mem 14 ht.1
                  rw [em] at hsm q19
                  have q90 := hsm.s.kind
                  have q91 := hsm.s.span
                  have q92 : m1 92 = mem 92 := hsm.1 92 (by omega) (by omega)
                  have qA : aAt m1 c = aAt mem c := by funext s; show m1 92 _ = mem 92 _; rw [q92]
                  have eB : bBody (mem 90 (16 * c + mv / 2)) = 14 := by unfold bBody; (repeat' split) <;> omega
                  refine pw_aload_n 0 rfl dX10_bars_121 rfl ?_
                  refine pw_gR 7 92 dX10_bars_122 cOk10 (by assumption) (by decide) kw_1072 (by decide) rfl ?_
                  refine pw_iload dX10_bars_125 rfl ?_
                  refine pw_iaload dX10_bars_127 (by assumption) (by omega) (by omega) (fun r127 => ?_)
                  rw [q92] at r127 ⊢
                  refine pw_iload_n 2 rfl dX10_bars_128 rfl ?_
                  refine pw_iconst dX10_bars_129 ?_
                  refine pw_irem dX10_bars_130 (by omega) (by omega) ?_
                  refine pw_if_ne 138 (by decide) dX10_bars_131 (by omega) (fun c131 => ?_) (fun c131 => ?_)
                  · skip
                    refine pw_iconst dX10_bars_138 ?_
                    refine pw_iadd dX10_bars_139 ?_
                    obtain ⟨to, eto⟩ : ∃ to, to = bTo (aAt mem c) mv := ⟨_, rfl⟩
                    have e9 : mem 92 (16 * c + mv / 2) + 1 = to := by rw [eto]; unfold bTo; rw [if_neg c131]
                    rw [e9]
                    refine pw_istore dX10_bars_140 (by decide) ?_
                    refine pw_aload_n 0 rfl dX10_bars_142 rfl ?_
                    refine pw_gR 5 90 dX10_bars_143 cOk10 (by assumption) (by decide) kw_1070 (by decide) rfl ?_
                    refine pw_iload dX10_bars_146 rfl ?_
                    refine pw_iaload dX10_bars_148 (by assumption) (by omega) (by omega) (fun r148 => ?_)
                    rw [q90] at r148 ⊢
                    refine pw_iconst dX10_bars_149 ?_
                    refine pw_icmp_eq 176 (by decide) dX10_bars_150 (by omega) (by omega) (fun c150 => ?_) (fun c150 => ?_)
                    · skip
                      exfalso; omega
                    · skip
                      refine pw_iload dX10_bars_153 rfl ?_
                      refine pw_i2l dX10_bars_155 (by omega) ?_
                      refine pw_lconst (x := 0) dX10_bars_156 (by decide) ?_
                      refine pw_aload_n 0 rfl dX10_bars_157 rfl ?_
                      refine pw_gR 6 91 dX10_bars_158 cOk10 (by assumption) (by decide) kw_1071 (by decide) rfl ?_
                      refine pw_iload dX10_bars_161 rfl ?_
                      refine pw_iaload dX10_bars_163 (by assumption) (by omega) (by omega) (fun r163 => ?_)
                      rw [q91] at r163 ⊢
                      refine pw_iconst dX10_bars_164 ?_
                      refine pw_isub dX10_bars_165 ?_
                      refine pw_i2l dX10_bars_166 (by omega) ?_
                      refine pw_callS (d' := d - 1) (As := [_, _, _]) dX10_bars_167 ok_X10_in kw_1245 (by omega) rfl (Nat.le_of_ble_eq_true rfl) (r_in (d - 1) (by omega) n ok m1 to 0 (mem 91 (16 * c + mv / 2) - 1) (by omega) (by omega) (by omega)) (Nat.le_refl _) (Or.inl rfl) (fun r ok1 mem1 hq => ?_)
                      obtain ⟨rfl, rfl, rfl⟩ := hq
                      refine pw_if_ne 176 (by decide) dX10_bars_170 (by split <;> omega) (fun c170 => ?_) (fun c170 => ?_)
                      · skip
                        have hg : 0 ≤ to ∧ to ≤ mem 91 (16 * c + mv / 2) - 1 := by revert c170; split <;> intro h <;> first | assumption | (exfalso; omega)
                        refine pw_aload_n 0 rfl dX10_bars_176 rfl ?_
                        refine pw_iload_n 1 rfl dX10_bars_177 rfl ?_
                        refine pw_iload_n 3 rfl dX10_bars_178 rfl ?_
                        refine pw_callV (d' := d - 1) (As := [_, _]) (ci := 10) dX10_bars_179 ok_X10_failing kw_1374 rfl rfl (Of.o (by assumption)) (by omega) rfl (Nat.le_of_ble_eq_true rfl) (r_failing (d - 1) (by omega) n ok m1 hU c (mv / 2) hc (by omega) (sOk_s hsm.s hs) (by rw [qA]; exact pOkv_s hsm.s hv) (by omega)) (Nat.le_refl _) (Or.inl rfl) (fun r ok1 m2 hq => ?_)
                        obtain ⟨z, rfl, rfl, em2⟩ := hq
                        rw [qA, fRes_s hsm.s] at em2 ⊢
                        refine pw_iret dX10_bars_182 rfl rfl ?_
                        have e2 : bRes mem c (aAt mem c) mv = ((fRes mem c (aAt mem c) (mv / 2)).1, (true, bBody (mem 90 (16 * c + mv / 2))) :: (fRes mem c (aAt mem c) (mv / 2)).2) := by unfold bRes; rw [if_neg (by omega), if_neg (fun z => z hbf), if_pos (by rw [← eto]; simp only [aKind, aSpan]; omega)]
                        exact ⟨z, by rw [e2], rfl, by rw [e2, eB, ← em2, ← em]; rfl⟩
                      · skip
                        have hg : ¬ (0 ≤ to ∧ to ≤ mem 91 (16 * c + mv / 2) - 1) := by revert c170; split <;> intro h <;> first | assumption | (exfalso; omega)
                        refine pw_bipush dX10_bars_173 (by decide) ?_
                        refine pw_iret dX10_bars_175 rfl rfl ?_
                        have e2 : bRes mem c (aAt mem c) mv = (-3, [(true, bBody (mem 90 (16 * c + mv / 2)))]) := by unfold bRes; rw [if_neg (by omega), if_neg (fun z => z hbf), if_neg (by rw [← eto]; simp only [aKind, aSpan]; omega)]
                        exact ⟨m1 88 23, by rw [e2], rfl, by rw [e2, eB]; show wr (rWrites mem _) 88 23 _ = m1; rw [em]; exact wr_id _ _ _⟩
                  · skip
                    refine pw_iconst dX10_bars_134 ?_
                    refine pw_goto 139 (by decide) dX10_bars_135 ?_
                    refine pw_iadd dX10_bars_139 ?_
                    obtain ⟨to, eto⟩ : ∃ to, to = bTo (aAt mem c) mv := ⟨_, rfl⟩
                    have e9 : mem 92 (16 * c + mv / 2) + -1 = to := by rw [eto]; unfold bTo; rw [if_pos c131]
                    rw [e9]
                    refine pw_istore dX10_bars_140 (by decide) ?_
                    refine pw_aload_n 0 rfl dX10_bars_142 rfl ?_
                    refine pw_gR 5 90 dX10_bars_143 cOk10 (by assumption) (by decide) kw_1070 (by decide) rfl ?_
                    refine pw_iload dX10_bars_146 rfl ?_
                    refine pw_iaload dX10_bars_148 (by assumption) (by omega) (by omega) (fun r148 => ?_)
                    rw [q90] at r148 ⊢
                    refine pw_iconst dX10_bars_149 ?_
                    refine pw_icmp_eq 176 (by decide) dX10_bars_150 (by omega) (by omega) (fun c150 => ?_) (fun c150 => ?_)
                    · skip
                      exfalso; omega
                    · skip
                      refine pw_iload dX10_bars_153 rfl ?_
                      refine pw_i2l dX10_bars_155 (by omega) ?_
                      refine pw_lconst (x := 0) dX10_bars_156 (by decide) ?_
                      refine pw_aload_n 0 rfl dX10_bars_157 rfl ?_
                      refine pw_gR 6 91 dX10_bars_158 cOk10 (by assumption) (by decide) kw_1071 (by decide) rfl ?_
                      refine pw_iload dX10_bars_161 rfl ?_
                      refine pw_iaload dX10_bars_163 (by assumption) (by omega) (by omega) (fun r163 => ?_)
                      rw [q91] at r163 ⊢
                      refine pw_iconst dX10_bars_164 ?_
                      refine pw_isub dX10_bars_165 ?_
                      refine pw_i2l dX10_bars_166 (by omega) ?_
                      refine pw_callS (d' := d - 1) (As := [_, _, _]) dX10_bars_167 ok_X10_in kw_1245 (by omega) rfl (Nat.le_of_ble_eq_true rfl) (r_in (d - 1) (by omega) n ok m1 to 0 (mem 91 (16 * c + mv / 2) - 1) (by omega) (by omega) (by omega)) (Nat.le_refl _) (Or.inl rfl) (fun r ok1 mem1 hq => ?_)
                      obtain ⟨rfl, rfl, rfl⟩ := hq
                      refine pw_if_ne 176 (by decide) dX10_bars_170 (by split <;> omega) (fun c170 => ?_) (fun c170 => ?_)
                      · skip
                        have hg : 0 ≤ to ∧ to ≤ mem 91 (16 * c + mv / 2) - 1 := by revert c170; split <;> intro h <;> first | assumption | (exfalso; omega)
                        refine pw_aload_n 0 rfl dX10_bars_176 rfl ?_
                        refine pw_iload_n 1 rfl dX10_bars_177 rfl ?_
                        refine pw_iload_n 3 rfl dX10_bars_178 rfl ?_
                        refine pw_callV (d' := d - 1) (As := [_, _]) (ci := 10) dX10_bars_179 ok_X10_failing kw_1374 rfl rfl (Of.o (by assumption)) (by omega) rfl (Nat.le_of_ble_eq_true rfl) (r_failing (d - 1) (by omega) n ok m1 hU c (mv / 2) hc (by omega) (sOk_s hsm.s hs) (by rw [qA]; exact pOkv_s hsm.s hv) (by omega)) (Nat.le_refl _) (Or.inl rfl) (fun r ok1 m2 hq => ?_)
                        obtain ⟨z, rfl, rfl, em2⟩ := hq
                        rw [qA, fRes_s hsm.s] at em2 ⊢
                        refine pw_iret dX10_bars_182 rfl rfl ?_
                        have e2 : bRes mem c (aAt mem c) mv = ((fRes mem c (aAt mem c) (mv / 2)).1, (true, bBody (mem 90 (16 * c + mv / 2))) :: (fRes mem c (aAt mem c) (mv / 2)).2) := by unfold bRes; rw [if_neg (by omega), if_neg (fun z => z hbf), if_pos (by rw [← eto]; simp only [aKind, aSpan]; omega)]
                        exact ⟨z, by rw [e2], rfl, by rw [e2, eB, ← em2, ← em]; rfl⟩
                      · skip
                        have hg : ¬ (0 ≤ to ∧ to ≤ mem 91 (16 * c + mv / 2) - 1) := by revert c170; split <;> intro h <;> first | assumption | (exfalso; omega)
                        refine pw_bipush dX10_bars_173 (by decide) ?_
                        refine pw_iret dX10_bars_175 rfl rfl ?_
                        have e2 : bRes mem c (aAt mem c) mv = (-3, [(true, bBody (mem 90 (16 * c + mv / 2)))]) := by unfold bRes; rw [if_neg (by omega), if_neg (fun z => z hbf), if_neg (by rw [← eto]; simp only [aKind, aSpan]; omega)]
                        exact ⟨m1 88 23, by rw [e2], rfl, by rw [e2, eB]; show wr (rWrites mem _) 88 23 _ = m1; rw [em]; exact wr_id _ _ _⟩
                · skip
                  exfalso; omega
              · skip
                exfalso; omega
            · skip
              exfalso; omega
          · skip
            refine pw_iconst dX10_bars_65 ?_
            refine pw_goto 71 (by decide) dX10_bars_66 ?_
            refine pw_istore dX10_bars_71 (by decide) ?_
            refine pw_iload dX10_bars_73 rfl ?_
            refine pw_if_eq 84 (by decide) dX10_bars_75 (by omega) (fun c75 => ?_) (fun c75 => ?_)
            · skip
              exfalso; omega
            · skip
              refine pw_bipush dX10_bars_78 (by decide) ?_
              refine pw_iload dX10_bars_80 rfl ?_
              refine pw_isub dX10_bars_82 ?_
              refine pw_iret dX10_bars_83 rfl rfl ?_
              have e1 : bFind mem c (mv / 2) = 3 := by unfold bFind; rw [if_neg (fun z => z c30), if_neg (by show ¬ (mem 90 _ = 0 ∨ mem 90 _ = 1 ∨ mem 90 _ = 4); omega)]
              have e2 : bRes mem c (aAt mem c) mv = (-10 - 3, []) := by unfold bRes; rw [if_neg (by omega), e1, if_pos (by omega)]
              exact ⟨mem 88 23, by rw [e2], rfl, by rw [e2]; exact wr_id _ _ _⟩
  · skip
    refine pw_iconst dX10_bars_6 ?_
    refine pw_iret dX10_bars_7 rfl rfl ?_
    exact ⟨mem 88 23, by unfold bRes; rw [if_pos (by omega)], rfl, by unfold bRes; rw [if_pos (by omega)]; exact wr_id _ _ _⟩
