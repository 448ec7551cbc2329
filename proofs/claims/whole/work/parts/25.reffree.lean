/-! ===== free, stuck ===== -/
noncomputable def iRes (m : pM) (c : Int) (v : Int → Int) (mv : Int) : Int := if (bRes m c v mv).1 = -1 then 1 else 0
noncomputable def iEv (m : pM) (c : Int) (v : Int → Int) (mv : Int) : pEv := (bRes m c v mv).2 ++ (if (bRes m c v mv).1 < -10 then [(false, -10 - (bRes m c v mv).1)] else [])
theorem bRes_ran {m : pM} {c : Int} (v : Int → Int) (mv : Int) (h : 0 ≤ aNc m c ∧ aNc m c ≤ 40) : -13 ≤ (bRes m c v mv).1 ∧ (bRes m c v mv).1 ≤ 40 ∧ (bRes m c v mv).2.length ≤ 121 := by
  have h1 := bFind_ran m c (mv / 2)
  have h2 := fRes_ran (m := m) (c := c) v (mv / 2) h
  have h3 := fRes_len (m := m) (c := c) v (mv / 2) h
  unfold bRes
  split
  · exact ⟨by show -13 ≤ (-1 : Int); omega, by show (-1 : Int) ≤ 40; omega, Nat.zero_le _⟩
  · split
    · exact ⟨by show -13 ≤ -10 - bFind m c (mv / 2); omega, by show -10 - bFind m c (mv / 2) ≤ 40; omega, Nat.zero_le _⟩
    · split
      · exact ⟨by show -13 ≤ (fRes m c v (mv / 2)).1; omega, by show (fRes m c v (mv / 2)).1 ≤ 40; omega, by show (fRes m c v (mv / 2)).2.length + 1 ≤ 121; omega⟩
      · exact ⟨by show -13 ≤ (-3 : Int); omega, by show (-3 : Int) ≤ 40; omega, by show 1 ≤ 121; omega⟩
theorem iEv_len {m : pM} {c : Int} (v : Int → Int) (mv : Int) (h : 0 ≤ aNc m c ∧ aNc m c ≤ 40) : (iEv m c v mv).length ≤ 122 := by
  have h1 := bRes_ran (m := m) (c := c) v mv h
  unfold iEv
  rw [List.length_append]
  split
  · show _ + 1 ≤ 122; omega
  · show _ + 0 ≤ 122; omega
theorem bRes_s {m m1 : pM} (h : sSame m m1) (c : Int) (v : Int → Int) (mv : Int) : bRes m1 c v mv = bRes m c v mv := by
  have e1 : bFind m1 c (mv / 2) = bFind m c (mv / 2) := by unfold bFind aKind; rw [aComes_s h, h.kind]
  unfold bRes aKind aSpan
  rw [e1, fRes_s h, h.kind, h.span]
theorem iRes_s {m m1 : pM} (h : sSame m m1) (c : Int) (v : Int → Int) (mv : Int) : iRes m1 c v mv = iRes m c v mv := by unfold iRes; rw [bRes_s h]
theorem iEv_s {m m1 : pM} (h : sSame m m1) (c : Int) (v : Int → Int) (mv : Int) : iEv m1 c v mv = iEv m c v mv := by unfold iEv; rw [bRes_s h]
set_option maxHeartbeats 4000000 in
set_option maxRecDepth 100000 in
theorem r_isFree (d : Nat) (hd : 5 ≤ d) (n : Nat) (ok : pO) (mem : pM) (hU : RefUp n ok) (c mv : Int) (hc : 0 ≤ c ∧ c ≤ 2) (hm : 0 ≤ mv ∧ mv < 38) (hs : sOk mem c) (hv : pOkv mem c (aAt mem c)) (ht : 0 ≤ mem 88 19 ∧ mem 88 19 ≤ 800000000) : PM mi_X10_isFree d [vr 88, vi c, vi mv] n ok mem n (fun r ok' mem' => ∃ z : Int, r = some (vi (iRes mem c (aAt mem c) mv)) ∧ ok = ok' ∧ wr (rEv mem (iEv mem c (aAt mem c) mv)) 88 23 z = mem') := by
  obtain ⟨hO, ⟨a89, a90, a91, a92, a93, a94, a95, a96, a97, a98⟩, ⟨a99, a100, a101, a102, a103, a104, a105, a106, a107⟩, ⟨a108, a109, a110, a111, a112, a113, a114, a115, a116, a117, a118, a119⟩, a120, a121, a122⟩ := id hU
  refine PM.of (by decide) (by decide) (Nat.le_refl _) (Nat.le_of_ble_eq_true rfl) ?_
  refine pw_aload_n 0 rfl dX10_isFree_0 rfl ?_
  refine pw_iload_n 1 rfl dX10_isFree_1 rfl ?_
  refine pw_iload_n 2 rfl dX10_isFree_2 rfl ?_
  refine pw_callV (d' := d - 1) (As := [_, _]) (ci := 10) dX10_isFree_3 ok_X10_bars kw_1402 rfl rfl (Of.o (by assumption)) (by omega) rfl (Nat.le_of_ble_eq_true rfl) (r_bars (d - 1) (by omega) n ok mem hU c mv hc hm hs hv ht) (Nat.le_refl _) (Or.inl rfl) (fun r ok1 m1 hq => ?_)
  obtain ⟨z, rfl, rfl, em⟩ := hq
  have hbr := bRes_ran (m := mem) (c := c) (aAt mem c) mv hs.1
  refine pw_istore_n 3 rfl dX10_isFree_6 (by decide) ?_
  refine pw_iload_n 3 rfl dX10_isFree_7 rfl ?_
  refine pw_bipush dX10_isFree_8 (by decide) ?_
  refine pw_icmp_ge 21 (by decide) dX10_isFree_10 (by omega) (by omega) (fun c10 => ?_) (fun c10 => ?_)
  · skip
    have c10 : ¬ (bRes mem c (aAt mem c) mv).1 < -10 := by omega
    refine pw_iload_n 3 rfl dX10_isFree_21 rfl ?_
    refine pw_iconst dX10_isFree_22 ?_
    refine pw_icmp_ne 30 (by decide) dX10_isFree_23 (by omega) (by omega) (fun c23 => ?_) (fun c23 => ?_)
    · skip
      refine pw_iconst dX10_isFree_30 ?_
      refine pw_zret dX10_isFree_31 rfl (by omega) rfl ?_
      exact ⟨z, by unfold iRes; rw [if_neg c23], rfl, by unfold iEv; rw [if_neg c10, List.append_nil]; exact em⟩
    · skip
      refine pw_iconst dX10_isFree_26 ?_
      refine pw_goto 31 (by decide) dX10_isFree_27 ?_
      refine pw_zret dX10_isFree_31 rfl (by omega) rfl ?_
      exact ⟨z, by unfold iRes; rw [if_pos c23], rfl, by unfold iEv; rw [if_neg c10, List.append_nil]; exact em⟩
  · skip
    have c10 : (bRes mem c (aAt mem c) mv).1 < -10 := by omega
    refine pw_aload_n 0 rfl dX10_isFree_13 rfl ?_
    refine pw_bipush dX10_isFree_14 (by decide) ?_
    refine pw_iload_n 3 rfl dX10_isFree_16 rfl ?_
    refine pw_isub dX10_isFree_17 ?_
    refine pw_callV (d' := d - 1) (As := [_]) (ci := 10) dX10_isFree_18 ok_X10_notes kw_1257 rfl rfl (Of.o (by assumption)) (by omega) rfl (Nat.le_of_ble_eq_true rfl) (r_notes (d - 1) (by omega) n ok m1 hU (-10 - (bRes mem c (aAt mem c) mv).1) (by omega)) (Nat.le_refl _) (Or.inl rfl) (fun r ok1 m2 hq => ?_)
    obtain ⟨rfl, rfl, em3⟩ := hq
    have em2 : wr (rEv (rEv mem (bRes mem c (aAt mem c) mv).2) [(false, -10 - (bRes mem c (aAt mem c) mv).1)]) 88 23 z = m2 := by rw [← em3, ← em, rN_met]; rfl
    refine pw_iload_n 3 rfl dX10_isFree_21 rfl ?_
    refine pw_iconst dX10_isFree_22 ?_
    refine pw_icmp_ne 30 (by decide) dX10_isFree_23 (by omega) (by omega) (fun c23 => ?_) (fun c23 => ?_)
    · skip
      refine pw_iconst dX10_isFree_30 ?_
      refine pw_zret dX10_isFree_31 rfl (by omega) rfl ?_
      exact ⟨z, by unfold iRes; rw [if_neg c23], rfl, by unfold iEv; rw [if_pos c10, rEv_app]; exact em2⟩
    · skip
      refine pw_iconst dX10_isFree_26 ?_
      refine pw_goto 31 (by decide) dX10_isFree_27 ?_
      refine pw_zret dX10_isFree_31 rfl (by omega) rfl ?_
      exact ⟨z, by unfold iRes; rw [if_pos c23], rfl, by unfold iEv; rw [if_pos c10, rEv_app]; exact em2⟩
def aStuck (m : pM) (c mv : Int) : Int := if mv < 32 ∧ mv / 2 = m 100 c then (if m 99 c = 0 then 1 else 5) else 0
set_option maxHeartbeats 4000000 in
set_option maxRecDepth 100000 in
theorem r_stuck (d : Nat) (hd : 0 ≤ d) (n : Nat) (ok : pO) (mem : pM) (hU : RefUp n ok) (c mv : Int) (hc : 0 ≤ c ∧ c ≤ 2) (hm : 0 ≤ mv ∧ mv < 38) : PM mi_X10_stuck d [vr 88, vi c, vi mv] n ok mem n (fun r ok' mem' => r = some (vi (aStuck mem c mv)) ∧ ok = ok' ∧ mem = mem') := by
  obtain ⟨hO, ⟨a89, a90, a91, a92, a93, a94, a95, a96, a97, a98⟩, ⟨a99, a100, a101, a102, a103, a104, a105, a106, a107⟩, ⟨a108, a109, a110, a111, a112, a113, a114, a115, a116, a117, a118, a119⟩, a120, a121, a122⟩ := id hU
  refine PM.of (by decide) (by decide) (Nat.le_refl _) (Nat.le_of_ble_eq_true rfl) ?_
  refine pw_iload_n 2 rfl dX10_stuck_0 rfl ?_
  refine pw_bipush dX10_stuck_1 (by decide) ?_
  refine pw_icmp_ge 35 (by decide) dX10_stuck_3 (by omega) (by omega) (fun c3 => ?_) (fun c3 => ?_)
  · skip
    refine pw_iconst dX10_stuck_35 ?_
    refine pw_iret dX10_stuck_36 rfl rfl ?_
    refine ⟨congrArg (fun z => some (vi z)) (by unfold aStuck; (repeat' split) <;> omega), rfl, rfl⟩
  · skip
    refine pw_iload_n 2 rfl dX10_stuck_6 rfl ?_
    refine pw_iconst dX10_stuck_7 ?_
    refine pw_idiv dX10_stuck_8 (by omega) (by omega) ?_
    refine pw_aload_n 0 rfl dX10_stuck_9 rfl ?_
    refine pw_gR 15 100 dX10_stuck_10 cOk10 (by assumption) (by decide) kw_1080 (by decide) rfl ?_
    refine pw_iload_n 1 rfl dX10_stuck_13 rfl ?_
    refine pw_iaload dX10_stuck_14 (by assumption) (by omega) (by omega) (fun r14 => ?_)
    refine pw_icmp_ne 35 (by decide) dX10_stuck_15 (by omega) (by omega) (fun c15 => ?_) (fun c15 => ?_)
    · skip
      refine pw_iconst dX10_stuck_35 ?_
      refine pw_iret dX10_stuck_36 rfl rfl ?_
      refine ⟨congrArg (fun z => some (vi z)) (by unfold aStuck; (repeat' split) <;> omega), rfl, rfl⟩
    · skip
      refine pw_aload_n 0 rfl dX10_stuck_18 rfl ?_
      refine pw_gR 14 99 dX10_stuck_19 cOk10 (by assumption) (by decide) kw_1079 (by decide) rfl ?_
      refine pw_iload_n 1 rfl dX10_stuck_22 rfl ?_
      refine pw_iaload dX10_stuck_23 (by assumption) (by omega) (by omega) (fun r23 => ?_)
      refine pw_if_ne 31 (by decide) dX10_stuck_24 (by omega) (fun c24 => ?_) (fun c24 => ?_)
      · skip
        refine pw_iconst dX10_stuck_31 ?_
        refine pw_goto 36 (by decide) dX10_stuck_32 ?_
        refine pw_iret dX10_stuck_36 rfl rfl ?_
        refine ⟨congrArg (fun z => some (vi z)) (by unfold aStuck; (repeat' split) <;> omega), rfl, rfl⟩
      · skip
        refine pw_iconst dX10_stuck_27 ?_
        refine pw_goto 36 (by decide) dX10_stuck_28 ?_
        refine pw_iret dX10_stuck_36 rfl rfl ?_
        refine ⟨congrArg (fun z => some (vi z)) (by unfold aStuck; (repeat' split) <;> omega), rfl, rfl⟩
/-! ===== falling ===== -/
def vUp (v : Int → Int) (s x : Int) : Int → Int := fun j => if j = s then x else v j
def tBy (m : pM) (c t s : Int) : Int := if aKind m c s ≠ 2 ∧ aKind m c s ≠ 3 then 0 else if aSide m c s = t then 1 else if aSide m c s = iXor t 1 then -1 else 0
noncomputable def faGo (m : pM) (c s dy : Int) : Nat → (Int → Int) → (Int → Int) × pEv
  | 0, v => (v, [])
  | f + 1, v => if 0 ≤ v s + dy ∧ v s + dy ≤ aSpan m c s - 1 then (if (fRes m c v s).1 = -1 then ((faGo m c s dy f (vUp v s (v s + dy))).1, (fRes m c v s).2 ++ (faGo m c s dy f (vUp v s (v s + dy))).2) else (v, (fRes m c v s).2)) else (v, [])
noncomputable def tSt (m : pM) (c t s : Int) (v : Int → Int) : (Int → Int) × pEv :=
  if tBy m c t s = 0 then (v, []) else if aKind m c s = 3 then (if v s = aSpan m c s - 1 then (v, [(true, 15)]) else ((faGo m c s (tBy m c t s) 7 v).1, (true, 15) :: (true, 13) :: (faGo m c s (tBy m c t s) 7 v).2))
  else ((faGo m c s (tBy m c t s) 7 v).1, (true, 13) :: (faGo m c s (tBy m c t s) 7 v).2)
noncomputable def tGo (m : pM) (c t : Int) : Nat → (Int → Int) → (Int → Int) × pEv
  | 0, v => (v, [])
  | s + 1, v => ((tSt m c t s (tGo m c t s v).1).1, (tGo m c t s v).2 ++ (tSt m c t s (tGo m c t s v).1).2)
/-- memory that holds a chest's places v, all else as in m but for the notes -/
def vMem (m m1 : pM) (c : Int) (v : Int → Int) (ev : pEv) (z : Int) : Prop := (∀ a, a ≠ 92 → m1 a = wr (rEv m ev) 88 23 z a) ∧ (∀ s : Int, 0 ≤ s → s ≤ 15 → m1 92 (16 * c + s) = v s) ∧ ∀ j : Int, (j < 16 * c ∨ 16 * c + 16 ≤ j) → m1 92 j = m 92 j
