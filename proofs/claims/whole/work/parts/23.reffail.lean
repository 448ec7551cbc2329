/-! ===== failing, open ===== -/
def cEv (m : pM) (c : Int) (v : Int → Int) (k : Int) : pEv := evW (hEv m c k) ++ (if hMet m c v k = 0 then [] else [(false, hMet m c v k)])
def fGo (m : pM) (c : Int) (v : Int → Int) (seat : Int) : Nat → Int → Int × pEv
  | 0, _ => (-1, [])
  | f + 1, k => if aSeat m c k = seat then (if hIs m c v k = 1 then ((fGo m c v seat f (k + 1)).1, cEv m c v k ++ (fGo m c v seat f (k + 1)).2) else (k, cEv m c v k)) else fGo m c v seat f (k + 1)
theorem fGo_succ (m : pM) (c : Int) (v : Int → Int) (seat : Int) (f : Nat) (k : Int) : fGo m c v seat (f + 1) k = if aSeat m c k = seat then (if hIs m c v k = 1 then ((fGo m c v seat f (k + 1)).1, cEv m c v k ++ (fGo m c v seat f (k + 1)).2) else (k, cEv m c v k)) else fGo m c v seat f (k + 1) := rfl
def fRes (m : pM) (c : Int) (v : Int → Int) (seat : Int) : Int × pEv := fGo m c v seat (aNc m c).toNat 0
theorem cEv_s {m m1 : pM} (h : sSame m m1) (c : Int) (v : Int → Int) (k : Int) : cEv m1 c v k = cEv m c v k := by unfold cEv; rw [hEv_s h, hMet_s h]
theorem fGo_s {m m1 : pM} (h : sSame m m1) (c : Int) (v : Int → Int) (seat : Int) (f : Nat) (k : Int) : fGo m1 c v seat f k = fGo m c v seat f k := by
  induction f generalizing k with
  | zero => rfl
  | succ f ih =>
    unfold fGo aSeat
    rw [h.seat, hIs_s h, cEv_s h, ih]
theorem fRes_s {m m1 : pM} (h : sSame m m1) (c : Int) (v : Int → Int) (seat : Int) : fRes m1 c v seat = fRes m c v seat := by unfold fRes aNc; rw [h.nc, fGo_s h]
theorem cEv_len (m : pM) (c : Int) (v : Int → Int) (k : Int) : (cEv m c v k).length ≤ 3 := by
  have := hEv_len m c k
  unfold cEv evW
  rw [List.length_append, List.length_map]
  split
  · show (hEv m c k).length + 0 ≤ 3; omega
  · show (hEv m c k).length + 1 ≤ 3; omega
theorem fGo_ran (m : pM) (c : Int) (v : Int → Int) (seat : Int) (f : Nat) (k : Int) (hk : 0 ≤ k) : -1 ≤ (fGo m c v seat f k).1 ∧ (fGo m c v seat f k).1 < k + f ∧ (fGo m c v seat f k).2.length ≤ 3 * f := by
  induction f generalizing k with
  | zero => unfold fGo; exact ⟨Int.le_refl _, by show (-1 : Int) < k + 0; omega, Nat.zero_le _⟩
  | succ f ih =>
    have i := ih (k + 1) (by omega)
    have l := cEv_len m c v k
    unfold fGo
    split
    · split
      · refine ⟨i.1, by have := i.2.1; push_cast; omega, ?_⟩
        show (cEv m c v k ++ (fGo m c v seat f (k + 1)).2).length ≤ _
        rw [List.length_append]; have := i.2.2; omega
      · exact ⟨by show -1 ≤ k; omega, by show k < k + _; push_cast; omega, by show (cEv m c v k).length ≤ _; omega⟩
    · exact ⟨i.1, by have := i.2.1; push_cast; omega, by have := i.2.2; omega⟩
theorem fRes_ran {m : pM} {c : Int} (v : Int → Int) (seat : Int) (h : 0 ≤ aNc m c ∧ aNc m c ≤ 40) : -1 ≤ (fRes m c v seat).1 ∧ (fRes m c v seat).1 < aNc m c ∨ (fRes m c v seat).1 = -1 := by
  have := fGo_ran m c v seat (aNc m c).toNat 0 (by omega)
  unfold fRes
  omega
theorem fRes_len {m : pM} {c : Int} (v : Int → Int) (seat : Int) (h : 0 ≤ aNc m c ∧ aNc m c ≤ 40) : (fRes m c v seat).2.length ≤ 120 := by
  have := fGo_ran m c v seat (aNc m c).toNat 0 (by omega)
  unfold fRes
  omega
set_option maxHeartbeats 4000000 in
set_option maxRecDepth 100000 in
theorem r_failing (d : Nat) (hd : 3 ≤ d) (n : Nat) (ok : pO) (mem : pM) (hU : RefUp n ok) (c seat : Int) (hc : 0 ≤ c ∧ c ≤ 2) (hst : -1 ≤ seat ∧ seat ≤ 15) (hs : sOk mem c) (hv : pOkv mem c (aAt mem c)) (ht : 0 ≤ mem 88 19 ∧ mem 88 19 ≤ 900000000) : PM mi_X10_failing d [vr 88, vi c, vi seat] n ok mem n (fun r ok' mem' => ∃ z : Int, r = some (vi (fRes mem c (aAt mem c) seat).1) ∧ ok = ok' ∧ wr (rEv mem (fRes mem c (aAt mem c) seat).2) 88 23 z = mem') := by
  obtain ⟨hO, ⟨a89, a90, a91, a92, a93, a94, a95, a96, a97, a98⟩, ⟨a99, a100, a101, a102, a103, a104, a105, a106, a107⟩, ⟨a108, a109, a110, a111, a112, a113, a114, a115, a116, a117, a118, a119⟩, a120, a121, a122⟩ := id hU
  refine PM.of (by decide) (by decide) (Nat.le_refl _) (Nat.le_of_ble_eq_true rfl) ?_
  refine pw_iconst dX10_failing_0 ?_
  refine pw_istore_n 3 rfl dX10_failing_1 (by decide) ?_
  have lp2 : ∀ (kz : Nat) (i : Nat) (f : Nat) (ev : pEv) (z : Int) (m1 : pM), (f : Int) < (kz : Int) → (i + f = (aNc mem c).toNat) → (wr (rEv mem ev) 88 23 z = m1) → ((fRes mem c (aAt mem c) seat).1 = (fGo mem c (aAt mem c) seat f i).1) → ((fRes mem c (aAt mem c) seat).2 = ev ++ (fGo mem c (aAt mem c) seat f i).2) → (ev.length ≤ 3 * i) → PW mi_X10_failing d n n (fun r ok' mem' => ∃ z : Int, r = some (vi (fRes mem c (aAt mem c) seat).1) ∧ ok = ok' ∧ wr (rEv mem (fRes mem c (aAt mem c) seat).2) 88 23 z = mem') 2 [(0, vr 88), (1, vi c), (2, vi seat), (3, vi (i : Int))] [] n ok m1 := by
    intro kz
    induction kz with
    | zero =>
      intro i f ev z m1 hk hi e1 g1 g2 hl
      exact absurd hk (by omega)
    | succ kz ih =>
      intro i f ev z m1 hk hi e1 g1 g2 hl
      have hn : 0 ≤ mem 94 c ∧ mem 94 c ≤ 40 := hs.1
      have hi : i + f = (mem 94 c).toNat := hi
      have hsm : nSame mem m1 := by rw [← e1]; exact (nSame.e _ _).tr (nSame.m _ _)
      have q94 := hsm.s.nc
      have q95 := hsm.s.seat
      have q92 : m1 92 = mem 92 := hsm.1 92 (by omega) (by omega)
      have qA : aAt m1 c = aAt mem c := by funext s; show m1 92 _ = mem 92 _; rw [q92]
      have q19 : 0 ≤ m1 88 19 ∧ m1 88 19 ≤ mem 88 19 + 120 := by
        rw [← e1, wr_k _ _ _ _ (by omega)]
        have := rEv_tr mem ev ht.1
        omega
      refine pw_iload_n 3 rfl dX10_failing_2 rfl ?_
      refine pw_aload_n 0 rfl dX10_failing_3 rfl ?_
      refine pw_gR 9 94 dX10_failing_4 cOk10 (by assumption) (by decide) kw_1074 (by decide) rfl ?_
      refine pw_iload_n 1 rfl dX10_failing_7 rfl ?_
      refine pw_iaload dX10_failing_8 (by assumption) (by omega) (by omega) (fun r8 => ?_)
      try simp (disch := omega) only [wr_s, wr_a, wr_k] at r8 ⊢
      rw [q94] at r8 ⊢
      refine pw_icmp_ge 66 (by decide) dX10_failing_9 (by omega) (by omega) (fun c9 => ?_) (fun c9 => ?_)
      · skip
        refine pw_iconst dX10_failing_66 ?_
        refine pw_iret dX10_failing_67 rfl rfl ?_
        have ef : f = 0 := by omega
        subst ef
        exact ⟨z, by rw [g1]; rfl, rfl, by rw [g2]; show wr (rEv mem (ev ++ [])) 88 23 z = m1; rw [List.append_nil]; exact e1⟩
      · skip
        obtain ⟨f, rfl⟩ : ∃ f1, f = f1 + 1 := ⟨f - 1, by omega⟩
        have hcn := hs.2.1 (i : Int) (by omega) (by omega)
        refine pw_aload_n 0 rfl dX10_failing_12 rfl ?_
        refine pw_gR 10 95 dX10_failing_13 cOk10 (by assumption) (by decide) kw_1075 (by decide) rfl ?_
        refine pw_bipush dX10_failing_16 (by decide) ?_
        refine pw_iload_n 1 rfl dX10_failing_18 rfl ?_
        refine pw_imul dX10_failing_19 ?_
        refine pw_iload_n 3 rfl dX10_failing_20 rfl ?_
        refine pw_iadd dX10_failing_21 ?_
        refine pw_iaload dX10_failing_22 (by assumption) (by omega) (by omega) (fun r22 => ?_)
        try simp (disch := omega) only [wr_s, wr_a, wr_k] at r22 ⊢
        rw [q95] at r22 ⊢
        refine pw_iload_n 2 rfl dX10_failing_23 rfl ?_
        refine pw_icmp_eq 30 (by decide) dX10_failing_24 (by omega) (by omega) (fun c24 => ?_) (fun c24 => ?_)
        · skip
          have gF := fGo_succ mem c (aAt mem c) seat f (i : Int)
          rw [if_pos c24] at gF
          refine pw_aload_n 0 rfl dX10_failing_30 rfl ?_
          refine pw_iload_n 1 rfl dX10_failing_31 rfl ?_
          refine pw_iload_n 3 rfl dX10_failing_32 rfl ?_
          refine pw_callV (d' := d - 1) (As := [_, _]) (ci := 10) dX10_failing_33 ok_X10_holding kw_1378 rfl rfl (Of.o (by assumption)) (by omega) rfl (Nat.le_of_ble_eq_true rfl) (r_holding (d - 1) (by omega) n ok m1 hU c (i : Int) hc (by omega) (by show 0 ≤ m1 96 _ ∧ m1 96 _ ≤ 15; rw [hsm.s.look]; exact hcn.2.1) (by show -1 ≤ m1 97 _ ∧ m1 97 _ ≤ 6; rw [hsm.s.many]; exact hcn.2.2) ((sOk_s hsm.s hs).2.2) (by rw [qA]; exact pOkv_s hsm.s hv) (by omega)) (Nat.le_refl _) (Or.inl rfl) (fun r ok1 m3 hq => ?_)
          obtain ⟨rfl, rfl, em⟩ := hq
          rw [qA, hIs_s hsm.s]
          rw [qA, hEv_s hsm.s, hMet_s hsm.s, ← e1, rWr_met, wr_wr, ← rEv_W, ← rEv_app] at em
          have hmr := hMet_ran mem c (aAt mem c) (i : Int)
          have q23 : m3 88 23 = hMet mem c (aAt mem c) (i : Int) := by rw [← em, wr_s]
          have hel := hEv_len mem c (i : Int)
          have hevl : (evW (hEv mem c (i : Int))).length = (hEv mem c (i : Int)).length := by unfold evW; rw [List.length_map]
          refine pw_istore dX10_failing_36 (by decide) ?_
          refine pw_aload_n 0 rfl dX10_failing_38 rfl ?_
          refine pw_gI 23 23 rfl dX10_failing_39 cOk10 (by assumption) (by decide) kw_1088 (by decide) (fun r39 => ?_)
          try simp (disch := omega) only [wr_s, wr_a, wr_k] at r39 ⊢
          rw [q23] at r39 ⊢
          refine pw_if_eq 53 (by decide) dX10_failing_42 (by omega) (fun c42 => ?_) (fun c42 => ?_)
          · skip
            have eC : cEv mem c (aAt mem c) (i : Int) = evW (hEv mem c (i : Int)) := by unfold cEv; rw [if_pos c42, List.append_nil]
            obtain ⟨m2, em2⟩ : ∃ m2, m2 = m3 := ⟨_, rfl⟩
            have e2 : wr (rEv mem (ev ++ cEv mem c (aAt mem c) (i : Int))) 88 23 (hMet mem c (aAt mem c) (i : Int)) = m2 := by rw [eC, em2]; exact em
            rw [← em2]
            refine pw_iload dX10_failing_53 rfl ?_
            refine pw_if_ne 60 (by decide) dX10_failing_55 (by unfold hIs; split <;> omega) (fun c55 => ?_) (fun c55 => ?_)
            · skip
              have hone : hIs mem c (aAt mem c) (i : Int) = 1 := by revert c55; unfold hIs; split <;> omega
              rw [if_pos hone] at gF
              obtain ⟨ev2, y2, gg1, gg2, hl2, ee2⟩ : ∃ (ev2 : pEv) (y2 : Int), (fRes mem c (aAt mem c) seat).1 = (fGo mem c (aAt mem c) seat f ((i + 1 : Nat) : Int)).1 ∧ (fRes mem c (aAt mem c) seat).2 = ev2 ++ (fGo mem c (aAt mem c) seat f ((i + 1 : Nat) : Int)).2 ∧ ev2.length ≤ 3 * (i + 1) ∧ wr (rEv mem ev2) 88 23 y2 = m2 := ⟨ev ++ cEv mem c (aAt mem c) (i : Int), _, by rw [g1, gF]; rfl, by rw [g2, gF, List.append_assoc]; rfl, by have := cEv_len mem c (aAt mem c) (i : Int); rw [List.length_append]; omega, e2⟩
              have e2 := ee2
              refine pw_iinc dX10_failing_60 rfl (by decide) ?_
              refine pw_goto 2 (by decide) dX10_failing_63 ?_
              exact pw_locs _ rfl (ih (i + 1) f ev2 y2 m2 (by omega) (by omega) e2 gg1 gg2 hl2)
            · skip
              have hone : ¬ hIs mem c (aAt mem c) (i : Int) = 1 := by omega
              rw [if_neg hone] at gF
              refine pw_iload_n 3 rfl dX10_failing_58 rfl ?_
              refine pw_iret dX10_failing_59 rfl rfl ?_
              exact ⟨hMet mem c (aAt mem c) (i : Int), by rw [g1, gF], rfl, by rw [g2, gF]; exact e2⟩
          · skip
            refine pw_aload_n 0 rfl dX10_failing_45 rfl ?_
            refine pw_aload_n 0 rfl dX10_failing_46 rfl ?_
            refine pw_gI 23 23 rfl dX10_failing_47 cOk10 (by assumption) (by decide) kw_1088 (by decide) (fun r47 => ?_)
            try simp (disch := omega) only [wr_s, wr_a, wr_k] at r47 ⊢
            rw [q23] at r47 ⊢
            refine pw_callV (d' := d - 1) (As := [_]) (ci := 10) dX10_failing_50 ok_X10_notes kw_1257 rfl rfl (Of.o (by assumption)) (by omega) rfl (Nat.le_of_ble_eq_true rfl) (r_notes (d - 1) (by omega) n ok m3 hU (hMet mem c (aAt mem c) (i : Int)) (by omega)) (Nat.le_refl _) (Or.inl rfl) (fun r ok1 m2 hq => ?_)
            obtain ⟨rfl, rfl, em4⟩ := hq
            have eC : cEv mem c (aAt mem c) (i : Int) = evW (hEv mem c (i : Int)) ++ [(false, hMet mem c (aAt mem c) (i : Int))] := by unfold cEv; rw [if_neg c42]
            have e2 : wr (rEv mem (ev ++ cEv mem c (aAt mem c) (i : Int))) 88 23 (hMet mem c (aAt mem c) (i : Int)) = m2 := by
              rw [← em4, ← em, rN_met, eC, ← List.append_assoc, rEv_app mem (ev ++ evW (hEv mem c (i : Int)))]
              rfl
            refine pw_iload dX10_failing_53 rfl ?_
            refine pw_if_ne 60 (by decide) dX10_failing_55 (by unfold hIs; split <;> omega) (fun c55 => ?_) (fun c55 => ?_)
            · skip
              have hone : hIs mem c (aAt mem c) (i : Int) = 1 := by revert c55; unfold hIs; split <;> omega
              rw [if_pos hone] at gF
              obtain ⟨ev2, y2, gg1, gg2, hl2, ee2⟩ : ∃ (ev2 : pEv) (y2 : Int), (fRes mem c (aAt mem c) seat).1 = (fGo mem c (aAt mem c) seat f ((i + 1 : Nat) : Int)).1 ∧ (fRes mem c (aAt mem c) seat).2 = ev2 ++ (fGo mem c (aAt mem c) seat f ((i + 1 : Nat) : Int)).2 ∧ ev2.length ≤ 3 * (i + 1) ∧ wr (rEv mem ev2) 88 23 y2 = m2 := ⟨ev ++ cEv mem c (aAt mem c) (i : Int), _, by rw [g1, gF]; rfl, by rw [g2, gF, List.append_assoc]; rfl, by have := cEv_len mem c (aAt mem c) (i : Int); rw [List.length_append]; omega, e2⟩
              have e2 := ee2
              refine pw_iinc dX10_failing_60 rfl (by decide) ?_
              refine pw_goto 2 (by decide) dX10_failing_63 ?_
              exact pw_locs _ rfl (ih (i + 1) f ev2 y2 m2 (by omega) (by omega) e2 gg1 gg2 hl2)
            · skip
              have hone : ¬ hIs mem c (aAt mem c) (i : Int) = 1 := by omega
              rw [if_neg hone] at gF
              refine pw_iload_n 3 rfl dX10_failing_58 rfl ?_
              refine pw_iret dX10_failing_59 rfl rfl ?_
              exact ⟨hMet mem c (aAt mem c) (i : Int), by rw [g1, gF], rfl, by rw [g2, gF]; exact e2⟩
        · skip
          have gF := fGo_succ mem c (aAt mem c) seat f (i : Int)
          rw [if_neg c24] at gF
          obtain ⟨ev2, y2, m2, e2, gg1, gg2, hl2, em9⟩ : ∃ (ev2 : pEv) (y2 : Int) (m2 : pM), wr (rEv mem ev2) 88 23 y2 = m2 ∧ (fRes mem c (aAt mem c) seat).1 = (fGo mem c (aAt mem c) seat f ((i + 1 : Nat) : Int)).1 ∧ (fRes mem c (aAt mem c) seat).2 = ev2 ++ (fGo mem c (aAt mem c) seat f ((i + 1 : Nat) : Int)).2 ∧ ev2.length ≤ 3 * (i + 1) ∧ m2 = m1 := ⟨ev, z, m1, e1, by rw [g1, gF]; rfl, by rw [g2, gF]; rfl, by omega, rfl⟩
          rw [← em9]
          refine pw_goto 60 (by decide) dX10_failing_27 ?_
          refine pw_iinc dX10_failing_60 rfl (by decide) ?_
          refine pw_goto 2 (by decide) dX10_failing_63 ?_
          exact pw_locs _ rfl (ih (i + 1) f ev2 y2 m2 (by omega) (by omega) e2 gg1 gg2 hl2)
  exact pw_locs _ rfl (lp2 ((aNc mem c).toNat + 1) 0 (aNc mem c).toNat [] (mem 88 23) mem (by omega) (by omega) (wr_id _ _ _) rfl rfl (Nat.le_refl _))
